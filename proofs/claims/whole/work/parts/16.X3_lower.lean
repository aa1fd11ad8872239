abbrev eX3_lower : List (Nat × Instr × Nat) := [(0, .aload_n 0, 1), (1, .iload_n 1, 1), (2, .invokevirtual 54, 3), (5, .istore_n 2, 1), (6, .iload_n 2, 1), (7, .iconst 1, 1), (8, .if_icmp .le 12, 3), (11, .aload_n 0, 1), (12, .getfield 19, 3), (15, .iload_n 2, 1), (16, .idiv, 1), (17, .goto 7, 3), (20, .aload_n 0, 1), (21, .getfield 19, 3), (24, .ireturn, 1)]
theorem DX3_lower : (eX3_lower.all fun q => decide (decode cX3_lower q.1 = .ok q.2)) = true := by decide +kernel
def jX3_lower_24 (S : List Sh) (mm : Mm) (x0 : Nat) (p0 : Int32) : Option (Int32) := some p0
def fX3_lower (S : List Sh) (mm : Mm) (x0 : Nat) (x1 : Int32) : Option (Int32) := gd S x0 3 (bd1 (fX3_common S mm x0 x1) fun a1 => if a1 ≤ 1 then (jX3_lower_24 S mm x0 (mm.1 x0 2)) else (bd1 (dvI (mm.1 x0 2) a1) fun a2 => jX3_lower_24 S mm x0 a2))
set_option maxHeartbeats 1000000 in
theorem tX3_lower_24 {G : Gt} {l : Launch} {E : Ev} {S : List Sh} {mm : Mm} {x0 : Nat} {p0 : Int32} {r : Int32} (C : Cx G E cX3_lower 3 RX3 (some .int) 2 54) (g0 : isC S x0 3) (h : jX3_lower_24 S mm x0 p0 = some r) (hQ : RQ G E S (some (.int r)) mm) : WM G l E S 24 [(0, .ref (E.2.2 x0))] [.int p0] mm := by
  unfold jX3_lower_24 at h
  cases h
  exact x_iret C (dq DX3_lower 14 rfl) hQ
set_option maxHeartbeats 1000000 in
theorem mX3_lower {l : Launch} {E : Ev} {S : List Sh} {mm : Mm} {x0 : Nat} {x1 : Int32} {r : Int32} (h : fX3_lower S mm x0 x1 = some r) : Ml l E S yX3_lower cX3_lower 3 (some .int) 2 54 [.ref (E.2.2 x0), .int x1] mm (some (.int r)) mm := by
  refine Ml.of (by decide +kernel) (Nat.le_of_ble_eq_true rfl) (fun G C hQ => ?_)
  have C : Cx G E cX3_lower 3 RX3 (some .int) 2 54 := C
  unfold fX3_lower at h
  obtain ⟨g0, h⟩ := gd_some h
  show WM G l E S 0 [(0, .ref (E.2.2 x0)), (1, .int x1)] [] mm
  refine x_aload_n C (dq DX3_lower 0 rfl) rfl 0 rfl ?_
  refine x_iload_n C (dq DX3_lower 1 rfl) rfl 1 rfl ?_
  refine callX3_54 C (dq DX3_lower 2 rfl) h (by decide) (by decide) (Nat.le_of_ble_eq_true rfl) (fun a1 h => ?_)
  refine x_istore_n (lv' := [(2, .int a1), (0, .ref (E.2.2 x0)), (1, .int x1)]) C (dq DX3_lower 3 rfl) rfl (by decide) rfl ?_
  refine x_pc 6 rfl ?_
  refine x_iload_n C (dq DX3_lower 4 rfl) rfl 0 rfl ?_
  refine x_iconst (v := 1) C (dq DX3_lower 5 rfl) (by decide) ?_
  refine x_icmp_le (tgt := 20) C (dq DX3_lower 6 rfl) (by decide) h (fun h => ?_) (fun h => ?_)
  · refine x_aload_n C (dq DX3_lower 12 rfl) rfl 1 rfl ?_
    refine getX3_19 C (dq DX3_lower 13 rfl) g0 ?_
    exact x_lv [1] rfl (tX3_lower_24 C g0 h hQ)
  · refine x_aload_n C (dq DX3_lower 7 rfl) rfl 1 rfl ?_
    refine getX3_19 C (dq DX3_lower 8 rfl) g0 ?_
    refine x_pc 15 rfl ?_
    refine x_iload_n C (dq DX3_lower 9 rfl) rfl 0 rfl ?_
    refine x_idiv C (dq DX3_lower 10 rfl) h (fun a2 h => ?_)
    refine x_goto (tgt := 24) C (dq DX3_lower 11 rfl) (by decide) ?_
    exact x_lv [1] rfl (tX3_lower_24 C g0 h hQ)
set_option maxHeartbeats 1000000 in
theorem qX3_lower {S : List Sh} {mm : Mm} {x0 : Nat} {x1 : Int32} {r : Int32} (h : fX3_lower S mm x0 x1 = some r) : isC S x0 3 := by
  unfold fX3_lower at h
  exact (gd_some h).1
