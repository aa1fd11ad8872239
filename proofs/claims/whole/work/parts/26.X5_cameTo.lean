theorem callX5_53 {G : Gt} {l : Launch} {E : Ev} {S : List Sh} {cc : ByteArray} {nL : Nat} {rt : Option FieldType} {fr lo : Nat} {pc : Nat} {lv : List (Nat × Value)} {rest : List Value} {mm : Mm} {α : Type} {f : Int32 → Option α} {r : α} {a0 : Nat} {a1 : Int32} {a2 : Int32} (C : Cx G E cc nL RX5 rt fr lo) (d : decode cc pc = .ok (.invokestatic 53, 3)) (h : bd1 (fX7_sum S mm a0 a1 a2) f = some r) (hfr : 1 ≤ fr) (hlo : 24 ≤ lo) (hrs : (rest.map fun v => v.category).sum ≤ 8) (k : ∀ v, f v = some r → WM G l E S (pc + 3) lv (.int v :: rest) mm) : WM G l E S pc lv (.int a2 :: .int a1 :: .ref (E.2.2 a0) :: rest) mm := by
  obtain ⟨v, hv, hf⟩ := bd1_some h
  exact x_callSN (host := "LosslessFabric") (n := 3) (As := [.ref (E.2.2 a0), .int a1, .int a2]) (rest := rest) C (mX7_sum hv) (nmem 696 (by decide +kernel) rfl) (gmem 674 (by decide +kernel) rfl) (gmem 1 (by decide +kernel) rfl) (gmem 675 (by decide +kernel) rfl) (by decide +kernel) rfl hfr hlo hrs d rfl rfl (k v hf)
abbrev eX5_cameTo : List (Nat × Instr × Nat) := [(0, .aload_n 0, 1), (1, .getfield 9, 3), (4, .iload_n 2, 1), (5, .bipush 8, 2), (7, .imul, 1), (8, .aload_n 1, 1), (9, .getfield 21, 3), (12, .invokestatic 53, 3), (15, .ireturn, 1)]
theorem DX5_cameTo : (eX5_cameTo.all fun q => decide (decode cX5_cameTo q.1 = .ok q.2)) = true := by decide +kernel
def fX5_cameTo (S : List Sh) (mm : Mm) (x0 : Nat) (x1 : Nat) (x2 : Int32) : Option (Int32) := gd S x0 5 (gd S x1 1 (bd1 (fX7_sum S mm (rf S mm x0 0) (x2 * 8) (mm.1 x1 10)) fun a1 => some a1))
set_option maxHeartbeats 1000000 in
theorem mX5_cameTo {l : Launch} {E : Ev} {S : List Sh} {mm : Mm} {x0 : Nat} {x1 : Nat} {x2 : Int32} {r : Int32} (h : fX5_cameTo S mm x0 x1 x2 = some r) : Ml l E S yX5_cameTo cX5_cameTo 3 (some .int) 1 24 [.ref (E.2.2 x0), .ref (E.2.2 x1), .int x2] mm (some (.int r)) mm := by
  refine Ml.of (by decide +kernel) (Nat.le_of_ble_eq_true rfl) (fun G C hQ => ?_)
  have C : Cx G E cX5_cameTo 3 RX5 (some .int) 1 24 := C
  unfold fX5_cameTo at h
  obtain ⟨g0, h⟩ := gd_some h
  obtain ⟨g1, h⟩ := gd_some h
  show WM G l E S 0 [(0, .ref (E.2.2 x0)), (1, .ref (E.2.2 x1)), (2, .int x2)] [] mm
  refine x_aload_n C (dq DX5_cameTo 0 rfl) rfl 0 rfl ?_
  refine getX5_9 C (dq DX5_cameTo 1 rfl) g0 ?_
  refine x_iload_n C (dq DX5_cameTo 2 rfl) rfl 2 rfl ?_
  refine x_bipush (v := 8) C (dq DX5_cameTo 3 rfl) (by decide) ?_
  refine x_pc 7 rfl ?_
  refine x_imul C (dq DX5_cameTo 4 rfl) ?_
  refine x_aload_n C (dq DX5_cameTo 5 rfl) rfl 1 rfl ?_
  refine getX5_21 C (dq DX5_cameTo 6 rfl) g1 ?_
  refine callX5_53 C (dq DX5_cameTo 7 rfl) h (by decide) (by decide) (Nat.le_of_ble_eq_true rfl) (fun a1 h => ?_)
  cases h
  exact x_iret C (dq DX5_cameTo 8 rfl) hQ
set_option maxHeartbeats 1000000 in
theorem qX5_cameTo {S : List Sh} {mm : Mm} {x0 : Nat} {x1 : Nat} {x2 : Int32} {r : Int32} (h : fX5_cameTo S mm x0 x1 x2 = some r) : isC S x0 5 := by
  unfold fX5_cameTo at h
  exact (gd_some h).1
