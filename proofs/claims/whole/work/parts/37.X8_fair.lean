theorem callX8_375 {G : Gt} {l : Launch} {E : Ev} {S : List Sh} {cc : ByteArray} {nL : Nat} {rt : Option FieldType} {fr lo : Nat} {pc : Nat} {lv : List (Nat × Value)} {rest : List Value} {mm : Mm} {α : Type} {f : Mm → Option α} {r : α} {o : Nat} (C : Cx G E cc nL RX8 rt fr lo) (d : decode cc pc = .ok (.invokevirtual 375, 3)) (h : bd1 (fX8_laysFair S mm o) f = some r) (hfr : 5 ≤ fr) (hlo : 133 ≤ lo) (hrs : (rest.map fun v => v.category).sum ≤ 8) (k : ∀ m1, f m1 = some r → WM G l E S (pc + 3) lv rest m1) : WM G l E S pc lv (.ref (E.2.2 o) :: rest) mm := by
  obtain ⟨m1, hv, hf⟩ := bd1_some h
  exact x_callV (n := 0) (As := []) (rest := rest) C (mX8_laysFair hv) (qX8_laysFair hv) (T := TX8) (N := 49) rfl (gmem 1372 (by decide +kernel) rfl) (gmem 1374 (by decide +kernel) rfl) (gmemS 90 (by decide +kernel) rfl) (gmem 9 (by decide +kernel) rfl) (gmem 1375 (by decide +kernel) rfl) (by decide +kernel) rfl hfr hlo hrs d rfl rfl (k m1 hf)
abbrev eX8_fair : List (Nat × Instr × Nat) := [(0, .aload_n 0, 1), (1, .iconst 0, 1), (2, .putfield 115, 3), (5, .aload_n 0, 1), (6, .iload_n 1, 1), (7, .invokevirtual 316, 3), (10, .ifCond .ne 7, 3), (13, .ldc2_w 373, 3), (16, .lreturn, 1), (17, .aload_n 0, 1), (18, .invokevirtual 375, 3), (21, .iload_n 2, 1), (22, .ifCond .eq 12, 3), (25, .aload_n 0, 1), (26, .getfield 100, 3), (29, .iload_n 1, 1), (30, .laload, 1), (31, .goto 9, 3), (34, .aload_n 0, 1), (35, .getfield 96, 3), (38, .iload_n 1, 1), (39, .laload, 1), (40, .lreturn, 1)]
theorem DX8_fair : (eX8_fair.all fun q => decide (decode cX8_fair q.1 = .ok q.2)) = true := by decide +kernel
def jX8_fair_40 (S : List Sh) (mm : Mm) (x0 : Nat) (p0 : Int64) : Option (Int64 × Mm) := some (p0, mm)
def fX8_fair (S : List Sh) (mm : Mm) (x0 : Nat) (x1 : Int32) (x2 : Int32) : Option (Int64 × Mm) := gd S x0 8 (bd1 (some (u1 mm x0 0 0)) fun m1 => bd1 (fX8_isFlow S m1 x0 x1) fun a2 => if ¬ a2 = 0 then (bd1 (fX8_laysFair S m1 x0) fun m3 => if x2 = 0 then (bd1 (ldL S m3 (rf S m3 x0 43) x1) fun a4 => jX8_fair_40 S m3 x0 a4) else (bd1 (ldL S m3 (rf S m3 x0 44) x1) fun a5 => jX8_fair_40 S m3 x0 a5)) else (some ((-1), m1)))
set_option maxHeartbeats 1000000 in
theorem tX8_fair_40 {G : Gt} {l : Launch} {E : Ev} {S : List Sh} {mm : Mm} {x0 : Nat} {p0 : Int64} {r : Int64 × Mm} (C : Cx G E cX8_fair 3 RX8 (some .long) 5 133) (g0 : isC S x0 8) (h : jX8_fair_40 S mm x0 p0 = some r) (hQ : RQ G E S (some (.long r.1)) r.2) : WM G l E S 40 [(0, .ref (E.2.2 x0))] [.long p0] mm := by
  unfold jX8_fair_40 at h
  cases h
  exact x_lret C (dq DX8_fair 22 rfl) hQ
set_option maxHeartbeats 1000000 in
theorem mX8_fair {l : Launch} {E : Ev} {S : List Sh} {mm : Mm} {x0 : Nat} {x1 : Int32} {x2 : Int32} {r : Int64 × Mm} (h : fX8_fair S mm x0 x1 x2 = some r) : Ml l E S yX8_fair cX8_fair 3 (some .long) 5 133 [.ref (E.2.2 x0), .int x1, .int x2] mm (some (.long r.1)) r.2 := by
  refine Ml.of (by decide +kernel) (Nat.le_of_ble_eq_true rfl) (fun G C hQ => ?_)
  have C : Cx G E cX8_fair 3 RX8 (some .long) 5 133 := C
  unfold fX8_fair at h
  obtain ⟨g0, h⟩ := gd_some h
  show WM G l E S 0 [(0, .ref (E.2.2 x0)), (1, .int x1), (2, .int x2)] [] mm
  refine x_aload_n C (dq DX8_fair 0 rfl) rfl 0 rfl ?_
  refine x_iconst (v := 0) C (dq DX8_fair 1 rfl) (by decide) ?_
  refine putX8_115 C (dq DX8_fair 2 rfl) g0 h (fun m1 h => ?_)
  refine x_aload_n C (dq DX8_fair 3 rfl) rfl 0 rfl ?_
  refine x_pc 6 rfl ?_
  refine x_iload_n C (dq DX8_fair 4 rfl) rfl 1 rfl ?_
  refine callX8_316 C (dq DX8_fair 5 rfl) h (by decide) (by decide) (Nat.le_of_ble_eq_true rfl) (fun a2 h => ?_)
  refine x_if_ne (tgt := 17) C (dq DX8_fair 6 rfl) (by decide) h (fun h => ?_) (fun h => ?_)
  · refine x_aload_n C (dq DX8_fair 9 rfl) rfl 0 rfl ?_
    refine callX8_375 C (dq DX8_fair 10 rfl) h (by decide) (by decide) (Nat.le_of_ble_eq_true rfl) (fun m3 h => ?_)
    refine x_pc 21 rfl ?_
    refine x_iload_n C (dq DX8_fair 11 rfl) rfl 2 rfl ?_
    refine x_if_eq (tgt := 34) C (dq DX8_fair 12 rfl) (by decide) h (fun h => ?_) (fun h => ?_)
    · refine x_aload_n C (dq DX8_fair 18 rfl) rfl 0 rfl ?_
      refine getX8_96 C (dq DX8_fair 19 rfl) g0 ?_
      refine x_iload_n C (dq DX8_fair 20 rfl) rfl 1 rfl ?_
      refine x_pc 39 rfl ?_
      refine x_lald C (dq DX8_fair 21 rfl) h (fun a4 h => ?_)
      exact x_lv [0] rfl (tX8_fair_40 C g0 h hQ)
    · refine x_aload_n C (dq DX8_fair 13 rfl) rfl 0 rfl ?_
      refine getX8_100 C (dq DX8_fair 14 rfl) g0 ?_
      refine x_iload_n C (dq DX8_fair 15 rfl) rfl 1 rfl ?_
      refine x_pc 30 rfl ?_
      refine x_lald C (dq DX8_fair 16 rfl) h (fun a5 h => ?_)
      refine x_goto (tgt := 40) C (dq DX8_fair 17 rfl) (by decide) ?_
      exact x_lv [0] rfl (tX8_fair_40 C g0 h hQ)
  · refine x_ldc2_w (v := (-1)) C (dq DX8_fair 7 rfl) (gmem 1371 (by decide +kernel) rfl) ?_
    cases h
    exact x_lret C (dq DX8_fair 8 rfl) hQ
set_option maxHeartbeats 1000000 in
theorem qX8_fair {S : List Sh} {mm : Mm} {x0 : Nat} {x1 : Int32} {x2 : Int32} {r : Int64 × Mm} (h : fX8_fair S mm x0 x1 x2 = some r) : isC S x0 8 := by
  unfold fX8_fair at h
  exact (gd_some h).1
abbrev eX8_full : List (Nat × Instr × Nat) := [(0, .aload_n 0, 1), (1, .iconst 0, 1), (2, .putfield 115, 3), (5, .aload_n 0, 1), (6, .invokevirtual 375, 3), (9, .iconst 0, 1), (10, .istore_n 1, 1), (11, .iconst 0, 1), (12, .istore_n 2, 1), (13, .iload_n 2, 1), (14, .aload_n 0, 1), (15, .invokevirtual 248, 3), (18, .if_icmp .ge 30, 3), (21, .aload_n 0, 1), (22, .iload_n 2, 1), (23, .invokevirtual 367, 3), (26, .pop, 1), (27, .aload_n 0, 1), (28, .getfield 356, 3), (31, .lconst 0, 1), (32, .lcmp, 1), (33, .ifCond .ne 9, 3), (36, .iload_n 1, 1), (37, .iconst 1, 1), (38, .iload_n 2, 1), (39, .ishl, 1), (40, .ior, 1), (41, .istore_n 1, 1), (42, .iinc 2 1, 3), (45, .goto (-32), 3), (48, .iload_n 1, 1), (49, .ireturn, 1)]
theorem DX8_full : (eX8_full.all fun q => decide (decode cX8_full q.1 = .ok q.2)) = true := by decide +kernel
def jX8_full_42 (S : List Sh) (mm : Mm) (x0 : Nat) (x1 : Int32) (x2 : Int32)  : Option ((Int32 × Int32 × Mm) ⊕ (Int32 × Mm)) := some (.inl (x1, x2 + 1, mm))
def bX8_full_13 (S : List Sh) (x0 : Nat) (x1 : Int32) (x2 : Int32) (mm : Mm) : Option ((Int32 × Int32 × Mm) ⊕ (Int32 × Mm)) := bd1 (fX8_links S mm x0) fun a3 => if a3 ≤ x2 then (some (.inr (x1, mm))) else (bd2 (fX8_leftOf S mm x0 x2) fun a4 m5 => if ¬ (lg_cmp (m5.2 x0 46) 0) = 0 then (jX8_full_42 S m5 x0 x1 x2) else (jX8_full_42 S m5 x0 (x1 ||| (1 <<< (x2 &&& 31))) x2))
def fX8_full (S : List Sh) (mm : Mm) (x0 : Nat) : Option (Int32 × Mm) := gd S x0 8 (bd1 (some (u1 mm x0 0 0)) fun m1 => bd1 (fX8_laysFair S m1 x0) fun m2 => bd1 (lp (fun s6 => bX8_full_13 S x0 s6.1 s6.2.1 s6.2.2) fu (0, 0, m2)) fun y7 => some (y7.1, y7.2))
set_option maxHeartbeats 1000000 in
theorem tX8_full_42 {G : Gt} {l : Launch} {E : Ev} {S : List Sh} {mm : Mm} {x0 : Nat} {x1 : Int32} {x2 : Int32}  {r : (Int32 × Int32 × Mm) ⊕ (Int32 × Mm)} (C : Cx G E cX8_full 3 RX8 (some .int) 5 133) (g0 : isC S x0 8) (h : jX8_full_42 S mm x0 x1 x2 = some r) (kb : ∀ z : Int32 × Int32 × Mm, r = .inl z → WM G l E S 13 [(0, .ref (E.2.2 x0)), (1, .int z.1), (2, .int z.2.1)] [] z.2.2) (kx : ∀ z : Int32 × Mm, r = .inr z → WM G l E S 48 [(0, .ref (E.2.2 x0)), (1, .int z.1)] [] z.2) : WM G l E S 42 [(0, .ref (E.2.2 x0)), (1, .int x1), (2, .int x2)] [] mm := by
  unfold jX8_full_42 at h
  refine x_iinc (v := x2 + 1) (lv' := [(2, .int (x2 + 1)), (0, .ref (E.2.2 x0)), (1, .int x1)]) C (dq DX8_full 28 rfl) 2 rfl rfl (by decide) rfl ?_
  refine x_goto (tgt := 13) C (dq DX8_full 29 rfl) (by decide) ?_
  cases h
  exact x_lv [1, 2, 0] rfl (kb (x1, x2 + 1, mm) rfl)
set_option maxHeartbeats 1000000 in
theorem tX8_full_13 {G : Gt} {l : Launch} {E : Ev} {S : List Sh} {x0 : Nat} {x1 : Int32} {x2 : Int32} {mm : Mm} {r : (Int32 × Int32 × Mm) ⊕ (Int32 × Mm)} (C : Cx G E cX8_full 3 RX8 (some .int) 5 133) (g0 : isC S x0 8) (h : bX8_full_13 S x0 x1 x2 mm = some r) (kb : ∀ z : Int32 × Int32 × Mm, r = .inl z → WM G l E S 13 [(0, .ref (E.2.2 x0)), (1, .int z.1), (2, .int z.2.1)] [] z.2.2) (kx : ∀ z : Int32 × Mm, r = .inr z → WM G l E S 48 [(0, .ref (E.2.2 x0)), (1, .int z.1)] [] z.2) : WM G l E S 13 [(0, .ref (E.2.2 x0)), (1, .int x1), (2, .int x2)] [] mm := by
  unfold bX8_full_13 at h
  refine x_iload_n C (dq DX8_full 9 rfl) rfl 2 rfl ?_
  refine x_aload_n C (dq DX8_full 10 rfl) rfl 0 rfl ?_
  refine callX8_248 C (dq DX8_full 11 rfl) h (by decide) (by decide) (Nat.le_of_ble_eq_true rfl) (fun a3 h => ?_)
  refine x_icmp_ge (tgt := 48) C (dq DX8_full 12 rfl) (by decide) h (fun h => ?_) (fun h => ?_)
  · cases h
    exact x_lv [0, 1] rfl (kx (x1, mm) rfl)
  · refine x_pc 21 rfl ?_
    refine x_aload_n C (dq DX8_full 13 rfl) rfl 0 rfl ?_
    refine x_iload_n C (dq DX8_full 14 rfl) rfl 2 rfl ?_
    refine callX8_367 C (dq DX8_full 15 rfl) h (by decide) (by decide) (Nat.le_of_ble_eq_true rfl) (fun a4 m5 h => ?_)
    refine x_pop C (dq DX8_full 16 rfl) rfl ?_
    refine x_aload_n C (dq DX8_full 17 rfl) rfl 0 rfl ?_
    refine x_pc 28 rfl ?_
    refine getX8_356 C (dq DX8_full 18 rfl) g0 ?_
    refine x_lconst (v := 0) C (dq DX8_full 19 rfl) rfl ?_
    refine x_lcmp C (dq DX8_full 20 rfl) ?_
    refine x_if_ne (tgt := 42) C (dq DX8_full 21 rfl) (by decide) h (fun h => ?_) (fun h => ?_)
    · exact x_lv [0, 1, 2] rfl (tX8_full_42 C g0 h kb kx)
    · refine x_iload_n C (dq DX8_full 22 rfl) rfl 1 rfl ?_
      refine x_pc 37 rfl ?_
      refine x_iconst (v := 1) C (dq DX8_full 23 rfl) (by decide) ?_
      refine x_iload_n C (dq DX8_full 24 rfl) rfl 2 rfl ?_
      refine x_ishl C (dq DX8_full 25 rfl) ?_
      refine x_ior C (dq DX8_full 26 rfl) ?_
      refine x_istore_n (lv' := [(1, .int (x1 ||| (1 <<< (x2 &&& 31)))), (0, .ref (E.2.2 x0)), (2, .int x2)]) C (dq DX8_full 27 rfl) rfl (by decide) rfl ?_
      exact x_lv [1, 0, 2] rfl (tX8_full_42 C g0 h kb kx)
set_option maxHeartbeats 1000000 in
theorem mX8_full {l : Launch} {E : Ev} {S : List Sh} {mm : Mm} {x0 : Nat} {r : Int32 × Mm} (h : fX8_full S mm x0 = some r) : Ml l E S yX8_full cX8_full 3 (some .int) 5 133 [.ref (E.2.2 x0)] mm (some (.int r.1)) r.2 := by
  refine Ml.of (by decide +kernel) (Nat.le_of_ble_eq_true rfl) (fun G C hQ => ?_)
  have C : Cx G E cX8_full 3 RX8 (some .int) 5 133 := C
  unfold fX8_full at h
  obtain ⟨g0, h⟩ := gd_some h
  show WM G l E S 0 [(0, .ref (E.2.2 x0))] [] mm
  refine x_aload_n C (dq DX8_full 0 rfl) rfl 0 rfl ?_
  refine x_iconst (v := 0) C (dq DX8_full 1 rfl) (by decide) ?_
  refine putX8_115 C (dq DX8_full 2 rfl) g0 h (fun m1 h => ?_)
  refine x_aload_n C (dq DX8_full 3 rfl) rfl 0 rfl ?_
  refine x_pc 6 rfl ?_
  refine callX8_375 C (dq DX8_full 4 rfl) h (by decide) (by decide) (Nat.le_of_ble_eq_true rfl) (fun m2 h => ?_)
  refine x_iconst (v := 0) C (dq DX8_full 5 rfl) (by decide) ?_
  refine x_istore_n (lv' := [(1, .int 0), (0, .ref (E.2.2 x0))]) C (dq DX8_full 6 rfl) rfl (by decide) rfl ?_
  refine x_iconst (v := 0) C (dq DX8_full 7 rfl) (by decide) ?_
  refine x_istore_n (lv' := [(2, .int 0), (1, .int 0), (0, .ref (E.2.2 x0))]) C (dq DX8_full 8 rfl) rfl (by decide) rfl ?_
  refine x_lv [2, 1, 0] rfl ?_
  refine x_loop (s0 := (0, 0, m2)) (fun s6 => WM G l E S 13 [(0, .ref (E.2.2 x0)), (1, .int s6.1), (2, .int s6.2.1)] [] s6.2.2) h (fun s6 r hb kb kx => tX8_full_13 C g0 hb kb (fun y7 hy => ?_))
  have h := kx y7 hy
  clear kx kb hb hy
  refine x_pc 48 rfl ?_
  refine x_iload_n C (dq DX8_full 30 rfl) rfl 1 rfl ?_
  cases h
  exact x_iret C (dq DX8_full 31 rfl) hQ
set_option maxHeartbeats 1000000 in
theorem qX8_full {S : List Sh} {mm : Mm} {x0 : Nat} {r : Int32 × Mm} (h : fX8_full S mm x0 = some r) : isC S x0 8 := by
  unfold fX8_full at h
  exact (gd_some h).1
abbrev eX8_isFar : List (Nat × Instr × Nat) := [(0, .iload_n 0, 1), (1, .ifCond .lt 14, 3), (4, .iload_n 0, 1), (5, .sipush 300, 3), (8, .if_icmp .gt 7, 3), (11, .iconst 1, 1), (12, .goto 4, 3), (15, .iconst 0, 1), (16, .ireturn, 1)]
theorem DX8_isFar : (eX8_isFar.all fun q => decide (decode cX8_isFar q.1 = .ok q.2)) = true := by decide +kernel
def jX8_isFar_16 (S : List Sh) (mm : Mm)  (p0 : Int32) : Option (Int32) := bd1 (okZ p0) fun _ => some p0
def jX8_isFar_15 (S : List Sh) (mm : Mm)   : Option (Int32) := jX8_isFar_16 S mm 0
def fX8_isFar (S : List Sh) (mm : Mm) (x0 : Int32) : Option (Int32) := if x0 < 0 then (jX8_isFar_15 S mm ) else (if 300 < x0 then (jX8_isFar_15 S mm ) else (jX8_isFar_16 S mm 1))
set_option maxHeartbeats 1000000 in
theorem tX8_isFar_16 {G : Gt} {l : Launch} {E : Ev} {S : List Sh} {mm : Mm}  {p0 : Int32} {r : Int32} (C : Cx G E cX8_isFar 1 RX8 (some .boolean) 0 0)  (h : jX8_isFar_16 S mm p0 = some r) (hQ : RQ G E S (some (.int r)) mm) : WM G l E S 16 [] [.int p0] mm := by
  unfold jX8_isFar_16 at h
  refine x_zret C (dq DX8_isFar 8 rfl) h (fun h => ?_)
  cases h
  exact hQ
set_option maxHeartbeats 1000000 in
theorem tX8_isFar_15 {G : Gt} {l : Launch} {E : Ev} {S : List Sh} {mm : Mm}   {r : Int32} (C : Cx G E cX8_isFar 1 RX8 (some .boolean) 0 0)  (h : jX8_isFar_15 S mm = some r) (hQ : RQ G E S (some (.int r)) mm) : WM G l E S 15 [] [] mm := by
  unfold jX8_isFar_15 at h
  refine x_iconst (v := 0) C (dq DX8_isFar 7 rfl) (by decide) ?_
  exact x_lv [] rfl (tX8_isFar_16 C  h hQ)
set_option maxHeartbeats 1000000 in
theorem mX8_isFar {l : Launch} {E : Ev} {S : List Sh} {mm : Mm} {x0 : Int32} {r : Int32} (h : fX8_isFar S mm x0 = some r) : Ml l E S yX8_isFar cX8_isFar 1 (some .boolean) 0 0 [.int x0] mm (some (.int r)) mm := by
  refine Ml.of (by decide +kernel) (Nat.le_of_ble_eq_true rfl) (fun G C hQ => ?_)
  have C : Cx G E cX8_isFar 1 RX8 (some .boolean) 0 0 := C
  unfold fX8_isFar at h
  show WM G l E S 0 [(0, .int x0)] [] mm
  refine x_iload_n C (dq DX8_isFar 0 rfl) rfl 0 rfl ?_
  refine x_if_lt (tgt := 15) C (dq DX8_isFar 1 rfl) (by decide) h (fun h => ?_) (fun h => ?_)
  · exact x_lv [] rfl (tX8_isFar_15 C  h hQ)
  · refine x_iload_n C (dq DX8_isFar 2 rfl) rfl 0 rfl ?_
    refine x_sipush (v := 300) C (dq DX8_isFar 3 rfl) (by decide) ?_
    refine x_pc 8 rfl ?_
    refine x_icmp_gt (tgt := 15) C (dq DX8_isFar 4 rfl) (by decide) h (fun h => ?_) (fun h => ?_)
    · exact x_lv [] rfl (tX8_isFar_15 C  h hQ)
    · refine x_iconst (v := 1) C (dq DX8_isFar 5 rfl) (by decide) ?_
      refine x_goto (tgt := 16) C (dq DX8_isFar 6 rfl) (by decide) ?_
      exact x_lv [] rfl (tX8_isFar_16 C  h hQ)
theorem getX8_60 {G : Gt} {l : Launch} {E : Ev} {S : List Sh} {cc : ByteArray} {nL : Nat} {rt : Option FieldType} {fr lo : Nat} {pc : Nat} {lv : List (Nat × Value)} {st : List Value} {mm : Mm} {o : Nat} (C : Cx G E cc nL RX8 rt fr lo) (d : decode cc pc = .ok (.getfield 60, 3)) (hg : isC S o 8) (k : WM G l E S (pc + 3) lv (.ref (E.2.2 (rf S mm o 27)) :: st) mm) : WM G l E S pc lv (.ref (E.2.2 o) :: st) mm := x_get2 C hg (T := TX8) (N := 49) rfl inX8 (by decide) (i := 27) (gmem 892 (by decide +kernel) rfl) rfl rfl d k
theorem callX8_378 {G : Gt} {l : Launch} {E : Ev} {S : List Sh} {cc : ByteArray} {nL : Nat} {rt : Option FieldType} {fr lo : Nat} {pc : Nat} {lv : List (Nat × Value)} {rest : List Value} {mm : Mm} {α : Type} {f : Int32 → Option α} {r : α} {a0 : Int32} (C : Cx G E cc nL RX8 rt fr lo) (d : decode cc pc = .ok (.invokestatic 378, 3)) (h : bd1 (fX8_isFar S mm a0) f = some r) (hfr : 1 ≤ fr) (hlo : 20 ≤ lo) (hrs : (rest.map fun v => v.category).sum ≤ 8) (k : ∀ v, f v = some r → WM G l E S (pc + 3) lv (.int v :: rest) mm) : WM G l E S pc lv (.int a0 :: rest) mm := by
  obtain ⟨v, hv, hf⟩ := bd1_some h
  exact x_callS (n := 1) (As := [.int a0]) (rest := rest) C (mX8_isFar hv) (gmem 1399 (by decide +kernel) rfl) (gmem 1400 (by decide +kernel) rfl) (gmem 9 (by decide +kernel) rfl) (gmem 1401 (by decide +kernel) rfl) (by decide +kernel) rfl hfr hlo hrs d rfl rfl (k v hf)
abbrev eX8_ahead : List (Nat × Instr × Nat) := [(0, .aload_n 0, 1), (1, .iconst 0, 1), (2, .putfield 115, 3), (5, .aload_n 0, 1), (6, .iload_n 1, 1), (7, .invokevirtual 319, 3), (10, .ifCond .eq 19, 3), (13, .iload_n 2, 1), (14, .invokestatic 378, 3), (17, .ifCond .eq 12, 3), (20, .iload_n 3, 1), (21, .ifCond .lt 8, 3), (24, .iload_n 3, 1), (25, .iconst 2, 1), (26, .if_icmp .le 5, 3), (29, .iconst (-1), 1), (30, .ireturn, 1), (31, .aload_n 0, 1), (32, .getfield 57, 3), (35, .iconst 0, 1), (36, .aload_n 0, 1), (37, .getfield 60, 3), (40, .iconst 0, 1), (41, .invokestatic 254, 3), (44, .aload_n 0, 1), (45, .iload_n 1, 1), (46, .invokevirtual 264, 3), (49, .istore 4, 2), (51, .aload_n 0, 1), (52, .getfield 57, 3), (55, .bipush 24, 2), (57, .iload_n 1, 1), (58, .imul, 1), (59, .iconst 3, 1), (60, .iadd, 1), (61, .iaload, 1), (62, .istore 5, 2), (64, .iconst 0, 1), (65, .istore 6, 2), (67, .iload 6, 2), (69, .iload_n 2, 1), (70, .if_icmp .ge 35, 3), (73, .aload_n 0, 1), (74, .invokevirtual 313, 3), (77, .aload_n 0, 1), (78, .iload_n 1, 1), (79, .invokevirtual 264, 3), (82, .iload 4, 2), (84, .if_icmp .le 11, 3), (87, .aload_n 0, 1), (88, .iload_n 1, 1), (89, .invokevirtual 264, 3), (92, .goto 5, 3), (95, .iload 4, 2), (97, .istore 4, 2), (99, .iinc 6 1, 3), (102, .goto (-35), 3), (105, .iload_n 3, 1), (106, .ifCond .ne 11, 3), (109, .aload_n 0, 1), (110, .iload_n 1, 1), (111, .invokevirtual 264, 3), (114, .goto 27, 3), (117, .iload_n 3, 1), (118, .iconst 1, 1), (119, .if_icmp .ne 8, 3), (122, .iload 4, 2), (124, .goto 17, 3), (127, .aload_n 0, 1), (128, .getfield 57, 3), (131, .bipush 24, 2), (133, .iload_n 1, 1), (134, .imul, 1), (135, .iconst 3, 1), (136, .iadd, 1), (137, .iaload, 1), (138, .iload 5, 2), (140, .isub, 1), (141, .istore 6, 2), (143, .aload_n 0, 1), (144, .getfield 60, 3), (147, .iconst 0, 1), (148, .aload_n 0, 1), (149, .getfield 57, 3), (152, .iconst 0, 1), (153, .invokestatic 254, 3), (156, .iload 6, 2), (158, .ireturn, 1)]
theorem DX8_ahead : (eX8_ahead.all fun q => decide (decode cX8_ahead q.1 = .ok q.2)) = true := by decide +kernel
def jX8_ahead_29 (S : List Sh) (mm : Mm) (x0 : Nat)  : Option (Int32 × Mm) := some ((-1), mm)
def jX8_ahead_97 (S : List Sh) (mm : Mm) (x0 : Nat) (x1 : Int32) (x2 : Int32) (x3 : Int32) (x5 : Int32) (x6 : Int32) (p0 : Int32) : Option ((Int32 × Int32 × Mm) ⊕ (Int32 × Mm)) := some (.inl (p0, x6 + 1, mm))
def bX8_ahead_67 (S : List Sh) (x0 : Nat) (x1 : Int32) (x2 : Int32) (x3 : Int32) (x5 : Int32) (x4 : Int32) (x6 : Int32) (mm : Mm) : Option ((Int32 × Int32 × Mm) ⊕ (Int32 × Mm)) := if x2 ≤ x6 then (some (.inr (x4, mm))) else (bd1 (fX8_tickGoes S mm x0) fun m7 => bd1 (fX8_queueOf S m7 x0 x1) fun a8 => if a8 ≤ x4 then (jX8_ahead_97 S m7 x0 x1 x2 x3 x5 x6 x4) else (bd1 (fX8_queueOf S m7 x0 x1) fun a9 => jX8_ahead_97 S m7 x0 x1 x2 x3 x5 x6 a9))
def jX8_ahead_141 (S : List Sh) (mm : Mm) (x0 : Nat) (p0 : Int32) : Option (Int32 × Mm) := bd1 (fX8_copies S mm (rf S mm x0 27) 0 (rf S mm x0 26) 0) fun m13 => some (p0, m13)
def fX8_ahead (S : List Sh) (mm : Mm) (x0 : Nat) (x1 : Int32) (x2 : Int32) (x3 : Int32) : Option (Int32 × Mm) := gd S x0 8 (bd1 (some (u1 mm x0 0 0)) fun m1 => bd1 (fX8_isLink S m1 x0 x1) fun a2 => if a2 = 0 then (jX8_ahead_29 S m1 x0) else (bd1 (fX8_isFar S m1 x2) fun a3 => if a3 = 0 then (jX8_ahead_29 S m1 x0) else (if x3 < 0 then (jX8_ahead_29 S m1 x0) else (if x3 ≤ 2 then (bd1 (fX8_copies S m1 (rf S m1 x0 26) 0 (rf S m1 x0 27) 0) fun m4 => bd1 (fX8_queueOf S m4 x0 x1) fun a5 => bd1 (ldA S 0 m4 (rf S m4 x0 26) ((24 * x1) + 3)) fun a6 => bd1 (lp (fun s10 => bX8_ahead_67 S x0 x1 x2 x3 a6 s10.1 s10.2.1 s10.2.2) fu (a5, 0, m4)) fun y11 => if ¬ x3 = 0 then (if ¬ x3 = 1 then (bd1 (ldA S 0 y11.2 (rf S y11.2 x0 26) ((24 * x1) + 3)) fun a12 => jX8_ahead_141 S y11.2 x0 (a12 - a6)) else (jX8_ahead_141 S y11.2 x0 y11.1)) else (bd1 (fX8_queueOf S y11.2 x0 x1) fun a14 => jX8_ahead_141 S y11.2 x0 a14)) else (jX8_ahead_29 S m1 x0)))))
set_option maxHeartbeats 1000000 in
theorem tX8_ahead_29 {G : Gt} {l : Launch} {E : Ev} {S : List Sh} {mm : Mm} {x0 : Nat}  {r : Int32 × Mm} (C : Cx G E cX8_ahead 7 RX8 (some .int) 4 91) (g0 : isC S x0 8) (h : jX8_ahead_29 S mm x0 = some r) (hQ : RQ G E S (some (.int r.1)) r.2) : WM G l E S 29 [(0, .ref (E.2.2 x0))] [] mm := by
  unfold jX8_ahead_29 at h
  refine x_iconst (v := (-1)) C (dq DX8_ahead 15 rfl) (by decide) ?_
  cases h
  exact x_iret C (dq DX8_ahead 16 rfl) hQ
set_option maxHeartbeats 1000000 in
theorem tX8_ahead_97 {G : Gt} {l : Launch} {E : Ev} {S : List Sh} {mm : Mm} {x0 : Nat} {x1 : Int32} {x2 : Int32} {x3 : Int32} {x5 : Int32} {x6 : Int32} {p0 : Int32} {r : (Int32 × Int32 × Mm) ⊕ (Int32 × Mm)} (C : Cx G E cX8_ahead 7 RX8 (some .int) 4 91) (g0 : isC S x0 8) (h : jX8_ahead_97 S mm x0 x1 x2 x3 x5 x6 p0 = some r) (kb : ∀ z : Int32 × Int32 × Mm, r = .inl z → WM G l E S 67 [(0, .ref (E.2.2 x0)), (1, .int x1), (2, .int x2), (3, .int x3), (4, .int z.1), (5, .int x5), (6, .int z.2.1)] [] z.2.2) (kx : ∀ z : Int32 × Mm, r = .inr z → WM G l E S 105 [(0, .ref (E.2.2 x0)), (1, .int x1), (2, .int x2), (3, .int x3), (4, .int z.1), (5, .int x5)] [] z.2) : WM G l E S 97 [(0, .ref (E.2.2 x0)), (1, .int x1), (2, .int x2), (3, .int x3), (5, .int x5), (6, .int x6)] [.int p0] mm := by
  unfold jX8_ahead_97 at h
  refine x_istore (lv' := [(4, .int p0), (0, .ref (E.2.2 x0)), (1, .int x1), (2, .int x2), (3, .int x3), (5, .int x5), (6, .int x6)]) C (dq DX8_ahead 54 rfl) (by decide) rfl ?_
  refine x_iinc (v := x6 + 1) (lv' := [(6, .int (x6 + 1)), (4, .int p0), (0, .ref (E.2.2 x0)), (1, .int x1), (2, .int x2), (3, .int x3), (5, .int x5)]) C (dq DX8_ahead 55 rfl) 6 rfl rfl (by decide) rfl ?_
  refine x_goto (tgt := 67) C (dq DX8_ahead 56 rfl) (by decide) ?_
  cases h
  exact x_lv [2, 3, 4, 5, 1, 6, 0] rfl (kb (p0, x6 + 1, mm) rfl)
set_option maxHeartbeats 1000000 in
theorem tX8_ahead_67 {G : Gt} {l : Launch} {E : Ev} {S : List Sh} {x0 : Nat} {x1 : Int32} {x2 : Int32} {x3 : Int32} {x5 : Int32} {x4 : Int32} {x6 : Int32} {mm : Mm} {r : (Int32 × Int32 × Mm) ⊕ (Int32 × Mm)} (C : Cx G E cX8_ahead 7 RX8 (some .int) 4 91) (g0 : isC S x0 8) (h : bX8_ahead_67 S x0 x1 x2 x3 x5 x4 x6 mm = some r) (kb : ∀ z : Int32 × Int32 × Mm, r = .inl z → WM G l E S 67 [(0, .ref (E.2.2 x0)), (1, .int x1), (2, .int x2), (3, .int x3), (4, .int z.1), (5, .int x5), (6, .int z.2.1)] [] z.2.2) (kx : ∀ z : Int32 × Mm, r = .inr z → WM G l E S 105 [(0, .ref (E.2.2 x0)), (1, .int x1), (2, .int x2), (3, .int x3), (4, .int z.1), (5, .int x5)] [] z.2) : WM G l E S 67 [(0, .ref (E.2.2 x0)), (1, .int x1), (2, .int x2), (3, .int x3), (4, .int x4), (5, .int x5), (6, .int x6)] [] mm := by
  unfold bX8_ahead_67 at h
  refine x_iload C (dq DX8_ahead 39 rfl) 6 rfl ?_
  refine x_iload_n C (dq DX8_ahead 40 rfl) rfl 2 rfl ?_
  refine x_icmp_ge (tgt := 105) C (dq DX8_ahead 41 rfl) (by decide) h (fun h => ?_) (fun h => ?_)
  · cases h
    exact x_lv [0, 1, 2, 3, 4, 5] rfl (kx (x4, mm) rfl)
  · refine x_aload_n C (dq DX8_ahead 42 rfl) rfl 0 rfl ?_
    refine x_pc 74 rfl ?_
    refine callX8_313 C (dq DX8_ahead 43 rfl) h (by decide) (by decide) (Nat.le_of_ble_eq_true rfl) (fun m7 h => ?_)
    refine x_aload_n C (dq DX8_ahead 44 rfl) rfl 0 rfl ?_
    refine x_iload_n C (dq DX8_ahead 45 rfl) rfl 1 rfl ?_
    refine callX8_264 C (dq DX8_ahead 46 rfl) h (by decide) (by decide) (Nat.le_of_ble_eq_true rfl) (fun a8 h => ?_)
    refine x_iload C (dq DX8_ahead 47 rfl) 4 rfl ?_
    refine x_pc 84 rfl ?_
    refine x_icmp_le (tgt := 95) C (dq DX8_ahead 48 rfl) (by decide) h (fun h => ?_) (fun h => ?_)
    · refine x_iload C (dq DX8_ahead 53 rfl) 4 rfl ?_
      exact x_lv [0, 1, 2, 3, 5, 6] rfl (tX8_ahead_97 C g0 h kb kx)
    · refine x_aload_n C (dq DX8_ahead 49 rfl) rfl 0 rfl ?_
      refine x_iload_n C (dq DX8_ahead 50 rfl) rfl 1 rfl ?_
      refine callX8_264 C (dq DX8_ahead 51 rfl) h (by decide) (by decide) (Nat.le_of_ble_eq_true rfl) (fun a9 h => ?_)
      refine x_goto (tgt := 97) C (dq DX8_ahead 52 rfl) (by decide) ?_
      exact x_lv [0, 1, 2, 3, 5, 6] rfl (tX8_ahead_97 C g0 h kb kx)
set_option maxHeartbeats 1000000 in
theorem tX8_ahead_141 {G : Gt} {l : Launch} {E : Ev} {S : List Sh} {mm : Mm} {x0 : Nat} {p0 : Int32} {r : Int32 × Mm} (C : Cx G E cX8_ahead 7 RX8 (some .int) 4 91) (g0 : isC S x0 8) (h : jX8_ahead_141 S mm x0 p0 = some r) (hQ : RQ G E S (some (.int r.1)) r.2) : WM G l E S 141 [(0, .ref (E.2.2 x0))] [.int p0] mm := by
  unfold jX8_ahead_141 at h
  refine x_istore (lv' := [(6, .int p0), (0, .ref (E.2.2 x0))]) C (dq DX8_ahead 78 rfl) (by decide) rfl ?_
  refine x_aload_n C (dq DX8_ahead 79 rfl) rfl 1 rfl ?_
  refine getX8_60 C (dq DX8_ahead 80 rfl) g0 ?_
  refine x_iconst (v := 0) C (dq DX8_ahead 81 rfl) (by decide) ?_
  refine x_pc 148 rfl ?_
  refine x_aload_n C (dq DX8_ahead 82 rfl) rfl 1 rfl ?_
  refine getX8_57 C (dq DX8_ahead 83 rfl) g0 ?_
  refine x_iconst (v := 0) C (dq DX8_ahead 84 rfl) (by decide) ?_
  refine callX8_254 C (dq DX8_ahead 85 rfl) h (by decide) (by decide) (Nat.le_of_ble_eq_true rfl) (fun m13 h => ?_)
  refine x_iload C (dq DX8_ahead 86 rfl) 0 rfl ?_
  refine x_pc 158 rfl ?_
  cases h
  exact x_iret C (dq DX8_ahead 87 rfl) hQ
set_option maxHeartbeats 1000000 in
theorem mX8_ahead {l : Launch} {E : Ev} {S : List Sh} {mm : Mm} {x0 : Nat} {x1 : Int32} {x2 : Int32} {x3 : Int32} {r : Int32 × Mm} (h : fX8_ahead S mm x0 x1 x2 x3 = some r) : Ml l E S yX8_ahead cX8_ahead 7 (some .int) 4 91 [.ref (E.2.2 x0), .int x1, .int x2, .int x3] mm (some (.int r.1)) r.2 := by
  refine Ml.of (by decide +kernel) (Nat.le_of_ble_eq_true rfl) (fun G C hQ => ?_)
  have C : Cx G E cX8_ahead 7 RX8 (some .int) 4 91 := C
  unfold fX8_ahead at h
  obtain ⟨g0, h⟩ := gd_some h
  show WM G l E S 0 [(0, .ref (E.2.2 x0)), (1, .int x1), (2, .int x2), (3, .int x3)] [] mm
  refine x_aload_n C (dq DX8_ahead 0 rfl) rfl 0 rfl ?_
  refine x_iconst (v := 0) C (dq DX8_ahead 1 rfl) (by decide) ?_
  refine putX8_115 C (dq DX8_ahead 2 rfl) g0 h (fun m1 h => ?_)
  refine x_aload_n C (dq DX8_ahead 3 rfl) rfl 0 rfl ?_
  refine x_pc 6 rfl ?_
  refine x_iload_n C (dq DX8_ahead 4 rfl) rfl 1 rfl ?_
  refine callX8_319 C (dq DX8_ahead 5 rfl) h (by decide) (by decide) (Nat.le_of_ble_eq_true rfl) (fun a2 h => ?_)
  refine x_if_eq (tgt := 29) C (dq DX8_ahead 6 rfl) (by decide) h (fun h => ?_) (fun h => ?_)
  · exact x_lv [0] rfl (tX8_ahead_29 C g0 h hQ)
  · refine x_iload_n C (dq DX8_ahead 7 rfl) rfl 2 rfl ?_
    refine callX8_378 C (dq DX8_ahead 8 rfl) h (by decide) (by decide) (Nat.le_of_ble_eq_true rfl) (fun a3 h => ?_)
    refine x_pc 17 rfl ?_
    refine x_if_eq (tgt := 29) C (dq DX8_ahead 9 rfl) (by decide) h (fun h => ?_) (fun h => ?_)
    · exact x_lv [0] rfl (tX8_ahead_29 C g0 h hQ)
    · refine x_iload_n C (dq DX8_ahead 10 rfl) rfl 3 rfl ?_
      refine x_if_lt (tgt := 29) C (dq DX8_ahead 11 rfl) (by decide) h (fun h => ?_) (fun h => ?_)
      · exact x_lv [0] rfl (tX8_ahead_29 C g0 h hQ)
      · refine x_iload_n C (dq DX8_ahead 12 rfl) rfl 3 rfl ?_
        refine x_iconst (v := 2) C (dq DX8_ahead 13 rfl) (by decide) ?_
        refine x_pc 26 rfl ?_
        refine x_icmp_le (tgt := 31) C (dq DX8_ahead 14 rfl) (by decide) h (fun h => ?_) (fun h => ?_)
        · refine x_aload_n C (dq DX8_ahead 17 rfl) rfl 0 rfl ?_
          refine getX8_57 C (dq DX8_ahead 18 rfl) g0 ?_
          refine x_iconst (v := 0) C (dq DX8_ahead 19 rfl) (by decide) ?_
          refine x_aload_n C (dq DX8_ahead 20 rfl) rfl 0 rfl ?_
          refine x_pc 37 rfl ?_
          refine getX8_60 C (dq DX8_ahead 21 rfl) g0 ?_
          refine x_iconst (v := 0) C (dq DX8_ahead 22 rfl) (by decide) ?_
          refine callX8_254 C (dq DX8_ahead 23 rfl) h (by decide) (by decide) (Nat.le_of_ble_eq_true rfl) (fun m4 h => ?_)
          refine x_aload_n C (dq DX8_ahead 24 rfl) rfl 0 rfl ?_
          refine x_iload_n C (dq DX8_ahead 25 rfl) rfl 1 rfl ?_
          refine x_pc 46 rfl ?_
          refine callX8_264 C (dq DX8_ahead 26 rfl) h (by decide) (by decide) (Nat.le_of_ble_eq_true rfl) (fun a5 h => ?_)
          refine x_istore (lv' := [(4, .int a5), (0, .ref (E.2.2 x0)), (1, .int x1), (2, .int x2), (3, .int x3)]) C (dq DX8_ahead 27 rfl) (by decide) rfl ?_
          refine x_aload_n C (dq DX8_ahead 28 rfl) rfl 1 rfl ?_
          refine getX8_57 C (dq DX8_ahead 29 rfl) g0 ?_
          refine x_bipush (v := 24) C (dq DX8_ahead 30 rfl) (by decide) ?_
          refine x_pc 57 rfl ?_
          refine x_iload_n C (dq DX8_ahead 31 rfl) rfl 2 rfl ?_
          refine x_imul C (dq DX8_ahead 32 rfl) ?_
          refine x_iconst (v := 3) C (dq DX8_ahead 33 rfl) (by decide) ?_
          refine x_iadd C (dq DX8_ahead 34 rfl) ?_
          refine x_iald C (dq DX8_ahead 35 rfl) h (fun a6 h => ?_)
          refine x_pc 62 rfl ?_
          refine x_istore (lv' := [(5, .int a6), (4, .int a5), (0, .ref (E.2.2 x0)), (1, .int x1), (2, .int x2), (3, .int x3)]) C (dq DX8_ahead 36 rfl) (by decide) rfl ?_
          refine x_iconst (v := 0) C (dq DX8_ahead 37 rfl) (by decide) ?_
          refine x_istore (lv' := [(6, .int 0), (5, .int a6), (4, .int a5), (0, .ref (E.2.2 x0)), (1, .int x1), (2, .int x2), (3, .int x3)]) C (dq DX8_ahead 38 rfl) (by decide) rfl ?_
          refine x_lv [3, 4, 5, 6, 2, 1, 0] rfl ?_
          refine x_loop (s0 := (a5, 0, m4)) (fun s10 => WM G l E S 67 [(0, .ref (E.2.2 x0)), (1, .int x1), (2, .int x2), (3, .int x3), (4, .int s10.1), (5, .int a6), (6, .int s10.2.1)] [] s10.2.2) h (fun s10 r hb kb kx => tX8_ahead_67 C g0 hb kb (fun y11 hy => ?_))
          have h := kx y11 hy
          clear kx kb hb hy
          refine x_iload_n C (dq DX8_ahead 57 rfl) rfl 3 rfl ?_
          refine x_if_ne (tgt := 117) C (dq DX8_ahead 58 rfl) (by decide) h (fun h => ?_) (fun h => ?_)
          · refine x_pc 117 rfl ?_
            refine x_iload_n C (dq DX8_ahead 63 rfl) rfl 3 rfl ?_
            refine x_iconst (v := 1) C (dq DX8_ahead 64 rfl) (by decide) ?_
            refine x_icmp_ne (tgt := 127) C (dq DX8_ahead 65 rfl) (by decide) h (fun h => ?_) (fun h => ?_)
            · refine x_aload_n C (dq DX8_ahead 68 rfl) rfl 0 rfl ?_
              refine getX8_57 C (dq DX8_ahead 69 rfl) g0 ?_
              refine x_pc 131 rfl ?_
              refine x_bipush (v := 24) C (dq DX8_ahead 70 rfl) (by decide) ?_
              refine x_iload_n C (dq DX8_ahead 71 rfl) rfl 1 rfl ?_
              refine x_imul C (dq DX8_ahead 72 rfl) ?_
              refine x_iconst (v := 3) C (dq DX8_ahead 73 rfl) (by decide) ?_
              refine x_iadd C (dq DX8_ahead 74 rfl) ?_
              refine x_pc 137 rfl ?_
              refine x_iald C (dq DX8_ahead 75 rfl) h (fun a12 h => ?_)
              refine x_iload C (dq DX8_ahead 76 rfl) 5 rfl ?_
              refine x_isub C (dq DX8_ahead 77 rfl) ?_
              exact x_lv [0] rfl (tX8_ahead_141 C g0 h hQ)
            · refine x_iload C (dq DX8_ahead 66 rfl) 4 rfl ?_
              refine x_goto (tgt := 141) C (dq DX8_ahead 67 rfl) (by decide) ?_
              exact x_lv [0] rfl (tX8_ahead_141 C g0 h hQ)
          · refine x_pc 109 rfl ?_
            refine x_aload_n C (dq DX8_ahead 59 rfl) rfl 0 rfl ?_
            refine x_iload_n C (dq DX8_ahead 60 rfl) rfl 1 rfl ?_
            refine callX8_264 C (dq DX8_ahead 61 rfl) h (by decide) (by decide) (Nat.le_of_ble_eq_true rfl) (fun a14 h => ?_)
            refine x_goto (tgt := 141) C (dq DX8_ahead 62 rfl) (by decide) ?_
            exact x_lv [0] rfl (tX8_ahead_141 C g0 h hQ)
        · exact x_lv [0] rfl (tX8_ahead_29 C g0 h hQ)
set_option maxHeartbeats 1000000 in
theorem qX8_ahead {S : List Sh} {mm : Mm} {x0 : Nat} {x1 : Int32} {x2 : Int32} {x3 : Int32} {r : Int32 × Mm} (h : fX8_ahead S mm x0 x1 x2 x3 = some r) : isC S x0 8 := by
  unfold fX8_ahead at h
  exact (gd_some h).1
abbrev eX8_flows_ : List (Nat × Instr × Nat) := [(0, .aload_n 0, 1), (1, .iconst 0, 1), (2, .putfield 115, 3), (5, .aload_n 0, 1), (6, .iload_n 1, 1), (7, .invokevirtual 316, 3), (10, .ifCond .eq 19, 3), (13, .iload_n 2, 1), (14, .invokestatic 378, 3), (17, .ifCond .eq 12, 3), (20, .iload_n 3, 1), (21, .ifCond .lt 8, 3), (24, .iload_n 3, 1), (25, .iconst 2, 1), (26, .if_icmp .le 5, 3), (29, .iconst (-1), 1), (30, .ireturn, 1), (31, .iload_n 1, 1), (32, .invokestatic 258, 3), (35, .iload_n 3, 1), (36, .ifCond .ne 7, 3), (39, .iconst 0, 1), (40, .goto 13, 3), (43, .iload_n 3, 1), (44, .iconst 1, 1), (45, .if_icmp .ne 7, 3), (48, .iconst 5, 1), (49, .goto 4, 3), (52, .iconst 4, 1), (53, .iadd, 1), (54, .istore 4, 2), (56, .iload_n 3, 1), (57, .ifCond .ne 7, 3), (60, .iconst 0, 1), (61, .goto 10, 3), (64, .aload_n 0, 1), (65, .getfield 57, 3), (68, .iload 4, 2), (70, .iaload, 1), (71, .istore 5, 2), (73, .aload_n 0, 1), (74, .getfield 57, 3), (77, .iconst 0, 1), (78, .aload_n 0, 1), (79, .getfield 60, 3), (82, .iconst 0, 1), (83, .invokestatic 254, 3), (86, .iconst 0, 1), (87, .istore 6, 2), (89, .iload 6, 2), (91, .iload_n 2, 1), (92, .if_icmp .ge 13, 3), (95, .aload_n 0, 1), (96, .invokevirtual 313, 3), (99, .iinc 6 1, 3), (102, .goto (-13), 3), (105, .aload_n 0, 1), (106, .getfield 57, 3), (109, .iload 4, 2), (111, .iaload, 1), (112, .iload 5, 2), (114, .isub, 1), (115, .istore 6, 2), (117, .aload_n 0, 1), (118, .getfield 60, 3), (121, .iconst 0, 1), (122, .aload_n 0, 1), (123, .getfield 57, 3), (126, .iconst 0, 1), (127, .invokestatic 254, 3), (130, .iload 6, 2), (132, .ireturn, 1)]
theorem DX8_flows_ : (eX8_flows_.all fun q => decide (decode cX8_flows_ q.1 = .ok q.2)) = true := by decide +kernel
def jX8_flows__29 (S : List Sh) (mm : Mm) (x0 : Nat)  : Option (Int32 × Mm) := some ((-1), mm)
def bX8_flows__89 (S : List Sh) (x0 : Nat) (x2 : Int32) (x4 : Int32) (x5 : Int32) (x6 : Int32) (mm : Mm) : Option ((Int32 × Mm) ⊕ (Mm)) := if x2 ≤ x6 then (some (.inr (mm))) else (bd1 (fX8_tickGoes S mm x0) fun m7 => some (.inl (x6 + 1, m7)))
def jX8_flows__71 (S : List Sh) (mm : Mm) (x0 : Nat) (x2 : Int32) (x4 : Int32) (p0 : Int32) : Option (Int32 × Mm) := bd1 (fX8_copies S mm (rf S mm x0 26) 0 (rf S mm x0 27) 0) fun m6 => bd1 (lp (fun s8 => bX8_flows__89 S x0 x2 x4 p0 s8.1 s8.2) fu (0, m6)) fun y9 => bd1 (ldA S 0 y9 (rf S y9 x0 26) x4) fun a10 => bd1 (fX8_copies S y9 (rf S y9 x0 27) 0 (rf S y9 x0 26) 0) fun m11 => some ((a10 - p0), m11)
def jX8_flows__53 (S : List Sh) (mm : Mm) (x0 : Nat) (x2 : Int32) (x3 : Int32) (p0 : Int32) (p1 : Int32) : Option (Int32 × Mm) := if ¬ x3 = 0 then (bd1 (ldA S 0 mm (rf S mm x0 26) (p0 + p1)) fun a5 => jX8_flows__71 S mm x0 x2 (p0 + p1) a5) else (jX8_flows__71 S mm x0 x2 (p0 + p1) 0)
def fX8_flows_ (S : List Sh) (mm : Mm) (x0 : Nat) (x1 : Int32) (x2 : Int32) (x3 : Int32) : Option (Int32 × Mm) := gd S x0 8 (bd1 (some (u1 mm x0 0 0)) fun m1 => bd1 (fX8_isFlow S m1 x0 x1) fun a2 => if a2 = 0 then (jX8_flows__29 S m1 x0) else (bd1 (fX8_isFar S m1 x2) fun a3 => if a3 = 0 then (jX8_flows__29 S m1 x0) else (if x3 < 0 then (jX8_flows__29 S m1 x0) else (if x3 ≤ 2 then (bd1 (fX8_flowAt S m1 x1) fun a4 => if ¬ x3 = 0 then (if ¬ x3 = 1 then (jX8_flows__53 S m1 x0 x2 x3 a4 4) else (jX8_flows__53 S m1 x0 x2 x3 a4 5)) else (jX8_flows__53 S m1 x0 x2 x3 a4 0)) else (jX8_flows__29 S m1 x0)))))
set_option maxHeartbeats 1000000 in
theorem tX8_flows__29 {G : Gt} {l : Launch} {E : Ev} {S : List Sh} {mm : Mm} {x0 : Nat}  {r : Int32 × Mm} (C : Cx G E cX8_flows_ 7 RX8 (some .int) 4 91) (g0 : isC S x0 8) (h : jX8_flows__29 S mm x0 = some r) (hQ : RQ G E S (some (.int r.1)) r.2) : WM G l E S 29 [(0, .ref (E.2.2 x0))] [] mm := by
  unfold jX8_flows__29 at h
  refine x_iconst (v := (-1)) C (dq DX8_flows_ 15 rfl) (by decide) ?_
  cases h
  exact x_iret C (dq DX8_flows_ 16 rfl) hQ
set_option maxHeartbeats 1000000 in
theorem tX8_flows__89 {G : Gt} {l : Launch} {E : Ev} {S : List Sh} {x0 : Nat} {x2 : Int32} {x4 : Int32} {x5 : Int32} {x6 : Int32} {mm : Mm} {r : (Int32 × Mm) ⊕ (Mm)} (C : Cx G E cX8_flows_ 7 RX8 (some .int) 4 91) (g0 : isC S x0 8) (h : bX8_flows__89 S x0 x2 x4 x5 x6 mm = some r) (kb : ∀ z : Int32 × Mm, r = .inl z → WM G l E S 89 [(0, .ref (E.2.2 x0)), (2, .int x2), (4, .int x4), (5, .int x5), (6, .int z.1)] [] z.2) (kx : ∀ z : Mm, r = .inr z → WM G l E S 105 [(0, .ref (E.2.2 x0)), (2, .int x2), (4, .int x4), (5, .int x5)] [] z) : WM G l E S 89 [(0, .ref (E.2.2 x0)), (2, .int x2), (4, .int x4), (5, .int x5), (6, .int x6)] [] mm := by
  unfold bX8_flows__89 at h
  refine x_iload C (dq DX8_flows_ 49 rfl) 4 rfl ?_
  refine x_iload_n C (dq DX8_flows_ 50 rfl) rfl 1 rfl ?_
  refine x_icmp_ge (tgt := 105) C (dq DX8_flows_ 51 rfl) (by decide) h (fun h => ?_) (fun h => ?_)
  · cases h
    exact x_lv [0, 1, 2, 3] rfl (kx (mm) rfl)
  · refine x_aload_n C (dq DX8_flows_ 52 rfl) rfl 0 rfl ?_
    refine x_pc 96 rfl ?_
    refine callX8_313 C (dq DX8_flows_ 53 rfl) h (by decide) (by decide) (Nat.le_of_ble_eq_true rfl) (fun m7 h => ?_)
    refine x_iinc (v := x6 + 1) (lv' := [(6, .int (x6 + 1)), (0, .ref (E.2.2 x0)), (2, .int x2), (4, .int x4), (5, .int x5)]) C (dq DX8_flows_ 54 rfl) 4 rfl rfl (by decide) rfl ?_
    refine x_goto (tgt := 89) C (dq DX8_flows_ 55 rfl) (by decide) ?_
    cases h
    exact x_lv [1, 2, 3, 4, 0] rfl (kb (x6 + 1, m7) rfl)
set_option maxHeartbeats 1000000 in
theorem tX8_flows__71 {G : Gt} {l : Launch} {E : Ev} {S : List Sh} {mm : Mm} {x0 : Nat} {x2 : Int32} {x4 : Int32} {p0 : Int32} {r : Int32 × Mm} (C : Cx G E cX8_flows_ 7 RX8 (some .int) 4 91) (g0 : isC S x0 8) (h : jX8_flows__71 S mm x0 x2 x4 p0 = some r) (hQ : RQ G E S (some (.int r.1)) r.2) : WM G l E S 71 [(0, .ref (E.2.2 x0)), (2, .int x2), (4, .int x4)] [.int p0] mm := by
  unfold jX8_flows__71 at h
  refine x_istore (lv' := [(5, .int p0), (0, .ref (E.2.2 x0)), (2, .int x2), (4, .int x4)]) C (dq DX8_flows_ 39 rfl) (by decide) rfl ?_
  refine x_aload_n C (dq DX8_flows_ 40 rfl) rfl 1 rfl ?_
  refine getX8_57 C (dq DX8_flows_ 41 rfl) g0 ?_
  refine x_iconst (v := 0) C (dq DX8_flows_ 42 rfl) (by decide) ?_
  refine x_pc 78 rfl ?_
  refine x_aload_n C (dq DX8_flows_ 43 rfl) rfl 1 rfl ?_
  refine getX8_60 C (dq DX8_flows_ 44 rfl) g0 ?_
  refine x_iconst (v := 0) C (dq DX8_flows_ 45 rfl) (by decide) ?_
  refine callX8_254 C (dq DX8_flows_ 46 rfl) h (by decide) (by decide) (Nat.le_of_ble_eq_true rfl) (fun m6 h => ?_)
  refine x_iconst (v := 0) C (dq DX8_flows_ 47 rfl) (by decide) ?_
  refine x_pc 87 rfl ?_
  refine x_istore (lv' := [(6, .int 0), (5, .int p0), (0, .ref (E.2.2 x0)), (2, .int x2), (4, .int x4)]) C (dq DX8_flows_ 48 rfl) (by decide) rfl ?_
  refine x_lv [2, 3, 4, 1, 0] rfl ?_
  refine x_loop (s0 := (0, m6)) (fun s8 => WM G l E S 89 [(0, .ref (E.2.2 x0)), (2, .int x2), (4, .int x4), (5, .int p0), (6, .int s8.1)] [] s8.2) h (fun s8 r hb kb kx => tX8_flows__89 C g0 hb kb (fun y9 hy => ?_))
  have h := kx y9 hy
  clear kx kb hb hy
  refine x_aload_n C (dq DX8_flows_ 56 rfl) rfl 0 rfl ?_
  refine getX8_57 C (dq DX8_flows_ 57 rfl) g0 ?_
  refine x_iload C (dq DX8_flows_ 58 rfl) 2 rfl ?_
  refine x_iald C (dq DX8_flows_ 59 rfl) h (fun a10 h => ?_)
  refine x_pc 112 rfl ?_
  refine x_iload C (dq DX8_flows_ 60 rfl) 3 rfl ?_
  refine x_isub C (dq DX8_flows_ 61 rfl) ?_
  refine x_istore (lv' := [(6, .int (a10 - p0)), (0, .ref (E.2.2 x0)), (2, .int x2), (4, .int x4), (5, .int p0)]) C (dq DX8_flows_ 62 rfl) (by decide) rfl ?_
  refine x_aload_n C (dq DX8_flows_ 63 rfl) rfl 1 rfl ?_
  refine getX8_60 C (dq DX8_flows_ 64 rfl) g0 ?_
  refine x_pc 121 rfl ?_
  refine x_iconst (v := 0) C (dq DX8_flows_ 65 rfl) (by decide) ?_
  refine x_aload_n C (dq DX8_flows_ 66 rfl) rfl 1 rfl ?_
  refine getX8_57 C (dq DX8_flows_ 67 rfl) g0 ?_
  refine x_iconst (v := 0) C (dq DX8_flows_ 68 rfl) (by decide) ?_
  refine callX8_254 C (dq DX8_flows_ 69 rfl) h (by decide) (by decide) (Nat.le_of_ble_eq_true rfl) (fun m11 h => ?_)
  refine x_pc 130 rfl ?_
  refine x_iload C (dq DX8_flows_ 70 rfl) 0 rfl ?_
  cases h
  exact x_iret C (dq DX8_flows_ 71 rfl) hQ
set_option maxHeartbeats 1000000 in
theorem tX8_flows__53 {G : Gt} {l : Launch} {E : Ev} {S : List Sh} {mm : Mm} {x0 : Nat} {x2 : Int32} {x3 : Int32} {p0 : Int32} {p1 : Int32} {r : Int32 × Mm} (C : Cx G E cX8_flows_ 7 RX8 (some .int) 4 91) (g0 : isC S x0 8) (h : jX8_flows__53 S mm x0 x2 x3 p0 p1 = some r) (hQ : RQ G E S (some (.int r.1)) r.2) : WM G l E S 53 [(0, .ref (E.2.2 x0)), (2, .int x2), (3, .int x3)] [.int p1, .int p0] mm := by
  unfold jX8_flows__53 at h
  refine x_iadd C (dq DX8_flows_ 29 rfl) ?_
  refine x_istore (lv' := [(4, .int (p0 + p1)), (0, .ref (E.2.2 x0)), (2, .int x2), (3, .int x3)]) C (dq DX8_flows_ 30 rfl) (by decide) rfl ?_
  refine x_iload_n C (dq DX8_flows_ 31 rfl) rfl 3 rfl ?_
  refine x_if_ne (tgt := 64) C (dq DX8_flows_ 32 rfl) (by decide) h (fun h => ?_) (fun h => ?_)
  · refine x_pc 64 rfl ?_
    refine x_aload_n C (dq DX8_flows_ 35 rfl) rfl 1 rfl ?_
    refine getX8_57 C (dq DX8_flows_ 36 rfl) g0 ?_
    refine x_iload C (dq DX8_flows_ 37 rfl) 0 rfl ?_
    refine x_iald C (dq DX8_flows_ 38 rfl) h (fun a5 h => ?_)
    exact x_lv [1, 2, 0] rfl (tX8_flows__71 C g0 h hQ)
  · refine x_pc 60 rfl ?_
    refine x_iconst (v := 0) C (dq DX8_flows_ 33 rfl) (by decide) ?_
    refine x_goto (tgt := 71) C (dq DX8_flows_ 34 rfl) (by decide) ?_
    exact x_lv [1, 2, 0] rfl (tX8_flows__71 C g0 h hQ)
set_option maxHeartbeats 1000000 in
theorem mX8_flows_ {l : Launch} {E : Ev} {S : List Sh} {mm : Mm} {x0 : Nat} {x1 : Int32} {x2 : Int32} {x3 : Int32} {r : Int32 × Mm} (h : fX8_flows_ S mm x0 x1 x2 x3 = some r) : Ml l E S yX8_flows_ cX8_flows_ 7 (some .int) 4 91 [.ref (E.2.2 x0), .int x1, .int x2, .int x3] mm (some (.int r.1)) r.2 := by
  refine Ml.of (by decide +kernel) (Nat.le_of_ble_eq_true rfl) (fun G C hQ => ?_)
  have C : Cx G E cX8_flows_ 7 RX8 (some .int) 4 91 := C
  unfold fX8_flows_ at h
  obtain ⟨g0, h⟩ := gd_some h
  show WM G l E S 0 [(0, .ref (E.2.2 x0)), (1, .int x1), (2, .int x2), (3, .int x3)] [] mm
  refine x_aload_n C (dq DX8_flows_ 0 rfl) rfl 0 rfl ?_
  refine x_iconst (v := 0) C (dq DX8_flows_ 1 rfl) (by decide) ?_
  refine putX8_115 C (dq DX8_flows_ 2 rfl) g0 h (fun m1 h => ?_)
  refine x_aload_n C (dq DX8_flows_ 3 rfl) rfl 0 rfl ?_
  refine x_pc 6 rfl ?_
  refine x_iload_n C (dq DX8_flows_ 4 rfl) rfl 1 rfl ?_
  refine callX8_316 C (dq DX8_flows_ 5 rfl) h (by decide) (by decide) (Nat.le_of_ble_eq_true rfl) (fun a2 h => ?_)
  refine x_if_eq (tgt := 29) C (dq DX8_flows_ 6 rfl) (by decide) h (fun h => ?_) (fun h => ?_)
  · exact x_lv [0] rfl (tX8_flows__29 C g0 h hQ)
  · refine x_iload_n C (dq DX8_flows_ 7 rfl) rfl 2 rfl ?_
    refine callX8_378 C (dq DX8_flows_ 8 rfl) h (by decide) (by decide) (Nat.le_of_ble_eq_true rfl) (fun a3 h => ?_)
    refine x_pc 17 rfl ?_
    refine x_if_eq (tgt := 29) C (dq DX8_flows_ 9 rfl) (by decide) h (fun h => ?_) (fun h => ?_)
    · exact x_lv [0] rfl (tX8_flows__29 C g0 h hQ)
    · refine x_iload_n C (dq DX8_flows_ 10 rfl) rfl 3 rfl ?_
      refine x_if_lt (tgt := 29) C (dq DX8_flows_ 11 rfl) (by decide) h (fun h => ?_) (fun h => ?_)
      · exact x_lv [0] rfl (tX8_flows__29 C g0 h hQ)
      · refine x_iload_n C (dq DX8_flows_ 12 rfl) rfl 3 rfl ?_
        refine x_iconst (v := 2) C (dq DX8_flows_ 13 rfl) (by decide) ?_
        refine x_pc 26 rfl ?_
        refine x_icmp_le (tgt := 31) C (dq DX8_flows_ 14 rfl) (by decide) h (fun h => ?_) (fun h => ?_)
        · refine x_iload_n C (dq DX8_flows_ 17 rfl) rfl 1 rfl ?_
          refine callX8_258 C (dq DX8_flows_ 18 rfl) h (by decide) (by decide) (Nat.le_of_ble_eq_true rfl) (fun a4 h => ?_)
          refine x_iload_n C (dq DX8_flows_ 19 rfl) rfl 3 rfl ?_
          refine x_if_ne (tgt := 43) C (dq DX8_flows_ 20 rfl) (by decide) h (fun h => ?_) (fun h => ?_)
          · refine x_pc 43 rfl ?_
            refine x_iload_n C (dq DX8_flows_ 23 rfl) rfl 3 rfl ?_
            refine x_iconst (v := 1) C (dq DX8_flows_ 24 rfl) (by decide) ?_
            refine x_icmp_ne (tgt := 52) C (dq DX8_flows_ 25 rfl) (by decide) h (fun h => ?_) (fun h => ?_)
            · refine x_iconst (v := 4) C (dq DX8_flows_ 28 rfl) (by decide) ?_
              exact x_lv [0, 2, 3] rfl (tX8_flows__53 C g0 h hQ)
            · refine x_iconst (v := 5) C (dq DX8_flows_ 26 rfl) (by decide) ?_
              refine x_goto (tgt := 53) C (dq DX8_flows_ 27 rfl) (by decide) ?_
              exact x_lv [0, 2, 3] rfl (tX8_flows__53 C g0 h hQ)
          · refine x_pc 39 rfl ?_
            refine x_iconst (v := 0) C (dq DX8_flows_ 21 rfl) (by decide) ?_
            refine x_goto (tgt := 53) C (dq DX8_flows_ 22 rfl) (by decide) ?_
            exact x_lv [0, 2, 3] rfl (tX8_flows__53 C g0 h hQ)
        · exact x_lv [0] rfl (tX8_flows__29 C g0 h hQ)
set_option maxHeartbeats 1000000 in
theorem qX8_flows_ {S : List Sh} {mm : Mm} {x0 : Nat} {x1 : Int32} {x2 : Int32} {x3 : Int32} {r : Int32 × Mm} (h : fX8_flows_ S mm x0 x1 x2 x3 = some r) : isC S x0 8 := by
  unfold fX8_flows_ at h
  exact (gd_some h).1
abbrev eX8_isStalled : List (Nat × Instr × Nat) := [(0, .aload_n 0, 1), (1, .iconst 0, 1), (2, .invokevirtual 336, 3), (5, .aload_n 0, 1), (6, .invokevirtual 343, 3), (9, .ifCond .eq 7, 3), (12, .iconst 1, 1), (13, .goto 4, 3), (16, .iconst 0, 1), (17, .ireturn, 1)]
theorem DX8_isStalled : (eX8_isStalled.all fun q => decide (decode cX8_isStalled q.1 = .ok q.2)) = true := by decide +kernel
def jX8_isStalled_17 (S : List Sh) (mm : Mm) (x0 : Nat) (p0 : Int32) : Option (Int32 × Mm) := bd1 (okZ p0) fun _ => some (p0, mm)
def fX8_isStalled (S : List Sh) (mm : Mm) (x0 : Nat) : Option (Int32 × Mm) := gd S x0 8 (bd1 (fX8_laysWaits S mm x0 0) fun m1 => bd2 (fX8_inCyclesNow S m1 x0) fun a2 m3 => if a2 = 0 then (jX8_isStalled_17 S m3 x0 0) else (jX8_isStalled_17 S m3 x0 1))
set_option maxHeartbeats 1000000 in
theorem tX8_isStalled_17 {G : Gt} {l : Launch} {E : Ev} {S : List Sh} {mm : Mm} {x0 : Nat} {p0 : Int32} {r : Int32 × Mm} (C : Cx G E cX8_isStalled 1 RX8 (some .boolean) 4 93) (g0 : isC S x0 8) (h : jX8_isStalled_17 S mm x0 p0 = some r) (hQ : RQ G E S (some (.int r.1)) r.2) : WM G l E S 17 [(0, .ref (E.2.2 x0))] [.int p0] mm := by
  unfold jX8_isStalled_17 at h
  refine x_zret C (dq DX8_isStalled 9 rfl) h (fun h => ?_)
  cases h
  exact hQ
set_option maxHeartbeats 1000000 in
theorem mX8_isStalled {l : Launch} {E : Ev} {S : List Sh} {mm : Mm} {x0 : Nat} {r : Int32 × Mm} (h : fX8_isStalled S mm x0 = some r) : Ml l E S yX8_isStalled cX8_isStalled 1 (some .boolean) 4 93 [.ref (E.2.2 x0)] mm (some (.int r.1)) r.2 := by
  refine Ml.of (by decide +kernel) (Nat.le_of_ble_eq_true rfl) (fun G C hQ => ?_)
  have C : Cx G E cX8_isStalled 1 RX8 (some .boolean) 4 93 := C
  unfold fX8_isStalled at h
  obtain ⟨g0, h⟩ := gd_some h
  show WM G l E S 0 [(0, .ref (E.2.2 x0))] [] mm
  refine x_aload_n C (dq DX8_isStalled 0 rfl) rfl 0 rfl ?_
  refine x_iconst (v := 0) C (dq DX8_isStalled 1 rfl) (by decide) ?_
  refine callX8_336 C (dq DX8_isStalled 2 rfl) h (by decide) (by decide) (Nat.le_of_ble_eq_true rfl) (fun m1 h => ?_)
  refine x_aload_n C (dq DX8_isStalled 3 rfl) rfl 0 rfl ?_
  refine x_pc 6 rfl ?_
  refine callX8_343 C (dq DX8_isStalled 4 rfl) h (by decide) (by decide) (Nat.le_of_ble_eq_true rfl) (fun a2 m3 h => ?_)
  refine x_if_eq (tgt := 16) C (dq DX8_isStalled 5 rfl) (by decide) h (fun h => ?_) (fun h => ?_)
  · refine x_iconst (v := 0) C (dq DX8_isStalled 8 rfl) (by decide) ?_
    exact x_lv [0] rfl (tX8_isStalled_17 C g0 h hQ)
  · refine x_iconst (v := 1) C (dq DX8_isStalled 6 rfl) (by decide) ?_
    refine x_goto (tgt := 17) C (dq DX8_isStalled 7 rfl) (by decide) ?_
    exact x_lv [0] rfl (tX8_isStalled_17 C g0 h hQ)
set_option maxHeartbeats 1000000 in
theorem qX8_isStalled {S : List Sh} {mm : Mm} {x0 : Nat} {r : Int32 × Mm} (h : fX8_isStalled S mm x0 = some r) : isC S x0 8 := by
  unfold fX8_isStalled at h
  exact (gd_some h).1
theorem callX8_381 {G : Gt} {l : Launch} {E : Ev} {S : List Sh} {cc : ByteArray} {nL : Nat} {rt : Option FieldType} {fr lo : Nat} {pc : Nat} {lv : List (Nat × Value)} {rest : List Value} {mm : Mm} {α : Type} {f : Int32 → Mm → Option α} {r : α} {o : Nat} (C : Cx G E cc nL RX8 rt fr lo) (d : decode cc pc = .ok (.invokevirtual 381, 3)) (h : bd2 (fX8_isStalled S mm o) f = some r) (hfr : 5 ≤ fr) (hlo : 113 ≤ lo) (hrs : (rest.map fun v => v.category).sum ≤ 8) (k : ∀ v m1, f v m1 = some r → WM G l E S (pc + 3) lv (.int v :: rest) m1) : WM G l E S pc lv (.ref (E.2.2 o) :: rest) mm := by
  obtain ⟨v, m1, hv, hf⟩ := bd2_some h
  exact x_callV (n := 0) (As := []) (rest := rest) C (mX8_isStalled hv) (qX8_isStalled hv) (T := TX8) (N := 49) rfl (gmem 1410 (by decide +kernel) rfl) (gmem 1412 (by decide +kernel) rfl) (gmemS 94 (by decide +kernel) rfl) (gmem 9 (by decide +kernel) rfl) (gmem 1413 (by decide +kernel) rfl) (by decide +kernel) rfl hfr hlo hrs d rfl rfl (k v m1 hf)
abbrev eX8_stalls : List (Nat × Instr × Nat) := [(0, .aload_n 0, 1), (1, .iconst 0, 1), (2, .putfield 115, 3), (5, .aload_n 0, 1), (6, .getfield 57, 3), (9, .iconst 0, 1), (10, .aload_n 0, 1), (11, .getfield 60, 3), (14, .iconst 0, 1), (15, .invokestatic 254, 3), (18, .iconst 0, 1), (19, .istore_n 1, 1), (20, .iload_n 1, 1), (21, .sipush 300, 3), (24, .if_icmp .ge 20, 3), (27, .aload_n 0, 1), (28, .invokevirtual 381, 3), (31, .ifCond .ne 13, 3), (34, .aload_n 0, 1), (35, .invokevirtual 313, 3), (38, .iinc 1 1, 3), (41, .goto (-21), 3), (44, .aload_n 0, 1), (45, .invokevirtual 381, 3), (48, .istore_n 2, 1), (49, .aload_n 0, 1), (50, .getfield 60, 3), (53, .iconst 0, 1), (54, .aload_n 0, 1), (55, .getfield 57, 3), (58, .iconst 0, 1), (59, .invokestatic 254, 3), (62, .iload_n 2, 1), (63, .ifCond .eq 7, 3), (66, .iload_n 1, 1), (67, .goto 5, 3), (70, .bipush (-2), 2), (72, .ireturn, 1)]
theorem DX8_stalls : (eX8_stalls.all fun q => decide (decode cX8_stalls q.1 = .ok q.2)) = true := by decide +kernel
def bX8_stalls_20 (S : List Sh) (x0 : Nat) (x1 : Int32) (mm : Mm) : Option ((Int32 × Mm) ⊕ (Int32 × Mm)) := if 300 ≤ x1 then (some (.inr (x1, mm))) else (bd2 (fX8_isStalled S mm x0) fun a3 m4 => if ¬ a3 = 0 then (some (.inr (x1, m4))) else (bd1 (fX8_tickGoes S m4 x0) fun m5 => some (.inl (x1 + 1, m5))))
def jX8_stalls_72 (S : List Sh) (mm : Mm) (x0 : Nat) (p0 : Int32) : Option (Int32 × Mm) := some (p0, mm)
def jX8_stalls_44 (S : List Sh) (mm : Mm) (x0 : Nat) (x1 : Int32)  : Option (Int32 × Mm) := bd2 (fX8_isStalled S mm x0) fun a8 m9 => bd1 (fX8_copies S m9 (rf S m9 x0 27) 0 (rf S m9 x0 26) 0) fun m10 => if a8 = 0 then (jX8_stalls_72 S m10 x0 (-2)) else (jX8_stalls_72 S m10 x0 x1)
def fX8_stalls (S : List Sh) (mm : Mm) (x0 : Nat) : Option (Int32 × Mm) := gd S x0 8 (bd1 (some (u1 mm x0 0 0)) fun m1 => bd1 (fX8_copies S m1 (rf S m1 x0 26) 0 (rf S m1 x0 27) 0) fun m2 => bd1 (lp (fun s6 => bX8_stalls_20 S x0 s6.1 s6.2) fu (0, m2)) fun y7 => jX8_stalls_44 S y7.2 x0 y7.1)
set_option maxHeartbeats 1000000 in
theorem tX8_stalls_20 {G : Gt} {l : Launch} {E : Ev} {S : List Sh} {x0 : Nat} {x1 : Int32} {mm : Mm} {r : (Int32 × Mm) ⊕ (Int32 × Mm)} (C : Cx G E cX8_stalls 3 RX8 (some .int) 5 113) (g0 : isC S x0 8) (h : bX8_stalls_20 S x0 x1 mm = some r) (kb : ∀ z : Int32 × Mm, r = .inl z → WM G l E S 20 [(0, .ref (E.2.2 x0)), (1, .int z.1)] [] z.2) (kx : ∀ z : Int32 × Mm, r = .inr z → WM G l E S 44 [(0, .ref (E.2.2 x0)), (1, .int z.1)] [] z.2) : WM G l E S 20 [(0, .ref (E.2.2 x0)), (1, .int x1)] [] mm := by
  unfold bX8_stalls_20 at h
  refine x_iload_n C (dq DX8_stalls 12 rfl) rfl 1 rfl ?_
  refine x_sipush (v := 300) C (dq DX8_stalls 13 rfl) (by decide) ?_
  refine x_icmp_ge (tgt := 44) C (dq DX8_stalls 14 rfl) (by decide) h (fun h => ?_) (fun h => ?_)
  · cases h
    exact x_lv [0, 1] rfl (kx (x1, mm) rfl)
  · refine x_aload_n C (dq DX8_stalls 15 rfl) rfl 0 rfl ?_
    refine x_pc 28 rfl ?_
    refine callX8_381 C (dq DX8_stalls 16 rfl) h (by decide) (by decide) (Nat.le_of_ble_eq_true rfl) (fun a3 m4 h => ?_)
    refine x_if_ne (tgt := 44) C (dq DX8_stalls 17 rfl) (by decide) h (fun h => ?_) (fun h => ?_)
    · cases h
      exact x_lv [0, 1] rfl (kx (x1, m4) rfl)
    · refine x_aload_n C (dq DX8_stalls 18 rfl) rfl 0 rfl ?_
      refine callX8_313 C (dq DX8_stalls 19 rfl) h (by decide) (by decide) (Nat.le_of_ble_eq_true rfl) (fun m5 h => ?_)
      refine x_iinc (v := x1 + 1) (lv' := [(1, .int (x1 + 1)), (0, .ref (E.2.2 x0))]) C (dq DX8_stalls 20 rfl) 1 rfl rfl (by decide) rfl ?_
      refine x_pc 41 rfl ?_
      refine x_goto (tgt := 20) C (dq DX8_stalls 21 rfl) (by decide) ?_
      cases h
      exact x_lv [1, 0] rfl (kb (x1 + 1, m5) rfl)
set_option maxHeartbeats 1000000 in
theorem tX8_stalls_72 {G : Gt} {l : Launch} {E : Ev} {S : List Sh} {mm : Mm} {x0 : Nat} {p0 : Int32} {r : Int32 × Mm} (C : Cx G E cX8_stalls 3 RX8 (some .int) 5 113) (g0 : isC S x0 8) (h : jX8_stalls_72 S mm x0 p0 = some r) (hQ : RQ G E S (some (.int r.1)) r.2) : WM G l E S 72 [(0, .ref (E.2.2 x0))] [.int p0] mm := by
  unfold jX8_stalls_72 at h
  cases h
  exact x_iret C (dq DX8_stalls 37 rfl) hQ
set_option maxHeartbeats 1000000 in
theorem tX8_stalls_44 {G : Gt} {l : Launch} {E : Ev} {S : List Sh} {mm : Mm} {x0 : Nat} {x1 : Int32}  {r : Int32 × Mm} (C : Cx G E cX8_stalls 3 RX8 (some .int) 5 113) (g0 : isC S x0 8) (h : jX8_stalls_44 S mm x0 x1 = some r) (hQ : RQ G E S (some (.int r.1)) r.2) : WM G l E S 44 [(0, .ref (E.2.2 x0)), (1, .int x1)] [] mm := by
  unfold jX8_stalls_44 at h
  refine x_aload_n C (dq DX8_stalls 22 rfl) rfl 0 rfl ?_
  refine callX8_381 C (dq DX8_stalls 23 rfl) h (by decide) (by decide) (Nat.le_of_ble_eq_true rfl) (fun a8 m9 h => ?_)
  refine x_istore_n (lv' := [(2, .int a8), (0, .ref (E.2.2 x0)), (1, .int x1)]) C (dq DX8_stalls 24 rfl) rfl (by decide) rfl ?_
  refine x_aload_n C (dq DX8_stalls 25 rfl) rfl 1 rfl ?_
  refine x_pc 50 rfl ?_
  refine getX8_60 C (dq DX8_stalls 26 rfl) g0 ?_
  refine x_iconst (v := 0) C (dq DX8_stalls 27 rfl) (by decide) ?_
  refine x_aload_n C (dq DX8_stalls 28 rfl) rfl 1 rfl ?_
  refine getX8_57 C (dq DX8_stalls 29 rfl) g0 ?_
  refine x_iconst (v := 0) C (dq DX8_stalls 30 rfl) (by decide) ?_
  refine x_pc 59 rfl ?_
  refine callX8_254 C (dq DX8_stalls 31 rfl) h (by decide) (by decide) (Nat.le_of_ble_eq_true rfl) (fun m10 h => ?_)
  refine x_iload_n C (dq DX8_stalls 32 rfl) rfl 0 rfl ?_
  refine x_if_eq (tgt := 70) C (dq DX8_stalls 33 rfl) (by decide) h (fun h => ?_) (fun h => ?_)
  · refine x_bipush (v := (-2)) C (dq DX8_stalls 36 rfl) (by decide) ?_
    exact x_lv [1] rfl (tX8_stalls_72 C g0 h hQ)
  · refine x_iload_n C (dq DX8_stalls 34 rfl) rfl 2 rfl ?_
    refine x_goto (tgt := 72) C (dq DX8_stalls 35 rfl) (by decide) ?_
    exact x_lv [1] rfl (tX8_stalls_72 C g0 h hQ)
set_option maxHeartbeats 1000000 in
theorem mX8_stalls {l : Launch} {E : Ev} {S : List Sh} {mm : Mm} {x0 : Nat} {r : Int32 × Mm} (h : fX8_stalls S mm x0 = some r) : Ml l E S yX8_stalls cX8_stalls 3 (some .int) 5 113 [.ref (E.2.2 x0)] mm (some (.int r.1)) r.2 := by
  refine Ml.of (by decide +kernel) (Nat.le_of_ble_eq_true rfl) (fun G C hQ => ?_)
  have C : Cx G E cX8_stalls 3 RX8 (some .int) 5 113 := C
  unfold fX8_stalls at h
  obtain ⟨g0, h⟩ := gd_some h
  show WM G l E S 0 [(0, .ref (E.2.2 x0))] [] mm
  refine x_aload_n C (dq DX8_stalls 0 rfl) rfl 0 rfl ?_
  refine x_iconst (v := 0) C (dq DX8_stalls 1 rfl) (by decide) ?_
  refine putX8_115 C (dq DX8_stalls 2 rfl) g0 h (fun m1 h => ?_)
  refine x_aload_n C (dq DX8_stalls 3 rfl) rfl 0 rfl ?_
  refine x_pc 6 rfl ?_
  refine getX8_57 C (dq DX8_stalls 4 rfl) g0 ?_
  refine x_iconst (v := 0) C (dq DX8_stalls 5 rfl) (by decide) ?_
  refine x_aload_n C (dq DX8_stalls 6 rfl) rfl 0 rfl ?_
  refine getX8_60 C (dq DX8_stalls 7 rfl) g0 ?_
  refine x_iconst (v := 0) C (dq DX8_stalls 8 rfl) (by decide) ?_
  refine x_pc 15 rfl ?_
  refine callX8_254 C (dq DX8_stalls 9 rfl) h (by decide) (by decide) (Nat.le_of_ble_eq_true rfl) (fun m2 h => ?_)
  refine x_iconst (v := 0) C (dq DX8_stalls 10 rfl) (by decide) ?_
  refine x_istore_n (lv' := [(1, .int 0), (0, .ref (E.2.2 x0))]) C (dq DX8_stalls 11 rfl) rfl (by decide) rfl ?_
  refine x_lv [1, 0] rfl ?_
  refine x_loop (s0 := (0, m2)) (fun s6 => WM G l E S 20 [(0, .ref (E.2.2 x0)), (1, .int s6.1)] [] s6.2) h (fun s6 r hb kb kx => tX8_stalls_20 C g0 hb kb (fun y7 hy => ?_))
  have h := kx y7 hy
  clear kx kb hb hy
  exact x_lv [0, 1] rfl (tX8_stalls_44 C g0 h hQ)
set_option maxHeartbeats 1000000 in
theorem qX8_stalls {S : List Sh} {mm : Mm} {x0 : Nat} {r : Int32 × Mm} (h : fX8_stalls S mm x0 = some r) : isC S x0 8 := by
  unfold fX8_stalls at h
  exact (gd_some h).1
abbrev eX8_isEmpty : List (Nat × Instr × Nat) := [(0, .iconst 0, 1), (1, .istore_n 1, 1), (2, .iload_n 1, 1), (3, .aload_n 0, 1), (4, .invokevirtual 248, 3), (7, .if_icmp .ge 19, 3), (10, .aload_n 0, 1), (11, .iload_n 1, 1), (12, .invokevirtual 264, 3), (15, .ifCond .le 5, 3), (18, .iconst 0, 1), (19, .ireturn, 1), (20, .iinc 1 1, 3), (23, .goto (-21), 3), (26, .iconst 1, 1), (27, .ireturn, 1)]
theorem DX8_isEmpty : (eX8_isEmpty.all fun q => decide (decode cX8_isEmpty q.1 = .ok q.2)) = true := by decide +kernel
def bX8_isEmpty_2 (S : List Sh) (mm : Mm) (x0 : Nat) (x1 : Int32) : Option ((Int32) ⊕ ((Int32) ⊕ (Unit))) := bd1 (fX8_links S mm x0) fun a1 => if a1 ≤ x1 then (some (.inr (.inr ()))) else (bd1 (fX8_queueOf S mm x0 x1) fun a2 => if a2 ≤ 0 then (some (.inl (x1 + 1))) else (bd1 (okZ 0) fun _ => some (.inr (.inl 0))))
def fX8_isEmpty (S : List Sh) (mm : Mm) (x0 : Nat) : Option (Int32) := gd S x0 8 (bdR (lp (fun s3 => bX8_isEmpty_2 S mm x0 s3) fu 0) (fun a5 => some a5) fun y4 => bd1 (okZ 1) fun _ => some 1)
set_option maxHeartbeats 1000000 in
theorem tX8_isEmpty_2 {G : Gt} {l : Launch} {E : Ev} {S : List Sh} {mm : Mm} {x0 : Nat} {x1 : Int32} {r : (Int32) ⊕ ((Int32) ⊕ (Unit))} (C : Cx G E cX8_isEmpty 2 RX8 (some .boolean) 1 23) (g0 : isC S x0 8) (h : bX8_isEmpty_2 S mm x0 x1 = some r) (kb : ∀ z : Int32, r = .inl z → WM G l E S 2 [(0, .ref (E.2.2 x0)), (1, .int z)] [] mm) (kr : ∀ z : Int32, r = .inr (.inl z) → RQ G E S (some (.int z)) mm) (kx : ∀ z : Unit, r = .inr (.inr z) → WM G l E S 26 [(0, .ref (E.2.2 x0))] [] mm) : WM G l E S 2 [(0, .ref (E.2.2 x0)), (1, .int x1)] [] mm := by
  unfold bX8_isEmpty_2 at h
  refine x_iload_n C (dq DX8_isEmpty 2 rfl) rfl 1 rfl ?_
  refine x_aload_n C (dq DX8_isEmpty 3 rfl) rfl 0 rfl ?_
  refine callX8_248 C (dq DX8_isEmpty 4 rfl) h (by decide) (by decide) (Nat.le_of_ble_eq_true rfl) (fun a1 h => ?_)
  refine x_icmp_ge (tgt := 26) C (dq DX8_isEmpty 5 rfl) (by decide) h (fun h => ?_) (fun h => ?_)
  · cases h
    exact x_lv [0] rfl (kx () rfl)
  · refine x_pc 10 rfl ?_
    refine x_aload_n C (dq DX8_isEmpty 6 rfl) rfl 0 rfl ?_
    refine x_iload_n C (dq DX8_isEmpty 7 rfl) rfl 1 rfl ?_
    refine callX8_264 C (dq DX8_isEmpty 8 rfl) h (by decide) (by decide) (Nat.le_of_ble_eq_true rfl) (fun a2 h => ?_)
    refine x_if_le (tgt := 20) C (dq DX8_isEmpty 9 rfl) (by decide) h (fun h => ?_) (fun h => ?_)
    · refine x_iinc (v := x1 + 1) (lv' := [(1, .int (x1 + 1)), (0, .ref (E.2.2 x0))]) C (dq DX8_isEmpty 12 rfl) 1 rfl rfl (by decide) rfl ?_
      refine x_pc 23 rfl ?_
      refine x_goto (tgt := 2) C (dq DX8_isEmpty 13 rfl) (by decide) ?_
      cases h
      exact x_lv [1, 0] rfl (kb (x1 + 1) rfl)
    · refine x_iconst (v := 0) C (dq DX8_isEmpty 10 rfl) (by decide) ?_
      refine x_pc 19 rfl ?_
      refine x_zret C (dq DX8_isEmpty 11 rfl) h (fun h => ?_)
      cases h
      exact (kr 0 rfl)
set_option maxHeartbeats 1000000 in
theorem mX8_isEmpty {l : Launch} {E : Ev} {S : List Sh} {mm : Mm} {x0 : Nat} {r : Int32} (h : fX8_isEmpty S mm x0 = some r) : Ml l E S yX8_isEmpty cX8_isEmpty 2 (some .boolean) 1 23 [.ref (E.2.2 x0)] mm (some (.int r)) mm := by
  refine Ml.of (by decide +kernel) (Nat.le_of_ble_eq_true rfl) (fun G C hQ => ?_)
  have C : Cx G E cX8_isEmpty 2 RX8 (some .boolean) 1 23 := C
  unfold fX8_isEmpty at h
  obtain ⟨g0, h⟩ := gd_some h
  show WM G l E S 0 [(0, .ref (E.2.2 x0))] [] mm
  refine x_iconst (v := 0) C (dq DX8_isEmpty 0 rfl) (by decide) ?_
  refine x_istore_n (lv' := [(1, .int 0), (0, .ref (E.2.2 x0))]) C (dq DX8_isEmpty 1 rfl) rfl (by decide) rfl ?_
  refine x_lv [1, 0] rfl ?_
  refine x_loopR (s0 := 0) (fun s3 => WM G l E S 2 [(0, .ref (E.2.2 x0)), (1, .int s3)] [] mm) h (fun s3 r hb kb kg kx => tX8_isEmpty_2 C g0 hb kb (fun a5 ha => ?_) (fun y4 hy => ?_))
  · have h := kg a5 ha
    cases h
    exact hQ
  · have h := kx y4 hy
    clear kx kb hb hy kg
    refine x_iconst (v := 1) C (dq DX8_isEmpty 14 rfl) (by decide) ?_
    refine x_zret C (dq DX8_isEmpty 15 rfl) h (fun h => ?_)
    cases h
    exact hQ
set_option maxHeartbeats 1000000 in
theorem qX8_isEmpty {S : List Sh} {mm : Mm} {x0 : Nat} {r : Int32} (h : fX8_isEmpty S mm x0 = some r) : isC S x0 8 := by
  unfold fX8_isEmpty at h
  exact (gd_some h).1
