theorem callX5_103 {G : Gt} {l : Launch} {E : Ev} {S : List Sh} {cc : ByteArray} {nL : Nat} {rt : Option FieldType} {fr lo : Nat} {pc : Nat} {lv : List (Nat × Value)} {rest : List Value} {mm : Mm} {α : Type} {f : Mm → Option α} {r : α} {a0 : Nat} {a1 : Nat} {a2 : Int32} (C : Cx G E cc nL RX5 rt fr lo) (d : decode cc pc = .ok (.invokestatic 103, 3)) (h : bd1 (fX5_climb S mm a0 a1 a2) f = some r) (hfr : 2 ≤ fr) (hlo : 54 ≤ lo) (hrs : (rest.map fun v => v.category).sum ≤ 8) (k : ∀ m1, f m1 = some r → WM G l E S (pc + 3) lv rest m1) : WM G l E S pc lv (.int a2 :: .ref (E.2.2 a1) :: .ref (E.2.2 a0) :: rest) mm := by
  obtain ⟨m1, hv, hf⟩ := bd1_some h
  exact x_callS (n := 3) (As := [.ref (E.2.2 a0), .ref (E.2.2 a1), .int a2]) (rest := rest) C (mX5_climb hv) (gmem 495 (by decide +kernel) rfl) (gmem 496 (by decide +kernel) rfl) (gmem 4 (by decide +kernel) rfl) (gmem 497 (by decide +kernel) rfl) (by decide +kernel) rfl hfr hlo hrs d rfl rfl (k m1 hf)
abbrev eX5_recover : List (Nat × Instr × Nat) := [(0, .aload_n 2, 1), (1, .sipush 280, 3), (4, .iload_n 3, 1), (5, .iadd, 1), (6, .iaload, 1), (7, .aload_n 0, 1), (8, .getfield 18, 3), (11, .iload_n 3, 1), (12, .iaload, 1), (13, .iadd, 1), (14, .istore 4, 2), (16, .aload_n 1, 1), (17, .getfield 88, 3), (20, .iconst 3, 1), (21, .iaload, 1), (22, .istore 5, 2), (24, .iload 5, 2), (26, .ifCond .le 37, 3), (29, .iload 4, 2), (31, .iload 5, 2), (33, .if_icmp .lt 30, 3), (36, .iload 4, 2), (38, .iload 5, 2), (40, .isub, 1), (41, .istore 4, 2), (43, .aload_n 2, 1), (44, .sipush 216, 3), (47, .iload_n 3, 1), (48, .iadd, 1), (49, .dup2, 1), (50, .iaload, 1), (51, .iconst 1, 1), (52, .iadd, 1), (53, .iastore, 1), (54, .aload_n 1, 1), (55, .aload_n 2, 1), (56, .iload_n 3, 1), (57, .invokestatic 103, 3), (60, .goto (-36), 3), (63, .aload_n 2, 1), (64, .sipush 280, 3), (67, .iload_n 3, 1), (68, .iadd, 1), (69, .iload 4, 2), (71, .iastore, 1), (72, .aload_n 2, 1), (73, .sipush 288, 3), (76, .iload_n 3, 1), (77, .iadd, 1), (78, .dup2, 1), (79, .iaload, 1), (80, .iconst 1, 1), (81, .iadd, 1), (82, .iastore, 1), (83, .aload_n 2, 1), (84, .sipush 288, 3), (87, .iload_n 3, 1), (88, .iadd, 1), (89, .iaload, 1), (90, .aload_n 1, 1), (91, .getfield 88, 3), (94, .iconst 4, 1), (95, .iaload, 1), (96, .if_icmp .ne 28, 3), (99, .aload_n 2, 1), (100, .sipush 288, 3), (103, .iload_n 3, 1), (104, .iadd, 1), (105, .iconst 0, 1), (106, .iastore, 1), (107, .aload_n 2, 1), (108, .sipush 224, 3), (111, .iload_n 3, 1), (112, .iadd, 1), (113, .dup2, 1), (114, .iaload, 1), (115, .iconst 1, 1), (116, .iadd, 1), (117, .iastore, 1), (118, .aload_n 1, 1), (119, .aload_n 2, 1), (120, .iload_n 3, 1), (121, .invokestatic 103, 3), (124, .return_, 1)]
theorem DX5_recover : (eX5_recover.all fun q => decide (decode cX5_recover q.1 = .ok q.2)) = true := by decide +kernel
def bX5_recover_24 (S : List Sh) (x0 : Nat) (x1 : Nat) (x2 : Nat) (x3 : Int32) (x5 : Int32) (x4 : Int32) (mm : Mm) : Option ((Int32 × Mm) ⊕ (Int32 × Mm)) := if x5 ≤ 0 then (some (.inr (x4, mm))) else (if x4 < x5 then (some (.inr (x4, mm))) else (bd1 (ldA S 0 mm x2 (216 + x3)) fun a4 => bd1 (stA S 0 mm x2 (216 + x3) (a4 + 1)) fun m5 => bd1 (fX5_climb S m5 x1 x2 x3) fun m6 => some (.inl ((x4 - x5), m6))))
def jX5_recover_124 (S : List Sh) (mm : Mm) (x0 : Nat) (x1 : Nat)  : Option (Mm) := some mm
def jX5_recover_63 (S : List Sh) (mm : Mm) (x0 : Nat) (x1 : Nat) (x2 : Nat) (x3 : Int32) (x4 : Int32)  : Option (Mm) := bd1 (stA S 0 mm x2 (280 + x3) x4) fun m9 => bd1 (ldA S 0 m9 x2 (288 + x3)) fun a10 => bd1 (stA S 0 m9 x2 (288 + x3) (a10 + 1)) fun m11 => bd1 (ldA S 0 m11 x2 (288 + x3)) fun a12 => bd1 (ldA S 0 m11 (rf S m11 x1 8) 4) fun a13 => if ¬ a12 = a13 then (jX5_recover_124 S m11 x0 x1) else (bd1 (stA S 0 m11 x2 (288 + x3) 0) fun m14 => bd1 (ldA S 0 m14 x2 (224 + x3)) fun a15 => bd1 (stA S 0 m14 x2 (224 + x3) (a15 + 1)) fun m16 => bd1 (fX5_climb S m16 x1 x2 x3) fun m17 => jX5_recover_124 S m17 x0 x1)
def fX5_recover (S : List Sh) (mm : Mm) (x0 : Nat) (x1 : Nat) (x2 : Nat) (x3 : Int32) : Option (Mm) := gd S x0 5 (gd S x1 1 (bd1 (ldA S 0 mm x2 (280 + x3)) fun a1 => bd1 (ldA S 0 mm (rf S mm x0 2) x3) fun a2 => bd1 (ldA S 0 mm (rf S mm x1 8) 3) fun a3 => bd1 (lp (fun s7 => bX5_recover_24 S x0 x1 x2 x3 a3 s7.1 s7.2) fu ((a1 + a2), mm)) fun y8 => jX5_recover_63 S y8.2 x0 x1 x2 x3 y8.1))
set_option maxHeartbeats 1000000 in
theorem tX5_recover_24 {G : Gt} {l : Launch} {E : Ev} {S : List Sh} {x0 : Nat} {x1 : Nat} {x2 : Nat} {x3 : Int32} {x5 : Int32} {x4 : Int32} {mm : Mm} {r : (Int32 × Mm) ⊕ (Int32 × Mm)} (C : Cx G E cX5_recover 6 RX5 none 2 54) (g0 : isC S x0 5) (g1 : isC S x1 1) (h : bX5_recover_24 S x0 x1 x2 x3 x5 x4 mm = some r) (kb : ∀ z : Int32 × Mm, r = .inl z → WM G l E S 24 [(0, .ref (E.2.2 x0)), (1, .ref (E.2.2 x1)), (2, .ref (E.2.2 x2)), (3, .int x3), (4, .int z.1), (5, .int x5)] [] z.2) (kx : ∀ z : Int32 × Mm, r = .inr z → WM G l E S 63 [(0, .ref (E.2.2 x0)), (1, .ref (E.2.2 x1)), (2, .ref (E.2.2 x2)), (3, .int x3), (4, .int z.1), (5, .int x5)] [] z.2) : WM G l E S 24 [(0, .ref (E.2.2 x0)), (1, .ref (E.2.2 x1)), (2, .ref (E.2.2 x2)), (3, .int x3), (4, .int x4), (5, .int x5)] [] mm := by
  unfold bX5_recover_24 at h
  refine x_iload C (dq DX5_recover 16 rfl) 5 rfl ?_
  refine x_if_le (tgt := 63) C (dq DX5_recover 17 rfl) (by decide) h (fun h => ?_) (fun h => ?_)
  · cases h
    exact x_lv [0, 1, 2, 3, 4, 5] rfl (kx (x4, mm) rfl)
  · refine x_iload C (dq DX5_recover 18 rfl) 4 rfl ?_
    refine x_iload C (dq DX5_recover 19 rfl) 5 rfl ?_
    refine x_pc 33 rfl ?_
    refine x_icmp_lt (tgt := 63) C (dq DX5_recover 20 rfl) (by decide) h (fun h => ?_) (fun h => ?_)
    · cases h
      exact x_lv [0, 1, 2, 3, 4, 5] rfl (kx (x4, mm) rfl)
    · refine x_iload C (dq DX5_recover 21 rfl) 4 rfl ?_
      refine x_iload C (dq DX5_recover 22 rfl) 5 rfl ?_
      refine x_isub C (dq DX5_recover 23 rfl) ?_
      refine x_istore (lv' := [(4, .int (x4 - x5)), (0, .ref (E.2.2 x0)), (1, .ref (E.2.2 x1)), (2, .ref (E.2.2 x2)), (3, .int x3), (5, .int x5)]) C (dq DX5_recover 24 rfl) (by decide) rfl ?_
      refine x_pc 43 rfl ?_
      refine x_aload_n C (dq DX5_recover 25 rfl) rfl 3 rfl ?_
      refine x_sipush (v := 216) C (dq DX5_recover 26 rfl) (by decide) ?_
      refine x_iload_n C (dq DX5_recover 27 rfl) rfl 4 rfl ?_
      refine x_iadd C (dq DX5_recover 28 rfl) ?_
      refine x_dup2 C (dq DX5_recover 29 rfl) rfl rfl ?_
      refine x_pc 50 rfl ?_
      refine x_iald C (dq DX5_recover 30 rfl) h (fun a4 h => ?_)
      refine x_iconst (v := 1) C (dq DX5_recover 31 rfl) (by decide) ?_
      refine x_iadd C (dq DX5_recover 32 rfl) ?_
      refine x_iast C (dq DX5_recover 33 rfl) h (fun m5 h => ?_)
      refine x_aload_n C (dq DX5_recover 34 rfl) rfl 2 rfl ?_
      refine x_pc 55 rfl ?_
      refine x_aload_n C (dq DX5_recover 35 rfl) rfl 3 rfl ?_
      refine x_iload_n C (dq DX5_recover 36 rfl) rfl 4 rfl ?_
      refine callX5_103 C (dq DX5_recover 37 rfl) h (by decide) (by decide) (Nat.le_of_ble_eq_true rfl) (fun m6 h => ?_)
      refine x_goto (tgt := 24) C (dq DX5_recover 38 rfl) (by decide) ?_
      cases h
      exact x_lv [1, 2, 3, 4, 0, 5] rfl (kb ((x4 - x5), m6) rfl)
set_option maxHeartbeats 1000000 in
theorem tX5_recover_124 {G : Gt} {l : Launch} {E : Ev} {S : List Sh} {mm : Mm} {x0 : Nat} {x1 : Nat}  {r : Mm} (C : Cx G E cX5_recover 6 RX5 none 2 54) (g0 : isC S x0 5) (g1 : isC S x1 1) (h : jX5_recover_124 S mm x0 x1 = some r) (hQ : RQ G E S none r) : WM G l E S 124 [(0, .ref (E.2.2 x0)), (1, .ref (E.2.2 x1))] [] mm := by
  unfold jX5_recover_124 at h
  cases h
  exact x_vret C (dq DX5_recover 83 rfl) hQ
set_option maxHeartbeats 1000000 in
theorem tX5_recover_63 {G : Gt} {l : Launch} {E : Ev} {S : List Sh} {mm : Mm} {x0 : Nat} {x1 : Nat} {x2 : Nat} {x3 : Int32} {x4 : Int32}  {r : Mm} (C : Cx G E cX5_recover 6 RX5 none 2 54) (g0 : isC S x0 5) (g1 : isC S x1 1) (h : jX5_recover_63 S mm x0 x1 x2 x3 x4 = some r) (hQ : RQ G E S none r) : WM G l E S 63 [(0, .ref (E.2.2 x0)), (1, .ref (E.2.2 x1)), (2, .ref (E.2.2 x2)), (3, .int x3), (4, .int x4)] [] mm := by
  unfold jX5_recover_63 at h
  refine x_aload_n C (dq DX5_recover 39 rfl) rfl 2 rfl ?_
  refine x_sipush (v := 280) C (dq DX5_recover 40 rfl) (by decide) ?_
  refine x_iload_n C (dq DX5_recover 41 rfl) rfl 3 rfl ?_
  refine x_iadd C (dq DX5_recover 42 rfl) ?_
  refine x_pc 69 rfl ?_
  refine x_iload C (dq DX5_recover 43 rfl) 4 rfl ?_
  refine x_iast C (dq DX5_recover 44 rfl) h (fun m9 h => ?_)
  refine x_aload_n C (dq DX5_recover 45 rfl) rfl 2 rfl ?_
  refine x_sipush (v := 288) C (dq DX5_recover 46 rfl) (by decide) ?_
  refine x_iload_n C (dq DX5_recover 47 rfl) rfl 3 rfl ?_
  refine x_pc 77 rfl ?_
  refine x_iadd C (dq DX5_recover 48 rfl) ?_
  refine x_dup2 C (dq DX5_recover 49 rfl) rfl rfl ?_
  refine x_iald C (dq DX5_recover 50 rfl) h (fun a10 h => ?_)
  refine x_iconst (v := 1) C (dq DX5_recover 51 rfl) (by decide) ?_
  refine x_iadd C (dq DX5_recover 52 rfl) ?_
  refine x_pc 82 rfl ?_
  refine x_iast C (dq DX5_recover 53 rfl) h (fun m11 h => ?_)
  refine x_aload_n C (dq DX5_recover 54 rfl) rfl 2 rfl ?_
  refine x_sipush (v := 288) C (dq DX5_recover 55 rfl) (by decide) ?_
  refine x_iload_n C (dq DX5_recover 56 rfl) rfl 3 rfl ?_
  refine x_iadd C (dq DX5_recover 57 rfl) ?_
  refine x_pc 89 rfl ?_
  refine x_iald C (dq DX5_recover 58 rfl) h (fun a12 h => ?_)
  refine x_aload_n C (dq DX5_recover 59 rfl) rfl 1 rfl ?_
  refine getX5_88 C (dq DX5_recover 60 rfl) g1 ?_
  refine x_iconst (v := 4) C (dq DX5_recover 61 rfl) (by decide) ?_
  refine x_iald C (dq DX5_recover 62 rfl) h (fun a13 h => ?_)
  refine x_pc 96 rfl ?_
  refine x_icmp_ne (tgt := 124) C (dq DX5_recover 63 rfl) (by decide) h (fun h => ?_) (fun h => ?_)
  · exact x_lv [0, 1] rfl (tX5_recover_124 C g0 g1 h hQ)
  · refine x_aload_n C (dq DX5_recover 64 rfl) rfl 2 rfl ?_
    refine x_sipush (v := 288) C (dq DX5_recover 65 rfl) (by decide) ?_
    refine x_iload_n C (dq DX5_recover 66 rfl) rfl 3 rfl ?_
    refine x_iadd C (dq DX5_recover 67 rfl) ?_
    refine x_pc 105 rfl ?_
    refine x_iconst (v := 0) C (dq DX5_recover 68 rfl) (by decide) ?_
    refine x_iast C (dq DX5_recover 69 rfl) h (fun m14 h => ?_)
    refine x_aload_n C (dq DX5_recover 70 rfl) rfl 2 rfl ?_
    refine x_sipush (v := 224) C (dq DX5_recover 71 rfl) (by decide) ?_
    refine x_iload_n C (dq DX5_recover 72 rfl) rfl 3 rfl ?_
    refine x_pc 112 rfl ?_
    refine x_iadd C (dq DX5_recover 73 rfl) ?_
    refine x_dup2 C (dq DX5_recover 74 rfl) rfl rfl ?_
    refine x_iald C (dq DX5_recover 75 rfl) h (fun a15 h => ?_)
    refine x_iconst (v := 1) C (dq DX5_recover 76 rfl) (by decide) ?_
    refine x_iadd C (dq DX5_recover 77 rfl) ?_
    refine x_pc 117 rfl ?_
    refine x_iast C (dq DX5_recover 78 rfl) h (fun m16 h => ?_)
    refine x_aload_n C (dq DX5_recover 79 rfl) rfl 1 rfl ?_
    refine x_aload_n C (dq DX5_recover 80 rfl) rfl 2 rfl ?_
    refine x_iload_n C (dq DX5_recover 81 rfl) rfl 3 rfl ?_
    refine callX5_103 C (dq DX5_recover 82 rfl) h (by decide) (by decide) (Nat.le_of_ble_eq_true rfl) (fun m17 h => ?_)
    exact x_lv [0, 1] rfl (tX5_recover_124 C g0 g1 h hQ)
set_option maxHeartbeats 1000000 in
theorem mX5_recover {l : Launch} {E : Ev} {S : List Sh} {mm : Mm} {x0 : Nat} {x1 : Nat} {x2 : Nat} {x3 : Int32} {r : Mm} (h : fX5_recover S mm x0 x1 x2 x3 = some r) : Ml l E S yX5_recover cX5_recover 6 none 2 54 [.ref (E.2.2 x0), .ref (E.2.2 x1), .ref (E.2.2 x2), .int x3] mm none r := by
  refine Ml.of (by decide +kernel) (Nat.le_of_ble_eq_true rfl) (fun G C hQ => ?_)
  have C : Cx G E cX5_recover 6 RX5 none 2 54 := C
  unfold fX5_recover at h
  obtain ⟨g0, h⟩ := gd_some h
  obtain ⟨g1, h⟩ := gd_some h
  show WM G l E S 0 [(0, .ref (E.2.2 x0)), (1, .ref (E.2.2 x1)), (2, .ref (E.2.2 x2)), (3, .int x3)] [] mm
  refine x_aload_n C (dq DX5_recover 0 rfl) rfl 2 rfl ?_
  refine x_sipush (v := 280) C (dq DX5_recover 1 rfl) (by decide) ?_
  refine x_iload_n C (dq DX5_recover 2 rfl) rfl 3 rfl ?_
  refine x_iadd C (dq DX5_recover 3 rfl) ?_
  refine x_pc 6 rfl ?_
  refine x_iald C (dq DX5_recover 4 rfl) h (fun a1 h => ?_)
  refine x_aload_n C (dq DX5_recover 5 rfl) rfl 0 rfl ?_
  refine getX5_18 C (dq DX5_recover 6 rfl) g0 ?_
  refine x_iload_n C (dq DX5_recover 7 rfl) rfl 3 rfl ?_
  refine x_iald C (dq DX5_recover 8 rfl) h (fun a2 h => ?_)
  refine x_pc 13 rfl ?_
  refine x_iadd C (dq DX5_recover 9 rfl) ?_
  refine x_istore (lv' := [(4, .int (a1 + a2)), (0, .ref (E.2.2 x0)), (1, .ref (E.2.2 x1)), (2, .ref (E.2.2 x2)), (3, .int x3)]) C (dq DX5_recover 10 rfl) (by decide) rfl ?_
  refine x_aload_n C (dq DX5_recover 11 rfl) rfl 2 rfl ?_
  refine getX5_88 C (dq DX5_recover 12 rfl) g1 ?_
  refine x_iconst (v := 3) C (dq DX5_recover 13 rfl) (by decide) ?_
  refine x_pc 21 rfl ?_
  refine x_iald C (dq DX5_recover 14 rfl) h (fun a3 h => ?_)
  refine x_istore (lv' := [(5, .int a3), (4, .int (a1 + a2)), (0, .ref (E.2.2 x0)), (1, .ref (E.2.2 x1)), (2, .ref (E.2.2 x2)), (3, .int x3)]) C (dq DX5_recover 15 rfl) (by decide) rfl ?_
  refine x_lv [2, 3, 4, 5, 1, 0] rfl ?_
  refine x_loop (s0 := ((a1 + a2), mm)) (fun s7 => WM G l E S 24 [(0, .ref (E.2.2 x0)), (1, .ref (E.2.2 x1)), (2, .ref (E.2.2 x2)), (3, .int x3), (4, .int s7.1), (5, .int a3)] [] s7.2) h (fun s7 r hb kb kx => tX5_recover_24 C g0 g1 hb kb (fun y8 hy => ?_))
  have h := kx y8 hy
  clear kx kb hb hy
  exact x_lv [0, 1, 2, 3, 4] rfl (tX5_recover_63 C g0 g1 h hQ)
set_option maxHeartbeats 1000000 in
theorem qX5_recover {S : List Sh} {mm : Mm} {x0 : Nat} {x1 : Nat} {x2 : Nat} {x3 : Int32} {r : Mm} (h : fX5_recover S mm x0 x1 x2 x3 = some r) : isC S x0 5 := by
  unfold fX5_recover at h
  exact (gd_some h).1
theorem getX5_33 {G : Gt} {l : Launch} {E : Ev} {S : List Sh} {cc : ByteArray} {nL : Nat} {rt : Option FieldType} {fr lo : Nat} {pc : Nat} {lv : List (Nat × Value)} {st : List Value} {mm : Mm} {o : Nat} (C : Cx G E cc nL RX5 rt fr lo) (d : decode cc pc = .ok (.getfield 33, 3)) (hg : isC S o 1) (k : WM G l E S (pc + 3) lv (.int (mm.1 o 9) :: st) mm) : WM G l E S pc lv (.ref (E.2.2 o) :: st) mm := x_getN0 C hg (T := TX1) (N := 11) rfl inX1 (by decide) (i := 9) (host := "LosslessFabric") (nmem 208 (by decide +kernel) rfl) rfl rfl d k
theorem callX5_36 {G : Gt} {l : Launch} {E : Ev} {S : List Sh} {cc : ByteArray} {nL : Nat} {rt : Option FieldType} {fr lo : Nat} {pc : Nat} {lv : List (Nat × Value)} {rest : List Value} {mm : Mm} {α : Type} {f : Mm → Option α} {r : α} {o : Nat} {a0 : Nat} {a1 : Nat} {a2 : Int32} (C : Cx G E cc nL RX5 rt fr lo) (d : decode cc pc = .ok (.invokevirtual 36, 3)) (h : bd1 (fX5_carry S mm o a0 a1 a2) f = some r) (hfr : 3 ≤ fr) (hlo : 84 ≤ lo) (hrs : (rest.map fun v => v.category).sum ≤ 8) (k : ∀ m1, f m1 = some r → WM G l E S (pc + 3) lv rest m1) : WM G l E S pc lv (.int a2 :: .ref (E.2.2 a1) :: .ref (E.2.2 a0) :: .ref (E.2.2 o) :: rest) mm := by
  obtain ⟨m1, hv, hf⟩ := bd1_some h
  exact x_callV (n := 3) (As := [.ref (E.2.2 a0), .ref (E.2.2 a1), .int a2]) (rest := rest) C (mX5_carry hv) (qX5_carry hv) (T := TX5) (N := 3) rfl (gmem 441 (by decide +kernel) rfl) (gmem 443 (by decide +kernel) rfl) (gmemS 16 (by decide +kernel) rfl) (gmem 4 (by decide +kernel) rfl) (gmem 444 (by decide +kernel) rfl) (by decide +kernel) rfl hfr hlo hrs d rfl rfl (k m1 hf)
theorem callX5_40 {G : Gt} {l : Launch} {E : Ev} {S : List Sh} {cc : ByteArray} {nL : Nat} {rt : Option FieldType} {fr lo : Nat} {pc : Nat} {lv : List (Nat × Value)} {rest : List Value} {mm : Mm} {α : Type} {f : Mm → Option α} {r : α} {o : Nat} {a0 : Nat} {a1 : Nat} {a2 : Int32} (C : Cx G E cc nL RX5 rt fr lo) (d : decode cc pc = .ok (.invokevirtual 40, 3)) (h : bd1 (fX5_arrive S mm o a0 a1 a2) f = some r) (hfr : 2 ≤ fr) (hlo : 57 ≤ lo) (hrs : (rest.map fun v => v.category).sum ≤ 8) (k : ∀ m1, f m1 = some r → WM G l E S (pc + 3) lv rest m1) : WM G l E S pc lv (.int a2 :: .ref (E.2.2 a1) :: .ref (E.2.2 a0) :: .ref (E.2.2 o) :: rest) mm := by
  obtain ⟨m1, hv, hf⟩ := bd1_some h
  exact x_callV (n := 3) (As := [.ref (E.2.2 a0), .ref (E.2.2 a1), .int a2]) (rest := rest) C (mX5_arrive hv) (qX5_arrive hv) (T := TX5) (N := 3) rfl (gmem 464 (by decide +kernel) rfl) (gmem 466 (by decide +kernel) rfl) (gmemS 20 (by decide +kernel) rfl) (gmem 4 (by decide +kernel) rfl) (gmem 467 (by decide +kernel) rfl) (by decide +kernel) rfl hfr hlo hrs d rfl rfl (k m1 hf)
theorem callX5_43 {G : Gt} {l : Launch} {E : Ev} {S : List Sh} {cc : ByteArray} {nL : Nat} {rt : Option FieldType} {fr lo : Nat} {pc : Nat} {lv : List (Nat × Value)} {rest : List Value} {mm : Mm} {α : Type} {f : Mm → Option α} {r : α} {a0 : Nat} {a1 : Int32} (C : Cx G E cc nL RX5 rt fr lo) (d : decode cc pc = .ok (.invokestatic 43, 3)) (h : bd1 (fX5_ask S mm a0 a1) f = some r) (hfr : 1 ≤ fr) (hlo : 22 ≤ lo) (hrs : (rest.map fun v => v.category).sum ≤ 8) (k : ∀ m1, f m1 = some r → WM G l E S (pc + 3) lv rest m1) : WM G l E S pc lv (.int a1 :: .ref (E.2.2 a0) :: rest) mm := by
  obtain ⟨m1, hv, hf⟩ := bd1_some h
  exact x_callS (n := 2) (As := [.ref (E.2.2 a0), .int a1]) (rest := rest) C (mX5_ask hv) (gmem 471 (by decide +kernel) rfl) (gmem 472 (by decide +kernel) rfl) (gmem 4 (by decide +kernel) rfl) (gmem 473 (by decide +kernel) rfl) (by decide +kernel) rfl hfr hlo hrs d rfl rfl (k m1 hf)
theorem callX5_47 {G : Gt} {l : Launch} {E : Ev} {S : List Sh} {cc : ByteArray} {nL : Nat} {rt : Option FieldType} {fr lo : Nat} {pc : Nat} {lv : List (Nat × Value)} {rest : List Value} {mm : Mm} {α : Type} {f : Mm → Option α} {r : α} {o : Nat} {a0 : Nat} {a1 : Nat} {a2 : Int32} (C : Cx G E cc nL RX5 rt fr lo) (d : decode cc pc = .ok (.invokevirtual 47, 3)) (h : bd1 (fX5_sample S mm o a0 a1 a2) f = some r) (hfr : 3 ≤ fr) (hlo : 80 ≤ lo) (hrs : (rest.map fun v => v.category).sum ≤ 8) (k : ∀ m1, f m1 = some r → WM G l E S (pc + 3) lv rest m1) : WM G l E S pc lv (.int a2 :: .ref (E.2.2 a1) :: .ref (E.2.2 a0) :: .ref (E.2.2 o) :: rest) mm := by
  obtain ⟨m1, hv, hf⟩ := bd1_some h
  exact x_callV (n := 3) (As := [.ref (E.2.2 a0), .ref (E.2.2 a1), .int a2]) (rest := rest) C (mX5_sample hv) (qX5_sample hv) (T := TX5) (N := 3) rfl (gmem 474 (by decide +kernel) rfl) (gmem 476 (by decide +kernel) rfl) (gmemS 21 (by decide +kernel) rfl) (gmem 4 (by decide +kernel) rfl) (gmem 477 (by decide +kernel) rfl) (by decide +kernel) rfl hfr hlo hrs d rfl rfl (k m1 hf)
theorem callX5_50 {G : Gt} {l : Launch} {E : Ev} {S : List Sh} {cc : ByteArray} {nL : Nat} {rt : Option FieldType} {fr lo : Nat} {pc : Nat} {lv : List (Nat × Value)} {rest : List Value} {mm : Mm} {α : Type} {f : Mm → Option α} {r : α} {o : Nat} {a0 : Nat} {a1 : Nat} {a2 : Int32} (C : Cx G E cc nL RX5 rt fr lo) (d : decode cc pc = .ok (.invokevirtual 50, 3)) (h : bd1 (fX5_recover S mm o a0 a1 a2) f = some r) (hfr : 3 ≤ fr) (hlo : 79 ≤ lo) (hrs : (rest.map fun v => v.category).sum ≤ 8) (k : ∀ m1, f m1 = some r → WM G l E S (pc + 3) lv rest m1) : WM G l E S pc lv (.int a2 :: .ref (E.2.2 a1) :: .ref (E.2.2 a0) :: .ref (E.2.2 o) :: rest) mm := by
  obtain ⟨m1, hv, hf⟩ := bd1_some h
  exact x_callV (n := 3) (As := [.ref (E.2.2 a0), .ref (E.2.2 a1), .int a2]) (rest := rest) C (mX5_recover hv) (qX5_recover hv) (T := TX5) (N := 3) rfl (gmem 491 (by decide +kernel) rfl) (gmem 493 (by decide +kernel) rfl) (gmemS 22 (by decide +kernel) rfl) (gmem 4 (by decide +kernel) rfl) (gmem 494 (by decide +kernel) rfl) (by decide +kernel) rfl hfr hlo hrs d rfl rfl (k m1 hf)
abbrev eX5_step : List (Nat × Instr × Nat) := [(0, .iconst 0, 1), (1, .istore_n 3, 1), (2, .iload_n 3, 1), (3, .aload_n 1, 1), (4, .getfield 21, 3), (7, .if_icmp .ge 55, 3), (10, .aload_n 0, 1), (11, .getfield 18, 3), (14, .iload_n 3, 1), (15, .iconst 0, 1), (16, .iastore, 1), (17, .aload_n 2, 1), (18, .sipush 264, 3), (21, .iload_n 3, 1), (22, .iadd, 1), (23, .iaload, 1), (24, .iconst 1, 1), (25, .if_icmp .ne 31, 3), (28, .aload_n 2, 1), (29, .sipush 272, 3), (32, .iload_n 3, 1), (33, .iadd, 1), (34, .sipush 1024, 3), (37, .aload_n 2, 1), (38, .sipush 272, 3), (41, .iload_n 3, 1), (42, .iadd, 1), (43, .iaload, 1), (44, .aload_n 2, 1), (45, .sipush 200, 3), (48, .iload_n 3, 1), (49, .iadd, 1), (50, .iaload, 1), (51, .iadd, 1), (52, .invokestatic 27, 3), (55, .iastore, 1), (56, .iinc 3 1, 3), (59, .goto (-57), 3), (62, .iconst 0, 1), (63, .istore_n 3, 1), (64, .iload_n 3, 1), (65, .aload_n 1, 1), (66, .getfield 33, 3), (69, .if_icmp .ge 16, 3), (72, .aload_n 0, 1), (73, .aload_n 1, 1), (74, .aload_n 2, 1), (75, .iload_n 3, 1), (76, .invokevirtual 36, 3), (79, .iinc 3 1, 3), (82, .goto (-18), 3), (85, .iconst 0, 1), (86, .istore_n 3, 1), (87, .iload_n 3, 1), (88, .aload_n 1, 1), (89, .getfield 33, 3), (92, .if_icmp .ge 30, 3), (95, .aload_n 2, 1), (96, .bipush 90, 2), (98, .iload_n 3, 1), (99, .iadd, 1), (100, .iaload, 1), (101, .ifCond .le 10, 3), (104, .aload_n 0, 1), (105, .aload_n 1, 1), (106, .aload_n 2, 1), (107, .iload_n 3, 1), (108, .invokevirtual 40, 3), (111, .aload_n 2, 1), (112, .iload_n 3, 1), (113, .invokestatic 43, 3), (116, .iinc 3 1, 3), (119, .goto (-32), 3), (122, .iconst 0, 1), (123, .istore_n 3, 1), (124, .iload_n 3, 1), (125, .aload_n 1, 1), (126, .getfield 33, 3), (129, .if_icmp .ge 25, 3), (132, .aload_n 2, 1), (133, .bipush 90, 2), (135, .iload_n 3, 1), (136, .iadd, 1), (137, .iaload, 1), (138, .ifCond .le 10, 3), (141, .aload_n 0, 1), (142, .aload_n 1, 1), (143, .aload_n 2, 1), (144, .iload_n 3, 1), (145, .invokevirtual 47, 3), (148, .iinc 3 1, 3), (151, .goto (-27), 3), (154, .iconst 0, 1), (155, .istore_n 3, 1), (156, .iload_n 3, 1), (157, .aload_n 1, 1), (158, .getfield 21, 3), (161, .if_icmp .ge 27, 3), (164, .aload_n 2, 1), (165, .sipush 264, 3), (168, .iload_n 3, 1), (169, .iadd, 1), (170, .iaload, 1), (171, .iconst 1, 1), (172, .if_icmp .ne 10, 3), (175, .aload_n 0, 1), (176, .aload_n 1, 1), (177, .aload_n 2, 1), (178, .iload_n 3, 1), (179, .invokevirtual 50, 3), (182, .iinc 3 1, 3), (185, .goto (-29), 3), (188, .aload_n 2, 1), (189, .sipush 296, 3), (192, .dup2, 1), (193, .iaload, 1), (194, .iconst 1, 1), (195, .iadd, 1), (196, .iastore, 1), (197, .return_, 1)]
theorem DX5_step : (eX5_step.all fun q => decide (decode cX5_step q.1 = .ok q.2)) = true := by decide +kernel
def jX5_step_56 (S : List Sh) (mm : Mm) (x0 : Nat) (x1 : Nat) (x2 : Nat) (x3 : Int32)  : Option ((Int32 × Mm) ⊕ (Mm)) := some (.inl (x3 + 1, mm))
def bX5_step_2 (S : List Sh) (x0 : Nat) (x1 : Nat) (x2 : Nat) (x3 : Int32) (mm : Mm) : Option ((Int32 × Mm) ⊕ (Mm)) := if (mm.1 x1 10) ≤ x3 then (some (.inr (mm))) else (bd1 (stA S 0 mm (rf S mm x0 2) x3 0) fun m1 => bd1 (ldA S 0 m1 x2 (264 + x3)) fun a2 => if ¬ a2 = 1 then (jX5_step_56 S m1 x0 x1 x2 x3) else (bd1 (ldA S 0 m1 x2 (272 + x3)) fun a3 => bd1 (ldA S 0 m1 x2 (200 + x3)) fun a4 => bd1 (stA S 0 m1 x2 (272 + x3) (if (a3 + a4) < 1024 then (a3 + a4) else 1024)) fun m5 => jX5_step_56 S m5 x0 x1 x2 x3))
def bX5_step_64 (S : List Sh) (x0 : Nat) (x1 : Nat) (x2 : Nat) (x3 : Int32) (mm : Mm) : Option ((Int32 × Mm) ⊕ (Mm)) := if (mm.1 x1 9) ≤ x3 then (some (.inr (mm))) else (bd1 (fX5_carry S mm x0 x1 x2 x3) fun m8 => some (.inl (x3 + 1, m8)))
def jX5_step_111 (S : List Sh) (mm : Mm) (x0 : Nat) (x1 : Nat) (x2 : Nat) (x3 : Int32)  : Option ((Int32 × Mm) ⊕ (Mm)) := bd1 (fX5_ask S mm x2 x3) fun m12 => some (.inl (x3 + 1, m12))
def bX5_step_87 (S : List Sh) (x0 : Nat) (x1 : Nat) (x2 : Nat) (x3 : Int32) (mm : Mm) : Option ((Int32 × Mm) ⊕ (Mm)) := if (mm.1 x1 9) ≤ x3 then (some (.inr (mm))) else (bd1 (ldA S 0 mm x2 (90 + x3)) fun a11 => if a11 ≤ 0 then (jX5_step_111 S mm x0 x1 x2 x3) else (bd1 (fX5_arrive S mm x0 x1 x2 x3) fun m13 => jX5_step_111 S m13 x0 x1 x2 x3))
def jX5_step_148 (S : List Sh) (mm : Mm) (x0 : Nat) (x1 : Nat) (x2 : Nat) (x3 : Int32)  : Option ((Int32 × Mm) ⊕ (Mm)) := some (.inl (x3 + 1, mm))
def bX5_step_124 (S : List Sh) (x0 : Nat) (x1 : Nat) (x2 : Nat) (x3 : Int32) (mm : Mm) : Option ((Int32 × Mm) ⊕ (Mm)) := if (mm.1 x1 9) ≤ x3 then (some (.inr (mm))) else (bd1 (ldA S 0 mm x2 (90 + x3)) fun a16 => if a16 ≤ 0 then (jX5_step_148 S mm x0 x1 x2 x3) else (bd1 (fX5_sample S mm x0 x1 x2 x3) fun m17 => jX5_step_148 S m17 x0 x1 x2 x3))
def jX5_step_182 (S : List Sh) (mm : Mm) (x0 : Nat) (x1 : Nat) (x2 : Nat) (x3 : Int32)  : Option ((Int32 × Mm) ⊕ (Mm)) := some (.inl (x3 + 1, mm))
def bX5_step_156 (S : List Sh) (x0 : Nat) (x1 : Nat) (x2 : Nat) (x3 : Int32) (mm : Mm) : Option ((Int32 × Mm) ⊕ (Mm)) := if (mm.1 x1 10) ≤ x3 then (some (.inr (mm))) else (bd1 (ldA S 0 mm x2 (264 + x3)) fun a20 => if ¬ a20 = 1 then (jX5_step_182 S mm x0 x1 x2 x3) else (bd1 (fX5_recover S mm x0 x1 x2 x3) fun m21 => jX5_step_182 S m21 x0 x1 x2 x3))
def fX5_step (S : List Sh) (mm : Mm) (x0 : Nat) (x1 : Nat) (x2 : Nat) : Option (Mm) := gd S x0 5 (gd S x1 1 (bd1 (lp (fun s6 => bX5_step_2 S x0 x1 x2 s6.1 s6.2) fu (0, mm)) fun y7 => bd1 (lp (fun s9 => bX5_step_64 S x0 x1 x2 s9.1 s9.2) fu (0, y7)) fun y10 => bd1 (lp (fun s14 => bX5_step_87 S x0 x1 x2 s14.1 s14.2) fu (0, y10)) fun y15 => bd1 (lp (fun s18 => bX5_step_124 S x0 x1 x2 s18.1 s18.2) fu (0, y15)) fun y19 => bd1 (lp (fun s22 => bX5_step_156 S x0 x1 x2 s22.1 s22.2) fu (0, y19)) fun y23 => bd1 (ldA S 0 y23 x2 296) fun a24 => bd1 (stA S 0 y23 x2 296 (a24 + 1)) fun m25 => some m25))
set_option maxHeartbeats 1000000 in
theorem tX5_step_56 {G : Gt} {l : Launch} {E : Ev} {S : List Sh} {mm : Mm} {x0 : Nat} {x1 : Nat} {x2 : Nat} {x3 : Int32}  {r : (Int32 × Mm) ⊕ (Mm)} (C : Cx G E cX5_step 4 RX5 none 3 84) (g0 : isC S x0 5) (g1 : isC S x1 1) (h : jX5_step_56 S mm x0 x1 x2 x3 = some r) (kb : ∀ z : Int32 × Mm, r = .inl z → WM G l E S 2 [(0, .ref (E.2.2 x0)), (1, .ref (E.2.2 x1)), (2, .ref (E.2.2 x2)), (3, .int z.1)] [] z.2) (kx : ∀ z : Mm, r = .inr z → WM G l E S 62 [(0, .ref (E.2.2 x0)), (1, .ref (E.2.2 x1)), (2, .ref (E.2.2 x2))] [] z) : WM G l E S 56 [(0, .ref (E.2.2 x0)), (1, .ref (E.2.2 x1)), (2, .ref (E.2.2 x2)), (3, .int x3)] [] mm := by
  unfold jX5_step_56 at h
  refine x_iinc (v := x3 + 1) (lv' := [(3, .int (x3 + 1)), (0, .ref (E.2.2 x0)), (1, .ref (E.2.2 x1)), (2, .ref (E.2.2 x2))]) C (dq DX5_step 36 rfl) 3 rfl rfl (by decide) rfl ?_
  refine x_goto (tgt := 2) C (dq DX5_step 37 rfl) (by decide) ?_
  cases h
  exact x_lv [1, 2, 3, 0] rfl (kb (x3 + 1, mm) rfl)
set_option maxHeartbeats 1000000 in
theorem tX5_step_2 {G : Gt} {l : Launch} {E : Ev} {S : List Sh} {x0 : Nat} {x1 : Nat} {x2 : Nat} {x3 : Int32} {mm : Mm} {r : (Int32 × Mm) ⊕ (Mm)} (C : Cx G E cX5_step 4 RX5 none 3 84) (g0 : isC S x0 5) (g1 : isC S x1 1) (h : bX5_step_2 S x0 x1 x2 x3 mm = some r) (kb : ∀ z : Int32 × Mm, r = .inl z → WM G l E S 2 [(0, .ref (E.2.2 x0)), (1, .ref (E.2.2 x1)), (2, .ref (E.2.2 x2)), (3, .int z.1)] [] z.2) (kx : ∀ z : Mm, r = .inr z → WM G l E S 62 [(0, .ref (E.2.2 x0)), (1, .ref (E.2.2 x1)), (2, .ref (E.2.2 x2))] [] z) : WM G l E S 2 [(0, .ref (E.2.2 x0)), (1, .ref (E.2.2 x1)), (2, .ref (E.2.2 x2)), (3, .int x3)] [] mm := by
  unfold bX5_step_2 at h
  refine x_iload_n C (dq DX5_step 2 rfl) rfl 3 rfl ?_
  refine x_aload_n C (dq DX5_step 3 rfl) rfl 1 rfl ?_
  refine getX5_21 C (dq DX5_step 4 rfl) g1 ?_
  refine x_icmp_ge (tgt := 62) C (dq DX5_step 5 rfl) (by decide) h (fun h => ?_) (fun h => ?_)
  · cases h
    exact x_lv [0, 1, 2] rfl (kx (mm) rfl)
  · refine x_pc 10 rfl ?_
    refine x_aload_n C (dq DX5_step 6 rfl) rfl 0 rfl ?_
    refine getX5_18 C (dq DX5_step 7 rfl) g0 ?_
    refine x_iload_n C (dq DX5_step 8 rfl) rfl 3 rfl ?_
    refine x_iconst (v := 0) C (dq DX5_step 9 rfl) (by decide) ?_
    refine x_iast C (dq DX5_step 10 rfl) h (fun m1 h => ?_)
    refine x_pc 17 rfl ?_
    refine x_aload_n C (dq DX5_step 11 rfl) rfl 2 rfl ?_
    refine x_sipush (v := 264) C (dq DX5_step 12 rfl) (by decide) ?_
    refine x_iload_n C (dq DX5_step 13 rfl) rfl 3 rfl ?_
    refine x_iadd C (dq DX5_step 14 rfl) ?_
    refine x_iald C (dq DX5_step 15 rfl) h (fun a2 h => ?_)
    refine x_pc 24 rfl ?_
    refine x_iconst (v := 1) C (dq DX5_step 16 rfl) (by decide) ?_
    refine x_icmp_ne (tgt := 56) C (dq DX5_step 17 rfl) (by decide) h (fun h => ?_) (fun h => ?_)
    · exact x_lv [0, 1, 2, 3] rfl (tX5_step_56 C g0 g1 h kb kx)
    · refine x_aload_n C (dq DX5_step 18 rfl) rfl 2 rfl ?_
      refine x_sipush (v := 272) C (dq DX5_step 19 rfl) (by decide) ?_
      refine x_iload_n C (dq DX5_step 20 rfl) rfl 3 rfl ?_
      refine x_pc 33 rfl ?_
      refine x_iadd C (dq DX5_step 21 rfl) ?_
      refine x_sipush (v := 1024) C (dq DX5_step 22 rfl) (by decide) ?_
      refine x_aload_n C (dq DX5_step 23 rfl) rfl 2 rfl ?_
      refine x_sipush (v := 272) C (dq DX5_step 24 rfl) (by decide) ?_
      refine x_iload_n C (dq DX5_step 25 rfl) rfl 3 rfl ?_
      refine x_pc 42 rfl ?_
      refine x_iadd C (dq DX5_step 26 rfl) ?_
      refine x_iald C (dq DX5_step 27 rfl) h (fun a3 h => ?_)
      refine x_aload_n C (dq DX5_step 28 rfl) rfl 2 rfl ?_
      refine x_sipush (v := 200) C (dq DX5_step 29 rfl) (by decide) ?_
      refine x_iload_n C (dq DX5_step 30 rfl) rfl 3 rfl ?_
      refine x_pc 49 rfl ?_
      refine x_iadd C (dq DX5_step 31 rfl) ?_
      refine x_iald C (dq DX5_step 32 rfl) h (fun a4 h => ?_)
      refine x_iadd C (dq DX5_step 33 rfl) ?_
      refine callX5_27 C (dq DX5_step 34 rfl) (by decide) (Nat.le_of_ble_eq_true rfl) ?_
      refine x_iast C (dq DX5_step 35 rfl) h (fun m5 h => ?_)
      exact x_lv [0, 1, 2, 3] rfl (tX5_step_56 C g0 g1 h kb kx)
set_option maxHeartbeats 1000000 in
theorem tX5_step_64 {G : Gt} {l : Launch} {E : Ev} {S : List Sh} {x0 : Nat} {x1 : Nat} {x2 : Nat} {x3 : Int32} {mm : Mm} {r : (Int32 × Mm) ⊕ (Mm)} (C : Cx G E cX5_step 4 RX5 none 3 84) (g0 : isC S x0 5) (g1 : isC S x1 1) (h : bX5_step_64 S x0 x1 x2 x3 mm = some r) (kb : ∀ z : Int32 × Mm, r = .inl z → WM G l E S 64 [(0, .ref (E.2.2 x0)), (1, .ref (E.2.2 x1)), (2, .ref (E.2.2 x2)), (3, .int z.1)] [] z.2) (kx : ∀ z : Mm, r = .inr z → WM G l E S 85 [(0, .ref (E.2.2 x0)), (1, .ref (E.2.2 x1)), (2, .ref (E.2.2 x2))] [] z) : WM G l E S 64 [(0, .ref (E.2.2 x0)), (1, .ref (E.2.2 x1)), (2, .ref (E.2.2 x2)), (3, .int x3)] [] mm := by
  unfold bX5_step_64 at h
  refine x_iload_n C (dq DX5_step 40 rfl) rfl 3 rfl ?_
  refine x_aload_n C (dq DX5_step 41 rfl) rfl 1 rfl ?_
  refine getX5_33 C (dq DX5_step 42 rfl) g1 ?_
  refine x_icmp_ge (tgt := 85) C (dq DX5_step 43 rfl) (by decide) h (fun h => ?_) (fun h => ?_)
  · cases h
    exact x_lv [0, 1, 2] rfl (kx (mm) rfl)
  · refine x_pc 72 rfl ?_
    refine x_aload_n C (dq DX5_step 44 rfl) rfl 0 rfl ?_
    refine x_aload_n C (dq DX5_step 45 rfl) rfl 1 rfl ?_
    refine x_aload_n C (dq DX5_step 46 rfl) rfl 2 rfl ?_
    refine x_iload_n C (dq DX5_step 47 rfl) rfl 3 rfl ?_
    refine callX5_36 C (dq DX5_step 48 rfl) h (by decide) (by decide) (Nat.le_of_ble_eq_true rfl) (fun m8 h => ?_)
    refine x_pc 79 rfl ?_
    refine x_iinc (v := x3 + 1) (lv' := [(3, .int (x3 + 1)), (0, .ref (E.2.2 x0)), (1, .ref (E.2.2 x1)), (2, .ref (E.2.2 x2))]) C (dq DX5_step 49 rfl) 3 rfl rfl (by decide) rfl ?_
    refine x_goto (tgt := 64) C (dq DX5_step 50 rfl) (by decide) ?_
    cases h
    exact x_lv [1, 2, 3, 0] rfl (kb (x3 + 1, m8) rfl)
set_option maxHeartbeats 1000000 in
theorem tX5_step_111 {G : Gt} {l : Launch} {E : Ev} {S : List Sh} {mm : Mm} {x0 : Nat} {x1 : Nat} {x2 : Nat} {x3 : Int32}  {r : (Int32 × Mm) ⊕ (Mm)} (C : Cx G E cX5_step 4 RX5 none 3 84) (g0 : isC S x0 5) (g1 : isC S x1 1) (h : jX5_step_111 S mm x0 x1 x2 x3 = some r) (kb : ∀ z : Int32 × Mm, r = .inl z → WM G l E S 87 [(0, .ref (E.2.2 x0)), (1, .ref (E.2.2 x1)), (2, .ref (E.2.2 x2)), (3, .int z.1)] [] z.2) (kx : ∀ z : Mm, r = .inr z → WM G l E S 122 [(0, .ref (E.2.2 x0)), (1, .ref (E.2.2 x1)), (2, .ref (E.2.2 x2))] [] z) : WM G l E S 111 [(0, .ref (E.2.2 x0)), (1, .ref (E.2.2 x1)), (2, .ref (E.2.2 x2)), (3, .int x3)] [] mm := by
  unfold jX5_step_111 at h
  refine x_aload_n C (dq DX5_step 68 rfl) rfl 2 rfl ?_
  refine x_iload_n C (dq DX5_step 69 rfl) rfl 3 rfl ?_
  refine callX5_43 C (dq DX5_step 70 rfl) h (by decide) (by decide) (Nat.le_of_ble_eq_true rfl) (fun m12 h => ?_)
  refine x_iinc (v := x3 + 1) (lv' := [(3, .int (x3 + 1)), (0, .ref (E.2.2 x0)), (1, .ref (E.2.2 x1)), (2, .ref (E.2.2 x2))]) C (dq DX5_step 71 rfl) 3 rfl rfl (by decide) rfl ?_
  refine x_pc 119 rfl ?_
  refine x_goto (tgt := 87) C (dq DX5_step 72 rfl) (by decide) ?_
  cases h
  exact x_lv [1, 2, 3, 0] rfl (kb (x3 + 1, m12) rfl)
set_option maxHeartbeats 1000000 in
theorem tX5_step_87 {G : Gt} {l : Launch} {E : Ev} {S : List Sh} {x0 : Nat} {x1 : Nat} {x2 : Nat} {x3 : Int32} {mm : Mm} {r : (Int32 × Mm) ⊕ (Mm)} (C : Cx G E cX5_step 4 RX5 none 3 84) (g0 : isC S x0 5) (g1 : isC S x1 1) (h : bX5_step_87 S x0 x1 x2 x3 mm = some r) (kb : ∀ z : Int32 × Mm, r = .inl z → WM G l E S 87 [(0, .ref (E.2.2 x0)), (1, .ref (E.2.2 x1)), (2, .ref (E.2.2 x2)), (3, .int z.1)] [] z.2) (kx : ∀ z : Mm, r = .inr z → WM G l E S 122 [(0, .ref (E.2.2 x0)), (1, .ref (E.2.2 x1)), (2, .ref (E.2.2 x2))] [] z) : WM G l E S 87 [(0, .ref (E.2.2 x0)), (1, .ref (E.2.2 x1)), (2, .ref (E.2.2 x2)), (3, .int x3)] [] mm := by
  unfold bX5_step_87 at h
  refine x_iload_n C (dq DX5_step 53 rfl) rfl 3 rfl ?_
  refine x_aload_n C (dq DX5_step 54 rfl) rfl 1 rfl ?_
  refine getX5_33 C (dq DX5_step 55 rfl) g1 ?_
  refine x_icmp_ge (tgt := 122) C (dq DX5_step 56 rfl) (by decide) h (fun h => ?_) (fun h => ?_)
  · cases h
    exact x_lv [0, 1, 2] rfl (kx (mm) rfl)
  · refine x_pc 95 rfl ?_
    refine x_aload_n C (dq DX5_step 57 rfl) rfl 2 rfl ?_
    refine x_bipush (v := 90) C (dq DX5_step 58 rfl) (by decide) ?_
    refine x_iload_n C (dq DX5_step 59 rfl) rfl 3 rfl ?_
    refine x_iadd C (dq DX5_step 60 rfl) ?_
    refine x_iald C (dq DX5_step 61 rfl) h (fun a11 h => ?_)
    refine x_pc 101 rfl ?_
    refine x_if_le (tgt := 111) C (dq DX5_step 62 rfl) (by decide) h (fun h => ?_) (fun h => ?_)
    · exact x_lv [0, 1, 2, 3] rfl (tX5_step_111 C g0 g1 h kb kx)
    · refine x_aload_n C (dq DX5_step 63 rfl) rfl 0 rfl ?_
      refine x_aload_n C (dq DX5_step 64 rfl) rfl 1 rfl ?_
      refine x_aload_n C (dq DX5_step 65 rfl) rfl 2 rfl ?_
      refine x_iload_n C (dq DX5_step 66 rfl) rfl 3 rfl ?_
      refine x_pc 108 rfl ?_
      refine callX5_40 C (dq DX5_step 67 rfl) h (by decide) (by decide) (Nat.le_of_ble_eq_true rfl) (fun m13 h => ?_)
      exact x_lv [0, 1, 2, 3] rfl (tX5_step_111 C g0 g1 h kb kx)
set_option maxHeartbeats 1000000 in
theorem tX5_step_148 {G : Gt} {l : Launch} {E : Ev} {S : List Sh} {mm : Mm} {x0 : Nat} {x1 : Nat} {x2 : Nat} {x3 : Int32}  {r : (Int32 × Mm) ⊕ (Mm)} (C : Cx G E cX5_step 4 RX5 none 3 84) (g0 : isC S x0 5) (g1 : isC S x1 1) (h : jX5_step_148 S mm x0 x1 x2 x3 = some r) (kb : ∀ z : Int32 × Mm, r = .inl z → WM G l E S 124 [(0, .ref (E.2.2 x0)), (1, .ref (E.2.2 x1)), (2, .ref (E.2.2 x2)), (3, .int z.1)] [] z.2) (kx : ∀ z : Mm, r = .inr z → WM G l E S 154 [(0, .ref (E.2.2 x0)), (1, .ref (E.2.2 x1)), (2, .ref (E.2.2 x2))] [] z) : WM G l E S 148 [(0, .ref (E.2.2 x0)), (1, .ref (E.2.2 x1)), (2, .ref (E.2.2 x2)), (3, .int x3)] [] mm := by
  unfold jX5_step_148 at h
  refine x_iinc (v := x3 + 1) (lv' := [(3, .int (x3 + 1)), (0, .ref (E.2.2 x0)), (1, .ref (E.2.2 x1)), (2, .ref (E.2.2 x2))]) C (dq DX5_step 90 rfl) 3 rfl rfl (by decide) rfl ?_
  refine x_goto (tgt := 124) C (dq DX5_step 91 rfl) (by decide) ?_
  cases h
  exact x_lv [1, 2, 3, 0] rfl (kb (x3 + 1, mm) rfl)
set_option maxHeartbeats 1000000 in
theorem tX5_step_124 {G : Gt} {l : Launch} {E : Ev} {S : List Sh} {x0 : Nat} {x1 : Nat} {x2 : Nat} {x3 : Int32} {mm : Mm} {r : (Int32 × Mm) ⊕ (Mm)} (C : Cx G E cX5_step 4 RX5 none 3 84) (g0 : isC S x0 5) (g1 : isC S x1 1) (h : bX5_step_124 S x0 x1 x2 x3 mm = some r) (kb : ∀ z : Int32 × Mm, r = .inl z → WM G l E S 124 [(0, .ref (E.2.2 x0)), (1, .ref (E.2.2 x1)), (2, .ref (E.2.2 x2)), (3, .int z.1)] [] z.2) (kx : ∀ z : Mm, r = .inr z → WM G l E S 154 [(0, .ref (E.2.2 x0)), (1, .ref (E.2.2 x1)), (2, .ref (E.2.2 x2))] [] z) : WM G l E S 124 [(0, .ref (E.2.2 x0)), (1, .ref (E.2.2 x1)), (2, .ref (E.2.2 x2)), (3, .int x3)] [] mm := by
  unfold bX5_step_124 at h
  refine x_iload_n C (dq DX5_step 75 rfl) rfl 3 rfl ?_
  refine x_aload_n C (dq DX5_step 76 rfl) rfl 1 rfl ?_
  refine getX5_33 C (dq DX5_step 77 rfl) g1 ?_
  refine x_icmp_ge (tgt := 154) C (dq DX5_step 78 rfl) (by decide) h (fun h => ?_) (fun h => ?_)
  · cases h
    exact x_lv [0, 1, 2] rfl (kx (mm) rfl)
  · refine x_pc 132 rfl ?_
    refine x_aload_n C (dq DX5_step 79 rfl) rfl 2 rfl ?_
    refine x_bipush (v := 90) C (dq DX5_step 80 rfl) (by decide) ?_
    refine x_iload_n C (dq DX5_step 81 rfl) rfl 3 rfl ?_
    refine x_iadd C (dq DX5_step 82 rfl) ?_
    refine x_iald C (dq DX5_step 83 rfl) h (fun a16 h => ?_)
    refine x_pc 138 rfl ?_
    refine x_if_le (tgt := 148) C (dq DX5_step 84 rfl) (by decide) h (fun h => ?_) (fun h => ?_)
    · exact x_lv [0, 1, 2, 3] rfl (tX5_step_148 C g0 g1 h kb kx)
    · refine x_aload_n C (dq DX5_step 85 rfl) rfl 0 rfl ?_
      refine x_aload_n C (dq DX5_step 86 rfl) rfl 1 rfl ?_
      refine x_aload_n C (dq DX5_step 87 rfl) rfl 2 rfl ?_
      refine x_iload_n C (dq DX5_step 88 rfl) rfl 3 rfl ?_
      refine x_pc 145 rfl ?_
      refine callX5_47 C (dq DX5_step 89 rfl) h (by decide) (by decide) (Nat.le_of_ble_eq_true rfl) (fun m17 h => ?_)
      exact x_lv [0, 1, 2, 3] rfl (tX5_step_148 C g0 g1 h kb kx)
set_option maxHeartbeats 1000000 in
theorem tX5_step_182 {G : Gt} {l : Launch} {E : Ev} {S : List Sh} {mm : Mm} {x0 : Nat} {x1 : Nat} {x2 : Nat} {x3 : Int32}  {r : (Int32 × Mm) ⊕ (Mm)} (C : Cx G E cX5_step 4 RX5 none 3 84) (g0 : isC S x0 5) (g1 : isC S x1 1) (h : jX5_step_182 S mm x0 x1 x2 x3 = some r) (kb : ∀ z : Int32 × Mm, r = .inl z → WM G l E S 156 [(0, .ref (E.2.2 x0)), (1, .ref (E.2.2 x1)), (2, .ref (E.2.2 x2)), (3, .int z.1)] [] z.2) (kx : ∀ z : Mm, r = .inr z → WM G l E S 188 [(0, .ref (E.2.2 x0)), (1, .ref (E.2.2 x1)), (2, .ref (E.2.2 x2))] [] z) : WM G l E S 182 [(0, .ref (E.2.2 x0)), (1, .ref (E.2.2 x1)), (2, .ref (E.2.2 x2)), (3, .int x3)] [] mm := by
  unfold jX5_step_182 at h
  refine x_iinc (v := x3 + 1) (lv' := [(3, .int (x3 + 1)), (0, .ref (E.2.2 x0)), (1, .ref (E.2.2 x1)), (2, .ref (E.2.2 x2))]) C (dq DX5_step 110 rfl) 3 rfl rfl (by decide) rfl ?_
  refine x_goto (tgt := 156) C (dq DX5_step 111 rfl) (by decide) ?_
  cases h
  exact x_lv [1, 2, 3, 0] rfl (kb (x3 + 1, mm) rfl)
set_option maxHeartbeats 1000000 in
theorem tX5_step_156 {G : Gt} {l : Launch} {E : Ev} {S : List Sh} {x0 : Nat} {x1 : Nat} {x2 : Nat} {x3 : Int32} {mm : Mm} {r : (Int32 × Mm) ⊕ (Mm)} (C : Cx G E cX5_step 4 RX5 none 3 84) (g0 : isC S x0 5) (g1 : isC S x1 1) (h : bX5_step_156 S x0 x1 x2 x3 mm = some r) (kb : ∀ z : Int32 × Mm, r = .inl z → WM G l E S 156 [(0, .ref (E.2.2 x0)), (1, .ref (E.2.2 x1)), (2, .ref (E.2.2 x2)), (3, .int z.1)] [] z.2) (kx : ∀ z : Mm, r = .inr z → WM G l E S 188 [(0, .ref (E.2.2 x0)), (1, .ref (E.2.2 x1)), (2, .ref (E.2.2 x2))] [] z) : WM G l E S 156 [(0, .ref (E.2.2 x0)), (1, .ref (E.2.2 x1)), (2, .ref (E.2.2 x2)), (3, .int x3)] [] mm := by
  unfold bX5_step_156 at h
  refine x_iload_n C (dq DX5_step 94 rfl) rfl 3 rfl ?_
  refine x_aload_n C (dq DX5_step 95 rfl) rfl 1 rfl ?_
  refine getX5_21 C (dq DX5_step 96 rfl) g1 ?_
  refine x_icmp_ge (tgt := 188) C (dq DX5_step 97 rfl) (by decide) h (fun h => ?_) (fun h => ?_)
  · cases h
    exact x_lv [0, 1, 2] rfl (kx (mm) rfl)
  · refine x_pc 164 rfl ?_
    refine x_aload_n C (dq DX5_step 98 rfl) rfl 2 rfl ?_
    refine x_sipush (v := 264) C (dq DX5_step 99 rfl) (by decide) ?_
    refine x_iload_n C (dq DX5_step 100 rfl) rfl 3 rfl ?_
    refine x_iadd C (dq DX5_step 101 rfl) ?_
    refine x_iald C (dq DX5_step 102 rfl) h (fun a20 h => ?_)
    refine x_pc 171 rfl ?_
    refine x_iconst (v := 1) C (dq DX5_step 103 rfl) (by decide) ?_
    refine x_icmp_ne (tgt := 182) C (dq DX5_step 104 rfl) (by decide) h (fun h => ?_) (fun h => ?_)
    · exact x_lv [0, 1, 2, 3] rfl (tX5_step_182 C g0 g1 h kb kx)
    · refine x_aload_n C (dq DX5_step 105 rfl) rfl 0 rfl ?_
      refine x_aload_n C (dq DX5_step 106 rfl) rfl 1 rfl ?_
      refine x_aload_n C (dq DX5_step 107 rfl) rfl 2 rfl ?_
      refine x_pc 178 rfl ?_
      refine x_iload_n C (dq DX5_step 108 rfl) rfl 3 rfl ?_
      refine callX5_50 C (dq DX5_step 109 rfl) h (by decide) (by decide) (Nat.le_of_ble_eq_true rfl) (fun m21 h => ?_)
      exact x_lv [0, 1, 2, 3] rfl (tX5_step_182 C g0 g1 h kb kx)
set_option maxHeartbeats 1000000 in
theorem mX5_step {l : Launch} {E : Ev} {S : List Sh} {mm : Mm} {x0 : Nat} {x1 : Nat} {x2 : Nat} {r : Mm} (h : fX5_step S mm x0 x1 x2 = some r) : Ml l E S yX5_step cX5_step 4 none 3 84 [.ref (E.2.2 x0), .ref (E.2.2 x1), .ref (E.2.2 x2)] mm none r := by
  refine Ml.of (by decide +kernel) (Nat.le_of_ble_eq_true rfl) (fun G C hQ => ?_)
  have C : Cx G E cX5_step 4 RX5 none 3 84 := C
  unfold fX5_step at h
  obtain ⟨g0, h⟩ := gd_some h
  obtain ⟨g1, h⟩ := gd_some h
  show WM G l E S 0 [(0, .ref (E.2.2 x0)), (1, .ref (E.2.2 x1)), (2, .ref (E.2.2 x2))] [] mm
  refine x_iconst (v := 0) C (dq DX5_step 0 rfl) (by decide) ?_
  refine x_istore_n (lv' := [(3, .int 0), (0, .ref (E.2.2 x0)), (1, .ref (E.2.2 x1)), (2, .ref (E.2.2 x2))]) C (dq DX5_step 1 rfl) rfl (by decide) rfl ?_
  refine x_lv [1, 2, 3, 0] rfl ?_
  refine x_loop (s0 := (0, mm)) (fun s6 => WM G l E S 2 [(0, .ref (E.2.2 x0)), (1, .ref (E.2.2 x1)), (2, .ref (E.2.2 x2)), (3, .int s6.1)] [] s6.2) h (fun s6 r hb kb kx => tX5_step_2 C g0 g1 hb kb (fun y7 hy => ?_))
  have h := kx y7 hy
  clear kx kb hb hy
  refine x_iconst (v := 0) C (dq DX5_step 38 rfl) (by decide) ?_
  refine x_istore_n (lv' := [(3, .int 0), (0, .ref (E.2.2 x0)), (1, .ref (E.2.2 x1)), (2, .ref (E.2.2 x2))]) C (dq DX5_step 39 rfl) rfl (by decide) rfl ?_
  refine x_lv [1, 2, 3, 0] rfl ?_
  refine x_loop (s0 := (0, y7)) (fun s9 => WM G l E S 64 [(0, .ref (E.2.2 x0)), (1, .ref (E.2.2 x1)), (2, .ref (E.2.2 x2)), (3, .int s9.1)] [] s9.2) h (fun s9 r hb kb kx => tX5_step_64 C g0 g1 hb kb (fun y10 hy => ?_))
  have h := kx y10 hy
  clear kx kb hb hy
  refine x_pc 85 rfl ?_
  refine x_iconst (v := 0) C (dq DX5_step 51 rfl) (by decide) ?_
  refine x_istore_n (lv' := [(3, .int 0), (0, .ref (E.2.2 x0)), (1, .ref (E.2.2 x1)), (2, .ref (E.2.2 x2))]) C (dq DX5_step 52 rfl) rfl (by decide) rfl ?_
  refine x_lv [1, 2, 3, 0] rfl ?_
  refine x_loop (s0 := (0, y10)) (fun s14 => WM G l E S 87 [(0, .ref (E.2.2 x0)), (1, .ref (E.2.2 x1)), (2, .ref (E.2.2 x2)), (3, .int s14.1)] [] s14.2) h (fun s14 r hb kb kx => tX5_step_87 C g0 g1 hb kb (fun y15 hy => ?_))
  have h := kx y15 hy
  clear kx kb hb hy
  refine x_iconst (v := 0) C (dq DX5_step 73 rfl) (by decide) ?_
  refine x_istore_n (lv' := [(3, .int 0), (0, .ref (E.2.2 x0)), (1, .ref (E.2.2 x1)), (2, .ref (E.2.2 x2))]) C (dq DX5_step 74 rfl) rfl (by decide) rfl ?_
  refine x_lv [1, 2, 3, 0] rfl ?_
  refine x_loop (s0 := (0, y15)) (fun s18 => WM G l E S 124 [(0, .ref (E.2.2 x0)), (1, .ref (E.2.2 x1)), (2, .ref (E.2.2 x2)), (3, .int s18.1)] [] s18.2) h (fun s18 r hb kb kx => tX5_step_124 C g0 g1 hb kb (fun y19 hy => ?_))
  have h := kx y19 hy
  clear kx kb hb hy
  refine x_iconst (v := 0) C (dq DX5_step 92 rfl) (by decide) ?_
  refine x_pc 155 rfl ?_
  refine x_istore_n (lv' := [(3, .int 0), (0, .ref (E.2.2 x0)), (1, .ref (E.2.2 x1)), (2, .ref (E.2.2 x2))]) C (dq DX5_step 93 rfl) rfl (by decide) rfl ?_
  refine x_lv [1, 2, 3, 0] rfl ?_
  refine x_loop (s0 := (0, y19)) (fun s22 => WM G l E S 156 [(0, .ref (E.2.2 x0)), (1, .ref (E.2.2 x1)), (2, .ref (E.2.2 x2)), (3, .int s22.1)] [] s22.2) h (fun s22 r hb kb kx => tX5_step_156 C g0 g1 hb kb (fun y23 hy => ?_))
  have h := kx y23 hy
  clear kx kb hb hy
  refine x_aload_n C (dq DX5_step 112 rfl) rfl 2 rfl ?_
  refine x_sipush (v := 296) C (dq DX5_step 113 rfl) (by decide) ?_
  refine x_dup2 C (dq DX5_step 114 rfl) rfl rfl ?_
  refine x_iald C (dq DX5_step 115 rfl) h (fun a24 h => ?_)
  refine x_pc 194 rfl ?_
  refine x_iconst (v := 1) C (dq DX5_step 116 rfl) (by decide) ?_
  refine x_iadd C (dq DX5_step 117 rfl) ?_
  refine x_iast C (dq DX5_step 118 rfl) h (fun m25 h => ?_)
  cases h
  exact x_vret C (dq DX5_step 119 rfl) hQ
set_option maxHeartbeats 1000000 in
theorem qX5_step {S : List Sh} {mm : Mm} {x0 : Nat} {x1 : Nat} {x2 : Nat} {r : Mm} (h : fX5_step S mm x0 x1 x2 = some r) : isC S x0 5 := by
  unfold fX5_step at h
  exact (gd_some h).1
