theorem getX6_28 {G : Gt} {l : Launch} {E : Ev} {S : List Sh} {cc : ByteArray} {nL : Nat} {rt : Option FieldType} {fr lo : Nat} {pc : Nat} {lv : List (Nat × Value)} {st : List Value} {mm : Mm} {o : Nat} (C : Cx G E cc nL RX6 rt fr lo) (d : decode cc pc = .ok (.getfield 28, 3)) (hg : isC S o 1) (k : WM G l E S (pc + 3) lv (.int (mm.1 o 10) :: st) mm) : WM G l E S pc lv (.ref (E.2.2 o) :: st) mm := x_getN0 C hg (T := TX1) (N := 11) rfl inX1 (by decide) (i := 10) (host := "LosslessFabric") (nmem 216 (by decide +kernel) rfl) rfl rfl d k
theorem getX6_33 {G : Gt} {l : Launch} {E : Ev} {S : List Sh} {cc : ByteArray} {nL : Nat} {rt : Option FieldType} {fr lo : Nat} {pc : Nat} {lv : List (Nat × Value)} {st : List Value} {mm : Mm} {o : Nat} (C : Cx G E cc nL RX6 rt fr lo) (d : decode cc pc = .ok (.getfield 33, 3)) (hg : isC S o 1) (k : WM G l E S (pc + 3) lv (.ref (E.2.2 (rf S mm o 7)) :: st) mm) : WM G l E S pc lv (.ref (E.2.2 o) :: st) mm := x_getN2 C hg (T := TX1) (N := 11) rfl inX1 (by decide) (i := 7) (host := "LosslessFabric") (nmem 201 (by decide +kernel) rfl) rfl rfl d k
abbrev eX6_waitsOf : List (Nat × Instr × Nat) := [(0, .aload_n 2, 1), (1, .bipush 40, 2), (3, .iload_n 3, 1), (4, .iadd, 1), (5, .iaload, 1), (6, .iconst 1, 1), (7, .iand, 1), (8, .ifCond .ne 5, 3), (11, .iconst 0, 1), (12, .ireturn, 1), (13, .iconst 0, 1), (14, .istore 4, 2), (16, .iconst 0, 1), (17, .istore 5, 2), (19, .iload 5, 2), (21, .aload_n 1, 1), (22, .getfield 28, 3), (25, .if_icmp .ge 65, 3), (28, .aload_n 1, 1), (29, .getfield 33, 3), (32, .iload_n 3, 1), (33, .bipush 8, 2), (35, .imul, 1), (36, .iload 5, 2), (38, .iadd, 1), (39, .iaload, 1), (40, .istore 6, 2), (42, .iload 6, 2), (44, .ifCond .lt 40, 3), (47, .aload_n 2, 1), (48, .bipush 120, 2), (50, .iload_n 3, 1), (51, .bipush 8, 2), (53, .imul, 1), (54, .iadd, 1), (55, .iload 5, 2), (57, .iadd, 1), (58, .iaload, 1), (59, .ifCond .le 25, 3), (62, .aload_n 2, 1), (63, .bipush 40, 2), (65, .iload 6, 2), (67, .iadd, 1), (68, .iaload, 1), (69, .iconst 1, 1), (70, .iand, 1), (71, .iconst 1, 1), (72, .if_icmp .ne 12, 3), (75, .iload 4, 2), (77, .iconst 1, 1), (78, .iload 6, 2), (80, .ishl, 1), (81, .ior, 1), (82, .istore 4, 2), (84, .iinc 5 1, 3), (87, .goto (-68), 3), (90, .iload 4, 2), (92, .ireturn, 1)]
theorem DX6_waitsOf : (eX6_waitsOf.all fun q => decide (decode cX6_waitsOf q.1 = .ok q.2)) = true := by decide +kernel
def jX6_waitsOf_84 (S : List Sh) (mm : Mm) (x0 : Nat) (x1 : Nat) (x2 : Nat) (x3 : Int32) (x4 : Int32) (x5 : Int32)  : Option ((Int32 × Int32) ⊕ (Int32)) := some (.inl (x4, x5 + 1))
def bX6_waitsOf_19 (S : List Sh) (mm : Mm) (x0 : Nat) (x1 : Nat) (x2 : Nat) (x3 : Int32) (x4 : Int32) (x5 : Int32) : Option ((Int32 × Int32) ⊕ (Int32)) := if (mm.1 x1 10) ≤ x5 then (some (.inr (x4))) else (bd1 (ldA S 0 mm (rf S mm x1 7) ((x3 * 8) + x5)) fun a2 => if a2 < 0 then (jX6_waitsOf_84 S mm x0 x1 x2 x3 x4 x5) else (bd1 (ldA S 0 mm x2 ((120 + (x3 * 8)) + x5)) fun a3 => if a3 ≤ 0 then (jX6_waitsOf_84 S mm x0 x1 x2 x3 x4 x5) else (bd1 (ldA S 0 mm x2 (40 + a2)) fun a4 => if ¬ (a4 &&& 1) = 1 then (jX6_waitsOf_84 S mm x0 x1 x2 x3 x4 x5) else (jX6_waitsOf_84 S mm x0 x1 x2 x3 (x4 ||| (1 <<< (a2 &&& 31))) x5))))
def fX6_waitsOf (S : List Sh) (mm : Mm) (x0 : Nat) (x1 : Nat) (x2 : Nat) (x3 : Int32) : Option (Int32) := gd S x0 6 (gd S x1 1 (bd1 (ldA S 0 mm x2 (40 + x3)) fun a1 => if ¬ (a1 &&& 1) = 0 then (bd1 (lp (fun s5 => bX6_waitsOf_19 S mm x0 x1 x2 x3 s5.1 s5.2) fu (0, 0)) fun y6 => some y6) else (some 0)))
set_option maxHeartbeats 1000000 in
theorem tX6_waitsOf_84 {G : Gt} {l : Launch} {E : Ev} {S : List Sh} {mm : Mm} {x0 : Nat} {x1 : Nat} {x2 : Nat} {x3 : Int32} {x4 : Int32} {x5 : Int32}  {r : (Int32 × Int32) ⊕ (Int32)} (C : Cx G E cX6_waitsOf 7 RX6 (some .int) 0 0) (g0 : isC S x0 6) (g1 : isC S x1 1) (h : jX6_waitsOf_84 S mm x0 x1 x2 x3 x4 x5 = some r) (kb : ∀ z : Int32 × Int32, r = .inl z → WM G l E S 19 [(0, .ref (E.2.2 x0)), (1, .ref (E.2.2 x1)), (2, .ref (E.2.2 x2)), (3, .int x3), (4, .int z.1), (5, .int z.2)] [] mm) (kx : ∀ z : Int32, r = .inr z → WM G l E S 90 [(0, .ref (E.2.2 x0)), (1, .ref (E.2.2 x1)), (2, .ref (E.2.2 x2)), (3, .int x3), (4, .int z)] [] mm) : WM G l E S 84 [(0, .ref (E.2.2 x0)), (1, .ref (E.2.2 x1)), (2, .ref (E.2.2 x2)), (3, .int x3), (4, .int x4), (5, .int x5)] [] mm := by
  unfold jX6_waitsOf_84 at h
  refine x_iinc (v := x5 + 1) (lv' := [(5, .int (x5 + 1)), (0, .ref (E.2.2 x0)), (1, .ref (E.2.2 x1)), (2, .ref (E.2.2 x2)), (3, .int x3), (4, .int x4)]) C (dq DX6_waitsOf 54 rfl) 5 rfl rfl (by decide) rfl ?_
  refine x_goto (tgt := 19) C (dq DX6_waitsOf 55 rfl) (by decide) ?_
  cases h
  exact x_lv [1, 2, 3, 4, 5, 0] rfl (kb (x4, x5 + 1) rfl)
set_option maxHeartbeats 1000000 in
theorem tX6_waitsOf_19 {G : Gt} {l : Launch} {E : Ev} {S : List Sh} {mm : Mm} {x0 : Nat} {x1 : Nat} {x2 : Nat} {x3 : Int32} {x4 : Int32} {x5 : Int32} {r : (Int32 × Int32) ⊕ (Int32)} (C : Cx G E cX6_waitsOf 7 RX6 (some .int) 0 0) (g0 : isC S x0 6) (g1 : isC S x1 1) (h : bX6_waitsOf_19 S mm x0 x1 x2 x3 x4 x5 = some r) (kb : ∀ z : Int32 × Int32, r = .inl z → WM G l E S 19 [(0, .ref (E.2.2 x0)), (1, .ref (E.2.2 x1)), (2, .ref (E.2.2 x2)), (3, .int x3), (4, .int z.1), (5, .int z.2)] [] mm) (kx : ∀ z : Int32, r = .inr z → WM G l E S 90 [(0, .ref (E.2.2 x0)), (1, .ref (E.2.2 x1)), (2, .ref (E.2.2 x2)), (3, .int x3), (4, .int z)] [] mm) : WM G l E S 19 [(0, .ref (E.2.2 x0)), (1, .ref (E.2.2 x1)), (2, .ref (E.2.2 x2)), (3, .int x3), (4, .int x4), (5, .int x5)] [] mm := by
  unfold bX6_waitsOf_19 at h
  refine x_iload C (dq DX6_waitsOf 14 rfl) 5 rfl ?_
  refine x_aload_n C (dq DX6_waitsOf 15 rfl) rfl 1 rfl ?_
  refine getX6_28 C (dq DX6_waitsOf 16 rfl) g1 ?_
  refine x_icmp_ge (tgt := 90) C (dq DX6_waitsOf 17 rfl) (by decide) h (fun h => ?_) (fun h => ?_)
  · cases h
    exact x_lv [0, 1, 2, 3, 4] rfl (kx (x4) rfl)
  · refine x_pc 28 rfl ?_
    refine x_aload_n C (dq DX6_waitsOf 18 rfl) rfl 1 rfl ?_
    refine getX6_33 C (dq DX6_waitsOf 19 rfl) g1 ?_
    refine x_iload_n C (dq DX6_waitsOf 20 rfl) rfl 3 rfl ?_
    refine x_bipush (v := 8) C (dq DX6_waitsOf 21 rfl) (by decide) ?_
    refine x_imul C (dq DX6_waitsOf 22 rfl) ?_
    refine x_pc 36 rfl ?_
    refine x_iload C (dq DX6_waitsOf 23 rfl) 5 rfl ?_
    refine x_iadd C (dq DX6_waitsOf 24 rfl) ?_
    refine x_iald C (dq DX6_waitsOf 25 rfl) h (fun a2 h => ?_)
    refine x_istore (lv' := [(6, .int a2), (0, .ref (E.2.2 x0)), (1, .ref (E.2.2 x1)), (2, .ref (E.2.2 x2)), (3, .int x3), (4, .int x4), (5, .int x5)]) C (dq DX6_waitsOf 26 rfl) (by decide) rfl ?_
    refine x_iload C (dq DX6_waitsOf 27 rfl) 0 rfl ?_
    refine x_pc 44 rfl ?_
    refine x_if_lt (tgt := 84) C (dq DX6_waitsOf 28 rfl) (by decide) h (fun h => ?_) (fun h => ?_)
    · exact x_lv [1, 2, 3, 4, 5, 6] rfl (tX6_waitsOf_84 C g0 g1 h kb kx)
    · refine x_aload_n C (dq DX6_waitsOf 29 rfl) rfl 3 rfl ?_
      refine x_bipush (v := 120) C (dq DX6_waitsOf 30 rfl) (by decide) ?_
      refine x_iload_n C (dq DX6_waitsOf 31 rfl) rfl 4 rfl ?_
      refine x_bipush (v := 8) C (dq DX6_waitsOf 32 rfl) (by decide) ?_
      refine x_pc 53 rfl ?_
      refine x_imul C (dq DX6_waitsOf 33 rfl) ?_
      refine x_iadd C (dq DX6_waitsOf 34 rfl) ?_
      refine x_iload C (dq DX6_waitsOf 35 rfl) 6 rfl ?_
      refine x_iadd C (dq DX6_waitsOf 36 rfl) ?_
      refine x_iald C (dq DX6_waitsOf 37 rfl) h (fun a3 h => ?_)
      refine x_pc 59 rfl ?_
      refine x_if_le (tgt := 84) C (dq DX6_waitsOf 38 rfl) (by decide) h (fun h => ?_) (fun h => ?_)
      · exact x_lv [1, 2, 3, 4, 5, 6] rfl (tX6_waitsOf_84 C g0 g1 h kb kx)
      · refine x_aload_n C (dq DX6_waitsOf 39 rfl) rfl 3 rfl ?_
        refine x_bipush (v := 40) C (dq DX6_waitsOf 40 rfl) (by decide) ?_
        refine x_iload C (dq DX6_waitsOf 41 rfl) 0 rfl ?_
        refine x_iadd C (dq DX6_waitsOf 42 rfl) ?_
        refine x_pc 68 rfl ?_
        refine x_iald C (dq DX6_waitsOf 43 rfl) h (fun a4 h => ?_)
        refine x_iconst (v := 1) C (dq DX6_waitsOf 44 rfl) (by decide) ?_
        refine x_iand C (dq DX6_waitsOf 45 rfl) ?_
        refine x_iconst (v := 1) C (dq DX6_waitsOf 46 rfl) (by decide) ?_
        refine x_icmp_ne (tgt := 84) C (dq DX6_waitsOf 47 rfl) (by decide) h (fun h => ?_) (fun h => ?_)
        · exact x_lv [1, 2, 3, 4, 5, 6] rfl (tX6_waitsOf_84 C g0 g1 h kb kx)
        · refine x_pc 75 rfl ?_
          refine x_iload C (dq DX6_waitsOf 48 rfl) 5 rfl ?_
          refine x_iconst (v := 1) C (dq DX6_waitsOf 49 rfl) (by decide) ?_
          refine x_iload C (dq DX6_waitsOf 50 rfl) 0 rfl ?_
          refine x_ishl C (dq DX6_waitsOf 51 rfl) ?_
          refine x_ior C (dq DX6_waitsOf 52 rfl) ?_
          refine x_pc 82 rfl ?_
          refine x_istore (lv' := [(4, .int (x4 ||| (1 <<< (a2 &&& 31)))), (6, .int a2), (0, .ref (E.2.2 x0)), (1, .ref (E.2.2 x1)), (2, .ref (E.2.2 x2)), (3, .int x3), (5, .int x5)]) C (dq DX6_waitsOf 53 rfl) (by decide) rfl ?_
          exact x_lv [2, 3, 4, 5, 0, 6] rfl (tX6_waitsOf_84 C g0 g1 h kb kx)
set_option maxHeartbeats 1000000 in
theorem mX6_waitsOf {l : Launch} {E : Ev} {S : List Sh} {mm : Mm} {x0 : Nat} {x1 : Nat} {x2 : Nat} {x3 : Int32} {r : Int32} (h : fX6_waitsOf S mm x0 x1 x2 x3 = some r) : Ml l E S yX6_waitsOf cX6_waitsOf 7 (some .int) 0 0 [.ref (E.2.2 x0), .ref (E.2.2 x1), .ref (E.2.2 x2), .int x3] mm (some (.int r)) mm := by
  refine Ml.of (by decide +kernel) (Nat.le_of_ble_eq_true rfl) (fun G C hQ => ?_)
  have C : Cx G E cX6_waitsOf 7 RX6 (some .int) 0 0 := C
  unfold fX6_waitsOf at h
  obtain ⟨g0, h⟩ := gd_some h
  obtain ⟨g1, h⟩ := gd_some h
  show WM G l E S 0 [(0, .ref (E.2.2 x0)), (1, .ref (E.2.2 x1)), (2, .ref (E.2.2 x2)), (3, .int x3)] [] mm
  refine x_aload_n C (dq DX6_waitsOf 0 rfl) rfl 2 rfl ?_
  refine x_bipush (v := 40) C (dq DX6_waitsOf 1 rfl) (by decide) ?_
  refine x_iload_n C (dq DX6_waitsOf 2 rfl) rfl 3 rfl ?_
  refine x_iadd C (dq DX6_waitsOf 3 rfl) ?_
  refine x_pc 5 rfl ?_
  refine x_iald C (dq DX6_waitsOf 4 rfl) h (fun a1 h => ?_)
  refine x_iconst (v := 1) C (dq DX6_waitsOf 5 rfl) (by decide) ?_
  refine x_iand C (dq DX6_waitsOf 6 rfl) ?_
  refine x_if_ne (tgt := 13) C (dq DX6_waitsOf 7 rfl) (by decide) h (fun h => ?_) (fun h => ?_)
  · refine x_iconst (v := 0) C (dq DX6_waitsOf 10 rfl) (by decide) ?_
    refine x_pc 14 rfl ?_
    refine x_istore (lv' := [(4, .int 0), (0, .ref (E.2.2 x0)), (1, .ref (E.2.2 x1)), (2, .ref (E.2.2 x2)), (3, .int x3)]) C (dq DX6_waitsOf 11 rfl) (by decide) rfl ?_
    refine x_iconst (v := 0) C (dq DX6_waitsOf 12 rfl) (by decide) ?_
    refine x_istore (lv' := [(5, .int 0), (4, .int 0), (0, .ref (E.2.2 x0)), (1, .ref (E.2.2 x1)), (2, .ref (E.2.2 x2)), (3, .int x3)]) C (dq DX6_waitsOf 13 rfl) (by decide) rfl ?_
    refine x_lv [2, 3, 4, 5, 1, 0] rfl ?_
    refine x_loop (s0 := (0, 0)) (fun s5 => WM G l E S 19 [(0, .ref (E.2.2 x0)), (1, .ref (E.2.2 x1)), (2, .ref (E.2.2 x2)), (3, .int x3), (4, .int s5.1), (5, .int s5.2)] [] mm) h (fun s5 r hb kb kx => tX6_waitsOf_19 C g0 g1 hb kb (fun y6 hy => ?_))
    have h := kx y6 hy
    clear kx kb hb hy
    refine x_iload C (dq DX6_waitsOf 56 rfl) 4 rfl ?_
    cases h
    exact x_iret C (dq DX6_waitsOf 57 rfl) hQ
  · refine x_iconst (v := 0) C (dq DX6_waitsOf 8 rfl) (by decide) ?_
    refine x_pc 12 rfl ?_
    cases h
    exact x_iret C (dq DX6_waitsOf 9 rfl) hQ
set_option maxHeartbeats 1000000 in
theorem qX6_waitsOf {S : List Sh} {mm : Mm} {x0 : Nat} {x1 : Nat} {x2 : Nat} {x3 : Int32} {r : Int32} (h : fX6_waitsOf S mm x0 x1 x2 x3 = some r) : isC S x0 6 := by
  unfold fX6_waitsOf at h
  exact (gd_some h).1
theorem getX6_9 {G : Gt} {l : Launch} {E : Ev} {S : List Sh} {cc : ByteArray} {nL : Nat} {rt : Option FieldType} {fr lo : Nat} {pc : Nat} {lv : List (Nat × Value)} {st : List Value} {mm : Mm} {o : Nat} (C : Cx G E cc nL RX6 rt fr lo) (d : decode cc pc = .ok (.getfield 9, 3)) (hg : isC S o 6) (k : WM G l E S (pc + 3) lv (.ref (E.2.2 (rf S mm o 0)) :: st) mm) : WM G l E S pc lv (.ref (E.2.2 o) :: st) mm := x_get2 C hg (T := TX6) (N := 5) rfl inX6 (by decide) (i := 0) (gmem 104 (by decide +kernel) rfl) rfl rfl d k
theorem getX6_15 {G : Gt} {l : Launch} {E : Ev} {S : List Sh} {cc : ByteArray} {nL : Nat} {rt : Option FieldType} {fr lo : Nat} {pc : Nat} {lv : List (Nat × Value)} {st : List Value} {mm : Mm} {o : Nat} (C : Cx G E cc nL RX6 rt fr lo) (d : decode cc pc = .ok (.getfield 15, 3)) (hg : isC S o 6) (k : WM G l E S (pc + 3) lv (.ref (E.2.2 (rf S mm o 1)) :: st) mm) : WM G l E S pc lv (.ref (E.2.2 o) :: st) mm := x_get2 C hg (T := TX6) (N := 5) rfl inX6 (by decide) (i := 1) (gmem 105 (by decide +kernel) rfl) rfl rfl d k
abbrev eX6_inCyclesOf : List (Nat × Instr × Nat) := [(0, .iconst 0, 1), (1, .istore_n 2, 1), (2, .iload_n 2, 1), (3, .iload_n 1, 1), (4, .if_icmp .ge 21, 3), (7, .aload_n 0, 1), (8, .getfield 15, 3), (11, .iload_n 2, 1), (12, .aload_n 0, 1), (13, .getfield 9, 3), (16, .iload_n 2, 1), (17, .iaload, 1), (18, .iastore, 1), (19, .iinc 2 1, 3), (22, .goto (-20), 3), (25, .iconst 0, 1), (26, .istore_n 2, 1), (27, .iload_n 2, 1), (28, .iload_n 1, 1), (29, .if_icmp .ge 51, 3), (32, .iconst 0, 1), (33, .istore_n 3, 1), (34, .iload_n 3, 1), (35, .iload_n 1, 1), (36, .if_icmp .ge 38, 3), (39, .aload_n 0, 1), (40, .getfield 15, 3), (43, .iload_n 3, 1), (44, .iaload, 1), (45, .iload_n 2, 1), (46, .ishr, 1), (47, .iconst 1, 1), (48, .iand, 1), (49, .iconst 1, 1), (50, .if_icmp .ne 18, 3), (53, .aload_n 0, 1), (54, .getfield 15, 3), (57, .iload_n 3, 1), (58, .dup2, 1), (59, .iaload, 1), (60, .aload_n 0, 1), (61, .getfield 15, 3), (64, .iload_n 2, 1), (65, .iaload, 1), (66, .ior, 1), (67, .iastore, 1), (68, .iinc 3 1, 3), (71, .goto (-37), 3), (74, .iinc 2 1, 3), (77, .goto (-50), 3), (80, .iconst 0, 1), (81, .istore_n 2, 1), (82, .iconst 0, 1), (83, .istore_n 3, 1), (84, .iload_n 3, 1), (85, .iload_n 1, 1), (86, .if_icmp .ge 22, 3), (89, .iload_n 2, 1), (90, .aload_n 0, 1), (91, .getfield 15, 3), (94, .iload_n 3, 1), (95, .iaload, 1), (96, .iconst 1, 1), (97, .iload_n 3, 1), (98, .ishl, 1), (99, .iand, 1), (100, .ior, 1), (101, .istore_n 2, 1), (102, .iinc 3 1, 3), (105, .goto (-21), 3), (108, .iload_n 2, 1), (109, .ireturn, 1)]
theorem DX6_inCyclesOf : (eX6_inCyclesOf.all fun q => decide (decode cX6_inCyclesOf q.1 = .ok q.2)) = true := by decide +kernel
def bX6_inCyclesOf_2 (S : List Sh) (x0 : Nat) (x1 : Int32) (x2 : Int32) (mm : Mm) : Option ((Int32 × Mm) ⊕ (Mm)) := if x1 ≤ x2 then (some (.inr (mm))) else (bd1 (ldA S 0 mm (rf S mm x0 0) x2) fun a1 => bd1 (stA S 0 mm (rf S mm x0 1) x2 a1) fun m2 => some (.inl (x2 + 1, m2)))
def jX6_inCyclesOf_68 (S : List Sh) (mm : Mm) (x0 : Nat) (x1 : Int32) (x2 : Int32) (x3 : Int32)  : Option ((Int32 × Mm) ⊕ (Mm)) := some (.inl (x3 + 1, mm))
def bX6_inCyclesOf_34 (S : List Sh) (x0 : Nat) (x1 : Int32) (x2 : Int32) (x3 : Int32) (mm : Mm) : Option ((Int32 × Mm) ⊕ (Mm)) := if x1 ≤ x3 then (some (.inr (mm))) else (bd1 (ldA S 0 mm (rf S mm x0 1) x3) fun a5 => if ¬ ((a5 >>> (x2 &&& 31)) &&& 1) = 1 then (jX6_inCyclesOf_68 S mm x0 x1 x2 x3) else (bd1 (ldA S 0 mm (rf S mm x0 1) x3) fun a6 => bd1 (ldA S 0 mm (rf S mm x0 1) x2) fun a7 => bd1 (stA S 0 mm (rf S mm x0 1) x3 (a6 ||| a7)) fun m8 => jX6_inCyclesOf_68 S m8 x0 x1 x2 x3))
def bX6_inCyclesOf_27 (S : List Sh) (x0 : Nat) (x1 : Int32) (x2 : Int32) (mm : Mm) : Option ((Int32 × Mm) ⊕ (Mm)) := if x1 ≤ x2 then (some (.inr (mm))) else (bd1 (lp (fun s9 => bX6_inCyclesOf_34 S x0 x1 x2 s9.1 s9.2) fu (0, mm)) fun y10 => some (.inl (x2 + 1, y10)))
def bX6_inCyclesOf_84 (S : List Sh) (mm : Mm) (x0 : Nat) (x1 : Int32) (x2 : Int32) (x3 : Int32) : Option ((Int32 × Int32) ⊕ (Int32)) := if x1 ≤ x3 then (some (.inr (x2))) else (bd1 (ldA S 0 mm (rf S mm x0 1) x3) fun a13 => some (.inl ((x2 ||| (a13 &&& (1 <<< (x3 &&& 31)))), x3 + 1)))
def fX6_inCyclesOf (S : List Sh) (mm : Mm) (x0 : Nat) (x1 : Int32) : Option (Int32 × Mm) := gd S x0 6 (bd1 (lp (fun s3 => bX6_inCyclesOf_2 S x0 x1 s3.1 s3.2) fu (0, mm)) fun y4 => bd1 (lp (fun s11 => bX6_inCyclesOf_27 S x0 x1 s11.1 s11.2) fu (0, y4)) fun y12 => bd1 (lp (fun s14 => bX6_inCyclesOf_84 S y12 x0 x1 s14.1 s14.2) fu (0, 0)) fun y15 => some (y15, y12))
set_option maxHeartbeats 1000000 in
theorem tX6_inCyclesOf_2 {G : Gt} {l : Launch} {E : Ev} {S : List Sh} {x0 : Nat} {x1 : Int32} {x2 : Int32} {mm : Mm} {r : (Int32 × Mm) ⊕ (Mm)} (C : Cx G E cX6_inCyclesOf 4 RX6 (some .int) 0 0) (g0 : isC S x0 6) (h : bX6_inCyclesOf_2 S x0 x1 x2 mm = some r) (kb : ∀ z : Int32 × Mm, r = .inl z → WM G l E S 2 [(0, .ref (E.2.2 x0)), (1, .int x1), (2, .int z.1)] [] z.2) (kx : ∀ z : Mm, r = .inr z → WM G l E S 25 [(0, .ref (E.2.2 x0)), (1, .int x1)] [] z) : WM G l E S 2 [(0, .ref (E.2.2 x0)), (1, .int x1), (2, .int x2)] [] mm := by
  unfold bX6_inCyclesOf_2 at h
  refine x_iload_n C (dq DX6_inCyclesOf 2 rfl) rfl 2 rfl ?_
  refine x_iload_n C (dq DX6_inCyclesOf 3 rfl) rfl 1 rfl ?_
  refine x_icmp_ge (tgt := 25) C (dq DX6_inCyclesOf 4 rfl) (by decide) h (fun h => ?_) (fun h => ?_)
  · cases h
    exact x_lv [0, 1] rfl (kx (mm) rfl)
  · refine x_aload_n C (dq DX6_inCyclesOf 5 rfl) rfl 0 rfl ?_
    refine x_pc 8 rfl ?_
    refine getX6_15 C (dq DX6_inCyclesOf 6 rfl) g0 ?_
    refine x_iload_n C (dq DX6_inCyclesOf 7 rfl) rfl 2 rfl ?_
    refine x_aload_n C (dq DX6_inCyclesOf 8 rfl) rfl 0 rfl ?_
    refine getX6_9 C (dq DX6_inCyclesOf 9 rfl) g0 ?_
    refine x_iload_n C (dq DX6_inCyclesOf 10 rfl) rfl 2 rfl ?_
    refine x_pc 17 rfl ?_
    refine x_iald C (dq DX6_inCyclesOf 11 rfl) h (fun a1 h => ?_)
    refine x_iast C (dq DX6_inCyclesOf 12 rfl) h (fun m2 h => ?_)
    refine x_iinc (v := x2 + 1) (lv' := [(2, .int (x2 + 1)), (0, .ref (E.2.2 x0)), (1, .int x1)]) C (dq DX6_inCyclesOf 13 rfl) 2 rfl rfl (by decide) rfl ?_
    refine x_goto (tgt := 2) C (dq DX6_inCyclesOf 14 rfl) (by decide) ?_
    cases h
    exact x_lv [1, 2, 0] rfl (kb (x2 + 1, m2) rfl)
set_option maxHeartbeats 1000000 in
theorem tX6_inCyclesOf_68 {G : Gt} {l : Launch} {E : Ev} {S : List Sh} {mm : Mm} {x0 : Nat} {x1 : Int32} {x2 : Int32} {x3 : Int32}  {r : (Int32 × Mm) ⊕ (Mm)} (C : Cx G E cX6_inCyclesOf 4 RX6 (some .int) 0 0) (g0 : isC S x0 6) (h : jX6_inCyclesOf_68 S mm x0 x1 x2 x3 = some r) (kb : ∀ z : Int32 × Mm, r = .inl z → WM G l E S 34 [(0, .ref (E.2.2 x0)), (1, .int x1), (2, .int x2), (3, .int z.1)] [] z.2) (kx : ∀ z : Mm, r = .inr z → WM G l E S 74 [(0, .ref (E.2.2 x0)), (1, .int x1), (2, .int x2)] [] z) : WM G l E S 68 [(0, .ref (E.2.2 x0)), (1, .int x1), (2, .int x2), (3, .int x3)] [] mm := by
  unfold jX6_inCyclesOf_68 at h
  refine x_iinc (v := x3 + 1) (lv' := [(3, .int (x3 + 1)), (0, .ref (E.2.2 x0)), (1, .int x1), (2, .int x2)]) C (dq DX6_inCyclesOf 46 rfl) 3 rfl rfl (by decide) rfl ?_
  refine x_goto (tgt := 34) C (dq DX6_inCyclesOf 47 rfl) (by decide) ?_
  cases h
  exact x_lv [1, 2, 3, 0] rfl (kb (x3 + 1, mm) rfl)
set_option maxHeartbeats 1000000 in
theorem tX6_inCyclesOf_34 {G : Gt} {l : Launch} {E : Ev} {S : List Sh} {x0 : Nat} {x1 : Int32} {x2 : Int32} {x3 : Int32} {mm : Mm} {r : (Int32 × Mm) ⊕ (Mm)} (C : Cx G E cX6_inCyclesOf 4 RX6 (some .int) 0 0) (g0 : isC S x0 6) (h : bX6_inCyclesOf_34 S x0 x1 x2 x3 mm = some r) (kb : ∀ z : Int32 × Mm, r = .inl z → WM G l E S 34 [(0, .ref (E.2.2 x0)), (1, .int x1), (2, .int x2), (3, .int z.1)] [] z.2) (kx : ∀ z : Mm, r = .inr z → WM G l E S 74 [(0, .ref (E.2.2 x0)), (1, .int x1), (2, .int x2)] [] z) : WM G l E S 34 [(0, .ref (E.2.2 x0)), (1, .int x1), (2, .int x2), (3, .int x3)] [] mm := by
  unfold bX6_inCyclesOf_34 at h
  refine x_iload_n C (dq DX6_inCyclesOf 22 rfl) rfl 3 rfl ?_
  refine x_iload_n C (dq DX6_inCyclesOf 23 rfl) rfl 1 rfl ?_
  refine x_icmp_ge (tgt := 74) C (dq DX6_inCyclesOf 24 rfl) (by decide) h (fun h => ?_) (fun h => ?_)
  · cases h
    exact x_lv [0, 1, 2] rfl (kx (mm) rfl)
  · refine x_aload_n C (dq DX6_inCyclesOf 25 rfl) rfl 0 rfl ?_
    refine x_pc 40 rfl ?_
    refine getX6_15 C (dq DX6_inCyclesOf 26 rfl) g0 ?_
    refine x_iload_n C (dq DX6_inCyclesOf 27 rfl) rfl 3 rfl ?_
    refine x_iald C (dq DX6_inCyclesOf 28 rfl) h (fun a5 h => ?_)
    refine x_iload_n C (dq DX6_inCyclesOf 29 rfl) rfl 2 rfl ?_
    refine x_ishr C (dq DX6_inCyclesOf 30 rfl) ?_
    refine x_pc 47 rfl ?_
    refine x_iconst (v := 1) C (dq DX6_inCyclesOf 31 rfl) (by decide) ?_
    refine x_iand C (dq DX6_inCyclesOf 32 rfl) ?_
    refine x_iconst (v := 1) C (dq DX6_inCyclesOf 33 rfl) (by decide) ?_
    refine x_icmp_ne (tgt := 68) C (dq DX6_inCyclesOf 34 rfl) (by decide) h (fun h => ?_) (fun h => ?_)
    · exact x_lv [0, 1, 2, 3] rfl (tX6_inCyclesOf_68 C g0 h kb kx)
    · refine x_aload_n C (dq DX6_inCyclesOf 35 rfl) rfl 0 rfl ?_
      refine x_pc 54 rfl ?_
      refine getX6_15 C (dq DX6_inCyclesOf 36 rfl) g0 ?_
      refine x_iload_n C (dq DX6_inCyclesOf 37 rfl) rfl 3 rfl ?_
      refine x_dup2 C (dq DX6_inCyclesOf 38 rfl) rfl rfl ?_
      refine x_iald C (dq DX6_inCyclesOf 39 rfl) h (fun a6 h => ?_)
      refine x_aload_n C (dq DX6_inCyclesOf 40 rfl) rfl 0 rfl ?_
      refine x_pc 61 rfl ?_
      refine getX6_15 C (dq DX6_inCyclesOf 41 rfl) g0 ?_
      refine x_iload_n C (dq DX6_inCyclesOf 42 rfl) rfl 2 rfl ?_
      refine x_iald C (dq DX6_inCyclesOf 43 rfl) h (fun a7 h => ?_)
      refine x_ior C (dq DX6_inCyclesOf 44 rfl) ?_
      refine x_iast C (dq DX6_inCyclesOf 45 rfl) h (fun m8 h => ?_)
      exact x_lv [0, 1, 2, 3] rfl (tX6_inCyclesOf_68 C g0 h kb kx)
set_option maxHeartbeats 1000000 in
theorem tX6_inCyclesOf_27 {G : Gt} {l : Launch} {E : Ev} {S : List Sh} {x0 : Nat} {x1 : Int32} {x2 : Int32} {mm : Mm} {r : (Int32 × Mm) ⊕ (Mm)} (C : Cx G E cX6_inCyclesOf 4 RX6 (some .int) 0 0) (g0 : isC S x0 6) (h : bX6_inCyclesOf_27 S x0 x1 x2 mm = some r) (kb : ∀ z : Int32 × Mm, r = .inl z → WM G l E S 27 [(0, .ref (E.2.2 x0)), (1, .int x1), (2, .int z.1)] [] z.2) (kx : ∀ z : Mm, r = .inr z → WM G l E S 80 [(0, .ref (E.2.2 x0)), (1, .int x1)] [] z) : WM G l E S 27 [(0, .ref (E.2.2 x0)), (1, .int x1), (2, .int x2)] [] mm := by
  unfold bX6_inCyclesOf_27 at h
  refine x_iload_n C (dq DX6_inCyclesOf 17 rfl) rfl 2 rfl ?_
  refine x_iload_n C (dq DX6_inCyclesOf 18 rfl) rfl 1 rfl ?_
  refine x_icmp_ge (tgt := 80) C (dq DX6_inCyclesOf 19 rfl) (by decide) h (fun h => ?_) (fun h => ?_)
  · cases h
    exact x_lv [0, 1] rfl (kx (mm) rfl)
  · refine x_iconst (v := 0) C (dq DX6_inCyclesOf 20 rfl) (by decide) ?_
    refine x_pc 33 rfl ?_
    refine x_istore_n (lv' := [(3, .int 0), (0, .ref (E.2.2 x0)), (1, .int x1), (2, .int x2)]) C (dq DX6_inCyclesOf 21 rfl) rfl (by decide) rfl ?_
    refine x_lv [1, 2, 3, 0] rfl ?_
    refine x_loop (s0 := (0, mm)) (fun s9 => WM G l E S 34 [(0, .ref (E.2.2 x0)), (1, .int x1), (2, .int x2), (3, .int s9.1)] [] s9.2) h (fun s9 r hb kb kx => tX6_inCyclesOf_34 C g0 hb kb (fun y10 hy => ?_))
    have h := kx y10 hy
    clear kx kb hb hy
    refine x_iinc (v := x2 + 1) (lv' := [(2, .int (x2 + 1)), (0, .ref (E.2.2 x0)), (1, .int x1)]) C (dq DX6_inCyclesOf 48 rfl) 2 rfl rfl (by decide) rfl ?_
    refine x_goto (tgt := 27) C (dq DX6_inCyclesOf 49 rfl) (by decide) ?_
    cases h
    exact x_lv [1, 2, 0] rfl (kb (x2 + 1, y10) rfl)
set_option maxHeartbeats 1000000 in
theorem tX6_inCyclesOf_84 {G : Gt} {l : Launch} {E : Ev} {S : List Sh} {mm : Mm} {x0 : Nat} {x1 : Int32} {x2 : Int32} {x3 : Int32} {r : (Int32 × Int32) ⊕ (Int32)} (C : Cx G E cX6_inCyclesOf 4 RX6 (some .int) 0 0) (g0 : isC S x0 6) (h : bX6_inCyclesOf_84 S mm x0 x1 x2 x3 = some r) (kb : ∀ z : Int32 × Int32, r = .inl z → WM G l E S 84 [(0, .ref (E.2.2 x0)), (1, .int x1), (2, .int z.1), (3, .int z.2)] [] mm) (kx : ∀ z : Int32, r = .inr z → WM G l E S 108 [(0, .ref (E.2.2 x0)), (1, .int x1), (2, .int z)] [] mm) : WM G l E S 84 [(0, .ref (E.2.2 x0)), (1, .int x1), (2, .int x2), (3, .int x3)] [] mm := by
  unfold bX6_inCyclesOf_84 at h
  refine x_iload_n C (dq DX6_inCyclesOf 54 rfl) rfl 3 rfl ?_
  refine x_iload_n C (dq DX6_inCyclesOf 55 rfl) rfl 1 rfl ?_
  refine x_icmp_ge (tgt := 108) C (dq DX6_inCyclesOf 56 rfl) (by decide) h (fun h => ?_) (fun h => ?_)
  · cases h
    exact x_lv [0, 1, 2] rfl (kx (x2) rfl)
  · refine x_iload_n C (dq DX6_inCyclesOf 57 rfl) rfl 2 rfl ?_
    refine x_pc 90 rfl ?_
    refine x_aload_n C (dq DX6_inCyclesOf 58 rfl) rfl 0 rfl ?_
    refine getX6_15 C (dq DX6_inCyclesOf 59 rfl) g0 ?_
    refine x_iload_n C (dq DX6_inCyclesOf 60 rfl) rfl 3 rfl ?_
    refine x_iald C (dq DX6_inCyclesOf 61 rfl) h (fun a13 h => ?_)
    refine x_iconst (v := 1) C (dq DX6_inCyclesOf 62 rfl) (by decide) ?_
    refine x_pc 97 rfl ?_
    refine x_iload_n C (dq DX6_inCyclesOf 63 rfl) rfl 3 rfl ?_
    refine x_ishl C (dq DX6_inCyclesOf 64 rfl) ?_
    refine x_iand C (dq DX6_inCyclesOf 65 rfl) ?_
    refine x_ior C (dq DX6_inCyclesOf 66 rfl) ?_
    refine x_istore_n (lv' := [(2, .int (x2 ||| (a13 &&& (1 <<< (x3 &&& 31))))), (0, .ref (E.2.2 x0)), (1, .int x1), (3, .int x3)]) C (dq DX6_inCyclesOf 67 rfl) rfl (by decide) rfl ?_
    refine x_pc 102 rfl ?_
    refine x_iinc (v := x3 + 1) (lv' := [(3, .int (x3 + 1)), (2, .int (x2 ||| (a13 &&& (1 <<< (x3 &&& 31))))), (0, .ref (E.2.2 x0)), (1, .int x1)]) C (dq DX6_inCyclesOf 68 rfl) 3 rfl rfl (by decide) rfl ?_
    refine x_goto (tgt := 84) C (dq DX6_inCyclesOf 69 rfl) (by decide) ?_
    cases h
    exact x_lv [2, 3, 1, 0] rfl (kb ((x2 ||| (a13 &&& (1 <<< (x3 &&& 31)))), x3 + 1) rfl)
set_option maxHeartbeats 1000000 in
theorem mX6_inCyclesOf {l : Launch} {E : Ev} {S : List Sh} {mm : Mm} {x0 : Nat} {x1 : Int32} {r : Int32 × Mm} (h : fX6_inCyclesOf S mm x0 x1 = some r) : Ml l E S yX6_inCyclesOf cX6_inCyclesOf 4 (some .int) 0 0 [.ref (E.2.2 x0), .int x1] mm (some (.int r.1)) r.2 := by
  refine Ml.of (by decide +kernel) (Nat.le_of_ble_eq_true rfl) (fun G C hQ => ?_)
  have C : Cx G E cX6_inCyclesOf 4 RX6 (some .int) 0 0 := C
  unfold fX6_inCyclesOf at h
  obtain ⟨g0, h⟩ := gd_some h
  show WM G l E S 0 [(0, .ref (E.2.2 x0)), (1, .int x1)] [] mm
  refine x_iconst (v := 0) C (dq DX6_inCyclesOf 0 rfl) (by decide) ?_
  refine x_istore_n (lv' := [(2, .int 0), (0, .ref (E.2.2 x0)), (1, .int x1)]) C (dq DX6_inCyclesOf 1 rfl) rfl (by decide) rfl ?_
  refine x_lv [1, 2, 0] rfl ?_
  refine x_loop (s0 := (0, mm)) (fun s3 => WM G l E S 2 [(0, .ref (E.2.2 x0)), (1, .int x1), (2, .int s3.1)] [] s3.2) h (fun s3 r hb kb kx => tX6_inCyclesOf_2 C g0 hb kb (fun y4 hy => ?_))
  have h := kx y4 hy
  clear kx kb hb hy
  refine x_iconst (v := 0) C (dq DX6_inCyclesOf 15 rfl) (by decide) ?_
  refine x_istore_n (lv' := [(2, .int 0), (0, .ref (E.2.2 x0)), (1, .int x1)]) C (dq DX6_inCyclesOf 16 rfl) rfl (by decide) rfl ?_
  refine x_lv [1, 2, 0] rfl ?_
  refine x_loop (s0 := (0, y4)) (fun s11 => WM G l E S 27 [(0, .ref (E.2.2 x0)), (1, .int x1), (2, .int s11.1)] [] s11.2) h (fun s11 r hb kb kx => tX6_inCyclesOf_27 C g0 hb kb (fun y12 hy => ?_))
  have h := kx y12 hy
  clear kx kb hb hy
  refine x_pc 80 rfl ?_
  refine x_iconst (v := 0) C (dq DX6_inCyclesOf 50 rfl) (by decide) ?_
  refine x_istore_n (lv' := [(2, .int 0), (0, .ref (E.2.2 x0)), (1, .int x1)]) C (dq DX6_inCyclesOf 51 rfl) rfl (by decide) rfl ?_
  refine x_iconst (v := 0) C (dq DX6_inCyclesOf 52 rfl) (by decide) ?_
  refine x_istore_n (lv' := [(3, .int 0), (2, .int 0), (0, .ref (E.2.2 x0)), (1, .int x1)]) C (dq DX6_inCyclesOf 53 rfl) rfl (by decide) rfl ?_
  refine x_lv [2, 3, 1, 0] rfl ?_
  refine x_loop (s0 := (0, 0)) (fun s14 => WM G l E S 84 [(0, .ref (E.2.2 x0)), (1, .int x1), (2, .int s14.1), (3, .int s14.2)] [] y12) h (fun s14 r hb kb kx => tX6_inCyclesOf_84 C g0 hb kb (fun y15 hy => ?_))
  have h := kx y15 hy
  clear kx kb hb hy
  refine x_iload_n C (dq DX6_inCyclesOf 70 rfl) rfl 2 rfl ?_
  refine x_pc 109 rfl ?_
  cases h
  exact x_iret C (dq DX6_inCyclesOf 71 rfl) hQ
set_option maxHeartbeats 1000000 in
theorem qX6_inCyclesOf {S : List Sh} {mm : Mm} {x0 : Nat} {x1 : Int32} {r : Int32 × Mm} (h : fX6_inCyclesOf S mm x0 x1 = some r) : isC S x0 6 := by
  unfold fX6_inCyclesOf at h
  exact (gd_some h).1
theorem getX6_36 {G : Gt} {l : Launch} {E : Ev} {S : List Sh} {cc : ByteArray} {nL : Nat} {rt : Option FieldType} {fr lo : Nat} {pc : Nat} {lv : List (Nat × Value)} {st : List Value} {mm : Mm} {o : Nat} (C : Cx G E cc nL RX6 rt fr lo) (d : decode cc pc = .ok (.getfield 36, 3)) (hg : isC S o 1) (k : WM G l E S (pc + 3) lv (.int (mm.1 o 9) :: st) mm) : WM G l E S pc lv (.ref (E.2.2 o) :: st) mm := x_getN0 C hg (T := TX1) (N := 11) rfl inX1 (by decide) (i := 9) (host := "LosslessFabric") (nmem 209 (by decide +kernel) rfl) rfl rfl d k
theorem callX6_39 {G : Gt} {l : Launch} {E : Ev} {S : List Sh} {cc : ByteArray} {nL : Nat} {rt : Option FieldType} {fr lo : Nat} {pc : Nat} {lv : List (Nat × Value)} {rest : List Value} {mm : Mm} {α : Type} {f : Int32 → Option α} {r : α} {o : Nat} {a0 : Nat} {a1 : Nat} {a2 : Int32} (C : Cx G E cc nL RX6 rt fr lo) (d : decode cc pc = .ok (.invokevirtual 39, 3)) (h : bd1 (fX6_waitsOf S mm o a0 a1 a2) f = some r) (hfr : 1 ≤ fr) (hlo : 26 ≤ lo) (hrs : (rest.map fun v => v.category).sum ≤ 8) (k : ∀ v, f v = some r → WM G l E S (pc + 3) lv (.int v :: rest) mm) : WM G l E S pc lv (.int a2 :: .ref (E.2.2 a1) :: .ref (E.2.2 a0) :: .ref (E.2.2 o) :: rest) mm := by
  obtain ⟨v, hv, hf⟩ := bd1_some h
  exact x_callV (n := 3) (As := [.ref (E.2.2 a0), .ref (E.2.2 a1), .int a2]) (rest := rest) C (mX6_waitsOf hv) (qX6_waitsOf hv) (T := TX6) (N := 5) rfl (gmem 577 (by decide +kernel) rfl) (gmem 562 (by decide +kernel) rfl) (gmem 563 (by decide +kernel) rfl) (gmem 5 (by decide +kernel) rfl) (gmem 564 (by decide +kernel) rfl) (by decide +kernel) rfl hfr hlo hrs d rfl rfl (k v hf)
theorem callX6_43 {G : Gt} {l : Launch} {E : Ev} {S : List Sh} {cc : ByteArray} {nL : Nat} {rt : Option FieldType} {fr lo : Nat} {pc : Nat} {lv : List (Nat × Value)} {rest : List Value} {mm : Mm} {α : Type} {f : Int32 → Mm → Option α} {r : α} {o : Nat} {a0 : Int32} (C : Cx G E cc nL RX6 rt fr lo) (d : decode cc pc = .ok (.invokevirtual 43, 3)) (h : bd2 (fX6_inCyclesOf S mm o a0) f = some r) (hfr : 1 ≤ fr) (hlo : 23 ≤ lo) (hrs : (rest.map fun v => v.category).sum ≤ 8) (k : ∀ v m1, f v m1 = some r → WM G l E S (pc + 3) lv (.int v :: rest) m1) : WM G l E S pc lv (.int a0 :: .ref (E.2.2 o) :: rest) mm := by
  obtain ⟨v, m1, hv, hf⟩ := bd2_some h
  exact x_callV (n := 1) (As := [.int a0]) (rest := rest) C (mX6_inCyclesOf hv) (qX6_inCyclesOf hv) (T := TX6) (N := 5) rfl (gmem 578 (by decide +kernel) rfl) (gmem 580 (by decide +kernel) rfl) (gmemS 25 (by decide +kernel) rfl) (gmem 5 (by decide +kernel) rfl) (gmem 581 (by decide +kernel) rfl) (by decide +kernel) rfl hfr hlo hrs d rfl rfl (k v m1 hf)
abbrev eX6_inPauseCycles : List (Nat × Instr × Nat) := [(0, .iconst 0, 1), (1, .istore_n 3, 1), (2, .iconst 0, 1), (3, .istore 4, 2), (5, .iload 4, 2), (7, .aload_n 1, 1), (8, .getfield 36, 3), (11, .if_icmp .ge 34, 3), (14, .aload_n 0, 1), (15, .getfield 9, 3), (18, .iload 4, 2), (20, .aload_n 0, 1), (21, .aload_n 1, 1), (22, .aload_n 2, 1), (23, .iload 4, 2), (25, .invokevirtual 39, 3), (28, .iastore, 1), (29, .iload_n 3, 1), (30, .aload_n 0, 1), (31, .getfield 9, 3), (34, .iload 4, 2), (36, .iaload, 1), (37, .ior, 1), (38, .istore_n 3, 1), (39, .iinc 4 1, 3), (42, .goto (-37), 3), (45, .iload_n 3, 1), (46, .ifCond .ne 7, 3), (49, .iconst 0, 1), (50, .goto 11, 3), (53, .aload_n 0, 1), (54, .aload_n 1, 1), (55, .getfield 36, 3), (58, .invokevirtual 43, 3), (61, .ireturn, 1)]
theorem DX6_inPauseCycles : (eX6_inPauseCycles.all fun q => decide (decode cX6_inPauseCycles q.1 = .ok q.2)) = true := by decide +kernel
def bX6_inPauseCycles_5 (S : List Sh) (x0 : Nat) (x1 : Nat) (x2 : Nat) (x3 : Int32) (x4 : Int32) (mm : Mm) : Option ((Int32 × Int32 × Mm) ⊕ (Int32 × Mm)) := if (mm.1 x1 9) ≤ x4 then (some (.inr (x3, mm))) else (bd1 (fX6_waitsOf S mm x0 x1 x2 x4) fun a1 => bd1 (stA S 0 mm (rf S mm x0 0) x4 a1) fun m2 => bd1 (ldA S 0 m2 (rf S m2 x0 0) x4) fun a3 => some (.inl ((x3 ||| a3), x4 + 1, m2)))
def jX6_inPauseCycles_61 (S : List Sh) (mm : Mm) (x0 : Nat) (x1 : Nat) (p0 : Int32) : Option (Int32 × Mm) := some (p0, mm)
def fX6_inPauseCycles (S : List Sh) (mm : Mm) (x0 : Nat) (x1 : Nat) (x2 : Nat) : Option (Int32 × Mm) := gd S x0 6 (gd S x1 1 (bd1 (lp (fun s4 => bX6_inPauseCycles_5 S x0 x1 x2 s4.1 s4.2.1 s4.2.2) fu (0, 0, mm)) fun y5 => if ¬ y5.1 = 0 then (bd2 (fX6_inCyclesOf S y5.2 x0 (y5.2.1 x1 9)) fun a6 m7 => jX6_inPauseCycles_61 S m7 x0 x1 a6) else (jX6_inPauseCycles_61 S y5.2 x0 x1 0)))
set_option maxHeartbeats 1000000 in
theorem tX6_inPauseCycles_5 {G : Gt} {l : Launch} {E : Ev} {S : List Sh} {x0 : Nat} {x1 : Nat} {x2 : Nat} {x3 : Int32} {x4 : Int32} {mm : Mm} {r : (Int32 × Int32 × Mm) ⊕ (Int32 × Mm)} (C : Cx G E cX6_inPauseCycles 5 RX6 (some .int) 1 26) (g0 : isC S x0 6) (g1 : isC S x1 1) (h : bX6_inPauseCycles_5 S x0 x1 x2 x3 x4 mm = some r) (kb : ∀ z : Int32 × Int32 × Mm, r = .inl z → WM G l E S 5 [(0, .ref (E.2.2 x0)), (1, .ref (E.2.2 x1)), (2, .ref (E.2.2 x2)), (3, .int z.1), (4, .int z.2.1)] [] z.2.2) (kx : ∀ z : Int32 × Mm, r = .inr z → WM G l E S 45 [(0, .ref (E.2.2 x0)), (1, .ref (E.2.2 x1)), (2, .ref (E.2.2 x2)), (3, .int z.1)] [] z.2) : WM G l E S 5 [(0, .ref (E.2.2 x0)), (1, .ref (E.2.2 x1)), (2, .ref (E.2.2 x2)), (3, .int x3), (4, .int x4)] [] mm := by
  unfold bX6_inPauseCycles_5 at h
  refine x_iload C (dq DX6_inPauseCycles 4 rfl) 4 rfl ?_
  refine x_aload_n C (dq DX6_inPauseCycles 5 rfl) rfl 1 rfl ?_
  refine getX6_36 C (dq DX6_inPauseCycles 6 rfl) g1 ?_
  refine x_icmp_ge (tgt := 45) C (dq DX6_inPauseCycles 7 rfl) (by decide) h (fun h => ?_) (fun h => ?_)
  · cases h
    exact x_lv [0, 1, 2, 3] rfl (kx (x3, mm) rfl)
  · refine x_pc 14 rfl ?_
    refine x_aload_n C (dq DX6_inPauseCycles 8 rfl) rfl 0 rfl ?_
    refine getX6_9 C (dq DX6_inPauseCycles 9 rfl) g0 ?_
    refine x_iload C (dq DX6_inPauseCycles 10 rfl) 4 rfl ?_
    refine x_aload_n C (dq DX6_inPauseCycles 11 rfl) rfl 0 rfl ?_
    refine x_aload_n C (dq DX6_inPauseCycles 12 rfl) rfl 1 rfl ?_
    refine x_pc 22 rfl ?_
    refine x_aload_n C (dq DX6_inPauseCycles 13 rfl) rfl 2 rfl ?_
    refine x_iload C (dq DX6_inPauseCycles 14 rfl) 4 rfl ?_
    refine callX6_39 C (dq DX6_inPauseCycles 15 rfl) h (by decide) (by decide) (Nat.le_of_ble_eq_true rfl) (fun a1 h => ?_)
    refine x_iast C (dq DX6_inPauseCycles 16 rfl) h (fun m2 h => ?_)
    refine x_iload_n C (dq DX6_inPauseCycles 17 rfl) rfl 3 rfl ?_
    refine x_pc 30 rfl ?_
    refine x_aload_n C (dq DX6_inPauseCycles 18 rfl) rfl 0 rfl ?_
    refine getX6_9 C (dq DX6_inPauseCycles 19 rfl) g0 ?_
    refine x_iload C (dq DX6_inPauseCycles 20 rfl) 4 rfl ?_
    refine x_iald C (dq DX6_inPauseCycles 21 rfl) h (fun a3 h => ?_)
    refine x_ior C (dq DX6_inPauseCycles 22 rfl) ?_
    refine x_pc 38 rfl ?_
    refine x_istore_n (lv' := [(3, .int (x3 ||| a3)), (0, .ref (E.2.2 x0)), (1, .ref (E.2.2 x1)), (2, .ref (E.2.2 x2)), (4, .int x4)]) C (dq DX6_inPauseCycles 23 rfl) rfl (by decide) rfl ?_
    refine x_iinc (v := x4 + 1) (lv' := [(4, .int (x4 + 1)), (3, .int (x3 ||| a3)), (0, .ref (E.2.2 x0)), (1, .ref (E.2.2 x1)), (2, .ref (E.2.2 x2))]) C (dq DX6_inPauseCycles 24 rfl) 4 rfl rfl (by decide) rfl ?_
    refine x_goto (tgt := 5) C (dq DX6_inPauseCycles 25 rfl) (by decide) ?_
    cases h
    exact x_lv [2, 3, 4, 1, 0] rfl (kb ((x3 ||| a3), x4 + 1, m2) rfl)
set_option maxHeartbeats 1000000 in
theorem tX6_inPauseCycles_61 {G : Gt} {l : Launch} {E : Ev} {S : List Sh} {mm : Mm} {x0 : Nat} {x1 : Nat} {p0 : Int32} {r : Int32 × Mm} (C : Cx G E cX6_inPauseCycles 5 RX6 (some .int) 1 26) (g0 : isC S x0 6) (g1 : isC S x1 1) (h : jX6_inPauseCycles_61 S mm x0 x1 p0 = some r) (hQ : RQ G E S (some (.int r.1)) r.2) : WM G l E S 61 [(0, .ref (E.2.2 x0)), (1, .ref (E.2.2 x1))] [.int p0] mm := by
  unfold jX6_inPauseCycles_61 at h
  cases h
  exact x_iret C (dq DX6_inPauseCycles 34 rfl) hQ
set_option maxHeartbeats 1000000 in
theorem mX6_inPauseCycles {l : Launch} {E : Ev} {S : List Sh} {mm : Mm} {x0 : Nat} {x1 : Nat} {x2 : Nat} {r : Int32 × Mm} (h : fX6_inPauseCycles S mm x0 x1 x2 = some r) : Ml l E S yX6_inPauseCycles cX6_inPauseCycles 5 (some .int) 1 26 [.ref (E.2.2 x0), .ref (E.2.2 x1), .ref (E.2.2 x2)] mm (some (.int r.1)) r.2 := by
  refine Ml.of (by decide +kernel) (Nat.le_of_ble_eq_true rfl) (fun G C hQ => ?_)
  have C : Cx G E cX6_inPauseCycles 5 RX6 (some .int) 1 26 := C
  unfold fX6_inPauseCycles at h
  obtain ⟨g0, h⟩ := gd_some h
  obtain ⟨g1, h⟩ := gd_some h
  show WM G l E S 0 [(0, .ref (E.2.2 x0)), (1, .ref (E.2.2 x1)), (2, .ref (E.2.2 x2))] [] mm
  refine x_iconst (v := 0) C (dq DX6_inPauseCycles 0 rfl) (by decide) ?_
  refine x_istore_n (lv' := [(3, .int 0), (0, .ref (E.2.2 x0)), (1, .ref (E.2.2 x1)), (2, .ref (E.2.2 x2))]) C (dq DX6_inPauseCycles 1 rfl) rfl (by decide) rfl ?_
  refine x_iconst (v := 0) C (dq DX6_inPauseCycles 2 rfl) (by decide) ?_
  refine x_istore (lv' := [(4, .int 0), (3, .int 0), (0, .ref (E.2.2 x0)), (1, .ref (E.2.2 x1)), (2, .ref (E.2.2 x2))]) C (dq DX6_inPauseCycles 3 rfl) (by decide) rfl ?_
  refine x_lv [2, 3, 4, 1, 0] rfl ?_
  refine x_loop (s0 := (0, 0, mm)) (fun s4 => WM G l E S 5 [(0, .ref (E.2.2 x0)), (1, .ref (E.2.2 x1)), (2, .ref (E.2.2 x2)), (3, .int s4.1), (4, .int s4.2.1)] [] s4.2.2) h (fun s4 r hb kb kx => tX6_inPauseCycles_5 C g0 g1 hb kb (fun y5 hy => ?_))
  have h := kx y5 hy
  clear kx kb hb hy
  refine x_pc 45 rfl ?_
  refine x_iload_n C (dq DX6_inPauseCycles 26 rfl) rfl 3 rfl ?_
  refine x_if_ne (tgt := 53) C (dq DX6_inPauseCycles 27 rfl) (by decide) h (fun h => ?_) (fun h => ?_)
  · refine x_aload_n C (dq DX6_inPauseCycles 30 rfl) rfl 0 rfl ?_
    refine x_aload_n C (dq DX6_inPauseCycles 31 rfl) rfl 1 rfl ?_
    refine getX6_36 C (dq DX6_inPauseCycles 32 rfl) g1 ?_
    refine x_pc 58 rfl ?_
    refine callX6_43 C (dq DX6_inPauseCycles 33 rfl) h (by decide) (by decide) (Nat.le_of_ble_eq_true rfl) (fun a6 m7 h => ?_)
    exact x_lv [0, 1] rfl (tX6_inPauseCycles_61 C g0 g1 h hQ)
  · refine x_iconst (v := 0) C (dq DX6_inPauseCycles 28 rfl) (by decide) ?_
    refine x_goto (tgt := 61) C (dq DX6_inPauseCycles 29 rfl) (by decide) ?_
    exact x_lv [0, 1] rfl (tX6_inPauseCycles_61 C g0 g1 h hQ)
set_option maxHeartbeats 1000000 in
theorem qX6_inPauseCycles {S : List Sh} {mm : Mm} {x0 : Nat} {x1 : Nat} {x2 : Nat} {r : Int32 × Mm} (h : fX6_inPauseCycles S mm x0 x1 x2 = some r) : isC S x0 6 := by
  unfold fX6_inPauseCycles at h
  exact (gd_some h).1
abbrev eX6_inPossibleCycles : List (Nat × Instr × Nat) := [(0, .iconst 0, 1), (1, .istore_n 2, 1), (2, .iload_n 2, 1), (3, .aload_n 1, 1), (4, .getfield 36, 3), (7, .if_icmp .ge 63, 3), (10, .aload_n 0, 1), (11, .getfield 9, 3), (14, .iload_n 2, 1), (15, .iconst 0, 1), (16, .iastore, 1), (17, .iconst 0, 1), (18, .istore_n 3, 1), (19, .iload_n 3, 1), (20, .aload_n 1, 1), (21, .getfield 28, 3), (24, .if_icmp .ge 40, 3), (27, .aload_n 1, 1), (28, .getfield 33, 3), (31, .iload_n 2, 1), (32, .bipush 8, 2), (34, .imul, 1), (35, .iload_n 3, 1), (36, .iadd, 1), (37, .iaload, 1), (38, .istore 4, 2), (40, .iload 4, 2), (42, .ifCond .lt 16, 3), (45, .aload_n 0, 1), (46, .getfield 9, 3), (49, .iload_n 2, 1), (50, .dup2, 1), (51, .iaload, 1), (52, .iconst 1, 1), (53, .iload 4, 2), (55, .ishl, 1), (56, .ior, 1), (57, .iastore, 1), (58, .iinc 3 1, 3), (61, .goto (-42), 3), (64, .iinc 2 1, 3), (67, .goto (-65), 3), (70, .aload_n 0, 1), (71, .aload_n 1, 1), (72, .getfield 36, 3), (75, .invokevirtual 43, 3), (78, .ireturn, 1)]
theorem DX6_inPossibleCycles : (eX6_inPossibleCycles.all fun q => decide (decode cX6_inPossibleCycles q.1 = .ok q.2)) = true := by decide +kernel
def jX6_inPossibleCycles_58 (S : List Sh) (mm : Mm) (x0 : Nat) (x1 : Nat) (x2 : Int32) (x3 : Int32)  : Option ((Int32 × Mm) ⊕ (Mm)) := some (.inl (x3 + 1, mm))
def bX6_inPossibleCycles_19 (S : List Sh) (x0 : Nat) (x1 : Nat) (x2 : Int32) (x3 : Int32) (mm : Mm) : Option ((Int32 × Mm) ⊕ (Mm)) := if (mm.1 x1 10) ≤ x3 then (some (.inr (mm))) else (bd1 (ldA S 0 mm (rf S mm x1 7) ((x2 * 8) + x3)) fun a2 => if a2 < 0 then (jX6_inPossibleCycles_58 S mm x0 x1 x2 x3) else (bd1 (ldA S 0 mm (rf S mm x0 0) x2) fun a3 => bd1 (stA S 0 mm (rf S mm x0 0) x2 (a3 ||| (1 <<< (a2 &&& 31)))) fun m4 => jX6_inPossibleCycles_58 S m4 x0 x1 x2 x3))
def bX6_inPossibleCycles_2 (S : List Sh) (x0 : Nat) (x1 : Nat) (x2 : Int32) (mm : Mm) : Option ((Int32 × Mm) ⊕ (Mm)) := if (mm.1 x1 9) ≤ x2 then (some (.inr (mm))) else (bd1 (stA S 0 mm (rf S mm x0 0) x2 0) fun m1 => bd1 (lp (fun s5 => bX6_inPossibleCycles_19 S x0 x1 x2 s5.1 s5.2) fu (0, m1)) fun y6 => some (.inl (x2 + 1, y6)))
def fX6_inPossibleCycles (S : List Sh) (mm : Mm) (x0 : Nat) (x1 : Nat) : Option (Int32 × Mm) := gd S x0 6 (gd S x1 1 (bd1 (lp (fun s7 => bX6_inPossibleCycles_2 S x0 x1 s7.1 s7.2) fu (0, mm)) fun y8 => bd2 (fX6_inCyclesOf S y8 x0 (y8.1 x1 9)) fun a9 m10 => some (a9, m10)))
set_option maxHeartbeats 1000000 in
theorem tX6_inPossibleCycles_58 {G : Gt} {l : Launch} {E : Ev} {S : List Sh} {mm : Mm} {x0 : Nat} {x1 : Nat} {x2 : Int32} {x3 : Int32}  {r : (Int32 × Mm) ⊕ (Mm)} (C : Cx G E cX6_inPossibleCycles 5 RX6 (some .int) 1 23) (g0 : isC S x0 6) (g1 : isC S x1 1) (h : jX6_inPossibleCycles_58 S mm x0 x1 x2 x3 = some r) (kb : ∀ z : Int32 × Mm, r = .inl z → WM G l E S 19 [(0, .ref (E.2.2 x0)), (1, .ref (E.2.2 x1)), (2, .int x2), (3, .int z.1)] [] z.2) (kx : ∀ z : Mm, r = .inr z → WM G l E S 64 [(0, .ref (E.2.2 x0)), (1, .ref (E.2.2 x1)), (2, .int x2)] [] z) : WM G l E S 58 [(0, .ref (E.2.2 x0)), (1, .ref (E.2.2 x1)), (2, .int x2), (3, .int x3)] [] mm := by
  unfold jX6_inPossibleCycles_58 at h
  refine x_iinc (v := x3 + 1) (lv' := [(3, .int (x3 + 1)), (0, .ref (E.2.2 x0)), (1, .ref (E.2.2 x1)), (2, .int x2)]) C (dq DX6_inPossibleCycles 38 rfl) 3 rfl rfl (by decide) rfl ?_
  refine x_goto (tgt := 19) C (dq DX6_inPossibleCycles 39 rfl) (by decide) ?_
  cases h
  exact x_lv [1, 2, 3, 0] rfl (kb (x3 + 1, mm) rfl)
set_option maxHeartbeats 1000000 in
theorem tX6_inPossibleCycles_19 {G : Gt} {l : Launch} {E : Ev} {S : List Sh} {x0 : Nat} {x1 : Nat} {x2 : Int32} {x3 : Int32} {mm : Mm} {r : (Int32 × Mm) ⊕ (Mm)} (C : Cx G E cX6_inPossibleCycles 5 RX6 (some .int) 1 23) (g0 : isC S x0 6) (g1 : isC S x1 1) (h : bX6_inPossibleCycles_19 S x0 x1 x2 x3 mm = some r) (kb : ∀ z : Int32 × Mm, r = .inl z → WM G l E S 19 [(0, .ref (E.2.2 x0)), (1, .ref (E.2.2 x1)), (2, .int x2), (3, .int z.1)] [] z.2) (kx : ∀ z : Mm, r = .inr z → WM G l E S 64 [(0, .ref (E.2.2 x0)), (1, .ref (E.2.2 x1)), (2, .int x2)] [] z) : WM G l E S 19 [(0, .ref (E.2.2 x0)), (1, .ref (E.2.2 x1)), (2, .int x2), (3, .int x3)] [] mm := by
  unfold bX6_inPossibleCycles_19 at h
  refine x_iload_n C (dq DX6_inPossibleCycles 13 rfl) rfl 3 rfl ?_
  refine x_aload_n C (dq DX6_inPossibleCycles 14 rfl) rfl 1 rfl ?_
  refine getX6_28 C (dq DX6_inPossibleCycles 15 rfl) g1 ?_
  refine x_icmp_ge (tgt := 64) C (dq DX6_inPossibleCycles 16 rfl) (by decide) h (fun h => ?_) (fun h => ?_)
  · cases h
    exact x_lv [0, 1, 2] rfl (kx (mm) rfl)
  · refine x_pc 27 rfl ?_
    refine x_aload_n C (dq DX6_inPossibleCycles 17 rfl) rfl 1 rfl ?_
    refine getX6_33 C (dq DX6_inPossibleCycles 18 rfl) g1 ?_
    refine x_iload_n C (dq DX6_inPossibleCycles 19 rfl) rfl 2 rfl ?_
    refine x_bipush (v := 8) C (dq DX6_inPossibleCycles 20 rfl) (by decide) ?_
    refine x_imul C (dq DX6_inPossibleCycles 21 rfl) ?_
    refine x_pc 35 rfl ?_
    refine x_iload_n C (dq DX6_inPossibleCycles 22 rfl) rfl 3 rfl ?_
    refine x_iadd C (dq DX6_inPossibleCycles 23 rfl) ?_
    refine x_iald C (dq DX6_inPossibleCycles 24 rfl) h (fun a2 h => ?_)
    refine x_istore (lv' := [(4, .int a2), (0, .ref (E.2.2 x0)), (1, .ref (E.2.2 x1)), (2, .int x2), (3, .int x3)]) C (dq DX6_inPossibleCycles 25 rfl) (by decide) rfl ?_
    refine x_iload C (dq DX6_inPossibleCycles 26 rfl) 0 rfl ?_
    refine x_pc 42 rfl ?_
    refine x_if_lt (tgt := 58) C (dq DX6_inPossibleCycles 27 rfl) (by decide) h (fun h => ?_) (fun h => ?_)
    · exact x_lv [1, 2, 3, 4] rfl (tX6_inPossibleCycles_58 C g0 g1 h kb kx)
    · refine x_aload_n C (dq DX6_inPossibleCycles 28 rfl) rfl 1 rfl ?_
      refine getX6_9 C (dq DX6_inPossibleCycles 29 rfl) g0 ?_
      refine x_iload_n C (dq DX6_inPossibleCycles 30 rfl) rfl 3 rfl ?_
      refine x_dup2 C (dq DX6_inPossibleCycles 31 rfl) rfl rfl ?_
      refine x_pc 51 rfl ?_
      refine x_iald C (dq DX6_inPossibleCycles 32 rfl) h (fun a3 h => ?_)
      refine x_iconst (v := 1) C (dq DX6_inPossibleCycles 33 rfl) (by decide) ?_
      refine x_iload C (dq DX6_inPossibleCycles 34 rfl) 0 rfl ?_
      refine x_ishl C (dq DX6_inPossibleCycles 35 rfl) ?_
      refine x_ior C (dq DX6_inPossibleCycles 36 rfl) ?_
      refine x_pc 57 rfl ?_
      refine x_iast C (dq DX6_inPossibleCycles 37 rfl) h (fun m4 h => ?_)
      exact x_lv [1, 2, 3, 4] rfl (tX6_inPossibleCycles_58 C g0 g1 h kb kx)
set_option maxHeartbeats 1000000 in
theorem tX6_inPossibleCycles_2 {G : Gt} {l : Launch} {E : Ev} {S : List Sh} {x0 : Nat} {x1 : Nat} {x2 : Int32} {mm : Mm} {r : (Int32 × Mm) ⊕ (Mm)} (C : Cx G E cX6_inPossibleCycles 5 RX6 (some .int) 1 23) (g0 : isC S x0 6) (g1 : isC S x1 1) (h : bX6_inPossibleCycles_2 S x0 x1 x2 mm = some r) (kb : ∀ z : Int32 × Mm, r = .inl z → WM G l E S 2 [(0, .ref (E.2.2 x0)), (1, .ref (E.2.2 x1)), (2, .int z.1)] [] z.2) (kx : ∀ z : Mm, r = .inr z → WM G l E S 70 [(0, .ref (E.2.2 x0)), (1, .ref (E.2.2 x1))] [] z) : WM G l E S 2 [(0, .ref (E.2.2 x0)), (1, .ref (E.2.2 x1)), (2, .int x2)] [] mm := by
  unfold bX6_inPossibleCycles_2 at h
  refine x_iload_n C (dq DX6_inPossibleCycles 2 rfl) rfl 2 rfl ?_
  refine x_aload_n C (dq DX6_inPossibleCycles 3 rfl) rfl 1 rfl ?_
  refine getX6_36 C (dq DX6_inPossibleCycles 4 rfl) g1 ?_
  refine x_icmp_ge (tgt := 70) C (dq DX6_inPossibleCycles 5 rfl) (by decide) h (fun h => ?_) (fun h => ?_)
  · cases h
    exact x_lv [0, 1] rfl (kx (mm) rfl)
  · refine x_pc 10 rfl ?_
    refine x_aload_n C (dq DX6_inPossibleCycles 6 rfl) rfl 0 rfl ?_
    refine getX6_9 C (dq DX6_inPossibleCycles 7 rfl) g0 ?_
    refine x_iload_n C (dq DX6_inPossibleCycles 8 rfl) rfl 2 rfl ?_
    refine x_iconst (v := 0) C (dq DX6_inPossibleCycles 9 rfl) (by decide) ?_
    refine x_iast C (dq DX6_inPossibleCycles 10 rfl) h (fun m1 h => ?_)
    refine x_pc 17 rfl ?_
    refine x_iconst (v := 0) C (dq DX6_inPossibleCycles 11 rfl) (by decide) ?_
    refine x_istore_n (lv' := [(3, .int 0), (0, .ref (E.2.2 x0)), (1, .ref (E.2.2 x1)), (2, .int x2)]) C (dq DX6_inPossibleCycles 12 rfl) rfl (by decide) rfl ?_
    refine x_lv [1, 2, 3, 0] rfl ?_
    refine x_loop (s0 := (0, m1)) (fun s5 => WM G l E S 19 [(0, .ref (E.2.2 x0)), (1, .ref (E.2.2 x1)), (2, .int x2), (3, .int s5.1)] [] s5.2) h (fun s5 r hb kb kx => tX6_inPossibleCycles_19 C g0 g1 hb kb (fun y6 hy => ?_))
    have h := kx y6 hy
    clear kx kb hb hy
    refine x_iinc (v := x2 + 1) (lv' := [(2, .int (x2 + 1)), (0, .ref (E.2.2 x0)), (1, .ref (E.2.2 x1))]) C (dq DX6_inPossibleCycles 40 rfl) 2 rfl rfl (by decide) rfl ?_
    refine x_goto (tgt := 2) C (dq DX6_inPossibleCycles 41 rfl) (by decide) ?_
    cases h
    exact x_lv [1, 2, 0] rfl (kb (x2 + 1, y6) rfl)
set_option maxHeartbeats 1000000 in
theorem mX6_inPossibleCycles {l : Launch} {E : Ev} {S : List Sh} {mm : Mm} {x0 : Nat} {x1 : Nat} {r : Int32 × Mm} (h : fX6_inPossibleCycles S mm x0 x1 = some r) : Ml l E S yX6_inPossibleCycles cX6_inPossibleCycles 5 (some .int) 1 23 [.ref (E.2.2 x0), .ref (E.2.2 x1)] mm (some (.int r.1)) r.2 := by
  refine Ml.of (by decide +kernel) (Nat.le_of_ble_eq_true rfl) (fun G C hQ => ?_)
  have C : Cx G E cX6_inPossibleCycles 5 RX6 (some .int) 1 23 := C
  unfold fX6_inPossibleCycles at h
  obtain ⟨g0, h⟩ := gd_some h
  obtain ⟨g1, h⟩ := gd_some h
  show WM G l E S 0 [(0, .ref (E.2.2 x0)), (1, .ref (E.2.2 x1))] [] mm
  refine x_iconst (v := 0) C (dq DX6_inPossibleCycles 0 rfl) (by decide) ?_
  refine x_istore_n (lv' := [(2, .int 0), (0, .ref (E.2.2 x0)), (1, .ref (E.2.2 x1))]) C (dq DX6_inPossibleCycles 1 rfl) rfl (by decide) rfl ?_
  refine x_lv [1, 2, 0] rfl ?_
  refine x_loop (s0 := (0, mm)) (fun s7 => WM G l E S 2 [(0, .ref (E.2.2 x0)), (1, .ref (E.2.2 x1)), (2, .int s7.1)] [] s7.2) h (fun s7 r hb kb kx => tX6_inPossibleCycles_2 C g0 g1 hb kb (fun y8 hy => ?_))
  have h := kx y8 hy
  clear kx kb hb hy
  refine x_aload_n C (dq DX6_inPossibleCycles 42 rfl) rfl 0 rfl ?_
  refine x_aload_n C (dq DX6_inPossibleCycles 43 rfl) rfl 1 rfl ?_
  refine x_pc 72 rfl ?_
  refine getX6_36 C (dq DX6_inPossibleCycles 44 rfl) g1 ?_
  refine callX6_43 C (dq DX6_inPossibleCycles 45 rfl) h (by decide) (by decide) (Nat.le_of_ble_eq_true rfl) (fun a9 m10 h => ?_)
  cases h
  exact x_iret C (dq DX6_inPossibleCycles 46 rfl) hQ
set_option maxHeartbeats 1000000 in
theorem qX6_inPossibleCycles {S : List Sh} {mm : Mm} {x0 : Nat} {x1 : Nat} {r : Int32 × Mm} (h : fX6_inPossibleCycles S mm x0 x1 = some r) : isC S x0 6 := by
  unfold fX6_inPossibleCycles at h
  exact (gd_some h).1
abbrev eX6_leastOf : List (Nat × Instr × Nat) := [(0, .iconst 0, 1), (1, .istore_n 1, 1), (2, .iload_n 1, 1), (3, .bipush 10, 2), (5, .if_icmp .ge 20, 3), (8, .iload_n 0, 1), (9, .iload_n 1, 1), (10, .ishr, 1), (11, .iconst 1, 1), (12, .iand, 1), (13, .iconst 1, 1), (14, .if_icmp .ne 5, 3), (17, .iload_n 1, 1), (18, .ireturn, 1), (19, .iinc 1 1, 3), (22, .goto (-20), 3), (25, .iconst 0, 1), (26, .ireturn, 1)]
theorem DX6_leastOf : (eX6_leastOf.all fun q => decide (decode cX6_leastOf q.1 = .ok q.2)) = true := by decide +kernel
def bX6_leastOf_2 (S : List Sh) (mm : Mm) (x0 : Int32) (x1 : Int32) : Option ((Int32) ⊕ ((Int32) ⊕ (Unit))) := if 10 ≤ x1 then (some (.inr (.inr ()))) else (if ¬ ((x0 >>> (x1 &&& 31)) &&& 1) = 1 then (some (.inl (x1 + 1))) else (some (.inr (.inl x1))))
def fX6_leastOf (S : List Sh) (mm : Mm) (x0 : Int32) : Option (Int32) := bdR (lp (fun s1 => bX6_leastOf_2 S mm x0 s1) fu 0) (fun a3 => some a3) fun y2 => some 0
set_option maxHeartbeats 1000000 in
theorem tX6_leastOf_2 {G : Gt} {l : Launch} {E : Ev} {S : List Sh} {mm : Mm} {x0 : Int32} {x1 : Int32} {r : (Int32) ⊕ ((Int32) ⊕ (Unit))} (C : Cx G E cX6_leastOf 2 RX6 (some .int) 0 0)  (h : bX6_leastOf_2 S mm x0 x1 = some r) (kb : ∀ z : Int32, r = .inl z → WM G l E S 2 [(0, .int x0), (1, .int z)] [] mm) (kr : ∀ z : Int32, r = .inr (.inl z) → RQ G E S (some (.int z)) mm) (kx : ∀ z : Unit, r = .inr (.inr z) → WM G l E S 25 [(0, .int x0)] [] mm) : WM G l E S 2 [(0, .int x0), (1, .int x1)] [] mm := by
  unfold bX6_leastOf_2 at h
  refine x_iload_n C (dq DX6_leastOf 2 rfl) rfl 1 rfl ?_
  refine x_bipush (v := 10) C (dq DX6_leastOf 3 rfl) (by decide) ?_
  refine x_icmp_ge (tgt := 25) C (dq DX6_leastOf 4 rfl) (by decide) h (fun h => ?_) (fun h => ?_)
  · cases h
    exact x_lv [0] rfl (kx () rfl)
  · refine x_iload_n C (dq DX6_leastOf 5 rfl) rfl 0 rfl ?_
    refine x_pc 9 rfl ?_
    refine x_iload_n C (dq DX6_leastOf 6 rfl) rfl 1 rfl ?_
    refine x_ishr C (dq DX6_leastOf 7 rfl) ?_
    refine x_iconst (v := 1) C (dq DX6_leastOf 8 rfl) (by decide) ?_
    refine x_iand C (dq DX6_leastOf 9 rfl) ?_
    refine x_iconst (v := 1) C (dq DX6_leastOf 10 rfl) (by decide) ?_
    refine x_pc 14 rfl ?_
    refine x_icmp_ne (tgt := 19) C (dq DX6_leastOf 11 rfl) (by decide) h (fun h => ?_) (fun h => ?_)
    · refine x_iinc (v := x1 + 1) (lv' := [(1, .int (x1 + 1)), (0, .int x0)]) C (dq DX6_leastOf 14 rfl) 1 rfl rfl (by decide) rfl ?_
      refine x_goto (tgt := 2) C (dq DX6_leastOf 15 rfl) (by decide) ?_
      cases h
      exact x_lv [1, 0] rfl (kb (x1 + 1) rfl)
    · refine x_iload_n C (dq DX6_leastOf 12 rfl) rfl 1 rfl ?_
      cases h
      exact x_iret C (dq DX6_leastOf 13 rfl) (kr x1 rfl)
set_option maxHeartbeats 1000000 in
theorem mX6_leastOf {l : Launch} {E : Ev} {S : List Sh} {mm : Mm} {x0 : Int32} {r : Int32} (h : fX6_leastOf S mm x0 = some r) : Ml l E S yX6_leastOf cX6_leastOf 2 (some .int) 0 0 [.int x0] mm (some (.int r)) mm := by
  refine Ml.of (by decide +kernel) (Nat.le_of_ble_eq_true rfl) (fun G C hQ => ?_)
  have C : Cx G E cX6_leastOf 2 RX6 (some .int) 0 0 := C
  unfold fX6_leastOf at h
  show WM G l E S 0 [(0, .int x0)] [] mm
  refine x_iconst (v := 0) C (dq DX6_leastOf 0 rfl) (by decide) ?_
  refine x_istore_n (lv' := [(1, .int 0), (0, .int x0)]) C (dq DX6_leastOf 1 rfl) rfl (by decide) rfl ?_
  refine x_lv [1, 0] rfl ?_
  refine x_loopR (s0 := 0) (fun s1 => WM G l E S 2 [(0, .int x0), (1, .int s1)] [] mm) h (fun s1 r hb kb kg kx => tX6_leastOf_2 C  hb kb (fun a3 ha => ?_) (fun y2 hy => ?_))
  · have h := kg a3 ha
    cases h
    exact hQ
  · have h := kx y2 hy
    clear kx kb hb hy kg
    refine x_iconst (v := 0) C (dq DX6_leastOf 16 rfl) (by decide) ?_
    cases h
    exact x_iret C (dq DX6_leastOf 17 rfl) hQ
theorem getX6_18 {G : Gt} {l : Launch} {E : Ev} {S : List Sh} {cc : ByteArray} {nL : Nat} {rt : Option FieldType} {fr lo : Nat} {pc : Nat} {lv : List (Nat × Value)} {st : List Value} {mm : Mm} {o : Nat} (C : Cx G E cc nL RX6 rt fr lo) (d : decode cc pc = .ok (.getfield 18, 3)) (hg : isC S o 6) (k : WM G l E S (pc + 3) lv (.ref (E.2.2 (rf S mm o 2)) :: st) mm) : WM G l E S pc lv (.ref (E.2.2 o) :: st) mm := x_get2 C hg (T := TX6) (N := 5) rfl inX6 (by decide) (i := 2) (gmem 106 (by decide +kernel) rfl) rfl rfl d k
abbrev eX6_measure : List (Nat × Instr × Nat) := [(0, .iconst 0, 1), (1, .istore_n 3, 1), (2, .iload_n 3, 1), (3, .iload_n 2, 1), (4, .if_icmp .ge 25, 3), (7, .aload_n 0, 1), (8, .getfield 18, 3), (11, .iload_n 3, 1), (12, .iload_n 3, 1), (13, .iload_n 1, 1), (14, .if_icmp .ne 7, 3), (17, .iconst 0, 1), (18, .goto 4, 3), (21, .iconst (-1), 1), (22, .iastore, 1), (23, .iinc 3 1, 3), (26, .goto (-24), 3), (29, .iconst 1, 1), (30, .iload_n 1, 1), (31, .ishl, 1), (32, .istore_n 3, 1), (33, .iconst 1, 1), (34, .istore 4, 2), (36, .iload 4, 2), (38, .iload_n 2, 1), (39, .if_icmp .ge 73, 3), (42, .iconst 0, 1), (43, .istore 5, 2), (45, .iconst 0, 1), (46, .istore 6, 2), (48, .iload 6, 2), (50, .iload_n 2, 1), (51, .if_icmp .ge 50, 3), (54, .aload_n 0, 1), (55, .getfield 18, 3), (58, .iload 6, 2), (60, .iaload, 1), (61, .iconst (-1), 1), (62, .if_icmp .ne 33, 3), (65, .aload_n 0, 1), (66, .getfield 9, 3), (69, .iload 6, 2), (71, .iaload, 1), (72, .iload_n 3, 1), (73, .iand, 1), (74, .ifCond .eq 21, 3), (77, .aload_n 0, 1), (78, .getfield 18, 3), (81, .iload 6, 2), (83, .iload 4, 2), (85, .iastore, 1), (86, .iload 5, 2), (88, .iconst 1, 1), (89, .iload 6, 2), (91, .ishl, 1), (92, .ior, 1), (93, .istore 5, 2), (95, .iinc 6 1, 3), (98, .goto (-50), 3), (101, .iload_n 3, 1), (102, .iload 5, 2), (104, .ior, 1), (105, .istore_n 3, 1), (106, .iinc 4 1, 3), (109, .goto (-73), 3), (112, .return_, 1)]
theorem DX6_measure : (eX6_measure.all fun q => decide (decode cX6_measure q.1 = .ok q.2)) = true := by decide +kernel
def jX6_measure_22 (S : List Sh) (mm : Mm) (x0 : Nat) (x1 : Int32) (x2 : Int32) (x3 : Int32) (p0 : Nat) (p1 : Int32) (p2 : Int32) : Option ((Int32 × Mm) ⊕ (Mm)) := bd1 (stA S 0 mm p0 p1 p2) fun m1 => some (.inl (x3 + 1, m1))
def bX6_measure_2 (S : List Sh) (x0 : Nat) (x1 : Int32) (x2 : Int32) (x3 : Int32) (mm : Mm) : Option ((Int32 × Mm) ⊕ (Mm)) := if x2 ≤ x3 then (some (.inr (mm))) else (if ¬ x3 = x1 then (jX6_measure_22 S mm x0 x1 x2 x3 (rf S mm x0 2) x3 (-1)) else (jX6_measure_22 S mm x0 x1 x2 x3 (rf S mm x0 2) x3 0))
def jX6_measure_95 (S : List Sh) (mm : Mm) (x0 : Nat) (x2 : Int32) (x3 : Int32) (x4 : Int32) (x5 : Int32) (x6 : Int32)  : Option ((Int32 × Int32 × Mm) ⊕ (Int32 × Mm)) := some (.inl (x5, x6 + 1, mm))
def bX6_measure_48 (S : List Sh) (x0 : Nat) (x2 : Int32) (x3 : Int32) (x4 : Int32) (x5 : Int32) (x6 : Int32) (mm : Mm) : Option ((Int32 × Int32 × Mm) ⊕ (Int32 × Mm)) := if x2 ≤ x6 then (some (.inr (x5, mm))) else (bd1 (ldA S 0 mm (rf S mm x0 2) x6) fun a4 => if ¬ a4 = (-1) then (jX6_measure_95 S mm x0 x2 x3 x4 x5 x6) else (bd1 (ldA S 0 mm (rf S mm x0 0) x6) fun a5 => if (a5 &&& x3) = 0 then (jX6_measure_95 S mm x0 x2 x3 x4 x5 x6) else (bd1 (stA S 0 mm (rf S mm x0 2) x6 x4) fun m6 => jX6_measure_95 S m6 x0 x2 x3 x4 (x5 ||| (1 <<< (x6 &&& 31))) x6)))
def bX6_measure_36 (S : List Sh) (x0 : Nat) (x2 : Int32) (x3 : Int32) (x4 : Int32) (mm : Mm) : Option ((Int32 × Int32 × Mm) ⊕ (Mm)) := if x2 ≤ x4 then (some (.inr (mm))) else (bd1 (lp (fun s7 => bX6_measure_48 S x0 x2 x3 x4 s7.1 s7.2.1 s7.2.2) fu (0, 0, mm)) fun y8 => some (.inl ((x3 ||| y8.1), x4 + 1, y8.2)))
def fX6_measure (S : List Sh) (mm : Mm) (x0 : Nat) (x1 : Int32) (x2 : Int32) : Option (Mm) := gd S x0 6 (bd1 (lp (fun s2 => bX6_measure_2 S x0 x1 x2 s2.1 s2.2) fu (0, mm)) fun y3 => bd1 (lp (fun s9 => bX6_measure_36 S x0 x2 s9.1 s9.2.1 s9.2.2) fu ((1 <<< (x1 &&& 31)), 1, y3)) fun y10 => some y10)
set_option maxHeartbeats 1000000 in
theorem tX6_measure_22 {G : Gt} {l : Launch} {E : Ev} {S : List Sh} {mm : Mm} {x0 : Nat} {x1 : Int32} {x2 : Int32} {x3 : Int32} {p0 : Nat} {p1 : Int32} {p2 : Int32} {r : (Int32 × Mm) ⊕ (Mm)} (C : Cx G E cX6_measure 7 RX6 none 0 0) (g0 : isC S x0 6) (h : jX6_measure_22 S mm x0 x1 x2 x3 p0 p1 p2 = some r) (kb : ∀ z : Int32 × Mm, r = .inl z → WM G l E S 2 [(0, .ref (E.2.2 x0)), (1, .int x1), (2, .int x2), (3, .int z.1)] [] z.2) (kx : ∀ z : Mm, r = .inr z → WM G l E S 29 [(0, .ref (E.2.2 x0)), (1, .int x1), (2, .int x2)] [] z) : WM G l E S 22 [(0, .ref (E.2.2 x0)), (1, .int x1), (2, .int x2), (3, .int x3)] [.int p2, .int p1, .ref (E.2.2 p0)] mm := by
  unfold jX6_measure_22 at h
  refine x_iast C (dq DX6_measure 14 rfl) h (fun m1 h => ?_)
  refine x_iinc (v := x3 + 1) (lv' := [(3, .int (x3 + 1)), (0, .ref (E.2.2 x0)), (1, .int x1), (2, .int x2)]) C (dq DX6_measure 15 rfl) 3 rfl rfl (by decide) rfl ?_
  refine x_goto (tgt := 2) C (dq DX6_measure 16 rfl) (by decide) ?_
  cases h
  exact x_lv [1, 2, 3, 0] rfl (kb (x3 + 1, m1) rfl)
set_option maxHeartbeats 1000000 in
theorem tX6_measure_2 {G : Gt} {l : Launch} {E : Ev} {S : List Sh} {x0 : Nat} {x1 : Int32} {x2 : Int32} {x3 : Int32} {mm : Mm} {r : (Int32 × Mm) ⊕ (Mm)} (C : Cx G E cX6_measure 7 RX6 none 0 0) (g0 : isC S x0 6) (h : bX6_measure_2 S x0 x1 x2 x3 mm = some r) (kb : ∀ z : Int32 × Mm, r = .inl z → WM G l E S 2 [(0, .ref (E.2.2 x0)), (1, .int x1), (2, .int x2), (3, .int z.1)] [] z.2) (kx : ∀ z : Mm, r = .inr z → WM G l E S 29 [(0, .ref (E.2.2 x0)), (1, .int x1), (2, .int x2)] [] z) : WM G l E S 2 [(0, .ref (E.2.2 x0)), (1, .int x1), (2, .int x2), (3, .int x3)] [] mm := by
  unfold bX6_measure_2 at h
  refine x_iload_n C (dq DX6_measure 2 rfl) rfl 3 rfl ?_
  refine x_iload_n C (dq DX6_measure 3 rfl) rfl 2 rfl ?_
  refine x_icmp_ge (tgt := 29) C (dq DX6_measure 4 rfl) (by decide) h (fun h => ?_) (fun h => ?_)
  · cases h
    exact x_lv [0, 1, 2] rfl (kx (mm) rfl)
  · refine x_aload_n C (dq DX6_measure 5 rfl) rfl 0 rfl ?_
    refine x_pc 8 rfl ?_
    refine getX6_18 C (dq DX6_measure 6 rfl) g0 ?_
    refine x_iload_n C (dq DX6_measure 7 rfl) rfl 3 rfl ?_
    refine x_iload_n C (dq DX6_measure 8 rfl) rfl 3 rfl ?_
    refine x_iload_n C (dq DX6_measure 9 rfl) rfl 1 rfl ?_
    refine x_icmp_ne (tgt := 21) C (dq DX6_measure 10 rfl) (by decide) h (fun h => ?_) (fun h => ?_)
    · refine x_pc 21 rfl ?_
      refine x_iconst (v := (-1)) C (dq DX6_measure 13 rfl) (by decide) ?_
      exact x_lv [0, 1, 2, 3] rfl (tX6_measure_22 C g0 h kb kx)
    · refine x_pc 17 rfl ?_
      refine x_iconst (v := 0) C (dq DX6_measure 11 rfl) (by decide) ?_
      refine x_goto (tgt := 22) C (dq DX6_measure 12 rfl) (by decide) ?_
      exact x_lv [0, 1, 2, 3] rfl (tX6_measure_22 C g0 h kb kx)
set_option maxHeartbeats 1000000 in
theorem tX6_measure_95 {G : Gt} {l : Launch} {E : Ev} {S : List Sh} {mm : Mm} {x0 : Nat} {x2 : Int32} {x3 : Int32} {x4 : Int32} {x5 : Int32} {x6 : Int32}  {r : (Int32 × Int32 × Mm) ⊕ (Int32 × Mm)} (C : Cx G E cX6_measure 7 RX6 none 0 0) (g0 : isC S x0 6) (h : jX6_measure_95 S mm x0 x2 x3 x4 x5 x6 = some r) (kb : ∀ z : Int32 × Int32 × Mm, r = .inl z → WM G l E S 48 [(0, .ref (E.2.2 x0)), (2, .int x2), (3, .int x3), (4, .int x4), (5, .int z.1), (6, .int z.2.1)] [] z.2.2) (kx : ∀ z : Int32 × Mm, r = .inr z → WM G l E S 101 [(0, .ref (E.2.2 x0)), (2, .int x2), (3, .int x3), (4, .int x4), (5, .int z.1)] [] z.2) : WM G l E S 95 [(0, .ref (E.2.2 x0)), (2, .int x2), (3, .int x3), (4, .int x4), (5, .int x5), (6, .int x6)] [] mm := by
  unfold jX6_measure_95 at h
  refine x_iinc (v := x6 + 1) (lv' := [(6, .int (x6 + 1)), (0, .ref (E.2.2 x0)), (2, .int x2), (3, .int x3), (4, .int x4), (5, .int x5)]) C (dq DX6_measure 57 rfl) 5 rfl rfl (by decide) rfl ?_
  refine x_goto (tgt := 48) C (dq DX6_measure 58 rfl) (by decide) ?_
  cases h
  exact x_lv [1, 2, 3, 4, 5, 0] rfl (kb (x5, x6 + 1, mm) rfl)
set_option maxHeartbeats 1000000 in
theorem tX6_measure_48 {G : Gt} {l : Launch} {E : Ev} {S : List Sh} {x0 : Nat} {x2 : Int32} {x3 : Int32} {x4 : Int32} {x5 : Int32} {x6 : Int32} {mm : Mm} {r : (Int32 × Int32 × Mm) ⊕ (Int32 × Mm)} (C : Cx G E cX6_measure 7 RX6 none 0 0) (g0 : isC S x0 6) (h : bX6_measure_48 S x0 x2 x3 x4 x5 x6 mm = some r) (kb : ∀ z : Int32 × Int32 × Mm, r = .inl z → WM G l E S 48 [(0, .ref (E.2.2 x0)), (2, .int x2), (3, .int x3), (4, .int x4), (5, .int z.1), (6, .int z.2.1)] [] z.2.2) (kx : ∀ z : Int32 × Mm, r = .inr z → WM G l E S 101 [(0, .ref (E.2.2 x0)), (2, .int x2), (3, .int x3), (4, .int x4), (5, .int z.1)] [] z.2) : WM G l E S 48 [(0, .ref (E.2.2 x0)), (2, .int x2), (3, .int x3), (4, .int x4), (5, .int x5), (6, .int x6)] [] mm := by
  unfold bX6_measure_48 at h
  refine x_iload C (dq DX6_measure 30 rfl) 5 rfl ?_
  refine x_iload_n C (dq DX6_measure 31 rfl) rfl 1 rfl ?_
  refine x_icmp_ge (tgt := 101) C (dq DX6_measure 32 rfl) (by decide) h (fun h => ?_) (fun h => ?_)
  · cases h
    exact x_lv [0, 1, 2, 3, 4] rfl (kx (x5, mm) rfl)
  · refine x_aload_n C (dq DX6_measure 33 rfl) rfl 0 rfl ?_
    refine x_pc 55 rfl ?_
    refine getX6_18 C (dq DX6_measure 34 rfl) g0 ?_
    refine x_iload C (dq DX6_measure 35 rfl) 5 rfl ?_
    refine x_iald C (dq DX6_measure 36 rfl) h (fun a4 h => ?_)
    refine x_iconst (v := (-1)) C (dq DX6_measure 37 rfl) (by decide) ?_
    refine x_icmp_ne (tgt := 95) C (dq DX6_measure 38 rfl) (by decide) h (fun h => ?_) (fun h => ?_)
    · exact x_lv [0, 1, 2, 3, 4, 5] rfl (tX6_measure_95 C g0 h kb kx)
    · refine x_pc 65 rfl ?_
      refine x_aload_n C (dq DX6_measure 39 rfl) rfl 0 rfl ?_
      refine getX6_9 C (dq DX6_measure 40 rfl) g0 ?_
      refine x_iload C (dq DX6_measure 41 rfl) 5 rfl ?_
      refine x_iald C (dq DX6_measure 42 rfl) h (fun a5 h => ?_)
      refine x_iload_n C (dq DX6_measure 43 rfl) rfl 2 rfl ?_
      refine x_pc 73 rfl ?_
      refine x_iand C (dq DX6_measure 44 rfl) ?_
      refine x_if_eq (tgt := 95) C (dq DX6_measure 45 rfl) (by decide) h (fun h => ?_) (fun h => ?_)
      · exact x_lv [0, 1, 2, 3, 4, 5] rfl (tX6_measure_95 C g0 h kb kx)
      · refine x_aload_n C (dq DX6_measure 46 rfl) rfl 0 rfl ?_
        refine getX6_18 C (dq DX6_measure 47 rfl) g0 ?_
        refine x_iload C (dq DX6_measure 48 rfl) 5 rfl ?_
        refine x_pc 83 rfl ?_
        refine x_iload C (dq DX6_measure 49 rfl) 3 rfl ?_
        refine x_iast C (dq DX6_measure 50 rfl) h (fun m6 h => ?_)
        refine x_iload C (dq DX6_measure 51 rfl) 4 rfl ?_
        refine x_iconst (v := 1) C (dq DX6_measure 52 rfl) (by decide) ?_
        refine x_iload C (dq DX6_measure 53 rfl) 5 rfl ?_
        refine x_pc 91 rfl ?_
        refine x_ishl C (dq DX6_measure 54 rfl) ?_
        refine x_ior C (dq DX6_measure 55 rfl) ?_
        refine x_istore (lv' := [(5, .int (x5 ||| (1 <<< (x6 &&& 31)))), (0, .ref (E.2.2 x0)), (2, .int x2), (3, .int x3), (4, .int x4), (6, .int x6)]) C (dq DX6_measure 56 rfl) (by decide) rfl ?_
        exact x_lv [1, 2, 3, 4, 0, 5] rfl (tX6_measure_95 C g0 h kb kx)
set_option maxHeartbeats 1000000 in
theorem tX6_measure_36 {G : Gt} {l : Launch} {E : Ev} {S : List Sh} {x0 : Nat} {x2 : Int32} {x3 : Int32} {x4 : Int32} {mm : Mm} {r : (Int32 × Int32 × Mm) ⊕ (Mm)} (C : Cx G E cX6_measure 7 RX6 none 0 0) (g0 : isC S x0 6) (h : bX6_measure_36 S x0 x2 x3 x4 mm = some r) (kb : ∀ z : Int32 × Int32 × Mm, r = .inl z → WM G l E S 36 [(0, .ref (E.2.2 x0)), (2, .int x2), (3, .int z.1), (4, .int z.2.1)] [] z.2.2) (kx : ∀ z : Mm, r = .inr z → WM G l E S 112 [(0, .ref (E.2.2 x0)), (2, .int x2)] [] z) : WM G l E S 36 [(0, .ref (E.2.2 x0)), (2, .int x2), (3, .int x3), (4, .int x4)] [] mm := by
  unfold bX6_measure_36 at h
  refine x_iload C (dq DX6_measure 23 rfl) 3 rfl ?_
  refine x_iload_n C (dq DX6_measure 24 rfl) rfl 1 rfl ?_
  refine x_icmp_ge (tgt := 112) C (dq DX6_measure 25 rfl) (by decide) h (fun h => ?_) (fun h => ?_)
  · cases h
    exact x_lv [0, 1] rfl (kx (mm) rfl)
  · refine x_iconst (v := 0) C (dq DX6_measure 26 rfl) (by decide) ?_
    refine x_pc 43 rfl ?_
    refine x_istore (lv' := [(5, .int 0), (0, .ref (E.2.2 x0)), (2, .int x2), (3, .int x3), (4, .int x4)]) C (dq DX6_measure 27 rfl) (by decide) rfl ?_
    refine x_iconst (v := 0) C (dq DX6_measure 28 rfl) (by decide) ?_
    refine x_istore (lv' := [(6, .int 0), (5, .int 0), (0, .ref (E.2.2 x0)), (2, .int x2), (3, .int x3), (4, .int x4)]) C (dq DX6_measure 29 rfl) (by decide) rfl ?_
    refine x_lv [2, 3, 4, 5, 1, 0] rfl ?_
    refine x_loop (s0 := (0, 0, mm)) (fun s7 => WM G l E S 48 [(0, .ref (E.2.2 x0)), (2, .int x2), (3, .int x3), (4, .int x4), (5, .int s7.1), (6, .int s7.2.1)] [] s7.2.2) h (fun s7 r hb kb kx => tX6_measure_48 C g0 hb kb (fun y8 hy => ?_))
    have h := kx y8 hy
    clear kx kb hb hy
    refine x_iload_n C (dq DX6_measure 59 rfl) rfl 2 rfl ?_
    refine x_iload C (dq DX6_measure 60 rfl) 4 rfl ?_
    refine x_pc 104 rfl ?_
    refine x_ior C (dq DX6_measure 61 rfl) ?_
    refine x_istore_n (lv' := [(3, .int (x3 ||| y8.1)), (0, .ref (E.2.2 x0)), (2, .int x2), (4, .int x4), (5, .int y8.1)]) C (dq DX6_measure 62 rfl) rfl (by decide) rfl ?_
    refine x_iinc (v := x4 + 1) (lv' := [(4, .int (x4 + 1)), (3, .int (x3 ||| y8.1)), (0, .ref (E.2.2 x0)), (2, .int x2), (5, .int y8.1)]) C (dq DX6_measure 63 rfl) 3 rfl rfl (by decide) rfl ?_
    refine x_goto (tgt := 36) C (dq DX6_measure 64 rfl) (by decide) ?_
    cases h
    exact x_lv [2, 3, 1, 0] rfl (kb ((x3 ||| y8.1), x4 + 1, y8.2) rfl)
set_option maxHeartbeats 1000000 in
theorem mX6_measure {l : Launch} {E : Ev} {S : List Sh} {mm : Mm} {x0 : Nat} {x1 : Int32} {x2 : Int32} {r : Mm} (h : fX6_measure S mm x0 x1 x2 = some r) : Ml l E S yX6_measure cX6_measure 7 none 0 0 [.ref (E.2.2 x0), .int x1, .int x2] mm none r := by
  refine Ml.of (by decide +kernel) (Nat.le_of_ble_eq_true rfl) (fun G C hQ => ?_)
  have C : Cx G E cX6_measure 7 RX6 none 0 0 := C
  unfold fX6_measure at h
  obtain ⟨g0, h⟩ := gd_some h
  show WM G l E S 0 [(0, .ref (E.2.2 x0)), (1, .int x1), (2, .int x2)] [] mm
  refine x_iconst (v := 0) C (dq DX6_measure 0 rfl) (by decide) ?_
  refine x_istore_n (lv' := [(3, .int 0), (0, .ref (E.2.2 x0)), (1, .int x1), (2, .int x2)]) C (dq DX6_measure 1 rfl) rfl (by decide) rfl ?_
  refine x_lv [1, 2, 3, 0] rfl ?_
  refine x_loop (s0 := (0, mm)) (fun s2 => WM G l E S 2 [(0, .ref (E.2.2 x0)), (1, .int x1), (2, .int x2), (3, .int s2.1)] [] s2.2) h (fun s2 r hb kb kx => tX6_measure_2 C g0 hb kb (fun y3 hy => ?_))
  have h := kx y3 hy
  clear kx kb hb hy
  refine x_iconst (v := 1) C (dq DX6_measure 17 rfl) (by decide) ?_
  refine x_iload_n C (dq DX6_measure 18 rfl) rfl 1 rfl ?_
  refine x_pc 31 rfl ?_
  refine x_ishl C (dq DX6_measure 19 rfl) ?_
  refine x_istore_n (lv' := [(3, .int (1 <<< (x1 &&& 31))), (0, .ref (E.2.2 x0)), (1, .int x1), (2, .int x2)]) C (dq DX6_measure 20 rfl) rfl (by decide) rfl ?_
  refine x_iconst (v := 1) C (dq DX6_measure 21 rfl) (by decide) ?_
  refine x_istore (lv' := [(4, .int 1), (3, .int (1 <<< (x1 &&& 31))), (0, .ref (E.2.2 x0)), (1, .int x1), (2, .int x2)]) C (dq DX6_measure 22 rfl) (by decide) rfl ?_
  refine x_lv [2, 4, 1, 0] rfl ?_
  refine x_loop (s0 := ((1 <<< (x1 &&& 31)), 1, y3)) (fun s9 => WM G l E S 36 [(0, .ref (E.2.2 x0)), (2, .int x2), (3, .int s9.1), (4, .int s9.2.1)] [] s9.2.2) h (fun s9 r hb kb kx => tX6_measure_36 C g0 hb kb (fun y10 hy => ?_))
  have h := kx y10 hy
  clear kx kb hb hy
  cases h
  exact x_vret C (dq DX6_measure 65 rfl) hQ
set_option maxHeartbeats 1000000 in
theorem qX6_measure {S : List Sh} {mm : Mm} {x0 : Nat} {x1 : Int32} {x2 : Int32} {r : Mm} (h : fX6_measure S mm x0 x1 x2 = some r) : isC S x0 6 := by
  unfold fX6_measure at h
  exact (gd_some h).1
