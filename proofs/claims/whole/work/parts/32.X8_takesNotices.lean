abbrev eX8_takesNotices : List (Nat × Instr × Nat) := [(0, .iconst 0, 1), (1, .istore_n 1, 1), (2, .iload_n 1, 1), (3, .aload_n 0, 1), (4, .getfield 277, 3), (7, .if_icmp .ge 135, 3), (10, .aload_n 0, 1), (11, .getfield 81, 3), (14, .iload_n 1, 1), (15, .iaload, 1), (16, .invokestatic 258, 3), (19, .istore_n 2, 1), (20, .aload_n 0, 1), (21, .getfield 57, 3), (24, .iload_n 2, 1), (25, .bipush 6, 2), (27, .iadd, 1), (28, .dup2, 1), (29, .iaload, 1), (30, .iconst 1, 1), (31, .iadd, 1), (32, .iastore, 1), (33, .aload_n 0, 1), (34, .getfield 57, 3), (37, .iload_n 2, 1), (38, .iconst 1, 1), (39, .iadd, 1), (40, .aload_n 0, 1), (41, .getfield 57, 3), (44, .iload_n 2, 1), (45, .iconst 0, 1), (46, .iadd, 1), (47, .iaload, 1), (48, .iastore, 1), (49, .aload_n 0, 1), (50, .getfield 57, 3), (53, .iload_n 2, 1), (54, .iconst 0, 1), (55, .iadd, 1), (56, .iaload, 1), (57, .aload_n 0, 1), (58, .getfield 57, 3), (61, .iload_n 2, 1), (62, .iconst 0, 1), (63, .iadd, 1), (64, .iaload, 1), (65, .aload_n 0, 1), (66, .getfield 84, 3), (69, .iload_n 1, 1), (70, .iaload, 1), (71, .imul, 1), (72, .sipush 128, 3), (75, .idiv, 1), (76, .isub, 1), (77, .istore_n 3, 1), (78, .aload_n 0, 1), (79, .getfield 57, 3), (82, .iload_n 2, 1), (83, .iconst 0, 1), (84, .iadd, 1), (85, .iload_n 3, 1), (86, .iconst 1, 1), (87, .if_icmp .ge 7, 3), (90, .iconst 1, 1), (91, .goto 4, 3), (94, .iload_n 3, 1), (95, .iastore, 1), (96, .aload_n 0, 1), (97, .getfield 57, 3), (100, .iload_n 2, 1), (101, .iconst 2, 1), (102, .iadd, 1), (103, .iconst 0, 1), (104, .iastore, 1), (105, .aload_n 0, 1), (106, .getfield 57, 3), (109, .iload_n 2, 1), (110, .iconst 2, 1), (111, .iadd, 1), (112, .iconst 1, 1), (113, .iadd, 1), (114, .iconst 0, 1), (115, .iastore, 1), (116, .aload_n 0, 1), (117, .getfield 57, 3), (120, .iload_n 2, 1), (121, .bipush 9, 2), (123, .iadd, 1), (124, .iconst 0, 1), (125, .iastore, 1), (126, .aload_n 0, 1), (127, .getfield 57, 3), (130, .iload_n 2, 1), (131, .bipush 10, 2), (133, .iadd, 1), (134, .iconst 0, 1), (135, .iastore, 1), (136, .iinc 1 1, 3), (139, .goto (-137), 3), (142, .return_, 1)]
theorem DX8_takesNotices : (eX8_takesNotices.all fun q => decide (decode cX8_takesNotices q.1 = .ok q.2)) = true := by decide +kernel
def jX8_takesNotices_95 (S : List Sh) (mm : Mm) (x0 : Nat) (x1 : Int32) (x2 : Int32) (p0 : Nat) (p1 : Int32) (p2 : Int32) : Option ((Int32 × Mm) ⊕ (Mm)) := bd1 (stA S 0 mm p0 p1 p2) fun m11 => bd1 (stA S 0 m11 (rf S m11 x0 26) (x2 + 2) 0) fun m12 => bd1 (stA S 0 m12 (rf S m12 x0 26) ((x2 + 2) + 1) 0) fun m13 => bd1 (stA S 0 m13 (rf S m13 x0 26) (x2 + 9) 0) fun m14 => bd1 (stA S 0 m14 (rf S m14 x0 26) (x2 + 10) 0) fun m15 => some (.inl (x1 + 1, m15))
def bX8_takesNotices_2 (S : List Sh) (x0 : Nat) (x1 : Int32) (mm : Mm) : Option ((Int32 × Mm) ⊕ (Mm)) := if (mm.1 x0 38) ≤ x1 then (some (.inr (mm))) else (bd1 (ldA S 0 mm (rf S mm x0 36) x1) fun a1 => bd1 (fX8_flowAt S mm a1) fun a2 => bd1 (ldA S 0 mm (rf S mm x0 26) (a2 + 6)) fun a3 => bd1 (stA S 0 mm (rf S mm x0 26) (a2 + 6) (a3 + 1)) fun m4 => bd1 (ldA S 0 m4 (rf S m4 x0 26) (a2 + 0)) fun a5 => bd1 (stA S 0 m4 (rf S m4 x0 26) (a2 + 1) a5) fun m6 => bd1 (ldA S 0 m6 (rf S m6 x0 26) (a2 + 0)) fun a7 => bd1 (ldA S 0 m6 (rf S m6 x0 26) (a2 + 0)) fun a8 => bd1 (ldA S 0 m6 (rf S m6 x0 37) x1) fun a9 => bd1 (dvI (a8 * a9) 128) fun a10 => if 1 ≤ (a7 - a10) then (jX8_takesNotices_95 S m6 x0 x1 a2 (rf S m6 x0 26) (a2 + 0) (a7 - a10)) else (jX8_takesNotices_95 S m6 x0 x1 a2 (rf S m6 x0 26) (a2 + 0) 1))
def fX8_takesNotices (S : List Sh) (mm : Mm) (x0 : Nat) : Option (Mm) := gd S x0 8 (bd1 (lp (fun s16 => bX8_takesNotices_2 S x0 s16.1 s16.2) fu (0, mm)) fun y17 => some y17)
set_option maxHeartbeats 1000000 in
theorem tX8_takesNotices_95 {G : Gt} {l : Launch} {E : Ev} {S : List Sh} {mm : Mm} {x0 : Nat} {x1 : Int32} {x2 : Int32} {p0 : Nat} {p1 : Int32} {p2 : Int32} {r : (Int32 × Mm) ⊕ (Mm)} (C : Cx G E cX8_takesNotices 4 RX8 none 1 20) (g0 : isC S x0 8) (h : jX8_takesNotices_95 S mm x0 x1 x2 p0 p1 p2 = some r) (kb : ∀ z : Int32 × Mm, r = .inl z → WM G l E S 2 [(0, .ref (E.2.2 x0)), (1, .int z.1)] [] z.2) (kx : ∀ z : Mm, r = .inr z → WM G l E S 142 [(0, .ref (E.2.2 x0))] [] z) : WM G l E S 95 [(0, .ref (E.2.2 x0)), (1, .int x1), (2, .int x2)] [.int p2, .int p1, .ref (E.2.2 p0)] mm := by
  unfold jX8_takesNotices_95 at h
  refine x_iast C (dq DX8_takesNotices 66 rfl) h (fun m11 h => ?_)
  refine x_aload_n C (dq DX8_takesNotices 67 rfl) rfl 0 rfl ?_
  refine getX8_57 C (dq DX8_takesNotices 68 rfl) g0 ?_
  refine x_iload_n C (dq DX8_takesNotices 69 rfl) rfl 2 rfl ?_
  refine x_pc 101 rfl ?_
  refine x_iconst (v := 2) C (dq DX8_takesNotices 70 rfl) (by decide) ?_
  refine x_iadd C (dq DX8_takesNotices 71 rfl) ?_
  refine x_iconst (v := 0) C (dq DX8_takesNotices 72 rfl) (by decide) ?_
  refine x_iast C (dq DX8_takesNotices 73 rfl) h (fun m12 h => ?_)
  refine x_aload_n C (dq DX8_takesNotices 74 rfl) rfl 0 rfl ?_
  refine x_pc 106 rfl ?_
  refine getX8_57 C (dq DX8_takesNotices 75 rfl) g0 ?_
  refine x_iload_n C (dq DX8_takesNotices 76 rfl) rfl 2 rfl ?_
  refine x_iconst (v := 2) C (dq DX8_takesNotices 77 rfl) (by decide) ?_
  refine x_iadd C (dq DX8_takesNotices 78 rfl) ?_
  refine x_iconst (v := 1) C (dq DX8_takesNotices 79 rfl) (by decide) ?_
  refine x_pc 113 rfl ?_
  refine x_iadd C (dq DX8_takesNotices 80 rfl) ?_
  refine x_iconst (v := 0) C (dq DX8_takesNotices 81 rfl) (by decide) ?_
  refine x_iast C (dq DX8_takesNotices 82 rfl) h (fun m13 h => ?_)
  refine x_aload_n C (dq DX8_takesNotices 83 rfl) rfl 0 rfl ?_
  refine getX8_57 C (dq DX8_takesNotices 84 rfl) g0 ?_
  refine x_pc 120 rfl ?_
  refine x_iload_n C (dq DX8_takesNotices 85 rfl) rfl 2 rfl ?_
  refine x_bipush (v := 9) C (dq DX8_takesNotices 86 rfl) (by decide) ?_
  refine x_iadd C (dq DX8_takesNotices 87 rfl) ?_
  refine x_iconst (v := 0) C (dq DX8_takesNotices 88 rfl) (by decide) ?_
  refine x_iast C (dq DX8_takesNotices 89 rfl) h (fun m14 h => ?_)
  refine x_pc 126 rfl ?_
  refine x_aload_n C (dq DX8_takesNotices 90 rfl) rfl 0 rfl ?_
  refine getX8_57 C (dq DX8_takesNotices 91 rfl) g0 ?_
  refine x_iload_n C (dq DX8_takesNotices 92 rfl) rfl 2 rfl ?_
  refine x_bipush (v := 10) C (dq DX8_takesNotices 93 rfl) (by decide) ?_
  refine x_iadd C (dq DX8_takesNotices 94 rfl) ?_
  refine x_pc 134 rfl ?_
  refine x_iconst (v := 0) C (dq DX8_takesNotices 95 rfl) (by decide) ?_
  refine x_iast C (dq DX8_takesNotices 96 rfl) h (fun m15 h => ?_)
  refine x_iinc (v := x1 + 1) (lv' := [(1, .int (x1 + 1)), (0, .ref (E.2.2 x0)), (2, .int x2)]) C (dq DX8_takesNotices 97 rfl) 1 rfl rfl (by decide) rfl ?_
  refine x_goto (tgt := 2) C (dq DX8_takesNotices 98 rfl) (by decide) ?_
  cases h
  exact x_lv [1, 0] rfl (kb (x1 + 1, m15) rfl)
set_option maxHeartbeats 1000000 in
theorem tX8_takesNotices_2 {G : Gt} {l : Launch} {E : Ev} {S : List Sh} {x0 : Nat} {x1 : Int32} {mm : Mm} {r : (Int32 × Mm) ⊕ (Mm)} (C : Cx G E cX8_takesNotices 4 RX8 none 1 20) (g0 : isC S x0 8) (h : bX8_takesNotices_2 S x0 x1 mm = some r) (kb : ∀ z : Int32 × Mm, r = .inl z → WM G l E S 2 [(0, .ref (E.2.2 x0)), (1, .int z.1)] [] z.2) (kx : ∀ z : Mm, r = .inr z → WM G l E S 142 [(0, .ref (E.2.2 x0))] [] z) : WM G l E S 2 [(0, .ref (E.2.2 x0)), (1, .int x1)] [] mm := by
  unfold bX8_takesNotices_2 at h
  refine x_iload_n C (dq DX8_takesNotices 2 rfl) rfl 1 rfl ?_
  refine x_aload_n C (dq DX8_takesNotices 3 rfl) rfl 0 rfl ?_
  refine getX8_277 C (dq DX8_takesNotices 4 rfl) g0 ?_
  refine x_icmp_ge (tgt := 142) C (dq DX8_takesNotices 5 rfl) (by decide) h (fun h => ?_) (fun h => ?_)
  · cases h
    exact x_lv [0] rfl (kx (mm) rfl)
  · refine x_pc 10 rfl ?_
    refine x_aload_n C (dq DX8_takesNotices 6 rfl) rfl 0 rfl ?_
    refine getX8_81 C (dq DX8_takesNotices 7 rfl) g0 ?_
    refine x_iload_n C (dq DX8_takesNotices 8 rfl) rfl 1 rfl ?_
    refine x_iald C (dq DX8_takesNotices 9 rfl) h (fun a1 h => ?_)
    refine callX8_258 C (dq DX8_takesNotices 10 rfl) h (by decide) (by decide) (Nat.le_of_ble_eq_true rfl) (fun a2 h => ?_)
    refine x_pc 19 rfl ?_
    refine x_istore_n (lv' := [(2, .int a2), (0, .ref (E.2.2 x0)), (1, .int x1)]) C (dq DX8_takesNotices 11 rfl) rfl (by decide) rfl ?_
    refine x_aload_n C (dq DX8_takesNotices 12 rfl) rfl 1 rfl ?_
    refine getX8_57 C (dq DX8_takesNotices 13 rfl) g0 ?_
    refine x_iload_n C (dq DX8_takesNotices 14 rfl) rfl 0 rfl ?_
    refine x_bipush (v := 6) C (dq DX8_takesNotices 15 rfl) (by decide) ?_
    refine x_pc 27 rfl ?_
    refine x_iadd C (dq DX8_takesNotices 16 rfl) ?_
    refine x_dup2 C (dq DX8_takesNotices 17 rfl) rfl rfl ?_
    refine x_iald C (dq DX8_takesNotices 18 rfl) h (fun a3 h => ?_)
    refine x_iconst (v := 1) C (dq DX8_takesNotices 19 rfl) (by decide) ?_
    refine x_iadd C (dq DX8_takesNotices 20 rfl) ?_
    refine x_pc 32 rfl ?_
    refine x_iast C (dq DX8_takesNotices 21 rfl) h (fun m4 h => ?_)
    refine x_aload_n C (dq DX8_takesNotices 22 rfl) rfl 1 rfl ?_
    refine getX8_57 C (dq DX8_takesNotices 23 rfl) g0 ?_
    refine x_iload_n C (dq DX8_takesNotices 24 rfl) rfl 0 rfl ?_
    refine x_iconst (v := 1) C (dq DX8_takesNotices 25 rfl) (by decide) ?_
    refine x_pc 39 rfl ?_
    refine x_iadd C (dq DX8_takesNotices 26 rfl) ?_
    refine x_aload_n C (dq DX8_takesNotices 27 rfl) rfl 1 rfl ?_
    refine getX8_57 C (dq DX8_takesNotices 28 rfl) g0 ?_
    refine x_iload_n C (dq DX8_takesNotices 29 rfl) rfl 0 rfl ?_
    refine x_iconst (v := 0) C (dq DX8_takesNotices 30 rfl) (by decide) ?_
    refine x_pc 46 rfl ?_
    refine x_iadd C (dq DX8_takesNotices 31 rfl) ?_
    refine x_iald C (dq DX8_takesNotices 32 rfl) h (fun a5 h => ?_)
    refine x_iast C (dq DX8_takesNotices 33 rfl) h (fun m6 h => ?_)
    refine x_aload_n C (dq DX8_takesNotices 34 rfl) rfl 1 rfl ?_
    refine getX8_57 C (dq DX8_takesNotices 35 rfl) g0 ?_
    refine x_pc 53 rfl ?_
    refine x_iload_n C (dq DX8_takesNotices 36 rfl) rfl 0 rfl ?_
    refine x_iconst (v := 0) C (dq DX8_takesNotices 37 rfl) (by decide) ?_
    refine x_iadd C (dq DX8_takesNotices 38 rfl) ?_
    refine x_iald C (dq DX8_takesNotices 39 rfl) h (fun a7 h => ?_)
    refine x_aload_n C (dq DX8_takesNotices 40 rfl) rfl 1 rfl ?_
    refine x_pc 58 rfl ?_
    refine getX8_57 C (dq DX8_takesNotices 41 rfl) g0 ?_
    refine x_iload_n C (dq DX8_takesNotices 42 rfl) rfl 0 rfl ?_
    refine x_iconst (v := 0) C (dq DX8_takesNotices 43 rfl) (by decide) ?_
    refine x_iadd C (dq DX8_takesNotices 44 rfl) ?_
    refine x_iald C (dq DX8_takesNotices 45 rfl) h (fun a8 h => ?_)
    refine x_pc 65 rfl ?_
    refine x_aload_n C (dq DX8_takesNotices 46 rfl) rfl 1 rfl ?_
    refine getX8_84 C (dq DX8_takesNotices 47 rfl) g0 ?_
    refine x_iload_n C (dq DX8_takesNotices 48 rfl) rfl 2 rfl ?_
    refine x_iald C (dq DX8_takesNotices 49 rfl) h (fun a9 h => ?_)
    refine x_imul C (dq DX8_takesNotices 50 rfl) ?_
    refine x_pc 72 rfl ?_
    refine x_sipush (v := 128) C (dq DX8_takesNotices 51 rfl) (by decide) ?_
    refine x_idiv C (dq DX8_takesNotices 52 rfl) h (fun a10 h => ?_)
    refine x_isub C (dq DX8_takesNotices 53 rfl) ?_
    refine x_istore_n (lv' := [(3, .int (a7 - a10)), (2, .int a2), (0, .ref (E.2.2 x0)), (1, .int x1)]) C (dq DX8_takesNotices 54 rfl) rfl (by decide) rfl ?_
    refine x_aload_n C (dq DX8_takesNotices 55 rfl) rfl 2 rfl ?_
    refine x_pc 79 rfl ?_
    refine getX8_57 C (dq DX8_takesNotices 56 rfl) g0 ?_
    refine x_iload_n C (dq DX8_takesNotices 57 rfl) rfl 1 rfl ?_
    refine x_iconst (v := 0) C (dq DX8_takesNotices 58 rfl) (by decide) ?_
    refine x_iadd C (dq DX8_takesNotices 59 rfl) ?_
    refine x_iload_n C (dq DX8_takesNotices 60 rfl) rfl 0 rfl ?_
    refine x_pc 86 rfl ?_
    refine x_iconst (v := 1) C (dq DX8_takesNotices 61 rfl) (by decide) ?_
    refine x_icmp_ge (tgt := 94) C (dq DX8_takesNotices 62 rfl) (by decide) h (fun h => ?_) (fun h => ?_)
    · refine x_iload_n C (dq DX8_takesNotices 65 rfl) rfl 0 rfl ?_
      exact x_lv [2, 3, 1] rfl (tX8_takesNotices_95 C g0 h kb kx)
    · refine x_iconst (v := 1) C (dq DX8_takesNotices 63 rfl) (by decide) ?_
      refine x_goto (tgt := 95) C (dq DX8_takesNotices 64 rfl) (by decide) ?_
      exact x_lv [2, 3, 1] rfl (tX8_takesNotices_95 C g0 h kb kx)
set_option maxHeartbeats 1000000 in
theorem mX8_takesNotices {l : Launch} {E : Ev} {S : List Sh} {mm : Mm} {x0 : Nat} {r : Mm} (h : fX8_takesNotices S mm x0 = some r) : Ml l E S yX8_takesNotices cX8_takesNotices 4 none 1 20 [.ref (E.2.2 x0)] mm none r := by
  refine Ml.of (by decide +kernel) (Nat.le_of_ble_eq_true rfl) (fun G C hQ => ?_)
  have C : Cx G E cX8_takesNotices 4 RX8 none 1 20 := C
  unfold fX8_takesNotices at h
  obtain ⟨g0, h⟩ := gd_some h
  show WM G l E S 0 [(0, .ref (E.2.2 x0))] [] mm
  refine x_iconst (v := 0) C (dq DX8_takesNotices 0 rfl) (by decide) ?_
  refine x_istore_n (lv' := [(1, .int 0), (0, .ref (E.2.2 x0))]) C (dq DX8_takesNotices 1 rfl) rfl (by decide) rfl ?_
  refine x_lv [1, 0] rfl ?_
  refine x_loop (s0 := (0, mm)) (fun s16 => WM G l E S 2 [(0, .ref (E.2.2 x0)), (1, .int s16.1)] [] s16.2) h (fun s16 r hb kb kx => tX8_takesNotices_2 C g0 hb kb (fun y17 hy => ?_))
  have h := kx y17 hy
  clear kx kb hb hy
  cases h
  exact x_vret C (dq DX8_takesNotices 99 rfl) hQ
set_option maxHeartbeats 1000000 in
theorem qX8_takesNotices {S : List Sh} {mm : Mm} {x0 : Nat} {r : Mm} (h : fX8_takesNotices S mm x0 = some r) : isC S x0 8 := by
  unfold fX8_takesNotices at h
  exact (gd_some h).1
abbrev eX8_climbs : List (Nat × Instr × Nat) := [(0, .iload_n 1, 1), (1, .invokestatic 258, 3), (4, .istore_n 2, 1), (5, .aload_n 0, 1), (6, .getfield 57, 3), (9, .iload_n 2, 1), (10, .iconst 2, 1), (11, .iadd, 1), (12, .iaload, 1), (13, .istore_n 3, 1), (14, .aload_n 0, 1), (15, .getfield 57, 3), (18, .iload_n 2, 1), (19, .iconst 2, 1), (20, .iadd, 1), (21, .iconst 1, 1), (22, .iadd, 1), (23, .iaload, 1), (24, .istore 4, 2), (26, .iconst 0, 1), (27, .istore 5, 2), (29, .iload_n 3, 1), (30, .iconst 5, 1), (31, .if_icmp .le 38, 3), (34, .iload 4, 2), (36, .iconst 5, 1), (37, .if_icmp .le 32, 3), (40, .aload_n 0, 1), (41, .getfield 13, 3), (44, .bipush 7, 2), (46, .iaload, 1), (47, .iconst 2, 1), (48, .imul, 1), (49, .iload_n 3, 1), (50, .iload 4, 2), (52, .if_icmp .ge 7, 3), (55, .iload_n 3, 1), (56, .goto 5, 3), (59, .iload 4, 2), (61, .iconst 5, 1), (62, .isub, 1), (63, .imul, 1), (64, .istore 5, 2), (66, .goto 23, 3), (69, .iload_n 3, 1), (70, .iconst 5, 1), (71, .if_icmp .gt 9, 3), (74, .iload 4, 2), (76, .iconst 5, 1), (77, .if_icmp .le 12, 3), (80, .aload_n 0, 1), (81, .getfield 13, 3), (84, .bipush 7, 2), (86, .iaload, 1), (87, .istore 5, 2), (89, .aload_n 0, 1), (90, .getfield 57, 3), (93, .iload_n 2, 1), (94, .iconst 1, 1), (95, .iadd, 1), (96, .aload_n 0, 1), (97, .getfield 57, 3), (100, .iload_n 2, 1), (101, .iconst 1, 1), (102, .iadd, 1), (103, .iaload, 1), (104, .iload 5, 2), (106, .iadd, 1), (107, .iconst 0, 1), (108, .sipush 1024, 3), (111, .invokestatic 267, 3), (114, .iastore, 1), (115, .aload_n 0, 1), (116, .getfield 57, 3), (119, .iload_n 2, 1), (120, .iconst 0, 1), (121, .iadd, 1), (122, .aload_n 0, 1), (123, .getfield 57, 3), (126, .iload_n 2, 1), (127, .iconst 0, 1), (128, .iadd, 1), (129, .iaload, 1), (130, .aload_n 0, 1), (131, .getfield 57, 3), (134, .iload_n 2, 1), (135, .iconst 1, 1), (136, .iadd, 1), (137, .iaload, 1), (138, .iadd, 1), (139, .iconst 2, 1), (140, .idiv, 1), (141, .iastore, 1), (142, .return_, 1)]
theorem DX8_climbs : (eX8_climbs.all fun q => decide (decode cX8_climbs q.1 = .ok q.2)) = true := by decide +kernel
def jX8_climbs_89 (S : List Sh) (mm : Mm) (x0 : Nat) (x2 : Int32) (x5 : Int32)  : Option (Mm) := bd1 (ldA S 0 mm (rf S mm x0 26) (x2 + 1)) fun a5 => bd1 (fX8_within S mm (a5 + x5) 0 1024) fun a6 => bd1 (stA S 0 mm (rf S mm x0 26) (x2 + 1) a6) fun m7 => bd1 (ldA S 0 m7 (rf S m7 x0 26) (x2 + 0)) fun a8 => bd1 (ldA S 0 m7 (rf S m7 x0 26) (x2 + 1)) fun a9 => bd1 (dvI (a8 + a9) 2) fun a10 => bd1 (stA S 0 m7 (rf S m7 x0 26) (x2 + 0) a10) fun m11 => some m11
def jX8_climbs_80 (S : List Sh) (mm : Mm) (x0 : Nat) (x2 : Int32)  : Option (Mm) := bd1 (ldA S 0 mm (rf S mm x0 3) 7) fun a4 => jX8_climbs_89 S mm x0 x2 a4
def jX8_climbs_69 (S : List Sh) (mm : Mm) (x0 : Nat) (x2 : Int32) (x3 : Int32) (x4 : Int32) (x5 : Int32)  : Option (Mm) := if 5 < x3 then (jX8_climbs_80 S mm x0 x2) else (if x4 ≤ 5 then (jX8_climbs_89 S mm x0 x2 x5) else (jX8_climbs_80 S mm x0 x2))
def jX8_climbs_61 (S : List Sh) (mm : Mm) (x0 : Nat) (x2 : Int32) (p0 : Int32) (p1 : Int32) : Option (Mm) := jX8_climbs_89 S mm x0 x2 (p0 * (p1 - 5))
def fX8_climbs (S : List Sh) (mm : Mm) (x0 : Nat) (x1 : Int32) : Option (Mm) := gd S x0 8 (bd1 (fX8_flowAt S mm x1) fun a1 => bd1 (ldA S 0 mm (rf S mm x0 26) (a1 + 2)) fun a2 => bd1 (ldA S 0 mm (rf S mm x0 26) ((a1 + 2) + 1)) fun a3 => if a2 ≤ 5 then (jX8_climbs_69 S mm x0 a1 a2 a3 0) else (if a3 ≤ 5 then (jX8_climbs_69 S mm x0 a1 a2 a3 0) else (bd1 (ldA S 0 mm (rf S mm x0 3) 7) fun a12 => if a3 ≤ a2 then (jX8_climbs_61 S mm x0 a1 (a12 * 2) a3) else (jX8_climbs_61 S mm x0 a1 (a12 * 2) a2))))
set_option maxHeartbeats 1000000 in
theorem tX8_climbs_89 {G : Gt} {l : Launch} {E : Ev} {S : List Sh} {mm : Mm} {x0 : Nat} {x2 : Int32} {x5 : Int32}  {r : Mm} (C : Cx G E cX8_climbs 6 RX8 none 1 22) (g0 : isC S x0 8) (h : jX8_climbs_89 S mm x0 x2 x5 = some r) (hQ : RQ G E S none r) : WM G l E S 89 [(0, .ref (E.2.2 x0)), (2, .int x2), (5, .int x5)] [] mm := by
  unfold jX8_climbs_89 at h
  refine x_aload_n C (dq DX8_climbs 55 rfl) rfl 0 rfl ?_
  refine getX8_57 C (dq DX8_climbs 56 rfl) g0 ?_
  refine x_iload_n C (dq DX8_climbs 57 rfl) rfl 1 rfl ?_
  refine x_iconst (v := 1) C (dq DX8_climbs 58 rfl) (by decide) ?_
  refine x_pc 95 rfl ?_
  refine x_iadd C (dq DX8_climbs 59 rfl) ?_
  refine x_aload_n C (dq DX8_climbs 60 rfl) rfl 0 rfl ?_
  refine getX8_57 C (dq DX8_climbs 61 rfl) g0 ?_
  refine x_iload_n C (dq DX8_climbs 62 rfl) rfl 1 rfl ?_
  refine x_iconst (v := 1) C (dq DX8_climbs 63 rfl) (by decide) ?_
  refine x_pc 102 rfl ?_
  refine x_iadd C (dq DX8_climbs 64 rfl) ?_
  refine x_iald C (dq DX8_climbs 65 rfl) h (fun a5 h => ?_)
  refine x_iload C (dq DX8_climbs 66 rfl) 2 rfl ?_
  refine x_iadd C (dq DX8_climbs 67 rfl) ?_
  refine x_iconst (v := 0) C (dq DX8_climbs 68 rfl) (by decide) ?_
  refine x_pc 108 rfl ?_
  refine x_sipush (v := 1024) C (dq DX8_climbs 69 rfl) (by decide) ?_
  refine callX8_267 C (dq DX8_climbs 70 rfl) h (by decide) (by decide) (Nat.le_of_ble_eq_true rfl) (fun a6 h => ?_)
  refine x_iast C (dq DX8_climbs 71 rfl) h (fun m7 h => ?_)
  refine x_aload_n C (dq DX8_climbs 72 rfl) rfl 0 rfl ?_
  refine getX8_57 C (dq DX8_climbs 73 rfl) g0 ?_
  refine x_pc 119 rfl ?_
  refine x_iload_n C (dq DX8_climbs 74 rfl) rfl 1 rfl ?_
  refine x_iconst (v := 0) C (dq DX8_climbs 75 rfl) (by decide) ?_
  refine x_iadd C (dq DX8_climbs 76 rfl) ?_
  refine x_aload_n C (dq DX8_climbs 77 rfl) rfl 0 rfl ?_
  refine getX8_57 C (dq DX8_climbs 78 rfl) g0 ?_
  refine x_pc 126 rfl ?_
  refine x_iload_n C (dq DX8_climbs 79 rfl) rfl 1 rfl ?_
  refine x_iconst (v := 0) C (dq DX8_climbs 80 rfl) (by decide) ?_
  refine x_iadd C (dq DX8_climbs 81 rfl) ?_
  refine x_iald C (dq DX8_climbs 82 rfl) h (fun a8 h => ?_)
  refine x_aload_n C (dq DX8_climbs 83 rfl) rfl 0 rfl ?_
  refine x_pc 131 rfl ?_
  refine getX8_57 C (dq DX8_climbs 84 rfl) g0 ?_
  refine x_iload_n C (dq DX8_climbs 85 rfl) rfl 1 rfl ?_
  refine x_iconst (v := 1) C (dq DX8_climbs 86 rfl) (by decide) ?_
  refine x_iadd C (dq DX8_climbs 87 rfl) ?_
  refine x_iald C (dq DX8_climbs 88 rfl) h (fun a9 h => ?_)
  refine x_pc 138 rfl ?_
  refine x_iadd C (dq DX8_climbs 89 rfl) ?_
  refine x_iconst (v := 2) C (dq DX8_climbs 90 rfl) (by decide) ?_
  refine x_idiv C (dq DX8_climbs 91 rfl) h (fun a10 h => ?_)
  refine x_iast C (dq DX8_climbs 92 rfl) h (fun m11 h => ?_)
  cases h
  exact x_vret C (dq DX8_climbs 93 rfl) hQ
set_option maxHeartbeats 1000000 in
theorem tX8_climbs_80 {G : Gt} {l : Launch} {E : Ev} {S : List Sh} {mm : Mm} {x0 : Nat} {x2 : Int32}  {r : Mm} (C : Cx G E cX8_climbs 6 RX8 none 1 22) (g0 : isC S x0 8) (h : jX8_climbs_80 S mm x0 x2 = some r) (hQ : RQ G E S none r) : WM G l E S 80 [(0, .ref (E.2.2 x0)), (2, .int x2)] [] mm := by
  unfold jX8_climbs_80 at h
  refine x_aload_n C (dq DX8_climbs 50 rfl) rfl 0 rfl ?_
  refine getX8_13 C (dq DX8_climbs 51 rfl) g0 ?_
  refine x_bipush (v := 7) C (dq DX8_climbs 52 rfl) (by decide) ?_
  refine x_iald C (dq DX8_climbs 53 rfl) h (fun a4 h => ?_)
  refine x_pc 87 rfl ?_
  refine x_istore (lv' := [(5, .int a4), (0, .ref (E.2.2 x0)), (2, .int x2)]) C (dq DX8_climbs 54 rfl) (by decide) rfl ?_
  exact x_lv [1, 2, 0] rfl (tX8_climbs_89 C g0 h hQ)
set_option maxHeartbeats 1000000 in
theorem tX8_climbs_69 {G : Gt} {l : Launch} {E : Ev} {S : List Sh} {mm : Mm} {x0 : Nat} {x2 : Int32} {x3 : Int32} {x4 : Int32} {x5 : Int32}  {r : Mm} (C : Cx G E cX8_climbs 6 RX8 none 1 22) (g0 : isC S x0 8) (h : jX8_climbs_69 S mm x0 x2 x3 x4 x5 = some r) (hQ : RQ G E S none r) : WM G l E S 69 [(0, .ref (E.2.2 x0)), (2, .int x2), (3, .int x3), (4, .int x4), (5, .int x5)] [] mm := by
  unfold jX8_climbs_69 at h
  refine x_iload_n C (dq DX8_climbs 44 rfl) rfl 2 rfl ?_
  refine x_iconst (v := 5) C (dq DX8_climbs 45 rfl) (by decide) ?_
  refine x_icmp_gt (tgt := 80) C (dq DX8_climbs 46 rfl) (by decide) h (fun h => ?_) (fun h => ?_)
  · exact x_lv [0, 1] rfl (tX8_climbs_80 C g0 h hQ)
  · refine x_iload C (dq DX8_climbs 47 rfl) 3 rfl ?_
    refine x_pc 76 rfl ?_
    refine x_iconst (v := 5) C (dq DX8_climbs 48 rfl) (by decide) ?_
    refine x_icmp_le (tgt := 89) C (dq DX8_climbs 49 rfl) (by decide) h (fun h => ?_) (fun h => ?_)
    · exact x_lv [0, 1, 4] rfl (tX8_climbs_89 C g0 h hQ)
    · exact x_lv [0, 1] rfl (tX8_climbs_80 C g0 h hQ)
set_option maxHeartbeats 1000000 in
theorem tX8_climbs_61 {G : Gt} {l : Launch} {E : Ev} {S : List Sh} {mm : Mm} {x0 : Nat} {x2 : Int32} {p0 : Int32} {p1 : Int32} {r : Mm} (C : Cx G E cX8_climbs 6 RX8 none 1 22) (g0 : isC S x0 8) (h : jX8_climbs_61 S mm x0 x2 p0 p1 = some r) (hQ : RQ G E S none r) : WM G l E S 61 [(0, .ref (E.2.2 x0)), (2, .int x2)] [.int p1, .int p0] mm := by
  unfold jX8_climbs_61 at h
  refine x_iconst (v := 5) C (dq DX8_climbs 39 rfl) (by decide) ?_
  refine x_isub C (dq DX8_climbs 40 rfl) ?_
  refine x_imul C (dq DX8_climbs 41 rfl) ?_
  refine x_istore (lv' := [(5, .int (p0 * (p1 - 5))), (0, .ref (E.2.2 x0)), (2, .int x2)]) C (dq DX8_climbs 42 rfl) (by decide) rfl ?_
  refine x_pc 66 rfl ?_
  refine x_goto (tgt := 89) C (dq DX8_climbs 43 rfl) (by decide) ?_
  exact x_lv [1, 2, 0] rfl (tX8_climbs_89 C g0 h hQ)
set_option maxHeartbeats 1000000 in
theorem mX8_climbs {l : Launch} {E : Ev} {S : List Sh} {mm : Mm} {x0 : Nat} {x1 : Int32} {r : Mm} (h : fX8_climbs S mm x0 x1 = some r) : Ml l E S yX8_climbs cX8_climbs 6 none 1 22 [.ref (E.2.2 x0), .int x1] mm none r := by
  refine Ml.of (by decide +kernel) (Nat.le_of_ble_eq_true rfl) (fun G C hQ => ?_)
  have C : Cx G E cX8_climbs 6 RX8 none 1 22 := C
  unfold fX8_climbs at h
  obtain ⟨g0, h⟩ := gd_some h
  show WM G l E S 0 [(0, .ref (E.2.2 x0)), (1, .int x1)] [] mm
  refine x_iload_n C (dq DX8_climbs 0 rfl) rfl 1 rfl ?_
  refine callX8_258 C (dq DX8_climbs 1 rfl) h (by decide) (by decide) (Nat.le_of_ble_eq_true rfl) (fun a1 h => ?_)
  refine x_istore_n (lv' := [(2, .int a1), (0, .ref (E.2.2 x0)), (1, .int x1)]) C (dq DX8_climbs 2 rfl) rfl (by decide) rfl ?_
  refine x_aload_n C (dq DX8_climbs 3 rfl) rfl 1 rfl ?_
  refine x_pc 6 rfl ?_
  refine getX8_57 C (dq DX8_climbs 4 rfl) g0 ?_
  refine x_iload_n C (dq DX8_climbs 5 rfl) rfl 0 rfl ?_
  refine x_iconst (v := 2) C (dq DX8_climbs 6 rfl) (by decide) ?_
  refine x_iadd C (dq DX8_climbs 7 rfl) ?_
  refine x_iald C (dq DX8_climbs 8 rfl) h (fun a2 h => ?_)
  refine x_pc 13 rfl ?_
  refine x_istore_n (lv' := [(3, .int a2), (2, .int a1), (0, .ref (E.2.2 x0)), (1, .int x1)]) C (dq DX8_climbs 9 rfl) rfl (by decide) rfl ?_
  refine x_aload_n C (dq DX8_climbs 10 rfl) rfl 2 rfl ?_
  refine getX8_57 C (dq DX8_climbs 11 rfl) g0 ?_
  refine x_iload_n C (dq DX8_climbs 12 rfl) rfl 1 rfl ?_
  refine x_iconst (v := 2) C (dq DX8_climbs 13 rfl) (by decide) ?_
  refine x_pc 20 rfl ?_
  refine x_iadd C (dq DX8_climbs 14 rfl) ?_
  refine x_iconst (v := 1) C (dq DX8_climbs 15 rfl) (by decide) ?_
  refine x_iadd C (dq DX8_climbs 16 rfl) ?_
  refine x_iald C (dq DX8_climbs 17 rfl) h (fun a3 h => ?_)
  refine x_istore (lv' := [(4, .int a3), (3, .int a2), (2, .int a1), (0, .ref (E.2.2 x0)), (1, .int x1)]) C (dq DX8_climbs 18 rfl) (by decide) rfl ?_
  refine x_pc 26 rfl ?_
  refine x_iconst (v := 0) C (dq DX8_climbs 19 rfl) (by decide) ?_
  refine x_istore (lv' := [(5, .int 0), (4, .int a3), (3, .int a2), (2, .int a1), (0, .ref (E.2.2 x0)), (1, .int x1)]) C (dq DX8_climbs 20 rfl) (by decide) rfl ?_
  refine x_iload_n C (dq DX8_climbs 21 rfl) rfl 2 rfl ?_
  refine x_iconst (v := 5) C (dq DX8_climbs 22 rfl) (by decide) ?_
  refine x_icmp_le (tgt := 69) C (dq DX8_climbs 23 rfl) (by decide) h (fun h => ?_) (fun h => ?_)
  · exact x_lv [4, 3, 2, 1, 0] rfl (tX8_climbs_69 C g0 h hQ)
  · refine x_pc 34 rfl ?_
    refine x_iload C (dq DX8_climbs 24 rfl) 1 rfl ?_
    refine x_iconst (v := 5) C (dq DX8_climbs 25 rfl) (by decide) ?_
    refine x_icmp_le (tgt := 69) C (dq DX8_climbs 26 rfl) (by decide) h (fun h => ?_) (fun h => ?_)
    · exact x_lv [4, 3, 2, 1, 0] rfl (tX8_climbs_69 C g0 h hQ)
    · refine x_aload_n C (dq DX8_climbs 27 rfl) rfl 4 rfl ?_
      refine getX8_13 C (dq DX8_climbs 28 rfl) g0 ?_
      refine x_pc 44 rfl ?_
      refine x_bipush (v := 7) C (dq DX8_climbs 29 rfl) (by decide) ?_
      refine x_iald C (dq DX8_climbs 30 rfl) h (fun a12 h => ?_)
      refine x_iconst (v := 2) C (dq DX8_climbs 31 rfl) (by decide) ?_
      refine x_imul C (dq DX8_climbs 32 rfl) ?_
      refine x_iload_n C (dq DX8_climbs 33 rfl) rfl 2 rfl ?_
      refine x_pc 50 rfl ?_
      refine x_iload C (dq DX8_climbs 34 rfl) 1 rfl ?_
      refine x_icmp_ge (tgt := 59) C (dq DX8_climbs 35 rfl) (by decide) h (fun h => ?_) (fun h => ?_)
      · refine x_iload C (dq DX8_climbs 38 rfl) 1 rfl ?_
        exact x_lv [4, 3] rfl (tX8_climbs_61 C g0 h hQ)
      · refine x_iload_n C (dq DX8_climbs 36 rfl) rfl 2 rfl ?_
        refine x_goto (tgt := 61) C (dq DX8_climbs 37 rfl) (by decide) ?_
        exact x_lv [4, 3] rfl (tX8_climbs_61 C g0 h hQ)
set_option maxHeartbeats 1000000 in
theorem qX8_climbs {S : List Sh} {mm : Mm} {x0 : Nat} {x1 : Int32} {r : Mm} (h : fX8_climbs S mm x0 x1 = some r) : isC S x0 8 := by
  unfold fX8_climbs at h
  exact (gd_some h).1
theorem callX8_280 {G : Gt} {l : Launch} {E : Ev} {S : List Sh} {cc : ByteArray} {nL : Nat} {rt : Option FieldType} {fr lo : Nat} {pc : Nat} {lv : List (Nat × Value)} {rest : List Value} {mm : Mm} {α : Type} {f : Mm → Option α} {r : α} {o : Nat} {a0 : Int32} (C : Cx G E cc nL RX8 rt fr lo) (d : decode cc pc = .ok (.invokevirtual 280, 3)) (h : bd1 (fX8_climbs S mm o a0) f = some r) (hfr : 2 ≤ fr) (hlo : 47 ≤ lo) (hrs : (rest.map fun v => v.category).sum ≤ 8) (k : ∀ m1, f m1 = some r → WM G l E S (pc + 3) lv rest m1) : WM G l E S pc lv (.int a0 :: .ref (E.2.2 o) :: rest) mm := by
  obtain ⟨m1, hv, hf⟩ := bd1_some h
  exact x_callV (n := 1) (As := [.int a0]) (rest := rest) C (mX8_climbs hv) (qX8_climbs hv) (T := TX8) (N := 49) rfl (gmem 1254 (by decide +kernel) rfl) (gmem 1256 (by decide +kernel) rfl) (gmemS 79 (by decide +kernel) rfl) (gmem 9 (by decide +kernel) rfl) (gmem 1257 (by decide +kernel) rfl) (by decide +kernel) rfl hfr hlo hrs d rfl rfl (k m1 hf)
abbrev eX8_recovers : List (Nat × Instr × Nat) := [(0, .iload_n 1, 1), (1, .invokestatic 258, 3), (4, .istore_n 2, 1), (5, .aload_n 0, 1), (6, .getfield 57, 3), (9, .iload_n 2, 1), (10, .bipush 9, 2), (12, .iadd, 1), (13, .dup2, 1), (14, .iaload, 1), (15, .aload_n 0, 1), (16, .getfield 75, 3), (19, .bipush 8, 2), (21, .aload_n 0, 1), (22, .getfield 50, 3), (25, .iconst 5, 1), (26, .iload_n 1, 1), (27, .imul, 1), (28, .iaload, 1), (29, .imul, 1), (30, .iload_n 1, 1), (31, .iadd, 1), (32, .iaload, 1), (33, .iadd, 1), (34, .iastore, 1), (35, .aload_n 0, 1), (36, .getfield 57, 3), (39, .iload_n 2, 1), (40, .bipush 9, 2), (42, .iadd, 1), (43, .iaload, 1), (44, .aload_n 0, 1), (45, .getfield 13, 3), (48, .iconst 5, 1), (49, .iaload, 1), (50, .if_icmp .lt 41, 3), (53, .aload_n 0, 1), (54, .getfield 57, 3), (57, .iload_n 2, 1), (58, .bipush 9, 2), (60, .iadd, 1), (61, .dup2, 1), (62, .iaload, 1), (63, .aload_n 0, 1), (64, .getfield 13, 3), (67, .iconst 5, 1), (68, .iaload, 1), (69, .isub, 1), (70, .iastore, 1), (71, .aload_n 0, 1), (72, .getfield 57, 3), (75, .iload_n 2, 1), (76, .iconst 2, 1), (77, .iadd, 1), (78, .dup2, 1), (79, .iaload, 1), (80, .iconst 1, 1), (81, .iadd, 1), (82, .iastore, 1), (83, .aload_n 0, 1), (84, .iload_n 1, 1), (85, .invokevirtual 280, 3), (88, .goto (-53), 3), (91, .aload_n 0, 1), (92, .getfield 57, 3), (95, .iload_n 2, 1), (96, .bipush 10, 2), (98, .iadd, 1), (99, .dup2, 1), (100, .iaload, 1), (101, .iconst 1, 1), (102, .iadd, 1), (103, .iastore, 1), (104, .aload_n 0, 1), (105, .getfield 57, 3), (108, .iload_n 2, 1), (109, .bipush 10, 2), (111, .iadd, 1), (112, .iaload, 1), (113, .aload_n 0, 1), (114, .getfield 13, 3), (117, .bipush 6, 2), (119, .iaload, 1), (120, .if_icmp .ge 4, 3), (123, .return_, 1), (124, .aload_n 0, 1), (125, .getfield 57, 3), (128, .iload_n 2, 1), (129, .bipush 10, 2), (131, .iadd, 1), (132, .iconst 0, 1), (133, .iastore, 1), (134, .aload_n 0, 1), (135, .getfield 57, 3), (138, .iload_n 2, 1), (139, .iconst 2, 1), (140, .iadd, 1), (141, .iconst 1, 1), (142, .iadd, 1), (143, .dup2, 1), (144, .iaload, 1), (145, .iconst 1, 1), (146, .iadd, 1), (147, .iastore, 1), (148, .aload_n 0, 1), (149, .iload_n 1, 1), (150, .invokevirtual 280, 3), (153, .return_, 1)]
theorem DX8_recovers : (eX8_recovers.all fun q => decide (decode cX8_recovers q.1 = .ok q.2)) = true := by decide +kernel
def bX8_recovers_35 (S : List Sh) (x0 : Nat) (x1 : Int32) (x2 : Int32)  (mm : Mm) : Option ((Mm) ⊕ (Mm)) := bd1 (ldA S 0 mm (rf S mm x0 26) (x2 + 9)) fun a6 => bd1 (ldA S 0 mm (rf S mm x0 3) 5) fun a7 => if a6 < a7 then (some (.inr (mm))) else (bd1 (ldA S 0 mm (rf S mm x0 26) (x2 + 9)) fun a8 => bd1 (ldA S 0 mm (rf S mm x0 3) 5) fun a9 => bd1 (stA S 0 mm (rf S mm x0 26) (x2 + 9) (a8 - a9)) fun m10 => bd1 (ldA S 0 m10 (rf S m10 x0 26) (x2 + 2)) fun a11 => bd1 (stA S 0 m10 (rf S m10 x0 26) (x2 + 2) (a11 + 1)) fun m12 => bd1 (fX8_climbs S m12 x0 x1) fun m13 => some (.inl (m13)))
def fX8_recovers (S : List Sh) (mm : Mm) (x0 : Nat) (x1 : Int32) : Option (Mm) := gd S x0 8 (bd1 (fX8_flowAt S mm x1) fun a1 => bd1 (ldA S 0 mm (rf S mm x0 26) (a1 + 9)) fun a2 => bd1 (ldA S 0 mm (rf S mm x0 15) (5 * x1)) fun a3 => bd1 (ldA S 0 mm (rf S mm x0 34) ((8 * a3) + x1)) fun a4 => bd1 (stA S 0 mm (rf S mm x0 26) (a1 + 9) (a2 + a4)) fun m5 => bd1 (lp (fun s14 => bX8_recovers_35 S x0 x1 a1 s14) fu m5) fun y15 => bd1 (ldA S 0 y15 (rf S y15 x0 26) (a1 + 10)) fun a16 => bd1 (stA S 0 y15 (rf S y15 x0 26) (a1 + 10) (a16 + 1)) fun m17 => bd1 (ldA S 0 m17 (rf S m17 x0 26) (a1 + 10)) fun a18 => bd1 (ldA S 0 m17 (rf S m17 x0 3) 6) fun a19 => if a19 ≤ a18 then (bd1 (stA S 0 m17 (rf S m17 x0 26) (a1 + 10) 0) fun m20 => bd1 (ldA S 0 m20 (rf S m20 x0 26) ((a1 + 2) + 1)) fun a21 => bd1 (stA S 0 m20 (rf S m20 x0 26) ((a1 + 2) + 1) (a21 + 1)) fun m22 => bd1 (fX8_climbs S m22 x0 x1) fun m23 => some m23) else (some m17))
set_option maxHeartbeats 1000000 in
theorem tX8_recovers_35 {G : Gt} {l : Launch} {E : Ev} {S : List Sh} {x0 : Nat} {x1 : Int32} {x2 : Int32}  {mm : Mm} {r : (Mm) ⊕ (Mm)} (C : Cx G E cX8_recovers 3 RX8 none 2 47) (g0 : isC S x0 8) (h : bX8_recovers_35 S x0 x1 x2 mm = some r) (kb : ∀ z : Mm, r = .inl z → WM G l E S 35 [(0, .ref (E.2.2 x0)), (1, .int x1), (2, .int x2)] [] z) (kx : ∀ z : Mm, r = .inr z → WM G l E S 91 [(0, .ref (E.2.2 x0)), (1, .int x1), (2, .int x2)] [] z) : WM G l E S 35 [(0, .ref (E.2.2 x0)), (1, .int x1), (2, .int x2)] [] mm := by
  unfold bX8_recovers_35 at h
  refine x_aload_n C (dq DX8_recovers 25 rfl) rfl 0 rfl ?_
  refine getX8_57 C (dq DX8_recovers 26 rfl) g0 ?_
  refine x_iload_n C (dq DX8_recovers 27 rfl) rfl 2 rfl ?_
  refine x_bipush (v := 9) C (dq DX8_recovers 28 rfl) (by decide) ?_
  refine x_pc 42 rfl ?_
  refine x_iadd C (dq DX8_recovers 29 rfl) ?_
  refine x_iald C (dq DX8_recovers 30 rfl) h (fun a6 h => ?_)
  refine x_aload_n C (dq DX8_recovers 31 rfl) rfl 0 rfl ?_
  refine getX8_13 C (dq DX8_recovers 32 rfl) g0 ?_
  refine x_iconst (v := 5) C (dq DX8_recovers 33 rfl) (by decide) ?_
  refine x_pc 49 rfl ?_
  refine x_iald C (dq DX8_recovers 34 rfl) h (fun a7 h => ?_)
  refine x_icmp_lt (tgt := 91) C (dq DX8_recovers 35 rfl) (by decide) h (fun h => ?_) (fun h => ?_)
  · cases h
    exact x_lv [0, 1, 2] rfl (kx (mm) rfl)
  · refine x_aload_n C (dq DX8_recovers 36 rfl) rfl 0 rfl ?_
    refine getX8_57 C (dq DX8_recovers 37 rfl) g0 ?_
    refine x_iload_n C (dq DX8_recovers 38 rfl) rfl 2 rfl ?_
    refine x_pc 58 rfl ?_
    refine x_bipush (v := 9) C (dq DX8_recovers 39 rfl) (by decide) ?_
    refine x_iadd C (dq DX8_recovers 40 rfl) ?_
    refine x_dup2 C (dq DX8_recovers 41 rfl) rfl rfl ?_
    refine x_iald C (dq DX8_recovers 42 rfl) h (fun a8 h => ?_)
    refine x_aload_n C (dq DX8_recovers 43 rfl) rfl 0 rfl ?_
    refine x_pc 64 rfl ?_
    refine getX8_13 C (dq DX8_recovers 44 rfl) g0 ?_
    refine x_iconst (v := 5) C (dq DX8_recovers 45 rfl) (by decide) ?_
    refine x_iald C (dq DX8_recovers 46 rfl) h (fun a9 h => ?_)
    refine x_isub C (dq DX8_recovers 47 rfl) ?_
    refine x_iast C (dq DX8_recovers 48 rfl) h (fun m10 h => ?_)
    refine x_pc 71 rfl ?_
    refine x_aload_n C (dq DX8_recovers 49 rfl) rfl 0 rfl ?_
    refine getX8_57 C (dq DX8_recovers 50 rfl) g0 ?_
    refine x_iload_n C (dq DX8_recovers 51 rfl) rfl 2 rfl ?_
    refine x_iconst (v := 2) C (dq DX8_recovers 52 rfl) (by decide) ?_
    refine x_iadd C (dq DX8_recovers 53 rfl) ?_
    refine x_pc 78 rfl ?_
    refine x_dup2 C (dq DX8_recovers 54 rfl) rfl rfl ?_
    refine x_iald C (dq DX8_recovers 55 rfl) h (fun a11 h => ?_)
    refine x_iconst (v := 1) C (dq DX8_recovers 56 rfl) (by decide) ?_
    refine x_iadd C (dq DX8_recovers 57 rfl) ?_
    refine x_iast C (dq DX8_recovers 58 rfl) h (fun m12 h => ?_)
    refine x_pc 83 rfl ?_
    refine x_aload_n C (dq DX8_recovers 59 rfl) rfl 0 rfl ?_
    refine x_iload_n C (dq DX8_recovers 60 rfl) rfl 1 rfl ?_
    refine callX8_280 C (dq DX8_recovers 61 rfl) h (by decide) (by decide) (Nat.le_of_ble_eq_true rfl) (fun m13 h => ?_)
    refine x_goto (tgt := 35) C (dq DX8_recovers 62 rfl) (by decide) ?_
    cases h
    exact x_lv [0, 1, 2] rfl (kb (m13) rfl)
set_option maxHeartbeats 1000000 in
theorem mX8_recovers {l : Launch} {E : Ev} {S : List Sh} {mm : Mm} {x0 : Nat} {x1 : Int32} {r : Mm} (h : fX8_recovers S mm x0 x1 = some r) : Ml l E S yX8_recovers cX8_recovers 3 none 2 47 [.ref (E.2.2 x0), .int x1] mm none r := by
  refine Ml.of (by decide +kernel) (Nat.le_of_ble_eq_true rfl) (fun G C hQ => ?_)
  have C : Cx G E cX8_recovers 3 RX8 none 2 47 := C
  unfold fX8_recovers at h
  obtain ⟨g0, h⟩ := gd_some h
  show WM G l E S 0 [(0, .ref (E.2.2 x0)), (1, .int x1)] [] mm
  refine x_iload_n C (dq DX8_recovers 0 rfl) rfl 1 rfl ?_
  refine callX8_258 C (dq DX8_recovers 1 rfl) h (by decide) (by decide) (Nat.le_of_ble_eq_true rfl) (fun a1 h => ?_)
  refine x_istore_n (lv' := [(2, .int a1), (0, .ref (E.2.2 x0)), (1, .int x1)]) C (dq DX8_recovers 2 rfl) rfl (by decide) rfl ?_
  refine x_aload_n C (dq DX8_recovers 3 rfl) rfl 1 rfl ?_
  refine x_pc 6 rfl ?_
  refine getX8_57 C (dq DX8_recovers 4 rfl) g0 ?_
  refine x_iload_n C (dq DX8_recovers 5 rfl) rfl 0 rfl ?_
  refine x_bipush (v := 9) C (dq DX8_recovers 6 rfl) (by decide) ?_
  refine x_iadd C (dq DX8_recovers 7 rfl) ?_
  refine x_dup2 C (dq DX8_recovers 8 rfl) rfl rfl ?_
  refine x_pc 14 rfl ?_
  refine x_iald C (dq DX8_recovers 9 rfl) h (fun a2 h => ?_)
  refine x_aload_n C (dq DX8_recovers 10 rfl) rfl 1 rfl ?_
  refine getX8_75 C (dq DX8_recovers 11 rfl) g0 ?_
  refine x_bipush (v := 8) C (dq DX8_recovers 12 rfl) (by decide) ?_
  refine x_aload_n C (dq DX8_recovers 13 rfl) rfl 1 rfl ?_
  refine x_pc 22 rfl ?_
  refine getX8_50 C (dq DX8_recovers 14 rfl) g0 ?_
  refine x_iconst (v := 5) C (dq DX8_recovers 15 rfl) (by decide) ?_
  refine x_iload_n C (dq DX8_recovers 16 rfl) rfl 2 rfl ?_
  refine x_imul C (dq DX8_recovers 17 rfl) ?_
  refine x_iald C (dq DX8_recovers 18 rfl) h (fun a3 h => ?_)
  refine x_pc 29 rfl ?_
  refine x_imul C (dq DX8_recovers 19 rfl) ?_
  refine x_iload_n C (dq DX8_recovers 20 rfl) rfl 2 rfl ?_
  refine x_iadd C (dq DX8_recovers 21 rfl) ?_
  refine x_iald C (dq DX8_recovers 22 rfl) h (fun a4 h => ?_)
  refine x_iadd C (dq DX8_recovers 23 rfl) ?_
  refine x_pc 34 rfl ?_
  refine x_iast C (dq DX8_recovers 24 rfl) h (fun m5 h => ?_)
  refine x_lv [1, 2, 0] rfl ?_
  refine x_loop (s0 := m5) (fun s14 => WM G l E S 35 [(0, .ref (E.2.2 x0)), (1, .int x1), (2, .int a1)] [] s14) h (fun s14 r hb kb kx => tX8_recovers_35 C g0 hb kb (fun y15 hy => ?_))
  have h := kx y15 hy
  clear kx kb hb hy
  refine x_aload_n C (dq DX8_recovers 63 rfl) rfl 0 rfl ?_
  refine getX8_57 C (dq DX8_recovers 64 rfl) g0 ?_
  refine x_iload_n C (dq DX8_recovers 65 rfl) rfl 2 rfl ?_
  refine x_bipush (v := 10) C (dq DX8_recovers 66 rfl) (by decide) ?_
  refine x_pc 98 rfl ?_
  refine x_iadd C (dq DX8_recovers 67 rfl) ?_
  refine x_dup2 C (dq DX8_recovers 68 rfl) rfl rfl ?_
  refine x_iald C (dq DX8_recovers 69 rfl) h (fun a16 h => ?_)
  refine x_iconst (v := 1) C (dq DX8_recovers 70 rfl) (by decide) ?_
  refine x_iadd C (dq DX8_recovers 71 rfl) ?_
  refine x_pc 103 rfl ?_
  refine x_iast C (dq DX8_recovers 72 rfl) h (fun m17 h => ?_)
  refine x_aload_n C (dq DX8_recovers 73 rfl) rfl 0 rfl ?_
  refine getX8_57 C (dq DX8_recovers 74 rfl) g0 ?_
  refine x_iload_n C (dq DX8_recovers 75 rfl) rfl 2 rfl ?_
  refine x_bipush (v := 10) C (dq DX8_recovers 76 rfl) (by decide) ?_
  refine x_pc 111 rfl ?_
  refine x_iadd C (dq DX8_recovers 77 rfl) ?_
  refine x_iald C (dq DX8_recovers 78 rfl) h (fun a18 h => ?_)
  refine x_aload_n C (dq DX8_recovers 79 rfl) rfl 0 rfl ?_
  refine getX8_13 C (dq DX8_recovers 80 rfl) g0 ?_
  refine x_bipush (v := 6) C (dq DX8_recovers 81 rfl) (by decide) ?_
  refine x_pc 119 rfl ?_
  refine x_iald C (dq DX8_recovers 82 rfl) h (fun a19 h => ?_)
  refine x_icmp_ge (tgt := 124) C (dq DX8_recovers 83 rfl) (by decide) h (fun h => ?_) (fun h => ?_)
  · refine x_aload_n C (dq DX8_recovers 85 rfl) rfl 0 rfl ?_
    refine getX8_57 C (dq DX8_recovers 86 rfl) g0 ?_
    refine x_iload_n C (dq DX8_recovers 87 rfl) rfl 2 rfl ?_
    refine x_pc 129 rfl ?_
    refine x_bipush (v := 10) C (dq DX8_recovers 88 rfl) (by decide) ?_
    refine x_iadd C (dq DX8_recovers 89 rfl) ?_
    refine x_iconst (v := 0) C (dq DX8_recovers 90 rfl) (by decide) ?_
    refine x_iast C (dq DX8_recovers 91 rfl) h (fun m20 h => ?_)
    refine x_aload_n C (dq DX8_recovers 92 rfl) rfl 0 rfl ?_
    refine x_pc 135 rfl ?_
    refine getX8_57 C (dq DX8_recovers 93 rfl) g0 ?_
    refine x_iload_n C (dq DX8_recovers 94 rfl) rfl 2 rfl ?_
    refine x_iconst (v := 2) C (dq DX8_recovers 95 rfl) (by decide) ?_
    refine x_iadd C (dq DX8_recovers 96 rfl) ?_
    refine x_iconst (v := 1) C (dq DX8_recovers 97 rfl) (by decide) ?_
    refine x_pc 142 rfl ?_
    refine x_iadd C (dq DX8_recovers 98 rfl) ?_
    refine x_dup2 C (dq DX8_recovers 99 rfl) rfl rfl ?_
    refine x_iald C (dq DX8_recovers 100 rfl) h (fun a21 h => ?_)
    refine x_iconst (v := 1) C (dq DX8_recovers 101 rfl) (by decide) ?_
    refine x_iadd C (dq DX8_recovers 102 rfl) ?_
    refine x_pc 147 rfl ?_
    refine x_iast C (dq DX8_recovers 103 rfl) h (fun m22 h => ?_)
    refine x_aload_n C (dq DX8_recovers 104 rfl) rfl 0 rfl ?_
    refine x_iload_n C (dq DX8_recovers 105 rfl) rfl 1 rfl ?_
    refine callX8_280 C (dq DX8_recovers 106 rfl) h (by decide) (by decide) (Nat.le_of_ble_eq_true rfl) (fun m23 h => ?_)
    cases h
    exact x_vret C (dq DX8_recovers 107 rfl) hQ
  · cases h
    exact x_vret C (dq DX8_recovers 84 rfl) hQ
set_option maxHeartbeats 1000000 in
theorem qX8_recovers {S : List Sh} {mm : Mm} {x0 : Nat} {x1 : Int32} {r : Mm} (h : fX8_recovers S mm x0 x1 = some r) : isC S x0 8 := by
  unfold fX8_recovers at h
  exact (gd_some h).1
theorem callX8_283 {G : Gt} {l : Launch} {E : Ev} {S : List Sh} {cc : ByteArray} {nL : Nat} {rt : Option FieldType} {fr lo : Nat} {pc : Nat} {lv : List (Nat × Value)} {rest : List Value} {mm : Mm} {α : Type} {f : Int32 → Option α} {r : α} {o : Nat} {a0 : Int32} (C : Cx G E cc nL RX8 rt fr lo) (d : decode cc pc = .ok (.invokevirtual 283, 3)) (h : bd1 (fX8_isOn S mm o a0) f = some r) (hfr : 2 ≤ fr) (hlo : 41 ≤ lo) (hrs : (rest.map fun v => v.category).sum ≤ 8) (k : ∀ v, f v = some r → WM G l E S (pc + 3) lv (.int v :: rest) mm) : WM G l E S pc lv (.int a0 :: .ref (E.2.2 o) :: rest) mm := by
  obtain ⟨v, hv, hf⟩ := bd1_some h
  exact x_callV (n := 1) (As := [.int a0]) (rest := rest) C (mX8_isOn hv) (qX8_isOn hv) (T := TX8) (N := 49) rfl (gmem 1199 (by decide +kernel) rfl) (gmem 1201 (by decide +kernel) rfl) (gmemS 66 (by decide +kernel) rfl) (gmem 9 (by decide +kernel) rfl) (gmem 1202 (by decide +kernel) rfl) (by decide +kernel) rfl hfr hlo hrs d rfl rfl (k v hf)
theorem callX8_286 {G : Gt} {l : Launch} {E : Ev} {S : List Sh} {cc : ByteArray} {nL : Nat} {rt : Option FieldType} {fr lo : Nat} {pc : Nat} {lv : List (Nat × Value)} {rest : List Value} {mm : Mm} {α : Type} {f : Mm → Option α} {r : α} {o : Nat} (C : Cx G E cc nL RX8 rt fr lo) (d : decode cc pc = .ok (.invokevirtual 286, 3)) (h : bd1 (fX8_laysCan S mm o) f = some r) (hfr : 2 ≤ fr) (hlo : 47 ≤ lo) (hrs : (rest.map fun v => v.category).sum ≤ 8) (k : ∀ m1, f m1 = some r → WM G l E S (pc + 3) lv rest m1) : WM G l E S pc lv (.ref (E.2.2 o) :: rest) mm := by
  obtain ⟨m1, hv, hf⟩ := bd1_some h
  exact x_callV (n := 0) (As := []) (rest := rest) C (mX8_laysCan hv) (qX8_laysCan hv) (T := TX8) (N := 49) rfl (gmem 1206 (by decide +kernel) rfl) (gmem 1208 (by decide +kernel) rfl) (gmemS 67 (by decide +kernel) rfl) (gmem 9 (by decide +kernel) rfl) (gmem 1209 (by decide +kernel) rfl) (by decide +kernel) rfl hfr hlo hrs d rfl rfl (k m1 hf)
theorem callX8_289 {G : Gt} {l : Launch} {E : Ev} {S : List Sh} {cc : ByteArray} {nL : Nat} {rt : Option FieldType} {fr lo : Nat} {pc : Nat} {lv : List (Nat × Value)} {rest : List Value} {mm : Mm} {α : Type} {f : Mm → Option α} {r : α} {o : Nat} {a0 : Int32} (C : Cx G E cc nL RX8 rt fr lo) (d : decode cc pc = .ok (.invokevirtual 289, 3)) (h : bd1 (fX8_carriesOf S mm o a0) f = some r) (hfr : 2 ≤ fr) (hlo : 45 ≤ lo) (hrs : (rest.map fun v => v.category).sum ≤ 8) (k : ∀ m1, f m1 = some r → WM G l E S (pc + 3) lv rest m1) : WM G l E S pc lv (.int a0 :: .ref (E.2.2 o) :: rest) mm := by
  obtain ⟨m1, hv, hf⟩ := bd1_some h
  exact x_callV (n := 1) (As := [.int a0]) (rest := rest) C (mX8_carriesOf hv) (qX8_carriesOf hv) (T := TX8) (N := 49) rfl (gmem 1214 (by decide +kernel) rfl) (gmem 1216 (by decide +kernel) rfl) (gmemS 69 (by decide +kernel) rfl) (gmem 9 (by decide +kernel) rfl) (gmem 1217 (by decide +kernel) rfl) (by decide +kernel) rfl hfr hlo hrs d rfl rfl (k m1 hf)
theorem callX8_292 {G : Gt} {l : Launch} {E : Ev} {S : List Sh} {cc : ByteArray} {nL : Nat} {rt : Option FieldType} {fr lo : Nat} {pc : Nat} {lv : List (Nat × Value)} {rest : List Value} {mm : Mm} {α : Type} {f : Mm → Option α} {r : α} {o : Nat} (C : Cx G E cc nL RX8 rt fr lo) (d : decode cc pc = .ok (.invokevirtual 292, 3)) (h : bd1 (fX8_takesOff S mm o) f = some r) (hfr : 2 ≤ fr) (hlo : 47 ≤ lo) (hrs : (rest.map fun v => v.category).sum ≤ 8) (k : ∀ m1, f m1 = some r → WM G l E S (pc + 3) lv rest m1) : WM G l E S pc lv (.ref (E.2.2 o) :: rest) mm := by
  obtain ⟨m1, hv, hf⟩ := bd1_some h
  exact x_callV (n := 0) (As := []) (rest := rest) C (mX8_takesOff hv) (qX8_takesOff hv) (T := TX8) (N := 49) rfl (gmem 1218 (by decide +kernel) rfl) (gmem 1220 (by decide +kernel) rfl) (gmemS 70 (by decide +kernel) rfl) (gmem 9 (by decide +kernel) rfl) (gmem 1221 (by decide +kernel) rfl) (by decide +kernel) rfl hfr hlo hrs d rfl rfl (k m1 hf)
theorem callX8_295 {G : Gt} {l : Launch} {E : Ev} {S : List Sh} {cc : ByteArray} {nL : Nat} {rt : Option FieldType} {fr lo : Nat} {pc : Nat} {lv : List (Nat × Value)} {rest : List Value} {mm : Mm} {α : Type} {f : Mm → Option α} {r : α} {o : Nat} {a0 : Int32} (C : Cx G E cc nL RX8 rt fr lo) (d : decode cc pc = .ok (.invokevirtual 295, 3)) (h : bd1 (fX8_comesTo S mm o a0) f = some r) (hfr : 2 ≤ fr) (hlo : 48 ≤ lo) (hrs : (rest.map fun v => v.category).sum ≤ 8) (k : ∀ m1, f m1 = some r → WM G l E S (pc + 3) lv rest m1) : WM G l E S pc lv (.int a0 :: .ref (E.2.2 o) :: rest) mm := by
  obtain ⟨m1, hv, hf⟩ := bd1_some h
  exact x_callV (n := 1) (As := [.int a0]) (rest := rest) C (mX8_comesTo hv) (qX8_comesTo hv) (T := TX8) (N := 49) rfl (gmem 1222 (by decide +kernel) rfl) (gmem 1224 (by decide +kernel) rfl) (gmemS 71 (by decide +kernel) rfl) (gmem 9 (by decide +kernel) rfl) (gmem 1225 (by decide +kernel) rfl) (by decide +kernel) rfl hfr hlo hrs d rfl rfl (k m1 hf)
theorem callX8_298 {G : Gt} {l : Launch} {E : Ev} {S : List Sh} {cc : ByteArray} {nL : Nat} {rt : Option FieldType} {fr lo : Nat} {pc : Nat} {lv : List (Nat × Value)} {rest : List Value} {mm : Mm} {α : Type} {f : Mm → Option α} {r : α} {o : Nat} {a0 : Int32} (C : Cx G E cc nL RX8 rt fr lo) (d : decode cc pc = .ok (.invokevirtual 298, 3)) (h : bd1 (fX8_asks S mm o a0) f = some r) (hfr : 2 ≤ fr) (hlo : 47 ≤ lo) (hrs : (rest.map fun v => v.category).sum ≤ 8) (k : ∀ m1, f m1 = some r → WM G l E S (pc + 3) lv rest m1) : WM G l E S pc lv (.int a0 :: .ref (E.2.2 o) :: rest) mm := by
  obtain ⟨m1, hv, hf⟩ := bd1_some h
  exact x_callV (n := 1) (As := [.int a0]) (rest := rest) C (mX8_asks hv) (qX8_asks hv) (T := TX8) (N := 49) rfl (gmem 1230 (by decide +kernel) rfl) (gmem 1232 (by decide +kernel) rfl) (gmemS 73 (by decide +kernel) rfl) (gmem 9 (by decide +kernel) rfl) (gmem 1233 (by decide +kernel) rfl) (by decide +kernel) rfl hfr hlo hrs d rfl rfl (k m1 hf)
theorem callX8_301 {G : Gt} {l : Launch} {E : Ev} {S : List Sh} {cc : ByteArray} {nL : Nat} {rt : Option FieldType} {fr lo : Nat} {pc : Nat} {lv : List (Nat × Value)} {rest : List Value} {mm : Mm} {α : Type} {f : Mm → Option α} {r : α} {o : Nat} {a0 : Int32} (C : Cx G E cc nL RX8 rt fr lo) (d : decode cc pc = .ok (.invokevirtual 301, 3)) (h : bd1 (fX8_samples S mm o a0) f = some r) (hfr : 3 ≤ fr) (hlo : 69 ≤ lo) (hrs : (rest.map fun v => v.category).sum ≤ 8) (k : ∀ m1, f m1 = some r → WM G l E S (pc + 3) lv rest m1) : WM G l E S pc lv (.int a0 :: .ref (E.2.2 o) :: rest) mm := by
  obtain ⟨m1, hv, hf⟩ := bd1_some h
  exact x_callV (n := 1) (As := [.int a0]) (rest := rest) C (mX8_samples hv) (qX8_samples hv) (T := TX8) (N := 49) rfl (gmem 1234 (by decide +kernel) rfl) (gmem 1236 (by decide +kernel) rfl) (gmemS 74 (by decide +kernel) rfl) (gmem 9 (by decide +kernel) rfl) (gmem 1237 (by decide +kernel) rfl) (by decide +kernel) rfl hfr hlo hrs d rfl rfl (k m1 hf)
theorem callX8_304 {G : Gt} {l : Launch} {E : Ev} {S : List Sh} {cc : ByteArray} {nL : Nat} {rt : Option FieldType} {fr lo : Nat} {pc : Nat} {lv : List (Nat × Value)} {rest : List Value} {mm : Mm} {α : Type} {f : Mm → Option α} {r : α} {o : Nat} (C : Cx G E cc nL RX8 rt fr lo) (d : decode cc pc = .ok (.invokevirtual 304, 3)) (h : bd1 (fX8_takesNotices S mm o) f = some r) (hfr : 2 ≤ fr) (hlo : 43 ≤ lo) (hrs : (rest.map fun v => v.category).sum ≤ 8) (k : ∀ m1, f m1 = some r → WM G l E S (pc + 3) lv rest m1) : WM G l E S pc lv (.ref (E.2.2 o) :: rest) mm := by
  obtain ⟨m1, hv, hf⟩ := bd1_some h
  exact x_callV (n := 0) (As := []) (rest := rest) C (mX8_takesNotices hv) (qX8_takesNotices hv) (T := TX8) (N := 49) rfl (gmem 1246 (by decide +kernel) rfl) (gmem 1248 (by decide +kernel) rfl) (gmemS 77 (by decide +kernel) rfl) (gmem 9 (by decide +kernel) rfl) (gmem 1249 (by decide +kernel) rfl) (by decide +kernel) rfl hfr hlo hrs d rfl rfl (k m1 hf)
theorem callX8_307 {G : Gt} {l : Launch} {E : Ev} {S : List Sh} {cc : ByteArray} {nL : Nat} {rt : Option FieldType} {fr lo : Nat} {pc : Nat} {lv : List (Nat × Value)} {rest : List Value} {mm : Mm} {α : Type} {f : Mm → Option α} {r : α} {o : Nat} {a0 : Int32} (C : Cx G E cc nL RX8 rt fr lo) (d : decode cc pc = .ok (.invokevirtual 307, 3)) (h : bd1 (fX8_recovers S mm o a0) f = some r) (hfr : 3 ≤ fr) (hlo : 69 ≤ lo) (hrs : (rest.map fun v => v.category).sum ≤ 8) (k : ∀ m1, f m1 = some r → WM G l E S (pc + 3) lv rest m1) : WM G l E S pc lv (.int a0 :: .ref (E.2.2 o) :: rest) mm := by
  obtain ⟨m1, hv, hf⟩ := bd1_some h
  exact x_callV (n := 1) (As := [.int a0]) (rest := rest) C (mX8_recovers hv) (qX8_recovers hv) (T := TX8) (N := 49) rfl (gmem 1250 (by decide +kernel) rfl) (gmem 1252 (by decide +kernel) rfl) (gmemS 78 (by decide +kernel) rfl) (gmem 9 (by decide +kernel) rfl) (gmem 1253 (by decide +kernel) rfl) (by decide +kernel) rfl hfr hlo hrs d rfl rfl (k m1 hf)
abbrev eX8_tickGoes : List (Nat × Instr × Nat) := [(0, .iconst 0, 1), (1, .istore_n 1, 1), (2, .iload_n 1, 1), (3, .aload_n 0, 1), (4, .invokevirtual 251, 3), (7, .if_icmp .ge 56, 3), (10, .iload_n 1, 1), (11, .invokestatic 258, 3), (14, .istore_n 2, 1), (15, .aload_n 0, 1), (16, .iload_n 1, 1), (17, .invokevirtual 283, 3), (20, .ifCond .eq 37, 3), (23, .aload_n 0, 1), (24, .getfield 57, 3), (27, .iload_n 2, 1), (28, .bipush 8, 2), (30, .iadd, 1), (31, .aload_n 0, 1), (32, .getfield 57, 3), (35, .iload_n 2, 1), (36, .bipush 8, 2), (38, .iadd, 1), (39, .iaload, 1), (40, .aload_n 0, 1), (41, .getfield 57, 3), (44, .iload_n 2, 1), (45, .iconst 0, 1), (46, .iadd, 1), (47, .iaload, 1), (48, .iadd, 1), (49, .iconst 0, 1), (50, .sipush 1024, 3), (53, .invokestatic 267, 3), (56, .iastore, 1), (57, .iinc 1 1, 3), (60, .goto (-58), 3), (63, .aload_n 0, 1), (64, .invokevirtual 286, 3), (67, .iconst 0, 1), (68, .istore_n 1, 1), (69, .iload_n 1, 1), (70, .aload_n 0, 1), (71, .invokevirtual 248, 3), (74, .if_icmp .ge 14, 3), (77, .aload_n 0, 1), (78, .iload_n 1, 1), (79, .invokevirtual 289, 3), (82, .iinc 1 1, 3), (85, .goto (-16), 3), (88, .aload_n 0, 1), (89, .invokevirtual 292, 3), (92, .aload_n 0, 1), (93, .iconst 0, 1), (94, .putfield 277, 3), (97, .iconst 0, 1), (98, .istore_n 1, 1), (99, .iload_n 1, 1), (100, .aload_n 0, 1), (101, .invokevirtual 248, 3), (104, .if_icmp .ge 14, 3), (107, .aload_n 0, 1), (108, .iload_n 1, 1), (109, .invokevirtual 295, 3), (112, .iinc 1 1, 3), (115, .goto (-16), 3), (118, .iconst 0, 1), (119, .istore_n 1, 1), (120, .iload_n 1, 1), (121, .aload_n 0, 1), (122, .invokevirtual 248, 3), (125, .if_icmp .ge 14, 3), (128, .aload_n 0, 1), (129, .iload_n 1, 1), (130, .invokevirtual 298, 3), (133, .iinc 1 1, 3), (136, .goto (-16), 3), (139, .iconst 0, 1), (140, .istore_n 1, 1), (141, .iload_n 1, 1), (142, .aload_n 0, 1), (143, .invokevirtual 248, 3), (146, .if_icmp .ge 14, 3), (149, .aload_n 0, 1), (150, .iload_n 1, 1), (151, .invokevirtual 301, 3), (154, .iinc 1 1, 3), (157, .goto (-16), 3), (160, .aload_n 0, 1), (161, .invokevirtual 304, 3), (164, .iconst 0, 1), (165, .istore_n 1, 1), (166, .iload_n 1, 1), (167, .aload_n 0, 1), (168, .invokevirtual 251, 3), (171, .if_icmp .ge 22, 3), (174, .aload_n 0, 1), (175, .iload_n 1, 1), (176, .invokevirtual 283, 3), (179, .ifCond .eq 8, 3), (182, .aload_n 0, 1), (183, .iload_n 1, 1), (184, .invokevirtual 307, 3), (187, .iinc 1 1, 3), (190, .goto (-24), 3), (193, .aload_n 0, 1), (194, .getfield 57, 3), (197, .sipush 336, 3), (200, .dup2, 1), (201, .iaload, 1), (202, .iconst 1, 1), (203, .iadd, 1), (204, .iastore, 1), (205, .return_, 1)]
theorem DX8_tickGoes : (eX8_tickGoes.all fun q => decide (decode cX8_tickGoes q.1 = .ok q.2)) = true := by decide +kernel
def jX8_tickGoes_57 (S : List Sh) (mm : Mm) (x0 : Nat) (x1 : Int32)  : Option ((Int32 × Mm) ⊕ (Mm)) := some (.inl (x1 + 1, mm))
def bX8_tickGoes_2 (S : List Sh) (x0 : Nat) (x1 : Int32) (mm : Mm) : Option ((Int32 × Mm) ⊕ (Mm)) := bd1 (fX8_flows S mm x0) fun a1 => if a1 ≤ x1 then (some (.inr (mm))) else (bd1 (fX8_flowAt S mm x1) fun a2 => bd1 (fX8_isOn S mm x0 x1) fun a3 => if a3 = 0 then (jX8_tickGoes_57 S mm x0 x1) else (bd1 (ldA S 0 mm (rf S mm x0 26) (a2 + 8)) fun a4 => bd1 (ldA S 0 mm (rf S mm x0 26) (a2 + 0)) fun a5 => bd1 (fX8_within S mm (a4 + a5) 0 1024) fun a6 => bd1 (stA S 0 mm (rf S mm x0 26) (a2 + 8) a6) fun m7 => jX8_tickGoes_57 S m7 x0 x1))
def bX8_tickGoes_69 (S : List Sh) (x0 : Nat) (x1 : Int32) (mm : Mm) : Option ((Int32 × Mm) ⊕ (Mm)) := bd1 (fX8_links S mm x0) fun a11 => if a11 ≤ x1 then (some (.inr (mm))) else (bd1 (fX8_carriesOf S mm x0 x1) fun m12 => some (.inl (x1 + 1, m12)))
def bX8_tickGoes_99 (S : List Sh) (x0 : Nat) (x1 : Int32) (mm : Mm) : Option ((Int32 × Mm) ⊕ (Mm)) := bd1 (fX8_links S mm x0) fun a17 => if a17 ≤ x1 then (some (.inr (mm))) else (bd1 (fX8_comesTo S mm x0 x1) fun m18 => some (.inl (x1 + 1, m18)))
def bX8_tickGoes_120 (S : List Sh) (x0 : Nat) (x1 : Int32) (mm : Mm) : Option ((Int32 × Mm) ⊕ (Mm)) := bd1 (fX8_links S mm x0) fun a21 => if a21 ≤ x1 then (some (.inr (mm))) else (bd1 (fX8_asks S mm x0 x1) fun m22 => some (.inl (x1 + 1, m22)))
def bX8_tickGoes_141 (S : List Sh) (x0 : Nat) (x1 : Int32) (mm : Mm) : Option ((Int32 × Mm) ⊕ (Mm)) := bd1 (fX8_links S mm x0) fun a25 => if a25 ≤ x1 then (some (.inr (mm))) else (bd1 (fX8_samples S mm x0 x1) fun m26 => some (.inl (x1 + 1, m26)))
def jX8_tickGoes_187 (S : List Sh) (mm : Mm) (x0 : Nat) (x1 : Int32)  : Option ((Int32 × Mm) ⊕ (Mm)) := some (.inl (x1 + 1, mm))
def bX8_tickGoes_166 (S : List Sh) (x0 : Nat) (x1 : Int32) (mm : Mm) : Option ((Int32 × Mm) ⊕ (Mm)) := bd1 (fX8_flows S mm x0) fun a30 => if a30 ≤ x1 then (some (.inr (mm))) else (bd1 (fX8_isOn S mm x0 x1) fun a31 => if a31 = 0 then (jX8_tickGoes_187 S mm x0 x1) else (bd1 (fX8_recovers S mm x0 x1) fun m32 => jX8_tickGoes_187 S m32 x0 x1))
def fX8_tickGoes (S : List Sh) (mm : Mm) (x0 : Nat) : Option (Mm) := gd S x0 8 (bd1 (lp (fun s8 => bX8_tickGoes_2 S x0 s8.1 s8.2) fu (0, mm)) fun y9 => bd1 (fX8_laysCan S y9 x0) fun m10 => bd1 (lp (fun s13 => bX8_tickGoes_69 S x0 s13.1 s13.2) fu (0, m10)) fun y14 => bd1 (fX8_takesOff S y14 x0) fun m15 => bd1 (some (u1 m15 x0 38 0)) fun m16 => bd1 (lp (fun s19 => bX8_tickGoes_99 S x0 s19.1 s19.2) fu (0, m16)) fun y20 => bd1 (lp (fun s23 => bX8_tickGoes_120 S x0 s23.1 s23.2) fu (0, y20)) fun y24 => bd1 (lp (fun s27 => bX8_tickGoes_141 S x0 s27.1 s27.2) fu (0, y24)) fun y28 => bd1 (fX8_takesNotices S y28 x0) fun m29 => bd1 (lp (fun s33 => bX8_tickGoes_166 S x0 s33.1 s33.2) fu (0, m29)) fun y34 => bd1 (ldA S 0 y34 (rf S y34 x0 26) 336) fun a35 => bd1 (stA S 0 y34 (rf S y34 x0 26) 336 (a35 + 1)) fun m36 => some m36)
set_option maxHeartbeats 1000000 in
theorem tX8_tickGoes_57 {G : Gt} {l : Launch} {E : Ev} {S : List Sh} {mm : Mm} {x0 : Nat} {x1 : Int32}  {r : (Int32 × Mm) ⊕ (Mm)} (C : Cx G E cX8_tickGoes 3 RX8 none 3 69) (g0 : isC S x0 8) (h : jX8_tickGoes_57 S mm x0 x1 = some r) (kb : ∀ z : Int32 × Mm, r = .inl z → WM G l E S 2 [(0, .ref (E.2.2 x0)), (1, .int z.1)] [] z.2) (kx : ∀ z : Mm, r = .inr z → WM G l E S 63 [(0, .ref (E.2.2 x0))] [] z) : WM G l E S 57 [(0, .ref (E.2.2 x0)), (1, .int x1)] [] mm := by
  unfold jX8_tickGoes_57 at h
  refine x_iinc (v := x1 + 1) (lv' := [(1, .int (x1 + 1)), (0, .ref (E.2.2 x0))]) C (dq DX8_tickGoes 35 rfl) 1 rfl rfl (by decide) rfl ?_
  refine x_goto (tgt := 2) C (dq DX8_tickGoes 36 rfl) (by decide) ?_
  cases h
  exact x_lv [1, 0] rfl (kb (x1 + 1, mm) rfl)
set_option maxHeartbeats 1000000 in
theorem tX8_tickGoes_2 {G : Gt} {l : Launch} {E : Ev} {S : List Sh} {x0 : Nat} {x1 : Int32} {mm : Mm} {r : (Int32 × Mm) ⊕ (Mm)} (C : Cx G E cX8_tickGoes 3 RX8 none 3 69) (g0 : isC S x0 8) (h : bX8_tickGoes_2 S x0 x1 mm = some r) (kb : ∀ z : Int32 × Mm, r = .inl z → WM G l E S 2 [(0, .ref (E.2.2 x0)), (1, .int z.1)] [] z.2) (kx : ∀ z : Mm, r = .inr z → WM G l E S 63 [(0, .ref (E.2.2 x0))] [] z) : WM G l E S 2 [(0, .ref (E.2.2 x0)), (1, .int x1)] [] mm := by
  unfold bX8_tickGoes_2 at h
  refine x_iload_n C (dq DX8_tickGoes 2 rfl) rfl 1 rfl ?_
  refine x_aload_n C (dq DX8_tickGoes 3 rfl) rfl 0 rfl ?_
  refine callX8_251 C (dq DX8_tickGoes 4 rfl) h (by decide) (by decide) (Nat.le_of_ble_eq_true rfl) (fun a1 h => ?_)
  refine x_icmp_ge (tgt := 63) C (dq DX8_tickGoes 5 rfl) (by decide) h (fun h => ?_) (fun h => ?_)
  · cases h
    exact x_lv [0] rfl (kx (mm) rfl)
  · refine x_pc 10 rfl ?_
    refine x_iload_n C (dq DX8_tickGoes 6 rfl) rfl 1 rfl ?_
    refine callX8_258 C (dq DX8_tickGoes 7 rfl) h (by decide) (by decide) (Nat.le_of_ble_eq_true rfl) (fun a2 h => ?_)
    refine x_istore_n (lv' := [(2, .int a2), (0, .ref (E.2.2 x0)), (1, .int x1)]) C (dq DX8_tickGoes 8 rfl) rfl (by decide) rfl ?_
    refine x_aload_n C (dq DX8_tickGoes 9 rfl) rfl 1 rfl ?_
    refine x_iload_n C (dq DX8_tickGoes 10 rfl) rfl 2 rfl ?_
    refine x_pc 17 rfl ?_
    refine callX8_283 C (dq DX8_tickGoes 11 rfl) h (by decide) (by decide) (Nat.le_of_ble_eq_true rfl) (fun a3 h => ?_)
    refine x_if_eq (tgt := 57) C (dq DX8_tickGoes 12 rfl) (by decide) h (fun h => ?_) (fun h => ?_)
    · exact x_lv [1, 2] rfl (tX8_tickGoes_57 C g0 h kb kx)
    · refine x_aload_n C (dq DX8_tickGoes 13 rfl) rfl 1 rfl ?_
      refine getX8_57 C (dq DX8_tickGoes 14 rfl) g0 ?_
      refine x_iload_n C (dq DX8_tickGoes 15 rfl) rfl 0 rfl ?_
      refine x_pc 28 rfl ?_
      refine x_bipush (v := 8) C (dq DX8_tickGoes 16 rfl) (by decide) ?_
      refine x_iadd C (dq DX8_tickGoes 17 rfl) ?_
      refine x_aload_n C (dq DX8_tickGoes 18 rfl) rfl 1 rfl ?_
      refine getX8_57 C (dq DX8_tickGoes 19 rfl) g0 ?_
      refine x_iload_n C (dq DX8_tickGoes 20 rfl) rfl 0 rfl ?_
      refine x_pc 36 rfl ?_
      refine x_bipush (v := 8) C (dq DX8_tickGoes 21 rfl) (by decide) ?_
      refine x_iadd C (dq DX8_tickGoes 22 rfl) ?_
      refine x_iald C (dq DX8_tickGoes 23 rfl) h (fun a4 h => ?_)
      refine x_aload_n C (dq DX8_tickGoes 24 rfl) rfl 1 rfl ?_
      refine getX8_57 C (dq DX8_tickGoes 25 rfl) g0 ?_
      refine x_pc 44 rfl ?_
      refine x_iload_n C (dq DX8_tickGoes 26 rfl) rfl 0 rfl ?_
      refine x_iconst (v := 0) C (dq DX8_tickGoes 27 rfl) (by decide) ?_
      refine x_iadd C (dq DX8_tickGoes 28 rfl) ?_
      refine x_iald C (dq DX8_tickGoes 29 rfl) h (fun a5 h => ?_)
      refine x_iadd C (dq DX8_tickGoes 30 rfl) ?_
      refine x_pc 49 rfl ?_
      refine x_iconst (v := 0) C (dq DX8_tickGoes 31 rfl) (by decide) ?_
      refine x_sipush (v := 1024) C (dq DX8_tickGoes 32 rfl) (by decide) ?_
      refine callX8_267 C (dq DX8_tickGoes 33 rfl) h (by decide) (by decide) (Nat.le_of_ble_eq_true rfl) (fun a6 h => ?_)
      refine x_iast C (dq DX8_tickGoes 34 rfl) h (fun m7 h => ?_)
      exact x_lv [1, 2] rfl (tX8_tickGoes_57 C g0 h kb kx)
set_option maxHeartbeats 1000000 in
theorem tX8_tickGoes_69 {G : Gt} {l : Launch} {E : Ev} {S : List Sh} {x0 : Nat} {x1 : Int32} {mm : Mm} {r : (Int32 × Mm) ⊕ (Mm)} (C : Cx G E cX8_tickGoes 3 RX8 none 3 69) (g0 : isC S x0 8) (h : bX8_tickGoes_69 S x0 x1 mm = some r) (kb : ∀ z : Int32 × Mm, r = .inl z → WM G l E S 69 [(0, .ref (E.2.2 x0)), (1, .int z.1)] [] z.2) (kx : ∀ z : Mm, r = .inr z → WM G l E S 88 [(0, .ref (E.2.2 x0))] [] z) : WM G l E S 69 [(0, .ref (E.2.2 x0)), (1, .int x1)] [] mm := by
  unfold bX8_tickGoes_69 at h
  refine x_iload_n C (dq DX8_tickGoes 41 rfl) rfl 1 rfl ?_
  refine x_aload_n C (dq DX8_tickGoes 42 rfl) rfl 0 rfl ?_
  refine callX8_248 C (dq DX8_tickGoes 43 rfl) h (by decide) (by decide) (Nat.le_of_ble_eq_true rfl) (fun a11 h => ?_)
  refine x_icmp_ge (tgt := 88) C (dq DX8_tickGoes 44 rfl) (by decide) h (fun h => ?_) (fun h => ?_)
  · cases h
    exact x_lv [0] rfl (kx (mm) rfl)
  · refine x_pc 77 rfl ?_
    refine x_aload_n C (dq DX8_tickGoes 45 rfl) rfl 0 rfl ?_
    refine x_iload_n C (dq DX8_tickGoes 46 rfl) rfl 1 rfl ?_
    refine callX8_289 C (dq DX8_tickGoes 47 rfl) h (by decide) (by decide) (Nat.le_of_ble_eq_true rfl) (fun m12 h => ?_)
    refine x_iinc (v := x1 + 1) (lv' := [(1, .int (x1 + 1)), (0, .ref (E.2.2 x0))]) C (dq DX8_tickGoes 48 rfl) 1 rfl rfl (by decide) rfl ?_
    refine x_goto (tgt := 69) C (dq DX8_tickGoes 49 rfl) (by decide) ?_
    cases h
    exact x_lv [1, 0] rfl (kb (x1 + 1, m12) rfl)
set_option maxHeartbeats 1000000 in
theorem tX8_tickGoes_99 {G : Gt} {l : Launch} {E : Ev} {S : List Sh} {x0 : Nat} {x1 : Int32} {mm : Mm} {r : (Int32 × Mm) ⊕ (Mm)} (C : Cx G E cX8_tickGoes 3 RX8 none 3 69) (g0 : isC S x0 8) (h : bX8_tickGoes_99 S x0 x1 mm = some r) (kb : ∀ z : Int32 × Mm, r = .inl z → WM G l E S 99 [(0, .ref (E.2.2 x0)), (1, .int z.1)] [] z.2) (kx : ∀ z : Mm, r = .inr z → WM G l E S 118 [(0, .ref (E.2.2 x0))] [] z) : WM G l E S 99 [(0, .ref (E.2.2 x0)), (1, .int x1)] [] mm := by
  unfold bX8_tickGoes_99 at h
  refine x_iload_n C (dq DX8_tickGoes 57 rfl) rfl 1 rfl ?_
  refine x_aload_n C (dq DX8_tickGoes 58 rfl) rfl 0 rfl ?_
  refine callX8_248 C (dq DX8_tickGoes 59 rfl) h (by decide) (by decide) (Nat.le_of_ble_eq_true rfl) (fun a17 h => ?_)
  refine x_icmp_ge (tgt := 118) C (dq DX8_tickGoes 60 rfl) (by decide) h (fun h => ?_) (fun h => ?_)
  · cases h
    exact x_lv [0] rfl (kx (mm) rfl)
  · refine x_pc 107 rfl ?_
    refine x_aload_n C (dq DX8_tickGoes 61 rfl) rfl 0 rfl ?_
    refine x_iload_n C (dq DX8_tickGoes 62 rfl) rfl 1 rfl ?_
    refine callX8_295 C (dq DX8_tickGoes 63 rfl) h (by decide) (by decide) (Nat.le_of_ble_eq_true rfl) (fun m18 h => ?_)
    refine x_iinc (v := x1 + 1) (lv' := [(1, .int (x1 + 1)), (0, .ref (E.2.2 x0))]) C (dq DX8_tickGoes 64 rfl) 1 rfl rfl (by decide) rfl ?_
    refine x_goto (tgt := 99) C (dq DX8_tickGoes 65 rfl) (by decide) ?_
    cases h
    exact x_lv [1, 0] rfl (kb (x1 + 1, m18) rfl)
set_option maxHeartbeats 1000000 in
theorem tX8_tickGoes_120 {G : Gt} {l : Launch} {E : Ev} {S : List Sh} {x0 : Nat} {x1 : Int32} {mm : Mm} {r : (Int32 × Mm) ⊕ (Mm)} (C : Cx G E cX8_tickGoes 3 RX8 none 3 69) (g0 : isC S x0 8) (h : bX8_tickGoes_120 S x0 x1 mm = some r) (kb : ∀ z : Int32 × Mm, r = .inl z → WM G l E S 120 [(0, .ref (E.2.2 x0)), (1, .int z.1)] [] z.2) (kx : ∀ z : Mm, r = .inr z → WM G l E S 139 [(0, .ref (E.2.2 x0))] [] z) : WM G l E S 120 [(0, .ref (E.2.2 x0)), (1, .int x1)] [] mm := by
  unfold bX8_tickGoes_120 at h
  refine x_iload_n C (dq DX8_tickGoes 68 rfl) rfl 1 rfl ?_
  refine x_aload_n C (dq DX8_tickGoes 69 rfl) rfl 0 rfl ?_
  refine callX8_248 C (dq DX8_tickGoes 70 rfl) h (by decide) (by decide) (Nat.le_of_ble_eq_true rfl) (fun a21 h => ?_)
  refine x_icmp_ge (tgt := 139) C (dq DX8_tickGoes 71 rfl) (by decide) h (fun h => ?_) (fun h => ?_)
  · cases h
    exact x_lv [0] rfl (kx (mm) rfl)
  · refine x_pc 128 rfl ?_
    refine x_aload_n C (dq DX8_tickGoes 72 rfl) rfl 0 rfl ?_
    refine x_iload_n C (dq DX8_tickGoes 73 rfl) rfl 1 rfl ?_
    refine callX8_298 C (dq DX8_tickGoes 74 rfl) h (by decide) (by decide) (Nat.le_of_ble_eq_true rfl) (fun m22 h => ?_)
    refine x_iinc (v := x1 + 1) (lv' := [(1, .int (x1 + 1)), (0, .ref (E.2.2 x0))]) C (dq DX8_tickGoes 75 rfl) 1 rfl rfl (by decide) rfl ?_
    refine x_goto (tgt := 120) C (dq DX8_tickGoes 76 rfl) (by decide) ?_
    cases h
    exact x_lv [1, 0] rfl (kb (x1 + 1, m22) rfl)
set_option maxHeartbeats 1000000 in
theorem tX8_tickGoes_141 {G : Gt} {l : Launch} {E : Ev} {S : List Sh} {x0 : Nat} {x1 : Int32} {mm : Mm} {r : (Int32 × Mm) ⊕ (Mm)} (C : Cx G E cX8_tickGoes 3 RX8 none 3 69) (g0 : isC S x0 8) (h : bX8_tickGoes_141 S x0 x1 mm = some r) (kb : ∀ z : Int32 × Mm, r = .inl z → WM G l E S 141 [(0, .ref (E.2.2 x0)), (1, .int z.1)] [] z.2) (kx : ∀ z : Mm, r = .inr z → WM G l E S 160 [(0, .ref (E.2.2 x0))] [] z) : WM G l E S 141 [(0, .ref (E.2.2 x0)), (1, .int x1)] [] mm := by
  unfold bX8_tickGoes_141 at h
  refine x_iload_n C (dq DX8_tickGoes 79 rfl) rfl 1 rfl ?_
  refine x_aload_n C (dq DX8_tickGoes 80 rfl) rfl 0 rfl ?_
  refine callX8_248 C (dq DX8_tickGoes 81 rfl) h (by decide) (by decide) (Nat.le_of_ble_eq_true rfl) (fun a25 h => ?_)
  refine x_icmp_ge (tgt := 160) C (dq DX8_tickGoes 82 rfl) (by decide) h (fun h => ?_) (fun h => ?_)
  · cases h
    exact x_lv [0] rfl (kx (mm) rfl)
  · refine x_pc 149 rfl ?_
    refine x_aload_n C (dq DX8_tickGoes 83 rfl) rfl 0 rfl ?_
    refine x_iload_n C (dq DX8_tickGoes 84 rfl) rfl 1 rfl ?_
    refine callX8_301 C (dq DX8_tickGoes 85 rfl) h (by decide) (by decide) (Nat.le_of_ble_eq_true rfl) (fun m26 h => ?_)
    refine x_iinc (v := x1 + 1) (lv' := [(1, .int (x1 + 1)), (0, .ref (E.2.2 x0))]) C (dq DX8_tickGoes 86 rfl) 1 rfl rfl (by decide) rfl ?_
    refine x_goto (tgt := 141) C (dq DX8_tickGoes 87 rfl) (by decide) ?_
    cases h
    exact x_lv [1, 0] rfl (kb (x1 + 1, m26) rfl)
set_option maxHeartbeats 1000000 in
theorem tX8_tickGoes_187 {G : Gt} {l : Launch} {E : Ev} {S : List Sh} {mm : Mm} {x0 : Nat} {x1 : Int32}  {r : (Int32 × Mm) ⊕ (Mm)} (C : Cx G E cX8_tickGoes 3 RX8 none 3 69) (g0 : isC S x0 8) (h : jX8_tickGoes_187 S mm x0 x1 = some r) (kb : ∀ z : Int32 × Mm, r = .inl z → WM G l E S 166 [(0, .ref (E.2.2 x0)), (1, .int z.1)] [] z.2) (kx : ∀ z : Mm, r = .inr z → WM G l E S 193 [(0, .ref (E.2.2 x0))] [] z) : WM G l E S 187 [(0, .ref (E.2.2 x0)), (1, .int x1)] [] mm := by
  unfold jX8_tickGoes_187 at h
  refine x_iinc (v := x1 + 1) (lv' := [(1, .int (x1 + 1)), (0, .ref (E.2.2 x0))]) C (dq DX8_tickGoes 103 rfl) 1 rfl rfl (by decide) rfl ?_
  refine x_goto (tgt := 166) C (dq DX8_tickGoes 104 rfl) (by decide) ?_
  cases h
  exact x_lv [1, 0] rfl (kb (x1 + 1, mm) rfl)
set_option maxHeartbeats 1000000 in
theorem tX8_tickGoes_166 {G : Gt} {l : Launch} {E : Ev} {S : List Sh} {x0 : Nat} {x1 : Int32} {mm : Mm} {r : (Int32 × Mm) ⊕ (Mm)} (C : Cx G E cX8_tickGoes 3 RX8 none 3 69) (g0 : isC S x0 8) (h : bX8_tickGoes_166 S x0 x1 mm = some r) (kb : ∀ z : Int32 × Mm, r = .inl z → WM G l E S 166 [(0, .ref (E.2.2 x0)), (1, .int z.1)] [] z.2) (kx : ∀ z : Mm, r = .inr z → WM G l E S 193 [(0, .ref (E.2.2 x0))] [] z) : WM G l E S 166 [(0, .ref (E.2.2 x0)), (1, .int x1)] [] mm := by
  unfold bX8_tickGoes_166 at h
  refine x_iload_n C (dq DX8_tickGoes 92 rfl) rfl 1 rfl ?_
  refine x_aload_n C (dq DX8_tickGoes 93 rfl) rfl 0 rfl ?_
  refine callX8_251 C (dq DX8_tickGoes 94 rfl) h (by decide) (by decide) (Nat.le_of_ble_eq_true rfl) (fun a30 h => ?_)
  refine x_icmp_ge (tgt := 193) C (dq DX8_tickGoes 95 rfl) (by decide) h (fun h => ?_) (fun h => ?_)
  · cases h
    exact x_lv [0] rfl (kx (mm) rfl)
  · refine x_pc 174 rfl ?_
    refine x_aload_n C (dq DX8_tickGoes 96 rfl) rfl 0 rfl ?_
    refine x_iload_n C (dq DX8_tickGoes 97 rfl) rfl 1 rfl ?_
    refine callX8_283 C (dq DX8_tickGoes 98 rfl) h (by decide) (by decide) (Nat.le_of_ble_eq_true rfl) (fun a31 h => ?_)
    refine x_if_eq (tgt := 187) C (dq DX8_tickGoes 99 rfl) (by decide) h (fun h => ?_) (fun h => ?_)
    · exact x_lv [0, 1] rfl (tX8_tickGoes_187 C g0 h kb kx)
    · refine x_aload_n C (dq DX8_tickGoes 100 rfl) rfl 0 rfl ?_
      refine x_pc 183 rfl ?_
      refine x_iload_n C (dq DX8_tickGoes 101 rfl) rfl 1 rfl ?_
      refine callX8_307 C (dq DX8_tickGoes 102 rfl) h (by decide) (by decide) (Nat.le_of_ble_eq_true rfl) (fun m32 h => ?_)
      exact x_lv [0, 1] rfl (tX8_tickGoes_187 C g0 h kb kx)
set_option maxHeartbeats 1000000 in
theorem mX8_tickGoes {l : Launch} {E : Ev} {S : List Sh} {mm : Mm} {x0 : Nat} {r : Mm} (h : fX8_tickGoes S mm x0 = some r) : Ml l E S yX8_tickGoes cX8_tickGoes 3 none 3 69 [.ref (E.2.2 x0)] mm none r := by
  refine Ml.of (by decide +kernel) (Nat.le_of_ble_eq_true rfl) (fun G C hQ => ?_)
  have C : Cx G E cX8_tickGoes 3 RX8 none 3 69 := C
  unfold fX8_tickGoes at h
  obtain ⟨g0, h⟩ := gd_some h
  show WM G l E S 0 [(0, .ref (E.2.2 x0))] [] mm
  refine x_iconst (v := 0) C (dq DX8_tickGoes 0 rfl) (by decide) ?_
  refine x_istore_n (lv' := [(1, .int 0), (0, .ref (E.2.2 x0))]) C (dq DX8_tickGoes 1 rfl) rfl (by decide) rfl ?_
  refine x_lv [1, 0] rfl ?_
  refine x_loop (s0 := (0, mm)) (fun s8 => WM G l E S 2 [(0, .ref (E.2.2 x0)), (1, .int s8.1)] [] s8.2) h (fun s8 r hb kb kx => tX8_tickGoes_2 C g0 hb kb (fun y9 hy => ?_))
  have h := kx y9 hy
  clear kx kb hb hy
  refine x_aload_n C (dq DX8_tickGoes 37 rfl) rfl 0 rfl ?_
  refine callX8_286 C (dq DX8_tickGoes 38 rfl) h (by decide) (by decide) (Nat.le_of_ble_eq_true rfl) (fun m10 h => ?_)
  refine x_pc 67 rfl ?_
  refine x_iconst (v := 0) C (dq DX8_tickGoes 39 rfl) (by decide) ?_
  refine x_istore_n (lv' := [(1, .int 0), (0, .ref (E.2.2 x0))]) C (dq DX8_tickGoes 40 rfl) rfl (by decide) rfl ?_
  refine x_lv [1, 0] rfl ?_
  refine x_loop (s0 := (0, m10)) (fun s13 => WM G l E S 69 [(0, .ref (E.2.2 x0)), (1, .int s13.1)] [] s13.2) h (fun s13 r hb kb kx => tX8_tickGoes_69 C g0 hb kb (fun y14 hy => ?_))
  have h := kx y14 hy
  clear kx kb hb hy
  refine x_aload_n C (dq DX8_tickGoes 50 rfl) rfl 0 rfl ?_
  refine callX8_292 C (dq DX8_tickGoes 51 rfl) h (by decide) (by decide) (Nat.le_of_ble_eq_true rfl) (fun m15 h => ?_)
  refine x_aload_n C (dq DX8_tickGoes 52 rfl) rfl 0 rfl ?_
  refine x_pc 93 rfl ?_
  refine x_iconst (v := 0) C (dq DX8_tickGoes 53 rfl) (by decide) ?_
  refine putX8_277 C (dq DX8_tickGoes 54 rfl) g0 h (fun m16 h => ?_)
  refine x_iconst (v := 0) C (dq DX8_tickGoes 55 rfl) (by decide) ?_
  refine x_istore_n (lv' := [(1, .int 0), (0, .ref (E.2.2 x0))]) C (dq DX8_tickGoes 56 rfl) rfl (by decide) rfl ?_
  refine x_lv [1, 0] rfl ?_
  refine x_loop (s0 := (0, m16)) (fun s19 => WM G l E S 99 [(0, .ref (E.2.2 x0)), (1, .int s19.1)] [] s19.2) h (fun s19 r hb kb kx => tX8_tickGoes_99 C g0 hb kb (fun y20 hy => ?_))
  have h := kx y20 hy
  clear kx kb hb hy
  refine x_iconst (v := 0) C (dq DX8_tickGoes 66 rfl) (by decide) ?_
  refine x_pc 119 rfl ?_
  refine x_istore_n (lv' := [(1, .int 0), (0, .ref (E.2.2 x0))]) C (dq DX8_tickGoes 67 rfl) rfl (by decide) rfl ?_
  refine x_lv [1, 0] rfl ?_
  refine x_loop (s0 := (0, y20)) (fun s23 => WM G l E S 120 [(0, .ref (E.2.2 x0)), (1, .int s23.1)] [] s23.2) h (fun s23 r hb kb kx => tX8_tickGoes_120 C g0 hb kb (fun y24 hy => ?_))
  have h := kx y24 hy
  clear kx kb hb hy
  refine x_iconst (v := 0) C (dq DX8_tickGoes 77 rfl) (by decide) ?_
  refine x_istore_n (lv' := [(1, .int 0), (0, .ref (E.2.2 x0))]) C (dq DX8_tickGoes 78 rfl) rfl (by decide) rfl ?_
  refine x_lv [1, 0] rfl ?_
  refine x_loop (s0 := (0, y24)) (fun s27 => WM G l E S 141 [(0, .ref (E.2.2 x0)), (1, .int s27.1)] [] s27.2) h (fun s27 r hb kb kx => tX8_tickGoes_141 C g0 hb kb (fun y28 hy => ?_))
  have h := kx y28 hy
  clear kx kb hb hy
  refine x_aload_n C (dq DX8_tickGoes 88 rfl) rfl 0 rfl ?_
  refine callX8_304 C (dq DX8_tickGoes 89 rfl) h (by decide) (by decide) (Nat.le_of_ble_eq_true rfl) (fun m29 h => ?_)
  refine x_pc 164 rfl ?_
  refine x_iconst (v := 0) C (dq DX8_tickGoes 90 rfl) (by decide) ?_
  refine x_istore_n (lv' := [(1, .int 0), (0, .ref (E.2.2 x0))]) C (dq DX8_tickGoes 91 rfl) rfl (by decide) rfl ?_
  refine x_lv [1, 0] rfl ?_
  refine x_loop (s0 := (0, m29)) (fun s33 => WM G l E S 166 [(0, .ref (E.2.2 x0)), (1, .int s33.1)] [] s33.2) h (fun s33 r hb kb kx => tX8_tickGoes_166 C g0 hb kb (fun y34 hy => ?_))
  have h := kx y34 hy
  clear kx kb hb hy
  refine x_aload_n C (dq DX8_tickGoes 105 rfl) rfl 0 rfl ?_
  refine getX8_57 C (dq DX8_tickGoes 106 rfl) g0 ?_
  refine x_sipush (v := 336) C (dq DX8_tickGoes 107 rfl) (by decide) ?_
  refine x_pc 200 rfl ?_
  refine x_dup2 C (dq DX8_tickGoes 108 rfl) rfl rfl ?_
  refine x_iald C (dq DX8_tickGoes 109 rfl) h (fun a35 h => ?_)
  refine x_iconst (v := 1) C (dq DX8_tickGoes 110 rfl) (by decide) ?_
  refine x_iadd C (dq DX8_tickGoes 111 rfl) ?_
  refine x_iast C (dq DX8_tickGoes 112 rfl) h (fun m36 h => ?_)
  refine x_pc 205 rfl ?_
  cases h
  exact x_vret C (dq DX8_tickGoes 113 rfl) hQ
set_option maxHeartbeats 1000000 in
theorem qX8_tickGoes {S : List Sh} {mm : Mm} {x0 : Nat} {r : Mm} (h : fX8_tickGoes S mm x0 = some r) : isC S x0 8 := by
  unfold fX8_tickGoes at h
  exact (gd_some h).1
