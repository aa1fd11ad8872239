theorem getX5_82 {G : Gt} {l : Launch} {E : Ev} {S : List Sh} {cc : ByteArray} {nL : Nat} {rt : Option FieldType} {fr lo : Nat} {pc : Nat} {lv : List (Nat × Value)} {st : List Value} {mm : Mm} {o : Nat} (C : Cx G E cc nL RX5 rt fr lo) (d : decode cc pc = .ok (.getfield 82, 3)) (hg : isC S o 1) (k : WM G l E S (pc + 3) lv (.ref (E.2.2 (rf S mm o 7)) :: st) mm) : WM G l E S pc lv (.ref (E.2.2 o) :: st) mm := x_getN2 C hg (T := TX1) (N := 11) rfl inX1 (by decide) (i := 7) (host := "LosslessFabric") (nmem 202 (by decide +kernel) rfl) rfl rfl d k
theorem callX5_85 {G : Gt} {l : Launch} {E : Ev} {S : List Sh} {cc : ByteArray} {nL : Nat} {rt : Option FieldType} {fr lo : Nat} {pc : Nat} {lv : List (Nat × Value)} {rest : List Value} {mm : Mm} {x y : Int32} (C : Cx G E cc nL RX5 rt fr lo) (d : decode cc pc = .ok (.invokestatic 85, 3)) (h1 : 1 ≤ fr) (h2 : (rest.map fun v => v.category).sum + 13 ≤ lo) (k : WM G l E S (pc + 3) lv (.int (if x < y then y else x) :: rest) mm) : WM G l E S pc lv (.int y :: .int x :: rest) mm := x_mmax C d (gmem 468 (by decide +kernel) rfl) (gmem 469 (by decide +kernel) rfl) (gmem 10 (by decide +kernel) rfl) (gmem 470 (by decide +kernel) rfl) h1 h2 k
abbrev eX5_arrive : List (Nat × Instr × Nat) := [(0, .iload_n 3, 1), (1, .bipush 8, 2), (3, .imul, 1), (4, .istore 4, 2), (6, .iconst 0, 1), (7, .istore 5, 2), (9, .iload 5, 2), (11, .aload_n 1, 1), (12, .getfield 21, 3), (15, .if_icmp .ge 168, 3), (18, .aload_n 0, 1), (19, .getfield 9, 3), (22, .iload 4, 2), (24, .iload 5, 2), (26, .iadd, 1), (27, .iaload, 1), (28, .istore 6, 2), (30, .iload 6, 2), (32, .ifCond .le 44, 3), (35, .aload_n 1, 1), (36, .getfield 82, 3), (39, .iload 4, 2), (41, .iload 5, 2), (43, .iadd, 1), (44, .iaload, 1), (45, .iconst (-1), 1), (46, .if_icmp .ne 30, 3), (49, .aload_n 2, 1), (50, .sipush 240, 3), (53, .iload 5, 2), (55, .iadd, 1), (56, .dup2, 1), (57, .iaload, 1), (58, .iload 6, 2), (60, .iadd, 1), (61, .iastore, 1), (62, .aload_n 0, 1), (63, .getfield 9, 3), (66, .iload 4, 2), (68, .iload 5, 2), (70, .iadd, 1), (71, .iconst 0, 1), (72, .iastore, 1), (73, .goto 104, 3), (76, .iload 6, 2), (78, .ifCond .le 99, 3), (81, .iconst 0, 1), (82, .aload_n 2, 1), (83, .bipush 20, 2), (85, .iload_n 3, 1), (86, .iadd, 1), (87, .iaload, 1), (88, .aload_n 2, 1), (89, .bipush 30, 2), (91, .iload_n 3, 1), (92, .iadd, 1), (93, .iaload, 1), (94, .isub, 1), (95, .invokestatic 85, 3), (98, .istore 7, 2), (100, .iload 6, 2), (102, .iload 7, 2), (104, .invokestatic 27, 3), (107, .istore 8, 2), (109, .aload_n 2, 1), (110, .bipush 120, 2), (112, .iload 4, 2), (114, .iadd, 1), (115, .iload 5, 2), (117, .iadd, 1), (118, .dup2, 1), (119, .iaload, 1), (120, .iload 8, 2), (122, .iadd, 1), (123, .iastore, 1), (124, .aload_n 2, 1), (125, .bipush 30, 2), (127, .iload_n 3, 1), (128, .iadd, 1), (129, .dup2, 1), (130, .iaload, 1), (131, .iload 8, 2), (133, .iadd, 1), (134, .iastore, 1), (135, .aload_n 2, 1), (136, .bipush 50, 2), (138, .iload_n 3, 1), (139, .iadd, 1), (140, .dup2, 1), (141, .iaload, 1), (142, .iload 6, 2), (144, .iload 8, 2), (146, .isub, 1), (147, .iadd, 1), (148, .iastore, 1), (149, .aload_n 2, 1), (150, .sipush 248, 3), (153, .iload 5, 2), (155, .iadd, 1), (156, .dup2, 1), (157, .iaload, 1), (158, .iload 6, 2), (160, .iload 8, 2), (162, .isub, 1), (163, .iadd, 1), (164, .iastore, 1), (165, .aload_n 0, 1), (166, .getfield 9, 3), (169, .iload 4, 2), (171, .iload 5, 2), (173, .iadd, 1), (174, .iload 8, 2), (176, .iastore, 1), (177, .iinc 5 1, 3), (180, .goto (-171), 3), (183, .aload_n 2, 1), (184, .bipush 60, 2), (186, .iload_n 3, 1), (187, .iadd, 1), (188, .aload_n 2, 1), (189, .bipush 60, 2), (191, .iload_n 3, 1), (192, .iadd, 1), (193, .iaload, 1), (194, .aload_n 2, 1), (195, .bipush 30, 2), (197, .iload_n 3, 1), (198, .iadd, 1), (199, .iaload, 1), (200, .invokestatic 85, 3), (203, .iastore, 1), (204, .return_, 1)]
theorem DX5_arrive : (eX5_arrive.all fun q => decide (decode cX5_arrive q.1 = .ok q.2)) = true := by decide +kernel
def jX5_arrive_177 (S : List Sh) (mm : Mm) (x0 : Nat) (x1 : Nat) (x2 : Nat) (x3 : Int32) (x4 : Int32) (x5 : Int32)  : Option ((Int32 × Mm) ⊕ (Mm)) := some (.inl (x5 + 1, mm))
def jX5_arrive_76 (S : List Sh) (mm : Mm) (x0 : Nat) (x1 : Nat) (x2 : Nat) (x3 : Int32) (x4 : Int32) (x5 : Int32) (x6 : Int32)  : Option ((Int32 × Mm) ⊕ (Mm)) := if x6 ≤ 0 then (jX5_arrive_177 S mm x0 x1 x2 x3 x4 x5) else (bd1 (ldA S 0 mm x2 (20 + x3)) fun a2 => bd1 (ldA S 0 mm x2 (30 + x3)) fun a3 => bd1 (ldA S 0 mm x2 ((120 + x4) + x5)) fun a4 => bd1 (stA S 0 mm x2 ((120 + x4) + x5) (a4 + (if (if (0 : Int32) < (a2 - a3) then (a2 - a3) else 0) < x6 then (if (0 : Int32) < (a2 - a3) then (a2 - a3) else 0) else x6))) fun m5 => bd1 (ldA S 0 m5 x2 (30 + x3)) fun a6 => bd1 (stA S 0 m5 x2 (30 + x3) (a6 + (if (if (0 : Int32) < (a2 - a3) then (a2 - a3) else 0) < x6 then (if (0 : Int32) < (a2 - a3) then (a2 - a3) else 0) else x6))) fun m7 => bd1 (ldA S 0 m7 x2 (50 + x3)) fun a8 => bd1 (stA S 0 m7 x2 (50 + x3) (a8 + (x6 - (if (if (0 : Int32) < (a2 - a3) then (a2 - a3) else 0) < x6 then (if (0 : Int32) < (a2 - a3) then (a2 - a3) else 0) else x6)))) fun m9 => bd1 (ldA S 0 m9 x2 (248 + x5)) fun a10 => bd1 (stA S 0 m9 x2 (248 + x5) (a10 + (x6 - (if (if (0 : Int32) < (a2 - a3) then (a2 - a3) else 0) < x6 then (if (0 : Int32) < (a2 - a3) then (a2 - a3) else 0) else x6)))) fun m11 => bd1 (stA S 0 m11 (rf S m11 x0 0) (x4 + x5) (if (if (0 : Int32) < (a2 - a3) then (a2 - a3) else 0) < x6 then (if (0 : Int32) < (a2 - a3) then (a2 - a3) else 0) else x6)) fun m12 => jX5_arrive_177 S m12 x0 x1 x2 x3 x4 x5)
def bX5_arrive_9 (S : List Sh) (x0 : Nat) (x1 : Nat) (x2 : Nat) (x3 : Int32) (x4 : Int32) (x5 : Int32) (mm : Mm) : Option ((Int32 × Mm) ⊕ (Mm)) := if (mm.1 x1 10) ≤ x5 then (some (.inr (mm))) else (bd1 (ldA S 0 mm (rf S mm x0 0) (x4 + x5)) fun a1 => if a1 ≤ 0 then (jX5_arrive_76 S mm x0 x1 x2 x3 x4 x5 a1) else (bd1 (ldA S 0 mm (rf S mm x1 7) (x4 + x5)) fun a13 => if ¬ a13 = (-1) then (jX5_arrive_76 S mm x0 x1 x2 x3 x4 x5 a1) else (bd1 (ldA S 0 mm x2 (240 + x5)) fun a14 => bd1 (stA S 0 mm x2 (240 + x5) (a14 + a1)) fun m15 => bd1 (stA S 0 m15 (rf S m15 x0 0) (x4 + x5) 0) fun m16 => jX5_arrive_177 S m16 x0 x1 x2 x3 x4 x5)))
def fX5_arrive (S : List Sh) (mm : Mm) (x0 : Nat) (x1 : Nat) (x2 : Nat) (x3 : Int32) : Option (Mm) := gd S x0 5 (gd S x1 1 (bd1 (lp (fun s17 => bX5_arrive_9 S x0 x1 x2 x3 (x3 * 8) s17.1 s17.2) fu (0, mm)) fun y18 => bd1 (ldA S 0 y18 x2 (60 + x3)) fun a19 => bd1 (ldA S 0 y18 x2 (30 + x3)) fun a20 => bd1 (stA S 0 y18 x2 (60 + x3) (if a19 < a20 then a20 else a19)) fun m21 => some m21))
set_option maxHeartbeats 1000000 in
theorem tX5_arrive_177 {G : Gt} {l : Launch} {E : Ev} {S : List Sh} {mm : Mm} {x0 : Nat} {x1 : Nat} {x2 : Nat} {x3 : Int32} {x4 : Int32} {x5 : Int32}  {r : (Int32 × Mm) ⊕ (Mm)} (C : Cx G E cX5_arrive 9 RX5 none 1 29) (g0 : isC S x0 5) (g1 : isC S x1 1) (h : jX5_arrive_177 S mm x0 x1 x2 x3 x4 x5 = some r) (kb : ∀ z : Int32 × Mm, r = .inl z → WM G l E S 9 [(0, .ref (E.2.2 x0)), (1, .ref (E.2.2 x1)), (2, .ref (E.2.2 x2)), (3, .int x3), (4, .int x4), (5, .int z.1)] [] z.2) (kx : ∀ z : Mm, r = .inr z → WM G l E S 183 [(0, .ref (E.2.2 x0)), (1, .ref (E.2.2 x1)), (2, .ref (E.2.2 x2)), (3, .int x3), (4, .int x4)] [] z) : WM G l E S 177 [(0, .ref (E.2.2 x0)), (1, .ref (E.2.2 x1)), (2, .ref (E.2.2 x2)), (3, .int x3), (4, .int x4), (5, .int x5)] [] mm := by
  unfold jX5_arrive_177 at h
  refine x_iinc (v := x5 + 1) (lv' := [(5, .int (x5 + 1)), (0, .ref (E.2.2 x0)), (1, .ref (E.2.2 x1)), (2, .ref (E.2.2 x2)), (3, .int x3), (4, .int x4)]) C (dq DX5_arrive 113 rfl) 5 rfl rfl (by decide) rfl ?_
  refine x_goto (tgt := 9) C (dq DX5_arrive 114 rfl) (by decide) ?_
  cases h
  exact x_lv [1, 2, 3, 4, 5, 0] rfl (kb (x5 + 1, mm) rfl)
set_option maxHeartbeats 1000000 in
theorem tX5_arrive_76 {G : Gt} {l : Launch} {E : Ev} {S : List Sh} {mm : Mm} {x0 : Nat} {x1 : Nat} {x2 : Nat} {x3 : Int32} {x4 : Int32} {x5 : Int32} {x6 : Int32}  {r : (Int32 × Mm) ⊕ (Mm)} (C : Cx G E cX5_arrive 9 RX5 none 1 29) (g0 : isC S x0 5) (g1 : isC S x1 1) (h : jX5_arrive_76 S mm x0 x1 x2 x3 x4 x5 x6 = some r) (kb : ∀ z : Int32 × Mm, r = .inl z → WM G l E S 9 [(0, .ref (E.2.2 x0)), (1, .ref (E.2.2 x1)), (2, .ref (E.2.2 x2)), (3, .int x3), (4, .int x4), (5, .int z.1)] [] z.2) (kx : ∀ z : Mm, r = .inr z → WM G l E S 183 [(0, .ref (E.2.2 x0)), (1, .ref (E.2.2 x1)), (2, .ref (E.2.2 x2)), (3, .int x3), (4, .int x4)] [] z) : WM G l E S 76 [(0, .ref (E.2.2 x0)), (1, .ref (E.2.2 x1)), (2, .ref (E.2.2 x2)), (3, .int x3), (4, .int x4), (5, .int x5), (6, .int x6)] [] mm := by
  unfold jX5_arrive_76 at h
  refine x_iload C (dq DX5_arrive 44 rfl) 6 rfl ?_
  refine x_if_le (tgt := 177) C (dq DX5_arrive 45 rfl) (by decide) h (fun h => ?_) (fun h => ?_)
  · exact x_lv [0, 1, 2, 3, 4, 5] rfl (tX5_arrive_177 C g0 g1 h kb kx)
  · refine x_iconst (v := 0) C (dq DX5_arrive 46 rfl) (by decide) ?_
    refine x_aload_n C (dq DX5_arrive 47 rfl) rfl 2 rfl ?_
    refine x_pc 83 rfl ?_
    refine x_bipush (v := 20) C (dq DX5_arrive 48 rfl) (by decide) ?_
    refine x_iload_n C (dq DX5_arrive 49 rfl) rfl 3 rfl ?_
    refine x_iadd C (dq DX5_arrive 50 rfl) ?_
    refine x_iald C (dq DX5_arrive 51 rfl) h (fun a2 h => ?_)
    refine x_aload_n C (dq DX5_arrive 52 rfl) rfl 2 rfl ?_
    refine x_pc 89 rfl ?_
    refine x_bipush (v := 30) C (dq DX5_arrive 53 rfl) (by decide) ?_
    refine x_iload_n C (dq DX5_arrive 54 rfl) rfl 3 rfl ?_
    refine x_iadd C (dq DX5_arrive 55 rfl) ?_
    refine x_iald C (dq DX5_arrive 56 rfl) h (fun a3 h => ?_)
    refine x_isub C (dq DX5_arrive 57 rfl) ?_
    refine x_pc 95 rfl ?_
    refine callX5_85 C (dq DX5_arrive 58 rfl) (by decide) (Nat.le_of_ble_eq_true rfl) ?_
    refine x_istore (lv' := [(7, .int (if (0 : Int32) < (a2 - a3) then (a2 - a3) else 0)), (0, .ref (E.2.2 x0)), (1, .ref (E.2.2 x1)), (2, .ref (E.2.2 x2)), (3, .int x3), (4, .int x4), (5, .int x5), (6, .int x6)]) C (dq DX5_arrive 59 rfl) (by decide) rfl ?_
    refine x_iload C (dq DX5_arrive 60 rfl) 7 rfl ?_
    refine x_iload C (dq DX5_arrive 61 rfl) 0 rfl ?_
    refine callX5_27 C (dq DX5_arrive 62 rfl) (by decide) (Nat.le_of_ble_eq_true rfl) ?_
    refine x_pc 107 rfl ?_
    refine x_istore (lv' := [(8, .int (if (if (0 : Int32) < (a2 - a3) then (a2 - a3) else 0) < x6 then (if (0 : Int32) < (a2 - a3) then (a2 - a3) else 0) else x6)), (7, .int (if (0 : Int32) < (a2 - a3) then (a2 - a3) else 0)), (0, .ref (E.2.2 x0)), (1, .ref (E.2.2 x1)), (2, .ref (E.2.2 x2)), (3, .int x3), (4, .int x4), (5, .int x5), (6, .int x6)]) C (dq DX5_arrive 63 rfl) (by decide) rfl ?_
    refine x_aload_n C (dq DX5_arrive 64 rfl) rfl 4 rfl ?_
    refine x_bipush (v := 120) C (dq DX5_arrive 65 rfl) (by decide) ?_
    refine x_iload C (dq DX5_arrive 66 rfl) 6 rfl ?_
    refine x_iadd C (dq DX5_arrive 67 rfl) ?_
    refine x_pc 115 rfl ?_
    refine x_iload C (dq DX5_arrive 68 rfl) 7 rfl ?_
    refine x_iadd C (dq DX5_arrive 69 rfl) ?_
    refine x_dup2 C (dq DX5_arrive 70 rfl) rfl rfl ?_
    refine x_iald C (dq DX5_arrive 71 rfl) h (fun a4 h => ?_)
    refine x_iload C (dq DX5_arrive 72 rfl) 0 rfl ?_
    refine x_pc 122 rfl ?_
    refine x_iadd C (dq DX5_arrive 73 rfl) ?_
    refine x_iast C (dq DX5_arrive 74 rfl) h (fun m5 h => ?_)
    refine x_aload_n C (dq DX5_arrive 75 rfl) rfl 4 rfl ?_
    refine x_bipush (v := 30) C (dq DX5_arrive 76 rfl) (by decide) ?_
    refine x_iload_n C (dq DX5_arrive 77 rfl) rfl 5 rfl ?_
    refine x_pc 128 rfl ?_
    refine x_iadd C (dq DX5_arrive 78 rfl) ?_
    refine x_dup2 C (dq DX5_arrive 79 rfl) rfl rfl ?_
    refine x_iald C (dq DX5_arrive 80 rfl) h (fun a6 h => ?_)
    refine x_iload C (dq DX5_arrive 81 rfl) 0 rfl ?_
    refine x_iadd C (dq DX5_arrive 82 rfl) ?_
    refine x_pc 134 rfl ?_
    refine x_iast C (dq DX5_arrive 83 rfl) h (fun m7 h => ?_)
    refine x_aload_n C (dq DX5_arrive 84 rfl) rfl 4 rfl ?_
    refine x_bipush (v := 50) C (dq DX5_arrive 85 rfl) (by decide) ?_
    refine x_iload_n C (dq DX5_arrive 86 rfl) rfl 5 rfl ?_
    refine x_iadd C (dq DX5_arrive 87 rfl) ?_
    refine x_pc 140 rfl ?_
    refine x_dup2 C (dq DX5_arrive 88 rfl) rfl rfl ?_
    refine x_iald C (dq DX5_arrive 89 rfl) h (fun a8 h => ?_)
    refine x_iload C (dq DX5_arrive 90 rfl) 8 rfl ?_
    refine x_iload C (dq DX5_arrive 91 rfl) 0 rfl ?_
    refine x_isub C (dq DX5_arrive 92 rfl) ?_
    refine x_pc 147 rfl ?_
    refine x_iadd C (dq DX5_arrive 93 rfl) ?_
    refine x_iast C (dq DX5_arrive 94 rfl) h (fun m9 h => ?_)
    refine x_aload_n C (dq DX5_arrive 95 rfl) rfl 4 rfl ?_
    refine x_sipush (v := 248) C (dq DX5_arrive 96 rfl) (by decide) ?_
    refine x_iload C (dq DX5_arrive 97 rfl) 7 rfl ?_
    refine x_pc 155 rfl ?_
    refine x_iadd C (dq DX5_arrive 98 rfl) ?_
    refine x_dup2 C (dq DX5_arrive 99 rfl) rfl rfl ?_
    refine x_iald C (dq DX5_arrive 100 rfl) h (fun a10 h => ?_)
    refine x_iload C (dq DX5_arrive 101 rfl) 8 rfl ?_
    refine x_iload C (dq DX5_arrive 102 rfl) 0 rfl ?_
    refine x_pc 162 rfl ?_
    refine x_isub C (dq DX5_arrive 103 rfl) ?_
    refine x_iadd C (dq DX5_arrive 104 rfl) ?_
    refine x_iast C (dq DX5_arrive 105 rfl) h (fun m11 h => ?_)
    refine x_aload_n C (dq DX5_arrive 106 rfl) rfl 2 rfl ?_
    refine getX5_9 C (dq DX5_arrive 107 rfl) g0 ?_
    refine x_pc 169 rfl ?_
    refine x_iload C (dq DX5_arrive 108 rfl) 6 rfl ?_
    refine x_iload C (dq DX5_arrive 109 rfl) 7 rfl ?_
    refine x_iadd C (dq DX5_arrive 110 rfl) ?_
    refine x_iload C (dq DX5_arrive 111 rfl) 0 rfl ?_
    refine x_iast C (dq DX5_arrive 112 rfl) h (fun m12 h => ?_)
    exact x_lv [2, 3, 4, 5, 6, 7] rfl (tX5_arrive_177 C g0 g1 h kb kx)
set_option maxHeartbeats 1000000 in
theorem tX5_arrive_9 {G : Gt} {l : Launch} {E : Ev} {S : List Sh} {x0 : Nat} {x1 : Nat} {x2 : Nat} {x3 : Int32} {x4 : Int32} {x5 : Int32} {mm : Mm} {r : (Int32 × Mm) ⊕ (Mm)} (C : Cx G E cX5_arrive 9 RX5 none 1 29) (g0 : isC S x0 5) (g1 : isC S x1 1) (h : bX5_arrive_9 S x0 x1 x2 x3 x4 x5 mm = some r) (kb : ∀ z : Int32 × Mm, r = .inl z → WM G l E S 9 [(0, .ref (E.2.2 x0)), (1, .ref (E.2.2 x1)), (2, .ref (E.2.2 x2)), (3, .int x3), (4, .int x4), (5, .int z.1)] [] z.2) (kx : ∀ z : Mm, r = .inr z → WM G l E S 183 [(0, .ref (E.2.2 x0)), (1, .ref (E.2.2 x1)), (2, .ref (E.2.2 x2)), (3, .int x3), (4, .int x4)] [] z) : WM G l E S 9 [(0, .ref (E.2.2 x0)), (1, .ref (E.2.2 x1)), (2, .ref (E.2.2 x2)), (3, .int x3), (4, .int x4), (5, .int x5)] [] mm := by
  unfold bX5_arrive_9 at h
  refine x_iload C (dq DX5_arrive 6 rfl) 5 rfl ?_
  refine x_aload_n C (dq DX5_arrive 7 rfl) rfl 1 rfl ?_
  refine getX5_21 C (dq DX5_arrive 8 rfl) g1 ?_
  refine x_icmp_ge (tgt := 183) C (dq DX5_arrive 9 rfl) (by decide) h (fun h => ?_) (fun h => ?_)
  · cases h
    exact x_lv [0, 1, 2, 3, 4] rfl (kx (mm) rfl)
  · refine x_pc 18 rfl ?_
    refine x_aload_n C (dq DX5_arrive 10 rfl) rfl 0 rfl ?_
    refine getX5_9 C (dq DX5_arrive 11 rfl) g0 ?_
    refine x_iload C (dq DX5_arrive 12 rfl) 4 rfl ?_
    refine x_iload C (dq DX5_arrive 13 rfl) 5 rfl ?_
    refine x_iadd C (dq DX5_arrive 14 rfl) ?_
    refine x_pc 27 rfl ?_
    refine x_iald C (dq DX5_arrive 15 rfl) h (fun a1 h => ?_)
    refine x_istore (lv' := [(6, .int a1), (0, .ref (E.2.2 x0)), (1, .ref (E.2.2 x1)), (2, .ref (E.2.2 x2)), (3, .int x3), (4, .int x4), (5, .int x5)]) C (dq DX5_arrive 16 rfl) (by decide) rfl ?_
    refine x_iload C (dq DX5_arrive 17 rfl) 0 rfl ?_
    refine x_if_le (tgt := 76) C (dq DX5_arrive 18 rfl) (by decide) h (fun h => ?_) (fun h => ?_)
    · exact x_lv [1, 2, 3, 4, 5, 6, 0] rfl (tX5_arrive_76 C g0 g1 h kb kx)
    · refine x_aload_n C (dq DX5_arrive 19 rfl) rfl 2 rfl ?_
      refine x_pc 36 rfl ?_
      refine getX5_82 C (dq DX5_arrive 20 rfl) g1 ?_
      refine x_iload C (dq DX5_arrive 21 rfl) 5 rfl ?_
      refine x_iload C (dq DX5_arrive 22 rfl) 6 rfl ?_
      refine x_iadd C (dq DX5_arrive 23 rfl) ?_
      refine x_iald C (dq DX5_arrive 24 rfl) h (fun a13 h => ?_)
      refine x_pc 45 rfl ?_
      refine x_iconst (v := (-1)) C (dq DX5_arrive 25 rfl) (by decide) ?_
      refine x_icmp_ne (tgt := 76) C (dq DX5_arrive 26 rfl) (by decide) h (fun h => ?_) (fun h => ?_)
      · exact x_lv [1, 2, 3, 4, 5, 6, 0] rfl (tX5_arrive_76 C g0 g1 h kb kx)
      · refine x_aload_n C (dq DX5_arrive 27 rfl) rfl 3 rfl ?_
        refine x_sipush (v := 240) C (dq DX5_arrive 28 rfl) (by decide) ?_
        refine x_iload C (dq DX5_arrive 29 rfl) 6 rfl ?_
        refine x_pc 55 rfl ?_
        refine x_iadd C (dq DX5_arrive 30 rfl) ?_
        refine x_dup2 C (dq DX5_arrive 31 rfl) rfl rfl ?_
        refine x_iald C (dq DX5_arrive 32 rfl) h (fun a14 h => ?_)
        refine x_iload C (dq DX5_arrive 33 rfl) 0 rfl ?_
        refine x_iadd C (dq DX5_arrive 34 rfl) ?_
        refine x_pc 61 rfl ?_
        refine x_iast C (dq DX5_arrive 35 rfl) h (fun m15 h => ?_)
        refine x_aload_n C (dq DX5_arrive 36 rfl) rfl 1 rfl ?_
        refine getX5_9 C (dq DX5_arrive 37 rfl) g0 ?_
        refine x_iload C (dq DX5_arrive 38 rfl) 5 rfl ?_
        refine x_iload C (dq DX5_arrive 39 rfl) 6 rfl ?_
        refine x_pc 70 rfl ?_
        refine x_iadd C (dq DX5_arrive 40 rfl) ?_
        refine x_iconst (v := 0) C (dq DX5_arrive 41 rfl) (by decide) ?_
        refine x_iast C (dq DX5_arrive 42 rfl) h (fun m16 h => ?_)
        refine x_goto (tgt := 177) C (dq DX5_arrive 43 rfl) (by decide) ?_
        exact x_lv [1, 2, 3, 4, 5, 6] rfl (tX5_arrive_177 C g0 g1 h kb kx)
set_option maxHeartbeats 1000000 in
theorem mX5_arrive {l : Launch} {E : Ev} {S : List Sh} {mm : Mm} {x0 : Nat} {x1 : Nat} {x2 : Nat} {x3 : Int32} {r : Mm} (h : fX5_arrive S mm x0 x1 x2 x3 = some r) : Ml l E S yX5_arrive cX5_arrive 9 none 1 29 [.ref (E.2.2 x0), .ref (E.2.2 x1), .ref (E.2.2 x2), .int x3] mm none r := by
  refine Ml.of (by decide +kernel) (Nat.le_of_ble_eq_true rfl) (fun G C hQ => ?_)
  have C : Cx G E cX5_arrive 9 RX5 none 1 29 := C
  unfold fX5_arrive at h
  obtain ⟨g0, h⟩ := gd_some h
  obtain ⟨g1, h⟩ := gd_some h
  show WM G l E S 0 [(0, .ref (E.2.2 x0)), (1, .ref (E.2.2 x1)), (2, .ref (E.2.2 x2)), (3, .int x3)] [] mm
  refine x_iload_n C (dq DX5_arrive 0 rfl) rfl 3 rfl ?_
  refine x_bipush (v := 8) C (dq DX5_arrive 1 rfl) (by decide) ?_
  refine x_imul C (dq DX5_arrive 2 rfl) ?_
  refine x_istore (lv' := [(4, .int (x3 * 8)), (0, .ref (E.2.2 x0)), (1, .ref (E.2.2 x1)), (2, .ref (E.2.2 x2)), (3, .int x3)]) C (dq DX5_arrive 3 rfl) (by decide) rfl ?_
  refine x_pc 6 rfl ?_
  refine x_iconst (v := 0) C (dq DX5_arrive 4 rfl) (by decide) ?_
  refine x_istore (lv' := [(5, .int 0), (4, .int (x3 * 8)), (0, .ref (E.2.2 x0)), (1, .ref (E.2.2 x1)), (2, .ref (E.2.2 x2)), (3, .int x3)]) C (dq DX5_arrive 5 rfl) (by decide) rfl ?_
  refine x_lv [2, 3, 4, 5, 1, 0] rfl ?_
  refine x_loop (s0 := (0, mm)) (fun s17 => WM G l E S 9 [(0, .ref (E.2.2 x0)), (1, .ref (E.2.2 x1)), (2, .ref (E.2.2 x2)), (3, .int x3), (4, .int (x3 * 8)), (5, .int s17.1)] [] s17.2) h (fun s17 r hb kb kx => tX5_arrive_9 C g0 g1 hb kb (fun y18 hy => ?_))
  have h := kx y18 hy
  clear kx kb hb hy
  refine x_aload_n C (dq DX5_arrive 115 rfl) rfl 2 rfl ?_
  refine x_bipush (v := 60) C (dq DX5_arrive 116 rfl) (by decide) ?_
  refine x_iload_n C (dq DX5_arrive 117 rfl) rfl 3 rfl ?_
  refine x_pc 187 rfl ?_
  refine x_iadd C (dq DX5_arrive 118 rfl) ?_
  refine x_aload_n C (dq DX5_arrive 119 rfl) rfl 2 rfl ?_
  refine x_bipush (v := 60) C (dq DX5_arrive 120 rfl) (by decide) ?_
  refine x_iload_n C (dq DX5_arrive 121 rfl) rfl 3 rfl ?_
  refine x_iadd C (dq DX5_arrive 122 rfl) ?_
  refine x_pc 193 rfl ?_
  refine x_iald C (dq DX5_arrive 123 rfl) h (fun a19 h => ?_)
  refine x_aload_n C (dq DX5_arrive 124 rfl) rfl 2 rfl ?_
  refine x_bipush (v := 30) C (dq DX5_arrive 125 rfl) (by decide) ?_
  refine x_iload_n C (dq DX5_arrive 126 rfl) rfl 3 rfl ?_
  refine x_iadd C (dq DX5_arrive 127 rfl) ?_
  refine x_pc 199 rfl ?_
  refine x_iald C (dq DX5_arrive 128 rfl) h (fun a20 h => ?_)
  refine callX5_85 C (dq DX5_arrive 129 rfl) (by decide) (Nat.le_of_ble_eq_true rfl) ?_
  refine x_iast C (dq DX5_arrive 130 rfl) h (fun m21 h => ?_)
  cases h
  exact x_vret C (dq DX5_arrive 131 rfl) hQ
set_option maxHeartbeats 1000000 in
theorem qX5_arrive {S : List Sh} {mm : Mm} {x0 : Nat} {x1 : Nat} {x2 : Nat} {x3 : Int32} {r : Mm} (h : fX5_arrive S mm x0 x1 x2 x3 = some r) : isC S x0 5 := by
  unfold fX5_arrive at h
  exact (gd_some h).1
abbrev eX5_ask : List (Nat × Instr × Nat) := [(0, .aload_n 0, 1), (1, .bipush 40, 2), (3, .iload_n 1, 1), (4, .iadd, 1), (5, .iaload, 1), (6, .iconst 1, 1), (7, .iand, 1), (8, .istore_n 2, 1), (9, .aload_n 0, 1), (10, .bipush 30, 2), (12, .iload_n 1, 1), (13, .iadd, 1), (14, .iaload, 1), (15, .aload_n 0, 1), (16, .iconst 0, 1), (17, .iload_n 1, 1), (18, .iadd, 1), (19, .iaload, 1), (20, .if_icmp .lt 8, 3), (23, .iconst 1, 1), (24, .istore_n 2, 1), (25, .goto 20, 3), (28, .aload_n 0, 1), (29, .bipush 30, 2), (31, .iload_n 1, 1), (32, .iadd, 1), (33, .iaload, 1), (34, .aload_n 0, 1), (35, .bipush 10, 2), (37, .iload_n 1, 1), (38, .iadd, 1), (39, .iaload, 1), (40, .if_icmp .gt 5, 3), (43, .iconst 0, 1), (44, .istore_n 2, 1), (45, .aload_n 0, 1), (46, .bipush 40, 2), (48, .iload_n 1, 1), (49, .iadd, 1), (50, .aload_n 0, 1), (51, .bipush 40, 2), (53, .iload_n 1, 1), (54, .iadd, 1), (55, .iaload, 1), (56, .iconst 1, 1), (57, .ishl, 1), (58, .iload_n 2, 1), (59, .ior, 1), (60, .bipush 31, 2), (62, .iand, 1), (63, .iastore, 1), (64, .return_, 1)]
theorem DX5_ask : (eX5_ask.all fun q => decide (decode cX5_ask q.1 = .ok q.2)) = true := by decide +kernel
def jX5_ask_45 (S : List Sh) (mm : Mm) (x0 : Nat) (x1 : Int32) (x2 : Int32)  : Option (Mm) := bd1 (ldA S 0 mm x0 (40 + x1)) fun a6 => bd1 (stA S 0 mm x0 (40 + x1) (((a6 <<< (1 &&& 31)) ||| x2) &&& 31)) fun m7 => some m7
def fX5_ask (S : List Sh) (mm : Mm) (x0 : Nat) (x1 : Int32) : Option (Mm) := bd1 (ldA S 0 mm x0 (40 + x1)) fun a1 => bd1 (ldA S 0 mm x0 (30 + x1)) fun a2 => bd1 (ldA S 0 mm x0 (0 + x1)) fun a3 => if a2 < a3 then (bd1 (ldA S 0 mm x0 (30 + x1)) fun a4 => bd1 (ldA S 0 mm x0 (10 + x1)) fun a5 => if a5 < a4 then (jX5_ask_45 S mm x0 x1 (a1 &&& 1)) else (jX5_ask_45 S mm x0 x1 0)) else (jX5_ask_45 S mm x0 x1 1)
set_option maxHeartbeats 1000000 in
theorem tX5_ask_45 {G : Gt} {l : Launch} {E : Ev} {S : List Sh} {mm : Mm} {x0 : Nat} {x1 : Int32} {x2 : Int32}  {r : Mm} (C : Cx G E cX5_ask 3 RX5 none 0 0)  (h : jX5_ask_45 S mm x0 x1 x2 = some r) (hQ : RQ G E S none r) : WM G l E S 45 [(0, .ref (E.2.2 x0)), (1, .int x1), (2, .int x2)] [] mm := by
  unfold jX5_ask_45 at h
  refine x_aload_n C (dq DX5_ask 35 rfl) rfl 0 rfl ?_
  refine x_bipush (v := 40) C (dq DX5_ask 36 rfl) (by decide) ?_
  refine x_iload_n C (dq DX5_ask 37 rfl) rfl 1 rfl ?_
  refine x_iadd C (dq DX5_ask 38 rfl) ?_
  refine x_pc 50 rfl ?_
  refine x_aload_n C (dq DX5_ask 39 rfl) rfl 0 rfl ?_
  refine x_bipush (v := 40) C (dq DX5_ask 40 rfl) (by decide) ?_
  refine x_iload_n C (dq DX5_ask 41 rfl) rfl 1 rfl ?_
  refine x_iadd C (dq DX5_ask 42 rfl) ?_
  refine x_iald C (dq DX5_ask 43 rfl) h (fun a6 h => ?_)
  refine x_pc 56 rfl ?_
  refine x_iconst (v := 1) C (dq DX5_ask 44 rfl) (by decide) ?_
  refine x_ishl C (dq DX5_ask 45 rfl) ?_
  refine x_iload_n C (dq DX5_ask 46 rfl) rfl 2 rfl ?_
  refine x_ior C (dq DX5_ask 47 rfl) ?_
  refine x_bipush (v := 31) C (dq DX5_ask 48 rfl) (by decide) ?_
  refine x_pc 62 rfl ?_
  refine x_iand C (dq DX5_ask 49 rfl) ?_
  refine x_iast C (dq DX5_ask 50 rfl) h (fun m7 h => ?_)
  cases h
  exact x_vret C (dq DX5_ask 51 rfl) hQ
set_option maxHeartbeats 1000000 in
theorem mX5_ask {l : Launch} {E : Ev} {S : List Sh} {mm : Mm} {x0 : Nat} {x1 : Int32} {r : Mm} (h : fX5_ask S mm x0 x1 = some r) : Ml l E S yX5_ask cX5_ask 3 none 0 0 [.ref (E.2.2 x0), .int x1] mm none r := by
  refine Ml.of (by decide +kernel) (Nat.le_of_ble_eq_true rfl) (fun G C hQ => ?_)
  have C : Cx G E cX5_ask 3 RX5 none 0 0 := C
  unfold fX5_ask at h
  show WM G l E S 0 [(0, .ref (E.2.2 x0)), (1, .int x1)] [] mm
  refine x_aload_n C (dq DX5_ask 0 rfl) rfl 0 rfl ?_
  refine x_bipush (v := 40) C (dq DX5_ask 1 rfl) (by decide) ?_
  refine x_iload_n C (dq DX5_ask 2 rfl) rfl 1 rfl ?_
  refine x_iadd C (dq DX5_ask 3 rfl) ?_
  refine x_pc 5 rfl ?_
  refine x_iald C (dq DX5_ask 4 rfl) h (fun a1 h => ?_)
  refine x_iconst (v := 1) C (dq DX5_ask 5 rfl) (by decide) ?_
  refine x_iand C (dq DX5_ask 6 rfl) ?_
  refine x_istore_n (lv' := [(2, .int (a1 &&& 1)), (0, .ref (E.2.2 x0)), (1, .int x1)]) C (dq DX5_ask 7 rfl) rfl (by decide) rfl ?_
  refine x_aload_n C (dq DX5_ask 8 rfl) rfl 1 rfl ?_
  refine x_pc 10 rfl ?_
  refine x_bipush (v := 30) C (dq DX5_ask 9 rfl) (by decide) ?_
  refine x_iload_n C (dq DX5_ask 10 rfl) rfl 2 rfl ?_
  refine x_iadd C (dq DX5_ask 11 rfl) ?_
  refine x_iald C (dq DX5_ask 12 rfl) h (fun a2 h => ?_)
  refine x_aload_n C (dq DX5_ask 13 rfl) rfl 1 rfl ?_
  refine x_pc 16 rfl ?_
  refine x_iconst (v := 0) C (dq DX5_ask 14 rfl) (by decide) ?_
  refine x_iload_n C (dq DX5_ask 15 rfl) rfl 2 rfl ?_
  refine x_iadd C (dq DX5_ask 16 rfl) ?_
  refine x_iald C (dq DX5_ask 17 rfl) h (fun a3 h => ?_)
  refine x_icmp_lt (tgt := 28) C (dq DX5_ask 18 rfl) (by decide) h (fun h => ?_) (fun h => ?_)
  · refine x_pc 28 rfl ?_
    refine x_aload_n C (dq DX5_ask 22 rfl) rfl 1 rfl ?_
    refine x_bipush (v := 30) C (dq DX5_ask 23 rfl) (by decide) ?_
    refine x_iload_n C (dq DX5_ask 24 rfl) rfl 2 rfl ?_
    refine x_iadd C (dq DX5_ask 25 rfl) ?_
    refine x_iald C (dq DX5_ask 26 rfl) h (fun a4 h => ?_)
    refine x_pc 34 rfl ?_
    refine x_aload_n C (dq DX5_ask 27 rfl) rfl 1 rfl ?_
    refine x_bipush (v := 10) C (dq DX5_ask 28 rfl) (by decide) ?_
    refine x_iload_n C (dq DX5_ask 29 rfl) rfl 2 rfl ?_
    refine x_iadd C (dq DX5_ask 30 rfl) ?_
    refine x_iald C (dq DX5_ask 31 rfl) h (fun a5 h => ?_)
    refine x_pc 40 rfl ?_
    refine x_icmp_gt (tgt := 45) C (dq DX5_ask 32 rfl) (by decide) h (fun h => ?_) (fun h => ?_)
    · exact x_lv [1, 2, 0] rfl (tX5_ask_45 C  h hQ)
    · refine x_iconst (v := 0) C (dq DX5_ask 33 rfl) (by decide) ?_
      refine x_istore_n (lv' := [(2, .int 0), (0, .ref (E.2.2 x0)), (1, .int x1)]) C (dq DX5_ask 34 rfl) rfl (by decide) rfl ?_
      exact x_lv [1, 2, 0] rfl (tX5_ask_45 C  h hQ)
  · refine x_pc 23 rfl ?_
    refine x_iconst (v := 1) C (dq DX5_ask 19 rfl) (by decide) ?_
    refine x_istore_n (lv' := [(2, .int 1), (0, .ref (E.2.2 x0)), (1, .int x1)]) C (dq DX5_ask 20 rfl) rfl (by decide) rfl ?_
    refine x_goto (tgt := 45) C (dq DX5_ask 21 rfl) (by decide) ?_
    exact x_lv [1, 2, 0] rfl (tX5_ask_45 C  h hQ)
abbrev eX5_obey : List (Nat × Instr × Nat) := [(0, .aload_n 0, 1), (1, .sipush 200, 3), (4, .iload_n 1, 1), (5, .iadd, 1), (6, .iaload, 1), (7, .istore_n 3, 1), (8, .aload_n 0, 1), (9, .sipush 256, 3), (12, .iload_n 1, 1), (13, .iadd, 1), (14, .dup2, 1), (15, .iaload, 1), (16, .iconst 1, 1), (17, .iadd, 1), (18, .iastore, 1), (19, .aload_n 0, 1), (20, .sipush 208, 3), (23, .iload_n 1, 1), (24, .iadd, 1), (25, .iload_n 3, 1), (26, .iastore, 1), (27, .aload_n 0, 1), (28, .sipush 200, 3), (31, .iload_n 1, 1), (32, .iadd, 1), (33, .iconst 1, 1), (34, .iload_n 3, 1), (35, .iload_n 3, 1), (36, .iload_n 2, 1), (37, .imul, 1), (38, .sipush 128, 3), (41, .idiv, 1), (42, .isub, 1), (43, .invokestatic 85, 3), (46, .iastore, 1), (47, .aload_n 0, 1), (48, .sipush 216, 3), (51, .iload_n 1, 1), (52, .iadd, 1), (53, .iconst 0, 1), (54, .iastore, 1), (55, .aload_n 0, 1), (56, .sipush 224, 3), (59, .iload_n 1, 1), (60, .iadd, 1), (61, .iconst 0, 1), (62, .iastore, 1), (63, .aload_n 0, 1), (64, .sipush 280, 3), (67, .iload_n 1, 1), (68, .iadd, 1), (69, .iconst 0, 1), (70, .iastore, 1), (71, .aload_n 0, 1), (72, .sipush 288, 3), (75, .iload_n 1, 1), (76, .iadd, 1), (77, .iconst 0, 1), (78, .iastore, 1), (79, .return_, 1)]
theorem DX5_obey : (eX5_obey.all fun q => decide (decode cX5_obey q.1 = .ok q.2)) = true := by decide +kernel
def fX5_obey (S : List Sh) (mm : Mm) (x0 : Nat) (x1 : Int32) (x2 : Int32) : Option (Mm) := bd1 (ldA S 0 mm x0 (200 + x1)) fun a1 => bd1 (ldA S 0 mm x0 (256 + x1)) fun a2 => bd1 (stA S 0 mm x0 (256 + x1) (a2 + 1)) fun m3 => bd1 (stA S 0 m3 x0 (208 + x1) a1) fun m4 => bd1 (dvI (a1 * x2) 128) fun a5 => bd1 (stA S 0 m4 x0 (200 + x1) (if (1 : Int32) < (a1 - a5) then (a1 - a5) else 1)) fun m6 => bd1 (stA S 0 m6 x0 (216 + x1) 0) fun m7 => bd1 (stA S 0 m7 x0 (224 + x1) 0) fun m8 => bd1 (stA S 0 m8 x0 (280 + x1) 0) fun m9 => bd1 (stA S 0 m9 x0 (288 + x1) 0) fun m10 => some m10
set_option maxHeartbeats 1000000 in
theorem mX5_obey {l : Launch} {E : Ev} {S : List Sh} {mm : Mm} {x0 : Nat} {x1 : Int32} {x2 : Int32} {r : Mm} (h : fX5_obey S mm x0 x1 x2 = some r) : Ml l E S yX5_obey cX5_obey 4 none 1 29 [.ref (E.2.2 x0), .int x1, .int x2] mm none r := by
  refine Ml.of (by decide +kernel) (Nat.le_of_ble_eq_true rfl) (fun G C hQ => ?_)
  have C : Cx G E cX5_obey 4 RX5 none 1 29 := C
  unfold fX5_obey at h
  show WM G l E S 0 [(0, .ref (E.2.2 x0)), (1, .int x1), (2, .int x2)] [] mm
  refine x_aload_n C (dq DX5_obey 0 rfl) rfl 0 rfl ?_
  refine x_sipush (v := 200) C (dq DX5_obey 1 rfl) (by decide) ?_
  refine x_iload_n C (dq DX5_obey 2 rfl) rfl 1 rfl ?_
  refine x_iadd C (dq DX5_obey 3 rfl) ?_
  refine x_pc 6 rfl ?_
  refine x_iald C (dq DX5_obey 4 rfl) h (fun a1 h => ?_)
  refine x_istore_n (lv' := [(3, .int a1), (0, .ref (E.2.2 x0)), (1, .int x1), (2, .int x2)]) C (dq DX5_obey 5 rfl) rfl (by decide) rfl ?_
  refine x_aload_n C (dq DX5_obey 6 rfl) rfl 1 rfl ?_
  refine x_sipush (v := 256) C (dq DX5_obey 7 rfl) (by decide) ?_
  refine x_iload_n C (dq DX5_obey 8 rfl) rfl 2 rfl ?_
  refine x_pc 13 rfl ?_
  refine x_iadd C (dq DX5_obey 9 rfl) ?_
  refine x_dup2 C (dq DX5_obey 10 rfl) rfl rfl ?_
  refine x_iald C (dq DX5_obey 11 rfl) h (fun a2 h => ?_)
  refine x_iconst (v := 1) C (dq DX5_obey 12 rfl) (by decide) ?_
  refine x_iadd C (dq DX5_obey 13 rfl) ?_
  refine x_pc 18 rfl ?_
  refine x_iast C (dq DX5_obey 14 rfl) h (fun m3 h => ?_)
  refine x_aload_n C (dq DX5_obey 15 rfl) rfl 1 rfl ?_
  refine x_sipush (v := 208) C (dq DX5_obey 16 rfl) (by decide) ?_
  refine x_iload_n C (dq DX5_obey 17 rfl) rfl 2 rfl ?_
  refine x_iadd C (dq DX5_obey 18 rfl) ?_
  refine x_pc 25 rfl ?_
  refine x_iload_n C (dq DX5_obey 19 rfl) rfl 0 rfl ?_
  refine x_iast C (dq DX5_obey 20 rfl) h (fun m4 h => ?_)
  refine x_aload_n C (dq DX5_obey 21 rfl) rfl 1 rfl ?_
  refine x_sipush (v := 200) C (dq DX5_obey 22 rfl) (by decide) ?_
  refine x_iload_n C (dq DX5_obey 23 rfl) rfl 2 rfl ?_
  refine x_pc 32 rfl ?_
  refine x_iadd C (dq DX5_obey 24 rfl) ?_
  refine x_iconst (v := 1) C (dq DX5_obey 25 rfl) (by decide) ?_
  refine x_iload_n C (dq DX5_obey 26 rfl) rfl 0 rfl ?_
  refine x_iload_n C (dq DX5_obey 27 rfl) rfl 0 rfl ?_
  refine x_iload_n C (dq DX5_obey 28 rfl) rfl 3 rfl ?_
  refine x_pc 37 rfl ?_
  refine x_imul C (dq DX5_obey 29 rfl) ?_
  refine x_sipush (v := 128) C (dq DX5_obey 30 rfl) (by decide) ?_
  refine x_idiv C (dq DX5_obey 31 rfl) h (fun a5 h => ?_)
  refine x_isub C (dq DX5_obey 32 rfl) ?_
  refine callX5_85 C (dq DX5_obey 33 rfl) (by decide) (Nat.le_of_ble_eq_true rfl) ?_
  refine x_pc 46 rfl ?_
  refine x_iast C (dq DX5_obey 34 rfl) h (fun m6 h => ?_)
  refine x_aload_n C (dq DX5_obey 35 rfl) rfl 1 rfl ?_
  refine x_sipush (v := 216) C (dq DX5_obey 36 rfl) (by decide) ?_
  refine x_iload_n C (dq DX5_obey 37 rfl) rfl 2 rfl ?_
  refine x_iadd C (dq DX5_obey 38 rfl) ?_
  refine x_pc 53 rfl ?_
  refine x_iconst (v := 0) C (dq DX5_obey 39 rfl) (by decide) ?_
  refine x_iast C (dq DX5_obey 40 rfl) h (fun m7 h => ?_)
  refine x_aload_n C (dq DX5_obey 41 rfl) rfl 1 rfl ?_
  refine x_sipush (v := 224) C (dq DX5_obey 42 rfl) (by decide) ?_
  refine x_iload_n C (dq DX5_obey 43 rfl) rfl 2 rfl ?_
  refine x_pc 60 rfl ?_
  refine x_iadd C (dq DX5_obey 44 rfl) ?_
  refine x_iconst (v := 0) C (dq DX5_obey 45 rfl) (by decide) ?_
  refine x_iast C (dq DX5_obey 46 rfl) h (fun m8 h => ?_)
  refine x_aload_n C (dq DX5_obey 47 rfl) rfl 1 rfl ?_
  refine x_sipush (v := 280) C (dq DX5_obey 48 rfl) (by decide) ?_
  refine x_pc 67 rfl ?_
  refine x_iload_n C (dq DX5_obey 49 rfl) rfl 2 rfl ?_
  refine x_iadd C (dq DX5_obey 50 rfl) ?_
  refine x_iconst (v := 0) C (dq DX5_obey 51 rfl) (by decide) ?_
  refine x_iast C (dq DX5_obey 52 rfl) h (fun m9 h => ?_)
  refine x_aload_n C (dq DX5_obey 53 rfl) rfl 1 rfl ?_
  refine x_pc 72 rfl ?_
  refine x_sipush (v := 288) C (dq DX5_obey 54 rfl) (by decide) ?_
  refine x_iload_n C (dq DX5_obey 55 rfl) rfl 2 rfl ?_
  refine x_iadd C (dq DX5_obey 56 rfl) ?_
  refine x_iconst (v := 0) C (dq DX5_obey 57 rfl) (by decide) ?_
  refine x_iast C (dq DX5_obey 58 rfl) h (fun m10 h => ?_)
  refine x_pc 79 rfl ?_
  cases h
  exact x_vret C (dq DX5_obey 59 rfl) hQ
theorem getX5_88 {G : Gt} {l : Launch} {E : Ev} {S : List Sh} {cc : ByteArray} {nL : Nat} {rt : Option FieldType} {fr lo : Nat} {pc : Nat} {lv : List (Nat × Value)} {st : List Value} {mm : Mm} {o : Nat} (C : Cx G E cc nL RX5 rt fr lo) (d : decode cc pc = .ok (.getfield 88, 3)) (hg : isC S o 1) (k : WM G l E S (pc + 3) lv (.ref (E.2.2 (rf S mm o 8)) :: st) mm) : WM G l E S pc lv (.ref (E.2.2 o) :: st) mm := x_getN2 C hg (T := TX1) (N := 11) rfl inX1 (by decide) (i := 8) (host := "LosslessFabric") (nmem 205 (by decide +kernel) rfl) rfl rfl d k
theorem callX5_91 {G : Gt} {l : Launch} {E : Ev} {S : List Sh} {cc : ByteArray} {nL : Nat} {rt : Option FieldType} {fr lo : Nat} {pc : Nat} {lv : List (Nat × Value)} {rest : List Value} {mm : Mm} {α : Type} {f : Int32 → Option α} {r : α} {o : Nat} {a0 : Nat} {a1 : Int32} (C : Cx G E cc nL RX5 rt fr lo) (d : decode cc pc = .ok (.invokevirtual 91, 3)) (h : bd1 (fX1_feedbackOf S mm o a0 a1) f = some r) (hfr : 1 ≤ fr) (hlo : 23 ≤ lo) (hrs : (rest.map fun v => v.category).sum ≤ 8) (k : ∀ v, f v = some r → WM G l E S (pc + 3) lv (.int v :: rest) mm) : WM G l E S pc lv (.int a1 :: .ref (E.2.2 a0) :: .ref (E.2.2 o) :: rest) mm := by
  obtain ⟨v, hv, hf⟩ := bd1_some h
  exact x_callV (n := 2) (As := [.ref (E.2.2 a0), .int a1]) (rest := rest) C (mX1_feedbackOf hv) (qX1_feedbackOf hv) (T := TX1) (N := 11) rfl (gmem 478 (by decide +kernel) rfl) (gmem 479 (by decide +kernel) rfl) (gmem 480 (by decide +kernel) rfl) (gmem 8 (by decide +kernel) rfl) (gmem 481 (by decide +kernel) rfl) (by decide +kernel) rfl hfr hlo hrs d rfl rfl (k v hf)
theorem callX5_95 {G : Gt} {l : Launch} {E : Ev} {S : List Sh} {cc : ByteArray} {nL : Nat} {rt : Option FieldType} {fr lo : Nat} {pc : Nat} {lv : List (Nat × Value)} {rest : List Value} {mm : Mm} {α : Type} {f : Int32 → Option α} {r : α} {o : Nat} {a0 : Int32} (C : Cx G E cc nL RX5 rt fr lo) (d : decode cc pc = .ok (.invokevirtual 95, 3)) (h : bd1 (fX1_noticeOf S mm o a0) f = some r) (hfr : 2 ≤ fr) (hlo : 51 ≤ lo) (hrs : (rest.map fun v => v.category).sum ≤ 8) (k : ∀ v, f v = some r → WM G l E S (pc + 3) lv (.int v :: rest) mm) : WM G l E S pc lv (.int a0 :: .ref (E.2.2 o) :: rest) mm := by
  obtain ⟨v, hv, hf⟩ := bd1_some h
  exact x_callV (n := 1) (As := [.int a0]) (rest := rest) C (mX1_noticeOf hv) (qX1_noticeOf hv) (T := TX1) (N := 11) rfl (gmem 482 (by decide +kernel) rfl) (gmem 483 (by decide +kernel) rfl) (gmem 484 (by decide +kernel) rfl) (gmem 8 (by decide +kernel) rfl) (gmem 485 (by decide +kernel) rfl) (by decide +kernel) rfl hfr hlo hrs d rfl rfl (k v hf)
theorem callX5_99 {G : Gt} {l : Launch} {E : Ev} {S : List Sh} {cc : ByteArray} {nL : Nat} {rt : Option FieldType} {fr lo : Nat} {pc : Nat} {lv : List (Nat × Value)} {rest : List Value} {mm : Mm} {α : Type} {f : Mm → Option α} {r : α} {a0 : Nat} {a1 : Int32} {a2 : Int32} (C : Cx G E cc nL RX5 rt fr lo) (d : decode cc pc = .ok (.invokestatic 99, 3)) (h : bd1 (fX5_obey S mm a0 a1 a2) f = some r) (hfr : 2 ≤ fr) (hlo : 52 ≤ lo) (hrs : (rest.map fun v => v.category).sum ≤ 8) (k : ∀ m1, f m1 = some r → WM G l E S (pc + 3) lv rest m1) : WM G l E S pc lv (.int a2 :: .int a1 :: .ref (E.2.2 a0) :: rest) mm := by
  obtain ⟨m1, hv, hf⟩ := bd1_some h
  exact x_callS (n := 3) (As := [.ref (E.2.2 a0), .int a1, .int a2]) (rest := rest) C (mX5_obey hv) (gmem 488 (by decide +kernel) rfl) (gmem 489 (by decide +kernel) rfl) (gmem 4 (by decide +kernel) rfl) (gmem 490 (by decide +kernel) rfl) (by decide +kernel) rfl hfr hlo hrs d rfl rfl (k m1 hf)
abbrev eX5_sample : List (Nat × Instr × Nat) := [(0, .iload_n 3, 1), (1, .bipush 8, 2), (3, .imul, 1), (4, .istore 4, 2), (6, .aload_n 1, 1), (7, .getfield 88, 3), (10, .iconst 0, 1), (11, .iaload, 1), (12, .istore 5, 2), (14, .iconst (-1), 1), (15, .istore 6, 2), (17, .aload_n 2, 1), (18, .bipush 100, 2), (20, .iload_n 3, 1), (21, .iadd, 1), (22, .iaload, 1), (23, .istore 7, 2), (25, .iconst 0, 1), (26, .istore 8, 2), (28, .iload 8, 2), (30, .aload_n 1, 1), (31, .getfield 21, 3), (34, .if_icmp .ge 41, 3), (37, .iload 7, 2), (39, .aload_n 0, 1), (40, .getfield 9, 3), (43, .iload 4, 2), (45, .iload 8, 2), (47, .iadd, 1), (48, .iaload, 1), (49, .iadd, 1), (50, .istore 7, 2), (52, .iload 6, 2), (54, .iconst (-1), 1), (55, .if_icmp .ne 14, 3), (58, .iload 7, 2), (60, .iload 5, 2), (62, .if_icmp .lt 7, 3), (65, .iload 8, 2), (67, .istore 6, 2), (69, .iinc 8 1, 3), (72, .goto (-44), 3), (75, .aload_n 2, 1), (76, .bipush 100, 2), (78, .iload_n 3, 1), (79, .iadd, 1), (80, .iload 7, 2), (82, .iastore, 1), (83, .iload 6, 2), (85, .iconst (-1), 1), (86, .if_icmp .eq 8, 3), (89, .iload 5, 2), (91, .ifCond .gt 4, 3), (94, .return_, 1), (95, .aload_n 2, 1), (96, .bipush 100, 2), (98, .iload_n 3, 1), (99, .iadd, 1), (100, .iload 7, 2), (102, .iload 5, 2), (104, .irem, 1), (105, .iastore, 1), (106, .aload_n 2, 1), (107, .bipush 70, 2), (109, .iload_n 3, 1), (110, .iadd, 1), (111, .dup2, 1), (112, .iaload, 1), (113, .iconst 1, 1), (114, .iadd, 1), (115, .iastore, 1), (116, .aload_n 1, 1), (117, .aload_n 1, 1), (118, .aload_n 2, 1), (119, .iload_n 3, 1), (120, .invokevirtual 91, 3), (123, .invokevirtual 95, 3), (126, .istore 8, 2), (128, .aload_n 2, 1), (129, .bipush 110, 2), (131, .iload_n 3, 1), (132, .iadd, 1), (133, .aload_n 2, 1), (134, .bipush 30, 2), (136, .iload_n 3, 1), (137, .iadd, 1), (138, .iaload, 1), (139, .iastore, 1), (140, .iload 8, 2), (142, .ifCond .le 21, 3), (145, .aload_n 2, 1), (146, .bipush 80, 2), (148, .iload_n 3, 1), (149, .iadd, 1), (150, .dup2, 1), (151, .iaload, 1), (152, .iconst 1, 1), (153, .iadd, 1), (154, .iastore, 1), (155, .aload_n 2, 1), (156, .iload 6, 2), (158, .iload 8, 2), (160, .invokestatic 99, 3), (163, .return_, 1)]
theorem DX5_sample : (eX5_sample.all fun q => decide (decode cX5_sample q.1 = .ok q.2)) = true := by decide +kernel
def jX5_sample_69 (S : List Sh) (mm : Mm) (x0 : Nat) (x1 : Nat) (x2 : Nat) (x3 : Int32) (x4 : Int32) (x5 : Int32) (x6 : Int32) (x7 : Int32) (x8 : Int32)  : Option ((Int32 × Int32 × Int32) ⊕ (Int32 × Int32)) := some (.inl (x6, x7, x8 + 1))
def bX5_sample_28 (S : List Sh) (mm : Mm) (x0 : Nat) (x1 : Nat) (x2 : Nat) (x3 : Int32) (x4 : Int32) (x5 : Int32) (x6 : Int32) (x7 : Int32) (x8 : Int32) : Option ((Int32 × Int32 × Int32) ⊕ (Int32 × Int32)) := if (mm.1 x1 10) ≤ x8 then (some (.inr (x6, x7))) else (bd1 (ldA S 0 mm (rf S mm x0 0) (x4 + x8)) fun a3 => if ¬ x6 = (-1) then (jX5_sample_69 S mm x0 x1 x2 x3 x4 x5 x6 (x7 + a3) x8) else (if (x7 + a3) < x5 then (jX5_sample_69 S mm x0 x1 x2 x3 x4 x5 x6 (x7 + a3) x8) else (jX5_sample_69 S mm x0 x1 x2 x3 x4 x5 x8 (x7 + a3) x8)))
def jX5_sample_94 (S : List Sh) (mm : Mm) (x0 : Nat) (x1 : Nat)  : Option (Mm) := some mm
def jX5_sample_163 (S : List Sh) (mm : Mm) (x0 : Nat) (x1 : Nat)  : Option (Mm) := some mm
def fX5_sample (S : List Sh) (mm : Mm) (x0 : Nat) (x1 : Nat) (x2 : Nat) (x3 : Int32) : Option (Mm) := gd S x0 5 (gd S x1 1 (bd1 (ldA S 0 mm (rf S mm x1 8) 0) fun a1 => bd1 (ldA S 0 mm x2 (100 + x3)) fun a2 => bd1 (lp (fun s4 => bX5_sample_28 S mm x0 x1 x2 x3 (x3 * 8) a1 s4.1 s4.2.1 s4.2.2) fu ((-1), a2, 0)) fun y5 => bd1 (stA S 0 mm x2 (100 + x3) y5.2) fun m6 => if y5.1 = (-1) then (jX5_sample_94 S m6 x0 x1) else (if 0 < a1 then (bd1 (rmI y5.2 a1) fun a7 => bd1 (stA S 0 m6 x2 (100 + x3) a7) fun m8 => bd1 (ldA S 0 m8 x2 (70 + x3)) fun a9 => bd1 (stA S 0 m8 x2 (70 + x3) (a9 + 1)) fun m10 => bd1 (fX1_feedbackOf S m10 x1 x2 x3) fun a11 => bd1 (fX1_noticeOf S m10 x1 a11) fun a12 => bd1 (ldA S 0 m10 x2 (30 + x3)) fun a13 => bd1 (stA S 0 m10 x2 (110 + x3) a13) fun m14 => if a12 ≤ 0 then (jX5_sample_163 S m14 x0 x1) else (bd1 (ldA S 0 m14 x2 (80 + x3)) fun a15 => bd1 (stA S 0 m14 x2 (80 + x3) (a15 + 1)) fun m16 => bd1 (fX5_obey S m16 x2 y5.1 a12) fun m17 => jX5_sample_163 S m17 x0 x1)) else (jX5_sample_94 S m6 x0 x1))))
set_option maxHeartbeats 1000000 in
theorem tX5_sample_69 {G : Gt} {l : Launch} {E : Ev} {S : List Sh} {mm : Mm} {x0 : Nat} {x1 : Nat} {x2 : Nat} {x3 : Int32} {x4 : Int32} {x5 : Int32} {x6 : Int32} {x7 : Int32} {x8 : Int32}  {r : (Int32 × Int32 × Int32) ⊕ (Int32 × Int32)} (C : Cx G E cX5_sample 9 RX5 none 2 52) (g0 : isC S x0 5) (g1 : isC S x1 1) (h : jX5_sample_69 S mm x0 x1 x2 x3 x4 x5 x6 x7 x8 = some r) (kb : ∀ z : Int32 × Int32 × Int32, r = .inl z → WM G l E S 28 [(0, .ref (E.2.2 x0)), (1, .ref (E.2.2 x1)), (2, .ref (E.2.2 x2)), (3, .int x3), (4, .int x4), (5, .int x5), (6, .int z.1), (7, .int z.2.1), (8, .int z.2.2)] [] mm) (kx : ∀ z : Int32 × Int32, r = .inr z → WM G l E S 75 [(0, .ref (E.2.2 x0)), (1, .ref (E.2.2 x1)), (2, .ref (E.2.2 x2)), (3, .int x3), (4, .int x4), (5, .int x5), (6, .int z.1), (7, .int z.2)] [] mm) : WM G l E S 69 [(0, .ref (E.2.2 x0)), (1, .ref (E.2.2 x1)), (2, .ref (E.2.2 x2)), (3, .int x3), (4, .int x4), (5, .int x5), (6, .int x6), (7, .int x7), (8, .int x8)] [] mm := by
  unfold jX5_sample_69 at h
  refine x_iinc (v := x8 + 1) (lv' := [(8, .int (x8 + 1)), (0, .ref (E.2.2 x0)), (1, .ref (E.2.2 x1)), (2, .ref (E.2.2 x2)), (3, .int x3), (4, .int x4), (5, .int x5), (6, .int x6), (7, .int x7)]) C (dq DX5_sample 40 rfl) 8 rfl rfl (by decide) rfl ?_
  refine x_goto (tgt := 28) C (dq DX5_sample 41 rfl) (by decide) ?_
  cases h
  exact x_lv [1, 2, 3, 4, 5, 6, 7, 8, 0] rfl (kb (x6, x7, x8 + 1) rfl)
set_option maxHeartbeats 1000000 in
theorem tX5_sample_28 {G : Gt} {l : Launch} {E : Ev} {S : List Sh} {mm : Mm} {x0 : Nat} {x1 : Nat} {x2 : Nat} {x3 : Int32} {x4 : Int32} {x5 : Int32} {x6 : Int32} {x7 : Int32} {x8 : Int32} {r : (Int32 × Int32 × Int32) ⊕ (Int32 × Int32)} (C : Cx G E cX5_sample 9 RX5 none 2 52) (g0 : isC S x0 5) (g1 : isC S x1 1) (h : bX5_sample_28 S mm x0 x1 x2 x3 x4 x5 x6 x7 x8 = some r) (kb : ∀ z : Int32 × Int32 × Int32, r = .inl z → WM G l E S 28 [(0, .ref (E.2.2 x0)), (1, .ref (E.2.2 x1)), (2, .ref (E.2.2 x2)), (3, .int x3), (4, .int x4), (5, .int x5), (6, .int z.1), (7, .int z.2.1), (8, .int z.2.2)] [] mm) (kx : ∀ z : Int32 × Int32, r = .inr z → WM G l E S 75 [(0, .ref (E.2.2 x0)), (1, .ref (E.2.2 x1)), (2, .ref (E.2.2 x2)), (3, .int x3), (4, .int x4), (5, .int x5), (6, .int z.1), (7, .int z.2)] [] mm) : WM G l E S 28 [(0, .ref (E.2.2 x0)), (1, .ref (E.2.2 x1)), (2, .ref (E.2.2 x2)), (3, .int x3), (4, .int x4), (5, .int x5), (6, .int x6), (7, .int x7), (8, .int x8)] [] mm := by
  unfold bX5_sample_28 at h
  refine x_iload C (dq DX5_sample 19 rfl) 8 rfl ?_
  refine x_aload_n C (dq DX5_sample 20 rfl) rfl 1 rfl ?_
  refine getX5_21 C (dq DX5_sample 21 rfl) g1 ?_
  refine x_icmp_ge (tgt := 75) C (dq DX5_sample 22 rfl) (by decide) h (fun h => ?_) (fun h => ?_)
  · cases h
    exact x_lv [0, 1, 2, 3, 4, 5, 6, 7] rfl (kx (x6, x7) rfl)
  · refine x_pc 37 rfl ?_
    refine x_iload C (dq DX5_sample 23 rfl) 7 rfl ?_
    refine x_aload_n C (dq DX5_sample 24 rfl) rfl 0 rfl ?_
    refine getX5_9 C (dq DX5_sample 25 rfl) g0 ?_
    refine x_iload C (dq DX5_sample 26 rfl) 4 rfl ?_
    refine x_iload C (dq DX5_sample 27 rfl) 8 rfl ?_
    refine x_pc 47 rfl ?_
    refine x_iadd C (dq DX5_sample 28 rfl) ?_
    refine x_iald C (dq DX5_sample 29 rfl) h (fun a3 h => ?_)
    refine x_iadd C (dq DX5_sample 30 rfl) ?_
    refine x_istore (lv' := [(7, .int (x7 + a3)), (0, .ref (E.2.2 x0)), (1, .ref (E.2.2 x1)), (2, .ref (E.2.2 x2)), (3, .int x3), (4, .int x4), (5, .int x5), (6, .int x6), (8, .int x8)]) C (dq DX5_sample 31 rfl) (by decide) rfl ?_
    refine x_iload C (dq DX5_sample 32 rfl) 7 rfl ?_
    refine x_pc 54 rfl ?_
    refine x_iconst (v := (-1)) C (dq DX5_sample 33 rfl) (by decide) ?_
    refine x_icmp_ne (tgt := 69) C (dq DX5_sample 34 rfl) (by decide) h (fun h => ?_) (fun h => ?_)
    · exact x_lv [1, 2, 3, 4, 5, 6, 7, 0, 8] rfl (tX5_sample_69 C g0 g1 h kb kx)
    · refine x_iload C (dq DX5_sample 35 rfl) 0 rfl ?_
      refine x_iload C (dq DX5_sample 36 rfl) 6 rfl ?_
      refine x_icmp_lt (tgt := 69) C (dq DX5_sample 37 rfl) (by decide) h (fun h => ?_) (fun h => ?_)
      · exact x_lv [1, 2, 3, 4, 5, 6, 7, 0, 8] rfl (tX5_sample_69 C g0 g1 h kb kx)
      · refine x_pc 65 rfl ?_
        refine x_iload C (dq DX5_sample 38 rfl) 8 rfl ?_
        refine x_istore (lv' := [(6, .int x8), (7, .int (x7 + a3)), (0, .ref (E.2.2 x0)), (1, .ref (E.2.2 x1)), (2, .ref (E.2.2 x2)), (3, .int x3), (4, .int x4), (5, .int x5), (8, .int x8)]) C (dq DX5_sample 39 rfl) (by decide) rfl ?_
        exact x_lv [2, 3, 4, 5, 6, 7, 0, 1, 8] rfl (tX5_sample_69 C g0 g1 h kb kx)
set_option maxHeartbeats 1000000 in
theorem tX5_sample_94 {G : Gt} {l : Launch} {E : Ev} {S : List Sh} {mm : Mm} {x0 : Nat} {x1 : Nat}  {r : Mm} (C : Cx G E cX5_sample 9 RX5 none 2 52) (g0 : isC S x0 5) (g1 : isC S x1 1) (h : jX5_sample_94 S mm x0 x1 = some r) (hQ : RQ G E S none r) : WM G l E S 94 [(0, .ref (E.2.2 x0)), (1, .ref (E.2.2 x1))] [] mm := by
  unfold jX5_sample_94 at h
  cases h
  exact x_vret C (dq DX5_sample 53 rfl) hQ
set_option maxHeartbeats 1000000 in
theorem tX5_sample_163 {G : Gt} {l : Launch} {E : Ev} {S : List Sh} {mm : Mm} {x0 : Nat} {x1 : Nat}  {r : Mm} (C : Cx G E cX5_sample 9 RX5 none 2 52) (g0 : isC S x0 5) (g1 : isC S x1 1) (h : jX5_sample_163 S mm x0 x1 = some r) (hQ : RQ G E S none r) : WM G l E S 163 [(0, .ref (E.2.2 x0)), (1, .ref (E.2.2 x1))] [] mm := by
  unfold jX5_sample_163 at h
  cases h
  exact x_vret C (dq DX5_sample 103 rfl) hQ
set_option maxHeartbeats 1000000 in
theorem mX5_sample {l : Launch} {E : Ev} {S : List Sh} {mm : Mm} {x0 : Nat} {x1 : Nat} {x2 : Nat} {x3 : Int32} {r : Mm} (h : fX5_sample S mm x0 x1 x2 x3 = some r) : Ml l E S yX5_sample cX5_sample 9 none 2 52 [.ref (E.2.2 x0), .ref (E.2.2 x1), .ref (E.2.2 x2), .int x3] mm none r := by
  refine Ml.of (by decide +kernel) (Nat.le_of_ble_eq_true rfl) (fun G C hQ => ?_)
  have C : Cx G E cX5_sample 9 RX5 none 2 52 := C
  unfold fX5_sample at h
  obtain ⟨g0, h⟩ := gd_some h
  obtain ⟨g1, h⟩ := gd_some h
  show WM G l E S 0 [(0, .ref (E.2.2 x0)), (1, .ref (E.2.2 x1)), (2, .ref (E.2.2 x2)), (3, .int x3)] [] mm
  refine x_iload_n C (dq DX5_sample 0 rfl) rfl 3 rfl ?_
  refine x_bipush (v := 8) C (dq DX5_sample 1 rfl) (by decide) ?_
  refine x_imul C (dq DX5_sample 2 rfl) ?_
  refine x_istore (lv' := [(4, .int (x3 * 8)), (0, .ref (E.2.2 x0)), (1, .ref (E.2.2 x1)), (2, .ref (E.2.2 x2)), (3, .int x3)]) C (dq DX5_sample 3 rfl) (by decide) rfl ?_
  refine x_pc 6 rfl ?_
  refine x_aload_n C (dq DX5_sample 4 rfl) rfl 2 rfl ?_
  refine getX5_88 C (dq DX5_sample 5 rfl) g1 ?_
  refine x_iconst (v := 0) C (dq DX5_sample 6 rfl) (by decide) ?_
  refine x_iald C (dq DX5_sample 7 rfl) h (fun a1 h => ?_)
  refine x_istore (lv' := [(5, .int a1), (4, .int (x3 * 8)), (0, .ref (E.2.2 x0)), (1, .ref (E.2.2 x1)), (2, .ref (E.2.2 x2)), (3, .int x3)]) C (dq DX5_sample 8 rfl) (by decide) rfl ?_
  refine x_pc 14 rfl ?_
  refine x_iconst (v := (-1)) C (dq DX5_sample 9 rfl) (by decide) ?_
  refine x_istore (lv' := [(6, .int (-1)), (5, .int a1), (4, .int (x3 * 8)), (0, .ref (E.2.2 x0)), (1, .ref (E.2.2 x1)), (2, .ref (E.2.2 x2)), (3, .int x3)]) C (dq DX5_sample 10 rfl) (by decide) rfl ?_
  refine x_aload_n C (dq DX5_sample 11 rfl) rfl 5 rfl ?_
  refine x_bipush (v := 100) C (dq DX5_sample 12 rfl) (by decide) ?_
  refine x_iload_n C (dq DX5_sample 13 rfl) rfl 6 rfl ?_
  refine x_pc 21 rfl ?_
  refine x_iadd C (dq DX5_sample 14 rfl) ?_
  refine x_iald C (dq DX5_sample 15 rfl) h (fun a2 h => ?_)
  refine x_istore (lv' := [(7, .int a2), (6, .int (-1)), (5, .int a1), (4, .int (x3 * 8)), (0, .ref (E.2.2 x0)), (1, .ref (E.2.2 x1)), (2, .ref (E.2.2 x2)), (3, .int x3)]) C (dq DX5_sample 16 rfl) (by decide) rfl ?_
  refine x_iconst (v := 0) C (dq DX5_sample 17 rfl) (by decide) ?_
  refine x_istore (lv' := [(8, .int 0), (7, .int a2), (6, .int (-1)), (5, .int a1), (4, .int (x3 * 8)), (0, .ref (E.2.2 x0)), (1, .ref (E.2.2 x1)), (2, .ref (E.2.2 x2)), (3, .int x3)]) C (dq DX5_sample 18 rfl) (by decide) rfl ?_
  refine x_lv [5, 6, 7, 8, 4, 3, 2, 1, 0] rfl ?_
  refine x_loop (s0 := ((-1), a2, 0)) (fun s4 => WM G l E S 28 [(0, .ref (E.2.2 x0)), (1, .ref (E.2.2 x1)), (2, .ref (E.2.2 x2)), (3, .int x3), (4, .int (x3 * 8)), (5, .int a1), (6, .int s4.1), (7, .int s4.2.1), (8, .int s4.2.2)] [] mm) h (fun s4 r hb kb kx => tX5_sample_28 C g0 g1 hb kb (fun y5 hy => ?_))
  have h := kx y5 hy
  clear kx kb hb hy
  refine x_pc 75 rfl ?_
  refine x_aload_n C (dq DX5_sample 42 rfl) rfl 2 rfl ?_
  refine x_bipush (v := 100) C (dq DX5_sample 43 rfl) (by decide) ?_
  refine x_iload_n C (dq DX5_sample 44 rfl) rfl 3 rfl ?_
  refine x_iadd C (dq DX5_sample 45 rfl) ?_
  refine x_iload C (dq DX5_sample 46 rfl) 7 rfl ?_
  refine x_pc 82 rfl ?_
  refine x_iast C (dq DX5_sample 47 rfl) h (fun m6 h => ?_)
  refine x_iload C (dq DX5_sample 48 rfl) 6 rfl ?_
  refine x_iconst (v := (-1)) C (dq DX5_sample 49 rfl) (by decide) ?_
  refine x_icmp_eq (tgt := 94) C (dq DX5_sample 50 rfl) (by decide) h (fun h => ?_) (fun h => ?_)
  · exact x_lv [0, 1] rfl (tX5_sample_94 C g0 g1 h hQ)
  · refine x_iload C (dq DX5_sample 51 rfl) 5 rfl ?_
    refine x_pc 91 rfl ?_
    refine x_if_gt (tgt := 95) C (dq DX5_sample 52 rfl) (by decide) h (fun h => ?_) (fun h => ?_)
    · refine x_aload_n C (dq DX5_sample 54 rfl) rfl 2 rfl ?_
      refine x_bipush (v := 100) C (dq DX5_sample 55 rfl) (by decide) ?_
      refine x_iload_n C (dq DX5_sample 56 rfl) rfl 3 rfl ?_
      refine x_iadd C (dq DX5_sample 57 rfl) ?_
      refine x_pc 100 rfl ?_
      refine x_iload C (dq DX5_sample 58 rfl) 7 rfl ?_
      refine x_iload C (dq DX5_sample 59 rfl) 5 rfl ?_
      refine x_irem C (dq DX5_sample 60 rfl) h (fun a7 h => ?_)
      refine x_iast C (dq DX5_sample 61 rfl) h (fun m8 h => ?_)
      refine x_aload_n C (dq DX5_sample 62 rfl) rfl 2 rfl ?_
      refine x_pc 107 rfl ?_
      refine x_bipush (v := 70) C (dq DX5_sample 63 rfl) (by decide) ?_
      refine x_iload_n C (dq DX5_sample 64 rfl) rfl 3 rfl ?_
      refine x_iadd C (dq DX5_sample 65 rfl) ?_
      refine x_dup2 C (dq DX5_sample 66 rfl) rfl rfl ?_
      refine x_iald C (dq DX5_sample 67 rfl) h (fun a9 h => ?_)
      refine x_pc 113 rfl ?_
      refine x_iconst (v := 1) C (dq DX5_sample 68 rfl) (by decide) ?_
      refine x_iadd C (dq DX5_sample 69 rfl) ?_
      refine x_iast C (dq DX5_sample 70 rfl) h (fun m10 h => ?_)
      refine x_aload_n C (dq DX5_sample 71 rfl) rfl 1 rfl ?_
      refine x_aload_n C (dq DX5_sample 72 rfl) rfl 1 rfl ?_
      refine x_pc 118 rfl ?_
      refine x_aload_n C (dq DX5_sample 73 rfl) rfl 2 rfl ?_
      refine x_iload_n C (dq DX5_sample 74 rfl) rfl 3 rfl ?_
      refine callX5_91 C (dq DX5_sample 75 rfl) h (by decide) (by decide) (Nat.le_of_ble_eq_true rfl) (fun a11 h => ?_)
      refine callX5_95 C (dq DX5_sample 76 rfl) h (by decide) (by decide) (Nat.le_of_ble_eq_true rfl) (fun a12 h => ?_)
      refine x_istore (lv' := [(8, .int a12), (0, .ref (E.2.2 x0)), (1, .ref (E.2.2 x1)), (2, .ref (E.2.2 x2)), (3, .int x3), (4, .int (x3 * 8)), (5, .int a1), (6, .int y5.1), (7, .int y5.2)]) C (dq DX5_sample 77 rfl) (by decide) rfl ?_
      refine x_pc 128 rfl ?_
      refine x_aload_n C (dq DX5_sample 78 rfl) rfl 3 rfl ?_
      refine x_bipush (v := 110) C (dq DX5_sample 79 rfl) (by decide) ?_
      refine x_iload_n C (dq DX5_sample 80 rfl) rfl 4 rfl ?_
      refine x_iadd C (dq DX5_sample 81 rfl) ?_
      refine x_aload_n C (dq DX5_sample 82 rfl) rfl 3 rfl ?_
      refine x_pc 134 rfl ?_
      refine x_bipush (v := 30) C (dq DX5_sample 83 rfl) (by decide) ?_
      refine x_iload_n C (dq DX5_sample 84 rfl) rfl 4 rfl ?_
      refine x_iadd C (dq DX5_sample 85 rfl) ?_
      refine x_iald C (dq DX5_sample 86 rfl) h (fun a13 h => ?_)
      refine x_iast C (dq DX5_sample 87 rfl) h (fun m14 h => ?_)
      refine x_pc 140 rfl ?_
      refine x_iload C (dq DX5_sample 88 rfl) 0 rfl ?_
      refine x_if_le (tgt := 163) C (dq DX5_sample 89 rfl) (by decide) h (fun h => ?_) (fun h => ?_)
      · exact x_lv [1, 2] rfl (tX5_sample_163 C g0 g1 h hQ)
      · refine x_aload_n C (dq DX5_sample 90 rfl) rfl 3 rfl ?_
        refine x_bipush (v := 80) C (dq DX5_sample 91 rfl) (by decide) ?_
        refine x_iload_n C (dq DX5_sample 92 rfl) rfl 4 rfl ?_
        refine x_pc 149 rfl ?_
        refine x_iadd C (dq DX5_sample 93 rfl) ?_
        refine x_dup2 C (dq DX5_sample 94 rfl) rfl rfl ?_
        refine x_iald C (dq DX5_sample 95 rfl) h (fun a15 h => ?_)
        refine x_iconst (v := 1) C (dq DX5_sample 96 rfl) (by decide) ?_
        refine x_iadd C (dq DX5_sample 97 rfl) ?_
        refine x_pc 154 rfl ?_
        refine x_iast C (dq DX5_sample 98 rfl) h (fun m16 h => ?_)
        refine x_aload_n C (dq DX5_sample 99 rfl) rfl 3 rfl ?_
        refine x_iload C (dq DX5_sample 100 rfl) 7 rfl ?_
        refine x_iload C (dq DX5_sample 101 rfl) 0 rfl ?_
        refine callX5_99 C (dq DX5_sample 102 rfl) h (by decide) (by decide) (Nat.le_of_ble_eq_true rfl) (fun m17 h => ?_)
        exact x_lv [1, 2] rfl (tX5_sample_163 C g0 g1 h hQ)
    · exact x_lv [0, 1] rfl (tX5_sample_94 C g0 g1 h hQ)
set_option maxHeartbeats 1000000 in
theorem qX5_sample {S : List Sh} {mm : Mm} {x0 : Nat} {x1 : Nat} {x2 : Nat} {x3 : Int32} {r : Mm} (h : fX5_sample S mm x0 x1 x2 x3 = some r) : isC S x0 5 := by
  unfold fX5_sample at h
  exact (gd_some h).1
abbrev eX5_climb : List (Nat × Instr × Nat) := [(0, .aload_n 1, 1), (1, .sipush 216, 3), (4, .iload_n 2, 1), (5, .iadd, 1), (6, .iaload, 1), (7, .aload_n 1, 1), (8, .sipush 224, 3), (11, .iload_n 2, 1), (12, .iadd, 1), (13, .iaload, 1), (14, .invokestatic 27, 3), (17, .istore_n 3, 1), (18, .aload_n 1, 1), (19, .sipush 216, 3), (22, .iload_n 2, 1), (23, .iadd, 1), (24, .iaload, 1), (25, .aload_n 1, 1), (26, .sipush 224, 3), (29, .iload_n 2, 1), (30, .iadd, 1), (31, .iaload, 1), (32, .invokestatic 85, 3), (35, .istore 4, 2), (37, .aload_n 1, 1), (38, .sipush 208, 3), (41, .iload_n 2, 1), (42, .iadd, 1), (43, .iaload, 1), (44, .istore 5, 2), (46, .iload_n 3, 1), (47, .iconst 5, 1), (48, .if_icmp .le 23, 3), (51, .iload 5, 2), (53, .aload_n 0, 1), (54, .getfield 88, 3), (57, .iconst 5, 1), (58, .iaload, 1), (59, .iconst 2, 1), (60, .imul, 1), (61, .iload_n 3, 1), (62, .iconst 5, 1), (63, .isub, 1), (64, .imul, 1), (65, .iadd, 1), (66, .istore 5, 2), (68, .goto 20, 3), (71, .iload 4, 2), (73, .iconst 5, 1), (74, .if_icmp .le 14, 3), (77, .iload 5, 2), (79, .aload_n 0, 1), (80, .getfield 88, 3), (83, .iconst 5, 1), (84, .iaload, 1), (85, .iadd, 1), (86, .istore 5, 2), (88, .aload_n 1, 1), (89, .sipush 208, 3), (92, .iload_n 2, 1), (93, .iadd, 1), (94, .sipush 1024, 3), (97, .iload 5, 2), (99, .invokestatic 27, 3), (102, .iastore, 1), (103, .aload_n 1, 1), (104, .sipush 200, 3), (107, .iload_n 2, 1), (108, .iadd, 1), (109, .aload_n 1, 1), (110, .sipush 200, 3), (113, .iload_n 2, 1), (114, .iadd, 1), (115, .iaload, 1), (116, .aload_n 1, 1), (117, .sipush 208, 3), (120, .iload_n 2, 1), (121, .iadd, 1), (122, .iaload, 1), (123, .iadd, 1), (124, .iconst 2, 1), (125, .idiv, 1), (126, .iastore, 1), (127, .return_, 1)]
theorem DX5_climb : (eX5_climb.all fun q => decide (decode cX5_climb q.1 = .ok q.2)) = true := by decide +kernel
def jX5_climb_88 (S : List Sh) (mm : Mm) (x0 : Nat) (x1 : Nat) (x2 : Int32) (x5 : Int32)  : Option (Mm) := bd1 (stA S 0 mm x1 (208 + x2) (if x5 < 1024 then x5 else 1024)) fun m6 => bd1 (ldA S 0 m6 x1 (200 + x2)) fun a7 => bd1 (ldA S 0 m6 x1 (208 + x2)) fun a8 => bd1 (dvI (a7 + a8) 2) fun a9 => bd1 (stA S 0 m6 x1 (200 + x2) a9) fun m10 => some m10
def fX5_climb (S : List Sh) (mm : Mm) (x0 : Nat) (x1 : Nat) (x2 : Int32) : Option (Mm) := gd S x0 1 (bd1 (ldA S 0 mm x1 (216 + x2)) fun a1 => bd1 (ldA S 0 mm x1 (224 + x2)) fun a2 => bd1 (ldA S 0 mm x1 (216 + x2)) fun a3 => bd1 (ldA S 0 mm x1 (224 + x2)) fun a4 => bd1 (ldA S 0 mm x1 (208 + x2)) fun a5 => if (if a2 < a1 then a2 else a1) ≤ 5 then (if (if a3 < a4 then a4 else a3) ≤ 5 then (jX5_climb_88 S mm x0 x1 x2 a5) else (bd1 (ldA S 0 mm (rf S mm x0 8) 5) fun a11 => jX5_climb_88 S mm x0 x1 x2 (a5 + a11))) else (bd1 (ldA S 0 mm (rf S mm x0 8) 5) fun a12 => jX5_climb_88 S mm x0 x1 x2 (a5 + ((a12 * 2) * ((if a2 < a1 then a2 else a1) - 5)))))
set_option maxHeartbeats 1000000 in
theorem tX5_climb_88 {G : Gt} {l : Launch} {E : Ev} {S : List Sh} {mm : Mm} {x0 : Nat} {x1 : Nat} {x2 : Int32} {x5 : Int32}  {r : Mm} (C : Cx G E cX5_climb 6 RX5 none 1 29) (g0 : isC S x0 1) (h : jX5_climb_88 S mm x0 x1 x2 x5 = some r) (hQ : RQ G E S none r) : WM G l E S 88 [(0, .ref (E.2.2 x0)), (1, .ref (E.2.2 x1)), (2, .int x2), (5, .int x5)] [] mm := by
  unfold jX5_climb_88 at h
  refine x_aload_n C (dq DX5_climb 57 rfl) rfl 1 rfl ?_
  refine x_sipush (v := 208) C (dq DX5_climb 58 rfl) (by decide) ?_
  refine x_iload_n C (dq DX5_climb 59 rfl) rfl 2 rfl ?_
  refine x_iadd C (dq DX5_climb 60 rfl) ?_
  refine x_pc 94 rfl ?_
  refine x_sipush (v := 1024) C (dq DX5_climb 61 rfl) (by decide) ?_
  refine x_iload C (dq DX5_climb 62 rfl) 3 rfl ?_
  refine callX5_27 C (dq DX5_climb 63 rfl) (by decide) (Nat.le_of_ble_eq_true rfl) ?_
  refine x_iast C (dq DX5_climb 64 rfl) h (fun m6 h => ?_)
  refine x_aload_n C (dq DX5_climb 65 rfl) rfl 1 rfl ?_
  refine x_pc 104 rfl ?_
  refine x_sipush (v := 200) C (dq DX5_climb 66 rfl) (by decide) ?_
  refine x_iload_n C (dq DX5_climb 67 rfl) rfl 2 rfl ?_
  refine x_iadd C (dq DX5_climb 68 rfl) ?_
  refine x_aload_n C (dq DX5_climb 69 rfl) rfl 1 rfl ?_
  refine x_sipush (v := 200) C (dq DX5_climb 70 rfl) (by decide) ?_
  refine x_pc 113 rfl ?_
  refine x_iload_n C (dq DX5_climb 71 rfl) rfl 2 rfl ?_
  refine x_iadd C (dq DX5_climb 72 rfl) ?_
  refine x_iald C (dq DX5_climb 73 rfl) h (fun a7 h => ?_)
  refine x_aload_n C (dq DX5_climb 74 rfl) rfl 1 rfl ?_
  refine x_sipush (v := 208) C (dq DX5_climb 75 rfl) (by decide) ?_
  refine x_pc 120 rfl ?_
  refine x_iload_n C (dq DX5_climb 76 rfl) rfl 2 rfl ?_
  refine x_iadd C (dq DX5_climb 77 rfl) ?_
  refine x_iald C (dq DX5_climb 78 rfl) h (fun a8 h => ?_)
  refine x_iadd C (dq DX5_climb 79 rfl) ?_
  refine x_iconst (v := 2) C (dq DX5_climb 80 rfl) (by decide) ?_
  refine x_pc 125 rfl ?_
  refine x_idiv C (dq DX5_climb 81 rfl) h (fun a9 h => ?_)
  refine x_iast C (dq DX5_climb 82 rfl) h (fun m10 h => ?_)
  cases h
  exact x_vret C (dq DX5_climb 83 rfl) hQ
set_option maxHeartbeats 1000000 in
theorem mX5_climb {l : Launch} {E : Ev} {S : List Sh} {mm : Mm} {x0 : Nat} {x1 : Nat} {x2 : Int32} {r : Mm} (h : fX5_climb S mm x0 x1 x2 = some r) : Ml l E S yX5_climb cX5_climb 6 none 1 29 [.ref (E.2.2 x0), .ref (E.2.2 x1), .int x2] mm none r := by
  refine Ml.of (by decide +kernel) (Nat.le_of_ble_eq_true rfl) (fun G C hQ => ?_)
  have C : Cx G E cX5_climb 6 RX5 none 1 29 := C
  unfold fX5_climb at h
  obtain ⟨g0, h⟩ := gd_some h
  show WM G l E S 0 [(0, .ref (E.2.2 x0)), (1, .ref (E.2.2 x1)), (2, .int x2)] [] mm
  refine x_aload_n C (dq DX5_climb 0 rfl) rfl 1 rfl ?_
  refine x_sipush (v := 216) C (dq DX5_climb 1 rfl) (by decide) ?_
  refine x_iload_n C (dq DX5_climb 2 rfl) rfl 2 rfl ?_
  refine x_iadd C (dq DX5_climb 3 rfl) ?_
  refine x_pc 6 rfl ?_
  refine x_iald C (dq DX5_climb 4 rfl) h (fun a1 h => ?_)
  refine x_aload_n C (dq DX5_climb 5 rfl) rfl 1 rfl ?_
  refine x_sipush (v := 224) C (dq DX5_climb 6 rfl) (by decide) ?_
  refine x_iload_n C (dq DX5_climb 7 rfl) rfl 2 rfl ?_
  refine x_iadd C (dq DX5_climb 8 rfl) ?_
  refine x_pc 13 rfl ?_
  refine x_iald C (dq DX5_climb 9 rfl) h (fun a2 h => ?_)
  refine callX5_27 C (dq DX5_climb 10 rfl) (by decide) (Nat.le_of_ble_eq_true rfl) ?_
  refine x_istore_n (lv' := [(3, .int (if a2 < a1 then a2 else a1)), (0, .ref (E.2.2 x0)), (1, .ref (E.2.2 x1)), (2, .int x2)]) C (dq DX5_climb 11 rfl) rfl (by decide) rfl ?_
  refine x_aload_n C (dq DX5_climb 12 rfl) rfl 2 rfl ?_
  refine x_sipush (v := 216) C (dq DX5_climb 13 rfl) (by decide) ?_
  refine x_pc 22 rfl ?_
  refine x_iload_n C (dq DX5_climb 14 rfl) rfl 3 rfl ?_
  refine x_iadd C (dq DX5_climb 15 rfl) ?_
  refine x_iald C (dq DX5_climb 16 rfl) h (fun a3 h => ?_)
  refine x_aload_n C (dq DX5_climb 17 rfl) rfl 2 rfl ?_
  refine x_sipush (v := 224) C (dq DX5_climb 18 rfl) (by decide) ?_
  refine x_pc 29 rfl ?_
  refine x_iload_n C (dq DX5_climb 19 rfl) rfl 3 rfl ?_
  refine x_iadd C (dq DX5_climb 20 rfl) ?_
  refine x_iald C (dq DX5_climb 21 rfl) h (fun a4 h => ?_)
  refine callX5_85 C (dq DX5_climb 22 rfl) (by decide) (Nat.le_of_ble_eq_true rfl) ?_
  refine x_istore (lv' := [(4, .int (if a3 < a4 then a4 else a3)), (3, .int (if a2 < a1 then a2 else a1)), (0, .ref (E.2.2 x0)), (1, .ref (E.2.2 x1)), (2, .int x2)]) C (dq DX5_climb 23 rfl) (by decide) rfl ?_
  refine x_pc 37 rfl ?_
  refine x_aload_n C (dq DX5_climb 24 rfl) rfl 3 rfl ?_
  refine x_sipush (v := 208) C (dq DX5_climb 25 rfl) (by decide) ?_
  refine x_iload_n C (dq DX5_climb 26 rfl) rfl 4 rfl ?_
  refine x_iadd C (dq DX5_climb 27 rfl) ?_
  refine x_iald C (dq DX5_climb 28 rfl) h (fun a5 h => ?_)
  refine x_pc 44 rfl ?_
  refine x_istore (lv' := [(5, .int a5), (4, .int (if a3 < a4 then a4 else a3)), (3, .int (if a2 < a1 then a2 else a1)), (0, .ref (E.2.2 x0)), (1, .ref (E.2.2 x1)), (2, .int x2)]) C (dq DX5_climb 29 rfl) (by decide) rfl ?_
  refine x_iload_n C (dq DX5_climb 30 rfl) rfl 2 rfl ?_
  refine x_iconst (v := 5) C (dq DX5_climb 31 rfl) (by decide) ?_
  refine x_icmp_le (tgt := 71) C (dq DX5_climb 32 rfl) (by decide) h (fun h => ?_) (fun h => ?_)
  · refine x_iload C (dq DX5_climb 47 rfl) 1 rfl ?_
    refine x_pc 73 rfl ?_
    refine x_iconst (v := 5) C (dq DX5_climb 48 rfl) (by decide) ?_
    refine x_icmp_le (tgt := 88) C (dq DX5_climb 49 rfl) (by decide) h (fun h => ?_) (fun h => ?_)
    · exact x_lv [3, 4, 5, 0] rfl (tX5_climb_88 C g0 h hQ)
    · refine x_iload C (dq DX5_climb 50 rfl) 0 rfl ?_
      refine x_aload_n C (dq DX5_climb 51 rfl) rfl 3 rfl ?_
      refine getX5_88 C (dq DX5_climb 52 rfl) g0 ?_
      refine x_pc 83 rfl ?_
      refine x_iconst (v := 5) C (dq DX5_climb 53 rfl) (by decide) ?_
      refine x_iald C (dq DX5_climb 54 rfl) h (fun a11 h => ?_)
      refine x_iadd C (dq DX5_climb 55 rfl) ?_
      refine x_istore (lv' := [(5, .int (a5 + a11)), (4, .int (if a3 < a4 then a4 else a3)), (3, .int (if a2 < a1 then a2 else a1)), (0, .ref (E.2.2 x0)), (1, .ref (E.2.2 x1)), (2, .int x2)]) C (dq DX5_climb 56 rfl) (by decide) rfl ?_
      exact x_lv [3, 4, 5, 0] rfl (tX5_climb_88 C g0 h hQ)
  · refine x_iload C (dq DX5_climb 33 rfl) 0 rfl ?_
    refine x_pc 53 rfl ?_
    refine x_aload_n C (dq DX5_climb 34 rfl) rfl 3 rfl ?_
    refine getX5_88 C (dq DX5_climb 35 rfl) g0 ?_
    refine x_iconst (v := 5) C (dq DX5_climb 36 rfl) (by decide) ?_
    refine x_iald C (dq DX5_climb 37 rfl) h (fun a12 h => ?_)
    refine x_iconst (v := 2) C (dq DX5_climb 38 rfl) (by decide) ?_
    refine x_pc 60 rfl ?_
    refine x_imul C (dq DX5_climb 39 rfl) ?_
    refine x_iload_n C (dq DX5_climb 40 rfl) rfl 2 rfl ?_
    refine x_iconst (v := 5) C (dq DX5_climb 41 rfl) (by decide) ?_
    refine x_isub C (dq DX5_climb 42 rfl) ?_
    refine x_imul C (dq DX5_climb 43 rfl) ?_
    refine x_pc 65 rfl ?_
    refine x_iadd C (dq DX5_climb 44 rfl) ?_
    refine x_istore (lv' := [(5, .int (a5 + ((a12 * 2) * ((if a2 < a1 then a2 else a1) - 5)))), (4, .int (if a3 < a4 then a4 else a3)), (3, .int (if a2 < a1 then a2 else a1)), (0, .ref (E.2.2 x0)), (1, .ref (E.2.2 x1)), (2, .int x2)]) C (dq DX5_climb 45 rfl) (by decide) rfl ?_
    refine x_goto (tgt := 88) C (dq DX5_climb 46 rfl) (by decide) ?_
    exact x_lv [3, 4, 5, 0] rfl (tX5_climb_88 C g0 h hQ)
