theorem getX8_20 {G : Gt} {l : Launch} {E : Ev} {S : List Sh} {cc : ByteArray} {nL : Nat} {rt : Option FieldType} {fr lo : Nat} {pc : Nat} {lv : List (Nat × Value)} {st : List Value} {mm : Mm} {o : Nat} (C : Cx G E cc nL RX8 rt fr lo) (d : decode cc pc = .ok (.getfield 20, 3)) (hg : isC S o 8) (k : WM G l E S (pc + 3) lv (.ref (E.2.2 (rf S mm o 5)) :: st) mm) : WM G l E S pc lv (.ref (E.2.2 o) :: st) mm := x_get2 C hg (T := TX8) (N := 49) rfl inX8 (by decide) (i := 5) (gmem 870 (by decide +kernel) rfl) rfl rfl d k
theorem getX8_23 {G : Gt} {l : Launch} {E : Ev} {S : List Sh} {cc : ByteArray} {nL : Nat} {rt : Option FieldType} {fr lo : Nat} {pc : Nat} {lv : List (Nat × Value)} {st : List Value} {mm : Mm} {o : Nat} (C : Cx G E cc nL RX8 rt fr lo) (d : decode cc pc = .ok (.getfield 23, 3)) (hg : isC S o 8) (k : WM G l E S (pc + 3) lv (.ref (E.2.2 (rf S mm o 6)) :: st) mm) : WM G l E S pc lv (.ref (E.2.2 o) :: st) mm := x_get2 C hg (T := TX8) (N := 49) rfl inX8 (by decide) (i := 6) (gmem 871 (by decide +kernel) rfl) rfl rfl d k
theorem getX8_26 {G : Gt} {l : Launch} {E : Ev} {S : List Sh} {cc : ByteArray} {nL : Nat} {rt : Option FieldType} {fr lo : Nat} {pc : Nat} {lv : List (Nat × Value)} {st : List Value} {mm : Mm} {o : Nat} (C : Cx G E cc nL RX8 rt fr lo) (d : decode cc pc = .ok (.getfield 26, 3)) (hg : isC S o 8) (k : WM G l E S (pc + 3) lv (.ref (E.2.2 (rf S mm o 7)) :: st) mm) : WM G l E S pc lv (.ref (E.2.2 o) :: st) mm := x_get2 C hg (T := TX8) (N := 49) rfl inX8 (by decide) (i := 7) (gmem 872 (by decide +kernel) rfl) rfl rfl d k
theorem getX8_29 {G : Gt} {l : Launch} {E : Ev} {S : List Sh} {cc : ByteArray} {nL : Nat} {rt : Option FieldType} {fr lo : Nat} {pc : Nat} {lv : List (Nat × Value)} {st : List Value} {mm : Mm} {o : Nat} (C : Cx G E cc nL RX8 rt fr lo) (d : decode cc pc = .ok (.getfield 29, 3)) (hg : isC S o 8) (k : WM G l E S (pc + 3) lv (.ref (E.2.2 (rf S mm o 8)) :: st) mm) : WM G l E S pc lv (.ref (E.2.2 o) :: st) mm := x_get2 C hg (T := TX8) (N := 49) rfl inX8 (by decide) (i := 8) (gmem 873 (by decide +kernel) rfl) rfl rfl d k
theorem getX8_32 {G : Gt} {l : Launch} {E : Ev} {S : List Sh} {cc : ByteArray} {nL : Nat} {rt : Option FieldType} {fr lo : Nat} {pc : Nat} {lv : List (Nat × Value)} {st : List Value} {mm : Mm} {o : Nat} (C : Cx G E cc nL RX8 rt fr lo) (d : decode cc pc = .ok (.getfield 32, 3)) (hg : isC S o 8) (k : WM G l E S (pc + 3) lv (.ref (E.2.2 (rf S mm o 9)) :: st) mm) : WM G l E S pc lv (.ref (E.2.2 o) :: st) mm := x_get2 C hg (T := TX8) (N := 49) rfl inX8 (by decide) (i := 9) (gmem 874 (by decide +kernel) rfl) rfl rfl d k
theorem getX8_35 {G : Gt} {l : Launch} {E : Ev} {S : List Sh} {cc : ByteArray} {nL : Nat} {rt : Option FieldType} {fr lo : Nat} {pc : Nat} {lv : List (Nat × Value)} {st : List Value} {mm : Mm} {o : Nat} (C : Cx G E cc nL RX8 rt fr lo) (d : decode cc pc = .ok (.getfield 35, 3)) (hg : isC S o 8) (k : WM G l E S (pc + 3) lv (.ref (E.2.2 (rf S mm o 10)) :: st) mm) : WM G l E S pc lv (.ref (E.2.2 o) :: st) mm := x_get2 C hg (T := TX8) (N := 49) rfl inX8 (by decide) (i := 10) (gmem 875 (by decide +kernel) rfl) rfl rfl d k
theorem getX8_38 {G : Gt} {l : Launch} {E : Ev} {S : List Sh} {cc : ByteArray} {nL : Nat} {rt : Option FieldType} {fr lo : Nat} {pc : Nat} {lv : List (Nat × Value)} {st : List Value} {mm : Mm} {o : Nat} (C : Cx G E cc nL RX8 rt fr lo) (d : decode cc pc = .ok (.getfield 38, 3)) (hg : isC S o 8) (k : WM G l E S (pc + 3) lv (.ref (E.2.2 (rf S mm o 11)) :: st) mm) : WM G l E S pc lv (.ref (E.2.2 o) :: st) mm := x_get2 C hg (T := TX8) (N := 49) rfl inX8 (by decide) (i := 11) (gmem 876 (by decide +kernel) rfl) rfl rfl d k
theorem getX8_41 {G : Gt} {l : Launch} {E : Ev} {S : List Sh} {cc : ByteArray} {nL : Nat} {rt : Option FieldType} {fr lo : Nat} {pc : Nat} {lv : List (Nat × Value)} {st : List Value} {mm : Mm} {o : Nat} (C : Cx G E cc nL RX8 rt fr lo) (d : decode cc pc = .ok (.getfield 41, 3)) (hg : isC S o 8) (k : WM G l E S (pc + 3) lv (.ref (E.2.2 (rf S mm o 12)) :: st) mm) : WM G l E S pc lv (.ref (E.2.2 o) :: st) mm := x_get2 C hg (T := TX8) (N := 49) rfl inX8 (by decide) (i := 12) (gmem 877 (by decide +kernel) rfl) rfl rfl d k
theorem getX8_44 {G : Gt} {l : Launch} {E : Ev} {S : List Sh} {cc : ByteArray} {nL : Nat} {rt : Option FieldType} {fr lo : Nat} {pc : Nat} {lv : List (Nat × Value)} {st : List Value} {mm : Mm} {o : Nat} (C : Cx G E cc nL RX8 rt fr lo) (d : decode cc pc = .ok (.getfield 44, 3)) (hg : isC S o 8) (k : WM G l E S (pc + 3) lv (.ref (E.2.2 (rf S mm o 13)) :: st) mm) : WM G l E S pc lv (.ref (E.2.2 o) :: st) mm := x_get2 C hg (T := TX8) (N := 49) rfl inX8 (by decide) (i := 13) (gmem 878 (by decide +kernel) rfl) rfl rfl d k
theorem callX8_185 {G : Gt} {l : Launch} {E : Ev} {S : List Sh} {cc : ByteArray} {nL : Nat} {rt : Option FieldType} {fr lo : Nat} {pc : Nat} {lv : List (Nat × Value)} {rest : List Value} {mm : Mm} {α : Type} {f : Int32 → Option α} {r : α} {o : Nat} {a0 : Int32} (C : Cx G E cc nL RX8 rt fr lo) (d : decode cc pc = .ok (.invokevirtual 185, 3)) (h : bd1 (fX8_reading S mm o a0) f = some r) (hfr : 1 ≤ fr) (hlo : 21 ≤ lo) (hrs : (rest.map fun v => v.category).sum ≤ 8) (k : ∀ v, f v = some r → WM G l E S (pc + 3) lv (.int v :: rest) mm) : WM G l E S pc lv (.int a0 :: .ref (E.2.2 o) :: rest) mm := by
  obtain ⟨v, hv, hf⟩ := bd1_some h
  exact x_callV (n := 1) (As := [.int a0]) (rest := rest) C (mX8_reading hv) (qX8_reading hv) (T := TX8) (N := 49) rfl (gmem 849 (by decide +kernel) rfl) (gmem 851 (by decide +kernel) rfl) (gmemS 41 (by decide +kernel) rfl) (gmem 9 (by decide +kernel) rfl) (gmem 852 (by decide +kernel) rfl) (by decide +kernel) rfl hfr hlo hrs d rfl rfl (k v hf)
abbrev eX8_takeText : List (Nat × Instr × Nat) := [(0, .iconst 0, 1), (1, .istore_n 1, 1), (2, .iload_n 1, 1), (3, .bipush 9, 2), (5, .if_icmp .ge 20, 3), (8, .aload_n 0, 1), (9, .getfield 13, 3), (12, .iload_n 1, 1), (13, .aload_n 0, 1), (14, .iload_n 1, 1), (15, .invokevirtual 185, 3), (18, .iastore, 1), (19, .iinc 1 1, 3), (22, .goto (-20), 3), (25, .iconst 0, 1), (26, .istore_n 1, 1), (27, .iload_n 1, 1), (28, .bipush 10, 2), (30, .if_icmp .ge 99, 3), (33, .aload_n 0, 1), (34, .getfield 20, 3), (37, .iload_n 1, 1), (38, .aload_n 0, 1), (39, .getfield 20, 3), (42, .bipush 10, 2), (44, .iload_n 1, 1), (45, .iadd, 1), (46, .iaload, 1), (47, .iastore, 1), (48, .aload_n 0, 1), (49, .getfield 23, 3), (52, .iload_n 1, 1), (53, .aload_n 0, 1), (54, .getfield 23, 3), (57, .bipush 10, 2), (59, .iload_n 1, 1), (60, .iadd, 1), (61, .iaload, 1), (62, .iastore, 1), (63, .aload_n 0, 1), (64, .getfield 26, 3), (67, .iload_n 1, 1), (68, .aload_n 0, 1), (69, .getfield 26, 3), (72, .bipush 10, 2), (74, .iload_n 1, 1), (75, .iadd, 1), (76, .iaload, 1), (77, .iastore, 1), (78, .aload_n 0, 1), (79, .getfield 29, 3), (82, .iload_n 1, 1), (83, .aload_n 0, 1), (84, .getfield 29, 3), (87, .bipush 10, 2), (89, .iload_n 1, 1), (90, .iadd, 1), (91, .iaload, 1), (92, .iastore, 1), (93, .aload_n 0, 1), (94, .getfield 32, 3), (97, .iload_n 1, 1), (98, .aload_n 0, 1), (99, .getfield 32, 3), (102, .bipush 10, 2), (104, .iload_n 1, 1), (105, .iadd, 1), (106, .iaload, 1), (107, .iastore, 1), (108, .aload_n 0, 1), (109, .getfield 35, 3), (112, .iload_n 1, 1), (113, .aload_n 0, 1), (114, .getfield 35, 3), (117, .bipush 10, 2), (119, .iload_n 1, 1), (120, .iadd, 1), (121, .iaload, 1), (122, .iastore, 1), (123, .iinc 1 1, 3), (126, .goto (-99), 3), (129, .iconst 0, 1), (130, .istore_n 1, 1), (131, .iload_n 1, 1), (132, .bipush 8, 2), (134, .if_icmp .ge 69, 3), (137, .aload_n 0, 1), (138, .getfield 38, 3), (141, .iload_n 1, 1), (142, .aload_n 0, 1), (143, .getfield 38, 3), (146, .bipush 8, 2), (148, .iload_n 1, 1), (149, .iadd, 1), (150, .iaload, 1), (151, .iastore, 1), (152, .aload_n 0, 1), (153, .getfield 41, 3), (156, .iload_n 1, 1), (157, .aload_n 0, 1), (158, .getfield 41, 3), (161, .bipush 8, 2), (163, .iload_n 1, 1), (164, .iadd, 1), (165, .iaload, 1), (166, .iastore, 1), (167, .aload_n 0, 1), (168, .getfield 44, 3), (171, .iload_n 1, 1), (172, .aload_n 0, 1), (173, .getfield 44, 3), (176, .bipush 8, 2), (178, .iload_n 1, 1), (179, .iadd, 1), (180, .baload, 1), (181, .bastore, 1), (182, .aload_n 0, 1), (183, .getfield 47, 3), (186, .iload_n 1, 1), (187, .aload_n 0, 1), (188, .getfield 47, 3), (191, .bipush 8, 2), (193, .iload_n 1, 1), (194, .iadd, 1), (195, .iaload, 1), (196, .iastore, 1), (197, .iinc 1 1, 3), (200, .goto (-69), 3), (203, .iconst 0, 1), (204, .istore_n 1, 1), (205, .iload_n 1, 1), (206, .bipush 40, 2), (208, .if_icmp .ge 24, 3), (211, .aload_n 0, 1), (212, .getfield 50, 3), (215, .iload_n 1, 1), (216, .aload_n 0, 1), (217, .getfield 50, 3), (220, .bipush 40, 2), (222, .iload_n 1, 1), (223, .iadd, 1), (224, .iaload, 1), (225, .iastore, 1), (226, .iinc 1 1, 3), (229, .goto (-24), 3), (232, .return_, 1)]
theorem DX8_takeText : (eX8_takeText.all fun q => decide (decode cX8_takeText q.1 = .ok q.2)) = true := by decide +kernel
def bX8_takeText_2 (S : List Sh) (x0 : Nat) (x1 : Int32) (mm : Mm) : Option ((Int32 × Mm) ⊕ (Mm)) := if 9 ≤ x1 then (some (.inr (mm))) else (bd1 (fX8_reading S mm x0 x1) fun a1 => bd1 (stA S 0 mm (rf S mm x0 3) x1 a1) fun m2 => some (.inl (x1 + 1, m2)))
def bX8_takeText_27 (S : List Sh) (x0 : Nat) (x1 : Int32) (mm : Mm) : Option ((Int32 × Mm) ⊕ (Mm)) := if 10 ≤ x1 then (some (.inr (mm))) else (bd1 (ldA S 0 mm (rf S mm x0 5) (10 + x1)) fun a5 => bd1 (stA S 0 mm (rf S mm x0 5) x1 a5) fun m6 => bd1 (ldA S 0 m6 (rf S m6 x0 6) (10 + x1)) fun a7 => bd1 (stA S 0 m6 (rf S m6 x0 6) x1 a7) fun m8 => bd1 (ldA S 0 m8 (rf S m8 x0 7) (10 + x1)) fun a9 => bd1 (stA S 0 m8 (rf S m8 x0 7) x1 a9) fun m10 => bd1 (ldA S 0 m10 (rf S m10 x0 8) (10 + x1)) fun a11 => bd1 (stA S 0 m10 (rf S m10 x0 8) x1 a11) fun m12 => bd1 (ldA S 0 m12 (rf S m12 x0 9) (10 + x1)) fun a13 => bd1 (stA S 0 m12 (rf S m12 x0 9) x1 a13) fun m14 => bd1 (ldA S 0 m14 (rf S m14 x0 10) (10 + x1)) fun a15 => bd1 (stA S 0 m14 (rf S m14 x0 10) x1 a15) fun m16 => some (.inl (x1 + 1, m16)))
def bX8_takeText_131 (S : List Sh) (x0 : Nat) (x1 : Int32) (mm : Mm) : Option ((Int32 × Mm) ⊕ (Mm)) := if 8 ≤ x1 then (some (.inr (mm))) else (bd1 (ldA S 0 mm (rf S mm x0 11) (8 + x1)) fun a19 => bd1 (stA S 0 mm (rf S mm x0 11) x1 a19) fun m20 => bd1 (ldA S 0 m20 (rf S m20 x0 12) (8 + x1)) fun a21 => bd1 (stA S 0 m20 (rf S m20 x0 12) x1 a21) fun m22 => bd1 (ldA S 2 m22 (rf S m22 x0 13) (8 + x1)) fun a23 => bd1 (stA S 2 m22 (rf S m22 x0 13) x1 a23) fun m24 => bd1 (ldA S 0 m24 (rf S m24 x0 14) (8 + x1)) fun a25 => bd1 (stA S 0 m24 (rf S m24 x0 14) x1 a25) fun m26 => some (.inl (x1 + 1, m26)))
def bX8_takeText_205 (S : List Sh) (x0 : Nat) (x1 : Int32) (mm : Mm) : Option ((Int32 × Mm) ⊕ (Mm)) := if 40 ≤ x1 then (some (.inr (mm))) else (bd1 (ldA S 0 mm (rf S mm x0 15) (40 + x1)) fun a29 => bd1 (stA S 0 mm (rf S mm x0 15) x1 a29) fun m30 => some (.inl (x1 + 1, m30)))
def fX8_takeText (S : List Sh) (mm : Mm) (x0 : Nat) : Option (Mm) := gd S x0 8 (bd1 (lp (fun s3 => bX8_takeText_2 S x0 s3.1 s3.2) fu (0, mm)) fun y4 => bd1 (lp (fun s17 => bX8_takeText_27 S x0 s17.1 s17.2) fu (0, y4)) fun y18 => bd1 (lp (fun s27 => bX8_takeText_131 S x0 s27.1 s27.2) fu (0, y18)) fun y28 => bd1 (lp (fun s31 => bX8_takeText_205 S x0 s31.1 s31.2) fu (0, y28)) fun y32 => some y32)
set_option maxHeartbeats 1000000 in
theorem tX8_takeText_2 {G : Gt} {l : Launch} {E : Ev} {S : List Sh} {x0 : Nat} {x1 : Int32} {mm : Mm} {r : (Int32 × Mm) ⊕ (Mm)} (C : Cx G E cX8_takeText 2 RX8 none 1 21) (g0 : isC S x0 8) (h : bX8_takeText_2 S x0 x1 mm = some r) (kb : ∀ z : Int32 × Mm, r = .inl z → WM G l E S 2 [(0, .ref (E.2.2 x0)), (1, .int z.1)] [] z.2) (kx : ∀ z : Mm, r = .inr z → WM G l E S 25 [(0, .ref (E.2.2 x0))] [] z) : WM G l E S 2 [(0, .ref (E.2.2 x0)), (1, .int x1)] [] mm := by
  unfold bX8_takeText_2 at h
  refine x_iload_n C (dq DX8_takeText 2 rfl) rfl 1 rfl ?_
  refine x_bipush (v := 9) C (dq DX8_takeText 3 rfl) (by decide) ?_
  refine x_icmp_ge (tgt := 25) C (dq DX8_takeText 4 rfl) (by decide) h (fun h => ?_) (fun h => ?_)
  · cases h
    exact x_lv [0] rfl (kx (mm) rfl)
  · refine x_aload_n C (dq DX8_takeText 5 rfl) rfl 0 rfl ?_
    refine x_pc 9 rfl ?_
    refine getX8_13 C (dq DX8_takeText 6 rfl) g0 ?_
    refine x_iload_n C (dq DX8_takeText 7 rfl) rfl 1 rfl ?_
    refine x_aload_n C (dq DX8_takeText 8 rfl) rfl 0 rfl ?_
    refine x_iload_n C (dq DX8_takeText 9 rfl) rfl 1 rfl ?_
    refine callX8_185 C (dq DX8_takeText 10 rfl) h (by decide) (by decide) (Nat.le_of_ble_eq_true rfl) (fun a1 h => ?_)
    refine x_pc 18 rfl ?_
    refine x_iast C (dq DX8_takeText 11 rfl) h (fun m2 h => ?_)
    refine x_iinc (v := x1 + 1) (lv' := [(1, .int (x1 + 1)), (0, .ref (E.2.2 x0))]) C (dq DX8_takeText 12 rfl) 1 rfl rfl (by decide) rfl ?_
    refine x_goto (tgt := 2) C (dq DX8_takeText 13 rfl) (by decide) ?_
    cases h
    exact x_lv [1, 0] rfl (kb (x1 + 1, m2) rfl)
set_option maxHeartbeats 1000000 in
theorem tX8_takeText_27 {G : Gt} {l : Launch} {E : Ev} {S : List Sh} {x0 : Nat} {x1 : Int32} {mm : Mm} {r : (Int32 × Mm) ⊕ (Mm)} (C : Cx G E cX8_takeText 2 RX8 none 1 21) (g0 : isC S x0 8) (h : bX8_takeText_27 S x0 x1 mm = some r) (kb : ∀ z : Int32 × Mm, r = .inl z → WM G l E S 27 [(0, .ref (E.2.2 x0)), (1, .int z.1)] [] z.2) (kx : ∀ z : Mm, r = .inr z → WM G l E S 129 [(0, .ref (E.2.2 x0))] [] z) : WM G l E S 27 [(0, .ref (E.2.2 x0)), (1, .int x1)] [] mm := by
  unfold bX8_takeText_27 at h
  refine x_iload_n C (dq DX8_takeText 16 rfl) rfl 1 rfl ?_
  refine x_bipush (v := 10) C (dq DX8_takeText 17 rfl) (by decide) ?_
  refine x_icmp_ge (tgt := 129) C (dq DX8_takeText 18 rfl) (by decide) h (fun h => ?_) (fun h => ?_)
  · cases h
    exact x_lv [0] rfl (kx (mm) rfl)
  · refine x_aload_n C (dq DX8_takeText 19 rfl) rfl 0 rfl ?_
    refine x_pc 34 rfl ?_
    refine getX8_20 C (dq DX8_takeText 20 rfl) g0 ?_
    refine x_iload_n C (dq DX8_takeText 21 rfl) rfl 1 rfl ?_
    refine x_aload_n C (dq DX8_takeText 22 rfl) rfl 0 rfl ?_
    refine getX8_20 C (dq DX8_takeText 23 rfl) g0 ?_
    refine x_bipush (v := 10) C (dq DX8_takeText 24 rfl) (by decide) ?_
    refine x_pc 44 rfl ?_
    refine x_iload_n C (dq DX8_takeText 25 rfl) rfl 1 rfl ?_
    refine x_iadd C (dq DX8_takeText 26 rfl) ?_
    refine x_iald C (dq DX8_takeText 27 rfl) h (fun a5 h => ?_)
    refine x_iast C (dq DX8_takeText 28 rfl) h (fun m6 h => ?_)
    refine x_aload_n C (dq DX8_takeText 29 rfl) rfl 0 rfl ?_
    refine x_pc 49 rfl ?_
    refine getX8_23 C (dq DX8_takeText 30 rfl) g0 ?_
    refine x_iload_n C (dq DX8_takeText 31 rfl) rfl 1 rfl ?_
    refine x_aload_n C (dq DX8_takeText 32 rfl) rfl 0 rfl ?_
    refine getX8_23 C (dq DX8_takeText 33 rfl) g0 ?_
    refine x_bipush (v := 10) C (dq DX8_takeText 34 rfl) (by decide) ?_
    refine x_pc 59 rfl ?_
    refine x_iload_n C (dq DX8_takeText 35 rfl) rfl 1 rfl ?_
    refine x_iadd C (dq DX8_takeText 36 rfl) ?_
    refine x_iald C (dq DX8_takeText 37 rfl) h (fun a7 h => ?_)
    refine x_iast C (dq DX8_takeText 38 rfl) h (fun m8 h => ?_)
    refine x_aload_n C (dq DX8_takeText 39 rfl) rfl 0 rfl ?_
    refine x_pc 64 rfl ?_
    refine getX8_26 C (dq DX8_takeText 40 rfl) g0 ?_
    refine x_iload_n C (dq DX8_takeText 41 rfl) rfl 1 rfl ?_
    refine x_aload_n C (dq DX8_takeText 42 rfl) rfl 0 rfl ?_
    refine getX8_26 C (dq DX8_takeText 43 rfl) g0 ?_
    refine x_bipush (v := 10) C (dq DX8_takeText 44 rfl) (by decide) ?_
    refine x_pc 74 rfl ?_
    refine x_iload_n C (dq DX8_takeText 45 rfl) rfl 1 rfl ?_
    refine x_iadd C (dq DX8_takeText 46 rfl) ?_
    refine x_iald C (dq DX8_takeText 47 rfl) h (fun a9 h => ?_)
    refine x_iast C (dq DX8_takeText 48 rfl) h (fun m10 h => ?_)
    refine x_aload_n C (dq DX8_takeText 49 rfl) rfl 0 rfl ?_
    refine x_pc 79 rfl ?_
    refine getX8_29 C (dq DX8_takeText 50 rfl) g0 ?_
    refine x_iload_n C (dq DX8_takeText 51 rfl) rfl 1 rfl ?_
    refine x_aload_n C (dq DX8_takeText 52 rfl) rfl 0 rfl ?_
    refine getX8_29 C (dq DX8_takeText 53 rfl) g0 ?_
    refine x_bipush (v := 10) C (dq DX8_takeText 54 rfl) (by decide) ?_
    refine x_pc 89 rfl ?_
    refine x_iload_n C (dq DX8_takeText 55 rfl) rfl 1 rfl ?_
    refine x_iadd C (dq DX8_takeText 56 rfl) ?_
    refine x_iald C (dq DX8_takeText 57 rfl) h (fun a11 h => ?_)
    refine x_iast C (dq DX8_takeText 58 rfl) h (fun m12 h => ?_)
    refine x_aload_n C (dq DX8_takeText 59 rfl) rfl 0 rfl ?_
    refine x_pc 94 rfl ?_
    refine getX8_32 C (dq DX8_takeText 60 rfl) g0 ?_
    refine x_iload_n C (dq DX8_takeText 61 rfl) rfl 1 rfl ?_
    refine x_aload_n C (dq DX8_takeText 62 rfl) rfl 0 rfl ?_
    refine getX8_32 C (dq DX8_takeText 63 rfl) g0 ?_
    refine x_bipush (v := 10) C (dq DX8_takeText 64 rfl) (by decide) ?_
    refine x_pc 104 rfl ?_
    refine x_iload_n C (dq DX8_takeText 65 rfl) rfl 1 rfl ?_
    refine x_iadd C (dq DX8_takeText 66 rfl) ?_
    refine x_iald C (dq DX8_takeText 67 rfl) h (fun a13 h => ?_)
    refine x_iast C (dq DX8_takeText 68 rfl) h (fun m14 h => ?_)
    refine x_aload_n C (dq DX8_takeText 69 rfl) rfl 0 rfl ?_
    refine x_pc 109 rfl ?_
    refine getX8_35 C (dq DX8_takeText 70 rfl) g0 ?_
    refine x_iload_n C (dq DX8_takeText 71 rfl) rfl 1 rfl ?_
    refine x_aload_n C (dq DX8_takeText 72 rfl) rfl 0 rfl ?_
    refine getX8_35 C (dq DX8_takeText 73 rfl) g0 ?_
    refine x_bipush (v := 10) C (dq DX8_takeText 74 rfl) (by decide) ?_
    refine x_pc 119 rfl ?_
    refine x_iload_n C (dq DX8_takeText 75 rfl) rfl 1 rfl ?_
    refine x_iadd C (dq DX8_takeText 76 rfl) ?_
    refine x_iald C (dq DX8_takeText 77 rfl) h (fun a15 h => ?_)
    refine x_iast C (dq DX8_takeText 78 rfl) h (fun m16 h => ?_)
    refine x_iinc (v := x1 + 1) (lv' := [(1, .int (x1 + 1)), (0, .ref (E.2.2 x0))]) C (dq DX8_takeText 79 rfl) 1 rfl rfl (by decide) rfl ?_
    refine x_pc 126 rfl ?_
    refine x_goto (tgt := 27) C (dq DX8_takeText 80 rfl) (by decide) ?_
    cases h
    exact x_lv [1, 0] rfl (kb (x1 + 1, m16) rfl)
set_option maxHeartbeats 1000000 in
theorem tX8_takeText_131 {G : Gt} {l : Launch} {E : Ev} {S : List Sh} {x0 : Nat} {x1 : Int32} {mm : Mm} {r : (Int32 × Mm) ⊕ (Mm)} (C : Cx G E cX8_takeText 2 RX8 none 1 21) (g0 : isC S x0 8) (h : bX8_takeText_131 S x0 x1 mm = some r) (kb : ∀ z : Int32 × Mm, r = .inl z → WM G l E S 131 [(0, .ref (E.2.2 x0)), (1, .int z.1)] [] z.2) (kx : ∀ z : Mm, r = .inr z → WM G l E S 203 [(0, .ref (E.2.2 x0))] [] z) : WM G l E S 131 [(0, .ref (E.2.2 x0)), (1, .int x1)] [] mm := by
  unfold bX8_takeText_131 at h
  refine x_iload_n C (dq DX8_takeText 83 rfl) rfl 1 rfl ?_
  refine x_bipush (v := 8) C (dq DX8_takeText 84 rfl) (by decide) ?_
  refine x_icmp_ge (tgt := 203) C (dq DX8_takeText 85 rfl) (by decide) h (fun h => ?_) (fun h => ?_)
  · cases h
    exact x_lv [0] rfl (kx (mm) rfl)
  · refine x_aload_n C (dq DX8_takeText 86 rfl) rfl 0 rfl ?_
    refine x_pc 138 rfl ?_
    refine getX8_38 C (dq DX8_takeText 87 rfl) g0 ?_
    refine x_iload_n C (dq DX8_takeText 88 rfl) rfl 1 rfl ?_
    refine x_aload_n C (dq DX8_takeText 89 rfl) rfl 0 rfl ?_
    refine getX8_38 C (dq DX8_takeText 90 rfl) g0 ?_
    refine x_bipush (v := 8) C (dq DX8_takeText 91 rfl) (by decide) ?_
    refine x_pc 148 rfl ?_
    refine x_iload_n C (dq DX8_takeText 92 rfl) rfl 1 rfl ?_
    refine x_iadd C (dq DX8_takeText 93 rfl) ?_
    refine x_iald C (dq DX8_takeText 94 rfl) h (fun a19 h => ?_)
    refine x_iast C (dq DX8_takeText 95 rfl) h (fun m20 h => ?_)
    refine x_aload_n C (dq DX8_takeText 96 rfl) rfl 0 rfl ?_
    refine x_pc 153 rfl ?_
    refine getX8_41 C (dq DX8_takeText 97 rfl) g0 ?_
    refine x_iload_n C (dq DX8_takeText 98 rfl) rfl 1 rfl ?_
    refine x_aload_n C (dq DX8_takeText 99 rfl) rfl 0 rfl ?_
    refine getX8_41 C (dq DX8_takeText 100 rfl) g0 ?_
    refine x_bipush (v := 8) C (dq DX8_takeText 101 rfl) (by decide) ?_
    refine x_pc 163 rfl ?_
    refine x_iload_n C (dq DX8_takeText 102 rfl) rfl 1 rfl ?_
    refine x_iadd C (dq DX8_takeText 103 rfl) ?_
    refine x_iald C (dq DX8_takeText 104 rfl) h (fun a21 h => ?_)
    refine x_iast C (dq DX8_takeText 105 rfl) h (fun m22 h => ?_)
    refine x_aload_n C (dq DX8_takeText 106 rfl) rfl 0 rfl ?_
    refine x_pc 168 rfl ?_
    refine getX8_44 C (dq DX8_takeText 107 rfl) g0 ?_
    refine x_iload_n C (dq DX8_takeText 108 rfl) rfl 1 rfl ?_
    refine x_aload_n C (dq DX8_takeText 109 rfl) rfl 0 rfl ?_
    refine getX8_44 C (dq DX8_takeText 110 rfl) g0 ?_
    refine x_bipush (v := 8) C (dq DX8_takeText 111 rfl) (by decide) ?_
    refine x_pc 178 rfl ?_
    refine x_iload_n C (dq DX8_takeText 112 rfl) rfl 1 rfl ?_
    refine x_iadd C (dq DX8_takeText 113 rfl) ?_
    refine x_zald C (dq DX8_takeText 114 rfl) h (fun a23 h => ?_)
    refine x_zast C (dq DX8_takeText 115 rfl) h (fun m24 h => ?_)
    refine x_aload_n C (dq DX8_takeText 116 rfl) rfl 0 rfl ?_
    refine x_pc 183 rfl ?_
    refine getX8_47 C (dq DX8_takeText 117 rfl) g0 ?_
    refine x_iload_n C (dq DX8_takeText 118 rfl) rfl 1 rfl ?_
    refine x_aload_n C (dq DX8_takeText 119 rfl) rfl 0 rfl ?_
    refine getX8_47 C (dq DX8_takeText 120 rfl) g0 ?_
    refine x_bipush (v := 8) C (dq DX8_takeText 121 rfl) (by decide) ?_
    refine x_pc 193 rfl ?_
    refine x_iload_n C (dq DX8_takeText 122 rfl) rfl 1 rfl ?_
    refine x_iadd C (dq DX8_takeText 123 rfl) ?_
    refine x_iald C (dq DX8_takeText 124 rfl) h (fun a25 h => ?_)
    refine x_iast C (dq DX8_takeText 125 rfl) h (fun m26 h => ?_)
    refine x_iinc (v := x1 + 1) (lv' := [(1, .int (x1 + 1)), (0, .ref (E.2.2 x0))]) C (dq DX8_takeText 126 rfl) 1 rfl rfl (by decide) rfl ?_
    refine x_pc 200 rfl ?_
    refine x_goto (tgt := 131) C (dq DX8_takeText 127 rfl) (by decide) ?_
    cases h
    exact x_lv [1, 0] rfl (kb (x1 + 1, m26) rfl)
set_option maxHeartbeats 1000000 in
theorem tX8_takeText_205 {G : Gt} {l : Launch} {E : Ev} {S : List Sh} {x0 : Nat} {x1 : Int32} {mm : Mm} {r : (Int32 × Mm) ⊕ (Mm)} (C : Cx G E cX8_takeText 2 RX8 none 1 21) (g0 : isC S x0 8) (h : bX8_takeText_205 S x0 x1 mm = some r) (kb : ∀ z : Int32 × Mm, r = .inl z → WM G l E S 205 [(0, .ref (E.2.2 x0)), (1, .int z.1)] [] z.2) (kx : ∀ z : Mm, r = .inr z → WM G l E S 232 [(0, .ref (E.2.2 x0))] [] z) : WM G l E S 205 [(0, .ref (E.2.2 x0)), (1, .int x1)] [] mm := by
  unfold bX8_takeText_205 at h
  refine x_iload_n C (dq DX8_takeText 130 rfl) rfl 1 rfl ?_
  refine x_bipush (v := 40) C (dq DX8_takeText 131 rfl) (by decide) ?_
  refine x_icmp_ge (tgt := 232) C (dq DX8_takeText 132 rfl) (by decide) h (fun h => ?_) (fun h => ?_)
  · cases h
    exact x_lv [0] rfl (kx (mm) rfl)
  · refine x_aload_n C (dq DX8_takeText 133 rfl) rfl 0 rfl ?_
    refine x_pc 212 rfl ?_
    refine getX8_50 C (dq DX8_takeText 134 rfl) g0 ?_
    refine x_iload_n C (dq DX8_takeText 135 rfl) rfl 1 rfl ?_
    refine x_aload_n C (dq DX8_takeText 136 rfl) rfl 0 rfl ?_
    refine getX8_50 C (dq DX8_takeText 137 rfl) g0 ?_
    refine x_bipush (v := 40) C (dq DX8_takeText 138 rfl) (by decide) ?_
    refine x_pc 222 rfl ?_
    refine x_iload_n C (dq DX8_takeText 139 rfl) rfl 1 rfl ?_
    refine x_iadd C (dq DX8_takeText 140 rfl) ?_
    refine x_iald C (dq DX8_takeText 141 rfl) h (fun a29 h => ?_)
    refine x_iast C (dq DX8_takeText 142 rfl) h (fun m30 h => ?_)
    refine x_iinc (v := x1 + 1) (lv' := [(1, .int (x1 + 1)), (0, .ref (E.2.2 x0))]) C (dq DX8_takeText 143 rfl) 1 rfl rfl (by decide) rfl ?_
    refine x_pc 229 rfl ?_
    refine x_goto (tgt := 205) C (dq DX8_takeText 144 rfl) (by decide) ?_
    cases h
    exact x_lv [1, 0] rfl (kb (x1 + 1, m30) rfl)
set_option maxHeartbeats 1000000 in
theorem mX8_takeText {l : Launch} {E : Ev} {S : List Sh} {mm : Mm} {x0 : Nat} {r : Mm} (h : fX8_takeText S mm x0 = some r) : Ml l E S yX8_takeText cX8_takeText 2 none 1 21 [.ref (E.2.2 x0)] mm none r := by
  refine Ml.of (by decide +kernel) (Nat.le_of_ble_eq_true rfl) (fun G C hQ => ?_)
  have C : Cx G E cX8_takeText 2 RX8 none 1 21 := C
  unfold fX8_takeText at h
  obtain ⟨g0, h⟩ := gd_some h
  show WM G l E S 0 [(0, .ref (E.2.2 x0))] [] mm
  refine x_iconst (v := 0) C (dq DX8_takeText 0 rfl) (by decide) ?_
  refine x_istore_n (lv' := [(1, .int 0), (0, .ref (E.2.2 x0))]) C (dq DX8_takeText 1 rfl) rfl (by decide) rfl ?_
  refine x_lv [1, 0] rfl ?_
  refine x_loop (s0 := (0, mm)) (fun s3 => WM G l E S 2 [(0, .ref (E.2.2 x0)), (1, .int s3.1)] [] s3.2) h (fun s3 r hb kb kx => tX8_takeText_2 C g0 hb kb (fun y4 hy => ?_))
  have h := kx y4 hy
  clear kx kb hb hy
  refine x_iconst (v := 0) C (dq DX8_takeText 14 rfl) (by decide) ?_
  refine x_istore_n (lv' := [(1, .int 0), (0, .ref (E.2.2 x0))]) C (dq DX8_takeText 15 rfl) rfl (by decide) rfl ?_
  refine x_lv [1, 0] rfl ?_
  refine x_loop (s0 := (0, y4)) (fun s17 => WM G l E S 27 [(0, .ref (E.2.2 x0)), (1, .int s17.1)] [] s17.2) h (fun s17 r hb kb kx => tX8_takeText_27 C g0 hb kb (fun y18 hy => ?_))
  have h := kx y18 hy
  clear kx kb hb hy
  refine x_pc 129 rfl ?_
  refine x_iconst (v := 0) C (dq DX8_takeText 81 rfl) (by decide) ?_
  refine x_istore_n (lv' := [(1, .int 0), (0, .ref (E.2.2 x0))]) C (dq DX8_takeText 82 rfl) rfl (by decide) rfl ?_
  refine x_lv [1, 0] rfl ?_
  refine x_loop (s0 := (0, y18)) (fun s27 => WM G l E S 131 [(0, .ref (E.2.2 x0)), (1, .int s27.1)] [] s27.2) h (fun s27 r hb kb kx => tX8_takeText_131 C g0 hb kb (fun y28 hy => ?_))
  have h := kx y28 hy
  clear kx kb hb hy
  refine x_iconst (v := 0) C (dq DX8_takeText 128 rfl) (by decide) ?_
  refine x_istore_n (lv' := [(1, .int 0), (0, .ref (E.2.2 x0))]) C (dq DX8_takeText 129 rfl) rfl (by decide) rfl ?_
  refine x_lv [1, 0] rfl ?_
  refine x_loop (s0 := (0, y28)) (fun s31 => WM G l E S 205 [(0, .ref (E.2.2 x0)), (1, .int s31.1)] [] s31.2) h (fun s31 r hb kb kx => tX8_takeText_205 C g0 hb kb (fun y32 hy => ?_))
  have h := kx y32 hy
  clear kx kb hb hy
  cases h
  exact x_vret C (dq DX8_takeText 145 rfl) hQ
set_option maxHeartbeats 1000000 in
theorem qX8_takeText {S : List Sh} {mm : Mm} {x0 : Nat} {r : Mm} (h : fX8_takeText S mm x0 = some r) : isC S x0 8 := by
  unfold fX8_takeText at h
  exact (gd_some h).1
theorem getX8_53 {G : Gt} {l : Launch} {E : Ev} {S : List Sh} {cc : ByteArray} {nL : Nat} {rt : Option FieldType} {fr lo : Nat} {pc : Nat} {lv : List (Nat × Value)} {st : List Value} {mm : Mm} {o : Nat} (C : Cx G E cc nL RX8 rt fr lo) (d : decode cc pc = .ok (.getfield 53, 3)) (hg : isC S o 8) (k : WM G l E S (pc + 3) lv (.int (mm.1 o 25) :: st) mm) : WM G l E S pc lv (.ref (E.2.2 o) :: st) mm := x_get0 C hg (T := TX8) (N := 49) rfl inX8 (by decide) (i := 25) (gmem 890 (by decide +kernel) rfl) rfl rfl d k
theorem getX8_238 {G : Gt} {l : Launch} {E : Ev} {S : List Sh} {cc : ByteArray} {nL : Nat} {rt : Option FieldType} {fr lo : Nat} {pc : Nat} {lv : List (Nat × Value)} {st : List Value} {mm : Mm} {o : Nat} (C : Cx G E cc nL RX8 rt fr lo) (d : decode cc pc = .ok (.getfield 238, 3)) (hg : isC S o 8) (k : WM G l E S (pc + 3) lv (.int (mm.1 o 24) :: st) mm) : WM G l E S pc lv (.ref (E.2.2 o) :: st) mm := x_get0 C hg (T := TX8) (N := 49) rfl inX8 (by decide) (i := 24) (gmem 889 (by decide +kernel) rfl) rfl rfl d k
abbrev eX8_fault : List (Nat × Instr × Nat) := [(0, .aload_n 0, 1), (1, .iconst 0, 1), (2, .putfield 115, 3), (5, .iload_n 1, 1), (6, .ifCond .ne 10, 3), (9, .aload_n 0, 1), (10, .getfield 238, 3), (13, .goto 16, 3), (16, .iload_n 1, 1), (17, .iconst 1, 1), (18, .if_icmp .ne 10, 3), (21, .aload_n 0, 1), (22, .getfield 53, 3), (25, .goto 4, 3), (28, .iconst (-1), 1), (29, .ireturn, 1)]
theorem DX8_fault : (eX8_fault.all fun q => decide (decode cX8_fault q.1 = .ok q.2)) = true := by decide +kernel
def jX8_fault_29 (S : List Sh) (mm : Mm) (x0 : Nat) (p0 : Int32) : Option (Int32 × Mm) := some (p0, mm)
def fX8_fault (S : List Sh) (mm : Mm) (x0 : Nat) (x1 : Int32) : Option (Int32 × Mm) := gd S x0 8 (bd1 (some (u1 mm x0 0 0)) fun m1 => if ¬ x1 = 0 then (if ¬ x1 = 1 then (jX8_fault_29 S m1 x0 (-1)) else (jX8_fault_29 S m1 x0 (m1.1 x0 25))) else (jX8_fault_29 S m1 x0 (m1.1 x0 24)))
set_option maxHeartbeats 1000000 in
theorem tX8_fault_29 {G : Gt} {l : Launch} {E : Ev} {S : List Sh} {mm : Mm} {x0 : Nat} {p0 : Int32} {r : Int32 × Mm} (C : Cx G E cX8_fault 2 RX8 (some .int) 0 0) (g0 : isC S x0 8) (h : jX8_fault_29 S mm x0 p0 = some r) (hQ : RQ G E S (some (.int r.1)) r.2) : WM G l E S 29 [(0, .ref (E.2.2 x0))] [.int p0] mm := by
  unfold jX8_fault_29 at h
  cases h
  exact x_iret C (dq DX8_fault 15 rfl) hQ
set_option maxHeartbeats 1000000 in
theorem mX8_fault {l : Launch} {E : Ev} {S : List Sh} {mm : Mm} {x0 : Nat} {x1 : Int32} {r : Int32 × Mm} (h : fX8_fault S mm x0 x1 = some r) : Ml l E S yX8_fault cX8_fault 2 (some .int) 0 0 [.ref (E.2.2 x0), .int x1] mm (some (.int r.1)) r.2 := by
  refine Ml.of (by decide +kernel) (Nat.le_of_ble_eq_true rfl) (fun G C hQ => ?_)
  have C : Cx G E cX8_fault 2 RX8 (some .int) 0 0 := C
  unfold fX8_fault at h
  obtain ⟨g0, h⟩ := gd_some h
  show WM G l E S 0 [(0, .ref (E.2.2 x0)), (1, .int x1)] [] mm
  refine x_aload_n C (dq DX8_fault 0 rfl) rfl 0 rfl ?_
  refine x_iconst (v := 0) C (dq DX8_fault 1 rfl) (by decide) ?_
  refine putX8_115 C (dq DX8_fault 2 rfl) g0 h (fun m1 h => ?_)
  refine x_iload_n C (dq DX8_fault 3 rfl) rfl 1 rfl ?_
  refine x_pc 6 rfl ?_
  refine x_if_ne (tgt := 16) C (dq DX8_fault 4 rfl) (by decide) h (fun h => ?_) (fun h => ?_)
  · refine x_iload_n C (dq DX8_fault 8 rfl) rfl 1 rfl ?_
    refine x_iconst (v := 1) C (dq DX8_fault 9 rfl) (by decide) ?_
    refine x_icmp_ne (tgt := 28) C (dq DX8_fault 10 rfl) (by decide) h (fun h => ?_) (fun h => ?_)
    · refine x_iconst (v := (-1)) C (dq DX8_fault 14 rfl) (by decide) ?_
      exact x_lv [0] rfl (tX8_fault_29 C g0 h hQ)
    · refine x_aload_n C (dq DX8_fault 11 rfl) rfl 0 rfl ?_
      refine x_pc 22 rfl ?_
      refine getX8_53 C (dq DX8_fault 12 rfl) g0 ?_
      refine x_goto (tgt := 29) C (dq DX8_fault 13 rfl) (by decide) ?_
      exact x_lv [0] rfl (tX8_fault_29 C g0 h hQ)
  · refine x_aload_n C (dq DX8_fault 5 rfl) rfl 0 rfl ?_
    refine getX8_238 C (dq DX8_fault 6 rfl) g0 ?_
    refine x_goto (tgt := 29) C (dq DX8_fault 7 rfl) (by decide) ?_
    exact x_lv [0] rfl (tX8_fault_29 C g0 h hQ)
set_option maxHeartbeats 1000000 in
theorem qX8_fault {S : List Sh} {mm : Mm} {x0 : Nat} {x1 : Int32} {r : Int32 × Mm} (h : fX8_fault S mm x0 x1 = some r) : isC S x0 8 := by
  unfold fX8_fault at h
  exact (gd_some h).1
abbrev eX8_links : List (Nat × Instr × Nat) := [(0, .aload_n 0, 1), (1, .getfield 13, 3), (4, .iconst 0, 1), (5, .iaload, 1), (6, .ireturn, 1)]
theorem DX8_links : (eX8_links.all fun q => decide (decode cX8_links q.1 = .ok q.2)) = true := by decide +kernel
def fX8_links (S : List Sh) (mm : Mm) (x0 : Nat) : Option (Int32) := gd S x0 8 (bd1 (ldA S 0 mm (rf S mm x0 3) 0) fun a1 => some a1)
set_option maxHeartbeats 1000000 in
theorem mX8_links {l : Launch} {E : Ev} {S : List Sh} {mm : Mm} {x0 : Nat} {r : Int32} (h : fX8_links S mm x0 = some r) : Ml l E S yX8_links cX8_links 1 (some .int) 0 0 [.ref (E.2.2 x0)] mm (some (.int r)) mm := by
  refine Ml.of (by decide +kernel) (Nat.le_of_ble_eq_true rfl) (fun G C hQ => ?_)
  have C : Cx G E cX8_links 1 RX8 (some .int) 0 0 := C
  unfold fX8_links at h
  obtain ⟨g0, h⟩ := gd_some h
  show WM G l E S 0 [(0, .ref (E.2.2 x0))] [] mm
  refine x_aload_n C (dq DX8_links 0 rfl) rfl 0 rfl ?_
  refine getX8_13 C (dq DX8_links 1 rfl) g0 ?_
  refine x_iconst (v := 0) C (dq DX8_links 2 rfl) (by decide) ?_
  refine x_iald C (dq DX8_links 3 rfl) h (fun a1 h => ?_)
  refine x_pc 6 rfl ?_
  cases h
  exact x_iret C (dq DX8_links 4 rfl) hQ
set_option maxHeartbeats 1000000 in
theorem qX8_links {S : List Sh} {mm : Mm} {x0 : Nat} {r : Int32} (h : fX8_links S mm x0 = some r) : isC S x0 8 := by
  unfold fX8_links at h
  exact (gd_some h).1
abbrev eX8_flows : List (Nat × Instr × Nat) := [(0, .aload_n 0, 1), (1, .getfield 13, 3), (4, .iconst 1, 1), (5, .iaload, 1), (6, .ireturn, 1)]
theorem DX8_flows : (eX8_flows.all fun q => decide (decode cX8_flows q.1 = .ok q.2)) = true := by decide +kernel
def fX8_flows (S : List Sh) (mm : Mm) (x0 : Nat) : Option (Int32) := gd S x0 8 (bd1 (ldA S 0 mm (rf S mm x0 3) 1) fun a1 => some a1)
set_option maxHeartbeats 1000000 in
theorem mX8_flows {l : Launch} {E : Ev} {S : List Sh} {mm : Mm} {x0 : Nat} {r : Int32} (h : fX8_flows S mm x0 = some r) : Ml l E S yX8_flows cX8_flows 1 (some .int) 0 0 [.ref (E.2.2 x0)] mm (some (.int r)) mm := by
  refine Ml.of (by decide +kernel) (Nat.le_of_ble_eq_true rfl) (fun G C hQ => ?_)
  have C : Cx G E cX8_flows 1 RX8 (some .int) 0 0 := C
  unfold fX8_flows at h
  obtain ⟨g0, h⟩ := gd_some h
  show WM G l E S 0 [(0, .ref (E.2.2 x0))] [] mm
  refine x_aload_n C (dq DX8_flows 0 rfl) rfl 0 rfl ?_
  refine getX8_13 C (dq DX8_flows 1 rfl) g0 ?_
  refine x_iconst (v := 1) C (dq DX8_flows 2 rfl) (by decide) ?_
  refine x_iald C (dq DX8_flows 3 rfl) h (fun a1 h => ?_)
  refine x_pc 6 rfl ?_
  cases h
  exact x_iret C (dq DX8_flows 4 rfl) hQ
set_option maxHeartbeats 1000000 in
theorem qX8_flows {S : List Sh} {mm : Mm} {x0 : Nat} {r : Int32} (h : fX8_flows S mm x0 = some r) : isC S x0 8 := by
  unfold fX8_flows at h
  exact (gd_some h).1
theorem callX8_181 {G : Gt} {l : Launch} {E : Ev} {S : List Sh} {cc : ByteArray} {nL : Nat} {rt : Option FieldType} {fr lo : Nat} {pc : Nat} {lv : List (Nat × Value)} {rest : List Value} {mm : Mm} {α : Type} {f : Int32 → Option α} {r : α} {a0 : Nat} {a1 : Int32} {a2 : Int32} {a3 : Int32} (C : Cx G E cc nL RX8 rt fr lo) (d : decode cc pc = .ok (.invokestatic 181, 3)) (h : bd1 (fX8_foundIn S mm a0 a1 a2 a3) f = some r) (hfr : 1 ≤ fr) (hlo : 24 ≤ lo) (hrs : (rest.map fun v => v.category).sum ≤ 8) (k : ∀ v, f v = some r → WM G l E S (pc + 3) lv (.int v :: rest) mm) : WM G l E S pc lv (.int a3 :: .int a2 :: .int a1 :: .ref (E.2.2 a0) :: rest) mm := by
  obtain ⟨v, hv, hf⟩ := bd1_some h
  exact x_callS (n := 4) (As := [.ref (E.2.2 a0), .int a1, .int a2, .int a3]) (rest := rest) C (mX8_foundIn hv) (gmem 1122 (by decide +kernel) rfl) (gmem 1123 (by decide +kernel) rfl) (gmem 9 (by decide +kernel) rfl) (gmem 1124 (by decide +kernel) rfl) (by decide +kernel) rfl hfr hlo hrs d rfl rfl (k v hf)
theorem callX8_248 {G : Gt} {l : Launch} {E : Ev} {S : List Sh} {cc : ByteArray} {nL : Nat} {rt : Option FieldType} {fr lo : Nat} {pc : Nat} {lv : List (Nat × Value)} {rest : List Value} {mm : Mm} {α : Type} {f : Int32 → Option α} {r : α} {o : Nat} (C : Cx G E cc nL RX8 rt fr lo) (d : decode cc pc = .ok (.invokevirtual 248, 3)) (h : bd1 (fX8_links S mm o) f = some r) (hfr : 1 ≤ fr) (hlo : 20 ≤ lo) (hrs : (rest.map fun v => v.category).sum ≤ 8) (k : ∀ v, f v = some r → WM G l E S (pc + 3) lv (.int v :: rest) mm) : WM G l E S pc lv (.ref (E.2.2 o) :: rest) mm := by
  obtain ⟨v, hv, hf⟩ := bd1_some h
  exact x_callV (n := 0) (As := []) (rest := rest) C (mX8_links hv) (qX8_links hv) (T := TX8) (N := 49) rfl (gmem 857 (by decide +kernel) rfl) (gmem 859 (by decide +kernel) rfl) (gmemS 43 (by decide +kernel) rfl) (gmem 9 (by decide +kernel) rfl) (gmem 860 (by decide +kernel) rfl) (by decide +kernel) rfl hfr hlo hrs d rfl rfl (k v hf)
theorem callX8_251 {G : Gt} {l : Launch} {E : Ev} {S : List Sh} {cc : ByteArray} {nL : Nat} {rt : Option FieldType} {fr lo : Nat} {pc : Nat} {lv : List (Nat × Value)} {rest : List Value} {mm : Mm} {α : Type} {f : Int32 → Option α} {r : α} {o : Nat} (C : Cx G E cc nL RX8 rt fr lo) (d : decode cc pc = .ok (.invokevirtual 251, 3)) (h : bd1 (fX8_flows S mm o) f = some r) (hfr : 1 ≤ fr) (hlo : 20 ≤ lo) (hrs : (rest.map fun v => v.category).sum ≤ 8) (k : ∀ v, f v = some r → WM G l E S (pc + 3) lv (.int v :: rest) mm) : WM G l E S pc lv (.ref (E.2.2 o) :: rest) mm := by
  obtain ⟨v, hv, hf⟩ := bd1_some h
  exact x_callV (n := 0) (As := []) (rest := rest) C (mX8_flows hv) (qX8_flows hv) (T := TX8) (N := 49) rfl (gmem 861 (by decide +kernel) rfl) (gmem 863 (by decide +kernel) rfl) (gmemS 44 (by decide +kernel) rfl) (gmem 9 (by decide +kernel) rfl) (gmem 864 (by decide +kernel) rfl) (by decide +kernel) rfl hfr hlo hrs d rfl rfl (k v hf)
abbrev eX8_named : List (Nat × Instr × Nat) := [(0, .aload_n 0, 1), (1, .iconst 0, 1), (2, .putfield 115, 3), (5, .iload_n 1, 1), (6, .ifCond .ne 19, 3), (9, .aload_n 0, 1), (10, .getfield 20, 3), (13, .iconst 0, 1), (14, .aload_n 0, 1), (15, .invokevirtual 248, 3), (18, .iload_n 2, 1), (19, .invokestatic 181, 3), (22, .goto 25, 3), (25, .iload_n 1, 1), (26, .iconst 1, 1), (27, .if_icmp .ne 19, 3), (30, .aload_n 0, 1), (31, .getfield 38, 3), (34, .iconst 0, 1), (35, .aload_n 0, 1), (36, .invokevirtual 251, 3), (39, .iload_n 2, 1), (40, .invokestatic 181, 3), (43, .goto 4, 3), (46, .iconst (-1), 1), (47, .ireturn, 1)]
theorem DX8_named : (eX8_named.all fun q => decide (decode cX8_named q.1 = .ok q.2)) = true := by decide +kernel
def jX8_named_47 (S : List Sh) (mm : Mm) (x0 : Nat) (p0 : Int32) : Option (Int32 × Mm) := some (p0, mm)
def fX8_named (S : List Sh) (mm : Mm) (x0 : Nat) (x1 : Int32) (x2 : Int32) : Option (Int32 × Mm) := gd S x0 8 (bd1 (some (u1 mm x0 0 0)) fun m1 => if ¬ x1 = 0 then (if ¬ x1 = 1 then (jX8_named_47 S m1 x0 (-1)) else (bd1 (fX8_flows S m1 x0) fun a2 => bd1 (fX8_foundIn S m1 (rf S m1 x0 11) 0 a2 x2) fun a3 => jX8_named_47 S m1 x0 a3)) else (bd1 (fX8_links S m1 x0) fun a4 => bd1 (fX8_foundIn S m1 (rf S m1 x0 5) 0 a4 x2) fun a5 => jX8_named_47 S m1 x0 a5))
set_option maxHeartbeats 1000000 in
theorem tX8_named_47 {G : Gt} {l : Launch} {E : Ev} {S : List Sh} {mm : Mm} {x0 : Nat} {p0 : Int32} {r : Int32 × Mm} (C : Cx G E cX8_named 3 RX8 (some .int) 1 24) (g0 : isC S x0 8) (h : jX8_named_47 S mm x0 p0 = some r) (hQ : RQ G E S (some (.int r.1)) r.2) : WM G l E S 47 [(0, .ref (E.2.2 x0))] [.int p0] mm := by
  unfold jX8_named_47 at h
  cases h
  exact x_iret C (dq DX8_named 25 rfl) hQ
set_option maxHeartbeats 1000000 in
theorem mX8_named {l : Launch} {E : Ev} {S : List Sh} {mm : Mm} {x0 : Nat} {x1 : Int32} {x2 : Int32} {r : Int32 × Mm} (h : fX8_named S mm x0 x1 x2 = some r) : Ml l E S yX8_named cX8_named 3 (some .int) 1 24 [.ref (E.2.2 x0), .int x1, .int x2] mm (some (.int r.1)) r.2 := by
  refine Ml.of (by decide +kernel) (Nat.le_of_ble_eq_true rfl) (fun G C hQ => ?_)
  have C : Cx G E cX8_named 3 RX8 (some .int) 1 24 := C
  unfold fX8_named at h
  obtain ⟨g0, h⟩ := gd_some h
  show WM G l E S 0 [(0, .ref (E.2.2 x0)), (1, .int x1), (2, .int x2)] [] mm
  refine x_aload_n C (dq DX8_named 0 rfl) rfl 0 rfl ?_
  refine x_iconst (v := 0) C (dq DX8_named 1 rfl) (by decide) ?_
  refine putX8_115 C (dq DX8_named 2 rfl) g0 h (fun m1 h => ?_)
  refine x_iload_n C (dq DX8_named 3 rfl) rfl 1 rfl ?_
  refine x_pc 6 rfl ?_
  refine x_if_ne (tgt := 25) C (dq DX8_named 4 rfl) (by decide) h (fun h => ?_) (fun h => ?_)
  · refine x_iload_n C (dq DX8_named 13 rfl) rfl 1 rfl ?_
    refine x_iconst (v := 1) C (dq DX8_named 14 rfl) (by decide) ?_
    refine x_icmp_ne (tgt := 46) C (dq DX8_named 15 rfl) (by decide) h (fun h => ?_) (fun h => ?_)
    · refine x_iconst (v := (-1)) C (dq DX8_named 24 rfl) (by decide) ?_
      exact x_lv [0] rfl (tX8_named_47 C g0 h hQ)
    · refine x_aload_n C (dq DX8_named 16 rfl) rfl 0 rfl ?_
      refine x_pc 31 rfl ?_
      refine getX8_38 C (dq DX8_named 17 rfl) g0 ?_
      refine x_iconst (v := 0) C (dq DX8_named 18 rfl) (by decide) ?_
      refine x_aload_n C (dq DX8_named 19 rfl) rfl 0 rfl ?_
      refine callX8_251 C (dq DX8_named 20 rfl) h (by decide) (by decide) (Nat.le_of_ble_eq_true rfl) (fun a2 h => ?_)
      refine x_iload_n C (dq DX8_named 21 rfl) rfl 2 rfl ?_
      refine x_pc 40 rfl ?_
      refine callX8_181 C (dq DX8_named 22 rfl) h (by decide) (by decide) (Nat.le_of_ble_eq_true rfl) (fun a3 h => ?_)
      refine x_goto (tgt := 47) C (dq DX8_named 23 rfl) (by decide) ?_
      exact x_lv [0] rfl (tX8_named_47 C g0 h hQ)
  · refine x_aload_n C (dq DX8_named 5 rfl) rfl 0 rfl ?_
    refine getX8_20 C (dq DX8_named 6 rfl) g0 ?_
    refine x_iconst (v := 0) C (dq DX8_named 7 rfl) (by decide) ?_
    refine x_aload_n C (dq DX8_named 8 rfl) rfl 0 rfl ?_
    refine x_pc 15 rfl ?_
    refine callX8_248 C (dq DX8_named 9 rfl) h (by decide) (by decide) (Nat.le_of_ble_eq_true rfl) (fun a4 h => ?_)
    refine x_iload_n C (dq DX8_named 10 rfl) rfl 2 rfl ?_
    refine callX8_181 C (dq DX8_named 11 rfl) h (by decide) (by decide) (Nat.le_of_ble_eq_true rfl) (fun a5 h => ?_)
    refine x_goto (tgt := 47) C (dq DX8_named 12 rfl) (by decide) ?_
    exact x_lv [0] rfl (tX8_named_47 C g0 h hQ)
set_option maxHeartbeats 1000000 in
theorem qX8_named {S : List Sh} {mm : Mm} {x0 : Nat} {x1 : Int32} {x2 : Int32} {r : Int32 × Mm} (h : fX8_named S mm x0 x1 x2 = some r) : isC S x0 8 := by
  unfold fX8_named at h
  exact (gd_some h).1
abbrev eX8_copies : List (Nat × Instr × Nat) := [(0, .iconst 0, 1), (1, .istore 4, 2), (3, .iload 4, 2), (5, .sipush 337, 3), (8, .if_icmp .ge 21, 3), (11, .aload_n 2, 1), (12, .iload_n 3, 1), (13, .iload 4, 2), (15, .iadd, 1), (16, .aload_n 0, 1), (17, .iload_n 1, 1), (18, .iload 4, 2), (20, .iadd, 1), (21, .iaload, 1), (22, .iastore, 1), (23, .iinc 4 1, 3), (26, .goto (-23), 3), (29, .return_, 1)]
theorem DX8_copies : (eX8_copies.all fun q => decide (decode cX8_copies q.1 = .ok q.2)) = true := by decide +kernel
def bX8_copies_3 (S : List Sh) (x0 : Nat) (x1 : Int32) (x2 : Nat) (x3 : Int32) (x4 : Int32) (mm : Mm) : Option ((Int32 × Mm) ⊕ (Mm)) := if 337 ≤ x4 then (some (.inr (mm))) else (bd1 (ldA S 0 mm x0 (x1 + x4)) fun a1 => bd1 (stA S 0 mm x2 (x3 + x4) a1) fun m2 => some (.inl (x4 + 1, m2)))
def fX8_copies (S : List Sh) (mm : Mm) (x0 : Nat) (x1 : Int32) (x2 : Nat) (x3 : Int32) : Option (Mm) := bd1 (lp (fun s3 => bX8_copies_3 S x0 x1 x2 x3 s3.1 s3.2) fu (0, mm)) fun y4 => some y4
set_option maxHeartbeats 1000000 in
theorem tX8_copies_3 {G : Gt} {l : Launch} {E : Ev} {S : List Sh} {x0 : Nat} {x1 : Int32} {x2 : Nat} {x3 : Int32} {x4 : Int32} {mm : Mm} {r : (Int32 × Mm) ⊕ (Mm)} (C : Cx G E cX8_copies 5 RX8 none 0 0)  (h : bX8_copies_3 S x0 x1 x2 x3 x4 mm = some r) (kb : ∀ z : Int32 × Mm, r = .inl z → WM G l E S 3 [(0, .ref (E.2.2 x0)), (1, .int x1), (2, .ref (E.2.2 x2)), (3, .int x3), (4, .int z.1)] [] z.2) (kx : ∀ z : Mm, r = .inr z → WM G l E S 29 [(0, .ref (E.2.2 x0)), (1, .int x1), (2, .ref (E.2.2 x2)), (3, .int x3)] [] z) : WM G l E S 3 [(0, .ref (E.2.2 x0)), (1, .int x1), (2, .ref (E.2.2 x2)), (3, .int x3), (4, .int x4)] [] mm := by
  unfold bX8_copies_3 at h
  refine x_iload C (dq DX8_copies 2 rfl) 4 rfl ?_
  refine x_sipush (v := 337) C (dq DX8_copies 3 rfl) (by decide) ?_
  refine x_icmp_ge (tgt := 29) C (dq DX8_copies 4 rfl) (by decide) h (fun h => ?_) (fun h => ?_)
  · cases h
    exact x_lv [0, 1, 2, 3] rfl (kx (mm) rfl)
  · refine x_aload_n C (dq DX8_copies 5 rfl) rfl 2 rfl ?_
    refine x_pc 12 rfl ?_
    refine x_iload_n C (dq DX8_copies 6 rfl) rfl 3 rfl ?_
    refine x_iload C (dq DX8_copies 7 rfl) 4 rfl ?_
    refine x_iadd C (dq DX8_copies 8 rfl) ?_
    refine x_aload_n C (dq DX8_copies 9 rfl) rfl 0 rfl ?_
    refine x_iload_n C (dq DX8_copies 10 rfl) rfl 1 rfl ?_
    refine x_pc 18 rfl ?_
    refine x_iload C (dq DX8_copies 11 rfl) 4 rfl ?_
    refine x_iadd C (dq DX8_copies 12 rfl) ?_
    refine x_iald C (dq DX8_copies 13 rfl) h (fun a1 h => ?_)
    refine x_iast C (dq DX8_copies 14 rfl) h (fun m2 h => ?_)
    refine x_iinc (v := x4 + 1) (lv' := [(4, .int (x4 + 1)), (0, .ref (E.2.2 x0)), (1, .int x1), (2, .ref (E.2.2 x2)), (3, .int x3)]) C (dq DX8_copies 15 rfl) 4 rfl rfl (by decide) rfl ?_
    refine x_pc 26 rfl ?_
    refine x_goto (tgt := 3) C (dq DX8_copies 16 rfl) (by decide) ?_
    cases h
    exact x_lv [1, 2, 3, 4, 0] rfl (kb (x4 + 1, m2) rfl)
set_option maxHeartbeats 1000000 in
theorem mX8_copies {l : Launch} {E : Ev} {S : List Sh} {mm : Mm} {x0 : Nat} {x1 : Int32} {x2 : Nat} {x3 : Int32} {r : Mm} (h : fX8_copies S mm x0 x1 x2 x3 = some r) : Ml l E S yX8_copies cX8_copies 5 none 0 0 [.ref (E.2.2 x0), .int x1, .ref (E.2.2 x2), .int x3] mm none r := by
  refine Ml.of (by decide +kernel) (Nat.le_of_ble_eq_true rfl) (fun G C hQ => ?_)
  have C : Cx G E cX8_copies 5 RX8 none 0 0 := C
  unfold fX8_copies at h
  show WM G l E S 0 [(0, .ref (E.2.2 x0)), (1, .int x1), (2, .ref (E.2.2 x2)), (3, .int x3)] [] mm
  refine x_iconst (v := 0) C (dq DX8_copies 0 rfl) (by decide) ?_
  refine x_istore (lv' := [(4, .int 0), (0, .ref (E.2.2 x0)), (1, .int x1), (2, .ref (E.2.2 x2)), (3, .int x3)]) C (dq DX8_copies 1 rfl) (by decide) rfl ?_
  refine x_lv [1, 2, 3, 4, 0] rfl ?_
  refine x_loop (s0 := (0, mm)) (fun s3 => WM G l E S 3 [(0, .ref (E.2.2 x0)), (1, .int x1), (2, .ref (E.2.2 x2)), (3, .int x3), (4, .int s3.1)] [] s3.2) h (fun s3 r hb kb kx => tX8_copies_3 C  hb kb (fun y4 hy => ?_))
  have h := kx y4 hy
  clear kx kb hb hy
  cases h
  exact x_vret C (dq DX8_copies 17 rfl) hQ
theorem getX8_57 {G : Gt} {l : Launch} {E : Ev} {S : List Sh} {cc : ByteArray} {nL : Nat} {rt : Option FieldType} {fr lo : Nat} {pc : Nat} {lv : List (Nat × Value)} {st : List Value} {mm : Mm} {o : Nat} (C : Cx G E cc nL RX8 rt fr lo) (d : decode cc pc = .ok (.getfield 57, 3)) (hg : isC S o 8) (k : WM G l E S (pc + 3) lv (.ref (E.2.2 (rf S mm o 26)) :: st) mm) : WM G l E S pc lv (.ref (E.2.2 o) :: st) mm := x_get2 C hg (T := TX8) (N := 49) rfl inX8 (by decide) (i := 26) (gmem 891 (by decide +kernel) rfl) rfl rfl d k
abbrev eX8_begins : List (Nat × Instr × Nat) := [(0, .iconst 0, 1), (1, .istore_n 1, 1), (2, .iload_n 1, 1), (3, .sipush 337, 3), (6, .if_icmp .ge 16, 3), (9, .aload_n 0, 1), (10, .getfield 57, 3), (13, .iload_n 1, 1), (14, .iconst 0, 1), (15, .iastore, 1), (16, .iinc 1 1, 3), (19, .goto (-17), 3), (22, .iconst 0, 1), (23, .istore_n 1, 1), (24, .iload_n 1, 1), (25, .aload_n 0, 1), (26, .invokevirtual 248, 3), (29, .if_icmp .ge 60, 3), (32, .aload_n 0, 1), (33, .getfield 57, 3), (36, .bipush 24, 2), (38, .iload_n 1, 1), (39, .imul, 1), (40, .iconst 0, 1), (41, .iadd, 1), (42, .aload_n 0, 1), (43, .getfield 29, 3), (46, .iload_n 1, 1), (47, .iaload, 1), (48, .iastore, 1), (49, .aload_n 0, 1), (50, .getfield 57, 3), (53, .bipush 24, 2), (55, .iload_n 1, 1), (56, .imul, 1), (57, .iconst 1, 1), (58, .iadd, 1), (59, .aload_n 0, 1), (60, .getfield 32, 3), (63, .iload_n 1, 1), (64, .iaload, 1), (65, .iastore, 1), (66, .aload_n 0, 1), (67, .getfield 57, 3), (70, .bipush 24, 2), (72, .iload_n 1, 1), (73, .imul, 1), (74, .iconst 2, 1), (75, .iadd, 1), (76, .aload_n 0, 1), (77, .getfield 35, 3), (80, .iload_n 1, 1), (81, .iaload, 1), (82, .iastore, 1), (83, .iinc 1 1, 3), (86, .goto (-62), 3), (89, .iconst 0, 1), (90, .istore_n 1, 1), (91, .iload_n 1, 1), (92, .aload_n 0, 1), (93, .invokevirtual 251, 3), (96, .if_icmp .ge 69, 3), (99, .sipush 240, 3), (102, .bipush 12, 2), (104, .iload_n 1, 1), (105, .imul, 1), (106, .iadd, 1), (107, .istore_n 2, 1), (108, .aload_n 0, 1), (109, .getfield 57, 3), (112, .iload_n 2, 1), (113, .iconst 0, 1), (114, .iadd, 1), (115, .aload_n 0, 1), (116, .getfield 41, 3), (119, .iload_n 1, 1), (120, .iaload, 1), (121, .iastore, 1), (122, .aload_n 0, 1), (123, .getfield 57, 3), (126, .iload_n 2, 1), (127, .iconst 1, 1), (128, .iadd, 1), (129, .aload_n 0, 1), (130, .getfield 41, 3), (133, .iload_n 1, 1), (134, .iaload, 1), (135, .iastore, 1), (136, .aload_n 0, 1), (137, .getfield 57, 3), (140, .iload_n 2, 1), (141, .bipush 7, 2), (143, .iadd, 1), (144, .aload_n 0, 1), (145, .getfield 44, 3), (148, .iload_n 1, 1), (149, .baload, 1), (150, .ifCond .eq 7, 3), (153, .iconst 0, 1), (154, .goto 4, 3), (157, .iconst 1, 1), (158, .iastore, 1), (159, .iinc 1 1, 3), (162, .goto (-71), 3), (165, .return_, 1)]
theorem DX8_begins : (eX8_begins.all fun q => decide (decode cX8_begins q.1 = .ok q.2)) = true := by decide +kernel
def bX8_begins_2 (S : List Sh) (x0 : Nat) (x1 : Int32) (mm : Mm) : Option ((Int32 × Mm) ⊕ (Mm)) := if 337 ≤ x1 then (some (.inr (mm))) else (bd1 (stA S 0 mm (rf S mm x0 26) x1 0) fun m1 => some (.inl (x1 + 1, m1)))
def bX8_begins_24 (S : List Sh) (x0 : Nat) (x1 : Int32) (mm : Mm) : Option ((Int32 × Mm) ⊕ (Mm)) := bd1 (fX8_links S mm x0) fun a4 => if a4 ≤ x1 then (some (.inr (mm))) else (bd1 (ldA S 0 mm (rf S mm x0 8) x1) fun a5 => bd1 (stA S 0 mm (rf S mm x0 26) ((24 * x1) + 0) a5) fun m6 => bd1 (ldA S 0 m6 (rf S m6 x0 9) x1) fun a7 => bd1 (stA S 0 m6 (rf S m6 x0 26) ((24 * x1) + 1) a7) fun m8 => bd1 (ldA S 0 m8 (rf S m8 x0 10) x1) fun a9 => bd1 (stA S 0 m8 (rf S m8 x0 26) ((24 * x1) + 2) a9) fun m10 => some (.inl (x1 + 1, m10)))
def jX8_begins_158 (S : List Sh) (mm : Mm) (x0 : Nat) (x1 : Int32) (p0 : Nat) (p1 : Int32) (p2 : Int32) : Option ((Int32 × Mm) ⊕ (Mm)) := bd1 (stA S 0 mm p0 p1 p2) fun m19 => some (.inl (x1 + 1, m19))
def bX8_begins_91 (S : List Sh) (x0 : Nat) (x1 : Int32) (mm : Mm) : Option ((Int32 × Mm) ⊕ (Mm)) := bd1 (fX8_flows S mm x0) fun a13 => if a13 ≤ x1 then (some (.inr (mm))) else (bd1 (ldA S 0 mm (rf S mm x0 12) x1) fun a14 => bd1 (stA S 0 mm (rf S mm x0 26) ((240 + (12 * x1)) + 0) a14) fun m15 => bd1 (ldA S 0 m15 (rf S m15 x0 12) x1) fun a16 => bd1 (stA S 0 m15 (rf S m15 x0 26) ((240 + (12 * x1)) + 1) a16) fun m17 => bd1 (ldA S 2 m17 (rf S m17 x0 13) x1) fun a18 => if a18 = 0 then (jX8_begins_158 S m17 x0 x1 (rf S m17 x0 26) ((240 + (12 * x1)) + 7) 1) else (jX8_begins_158 S m17 x0 x1 (rf S m17 x0 26) ((240 + (12 * x1)) + 7) 0))
def fX8_begins (S : List Sh) (mm : Mm) (x0 : Nat) : Option (Mm) := gd S x0 8 (bd1 (lp (fun s2 => bX8_begins_2 S x0 s2.1 s2.2) fu (0, mm)) fun y3 => bd1 (lp (fun s11 => bX8_begins_24 S x0 s11.1 s11.2) fu (0, y3)) fun y12 => bd1 (lp (fun s20 => bX8_begins_91 S x0 s20.1 s20.2) fu (0, y12)) fun y21 => some y21)
set_option maxHeartbeats 1000000 in
theorem tX8_begins_2 {G : Gt} {l : Launch} {E : Ev} {S : List Sh} {x0 : Nat} {x1 : Int32} {mm : Mm} {r : (Int32 × Mm) ⊕ (Mm)} (C : Cx G E cX8_begins 3 RX8 none 1 20) (g0 : isC S x0 8) (h : bX8_begins_2 S x0 x1 mm = some r) (kb : ∀ z : Int32 × Mm, r = .inl z → WM G l E S 2 [(0, .ref (E.2.2 x0)), (1, .int z.1)] [] z.2) (kx : ∀ z : Mm, r = .inr z → WM G l E S 22 [(0, .ref (E.2.2 x0))] [] z) : WM G l E S 2 [(0, .ref (E.2.2 x0)), (1, .int x1)] [] mm := by
  unfold bX8_begins_2 at h
  refine x_iload_n C (dq DX8_begins 2 rfl) rfl 1 rfl ?_
  refine x_sipush (v := 337) C (dq DX8_begins 3 rfl) (by decide) ?_
  refine x_icmp_ge (tgt := 22) C (dq DX8_begins 4 rfl) (by decide) h (fun h => ?_) (fun h => ?_)
  · cases h
    exact x_lv [0] rfl (kx (mm) rfl)
  · refine x_aload_n C (dq DX8_begins 5 rfl) rfl 0 rfl ?_
    refine x_pc 10 rfl ?_
    refine getX8_57 C (dq DX8_begins 6 rfl) g0 ?_
    refine x_iload_n C (dq DX8_begins 7 rfl) rfl 1 rfl ?_
    refine x_iconst (v := 0) C (dq DX8_begins 8 rfl) (by decide) ?_
    refine x_iast C (dq DX8_begins 9 rfl) h (fun m1 h => ?_)
    refine x_iinc (v := x1 + 1) (lv' := [(1, .int (x1 + 1)), (0, .ref (E.2.2 x0))]) C (dq DX8_begins 10 rfl) 1 rfl rfl (by decide) rfl ?_
    refine x_pc 19 rfl ?_
    refine x_goto (tgt := 2) C (dq DX8_begins 11 rfl) (by decide) ?_
    cases h
    exact x_lv [1, 0] rfl (kb (x1 + 1, m1) rfl)
set_option maxHeartbeats 1000000 in
theorem tX8_begins_24 {G : Gt} {l : Launch} {E : Ev} {S : List Sh} {x0 : Nat} {x1 : Int32} {mm : Mm} {r : (Int32 × Mm) ⊕ (Mm)} (C : Cx G E cX8_begins 3 RX8 none 1 20) (g0 : isC S x0 8) (h : bX8_begins_24 S x0 x1 mm = some r) (kb : ∀ z : Int32 × Mm, r = .inl z → WM G l E S 24 [(0, .ref (E.2.2 x0)), (1, .int z.1)] [] z.2) (kx : ∀ z : Mm, r = .inr z → WM G l E S 89 [(0, .ref (E.2.2 x0))] [] z) : WM G l E S 24 [(0, .ref (E.2.2 x0)), (1, .int x1)] [] mm := by
  unfold bX8_begins_24 at h
  refine x_iload_n C (dq DX8_begins 14 rfl) rfl 1 rfl ?_
  refine x_aload_n C (dq DX8_begins 15 rfl) rfl 0 rfl ?_
  refine callX8_248 C (dq DX8_begins 16 rfl) h (by decide) (by decide) (Nat.le_of_ble_eq_true rfl) (fun a4 h => ?_)
  refine x_icmp_ge (tgt := 89) C (dq DX8_begins 17 rfl) (by decide) h (fun h => ?_) (fun h => ?_)
  · cases h
    exact x_lv [0] rfl (kx (mm) rfl)
  · refine x_pc 32 rfl ?_
    refine x_aload_n C (dq DX8_begins 18 rfl) rfl 0 rfl ?_
    refine getX8_57 C (dq DX8_begins 19 rfl) g0 ?_
    refine x_bipush (v := 24) C (dq DX8_begins 20 rfl) (by decide) ?_
    refine x_iload_n C (dq DX8_begins 21 rfl) rfl 1 rfl ?_
    refine x_imul C (dq DX8_begins 22 rfl) ?_
    refine x_pc 40 rfl ?_
    refine x_iconst (v := 0) C (dq DX8_begins 23 rfl) (by decide) ?_
    refine x_iadd C (dq DX8_begins 24 rfl) ?_
    refine x_aload_n C (dq DX8_begins 25 rfl) rfl 0 rfl ?_
    refine getX8_29 C (dq DX8_begins 26 rfl) g0 ?_
    refine x_iload_n C (dq DX8_begins 27 rfl) rfl 1 rfl ?_
    refine x_pc 47 rfl ?_
    refine x_iald C (dq DX8_begins 28 rfl) h (fun a5 h => ?_)
    refine x_iast C (dq DX8_begins 29 rfl) h (fun m6 h => ?_)
    refine x_aload_n C (dq DX8_begins 30 rfl) rfl 0 rfl ?_
    refine getX8_57 C (dq DX8_begins 31 rfl) g0 ?_
    refine x_bipush (v := 24) C (dq DX8_begins 32 rfl) (by decide) ?_
    refine x_pc 55 rfl ?_
    refine x_iload_n C (dq DX8_begins 33 rfl) rfl 1 rfl ?_
    refine x_imul C (dq DX8_begins 34 rfl) ?_
    refine x_iconst (v := 1) C (dq DX8_begins 35 rfl) (by decide) ?_
    refine x_iadd C (dq DX8_begins 36 rfl) ?_
    refine x_aload_n C (dq DX8_begins 37 rfl) rfl 0 rfl ?_
    refine x_pc 60 rfl ?_
    refine getX8_32 C (dq DX8_begins 38 rfl) g0 ?_
    refine x_iload_n C (dq DX8_begins 39 rfl) rfl 1 rfl ?_
    refine x_iald C (dq DX8_begins 40 rfl) h (fun a7 h => ?_)
    refine x_iast C (dq DX8_begins 41 rfl) h (fun m8 h => ?_)
    refine x_aload_n C (dq DX8_begins 42 rfl) rfl 0 rfl ?_
    refine x_pc 67 rfl ?_
    refine getX8_57 C (dq DX8_begins 43 rfl) g0 ?_
    refine x_bipush (v := 24) C (dq DX8_begins 44 rfl) (by decide) ?_
    refine x_iload_n C (dq DX8_begins 45 rfl) rfl 1 rfl ?_
    refine x_imul C (dq DX8_begins 46 rfl) ?_
    refine x_iconst (v := 2) C (dq DX8_begins 47 rfl) (by decide) ?_
    refine x_pc 75 rfl ?_
    refine x_iadd C (dq DX8_begins 48 rfl) ?_
    refine x_aload_n C (dq DX8_begins 49 rfl) rfl 0 rfl ?_
    refine getX8_35 C (dq DX8_begins 50 rfl) g0 ?_
    refine x_iload_n C (dq DX8_begins 51 rfl) rfl 1 rfl ?_
    refine x_iald C (dq DX8_begins 52 rfl) h (fun a9 h => ?_)
    refine x_pc 82 rfl ?_
    refine x_iast C (dq DX8_begins 53 rfl) h (fun m10 h => ?_)
    refine x_iinc (v := x1 + 1) (lv' := [(1, .int (x1 + 1)), (0, .ref (E.2.2 x0))]) C (dq DX8_begins 54 rfl) 1 rfl rfl (by decide) rfl ?_
    refine x_goto (tgt := 24) C (dq DX8_begins 55 rfl) (by decide) ?_
    cases h
    exact x_lv [1, 0] rfl (kb (x1 + 1, m10) rfl)
set_option maxHeartbeats 1000000 in
theorem tX8_begins_158 {G : Gt} {l : Launch} {E : Ev} {S : List Sh} {mm : Mm} {x0 : Nat} {x1 : Int32} {p0 : Nat} {p1 : Int32} {p2 : Int32} {r : (Int32 × Mm) ⊕ (Mm)} (C : Cx G E cX8_begins 3 RX8 none 1 20) (g0 : isC S x0 8) (h : jX8_begins_158 S mm x0 x1 p0 p1 p2 = some r) (kb : ∀ z : Int32 × Mm, r = .inl z → WM G l E S 91 [(0, .ref (E.2.2 x0)), (1, .int z.1)] [] z.2) (kx : ∀ z : Mm, r = .inr z → WM G l E S 165 [(0, .ref (E.2.2 x0))] [] z) : WM G l E S 158 [(0, .ref (E.2.2 x0)), (1, .int x1)] [.int p2, .int p1, .ref (E.2.2 p0)] mm := by
  unfold jX8_begins_158 at h
  refine x_iast C (dq DX8_begins 101 rfl) h (fun m19 h => ?_)
  refine x_iinc (v := x1 + 1) (lv' := [(1, .int (x1 + 1)), (0, .ref (E.2.2 x0))]) C (dq DX8_begins 102 rfl) 1 rfl rfl (by decide) rfl ?_
  refine x_goto (tgt := 91) C (dq DX8_begins 103 rfl) (by decide) ?_
  cases h
  exact x_lv [1, 0] rfl (kb (x1 + 1, m19) rfl)
set_option maxHeartbeats 1000000 in
theorem tX8_begins_91 {G : Gt} {l : Launch} {E : Ev} {S : List Sh} {x0 : Nat} {x1 : Int32} {mm : Mm} {r : (Int32 × Mm) ⊕ (Mm)} (C : Cx G E cX8_begins 3 RX8 none 1 20) (g0 : isC S x0 8) (h : bX8_begins_91 S x0 x1 mm = some r) (kb : ∀ z : Int32 × Mm, r = .inl z → WM G l E S 91 [(0, .ref (E.2.2 x0)), (1, .int z.1)] [] z.2) (kx : ∀ z : Mm, r = .inr z → WM G l E S 165 [(0, .ref (E.2.2 x0))] [] z) : WM G l E S 91 [(0, .ref (E.2.2 x0)), (1, .int x1)] [] mm := by
  unfold bX8_begins_91 at h
  refine x_iload_n C (dq DX8_begins 58 rfl) rfl 1 rfl ?_
  refine x_aload_n C (dq DX8_begins 59 rfl) rfl 0 rfl ?_
  refine callX8_251 C (dq DX8_begins 60 rfl) h (by decide) (by decide) (Nat.le_of_ble_eq_true rfl) (fun a13 h => ?_)
  refine x_icmp_ge (tgt := 165) C (dq DX8_begins 61 rfl) (by decide) h (fun h => ?_) (fun h => ?_)
  · cases h
    exact x_lv [0] rfl (kx (mm) rfl)
  · refine x_pc 99 rfl ?_
    refine x_sipush (v := 240) C (dq DX8_begins 62 rfl) (by decide) ?_
    refine x_bipush (v := 12) C (dq DX8_begins 63 rfl) (by decide) ?_
    refine x_iload_n C (dq DX8_begins 64 rfl) rfl 1 rfl ?_
    refine x_imul C (dq DX8_begins 65 rfl) ?_
    refine x_iadd C (dq DX8_begins 66 rfl) ?_
    refine x_pc 107 rfl ?_
    refine x_istore_n (lv' := [(2, .int (240 + (12 * x1))), (0, .ref (E.2.2 x0)), (1, .int x1)]) C (dq DX8_begins 67 rfl) rfl (by decide) rfl ?_
    refine x_aload_n C (dq DX8_begins 68 rfl) rfl 1 rfl ?_
    refine getX8_57 C (dq DX8_begins 69 rfl) g0 ?_
    refine x_iload_n C (dq DX8_begins 70 rfl) rfl 0 rfl ?_
    refine x_iconst (v := 0) C (dq DX8_begins 71 rfl) (by decide) ?_
    refine x_pc 114 rfl ?_
    refine x_iadd C (dq DX8_begins 72 rfl) ?_
    refine x_aload_n C (dq DX8_begins 73 rfl) rfl 1 rfl ?_
    refine getX8_41 C (dq DX8_begins 74 rfl) g0 ?_
    refine x_iload_n C (dq DX8_begins 75 rfl) rfl 2 rfl ?_
    refine x_iald C (dq DX8_begins 76 rfl) h (fun a14 h => ?_)
    refine x_pc 121 rfl ?_
    refine x_iast C (dq DX8_begins 77 rfl) h (fun m15 h => ?_)
    refine x_aload_n C (dq DX8_begins 78 rfl) rfl 1 rfl ?_
    refine getX8_57 C (dq DX8_begins 79 rfl) g0 ?_
    refine x_iload_n C (dq DX8_begins 80 rfl) rfl 0 rfl ?_
    refine x_iconst (v := 1) C (dq DX8_begins 81 rfl) (by decide) ?_
    refine x_pc 128 rfl ?_
    refine x_iadd C (dq DX8_begins 82 rfl) ?_
    refine x_aload_n C (dq DX8_begins 83 rfl) rfl 1 rfl ?_
    refine getX8_41 C (dq DX8_begins 84 rfl) g0 ?_
    refine x_iload_n C (dq DX8_begins 85 rfl) rfl 2 rfl ?_
    refine x_iald C (dq DX8_begins 86 rfl) h (fun a16 h => ?_)
    refine x_pc 135 rfl ?_
    refine x_iast C (dq DX8_begins 87 rfl) h (fun m17 h => ?_)
    refine x_aload_n C (dq DX8_begins 88 rfl) rfl 1 rfl ?_
    refine getX8_57 C (dq DX8_begins 89 rfl) g0 ?_
    refine x_iload_n C (dq DX8_begins 90 rfl) rfl 0 rfl ?_
    refine x_bipush (v := 7) C (dq DX8_begins 91 rfl) (by decide) ?_
    refine x_pc 143 rfl ?_
    refine x_iadd C (dq DX8_begins 92 rfl) ?_
    refine x_aload_n C (dq DX8_begins 93 rfl) rfl 1 rfl ?_
    refine getX8_44 C (dq DX8_begins 94 rfl) g0 ?_
    refine x_iload_n C (dq DX8_begins 95 rfl) rfl 2 rfl ?_
    refine x_zald C (dq DX8_begins 96 rfl) h (fun a18 h => ?_)
    refine x_pc 150 rfl ?_
    refine x_if_eq (tgt := 157) C (dq DX8_begins 97 rfl) (by decide) h (fun h => ?_) (fun h => ?_)
    · refine x_iconst (v := 1) C (dq DX8_begins 100 rfl) (by decide) ?_
      exact x_lv [1, 2] rfl (tX8_begins_158 C g0 h kb kx)
    · refine x_iconst (v := 0) C (dq DX8_begins 98 rfl) (by decide) ?_
      refine x_goto (tgt := 158) C (dq DX8_begins 99 rfl) (by decide) ?_
      exact x_lv [1, 2] rfl (tX8_begins_158 C g0 h kb kx)
set_option maxHeartbeats 1000000 in
theorem mX8_begins {l : Launch} {E : Ev} {S : List Sh} {mm : Mm} {x0 : Nat} {r : Mm} (h : fX8_begins S mm x0 = some r) : Ml l E S yX8_begins cX8_begins 3 none 1 20 [.ref (E.2.2 x0)] mm none r := by
  refine Ml.of (by decide +kernel) (Nat.le_of_ble_eq_true rfl) (fun G C hQ => ?_)
  have C : Cx G E cX8_begins 3 RX8 none 1 20 := C
  unfold fX8_begins at h
  obtain ⟨g0, h⟩ := gd_some h
  show WM G l E S 0 [(0, .ref (E.2.2 x0))] [] mm
  refine x_iconst (v := 0) C (dq DX8_begins 0 rfl) (by decide) ?_
  refine x_istore_n (lv' := [(1, .int 0), (0, .ref (E.2.2 x0))]) C (dq DX8_begins 1 rfl) rfl (by decide) rfl ?_
  refine x_lv [1, 0] rfl ?_
  refine x_loop (s0 := (0, mm)) (fun s2 => WM G l E S 2 [(0, .ref (E.2.2 x0)), (1, .int s2.1)] [] s2.2) h (fun s2 r hb kb kx => tX8_begins_2 C g0 hb kb (fun y3 hy => ?_))
  have h := kx y3 hy
  clear kx kb hb hy
  refine x_iconst (v := 0) C (dq DX8_begins 12 rfl) (by decide) ?_
  refine x_istore_n (lv' := [(1, .int 0), (0, .ref (E.2.2 x0))]) C (dq DX8_begins 13 rfl) rfl (by decide) rfl ?_
  refine x_lv [1, 0] rfl ?_
  refine x_loop (s0 := (0, y3)) (fun s11 => WM G l E S 24 [(0, .ref (E.2.2 x0)), (1, .int s11.1)] [] s11.2) h (fun s11 r hb kb kx => tX8_begins_24 C g0 hb kb (fun y12 hy => ?_))
  have h := kx y12 hy
  clear kx kb hb hy
  refine x_pc 89 rfl ?_
  refine x_iconst (v := 0) C (dq DX8_begins 56 rfl) (by decide) ?_
  refine x_istore_n (lv' := [(1, .int 0), (0, .ref (E.2.2 x0))]) C (dq DX8_begins 57 rfl) rfl (by decide) rfl ?_
  refine x_lv [1, 0] rfl ?_
  refine x_loop (s0 := (0, y12)) (fun s20 => WM G l E S 91 [(0, .ref (E.2.2 x0)), (1, .int s20.1)] [] s20.2) h (fun s20 r hb kb kx => tX8_begins_91 C g0 hb kb (fun y21 hy => ?_))
  have h := kx y21 hy
  clear kx kb hb hy
  cases h
  exact x_vret C (dq DX8_begins 104 rfl) hQ
set_option maxHeartbeats 1000000 in
theorem qX8_begins {S : List Sh} {mm : Mm} {x0 : Nat} {r : Mm} (h : fX8_begins S mm x0 = some r) : isC S x0 8 := by
  unfold fX8_begins at h
  exact (gd_some h).1
