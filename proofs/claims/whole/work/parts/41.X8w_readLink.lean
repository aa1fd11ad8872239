theorem callX8_189 {G : Gt} {l : Launch} {E : Ev} {S : List Sh} {cc : ByteArray} {nL : Nat} {rt : Option FieldType} {fr lo : Nat} {pc : Nat} {lv : List (Nat × Value)} {rest : List Value} {mm : Mm} {α : Type} {f : Mm → Option α} {r : α} {o : Nat} {a0 : Nat} {a1 : Int32} {a2 : Int32} (C : Cx G E cc nL RX8 rt fr lo) (d : decode cc pc = .ok (.invokevirtual 189, 3)) (h : bd1 (fX8_newName S mm o a0 a1 a2) f = some r) (hfr : 8 ≤ fr) (hlo : 172 ≤ lo) (hrs : (rest.map fun v => v.category).sum ≤ 8) (k : ∀ m1, f m1 = some r → WM G l E S (pc + 3) lv rest m1) : WM G l E S pc lv (.int a2 :: .int a1 :: .ref (E.2.2 a0) :: .ref (E.2.2 o) :: rest) mm := by
  obtain ⟨m1, hv, hf⟩ := bd1_some h
  exact x_callV (n := 3) (As := [.ref (E.2.2 a0), .int a1, .int a2]) (rest := rest) C (mX8_newName hv) (qX8_newName hv) (T := TX8) (N := 49) rfl (gmem 1114 (by decide +kernel) rfl) (gmem 1116 (by decide +kernel) rfl) (gmemS 53 (by decide +kernel) rfl) (gmem 9 (by decide +kernel) rfl) (gmem 1117 (by decide +kernel) rfl) (by decide +kernel) rfl hfr hlo hrs d rfl rfl (k m1 hf)
theorem callX8_193 {G : Gt} {l : Launch} {E : Ev} {S : List Sh} {cc : ByteArray} {nL : Nat} {rt : Option FieldType} {fr lo : Nat} {pc : Nat} {lv : List (Nat × Value)} {rest : List Value} {mm : Mm} {α : Type} {f : Int32 → Mm → Option α} {r : α} {o : Nat} {a0 : Int32} {a1 : Int32} (C : Cx G E cc nL RX8 rt fr lo) (d : decode cc pc = .ok (.invokevirtual 193, 3)) (h : bd2 (fX8_numeral S mm o a0 a1) f = some r) (hfr : 8 ≤ fr) (hlo : 172 ≤ lo) (hrs : (rest.map fun v => v.category).sum ≤ 8) (k : ∀ v m1, f v m1 = some r → WM G l E S (pc + 3) lv (.int v :: rest) m1) : WM G l E S pc lv (.int a1 :: .int a0 :: .ref (E.2.2 o) :: rest) mm := by
  obtain ⟨v, m1, hv, hf⟩ := bd2_some h
  exact x_callV (n := 2) (As := [.int a0, .int a1]) (rest := rest) C (mX8_numeral hv) (qX8_numeral hv) (T := TX8) (N := 49) rfl (gmem 1125 (by decide +kernel) rfl) (gmem 1127 (by decide +kernel) rfl) (gmemS 55 (by decide +kernel) rfl) (gmem 9 (by decide +kernel) rfl) (gmem 1128 (by decide +kernel) rfl) (by decide +kernel) rfl hfr hlo hrs d rfl rfl (k v m1 hf)
abbrev eX8_readLink : List (Nat × Instr × Nat) := [(0, .bipush 10, 2), (2, .aload_n 0, 1), (3, .iconst 0, 1), (4, .invokevirtual 185, 3), (7, .iadd, 1), (8, .istore_n 1, 1), (9, .iload_n 1, 1), (10, .bipush 20, 2), (12, .if_icmp .ne 8, 3), (15, .aload_n 0, 1), (16, .iconst 2, 1), (17, .invokevirtual 174, 3), (20, .aload_n 0, 1), (21, .aload_n 0, 1), (22, .getfield 20, 3), (25, .bipush 10, 2), (27, .aload_n 0, 1), (28, .iconst 0, 1), (29, .invokevirtual 185, 3), (32, .invokevirtual 189, 3), (35, .aload_n 0, 1), (36, .iconst 1, 1), (37, .bipush 64, 2), (39, .invokevirtual 193, 3), (42, .istore_n 2, 1), (43, .aload_n 0, 1), (44, .iconst 0, 1), (45, .iconst 4, 1), (46, .invokevirtual 193, 3), (49, .istore_n 3, 1), (50, .aload_n 0, 1), (51, .iconst 1, 1), (52, .sipush 999, 3), (55, .invokevirtual 193, 3), (58, .istore 4, 2), (60, .aload_n 0, 1), (61, .iconst 0, 1), (62, .iload 4, 2), (64, .iconst 1, 1), (65, .isub, 1), (66, .sipush 998, 3), (69, .if_icmp .ge 10, 3), (72, .iload 4, 2), (74, .iconst 1, 1), (75, .isub, 1), (76, .goto 6, 3), (79, .sipush 998, 3), (82, .invokevirtual 193, 3), (85, .istore 5, 2), (87, .aload_n 0, 1), (88, .iconst 1, 1), (89, .sipush 1999, 3), (92, .invokevirtual 193, 3), (95, .istore 6, 2), (97, .aload_n 0, 1), (98, .getfield 165, 3), (101, .ifCond .eq 4, 3), (104, .return_, 1), (105, .aload_n 0, 1), (106, .getfield 23, 3), (109, .iload_n 1, 1), (110, .iload_n 2, 1), (111, .iastore, 1), (112, .aload_n 0, 1), (113, .getfield 26, 3), (116, .iload_n 1, 1), (117, .iload_n 3, 1), (118, .iastore, 1), (119, .aload_n 0, 1), (120, .getfield 29, 3), (123, .iload_n 1, 1), (124, .iload 4, 2), (126, .iastore, 1), (127, .aload_n 0, 1), (128, .getfield 32, 3), (131, .iload_n 1, 1), (132, .iload 5, 2), (134, .iastore, 1), (135, .aload_n 0, 1), (136, .getfield 35, 3), (139, .iload_n 1, 1), (140, .iload 6, 2), (142, .iastore, 1), (143, .aload_n 0, 1), (144, .iconst 0, 1), (145, .aload_n 0, 1), (146, .iconst 0, 1), (147, .invokevirtual 185, 3), (150, .iconst 1, 1), (151, .iadd, 1), (152, .invokevirtual 197, 3), (155, .return_, 1)]
theorem DX8_readLink : (eX8_readLink.all fun q => decide (decode cX8_readLink q.1 = .ok q.2)) = true := by decide +kernel
def jX8_readLink_82 (S : List Sh) (mm : Mm) (x0 : Nat) (x1 : Int32) (x2 : Int32) (x3 : Int32) (x4 : Int32) (p0 : Nat) (p1 : Int32) (p2 : Int32) : Option (Mm) := bd2 (fX8_numeral S mm p0 p1 p2) fun a10 m11 => bd2 (fX8_numeral S m11 x0 1 1999) fun a12 m13 => if (m13.1 x0 22) = 0 then (bd1 (stA S 0 m13 (rf S m13 x0 6) x1 x2) fun m14 => bd1 (stA S 0 m14 (rf S m14 x0 7) x1 x3) fun m15 => bd1 (stA S 0 m15 (rf S m15 x0 8) x1 x4) fun m16 => bd1 (stA S 0 m16 (rf S m16 x0 9) x1 a10) fun m17 => bd1 (stA S 0 m17 (rf S m17 x0 10) x1 a12) fun m18 => bd1 (fX8_reading S m18 x0 0) fun a19 => bd1 (fX8_reads S m18 x0 0 (a19 + 1)) fun m20 => some m20) else (some m13)
def jX8_readLink_20 (S : List Sh) (mm : Mm) (x0 : Nat) (x1 : Int32)  : Option (Mm) := bd1 (fX8_reading S mm x0 0) fun a2 => bd1 (fX8_newName S mm x0 (rf S mm x0 5) 10 a2) fun m3 => bd2 (fX8_numeral S m3 x0 1 64) fun a4 m5 => bd2 (fX8_numeral S m5 x0 0 4) fun a6 m7 => bd2 (fX8_numeral S m7 x0 1 999) fun a8 m9 => if 998 ≤ (a8 - 1) then (jX8_readLink_82 S m9 x0 x1 a4 a6 a8 x0 0 998) else (jX8_readLink_82 S m9 x0 x1 a4 a6 a8 x0 0 (a8 - 1))
def fX8_readLink (S : List Sh) (mm : Mm) (x0 : Nat) : Option (Mm) := gd S x0 8 (bd1 (fX8_reading S mm x0 0) fun a1 => if ¬ (10 + a1) = 20 then (jX8_readLink_20 S mm x0 (10 + a1)) else (bd1 (fX8_wrong S mm x0 2) fun m21 => jX8_readLink_20 S m21 x0 (10 + a1)))
set_option maxHeartbeats 1000000 in
theorem tX8_readLink_82 {G : Gt} {l : Launch} {E : Ev} {S : List Sh} {mm : Mm} {x0 : Nat} {x1 : Int32} {x2 : Int32} {x3 : Int32} {x4 : Int32} {p0 : Nat} {p1 : Int32} {p2 : Int32} {r : Mm} (C : Cx G E cX8_readLink 7 RX8 none 8 172) (g0 : isC S x0 8) (h : jX8_readLink_82 S mm x0 x1 x2 x3 x4 p0 p1 p2 = some r) (hQ : RQ G E S none r) : WM G l E S 82 [(0, .ref (E.2.2 x0)), (1, .int x1), (2, .int x2), (3, .int x3), (4, .int x4)] [.int p2, .int p1, .ref (E.2.2 p0)] mm := by
  unfold jX8_readLink_82 at h
  refine callX8_193 C (dq DX8_readLink 47 rfl) h (by decide) (by decide) (Nat.le_of_ble_eq_true rfl) (fun a10 m11 h => ?_)
  refine x_istore (lv' := [(5, .int a10), (0, .ref (E.2.2 x0)), (1, .int x1), (2, .int x2), (3, .int x3), (4, .int x4)]) C (dq DX8_readLink 48 rfl) (by decide) rfl ?_
  refine x_aload_n C (dq DX8_readLink 49 rfl) rfl 1 rfl ?_
  refine x_iconst (v := 1) C (dq DX8_readLink 50 rfl) (by decide) ?_
  refine x_pc 89 rfl ?_
  refine x_sipush (v := 1999) C (dq DX8_readLink 51 rfl) (by decide) ?_
  refine callX8_193 C (dq DX8_readLink 52 rfl) h (by decide) (by decide) (Nat.le_of_ble_eq_true rfl) (fun a12 m13 h => ?_)
  refine x_istore (lv' := [(6, .int a12), (5, .int a10), (0, .ref (E.2.2 x0)), (1, .int x1), (2, .int x2), (3, .int x3), (4, .int x4)]) C (dq DX8_readLink 53 rfl) (by decide) rfl ?_
  refine x_aload_n C (dq DX8_readLink 54 rfl) rfl 2 rfl ?_
  refine getX8_165 C (dq DX8_readLink 55 rfl) g0 ?_
  refine x_pc 101 rfl ?_
  refine x_if_eq (tgt := 105) C (dq DX8_readLink 56 rfl) (by decide) h (fun h => ?_) (fun h => ?_)
  · refine x_aload_n C (dq DX8_readLink 58 rfl) rfl 2 rfl ?_
    refine getX8_23 C (dq DX8_readLink 59 rfl) g0 ?_
    refine x_iload_n C (dq DX8_readLink 60 rfl) rfl 3 rfl ?_
    refine x_iload_n C (dq DX8_readLink 61 rfl) rfl 4 rfl ?_
    refine x_pc 111 rfl ?_
    refine x_iast C (dq DX8_readLink 62 rfl) h (fun m14 h => ?_)
    refine x_aload_n C (dq DX8_readLink 63 rfl) rfl 2 rfl ?_
    refine getX8_26 C (dq DX8_readLink 64 rfl) g0 ?_
    refine x_iload_n C (dq DX8_readLink 65 rfl) rfl 3 rfl ?_
    refine x_iload_n C (dq DX8_readLink 66 rfl) rfl 5 rfl ?_
    refine x_pc 118 rfl ?_
    refine x_iast C (dq DX8_readLink 67 rfl) h (fun m15 h => ?_)
    refine x_aload_n C (dq DX8_readLink 68 rfl) rfl 2 rfl ?_
    refine getX8_29 C (dq DX8_readLink 69 rfl) g0 ?_
    refine x_iload_n C (dq DX8_readLink 70 rfl) rfl 3 rfl ?_
    refine x_iload C (dq DX8_readLink 71 rfl) 6 rfl ?_
    refine x_pc 126 rfl ?_
    refine x_iast C (dq DX8_readLink 72 rfl) h (fun m16 h => ?_)
    refine x_aload_n C (dq DX8_readLink 73 rfl) rfl 2 rfl ?_
    refine getX8_32 C (dq DX8_readLink 74 rfl) g0 ?_
    refine x_iload_n C (dq DX8_readLink 75 rfl) rfl 3 rfl ?_
    refine x_iload C (dq DX8_readLink 76 rfl) 1 rfl ?_
    refine x_pc 134 rfl ?_
    refine x_iast C (dq DX8_readLink 77 rfl) h (fun m17 h => ?_)
    refine x_aload_n C (dq DX8_readLink 78 rfl) rfl 2 rfl ?_
    refine getX8_35 C (dq DX8_readLink 79 rfl) g0 ?_
    refine x_iload_n C (dq DX8_readLink 80 rfl) rfl 3 rfl ?_
    refine x_iload C (dq DX8_readLink 81 rfl) 0 rfl ?_
    refine x_pc 142 rfl ?_
    refine x_iast C (dq DX8_readLink 82 rfl) h (fun m18 h => ?_)
    refine x_aload_n C (dq DX8_readLink 83 rfl) rfl 2 rfl ?_
    refine x_iconst (v := 0) C (dq DX8_readLink 84 rfl) (by decide) ?_
    refine x_aload_n C (dq DX8_readLink 85 rfl) rfl 2 rfl ?_
    refine x_iconst (v := 0) C (dq DX8_readLink 86 rfl) (by decide) ?_
    refine x_pc 147 rfl ?_
    refine callX8_185 C (dq DX8_readLink 87 rfl) h (by decide) (by decide) (Nat.le_of_ble_eq_true rfl) (fun a19 h => ?_)
    refine x_iconst (v := 1) C (dq DX8_readLink 88 rfl) (by decide) ?_
    refine x_iadd C (dq DX8_readLink 89 rfl) ?_
    refine callX8_197 C (dq DX8_readLink 90 rfl) h (by decide) (by decide) (Nat.le_of_ble_eq_true rfl) (fun m20 h => ?_)
    cases h
    exact x_vret C (dq DX8_readLink 91 rfl) hQ
  · cases h
    exact x_vret C (dq DX8_readLink 57 rfl) hQ
set_option maxHeartbeats 1000000 in
theorem tX8_readLink_20 {G : Gt} {l : Launch} {E : Ev} {S : List Sh} {mm : Mm} {x0 : Nat} {x1 : Int32}  {r : Mm} (C : Cx G E cX8_readLink 7 RX8 none 8 172) (g0 : isC S x0 8) (h : jX8_readLink_20 S mm x0 x1 = some r) (hQ : RQ G E S none r) : WM G l E S 20 [(0, .ref (E.2.2 x0)), (1, .int x1)] [] mm := by
  unfold jX8_readLink_20 at h
  refine x_aload_n C (dq DX8_readLink 12 rfl) rfl 0 rfl ?_
  refine x_aload_n C (dq DX8_readLink 13 rfl) rfl 0 rfl ?_
  refine getX8_20 C (dq DX8_readLink 14 rfl) g0 ?_
  refine x_bipush (v := 10) C (dq DX8_readLink 15 rfl) (by decide) ?_
  refine x_pc 27 rfl ?_
  refine x_aload_n C (dq DX8_readLink 16 rfl) rfl 0 rfl ?_
  refine x_iconst (v := 0) C (dq DX8_readLink 17 rfl) (by decide) ?_
  refine callX8_185 C (dq DX8_readLink 18 rfl) h (by decide) (by decide) (Nat.le_of_ble_eq_true rfl) (fun a2 h => ?_)
  refine callX8_189 C (dq DX8_readLink 19 rfl) h (by decide) (by decide) (Nat.le_of_ble_eq_true rfl) (fun m3 h => ?_)
  refine x_aload_n C (dq DX8_readLink 20 rfl) rfl 0 rfl ?_
  refine x_pc 36 rfl ?_
  refine x_iconst (v := 1) C (dq DX8_readLink 21 rfl) (by decide) ?_
  refine x_bipush (v := 64) C (dq DX8_readLink 22 rfl) (by decide) ?_
  refine callX8_193 C (dq DX8_readLink 23 rfl) h (by decide) (by decide) (Nat.le_of_ble_eq_true rfl) (fun a4 m5 h => ?_)
  refine x_istore_n (lv' := [(2, .int a4), (0, .ref (E.2.2 x0)), (1, .int x1)]) C (dq DX8_readLink 24 rfl) rfl (by decide) rfl ?_
  refine x_aload_n C (dq DX8_readLink 25 rfl) rfl 1 rfl ?_
  refine x_pc 44 rfl ?_
  refine x_iconst (v := 0) C (dq DX8_readLink 26 rfl) (by decide) ?_
  refine x_iconst (v := 4) C (dq DX8_readLink 27 rfl) (by decide) ?_
  refine callX8_193 C (dq DX8_readLink 28 rfl) h (by decide) (by decide) (Nat.le_of_ble_eq_true rfl) (fun a6 m7 h => ?_)
  refine x_istore_n (lv' := [(3, .int a6), (2, .int a4), (0, .ref (E.2.2 x0)), (1, .int x1)]) C (dq DX8_readLink 29 rfl) rfl (by decide) rfl ?_
  refine x_aload_n C (dq DX8_readLink 30 rfl) rfl 2 rfl ?_
  refine x_pc 51 rfl ?_
  refine x_iconst (v := 1) C (dq DX8_readLink 31 rfl) (by decide) ?_
  refine x_sipush (v := 999) C (dq DX8_readLink 32 rfl) (by decide) ?_
  refine callX8_193 C (dq DX8_readLink 33 rfl) h (by decide) (by decide) (Nat.le_of_ble_eq_true rfl) (fun a8 m9 h => ?_)
  refine x_istore (lv' := [(4, .int a8), (3, .int a6), (2, .int a4), (0, .ref (E.2.2 x0)), (1, .int x1)]) C (dq DX8_readLink 34 rfl) (by decide) rfl ?_
  refine x_aload_n C (dq DX8_readLink 35 rfl) rfl 3 rfl ?_
  refine x_pc 61 rfl ?_
  refine x_iconst (v := 0) C (dq DX8_readLink 36 rfl) (by decide) ?_
  refine x_iload C (dq DX8_readLink 37 rfl) 0 rfl ?_
  refine x_iconst (v := 1) C (dq DX8_readLink 38 rfl) (by decide) ?_
  refine x_isub C (dq DX8_readLink 39 rfl) ?_
  refine x_sipush (v := 998) C (dq DX8_readLink 40 rfl) (by decide) ?_
  refine x_pc 69 rfl ?_
  refine x_icmp_ge (tgt := 79) C (dq DX8_readLink 41 rfl) (by decide) h (fun h => ?_) (fun h => ?_)
  · refine x_sipush (v := 998) C (dq DX8_readLink 46 rfl) (by decide) ?_
    exact x_lv [3, 4, 2, 1, 0] rfl (tX8_readLink_82 C g0 h hQ)
  · refine x_iload C (dq DX8_readLink 42 rfl) 0 rfl ?_
    refine x_iconst (v := 1) C (dq DX8_readLink 43 rfl) (by decide) ?_
    refine x_isub C (dq DX8_readLink 44 rfl) ?_
    refine x_goto (tgt := 82) C (dq DX8_readLink 45 rfl) (by decide) ?_
    exact x_lv [3, 4, 2, 1, 0] rfl (tX8_readLink_82 C g0 h hQ)
set_option maxHeartbeats 1000000 in
theorem mX8_readLink {l : Launch} {E : Ev} {S : List Sh} {mm : Mm} {x0 : Nat} {r : Mm} (h : fX8_readLink S mm x0 = some r) : Ml l E S yX8_readLink cX8_readLink 7 none 8 172 [.ref (E.2.2 x0)] mm none r := by
  refine Ml.of (by decide +kernel) (Nat.le_of_ble_eq_true rfl) (fun G C hQ => ?_)
  have C : Cx G E cX8_readLink 7 RX8 none 8 172 := C
  unfold fX8_readLink at h
  obtain ⟨g0, h⟩ := gd_some h
  show WM G l E S 0 [(0, .ref (E.2.2 x0))] [] mm
  refine x_bipush (v := 10) C (dq DX8_readLink 0 rfl) (by decide) ?_
  refine x_aload_n C (dq DX8_readLink 1 rfl) rfl 0 rfl ?_
  refine x_iconst (v := 0) C (dq DX8_readLink 2 rfl) (by decide) ?_
  refine callX8_185 C (dq DX8_readLink 3 rfl) h (by decide) (by decide) (Nat.le_of_ble_eq_true rfl) (fun a1 h => ?_)
  refine x_pc 7 rfl ?_
  refine x_iadd C (dq DX8_readLink 4 rfl) ?_
  refine x_istore_n (lv' := [(1, .int (10 + a1)), (0, .ref (E.2.2 x0))]) C (dq DX8_readLink 5 rfl) rfl (by decide) rfl ?_
  refine x_iload_n C (dq DX8_readLink 6 rfl) rfl 0 rfl ?_
  refine x_bipush (v := 20) C (dq DX8_readLink 7 rfl) (by decide) ?_
  refine x_icmp_ne (tgt := 20) C (dq DX8_readLink 8 rfl) (by decide) h (fun h => ?_) (fun h => ?_)
  · exact x_lv [1, 0] rfl (tX8_readLink_20 C g0 h hQ)
  · refine x_pc 15 rfl ?_
    refine x_aload_n C (dq DX8_readLink 9 rfl) rfl 1 rfl ?_
    refine x_iconst (v := 2) C (dq DX8_readLink 10 rfl) (by decide) ?_
    refine callX8_174 C (dq DX8_readLink 11 rfl) h (by decide) (by decide) (Nat.le_of_ble_eq_true rfl) (fun m21 h => ?_)
    exact x_lv [1, 0] rfl (tX8_readLink_20 C g0 h hQ)
set_option maxHeartbeats 1000000 in
theorem qX8_readLink {S : List Sh} {mm : Mm} {x0 : Nat} {r : Mm} (h : fX8_readLink S mm x0 = some r) : isC S x0 8 := by
  unfold fX8_readLink at h
  exact (gd_some h).1
theorem callX8_201 {G : Gt} {l : Launch} {E : Ev} {S : List Sh} {cc : ByteArray} {nL : Nat} {rt : Option FieldType} {fr lo : Nat} {pc : Nat} {lv : List (Nat × Value)} {rest : List Value} {mm : Mm} {α : Type} {f : Int32 → Option α} {r : α} {o : Nat} {a0 : Int32} {a1 : Int32} (C : Cx G E cc nL RX8 rt fr lo) (d : decode cc pc = .ok (.invokevirtual 201, 3)) (h : bd1 (fX8_isOnPath S mm o a0 a1) f = some r) (hfr : 1 ≤ fr) (hlo : 23 ≤ lo) (hrs : (rest.map fun v => v.category).sum ≤ 8) (k : ∀ v, f v = some r → WM G l E S (pc + 3) lv (.int v :: rest) mm) : WM G l E S pc lv (.int a1 :: .int a0 :: .ref (E.2.2 o) :: rest) mm := by
  obtain ⟨v, hv, hf⟩ := bd1_some h
  exact x_callV (n := 2) (As := [.int a0, .int a1]) (rest := rest) C (mX8_isOnPath hv) (qX8_isOnPath hv) (T := TX8) (N := 49) rfl (gmem 1137 (by decide +kernel) rfl) (gmem 1139 (by decide +kernel) rfl) (gmemS 58 (by decide +kernel) rfl) (gmem 9 (by decide +kernel) rfl) (gmem 1140 (by decide +kernel) rfl) (by decide +kernel) rfl hfr hlo hrs d rfl rfl (k v hf)
abbrev eX8_readHop : List (Nat × Instr × Nat) := [(0, .aload_n 0, 1), (1, .getfield 134, 3), (4, .ifCond .eq 11, 3), (7, .aload_n 0, 1), (8, .getfield 134, 3), (11, .iconst 1, 1), (12, .if_icmp .eq 11, 3), (15, .aload_n 0, 1), (16, .iconst 1, 1), (17, .invokevirtual 174, 3), (20, .goto 18, 3), (23, .aload_n 0, 1), (24, .getfield 47, 3), (27, .iload_n 1, 1), (28, .iaload, 1), (29, .iconst 5, 1), (30, .if_icmp .ne 8, 3), (33, .aload_n 0, 1), (34, .iconst 2, 1), (35, .invokevirtual 174, 3), (38, .aload_n 0, 1), (39, .getfield 165, 3), (42, .ifCond .eq 4, 3), (45, .return_, 1), (46, .aload_n 0, 1), (47, .getfield 20, 3), (50, .bipush 10, 2), (52, .aload_n 0, 1), (53, .iconst 0, 1), (54, .invokevirtual 185, 3), (57, .aload_n 0, 1), (58, .getfield 144, 3), (61, .invokestatic 181, 3), (64, .istore_n 2, 1), (65, .iload_n 2, 1), (66, .iconst (-1), 1), (67, .if_icmp .ne 11, 3), (70, .aload_n 0, 1), (71, .iconst 4, 1), (72, .invokevirtual 174, 3), (75, .goto 17, 3), (78, .aload_n 0, 1), (79, .iload_n 1, 1), (80, .iload_n 2, 1), (81, .invokevirtual 201, 3), (84, .ifCond .eq 8, 3), (87, .aload_n 0, 1), (88, .iconst 3, 1), (89, .invokevirtual 174, 3), (92, .aload_n 0, 1), (93, .getfield 165, 3), (96, .ifCond .eq 4, 3), (99, .return_, 1), (100, .aload_n 0, 1), (101, .getfield 50, 3), (104, .iconst 5, 1), (105, .iload_n 1, 1), (106, .imul, 1), (107, .aload_n 0, 1), (108, .getfield 47, 3), (111, .iload_n 1, 1), (112, .iaload, 1), (113, .iadd, 1), (114, .iload_n 2, 1), (115, .iastore, 1), (116, .aload_n 0, 1), (117, .getfield 47, 3), (120, .iload_n 1, 1), (121, .dup2, 1), (122, .iaload, 1), (123, .iconst 1, 1), (124, .iadd, 1), (125, .iastore, 1), (126, .aload_n 0, 1), (127, .invokevirtual 171, 3), (130, .return_, 1)]
theorem DX8_readHop : (eX8_readHop.all fun q => decide (decode cX8_readHop q.1 = .ok q.2)) = true := by decide +kernel
def jX8_readHop_92 (S : List Sh) (mm : Mm) (x0 : Nat) (x1 : Int32) (x2 : Int32)  : Option (Mm) := if (mm.1 x0 22) = 0 then (bd1 (ldA S 0 mm (rf S mm x0 14) x1) fun a5 => bd1 (stA S 0 mm (rf S mm x0 15) ((5 * x1) + a5) x2) fun m6 => bd1 (ldA S 0 m6 (rf S m6 x0 14) x1) fun a7 => bd1 (stA S 0 m6 (rf S m6 x0 14) x1 (a7 + 1)) fun m8 => bd1 (fX8_token S m8 x0) fun m9 => some m9) else (some mm)
def jX8_readHop_38 (S : List Sh) (mm : Mm) (x0 : Nat) (x1 : Int32)  : Option (Mm) := if (mm.1 x0 22) = 0 then (bd1 (fX8_reading S mm x0 0) fun a2 => bd1 (fX8_foundIn S mm (rf S mm x0 5) 10 a2 (mm.1 x0 21)) fun a3 => if ¬ a3 = (-1) then (bd1 (fX8_isOnPath S mm x0 x1 a3) fun a4 => if a4 = 0 then (jX8_readHop_92 S mm x0 x1 a3) else (bd1 (fX8_wrong S mm x0 3) fun m10 => jX8_readHop_92 S m10 x0 x1 a3)) else (bd1 (fX8_wrong S mm x0 4) fun m11 => jX8_readHop_92 S m11 x0 x1 a3)) else (some mm)
def jX8_readHop_15 (S : List Sh) (mm : Mm) (x0 : Nat) (x1 : Int32)  : Option (Mm) := bd1 (fX8_wrong S mm x0 1) fun m1 => jX8_readHop_38 S m1 x0 x1
def fX8_readHop (S : List Sh) (mm : Mm) (x0 : Nat) (x1 : Int32) : Option (Mm) := gd S x0 8 (if (mm.1 x0 20) = 0 then (jX8_readHop_15 S mm x0 x1) else (if (mm.1 x0 20) = 1 then (bd1 (ldA S 0 mm (rf S mm x0 14) x1) fun a12 => if ¬ a12 = 5 then (jX8_readHop_38 S mm x0 x1) else (bd1 (fX8_wrong S mm x0 2) fun m13 => jX8_readHop_38 S m13 x0 x1)) else (jX8_readHop_15 S mm x0 x1)))
set_option maxHeartbeats 1000000 in
theorem tX8_readHop_92 {G : Gt} {l : Launch} {E : Ev} {S : List Sh} {mm : Mm} {x0 : Nat} {x1 : Int32} {x2 : Int32}  {r : Mm} (C : Cx G E cX8_readHop 3 RX8 none 6 129) (g0 : isC S x0 8) (h : jX8_readHop_92 S mm x0 x1 x2 = some r) (hQ : RQ G E S none r) : WM G l E S 92 [(0, .ref (E.2.2 x0)), (1, .int x1), (2, .int x2)] [] mm := by
  unfold jX8_readHop_92 at h
  refine x_aload_n C (dq DX8_readHop 49 rfl) rfl 0 rfl ?_
  refine getX8_165 C (dq DX8_readHop 50 rfl) g0 ?_
  refine x_if_eq (tgt := 100) C (dq DX8_readHop 51 rfl) (by decide) h (fun h => ?_) (fun h => ?_)
  · refine x_aload_n C (dq DX8_readHop 53 rfl) rfl 0 rfl ?_
    refine x_pc 101 rfl ?_
    refine getX8_50 C (dq DX8_readHop 54 rfl) g0 ?_
    refine x_iconst (v := 5) C (dq DX8_readHop 55 rfl) (by decide) ?_
    refine x_iload_n C (dq DX8_readHop 56 rfl) rfl 1 rfl ?_
    refine x_imul C (dq DX8_readHop 57 rfl) ?_
    refine x_aload_n C (dq DX8_readHop 58 rfl) rfl 0 rfl ?_
    refine x_pc 108 rfl ?_
    refine getX8_47 C (dq DX8_readHop 59 rfl) g0 ?_
    refine x_iload_n C (dq DX8_readHop 60 rfl) rfl 1 rfl ?_
    refine x_iald C (dq DX8_readHop 61 rfl) h (fun a5 h => ?_)
    refine x_iadd C (dq DX8_readHop 62 rfl) ?_
    refine x_iload_n C (dq DX8_readHop 63 rfl) rfl 2 rfl ?_
    refine x_pc 115 rfl ?_
    refine x_iast C (dq DX8_readHop 64 rfl) h (fun m6 h => ?_)
    refine x_aload_n C (dq DX8_readHop 65 rfl) rfl 0 rfl ?_
    refine getX8_47 C (dq DX8_readHop 66 rfl) g0 ?_
    refine x_iload_n C (dq DX8_readHop 67 rfl) rfl 1 rfl ?_
    refine x_dup2 C (dq DX8_readHop 68 rfl) rfl rfl ?_
    refine x_pc 122 rfl ?_
    refine x_iald C (dq DX8_readHop 69 rfl) h (fun a7 h => ?_)
    refine x_iconst (v := 1) C (dq DX8_readHop 70 rfl) (by decide) ?_
    refine x_iadd C (dq DX8_readHop 71 rfl) ?_
    refine x_iast C (dq DX8_readHop 72 rfl) h (fun m8 h => ?_)
    refine x_aload_n C (dq DX8_readHop 73 rfl) rfl 0 rfl ?_
    refine x_pc 127 rfl ?_
    refine callX8_171 C (dq DX8_readHop 74 rfl) h (by decide) (by decide) (Nat.le_of_ble_eq_true rfl) (fun m9 h => ?_)
    cases h
    exact x_vret C (dq DX8_readHop 75 rfl) hQ
  · cases h
    exact x_vret C (dq DX8_readHop 52 rfl) hQ
set_option maxHeartbeats 1000000 in
theorem tX8_readHop_38 {G : Gt} {l : Launch} {E : Ev} {S : List Sh} {mm : Mm} {x0 : Nat} {x1 : Int32}  {r : Mm} (C : Cx G E cX8_readHop 3 RX8 none 6 129) (g0 : isC S x0 8) (h : jX8_readHop_38 S mm x0 x1 = some r) (hQ : RQ G E S none r) : WM G l E S 38 [(0, .ref (E.2.2 x0)), (1, .int x1)] [] mm := by
  unfold jX8_readHop_38 at h
  refine x_aload_n C (dq DX8_readHop 20 rfl) rfl 0 rfl ?_
  refine getX8_165 C (dq DX8_readHop 21 rfl) g0 ?_
  refine x_if_eq (tgt := 46) C (dq DX8_readHop 22 rfl) (by decide) h (fun h => ?_) (fun h => ?_)
  · refine x_aload_n C (dq DX8_readHop 24 rfl) rfl 0 rfl ?_
    refine x_pc 47 rfl ?_
    refine getX8_20 C (dq DX8_readHop 25 rfl) g0 ?_
    refine x_bipush (v := 10) C (dq DX8_readHop 26 rfl) (by decide) ?_
    refine x_aload_n C (dq DX8_readHop 27 rfl) rfl 0 rfl ?_
    refine x_iconst (v := 0) C (dq DX8_readHop 28 rfl) (by decide) ?_
    refine callX8_185 C (dq DX8_readHop 29 rfl) h (by decide) (by decide) (Nat.le_of_ble_eq_true rfl) (fun a2 h => ?_)
    refine x_pc 57 rfl ?_
    refine x_aload_n C (dq DX8_readHop 30 rfl) rfl 0 rfl ?_
    refine getX8_144 C (dq DX8_readHop 31 rfl) g0 ?_
    refine callX8_181 C (dq DX8_readHop 32 rfl) h (by decide) (by decide) (Nat.le_of_ble_eq_true rfl) (fun a3 h => ?_)
    refine x_istore_n (lv' := [(2, .int a3), (0, .ref (E.2.2 x0)), (1, .int x1)]) C (dq DX8_readHop 33 rfl) rfl (by decide) rfl ?_
    refine x_iload_n C (dq DX8_readHop 34 rfl) rfl 0 rfl ?_
    refine x_pc 66 rfl ?_
    refine x_iconst (v := (-1)) C (dq DX8_readHop 35 rfl) (by decide) ?_
    refine x_icmp_ne (tgt := 78) C (dq DX8_readHop 36 rfl) (by decide) h (fun h => ?_) (fun h => ?_)
    · refine x_aload_n C (dq DX8_readHop 41 rfl) rfl 1 rfl ?_
      refine x_iload_n C (dq DX8_readHop 42 rfl) rfl 2 rfl ?_
      refine x_iload_n C (dq DX8_readHop 43 rfl) rfl 0 rfl ?_
      refine x_pc 81 rfl ?_
      refine callX8_201 C (dq DX8_readHop 44 rfl) h (by decide) (by decide) (Nat.le_of_ble_eq_true rfl) (fun a4 h => ?_)
      refine x_if_eq (tgt := 92) C (dq DX8_readHop 45 rfl) (by decide) h (fun h => ?_) (fun h => ?_)
      · exact x_lv [1, 2, 0] rfl (tX8_readHop_92 C g0 h hQ)
      · refine x_aload_n C (dq DX8_readHop 46 rfl) rfl 1 rfl ?_
        refine x_iconst (v := 3) C (dq DX8_readHop 47 rfl) (by decide) ?_
        refine callX8_174 C (dq DX8_readHop 48 rfl) h (by decide) (by decide) (Nat.le_of_ble_eq_true rfl) (fun m10 h => ?_)
        exact x_lv [1, 2, 0] rfl (tX8_readHop_92 C g0 h hQ)
    · refine x_aload_n C (dq DX8_readHop 37 rfl) rfl 1 rfl ?_
      refine x_iconst (v := 4) C (dq DX8_readHop 38 rfl) (by decide) ?_
      refine callX8_174 C (dq DX8_readHop 39 rfl) h (by decide) (by decide) (Nat.le_of_ble_eq_true rfl) (fun m11 h => ?_)
      refine x_pc 75 rfl ?_
      refine x_goto (tgt := 92) C (dq DX8_readHop 40 rfl) (by decide) ?_
      exact x_lv [1, 2, 0] rfl (tX8_readHop_92 C g0 h hQ)
  · cases h
    exact x_vret C (dq DX8_readHop 23 rfl) hQ
set_option maxHeartbeats 1000000 in
theorem tX8_readHop_15 {G : Gt} {l : Launch} {E : Ev} {S : List Sh} {mm : Mm} {x0 : Nat} {x1 : Int32}  {r : Mm} (C : Cx G E cX8_readHop 3 RX8 none 6 129) (g0 : isC S x0 8) (h : jX8_readHop_15 S mm x0 x1 = some r) (hQ : RQ G E S none r) : WM G l E S 15 [(0, .ref (E.2.2 x0)), (1, .int x1)] [] mm := by
  unfold jX8_readHop_15 at h
  refine x_aload_n C (dq DX8_readHop 7 rfl) rfl 0 rfl ?_
  refine x_iconst (v := 1) C (dq DX8_readHop 8 rfl) (by decide) ?_
  refine callX8_174 C (dq DX8_readHop 9 rfl) h (by decide) (by decide) (Nat.le_of_ble_eq_true rfl) (fun m1 h => ?_)
  refine x_goto (tgt := 38) C (dq DX8_readHop 10 rfl) (by decide) ?_
  exact x_lv [0, 1] rfl (tX8_readHop_38 C g0 h hQ)
set_option maxHeartbeats 1000000 in
theorem mX8_readHop {l : Launch} {E : Ev} {S : List Sh} {mm : Mm} {x0 : Nat} {x1 : Int32} {r : Mm} (h : fX8_readHop S mm x0 x1 = some r) : Ml l E S yX8_readHop cX8_readHop 3 none 6 129 [.ref (E.2.2 x0), .int x1] mm none r := by
  refine Ml.of (by decide +kernel) (Nat.le_of_ble_eq_true rfl) (fun G C hQ => ?_)
  have C : Cx G E cX8_readHop 3 RX8 none 6 129 := C
  unfold fX8_readHop at h
  obtain ⟨g0, h⟩ := gd_some h
  show WM G l E S 0 [(0, .ref (E.2.2 x0)), (1, .int x1)] [] mm
  refine x_aload_n C (dq DX8_readHop 0 rfl) rfl 0 rfl ?_
  refine getX8_134 C (dq DX8_readHop 1 rfl) g0 ?_
  refine x_if_eq (tgt := 15) C (dq DX8_readHop 2 rfl) (by decide) h (fun h => ?_) (fun h => ?_)
  · exact x_lv [0, 1] rfl (tX8_readHop_15 C g0 h hQ)
  · refine x_aload_n C (dq DX8_readHop 3 rfl) rfl 0 rfl ?_
    refine x_pc 8 rfl ?_
    refine getX8_134 C (dq DX8_readHop 4 rfl) g0 ?_
    refine x_iconst (v := 1) C (dq DX8_readHop 5 rfl) (by decide) ?_
    refine x_icmp_eq (tgt := 23) C (dq DX8_readHop 6 rfl) (by decide) h (fun h => ?_) (fun h => ?_)
    · refine x_aload_n C (dq DX8_readHop 11 rfl) rfl 0 rfl ?_
      refine getX8_47 C (dq DX8_readHop 12 rfl) g0 ?_
      refine x_pc 27 rfl ?_
      refine x_iload_n C (dq DX8_readHop 13 rfl) rfl 1 rfl ?_
      refine x_iald C (dq DX8_readHop 14 rfl) h (fun a12 h => ?_)
      refine x_iconst (v := 5) C (dq DX8_readHop 15 rfl) (by decide) ?_
      refine x_icmp_ne (tgt := 38) C (dq DX8_readHop 16 rfl) (by decide) h (fun h => ?_) (fun h => ?_)
      · exact x_lv [0, 1] rfl (tX8_readHop_38 C g0 h hQ)
      · refine x_aload_n C (dq DX8_readHop 17 rfl) rfl 0 rfl ?_
        refine x_pc 34 rfl ?_
        refine x_iconst (v := 2) C (dq DX8_readHop 18 rfl) (by decide) ?_
        refine callX8_174 C (dq DX8_readHop 19 rfl) h (by decide) (by decide) (Nat.le_of_ble_eq_true rfl) (fun m13 h => ?_)
        exact x_lv [0, 1] rfl (tX8_readHop_38 C g0 h hQ)
    · exact x_lv [0, 1] rfl (tX8_readHop_15 C g0 h hQ)
set_option maxHeartbeats 1000000 in
theorem qX8_readHop {S : List Sh} {mm : Mm} {x0 : Nat} {x1 : Int32} {r : Mm} (h : fX8_readHop S mm x0 x1 = some r) : isC S x0 8 := by
  unfold fX8_readHop at h
  exact (gd_some h).1
theorem callX8_205 {G : Gt} {l : Launch} {E : Ev} {S : List Sh} {cc : ByteArray} {nL : Nat} {rt : Option FieldType} {fr lo : Nat} {pc : Nat} {lv : List (Nat × Value)} {rest : List Value} {mm : Mm} {α : Type} {f : Mm → Option α} {r : α} {o : Nat} {a0 : Int32} (C : Cx G E cc nL RX8 rt fr lo) (d : decode cc pc = .ok (.invokevirtual 205, 3)) (h : bd1 (fX8_readHop S mm o a0) f = some r) (hfr : 7 ≤ fr) (hlo : 151 ≤ lo) (hrs : (rest.map fun v => v.category).sum ≤ 8) (k : ∀ m1, f m1 = some r → WM G l E S (pc + 3) lv rest m1) : WM G l E S pc lv (.int a0 :: .ref (E.2.2 o) :: rest) mm := by
  obtain ⟨m1, hv, hf⟩ := bd1_some h
  exact x_callV (n := 1) (As := [.int a0]) (rest := rest) C (mX8_readHop hv) (qX8_readHop hv) (T := TX8) (N := 49) rfl (gmem 1133 (by decide +kernel) rfl) (gmem 1135 (by decide +kernel) rfl) (gmemS 57 (by decide +kernel) rfl) (gmem 9 (by decide +kernel) rfl) (gmem 1136 (by decide +kernel) rfl) (by decide +kernel) rfl hfr hlo hrs d rfl rfl (k m1 hf)
abbrev eX8_readFlow : List (Nat × Instr × Nat) := [(0, .bipush 8, 2), (2, .aload_n 0, 1), (3, .iconst 1, 1), (4, .invokevirtual 185, 3), (7, .iadd, 1), (8, .istore_n 1, 1), (9, .iload_n 1, 1), (10, .bipush 16, 2), (12, .if_icmp .ne 8, 3), (15, .aload_n 0, 1), (16, .iconst 2, 1), (17, .invokevirtual 174, 3), (20, .aload_n 0, 1), (21, .aload_n 0, 1), (22, .getfield 38, 3), (25, .bipush 8, 2), (27, .aload_n 0, 1), (28, .iconst 1, 1), (29, .invokevirtual 185, 3), (32, .invokevirtual 189, 3), (35, .aload_n 0, 1), (36, .iconst 1, 1), (37, .sipush 1024, 3), (40, .invokevirtual 193, 3), (43, .istore_n 2, 1), (44, .aload_n 0, 1), (45, .getfield 165, 3), (48, .ifCond .eq 4, 3), (51, .return_, 1), (52, .aload_n 0, 1), (53, .getfield 41, 3), (56, .iload_n 1, 1), (57, .iload_n 2, 1), (58, .iastore, 1), (59, .aload_n 0, 1), (60, .getfield 44, 3), (63, .iload_n 1, 1), (64, .iconst 0, 1), (65, .bastore, 1), (66, .aload_n 0, 1), (67, .getfield 47, 3), (70, .iload_n 1, 1), (71, .iconst 0, 1), (72, .iastore, 1), (73, .aload_n 0, 1), (74, .iload_n 1, 1), (75, .invokevirtual 205, 3), (78, .aload_n 0, 1), (79, .getfield 165, 3), (82, .ifCond .ne 19, 3), (85, .aload_n 0, 1), (86, .getfield 134, 3), (89, .iconst 3, 1), (90, .if_icmp .eq 11, 3), (93, .aload_n 0, 1), (94, .iload_n 1, 1), (95, .invokevirtual 205, 3), (98, .goto (-20), 3), (101, .aload_n 0, 1), (102, .iconst 1, 1), (103, .aload_n 0, 1), (104, .iconst 1, 1), (105, .invokevirtual 185, 3), (108, .iconst 1, 1), (109, .iadd, 1), (110, .invokevirtual 197, 3), (113, .return_, 1)]
theorem DX8_readFlow : (eX8_readFlow.all fun q => decide (decode cX8_readFlow q.1 = .ok q.2)) = true := by decide +kernel
def bX8_readFlow_78 (S : List Sh) (x0 : Nat) (x1 : Int32)  (mm : Mm) : Option ((Mm) ⊕ (Mm)) := if ¬ (mm.1 x0 22) = 0 then (some (.inr (mm))) else (if (mm.1 x0 20) = 3 then (some (.inr (mm))) else (bd1 (fX8_readHop S mm x0 x1) fun m10 => some (.inl (m10))))
def jX8_readFlow_101 (S : List Sh) (mm : Mm) (x0 : Nat)  : Option (Mm) := bd1 (fX8_reading S mm x0 1) fun a13 => bd1 (fX8_reads S mm x0 1 (a13 + 1)) fun m14 => some m14
def jX8_readFlow_20 (S : List Sh) (mm : Mm) (x0 : Nat) (x1 : Int32)  : Option (Mm) := bd1 (fX8_reading S mm x0 1) fun a2 => bd1 (fX8_newName S mm x0 (rf S mm x0 11) 8 a2) fun m3 => bd2 (fX8_numeral S m3 x0 1 1024) fun a4 m5 => if (m5.1 x0 22) = 0 then (bd1 (stA S 0 m5 (rf S m5 x0 12) x1 a4) fun m6 => bd1 (stA S 2 m6 (rf S m6 x0 13) x1 0) fun m7 => bd1 (stA S 0 m7 (rf S m7 x0 14) x1 0) fun m8 => bd1 (fX8_readHop S m8 x0 x1) fun m9 => bd1 (lp (fun s11 => bX8_readFlow_78 S x0 x1 s11) fu m9) fun y12 => jX8_readFlow_101 S y12 x0) else (some m5)
def fX8_readFlow (S : List Sh) (mm : Mm) (x0 : Nat) : Option (Mm) := gd S x0 8 (bd1 (fX8_reading S mm x0 1) fun a1 => if ¬ (8 + a1) = 16 then (jX8_readFlow_20 S mm x0 (8 + a1)) else (bd1 (fX8_wrong S mm x0 2) fun m15 => jX8_readFlow_20 S m15 x0 (8 + a1)))
set_option maxHeartbeats 1000000 in
theorem tX8_readFlow_78 {G : Gt} {l : Launch} {E : Ev} {S : List Sh} {x0 : Nat} {x1 : Int32}  {mm : Mm} {r : (Mm) ⊕ (Mm)} (C : Cx G E cX8_readFlow 3 RX8 none 8 172) (g0 : isC S x0 8) (h : bX8_readFlow_78 S x0 x1 mm = some r) (kb : ∀ z : Mm, r = .inl z → WM G l E S 78 [(0, .ref (E.2.2 x0)), (1, .int x1)] [] z) (kx : ∀ z : Mm, r = .inr z → WM G l E S 101 [(0, .ref (E.2.2 x0)), (1, .int x1)] [] z) : WM G l E S 78 [(0, .ref (E.2.2 x0)), (1, .int x1)] [] mm := by
  unfold bX8_readFlow_78 at h
  refine x_aload_n C (dq DX8_readFlow 47 rfl) rfl 0 rfl ?_
  refine getX8_165 C (dq DX8_readFlow 48 rfl) g0 ?_
  refine x_if_ne (tgt := 101) C (dq DX8_readFlow 49 rfl) (by decide) h (fun h => ?_) (fun h => ?_)
  · cases h
    exact x_lv [0, 1] rfl (kx (mm) rfl)
  · refine x_aload_n C (dq DX8_readFlow 50 rfl) rfl 0 rfl ?_
    refine x_pc 86 rfl ?_
    refine getX8_134 C (dq DX8_readFlow 51 rfl) g0 ?_
    refine x_iconst (v := 3) C (dq DX8_readFlow 52 rfl) (by decide) ?_
    refine x_icmp_eq (tgt := 101) C (dq DX8_readFlow 53 rfl) (by decide) h (fun h => ?_) (fun h => ?_)
    · cases h
      exact x_lv [0, 1] rfl (kx (mm) rfl)
    · refine x_aload_n C (dq DX8_readFlow 54 rfl) rfl 0 rfl ?_
      refine x_iload_n C (dq DX8_readFlow 55 rfl) rfl 1 rfl ?_
      refine x_pc 95 rfl ?_
      refine callX8_205 C (dq DX8_readFlow 56 rfl) h (by decide) (by decide) (Nat.le_of_ble_eq_true rfl) (fun m10 h => ?_)
      refine x_goto (tgt := 78) C (dq DX8_readFlow 57 rfl) (by decide) ?_
      cases h
      exact x_lv [0, 1] rfl (kb (m10) rfl)
set_option maxHeartbeats 1000000 in
theorem tX8_readFlow_101 {G : Gt} {l : Launch} {E : Ev} {S : List Sh} {mm : Mm} {x0 : Nat}  {r : Mm} (C : Cx G E cX8_readFlow 3 RX8 none 8 172) (g0 : isC S x0 8) (h : jX8_readFlow_101 S mm x0 = some r) (hQ : RQ G E S none r) : WM G l E S 101 [(0, .ref (E.2.2 x0))] [] mm := by
  unfold jX8_readFlow_101 at h
  refine x_aload_n C (dq DX8_readFlow 58 rfl) rfl 0 rfl ?_
  refine x_iconst (v := 1) C (dq DX8_readFlow 59 rfl) (by decide) ?_
  refine x_aload_n C (dq DX8_readFlow 60 rfl) rfl 0 rfl ?_
  refine x_iconst (v := 1) C (dq DX8_readFlow 61 rfl) (by decide) ?_
  refine x_pc 105 rfl ?_
  refine callX8_185 C (dq DX8_readFlow 62 rfl) h (by decide) (by decide) (Nat.le_of_ble_eq_true rfl) (fun a13 h => ?_)
  refine x_iconst (v := 1) C (dq DX8_readFlow 63 rfl) (by decide) ?_
  refine x_iadd C (dq DX8_readFlow 64 rfl) ?_
  refine callX8_197 C (dq DX8_readFlow 65 rfl) h (by decide) (by decide) (Nat.le_of_ble_eq_true rfl) (fun m14 h => ?_)
  cases h
  exact x_vret C (dq DX8_readFlow 66 rfl) hQ
set_option maxHeartbeats 1000000 in
theorem tX8_readFlow_20 {G : Gt} {l : Launch} {E : Ev} {S : List Sh} {mm : Mm} {x0 : Nat} {x1 : Int32}  {r : Mm} (C : Cx G E cX8_readFlow 3 RX8 none 8 172) (g0 : isC S x0 8) (h : jX8_readFlow_20 S mm x0 x1 = some r) (hQ : RQ G E S none r) : WM G l E S 20 [(0, .ref (E.2.2 x0)), (1, .int x1)] [] mm := by
  unfold jX8_readFlow_20 at h
  refine x_aload_n C (dq DX8_readFlow 12 rfl) rfl 0 rfl ?_
  refine x_aload_n C (dq DX8_readFlow 13 rfl) rfl 0 rfl ?_
  refine getX8_38 C (dq DX8_readFlow 14 rfl) g0 ?_
  refine x_bipush (v := 8) C (dq DX8_readFlow 15 rfl) (by decide) ?_
  refine x_pc 27 rfl ?_
  refine x_aload_n C (dq DX8_readFlow 16 rfl) rfl 0 rfl ?_
  refine x_iconst (v := 1) C (dq DX8_readFlow 17 rfl) (by decide) ?_
  refine callX8_185 C (dq DX8_readFlow 18 rfl) h (by decide) (by decide) (Nat.le_of_ble_eq_true rfl) (fun a2 h => ?_)
  refine callX8_189 C (dq DX8_readFlow 19 rfl) h (by decide) (by decide) (Nat.le_of_ble_eq_true rfl) (fun m3 h => ?_)
  refine x_aload_n C (dq DX8_readFlow 20 rfl) rfl 0 rfl ?_
  refine x_pc 36 rfl ?_
  refine x_iconst (v := 1) C (dq DX8_readFlow 21 rfl) (by decide) ?_
  refine x_sipush (v := 1024) C (dq DX8_readFlow 22 rfl) (by decide) ?_
  refine callX8_193 C (dq DX8_readFlow 23 rfl) h (by decide) (by decide) (Nat.le_of_ble_eq_true rfl) (fun a4 m5 h => ?_)
  refine x_istore_n (lv' := [(2, .int a4), (0, .ref (E.2.2 x0)), (1, .int x1)]) C (dq DX8_readFlow 24 rfl) rfl (by decide) rfl ?_
  refine x_aload_n C (dq DX8_readFlow 25 rfl) rfl 1 rfl ?_
  refine x_pc 45 rfl ?_
  refine getX8_165 C (dq DX8_readFlow 26 rfl) g0 ?_
  refine x_if_eq (tgt := 52) C (dq DX8_readFlow 27 rfl) (by decide) h (fun h => ?_) (fun h => ?_)
  · refine x_aload_n C (dq DX8_readFlow 29 rfl) rfl 1 rfl ?_
    refine getX8_41 C (dq DX8_readFlow 30 rfl) g0 ?_
    refine x_iload_n C (dq DX8_readFlow 31 rfl) rfl 2 rfl ?_
    refine x_pc 57 rfl ?_
    refine x_iload_n C (dq DX8_readFlow 32 rfl) rfl 0 rfl ?_
    refine x_iast C (dq DX8_readFlow 33 rfl) h (fun m6 h => ?_)
    refine x_aload_n C (dq DX8_readFlow 34 rfl) rfl 1 rfl ?_
    refine getX8_44 C (dq DX8_readFlow 35 rfl) g0 ?_
    refine x_iload_n C (dq DX8_readFlow 36 rfl) rfl 2 rfl ?_
    refine x_pc 64 rfl ?_
    refine x_iconst (v := 0) C (dq DX8_readFlow 37 rfl) (by decide) ?_
    refine x_zast C (dq DX8_readFlow 38 rfl) h (fun m7 h => ?_)
    refine x_aload_n C (dq DX8_readFlow 39 rfl) rfl 1 rfl ?_
    refine getX8_47 C (dq DX8_readFlow 40 rfl) g0 ?_
    refine x_iload_n C (dq DX8_readFlow 41 rfl) rfl 2 rfl ?_
    refine x_pc 71 rfl ?_
    refine x_iconst (v := 0) C (dq DX8_readFlow 42 rfl) (by decide) ?_
    refine x_iast C (dq DX8_readFlow 43 rfl) h (fun m8 h => ?_)
    refine x_aload_n C (dq DX8_readFlow 44 rfl) rfl 1 rfl ?_
    refine x_iload_n C (dq DX8_readFlow 45 rfl) rfl 2 rfl ?_
    refine callX8_205 C (dq DX8_readFlow 46 rfl) h (by decide) (by decide) (Nat.le_of_ble_eq_true rfl) (fun m9 h => ?_)
    refine x_lv [1, 2] rfl ?_
    refine x_loop (s0 := m9) (fun s11 => WM G l E S 78 [(0, .ref (E.2.2 x0)), (1, .int x1)] [] s11) h (fun s11 r hb kb kx => tX8_readFlow_78 C g0 hb kb (fun y12 hy => ?_))
    have h := kx y12 hy
    clear kx kb hb hy
    exact x_lv [0] rfl (tX8_readFlow_101 C g0 h hQ)
  · cases h
    exact x_vret C (dq DX8_readFlow 28 rfl) hQ
set_option maxHeartbeats 1000000 in
theorem mX8_readFlow {l : Launch} {E : Ev} {S : List Sh} {mm : Mm} {x0 : Nat} {r : Mm} (h : fX8_readFlow S mm x0 = some r) : Ml l E S yX8_readFlow cX8_readFlow 3 none 8 172 [.ref (E.2.2 x0)] mm none r := by
  refine Ml.of (by decide +kernel) (Nat.le_of_ble_eq_true rfl) (fun G C hQ => ?_)
  have C : Cx G E cX8_readFlow 3 RX8 none 8 172 := C
  unfold fX8_readFlow at h
  obtain ⟨g0, h⟩ := gd_some h
  show WM G l E S 0 [(0, .ref (E.2.2 x0))] [] mm
  refine x_bipush (v := 8) C (dq DX8_readFlow 0 rfl) (by decide) ?_
  refine x_aload_n C (dq DX8_readFlow 1 rfl) rfl 0 rfl ?_
  refine x_iconst (v := 1) C (dq DX8_readFlow 2 rfl) (by decide) ?_
  refine callX8_185 C (dq DX8_readFlow 3 rfl) h (by decide) (by decide) (Nat.le_of_ble_eq_true rfl) (fun a1 h => ?_)
  refine x_pc 7 rfl ?_
  refine x_iadd C (dq DX8_readFlow 4 rfl) ?_
  refine x_istore_n (lv' := [(1, .int (8 + a1)), (0, .ref (E.2.2 x0))]) C (dq DX8_readFlow 5 rfl) rfl (by decide) rfl ?_
  refine x_iload_n C (dq DX8_readFlow 6 rfl) rfl 0 rfl ?_
  refine x_bipush (v := 16) C (dq DX8_readFlow 7 rfl) (by decide) ?_
  refine x_icmp_ne (tgt := 20) C (dq DX8_readFlow 8 rfl) (by decide) h (fun h => ?_) (fun h => ?_)
  · exact x_lv [1, 0] rfl (tX8_readFlow_20 C g0 h hQ)
  · refine x_pc 15 rfl ?_
    refine x_aload_n C (dq DX8_readFlow 9 rfl) rfl 1 rfl ?_
    refine x_iconst (v := 2) C (dq DX8_readFlow 10 rfl) (by decide) ?_
    refine callX8_174 C (dq DX8_readFlow 11 rfl) h (by decide) (by decide) (Nat.le_of_ble_eq_true rfl) (fun m15 h => ?_)
    exact x_lv [1, 0] rfl (tX8_readFlow_20 C g0 h hQ)
set_option maxHeartbeats 1000000 in
theorem qX8_readFlow {S : List Sh} {mm : Mm} {x0 : Nat} {r : Mm} (h : fX8_readFlow S mm x0 = some r) : isC S x0 8 := by
  unfold fX8_readFlow at h
  exact (gd_some h).1
theorem callX8_208 {G : Gt} {l : Launch} {E : Ev} {S : List Sh} {cc : ByteArray} {nL : Nat} {rt : Option FieldType} {fr lo : Nat} {pc : Nat} {lv : List (Nat × Value)} {rest : List Value} {mm : Mm} {α : Type} {f : Mm → Option α} {r : α} {o : Nat} {a0 : Int32} (C : Cx G E cc nL RX8 rt fr lo) (d : decode cc pc = .ok (.invokevirtual 208, 3)) (h : bd1 (fX8_once S mm o a0) f = some r) (hfr : 8 ≤ fr) (hlo : 170 ≤ lo) (hrs : (rest.map fun v => v.category).sum ≤ 8) (k : ∀ m1, f m1 = some r → WM G l E S (pc + 3) lv rest m1) : WM G l E S pc lv (.int a0 :: .ref (E.2.2 o) :: rest) mm := by
  obtain ⟨m1, hv, hf⟩ := bd1_some h
  exact x_callV (n := 1) (As := [.int a0]) (rest := rest) C (mX8_once hv) (qX8_once hv) (T := TX8) (N := 49) rfl (gmem 1145 (by decide +kernel) rfl) (gmem 1147 (by decide +kernel) rfl) (gmemS 60 (by decide +kernel) rfl) (gmem 9 (by decide +kernel) rfl) (gmem 1148 (by decide +kernel) rfl) (by decide +kernel) rfl hfr hlo hrs d rfl rfl (k m1 hf)
abbrev eX8_readSample : List (Nat × Instr × Nat) := [(0, .aload_n 0, 1), (1, .iconst 2, 1), (2, .invokevirtual 208, 3), (5, .aload_n 0, 1), (6, .iconst 2, 1), (7, .aload_n 0, 1), (8, .iconst 1, 1), (9, .sipush 999, 3), (12, .invokevirtual 193, 3), (15, .invokevirtual 197, 3), (18, .aload_n 0, 1), (19, .iconst 3, 1), (20, .aload_n 0, 1), (21, .iconst 1, 1), (22, .sipush 500, 3), (25, .invokevirtual 193, 3), (28, .invokevirtual 197, 3), (31, .aload_n 0, 1), (32, .iconst 4, 1), (33, .aload_n 0, 1), (34, .iconst 0, 1), (35, .iconst 4, 1), (36, .invokevirtual 193, 3), (39, .invokevirtual 197, 3), (42, .return_, 1)]
theorem DX8_readSample : (eX8_readSample.all fun q => decide (decode cX8_readSample q.1 = .ok q.2)) = true := by decide +kernel
def fX8_readSample (S : List Sh) (mm : Mm) (x0 : Nat) : Option (Mm) := gd S x0 8 (bd1 (fX8_once S mm x0 2) fun m1 => bd2 (fX8_numeral S m1 x0 1 999) fun a2 m3 => bd1 (fX8_reads S m3 x0 2 a2) fun m4 => bd2 (fX8_numeral S m4 x0 1 500) fun a5 m6 => bd1 (fX8_reads S m6 x0 3 a5) fun m7 => bd2 (fX8_numeral S m7 x0 0 4) fun a8 m9 => bd1 (fX8_reads S m9 x0 4 a8) fun m10 => some m10)
set_option maxHeartbeats 1000000 in
theorem mX8_readSample {l : Launch} {E : Ev} {S : List Sh} {mm : Mm} {x0 : Nat} {r : Mm} (h : fX8_readSample S mm x0 = some r) : Ml l E S yX8_readSample cX8_readSample 1 none 8 172 [.ref (E.2.2 x0)] mm none r := by
  refine Ml.of (by decide +kernel) (Nat.le_of_ble_eq_true rfl) (fun G C hQ => ?_)
  have C : Cx G E cX8_readSample 1 RX8 none 8 172 := C
  unfold fX8_readSample at h
  obtain ⟨g0, h⟩ := gd_some h
  show WM G l E S 0 [(0, .ref (E.2.2 x0))] [] mm
  refine x_aload_n C (dq DX8_readSample 0 rfl) rfl 0 rfl ?_
  refine x_iconst (v := 2) C (dq DX8_readSample 1 rfl) (by decide) ?_
  refine callX8_208 C (dq DX8_readSample 2 rfl) h (by decide) (by decide) (Nat.le_of_ble_eq_true rfl) (fun m1 h => ?_)
  refine x_aload_n C (dq DX8_readSample 3 rfl) rfl 0 rfl ?_
  refine x_pc 6 rfl ?_
  refine x_iconst (v := 2) C (dq DX8_readSample 4 rfl) (by decide) ?_
  refine x_aload_n C (dq DX8_readSample 5 rfl) rfl 0 rfl ?_
  refine x_iconst (v := 1) C (dq DX8_readSample 6 rfl) (by decide) ?_
  refine x_sipush (v := 999) C (dq DX8_readSample 7 rfl) (by decide) ?_
  refine callX8_193 C (dq DX8_readSample 8 rfl) h (by decide) (by decide) (Nat.le_of_ble_eq_true rfl) (fun a2 m3 h => ?_)
  refine x_pc 15 rfl ?_
  refine callX8_197 C (dq DX8_readSample 9 rfl) h (by decide) (by decide) (Nat.le_of_ble_eq_true rfl) (fun m4 h => ?_)
  refine x_aload_n C (dq DX8_readSample 10 rfl) rfl 0 rfl ?_
  refine x_iconst (v := 3) C (dq DX8_readSample 11 rfl) (by decide) ?_
  refine x_aload_n C (dq DX8_readSample 12 rfl) rfl 0 rfl ?_
  refine x_iconst (v := 1) C (dq DX8_readSample 13 rfl) (by decide) ?_
  refine x_pc 22 rfl ?_
  refine x_sipush (v := 500) C (dq DX8_readSample 14 rfl) (by decide) ?_
  refine callX8_193 C (dq DX8_readSample 15 rfl) h (by decide) (by decide) (Nat.le_of_ble_eq_true rfl) (fun a5 m6 h => ?_)
  refine callX8_197 C (dq DX8_readSample 16 rfl) h (by decide) (by decide) (Nat.le_of_ble_eq_true rfl) (fun m7 h => ?_)
  refine x_aload_n C (dq DX8_readSample 17 rfl) rfl 0 rfl ?_
  refine x_iconst (v := 4) C (dq DX8_readSample 18 rfl) (by decide) ?_
  refine x_pc 33 rfl ?_
  refine x_aload_n C (dq DX8_readSample 19 rfl) rfl 0 rfl ?_
  refine x_iconst (v := 0) C (dq DX8_readSample 20 rfl) (by decide) ?_
  refine x_iconst (v := 4) C (dq DX8_readSample 21 rfl) (by decide) ?_
  refine callX8_193 C (dq DX8_readSample 22 rfl) h (by decide) (by decide) (Nat.le_of_ble_eq_true rfl) (fun a8 m9 h => ?_)
  refine callX8_197 C (dq DX8_readSample 23 rfl) h (by decide) (by decide) (Nat.le_of_ble_eq_true rfl) (fun m10 h => ?_)
  refine x_pc 42 rfl ?_
  cases h
  exact x_vret C (dq DX8_readSample 24 rfl) hQ
set_option maxHeartbeats 1000000 in
theorem qX8_readSample {S : List Sh} {mm : Mm} {x0 : Nat} {r : Mm} (h : fX8_readSample S mm x0 = some r) : isC S x0 8 := by
  unfold fX8_readSample at h
  exact (gd_some h).1
abbrev eX8_readStage : List (Nat × Instr × Nat) := [(0, .aload_n 0, 1), (1, .iconst 3, 1), (2, .invokevirtual 208, 3), (5, .aload_n 0, 1), (6, .iconst 5, 1), (7, .aload_n 0, 1), (8, .iconst 1, 1), (9, .sipush 999, 3), (12, .invokevirtual 193, 3), (15, .invokevirtual 197, 3), (18, .aload_n 0, 1), (19, .bipush 6, 2), (21, .aload_n 0, 1), (22, .iconst 1, 1), (23, .bipush 99, 2), (25, .invokevirtual 193, 3), (28, .invokevirtual 197, 3), (31, .aload_n 0, 1), (32, .bipush 7, 2), (34, .aload_n 0, 1), (35, .iconst 1, 1), (36, .bipush 99, 2), (38, .invokevirtual 193, 3), (41, .invokevirtual 197, 3), (44, .return_, 1)]
theorem DX8_readStage : (eX8_readStage.all fun q => decide (decode cX8_readStage q.1 = .ok q.2)) = true := by decide +kernel
def fX8_readStage (S : List Sh) (mm : Mm) (x0 : Nat) : Option (Mm) := gd S x0 8 (bd1 (fX8_once S mm x0 3) fun m1 => bd2 (fX8_numeral S m1 x0 1 999) fun a2 m3 => bd1 (fX8_reads S m3 x0 5 a2) fun m4 => bd2 (fX8_numeral S m4 x0 1 99) fun a5 m6 => bd1 (fX8_reads S m6 x0 6 a5) fun m7 => bd2 (fX8_numeral S m7 x0 1 99) fun a8 m9 => bd1 (fX8_reads S m9 x0 7 a8) fun m10 => some m10)
set_option maxHeartbeats 1000000 in
theorem mX8_readStage {l : Launch} {E : Ev} {S : List Sh} {mm : Mm} {x0 : Nat} {r : Mm} (h : fX8_readStage S mm x0 = some r) : Ml l E S yX8_readStage cX8_readStage 1 none 8 172 [.ref (E.2.2 x0)] mm none r := by
  refine Ml.of (by decide +kernel) (Nat.le_of_ble_eq_true rfl) (fun G C hQ => ?_)
  have C : Cx G E cX8_readStage 1 RX8 none 8 172 := C
  unfold fX8_readStage at h
  obtain ⟨g0, h⟩ := gd_some h
  show WM G l E S 0 [(0, .ref (E.2.2 x0))] [] mm
  refine x_aload_n C (dq DX8_readStage 0 rfl) rfl 0 rfl ?_
  refine x_iconst (v := 3) C (dq DX8_readStage 1 rfl) (by decide) ?_
  refine callX8_208 C (dq DX8_readStage 2 rfl) h (by decide) (by decide) (Nat.le_of_ble_eq_true rfl) (fun m1 h => ?_)
  refine x_aload_n C (dq DX8_readStage 3 rfl) rfl 0 rfl ?_
  refine x_pc 6 rfl ?_
  refine x_iconst (v := 5) C (dq DX8_readStage 4 rfl) (by decide) ?_
  refine x_aload_n C (dq DX8_readStage 5 rfl) rfl 0 rfl ?_
  refine x_iconst (v := 1) C (dq DX8_readStage 6 rfl) (by decide) ?_
  refine x_sipush (v := 999) C (dq DX8_readStage 7 rfl) (by decide) ?_
  refine callX8_193 C (dq DX8_readStage 8 rfl) h (by decide) (by decide) (Nat.le_of_ble_eq_true rfl) (fun a2 m3 h => ?_)
  refine x_pc 15 rfl ?_
  refine callX8_197 C (dq DX8_readStage 9 rfl) h (by decide) (by decide) (Nat.le_of_ble_eq_true rfl) (fun m4 h => ?_)
  refine x_aload_n C (dq DX8_readStage 10 rfl) rfl 0 rfl ?_
  refine x_bipush (v := 6) C (dq DX8_readStage 11 rfl) (by decide) ?_
  refine x_aload_n C (dq DX8_readStage 12 rfl) rfl 0 rfl ?_
  refine x_iconst (v := 1) C (dq DX8_readStage 13 rfl) (by decide) ?_
  refine x_pc 23 rfl ?_
  refine x_bipush (v := 99) C (dq DX8_readStage 14 rfl) (by decide) ?_
  refine callX8_193 C (dq DX8_readStage 15 rfl) h (by decide) (by decide) (Nat.le_of_ble_eq_true rfl) (fun a5 m6 h => ?_)
  refine callX8_197 C (dq DX8_readStage 16 rfl) h (by decide) (by decide) (Nat.le_of_ble_eq_true rfl) (fun m7 h => ?_)
  refine x_aload_n C (dq DX8_readStage 17 rfl) rfl 0 rfl ?_
  refine x_bipush (v := 7) C (dq DX8_readStage 18 rfl) (by decide) ?_
  refine x_pc 34 rfl ?_
  refine x_aload_n C (dq DX8_readStage 19 rfl) rfl 0 rfl ?_
  refine x_iconst (v := 1) C (dq DX8_readStage 20 rfl) (by decide) ?_
  refine x_bipush (v := 99) C (dq DX8_readStage 21 rfl) (by decide) ?_
  refine callX8_193 C (dq DX8_readStage 22 rfl) h (by decide) (by decide) (Nat.le_of_ble_eq_true rfl) (fun a8 m9 h => ?_)
  refine callX8_197 C (dq DX8_readStage 23 rfl) h (by decide) (by decide) (Nat.le_of_ble_eq_true rfl) (fun m10 h => ?_)
  refine x_pc 44 rfl ?_
  cases h
  exact x_vret C (dq DX8_readStage 24 rfl) hQ
set_option maxHeartbeats 1000000 in
theorem qX8_readStage {S : List Sh} {mm : Mm} {x0 : Nat} {r : Mm} (h : fX8_readStage S mm x0 = some r) : isC S x0 8 := by
  unfold fX8_readStage at h
  exact (gd_some h).1
abbrev eX8_readOff : List (Nat × Instr × Nat) := [(0, .aload_n 0, 1), (1, .invokevirtual 178, 3), (4, .aload_n 0, 1), (5, .getfield 165, 3), (8, .ifCond .eq 4, 3), (11, .return_, 1), (12, .aload_n 0, 1), (13, .getfield 134, 3), (16, .iconst 1, 1), (17, .if_icmp .eq 8, 3), (20, .aload_n 0, 1), (21, .iconst 1, 1), (22, .invokevirtual 174, 3), (25, .aload_n 0, 1), (26, .getfield 165, 3), (29, .ifCond .ne 24, 3), (32, .aload_n 0, 1), (33, .getfield 38, 3), (36, .bipush 8, 2), (38, .aload_n 0, 1), (39, .iconst 1, 1), (40, .invokevirtual 185, 3), (43, .aload_n 0, 1), (44, .getfield 144, 3), (47, .invokestatic 181, 3), (50, .goto 4, 3), (53, .iconst 0, 1), (54, .istore_n 1, 1), (55, .iload_n 1, 1), (56, .iconst (-1), 1), (57, .if_icmp .ne 11, 3), (60, .aload_n 0, 1), (61, .iconst 4, 1), (62, .invokevirtual 174, 3), (65, .goto 27, 3), (68, .aload_n 0, 1), (69, .getfield 165, 3), (72, .ifCond .ne 20, 3), (75, .aload_n 0, 1), (76, .getfield 44, 3), (79, .bipush 8, 2), (81, .iload_n 1, 1), (82, .iadd, 1), (83, .baload, 1), (84, .ifCond .eq 8, 3), (87, .aload_n 0, 1), (88, .iconst 3, 1), (89, .invokevirtual 174, 3), (92, .aload_n 0, 1), (93, .getfield 165, 3), (96, .ifCond .eq 4, 3), (99, .return_, 1), (100, .aload_n 0, 1), (101, .getfield 44, 3), (104, .bipush 8, 2), (106, .iload_n 1, 1), (107, .iadd, 1), (108, .iconst 1, 1), (109, .bastore, 1), (110, .aload_n 0, 1), (111, .invokevirtual 171, 3), (114, .return_, 1)]
theorem DX8_readOff : (eX8_readOff.all fun q => decide (decode cX8_readOff q.1 = .ok q.2)) = true := by decide +kernel
def jX8_readOff_92 (S : List Sh) (mm : Mm) (x0 : Nat) (x1 : Int32)  : Option (Mm) := if (mm.1 x0 22) = 0 then (bd1 (stA S 2 mm (rf S mm x0 13) (8 + x1) 1) fun m2 => bd1 (fX8_token S m2 x0) fun m3 => some m3) else (some mm)
def jX8_readOff_54 (S : List Sh) (mm : Mm) (x0 : Nat) (p0 : Int32) : Option (Mm) := if ¬ p0 = (-1) then (if ¬ (mm.1 x0 22) = 0 then (jX8_readOff_92 S mm x0 p0) else (bd1 (ldA S 2 mm (rf S mm x0 13) (8 + p0)) fun a4 => if a4 = 0 then (jX8_readOff_92 S mm x0 p0) else (bd1 (fX8_wrong S mm x0 3) fun m5 => jX8_readOff_92 S m5 x0 p0))) else (bd1 (fX8_wrong S mm x0 4) fun m6 => jX8_readOff_92 S m6 x0 p0)
def jX8_readOff_25 (S : List Sh) (mm : Mm) (x0 : Nat)  : Option (Mm) := if ¬ (mm.1 x0 22) = 0 then (jX8_readOff_54 S mm x0 0) else (bd1 (fX8_reading S mm x0 1) fun a7 => bd1 (fX8_foundIn S mm (rf S mm x0 11) 8 a7 (mm.1 x0 21)) fun a8 => jX8_readOff_54 S mm x0 a8)
def fX8_readOff (S : List Sh) (mm : Mm) (x0 : Nat) : Option (Mm) := gd S x0 8 (bd1 (fX8_goOn S mm x0) fun m1 => if (m1.1 x0 22) = 0 then (if (m1.1 x0 20) = 1 then (jX8_readOff_25 S m1 x0) else (bd1 (fX8_wrong S m1 x0 1) fun m9 => jX8_readOff_25 S m9 x0)) else (some m1))
set_option maxHeartbeats 1000000 in
theorem tX8_readOff_92 {G : Gt} {l : Launch} {E : Ev} {S : List Sh} {mm : Mm} {x0 : Nat} {x1 : Int32}  {r : Mm} (C : Cx G E cX8_readOff 2 RX8 none 7 149) (g0 : isC S x0 8) (h : jX8_readOff_92 S mm x0 x1 = some r) (hQ : RQ G E S none r) : WM G l E S 92 [(0, .ref (E.2.2 x0)), (1, .int x1)] [] mm := by
  unfold jX8_readOff_92 at h
  refine x_aload_n C (dq DX8_readOff 48 rfl) rfl 0 rfl ?_
  refine getX8_165 C (dq DX8_readOff 49 rfl) g0 ?_
  refine x_if_eq (tgt := 100) C (dq DX8_readOff 50 rfl) (by decide) h (fun h => ?_) (fun h => ?_)
  · refine x_aload_n C (dq DX8_readOff 52 rfl) rfl 0 rfl ?_
    refine x_pc 101 rfl ?_
    refine getX8_44 C (dq DX8_readOff 53 rfl) g0 ?_
    refine x_bipush (v := 8) C (dq DX8_readOff 54 rfl) (by decide) ?_
    refine x_iload_n C (dq DX8_readOff 55 rfl) rfl 1 rfl ?_
    refine x_iadd C (dq DX8_readOff 56 rfl) ?_
    refine x_iconst (v := 1) C (dq DX8_readOff 57 rfl) (by decide) ?_
    refine x_pc 109 rfl ?_
    refine x_zast C (dq DX8_readOff 58 rfl) h (fun m2 h => ?_)
    refine x_aload_n C (dq DX8_readOff 59 rfl) rfl 0 rfl ?_
    refine callX8_171 C (dq DX8_readOff 60 rfl) h (by decide) (by decide) (Nat.le_of_ble_eq_true rfl) (fun m3 h => ?_)
    cases h
    exact x_vret C (dq DX8_readOff 61 rfl) hQ
  · cases h
    exact x_vret C (dq DX8_readOff 51 rfl) hQ
set_option maxHeartbeats 1000000 in
theorem tX8_readOff_54 {G : Gt} {l : Launch} {E : Ev} {S : List Sh} {mm : Mm} {x0 : Nat} {p0 : Int32} {r : Mm} (C : Cx G E cX8_readOff 2 RX8 none 7 149) (g0 : isC S x0 8) (h : jX8_readOff_54 S mm x0 p0 = some r) (hQ : RQ G E S none r) : WM G l E S 54 [(0, .ref (E.2.2 x0))] [.int p0] mm := by
  unfold jX8_readOff_54 at h
  refine x_istore_n (lv' := [(1, .int p0), (0, .ref (E.2.2 x0))]) C (dq DX8_readOff 27 rfl) rfl (by decide) rfl ?_
  refine x_iload_n C (dq DX8_readOff 28 rfl) rfl 0 rfl ?_
  refine x_iconst (v := (-1)) C (dq DX8_readOff 29 rfl) (by decide) ?_
  refine x_icmp_ne (tgt := 68) C (dq DX8_readOff 30 rfl) (by decide) h (fun h => ?_) (fun h => ?_)
  · refine x_pc 68 rfl ?_
    refine x_aload_n C (dq DX8_readOff 35 rfl) rfl 1 rfl ?_
    refine getX8_165 C (dq DX8_readOff 36 rfl) g0 ?_
    refine x_if_ne (tgt := 92) C (dq DX8_readOff 37 rfl) (by decide) h (fun h => ?_) (fun h => ?_)
    · exact x_lv [1, 0] rfl (tX8_readOff_92 C g0 h hQ)
    · refine x_aload_n C (dq DX8_readOff 38 rfl) rfl 1 rfl ?_
      refine getX8_44 C (dq DX8_readOff 39 rfl) g0 ?_
      refine x_pc 79 rfl ?_
      refine x_bipush (v := 8) C (dq DX8_readOff 40 rfl) (by decide) ?_
      refine x_iload_n C (dq DX8_readOff 41 rfl) rfl 0 rfl ?_
      refine x_iadd C (dq DX8_readOff 42 rfl) ?_
      refine x_zald C (dq DX8_readOff 43 rfl) h (fun a4 h => ?_)
      refine x_if_eq (tgt := 92) C (dq DX8_readOff 44 rfl) (by decide) h (fun h => ?_) (fun h => ?_)
      · exact x_lv [1, 0] rfl (tX8_readOff_92 C g0 h hQ)
      · refine x_pc 87 rfl ?_
        refine x_aload_n C (dq DX8_readOff 45 rfl) rfl 1 rfl ?_
        refine x_iconst (v := 3) C (dq DX8_readOff 46 rfl) (by decide) ?_
        refine callX8_174 C (dq DX8_readOff 47 rfl) h (by decide) (by decide) (Nat.le_of_ble_eq_true rfl) (fun m5 h => ?_)
        exact x_lv [1, 0] rfl (tX8_readOff_92 C g0 h hQ)
  · refine x_pc 60 rfl ?_
    refine x_aload_n C (dq DX8_readOff 31 rfl) rfl 1 rfl ?_
    refine x_iconst (v := 4) C (dq DX8_readOff 32 rfl) (by decide) ?_
    refine callX8_174 C (dq DX8_readOff 33 rfl) h (by decide) (by decide) (Nat.le_of_ble_eq_true rfl) (fun m6 h => ?_)
    refine x_goto (tgt := 92) C (dq DX8_readOff 34 rfl) (by decide) ?_
    exact x_lv [1, 0] rfl (tX8_readOff_92 C g0 h hQ)
set_option maxHeartbeats 1000000 in
theorem tX8_readOff_25 {G : Gt} {l : Launch} {E : Ev} {S : List Sh} {mm : Mm} {x0 : Nat}  {r : Mm} (C : Cx G E cX8_readOff 2 RX8 none 7 149) (g0 : isC S x0 8) (h : jX8_readOff_25 S mm x0 = some r) (hQ : RQ G E S none r) : WM G l E S 25 [(0, .ref (E.2.2 x0))] [] mm := by
  unfold jX8_readOff_25 at h
  refine x_aload_n C (dq DX8_readOff 13 rfl) rfl 0 rfl ?_
  refine getX8_165 C (dq DX8_readOff 14 rfl) g0 ?_
  refine x_if_ne (tgt := 53) C (dq DX8_readOff 15 rfl) (by decide) h (fun h => ?_) (fun h => ?_)
  · refine x_iconst (v := 0) C (dq DX8_readOff 26 rfl) (by decide) ?_
    exact x_lv [0] rfl (tX8_readOff_54 C g0 h hQ)
  · refine x_aload_n C (dq DX8_readOff 16 rfl) rfl 0 rfl ?_
    refine x_pc 33 rfl ?_
    refine getX8_38 C (dq DX8_readOff 17 rfl) g0 ?_
    refine x_bipush (v := 8) C (dq DX8_readOff 18 rfl) (by decide) ?_
    refine x_aload_n C (dq DX8_readOff 19 rfl) rfl 0 rfl ?_
    refine x_iconst (v := 1) C (dq DX8_readOff 20 rfl) (by decide) ?_
    refine callX8_185 C (dq DX8_readOff 21 rfl) h (by decide) (by decide) (Nat.le_of_ble_eq_true rfl) (fun a7 h => ?_)
    refine x_pc 43 rfl ?_
    refine x_aload_n C (dq DX8_readOff 22 rfl) rfl 0 rfl ?_
    refine getX8_144 C (dq DX8_readOff 23 rfl) g0 ?_
    refine callX8_181 C (dq DX8_readOff 24 rfl) h (by decide) (by decide) (Nat.le_of_ble_eq_true rfl) (fun a8 h => ?_)
    refine x_goto (tgt := 54) C (dq DX8_readOff 25 rfl) (by decide) ?_
    exact x_lv [0] rfl (tX8_readOff_54 C g0 h hQ)
set_option maxHeartbeats 1000000 in
theorem mX8_readOff {l : Launch} {E : Ev} {S : List Sh} {mm : Mm} {x0 : Nat} {r : Mm} (h : fX8_readOff S mm x0 = some r) : Ml l E S yX8_readOff cX8_readOff 2 none 7 149 [.ref (E.2.2 x0)] mm none r := by
  refine Ml.of (by decide +kernel) (Nat.le_of_ble_eq_true rfl) (fun G C hQ => ?_)
  have C : Cx G E cX8_readOff 2 RX8 none 7 149 := C
  unfold fX8_readOff at h
  obtain ⟨g0, h⟩ := gd_some h
  show WM G l E S 0 [(0, .ref (E.2.2 x0))] [] mm
  refine x_aload_n C (dq DX8_readOff 0 rfl) rfl 0 rfl ?_
  refine callX8_178 C (dq DX8_readOff 1 rfl) h (by decide) (by decide) (Nat.le_of_ble_eq_true rfl) (fun m1 h => ?_)
  refine x_aload_n C (dq DX8_readOff 2 rfl) rfl 0 rfl ?_
  refine getX8_165 C (dq DX8_readOff 3 rfl) g0 ?_
  refine x_pc 8 rfl ?_
  refine x_if_eq (tgt := 12) C (dq DX8_readOff 4 rfl) (by decide) h (fun h => ?_) (fun h => ?_)
  · refine x_aload_n C (dq DX8_readOff 6 rfl) rfl 0 rfl ?_
    refine getX8_134 C (dq DX8_readOff 7 rfl) g0 ?_
    refine x_iconst (v := 1) C (dq DX8_readOff 8 rfl) (by decide) ?_
    refine x_icmp_eq (tgt := 25) C (dq DX8_readOff 9 rfl) (by decide) h (fun h => ?_) (fun h => ?_)
    · exact x_lv [0] rfl (tX8_readOff_25 C g0 h hQ)
    · refine x_pc 20 rfl ?_
      refine x_aload_n C (dq DX8_readOff 10 rfl) rfl 0 rfl ?_
      refine x_iconst (v := 1) C (dq DX8_readOff 11 rfl) (by decide) ?_
      refine callX8_174 C (dq DX8_readOff 12 rfl) h (by decide) (by decide) (Nat.le_of_ble_eq_true rfl) (fun m9 h => ?_)
      exact x_lv [0] rfl (tX8_readOff_25 C g0 h hQ)
  · cases h
    exact x_vret C (dq DX8_readOff 5 rfl) hQ
set_option maxHeartbeats 1000000 in
theorem qX8_readOff {S : List Sh} {mm : Mm} {x0 : Nat} {r : Mm} (h : fX8_readOff S mm x0 = some r) : isC S x0 8 := by
  unfold fX8_readOff at h
  exact (gd_some h).1
abbrev eX8_readSeed : List (Nat × Instr × Nat) := [(0, .aload_n 0, 1), (1, .iconst 5, 1), (2, .invokevirtual 208, 3), (5, .aload_n 0, 1), (6, .bipush 8, 2), (8, .aload_n 0, 1), (9, .iconst 0, 1), (10, .ldc 153, 2), (12, .invokevirtual 193, 3), (15, .invokevirtual 197, 3), (18, .return_, 1)]
theorem DX8_readSeed : (eX8_readSeed.all fun q => decide (decode cX8_readSeed q.1 = .ok q.2)) = true := by decide +kernel
def fX8_readSeed (S : List Sh) (mm : Mm) (x0 : Nat) : Option (Mm) := gd S x0 8 (bd1 (fX8_once S mm x0 5) fun m1 => bd2 (fX8_numeral S m1 x0 0 99999) fun a2 m3 => bd1 (fX8_reads S m3 x0 8 a2) fun m4 => some m4)
set_option maxHeartbeats 1000000 in
theorem mX8_readSeed {l : Launch} {E : Ev} {S : List Sh} {mm : Mm} {x0 : Nat} {r : Mm} (h : fX8_readSeed S mm x0 = some r) : Ml l E S yX8_readSeed cX8_readSeed 1 none 8 172 [.ref (E.2.2 x0)] mm none r := by
  refine Ml.of (by decide +kernel) (Nat.le_of_ble_eq_true rfl) (fun G C hQ => ?_)
  have C : Cx G E cX8_readSeed 1 RX8 none 8 172 := C
  unfold fX8_readSeed at h
  obtain ⟨g0, h⟩ := gd_some h
  show WM G l E S 0 [(0, .ref (E.2.2 x0))] [] mm
  refine x_aload_n C (dq DX8_readSeed 0 rfl) rfl 0 rfl ?_
  refine x_iconst (v := 5) C (dq DX8_readSeed 1 rfl) (by decide) ?_
  refine callX8_208 C (dq DX8_readSeed 2 rfl) h (by decide) (by decide) (Nat.le_of_ble_eq_true rfl) (fun m1 h => ?_)
  refine x_aload_n C (dq DX8_readSeed 3 rfl) rfl 0 rfl ?_
  refine x_pc 6 rfl ?_
  refine x_bipush (v := 8) C (dq DX8_readSeed 4 rfl) (by decide) ?_
  refine x_aload_n C (dq DX8_readSeed 5 rfl) rfl 0 rfl ?_
  refine x_iconst (v := 0) C (dq DX8_readSeed 6 rfl) (by decide) ?_
  refine x_ldc (v := 99999) C (dq DX8_readSeed 7 rfl) (gmem 1101 (by decide +kernel) rfl) ?_
  refine callX8_193 C (dq DX8_readSeed 8 rfl) h (by decide) (by decide) (Nat.le_of_ble_eq_true rfl) (fun a2 m3 h => ?_)
  refine x_pc 15 rfl ?_
  refine callX8_197 C (dq DX8_readSeed 9 rfl) h (by decide) (by decide) (Nat.le_of_ble_eq_true rfl) (fun m4 h => ?_)
  cases h
  exact x_vret C (dq DX8_readSeed 10 rfl) hQ
set_option maxHeartbeats 1000000 in
theorem qX8_readSeed {S : List Sh} {mm : Mm} {x0 : Nat} {r : Mm} (h : fX8_readSeed S mm x0 = some r) : isC S x0 8 := by
  unfold fX8_readSeed at h
  exact (gd_some h).1
theorem getX8_229 {G : Gt} {l : Launch} {E : Ev} {S : List Sh} {cc : ByteArray} {nL : Nat} {rt : Option FieldType} {fr lo : Nat} {pc : Nat} {lv : List (Nat × Value)} {st : List Value} {mm : Mm} {o : Nat} (C : Cx G E cc nL RX8 rt fr lo) (d : decode cc pc = .ok (.getfield 229, 3)) (hg : isC S o 8) (k : WM G l E S (pc + 3) lv (.int (mm.1 o 16) :: st) mm) : WM G l E S pc lv (.ref (E.2.2 o) :: st) mm := x_get0 C hg (T := TX8) (N := 49) rfl inX8 (by decide) (i := 16) (gmem 881 (by decide +kernel) rfl) rfl rfl d k
theorem putX8_229 {G : Gt} {l : Launch} {E : Ev} {S : List Sh} {cc : ByteArray} {nL : Nat} {rt : Option FieldType} {fr lo : Nat} {pc : Nat} {lv : List (Nat × Value)} {st : List Value} {mm : Mm} {o : Nat} {α : Type} {f : Mm → Option α} {r : α} {x : Int32} (C : Cx G E cc nL RX8 rt fr lo) (d : decode cc pc = .ok (.putfield 229, 3)) (hg : isC S o 8) (h : bd1 (some (u1 mm o 16 x)) f = some r) (k : ∀ m1, f m1 = some r → WM G l E S (pc + 3) lv st m1) : WM G l E S pc lv (.int x :: .ref (E.2.2 o) :: st) mm := x_putI C hg (T := TX8) (N := 49) rfl inX8 (by decide) (i := 16) (gmem 881 (by decide +kernel) rfl) rfl tyX8 tyX8_ok nmX8 rfl rfl (by decide) (by decide +kernel) d (k _ h)
theorem callX8_211 {G : Gt} {l : Launch} {E : Ev} {S : List Sh} {cc : ByteArray} {nL : Nat} {rt : Option FieldType} {fr lo : Nat} {pc : Nat} {lv : List (Nat × Value)} {rest : List Value} {mm : Mm} {α : Type} {f : Mm → Option α} {r : α} {o : Nat} (C : Cx G E cc nL RX8 rt fr lo) (d : decode cc pc = .ok (.invokevirtual 211, 3)) (h : bd1 (fX8_readLink S mm o) f = some r) (hfr : 9 ≤ fr) (hlo : 198 ≤ lo) (hrs : (rest.map fun v => v.category).sum ≤ 8) (k : ∀ m1, f m1 = some r → WM G l E S (pc + 3) lv rest m1) : WM G l E S pc lv (.ref (E.2.2 o) :: rest) mm := by
  obtain ⟨m1, hv, hf⟩ := bd1_some h
  exact x_callV (n := 0) (As := []) (rest := rest) C (mX8_readLink hv) (qX8_readLink hv) (T := TX8) (N := 49) rfl (gmem 1110 (by decide +kernel) rfl) (gmem 1112 (by decide +kernel) rfl) (gmemS 52 (by decide +kernel) rfl) (gmem 9 (by decide +kernel) rfl) (gmem 1113 (by decide +kernel) rfl) (by decide +kernel) rfl hfr hlo hrs d rfl rfl (k m1 hf)
theorem callX8_214 {G : Gt} {l : Launch} {E : Ev} {S : List Sh} {cc : ByteArray} {nL : Nat} {rt : Option FieldType} {fr lo : Nat} {pc : Nat} {lv : List (Nat × Value)} {rest : List Value} {mm : Mm} {α : Type} {f : Mm → Option α} {r : α} {o : Nat} (C : Cx G E cc nL RX8 rt fr lo) (d : decode cc pc = .ok (.invokevirtual 214, 3)) (h : bd1 (fX8_readFlow S mm o) f = some r) (hfr : 9 ≤ fr) (hlo : 194 ≤ lo) (hrs : (rest.map fun v => v.category).sum ≤ 8) (k : ∀ m1, f m1 = some r → WM G l E S (pc + 3) lv rest m1) : WM G l E S pc lv (.ref (E.2.2 o) :: rest) mm := by
  obtain ⟨m1, hv, hf⟩ := bd1_some h
  exact x_callV (n := 0) (As := []) (rest := rest) C (mX8_readFlow hv) (qX8_readFlow hv) (T := TX8) (N := 49) rfl (gmem 1129 (by decide +kernel) rfl) (gmem 1131 (by decide +kernel) rfl) (gmemS 56 (by decide +kernel) rfl) (gmem 9 (by decide +kernel) rfl) (gmem 1132 (by decide +kernel) rfl) (by decide +kernel) rfl hfr hlo hrs d rfl rfl (k m1 hf)
theorem callX8_217 {G : Gt} {l : Launch} {E : Ev} {S : List Sh} {cc : ByteArray} {nL : Nat} {rt : Option FieldType} {fr lo : Nat} {pc : Nat} {lv : List (Nat × Value)} {rest : List Value} {mm : Mm} {α : Type} {f : Mm → Option α} {r : α} {o : Nat} (C : Cx G E cc nL RX8 rt fr lo) (d : decode cc pc = .ok (.invokevirtual 217, 3)) (h : bd1 (fX8_readSample S mm o) f = some r) (hfr : 9 ≤ fr) (hlo : 192 ≤ lo) (hrs : (rest.map fun v => v.category).sum ≤ 8) (k : ∀ m1, f m1 = some r → WM G l E S (pc + 3) lv rest m1) : WM G l E S pc lv (.ref (E.2.2 o) :: rest) mm := by
  obtain ⟨m1, hv, hf⟩ := bd1_some h
  exact x_callV (n := 0) (As := []) (rest := rest) C (mX8_readSample hv) (qX8_readSample hv) (T := TX8) (N := 49) rfl (gmem 1141 (by decide +kernel) rfl) (gmem 1143 (by decide +kernel) rfl) (gmemS 59 (by decide +kernel) rfl) (gmem 9 (by decide +kernel) rfl) (gmem 1144 (by decide +kernel) rfl) (by decide +kernel) rfl hfr hlo hrs d rfl rfl (k m1 hf)
theorem callX8_220 {G : Gt} {l : Launch} {E : Ev} {S : List Sh} {cc : ByteArray} {nL : Nat} {rt : Option FieldType} {fr lo : Nat} {pc : Nat} {lv : List (Nat × Value)} {rest : List Value} {mm : Mm} {α : Type} {f : Mm → Option α} {r : α} {o : Nat} (C : Cx G E cc nL RX8 rt fr lo) (d : decode cc pc = .ok (.invokevirtual 220, 3)) (h : bd1 (fX8_readStage S mm o) f = some r) (hfr : 9 ≤ fr) (hlo : 192 ≤ lo) (hrs : (rest.map fun v => v.category).sum ≤ 8) (k : ∀ m1, f m1 = some r → WM G l E S (pc + 3) lv rest m1) : WM G l E S pc lv (.ref (E.2.2 o) :: rest) mm := by
  obtain ⟨m1, hv, hf⟩ := bd1_some h
  exact x_callV (n := 0) (As := []) (rest := rest) C (mX8_readStage hv) (qX8_readStage hv) (T := TX8) (N := 49) rfl (gmem 1149 (by decide +kernel) rfl) (gmem 1151 (by decide +kernel) rfl) (gmemS 61 (by decide +kernel) rfl) (gmem 9 (by decide +kernel) rfl) (gmem 1152 (by decide +kernel) rfl) (by decide +kernel) rfl hfr hlo hrs d rfl rfl (k m1 hf)
theorem callX8_223 {G : Gt} {l : Launch} {E : Ev} {S : List Sh} {cc : ByteArray} {nL : Nat} {rt : Option FieldType} {fr lo : Nat} {pc : Nat} {lv : List (Nat × Value)} {rest : List Value} {mm : Mm} {α : Type} {f : Mm → Option α} {r : α} {o : Nat} (C : Cx G E cc nL RX8 rt fr lo) (d : decode cc pc = .ok (.invokevirtual 223, 3)) (h : bd1 (fX8_readOff S mm o) f = some r) (hfr : 8 ≤ fr) (hlo : 170 ≤ lo) (hrs : (rest.map fun v => v.category).sum ≤ 8) (k : ∀ m1, f m1 = some r → WM G l E S (pc + 3) lv rest m1) : WM G l E S pc lv (.ref (E.2.2 o) :: rest) mm := by
  obtain ⟨m1, hv, hf⟩ := bd1_some h
  exact x_callV (n := 0) (As := []) (rest := rest) C (mX8_readOff hv) (qX8_readOff hv) (T := TX8) (N := 49) rfl (gmem 1153 (by decide +kernel) rfl) (gmem 1155 (by decide +kernel) rfl) (gmemS 62 (by decide +kernel) rfl) (gmem 9 (by decide +kernel) rfl) (gmem 1156 (by decide +kernel) rfl) (by decide +kernel) rfl hfr hlo hrs d rfl rfl (k m1 hf)
theorem callX8_226 {G : Gt} {l : Launch} {E : Ev} {S : List Sh} {cc : ByteArray} {nL : Nat} {rt : Option FieldType} {fr lo : Nat} {pc : Nat} {lv : List (Nat × Value)} {rest : List Value} {mm : Mm} {α : Type} {f : Mm → Option α} {r : α} {o : Nat} (C : Cx G E cc nL RX8 rt fr lo) (d : decode cc pc = .ok (.invokevirtual 226, 3)) (h : bd1 (fX8_readSeed S mm o) f = some r) (hfr : 9 ≤ fr) (hlo : 192 ≤ lo) (hrs : (rest.map fun v => v.category).sum ≤ 8) (k : ∀ m1, f m1 = some r → WM G l E S (pc + 3) lv rest m1) : WM G l E S pc lv (.ref (E.2.2 o) :: rest) mm := by
  obtain ⟨m1, hv, hf⟩ := bd1_some h
  exact x_callV (n := 0) (As := []) (rest := rest) C (mX8_readSeed hv) (qX8_readSeed hv) (T := TX8) (N := 49) rfl (gmem 1157 (by decide +kernel) rfl) (gmem 1159 (by decide +kernel) rfl) (gmemS 63 (by decide +kernel) rfl) (gmem 9 (by decide +kernel) rfl) (gmem 1160 (by decide +kernel) rfl) (by decide +kernel) rfl hfr hlo hrs d rfl rfl (k m1 hf)
abbrev eX8_readLine : List (Nat × Instr × Nat) := [(0, .aload_n 0, 1), (1, .getfield 134, 3), (4, .ifCond .eq 11, 3), (7, .aload_n 0, 1), (8, .iconst 1, 1), (9, .invokevirtual 174, 3), (12, .goto 81, 3), (15, .aload_n 0, 1), (16, .getfield 144, 3), (19, .ifCond .ne 10, 3), (22, .aload_n 0, 1), (23, .invokevirtual 211, 3), (26, .goto 67, 3), (29, .aload_n 0, 1), (30, .getfield 144, 3), (33, .iconst 1, 1), (34, .if_icmp .ne 10, 3), (37, .aload_n 0, 1), (38, .invokevirtual 214, 3), (41, .goto 52, 3), (44, .aload_n 0, 1), (45, .getfield 144, 3), (48, .iconst 2, 1), (49, .if_icmp .ne 10, 3), (52, .aload_n 0, 1), (53, .invokevirtual 217, 3), (56, .goto 37, 3), (59, .aload_n 0, 1), (60, .getfield 144, 3), (63, .iconst 3, 1), (64, .if_icmp .ne 10, 3), (67, .aload_n 0, 1), (68, .invokevirtual 220, 3), (71, .goto 22, 3), (74, .aload_n 0, 1), (75, .getfield 144, 3), (78, .iconst 4, 1), (79, .if_icmp .ne 10, 3), (82, .aload_n 0, 1), (83, .invokevirtual 223, 3), (86, .goto 7, 3), (89, .aload_n 0, 1), (90, .invokevirtual 226, 3), (93, .aload_n 0, 1), (94, .getfield 165, 3), (97, .ifCond .ne 16, 3), (100, .aload_n 0, 1), (101, .getfield 134, 3), (104, .iconst 3, 1), (105, .if_icmp .eq 8, 3), (108, .aload_n 0, 1), (109, .iconst 1, 1), (110, .invokevirtual 174, 3), (113, .aload_n 0, 1), (114, .invokevirtual 178, 3), (117, .aload_n 0, 1), (118, .dup, 1), (119, .getfield 229, 3), (122, .iconst 1, 1), (123, .iadd, 1), (124, .putfield 229, 3), (127, .return_, 1)]
theorem DX8_readLine : (eX8_readLine.all fun q => decide (decode cX8_readLine q.1 = .ok q.2)) = true := by decide +kernel
def jX8_readLine_113 (S : List Sh) (mm : Mm) (x0 : Nat)  : Option (Mm) := bd1 (fX8_goOn S mm x0) fun m2 => bd1 (some (u1 m2 x0 16 ((m2.1 x0 16) + 1))) fun m3 => some m3
def jX8_readLine_93 (S : List Sh) (mm : Mm) (x0 : Nat)  : Option (Mm) := if ¬ (mm.1 x0 22) = 0 then (jX8_readLine_113 S mm x0) else (if (mm.1 x0 20) = 3 then (jX8_readLine_113 S mm x0) else (bd1 (fX8_wrong S mm x0 1) fun m4 => jX8_readLine_113 S m4 x0))
def fX8_readLine (S : List Sh) (mm : Mm) (x0 : Nat) : Option (Mm) := gd S x0 8 (if (mm.1 x0 20) = 0 then (if ¬ (mm.1 x0 21) = 0 then (if ¬ (mm.1 x0 21) = 1 then (if ¬ (mm.1 x0 21) = 2 then (if ¬ (mm.1 x0 21) = 3 then (if ¬ (mm.1 x0 21) = 4 then (bd1 (fX8_readSeed S mm x0) fun m1 => jX8_readLine_93 S m1 x0) else (bd1 (fX8_readOff S mm x0) fun m5 => jX8_readLine_93 S m5 x0)) else (bd1 (fX8_readStage S mm x0) fun m6 => jX8_readLine_93 S m6 x0)) else (bd1 (fX8_readSample S mm x0) fun m7 => jX8_readLine_93 S m7 x0)) else (bd1 (fX8_readFlow S mm x0) fun m8 => jX8_readLine_93 S m8 x0)) else (bd1 (fX8_readLink S mm x0) fun m9 => jX8_readLine_93 S m9 x0)) else (bd1 (fX8_wrong S mm x0 1) fun m10 => jX8_readLine_93 S m10 x0))
set_option maxHeartbeats 1000000 in
theorem tX8_readLine_113 {G : Gt} {l : Launch} {E : Ev} {S : List Sh} {mm : Mm} {x0 : Nat}  {r : Mm} (C : Cx G E cX8_readLine 1 RX8 none 9 198) (g0 : isC S x0 8) (h : jX8_readLine_113 S mm x0 = some r) (hQ : RQ G E S none r) : WM G l E S 113 [(0, .ref (E.2.2 x0))] [] mm := by
  unfold jX8_readLine_113 at h
  refine x_aload_n C (dq DX8_readLine 53 rfl) rfl 0 rfl ?_
  refine callX8_178 C (dq DX8_readLine 54 rfl) h (by decide) (by decide) (Nat.le_of_ble_eq_true rfl) (fun m2 h => ?_)
  refine x_aload_n C (dq DX8_readLine 55 rfl) rfl 0 rfl ?_
  refine x_dup C (dq DX8_readLine 56 rfl) rfl ?_
  refine x_pc 119 rfl ?_
  refine getX8_229 C (dq DX8_readLine 57 rfl) g0 ?_
  refine x_iconst (v := 1) C (dq DX8_readLine 58 rfl) (by decide) ?_
  refine x_iadd C (dq DX8_readLine 59 rfl) ?_
  refine putX8_229 C (dq DX8_readLine 60 rfl) g0 h (fun m3 h => ?_)
  cases h
  exact x_vret C (dq DX8_readLine 61 rfl) hQ
set_option maxHeartbeats 1000000 in
theorem tX8_readLine_93 {G : Gt} {l : Launch} {E : Ev} {S : List Sh} {mm : Mm} {x0 : Nat}  {r : Mm} (C : Cx G E cX8_readLine 1 RX8 none 9 198) (g0 : isC S x0 8) (h : jX8_readLine_93 S mm x0 = some r) (hQ : RQ G E S none r) : WM G l E S 93 [(0, .ref (E.2.2 x0))] [] mm := by
  unfold jX8_readLine_93 at h
  refine x_aload_n C (dq DX8_readLine 43 rfl) rfl 0 rfl ?_
  refine getX8_165 C (dq DX8_readLine 44 rfl) g0 ?_
  refine x_if_ne (tgt := 113) C (dq DX8_readLine 45 rfl) (by decide) h (fun h => ?_) (fun h => ?_)
  · exact x_lv [0] rfl (tX8_readLine_113 C g0 h hQ)
  · refine x_aload_n C (dq DX8_readLine 46 rfl) rfl 0 rfl ?_
    refine x_pc 101 rfl ?_
    refine getX8_134 C (dq DX8_readLine 47 rfl) g0 ?_
    refine x_iconst (v := 3) C (dq DX8_readLine 48 rfl) (by decide) ?_
    refine x_icmp_eq (tgt := 113) C (dq DX8_readLine 49 rfl) (by decide) h (fun h => ?_) (fun h => ?_)
    · exact x_lv [0] rfl (tX8_readLine_113 C g0 h hQ)
    · refine x_aload_n C (dq DX8_readLine 50 rfl) rfl 0 rfl ?_
      refine x_iconst (v := 1) C (dq DX8_readLine 51 rfl) (by decide) ?_
      refine x_pc 110 rfl ?_
      refine callX8_174 C (dq DX8_readLine 52 rfl) h (by decide) (by decide) (Nat.le_of_ble_eq_true rfl) (fun m4 h => ?_)
      exact x_lv [0] rfl (tX8_readLine_113 C g0 h hQ)
set_option maxHeartbeats 1000000 in
theorem mX8_readLine {l : Launch} {E : Ev} {S : List Sh} {mm : Mm} {x0 : Nat} {r : Mm} (h : fX8_readLine S mm x0 = some r) : Ml l E S yX8_readLine cX8_readLine 1 none 9 198 [.ref (E.2.2 x0)] mm none r := by
  refine Ml.of (by decide +kernel) (Nat.le_of_ble_eq_true rfl) (fun G C hQ => ?_)
  have C : Cx G E cX8_readLine 1 RX8 none 9 198 := C
  unfold fX8_readLine at h
  obtain ⟨g0, h⟩ := gd_some h
  show WM G l E S 0 [(0, .ref (E.2.2 x0))] [] mm
  refine x_aload_n C (dq DX8_readLine 0 rfl) rfl 0 rfl ?_
  refine getX8_134 C (dq DX8_readLine 1 rfl) g0 ?_
  refine x_if_eq (tgt := 15) C (dq DX8_readLine 2 rfl) (by decide) h (fun h => ?_) (fun h => ?_)
  · refine x_aload_n C (dq DX8_readLine 7 rfl) rfl 0 rfl ?_
    refine x_pc 16 rfl ?_
    refine getX8_144 C (dq DX8_readLine 8 rfl) g0 ?_
    refine x_if_ne (tgt := 29) C (dq DX8_readLine 9 rfl) (by decide) h (fun h => ?_) (fun h => ?_)
    · refine x_aload_n C (dq DX8_readLine 13 rfl) rfl 0 rfl ?_
      refine getX8_144 C (dq DX8_readLine 14 rfl) g0 ?_
      refine x_iconst (v := 1) C (dq DX8_readLine 15 rfl) (by decide) ?_
      refine x_pc 34 rfl ?_
      refine x_icmp_ne (tgt := 44) C (dq DX8_readLine 16 rfl) (by decide) h (fun h => ?_) (fun h => ?_)
      · refine x_aload_n C (dq DX8_readLine 20 rfl) rfl 0 rfl ?_
        refine getX8_144 C (dq DX8_readLine 21 rfl) g0 ?_
        refine x_iconst (v := 2) C (dq DX8_readLine 22 rfl) (by decide) ?_
        refine x_icmp_ne (tgt := 59) C (dq DX8_readLine 23 rfl) (by decide) h (fun h => ?_) (fun h => ?_)
        · refine x_pc 59 rfl ?_
          refine x_aload_n C (dq DX8_readLine 27 rfl) rfl 0 rfl ?_
          refine getX8_144 C (dq DX8_readLine 28 rfl) g0 ?_
          refine x_iconst (v := 3) C (dq DX8_readLine 29 rfl) (by decide) ?_
          refine x_icmp_ne (tgt := 74) C (dq DX8_readLine 30 rfl) (by decide) h (fun h => ?_) (fun h => ?_)
          · refine x_aload_n C (dq DX8_readLine 34 rfl) rfl 0 rfl ?_
            refine x_pc 75 rfl ?_
            refine getX8_144 C (dq DX8_readLine 35 rfl) g0 ?_
            refine x_iconst (v := 4) C (dq DX8_readLine 36 rfl) (by decide) ?_
            refine x_icmp_ne (tgt := 89) C (dq DX8_readLine 37 rfl) (by decide) h (fun h => ?_) (fun h => ?_)
            · refine x_aload_n C (dq DX8_readLine 41 rfl) rfl 0 rfl ?_
              refine callX8_226 C (dq DX8_readLine 42 rfl) h (by decide) (by decide) (Nat.le_of_ble_eq_true rfl) (fun m1 h => ?_)
              exact x_lv [0] rfl (tX8_readLine_93 C g0 h hQ)
            · refine x_aload_n C (dq DX8_readLine 38 rfl) rfl 0 rfl ?_
              refine callX8_223 C (dq DX8_readLine 39 rfl) h (by decide) (by decide) (Nat.le_of_ble_eq_true rfl) (fun m5 h => ?_)
              refine x_pc 86 rfl ?_
              refine x_goto (tgt := 93) C (dq DX8_readLine 40 rfl) (by decide) ?_
              exact x_lv [0] rfl (tX8_readLine_93 C g0 h hQ)
          · refine x_aload_n C (dq DX8_readLine 31 rfl) rfl 0 rfl ?_
            refine x_pc 68 rfl ?_
            refine callX8_220 C (dq DX8_readLine 32 rfl) h (by decide) (by decide) (Nat.le_of_ble_eq_true rfl) (fun m6 h => ?_)
            refine x_goto (tgt := 93) C (dq DX8_readLine 33 rfl) (by decide) ?_
            exact x_lv [0] rfl (tX8_readLine_93 C g0 h hQ)
        · refine x_pc 52 rfl ?_
          refine x_aload_n C (dq DX8_readLine 24 rfl) rfl 0 rfl ?_
          refine callX8_217 C (dq DX8_readLine 25 rfl) h (by decide) (by decide) (Nat.le_of_ble_eq_true rfl) (fun m7 h => ?_)
          refine x_goto (tgt := 93) C (dq DX8_readLine 26 rfl) (by decide) ?_
          exact x_lv [0] rfl (tX8_readLine_93 C g0 h hQ)
      · refine x_aload_n C (dq DX8_readLine 17 rfl) rfl 0 rfl ?_
        refine callX8_214 C (dq DX8_readLine 18 rfl) h (by decide) (by decide) (Nat.le_of_ble_eq_true rfl) (fun m8 h => ?_)
        refine x_goto (tgt := 93) C (dq DX8_readLine 19 rfl) (by decide) ?_
        exact x_lv [0] rfl (tX8_readLine_93 C g0 h hQ)
    · refine x_aload_n C (dq DX8_readLine 10 rfl) rfl 0 rfl ?_
      refine callX8_211 C (dq DX8_readLine 11 rfl) h (by decide) (by decide) (Nat.le_of_ble_eq_true rfl) (fun m9 h => ?_)
      refine x_goto (tgt := 93) C (dq DX8_readLine 12 rfl) (by decide) ?_
      exact x_lv [0] rfl (tX8_readLine_93 C g0 h hQ)
  · refine x_aload_n C (dq DX8_readLine 3 rfl) rfl 0 rfl ?_
    refine x_pc 8 rfl ?_
    refine x_iconst (v := 1) C (dq DX8_readLine 4 rfl) (by decide) ?_
    refine callX8_174 C (dq DX8_readLine 5 rfl) h (by decide) (by decide) (Nat.le_of_ble_eq_true rfl) (fun m10 h => ?_)
    refine x_goto (tgt := 93) C (dq DX8_readLine 6 rfl) (by decide) ?_
    exact x_lv [0] rfl (tX8_readLine_93 C g0 h hQ)
set_option maxHeartbeats 1000000 in
theorem qX8_readLine {S : List Sh} {mm : Mm} {x0 : Nat} {r : Mm} (h : fX8_readLine S mm x0 = some r) : isC S x0 8 := by
  unfold fX8_readLine at h
  exact (gd_some h).1
