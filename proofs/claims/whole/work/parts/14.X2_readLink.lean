theorem getX2_62 {G : Gt} {l : Launch} {E : Ev} {S : List Sh} {cc : ByteArray} {nL : Nat} {rt : Option FieldType} {fr lo : Nat} {pc : Nat} {lv : List (Nat × Value)} {st : List Value} {mm : Mm} {o : Nat} (C : Cx G E cc nL RX2 rt fr lo) (d : decode cc pc = .ok (.getfield 62, 3)) (hg : isC S o 1) (k : WM G l E S (pc + 3) lv (.int (mm.1 o 9) :: st) mm) : WM G l E S pc lv (.ref (E.2.2 o) :: st) mm := x_getN0 C hg (T := TX1) (N := 11) rfl inX1 (by decide) (i := 9) (host := "LosslessFabric") (nmem 211 (by decide +kernel) rfl) rfl rfl d k
theorem getX2_73 {G : Gt} {l : Launch} {E : Ev} {S : List Sh} {cc : ByteArray} {nL : Nat} {rt : Option FieldType} {fr lo : Nat} {pc : Nat} {lv : List (Nat × Value)} {st : List Value} {mm : Mm} {o : Nat} (C : Cx G E cc nL RX2 rt fr lo) (d : decode cc pc = .ok (.getfield 73, 3)) (hg : isC S o 1) (k : WM G l E S (pc + 3) lv (.ref (E.2.2 (rf S mm o 0)) :: st) mm) : WM G l E S pc lv (.ref (E.2.2 o) :: st) mm := x_getN2 C hg (T := TX1) (N := 11) rfl inX1 (by decide) (i := 0) (host := "LosslessFabric") (nmem 181 (by decide +kernel) rfl) rfl rfl d k
theorem getX2_76 {G : Gt} {l : Launch} {E : Ev} {S : List Sh} {cc : ByteArray} {nL : Nat} {rt : Option FieldType} {fr lo : Nat} {pc : Nat} {lv : List (Nat × Value)} {st : List Value} {mm : Mm} {o : Nat} (C : Cx G E cc nL RX2 rt fr lo) (d : decode cc pc = .ok (.getfield 76, 3)) (hg : isC S o 1) (k : WM G l E S (pc + 3) lv (.ref (E.2.2 (rf S mm o 1)) :: st) mm) : WM G l E S pc lv (.ref (E.2.2 o) :: st) mm := x_getN2 C hg (T := TX1) (N := 11) rfl inX1 (by decide) (i := 1) (host := "LosslessFabric") (nmem 184 (by decide +kernel) rfl) rfl rfl d k
theorem getX2_83 {G : Gt} {l : Launch} {E : Ev} {S : List Sh} {cc : ByteArray} {nL : Nat} {rt : Option FieldType} {fr lo : Nat} {pc : Nat} {lv : List (Nat × Value)} {st : List Value} {mm : Mm} {o : Nat} (C : Cx G E cc nL RX2 rt fr lo) (d : decode cc pc = .ok (.getfield 83, 3)) (hg : isC S o 1) (k : WM G l E S (pc + 3) lv (.ref (E.2.2 (rf S mm o 2)) :: st) mm) : WM G l E S pc lv (.ref (E.2.2 o) :: st) mm := x_getN2 C hg (T := TX1) (N := 11) rfl inX1 (by decide) (i := 2) (host := "LosslessFabric") (nmem 188 (by decide +kernel) rfl) rfl rfl d k
theorem putX2_62 {G : Gt} {l : Launch} {E : Ev} {S : List Sh} {cc : ByteArray} {nL : Nat} {rt : Option FieldType} {fr lo : Nat} {pc : Nat} {lv : List (Nat × Value)} {st : List Value} {mm : Mm} {o : Nat} {α : Type} {f : Mm → Option α} {r : α} {x : Int32} (C : Cx G E cc nL RX2 rt fr lo) (d : decode cc pc = .ok (.putfield 62, 3)) (hg : isC S o 1) (h : bd1 (some (u1 mm o 9 x)) f = some r) (k : ∀ m1, f m1 = some r → WM G l E S (pc + 3) lv st m1) : WM G l E S pc lv (.int x :: .ref (E.2.2 o) :: st) mm := x_putNI C hg (T := TX1) (N := 11) rfl inX1 (by decide) (i := 9) (host := "LosslessFabric") (nmem 211 (by decide +kernel) rfl) rfl tyX1 tyX1_ok nmX1 rfl rfl (by decide) (by decide +kernel) d (k _ h)
theorem callX2_86 {G : Gt} {l : Launch} {E : Ev} {S : List Sh} {cc : ByteArray} {nL : Nat} {rt : Option FieldType} {fr lo : Nat} {pc : Nat} {lv : List (Nat × Value)} {rest : List Value} {mm : Mm} {x y : Int32} (C : Cx G E cc nL RX2 rt fr lo) (d : decode cc pc = .ok (.invokestatic 86, 3)) (h1 : 1 ≤ fr) (h2 : (rest.map fun v => v.category).sum + 13 ≤ lo) (k : WM G l E S (pc + 3) lv (.int (if y < x then y else x) :: rest) mm) : WM G l E S pc lv (.int y :: .int x :: rest) mm := x_mmin C d (gmem 359 (by decide +kernel) rfl) (gmem 296 (by decide +kernel) rfl) (gmem 10 (by decide +kernel) rfl) (gmem 297 (by decide +kernel) rfl) h1 h2 k
theorem callX2_92 {G : Gt} {l : Launch} {E : Ev} {S : List Sh} {cc : ByteArray} {nL : Nat} {rt : Option FieldType} {fr lo : Nat} {pc : Nat} {lv : List (Nat × Value)} {rest : List Value} {mm : Mm} {α : Type} {f : Int32 → Mm → Option α} {r : α} {o : Nat} {a0 : Nat} (C : Cx G E cc nL RX2 rt fr lo) (d : decode cc pc = .ok (.invokevirtual 92, 3)) (h : bd2 (fX2_readSemicolon S mm o a0) f = some r) (hfr : 4 ≤ fr) (hlo : 90 ≤ lo) (hrs : (rest.map fun v => v.category).sum ≤ 8) (k : ∀ v m1, f v m1 = some r → WM G l E S (pc + 3) lv (.int v :: rest) m1) : WM G l E S pc lv (.ref (E.2.2 a0) :: .ref (E.2.2 o) :: rest) mm := by
  obtain ⟨v, m1, hv, hf⟩ := bd2_some h
  exact x_callV (n := 1) (As := [.ref (E.2.2 a0)]) (rest := rest) C (mX2_readSemicolon hv) (qX2_readSemicolon hv) (T := TX2) (N := 3) rfl (gmem 360 (by decide +kernel) rfl) (gmem 362 (by decide +kernel) rfl) (gmemS 6 (by decide +kernel) rfl) (gmem 3 (by decide +kernel) rfl) (gmem 363 (by decide +kernel) rfl) (by decide +kernel) rfl hfr hlo hrs d rfl rfl (k v m1 hf)
abbrev eX2_readLink : List (Nat × Instr × Nat) := [(0, .aload_n 2, 1), (1, .getfield 62, 3), (4, .istore 4, 2), (6, .iload 4, 2), (8, .bipush 10, 2), (10, .if_icmp .lt 10, 3), (13, .aload_n 0, 1), (14, .aload_n 1, 1), (15, .iconst 2, 1), (16, .invokevirtual 31, 3), (19, .ireturn, 1), (20, .aload_n 0, 1), (21, .aload_n 1, 1), (22, .invokevirtual 65, 3), (25, .ifCond .ne 5, 3), (28, .iconst 0, 1), (29, .ireturn, 1), (30, .aload_n 2, 1), (31, .aload_n 1, 1), (32, .getfield 35, 3), (35, .invokevirtual 69, 3), (38, .iconst (-1), 1), (39, .if_icmp .eq 10, 3), (42, .aload_n 0, 1), (43, .aload_n 1, 1), (44, .iconst 3, 1), (45, .invokevirtual 31, 3), (48, .ireturn, 1), (49, .aload_n 2, 1), (50, .getfield 73, 3), (53, .iload 4, 2), (55, .aload_n 1, 1), (56, .getfield 35, 3), (59, .iastore, 1), (60, .aload_n 2, 1), (61, .iload 4, 2), (63, .iconst 1, 1), (64, .iadd, 1), (65, .putfield 62, 3), (68, .aload_n 0, 1), (69, .aload_n 1, 1), (70, .iconst 1, 1), (71, .bipush 64, 2), (73, .aload_n 2, 1), (74, .getfield 76, 3), (77, .iload 4, 2), (79, .invokevirtual 79, 3), (82, .ifCond .eq 95, 3), (85, .aload_n 0, 1), (86, .aload_n 1, 1), (87, .iconst 0, 1), (88, .iconst 4, 1), (89, .aload_n 2, 1), (90, .getfield 83, 3), (93, .iload 4, 2), (95, .invokevirtual 79, 3), (98, .ifCond .eq 79, 3), (101, .aload_n 0, 1), (102, .aload_n 1, 1), (103, .iconst 1, 1), (104, .sipush 999, 3), (107, .aload_n 3, 1), (108, .iconst 0, 1), (109, .iload 4, 2), (111, .iadd, 1), (112, .invokevirtual 79, 3), (115, .ifCond .eq 62, 3), (118, .aload_n 0, 1), (119, .aload_n 1, 1), (120, .iconst 0, 1), (121, .sipush 998, 3), (124, .aload_n 3, 1), (125, .iconst 0, 1), (126, .iload 4, 2), (128, .iadd, 1), (129, .iaload, 1), (130, .iconst 1, 1), (131, .isub, 1), (132, .invokestatic 86, 3), (135, .aload_n 3, 1), (136, .bipush 10, 2), (138, .iload 4, 2), (140, .iadd, 1), (141, .invokevirtual 79, 3), (144, .ifCond .eq 33, 3), (147, .aload_n 0, 1), (148, .aload_n 1, 1), (149, .iconst 1, 1), (150, .sipush 1999, 3), (153, .aload_n 3, 1), (154, .bipush 20, 2), (156, .iload 4, 2), (158, .iadd, 1), (159, .invokevirtual 79, 3), (162, .ifCond .eq 15, 3), (165, .aload_n 0, 1), (166, .aload_n 1, 1), (167, .invokevirtual 92, 3), (170, .ifCond .eq 7, 3), (173, .iconst 1, 1), (174, .goto 4, 3), (177, .iconst 0, 1), (178, .ireturn, 1)]
theorem DX2_readLink : (eX2_readLink.all fun q => decide (decode cX2_readLink q.1 = .ok q.2)) = true := by decide +kernel
def jX2_readLink_178 (S : List Sh) (mm : Mm) (x0 : Nat) (x1 : Nat) (x2 : Nat) (p0 : Int32) : Option (Int32 × Mm) := bd1 (okZ p0) fun _ => some (p0, mm)
def jX2_readLink_177 (S : List Sh) (mm : Mm) (x0 : Nat) (x1 : Nat) (x2 : Nat)  : Option (Int32 × Mm) := jX2_readLink_178 S mm x0 x1 x2 0
def fX2_readLink (S : List Sh) (mm : Mm) (x0 : Nat) (x1 : Nat) (x2 : Nat) (x3 : Nat) : Option (Int32 × Mm) := gd S x0 2 (gd S x1 4 (gd S x2 1 (if (mm.1 x2 9) < 10 then (bd2 (fX2_readName S mm x0 x1) fun a1 m2 => if ¬ a1 = 0 then (bd1 (fX1_linkOf S m2 x2 (m2.1 x1 6)) fun a3 => if a3 = (-1) then (bd1 (stA S 0 m2 (rf S m2 x2 0) (mm.1 x2 9) (m2.1 x1 6)) fun m4 => bd1 (some (u1 m4 x2 9 ((mm.1 x2 9) + 1))) fun m5 => bd2 (fX2_readNumber S m5 x0 x1 1 64 (rf S m5 x2 1) (mm.1 x2 9)) fun a6 m7 => if a6 = 0 then (jX2_readLink_177 S m7 x0 x1 x2) else (bd2 (fX2_readNumber S m7 x0 x1 0 4 (rf S m7 x2 2) (mm.1 x2 9)) fun a8 m9 => if a8 = 0 then (jX2_readLink_177 S m9 x0 x1 x2) else (bd2 (fX2_readNumber S m9 x0 x1 1 999 x3 (0 + (mm.1 x2 9))) fun a10 m11 => if a10 = 0 then (jX2_readLink_177 S m11 x0 x1 x2) else (bd1 (ldA S 0 m11 x3 (0 + (mm.1 x2 9))) fun a12 => bd2 (fX2_readNumber S m11 x0 x1 0 (if (a12 - 1) < 998 then (a12 - 1) else 998) x3 (10 + (mm.1 x2 9))) fun a13 m14 => if a13 = 0 then (jX2_readLink_177 S m14 x0 x1 x2) else (bd2 (fX2_readNumber S m14 x0 x1 1 1999 x3 (20 + (mm.1 x2 9))) fun a15 m16 => if a15 = 0 then (jX2_readLink_177 S m16 x0 x1 x2) else (bd2 (fX2_readSemicolon S m16 x0 x1) fun a17 m18 => if a17 = 0 then (jX2_readLink_177 S m18 x0 x1 x2) else (jX2_readLink_178 S m18 x0 x1 x2 1))))))) else (bd2 (fX2_failed S m2 x0 x1 3) fun a19 m20 => bd1 (okZ a19) fun _ => some (a19, m20))) else (bd1 (okZ 0) fun _ => some (0, m2))) else (bd2 (fX2_failed S mm x0 x1 2) fun a21 m22 => bd1 (okZ a21) fun _ => some (a21, m22)))))
set_option maxHeartbeats 1000000 in
theorem tX2_readLink_178 {G : Gt} {l : Launch} {E : Ev} {S : List Sh} {mm : Mm} {x0 : Nat} {x1 : Nat} {x2 : Nat} {p0 : Int32} {r : Int32 × Mm} (C : Cx G E cX2_readLink 5 RX2 (some .boolean) 4 94) (g0 : isC S x0 2) (g1 : isC S x1 4) (g2 : isC S x2 1) (h : jX2_readLink_178 S mm x0 x1 x2 p0 = some r) (hQ : RQ G E S (some (.int r.1)) r.2) : WM G l E S 178 [(0, .ref (E.2.2 x0)), (1, .ref (E.2.2 x1)), (2, .ref (E.2.2 x2))] [.int p0] mm := by
  unfold jX2_readLink_178 at h
  refine x_zret C (dq DX2_readLink 102 rfl) h (fun h => ?_)
  cases h
  exact hQ
set_option maxHeartbeats 1000000 in
theorem tX2_readLink_177 {G : Gt} {l : Launch} {E : Ev} {S : List Sh} {mm : Mm} {x0 : Nat} {x1 : Nat} {x2 : Nat}  {r : Int32 × Mm} (C : Cx G E cX2_readLink 5 RX2 (some .boolean) 4 94) (g0 : isC S x0 2) (g1 : isC S x1 4) (g2 : isC S x2 1) (h : jX2_readLink_177 S mm x0 x1 x2 = some r) (hQ : RQ G E S (some (.int r.1)) r.2) : WM G l E S 177 [(0, .ref (E.2.2 x0)), (1, .ref (E.2.2 x1)), (2, .ref (E.2.2 x2))] [] mm := by
  unfold jX2_readLink_177 at h
  refine x_iconst (v := 0) C (dq DX2_readLink 101 rfl) (by decide) ?_
  exact x_lv [0, 1, 2] rfl (tX2_readLink_178 C g0 g1 g2 h hQ)
set_option maxHeartbeats 1000000 in
theorem mX2_readLink {l : Launch} {E : Ev} {S : List Sh} {mm : Mm} {x0 : Nat} {x1 : Nat} {x2 : Nat} {x3 : Nat} {r : Int32 × Mm} (h : fX2_readLink S mm x0 x1 x2 x3 = some r) : Ml l E S yX2_readLink cX2_readLink 5 (some .boolean) 4 94 [.ref (E.2.2 x0), .ref (E.2.2 x1), .ref (E.2.2 x2), .ref (E.2.2 x3)] mm (some (.int r.1)) r.2 := by
  refine Ml.of (by decide +kernel) (Nat.le_of_ble_eq_true rfl) (fun G C hQ => ?_)
  have C : Cx G E cX2_readLink 5 RX2 (some .boolean) 4 94 := C
  unfold fX2_readLink at h
  obtain ⟨g0, h⟩ := gd_some h
  obtain ⟨g1, h⟩ := gd_some h
  obtain ⟨g2, h⟩ := gd_some h
  show WM G l E S 0 [(0, .ref (E.2.2 x0)), (1, .ref (E.2.2 x1)), (2, .ref (E.2.2 x2)), (3, .ref (E.2.2 x3))] [] mm
  refine x_aload_n C (dq DX2_readLink 0 rfl) rfl 2 rfl ?_
  refine getX2_62 C (dq DX2_readLink 1 rfl) g2 ?_
  refine x_istore (lv' := [(4, .int (mm.1 x2 9)), (0, .ref (E.2.2 x0)), (1, .ref (E.2.2 x1)), (2, .ref (E.2.2 x2)), (3, .ref (E.2.2 x3))]) C (dq DX2_readLink 2 rfl) (by decide) rfl ?_
  refine x_iload C (dq DX2_readLink 3 rfl) 0 rfl ?_
  refine x_pc 8 rfl ?_
  refine x_bipush (v := 10) C (dq DX2_readLink 4 rfl) (by decide) ?_
  refine x_icmp_lt (tgt := 20) C (dq DX2_readLink 5 rfl) (by decide) h (fun h => ?_) (fun h => ?_)
  · refine x_aload_n C (dq DX2_readLink 11 rfl) rfl 1 rfl ?_
    refine x_aload_n C (dq DX2_readLink 12 rfl) rfl 2 rfl ?_
    refine callX2_65 C (dq DX2_readLink 13 rfl) h (by decide) (by decide) (Nat.le_of_ble_eq_true rfl) (fun a1 m2 h => ?_)
    refine x_pc 25 rfl ?_
    refine x_if_ne (tgt := 30) C (dq DX2_readLink 14 rfl) (by decide) h (fun h => ?_) (fun h => ?_)
    · refine x_aload_n C (dq DX2_readLink 17 rfl) rfl 3 rfl ?_
      refine x_aload_n C (dq DX2_readLink 18 rfl) rfl 2 rfl ?_
      refine getX2_35 C (dq DX2_readLink 19 rfl) g1 ?_
      refine callX2_69 C (dq DX2_readLink 20 rfl) h (by decide) (by decide) (Nat.le_of_ble_eq_true rfl) (fun a3 h => ?_)
      refine x_pc 38 rfl ?_
      refine x_iconst (v := (-1)) C (dq DX2_readLink 21 rfl) (by decide) ?_
      refine x_icmp_eq (tgt := 49) C (dq DX2_readLink 22 rfl) (by decide) h (fun h => ?_) (fun h => ?_)
      · refine x_aload_n C (dq DX2_readLink 28 rfl) rfl 3 rfl ?_
        refine getX2_73 C (dq DX2_readLink 29 rfl) g2 ?_
        refine x_iload C (dq DX2_readLink 30 rfl) 0 rfl ?_
        refine x_pc 55 rfl ?_
        refine x_aload_n C (dq DX2_readLink 31 rfl) rfl 2 rfl ?_
        refine getX2_35 C (dq DX2_readLink 32 rfl) g1 ?_
        refine x_iast C (dq DX2_readLink 33 rfl) h (fun m4 h => ?_)
        refine x_aload_n C (dq DX2_readLink 34 rfl) rfl 3 rfl ?_
        refine x_iload C (dq DX2_readLink 35 rfl) 0 rfl ?_
        refine x_pc 63 rfl ?_
        refine x_iconst (v := 1) C (dq DX2_readLink 36 rfl) (by decide) ?_
        refine x_iadd C (dq DX2_readLink 37 rfl) ?_
        refine putX2_62 C (dq DX2_readLink 38 rfl) g2 h (fun m5 h => ?_)
        refine x_aload_n C (dq DX2_readLink 39 rfl) rfl 1 rfl ?_
        refine x_aload_n C (dq DX2_readLink 40 rfl) rfl 2 rfl ?_
        refine x_pc 70 rfl ?_
        refine x_iconst (v := 1) C (dq DX2_readLink 41 rfl) (by decide) ?_
        refine x_bipush (v := 64) C (dq DX2_readLink 42 rfl) (by decide) ?_
        refine x_aload_n C (dq DX2_readLink 43 rfl) rfl 3 rfl ?_
        refine getX2_76 C (dq DX2_readLink 44 rfl) g2 ?_
        refine x_iload C (dq DX2_readLink 45 rfl) 0 rfl ?_
        refine x_pc 79 rfl ?_
        refine callX2_79 C (dq DX2_readLink 46 rfl) h (by decide) (by decide) (Nat.le_of_ble_eq_true rfl) (fun a6 m7 h => ?_)
        refine x_if_eq (tgt := 177) C (dq DX2_readLink 47 rfl) (by decide) h (fun h => ?_) (fun h => ?_)
        · exact x_lv [1, 2, 3] rfl (tX2_readLink_177 C g0 g1 g2 h hQ)
        · refine x_aload_n C (dq DX2_readLink 48 rfl) rfl 1 rfl ?_
          refine x_aload_n C (dq DX2_readLink 49 rfl) rfl 2 rfl ?_
          refine x_iconst (v := 0) C (dq DX2_readLink 50 rfl) (by decide) ?_
          refine x_pc 88 rfl ?_
          refine x_iconst (v := 4) C (dq DX2_readLink 51 rfl) (by decide) ?_
          refine x_aload_n C (dq DX2_readLink 52 rfl) rfl 3 rfl ?_
          refine getX2_83 C (dq DX2_readLink 53 rfl) g2 ?_
          refine x_iload C (dq DX2_readLink 54 rfl) 0 rfl ?_
          refine callX2_79 C (dq DX2_readLink 55 rfl) h (by decide) (by decide) (Nat.le_of_ble_eq_true rfl) (fun a8 m9 h => ?_)
          refine x_pc 98 rfl ?_
          refine x_if_eq (tgt := 177) C (dq DX2_readLink 56 rfl) (by decide) h (fun h => ?_) (fun h => ?_)
          · exact x_lv [1, 2, 3] rfl (tX2_readLink_177 C g0 g1 g2 h hQ)
          · refine x_aload_n C (dq DX2_readLink 57 rfl) rfl 1 rfl ?_
            refine x_aload_n C (dq DX2_readLink 58 rfl) rfl 2 rfl ?_
            refine x_iconst (v := 1) C (dq DX2_readLink 59 rfl) (by decide) ?_
            refine x_sipush (v := 999) C (dq DX2_readLink 60 rfl) (by decide) ?_
            refine x_pc 107 rfl ?_
            refine x_aload_n C (dq DX2_readLink 61 rfl) rfl 4 rfl ?_
            refine x_iconst (v := 0) C (dq DX2_readLink 62 rfl) (by decide) ?_
            refine x_iload C (dq DX2_readLink 63 rfl) 0 rfl ?_
            refine x_iadd C (dq DX2_readLink 64 rfl) ?_
            refine callX2_79 C (dq DX2_readLink 65 rfl) h (by decide) (by decide) (Nat.le_of_ble_eq_true rfl) (fun a10 m11 h => ?_)
            refine x_pc 115 rfl ?_
            refine x_if_eq (tgt := 177) C (dq DX2_readLink 66 rfl) (by decide) h (fun h => ?_) (fun h => ?_)
            · exact x_lv [1, 2, 3] rfl (tX2_readLink_177 C g0 g1 g2 h hQ)
            · refine x_aload_n C (dq DX2_readLink 67 rfl) rfl 1 rfl ?_
              refine x_aload_n C (dq DX2_readLink 68 rfl) rfl 2 rfl ?_
              refine x_iconst (v := 0) C (dq DX2_readLink 69 rfl) (by decide) ?_
              refine x_sipush (v := 998) C (dq DX2_readLink 70 rfl) (by decide) ?_
              refine x_pc 124 rfl ?_
              refine x_aload_n C (dq DX2_readLink 71 rfl) rfl 4 rfl ?_
              refine x_iconst (v := 0) C (dq DX2_readLink 72 rfl) (by decide) ?_
              refine x_iload C (dq DX2_readLink 73 rfl) 0 rfl ?_
              refine x_iadd C (dq DX2_readLink 74 rfl) ?_
              refine x_iald C (dq DX2_readLink 75 rfl) h (fun a12 h => ?_)
              refine x_pc 130 rfl ?_
              refine x_iconst (v := 1) C (dq DX2_readLink 76 rfl) (by decide) ?_
              refine x_isub C (dq DX2_readLink 77 rfl) ?_
              refine callX2_86 C (dq DX2_readLink 78 rfl) (by decide) (Nat.le_of_ble_eq_true rfl) ?_
              refine x_aload_n C (dq DX2_readLink 79 rfl) rfl 4 rfl ?_
              refine x_bipush (v := 10) C (dq DX2_readLink 80 rfl) (by decide) ?_
              refine x_pc 138 rfl ?_
              refine x_iload C (dq DX2_readLink 81 rfl) 0 rfl ?_
              refine x_iadd C (dq DX2_readLink 82 rfl) ?_
              refine callX2_79 C (dq DX2_readLink 83 rfl) h (by decide) (by decide) (Nat.le_of_ble_eq_true rfl) (fun a13 m14 h => ?_)
              refine x_if_eq (tgt := 177) C (dq DX2_readLink 84 rfl) (by decide) h (fun h => ?_) (fun h => ?_)
              · exact x_lv [1, 2, 3] rfl (tX2_readLink_177 C g0 g1 g2 h hQ)
              · refine x_aload_n C (dq DX2_readLink 85 rfl) rfl 1 rfl ?_
                refine x_pc 148 rfl ?_
                refine x_aload_n C (dq DX2_readLink 86 rfl) rfl 2 rfl ?_
                refine x_iconst (v := 1) C (dq DX2_readLink 87 rfl) (by decide) ?_
                refine x_sipush (v := 1999) C (dq DX2_readLink 88 rfl) (by decide) ?_
                refine x_aload_n C (dq DX2_readLink 89 rfl) rfl 4 rfl ?_
                refine x_bipush (v := 20) C (dq DX2_readLink 90 rfl) (by decide) ?_
                refine x_pc 156 rfl ?_
                refine x_iload C (dq DX2_readLink 91 rfl) 0 rfl ?_
                refine x_iadd C (dq DX2_readLink 92 rfl) ?_
                refine callX2_79 C (dq DX2_readLink 93 rfl) h (by decide) (by decide) (Nat.le_of_ble_eq_true rfl) (fun a15 m16 h => ?_)
                refine x_if_eq (tgt := 177) C (dq DX2_readLink 94 rfl) (by decide) h (fun h => ?_) (fun h => ?_)
                · exact x_lv [1, 2, 3] rfl (tX2_readLink_177 C g0 g1 g2 h hQ)
                · refine x_aload_n C (dq DX2_readLink 95 rfl) rfl 1 rfl ?_
                  refine x_pc 166 rfl ?_
                  refine x_aload_n C (dq DX2_readLink 96 rfl) rfl 2 rfl ?_
                  refine callX2_92 C (dq DX2_readLink 97 rfl) h (by decide) (by decide) (Nat.le_of_ble_eq_true rfl) (fun a17 m18 h => ?_)
                  refine x_if_eq (tgt := 177) C (dq DX2_readLink 98 rfl) (by decide) h (fun h => ?_) (fun h => ?_)
                  · exact x_lv [1, 2, 3] rfl (tX2_readLink_177 C g0 g1 g2 h hQ)
                  · refine x_iconst (v := 1) C (dq DX2_readLink 99 rfl) (by decide) ?_
                    refine x_goto (tgt := 178) C (dq DX2_readLink 100 rfl) (by decide) ?_
                    exact x_lv [1, 2, 3] rfl (tX2_readLink_178 C g0 g1 g2 h hQ)
      · refine x_aload_n C (dq DX2_readLink 23 rfl) rfl 1 rfl ?_
        refine x_aload_n C (dq DX2_readLink 24 rfl) rfl 2 rfl ?_
        refine x_iconst (v := 3) C (dq DX2_readLink 25 rfl) (by decide) ?_
        refine x_pc 45 rfl ?_
        refine callX2_31 C (dq DX2_readLink 26 rfl) h (by decide) (by decide) (Nat.le_of_ble_eq_true rfl) (fun a19 m20 h => ?_)
        refine x_zret C (dq DX2_readLink 27 rfl) h (fun h => ?_)
        cases h
        exact hQ
    · refine x_iconst (v := 0) C (dq DX2_readLink 15 rfl) (by decide) ?_
      refine x_zret C (dq DX2_readLink 16 rfl) h (fun h => ?_)
      cases h
      exact hQ
  · refine x_aload_n C (dq DX2_readLink 6 rfl) rfl 1 rfl ?_
    refine x_aload_n C (dq DX2_readLink 7 rfl) rfl 2 rfl ?_
    refine x_iconst (v := 2) C (dq DX2_readLink 8 rfl) (by decide) ?_
    refine x_pc 16 rfl ?_
    refine callX2_31 C (dq DX2_readLink 9 rfl) h (by decide) (by decide) (Nat.le_of_ble_eq_true rfl) (fun a21 m22 h => ?_)
    refine x_zret C (dq DX2_readLink 10 rfl) h (fun h => ?_)
    cases h
    exact hQ
set_option maxHeartbeats 1000000 in
theorem qX2_readLink {S : List Sh} {mm : Mm} {x0 : Nat} {x1 : Nat} {x2 : Nat} {x3 : Nat} {r : Int32 × Mm} (h : fX2_readLink S mm x0 x1 x2 x3 = some r) : isC S x0 2 := by
  unfold fX2_readLink at h
  exact (gd_some h).1
theorem callX2_118 {G : Gt} {l : Launch} {E : Ev} {S : List Sh} {cc : ByteArray} {nL : Nat} {rt : Option FieldType} {fr lo : Nat} {pc : Nat} {lv : List (Nat × Value)} {rest : List Value} {mm : Mm} {α : Type} {f : Int32 → Mm → Option α} {r : α} {o : Nat} {a0 : Nat} {a1 : Int32} (C : Cx G E cc nL RX2 rt fr lo) (d : decode cc pc = .ok (.invokevirtual 118, 3)) (h : bd2 (fX2_isFirst S mm o a0 a1) f = some r) (hfr : 2 ≤ fr) (hlo : 44 ≤ lo) (hrs : (rest.map fun v => v.category).sum ≤ 8) (k : ∀ v m1, f v m1 = some r → WM G l E S (pc + 3) lv (.int v :: rest) m1) : WM G l E S pc lv (.int a1 :: .ref (E.2.2 a0) :: .ref (E.2.2 o) :: rest) mm := by
  obtain ⟨v, m1, hv, hf⟩ := bd2_some h
  exact x_callV (n := 2) (As := [.ref (E.2.2 a0), .int a1]) (rest := rest) C (mX2_isFirst hv) (qX2_isFirst hv) (T := TX2) (N := 3) rfl (gmem 384 (by decide +kernel) rfl) (gmem 386 (by decide +kernel) rfl) (gmemS 10 (by decide +kernel) rfl) (gmem 3 (by decide +kernel) rfl) (gmem 387 (by decide +kernel) rfl) (by decide +kernel) rfl hfr hlo hrs d rfl rfl (k v m1 hf)
abbrev eX2_readSample : List (Nat × Instr × Nat) := [(0, .aload_n 0, 1), (1, .aload_n 1, 1), (2, .iconst 1, 1), (3, .invokevirtual 118, 3), (6, .ifCond .eq 55, 3), (9, .aload_n 0, 1), (10, .aload_n 1, 1), (11, .iconst 1, 1), (12, .sipush 999, 3), (15, .aload_n 2, 1), (16, .iconst 0, 1), (17, .invokevirtual 79, 3), (20, .ifCond .eq 41, 3), (23, .aload_n 0, 1), (24, .aload_n 1, 1), (25, .iconst 1, 1), (26, .sipush 500, 3), (29, .aload_n 2, 1), (30, .iconst 1, 1), (31, .invokevirtual 79, 3), (34, .ifCond .eq 27, 3), (37, .aload_n 0, 1), (38, .aload_n 1, 1), (39, .iconst 0, 1), (40, .iconst 4, 1), (41, .aload_n 2, 1), (42, .iconst 2, 1), (43, .invokevirtual 79, 3), (46, .ifCond .eq 15, 3), (49, .aload_n 0, 1), (50, .aload_n 1, 1), (51, .invokevirtual 92, 3), (54, .ifCond .eq 7, 3), (57, .iconst 1, 1), (58, .goto 4, 3), (61, .iconst 0, 1), (62, .ireturn, 1)]
theorem DX2_readSample : (eX2_readSample.all fun q => decide (decode cX2_readSample q.1 = .ok q.2)) = true := by decide +kernel
def jX2_readSample_62 (S : List Sh) (mm : Mm) (x0 : Nat) (x1 : Nat) (p0 : Int32) : Option (Int32 × Mm) := bd1 (okZ p0) fun _ => some (p0, mm)
def jX2_readSample_61 (S : List Sh) (mm : Mm) (x0 : Nat) (x1 : Nat)  : Option (Int32 × Mm) := jX2_readSample_62 S mm x0 x1 0
def fX2_readSample (S : List Sh) (mm : Mm) (x0 : Nat) (x1 : Nat) (x2 : Nat) : Option (Int32 × Mm) := gd S x0 2 (gd S x1 4 (bd2 (fX2_isFirst S mm x0 x1 1) fun a1 m2 => if a1 = 0 then (jX2_readSample_61 S m2 x0 x1) else (bd2 (fX2_readNumber S m2 x0 x1 1 999 x2 0) fun a3 m4 => if a3 = 0 then (jX2_readSample_61 S m4 x0 x1) else (bd2 (fX2_readNumber S m4 x0 x1 1 500 x2 1) fun a5 m6 => if a5 = 0 then (jX2_readSample_61 S m6 x0 x1) else (bd2 (fX2_readNumber S m6 x0 x1 0 4 x2 2) fun a7 m8 => if a7 = 0 then (jX2_readSample_61 S m8 x0 x1) else (bd2 (fX2_readSemicolon S m8 x0 x1) fun a9 m10 => if a9 = 0 then (jX2_readSample_61 S m10 x0 x1) else (jX2_readSample_62 S m10 x0 x1 1)))))))
set_option maxHeartbeats 1000000 in
theorem tX2_readSample_62 {G : Gt} {l : Launch} {E : Ev} {S : List Sh} {mm : Mm} {x0 : Nat} {x1 : Nat} {p0 : Int32} {r : Int32 × Mm} (C : Cx G E cX2_readSample 3 RX2 (some .boolean) 4 94) (g0 : isC S x0 2) (g1 : isC S x1 4) (h : jX2_readSample_62 S mm x0 x1 p0 = some r) (hQ : RQ G E S (some (.int r.1)) r.2) : WM G l E S 62 [(0, .ref (E.2.2 x0)), (1, .ref (E.2.2 x1))] [.int p0] mm := by
  unfold jX2_readSample_62 at h
  refine x_zret C (dq DX2_readSample 36 rfl) h (fun h => ?_)
  cases h
  exact hQ
set_option maxHeartbeats 1000000 in
theorem tX2_readSample_61 {G : Gt} {l : Launch} {E : Ev} {S : List Sh} {mm : Mm} {x0 : Nat} {x1 : Nat}  {r : Int32 × Mm} (C : Cx G E cX2_readSample 3 RX2 (some .boolean) 4 94) (g0 : isC S x0 2) (g1 : isC S x1 4) (h : jX2_readSample_61 S mm x0 x1 = some r) (hQ : RQ G E S (some (.int r.1)) r.2) : WM G l E S 61 [(0, .ref (E.2.2 x0)), (1, .ref (E.2.2 x1))] [] mm := by
  unfold jX2_readSample_61 at h
  refine x_iconst (v := 0) C (dq DX2_readSample 35 rfl) (by decide) ?_
  exact x_lv [0, 1] rfl (tX2_readSample_62 C g0 g1 h hQ)
set_option maxHeartbeats 1000000 in
theorem mX2_readSample {l : Launch} {E : Ev} {S : List Sh} {mm : Mm} {x0 : Nat} {x1 : Nat} {x2 : Nat} {r : Int32 × Mm} (h : fX2_readSample S mm x0 x1 x2 = some r) : Ml l E S yX2_readSample cX2_readSample 3 (some .boolean) 4 94 [.ref (E.2.2 x0), .ref (E.2.2 x1), .ref (E.2.2 x2)] mm (some (.int r.1)) r.2 := by
  refine Ml.of (by decide +kernel) (Nat.le_of_ble_eq_true rfl) (fun G C hQ => ?_)
  have C : Cx G E cX2_readSample 3 RX2 (some .boolean) 4 94 := C
  unfold fX2_readSample at h
  obtain ⟨g0, h⟩ := gd_some h
  obtain ⟨g1, h⟩ := gd_some h
  show WM G l E S 0 [(0, .ref (E.2.2 x0)), (1, .ref (E.2.2 x1)), (2, .ref (E.2.2 x2))] [] mm
  refine x_aload_n C (dq DX2_readSample 0 rfl) rfl 0 rfl ?_
  refine x_aload_n C (dq DX2_readSample 1 rfl) rfl 1 rfl ?_
  refine x_iconst (v := 1) C (dq DX2_readSample 2 rfl) (by decide) ?_
  refine callX2_118 C (dq DX2_readSample 3 rfl) h (by decide) (by decide) (Nat.le_of_ble_eq_true rfl) (fun a1 m2 h => ?_)
  refine x_pc 6 rfl ?_
  refine x_if_eq (tgt := 61) C (dq DX2_readSample 4 rfl) (by decide) h (fun h => ?_) (fun h => ?_)
  · exact x_lv [0, 1] rfl (tX2_readSample_61 C g0 g1 h hQ)
  · refine x_aload_n C (dq DX2_readSample 5 rfl) rfl 0 rfl ?_
    refine x_aload_n C (dq DX2_readSample 6 rfl) rfl 1 rfl ?_
    refine x_iconst (v := 1) C (dq DX2_readSample 7 rfl) (by decide) ?_
    refine x_sipush (v := 999) C (dq DX2_readSample 8 rfl) (by decide) ?_
    refine x_pc 15 rfl ?_
    refine x_aload_n C (dq DX2_readSample 9 rfl) rfl 2 rfl ?_
    refine x_iconst (v := 0) C (dq DX2_readSample 10 rfl) (by decide) ?_
    refine callX2_79 C (dq DX2_readSample 11 rfl) h (by decide) (by decide) (Nat.le_of_ble_eq_true rfl) (fun a3 m4 h => ?_)
    refine x_if_eq (tgt := 61) C (dq DX2_readSample 12 rfl) (by decide) h (fun h => ?_) (fun h => ?_)
    · exact x_lv [0, 1] rfl (tX2_readSample_61 C g0 g1 h hQ)
    · refine x_aload_n C (dq DX2_readSample 13 rfl) rfl 0 rfl ?_
      refine x_pc 24 rfl ?_
      refine x_aload_n C (dq DX2_readSample 14 rfl) rfl 1 rfl ?_
      refine x_iconst (v := 1) C (dq DX2_readSample 15 rfl) (by decide) ?_
      refine x_sipush (v := 500) C (dq DX2_readSample 16 rfl) (by decide) ?_
      refine x_aload_n C (dq DX2_readSample 17 rfl) rfl 2 rfl ?_
      refine x_iconst (v := 1) C (dq DX2_readSample 18 rfl) (by decide) ?_
      refine x_pc 31 rfl ?_
      refine callX2_79 C (dq DX2_readSample 19 rfl) h (by decide) (by decide) (Nat.le_of_ble_eq_true rfl) (fun a5 m6 h => ?_)
      refine x_if_eq (tgt := 61) C (dq DX2_readSample 20 rfl) (by decide) h (fun h => ?_) (fun h => ?_)
      · exact x_lv [0, 1] rfl (tX2_readSample_61 C g0 g1 h hQ)
      · refine x_aload_n C (dq DX2_readSample 21 rfl) rfl 0 rfl ?_
        refine x_aload_n C (dq DX2_readSample 22 rfl) rfl 1 rfl ?_
        refine x_iconst (v := 0) C (dq DX2_readSample 23 rfl) (by decide) ?_
        refine x_pc 40 rfl ?_
        refine x_iconst (v := 4) C (dq DX2_readSample 24 rfl) (by decide) ?_
        refine x_aload_n C (dq DX2_readSample 25 rfl) rfl 2 rfl ?_
        refine x_iconst (v := 2) C (dq DX2_readSample 26 rfl) (by decide) ?_
        refine callX2_79 C (dq DX2_readSample 27 rfl) h (by decide) (by decide) (Nat.le_of_ble_eq_true rfl) (fun a7 m8 h => ?_)
        refine x_if_eq (tgt := 61) C (dq DX2_readSample 28 rfl) (by decide) h (fun h => ?_) (fun h => ?_)
        · exact x_lv [0, 1] rfl (tX2_readSample_61 C g0 g1 h hQ)
        · refine x_pc 49 rfl ?_
          refine x_aload_n C (dq DX2_readSample 29 rfl) rfl 0 rfl ?_
          refine x_aload_n C (dq DX2_readSample 30 rfl) rfl 1 rfl ?_
          refine callX2_92 C (dq DX2_readSample 31 rfl) h (by decide) (by decide) (Nat.le_of_ble_eq_true rfl) (fun a9 m10 h => ?_)
          refine x_if_eq (tgt := 61) C (dq DX2_readSample 32 rfl) (by decide) h (fun h => ?_) (fun h => ?_)
          · exact x_lv [0, 1] rfl (tX2_readSample_61 C g0 g1 h hQ)
          · refine x_iconst (v := 1) C (dq DX2_readSample 33 rfl) (by decide) ?_
            refine x_pc 58 rfl ?_
            refine x_goto (tgt := 62) C (dq DX2_readSample 34 rfl) (by decide) ?_
            exact x_lv [0, 1] rfl (tX2_readSample_62 C g0 g1 h hQ)
set_option maxHeartbeats 1000000 in
theorem qX2_readSample {S : List Sh} {mm : Mm} {x0 : Nat} {x1 : Nat} {x2 : Nat} {r : Int32 × Mm} (h : fX2_readSample S mm x0 x1 x2 = some r) : isC S x0 2 := by
  unfold fX2_readSample at h
  exact (gd_some h).1
abbrev eX2_readStage : List (Nat × Instr × Nat) := [(0, .aload_n 0, 1), (1, .aload_n 1, 1), (2, .iconst 2, 1), (3, .invokevirtual 118, 3), (6, .ifCond .eq 55, 3), (9, .aload_n 0, 1), (10, .aload_n 1, 1), (11, .iconst 1, 1), (12, .sipush 999, 3), (15, .aload_n 2, 1), (16, .iconst 3, 1), (17, .invokevirtual 79, 3), (20, .ifCond .eq 41, 3), (23, .aload_n 0, 1), (24, .aload_n 1, 1), (25, .iconst 1, 1), (26, .bipush 99, 2), (28, .aload_n 2, 1), (29, .iconst 4, 1), (30, .invokevirtual 79, 3), (33, .ifCond .eq 28, 3), (36, .aload_n 0, 1), (37, .aload_n 1, 1), (38, .iconst 1, 1), (39, .bipush 99, 2), (41, .aload_n 2, 1), (42, .iconst 5, 1), (43, .invokevirtual 79, 3), (46, .ifCond .eq 15, 3), (49, .aload_n 0, 1), (50, .aload_n 1, 1), (51, .invokevirtual 92, 3), (54, .ifCond .eq 7, 3), (57, .iconst 1, 1), (58, .goto 4, 3), (61, .iconst 0, 1), (62, .ireturn, 1)]
theorem DX2_readStage : (eX2_readStage.all fun q => decide (decode cX2_readStage q.1 = .ok q.2)) = true := by decide +kernel
def jX2_readStage_62 (S : List Sh) (mm : Mm) (x0 : Nat) (x1 : Nat) (p0 : Int32) : Option (Int32 × Mm) := bd1 (okZ p0) fun _ => some (p0, mm)
def jX2_readStage_61 (S : List Sh) (mm : Mm) (x0 : Nat) (x1 : Nat)  : Option (Int32 × Mm) := jX2_readStage_62 S mm x0 x1 0
def fX2_readStage (S : List Sh) (mm : Mm) (x0 : Nat) (x1 : Nat) (x2 : Nat) : Option (Int32 × Mm) := gd S x0 2 (gd S x1 4 (bd2 (fX2_isFirst S mm x0 x1 2) fun a1 m2 => if a1 = 0 then (jX2_readStage_61 S m2 x0 x1) else (bd2 (fX2_readNumber S m2 x0 x1 1 999 x2 3) fun a3 m4 => if a3 = 0 then (jX2_readStage_61 S m4 x0 x1) else (bd2 (fX2_readNumber S m4 x0 x1 1 99 x2 4) fun a5 m6 => if a5 = 0 then (jX2_readStage_61 S m6 x0 x1) else (bd2 (fX2_readNumber S m6 x0 x1 1 99 x2 5) fun a7 m8 => if a7 = 0 then (jX2_readStage_61 S m8 x0 x1) else (bd2 (fX2_readSemicolon S m8 x0 x1) fun a9 m10 => if a9 = 0 then (jX2_readStage_61 S m10 x0 x1) else (jX2_readStage_62 S m10 x0 x1 1)))))))
set_option maxHeartbeats 1000000 in
theorem tX2_readStage_62 {G : Gt} {l : Launch} {E : Ev} {S : List Sh} {mm : Mm} {x0 : Nat} {x1 : Nat} {p0 : Int32} {r : Int32 × Mm} (C : Cx G E cX2_readStage 3 RX2 (some .boolean) 4 94) (g0 : isC S x0 2) (g1 : isC S x1 4) (h : jX2_readStage_62 S mm x0 x1 p0 = some r) (hQ : RQ G E S (some (.int r.1)) r.2) : WM G l E S 62 [(0, .ref (E.2.2 x0)), (1, .ref (E.2.2 x1))] [.int p0] mm := by
  unfold jX2_readStage_62 at h
  refine x_zret C (dq DX2_readStage 36 rfl) h (fun h => ?_)
  cases h
  exact hQ
set_option maxHeartbeats 1000000 in
theorem tX2_readStage_61 {G : Gt} {l : Launch} {E : Ev} {S : List Sh} {mm : Mm} {x0 : Nat} {x1 : Nat}  {r : Int32 × Mm} (C : Cx G E cX2_readStage 3 RX2 (some .boolean) 4 94) (g0 : isC S x0 2) (g1 : isC S x1 4) (h : jX2_readStage_61 S mm x0 x1 = some r) (hQ : RQ G E S (some (.int r.1)) r.2) : WM G l E S 61 [(0, .ref (E.2.2 x0)), (1, .ref (E.2.2 x1))] [] mm := by
  unfold jX2_readStage_61 at h
  refine x_iconst (v := 0) C (dq DX2_readStage 35 rfl) (by decide) ?_
  exact x_lv [0, 1] rfl (tX2_readStage_62 C g0 g1 h hQ)
set_option maxHeartbeats 1000000 in
theorem mX2_readStage {l : Launch} {E : Ev} {S : List Sh} {mm : Mm} {x0 : Nat} {x1 : Nat} {x2 : Nat} {r : Int32 × Mm} (h : fX2_readStage S mm x0 x1 x2 = some r) : Ml l E S yX2_readStage cX2_readStage 3 (some .boolean) 4 94 [.ref (E.2.2 x0), .ref (E.2.2 x1), .ref (E.2.2 x2)] mm (some (.int r.1)) r.2 := by
  refine Ml.of (by decide +kernel) (Nat.le_of_ble_eq_true rfl) (fun G C hQ => ?_)
  have C : Cx G E cX2_readStage 3 RX2 (some .boolean) 4 94 := C
  unfold fX2_readStage at h
  obtain ⟨g0, h⟩ := gd_some h
  obtain ⟨g1, h⟩ := gd_some h
  show WM G l E S 0 [(0, .ref (E.2.2 x0)), (1, .ref (E.2.2 x1)), (2, .ref (E.2.2 x2))] [] mm
  refine x_aload_n C (dq DX2_readStage 0 rfl) rfl 0 rfl ?_
  refine x_aload_n C (dq DX2_readStage 1 rfl) rfl 1 rfl ?_
  refine x_iconst (v := 2) C (dq DX2_readStage 2 rfl) (by decide) ?_
  refine callX2_118 C (dq DX2_readStage 3 rfl) h (by decide) (by decide) (Nat.le_of_ble_eq_true rfl) (fun a1 m2 h => ?_)
  refine x_pc 6 rfl ?_
  refine x_if_eq (tgt := 61) C (dq DX2_readStage 4 rfl) (by decide) h (fun h => ?_) (fun h => ?_)
  · exact x_lv [0, 1] rfl (tX2_readStage_61 C g0 g1 h hQ)
  · refine x_aload_n C (dq DX2_readStage 5 rfl) rfl 0 rfl ?_
    refine x_aload_n C (dq DX2_readStage 6 rfl) rfl 1 rfl ?_
    refine x_iconst (v := 1) C (dq DX2_readStage 7 rfl) (by decide) ?_
    refine x_sipush (v := 999) C (dq DX2_readStage 8 rfl) (by decide) ?_
    refine x_pc 15 rfl ?_
    refine x_aload_n C (dq DX2_readStage 9 rfl) rfl 2 rfl ?_
    refine x_iconst (v := 3) C (dq DX2_readStage 10 rfl) (by decide) ?_
    refine callX2_79 C (dq DX2_readStage 11 rfl) h (by decide) (by decide) (Nat.le_of_ble_eq_true rfl) (fun a3 m4 h => ?_)
    refine x_if_eq (tgt := 61) C (dq DX2_readStage 12 rfl) (by decide) h (fun h => ?_) (fun h => ?_)
    · exact x_lv [0, 1] rfl (tX2_readStage_61 C g0 g1 h hQ)
    · refine x_aload_n C (dq DX2_readStage 13 rfl) rfl 0 rfl ?_
      refine x_pc 24 rfl ?_
      refine x_aload_n C (dq DX2_readStage 14 rfl) rfl 1 rfl ?_
      refine x_iconst (v := 1) C (dq DX2_readStage 15 rfl) (by decide) ?_
      refine x_bipush (v := 99) C (dq DX2_readStage 16 rfl) (by decide) ?_
      refine x_aload_n C (dq DX2_readStage 17 rfl) rfl 2 rfl ?_
      refine x_iconst (v := 4) C (dq DX2_readStage 18 rfl) (by decide) ?_
      refine x_pc 30 rfl ?_
      refine callX2_79 C (dq DX2_readStage 19 rfl) h (by decide) (by decide) (Nat.le_of_ble_eq_true rfl) (fun a5 m6 h => ?_)
      refine x_if_eq (tgt := 61) C (dq DX2_readStage 20 rfl) (by decide) h (fun h => ?_) (fun h => ?_)
      · exact x_lv [0, 1] rfl (tX2_readStage_61 C g0 g1 h hQ)
      · refine x_aload_n C (dq DX2_readStage 21 rfl) rfl 0 rfl ?_
        refine x_aload_n C (dq DX2_readStage 22 rfl) rfl 1 rfl ?_
        refine x_iconst (v := 1) C (dq DX2_readStage 23 rfl) (by decide) ?_
        refine x_pc 39 rfl ?_
        refine x_bipush (v := 99) C (dq DX2_readStage 24 rfl) (by decide) ?_
        refine x_aload_n C (dq DX2_readStage 25 rfl) rfl 2 rfl ?_
        refine x_iconst (v := 5) C (dq DX2_readStage 26 rfl) (by decide) ?_
        refine callX2_79 C (dq DX2_readStage 27 rfl) h (by decide) (by decide) (Nat.le_of_ble_eq_true rfl) (fun a7 m8 h => ?_)
        refine x_if_eq (tgt := 61) C (dq DX2_readStage 28 rfl) (by decide) h (fun h => ?_) (fun h => ?_)
        · exact x_lv [0, 1] rfl (tX2_readStage_61 C g0 g1 h hQ)
        · refine x_pc 49 rfl ?_
          refine x_aload_n C (dq DX2_readStage 29 rfl) rfl 0 rfl ?_
          refine x_aload_n C (dq DX2_readStage 30 rfl) rfl 1 rfl ?_
          refine callX2_92 C (dq DX2_readStage 31 rfl) h (by decide) (by decide) (Nat.le_of_ble_eq_true rfl) (fun a9 m10 h => ?_)
          refine x_if_eq (tgt := 61) C (dq DX2_readStage 32 rfl) (by decide) h (fun h => ?_) (fun h => ?_)
          · exact x_lv [0, 1] rfl (tX2_readStage_61 C g0 g1 h hQ)
          · refine x_iconst (v := 1) C (dq DX2_readStage 33 rfl) (by decide) ?_
            refine x_pc 58 rfl ?_
            refine x_goto (tgt := 62) C (dq DX2_readStage 34 rfl) (by decide) ?_
            exact x_lv [0, 1] rfl (tX2_readStage_62 C g0 g1 h hQ)
set_option maxHeartbeats 1000000 in
theorem qX2_readStage {S : List Sh} {mm : Mm} {x0 : Nat} {x1 : Nat} {x2 : Nat} {r : Int32 × Mm} (h : fX2_readStage S mm x0 x1 x2 = some r) : isC S x0 2 := by
  unfold fX2_readStage at h
  exact (gd_some h).1
abbrev eX2_readSeed : List (Nat × Instr × Nat) := [(0, .aload_n 0, 1), (1, .aload_n 1, 1), (2, .iconst 4, 1), (3, .invokevirtual 118, 3), (6, .ifCond .eq 29, 3), (9, .aload_n 0, 1), (10, .aload_n 1, 1), (11, .iconst 0, 1), (12, .ldc 121, 2), (14, .aload_n 2, 1), (15, .bipush 6, 2), (17, .invokevirtual 79, 3), (20, .ifCond .eq 15, 3), (23, .aload_n 0, 1), (24, .aload_n 1, 1), (25, .invokevirtual 92, 3), (28, .ifCond .eq 7, 3), (31, .iconst 1, 1), (32, .goto 4, 3), (35, .iconst 0, 1), (36, .ireturn, 1)]
theorem DX2_readSeed : (eX2_readSeed.all fun q => decide (decode cX2_readSeed q.1 = .ok q.2)) = true := by decide +kernel
def jX2_readSeed_36 (S : List Sh) (mm : Mm) (x0 : Nat) (x1 : Nat) (p0 : Int32) : Option (Int32 × Mm) := bd1 (okZ p0) fun _ => some (p0, mm)
def jX2_readSeed_35 (S : List Sh) (mm : Mm) (x0 : Nat) (x1 : Nat)  : Option (Int32 × Mm) := jX2_readSeed_36 S mm x0 x1 0
def fX2_readSeed (S : List Sh) (mm : Mm) (x0 : Nat) (x1 : Nat) (x2 : Nat) : Option (Int32 × Mm) := gd S x0 2 (gd S x1 4 (bd2 (fX2_isFirst S mm x0 x1 4) fun a1 m2 => if a1 = 0 then (jX2_readSeed_35 S m2 x0 x1) else (bd2 (fX2_readNumber S m2 x0 x1 0 99999 x2 6) fun a3 m4 => if a3 = 0 then (jX2_readSeed_35 S m4 x0 x1) else (bd2 (fX2_readSemicolon S m4 x0 x1) fun a5 m6 => if a5 = 0 then (jX2_readSeed_35 S m6 x0 x1) else (jX2_readSeed_36 S m6 x0 x1 1)))))
set_option maxHeartbeats 1000000 in
theorem tX2_readSeed_36 {G : Gt} {l : Launch} {E : Ev} {S : List Sh} {mm : Mm} {x0 : Nat} {x1 : Nat} {p0 : Int32} {r : Int32 × Mm} (C : Cx G E cX2_readSeed 3 RX2 (some .boolean) 4 94) (g0 : isC S x0 2) (g1 : isC S x1 4) (h : jX2_readSeed_36 S mm x0 x1 p0 = some r) (hQ : RQ G E S (some (.int r.1)) r.2) : WM G l E S 36 [(0, .ref (E.2.2 x0)), (1, .ref (E.2.2 x1))] [.int p0] mm := by
  unfold jX2_readSeed_36 at h
  refine x_zret C (dq DX2_readSeed 20 rfl) h (fun h => ?_)
  cases h
  exact hQ
set_option maxHeartbeats 1000000 in
theorem tX2_readSeed_35 {G : Gt} {l : Launch} {E : Ev} {S : List Sh} {mm : Mm} {x0 : Nat} {x1 : Nat}  {r : Int32 × Mm} (C : Cx G E cX2_readSeed 3 RX2 (some .boolean) 4 94) (g0 : isC S x0 2) (g1 : isC S x1 4) (h : jX2_readSeed_35 S mm x0 x1 = some r) (hQ : RQ G E S (some (.int r.1)) r.2) : WM G l E S 35 [(0, .ref (E.2.2 x0)), (1, .ref (E.2.2 x1))] [] mm := by
  unfold jX2_readSeed_35 at h
  refine x_iconst (v := 0) C (dq DX2_readSeed 19 rfl) (by decide) ?_
  exact x_lv [0, 1] rfl (tX2_readSeed_36 C g0 g1 h hQ)
set_option maxHeartbeats 1000000 in
theorem mX2_readSeed {l : Launch} {E : Ev} {S : List Sh} {mm : Mm} {x0 : Nat} {x1 : Nat} {x2 : Nat} {r : Int32 × Mm} (h : fX2_readSeed S mm x0 x1 x2 = some r) : Ml l E S yX2_readSeed cX2_readSeed 3 (some .boolean) 4 94 [.ref (E.2.2 x0), .ref (E.2.2 x1), .ref (E.2.2 x2)] mm (some (.int r.1)) r.2 := by
  refine Ml.of (by decide +kernel) (Nat.le_of_ble_eq_true rfl) (fun G C hQ => ?_)
  have C : Cx G E cX2_readSeed 3 RX2 (some .boolean) 4 94 := C
  unfold fX2_readSeed at h
  obtain ⟨g0, h⟩ := gd_some h
  obtain ⟨g1, h⟩ := gd_some h
  show WM G l E S 0 [(0, .ref (E.2.2 x0)), (1, .ref (E.2.2 x1)), (2, .ref (E.2.2 x2))] [] mm
  refine x_aload_n C (dq DX2_readSeed 0 rfl) rfl 0 rfl ?_
  refine x_aload_n C (dq DX2_readSeed 1 rfl) rfl 1 rfl ?_
  refine x_iconst (v := 4) C (dq DX2_readSeed 2 rfl) (by decide) ?_
  refine callX2_118 C (dq DX2_readSeed 3 rfl) h (by decide) (by decide) (Nat.le_of_ble_eq_true rfl) (fun a1 m2 h => ?_)
  refine x_pc 6 rfl ?_
  refine x_if_eq (tgt := 35) C (dq DX2_readSeed 4 rfl) (by decide) h (fun h => ?_) (fun h => ?_)
  · exact x_lv [0, 1] rfl (tX2_readSeed_35 C g0 g1 h hQ)
  · refine x_aload_n C (dq DX2_readSeed 5 rfl) rfl 0 rfl ?_
    refine x_aload_n C (dq DX2_readSeed 6 rfl) rfl 1 rfl ?_
    refine x_iconst (v := 0) C (dq DX2_readSeed 7 rfl) (by decide) ?_
    refine x_ldc (v := 99999) C (dq DX2_readSeed 8 rfl) (gmem 400 (by decide +kernel) rfl) ?_
    refine x_pc 14 rfl ?_
    refine x_aload_n C (dq DX2_readSeed 9 rfl) rfl 2 rfl ?_
    refine x_bipush (v := 6) C (dq DX2_readSeed 10 rfl) (by decide) ?_
    refine callX2_79 C (dq DX2_readSeed 11 rfl) h (by decide) (by decide) (Nat.le_of_ble_eq_true rfl) (fun a3 m4 h => ?_)
    refine x_if_eq (tgt := 35) C (dq DX2_readSeed 12 rfl) (by decide) h (fun h => ?_) (fun h => ?_)
    · exact x_lv [0, 1] rfl (tX2_readSeed_35 C g0 g1 h hQ)
    · refine x_aload_n C (dq DX2_readSeed 13 rfl) rfl 0 rfl ?_
      refine x_pc 24 rfl ?_
      refine x_aload_n C (dq DX2_readSeed 14 rfl) rfl 1 rfl ?_
      refine callX2_92 C (dq DX2_readSeed 15 rfl) h (by decide) (by decide) (Nat.le_of_ble_eq_true rfl) (fun a5 m6 h => ?_)
      refine x_if_eq (tgt := 35) C (dq DX2_readSeed 16 rfl) (by decide) h (fun h => ?_) (fun h => ?_)
      · exact x_lv [0, 1] rfl (tX2_readSeed_35 C g0 g1 h hQ)
      · refine x_iconst (v := 1) C (dq DX2_readSeed 17 rfl) (by decide) ?_
        refine x_goto (tgt := 36) C (dq DX2_readSeed 18 rfl) (by decide) ?_
        exact x_lv [0, 1] rfl (tX2_readSeed_36 C g0 g1 h hQ)
set_option maxHeartbeats 1000000 in
theorem qX2_readSeed {S : List Sh} {mm : Mm} {x0 : Nat} {x1 : Nat} {x2 : Nat} {r : Int32 × Mm} (h : fX2_readSeed S mm x0 x1 x2 = some r) : isC S x0 2 := by
  unfold fX2_readSeed at h
  exact (gd_some h).1
abbrev eX2_readOff : List (Nat × Instr × Nat) := [(0, .aload_n 0, 1), (1, .aload_n 1, 1), (2, .invokevirtual 65, 3), (5, .ifCond .ne 5, 3), (8, .iconst 0, 1), (9, .ireturn, 1), (10, .aload_n 2, 1), (11, .aload_n 1, 1), (12, .getfield 35, 3), (15, .invokevirtual 98, 3), (18, .istore 4, 2), (20, .iload 4, 2), (22, .iconst (-1), 1), (23, .if_icmp .ne 10, 3), (26, .aload_n 0, 1), (27, .aload_n 1, 1), (28, .iconst 4, 1), (29, .invokevirtual 31, 3), (32, .ireturn, 1), (33, .aload_n 3, 1), (34, .sipush 264, 3), (37, .iload 4, 2), (39, .iadd, 1), (40, .iaload, 1), (41, .ifCond .ne 10, 3), (44, .aload_n 0, 1), (45, .aload_n 1, 1), (46, .iconst 3, 1), (47, .invokevirtual 31, 3), (50, .ireturn, 1), (51, .aload_n 3, 1), (52, .sipush 264, 3), (55, .iload 4, 2), (57, .iadd, 1), (58, .iconst 0, 1), (59, .iastore, 1), (60, .aload_n 0, 1), (61, .aload_n 1, 1), (62, .invokevirtual 92, 3), (65, .ireturn, 1)]
theorem DX2_readOff : (eX2_readOff.all fun q => decide (decode cX2_readOff q.1 = .ok q.2)) = true := by decide +kernel
def fX2_readOff (S : List Sh) (mm : Mm) (x0 : Nat) (x1 : Nat) (x2 : Nat) (x3 : Nat) : Option (Int32 × Mm) := gd S x0 2 (gd S x1 4 (gd S x2 1 (bd2 (fX2_readName S mm x0 x1) fun a1 m2 => if ¬ a1 = 0 then (bd1 (fX1_flowOf S m2 x2 (m2.1 x1 6)) fun a3 => if ¬ a3 = (-1) then (bd1 (ldA S 0 m2 x3 (264 + a3)) fun a4 => if ¬ a4 = 0 then (bd1 (stA S 0 m2 x3 (264 + a3) 0) fun m5 => bd2 (fX2_readSemicolon S m5 x0 x1) fun a6 m7 => bd1 (okZ a6) fun _ => some (a6, m7)) else (bd2 (fX2_failed S m2 x0 x1 3) fun a8 m9 => bd1 (okZ a8) fun _ => some (a8, m9))) else (bd2 (fX2_failed S m2 x0 x1 4) fun a10 m11 => bd1 (okZ a10) fun _ => some (a10, m11))) else (bd1 (okZ 0) fun _ => some (0, m2)))))
set_option maxHeartbeats 1000000 in
theorem mX2_readOff {l : Launch} {E : Ev} {S : List Sh} {mm : Mm} {x0 : Nat} {x1 : Nat} {x2 : Nat} {x3 : Nat} {r : Int32 × Mm} (h : fX2_readOff S mm x0 x1 x2 x3 = some r) : Ml l E S yX2_readOff cX2_readOff 5 (some .boolean) 4 90 [.ref (E.2.2 x0), .ref (E.2.2 x1), .ref (E.2.2 x2), .ref (E.2.2 x3)] mm (some (.int r.1)) r.2 := by
  refine Ml.of (by decide +kernel) (Nat.le_of_ble_eq_true rfl) (fun G C hQ => ?_)
  have C : Cx G E cX2_readOff 5 RX2 (some .boolean) 4 90 := C
  unfold fX2_readOff at h
  obtain ⟨g0, h⟩ := gd_some h
  obtain ⟨g1, h⟩ := gd_some h
  obtain ⟨g2, h⟩ := gd_some h
  show WM G l E S 0 [(0, .ref (E.2.2 x0)), (1, .ref (E.2.2 x1)), (2, .ref (E.2.2 x2)), (3, .ref (E.2.2 x3))] [] mm
  refine x_aload_n C (dq DX2_readOff 0 rfl) rfl 0 rfl ?_
  refine x_aload_n C (dq DX2_readOff 1 rfl) rfl 1 rfl ?_
  refine callX2_65 C (dq DX2_readOff 2 rfl) h (by decide) (by decide) (Nat.le_of_ble_eq_true rfl) (fun a1 m2 h => ?_)
  refine x_if_ne (tgt := 10) C (dq DX2_readOff 3 rfl) (by decide) h (fun h => ?_) (fun h => ?_)
  · refine x_pc 10 rfl ?_
    refine x_aload_n C (dq DX2_readOff 6 rfl) rfl 2 rfl ?_
    refine x_aload_n C (dq DX2_readOff 7 rfl) rfl 1 rfl ?_
    refine getX2_35 C (dq DX2_readOff 8 rfl) g1 ?_
    refine callX2_98 C (dq DX2_readOff 9 rfl) h (by decide) (by decide) (Nat.le_of_ble_eq_true rfl) (fun a3 h => ?_)
    refine x_istore (lv' := [(4, .int a3), (0, .ref (E.2.2 x0)), (1, .ref (E.2.2 x1)), (2, .ref (E.2.2 x2)), (3, .ref (E.2.2 x3))]) C (dq DX2_readOff 10 rfl) (by decide) rfl ?_
    refine x_pc 20 rfl ?_
    refine x_iload C (dq DX2_readOff 11 rfl) 0 rfl ?_
    refine x_iconst (v := (-1)) C (dq DX2_readOff 12 rfl) (by decide) ?_
    refine x_icmp_ne (tgt := 33) C (dq DX2_readOff 13 rfl) (by decide) h (fun h => ?_) (fun h => ?_)
    · refine x_aload_n C (dq DX2_readOff 19 rfl) rfl 4 rfl ?_
      refine x_sipush (v := 264) C (dq DX2_readOff 20 rfl) (by decide) ?_
      refine x_pc 37 rfl ?_
      refine x_iload C (dq DX2_readOff 21 rfl) 0 rfl ?_
      refine x_iadd C (dq DX2_readOff 22 rfl) ?_
      refine x_iald C (dq DX2_readOff 23 rfl) h (fun a4 h => ?_)
      refine x_if_ne (tgt := 51) C (dq DX2_readOff 24 rfl) (by decide) h (fun h => ?_) (fun h => ?_)
      · refine x_aload_n C (dq DX2_readOff 30 rfl) rfl 4 rfl ?_
        refine x_pc 52 rfl ?_
        refine x_sipush (v := 264) C (dq DX2_readOff 31 rfl) (by decide) ?_
        refine x_iload C (dq DX2_readOff 32 rfl) 0 rfl ?_
        refine x_iadd C (dq DX2_readOff 33 rfl) ?_
        refine x_iconst (v := 0) C (dq DX2_readOff 34 rfl) (by decide) ?_
        refine x_iast C (dq DX2_readOff 35 rfl) h (fun m5 h => ?_)
        refine x_pc 60 rfl ?_
        refine x_aload_n C (dq DX2_readOff 36 rfl) rfl 1 rfl ?_
        refine x_aload_n C (dq DX2_readOff 37 rfl) rfl 2 rfl ?_
        refine callX2_92 C (dq DX2_readOff 38 rfl) h (by decide) (by decide) (Nat.le_of_ble_eq_true rfl) (fun a6 m7 h => ?_)
        refine x_zret C (dq DX2_readOff 39 rfl) h (fun h => ?_)
        cases h
        exact hQ
      · refine x_aload_n C (dq DX2_readOff 25 rfl) rfl 1 rfl ?_
        refine x_pc 45 rfl ?_
        refine x_aload_n C (dq DX2_readOff 26 rfl) rfl 2 rfl ?_
        refine x_iconst (v := 3) C (dq DX2_readOff 27 rfl) (by decide) ?_
        refine callX2_31 C (dq DX2_readOff 28 rfl) h (by decide) (by decide) (Nat.le_of_ble_eq_true rfl) (fun a8 m9 h => ?_)
        refine x_zret C (dq DX2_readOff 29 rfl) h (fun h => ?_)
        cases h
        exact hQ
    · refine x_aload_n C (dq DX2_readOff 14 rfl) rfl 1 rfl ?_
      refine x_aload_n C (dq DX2_readOff 15 rfl) rfl 2 rfl ?_
      refine x_pc 28 rfl ?_
      refine x_iconst (v := 4) C (dq DX2_readOff 16 rfl) (by decide) ?_
      refine callX2_31 C (dq DX2_readOff 17 rfl) h (by decide) (by decide) (Nat.le_of_ble_eq_true rfl) (fun a10 m11 h => ?_)
      refine x_zret C (dq DX2_readOff 18 rfl) h (fun h => ?_)
      cases h
      exact hQ
  · refine x_pc 8 rfl ?_
    refine x_iconst (v := 0) C (dq DX2_readOff 4 rfl) (by decide) ?_
    refine x_zret C (dq DX2_readOff 5 rfl) h (fun h => ?_)
    cases h
    exact hQ
set_option maxHeartbeats 1000000 in
theorem qX2_readOff {S : List Sh} {mm : Mm} {x0 : Nat} {x1 : Nat} {x2 : Nat} {x3 : Nat} {r : Int32 × Mm} (h : fX2_readOff S mm x0 x1 x2 x3 = some r) : isC S x0 2 := by
  unfold fX2_readOff at h
  exact (gd_some h).1
theorem getX2_45 {G : Gt} {l : Launch} {E : Ev} {S : List Sh} {cc : ByteArray} {nL : Nat} {rt : Option FieldType} {fr lo : Nat} {pc : Nat} {lv : List (Nat × Value)} {st : List Value} {mm : Mm} {o : Nat} (C : Cx G E cc nL RX2 rt fr lo) (d : decode cc pc = .ok (.getfield 45, 3)) (hg : isC S o 1) (k : WM G l E S (pc + 3) lv (.ref (E.2.2 (rf S mm o 8)) :: st) mm) : WM G l E S pc lv (.ref (E.2.2 o) :: st) mm := x_getN2 C hg (T := TX1) (N := 11) rfl inX1 (by decide) (i := 8) (host := "LosslessFabric") (nmem 204 (by decide +kernel) rfl) rfl rfl d k
theorem callX2_38 {G : Gt} {l : Launch} {E : Ev} {S : List Sh} {cc : ByteArray} {nL : Nat} {rt : Option FieldType} {fr lo : Nat} {pc : Nat} {lv : List (Nat × Value)} {rest : List Value} {mm : Mm} {α : Type} {f : Int32 → Mm → Option α} {r : α} {o : Nat} {a0 : Nat} {a1 : Nat} {a2 : Nat} (C : Cx G E cc nL RX2 rt fr lo) (d : decode cc pc = .ok (.invokevirtual 38, 3)) (h : bd2 (fX2_readLink S mm o a0 a1 a2) f = some r) (hfr : 5 ≤ fr) (hlo : 118 ≤ lo) (hrs : (rest.map fun v => v.category).sum ≤ 8) (k : ∀ v m1, f v m1 = some r → WM G l E S (pc + 3) lv (.int v :: rest) m1) : WM G l E S pc lv (.ref (E.2.2 a2) :: .ref (E.2.2 a1) :: .ref (E.2.2 a0) :: .ref (E.2.2 o) :: rest) mm := by
  obtain ⟨v, m1, hv, hf⟩ := bd2_some h
  exact x_callV (n := 3) (As := [.ref (E.2.2 a0), .ref (E.2.2 a1), .ref (E.2.2 a2)]) (rest := rest) C (mX2_readLink hv) (qX2_readLink hv) (T := TX2) (N := 3) rfl (gmem 342 (by decide +kernel) rfl) (gmem 344 (by decide +kernel) rfl) (gmemS 3 (by decide +kernel) rfl) (gmem 3 (by decide +kernel) rfl) (gmem 345 (by decide +kernel) rfl) (by decide +kernel) rfl hfr hlo hrs d rfl rfl (k v m1 hf)
theorem callX2_42 {G : Gt} {l : Launch} {E : Ev} {S : List Sh} {cc : ByteArray} {nL : Nat} {rt : Option FieldType} {fr lo : Nat} {pc : Nat} {lv : List (Nat × Value)} {rest : List Value} {mm : Mm} {α : Type} {f : Int32 → Mm → Option α} {r : α} {o : Nat} {a0 : Nat} {a1 : Nat} {a2 : Nat} (C : Cx G E cc nL RX2 rt fr lo) (d : decode cc pc = .ok (.invokevirtual 42, 3)) (h : bd2 (fX2_readFlow S mm o a0 a1 a2) f = some r) (hfr : 5 ≤ fr) (hlo : 118 ≤ lo) (hrs : (rest.map fun v => v.category).sum ≤ 8) (k : ∀ v m1, f v m1 = some r → WM G l E S (pc + 3) lv (.int v :: rest) m1) : WM G l E S pc lv (.ref (E.2.2 a2) :: .ref (E.2.2 a1) :: .ref (E.2.2 a0) :: .ref (E.2.2 o) :: rest) mm := by
  obtain ⟨v, m1, hv, hf⟩ := bd2_some h
  exact x_callV (n := 3) (As := [.ref (E.2.2 a0), .ref (E.2.2 a1), .ref (E.2.2 a2)]) (rest := rest) C (mX2_readFlow hv) (qX2_readFlow hv) (T := TX2) (N := 3) rfl (gmem 364 (by decide +kernel) rfl) (gmem 366 (by decide +kernel) rfl) (gmemS 7 (by decide +kernel) rfl) (gmem 3 (by decide +kernel) rfl) (gmem 367 (by decide +kernel) rfl) (by decide +kernel) rfl hfr hlo hrs d rfl rfl (k v m1 hf)
theorem callX2_49 {G : Gt} {l : Launch} {E : Ev} {S : List Sh} {cc : ByteArray} {nL : Nat} {rt : Option FieldType} {fr lo : Nat} {pc : Nat} {lv : List (Nat × Value)} {rest : List Value} {mm : Mm} {α : Type} {f : Int32 → Mm → Option α} {r : α} {o : Nat} {a0 : Nat} {a1 : Nat} (C : Cx G E cc nL RX2 rt fr lo) (d : decode cc pc = .ok (.invokevirtual 49, 3)) (h : bd2 (fX2_readSample S mm o a0 a1) f = some r) (hfr : 5 ≤ fr) (hlo : 116 ≤ lo) (hrs : (rest.map fun v => v.category).sum ≤ 8) (k : ∀ v m1, f v m1 = some r → WM G l E S (pc + 3) lv (.int v :: rest) m1) : WM G l E S pc lv (.ref (E.2.2 a1) :: .ref (E.2.2 a0) :: .ref (E.2.2 o) :: rest) mm := by
  obtain ⟨v, m1, hv, hf⟩ := bd2_some h
  exact x_callV (n := 2) (As := [.ref (E.2.2 a0), .ref (E.2.2 a1)]) (rest := rest) C (mX2_readSample hv) (qX2_readSample hv) (T := TX2) (N := 3) rfl (gmem 380 (by decide +kernel) rfl) (gmem 382 (by decide +kernel) rfl) (gmemS 9 (by decide +kernel) rfl) (gmem 3 (by decide +kernel) rfl) (gmem 383 (by decide +kernel) rfl) (by decide +kernel) rfl hfr hlo hrs d rfl rfl (k v m1 hf)
theorem callX2_53 {G : Gt} {l : Launch} {E : Ev} {S : List Sh} {cc : ByteArray} {nL : Nat} {rt : Option FieldType} {fr lo : Nat} {pc : Nat} {lv : List (Nat × Value)} {rest : List Value} {mm : Mm} {α : Type} {f : Int32 → Mm → Option α} {r : α} {o : Nat} {a0 : Nat} {a1 : Nat} (C : Cx G E cc nL RX2 rt fr lo) (d : decode cc pc = .ok (.invokevirtual 53, 3)) (h : bd2 (fX2_readStage S mm o a0 a1) f = some r) (hfr : 5 ≤ fr) (hlo : 116 ≤ lo) (hrs : (rest.map fun v => v.category).sum ≤ 8) (k : ∀ v m1, f v m1 = some r → WM G l E S (pc + 3) lv (.int v :: rest) m1) : WM G l E S pc lv (.ref (E.2.2 a1) :: .ref (E.2.2 a0) :: .ref (E.2.2 o) :: rest) mm := by
  obtain ⟨v, m1, hv, hf⟩ := bd2_some h
  exact x_callV (n := 2) (As := [.ref (E.2.2 a0), .ref (E.2.2 a1)]) (rest := rest) C (mX2_readStage hv) (qX2_readStage hv) (T := TX2) (N := 3) rfl (gmem 388 (by decide +kernel) rfl) (gmem 390 (by decide +kernel) rfl) (gmemS 11 (by decide +kernel) rfl) (gmem 3 (by decide +kernel) rfl) (gmem 391 (by decide +kernel) rfl) (by decide +kernel) rfl hfr hlo hrs d rfl rfl (k v m1 hf)
theorem callX2_56 {G : Gt} {l : Launch} {E : Ev} {S : List Sh} {cc : ByteArray} {nL : Nat} {rt : Option FieldType} {fr lo : Nat} {pc : Nat} {lv : List (Nat × Value)} {rest : List Value} {mm : Mm} {α : Type} {f : Int32 → Mm → Option α} {r : α} {o : Nat} {a0 : Nat} {a1 : Nat} {a2 : Nat} (C : Cx G E cc nL RX2 rt fr lo) (d : decode cc pc = .ok (.invokevirtual 56, 3)) (h : bd2 (fX2_readOff S mm o a0 a1 a2) f = some r) (hfr : 5 ≤ fr) (hlo : 114 ≤ lo) (hrs : (rest.map fun v => v.category).sum ≤ 8) (k : ∀ v m1, f v m1 = some r → WM G l E S (pc + 3) lv (.int v :: rest) m1) : WM G l E S pc lv (.ref (E.2.2 a2) :: .ref (E.2.2 a1) :: .ref (E.2.2 a0) :: .ref (E.2.2 o) :: rest) mm := by
  obtain ⟨v, m1, hv, hf⟩ := bd2_some h
  exact x_callV (n := 3) (As := [.ref (E.2.2 a0), .ref (E.2.2 a1), .ref (E.2.2 a2)]) (rest := rest) C (mX2_readOff hv) (qX2_readOff hv) (T := TX2) (N := 3) rfl (gmem 392 (by decide +kernel) rfl) (gmem 394 (by decide +kernel) rfl) (gmemS 12 (by decide +kernel) rfl) (gmem 3 (by decide +kernel) rfl) (gmem 395 (by decide +kernel) rfl) (by decide +kernel) rfl hfr hlo hrs d rfl rfl (k v m1 hf)
theorem callX2_59 {G : Gt} {l : Launch} {E : Ev} {S : List Sh} {cc : ByteArray} {nL : Nat} {rt : Option FieldType} {fr lo : Nat} {pc : Nat} {lv : List (Nat × Value)} {rest : List Value} {mm : Mm} {α : Type} {f : Int32 → Mm → Option α} {r : α} {o : Nat} {a0 : Nat} {a1 : Nat} (C : Cx G E cc nL RX2 rt fr lo) (d : decode cc pc = .ok (.invokevirtual 59, 3)) (h : bd2 (fX2_readSeed S mm o a0 a1) f = some r) (hfr : 5 ≤ fr) (hlo : 116 ≤ lo) (hrs : (rest.map fun v => v.category).sum ≤ 8) (k : ∀ v m1, f v m1 = some r → WM G l E S (pc + 3) lv (.int v :: rest) m1) : WM G l E S pc lv (.ref (E.2.2 a1) :: .ref (E.2.2 a0) :: .ref (E.2.2 o) :: rest) mm := by
  obtain ⟨v, m1, hv, hf⟩ := bd2_some h
  exact x_callV (n := 2) (As := [.ref (E.2.2 a0), .ref (E.2.2 a1)]) (rest := rest) C (mX2_readSeed hv) (qX2_readSeed hv) (T := TX2) (N := 3) rfl (gmem 396 (by decide +kernel) rfl) (gmem 398 (by decide +kernel) rfl) (gmemS 13 (by decide +kernel) rfl) (gmem 3 (by decide +kernel) rfl) (gmem 399 (by decide +kernel) rfl) (by decide +kernel) rfl hfr hlo hrs d rfl rfl (k v m1 hf)
abbrev eX2_readLine : List (Nat × Instr × Nat) := [(0, .aload_n 1, 1), (1, .getfield 26, 3), (4, .iconst 2, 1), (5, .if_icmp .eq 10, 3), (8, .aload_n 0, 1), (9, .aload_n 1, 1), (10, .iconst 1, 1), (11, .invokevirtual 31, 3), (14, .ireturn, 1), (15, .aload_n 1, 1), (16, .getfield 35, 3), (19, .lookupswitch 93 #[(214424576, 57), (412560384, 49), (509804544, 85), (639025541, 65), (658545824, 75)], 49), (68, .aload_n 0, 1), (69, .aload_n 1, 1), (70, .aload_n 2, 1), (71, .aload_n 3, 1), (72, .invokevirtual 38, 3), (75, .ireturn, 1), (76, .aload_n 0, 1), (77, .aload_n 1, 1), (78, .aload_n 2, 1), (79, .aload_n 3, 1), (80, .invokevirtual 42, 3), (83, .ireturn, 1), (84, .aload_n 0, 1), (85, .aload_n 1, 1), (86, .aload_n 2, 1), (87, .getfield 45, 3), (90, .invokevirtual 49, 3), (93, .ireturn, 1), (94, .aload_n 0, 1), (95, .aload_n 1, 1), (96, .aload_n 2, 1), (97, .getfield 45, 3), (100, .invokevirtual 53, 3), (103, .ireturn, 1), (104, .aload_n 0, 1), (105, .aload_n 1, 1), (106, .aload_n 2, 1), (107, .aload_n 3, 1), (108, .invokevirtual 56, 3), (111, .ireturn, 1), (112, .aload_n 0, 1), (113, .aload_n 1, 1), (114, .aload_n 2, 1), (115, .getfield 45, 3), (118, .invokevirtual 59, 3), (121, .ireturn, 1)]
theorem DX2_readLine : (eX2_readLine.all fun q => decide (decode cX2_readLine q.1 = .ok q.2)) = true := by decide +kernel
def fX2_readLine (S : List Sh) (mm : Mm) (x0 : Nat) (x1 : Nat) (x2 : Nat) (x3 : Nat) : Option (Int32 × Mm) := gd S x0 2 (gd S x1 4 (gd S x2 1 (if (mm.1 x1 4) = 2 then (if (mm.1 x1 6) = 214424576 then (bd2 (fX2_readFlow S mm x0 x1 x2 x3) fun a1 m2 => bd1 (okZ a1) fun _ => some (a1, m2)) else (if (mm.1 x1 6) = 412560384 then (bd2 (fX2_readLink S mm x0 x1 x2 x3) fun a4 m5 => bd1 (okZ a4) fun _ => some (a4, m5)) else (if (mm.1 x1 6) = 509804544 then (bd2 (fX2_readOff S mm x0 x1 x2 x3) fun a7 m8 => bd1 (okZ a7) fun _ => some (a7, m8)) else (if (mm.1 x1 6) = 639025541 then (bd2 (fX2_readSample S mm x0 x1 (rf S mm x2 8)) fun a10 m11 => bd1 (okZ a10) fun _ => some (a10, m11)) else (if (mm.1 x1 6) = 658545824 then (bd2 (fX2_readStage S mm x0 x1 (rf S mm x2 8)) fun a13 m14 => bd1 (okZ a13) fun _ => some (a13, m14)) else (bd2 (fX2_readSeed S mm x0 x1 (rf S mm x2 8)) fun a16 m17 => bd1 (okZ a16) fun _ => some (a16, m17))))))) else (bd2 (fX2_failed S mm x0 x1 1) fun a18 m19 => bd1 (okZ a18) fun _ => some (a18, m19)))))
set_option maxHeartbeats 1000000 in
theorem mX2_readLine {l : Launch} {E : Ev} {S : List Sh} {mm : Mm} {x0 : Nat} {x1 : Nat} {x2 : Nat} {x3 : Nat} {r : Int32 × Mm} (h : fX2_readLine S mm x0 x1 x2 x3 = some r) : Ml l E S yX2_readLine cX2_readLine 4 (some .boolean) 5 118 [.ref (E.2.2 x0), .ref (E.2.2 x1), .ref (E.2.2 x2), .ref (E.2.2 x3)] mm (some (.int r.1)) r.2 := by
  refine Ml.of (by decide +kernel) (Nat.le_of_ble_eq_true rfl) (fun G C hQ => ?_)
  have C : Cx G E cX2_readLine 4 RX2 (some .boolean) 5 118 := C
  unfold fX2_readLine at h
  obtain ⟨g0, h⟩ := gd_some h
  obtain ⟨g1, h⟩ := gd_some h
  obtain ⟨g2, h⟩ := gd_some h
  show WM G l E S 0 [(0, .ref (E.2.2 x0)), (1, .ref (E.2.2 x1)), (2, .ref (E.2.2 x2)), (3, .ref (E.2.2 x3))] [] mm
  refine x_aload_n C (dq DX2_readLine 0 rfl) rfl 1 rfl ?_
  refine getX2_26 C (dq DX2_readLine 1 rfl) g1 ?_
  refine x_iconst (v := 2) C (dq DX2_readLine 2 rfl) (by decide) ?_
  refine x_icmp_eq (tgt := 15) C (dq DX2_readLine 3 rfl) (by decide) h (fun h => ?_) (fun h => ?_)
  · refine x_pc 15 rfl ?_
    refine x_aload_n C (dq DX2_readLine 9 rfl) rfl 1 rfl ?_
    refine getX2_35 C (dq DX2_readLine 10 rfl) g1 ?_
    refine x_lkp1 (tgt := 76) C (dq DX2_readLine 11 rfl) (by decide) (w := 214424576) (z := 214424576) (by decide) rfl (by decide) h (fun h => ?_) (fun n3 h => ?_)
    · refine x_aload_n C (dq DX2_readLine 18 rfl) rfl 0 rfl ?_
      refine x_aload_n C (dq DX2_readLine 19 rfl) rfl 1 rfl ?_
      refine x_pc 78 rfl ?_
      refine x_aload_n C (dq DX2_readLine 20 rfl) rfl 2 rfl ?_
      refine x_aload_n C (dq DX2_readLine 21 rfl) rfl 3 rfl ?_
      refine callX2_42 C (dq DX2_readLine 22 rfl) h (by decide) (by decide) (Nat.le_of_ble_eq_true rfl) (fun a1 m2 h => ?_)
      refine x_zret C (dq DX2_readLine 23 rfl) h (fun h => ?_)
      cases h
      exact hQ
    refine x_lkp1 (tgt := 68) C (dq DX2_readLine 11 rfl) (by decide) (w := 412560384) (z := 412560384) (by decide) rfl (by decide) h (fun h => ?_) (fun n6 h => ?_)
    · refine x_aload_n C (dq DX2_readLine 12 rfl) rfl 0 rfl ?_
      refine x_aload_n C (dq DX2_readLine 13 rfl) rfl 1 rfl ?_
      refine x_pc 70 rfl ?_
      refine x_aload_n C (dq DX2_readLine 14 rfl) rfl 2 rfl ?_
      refine x_aload_n C (dq DX2_readLine 15 rfl) rfl 3 rfl ?_
      refine callX2_38 C (dq DX2_readLine 16 rfl) h (by decide) (by decide) (Nat.le_of_ble_eq_true rfl) (fun a4 m5 h => ?_)
      refine x_zret C (dq DX2_readLine 17 rfl) h (fun h => ?_)
      cases h
      exact hQ
    refine x_lkp1 (tgt := 104) C (dq DX2_readLine 11 rfl) (by decide) (w := 509804544) (z := 509804544) (by decide) rfl (by decide) h (fun h => ?_) (fun n9 h => ?_)
    · refine x_aload_n C (dq DX2_readLine 36 rfl) rfl 0 rfl ?_
      refine x_aload_n C (dq DX2_readLine 37 rfl) rfl 1 rfl ?_
      refine x_pc 106 rfl ?_
      refine x_aload_n C (dq DX2_readLine 38 rfl) rfl 2 rfl ?_
      refine x_aload_n C (dq DX2_readLine 39 rfl) rfl 3 rfl ?_
      refine callX2_56 C (dq DX2_readLine 40 rfl) h (by decide) (by decide) (Nat.le_of_ble_eq_true rfl) (fun a7 m8 h => ?_)
      refine x_zret C (dq DX2_readLine 41 rfl) h (fun h => ?_)
      cases h
      exact hQ
    refine x_lkp1 (tgt := 84) C (dq DX2_readLine 11 rfl) (by decide) (w := 639025541) (z := 639025541) (by decide) rfl (by decide) h (fun h => ?_) (fun n12 h => ?_)
    · refine x_aload_n C (dq DX2_readLine 24 rfl) rfl 0 rfl ?_
      refine x_aload_n C (dq DX2_readLine 25 rfl) rfl 1 rfl ?_
      refine x_pc 86 rfl ?_
      refine x_aload_n C (dq DX2_readLine 26 rfl) rfl 2 rfl ?_
      refine getX2_45 C (dq DX2_readLine 27 rfl) g2 ?_
      refine callX2_49 C (dq DX2_readLine 28 rfl) h (by decide) (by decide) (Nat.le_of_ble_eq_true rfl) (fun a10 m11 h => ?_)
      refine x_zret C (dq DX2_readLine 29 rfl) h (fun h => ?_)
      cases h
      exact hQ
    refine x_lkp1 (tgt := 94) C (dq DX2_readLine 11 rfl) (by decide) (w := 658545824) (z := 658545824) (by decide) rfl (by decide) h (fun h => ?_) (fun n15 h => ?_)
    · refine x_aload_n C (dq DX2_readLine 30 rfl) rfl 0 rfl ?_
      refine x_aload_n C (dq DX2_readLine 31 rfl) rfl 1 rfl ?_
      refine x_pc 96 rfl ?_
      refine x_aload_n C (dq DX2_readLine 32 rfl) rfl 2 rfl ?_
      refine getX2_45 C (dq DX2_readLine 33 rfl) g2 ?_
      refine callX2_53 C (dq DX2_readLine 34 rfl) h (by decide) (by decide) (Nat.le_of_ble_eq_true rfl) (fun a13 m14 h => ?_)
      refine x_zret C (dq DX2_readLine 35 rfl) h (fun h => ?_)
      cases h
      exact hQ
    refine x_lkpO (tgt := 112) C (dq DX2_readLine 11 rfl) (by decide) (by simp [Op.lookupswitch.offset, Ne.symm n3, Ne.symm n6, Ne.symm n9, Ne.symm n12, Ne.symm n15]) (by decide) ?_
    refine x_aload_n C (dq DX2_readLine 42 rfl) rfl 0 rfl ?_
    refine x_aload_n C (dq DX2_readLine 43 rfl) rfl 1 rfl ?_
    refine x_pc 114 rfl ?_
    refine x_aload_n C (dq DX2_readLine 44 rfl) rfl 2 rfl ?_
    refine getX2_45 C (dq DX2_readLine 45 rfl) g2 ?_
    refine callX2_59 C (dq DX2_readLine 46 rfl) h (by decide) (by decide) (Nat.le_of_ble_eq_true rfl) (fun a16 m17 h => ?_)
    refine x_zret C (dq DX2_readLine 47 rfl) h (fun h => ?_)
    cases h
    exact hQ
  · refine x_pc 8 rfl ?_
    refine x_aload_n C (dq DX2_readLine 4 rfl) rfl 0 rfl ?_
    refine x_aload_n C (dq DX2_readLine 5 rfl) rfl 1 rfl ?_
    refine x_iconst (v := 1) C (dq DX2_readLine 6 rfl) (by decide) ?_
    refine callX2_31 C (dq DX2_readLine 7 rfl) h (by decide) (by decide) (Nat.le_of_ble_eq_true rfl) (fun a18 m19 h => ?_)
    refine x_zret C (dq DX2_readLine 8 rfl) h (fun h => ?_)
    cases h
    exact hQ
set_option maxHeartbeats 1000000 in
theorem qX2_readLine {S : List Sh} {mm : Mm} {x0 : Nat} {x1 : Nat} {x2 : Nat} {x3 : Nat} {r : Int32 × Mm} (h : fX2_readLine S mm x0 x1 x2 x3 = some r) : isC S x0 2 := by
  unfold fX2_readLine at h
  exact (gd_some h).1
