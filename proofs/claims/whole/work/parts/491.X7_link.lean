theorem getX7_155 {G : Gt} {l : Launch} {E : Ev} {S : List Sh} {cc : ByteArray} {nL : Nat} {rt : Option FieldType} {fr lo : Nat} {pc : Nat} {lv : List (Nat × Value)} {st : List Value} {mm : Mm} {o : Nat} (C : Cx G E cc nL RX7 rt fr lo) (d : decode cc pc = .ok (.getfield 155, 3)) (hg : isC S o 1) (k : WM G l E S (pc + 3) lv (.ref (E.2.2 (rf S mm o 1)) :: st) mm) : WM G l E S pc lv (.ref (E.2.2 o) :: st) mm := x_getN2 C hg (T := TX1) (N := 11) rfl inX1 (by decide) (i := 1) (host := "LosslessFabric") (nmem 186 (by decide +kernel) rfl) rfl rfl d k
theorem getX7_158 {G : Gt} {l : Launch} {E : Ev} {S : List Sh} {cc : ByteArray} {nL : Nat} {rt : Option FieldType} {fr lo : Nat} {pc : Nat} {lv : List (Nat × Value)} {st : List Value} {mm : Mm} {o : Nat} (C : Cx G E cc nL RX7 rt fr lo) (d : decode cc pc = .ok (.getfield 158, 3)) (hg : isC S o 1) (k : WM G l E S (pc + 3) lv (.ref (E.2.2 (rf S mm o 2)) :: st) mm) : WM G l E S pc lv (.ref (E.2.2 o) :: st) mm := x_getN2 C hg (T := TX1) (N := 11) rfl inX1 (by decide) (i := 2) (host := "LosslessFabric") (nmem 189 (by decide +kernel) rfl) rfl rfl d k
theorem callX7_161 {G : Gt} {l : Launch} {E : Ev} {S : List Sh} {cc : ByteArray} {nL : Nat} {rt : Option FieldType} {fr lo : Nat} {pc : Nat} {lv : List (Nat × Value)} {rest : List Value} {mm : Mm} {α : Type} {f : Int32 → Option α} {r : α} {o : Nat} {a0 : Nat} {a1 : Int32} (C : Cx G E cc nL RX7 rt fr lo) (d : decode cc pc = .ok (.invokevirtual 161, 3)) (h : bd1 (fX1_isPaused S mm o a0 a1) f = some r) (hfr : 1 ≤ fr) (hlo : 22 ≤ lo) (hrs : (rest.map fun v => v.category).sum ≤ 8) (k : ∀ v, f v = some r → WM G l E S (pc + 3) lv (.int v :: rest) mm) : WM G l E S pc lv (.int a1 :: .ref (E.2.2 a0) :: .ref (E.2.2 o) :: rest) mm := by
  obtain ⟨v, hv, hf⟩ := bd1_some h
  exact x_callV (n := 2) (As := [.ref (E.2.2 a0), .int a1]) (rest := rest) C (mX1_isPaused hv) (qX1_isPaused hv) (T := TX1) (N := 11) rfl (gmem 830 (by decide +kernel) rfl) (gmem 446 (by decide +kernel) rfl) (gmem 447 (by decide +kernel) rfl) (gmem 8 (by decide +kernel) rfl) (gmem 448 (by decide +kernel) rfl) (by decide +kernel) rfl hfr hlo hrs d rfl rfl (k v hf)
abbrev eX7_link : List (Nat × Instr × Nat) := [(0, .aload_n 0, 1), (1, .iload_n 1, 1), (2, .invokevirtual 140, 3), (5, .ifCond .ne 13, 3), (8, .new 143, 3), (11, .dup, 1), (12, .ldc 145, 2), (14, .invokespecial 147, 3), (17, .athrow, 1), (18, .iload_n 2, 1), (19, .ifCond .lt 9, 3), (22, .iload_n 2, 1), (23, .bipush 13, 2), (25, .if_icmp .le 13, 3), (28, .new 150, 3), (31, .dup, 1), (32, .ldc 152, 2), (34, .invokespecial 154, 3), (37, .athrow, 1), (38, .iload_n 2, 1), (39, .tableswitch 207 0 12 #[65, 75, 85, 94, 104, 114, 124, 136, 157, 167, 177, 187, 197], 65), (104, .aload_n 0, 1), (105, .getfield 61, 3), (108, .getfield 155, 3), (111, .iload_n 1, 1), (112, .iaload, 1), (113, .ireturn, 1), (114, .aload_n 0, 1), (115, .getfield 61, 3), (118, .getfield 158, 3), (121, .iload_n 1, 1), (122, .iaload, 1), (123, .ireturn, 1), (124, .aload_n 0, 1), (125, .getfield 51, 3), (128, .iconst 0, 1), (129, .iload_n 1, 1), (130, .iadd, 1), (131, .iaload, 1), (132, .ireturn, 1), (133, .aload_n 0, 1), (134, .getfield 51, 3), (137, .bipush 10, 2), (139, .iload_n 1, 1), (140, .iadd, 1), (141, .iaload, 1), (142, .ireturn, 1), (143, .aload_n 0, 1), (144, .getfield 51, 3), (147, .bipush 20, 2), (149, .iload_n 1, 1), (150, .iadd, 1), (151, .iaload, 1), (152, .ireturn, 1), (153, .aload_n 0, 1), (154, .getfield 51, 3), (157, .bipush 30, 2), (159, .iload_n 1, 1), (160, .iadd, 1), (161, .iaload, 1), (162, .ireturn, 1), (163, .aload_n 0, 1), (164, .getfield 51, 3), (167, .bipush 40, 2), (169, .iload_n 1, 1), (170, .iadd, 1), (171, .iaload, 1), (172, .iconst 1, 1), (173, .iand, 1), (174, .ireturn, 1), (175, .aload_n 0, 1), (176, .getfield 61, 3), (179, .aload_n 0, 1), (180, .getfield 51, 3), (183, .iload_n 1, 1), (184, .invokevirtual 161, 3), (187, .ifCond .eq 7, 3), (190, .iconst 1, 1), (191, .goto 4, 3), (194, .iconst 0, 1), (195, .ireturn, 1), (196, .aload_n 0, 1), (197, .getfield 51, 3), (200, .bipush 50, 2), (202, .iload_n 1, 1), (203, .iadd, 1), (204, .iaload, 1), (205, .ireturn, 1), (206, .aload_n 0, 1), (207, .getfield 51, 3), (210, .bipush 60, 2), (212, .iload_n 1, 1), (213, .iadd, 1), (214, .iaload, 1), (215, .ireturn, 1), (216, .aload_n 0, 1), (217, .getfield 51, 3), (220, .bipush 70, 2), (222, .iload_n 1, 1), (223, .iadd, 1), (224, .iaload, 1), (225, .ireturn, 1), (226, .aload_n 0, 1), (227, .getfield 51, 3), (230, .bipush 80, 2), (232, .iload_n 1, 1), (233, .iadd, 1), (234, .iaload, 1), (235, .ireturn, 1), (236, .aload_n 0, 1), (237, .getfield 51, 3), (240, .bipush 90, 2), (242, .iload_n 1, 1), (243, .iadd, 1), (244, .iaload, 1), (245, .ireturn, 1), (246, .aload_n 0, 1), (247, .getfield 51, 3), (250, .bipush 100, 2), (252, .iload_n 1, 1), (253, .iadd, 1), (254, .iaload, 1), (255, .ireturn, 1)]
theorem DX7_link : (eX7_link.all fun q => decide (decode cX7_link q.1 = .ok q.2)) = true := by decide +kernel
def jX7_link_28 (S : List Sh) (mm : Mm) (x0 : Nat)  : Option (Int32) := none
def jX7_link_195 (S : List Sh) (mm : Mm) (x0 : Nat) (p0 : Int32) : Option (Int32) := some p0
def fX7_link (S : List Sh) (mm : Mm) (x0 : Nat) (x1 : Int32) (x2 : Int32) : Option (Int32) := gd S x0 7 (bd1 (fX7_isLink S mm x0 x1) fun a1 => if ¬ a1 = 0 then (if x2 < 0 then (jX7_link_28 S mm x0) else (if x2 ≤ 13 then (if x2 = 0 then (gd S (rf S mm x0 8) 1 (bd1 (ldA S 0 mm (rf S mm (rf S mm x0 8) 1) x1) fun a3 => some a3)) else (if x2 = 1 then (gd S (rf S mm x0 8) 1 (bd1 (ldA S 0 mm (rf S mm (rf S mm x0 8) 2) x1) fun a6 => some a6)) else (if x2 = 2 then (bd1 (ldA S 0 mm (rf S mm x0 6) (0 + x1)) fun a8 => some a8) else (if x2 = 3 then (bd1 (ldA S 0 mm (rf S mm x0 6) (10 + x1)) fun a10 => some a10) else (if x2 = 4 then (bd1 (ldA S 0 mm (rf S mm x0 6) (20 + x1)) fun a12 => some a12) else (if x2 = 5 then (bd1 (ldA S 0 mm (rf S mm x0 6) (30 + x1)) fun a14 => some a14) else (if x2 = 6 then (bd1 (ldA S 0 mm (rf S mm x0 6) (40 + x1)) fun a16 => some (a16 &&& 1)) else (if x2 = 7 then (bd1 (fX1_isPaused S mm (rf S mm x0 8) (rf S mm x0 6) x1) fun a18 => if a18 = 0 then (jX7_link_195 S mm x0 0) else (jX7_link_195 S mm x0 1)) else (if x2 = 8 then (bd1 (ldA S 0 mm (rf S mm x0 6) (50 + x1)) fun a20 => some a20) else (if x2 = 9 then (bd1 (ldA S 0 mm (rf S mm x0 6) (60 + x1)) fun a22 => some a22) else (if x2 = 10 then (bd1 (ldA S 0 mm (rf S mm x0 6) (70 + x1)) fun a24 => some a24) else (if x2 = 11 then (bd1 (ldA S 0 mm (rf S mm x0 6) (80 + x1)) fun a26 => some a26) else (if x2 = 12 then (bd1 (ldA S 0 mm (rf S mm x0 6) (90 + x1)) fun a28 => some a28) else (bd1 (ldA S 0 mm (rf S mm x0 6) (100 + x1)) fun a30 => some a30)))))))))))))) else (jX7_link_28 S mm x0))) else (none))
set_option maxHeartbeats 1000000 in
theorem tX7_link_28 {G : Gt} {l : Launch} {E : Ev} {S : List Sh} {mm : Mm} {x0 : Nat}  {r : Int32} (C : Cx G E cX7_link 3 RX7 (some .int) 1 22) (g0 : isC S x0 7) (h : jX7_link_28 S mm x0 = some r) (hQ : RQ G E S (some (.int r)) mm) : WM G l E S 28 [(0, .ref (E.2.2 x0))] [] mm := by
  unfold jX7_link_28 at h
  cases h
set_option maxHeartbeats 1000000 in
theorem tX7_link_195 {G : Gt} {l : Launch} {E : Ev} {S : List Sh} {mm : Mm} {x0 : Nat} {p0 : Int32} {r : Int32} (C : Cx G E cX7_link 3 RX7 (some .int) 1 22) (g0 : isC S x0 7) (h : jX7_link_195 S mm x0 p0 = some r) (hQ : RQ G E S (some (.int r)) mm) : WM G l E S 195 [(0, .ref (E.2.2 x0))] [.int p0] mm := by
  unfold jX7_link_195 at h
  cases h
  exact x_iret C (dq DX7_link 80 rfl) hQ
set_option maxHeartbeats 1000000 in
theorem mX7_link {l : Launch} {E : Ev} {S : List Sh} {mm : Mm} {x0 : Nat} {x1 : Int32} {x2 : Int32} {r : Int32} (h : fX7_link S mm x0 x1 x2 = some r) : Ml l E S yX7_link cX7_link 3 (some .int) 1 22 [.ref (E.2.2 x0), .int x1, .int x2] mm (some (.int r)) mm := by
  refine Ml.of (by decide +kernel) (Nat.le_of_ble_eq_true rfl) (fun G C hQ => ?_)
  have C : Cx G E cX7_link 3 RX7 (some .int) 1 22 := C
  unfold fX7_link at h
  obtain ⟨g0, h⟩ := gd_some h
  show WM G l E S 0 [(0, .ref (E.2.2 x0)), (1, .int x1), (2, .int x2)] [] mm
  refine x_aload_n C (dq DX7_link 0 rfl) rfl 0 rfl ?_
  refine x_iload_n C (dq DX7_link 1 rfl) rfl 1 rfl ?_
  refine callX7_140 C (dq DX7_link 2 rfl) h (by decide) (by decide) (Nat.le_of_ble_eq_true rfl) (fun a1 h => ?_)
  refine x_if_ne (tgt := 18) C (dq DX7_link 3 rfl) (by decide) h (fun h => ?_) (fun h => ?_)
  · refine x_pc 18 rfl ?_
    refine x_iload_n C (dq DX7_link 9 rfl) rfl 2 rfl ?_
    refine x_if_lt (tgt := 28) C (dq DX7_link 10 rfl) (by decide) h (fun h => ?_) (fun h => ?_)
    · exact x_lv [0] rfl (tX7_link_28 C g0 h hQ)
    · refine x_iload_n C (dq DX7_link 11 rfl) rfl 2 rfl ?_
      refine x_bipush (v := 13) C (dq DX7_link 12 rfl) (by decide) ?_
      refine x_icmp_le (tgt := 38) C (dq DX7_link 13 rfl) (by decide) h (fun h => ?_) (fun h => ?_)
      · refine x_pc 38 rfl ?_
        refine x_iload_n C (dq DX7_link 19 rfl) rfl 2 rfl ?_
        refine x_tab1 (tgt := 104) C (dq DX7_link 20 rfl) (w := 0) (z := 0) (by decide) (by decide) (by decide) rfl (by decide) h (fun h => ?_) (fun n4 h => ?_)
        · refine x_aload_n C (dq DX7_link 21 rfl) rfl 0 rfl ?_
          refine getX7_61 C (dq DX7_link 22 rfl) g0 ?_
          obtain ⟨g2, h⟩ := gd_some h
          refine getX7_155 C (dq DX7_link 23 rfl) g2 ?_
          refine x_pc 111 rfl ?_
          refine x_iload_n C (dq DX7_link 24 rfl) rfl 1 rfl ?_
          refine x_iald C (dq DX7_link 25 rfl) h (fun a3 h => ?_)
          cases h
          exact x_iret C (dq DX7_link 26 rfl) hQ
        refine x_tab1 (tgt := 114) C (dq DX7_link 20 rfl) (w := 1) (z := 1) (by decide) (by decide) (by decide) rfl (by decide) h (fun h => ?_) (fun n7 h => ?_)
        · refine x_aload_n C (dq DX7_link 27 rfl) rfl 0 rfl ?_
          refine getX7_61 C (dq DX7_link 28 rfl) g0 ?_
          obtain ⟨g5, h⟩ := gd_some h
          refine getX7_158 C (dq DX7_link 29 rfl) g5 ?_
          refine x_pc 121 rfl ?_
          refine x_iload_n C (dq DX7_link 30 rfl) rfl 1 rfl ?_
          refine x_iald C (dq DX7_link 31 rfl) h (fun a6 h => ?_)
          cases h
          exact x_iret C (dq DX7_link 32 rfl) hQ
        refine x_tab1 (tgt := 124) C (dq DX7_link 20 rfl) (w := 2) (z := 2) (by decide) (by decide) (by decide) rfl (by decide) h (fun h => ?_) (fun n9 h => ?_)
        · refine x_aload_n C (dq DX7_link 33 rfl) rfl 0 rfl ?_
          refine getX7_51 C (dq DX7_link 34 rfl) g0 ?_
          refine x_iconst (v := 0) C (dq DX7_link 35 rfl) (by decide) ?_
          refine x_pc 129 rfl ?_
          refine x_iload_n C (dq DX7_link 36 rfl) rfl 1 rfl ?_
          refine x_iadd C (dq DX7_link 37 rfl) ?_
          refine x_iald C (dq DX7_link 38 rfl) h (fun a8 h => ?_)
          cases h
          exact x_iret C (dq DX7_link 39 rfl) hQ
        refine x_tab1 (tgt := 133) C (dq DX7_link 20 rfl) (w := 3) (z := 3) (by decide) (by decide) (by decide) rfl (by decide) h (fun h => ?_) (fun n11 h => ?_)
        · refine x_aload_n C (dq DX7_link 40 rfl) rfl 0 rfl ?_
          refine getX7_51 C (dq DX7_link 41 rfl) g0 ?_
          refine x_bipush (v := 10) C (dq DX7_link 42 rfl) (by decide) ?_
          refine x_pc 139 rfl ?_
          refine x_iload_n C (dq DX7_link 43 rfl) rfl 1 rfl ?_
          refine x_iadd C (dq DX7_link 44 rfl) ?_
          refine x_iald C (dq DX7_link 45 rfl) h (fun a10 h => ?_)
          cases h
          exact x_iret C (dq DX7_link 46 rfl) hQ
        refine x_tab1 (tgt := 143) C (dq DX7_link 20 rfl) (w := 4) (z := 4) (by decide) (by decide) (by decide) rfl (by decide) h (fun h => ?_) (fun n13 h => ?_)
        · refine x_aload_n C (dq DX7_link 47 rfl) rfl 0 rfl ?_
          refine getX7_51 C (dq DX7_link 48 rfl) g0 ?_
          refine x_bipush (v := 20) C (dq DX7_link 49 rfl) (by decide) ?_
          refine x_pc 149 rfl ?_
          refine x_iload_n C (dq DX7_link 50 rfl) rfl 1 rfl ?_
          refine x_iadd C (dq DX7_link 51 rfl) ?_
          refine x_iald C (dq DX7_link 52 rfl) h (fun a12 h => ?_)
          cases h
          exact x_iret C (dq DX7_link 53 rfl) hQ
        refine x_tab1 (tgt := 153) C (dq DX7_link 20 rfl) (w := 5) (z := 5) (by decide) (by decide) (by decide) rfl (by decide) h (fun h => ?_) (fun n15 h => ?_)
        · refine x_aload_n C (dq DX7_link 54 rfl) rfl 0 rfl ?_
          refine getX7_51 C (dq DX7_link 55 rfl) g0 ?_
          refine x_bipush (v := 30) C (dq DX7_link 56 rfl) (by decide) ?_
          refine x_pc 159 rfl ?_
          refine x_iload_n C (dq DX7_link 57 rfl) rfl 1 rfl ?_
          refine x_iadd C (dq DX7_link 58 rfl) ?_
          refine x_iald C (dq DX7_link 59 rfl) h (fun a14 h => ?_)
          cases h
          exact x_iret C (dq DX7_link 60 rfl) hQ
        refine x_tab1 (tgt := 163) C (dq DX7_link 20 rfl) (w := 6) (z := 6) (by decide) (by decide) (by decide) rfl (by decide) h (fun h => ?_) (fun n17 h => ?_)
        · refine x_aload_n C (dq DX7_link 61 rfl) rfl 0 rfl ?_
          refine getX7_51 C (dq DX7_link 62 rfl) g0 ?_
          refine x_bipush (v := 40) C (dq DX7_link 63 rfl) (by decide) ?_
          refine x_pc 169 rfl ?_
          refine x_iload_n C (dq DX7_link 64 rfl) rfl 1 rfl ?_
          refine x_iadd C (dq DX7_link 65 rfl) ?_
          refine x_iald C (dq DX7_link 66 rfl) h (fun a16 h => ?_)
          refine x_iconst (v := 1) C (dq DX7_link 67 rfl) (by decide) ?_
          refine x_iand C (dq DX7_link 68 rfl) ?_
          refine x_pc 174 rfl ?_
          cases h
          exact x_iret C (dq DX7_link 69 rfl) hQ
        refine x_tab1 (tgt := 175) C (dq DX7_link 20 rfl) (w := 7) (z := 7) (by decide) (by decide) (by decide) rfl (by decide) h (fun h => ?_) (fun n19 h => ?_)
        · refine x_aload_n C (dq DX7_link 70 rfl) rfl 0 rfl ?_
          refine getX7_61 C (dq DX7_link 71 rfl) g0 ?_
          refine x_aload_n C (dq DX7_link 72 rfl) rfl 0 rfl ?_
          refine x_pc 180 rfl ?_
          refine getX7_51 C (dq DX7_link 73 rfl) g0 ?_
          refine x_iload_n C (dq DX7_link 74 rfl) rfl 1 rfl ?_
          refine callX7_161 C (dq DX7_link 75 rfl) h (by decide) (by decide) (Nat.le_of_ble_eq_true rfl) (fun a18 h => ?_)
          refine x_if_eq (tgt := 194) C (dq DX7_link 76 rfl) (by decide) h (fun h => ?_) (fun h => ?_)
          · refine x_iconst (v := 0) C (dq DX7_link 79 rfl) (by decide) ?_
            exact x_lv [0] rfl (tX7_link_195 C g0 h hQ)
          · refine x_iconst (v := 1) C (dq DX7_link 77 rfl) (by decide) ?_
            refine x_pc 191 rfl ?_
            refine x_goto (tgt := 195) C (dq DX7_link 78 rfl) (by decide) ?_
            exact x_lv [0] rfl (tX7_link_195 C g0 h hQ)
        refine x_tab1 (tgt := 196) C (dq DX7_link 20 rfl) (w := 8) (z := 8) (by decide) (by decide) (by decide) rfl (by decide) h (fun h => ?_) (fun n21 h => ?_)
        · refine x_aload_n C (dq DX7_link 81 rfl) rfl 0 rfl ?_
          refine getX7_51 C (dq DX7_link 82 rfl) g0 ?_
          refine x_bipush (v := 50) C (dq DX7_link 83 rfl) (by decide) ?_
          refine x_pc 202 rfl ?_
          refine x_iload_n C (dq DX7_link 84 rfl) rfl 1 rfl ?_
          refine x_iadd C (dq DX7_link 85 rfl) ?_
          refine x_iald C (dq DX7_link 86 rfl) h (fun a20 h => ?_)
          cases h
          exact x_iret C (dq DX7_link 87 rfl) hQ
        refine x_tab1 (tgt := 206) C (dq DX7_link 20 rfl) (w := 9) (z := 9) (by decide) (by decide) (by decide) rfl (by decide) h (fun h => ?_) (fun n23 h => ?_)
        · refine x_aload_n C (dq DX7_link 88 rfl) rfl 0 rfl ?_
          refine getX7_51 C (dq DX7_link 89 rfl) g0 ?_
          refine x_bipush (v := 60) C (dq DX7_link 90 rfl) (by decide) ?_
          refine x_pc 212 rfl ?_
          refine x_iload_n C (dq DX7_link 91 rfl) rfl 1 rfl ?_
          refine x_iadd C (dq DX7_link 92 rfl) ?_
          refine x_iald C (dq DX7_link 93 rfl) h (fun a22 h => ?_)
          cases h
          exact x_iret C (dq DX7_link 94 rfl) hQ
        refine x_tab1 (tgt := 216) C (dq DX7_link 20 rfl) (w := 10) (z := 10) (by decide) (by decide) (by decide) rfl (by decide) h (fun h => ?_) (fun n25 h => ?_)
        · refine x_aload_n C (dq DX7_link 95 rfl) rfl 0 rfl ?_
          refine getX7_51 C (dq DX7_link 96 rfl) g0 ?_
          refine x_bipush (v := 70) C (dq DX7_link 97 rfl) (by decide) ?_
          refine x_pc 222 rfl ?_
          refine x_iload_n C (dq DX7_link 98 rfl) rfl 1 rfl ?_
          refine x_iadd C (dq DX7_link 99 rfl) ?_
          refine x_iald C (dq DX7_link 100 rfl) h (fun a24 h => ?_)
          cases h
          exact x_iret C (dq DX7_link 101 rfl) hQ
        refine x_tab1 (tgt := 226) C (dq DX7_link 20 rfl) (w := 11) (z := 11) (by decide) (by decide) (by decide) rfl (by decide) h (fun h => ?_) (fun n27 h => ?_)
        · refine x_aload_n C (dq DX7_link 102 rfl) rfl 0 rfl ?_
          refine getX7_51 C (dq DX7_link 103 rfl) g0 ?_
          refine x_bipush (v := 80) C (dq DX7_link 104 rfl) (by decide) ?_
          refine x_pc 232 rfl ?_
          refine x_iload_n C (dq DX7_link 105 rfl) rfl 1 rfl ?_
          refine x_iadd C (dq DX7_link 106 rfl) ?_
          refine x_iald C (dq DX7_link 107 rfl) h (fun a26 h => ?_)
          cases h
          exact x_iret C (dq DX7_link 108 rfl) hQ
        refine x_tab1 (tgt := 236) C (dq DX7_link 20 rfl) (w := 12) (z := 12) (by decide) (by decide) (by decide) rfl (by decide) h (fun h => ?_) (fun n29 h => ?_)
        · refine x_aload_n C (dq DX7_link 109 rfl) rfl 0 rfl ?_
          refine getX7_51 C (dq DX7_link 110 rfl) g0 ?_
          refine x_bipush (v := 90) C (dq DX7_link 111 rfl) (by decide) ?_
          refine x_pc 242 rfl ?_
          refine x_iload_n C (dq DX7_link 112 rfl) rfl 1 rfl ?_
          refine x_iadd C (dq DX7_link 113 rfl) ?_
          refine x_iald C (dq DX7_link 114 rfl) h (fun a28 h => ?_)
          cases h
          exact x_iret C (dq DX7_link 115 rfl) hQ
        refine x_tabO (tgt := 246) C (dq DX7_link 20 rfl) (by omega) (by decide) ?_
        refine x_aload_n C (dq DX7_link 116 rfl) rfl 0 rfl ?_
        refine getX7_51 C (dq DX7_link 117 rfl) g0 ?_
        refine x_bipush (v := 100) C (dq DX7_link 118 rfl) (by decide) ?_
        refine x_pc 252 rfl ?_
        refine x_iload_n C (dq DX7_link 119 rfl) rfl 1 rfl ?_
        refine x_iadd C (dq DX7_link 120 rfl) ?_
        refine x_iald C (dq DX7_link 121 rfl) h (fun a30 h => ?_)
        cases h
        exact x_iret C (dq DX7_link 122 rfl) hQ
      · exact x_lv [0] rfl (tX7_link_28 C g0 h hQ)
  · refine x_pc 8 rfl ?_
    cases h
set_option maxHeartbeats 1000000 in
theorem qX7_link {S : List Sh} {mm : Mm} {x0 : Nat} {x1 : Int32} {x2 : Int32} {r : Int32} (h : fX7_link S mm x0 x1 x2 = some r) : isC S x0 7 := by
  unfold fX7_link at h
  exact (gd_some h).1
