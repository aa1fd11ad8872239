abbrev eX8_lostAll : List (Nat × Instr × Nat) := [(0, .iconst 0, 1), (1, .istore_n 1, 1), (2, .iconst 0, 1), (3, .istore_n 2, 1), (4, .iload_n 2, 1), (5, .aload_n 0, 1), (6, .invokevirtual 248, 3), (9, .if_icmp .ge 23, 3), (12, .iload_n 1, 1), (13, .aload_n 0, 1), (14, .getfield 57, 3), (17, .bipush 24, 2), (19, .iload_n 2, 1), (20, .imul, 1), (21, .iconst 3, 1), (22, .iadd, 1), (23, .iaload, 1), (24, .iadd, 1), (25, .istore_n 1, 1), (26, .iinc 2 1, 3), (29, .goto (-25), 3), (32, .iload_n 1, 1), (33, .ireturn, 1)]
theorem DX8_lostAll : (eX8_lostAll.all fun q => decide (decode cX8_lostAll q.1 = .ok q.2)) = true := by decide +kernel
def bX8_lostAll_4 (S : List Sh) (mm : Mm) (x0 : Nat) (x1 : Int32) (x2 : Int32) : Option ((Int32 × Int32) ⊕ (Int32)) := bd1 (fX8_links S mm x0) fun a1 => if a1 ≤ x2 then (some (.inr (x1))) else (bd1 (ldA S 0 mm (rf S mm x0 26) ((24 * x2) + 3)) fun a2 => some (.inl ((x1 + a2), x2 + 1)))
def fX8_lostAll (S : List Sh) (mm : Mm) (x0 : Nat) : Option (Int32) := gd S x0 8 (bd1 (lp (fun s3 => bX8_lostAll_4 S mm x0 s3.1 s3.2) fu (0, 0)) fun y4 => some y4)
set_option maxHeartbeats 1000000 in
theorem tX8_lostAll_4 {G : Gt} {l : Launch} {E : Ev} {S : List Sh} {mm : Mm} {x0 : Nat} {x1 : Int32} {x2 : Int32} {r : (Int32 × Int32) ⊕ (Int32)} (C : Cx G E cX8_lostAll 3 RX8 (some .int) 1 20) (g0 : isC S x0 8) (h : bX8_lostAll_4 S mm x0 x1 x2 = some r) (kb : ∀ z : Int32 × Int32, r = .inl z → WM G l E S 4 [(0, .ref (E.2.2 x0)), (1, .int z.1), (2, .int z.2)] [] mm) (kx : ∀ z : Int32, r = .inr z → WM G l E S 32 [(0, .ref (E.2.2 x0)), (1, .int z)] [] mm) : WM G l E S 4 [(0, .ref (E.2.2 x0)), (1, .int x1), (2, .int x2)] [] mm := by
  unfold bX8_lostAll_4 at h
  refine x_iload_n C (dq DX8_lostAll 4 rfl) rfl 2 rfl ?_
  refine x_aload_n C (dq DX8_lostAll 5 rfl) rfl 0 rfl ?_
  refine callX8_248 C (dq DX8_lostAll 6 rfl) h (by decide) (by decide) (Nat.le_of_ble_eq_true rfl) (fun a1 h => ?_)
  refine x_icmp_ge (tgt := 32) C (dq DX8_lostAll 7 rfl) (by decide) h (fun h => ?_) (fun h => ?_)
  · cases h
    exact x_lv [0, 1] rfl (kx (x1) rfl)
  · refine x_pc 12 rfl ?_
    refine x_iload_n C (dq DX8_lostAll 8 rfl) rfl 1 rfl ?_
    refine x_aload_n C (dq DX8_lostAll 9 rfl) rfl 0 rfl ?_
    refine getX8_57 C (dq DX8_lostAll 10 rfl) g0 ?_
    refine x_bipush (v := 24) C (dq DX8_lostAll 11 rfl) (by decide) ?_
    refine x_iload_n C (dq DX8_lostAll 12 rfl) rfl 2 rfl ?_
    refine x_pc 20 rfl ?_
    refine x_imul C (dq DX8_lostAll 13 rfl) ?_
    refine x_iconst (v := 3) C (dq DX8_lostAll 14 rfl) (by decide) ?_
    refine x_iadd C (dq DX8_lostAll 15 rfl) ?_
    refine x_iald C (dq DX8_lostAll 16 rfl) h (fun a2 h => ?_)
    refine x_iadd C (dq DX8_lostAll 17 rfl) ?_
    refine x_pc 25 rfl ?_
    refine x_istore_n (lv' := [(1, .int (x1 + a2)), (0, .ref (E.2.2 x0)), (2, .int x2)]) C (dq DX8_lostAll 18 rfl) rfl (by decide) rfl ?_
    refine x_iinc (v := x2 + 1) (lv' := [(2, .int (x2 + 1)), (1, .int (x1 + a2)), (0, .ref (E.2.2 x0))]) C (dq DX8_lostAll 19 rfl) 2 rfl rfl (by decide) rfl ?_
    refine x_goto (tgt := 4) C (dq DX8_lostAll 20 rfl) (by decide) ?_
    cases h
    exact x_lv [2, 1, 0] rfl (kb ((x1 + a2), x2 + 1) rfl)
set_option maxHeartbeats 1000000 in
theorem mX8_lostAll {l : Launch} {E : Ev} {S : List Sh} {mm : Mm} {x0 : Nat} {r : Int32} (h : fX8_lostAll S mm x0 = some r) : Ml l E S yX8_lostAll cX8_lostAll 3 (some .int) 1 20 [.ref (E.2.2 x0)] mm (some (.int r)) mm := by
  refine Ml.of (by decide +kernel) (Nat.le_of_ble_eq_true rfl) (fun G C hQ => ?_)
  have C : Cx G E cX8_lostAll 3 RX8 (some .int) 1 20 := C
  unfold fX8_lostAll at h
  obtain ⟨g0, h⟩ := gd_some h
  show WM G l E S 0 [(0, .ref (E.2.2 x0))] [] mm
  refine x_iconst (v := 0) C (dq DX8_lostAll 0 rfl) (by decide) ?_
  refine x_istore_n (lv' := [(1, .int 0), (0, .ref (E.2.2 x0))]) C (dq DX8_lostAll 1 rfl) rfl (by decide) rfl ?_
  refine x_iconst (v := 0) C (dq DX8_lostAll 2 rfl) (by decide) ?_
  refine x_istore_n (lv' := [(2, .int 0), (1, .int 0), (0, .ref (E.2.2 x0))]) C (dq DX8_lostAll 3 rfl) rfl (by decide) rfl ?_
  refine x_lv [2, 1, 0] rfl ?_
  refine x_loop (s0 := (0, 0)) (fun s3 => WM G l E S 4 [(0, .ref (E.2.2 x0)), (1, .int s3.1), (2, .int s3.2)] [] mm) h (fun s3 r hb kb kx => tX8_lostAll_4 C g0 hb kb (fun y4 hy => ?_))
  have h := kx y4 hy
  clear kx kb hb hy
  refine x_pc 32 rfl ?_
  refine x_iload_n C (dq DX8_lostAll 21 rfl) rfl 1 rfl ?_
  cases h
  exact x_iret C (dq DX8_lostAll 22 rfl) hQ
set_option maxHeartbeats 1000000 in
theorem qX8_lostAll {S : List Sh} {mm : Mm} {x0 : Nat} {r : Int32} (h : fX8_lostAll S mm x0 = some r) : isC S x0 8 := by
  unfold fX8_lostAll at h
  exact (gd_some h).1
theorem getX8_63 {G : Gt} {l : Launch} {E : Ev} {S : List Sh} {cc : ByteArray} {nL : Nat} {rt : Option FieldType} {fr lo : Nat} {pc : Nat} {lv : List (Nat × Value)} {st : List Value} {mm : Mm} {o : Nat} (C : Cx G E cc nL RX8 rt fr lo) (d : decode cc pc = .ok (.getfield 63, 3)) (hg : isC S o 8) (k : WM G l E S (pc + 3) lv (.ref (E.2.2 (rf S mm o 28)) :: st) mm) : WM G l E S pc lv (.ref (E.2.2 o) :: st) mm := x_get2 C hg (T := TX8) (N := 49) rfl inX8 (by decide) (i := 28) (gmem 893 (by decide +kernel) rfl) rfl rfl d k
theorem callX8_396 {G : Gt} {l : Launch} {E : Ev} {S : List Sh} {cc : ByteArray} {nL : Nat} {rt : Option FieldType} {fr lo : Nat} {pc : Nat} {lv : List (Nat × Value)} {rest : List Value} {mm : Mm} {α : Type} {f : Int32 → Option α} {r : α} {o : Nat} (C : Cx G E cc nL RX8 rt fr lo) (d : decode cc pc = .ok (.invokevirtual 396, 3)) (h : bd1 (fX8_lostAll S mm o) f = some r) (hfr : 2 ≤ fr) (hlo : 42 ≤ lo) (hrs : (rest.map fun v => v.category).sum ≤ 8) (k : ∀ v, f v = some r → WM G l E S (pc + 3) lv (.int v :: rest) mm) : WM G l E S pc lv (.ref (E.2.2 o) :: rest) mm := by
  obtain ⟨v, hv, hf⟩ := bd1_some h
  exact x_callV (n := 0) (As := []) (rest := rest) C (mX8_lostAll hv) (qX8_lostAll hv) (T := TX8) (N := 49) rfl (gmem 1438 (by decide +kernel) rfl) (gmem 1440 (by decide +kernel) rfl) (gmemS 97 (by decide +kernel) rfl) (gmem 9 (by decide +kernel) rfl) (gmem 1441 (by decide +kernel) rfl) (by decide +kernel) rfl hfr hlo hrs d rfl rfl (k v hf)
theorem callX8_399 {G : Gt} {l : Launch} {E : Ev} {S : List Sh} {cc : ByteArray} {nL : Nat} {rt : Option FieldType} {fr lo : Nat} {pc : Nat} {lv : List (Nat × Value)} {rest : List Value} {mm : Mm} {α : Type} {f : Int32 → Mm → Option α} {r : α} {o : Nat} {a0 : Int32} (C : Cx G E cc nL RX8 rt fr lo) (d : decode cc pc = .ok (.invokevirtual 399, 3)) (h : bd2 (fX8_draw S mm o a0) f = some r) (hfr : 1 ≤ fr) (hlo : 21 ≤ lo) (hrs : (rest.map fun v => v.category).sum ≤ 8) (k : ∀ v m1, f v m1 = some r → WM G l E S (pc + 3) lv (.int v :: rest) m1) : WM G l E S pc lv (.int a0 :: .ref (E.2.2 o) :: rest) mm := by
  obtain ⟨v, m1, hv, hf⟩ := bd2_some h
  exact x_callV (n := 1) (As := [.int a0]) (rest := rest) C (mX8_draw hv) (qX8_draw hv) (T := TX8) (N := 49) rfl (gmem 1442 (by decide +kernel) rfl) (gmem 1444 (by decide +kernel) rfl) (gmemS 98 (by decide +kernel) rfl) (gmem 9 (by decide +kernel) rfl) (gmem 1445 (by decide +kernel) rfl) (by decide +kernel) rfl hfr hlo hrs d rfl rfl (k v m1 hf)
abbrev eX8_chance : List (Nat × Instr × Nat) := [(0, .aload_n 0, 1), (1, .iconst 0, 1), (2, .putfield 115, 3), (5, .iload_n 1, 1), (6, .iconst (-1), 1), (7, .if_icmp .lt 36, 3), (10, .iload_n 2, 1), (11, .iconst 1, 1), (12, .if_icmp .lt 31, 3), (15, .iload_n 2, 1), (16, .sipush 200, 3), (19, .if_icmp .gt 24, 3), (22, .iload_n 3, 1), (23, .ifCond .lt 20, 3), (26, .iload_n 3, 1), (27, .bipush 100, 2), (29, .if_icmp .gt 14, 3), (32, .iload 4, 2), (34, .ifCond .lt 9, 3), (37, .iload 4, 2), (39, .iconst 3, 1), (40, .if_icmp .le 5, 3), (43, .iconst (-1), 1), (44, .ireturn, 1), (45, .aload_n 0, 1), (46, .iload_n 1, 1), (47, .iconst (-1), 1), (48, .if_icmp .ne 13, 3), (51, .aload_n 0, 1), (52, .getfield 13, 3), (55, .bipush 8, 2), (57, .iaload, 1), (58, .goto 4, 3), (61, .iload_n 1, 1), (62, .putfield 391, 3), (65, .aload_n 0, 1), (66, .getfield 57, 3), (69, .iconst 0, 1), (70, .aload_n 0, 1), (71, .getfield 63, 3), (74, .iconst 0, 1), (75, .invokestatic 254, 3), (78, .iload 4, 2), (80, .iconst 1, 1), (81, .if_icmp .ne 10, 3), (84, .aload_n 0, 1), (85, .invokevirtual 396, 3), (88, .goto 19, 3), (91, .aload_n 0, 1), (92, .iload 4, 2), (94, .iconst 3, 1), (95, .if_icmp .ne 8, 3), (98, .bipush 6, 2), (100, .goto 4, 3), (103, .iconst 5, 1), (104, .invokevirtual 388, 3), (107, .istore 5, 2), (109, .iconst 0, 1), (110, .istore 6, 2), (112, .iconst 0, 1), (113, .istore 7, 2), (115, .iload 7, 2), (117, .iload_n 2, 1), (118, .if_icmp .ge 85, 3), (121, .aload_n 0, 1), (122, .invokevirtual 251, 3), (125, .ifCond .le 51, 3), (128, .aload_n 0, 1), (129, .aload_n 0, 1), (130, .invokevirtual 251, 3), (133, .invokevirtual 399, 3), (136, .istore 8, 2), (138, .aload_n 0, 1), (139, .bipush 100, 2), (141, .invokevirtual 399, 3), (144, .iload_n 3, 1), (145, .if_icmp .ge 31, 3), (148, .aload_n 0, 1), (149, .getfield 57, 3), (152, .iload 8, 2), (154, .invokestatic 258, 3), (157, .bipush 7, 2), (159, .iadd, 1), (160, .iconst 1, 1), (161, .aload_n 0, 1), (162, .getfield 57, 3), (165, .iload 8, 2), (167, .invokestatic 258, 3), (170, .bipush 7, 2), (172, .iadd, 1), (173, .iaload, 1), (174, .isub, 1), (175, .iastore, 1), (176, .aload_n 0, 1), (177, .invokevirtual 313, 3), (180, .iload 6, 2), (182, .aload_n 0, 1), (183, .invokevirtual 381, 3), (186, .ifCond .eq 7, 3), (189, .iconst 1, 1), (190, .goto 4, 3), (193, .iconst 0, 1), (194, .iadd, 1), (195, .istore 6, 2), (197, .iinc 7 1, 3), (200, .goto (-85), 3), (203, .iload 4, 2), (205, .iconst 2, 1), (206, .if_icmp .ne 8, 3), (209, .iload 6, 2), (211, .goto 35, 3), (214, .iload 4, 2), (216, .iconst 1, 1), (217, .if_icmp .ne 10, 3), (220, .aload_n 0, 1), (221, .invokevirtual 396, 3), (224, .goto 19, 3), (227, .aload_n 0, 1), (228, .iload 4, 2), (230, .iconst 3, 1), (231, .if_icmp .ne 8, 3), (234, .bipush 6, 2), (236, .goto 4, 3), (239, .iconst 5, 1), (240, .invokevirtual 388, 3), (243, .iload 5, 2), (245, .isub, 1), (246, .istore 7, 2), (248, .aload_n 0, 1), (249, .getfield 63, 3), (252, .iconst 0, 1), (253, .aload_n 0, 1), (254, .getfield 57, 3), (257, .iconst 0, 1), (258, .invokestatic 254, 3), (261, .iload 7, 2), (263, .ireturn, 1)]
theorem DX8_chance : (eX8_chance.all fun q => decide (decode cX8_chance q.1 = .ok q.2)) = true := by decide +kernel
def jX8_chance_43 (S : List Sh) (mm : Mm) (x0 : Nat)  : Option (Int32 × Mm) := some ((-1), mm)
def jX8_chance_194 (S : List Sh) (mm : Mm) (x0 : Nat) (x2 : Int32) (x3 : Int32) (x4 : Int32) (x5 : Int32) (x7 : Int32) (p0 : Int32) (p1 : Int32) : Option ((Int32 × Int32 × Mm) ⊕ (Int32 × Mm)) := some (.inl ((p0 + p1), x7 + 1, mm))
def jX8_chance_176 (S : List Sh) (mm : Mm) (x0 : Nat) (x2 : Int32) (x3 : Int32) (x4 : Int32) (x5 : Int32) (x6 : Int32) (x7 : Int32)  : Option ((Int32 × Int32 × Mm) ⊕ (Int32 × Mm)) := bd1 (fX8_tickGoes S mm x0) fun m7 => bd2 (fX8_isStalled S m7 x0) fun a8 m9 => if a8 = 0 then (jX8_chance_194 S m9 x0 x2 x3 x4 x5 x7 x6 0) else (jX8_chance_194 S m9 x0 x2 x3 x4 x5 x7 x6 1)
def bX8_chance_115 (S : List Sh) (x0 : Nat) (x2 : Int32) (x3 : Int32) (x4 : Int32) (x5 : Int32) (x6 : Int32) (x7 : Int32) (mm : Mm) : Option ((Int32 × Int32 × Mm) ⊕ (Int32 × Mm)) := if x2 ≤ x7 then (some (.inr (x6, mm))) else (bd1 (fX8_flows S mm x0) fun a6 => if a6 ≤ 0 then (jX8_chance_176 S mm x0 x2 x3 x4 x5 x6 x7) else (bd1 (fX8_flows S mm x0) fun a10 => bd2 (fX8_draw S mm x0 a10) fun a11 m12 => bd2 (fX8_draw S m12 x0 100) fun a13 m14 => if x3 ≤ a13 then (jX8_chance_176 S m14 x0 x2 x3 x4 x5 x6 x7) else (bd1 (fX8_flowAt S m14 a11) fun a15 => bd1 (fX8_flowAt S m14 a11) fun a16 => bd1 (ldA S 0 m14 (rf S m14 x0 26) (a16 + 7)) fun a17 => bd1 (stA S 0 m14 (rf S m14 x0 26) (a15 + 7) (1 - a17)) fun m18 => jX8_chance_176 S m18 x0 x2 x3 x4 x5 x6 x7)))
def jX8_chance_246 (S : List Sh) (mm : Mm) (x0 : Nat) (p0 : Int32) : Option (Int32 × Mm) := bd1 (fX8_copies S mm (rf S mm x0 28) 0 (rf S mm x0 26) 0) fun m22 => some (p0, m22)
def jX8_chance_243 (S : List Sh) (mm : Mm) (x0 : Nat) (x5 : Int32) (p0 : Int32) : Option (Int32 × Mm) := jX8_chance_246 S mm x0 (p0 - x5)
def jX8_chance_240 (S : List Sh) (mm : Mm) (x0 : Nat) (x5 : Int32) (p0 : Nat) (p1 : Int32) : Option (Int32 × Mm) := bd1 (fX8_sumOf S mm p0 p1) fun a21 => jX8_chance_243 S mm x0 x5 a21
def jX8_chance_107 (S : List Sh) (mm : Mm) (x0 : Nat) (x2 : Int32) (x3 : Int32) (x4 : Int32) (p0 : Int32) : Option (Int32 × Mm) := bd1 (lp (fun s19 => bX8_chance_115 S x0 x2 x3 x4 p0 s19.1 s19.2.1 s19.2.2) fu (0, 0, mm)) fun y20 => if ¬ x4 = 2 then (if ¬ x4 = 1 then (if ¬ x4 = 3 then (jX8_chance_240 S y20.2 x0 p0 x0 5) else (jX8_chance_240 S y20.2 x0 p0 x0 6)) else (bd1 (fX8_lostAll S y20.2 x0) fun a23 => jX8_chance_243 S y20.2 x0 p0 a23)) else (jX8_chance_246 S y20.2 x0 y20.1)
def jX8_chance_104 (S : List Sh) (mm : Mm) (x0 : Nat) (x2 : Int32) (x3 : Int32) (x4 : Int32) (p0 : Nat) (p1 : Int32) : Option (Int32 × Mm) := bd1 (fX8_sumOf S mm p0 p1) fun a5 => jX8_chance_107 S mm x0 x2 x3 x4 a5
def jX8_chance_62 (S : List Sh) (mm : Mm) (x0 : Nat) (x2 : Int32) (x3 : Int32) (x4 : Int32) (p0 : Nat) (p1 : Int32) : Option (Int32 × Mm) := gd S p0 8 (bd1 (some (u1 mm p0 48 p1)) fun m3 => bd1 (fX8_copies S m3 (rf S m3 x0 26) 0 (rf S m3 x0 28) 0) fun m4 => if ¬ x4 = 1 then (if ¬ x4 = 3 then (jX8_chance_104 S m4 x0 x2 x3 x4 x0 5) else (jX8_chance_104 S m4 x0 x2 x3 x4 x0 6)) else (bd1 (fX8_lostAll S m4 x0) fun a24 => jX8_chance_107 S m4 x0 x2 x3 x4 a24))
def fX8_chance (S : List Sh) (mm : Mm) (x0 : Nat) (x1 : Int32) (x2 : Int32) (x3 : Int32) (x4 : Int32) : Option (Int32 × Mm) := gd S x0 8 (bd1 (some (u1 mm x0 0 0)) fun m1 => if x1 < (-1) then (jX8_chance_43 S m1 x0) else (if x2 < 1 then (jX8_chance_43 S m1 x0) else (if 200 < x2 then (jX8_chance_43 S m1 x0) else (if x3 < 0 then (jX8_chance_43 S m1 x0) else (if 100 < x3 then (jX8_chance_43 S m1 x0) else (if x4 < 0 then (jX8_chance_43 S m1 x0) else (if x4 ≤ 3 then (if ¬ x1 = (-1) then (jX8_chance_62 S m1 x0 x2 x3 x4 x0 x1) else (bd1 (ldA S 0 m1 (rf S m1 x0 3) 8) fun a25 => jX8_chance_62 S m1 x0 x2 x3 x4 x0 a25)) else (jX8_chance_43 S m1 x0))))))))
set_option maxHeartbeats 1000000 in
theorem tX8_chance_43 {G : Gt} {l : Launch} {E : Ev} {S : List Sh} {mm : Mm} {x0 : Nat}  {r : Int32 × Mm} (C : Cx G E cX8_chance 9 RX8 (some .int) 5 113) (g0 : isC S x0 8) (h : jX8_chance_43 S mm x0 = some r) (hQ : RQ G E S (some (.int r.1)) r.2) : WM G l E S 43 [(0, .ref (E.2.2 x0))] [] mm := by
  unfold jX8_chance_43 at h
  refine x_iconst (v := (-1)) C (dq DX8_chance 22 rfl) (by decide) ?_
  cases h
  exact x_iret C (dq DX8_chance 23 rfl) hQ
set_option maxHeartbeats 1000000 in
theorem tX8_chance_194 {G : Gt} {l : Launch} {E : Ev} {S : List Sh} {mm : Mm} {x0 : Nat} {x2 : Int32} {x3 : Int32} {x4 : Int32} {x5 : Int32} {x7 : Int32} {p0 : Int32} {p1 : Int32} {r : (Int32 × Int32 × Mm) ⊕ (Int32 × Mm)} (C : Cx G E cX8_chance 9 RX8 (some .int) 5 113) (g0 : isC S x0 8) (h : jX8_chance_194 S mm x0 x2 x3 x4 x5 x7 p0 p1 = some r) (kb : ∀ z : Int32 × Int32 × Mm, r = .inl z → WM G l E S 115 [(0, .ref (E.2.2 x0)), (2, .int x2), (3, .int x3), (4, .int x4), (5, .int x5), (6, .int z.1), (7, .int z.2.1)] [] z.2.2) (kx : ∀ z : Int32 × Mm, r = .inr z → WM G l E S 203 [(0, .ref (E.2.2 x0)), (2, .int x2), (3, .int x3), (4, .int x4), (5, .int x5), (6, .int z.1)] [] z.2) : WM G l E S 194 [(0, .ref (E.2.2 x0)), (2, .int x2), (3, .int x3), (4, .int x4), (5, .int x5), (7, .int x7)] [.int p1, .int p0] mm := by
  unfold jX8_chance_194 at h
  refine x_iadd C (dq DX8_chance 102 rfl) ?_
  refine x_istore (lv' := [(6, .int (p0 + p1)), (0, .ref (E.2.2 x0)), (2, .int x2), (3, .int x3), (4, .int x4), (5, .int x5), (7, .int x7)]) C (dq DX8_chance 103 rfl) (by decide) rfl ?_
  refine x_iinc (v := x7 + 1) (lv' := [(7, .int (x7 + 1)), (6, .int (p0 + p1)), (0, .ref (E.2.2 x0)), (2, .int x2), (3, .int x3), (4, .int x4), (5, .int x5)]) C (dq DX8_chance 104 rfl) 6 rfl rfl (by decide) rfl ?_
  refine x_goto (tgt := 115) C (dq DX8_chance 105 rfl) (by decide) ?_
  cases h
  exact x_lv [2, 3, 4, 5, 6, 1, 0] rfl (kb ((p0 + p1), x7 + 1, mm) rfl)
set_option maxHeartbeats 1000000 in
theorem tX8_chance_176 {G : Gt} {l : Launch} {E : Ev} {S : List Sh} {mm : Mm} {x0 : Nat} {x2 : Int32} {x3 : Int32} {x4 : Int32} {x5 : Int32} {x6 : Int32} {x7 : Int32}  {r : (Int32 × Int32 × Mm) ⊕ (Int32 × Mm)} (C : Cx G E cX8_chance 9 RX8 (some .int) 5 113) (g0 : isC S x0 8) (h : jX8_chance_176 S mm x0 x2 x3 x4 x5 x6 x7 = some r) (kb : ∀ z : Int32 × Int32 × Mm, r = .inl z → WM G l E S 115 [(0, .ref (E.2.2 x0)), (2, .int x2), (3, .int x3), (4, .int x4), (5, .int x5), (6, .int z.1), (7, .int z.2.1)] [] z.2.2) (kx : ∀ z : Int32 × Mm, r = .inr z → WM G l E S 203 [(0, .ref (E.2.2 x0)), (2, .int x2), (3, .int x3), (4, .int x4), (5, .int x5), (6, .int z.1)] [] z.2) : WM G l E S 176 [(0, .ref (E.2.2 x0)), (2, .int x2), (3, .int x3), (4, .int x4), (5, .int x5), (6, .int x6), (7, .int x7)] [] mm := by
  unfold jX8_chance_176 at h
  refine x_aload_n C (dq DX8_chance 93 rfl) rfl 0 rfl ?_
  refine callX8_313 C (dq DX8_chance 94 rfl) h (by decide) (by decide) (Nat.le_of_ble_eq_true rfl) (fun m7 h => ?_)
  refine x_iload C (dq DX8_chance 95 rfl) 5 rfl ?_
  refine x_aload_n C (dq DX8_chance 96 rfl) rfl 0 rfl ?_
  refine x_pc 183 rfl ?_
  refine callX8_381 C (dq DX8_chance 97 rfl) h (by decide) (by decide) (Nat.le_of_ble_eq_true rfl) (fun a8 m9 h => ?_)
  refine x_if_eq (tgt := 193) C (dq DX8_chance 98 rfl) (by decide) h (fun h => ?_) (fun h => ?_)
  · refine x_iconst (v := 0) C (dq DX8_chance 101 rfl) (by decide) ?_
    exact x_lv [0, 1, 2, 3, 4, 6] rfl (tX8_chance_194 C g0 h kb kx)
  · refine x_iconst (v := 1) C (dq DX8_chance 99 rfl) (by decide) ?_
    refine x_goto (tgt := 194) C (dq DX8_chance 100 rfl) (by decide) ?_
    exact x_lv [0, 1, 2, 3, 4, 6] rfl (tX8_chance_194 C g0 h kb kx)
set_option maxHeartbeats 1000000 in
theorem tX8_chance_115 {G : Gt} {l : Launch} {E : Ev} {S : List Sh} {x0 : Nat} {x2 : Int32} {x3 : Int32} {x4 : Int32} {x5 : Int32} {x6 : Int32} {x7 : Int32} {mm : Mm} {r : (Int32 × Int32 × Mm) ⊕ (Int32 × Mm)} (C : Cx G E cX8_chance 9 RX8 (some .int) 5 113) (g0 : isC S x0 8) (h : bX8_chance_115 S x0 x2 x3 x4 x5 x6 x7 mm = some r) (kb : ∀ z : Int32 × Int32 × Mm, r = .inl z → WM G l E S 115 [(0, .ref (E.2.2 x0)), (2, .int x2), (3, .int x3), (4, .int x4), (5, .int x5), (6, .int z.1), (7, .int z.2.1)] [] z.2.2) (kx : ∀ z : Int32 × Mm, r = .inr z → WM G l E S 203 [(0, .ref (E.2.2 x0)), (2, .int x2), (3, .int x3), (4, .int x4), (5, .int x5), (6, .int z.1)] [] z.2) : WM G l E S 115 [(0, .ref (E.2.2 x0)), (2, .int x2), (3, .int x3), (4, .int x4), (5, .int x5), (6, .int x6), (7, .int x7)] [] mm := by
  unfold bX8_chance_115 at h
  refine x_iload C (dq DX8_chance 61 rfl) 6 rfl ?_
  refine x_iload_n C (dq DX8_chance 62 rfl) rfl 1 rfl ?_
  refine x_icmp_ge (tgt := 203) C (dq DX8_chance 63 rfl) (by decide) h (fun h => ?_) (fun h => ?_)
  · cases h
    exact x_lv [0, 1, 2, 3, 4, 5] rfl (kx (x6, mm) rfl)
  · refine x_aload_n C (dq DX8_chance 64 rfl) rfl 0 rfl ?_
    refine x_pc 122 rfl ?_
    refine callX8_251 C (dq DX8_chance 65 rfl) h (by decide) (by decide) (Nat.le_of_ble_eq_true rfl) (fun a6 h => ?_)
    refine x_if_le (tgt := 176) C (dq DX8_chance 66 rfl) (by decide) h (fun h => ?_) (fun h => ?_)
    · exact x_lv [0, 1, 2, 3, 4, 5, 6] rfl (tX8_chance_176 C g0 h kb kx)
    · refine x_aload_n C (dq DX8_chance 67 rfl) rfl 0 rfl ?_
      refine x_aload_n C (dq DX8_chance 68 rfl) rfl 0 rfl ?_
      refine callX8_251 C (dq DX8_chance 69 rfl) h (by decide) (by decide) (Nat.le_of_ble_eq_true rfl) (fun a10 h => ?_)
      refine x_pc 133 rfl ?_
      refine callX8_399 C (dq DX8_chance 70 rfl) h (by decide) (by decide) (Nat.le_of_ble_eq_true rfl) (fun a11 m12 h => ?_)
      refine x_istore (lv' := [(8, .int a11), (0, .ref (E.2.2 x0)), (2, .int x2), (3, .int x3), (4, .int x4), (5, .int x5), (6, .int x6), (7, .int x7)]) C (dq DX8_chance 71 rfl) (by decide) rfl ?_
      refine x_aload_n C (dq DX8_chance 72 rfl) rfl 1 rfl ?_
      refine x_bipush (v := 100) C (dq DX8_chance 73 rfl) (by decide) ?_
      refine callX8_399 C (dq DX8_chance 74 rfl) h (by decide) (by decide) (Nat.le_of_ble_eq_true rfl) (fun a13 m14 h => ?_)
      refine x_pc 144 rfl ?_
      refine x_iload_n C (dq DX8_chance 75 rfl) rfl 3 rfl ?_
      refine x_icmp_ge (tgt := 176) C (dq DX8_chance 76 rfl) (by decide) h (fun h => ?_) (fun h => ?_)
      · exact x_lv [1, 2, 3, 4, 5, 6, 7] rfl (tX8_chance_176 C g0 h kb kx)
      · refine x_aload_n C (dq DX8_chance 77 rfl) rfl 1 rfl ?_
        refine getX8_57 C (dq DX8_chance 78 rfl) g0 ?_
        refine x_iload C (dq DX8_chance 79 rfl) 0 rfl ?_
        refine x_pc 154 rfl ?_
        refine callX8_258 C (dq DX8_chance 80 rfl) h (by decide) (by decide) (Nat.le_of_ble_eq_true rfl) (fun a15 h => ?_)
        refine x_bipush (v := 7) C (dq DX8_chance 81 rfl) (by decide) ?_
        refine x_iadd C (dq DX8_chance 82 rfl) ?_
        refine x_iconst (v := 1) C (dq DX8_chance 83 rfl) (by decide) ?_
        refine x_aload_n C (dq DX8_chance 84 rfl) rfl 1 rfl ?_
        refine x_pc 162 rfl ?_
        refine getX8_57 C (dq DX8_chance 85 rfl) g0 ?_
        refine x_iload C (dq DX8_chance 86 rfl) 0 rfl ?_
        refine callX8_258 C (dq DX8_chance 87 rfl) h (by decide) (by decide) (Nat.le_of_ble_eq_true rfl) (fun a16 h => ?_)
        refine x_bipush (v := 7) C (dq DX8_chance 88 rfl) (by decide) ?_
        refine x_iadd C (dq DX8_chance 89 rfl) ?_
        refine x_pc 173 rfl ?_
        refine x_iald C (dq DX8_chance 90 rfl) h (fun a17 h => ?_)
        refine x_isub C (dq DX8_chance 91 rfl) ?_
        refine x_iast C (dq DX8_chance 92 rfl) h (fun m18 h => ?_)
        exact x_lv [1, 2, 3, 4, 5, 6, 7] rfl (tX8_chance_176 C g0 h kb kx)
set_option maxHeartbeats 1000000 in
theorem tX8_chance_246 {G : Gt} {l : Launch} {E : Ev} {S : List Sh} {mm : Mm} {x0 : Nat} {p0 : Int32} {r : Int32 × Mm} (C : Cx G E cX8_chance 9 RX8 (some .int) 5 113) (g0 : isC S x0 8) (h : jX8_chance_246 S mm x0 p0 = some r) (hQ : RQ G E S (some (.int r.1)) r.2) : WM G l E S 246 [(0, .ref (E.2.2 x0))] [.int p0] mm := by
  unfold jX8_chance_246 at h
  refine x_istore (lv' := [(7, .int p0), (0, .ref (E.2.2 x0))]) C (dq DX8_chance 127 rfl) (by decide) rfl ?_
  refine x_aload_n C (dq DX8_chance 128 rfl) rfl 1 rfl ?_
  refine getX8_63 C (dq DX8_chance 129 rfl) g0 ?_
  refine x_iconst (v := 0) C (dq DX8_chance 130 rfl) (by decide) ?_
  refine x_pc 253 rfl ?_
  refine x_aload_n C (dq DX8_chance 131 rfl) rfl 1 rfl ?_
  refine getX8_57 C (dq DX8_chance 132 rfl) g0 ?_
  refine x_iconst (v := 0) C (dq DX8_chance 133 rfl) (by decide) ?_
  refine callX8_254 C (dq DX8_chance 134 rfl) h (by decide) (by decide) (Nat.le_of_ble_eq_true rfl) (fun m22 h => ?_)
  refine x_iload C (dq DX8_chance 135 rfl) 0 rfl ?_
  refine x_pc 263 rfl ?_
  cases h
  exact x_iret C (dq DX8_chance 136 rfl) hQ
set_option maxHeartbeats 1000000 in
theorem tX8_chance_243 {G : Gt} {l : Launch} {E : Ev} {S : List Sh} {mm : Mm} {x0 : Nat} {x5 : Int32} {p0 : Int32} {r : Int32 × Mm} (C : Cx G E cX8_chance 9 RX8 (some .int) 5 113) (g0 : isC S x0 8) (h : jX8_chance_243 S mm x0 x5 p0 = some r) (hQ : RQ G E S (some (.int r.1)) r.2) : WM G l E S 243 [(0, .ref (E.2.2 x0)), (5, .int x5)] [.int p0] mm := by
  unfold jX8_chance_243 at h
  refine x_iload C (dq DX8_chance 125 rfl) 1 rfl ?_
  refine x_isub C (dq DX8_chance 126 rfl) ?_
  exact x_lv [0] rfl (tX8_chance_246 C g0 h hQ)
set_option maxHeartbeats 1000000 in
theorem tX8_chance_240 {G : Gt} {l : Launch} {E : Ev} {S : List Sh} {mm : Mm} {x0 : Nat} {x5 : Int32} {p0 : Nat} {p1 : Int32} {r : Int32 × Mm} (C : Cx G E cX8_chance 9 RX8 (some .int) 5 113) (g0 : isC S x0 8) (h : jX8_chance_240 S mm x0 x5 p0 p1 = some r) (hQ : RQ G E S (some (.int r.1)) r.2) : WM G l E S 240 [(0, .ref (E.2.2 x0)), (5, .int x5)] [.int p1, .ref (E.2.2 p0)] mm := by
  unfold jX8_chance_240 at h
  refine callX8_388 C (dq DX8_chance 124 rfl) h (by decide) (by decide) (Nat.le_of_ble_eq_true rfl) (fun a21 h => ?_)
  exact x_lv [0, 1] rfl (tX8_chance_243 C g0 h hQ)
set_option maxHeartbeats 1000000 in
theorem tX8_chance_107 {G : Gt} {l : Launch} {E : Ev} {S : List Sh} {mm : Mm} {x0 : Nat} {x2 : Int32} {x3 : Int32} {x4 : Int32} {p0 : Int32} {r : Int32 × Mm} (C : Cx G E cX8_chance 9 RX8 (some .int) 5 113) (g0 : isC S x0 8) (h : jX8_chance_107 S mm x0 x2 x3 x4 p0 = some r) (hQ : RQ G E S (some (.int r.1)) r.2) : WM G l E S 107 [(0, .ref (E.2.2 x0)), (2, .int x2), (3, .int x3), (4, .int x4)] [.int p0] mm := by
  unfold jX8_chance_107 at h
  refine x_istore (lv' := [(5, .int p0), (0, .ref (E.2.2 x0)), (2, .int x2), (3, .int x3), (4, .int x4)]) C (dq DX8_chance 56 rfl) (by decide) rfl ?_
  refine x_iconst (v := 0) C (dq DX8_chance 57 rfl) (by decide) ?_
  refine x_istore (lv' := [(6, .int 0), (5, .int p0), (0, .ref (E.2.2 x0)), (2, .int x2), (3, .int x3), (4, .int x4)]) C (dq DX8_chance 58 rfl) (by decide) rfl ?_
  refine x_iconst (v := 0) C (dq DX8_chance 59 rfl) (by decide) ?_
  refine x_pc 113 rfl ?_
  refine x_istore (lv' := [(7, .int 0), (6, .int 0), (5, .int p0), (0, .ref (E.2.2 x0)), (2, .int x2), (3, .int x3), (4, .int x4)]) C (dq DX8_chance 60 rfl) (by decide) rfl ?_
  refine x_lv [3, 4, 5, 6, 2, 1, 0] rfl ?_
  refine x_loop (s0 := (0, 0, mm)) (fun s19 => WM G l E S 115 [(0, .ref (E.2.2 x0)), (2, .int x2), (3, .int x3), (4, .int x4), (5, .int p0), (6, .int s19.1), (7, .int s19.2.1)] [] s19.2.2) h (fun s19 r hb kb kx => tX8_chance_115 C g0 hb kb (fun y20 hy => ?_))
  have h := kx y20 hy
  clear kx kb hb hy
  refine x_iload C (dq DX8_chance 106 rfl) 3 rfl ?_
  refine x_iconst (v := 2) C (dq DX8_chance 107 rfl) (by decide) ?_
  refine x_icmp_ne (tgt := 214) C (dq DX8_chance 108 rfl) (by decide) h (fun h => ?_) (fun h => ?_)
  · refine x_iload C (dq DX8_chance 111 rfl) 3 rfl ?_
    refine x_pc 216 rfl ?_
    refine x_iconst (v := 1) C (dq DX8_chance 112 rfl) (by decide) ?_
    refine x_icmp_ne (tgt := 227) C (dq DX8_chance 113 rfl) (by decide) h (fun h => ?_) (fun h => ?_)
    · refine x_aload_n C (dq DX8_chance 117 rfl) rfl 0 rfl ?_
      refine x_iload C (dq DX8_chance 118 rfl) 3 rfl ?_
      refine x_iconst (v := 3) C (dq DX8_chance 119 rfl) (by decide) ?_
      refine x_pc 231 rfl ?_
      refine x_icmp_ne (tgt := 239) C (dq DX8_chance 120 rfl) (by decide) h (fun h => ?_) (fun h => ?_)
      · refine x_iconst (v := 5) C (dq DX8_chance 123 rfl) (by decide) ?_
        exact x_lv [0, 4] rfl (tX8_chance_240 C g0 h hQ)
      · refine x_bipush (v := 6) C (dq DX8_chance 121 rfl) (by decide) ?_
        refine x_goto (tgt := 240) C (dq DX8_chance 122 rfl) (by decide) ?_
        exact x_lv [0, 4] rfl (tX8_chance_240 C g0 h hQ)
    · refine x_aload_n C (dq DX8_chance 114 rfl) rfl 0 rfl ?_
      refine callX8_396 C (dq DX8_chance 115 rfl) h (by decide) (by decide) (Nat.le_of_ble_eq_true rfl) (fun a23 h => ?_)
      refine x_goto (tgt := 243) C (dq DX8_chance 116 rfl) (by decide) ?_
      exact x_lv [0, 4] rfl (tX8_chance_243 C g0 h hQ)
  · refine x_iload C (dq DX8_chance 109 rfl) 5 rfl ?_
    refine x_pc 211 rfl ?_
    refine x_goto (tgt := 246) C (dq DX8_chance 110 rfl) (by decide) ?_
    exact x_lv [0] rfl (tX8_chance_246 C g0 h hQ)
set_option maxHeartbeats 1000000 in
theorem tX8_chance_104 {G : Gt} {l : Launch} {E : Ev} {S : List Sh} {mm : Mm} {x0 : Nat} {x2 : Int32} {x3 : Int32} {x4 : Int32} {p0 : Nat} {p1 : Int32} {r : Int32 × Mm} (C : Cx G E cX8_chance 9 RX8 (some .int) 5 113) (g0 : isC S x0 8) (h : jX8_chance_104 S mm x0 x2 x3 x4 p0 p1 = some r) (hQ : RQ G E S (some (.int r.1)) r.2) : WM G l E S 104 [(0, .ref (E.2.2 x0)), (2, .int x2), (3, .int x3), (4, .int x4)] [.int p1, .ref (E.2.2 p0)] mm := by
  unfold jX8_chance_104 at h
  refine callX8_388 C (dq DX8_chance 55 rfl) h (by decide) (by decide) (Nat.le_of_ble_eq_true rfl) (fun a5 h => ?_)
  exact x_lv [0, 1, 2, 3] rfl (tX8_chance_107 C g0 h hQ)
set_option maxHeartbeats 1000000 in
theorem tX8_chance_62 {G : Gt} {l : Launch} {E : Ev} {S : List Sh} {mm : Mm} {x0 : Nat} {x2 : Int32} {x3 : Int32} {x4 : Int32} {p0 : Nat} {p1 : Int32} {r : Int32 × Mm} (C : Cx G E cX8_chance 9 RX8 (some .int) 5 113) (g0 : isC S x0 8) (h : jX8_chance_62 S mm x0 x2 x3 x4 p0 p1 = some r) (hQ : RQ G E S (some (.int r.1)) r.2) : WM G l E S 62 [(0, .ref (E.2.2 x0)), (2, .int x2), (3, .int x3), (4, .int x4)] [.int p1, .ref (E.2.2 p0)] mm := by
  unfold jX8_chance_62 at h
  obtain ⟨g2, h⟩ := gd_some h
  refine putX8_391 C (dq DX8_chance 34 rfl) g2 h (fun m3 h => ?_)
  refine x_aload_n C (dq DX8_chance 35 rfl) rfl 0 rfl ?_
  refine getX8_57 C (dq DX8_chance 36 rfl) g0 ?_
  refine x_iconst (v := 0) C (dq DX8_chance 37 rfl) (by decide) ?_
  refine x_pc 70 rfl ?_
  refine x_aload_n C (dq DX8_chance 38 rfl) rfl 0 rfl ?_
  refine getX8_63 C (dq DX8_chance 39 rfl) g0 ?_
  refine x_iconst (v := 0) C (dq DX8_chance 40 rfl) (by decide) ?_
  refine callX8_254 C (dq DX8_chance 41 rfl) h (by decide) (by decide) (Nat.le_of_ble_eq_true rfl) (fun m4 h => ?_)
  refine x_iload C (dq DX8_chance 42 rfl) 3 rfl ?_
  refine x_pc 80 rfl ?_
  refine x_iconst (v := 1) C (dq DX8_chance 43 rfl) (by decide) ?_
  refine x_icmp_ne (tgt := 91) C (dq DX8_chance 44 rfl) (by decide) h (fun h => ?_) (fun h => ?_)
  · refine x_aload_n C (dq DX8_chance 48 rfl) rfl 0 rfl ?_
    refine x_iload C (dq DX8_chance 49 rfl) 3 rfl ?_
    refine x_iconst (v := 3) C (dq DX8_chance 50 rfl) (by decide) ?_
    refine x_pc 95 rfl ?_
    refine x_icmp_ne (tgt := 103) C (dq DX8_chance 51 rfl) (by decide) h (fun h => ?_) (fun h => ?_)
    · refine x_iconst (v := 5) C (dq DX8_chance 54 rfl) (by decide) ?_
      exact x_lv [0, 1, 2, 3] rfl (tX8_chance_104 C g0 h hQ)
    · refine x_bipush (v := 6) C (dq DX8_chance 52 rfl) (by decide) ?_
      refine x_goto (tgt := 104) C (dq DX8_chance 53 rfl) (by decide) ?_
      exact x_lv [0, 1, 2, 3] rfl (tX8_chance_104 C g0 h hQ)
  · refine x_aload_n C (dq DX8_chance 45 rfl) rfl 0 rfl ?_
    refine callX8_396 C (dq DX8_chance 46 rfl) h (by decide) (by decide) (Nat.le_of_ble_eq_true rfl) (fun a24 h => ?_)
    refine x_goto (tgt := 107) C (dq DX8_chance 47 rfl) (by decide) ?_
    exact x_lv [0, 1, 2, 3] rfl (tX8_chance_107 C g0 h hQ)
set_option maxHeartbeats 1000000 in
theorem mX8_chance {l : Launch} {E : Ev} {S : List Sh} {mm : Mm} {x0 : Nat} {x1 : Int32} {x2 : Int32} {x3 : Int32} {x4 : Int32} {r : Int32 × Mm} (h : fX8_chance S mm x0 x1 x2 x3 x4 = some r) : Ml l E S yX8_chance cX8_chance 9 (some .int) 5 113 [.ref (E.2.2 x0), .int x1, .int x2, .int x3, .int x4] mm (some (.int r.1)) r.2 := by
  refine Ml.of (by decide +kernel) (Nat.le_of_ble_eq_true rfl) (fun G C hQ => ?_)
  have C : Cx G E cX8_chance 9 RX8 (some .int) 5 113 := C
  unfold fX8_chance at h
  obtain ⟨g0, h⟩ := gd_some h
  show WM G l E S 0 [(0, .ref (E.2.2 x0)), (1, .int x1), (2, .int x2), (3, .int x3), (4, .int x4)] [] mm
  refine x_aload_n C (dq DX8_chance 0 rfl) rfl 0 rfl ?_
  refine x_iconst (v := 0) C (dq DX8_chance 1 rfl) (by decide) ?_
  refine putX8_115 C (dq DX8_chance 2 rfl) g0 h (fun m1 h => ?_)
  refine x_iload_n C (dq DX8_chance 3 rfl) rfl 1 rfl ?_
  refine x_pc 6 rfl ?_
  refine x_iconst (v := (-1)) C (dq DX8_chance 4 rfl) (by decide) ?_
  refine x_icmp_lt (tgt := 43) C (dq DX8_chance 5 rfl) (by decide) h (fun h => ?_) (fun h => ?_)
  · exact x_lv [0] rfl (tX8_chance_43 C g0 h hQ)
  · refine x_iload_n C (dq DX8_chance 6 rfl) rfl 2 rfl ?_
    refine x_iconst (v := 1) C (dq DX8_chance 7 rfl) (by decide) ?_
    refine x_icmp_lt (tgt := 43) C (dq DX8_chance 8 rfl) (by decide) h (fun h => ?_) (fun h => ?_)
    · exact x_lv [0] rfl (tX8_chance_43 C g0 h hQ)
    · refine x_pc 15 rfl ?_
      refine x_iload_n C (dq DX8_chance 9 rfl) rfl 2 rfl ?_
      refine x_sipush (v := 200) C (dq DX8_chance 10 rfl) (by decide) ?_
      refine x_icmp_gt (tgt := 43) C (dq DX8_chance 11 rfl) (by decide) h (fun h => ?_) (fun h => ?_)
      · exact x_lv [0] rfl (tX8_chance_43 C g0 h hQ)
      · refine x_iload_n C (dq DX8_chance 12 rfl) rfl 3 rfl ?_
        refine x_if_lt (tgt := 43) C (dq DX8_chance 13 rfl) (by decide) h (fun h => ?_) (fun h => ?_)
        · exact x_lv [0] rfl (tX8_chance_43 C g0 h hQ)
        · refine x_pc 26 rfl ?_
          refine x_iload_n C (dq DX8_chance 14 rfl) rfl 3 rfl ?_
          refine x_bipush (v := 100) C (dq DX8_chance 15 rfl) (by decide) ?_
          refine x_icmp_gt (tgt := 43) C (dq DX8_chance 16 rfl) (by decide) h (fun h => ?_) (fun h => ?_)
          · exact x_lv [0] rfl (tX8_chance_43 C g0 h hQ)
          · refine x_iload C (dq DX8_chance 17 rfl) 4 rfl ?_
            refine x_if_lt (tgt := 43) C (dq DX8_chance 18 rfl) (by decide) h (fun h => ?_) (fun h => ?_)
            · exact x_lv [0] rfl (tX8_chance_43 C g0 h hQ)
            · refine x_pc 37 rfl ?_
              refine x_iload C (dq DX8_chance 19 rfl) 4 rfl ?_
              refine x_iconst (v := 3) C (dq DX8_chance 20 rfl) (by decide) ?_
              refine x_icmp_le (tgt := 45) C (dq DX8_chance 21 rfl) (by decide) h (fun h => ?_) (fun h => ?_)
              · refine x_aload_n C (dq DX8_chance 24 rfl) rfl 0 rfl ?_
                refine x_iload_n C (dq DX8_chance 25 rfl) rfl 1 rfl ?_
                refine x_pc 47 rfl ?_
                refine x_iconst (v := (-1)) C (dq DX8_chance 26 rfl) (by decide) ?_
                refine x_icmp_ne (tgt := 61) C (dq DX8_chance 27 rfl) (by decide) h (fun h => ?_) (fun h => ?_)
                · refine x_iload_n C (dq DX8_chance 33 rfl) rfl 1 rfl ?_
                  exact x_lv [0, 2, 3, 4] rfl (tX8_chance_62 C g0 h hQ)
                · refine x_aload_n C (dq DX8_chance 28 rfl) rfl 0 rfl ?_
                  refine getX8_13 C (dq DX8_chance 29 rfl) g0 ?_
                  refine x_bipush (v := 8) C (dq DX8_chance 30 rfl) (by decide) ?_
                  refine x_pc 57 rfl ?_
                  refine x_iald C (dq DX8_chance 31 rfl) h (fun a25 h => ?_)
                  refine x_goto (tgt := 62) C (dq DX8_chance 32 rfl) (by decide) ?_
                  exact x_lv [0, 2, 3, 4] rfl (tX8_chance_62 C g0 h hQ)
              · exact x_lv [0] rfl (tX8_chance_43 C g0 h hQ)
set_option maxHeartbeats 1000000 in
theorem qX8_chance {S : List Sh} {mm : Mm} {x0 : Nat} {x1 : Int32} {x2 : Int32} {x3 : Int32} {x4 : Int32} {r : Int32 × Mm} (h : fX8_chance S mm x0 x1 x2 x3 x4 = some r) : isC S x0 8 := by
  unfold fX8_chance at h
  exact (gd_some h).1
abbrev eX8_askedMany : List (Nat × Instr × Nat) := [(0, .iconst 0, 1), (1, .istore_n 1, 1), (2, .iconst 0, 1), (3, .istore_n 2, 1), (4, .iload_n 2, 1), (5, .aload_n 0, 1), (6, .invokevirtual 248, 3), (9, .if_icmp .ge 25, 3), (12, .iload_n 1, 1), (13, .aload_n 0, 1), (14, .iload_n 2, 1), (15, .invokevirtual 326, 3), (18, .ifCond .eq 7, 3), (21, .iconst 1, 1), (22, .goto 4, 3), (25, .iconst 0, 1), (26, .iadd, 1), (27, .istore_n 1, 1), (28, .iinc 2 1, 3), (31, .goto (-27), 3), (34, .iload_n 1, 1), (35, .ireturn, 1)]
theorem DX8_askedMany : (eX8_askedMany.all fun q => decide (decode cX8_askedMany q.1 = .ok q.2)) = true := by decide +kernel
def jX8_askedMany_26 (S : List Sh) (mm : Mm) (x0 : Nat) (x2 : Int32) (p0 : Int32) (p1 : Int32) : Option ((Int32 × Int32) ⊕ (Int32)) := some (.inl ((p0 + p1), x2 + 1))
def bX8_askedMany_4 (S : List Sh) (mm : Mm) (x0 : Nat) (x1 : Int32) (x2 : Int32) : Option ((Int32 × Int32) ⊕ (Int32)) := bd1 (fX8_links S mm x0) fun a1 => if a1 ≤ x2 then (some (.inr (x1))) else (bd1 (fX8_asked S mm x0 x2) fun a2 => if a2 = 0 then (jX8_askedMany_26 S mm x0 x2 x1 0) else (jX8_askedMany_26 S mm x0 x2 x1 1))
def fX8_askedMany (S : List Sh) (mm : Mm) (x0 : Nat) : Option (Int32) := gd S x0 8 (bd1 (lp (fun s3 => bX8_askedMany_4 S mm x0 s3.1 s3.2) fu (0, 0)) fun y4 => some y4)
set_option maxHeartbeats 1000000 in
theorem tX8_askedMany_26 {G : Gt} {l : Launch} {E : Ev} {S : List Sh} {mm : Mm} {x0 : Nat} {x2 : Int32} {p0 : Int32} {p1 : Int32} {r : (Int32 × Int32) ⊕ (Int32)} (C : Cx G E cX8_askedMany 3 RX8 (some .int) 1 21) (g0 : isC S x0 8) (h : jX8_askedMany_26 S mm x0 x2 p0 p1 = some r) (kb : ∀ z : Int32 × Int32, r = .inl z → WM G l E S 4 [(0, .ref (E.2.2 x0)), (1, .int z.1), (2, .int z.2)] [] mm) (kx : ∀ z : Int32, r = .inr z → WM G l E S 34 [(0, .ref (E.2.2 x0)), (1, .int z)] [] mm) : WM G l E S 26 [(0, .ref (E.2.2 x0)), (2, .int x2)] [.int p1, .int p0] mm := by
  unfold jX8_askedMany_26 at h
  refine x_iadd C (dq DX8_askedMany 16 rfl) ?_
  refine x_istore_n (lv' := [(1, .int (p0 + p1)), (0, .ref (E.2.2 x0)), (2, .int x2)]) C (dq DX8_askedMany 17 rfl) rfl (by decide) rfl ?_
  refine x_iinc (v := x2 + 1) (lv' := [(2, .int (x2 + 1)), (1, .int (p0 + p1)), (0, .ref (E.2.2 x0))]) C (dq DX8_askedMany 18 rfl) 2 rfl rfl (by decide) rfl ?_
  refine x_goto (tgt := 4) C (dq DX8_askedMany 19 rfl) (by decide) ?_
  cases h
  exact x_lv [2, 1, 0] rfl (kb ((p0 + p1), x2 + 1) rfl)
set_option maxHeartbeats 1000000 in
theorem tX8_askedMany_4 {G : Gt} {l : Launch} {E : Ev} {S : List Sh} {mm : Mm} {x0 : Nat} {x1 : Int32} {x2 : Int32} {r : (Int32 × Int32) ⊕ (Int32)} (C : Cx G E cX8_askedMany 3 RX8 (some .int) 1 21) (g0 : isC S x0 8) (h : bX8_askedMany_4 S mm x0 x1 x2 = some r) (kb : ∀ z : Int32 × Int32, r = .inl z → WM G l E S 4 [(0, .ref (E.2.2 x0)), (1, .int z.1), (2, .int z.2)] [] mm) (kx : ∀ z : Int32, r = .inr z → WM G l E S 34 [(0, .ref (E.2.2 x0)), (1, .int z)] [] mm) : WM G l E S 4 [(0, .ref (E.2.2 x0)), (1, .int x1), (2, .int x2)] [] mm := by
  unfold bX8_askedMany_4 at h
  refine x_iload_n C (dq DX8_askedMany 4 rfl) rfl 2 rfl ?_
  refine x_aload_n C (dq DX8_askedMany 5 rfl) rfl 0 rfl ?_
  refine callX8_248 C (dq DX8_askedMany 6 rfl) h (by decide) (by decide) (Nat.le_of_ble_eq_true rfl) (fun a1 h => ?_)
  refine x_icmp_ge (tgt := 34) C (dq DX8_askedMany 7 rfl) (by decide) h (fun h => ?_) (fun h => ?_)
  · cases h
    exact x_lv [0, 1] rfl (kx (x1) rfl)
  · refine x_pc 12 rfl ?_
    refine x_iload_n C (dq DX8_askedMany 8 rfl) rfl 1 rfl ?_
    refine x_aload_n C (dq DX8_askedMany 9 rfl) rfl 0 rfl ?_
    refine x_iload_n C (dq DX8_askedMany 10 rfl) rfl 2 rfl ?_
    refine callX8_326 C (dq DX8_askedMany 11 rfl) h (by decide) (by decide) (Nat.le_of_ble_eq_true rfl) (fun a2 h => ?_)
    refine x_if_eq (tgt := 25) C (dq DX8_askedMany 12 rfl) (by decide) h (fun h => ?_) (fun h => ?_)
    · refine x_pc 25 rfl ?_
      refine x_iconst (v := 0) C (dq DX8_askedMany 15 rfl) (by decide) ?_
      exact x_lv [0, 2] rfl (tX8_askedMany_26 C g0 h kb kx)
    · refine x_pc 21 rfl ?_
      refine x_iconst (v := 1) C (dq DX8_askedMany 13 rfl) (by decide) ?_
      refine x_goto (tgt := 26) C (dq DX8_askedMany 14 rfl) (by decide) ?_
      exact x_lv [0, 2] rfl (tX8_askedMany_26 C g0 h kb kx)
set_option maxHeartbeats 1000000 in
theorem mX8_askedMany {l : Launch} {E : Ev} {S : List Sh} {mm : Mm} {x0 : Nat} {r : Int32} (h : fX8_askedMany S mm x0 = some r) : Ml l E S yX8_askedMany cX8_askedMany 3 (some .int) 1 21 [.ref (E.2.2 x0)] mm (some (.int r)) mm := by
  refine Ml.of (by decide +kernel) (Nat.le_of_ble_eq_true rfl) (fun G C hQ => ?_)
  have C : Cx G E cX8_askedMany 3 RX8 (some .int) 1 21 := C
  unfold fX8_askedMany at h
  obtain ⟨g0, h⟩ := gd_some h
  show WM G l E S 0 [(0, .ref (E.2.2 x0))] [] mm
  refine x_iconst (v := 0) C (dq DX8_askedMany 0 rfl) (by decide) ?_
  refine x_istore_n (lv' := [(1, .int 0), (0, .ref (E.2.2 x0))]) C (dq DX8_askedMany 1 rfl) rfl (by decide) rfl ?_
  refine x_iconst (v := 0) C (dq DX8_askedMany 2 rfl) (by decide) ?_
  refine x_istore_n (lv' := [(2, .int 0), (1, .int 0), (0, .ref (E.2.2 x0))]) C (dq DX8_askedMany 3 rfl) rfl (by decide) rfl ?_
  refine x_lv [2, 1, 0] rfl ?_
  refine x_loop (s0 := (0, 0)) (fun s3 => WM G l E S 4 [(0, .ref (E.2.2 x0)), (1, .int s3.1), (2, .int s3.2)] [] mm) h (fun s3 r hb kb kx => tX8_askedMany_4 C g0 hb kb (fun y4 hy => ?_))
  have h := kx y4 hy
  clear kx kb hb hy
  refine x_pc 34 rfl ?_
  refine x_iload_n C (dq DX8_askedMany 20 rfl) rfl 1 rfl ?_
  cases h
  exact x_iret C (dq DX8_askedMany 21 rfl) hQ
set_option maxHeartbeats 1000000 in
theorem qX8_askedMany {S : List Sh} {mm : Mm} {x0 : Nat} {r : Int32} (h : fX8_askedMany S mm x0 = some r) : isC S x0 8 := by
  unfold fX8_askedMany at h
  exact (gd_some h).1
theorem callX8_402 {G : Gt} {l : Launch} {E : Ev} {S : List Sh} {cc : ByteArray} {nL : Nat} {rt : Option FieldType} {fr lo : Nat} {pc : Nat} {lv : List (Nat × Value)} {rest : List Value} {mm : Mm} {α : Type} {f : Int32 → Option α} {r : α} {o : Nat} (C : Cx G E cc nL RX8 rt fr lo) (d : decode cc pc = .ok (.invokevirtual 402, 3)) (h : bd1 (fX8_askedMany S mm o) f = some r) (hfr : 2 ≤ fr) (hlo : 43 ≤ lo) (hrs : (rest.map fun v => v.category).sum ≤ 8) (k : ∀ v, f v = some r → WM G l E S (pc + 3) lv (.int v :: rest) mm) : WM G l E S pc lv (.ref (E.2.2 o) :: rest) mm := by
  obtain ⟨v, hv, hf⟩ := bd1_some h
  exact x_callV (n := 0) (As := []) (rest := rest) C (mX8_askedMany hv) (qX8_askedMany hv) (T := TX8) (N := 49) rfl (gmem 1452 (by decide +kernel) rfl) (gmem 1454 (by decide +kernel) rfl) (gmemS 99 (by decide +kernel) rfl) (gmem 9 (by decide +kernel) rfl) (gmem 1455 (by decide +kernel) rfl) (by decide +kernel) rfl hfr hlo hrs d rfl rfl (k v hf)
abbrev eX8_count : List (Nat × Instr × Nat) := [(0, .aload_n 0, 1), (1, .iconst 0, 1), (2, .putfield 115, 3), (5, .iload_n 1, 1), (6, .tableswitch 123 0 10 #[58, 63, 68, 77, 83, 89, 94, 101, 108, 113, 118], 58), (64, .aload_n 0, 1), (65, .invokevirtual 248, 3), (68, .ireturn, 1), (69, .aload_n 0, 1), (70, .invokevirtual 251, 3), (73, .ireturn, 1), (74, .aload_n 0, 1), (75, .getfield 57, 3), (78, .sipush 336, 3), (81, .iaload, 1), (82, .ireturn, 1), (83, .aload_n 0, 1), (84, .iconst 4, 1), (85, .invokevirtual 388, 3), (88, .ireturn, 1), (89, .aload_n 0, 1), (90, .iconst 5, 1), (91, .invokevirtual 388, 3), (94, .ireturn, 1), (95, .aload_n 0, 1), (96, .invokevirtual 396, 3), (99, .ireturn, 1), (100, .aload_n 0, 1), (101, .bipush 6, 2), (103, .invokevirtual 388, 3), (106, .ireturn, 1), (107, .aload_n 0, 1), (108, .bipush 7, 2), (110, .invokevirtual 388, 3), (113, .ireturn, 1), (114, .aload_n 0, 1), (115, .invokevirtual 402, 3), (118, .ireturn, 1), (119, .aload_n 0, 1), (120, .getfield 241, 3), (123, .ireturn, 1), (124, .aload_n 0, 1), (125, .getfield 118, 3), (128, .ireturn, 1), (129, .iconst (-1), 1), (130, .ireturn, 1)]
theorem DX8_count : (eX8_count.all fun q => decide (decode cX8_count q.1 = .ok q.2)) = true := by decide +kernel
def fX8_count (S : List Sh) (mm : Mm) (x0 : Nat) (x1 : Int32) : Option (Int32 × Mm) := gd S x0 8 (bd1 (some (u1 mm x0 0 0)) fun m1 => if x1 = 0 then (bd1 (fX8_links S m1 x0) fun a2 => some (a2, m1)) else (if x1 = 1 then (bd1 (fX8_flows S m1 x0) fun a4 => some (a4, m1)) else (if x1 = 2 then (bd1 (ldA S 0 m1 (rf S m1 x0 26) 336) fun a6 => some (a6, m1)) else (if x1 = 3 then (bd1 (fX8_sumOf S m1 x0 4) fun a8 => some (a8, m1)) else (if x1 = 4 then (bd1 (fX8_sumOf S m1 x0 5) fun a10 => some (a10, m1)) else (if x1 = 5 then (bd1 (fX8_lostAll S m1 x0) fun a12 => some (a12, m1)) else (if x1 = 6 then (bd1 (fX8_sumOf S m1 x0 6) fun a14 => some (a14, m1)) else (if x1 = 7 then (bd1 (fX8_sumOf S m1 x0 7) fun a16 => some (a16, m1)) else (if x1 = 8 then (bd1 (fX8_askedMany S m1 x0) fun a18 => some (a18, m1)) else (if x1 = 9 then (some ((m1.1 x0 31), m1)) else (if x1 = 10 then (some ((m1.1 x0 2), m1)) else (some ((-1), m1)))))))))))))
set_option maxHeartbeats 1000000 in
theorem mX8_count {l : Launch} {E : Ev} {S : List Sh} {mm : Mm} {x0 : Nat} {x1 : Int32} {r : Int32 × Mm} (h : fX8_count S mm x0 x1 = some r) : Ml l E S yX8_count cX8_count 2 (some .int) 2 43 [.ref (E.2.2 x0), .int x1] mm (some (.int r.1)) r.2 := by
  refine Ml.of (by decide +kernel) (Nat.le_of_ble_eq_true rfl) (fun G C hQ => ?_)
  have C : Cx G E cX8_count 2 RX8 (some .int) 2 43 := C
  unfold fX8_count at h
  obtain ⟨g0, h⟩ := gd_some h
  show WM G l E S 0 [(0, .ref (E.2.2 x0)), (1, .int x1)] [] mm
  refine x_aload_n C (dq DX8_count 0 rfl) rfl 0 rfl ?_
  refine x_iconst (v := 0) C (dq DX8_count 1 rfl) (by decide) ?_
  refine putX8_115 C (dq DX8_count 2 rfl) g0 h (fun m1 h => ?_)
  refine x_iload_n C (dq DX8_count 3 rfl) rfl 1 rfl ?_
  refine x_pc 6 rfl ?_
  refine x_tab1 (tgt := 64) C (dq DX8_count 4 rfl) (w := 0) (z := 0) (by decide) (by decide) (by decide) rfl (by decide) h (fun h => ?_) (fun n3 h => ?_)
  · refine x_aload_n C (dq DX8_count 5 rfl) rfl 0 rfl ?_
    refine callX8_248 C (dq DX8_count 6 rfl) h (by decide) (by decide) (Nat.le_of_ble_eq_true rfl) (fun a2 h => ?_)
    cases h
    exact x_iret C (dq DX8_count 7 rfl) hQ
  refine x_tab1 (tgt := 69) C (dq DX8_count 4 rfl) (w := 1) (z := 1) (by decide) (by decide) (by decide) rfl (by decide) h (fun h => ?_) (fun n5 h => ?_)
  · refine x_aload_n C (dq DX8_count 8 rfl) rfl 0 rfl ?_
    refine callX8_251 C (dq DX8_count 9 rfl) h (by decide) (by decide) (Nat.le_of_ble_eq_true rfl) (fun a4 h => ?_)
    cases h
    exact x_iret C (dq DX8_count 10 rfl) hQ
  refine x_tab1 (tgt := 74) C (dq DX8_count 4 rfl) (w := 2) (z := 2) (by decide) (by decide) (by decide) rfl (by decide) h (fun h => ?_) (fun n7 h => ?_)
  · refine x_aload_n C (dq DX8_count 11 rfl) rfl 0 rfl ?_
    refine getX8_57 C (dq DX8_count 12 rfl) g0 ?_
    refine x_sipush (v := 336) C (dq DX8_count 13 rfl) (by decide) ?_
    refine x_iald C (dq DX8_count 14 rfl) h (fun a6 h => ?_)
    refine x_pc 82 rfl ?_
    cases h
    exact x_iret C (dq DX8_count 15 rfl) hQ
  refine x_tab1 (tgt := 83) C (dq DX8_count 4 rfl) (w := 3) (z := 3) (by decide) (by decide) (by decide) rfl (by decide) h (fun h => ?_) (fun n9 h => ?_)
  · refine x_aload_n C (dq DX8_count 16 rfl) rfl 0 rfl ?_
    refine x_iconst (v := 4) C (dq DX8_count 17 rfl) (by decide) ?_
    refine callX8_388 C (dq DX8_count 18 rfl) h (by decide) (by decide) (Nat.le_of_ble_eq_true rfl) (fun a8 h => ?_)
    cases h
    exact x_iret C (dq DX8_count 19 rfl) hQ
  refine x_tab1 (tgt := 89) C (dq DX8_count 4 rfl) (w := 4) (z := 4) (by decide) (by decide) (by decide) rfl (by decide) h (fun h => ?_) (fun n11 h => ?_)
  · refine x_aload_n C (dq DX8_count 20 rfl) rfl 0 rfl ?_
    refine x_iconst (v := 5) C (dq DX8_count 21 rfl) (by decide) ?_
    refine callX8_388 C (dq DX8_count 22 rfl) h (by decide) (by decide) (Nat.le_of_ble_eq_true rfl) (fun a10 h => ?_)
    cases h
    exact x_iret C (dq DX8_count 23 rfl) hQ
  refine x_tab1 (tgt := 95) C (dq DX8_count 4 rfl) (w := 5) (z := 5) (by decide) (by decide) (by decide) rfl (by decide) h (fun h => ?_) (fun n13 h => ?_)
  · refine x_aload_n C (dq DX8_count 24 rfl) rfl 0 rfl ?_
    refine callX8_396 C (dq DX8_count 25 rfl) h (by decide) (by decide) (Nat.le_of_ble_eq_true rfl) (fun a12 h => ?_)
    cases h
    exact x_iret C (dq DX8_count 26 rfl) hQ
  refine x_tab1 (tgt := 100) C (dq DX8_count 4 rfl) (w := 6) (z := 6) (by decide) (by decide) (by decide) rfl (by decide) h (fun h => ?_) (fun n15 h => ?_)
  · refine x_aload_n C (dq DX8_count 27 rfl) rfl 0 rfl ?_
    refine x_bipush (v := 6) C (dq DX8_count 28 rfl) (by decide) ?_
    refine callX8_388 C (dq DX8_count 29 rfl) h (by decide) (by decide) (Nat.le_of_ble_eq_true rfl) (fun a14 h => ?_)
    cases h
    exact x_iret C (dq DX8_count 30 rfl) hQ
  refine x_tab1 (tgt := 107) C (dq DX8_count 4 rfl) (w := 7) (z := 7) (by decide) (by decide) (by decide) rfl (by decide) h (fun h => ?_) (fun n17 h => ?_)
  · refine x_aload_n C (dq DX8_count 31 rfl) rfl 0 rfl ?_
    refine x_bipush (v := 7) C (dq DX8_count 32 rfl) (by decide) ?_
    refine callX8_388 C (dq DX8_count 33 rfl) h (by decide) (by decide) (Nat.le_of_ble_eq_true rfl) (fun a16 h => ?_)
    cases h
    exact x_iret C (dq DX8_count 34 rfl) hQ
  refine x_tab1 (tgt := 114) C (dq DX8_count 4 rfl) (w := 8) (z := 8) (by decide) (by decide) (by decide) rfl (by decide) h (fun h => ?_) (fun n19 h => ?_)
  · refine x_aload_n C (dq DX8_count 35 rfl) rfl 0 rfl ?_
    refine callX8_402 C (dq DX8_count 36 rfl) h (by decide) (by decide) (Nat.le_of_ble_eq_true rfl) (fun a18 h => ?_)
    cases h
    exact x_iret C (dq DX8_count 37 rfl) hQ
  refine x_tab1 (tgt := 119) C (dq DX8_count 4 rfl) (w := 9) (z := 9) (by decide) (by decide) (by decide) rfl (by decide) h (fun h => ?_) (fun n20 h => ?_)
  · refine x_aload_n C (dq DX8_count 38 rfl) rfl 0 rfl ?_
    refine getX8_241 C (dq DX8_count 39 rfl) g0 ?_
    cases h
    exact x_iret C (dq DX8_count 40 rfl) hQ
  refine x_tab1 (tgt := 124) C (dq DX8_count 4 rfl) (w := 10) (z := 10) (by decide) (by decide) (by decide) rfl (by decide) h (fun h => ?_) (fun n21 h => ?_)
  · refine x_aload_n C (dq DX8_count 41 rfl) rfl 0 rfl ?_
    refine getX8_118 C (dq DX8_count 42 rfl) g0 ?_
    cases h
    exact x_iret C (dq DX8_count 43 rfl) hQ
  refine x_tabO (tgt := 129) C (dq DX8_count 4 rfl) (by omega) (by decide) ?_
  refine x_iconst (v := (-1)) C (dq DX8_count 44 rfl) (by decide) ?_
  cases h
  exact x_iret C (dq DX8_count 45 rfl) hQ
set_option maxHeartbeats 1000000 in
theorem qX8_count {S : List Sh} {mm : Mm} {x0 : Nat} {x1 : Int32} {r : Int32 × Mm} (h : fX8_count S mm x0 x1 = some r) : isC S x0 8 := by
  unfold fX8_count at h
  exact (gd_some h).1
