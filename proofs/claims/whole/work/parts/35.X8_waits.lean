theorem callX8_336 {G : Gt} {l : Launch} {E : Ev} {S : List Sh} {cc : ByteArray} {nL : Nat} {rt : Option FieldType} {fr lo : Nat} {pc : Nat} {lv : List (Nat × Value)} {rest : List Value} {mm : Mm} {α : Type} {f : Mm → Option α} {r : α} {o : Nat} {a0 : Int32} (C : Cx G E cc nL RX8 rt fr lo) (d : decode cc pc = .ok (.invokevirtual 336, 3)) (h : bd1 (fX8_laysWaits S mm o a0) f = some r) (hfr : 4 ≤ fr) (hlo : 93 ≤ lo) (hrs : (rest.map fun v => v.category).sum ≤ 8) (k : ∀ m1, f m1 = some r → WM G l E S (pc + 3) lv rest m1) : WM G l E S pc lv (.int a0 :: .ref (E.2.2 o) :: rest) mm := by
  obtain ⟨m1, hv, hf⟩ := bd1_some h
  exact x_callV (n := 1) (As := [.int a0]) (rest := rest) C (mX8_laysWaits hv) (qX8_laysWaits hv) (T := TX8) (N := 49) rfl (gmem 1327 (by decide +kernel) rfl) (gmem 1329 (by decide +kernel) rfl) (gmemS 83 (by decide +kernel) rfl) (gmem 9 (by decide +kernel) rfl) (gmem 1330 (by decide +kernel) rfl) (by decide +kernel) rfl hfr hlo hrs d rfl rfl (k m1 hf)
abbrev eX8_waits : List (Nat × Instr × Nat) := [(0, .aload_n 0, 1), (1, .iconst 0, 1), (2, .putfield 115, 3), (5, .aload_n 0, 1), (6, .iload_n 1, 1), (7, .invokevirtual 319, 3), (10, .ifCond .ne 5, 3), (13, .iconst (-1), 1), (14, .ireturn, 1), (15, .aload_n 0, 1), (16, .iconst 0, 1), (17, .invokevirtual 336, 3), (20, .aload_n 0, 1), (21, .getfield 87, 3), (24, .iload_n 1, 1), (25, .iaload, 1), (26, .ireturn, 1)]
theorem DX8_waits : (eX8_waits.all fun q => decide (decode cX8_waits q.1 = .ok q.2)) = true := by decide +kernel
def fX8_waits (S : List Sh) (mm : Mm) (x0 : Nat) (x1 : Int32) : Option (Int32 × Mm) := gd S x0 8 (bd1 (some (u1 mm x0 0 0)) fun m1 => bd1 (fX8_isLink S m1 x0 x1) fun a2 => if ¬ a2 = 0 then (bd1 (fX8_laysWaits S m1 x0 0) fun m3 => bd1 (ldA S 0 m3 (rf S m3 x0 39) x1) fun a4 => some (a4, m3)) else (some ((-1), m1)))
set_option maxHeartbeats 1000000 in
theorem mX8_waits {l : Launch} {E : Ev} {S : List Sh} {mm : Mm} {x0 : Nat} {x1 : Int32} {r : Int32 × Mm} (h : fX8_waits S mm x0 x1 = some r) : Ml l E S yX8_waits cX8_waits 2 (some .int) 4 93 [.ref (E.2.2 x0), .int x1] mm (some (.int r.1)) r.2 := by
  refine Ml.of (by decide +kernel) (Nat.le_of_ble_eq_true rfl) (fun G C hQ => ?_)
  have C : Cx G E cX8_waits 2 RX8 (some .int) 4 93 := C
  unfold fX8_waits at h
  obtain ⟨g0, h⟩ := gd_some h
  show WM G l E S 0 [(0, .ref (E.2.2 x0)), (1, .int x1)] [] mm
  refine x_aload_n C (dq DX8_waits 0 rfl) rfl 0 rfl ?_
  refine x_iconst (v := 0) C (dq DX8_waits 1 rfl) (by decide) ?_
  refine putX8_115 C (dq DX8_waits 2 rfl) g0 h (fun m1 h => ?_)
  refine x_aload_n C (dq DX8_waits 3 rfl) rfl 0 rfl ?_
  refine x_pc 6 rfl ?_
  refine x_iload_n C (dq DX8_waits 4 rfl) rfl 1 rfl ?_
  refine callX8_319 C (dq DX8_waits 5 rfl) h (by decide) (by decide) (Nat.le_of_ble_eq_true rfl) (fun a2 h => ?_)
  refine x_if_ne (tgt := 15) C (dq DX8_waits 6 rfl) (by decide) h (fun h => ?_) (fun h => ?_)
  · refine x_aload_n C (dq DX8_waits 9 rfl) rfl 0 rfl ?_
    refine x_iconst (v := 0) C (dq DX8_waits 10 rfl) (by decide) ?_
    refine x_pc 17 rfl ?_
    refine callX8_336 C (dq DX8_waits 11 rfl) h (by decide) (by decide) (Nat.le_of_ble_eq_true rfl) (fun m3 h => ?_)
    refine x_aload_n C (dq DX8_waits 12 rfl) rfl 0 rfl ?_
    refine getX8_87 C (dq DX8_waits 13 rfl) g0 ?_
    refine x_iload_n C (dq DX8_waits 14 rfl) rfl 1 rfl ?_
    refine x_iald C (dq DX8_waits 15 rfl) h (fun a4 h => ?_)
    refine x_pc 26 rfl ?_
    cases h
    exact x_iret C (dq DX8_waits 16 rfl) hQ
  · refine x_iconst (v := (-1)) C (dq DX8_waits 7 rfl) (by decide) ?_
    cases h
    exact x_iret C (dq DX8_waits 8 rfl) hQ
set_option maxHeartbeats 1000000 in
theorem qX8_waits {S : List Sh} {mm : Mm} {x0 : Nat} {x1 : Int32} {r : Int32 × Mm} (h : fX8_waits S mm x0 x1 = some r) : isC S x0 8 := by
  unfold fX8_waits at h
  exact (gd_some h).1
theorem getX8_90 {G : Gt} {l : Launch} {E : Ev} {S : List Sh} {cc : ByteArray} {nL : Nat} {rt : Option FieldType} {fr lo : Nat} {pc : Nat} {lv : List (Nat × Value)} {st : List Value} {mm : Mm} {o : Nat} (C : Cx G E cc nL RX8 rt fr lo) (d : decode cc pc = .ok (.getfield 90, 3)) (hg : isC S o 8) (k : WM G l E S (pc + 3) lv (.ref (E.2.2 (rf S mm o 40)) :: st) mm) : WM G l E S pc lv (.ref (E.2.2 o) :: st) mm := x_get2 C hg (T := TX8) (N := 49) rfl inX8 (by decide) (i := 40) (gmem 905 (by decide +kernel) rfl) rfl rfl d k
abbrev eX8_laysSteps : List (Nat × Instr × Nat) := [(0, .iconst 0, 1), (1, .istore_n 2, 1), (2, .iload_n 2, 1), (3, .aload_n 0, 1), (4, .invokevirtual 248, 3), (7, .if_icmp .ge 16, 3), (10, .aload_n 0, 1), (11, .getfield 90, 3), (14, .iload_n 2, 1), (15, .iconst (-1), 1), (16, .iastore, 1), (17, .iinc 2 1, 3), (20, .goto (-18), 3), (23, .iconst 1, 1), (24, .istore_n 2, 1), (25, .iload_n 2, 1), (26, .aload_n 0, 1), (27, .invokevirtual 248, 3), (30, .if_icmp .gt 145, 3), (33, .iconst 0, 1), (34, .istore_n 3, 1), (35, .iload_n 3, 1), (36, .aload_n 0, 1), (37, .invokevirtual 248, 3), (40, .if_icmp .ge 129, 3), (43, .aload_n 0, 1), (44, .getfield 90, 3), (47, .iload_n 3, 1), (48, .iaload, 1), (49, .iconst (-1), 1), (50, .if_icmp .eq 6, 3), (53, .goto 110, 3), (56, .iload_n 2, 1), (57, .iconst 1, 1), (58, .if_icmp .ne 21, 3), (61, .aload_n 0, 1), (62, .getfield 87, 3), (65, .iload_n 3, 1), (66, .iaload, 1), (67, .iload_n 1, 1), (68, .ishr, 1), (69, .iconst 1, 1), (70, .iand, 1), (71, .iconst 1, 1), (72, .if_icmp .ne 7, 3), (75, .iconst 1, 1), (76, .goto 4, 3), (79, .iconst 0, 1), (80, .istore 4, 2), (82, .iconst 0, 1), (83, .istore 5, 2), (85, .iload 5, 2), (87, .aload_n 0, 1), (88, .invokevirtual 248, 3), (91, .if_icmp .ge 60, 3), (94, .iload_n 2, 1), (95, .iconst 1, 1), (96, .if_icmp .le 55, 3), (99, .iload 4, 2), (101, .ifCond .ne 37, 3), (104, .aload_n 0, 1), (105, .getfield 87, 3), (108, .iload_n 3, 1), (109, .iaload, 1), (110, .iload 5, 2), (112, .ishr, 1), (113, .iconst 1, 1), (114, .iand, 1), (115, .iconst 1, 1), (116, .if_icmp .ne 26, 3), (119, .iload 5, 2), (121, .iload_n 1, 1), (122, .if_icmp .eq 20, 3), (125, .aload_n 0, 1), (126, .getfield 90, 3), (129, .iload 5, 2), (131, .iaload, 1), (132, .iload_n 2, 1), (133, .iconst 1, 1), (134, .isub, 1), (135, .if_icmp .ne 7, 3), (138, .iconst 1, 1), (139, .goto 4, 3), (142, .iconst 0, 1), (143, .istore 4, 2), (145, .iinc 5 1, 3), (148, .goto (-63), 3), (151, .iload 4, 2), (153, .ifCond .eq 10, 3), (156, .aload_n 0, 1), (157, .getfield 90, 3), (160, .iload_n 3, 1), (161, .iload_n 2, 1), (162, .iastore, 1), (163, .iinc 3 1, 3), (166, .goto (-131), 3), (169, .iinc 2 1, 3), (172, .goto (-147), 3), (175, .return_, 1)]
theorem DX8_laysSteps : (eX8_laysSteps.all fun q => decide (decode cX8_laysSteps q.1 = .ok q.2)) = true := by decide +kernel
def bX8_laysSteps_2 (S : List Sh) (x0 : Nat) (x1 : Int32) (x2 : Int32) (mm : Mm) : Option ((Int32 × Mm) ⊕ (Mm)) := bd1 (fX8_links S mm x0) fun a1 => if a1 ≤ x2 then (some (.inr (mm))) else (bd1 (stA S 0 mm (rf S mm x0 40) x2 (-1)) fun m2 => some (.inl (x2 + 1, m2)))
def jX8_laysSteps_143 (S : List Sh) (mm : Mm) (x0 : Nat) (x1 : Int32) (x2 : Int32) (x3 : Int32) (x5 : Int32) (p0 : Int32) : Option ((Int32 × Int32) ⊕ (Int32)) := some (.inl (p0, x5 + 1))
def jX8_laysSteps_138 (S : List Sh) (mm : Mm) (x0 : Nat) (x1 : Int32) (x2 : Int32) (x3 : Int32) (x5 : Int32)  : Option ((Int32 × Int32) ⊕ (Int32)) := jX8_laysSteps_143 S mm x0 x1 x2 x3 x5 1
def jX8_laysSteps_142 (S : List Sh) (mm : Mm) (x0 : Nat) (x1 : Int32) (x2 : Int32) (x3 : Int32) (x5 : Int32)  : Option ((Int32 × Int32) ⊕ (Int32)) := jX8_laysSteps_143 S mm x0 x1 x2 x3 x5 0
def bX8_laysSteps_85 (S : List Sh) (mm : Mm) (x0 : Nat) (x1 : Int32) (x2 : Int32) (x3 : Int32) (x4 : Int32) (x5 : Int32) : Option ((Int32 × Int32) ⊕ (Int32)) := bd1 (fX8_links S mm x0) fun a8 => if a8 ≤ x5 then (some (.inr (x4))) else (if x2 ≤ 1 then (some (.inr (x4))) else (if ¬ x4 = 0 then (jX8_laysSteps_138 S mm x0 x1 x2 x3 x5) else (bd1 (ldA S 0 mm (rf S mm x0 39) x3) fun a9 => if ¬ ((a9 >>> (x5 &&& 31)) &&& 1) = 1 then (jX8_laysSteps_142 S mm x0 x1 x2 x3 x5) else (if x5 = x1 then (jX8_laysSteps_142 S mm x0 x1 x2 x3 x5) else (bd1 (ldA S 0 mm (rf S mm x0 40) x5) fun a10 => if ¬ a10 = (x2 - 1) then (jX8_laysSteps_142 S mm x0 x1 x2 x3 x5) else (jX8_laysSteps_138 S mm x0 x1 x2 x3 x5))))))
def jX8_laysSteps_163 (S : List Sh) (mm : Mm) (x0 : Nat) (x1 : Int32) (x2 : Int32) (x3 : Int32)  : Option ((Int32 × Mm) ⊕ (Mm)) := some (.inl (x3 + 1, mm))
def jX8_laysSteps_151 (S : List Sh) (mm : Mm) (x0 : Nat) (x1 : Int32) (x2 : Int32) (x3 : Int32) (x4 : Int32)  : Option ((Int32 × Mm) ⊕ (Mm)) := if x4 = 0 then (jX8_laysSteps_163 S mm x0 x1 x2 x3) else (bd1 (stA S 0 mm (rf S mm x0 40) x3 x2) fun m13 => jX8_laysSteps_163 S m13 x0 x1 x2 x3)
def jX8_laysSteps_80 (S : List Sh) (mm : Mm) (x0 : Nat) (x1 : Int32) (x2 : Int32) (x3 : Int32) (p0 : Int32) : Option ((Int32 × Mm) ⊕ (Mm)) := bd1 (lp (fun s11 => bX8_laysSteps_85 S mm x0 x1 x2 x3 s11.1 s11.2) fu (p0, 0)) fun y12 => jX8_laysSteps_151 S mm x0 x1 x2 x3 y12
def jX8_laysSteps_79 (S : List Sh) (mm : Mm) (x0 : Nat) (x1 : Int32) (x2 : Int32) (x3 : Int32)  : Option ((Int32 × Mm) ⊕ (Mm)) := jX8_laysSteps_80 S mm x0 x1 x2 x3 0
def bX8_laysSteps_35 (S : List Sh) (x0 : Nat) (x1 : Int32) (x2 : Int32) (x3 : Int32) (mm : Mm) : Option ((Int32 × Mm) ⊕ (Mm)) := bd1 (fX8_links S mm x0) fun a6 => if a6 ≤ x3 then (some (.inr (mm))) else (bd1 (ldA S 0 mm (rf S mm x0 40) x3) fun a7 => if a7 = (-1) then (if ¬ x2 = 1 then (jX8_laysSteps_79 S mm x0 x1 x2 x3) else (bd1 (ldA S 0 mm (rf S mm x0 39) x3) fun a14 => if ¬ ((a14 >>> (x1 &&& 31)) &&& 1) = 1 then (jX8_laysSteps_79 S mm x0 x1 x2 x3) else (jX8_laysSteps_80 S mm x0 x1 x2 x3 1))) else (jX8_laysSteps_163 S mm x0 x1 x2 x3))
def bX8_laysSteps_25 (S : List Sh) (x0 : Nat) (x1 : Int32) (x2 : Int32) (mm : Mm) : Option ((Int32 × Mm) ⊕ (Mm)) := bd1 (fX8_links S mm x0) fun a5 => if a5 < x2 then (some (.inr (mm))) else (bd1 (lp (fun s15 => bX8_laysSteps_35 S x0 x1 x2 s15.1 s15.2) fu (0, mm)) fun y16 => some (.inl (x2 + 1, y16)))
def fX8_laysSteps (S : List Sh) (mm : Mm) (x0 : Nat) (x1 : Int32) : Option (Mm) := gd S x0 8 (bd1 (lp (fun s3 => bX8_laysSteps_2 S x0 x1 s3.1 s3.2) fu (0, mm)) fun y4 => bd1 (lp (fun s17 => bX8_laysSteps_25 S x0 x1 s17.1 s17.2) fu (1, y4)) fun y18 => some y18)
set_option maxHeartbeats 1000000 in
theorem tX8_laysSteps_2 {G : Gt} {l : Launch} {E : Ev} {S : List Sh} {x0 : Nat} {x1 : Int32} {x2 : Int32} {mm : Mm} {r : (Int32 × Mm) ⊕ (Mm)} (C : Cx G E cX8_laysSteps 6 RX8 none 1 20) (g0 : isC S x0 8) (h : bX8_laysSteps_2 S x0 x1 x2 mm = some r) (kb : ∀ z : Int32 × Mm, r = .inl z → WM G l E S 2 [(0, .ref (E.2.2 x0)), (1, .int x1), (2, .int z.1)] [] z.2) (kx : ∀ z : Mm, r = .inr z → WM G l E S 23 [(0, .ref (E.2.2 x0)), (1, .int x1)] [] z) : WM G l E S 2 [(0, .ref (E.2.2 x0)), (1, .int x1), (2, .int x2)] [] mm := by
  unfold bX8_laysSteps_2 at h
  refine x_iload_n C (dq DX8_laysSteps 2 rfl) rfl 2 rfl ?_
  refine x_aload_n C (dq DX8_laysSteps 3 rfl) rfl 0 rfl ?_
  refine callX8_248 C (dq DX8_laysSteps 4 rfl) h (by decide) (by decide) (Nat.le_of_ble_eq_true rfl) (fun a1 h => ?_)
  refine x_icmp_ge (tgt := 23) C (dq DX8_laysSteps 5 rfl) (by decide) h (fun h => ?_) (fun h => ?_)
  · cases h
    exact x_lv [0, 1] rfl (kx (mm) rfl)
  · refine x_pc 10 rfl ?_
    refine x_aload_n C (dq DX8_laysSteps 6 rfl) rfl 0 rfl ?_
    refine getX8_90 C (dq DX8_laysSteps 7 rfl) g0 ?_
    refine x_iload_n C (dq DX8_laysSteps 8 rfl) rfl 2 rfl ?_
    refine x_iconst (v := (-1)) C (dq DX8_laysSteps 9 rfl) (by decide) ?_
    refine x_iast C (dq DX8_laysSteps 10 rfl) h (fun m2 h => ?_)
    refine x_pc 17 rfl ?_
    refine x_iinc (v := x2 + 1) (lv' := [(2, .int (x2 + 1)), (0, .ref (E.2.2 x0)), (1, .int x1)]) C (dq DX8_laysSteps 11 rfl) 2 rfl rfl (by decide) rfl ?_
    refine x_goto (tgt := 2) C (dq DX8_laysSteps 12 rfl) (by decide) ?_
    cases h
    exact x_lv [1, 2, 0] rfl (kb (x2 + 1, m2) rfl)
set_option maxHeartbeats 1000000 in
theorem tX8_laysSteps_143 {G : Gt} {l : Launch} {E : Ev} {S : List Sh} {mm : Mm} {x0 : Nat} {x1 : Int32} {x2 : Int32} {x3 : Int32} {x5 : Int32} {p0 : Int32} {r : (Int32 × Int32) ⊕ (Int32)} (C : Cx G E cX8_laysSteps 6 RX8 none 1 20) (g0 : isC S x0 8) (h : jX8_laysSteps_143 S mm x0 x1 x2 x3 x5 p0 = some r) (kb : ∀ z : Int32 × Int32, r = .inl z → WM G l E S 85 [(0, .ref (E.2.2 x0)), (1, .int x1), (2, .int x2), (3, .int x3), (4, .int z.1), (5, .int z.2)] [] mm) (kx : ∀ z : Int32, r = .inr z → WM G l E S 151 [(0, .ref (E.2.2 x0)), (1, .int x1), (2, .int x2), (3, .int x3), (4, .int z)] [] mm) : WM G l E S 143 [(0, .ref (E.2.2 x0)), (1, .int x1), (2, .int x2), (3, .int x3), (5, .int x5)] [.int p0] mm := by
  unfold jX8_laysSteps_143 at h
  refine x_istore (lv' := [(4, .int p0), (0, .ref (E.2.2 x0)), (1, .int x1), (2, .int x2), (3, .int x3), (5, .int x5)]) C (dq DX8_laysSteps 84 rfl) (by decide) rfl ?_
  refine x_iinc (v := x5 + 1) (lv' := [(5, .int (x5 + 1)), (4, .int p0), (0, .ref (E.2.2 x0)), (1, .int x1), (2, .int x2), (3, .int x3)]) C (dq DX8_laysSteps 85 rfl) 5 rfl rfl (by decide) rfl ?_
  refine x_goto (tgt := 85) C (dq DX8_laysSteps 86 rfl) (by decide) ?_
  cases h
  exact x_lv [2, 3, 4, 5, 1, 0] rfl (kb (p0, x5 + 1) rfl)
set_option maxHeartbeats 1000000 in
theorem tX8_laysSteps_138 {G : Gt} {l : Launch} {E : Ev} {S : List Sh} {mm : Mm} {x0 : Nat} {x1 : Int32} {x2 : Int32} {x3 : Int32} {x5 : Int32}  {r : (Int32 × Int32) ⊕ (Int32)} (C : Cx G E cX8_laysSteps 6 RX8 none 1 20) (g0 : isC S x0 8) (h : jX8_laysSteps_138 S mm x0 x1 x2 x3 x5 = some r) (kb : ∀ z : Int32 × Int32, r = .inl z → WM G l E S 85 [(0, .ref (E.2.2 x0)), (1, .int x1), (2, .int x2), (3, .int x3), (4, .int z.1), (5, .int z.2)] [] mm) (kx : ∀ z : Int32, r = .inr z → WM G l E S 151 [(0, .ref (E.2.2 x0)), (1, .int x1), (2, .int x2), (3, .int x3), (4, .int z)] [] mm) : WM G l E S 138 [(0, .ref (E.2.2 x0)), (1, .int x1), (2, .int x2), (3, .int x3), (5, .int x5)] [] mm := by
  unfold jX8_laysSteps_138 at h
  refine x_iconst (v := 1) C (dq DX8_laysSteps 81 rfl) (by decide) ?_
  refine x_goto (tgt := 143) C (dq DX8_laysSteps 82 rfl) (by decide) ?_
  exact x_lv [0, 1, 2, 3, 4] rfl (tX8_laysSteps_143 C g0 h kb kx)
set_option maxHeartbeats 1000000 in
theorem tX8_laysSteps_142 {G : Gt} {l : Launch} {E : Ev} {S : List Sh} {mm : Mm} {x0 : Nat} {x1 : Int32} {x2 : Int32} {x3 : Int32} {x5 : Int32}  {r : (Int32 × Int32) ⊕ (Int32)} (C : Cx G E cX8_laysSteps 6 RX8 none 1 20) (g0 : isC S x0 8) (h : jX8_laysSteps_142 S mm x0 x1 x2 x3 x5 = some r) (kb : ∀ z : Int32 × Int32, r = .inl z → WM G l E S 85 [(0, .ref (E.2.2 x0)), (1, .int x1), (2, .int x2), (3, .int x3), (4, .int z.1), (5, .int z.2)] [] mm) (kx : ∀ z : Int32, r = .inr z → WM G l E S 151 [(0, .ref (E.2.2 x0)), (1, .int x1), (2, .int x2), (3, .int x3), (4, .int z)] [] mm) : WM G l E S 142 [(0, .ref (E.2.2 x0)), (1, .int x1), (2, .int x2), (3, .int x3), (5, .int x5)] [] mm := by
  unfold jX8_laysSteps_142 at h
  refine x_iconst (v := 0) C (dq DX8_laysSteps 83 rfl) (by decide) ?_
  exact x_lv [0, 1, 2, 3, 4] rfl (tX8_laysSteps_143 C g0 h kb kx)
set_option maxHeartbeats 1000000 in
theorem tX8_laysSteps_85 {G : Gt} {l : Launch} {E : Ev} {S : List Sh} {mm : Mm} {x0 : Nat} {x1 : Int32} {x2 : Int32} {x3 : Int32} {x4 : Int32} {x5 : Int32} {r : (Int32 × Int32) ⊕ (Int32)} (C : Cx G E cX8_laysSteps 6 RX8 none 1 20) (g0 : isC S x0 8) (h : bX8_laysSteps_85 S mm x0 x1 x2 x3 x4 x5 = some r) (kb : ∀ z : Int32 × Int32, r = .inl z → WM G l E S 85 [(0, .ref (E.2.2 x0)), (1, .int x1), (2, .int x2), (3, .int x3), (4, .int z.1), (5, .int z.2)] [] mm) (kx : ∀ z : Int32, r = .inr z → WM G l E S 151 [(0, .ref (E.2.2 x0)), (1, .int x1), (2, .int x2), (3, .int x3), (4, .int z)] [] mm) : WM G l E S 85 [(0, .ref (E.2.2 x0)), (1, .int x1), (2, .int x2), (3, .int x3), (4, .int x4), (5, .int x5)] [] mm := by
  unfold bX8_laysSteps_85 at h
  refine x_iload C (dq DX8_laysSteps 51 rfl) 5 rfl ?_
  refine x_aload_n C (dq DX8_laysSteps 52 rfl) rfl 0 rfl ?_
  refine callX8_248 C (dq DX8_laysSteps 53 rfl) h (by decide) (by decide) (Nat.le_of_ble_eq_true rfl) (fun a8 h => ?_)
  refine x_icmp_ge (tgt := 151) C (dq DX8_laysSteps 54 rfl) (by decide) h (fun h => ?_) (fun h => ?_)
  · cases h
    exact x_lv [0, 1, 2, 3, 4] rfl (kx (x4) rfl)
  · refine x_pc 94 rfl ?_
    refine x_iload_n C (dq DX8_laysSteps 55 rfl) rfl 2 rfl ?_
    refine x_iconst (v := 1) C (dq DX8_laysSteps 56 rfl) (by decide) ?_
    refine x_icmp_le (tgt := 151) C (dq DX8_laysSteps 57 rfl) (by decide) h (fun h => ?_) (fun h => ?_)
    · cases h
      exact x_lv [0, 1, 2, 3, 4] rfl (kx (x4) rfl)
    · refine x_iload C (dq DX8_laysSteps 58 rfl) 4 rfl ?_
      refine x_if_ne (tgt := 138) C (dq DX8_laysSteps 59 rfl) (by decide) h (fun h => ?_) (fun h => ?_)
      · exact x_lv [0, 1, 2, 3, 5] rfl (tX8_laysSteps_138 C g0 h kb kx)
      · refine x_pc 104 rfl ?_
        refine x_aload_n C (dq DX8_laysSteps 60 rfl) rfl 0 rfl ?_
        refine getX8_87 C (dq DX8_laysSteps 61 rfl) g0 ?_
        refine x_iload_n C (dq DX8_laysSteps 62 rfl) rfl 3 rfl ?_
        refine x_iald C (dq DX8_laysSteps 63 rfl) h (fun a9 h => ?_)
        refine x_iload C (dq DX8_laysSteps 64 rfl) 5 rfl ?_
        refine x_pc 112 rfl ?_
        refine x_ishr C (dq DX8_laysSteps 65 rfl) ?_
        refine x_iconst (v := 1) C (dq DX8_laysSteps 66 rfl) (by decide) ?_
        refine x_iand C (dq DX8_laysSteps 67 rfl) ?_
        refine x_iconst (v := 1) C (dq DX8_laysSteps 68 rfl) (by decide) ?_
        refine x_icmp_ne (tgt := 142) C (dq DX8_laysSteps 69 rfl) (by decide) h (fun h => ?_) (fun h => ?_)
        · exact x_lv [0, 1, 2, 3, 5] rfl (tX8_laysSteps_142 C g0 h kb kx)
        · refine x_pc 119 rfl ?_
          refine x_iload C (dq DX8_laysSteps 70 rfl) 5 rfl ?_
          refine x_iload_n C (dq DX8_laysSteps 71 rfl) rfl 1 rfl ?_
          refine x_icmp_eq (tgt := 142) C (dq DX8_laysSteps 72 rfl) (by decide) h (fun h => ?_) (fun h => ?_)
          · exact x_lv [0, 1, 2, 3, 5] rfl (tX8_laysSteps_142 C g0 h kb kx)
          · refine x_aload_n C (dq DX8_laysSteps 73 rfl) rfl 0 rfl ?_
            refine getX8_90 C (dq DX8_laysSteps 74 rfl) g0 ?_
            refine x_pc 129 rfl ?_
            refine x_iload C (dq DX8_laysSteps 75 rfl) 5 rfl ?_
            refine x_iald C (dq DX8_laysSteps 76 rfl) h (fun a10 h => ?_)
            refine x_iload_n C (dq DX8_laysSteps 77 rfl) rfl 2 rfl ?_
            refine x_iconst (v := 1) C (dq DX8_laysSteps 78 rfl) (by decide) ?_
            refine x_isub C (dq DX8_laysSteps 79 rfl) ?_
            refine x_pc 135 rfl ?_
            refine x_icmp_ne (tgt := 142) C (dq DX8_laysSteps 80 rfl) (by decide) h (fun h => ?_) (fun h => ?_)
            · exact x_lv [0, 1, 2, 3, 5] rfl (tX8_laysSteps_142 C g0 h kb kx)
            · exact x_lv [0, 1, 2, 3, 5] rfl (tX8_laysSteps_138 C g0 h kb kx)
set_option maxHeartbeats 1000000 in
theorem tX8_laysSteps_163 {G : Gt} {l : Launch} {E : Ev} {S : List Sh} {mm : Mm} {x0 : Nat} {x1 : Int32} {x2 : Int32} {x3 : Int32}  {r : (Int32 × Mm) ⊕ (Mm)} (C : Cx G E cX8_laysSteps 6 RX8 none 1 20) (g0 : isC S x0 8) (h : jX8_laysSteps_163 S mm x0 x1 x2 x3 = some r) (kb : ∀ z : Int32 × Mm, r = .inl z → WM G l E S 35 [(0, .ref (E.2.2 x0)), (1, .int x1), (2, .int x2), (3, .int z.1)] [] z.2) (kx : ∀ z : Mm, r = .inr z → WM G l E S 169 [(0, .ref (E.2.2 x0)), (1, .int x1), (2, .int x2)] [] z) : WM G l E S 163 [(0, .ref (E.2.2 x0)), (1, .int x1), (2, .int x2), (3, .int x3)] [] mm := by
  unfold jX8_laysSteps_163 at h
  refine x_iinc (v := x3 + 1) (lv' := [(3, .int (x3 + 1)), (0, .ref (E.2.2 x0)), (1, .int x1), (2, .int x2)]) C (dq DX8_laysSteps 94 rfl) 3 rfl rfl (by decide) rfl ?_
  refine x_goto (tgt := 35) C (dq DX8_laysSteps 95 rfl) (by decide) ?_
  cases h
  exact x_lv [1, 2, 3, 0] rfl (kb (x3 + 1, mm) rfl)
set_option maxHeartbeats 1000000 in
theorem tX8_laysSteps_151 {G : Gt} {l : Launch} {E : Ev} {S : List Sh} {mm : Mm} {x0 : Nat} {x1 : Int32} {x2 : Int32} {x3 : Int32} {x4 : Int32}  {r : (Int32 × Mm) ⊕ (Mm)} (C : Cx G E cX8_laysSteps 6 RX8 none 1 20) (g0 : isC S x0 8) (h : jX8_laysSteps_151 S mm x0 x1 x2 x3 x4 = some r) (kb : ∀ z : Int32 × Mm, r = .inl z → WM G l E S 35 [(0, .ref (E.2.2 x0)), (1, .int x1), (2, .int x2), (3, .int z.1)] [] z.2) (kx : ∀ z : Mm, r = .inr z → WM G l E S 169 [(0, .ref (E.2.2 x0)), (1, .int x1), (2, .int x2)] [] z) : WM G l E S 151 [(0, .ref (E.2.2 x0)), (1, .int x1), (2, .int x2), (3, .int x3), (4, .int x4)] [] mm := by
  unfold jX8_laysSteps_151 at h
  refine x_iload C (dq DX8_laysSteps 87 rfl) 4 rfl ?_
  refine x_if_eq (tgt := 163) C (dq DX8_laysSteps 88 rfl) (by decide) h (fun h => ?_) (fun h => ?_)
  · exact x_lv [0, 1, 2, 3] rfl (tX8_laysSteps_163 C g0 h kb kx)
  · refine x_aload_n C (dq DX8_laysSteps 89 rfl) rfl 0 rfl ?_
    refine getX8_90 C (dq DX8_laysSteps 90 rfl) g0 ?_
    refine x_pc 160 rfl ?_
    refine x_iload_n C (dq DX8_laysSteps 91 rfl) rfl 3 rfl ?_
    refine x_iload_n C (dq DX8_laysSteps 92 rfl) rfl 2 rfl ?_
    refine x_iast C (dq DX8_laysSteps 93 rfl) h (fun m13 h => ?_)
    exact x_lv [0, 1, 2, 3] rfl (tX8_laysSteps_163 C g0 h kb kx)
set_option maxHeartbeats 1000000 in
theorem tX8_laysSteps_80 {G : Gt} {l : Launch} {E : Ev} {S : List Sh} {mm : Mm} {x0 : Nat} {x1 : Int32} {x2 : Int32} {x3 : Int32} {p0 : Int32} {r : (Int32 × Mm) ⊕ (Mm)} (C : Cx G E cX8_laysSteps 6 RX8 none 1 20) (g0 : isC S x0 8) (h : jX8_laysSteps_80 S mm x0 x1 x2 x3 p0 = some r) (kb : ∀ z : Int32 × Mm, r = .inl z → WM G l E S 35 [(0, .ref (E.2.2 x0)), (1, .int x1), (2, .int x2), (3, .int z.1)] [] z.2) (kx : ∀ z : Mm, r = .inr z → WM G l E S 169 [(0, .ref (E.2.2 x0)), (1, .int x1), (2, .int x2)] [] z) : WM G l E S 80 [(0, .ref (E.2.2 x0)), (1, .int x1), (2, .int x2), (3, .int x3)] [.int p0] mm := by
  unfold jX8_laysSteps_80 at h
  refine x_istore (lv' := [(4, .int p0), (0, .ref (E.2.2 x0)), (1, .int x1), (2, .int x2), (3, .int x3)]) C (dq DX8_laysSteps 48 rfl) (by decide) rfl ?_
  refine x_iconst (v := 0) C (dq DX8_laysSteps 49 rfl) (by decide) ?_
  refine x_istore (lv' := [(5, .int 0), (4, .int p0), (0, .ref (E.2.2 x0)), (1, .int x1), (2, .int x2), (3, .int x3)]) C (dq DX8_laysSteps 50 rfl) (by decide) rfl ?_
  refine x_lv [2, 3, 4, 5, 1, 0] rfl ?_
  refine x_loop (s0 := (p0, 0)) (fun s11 => WM G l E S 85 [(0, .ref (E.2.2 x0)), (1, .int x1), (2, .int x2), (3, .int x3), (4, .int s11.1), (5, .int s11.2)] [] mm) h (fun s11 r hb kb kx => tX8_laysSteps_85 C g0 hb kb (fun y12 hy => ?_))
  have h := kx y12 hy
  clear kx kb hb hy
  exact x_lv [0, 1, 2, 3, 4] rfl (tX8_laysSteps_151 C g0 h kb kx)
set_option maxHeartbeats 1000000 in
theorem tX8_laysSteps_79 {G : Gt} {l : Launch} {E : Ev} {S : List Sh} {mm : Mm} {x0 : Nat} {x1 : Int32} {x2 : Int32} {x3 : Int32}  {r : (Int32 × Mm) ⊕ (Mm)} (C : Cx G E cX8_laysSteps 6 RX8 none 1 20) (g0 : isC S x0 8) (h : jX8_laysSteps_79 S mm x0 x1 x2 x3 = some r) (kb : ∀ z : Int32 × Mm, r = .inl z → WM G l E S 35 [(0, .ref (E.2.2 x0)), (1, .int x1), (2, .int x2), (3, .int z.1)] [] z.2) (kx : ∀ z : Mm, r = .inr z → WM G l E S 169 [(0, .ref (E.2.2 x0)), (1, .int x1), (2, .int x2)] [] z) : WM G l E S 79 [(0, .ref (E.2.2 x0)), (1, .int x1), (2, .int x2), (3, .int x3)] [] mm := by
  unfold jX8_laysSteps_79 at h
  refine x_iconst (v := 0) C (dq DX8_laysSteps 47 rfl) (by decide) ?_
  exact x_lv [0, 1, 2, 3] rfl (tX8_laysSteps_80 C g0 h kb kx)
set_option maxHeartbeats 1000000 in
theorem tX8_laysSteps_35 {G : Gt} {l : Launch} {E : Ev} {S : List Sh} {x0 : Nat} {x1 : Int32} {x2 : Int32} {x3 : Int32} {mm : Mm} {r : (Int32 × Mm) ⊕ (Mm)} (C : Cx G E cX8_laysSteps 6 RX8 none 1 20) (g0 : isC S x0 8) (h : bX8_laysSteps_35 S x0 x1 x2 x3 mm = some r) (kb : ∀ z : Int32 × Mm, r = .inl z → WM G l E S 35 [(0, .ref (E.2.2 x0)), (1, .int x1), (2, .int x2), (3, .int z.1)] [] z.2) (kx : ∀ z : Mm, r = .inr z → WM G l E S 169 [(0, .ref (E.2.2 x0)), (1, .int x1), (2, .int x2)] [] z) : WM G l E S 35 [(0, .ref (E.2.2 x0)), (1, .int x1), (2, .int x2), (3, .int x3)] [] mm := by
  unfold bX8_laysSteps_35 at h
  refine x_iload_n C (dq DX8_laysSteps 21 rfl) rfl 3 rfl ?_
  refine x_aload_n C (dq DX8_laysSteps 22 rfl) rfl 0 rfl ?_
  refine callX8_248 C (dq DX8_laysSteps 23 rfl) h (by decide) (by decide) (Nat.le_of_ble_eq_true rfl) (fun a6 h => ?_)
  refine x_icmp_ge (tgt := 169) C (dq DX8_laysSteps 24 rfl) (by decide) h (fun h => ?_) (fun h => ?_)
  · cases h
    exact x_lv [0, 1, 2] rfl (kx (mm) rfl)
  · refine x_pc 43 rfl ?_
    refine x_aload_n C (dq DX8_laysSteps 25 rfl) rfl 0 rfl ?_
    refine getX8_90 C (dq DX8_laysSteps 26 rfl) g0 ?_
    refine x_iload_n C (dq DX8_laysSteps 27 rfl) rfl 3 rfl ?_
    refine x_iald C (dq DX8_laysSteps 28 rfl) h (fun a7 h => ?_)
    refine x_iconst (v := (-1)) C (dq DX8_laysSteps 29 rfl) (by decide) ?_
    refine x_pc 50 rfl ?_
    refine x_icmp_eq (tgt := 56) C (dq DX8_laysSteps 30 rfl) (by decide) h (fun h => ?_) (fun h => ?_)
    · refine x_iload_n C (dq DX8_laysSteps 32 rfl) rfl 2 rfl ?_
      refine x_iconst (v := 1) C (dq DX8_laysSteps 33 rfl) (by decide) ?_
      refine x_icmp_ne (tgt := 79) C (dq DX8_laysSteps 34 rfl) (by decide) h (fun h => ?_) (fun h => ?_)
      · exact x_lv [0, 1, 2, 3] rfl (tX8_laysSteps_79 C g0 h kb kx)
      · refine x_aload_n C (dq DX8_laysSteps 35 rfl) rfl 0 rfl ?_
        refine x_pc 62 rfl ?_
        refine getX8_87 C (dq DX8_laysSteps 36 rfl) g0 ?_
        refine x_iload_n C (dq DX8_laysSteps 37 rfl) rfl 3 rfl ?_
        refine x_iald C (dq DX8_laysSteps 38 rfl) h (fun a14 h => ?_)
        refine x_iload_n C (dq DX8_laysSteps 39 rfl) rfl 1 rfl ?_
        refine x_ishr C (dq DX8_laysSteps 40 rfl) ?_
        refine x_pc 69 rfl ?_
        refine x_iconst (v := 1) C (dq DX8_laysSteps 41 rfl) (by decide) ?_
        refine x_iand C (dq DX8_laysSteps 42 rfl) ?_
        refine x_iconst (v := 1) C (dq DX8_laysSteps 43 rfl) (by decide) ?_
        refine x_icmp_ne (tgt := 79) C (dq DX8_laysSteps 44 rfl) (by decide) h (fun h => ?_) (fun h => ?_)
        · exact x_lv [0, 1, 2, 3] rfl (tX8_laysSteps_79 C g0 h kb kx)
        · refine x_iconst (v := 1) C (dq DX8_laysSteps 45 rfl) (by decide) ?_
          refine x_pc 76 rfl ?_
          refine x_goto (tgt := 80) C (dq DX8_laysSteps 46 rfl) (by decide) ?_
          exact x_lv [0, 1, 2, 3] rfl (tX8_laysSteps_80 C g0 h kb kx)
    · refine x_goto (tgt := 163) C (dq DX8_laysSteps 31 rfl) (by decide) ?_
      exact x_lv [0, 1, 2, 3] rfl (tX8_laysSteps_163 C g0 h kb kx)
set_option maxHeartbeats 1000000 in
theorem tX8_laysSteps_25 {G : Gt} {l : Launch} {E : Ev} {S : List Sh} {x0 : Nat} {x1 : Int32} {x2 : Int32} {mm : Mm} {r : (Int32 × Mm) ⊕ (Mm)} (C : Cx G E cX8_laysSteps 6 RX8 none 1 20) (g0 : isC S x0 8) (h : bX8_laysSteps_25 S x0 x1 x2 mm = some r) (kb : ∀ z : Int32 × Mm, r = .inl z → WM G l E S 25 [(0, .ref (E.2.2 x0)), (1, .int x1), (2, .int z.1)] [] z.2) (kx : ∀ z : Mm, r = .inr z → WM G l E S 175 [(0, .ref (E.2.2 x0)), (1, .int x1)] [] z) : WM G l E S 25 [(0, .ref (E.2.2 x0)), (1, .int x1), (2, .int x2)] [] mm := by
  unfold bX8_laysSteps_25 at h
  refine x_iload_n C (dq DX8_laysSteps 15 rfl) rfl 2 rfl ?_
  refine x_aload_n C (dq DX8_laysSteps 16 rfl) rfl 0 rfl ?_
  refine callX8_248 C (dq DX8_laysSteps 17 rfl) h (by decide) (by decide) (Nat.le_of_ble_eq_true rfl) (fun a5 h => ?_)
  refine x_icmp_gt (tgt := 175) C (dq DX8_laysSteps 18 rfl) (by decide) h (fun h => ?_) (fun h => ?_)
  · cases h
    exact x_lv [0, 1] rfl (kx (mm) rfl)
  · refine x_pc 33 rfl ?_
    refine x_iconst (v := 0) C (dq DX8_laysSteps 19 rfl) (by decide) ?_
    refine x_istore_n (lv' := [(3, .int 0), (0, .ref (E.2.2 x0)), (1, .int x1), (2, .int x2)]) C (dq DX8_laysSteps 20 rfl) rfl (by decide) rfl ?_
    refine x_lv [1, 2, 3, 0] rfl ?_
    refine x_loop (s0 := (0, mm)) (fun s15 => WM G l E S 35 [(0, .ref (E.2.2 x0)), (1, .int x1), (2, .int x2), (3, .int s15.1)] [] s15.2) h (fun s15 r hb kb kx => tX8_laysSteps_35 C g0 hb kb (fun y16 hy => ?_))
    have h := kx y16 hy
    clear kx kb hb hy
    refine x_iinc (v := x2 + 1) (lv' := [(2, .int (x2 + 1)), (0, .ref (E.2.2 x0)), (1, .int x1)]) C (dq DX8_laysSteps 96 rfl) 2 rfl rfl (by decide) rfl ?_
    refine x_goto (tgt := 25) C (dq DX8_laysSteps 97 rfl) (by decide) ?_
    cases h
    exact x_lv [1, 2, 0] rfl (kb (x2 + 1, y16) rfl)
set_option maxHeartbeats 1000000 in
theorem mX8_laysSteps {l : Launch} {E : Ev} {S : List Sh} {mm : Mm} {x0 : Nat} {x1 : Int32} {r : Mm} (h : fX8_laysSteps S mm x0 x1 = some r) : Ml l E S yX8_laysSteps cX8_laysSteps 6 none 1 20 [.ref (E.2.2 x0), .int x1] mm none r := by
  refine Ml.of (by decide +kernel) (Nat.le_of_ble_eq_true rfl) (fun G C hQ => ?_)
  have C : Cx G E cX8_laysSteps 6 RX8 none 1 20 := C
  unfold fX8_laysSteps at h
  obtain ⟨g0, h⟩ := gd_some h
  show WM G l E S 0 [(0, .ref (E.2.2 x0)), (1, .int x1)] [] mm
  refine x_iconst (v := 0) C (dq DX8_laysSteps 0 rfl) (by decide) ?_
  refine x_istore_n (lv' := [(2, .int 0), (0, .ref (E.2.2 x0)), (1, .int x1)]) C (dq DX8_laysSteps 1 rfl) rfl (by decide) rfl ?_
  refine x_lv [1, 2, 0] rfl ?_
  refine x_loop (s0 := (0, mm)) (fun s3 => WM G l E S 2 [(0, .ref (E.2.2 x0)), (1, .int x1), (2, .int s3.1)] [] s3.2) h (fun s3 r hb kb kx => tX8_laysSteps_2 C g0 hb kb (fun y4 hy => ?_))
  have h := kx y4 hy
  clear kx kb hb hy
  refine x_iconst (v := 1) C (dq DX8_laysSteps 13 rfl) (by decide) ?_
  refine x_istore_n (lv' := [(2, .int 1), (0, .ref (E.2.2 x0)), (1, .int x1)]) C (dq DX8_laysSteps 14 rfl) rfl (by decide) rfl ?_
  refine x_lv [1, 2, 0] rfl ?_
  refine x_loop (s0 := (1, y4)) (fun s17 => WM G l E S 25 [(0, .ref (E.2.2 x0)), (1, .int x1), (2, .int s17.1)] [] s17.2) h (fun s17 r hb kb kx => tX8_laysSteps_25 C g0 hb kb (fun y18 hy => ?_))
  have h := kx y18 hy
  clear kx kb hb hy
  refine x_pc 175 rfl ?_
  cases h
  exact x_vret C (dq DX8_laysSteps 98 rfl) hQ
set_option maxHeartbeats 1000000 in
theorem qX8_laysSteps {S : List Sh} {mm : Mm} {x0 : Nat} {x1 : Int32} {r : Mm} (h : fX8_laysSteps S mm x0 x1 = some r) : isC S x0 8 := by
  unfold fX8_laysSteps at h
  exact (gd_some h).1
theorem callX8_340 {G : Gt} {l : Launch} {E : Ev} {S : List Sh} {cc : ByteArray} {nL : Nat} {rt : Option FieldType} {fr lo : Nat} {pc : Nat} {lv : List (Nat × Value)} {rest : List Value} {mm : Mm} {α : Type} {f : Mm → Option α} {r : α} {o : Nat} {a0 : Int32} (C : Cx G E cc nL RX8 rt fr lo) (d : decode cc pc = .ok (.invokevirtual 340, 3)) (h : bd1 (fX8_laysSteps S mm o a0) f = some r) (hfr : 2 ≤ fr) (hlo : 45 ≤ lo) (hrs : (rest.map fun v => v.category).sum ≤ 8) (k : ∀ m1, f m1 = some r → WM G l E S (pc + 3) lv rest m1) : WM G l E S pc lv (.int a0 :: .ref (E.2.2 o) :: rest) mm := by
  obtain ⟨m1, hv, hf⟩ := bd1_some h
  exact x_callV (n := 1) (As := [.int a0]) (rest := rest) C (mX8_laysSteps hv) (qX8_laysSteps hv) (T := TX8) (N := 49) rfl (gmem 1351 (by decide +kernel) rfl) (gmem 1353 (by decide +kernel) rfl) (gmemS 88 (by decide +kernel) rfl) (gmem 9 (by decide +kernel) rfl) (gmem 1354 (by decide +kernel) rfl) (by decide +kernel) rfl hfr hlo hrs d rfl rfl (k m1 hf)
abbrev eX8_inCyclesNow : List (Nat × Instr × Nat) := [(0, .iconst 0, 1), (1, .istore_n 1, 1), (2, .iconst 0, 1), (3, .istore_n 2, 1), (4, .iload_n 2, 1), (5, .aload_n 0, 1), (6, .invokevirtual 248, 3), (9, .if_icmp .ge 30, 3), (12, .aload_n 0, 1), (13, .iload_n 2, 1), (14, .invokevirtual 340, 3), (17, .aload_n 0, 1), (18, .getfield 90, 3), (21, .iload_n 2, 1), (22, .iaload, 1), (23, .iconst (-1), 1), (24, .if_icmp .eq 9, 3), (27, .iload_n 1, 1), (28, .iconst 1, 1), (29, .iload_n 2, 1), (30, .ishl, 1), (31, .ior, 1), (32, .istore_n 1, 1), (33, .iinc 2 1, 3), (36, .goto (-32), 3), (39, .iload_n 1, 1), (40, .ireturn, 1)]
theorem DX8_inCyclesNow : (eX8_inCyclesNow.all fun q => decide (decode cX8_inCyclesNow q.1 = .ok q.2)) = true := by decide +kernel
def jX8_inCyclesNow_33 (S : List Sh) (mm : Mm) (x0 : Nat) (x1 : Int32) (x2 : Int32)  : Option ((Int32 × Int32 × Mm) ⊕ (Int32 × Mm)) := some (.inl (x1, x2 + 1, mm))
def bX8_inCyclesNow_4 (S : List Sh) (x0 : Nat) (x1 : Int32) (x2 : Int32) (mm : Mm) : Option ((Int32 × Int32 × Mm) ⊕ (Int32 × Mm)) := bd1 (fX8_links S mm x0) fun a1 => if a1 ≤ x2 then (some (.inr (x1, mm))) else (bd1 (fX8_laysSteps S mm x0 x2) fun m2 => bd1 (ldA S 0 m2 (rf S m2 x0 40) x2) fun a3 => if a3 = (-1) then (jX8_inCyclesNow_33 S m2 x0 x1 x2) else (jX8_inCyclesNow_33 S m2 x0 (x1 ||| (1 <<< (x2 &&& 31))) x2))
def fX8_inCyclesNow (S : List Sh) (mm : Mm) (x0 : Nat) : Option (Int32 × Mm) := gd S x0 8 (bd1 (lp (fun s4 => bX8_inCyclesNow_4 S x0 s4.1 s4.2.1 s4.2.2) fu (0, 0, mm)) fun y5 => some (y5.1, y5.2))
set_option maxHeartbeats 1000000 in
theorem tX8_inCyclesNow_33 {G : Gt} {l : Launch} {E : Ev} {S : List Sh} {mm : Mm} {x0 : Nat} {x1 : Int32} {x2 : Int32}  {r : (Int32 × Int32 × Mm) ⊕ (Int32 × Mm)} (C : Cx G E cX8_inCyclesNow 3 RX8 (some .int) 2 45) (g0 : isC S x0 8) (h : jX8_inCyclesNow_33 S mm x0 x1 x2 = some r) (kb : ∀ z : Int32 × Int32 × Mm, r = .inl z → WM G l E S 4 [(0, .ref (E.2.2 x0)), (1, .int z.1), (2, .int z.2.1)] [] z.2.2) (kx : ∀ z : Int32 × Mm, r = .inr z → WM G l E S 39 [(0, .ref (E.2.2 x0)), (1, .int z.1)] [] z.2) : WM G l E S 33 [(0, .ref (E.2.2 x0)), (1, .int x1), (2, .int x2)] [] mm := by
  unfold jX8_inCyclesNow_33 at h
  refine x_iinc (v := x2 + 1) (lv' := [(2, .int (x2 + 1)), (0, .ref (E.2.2 x0)), (1, .int x1)]) C (dq DX8_inCyclesNow 23 rfl) 2 rfl rfl (by decide) rfl ?_
  refine x_goto (tgt := 4) C (dq DX8_inCyclesNow 24 rfl) (by decide) ?_
  cases h
  exact x_lv [1, 2, 0] rfl (kb (x1, x2 + 1, mm) rfl)
set_option maxHeartbeats 1000000 in
theorem tX8_inCyclesNow_4 {G : Gt} {l : Launch} {E : Ev} {S : List Sh} {x0 : Nat} {x1 : Int32} {x2 : Int32} {mm : Mm} {r : (Int32 × Int32 × Mm) ⊕ (Int32 × Mm)} (C : Cx G E cX8_inCyclesNow 3 RX8 (some .int) 2 45) (g0 : isC S x0 8) (h : bX8_inCyclesNow_4 S x0 x1 x2 mm = some r) (kb : ∀ z : Int32 × Int32 × Mm, r = .inl z → WM G l E S 4 [(0, .ref (E.2.2 x0)), (1, .int z.1), (2, .int z.2.1)] [] z.2.2) (kx : ∀ z : Int32 × Mm, r = .inr z → WM G l E S 39 [(0, .ref (E.2.2 x0)), (1, .int z.1)] [] z.2) : WM G l E S 4 [(0, .ref (E.2.2 x0)), (1, .int x1), (2, .int x2)] [] mm := by
  unfold bX8_inCyclesNow_4 at h
  refine x_iload_n C (dq DX8_inCyclesNow 4 rfl) rfl 2 rfl ?_
  refine x_aload_n C (dq DX8_inCyclesNow 5 rfl) rfl 0 rfl ?_
  refine callX8_248 C (dq DX8_inCyclesNow 6 rfl) h (by decide) (by decide) (Nat.le_of_ble_eq_true rfl) (fun a1 h => ?_)
  refine x_icmp_ge (tgt := 39) C (dq DX8_inCyclesNow 7 rfl) (by decide) h (fun h => ?_) (fun h => ?_)
  · cases h
    exact x_lv [0, 1] rfl (kx (x1, mm) rfl)
  · refine x_pc 12 rfl ?_
    refine x_aload_n C (dq DX8_inCyclesNow 8 rfl) rfl 0 rfl ?_
    refine x_iload_n C (dq DX8_inCyclesNow 9 rfl) rfl 2 rfl ?_
    refine callX8_340 C (dq DX8_inCyclesNow 10 rfl) h (by decide) (by decide) (Nat.le_of_ble_eq_true rfl) (fun m2 h => ?_)
    refine x_aload_n C (dq DX8_inCyclesNow 11 rfl) rfl 0 rfl ?_
    refine getX8_90 C (dq DX8_inCyclesNow 12 rfl) g0 ?_
    refine x_pc 21 rfl ?_
    refine x_iload_n C (dq DX8_inCyclesNow 13 rfl) rfl 2 rfl ?_
    refine x_iald C (dq DX8_inCyclesNow 14 rfl) h (fun a3 h => ?_)
    refine x_iconst (v := (-1)) C (dq DX8_inCyclesNow 15 rfl) (by decide) ?_
    refine x_icmp_eq (tgt := 33) C (dq DX8_inCyclesNow 16 rfl) (by decide) h (fun h => ?_) (fun h => ?_)
    · exact x_lv [0, 1, 2] rfl (tX8_inCyclesNow_33 C g0 h kb kx)
    · refine x_iload_n C (dq DX8_inCyclesNow 17 rfl) rfl 1 rfl ?_
      refine x_pc 28 rfl ?_
      refine x_iconst (v := 1) C (dq DX8_inCyclesNow 18 rfl) (by decide) ?_
      refine x_iload_n C (dq DX8_inCyclesNow 19 rfl) rfl 2 rfl ?_
      refine x_ishl C (dq DX8_inCyclesNow 20 rfl) ?_
      refine x_ior C (dq DX8_inCyclesNow 21 rfl) ?_
      refine x_istore_n (lv' := [(1, .int (x1 ||| (1 <<< (x2 &&& 31)))), (0, .ref (E.2.2 x0)), (2, .int x2)]) C (dq DX8_inCyclesNow 22 rfl) rfl (by decide) rfl ?_
      exact x_lv [1, 0, 2] rfl (tX8_inCyclesNow_33 C g0 h kb kx)
set_option maxHeartbeats 1000000 in
theorem mX8_inCyclesNow {l : Launch} {E : Ev} {S : List Sh} {mm : Mm} {x0 : Nat} {r : Int32 × Mm} (h : fX8_inCyclesNow S mm x0 = some r) : Ml l E S yX8_inCyclesNow cX8_inCyclesNow 3 (some .int) 2 45 [.ref (E.2.2 x0)] mm (some (.int r.1)) r.2 := by
  refine Ml.of (by decide +kernel) (Nat.le_of_ble_eq_true rfl) (fun G C hQ => ?_)
  have C : Cx G E cX8_inCyclesNow 3 RX8 (some .int) 2 45 := C
  unfold fX8_inCyclesNow at h
  obtain ⟨g0, h⟩ := gd_some h
  show WM G l E S 0 [(0, .ref (E.2.2 x0))] [] mm
  refine x_iconst (v := 0) C (dq DX8_inCyclesNow 0 rfl) (by decide) ?_
  refine x_istore_n (lv' := [(1, .int 0), (0, .ref (E.2.2 x0))]) C (dq DX8_inCyclesNow 1 rfl) rfl (by decide) rfl ?_
  refine x_iconst (v := 0) C (dq DX8_inCyclesNow 2 rfl) (by decide) ?_
  refine x_istore_n (lv' := [(2, .int 0), (1, .int 0), (0, .ref (E.2.2 x0))]) C (dq DX8_inCyclesNow 3 rfl) rfl (by decide) rfl ?_
  refine x_lv [2, 1, 0] rfl ?_
  refine x_loop (s0 := (0, 0, mm)) (fun s4 => WM G l E S 4 [(0, .ref (E.2.2 x0)), (1, .int s4.1), (2, .int s4.2.1)] [] s4.2.2) h (fun s4 r hb kb kx => tX8_inCyclesNow_4 C g0 hb kb (fun y5 hy => ?_))
  have h := kx y5 hy
  clear kx kb hb hy
  refine x_pc 39 rfl ?_
  refine x_iload_n C (dq DX8_inCyclesNow 25 rfl) rfl 1 rfl ?_
  cases h
  exact x_iret C (dq DX8_inCyclesNow 26 rfl) hQ
set_option maxHeartbeats 1000000 in
theorem qX8_inCyclesNow {S : List Sh} {mm : Mm} {x0 : Nat} {r : Int32 × Mm} (h : fX8_inCyclesNow S mm x0 = some r) : isC S x0 8 := by
  unfold fX8_inCyclesNow at h
  exact (gd_some h).1
theorem callX8_343 {G : Gt} {l : Launch} {E : Ev} {S : List Sh} {cc : ByteArray} {nL : Nat} {rt : Option FieldType} {fr lo : Nat} {pc : Nat} {lv : List (Nat × Value)} {rest : List Value} {mm : Mm} {α : Type} {f : Int32 → Mm → Option α} {r : α} {o : Nat} (C : Cx G E cc nL RX8 rt fr lo) (d : decode cc pc = .ok (.invokevirtual 343, 3)) (h : bd2 (fX8_inCyclesNow S mm o) f = some r) (hfr : 3 ≤ fr) (hlo : 67 ≤ lo) (hrs : (rest.map fun v => v.category).sum ≤ 8) (k : ∀ v m1, f v m1 = some r → WM G l E S (pc + 3) lv (.int v :: rest) m1) : WM G l E S pc lv (.ref (E.2.2 o) :: rest) mm := by
  obtain ⟨v, m1, hv, hf⟩ := bd2_some h
  exact x_callV (n := 0) (As := []) (rest := rest) C (mX8_inCyclesNow hv) (qX8_inCyclesNow hv) (T := TX8) (N := 49) rfl (gmem 1347 (by decide +kernel) rfl) (gmem 1349 (by decide +kernel) rfl) (gmemS 87 (by decide +kernel) rfl) (gmem 9 (by decide +kernel) rfl) (gmem 1350 (by decide +kernel) rfl) (by decide +kernel) rfl hfr hlo hrs d rfl rfl (k v m1 hf)
abbrev eX8_inCycles : List (Nat × Instr × Nat) := [(0, .aload_n 0, 1), (1, .iconst 0, 1), (2, .putfield 115, 3), (5, .iload_n 1, 1), (6, .ifCond .lt 8, 3), (9, .iload_n 1, 1), (10, .iconst 1, 1), (11, .if_icmp .le 5, 3), (14, .iconst (-1), 1), (15, .ireturn, 1), (16, .aload_n 0, 1), (17, .iload_n 1, 1), (18, .iconst 1, 1), (19, .if_icmp .ne 7, 3), (22, .iconst 1, 1), (23, .goto 4, 3), (26, .iconst 0, 1), (27, .invokevirtual 336, 3), (30, .aload_n 0, 1), (31, .invokevirtual 343, 3), (34, .ireturn, 1)]
theorem DX8_inCycles : (eX8_inCycles.all fun q => decide (decode cX8_inCycles q.1 = .ok q.2)) = true := by decide +kernel
def jX8_inCycles_14 (S : List Sh) (mm : Mm) (x0 : Nat)  : Option (Int32 × Mm) := some ((-1), mm)
def jX8_inCycles_27 (S : List Sh) (mm : Mm) (x0 : Nat) (p0 : Nat) (p1 : Int32) : Option (Int32 × Mm) := bd1 (fX8_laysWaits S mm p0 p1) fun m2 => bd2 (fX8_inCyclesNow S m2 x0) fun a3 m4 => some (a3, m4)
def fX8_inCycles (S : List Sh) (mm : Mm) (x0 : Nat) (x1 : Int32) : Option (Int32 × Mm) := gd S x0 8 (bd1 (some (u1 mm x0 0 0)) fun m1 => if x1 < 0 then (jX8_inCycles_14 S m1 x0) else (if x1 ≤ 1 then (if ¬ x1 = 1 then (jX8_inCycles_27 S m1 x0 x0 0) else (jX8_inCycles_27 S m1 x0 x0 1)) else (jX8_inCycles_14 S m1 x0)))
set_option maxHeartbeats 1000000 in
theorem tX8_inCycles_14 {G : Gt} {l : Launch} {E : Ev} {S : List Sh} {mm : Mm} {x0 : Nat}  {r : Int32 × Mm} (C : Cx G E cX8_inCycles 2 RX8 (some .int) 4 93) (g0 : isC S x0 8) (h : jX8_inCycles_14 S mm x0 = some r) (hQ : RQ G E S (some (.int r.1)) r.2) : WM G l E S 14 [(0, .ref (E.2.2 x0))] [] mm := by
  unfold jX8_inCycles_14 at h
  refine x_iconst (v := (-1)) C (dq DX8_inCycles 8 rfl) (by decide) ?_
  cases h
  exact x_iret C (dq DX8_inCycles 9 rfl) hQ
set_option maxHeartbeats 1000000 in
theorem tX8_inCycles_27 {G : Gt} {l : Launch} {E : Ev} {S : List Sh} {mm : Mm} {x0 : Nat} {p0 : Nat} {p1 : Int32} {r : Int32 × Mm} (C : Cx G E cX8_inCycles 2 RX8 (some .int) 4 93) (g0 : isC S x0 8) (h : jX8_inCycles_27 S mm x0 p0 p1 = some r) (hQ : RQ G E S (some (.int r.1)) r.2) : WM G l E S 27 [(0, .ref (E.2.2 x0))] [.int p1, .ref (E.2.2 p0)] mm := by
  unfold jX8_inCycles_27 at h
  refine callX8_336 C (dq DX8_inCycles 17 rfl) h (by decide) (by decide) (Nat.le_of_ble_eq_true rfl) (fun m2 h => ?_)
  refine x_aload_n C (dq DX8_inCycles 18 rfl) rfl 0 rfl ?_
  refine callX8_343 C (dq DX8_inCycles 19 rfl) h (by decide) (by decide) (Nat.le_of_ble_eq_true rfl) (fun a3 m4 h => ?_)
  cases h
  exact x_iret C (dq DX8_inCycles 20 rfl) hQ
set_option maxHeartbeats 1000000 in
theorem mX8_inCycles {l : Launch} {E : Ev} {S : List Sh} {mm : Mm} {x0 : Nat} {x1 : Int32} {r : Int32 × Mm} (h : fX8_inCycles S mm x0 x1 = some r) : Ml l E S yX8_inCycles cX8_inCycles 2 (some .int) 4 93 [.ref (E.2.2 x0), .int x1] mm (some (.int r.1)) r.2 := by
  refine Ml.of (by decide +kernel) (Nat.le_of_ble_eq_true rfl) (fun G C hQ => ?_)
  have C : Cx G E cX8_inCycles 2 RX8 (some .int) 4 93 := C
  unfold fX8_inCycles at h
  obtain ⟨g0, h⟩ := gd_some h
  show WM G l E S 0 [(0, .ref (E.2.2 x0)), (1, .int x1)] [] mm
  refine x_aload_n C (dq DX8_inCycles 0 rfl) rfl 0 rfl ?_
  refine x_iconst (v := 0) C (dq DX8_inCycles 1 rfl) (by decide) ?_
  refine putX8_115 C (dq DX8_inCycles 2 rfl) g0 h (fun m1 h => ?_)
  refine x_iload_n C (dq DX8_inCycles 3 rfl) rfl 1 rfl ?_
  refine x_pc 6 rfl ?_
  refine x_if_lt (tgt := 14) C (dq DX8_inCycles 4 rfl) (by decide) h (fun h => ?_) (fun h => ?_)
  · exact x_lv [0] rfl (tX8_inCycles_14 C g0 h hQ)
  · refine x_iload_n C (dq DX8_inCycles 5 rfl) rfl 1 rfl ?_
    refine x_iconst (v := 1) C (dq DX8_inCycles 6 rfl) (by decide) ?_
    refine x_icmp_le (tgt := 16) C (dq DX8_inCycles 7 rfl) (by decide) h (fun h => ?_) (fun h => ?_)
    · refine x_aload_n C (dq DX8_inCycles 10 rfl) rfl 0 rfl ?_
      refine x_pc 17 rfl ?_
      refine x_iload_n C (dq DX8_inCycles 11 rfl) rfl 1 rfl ?_
      refine x_iconst (v := 1) C (dq DX8_inCycles 12 rfl) (by decide) ?_
      refine x_icmp_ne (tgt := 26) C (dq DX8_inCycles 13 rfl) (by decide) h (fun h => ?_) (fun h => ?_)
      · refine x_iconst (v := 0) C (dq DX8_inCycles 16 rfl) (by decide) ?_
        exact x_lv [0] rfl (tX8_inCycles_27 C g0 h hQ)
      · refine x_iconst (v := 1) C (dq DX8_inCycles 14 rfl) (by decide) ?_
        refine x_goto (tgt := 27) C (dq DX8_inCycles 15 rfl) (by decide) ?_
        exact x_lv [0] rfl (tX8_inCycles_27 C g0 h hQ)
    · exact x_lv [0] rfl (tX8_inCycles_14 C g0 h hQ)
set_option maxHeartbeats 1000000 in
theorem qX8_inCycles {S : List Sh} {mm : Mm} {x0 : Nat} {x1 : Int32} {r : Int32 × Mm} (h : fX8_inCycles S mm x0 x1 = some r) : isC S x0 8 := by
  unfold fX8_inCycles at h
  exact (gd_some h).1
theorem getX8_93 {G : Gt} {l : Launch} {E : Ev} {S : List Sh} {cc : ByteArray} {nL : Nat} {rt : Option FieldType} {fr lo : Nat} {pc : Nat} {lv : List (Nat × Value)} {st : List Value} {mm : Mm} {o : Nat} (C : Cx G E cc nL RX8 rt fr lo) (d : decode cc pc = .ok (.getfield 93, 3)) (hg : isC S o 8) (k : WM G l E S (pc + 3) lv (.ref (E.2.2 (rf S mm o 41)) :: st) mm) : WM G l E S pc lv (.ref (E.2.2 o) :: st) mm := x_get2 C hg (T := TX8) (N := 49) rfl inX8 (by decide) (i := 41) (gmem 906 (by decide +kernel) rfl) rfl rfl d k
theorem getX8_346 {G : Gt} {l : Launch} {E : Ev} {S : List Sh} {cc : ByteArray} {nL : Nat} {rt : Option FieldType} {fr lo : Nat} {pc : Nat} {lv : List (Nat × Value)} {st : List Value} {mm : Mm} {o : Nat} (C : Cx G E cc nL RX8 rt fr lo) (d : decode cc pc = .ok (.getfield 346, 3)) (hg : isC S o 8) (k : WM G l E S (pc + 3) lv (.int (mm.1 o 42) :: st) mm) : WM G l E S pc lv (.ref (E.2.2 o) :: st) mm := x_get0 C hg (T := TX8) (N := 49) rfl inX8 (by decide) (i := 42) (gmem 907 (by decide +kernel) rfl) rfl rfl d k
theorem putX8_346 {G : Gt} {l : Launch} {E : Ev} {S : List Sh} {cc : ByteArray} {nL : Nat} {rt : Option FieldType} {fr lo : Nat} {pc : Nat} {lv : List (Nat × Value)} {st : List Value} {mm : Mm} {o : Nat} {α : Type} {f : Mm → Option α} {r : α} {x : Int32} (C : Cx G E cc nL RX8 rt fr lo) (d : decode cc pc = .ok (.putfield 346, 3)) (hg : isC S o 8) (h : bd1 (some (u1 mm o 42 x)) f = some r) (k : ∀ m1, f m1 = some r → WM G l E S (pc + 3) lv st m1) : WM G l E S pc lv (.int x :: .ref (E.2.2 o) :: st) mm := x_putI C hg (T := TX8) (N := 49) rfl inX8 (by decide) (i := 42) (gmem 907 (by decide +kernel) rfl) rfl tyX8 tyX8_ok nmX8 rfl rfl (by decide) (by decide +kernel) d (k _ h)
abbrev eX8_laysCycle : List (Nat × Instr × Nat) := [(0, .aload_n 0, 1), (1, .iconst 0, 1), (2, .invokevirtual 336, 3), (5, .aload_n 0, 1), (6, .iconst 0, 1), (7, .putfield 346, 3), (10, .aload_n 0, 1), (11, .invokevirtual 343, 3), (14, .istore_n 1, 1), (15, .iload_n 1, 1), (16, .ifCond .ne 4, 3), (19, .return_, 1), (20, .iconst 0, 1), (21, .istore_n 2, 1), (22, .iload_n 1, 1), (23, .iload_n 2, 1), (24, .ishr, 1), (25, .iconst 1, 1), (26, .iand, 1), (27, .ifCond .ne 9, 3), (30, .iinc 2 1, 3), (33, .goto (-11), 3), (36, .aload_n 0, 1), (37, .iload_n 2, 1), (38, .invokevirtual 340, 3), (41, .aload_n 0, 1), (42, .aload_n 0, 1), (43, .getfield 90, 3), (46, .iload_n 2, 1), (47, .iaload, 1), (48, .putfield 346, 3), (51, .iload_n 2, 1), (52, .istore_n 3, 1), (53, .iconst 0, 1), (54, .istore 4, 2), (56, .iload 4, 2), (58, .aload_n 0, 1), (59, .getfield 346, 3), (62, .if_icmp .ge 79, 3), (65, .aload_n 0, 1), (66, .getfield 93, 3), (69, .iload 4, 2), (71, .iload_n 3, 1), (72, .iastore, 1), (73, .iconst 0, 1), (74, .istore 5, 2), (76, .iload 4, 2), (78, .iconst 1, 1), (79, .iadd, 1), (80, .aload_n 0, 1), (81, .getfield 346, 3), (84, .if_icmp .ge 48, 3), (87, .aload_n 0, 1), (88, .getfield 87, 3), (91, .iload_n 3, 1), (92, .iaload, 1), (93, .iload 5, 2), (95, .ishr, 1), (96, .iconst 1, 1), (97, .iand, 1), (98, .ifCond .eq 28, 3), (101, .iload 5, 2), (103, .iload_n 2, 1), (104, .if_icmp .eq 22, 3), (107, .aload_n 0, 1), (108, .getfield 90, 3), (111, .iload 5, 2), (113, .iaload, 1), (114, .aload_n 0, 1), (115, .getfield 346, 3), (118, .iload 4, 2), (120, .isub, 1), (121, .iconst 1, 1), (122, .isub, 1), (123, .if_icmp .eq 9, 3), (126, .iinc 5 1, 3), (129, .goto (-53), 3), (132, .iload 5, 2), (134, .istore_n 3, 1), (135, .iinc 4 1, 3), (138, .goto (-82), 3), (141, .return_, 1)]
theorem DX8_laysCycle : (eX8_laysCycle.all fun q => decide (decode cX8_laysCycle q.1 = .ok q.2)) = true := by decide +kernel
def bX8_laysCycle_22 (S : List Sh) (mm : Mm) (x0 : Nat) (x1 : Int32) (x2 : Int32) : Option ((Int32) ⊕ (Int32)) := if ¬ ((x1 >>> (x2 &&& 31)) &&& 1) = 0 then (some (.inr (x2))) else (some (.inl (x2 + 1)))
def jX8_laysCycle_126 (S : List Sh) (mm : Mm) (x0 : Nat) (x2 : Int32) (x3 : Int32) (x4 : Int32) (x5 : Int32)  : Option ((Int32) ⊕ (Int32)) := some (.inl (x5 + 1))
def bX8_laysCycle_76 (S : List Sh) (mm : Mm) (x0 : Nat) (x2 : Int32) (x3 : Int32) (x4 : Int32) (x5 : Int32) : Option ((Int32) ⊕ (Int32)) := if (mm.1 x0 42) ≤ (x4 + 1) then (some (.inr (x5))) else (bd1 (ldA S 0 mm (rf S mm x0 39) x3) fun a11 => if ((a11 >>> (x5 &&& 31)) &&& 1) = 0 then (jX8_laysCycle_126 S mm x0 x2 x3 x4 x5) else (if x5 = x2 then (jX8_laysCycle_126 S mm x0 x2 x3 x4 x5) else (bd1 (ldA S 0 mm (rf S mm x0 40) x5) fun a12 => if a12 = (((mm.1 x0 42) - x4) - 1) then (some (.inr (x5))) else (jX8_laysCycle_126 S mm x0 x2 x3 x4 x5))))
def jX8_laysCycle_132 (S : List Sh) (mm : Mm) (x0 : Nat) (x2 : Int32) (x4 : Int32) (x5 : Int32)  : Option ((Int32 × Int32 × Mm) ⊕ (Mm)) := some (.inl (x5, x4 + 1, mm))
def bX8_laysCycle_56 (S : List Sh) (x0 : Nat) (x2 : Int32) (x3 : Int32) (x4 : Int32) (mm : Mm) : Option ((Int32 × Int32 × Mm) ⊕ (Mm)) := if (mm.1 x0 42) ≤ x4 then (some (.inr (mm))) else (bd1 (stA S 0 mm (rf S mm x0 41) x4 x3) fun m10 => bd1 (lp (fun s13 => bX8_laysCycle_76 S m10 x0 x2 x3 x4 s13) fu 0) fun y14 => jX8_laysCycle_132 S m10 x0 x2 x4 y14)
def fX8_laysCycle (S : List Sh) (mm : Mm) (x0 : Nat) : Option (Mm) := gd S x0 8 (bd1 (fX8_laysWaits S mm x0 0) fun m1 => bd1 (some (u1 m1 x0 42 0)) fun m2 => bd2 (fX8_inCyclesNow S m2 x0) fun a3 m4 => if ¬ a3 = 0 then (bd1 (lp (fun s5 => bX8_laysCycle_22 S m4 x0 a3 s5) fu 0) fun y6 => bd1 (fX8_laysSteps S m4 x0 y6) fun m7 => bd1 (ldA S 0 m7 (rf S m7 x0 40) y6) fun a8 => bd1 (some (u1 m7 x0 42 a8)) fun m9 => bd1 (lp (fun s15 => bX8_laysCycle_56 S x0 y6 s15.1 s15.2.1 s15.2.2) fu (y6, 0, m9)) fun y16 => some y16) else (some m4))
set_option maxHeartbeats 1000000 in
theorem tX8_laysCycle_22 {G : Gt} {l : Launch} {E : Ev} {S : List Sh} {mm : Mm} {x0 : Nat} {x1 : Int32} {x2 : Int32} {r : (Int32) ⊕ (Int32)} (C : Cx G E cX8_laysCycle 6 RX8 none 4 93) (g0 : isC S x0 8) (h : bX8_laysCycle_22 S mm x0 x1 x2 = some r) (kb : ∀ z : Int32, r = .inl z → WM G l E S 22 [(0, .ref (E.2.2 x0)), (1, .int x1), (2, .int z)] [] mm) (kx : ∀ z : Int32, r = .inr z → WM G l E S 36 [(0, .ref (E.2.2 x0)), (1, .int x1), (2, .int z)] [] mm) : WM G l E S 22 [(0, .ref (E.2.2 x0)), (1, .int x1), (2, .int x2)] [] mm := by
  unfold bX8_laysCycle_22 at h
  refine x_iload_n C (dq DX8_laysCycle 14 rfl) rfl 1 rfl ?_
  refine x_iload_n C (dq DX8_laysCycle 15 rfl) rfl 2 rfl ?_
  refine x_ishr C (dq DX8_laysCycle 16 rfl) ?_
  refine x_iconst (v := 1) C (dq DX8_laysCycle 17 rfl) (by decide) ?_
  refine x_pc 26 rfl ?_
  refine x_iand C (dq DX8_laysCycle 18 rfl) ?_
  refine x_if_ne (tgt := 36) C (dq DX8_laysCycle 19 rfl) (by decide) h (fun h => ?_) (fun h => ?_)
  · cases h
    exact x_lv [0, 1, 2] rfl (kx (x2) rfl)
  · refine x_iinc (v := x2 + 1) (lv' := [(2, .int (x2 + 1)), (0, .ref (E.2.2 x0)), (1, .int x1)]) C (dq DX8_laysCycle 20 rfl) 2 rfl rfl (by decide) rfl ?_
    refine x_goto (tgt := 22) C (dq DX8_laysCycle 21 rfl) (by decide) ?_
    cases h
    exact x_lv [1, 2, 0] rfl (kb (x2 + 1) rfl)
set_option maxHeartbeats 1000000 in
theorem tX8_laysCycle_126 {G : Gt} {l : Launch} {E : Ev} {S : List Sh} {mm : Mm} {x0 : Nat} {x2 : Int32} {x3 : Int32} {x4 : Int32} {x5 : Int32}  {r : (Int32) ⊕ (Int32)} (C : Cx G E cX8_laysCycle 6 RX8 none 4 93) (g0 : isC S x0 8) (h : jX8_laysCycle_126 S mm x0 x2 x3 x4 x5 = some r) (kb : ∀ z : Int32, r = .inl z → WM G l E S 76 [(0, .ref (E.2.2 x0)), (2, .int x2), (3, .int x3), (4, .int x4), (5, .int z)] [] mm) (kx : ∀ z : Int32, r = .inr z → WM G l E S 132 [(0, .ref (E.2.2 x0)), (2, .int x2), (3, .int x3), (4, .int x4), (5, .int z)] [] mm) : WM G l E S 126 [(0, .ref (E.2.2 x0)), (2, .int x2), (3, .int x3), (4, .int x4), (5, .int x5)] [] mm := by
  unfold jX8_laysCycle_126 at h
  refine x_iinc (v := x5 + 1) (lv' := [(5, .int (x5 + 1)), (0, .ref (E.2.2 x0)), (2, .int x2), (3, .int x3), (4, .int x4)]) C (dq DX8_laysCycle 75 rfl) 4 rfl rfl (by decide) rfl ?_
  refine x_goto (tgt := 76) C (dq DX8_laysCycle 76 rfl) (by decide) ?_
  cases h
  exact x_lv [1, 2, 3, 4, 0] rfl (kb (x5 + 1) rfl)
set_option maxHeartbeats 1000000 in
theorem tX8_laysCycle_76 {G : Gt} {l : Launch} {E : Ev} {S : List Sh} {mm : Mm} {x0 : Nat} {x2 : Int32} {x3 : Int32} {x4 : Int32} {x5 : Int32} {r : (Int32) ⊕ (Int32)} (C : Cx G E cX8_laysCycle 6 RX8 none 4 93) (g0 : isC S x0 8) (h : bX8_laysCycle_76 S mm x0 x2 x3 x4 x5 = some r) (kb : ∀ z : Int32, r = .inl z → WM G l E S 76 [(0, .ref (E.2.2 x0)), (2, .int x2), (3, .int x3), (4, .int x4), (5, .int z)] [] mm) (kx : ∀ z : Int32, r = .inr z → WM G l E S 132 [(0, .ref (E.2.2 x0)), (2, .int x2), (3, .int x3), (4, .int x4), (5, .int z)] [] mm) : WM G l E S 76 [(0, .ref (E.2.2 x0)), (2, .int x2), (3, .int x3), (4, .int x4), (5, .int x5)] [] mm := by
  unfold bX8_laysCycle_76 at h
  refine x_iload C (dq DX8_laysCycle 46 rfl) 3 rfl ?_
  refine x_iconst (v := 1) C (dq DX8_laysCycle 47 rfl) (by decide) ?_
  refine x_iadd C (dq DX8_laysCycle 48 rfl) ?_
  refine x_aload_n C (dq DX8_laysCycle 49 rfl) rfl 0 rfl ?_
  refine x_pc 81 rfl ?_
  refine getX8_346 C (dq DX8_laysCycle 50 rfl) g0 ?_
  refine x_icmp_ge (tgt := 132) C (dq DX8_laysCycle 51 rfl) (by decide) h (fun h => ?_) (fun h => ?_)
  · cases h
    exact x_lv [0, 1, 2, 3, 4] rfl (kx (x5) rfl)
  · refine x_aload_n C (dq DX8_laysCycle 52 rfl) rfl 0 rfl ?_
    refine getX8_87 C (dq DX8_laysCycle 53 rfl) g0 ?_
    refine x_iload_n C (dq DX8_laysCycle 54 rfl) rfl 2 rfl ?_
    refine x_pc 92 rfl ?_
    refine x_iald C (dq DX8_laysCycle 55 rfl) h (fun a11 h => ?_)
    refine x_iload C (dq DX8_laysCycle 56 rfl) 4 rfl ?_
    refine x_ishr C (dq DX8_laysCycle 57 rfl) ?_
    refine x_iconst (v := 1) C (dq DX8_laysCycle 58 rfl) (by decide) ?_
    refine x_iand C (dq DX8_laysCycle 59 rfl) ?_
    refine x_pc 98 rfl ?_
    refine x_if_eq (tgt := 126) C (dq DX8_laysCycle 60 rfl) (by decide) h (fun h => ?_) (fun h => ?_)
    · exact x_lv [0, 1, 2, 3, 4] rfl (tX8_laysCycle_126 C g0 h kb kx)
    · refine x_iload C (dq DX8_laysCycle 61 rfl) 4 rfl ?_
      refine x_iload_n C (dq DX8_laysCycle 62 rfl) rfl 1 rfl ?_
      refine x_icmp_eq (tgt := 126) C (dq DX8_laysCycle 63 rfl) (by decide) h (fun h => ?_) (fun h => ?_)
      · exact x_lv [0, 1, 2, 3, 4] rfl (tX8_laysCycle_126 C g0 h kb kx)
      · refine x_aload_n C (dq DX8_laysCycle 64 rfl) rfl 0 rfl ?_
        refine x_pc 108 rfl ?_
        refine getX8_90 C (dq DX8_laysCycle 65 rfl) g0 ?_
        refine x_iload C (dq DX8_laysCycle 66 rfl) 4 rfl ?_
        refine x_iald C (dq DX8_laysCycle 67 rfl) h (fun a12 h => ?_)
        refine x_aload_n C (dq DX8_laysCycle 68 rfl) rfl 0 rfl ?_
        refine getX8_346 C (dq DX8_laysCycle 69 rfl) g0 ?_
        refine x_pc 118 rfl ?_
        refine x_iload C (dq DX8_laysCycle 70 rfl) 3 rfl ?_
        refine x_isub C (dq DX8_laysCycle 71 rfl) ?_
        refine x_iconst (v := 1) C (dq DX8_laysCycle 72 rfl) (by decide) ?_
        refine x_isub C (dq DX8_laysCycle 73 rfl) ?_
        refine x_icmp_eq (tgt := 132) C (dq DX8_laysCycle 74 rfl) (by decide) h (fun h => ?_) (fun h => ?_)
        · cases h
          exact x_lv [0, 1, 2, 3, 4] rfl (kx (x5) rfl)
        · exact x_lv [0, 1, 2, 3, 4] rfl (tX8_laysCycle_126 C g0 h kb kx)
set_option maxHeartbeats 1000000 in
theorem tX8_laysCycle_132 {G : Gt} {l : Launch} {E : Ev} {S : List Sh} {mm : Mm} {x0 : Nat} {x2 : Int32} {x4 : Int32} {x5 : Int32}  {r : (Int32 × Int32 × Mm) ⊕ (Mm)} (C : Cx G E cX8_laysCycle 6 RX8 none 4 93) (g0 : isC S x0 8) (h : jX8_laysCycle_132 S mm x0 x2 x4 x5 = some r) (kb : ∀ z : Int32 × Int32 × Mm, r = .inl z → WM G l E S 56 [(0, .ref (E.2.2 x0)), (2, .int x2), (3, .int z.1), (4, .int z.2.1)] [] z.2.2) (kx : ∀ z : Mm, r = .inr z → WM G l E S 141 [(0, .ref (E.2.2 x0)), (2, .int x2)] [] z) : WM G l E S 132 [(0, .ref (E.2.2 x0)), (2, .int x2), (4, .int x4), (5, .int x5)] [] mm := by
  unfold jX8_laysCycle_132 at h
  refine x_iload C (dq DX8_laysCycle 77 rfl) 3 rfl ?_
  refine x_istore_n (lv' := [(3, .int x5), (0, .ref (E.2.2 x0)), (2, .int x2), (4, .int x4), (5, .int x5)]) C (dq DX8_laysCycle 78 rfl) rfl (by decide) rfl ?_
  refine x_iinc (v := x4 + 1) (lv' := [(4, .int (x4 + 1)), (3, .int x5), (0, .ref (E.2.2 x0)), (2, .int x2), (5, .int x5)]) C (dq DX8_laysCycle 79 rfl) 3 rfl rfl (by decide) rfl ?_
  refine x_goto (tgt := 56) C (dq DX8_laysCycle 80 rfl) (by decide) ?_
  cases h
  exact x_lv [2, 3, 1, 0] rfl (kb (x5, x4 + 1, mm) rfl)
set_option maxHeartbeats 1000000 in
theorem tX8_laysCycle_56 {G : Gt} {l : Launch} {E : Ev} {S : List Sh} {x0 : Nat} {x2 : Int32} {x3 : Int32} {x4 : Int32} {mm : Mm} {r : (Int32 × Int32 × Mm) ⊕ (Mm)} (C : Cx G E cX8_laysCycle 6 RX8 none 4 93) (g0 : isC S x0 8) (h : bX8_laysCycle_56 S x0 x2 x3 x4 mm = some r) (kb : ∀ z : Int32 × Int32 × Mm, r = .inl z → WM G l E S 56 [(0, .ref (E.2.2 x0)), (2, .int x2), (3, .int z.1), (4, .int z.2.1)] [] z.2.2) (kx : ∀ z : Mm, r = .inr z → WM G l E S 141 [(0, .ref (E.2.2 x0)), (2, .int x2)] [] z) : WM G l E S 56 [(0, .ref (E.2.2 x0)), (2, .int x2), (3, .int x3), (4, .int x4)] [] mm := by
  unfold bX8_laysCycle_56 at h
  refine x_iload C (dq DX8_laysCycle 35 rfl) 3 rfl ?_
  refine x_aload_n C (dq DX8_laysCycle 36 rfl) rfl 0 rfl ?_
  refine getX8_346 C (dq DX8_laysCycle 37 rfl) g0 ?_
  refine x_icmp_ge (tgt := 141) C (dq DX8_laysCycle 38 rfl) (by decide) h (fun h => ?_) (fun h => ?_)
  · cases h
    exact x_lv [0, 1] rfl (kx (mm) rfl)
  · refine x_pc 65 rfl ?_
    refine x_aload_n C (dq DX8_laysCycle 39 rfl) rfl 0 rfl ?_
    refine getX8_93 C (dq DX8_laysCycle 40 rfl) g0 ?_
    refine x_iload C (dq DX8_laysCycle 41 rfl) 3 rfl ?_
    refine x_iload_n C (dq DX8_laysCycle 42 rfl) rfl 2 rfl ?_
    refine x_iast C (dq DX8_laysCycle 43 rfl) h (fun m10 h => ?_)
    refine x_pc 73 rfl ?_
    refine x_iconst (v := 0) C (dq DX8_laysCycle 44 rfl) (by decide) ?_
    refine x_istore (lv' := [(5, .int 0), (0, .ref (E.2.2 x0)), (2, .int x2), (3, .int x3), (4, .int x4)]) C (dq DX8_laysCycle 45 rfl) (by decide) rfl ?_
    refine x_lv [1, 2, 3, 4, 0] rfl ?_
    refine x_loop (s0 := 0) (fun s13 => WM G l E S 76 [(0, .ref (E.2.2 x0)), (2, .int x2), (3, .int x3), (4, .int x4), (5, .int s13)] [] m10) h (fun s13 r hb kb kx => tX8_laysCycle_76 C g0 hb kb (fun y14 hy => ?_))
    have h := kx y14 hy
    clear kx kb hb hy
    exact x_lv [0, 1, 3, 4] rfl (tX8_laysCycle_132 C g0 h kb kx)
set_option maxHeartbeats 1000000 in
theorem mX8_laysCycle {l : Launch} {E : Ev} {S : List Sh} {mm : Mm} {x0 : Nat} {r : Mm} (h : fX8_laysCycle S mm x0 = some r) : Ml l E S yX8_laysCycle cX8_laysCycle 6 none 4 93 [.ref (E.2.2 x0)] mm none r := by
  refine Ml.of (by decide +kernel) (Nat.le_of_ble_eq_true rfl) (fun G C hQ => ?_)
  have C : Cx G E cX8_laysCycle 6 RX8 none 4 93 := C
  unfold fX8_laysCycle at h
  obtain ⟨g0, h⟩ := gd_some h
  show WM G l E S 0 [(0, .ref (E.2.2 x0))] [] mm
  refine x_aload_n C (dq DX8_laysCycle 0 rfl) rfl 0 rfl ?_
  refine x_iconst (v := 0) C (dq DX8_laysCycle 1 rfl) (by decide) ?_
  refine callX8_336 C (dq DX8_laysCycle 2 rfl) h (by decide) (by decide) (Nat.le_of_ble_eq_true rfl) (fun m1 h => ?_)
  refine x_aload_n C (dq DX8_laysCycle 3 rfl) rfl 0 rfl ?_
  refine x_pc 6 rfl ?_
  refine x_iconst (v := 0) C (dq DX8_laysCycle 4 rfl) (by decide) ?_
  refine putX8_346 C (dq DX8_laysCycle 5 rfl) g0 h (fun m2 h => ?_)
  refine x_aload_n C (dq DX8_laysCycle 6 rfl) rfl 0 rfl ?_
  refine callX8_343 C (dq DX8_laysCycle 7 rfl) h (by decide) (by decide) (Nat.le_of_ble_eq_true rfl) (fun a3 m4 h => ?_)
  refine x_istore_n (lv' := [(1, .int a3), (0, .ref (E.2.2 x0))]) C (dq DX8_laysCycle 8 rfl) rfl (by decide) rfl ?_
  refine x_pc 15 rfl ?_
  refine x_iload_n C (dq DX8_laysCycle 9 rfl) rfl 0 rfl ?_
  refine x_if_ne (tgt := 20) C (dq DX8_laysCycle 10 rfl) (by decide) h (fun h => ?_) (fun h => ?_)
  · refine x_iconst (v := 0) C (dq DX8_laysCycle 12 rfl) (by decide) ?_
    refine x_istore_n (lv' := [(2, .int 0), (1, .int a3), (0, .ref (E.2.2 x0))]) C (dq DX8_laysCycle 13 rfl) rfl (by decide) rfl ?_
    refine x_lv [2, 1, 0] rfl ?_
    refine x_loop (s0 := 0) (fun s5 => WM G l E S 22 [(0, .ref (E.2.2 x0)), (1, .int a3), (2, .int s5)] [] m4) h (fun s5 r hb kb kx => tX8_laysCycle_22 C g0 hb kb (fun y6 hy => ?_))
    have h := kx y6 hy
    clear kx kb hb hy
    refine x_aload_n C (dq DX8_laysCycle 22 rfl) rfl 0 rfl ?_
    refine x_pc 37 rfl ?_
    refine x_iload_n C (dq DX8_laysCycle 23 rfl) rfl 2 rfl ?_
    refine callX8_340 C (dq DX8_laysCycle 24 rfl) h (by decide) (by decide) (Nat.le_of_ble_eq_true rfl) (fun m7 h => ?_)
    refine x_aload_n C (dq DX8_laysCycle 25 rfl) rfl 0 rfl ?_
    refine x_aload_n C (dq DX8_laysCycle 26 rfl) rfl 0 rfl ?_
    refine getX8_90 C (dq DX8_laysCycle 27 rfl) g0 ?_
    refine x_pc 46 rfl ?_
    refine x_iload_n C (dq DX8_laysCycle 28 rfl) rfl 2 rfl ?_
    refine x_iald C (dq DX8_laysCycle 29 rfl) h (fun a8 h => ?_)
    refine putX8_346 C (dq DX8_laysCycle 30 rfl) g0 h (fun m9 h => ?_)
    refine x_iload_n C (dq DX8_laysCycle 31 rfl) rfl 2 rfl ?_
    refine x_istore_n (lv' := [(3, .int y6), (0, .ref (E.2.2 x0)), (1, .int a3), (2, .int y6)]) C (dq DX8_laysCycle 32 rfl) rfl (by decide) rfl ?_
    refine x_pc 53 rfl ?_
    refine x_iconst (v := 0) C (dq DX8_laysCycle 33 rfl) (by decide) ?_
    refine x_istore (lv' := [(4, .int 0), (3, .int y6), (0, .ref (E.2.2 x0)), (1, .int a3), (2, .int y6)]) C (dq DX8_laysCycle 34 rfl) (by decide) rfl ?_
    refine x_lv [2, 4, 1, 0] rfl ?_
    refine x_loop (s0 := (y6, 0, m9)) (fun s15 => WM G l E S 56 [(0, .ref (E.2.2 x0)), (2, .int y6), (3, .int s15.1), (4, .int s15.2.1)] [] s15.2.2) h (fun s15 r hb kb kx => tX8_laysCycle_56 C g0 hb kb (fun y16 hy => ?_))
    have h := kx y16 hy
    clear kx kb hb hy
    cases h
    exact x_vret C (dq DX8_laysCycle 81 rfl) hQ
  · cases h
    exact x_vret C (dq DX8_laysCycle 11 rfl) hQ
set_option maxHeartbeats 1000000 in
theorem qX8_laysCycle {S : List Sh} {mm : Mm} {x0 : Nat} {r : Mm} (h : fX8_laysCycle S mm x0 = some r) : isC S x0 8 := by
  unfold fX8_laysCycle at h
  exact (gd_some h).1
