abbrev eX7_stalls : List (Nat × Instr × Nat) := [(0, .aload_n 0, 1), (1, .invokevirtual 226, 3), (4, .iconst 0, 1), (5, .istore_n 1, 1), (6, .iload_n 1, 1), (7, .sipush 300, 3), (10, .if_icmp .gt 44, 3), (13, .aload_n 0, 1), (14, .getfield 33, 3), (17, .aload_n 0, 1), (18, .getfield 61, 3), (21, .aload_n 0, 1), (22, .getfield 55, 3), (25, .invokevirtual 203, 3), (28, .ifCond .eq 5, 3), (31, .iload_n 1, 1), (32, .ireturn, 1), (33, .aload_n 0, 1), (34, .getfield 26, 3), (37, .aload_n 0, 1), (38, .getfield 61, 3), (41, .aload_n 0, 1), (42, .getfield 55, 3), (45, .invokevirtual 229, 3), (48, .iinc 1 1, 3), (51, .goto (-45), 3), (54, .bipush (-2), 2), (56, .ireturn, 1)]
theorem DX7_stalls : (eX7_stalls.all fun q => decide (decode cX7_stalls q.1 = .ok q.2)) = true := by decide +kernel
def bX7_stalls_6 (S : List Sh) (x0 : Nat) (x1 : Int32) (mm : Mm) : Option ((Int32 × Mm) ⊕ ((Int32 × Mm) ⊕ (Mm))) := if 300 < x1 then (some (.inr (.inr (mm)))) else (bd2 (fX6_inPauseCycles S mm (rf S mm x0 3) (rf S mm x0 8) (rf S mm x0 7)) fun a2 m3 => if a2 = 0 then (bd1 (fX5_step S m3 (rf S m3 x0 2) (rf S m3 x0 8) (rf S m3 x0 7)) fun m4 => some (.inl (x1 + 1, m4))) else (some (.inr (.inl (x1, m3)))))
def fX7_stalls (S : List Sh) (mm : Mm) (x0 : Nat) : Option (Int32 × Mm) := gd S x0 7 (bd1 (fX7_startTrial S mm x0) fun m1 => bdR (lp (fun s5 => bX7_stalls_6 S x0 s5.1 s5.2) fu (0, m1)) (fun a7 => some a7) fun y6 => some ((-2), y6))
set_option maxHeartbeats 1000000 in
theorem tX7_stalls_6 {G : Gt} {l : Launch} {E : Ev} {S : List Sh} {x0 : Nat} {x1 : Int32} {mm : Mm} {r : (Int32 × Mm) ⊕ ((Int32 × Mm) ⊕ (Mm))} (C : Cx G E cX7_stalls 2 RX7 (some .int) 4 107) (g0 : isC S x0 7) (h : bX7_stalls_6 S x0 x1 mm = some r) (kb : ∀ z : Int32 × Mm, r = .inl z → WM G l E S 6 [(0, .ref (E.2.2 x0)), (1, .int z.1)] [] z.2) (kr : ∀ z : Int32 × Mm, r = .inr (.inl z) → RQ G E S (some (.int z.1)) z.2) (kx : ∀ z : Mm, r = .inr (.inr z) → WM G l E S 54 [(0, .ref (E.2.2 x0))] [] z) : WM G l E S 6 [(0, .ref (E.2.2 x0)), (1, .int x1)] [] mm := by
  unfold bX7_stalls_6 at h
  refine x_iload_n C (dq DX7_stalls 4 rfl) rfl 1 rfl ?_
  refine x_sipush (v := 300) C (dq DX7_stalls 5 rfl) (by decide) ?_
  refine x_icmp_gt (tgt := 54) C (dq DX7_stalls 6 rfl) (by decide) h (fun h => ?_) (fun h => ?_)
  · cases h
    exact x_lv [0] rfl (kx (mm) rfl)
  · refine x_aload_n C (dq DX7_stalls 7 rfl) rfl 0 rfl ?_
    refine x_pc 14 rfl ?_
    refine getX7_33 C (dq DX7_stalls 8 rfl) g0 ?_
    refine x_aload_n C (dq DX7_stalls 9 rfl) rfl 0 rfl ?_
    refine getX7_61 C (dq DX7_stalls 10 rfl) g0 ?_
    refine x_aload_n C (dq DX7_stalls 11 rfl) rfl 0 rfl ?_
    refine getX7_55 C (dq DX7_stalls 12 rfl) g0 ?_
    refine x_pc 25 rfl ?_
    refine callX7_203 C (dq DX7_stalls 13 rfl) h (by decide) (by decide) (Nat.le_of_ble_eq_true rfl) (fun a2 m3 h => ?_)
    refine x_if_eq (tgt := 33) C (dq DX7_stalls 14 rfl) (by decide) h (fun h => ?_) (fun h => ?_)
    · refine x_aload_n C (dq DX7_stalls 17 rfl) rfl 0 rfl ?_
      refine getX7_26 C (dq DX7_stalls 18 rfl) g0 ?_
      refine x_aload_n C (dq DX7_stalls 19 rfl) rfl 0 rfl ?_
      refine x_pc 38 rfl ?_
      refine getX7_61 C (dq DX7_stalls 20 rfl) g0 ?_
      refine x_aload_n C (dq DX7_stalls 21 rfl) rfl 0 rfl ?_
      refine getX7_55 C (dq DX7_stalls 22 rfl) g0 ?_
      refine callX7_229 C (dq DX7_stalls 23 rfl) h (by decide) (by decide) (Nat.le_of_ble_eq_true rfl) (fun m4 h => ?_)
      refine x_iinc (v := x1 + 1) (lv' := [(1, .int (x1 + 1)), (0, .ref (E.2.2 x0))]) C (dq DX7_stalls 24 rfl) 1 rfl rfl (by decide) rfl ?_
      refine x_pc 51 rfl ?_
      refine x_goto (tgt := 6) C (dq DX7_stalls 25 rfl) (by decide) ?_
      cases h
      exact x_lv [1, 0] rfl (kb (x1 + 1, m4) rfl)
    · refine x_iload_n C (dq DX7_stalls 15 rfl) rfl 1 rfl ?_
      cases h
      exact x_iret C (dq DX7_stalls 16 rfl) (kr (x1, m3) rfl)
set_option maxHeartbeats 1000000 in
theorem mX7_stalls {l : Launch} {E : Ev} {S : List Sh} {mm : Mm} {x0 : Nat} {r : Int32 × Mm} (h : fX7_stalls S mm x0 = some r) : Ml l E S yX7_stalls cX7_stalls 2 (some .int) 4 107 [.ref (E.2.2 x0)] mm (some (.int r.1)) r.2 := by
  refine Ml.of (by decide +kernel) (Nat.le_of_ble_eq_true rfl) (fun G C hQ => ?_)
  have C : Cx G E cX7_stalls 2 RX7 (some .int) 4 107 := C
  unfold fX7_stalls at h
  obtain ⟨g0, h⟩ := gd_some h
  show WM G l E S 0 [(0, .ref (E.2.2 x0))] [] mm
  refine x_aload_n C (dq DX7_stalls 0 rfl) rfl 0 rfl ?_
  refine callX7_226 C (dq DX7_stalls 1 rfl) h (by decide) (by decide) (Nat.le_of_ble_eq_true rfl) (fun m1 h => ?_)
  refine x_iconst (v := 0) C (dq DX7_stalls 2 rfl) (by decide) ?_
  refine x_istore_n (lv' := [(1, .int 0), (0, .ref (E.2.2 x0))]) C (dq DX7_stalls 3 rfl) rfl (by decide) rfl ?_
  refine x_lv [1, 0] rfl ?_
  refine x_loopR (s0 := (0, m1)) (fun s5 => WM G l E S 6 [(0, .ref (E.2.2 x0)), (1, .int s5.1)] [] s5.2) h (fun s5 r hb kb kg kx => tX7_stalls_6 C g0 hb kb (fun a7 ha => ?_) (fun y6 hy => ?_))
  · have h := kg a7 ha
    cases h
    exact hQ
  · have h := kx y6 hy
    clear kx kb hb hy kg
    refine x_pc 54 rfl ?_
    refine x_bipush (v := (-2)) C (dq DX7_stalls 26 rfl) (by decide) ?_
    cases h
    exact x_iret C (dq DX7_stalls 27 rfl) hQ
set_option maxHeartbeats 1000000 in
theorem qX7_stalls {S : List Sh} {mm : Mm} {x0 : Nat} {r : Int32 × Mm} (h : fX7_stalls S mm x0 = some r) : isC S x0 7 := by
  unfold fX7_stalls at h
  exact (gd_some h).1
theorem callX7_262 {G : Gt} {l : Launch} {E : Ev} {S : List Sh} {cc : ByteArray} {nL : Nat} {rt : Option FieldType} {fr lo : Nat} {pc : Nat} {lv : List (Nat × Value)} {rest : List Value} {mm : Mm} {α : Type} {f : Int32 → Option α} {r : α} {a0 : Int32} (C : Cx G E cc nL RX7 rt fr lo) (d : decode cc pc = .ok (.invokestatic 262, 3)) (h : bd1 (fX7_nextNumber S mm a0) f = some r) (hfr : 1 ≤ fr) (hlo : 20 ≤ lo) (hrs : (rest.map fun v => v.category).sum ≤ 8) (k : ∀ v, f v = some r → WM G l E S (pc + 3) lv (.int v :: rest) mm) : WM G l E S pc lv (.int a0 :: rest) mm := by
  obtain ⟨v, hv, hf⟩ := bd1_some h
  exact x_callS (n := 1) (As := [.int a0]) (rest := rest) C (mX7_nextNumber hv) (gmem 709 (by decide +kernel) rfl) (gmem 710 (by decide +kernel) rfl) (gmem 1 (by decide +kernel) rfl) (gmem 711 (by decide +kernel) rfl) (by decide +kernel) rfl hfr hlo hrs d rfl rfl (k v hf)
abbrev eX7_runByChance : List (Nat × Instr × Nat) := [(0, .aload_n 0, 1), (1, .invokevirtual 226, 3), (4, .iconst 0, 1), (5, .istore 4, 2), (7, .iload_n 1, 1), (8, .istore 5, 2), (10, .iconst 0, 1), (11, .istore 6, 2), (13, .iload 6, 2), (15, .iload_n 2, 1), (16, .if_icmp .ge 120, 3), (19, .aload_n 0, 1), (20, .getfield 61, 3), (23, .getfield 238, 3), (26, .ifCond .le 68, 3), (29, .iload 5, 2), (31, .invokestatic 262, 3), (34, .istore 5, 2), (36, .iload 5, 2), (38, .bipush 16, 2), (40, .ishr, 1), (41, .aload_n 0, 1), (42, .getfield 61, 3), (45, .getfield 238, 3), (48, .irem, 1), (49, .istore 7, 2), (51, .iload 5, 2), (53, .invokestatic 262, 3), (56, .istore 5, 2), (58, .iload 5, 2), (60, .bipush 16, 2), (62, .ishr, 1), (63, .bipush 100, 2), (65, .irem, 1), (66, .iload_n 3, 1), (67, .if_icmp .ge 27, 3), (70, .aload_n 0, 1), (71, .getfield 55, 3), (74, .sipush 264, 3), (77, .iload 7, 2), (79, .iadd, 1), (80, .iconst 1, 1), (81, .aload_n 0, 1), (82, .getfield 55, 3), (85, .sipush 264, 3), (88, .iload 7, 2), (90, .iadd, 1), (91, .iaload, 1), (92, .isub, 1), (93, .iastore, 1), (94, .aload_n 0, 1), (95, .getfield 26, 3), (98, .aload_n 0, 1), (99, .getfield 61, 3), (102, .aload_n 0, 1), (103, .getfield 55, 3), (106, .invokevirtual 229, 3), (109, .aload_n 0, 1), (110, .getfield 33, 3), (113, .aload_n 0, 1), (114, .getfield 61, 3), (117, .aload_n 0, 1), (118, .getfield 55, 3), (121, .invokevirtual 203, 3), (124, .ifCond .eq 6, 3), (127, .iinc 4 1, 3), (130, .iinc 6 1, 3), (133, .goto (-120), 3), (136, .iload 4, 2), (138, .ireturn, 1)]
theorem DX7_runByChance : (eX7_runByChance.all fun q => decide (decode cX7_runByChance q.1 = .ok q.2)) = true := by decide +kernel
def jX7_runByChance_130 (S : List Sh) (mm : Mm) (x0 : Nat) (x2 : Int32) (x3 : Int32) (x4 : Int32) (x5 : Int32) (x6 : Int32)  : Option ((Int32 × Int32 × Int32 × Mm) ⊕ (Int32 × Mm)) := some (.inl (x4, x5, x6 + 1, mm))
def jX7_runByChance_94 (S : List Sh) (mm : Mm) (x0 : Nat) (x2 : Int32) (x3 : Int32) (x4 : Int32) (x5 : Int32) (x6 : Int32)  : Option ((Int32 × Int32 × Int32 × Mm) ⊕ (Int32 × Mm)) := bd1 (fX5_step S mm (rf S mm x0 2) (rf S mm x0 8) (rf S mm x0 7)) fun m3 => bd2 (fX6_inPauseCycles S m3 (rf S m3 x0 3) (rf S m3 x0 8) (rf S m3 x0 7)) fun a4 m5 => if a4 = 0 then (jX7_runByChance_130 S m5 x0 x2 x3 x4 x5 x6) else (jX7_runByChance_130 S m5 x0 x2 x3 (x4 + 1) x5 x6)
def bX7_runByChance_13 (S : List Sh) (x0 : Nat) (x2 : Int32) (x3 : Int32) (x4 : Int32) (x5 : Int32) (x6 : Int32) (mm : Mm) : Option ((Int32 × Int32 × Int32 × Mm) ⊕ (Int32 × Mm)) := if x2 ≤ x6 then (some (.inr (x4, mm))) else (gd S (rf S mm x0 8) 1 (if (mm.1 (rf S mm x0 8) 10) ≤ 0 then (jX7_runByChance_94 S mm x0 x2 x3 x4 x5 x6) else (bd1 (fX7_nextNumber S mm x5) fun a6 => bd1 (rmI (a6 >>> (16 &&& 31)) (mm.1 (rf S mm x0 8) 10)) fun a7 => bd1 (fX7_nextNumber S mm a6) fun a8 => bd1 (rmI (a8 >>> (16 &&& 31)) 100) fun a9 => if x3 ≤ a9 then (jX7_runByChance_94 S mm x0 x2 x3 x4 a8 x6) else (bd1 (ldA S 0 mm (rf S mm x0 7) (264 + a7)) fun a10 => bd1 (stA S 0 mm (rf S mm x0 7) (264 + a7) (1 - a10)) fun m11 => jX7_runByChance_94 S m11 x0 x2 x3 x4 a8 x6))))
def fX7_runByChance (S : List Sh) (mm : Mm) (x0 : Nat) (x1 : Int32) (x2 : Int32) (x3 : Int32) : Option (Int32 × Mm) := gd S x0 7 (bd1 (fX7_startTrial S mm x0) fun m1 => bd1 (lp (fun s12 => bX7_runByChance_13 S x0 x2 x3 s12.1 s12.2.1 s12.2.2.1 s12.2.2.2) fu (0, x1, 0, m1)) fun y13 => some (y13.1, y13.2))
set_option maxHeartbeats 1000000 in
theorem tX7_runByChance_130 {G : Gt} {l : Launch} {E : Ev} {S : List Sh} {mm : Mm} {x0 : Nat} {x2 : Int32} {x3 : Int32} {x4 : Int32} {x5 : Int32} {x6 : Int32}  {r : (Int32 × Int32 × Int32 × Mm) ⊕ (Int32 × Mm)} (C : Cx G E cX7_runByChance 8 RX7 (some .int) 4 107) (g0 : isC S x0 7) (h : jX7_runByChance_130 S mm x0 x2 x3 x4 x5 x6 = some r) (kb : ∀ z : Int32 × Int32 × Int32 × Mm, r = .inl z → WM G l E S 13 [(0, .ref (E.2.2 x0)), (2, .int x2), (3, .int x3), (4, .int z.1), (5, .int z.2.1), (6, .int z.2.2.1)] [] z.2.2.2) (kx : ∀ z : Int32 × Mm, r = .inr z → WM G l E S 136 [(0, .ref (E.2.2 x0)), (2, .int x2), (3, .int x3), (4, .int z.1)] [] z.2) : WM G l E S 130 [(0, .ref (E.2.2 x0)), (2, .int x2), (3, .int x3), (4, .int x4), (5, .int x5), (6, .int x6)] [] mm := by
  unfold jX7_runByChance_130 at h
  refine x_iinc (v := x6 + 1) (lv' := [(6, .int (x6 + 1)), (0, .ref (E.2.2 x0)), (2, .int x2), (3, .int x3), (4, .int x4), (5, .int x5)]) C (dq DX7_runByChance 66 rfl) 5 rfl rfl (by decide) rfl ?_
  refine x_goto (tgt := 13) C (dq DX7_runByChance 67 rfl) (by decide) ?_
  cases h
  exact x_lv [1, 2, 3, 4, 5, 0] rfl (kb (x4, x5, x6 + 1, mm) rfl)
set_option maxHeartbeats 1000000 in
theorem tX7_runByChance_94 {G : Gt} {l : Launch} {E : Ev} {S : List Sh} {mm : Mm} {x0 : Nat} {x2 : Int32} {x3 : Int32} {x4 : Int32} {x5 : Int32} {x6 : Int32}  {r : (Int32 × Int32 × Int32 × Mm) ⊕ (Int32 × Mm)} (C : Cx G E cX7_runByChance 8 RX7 (some .int) 4 107) (g0 : isC S x0 7) (h : jX7_runByChance_94 S mm x0 x2 x3 x4 x5 x6 = some r) (kb : ∀ z : Int32 × Int32 × Int32 × Mm, r = .inl z → WM G l E S 13 [(0, .ref (E.2.2 x0)), (2, .int x2), (3, .int x3), (4, .int z.1), (5, .int z.2.1), (6, .int z.2.2.1)] [] z.2.2.2) (kx : ∀ z : Int32 × Mm, r = .inr z → WM G l E S 136 [(0, .ref (E.2.2 x0)), (2, .int x2), (3, .int x3), (4, .int z.1)] [] z.2) : WM G l E S 94 [(0, .ref (E.2.2 x0)), (2, .int x2), (3, .int x3), (4, .int x4), (5, .int x5), (6, .int x6)] [] mm := by
  unfold jX7_runByChance_94 at h
  refine x_aload_n C (dq DX7_runByChance 50 rfl) rfl 0 rfl ?_
  refine getX7_26 C (dq DX7_runByChance 51 rfl) g0 ?_
  refine x_aload_n C (dq DX7_runByChance 52 rfl) rfl 0 rfl ?_
  refine getX7_61 C (dq DX7_runByChance 53 rfl) g0 ?_
  refine x_pc 102 rfl ?_
  refine x_aload_n C (dq DX7_runByChance 54 rfl) rfl 0 rfl ?_
  refine getX7_55 C (dq DX7_runByChance 55 rfl) g0 ?_
  refine callX7_229 C (dq DX7_runByChance 56 rfl) h (by decide) (by decide) (Nat.le_of_ble_eq_true rfl) (fun m3 h => ?_)
  refine x_aload_n C (dq DX7_runByChance 57 rfl) rfl 0 rfl ?_
  refine getX7_33 C (dq DX7_runByChance 58 rfl) g0 ?_
  refine x_pc 113 rfl ?_
  refine x_aload_n C (dq DX7_runByChance 59 rfl) rfl 0 rfl ?_
  refine getX7_61 C (dq DX7_runByChance 60 rfl) g0 ?_
  refine x_aload_n C (dq DX7_runByChance 61 rfl) rfl 0 rfl ?_
  refine getX7_55 C (dq DX7_runByChance 62 rfl) g0 ?_
  refine callX7_203 C (dq DX7_runByChance 63 rfl) h (by decide) (by decide) (Nat.le_of_ble_eq_true rfl) (fun a4 m5 h => ?_)
  refine x_pc 124 rfl ?_
  refine x_if_eq (tgt := 130) C (dq DX7_runByChance 64 rfl) (by decide) h (fun h => ?_) (fun h => ?_)
  · exact x_lv [0, 1, 2, 3, 4, 5] rfl (tX7_runByChance_130 C g0 h kb kx)
  · refine x_iinc (v := x4 + 1) (lv' := [(4, .int (x4 + 1)), (0, .ref (E.2.2 x0)), (2, .int x2), (3, .int x3), (5, .int x5), (6, .int x6)]) C (dq DX7_runByChance 65 rfl) 3 rfl rfl (by decide) rfl ?_
    exact x_lv [1, 2, 3, 0, 4, 5] rfl (tX7_runByChance_130 C g0 h kb kx)
set_option maxHeartbeats 1000000 in
theorem tX7_runByChance_13 {G : Gt} {l : Launch} {E : Ev} {S : List Sh} {x0 : Nat} {x2 : Int32} {x3 : Int32} {x4 : Int32} {x5 : Int32} {x6 : Int32} {mm : Mm} {r : (Int32 × Int32 × Int32 × Mm) ⊕ (Int32 × Mm)} (C : Cx G E cX7_runByChance 8 RX7 (some .int) 4 107) (g0 : isC S x0 7) (h : bX7_runByChance_13 S x0 x2 x3 x4 x5 x6 mm = some r) (kb : ∀ z : Int32 × Int32 × Int32 × Mm, r = .inl z → WM G l E S 13 [(0, .ref (E.2.2 x0)), (2, .int x2), (3, .int x3), (4, .int z.1), (5, .int z.2.1), (6, .int z.2.2.1)] [] z.2.2.2) (kx : ∀ z : Int32 × Mm, r = .inr z → WM G l E S 136 [(0, .ref (E.2.2 x0)), (2, .int x2), (3, .int x3), (4, .int z.1)] [] z.2) : WM G l E S 13 [(0, .ref (E.2.2 x0)), (2, .int x2), (3, .int x3), (4, .int x4), (5, .int x5), (6, .int x6)] [] mm := by
  unfold bX7_runByChance_13 at h
  refine x_iload C (dq DX7_runByChance 8 rfl) 5 rfl ?_
  refine x_iload_n C (dq DX7_runByChance 9 rfl) rfl 1 rfl ?_
  refine x_icmp_ge (tgt := 136) C (dq DX7_runByChance 10 rfl) (by decide) h (fun h => ?_) (fun h => ?_)
  · cases h
    exact x_lv [0, 1, 2, 3] rfl (kx (x4, mm) rfl)
  · refine x_aload_n C (dq DX7_runByChance 11 rfl) rfl 0 rfl ?_
    refine x_pc 20 rfl ?_
    refine getX7_61 C (dq DX7_runByChance 12 rfl) g0 ?_
    obtain ⟨g2, h⟩ := gd_some h
    refine getX7_238 C (dq DX7_runByChance 13 rfl) g2 ?_
    refine x_if_le (tgt := 94) C (dq DX7_runByChance 14 rfl) (by decide) h (fun h => ?_) (fun h => ?_)
    · exact x_lv [0, 1, 2, 3, 4, 5] rfl (tX7_runByChance_94 C g0 h kb kx)
    · refine x_iload C (dq DX7_runByChance 15 rfl) 4 rfl ?_
      refine callX7_262 C (dq DX7_runByChance 16 rfl) h (by decide) (by decide) (Nat.le_of_ble_eq_true rfl) (fun a6 h => ?_)
      refine x_pc 34 rfl ?_
      refine x_istore (lv' := [(5, .int a6), (0, .ref (E.2.2 x0)), (2, .int x2), (3, .int x3), (4, .int x4), (6, .int x6)]) C (dq DX7_runByChance 17 rfl) (by decide) rfl ?_
      refine x_iload C (dq DX7_runByChance 18 rfl) 0 rfl ?_
      refine x_bipush (v := 16) C (dq DX7_runByChance 19 rfl) (by decide) ?_
      refine x_ishr C (dq DX7_runByChance 20 rfl) ?_
      refine x_aload_n C (dq DX7_runByChance 21 rfl) rfl 1 rfl ?_
      refine x_pc 42 rfl ?_
      refine getX7_61 C (dq DX7_runByChance 22 rfl) g0 ?_
      refine getX7_238 C (dq DX7_runByChance 23 rfl) g2 ?_
      refine x_irem C (dq DX7_runByChance 24 rfl) h (fun a7 h => ?_)
      refine x_istore (lv' := [(7, .int a7), (5, .int a6), (0, .ref (E.2.2 x0)), (2, .int x2), (3, .int x3), (4, .int x4), (6, .int x6)]) C (dq DX7_runByChance 25 rfl) (by decide) rfl ?_
      refine x_iload C (dq DX7_runByChance 26 rfl) 1 rfl ?_
      refine x_pc 53 rfl ?_
      refine callX7_262 C (dq DX7_runByChance 27 rfl) h (by decide) (by decide) (Nat.le_of_ble_eq_true rfl) (fun a8 h => ?_)
      refine x_istore (lv' := [(5, .int a8), (7, .int a7), (0, .ref (E.2.2 x0)), (2, .int x2), (3, .int x3), (4, .int x4), (6, .int x6)]) C (dq DX7_runByChance 28 rfl) (by decide) rfl ?_
      refine x_iload C (dq DX7_runByChance 29 rfl) 0 rfl ?_
      refine x_bipush (v := 16) C (dq DX7_runByChance 30 rfl) (by decide) ?_
      refine x_ishr C (dq DX7_runByChance 31 rfl) ?_
      refine x_pc 63 rfl ?_
      refine x_bipush (v := 100) C (dq DX7_runByChance 32 rfl) (by decide) ?_
      refine x_irem C (dq DX7_runByChance 33 rfl) h (fun a9 h => ?_)
      refine x_iload_n C (dq DX7_runByChance 34 rfl) rfl 4 rfl ?_
      refine x_icmp_ge (tgt := 94) C (dq DX7_runByChance 35 rfl) (by decide) h (fun h => ?_) (fun h => ?_)
      · exact x_lv [2, 3, 4, 5, 0, 6] rfl (tX7_runByChance_94 C g0 h kb kx)
      · refine x_aload_n C (dq DX7_runByChance 36 rfl) rfl 2 rfl ?_
        refine x_pc 71 rfl ?_
        refine getX7_55 C (dq DX7_runByChance 37 rfl) g0 ?_
        refine x_sipush (v := 264) C (dq DX7_runByChance 38 rfl) (by decide) ?_
        refine x_iload C (dq DX7_runByChance 39 rfl) 1 rfl ?_
        refine x_iadd C (dq DX7_runByChance 40 rfl) ?_
        refine x_iconst (v := 1) C (dq DX7_runByChance 41 rfl) (by decide) ?_
        refine x_pc 81 rfl ?_
        refine x_aload_n C (dq DX7_runByChance 42 rfl) rfl 2 rfl ?_
        refine getX7_55 C (dq DX7_runByChance 43 rfl) g0 ?_
        refine x_sipush (v := 264) C (dq DX7_runByChance 44 rfl) (by decide) ?_
        refine x_iload C (dq DX7_runByChance 45 rfl) 1 rfl ?_
        refine x_iadd C (dq DX7_runByChance 46 rfl) ?_
        refine x_pc 91 rfl ?_
        refine x_iald C (dq DX7_runByChance 47 rfl) h (fun a10 h => ?_)
        refine x_isub C (dq DX7_runByChance 48 rfl) ?_
        refine x_iast C (dq DX7_runByChance 49 rfl) h (fun m11 h => ?_)
        exact x_lv [2, 3, 4, 5, 0, 6] rfl (tX7_runByChance_94 C g0 h kb kx)
set_option maxHeartbeats 1000000 in
theorem mX7_runByChance {l : Launch} {E : Ev} {S : List Sh} {mm : Mm} {x0 : Nat} {x1 : Int32} {x2 : Int32} {x3 : Int32} {r : Int32 × Mm} (h : fX7_runByChance S mm x0 x1 x2 x3 = some r) : Ml l E S yX7_runByChance cX7_runByChance 8 (some .int) 4 107 [.ref (E.2.2 x0), .int x1, .int x2, .int x3] mm (some (.int r.1)) r.2 := by
  refine Ml.of (by decide +kernel) (Nat.le_of_ble_eq_true rfl) (fun G C hQ => ?_)
  have C : Cx G E cX7_runByChance 8 RX7 (some .int) 4 107 := C
  unfold fX7_runByChance at h
  obtain ⟨g0, h⟩ := gd_some h
  show WM G l E S 0 [(0, .ref (E.2.2 x0)), (1, .int x1), (2, .int x2), (3, .int x3)] [] mm
  refine x_aload_n C (dq DX7_runByChance 0 rfl) rfl 0 rfl ?_
  refine callX7_226 C (dq DX7_runByChance 1 rfl) h (by decide) (by decide) (Nat.le_of_ble_eq_true rfl) (fun m1 h => ?_)
  refine x_iconst (v := 0) C (dq DX7_runByChance 2 rfl) (by decide) ?_
  refine x_istore (lv' := [(4, .int 0), (0, .ref (E.2.2 x0)), (1, .int x1), (2, .int x2), (3, .int x3)]) C (dq DX7_runByChance 3 rfl) (by decide) rfl ?_
  refine x_pc 7 rfl ?_
  refine x_iload_n C (dq DX7_runByChance 4 rfl) rfl 2 rfl ?_
  refine x_istore (lv' := [(5, .int x1), (4, .int 0), (0, .ref (E.2.2 x0)), (1, .int x1), (2, .int x2), (3, .int x3)]) C (dq DX7_runByChance 5 rfl) (by decide) rfl ?_
  refine x_iconst (v := 0) C (dq DX7_runByChance 6 rfl) (by decide) ?_
  refine x_istore (lv' := [(6, .int 0), (5, .int x1), (4, .int 0), (0, .ref (E.2.2 x0)), (1, .int x1), (2, .int x2), (3, .int x3)]) C (dq DX7_runByChance 7 rfl) (by decide) rfl ?_
  refine x_lv [3, 5, 6, 2, 1, 0] rfl ?_
  refine x_loop (s0 := (0, x1, 0, m1)) (fun s12 => WM G l E S 13 [(0, .ref (E.2.2 x0)), (2, .int x2), (3, .int x3), (4, .int s12.1), (5, .int s12.2.1), (6, .int s12.2.2.1)] [] s12.2.2.2) h (fun s12 r hb kb kx => tX7_runByChance_13 C g0 hb kb (fun y13 hy => ?_))
  have h := kx y13 hy
  clear kx kb hb hy
  refine x_iload C (dq DX7_runByChance 68 rfl) 3 rfl ?_
  refine x_pc 138 rfl ?_
  cases h
  exact x_iret C (dq DX7_runByChance 69 rfl) hQ
set_option maxHeartbeats 1000000 in
theorem qX7_runByChance {S : List Sh} {mm : Mm} {x0 : Nat} {x1 : Int32} {x2 : Int32} {x3 : Int32} {r : Int32 × Mm} (h : fX7_runByChance S mm x0 x1 x2 x3 = some r) : isC S x0 7 := by
  unfold fX7_runByChance at h
  exact (gd_some h).1
abbrev eX7_run : List (Nat × Instr × Nat) := [(0, .iconst 0, 1), (1, .istore_n 3, 1), (2, .iload_n 3, 1), (3, .iload_n 2, 1), (4, .if_icmp .ge 21, 3), (7, .aload_n 0, 1), (8, .getfield 26, 3), (11, .aload_n 0, 1), (12, .getfield 61, 3), (15, .aload_n 1, 1), (16, .invokevirtual 229, 3), (19, .iinc 3 1, 3), (22, .goto (-20), 3), (25, .return_, 1)]
theorem DX7_run : (eX7_run.all fun q => decide (decode cX7_run q.1 = .ok q.2)) = true := by decide +kernel
def bX7_run_2 (S : List Sh) (x0 : Nat) (x1 : Nat) (x2 : Int32) (x3 : Int32) (mm : Mm) : Option ((Int32 × Mm) ⊕ (Mm)) := if x2 ≤ x3 then (some (.inr (mm))) else (bd1 (fX5_step S mm (rf S mm x0 2) (rf S mm x0 8) x1) fun m1 => some (.inl (x3 + 1, m1)))
def fX7_run (S : List Sh) (mm : Mm) (x0 : Nat) (x1 : Nat) (x2 : Int32) : Option (Mm) := gd S x0 7 (bd1 (lp (fun s2 => bX7_run_2 S x0 x1 x2 s2.1 s2.2) fu (0, mm)) fun y3 => some y3)
set_option maxHeartbeats 1000000 in
theorem tX7_run_2 {G : Gt} {l : Launch} {E : Ev} {S : List Sh} {x0 : Nat} {x1 : Nat} {x2 : Int32} {x3 : Int32} {mm : Mm} {r : (Int32 × Mm) ⊕ (Mm)} (C : Cx G E cX7_run 4 RX7 none 4 107) (g0 : isC S x0 7) (h : bX7_run_2 S x0 x1 x2 x3 mm = some r) (kb : ∀ z : Int32 × Mm, r = .inl z → WM G l E S 2 [(0, .ref (E.2.2 x0)), (1, .ref (E.2.2 x1)), (2, .int x2), (3, .int z.1)] [] z.2) (kx : ∀ z : Mm, r = .inr z → WM G l E S 25 [(0, .ref (E.2.2 x0)), (1, .ref (E.2.2 x1)), (2, .int x2)] [] z) : WM G l E S 2 [(0, .ref (E.2.2 x0)), (1, .ref (E.2.2 x1)), (2, .int x2), (3, .int x3)] [] mm := by
  unfold bX7_run_2 at h
  refine x_iload_n C (dq DX7_run 2 rfl) rfl 3 rfl ?_
  refine x_iload_n C (dq DX7_run 3 rfl) rfl 2 rfl ?_
  refine x_icmp_ge (tgt := 25) C (dq DX7_run 4 rfl) (by decide) h (fun h => ?_) (fun h => ?_)
  · cases h
    exact x_lv [0, 1, 2] rfl (kx (mm) rfl)
  · refine x_aload_n C (dq DX7_run 5 rfl) rfl 0 rfl ?_
    refine x_pc 8 rfl ?_
    refine getX7_26 C (dq DX7_run 6 rfl) g0 ?_
    refine x_aload_n C (dq DX7_run 7 rfl) rfl 0 rfl ?_
    refine getX7_61 C (dq DX7_run 8 rfl) g0 ?_
    refine x_aload_n C (dq DX7_run 9 rfl) rfl 1 rfl ?_
    refine callX7_229 C (dq DX7_run 10 rfl) h (by decide) (by decide) (Nat.le_of_ble_eq_true rfl) (fun m1 h => ?_)
    refine x_pc 19 rfl ?_
    refine x_iinc (v := x3 + 1) (lv' := [(3, .int (x3 + 1)), (0, .ref (E.2.2 x0)), (1, .ref (E.2.2 x1)), (2, .int x2)]) C (dq DX7_run 11 rfl) 3 rfl rfl (by decide) rfl ?_
    refine x_goto (tgt := 2) C (dq DX7_run 12 rfl) (by decide) ?_
    cases h
    exact x_lv [1, 2, 3, 0] rfl (kb (x3 + 1, m1) rfl)
set_option maxHeartbeats 1000000 in
theorem mX7_run {l : Launch} {E : Ev} {S : List Sh} {mm : Mm} {x0 : Nat} {x1 : Nat} {x2 : Int32} {r : Mm} (h : fX7_run S mm x0 x1 x2 = some r) : Ml l E S yX7_run cX7_run 4 none 4 107 [.ref (E.2.2 x0), .ref (E.2.2 x1), .int x2] mm none r := by
  refine Ml.of (by decide +kernel) (Nat.le_of_ble_eq_true rfl) (fun G C hQ => ?_)
  have C : Cx G E cX7_run 4 RX7 none 4 107 := C
  unfold fX7_run at h
  obtain ⟨g0, h⟩ := gd_some h
  show WM G l E S 0 [(0, .ref (E.2.2 x0)), (1, .ref (E.2.2 x1)), (2, .int x2)] [] mm
  refine x_iconst (v := 0) C (dq DX7_run 0 rfl) (by decide) ?_
  refine x_istore_n (lv' := [(3, .int 0), (0, .ref (E.2.2 x0)), (1, .ref (E.2.2 x1)), (2, .int x2)]) C (dq DX7_run 1 rfl) rfl (by decide) rfl ?_
  refine x_lv [1, 2, 3, 0] rfl ?_
  refine x_loop (s0 := (0, mm)) (fun s2 => WM G l E S 2 [(0, .ref (E.2.2 x0)), (1, .ref (E.2.2 x1)), (2, .int x2), (3, .int s2.1)] [] s2.2) h (fun s2 r hb kb kx => tX7_run_2 C g0 hb kb (fun y3 hy => ?_))
  have h := kx y3 hy
  clear kx kb hb hy
  cases h
  exact x_vret C (dq DX7_run 13 rfl) hQ
set_option maxHeartbeats 1000000 in
theorem qX7_run {S : List Sh} {mm : Mm} {x0 : Nat} {x1 : Nat} {x2 : Int32} {r : Mm} (h : fX7_run S mm x0 x1 x2 = some r) : isC S x0 7 := by
  unfold fX7_run at h
  exact (gd_some h).1
theorem callX7_132 {G : Gt} {l : Launch} {E : Ev} {S : List Sh} {cc : ByteArray} {nL : Nat} {rt : Option FieldType} {fr lo : Nat} {pc : Nat} {lv : List (Nat × Value)} {rest : List Value} {mm : Mm} {α : Type} {f : Mm → Option α} {r : α} {o : Nat} {a0 : Nat} {a1 : Int32} (C : Cx G E cc nL RX7 rt fr lo) (d : decode cc pc = .ok (.invokevirtual 132, 3)) (h : bd1 (fX7_run S mm o a0 a1) f = some r) (hfr : 5 ≤ fr) (hlo : 130 ≤ lo) (hrs : (rest.map fun v => v.category).sum ≤ 8) (k : ∀ m1, f m1 = some r → WM G l E S (pc + 3) lv rest m1) : WM G l E S pc lv (.int a1 :: .ref (E.2.2 a0) :: .ref (E.2.2 o) :: rest) mm := by
  obtain ⟨m1, hv, hf⟩ := bd1_some h
  exact x_callV (n := 2) (As := [.ref (E.2.2 a0), .int a1]) (rest := rest) C (mX7_run hv) (qX7_run hv) (T := TX7) (N := 12) rfl (gmem 432 (by decide +kernel) rfl) (gmem 434 (by decide +kernel) rfl) (gmemS 15 (by decide +kernel) rfl) (gmem 1 (by decide +kernel) rfl) (gmem 435 (by decide +kernel) rfl) (by decide +kernel) rfl hfr hlo hrs d rfl rfl (k m1 hf)
abbrev eX7_tick : List (Nat × Instr × Nat) := [(0, .iload_n 1, 1), (1, .iconst 1, 1), (2, .if_icmp .lt 9, 3), (5, .iload_n 1, 1), (6, .bipush 50, 2), (8, .if_icmp .le 5, 3), (11, .iconst (-1), 1), (12, .ireturn, 1), (13, .aload_n 0, 1), (14, .getfield 51, 3), (17, .sipush 296, 3), (20, .iaload, 1), (21, .iload_n 1, 1), (22, .iadd, 1), (23, .sipush 9999, 3), (26, .if_icmp .le 6, 3), (29, .bipush (-2), 2), (31, .ireturn, 1), (32, .aload_n 0, 1), (33, .getfield 47, 3), (36, .aload_n 0, 1), (37, .getfield 51, 3), (40, .invokevirtual 128, 3), (43, .aload_n 0, 1), (44, .aload_n 0, 1), (45, .getfield 51, 3), (48, .iload_n 1, 1), (49, .invokevirtual 132, 3), (52, .aload_n 0, 1), (53, .getfield 51, 3), (56, .sipush 296, 3), (59, .iaload, 1), (60, .ireturn, 1)]
theorem DX7_tick : (eX7_tick.all fun q => decide (decode cX7_tick q.1 = .ok q.2)) = true := by decide +kernel
def jX7_tick_11 (S : List Sh) (mm : Mm) (x0 : Nat)  : Option (Int32 × Mm) := some ((-1), mm)
def fX7_tick (S : List Sh) (mm : Mm) (x0 : Nat) (x1 : Int32) : Option (Int32 × Mm) := gd S x0 7 (if x1 < 1 then (jX7_tick_11 S mm x0) else (if x1 ≤ 50 then (bd1 (ldA S 0 mm (rf S mm x0 6) 296) fun a1 => if (a1 + x1) ≤ 9999 then (bd1 (fX0_push S mm (rf S mm x0 5) (rf S mm x0 6)) fun m2 => bd1 (fX7_run S m2 x0 (rf S m2 x0 6) x1) fun m3 => bd1 (ldA S 0 m3 (rf S m3 x0 6) 296) fun a4 => some (a4, m3)) else (some ((-2), mm))) else (jX7_tick_11 S mm x0)))
set_option maxHeartbeats 1000000 in
theorem tX7_tick_11 {G : Gt} {l : Launch} {E : Ev} {S : List Sh} {mm : Mm} {x0 : Nat}  {r : Int32 × Mm} (C : Cx G E cX7_tick 2 RX7 (some .int) 5 130) (g0 : isC S x0 7) (h : jX7_tick_11 S mm x0 = some r) (hQ : RQ G E S (some (.int r.1)) r.2) : WM G l E S 11 [(0, .ref (E.2.2 x0))] [] mm := by
  unfold jX7_tick_11 at h
  refine x_iconst (v := (-1)) C (dq DX7_tick 6 rfl) (by decide) ?_
  cases h
  exact x_iret C (dq DX7_tick 7 rfl) hQ
set_option maxHeartbeats 1000000 in
theorem mX7_tick {l : Launch} {E : Ev} {S : List Sh} {mm : Mm} {x0 : Nat} {x1 : Int32} {r : Int32 × Mm} (h : fX7_tick S mm x0 x1 = some r) : Ml l E S yX7_tick cX7_tick 2 (some .int) 5 130 [.ref (E.2.2 x0), .int x1] mm (some (.int r.1)) r.2 := by
  refine Ml.of (by decide +kernel) (Nat.le_of_ble_eq_true rfl) (fun G C hQ => ?_)
  have C : Cx G E cX7_tick 2 RX7 (some .int) 5 130 := C
  unfold fX7_tick at h
  obtain ⟨g0, h⟩ := gd_some h
  show WM G l E S 0 [(0, .ref (E.2.2 x0)), (1, .int x1)] [] mm
  refine x_iload_n C (dq DX7_tick 0 rfl) rfl 1 rfl ?_
  refine x_iconst (v := 1) C (dq DX7_tick 1 rfl) (by decide) ?_
  refine x_icmp_lt (tgt := 11) C (dq DX7_tick 2 rfl) (by decide) h (fun h => ?_) (fun h => ?_)
  · exact x_lv [0] rfl (tX7_tick_11 C g0 h hQ)
  · refine x_iload_n C (dq DX7_tick 3 rfl) rfl 1 rfl ?_
    refine x_pc 6 rfl ?_
    refine x_bipush (v := 50) C (dq DX7_tick 4 rfl) (by decide) ?_
    refine x_icmp_le (tgt := 13) C (dq DX7_tick 5 rfl) (by decide) h (fun h => ?_) (fun h => ?_)
    · refine x_aload_n C (dq DX7_tick 8 rfl) rfl 0 rfl ?_
      refine getX7_51 C (dq DX7_tick 9 rfl) g0 ?_
      refine x_sipush (v := 296) C (dq DX7_tick 10 rfl) (by decide) ?_
      refine x_pc 20 rfl ?_
      refine x_iald C (dq DX7_tick 11 rfl) h (fun a1 h => ?_)
      refine x_iload_n C (dq DX7_tick 12 rfl) rfl 1 rfl ?_
      refine x_iadd C (dq DX7_tick 13 rfl) ?_
      refine x_sipush (v := 9999) C (dq DX7_tick 14 rfl) (by decide) ?_
      refine x_icmp_le (tgt := 32) C (dq DX7_tick 15 rfl) (by decide) h (fun h => ?_) (fun h => ?_)
      · refine x_pc 32 rfl ?_
        refine x_aload_n C (dq DX7_tick 18 rfl) rfl 0 rfl ?_
        refine getX7_47 C (dq DX7_tick 19 rfl) g0 ?_
        refine x_aload_n C (dq DX7_tick 20 rfl) rfl 0 rfl ?_
        refine getX7_51 C (dq DX7_tick 21 rfl) g0 ?_
        refine callX7_128 C (dq DX7_tick 22 rfl) h (by decide) (by decide) (Nat.le_of_ble_eq_true rfl) (fun m2 h => ?_)
        refine x_pc 43 rfl ?_
        refine x_aload_n C (dq DX7_tick 23 rfl) rfl 0 rfl ?_
        refine x_aload_n C (dq DX7_tick 24 rfl) rfl 0 rfl ?_
        refine getX7_51 C (dq DX7_tick 25 rfl) g0 ?_
        refine x_iload_n C (dq DX7_tick 26 rfl) rfl 1 rfl ?_
        refine callX7_132 C (dq DX7_tick 27 rfl) h (by decide) (by decide) (Nat.le_of_ble_eq_true rfl) (fun m3 h => ?_)
        refine x_pc 52 rfl ?_
        refine x_aload_n C (dq DX7_tick 28 rfl) rfl 0 rfl ?_
        refine getX7_51 C (dq DX7_tick 29 rfl) g0 ?_
        refine x_sipush (v := 296) C (dq DX7_tick 30 rfl) (by decide) ?_
        refine x_iald C (dq DX7_tick 31 rfl) h (fun a4 h => ?_)
        cases h
        exact x_iret C (dq DX7_tick 32 rfl) hQ
      · refine x_pc 29 rfl ?_
        refine x_bipush (v := (-2)) C (dq DX7_tick 16 rfl) (by decide) ?_
        cases h
        exact x_iret C (dq DX7_tick 17 rfl) hQ
    · exact x_lv [0] rfl (tX7_tick_11 C g0 h hQ)
set_option maxHeartbeats 1000000 in
theorem qX7_tick {S : List Sh} {mm : Mm} {x0 : Nat} {x1 : Int32} {r : Int32 × Mm} (h : fX7_tick S mm x0 x1 = some r) : isC S x0 7 := by
  unfold fX7_tick at h
  exact (gd_some h).1
abbrev eX7_flows : List (Nat × Instr × Nat) := [(0, .aload_n 0, 1), (1, .iload_n 1, 1), (2, .invokevirtual 136, 3), (5, .ifCond .eq 23, 3), (8, .iload_n 2, 1), (9, .ifCond .lt 19, 3), (12, .iload_n 2, 1), (13, .sipush 300, 3), (16, .if_icmp .gt 12, 3), (19, .iload_n 3, 1), (20, .ifCond .lt 8, 3), (23, .iload_n 3, 1), (24, .iconst 2, 1), (25, .if_icmp .le 5, 3), (28, .iconst (-1), 1), (29, .ireturn, 1), (30, .aload_n 0, 1), (31, .invokevirtual 226, 3), (34, .aload_n 0, 1), (35, .aload_n 0, 1), (36, .getfield 55, 3), (39, .iload_n 2, 1), (40, .invokevirtual 132, 3), (43, .iload_n 3, 1), (44, .ifCond .ne 14, 3), (47, .aload_n 0, 1), (48, .getfield 55, 3), (51, .sipush 200, 3), (54, .iload_n 1, 1), (55, .iadd, 1), (56, .iaload, 1), (57, .ireturn, 1), (58, .iload_n 3, 1), (59, .iconst 1, 1), (60, .if_icmp .ne 9, 3), (63, .sipush 240, 3), (66, .goto 6, 3), (69, .sipush 232, 3), (72, .istore 4, 2), (74, .aload_n 0, 1), (75, .getfield 55, 3), (78, .iload 4, 2), (80, .iload_n 1, 1), (81, .iadd, 1), (82, .iaload, 1), (83, .aload_n 0, 1), (84, .getfield 51, 3), (87, .iload 4, 2), (89, .iload_n 1, 1), (90, .iadd, 1), (91, .iaload, 1), (92, .isub, 1), (93, .ireturn, 1)]
theorem DX7_flows : (eX7_flows.all fun q => decide (decode cX7_flows q.1 = .ok q.2)) = true := by decide +kernel
def jX7_flows_28 (S : List Sh) (mm : Mm) (x0 : Nat)  : Option (Int32 × Mm) := some ((-1), mm)
def jX7_flows_72 (S : List Sh) (mm : Mm) (x0 : Nat) (x1 : Int32) (p0 : Int32) : Option (Int32 × Mm) := bd1 (ldA S 0 mm (rf S mm x0 7) (p0 + x1)) fun a4 => bd1 (ldA S 0 mm (rf S mm x0 6) (p0 + x1)) fun a5 => some ((a4 - a5), mm)
def fX7_flows (S : List Sh) (mm : Mm) (x0 : Nat) (x1 : Int32) (x2 : Int32) (x3 : Int32) : Option (Int32 × Mm) := gd S x0 7 (bd1 (fX7_isFlow S mm x0 x1) fun a1 => if a1 = 0 then (jX7_flows_28 S mm x0) else (if x2 < 0 then (jX7_flows_28 S mm x0) else (if 300 < x2 then (jX7_flows_28 S mm x0) else (if x3 < 0 then (jX7_flows_28 S mm x0) else (if x3 ≤ 2 then (bd1 (fX7_startTrial S mm x0) fun m2 => bd1 (fX7_run S m2 x0 (rf S m2 x0 7) x2) fun m3 => if ¬ x3 = 0 then (if ¬ x3 = 1 then (jX7_flows_72 S m3 x0 x1 232) else (jX7_flows_72 S m3 x0 x1 240)) else (bd1 (ldA S 0 m3 (rf S m3 x0 7) (200 + x1)) fun a6 => some (a6, m3))) else (jX7_flows_28 S mm x0))))))
set_option maxHeartbeats 1000000 in
theorem tX7_flows_28 {G : Gt} {l : Launch} {E : Ev} {S : List Sh} {mm : Mm} {x0 : Nat}  {r : Int32 × Mm} (C : Cx G E cX7_flows 5 RX7 (some .int) 5 130) (g0 : isC S x0 7) (h : jX7_flows_28 S mm x0 = some r) (hQ : RQ G E S (some (.int r.1)) r.2) : WM G l E S 28 [(0, .ref (E.2.2 x0))] [] mm := by
  unfold jX7_flows_28 at h
  refine x_iconst (v := (-1)) C (dq DX7_flows 14 rfl) (by decide) ?_
  cases h
  exact x_iret C (dq DX7_flows 15 rfl) hQ
set_option maxHeartbeats 1000000 in
theorem tX7_flows_72 {G : Gt} {l : Launch} {E : Ev} {S : List Sh} {mm : Mm} {x0 : Nat} {x1 : Int32} {p0 : Int32} {r : Int32 × Mm} (C : Cx G E cX7_flows 5 RX7 (some .int) 5 130) (g0 : isC S x0 7) (h : jX7_flows_72 S mm x0 x1 p0 = some r) (hQ : RQ G E S (some (.int r.1)) r.2) : WM G l E S 72 [(0, .ref (E.2.2 x0)), (1, .int x1)] [.int p0] mm := by
  unfold jX7_flows_72 at h
  refine x_istore (lv' := [(4, .int p0), (0, .ref (E.2.2 x0)), (1, .int x1)]) C (dq DX7_flows 38 rfl) (by decide) rfl ?_
  refine x_aload_n C (dq DX7_flows 39 rfl) rfl 1 rfl ?_
  refine getX7_55 C (dq DX7_flows 40 rfl) g0 ?_
  refine x_iload C (dq DX7_flows 41 rfl) 0 rfl ?_
  refine x_pc 80 rfl ?_
  refine x_iload_n C (dq DX7_flows 42 rfl) rfl 2 rfl ?_
  refine x_iadd C (dq DX7_flows 43 rfl) ?_
  refine x_iald C (dq DX7_flows 44 rfl) h (fun a4 h => ?_)
  refine x_aload_n C (dq DX7_flows 45 rfl) rfl 1 rfl ?_
  refine getX7_51 C (dq DX7_flows 46 rfl) g0 ?_
  refine x_pc 87 rfl ?_
  refine x_iload C (dq DX7_flows 47 rfl) 0 rfl ?_
  refine x_iload_n C (dq DX7_flows 48 rfl) rfl 2 rfl ?_
  refine x_iadd C (dq DX7_flows 49 rfl) ?_
  refine x_iald C (dq DX7_flows 50 rfl) h (fun a5 h => ?_)
  refine x_isub C (dq DX7_flows 51 rfl) ?_
  refine x_pc 93 rfl ?_
  cases h
  exact x_iret C (dq DX7_flows 52 rfl) hQ
set_option maxHeartbeats 1000000 in
theorem mX7_flows {l : Launch} {E : Ev} {S : List Sh} {mm : Mm} {x0 : Nat} {x1 : Int32} {x2 : Int32} {x3 : Int32} {r : Int32 × Mm} (h : fX7_flows S mm x0 x1 x2 x3 = some r) : Ml l E S yX7_flows cX7_flows 5 (some .int) 5 130 [.ref (E.2.2 x0), .int x1, .int x2, .int x3] mm (some (.int r.1)) r.2 := by
  refine Ml.of (by decide +kernel) (Nat.le_of_ble_eq_true rfl) (fun G C hQ => ?_)
  have C : Cx G E cX7_flows 5 RX7 (some .int) 5 130 := C
  unfold fX7_flows at h
  obtain ⟨g0, h⟩ := gd_some h
  show WM G l E S 0 [(0, .ref (E.2.2 x0)), (1, .int x1), (2, .int x2), (3, .int x3)] [] mm
  refine x_aload_n C (dq DX7_flows 0 rfl) rfl 0 rfl ?_
  refine x_iload_n C (dq DX7_flows 1 rfl) rfl 1 rfl ?_
  refine callX7_136 C (dq DX7_flows 2 rfl) h (by decide) (by decide) (Nat.le_of_ble_eq_true rfl) (fun a1 h => ?_)
  refine x_if_eq (tgt := 28) C (dq DX7_flows 3 rfl) (by decide) h (fun h => ?_) (fun h => ?_)
  · exact x_lv [0] rfl (tX7_flows_28 C g0 h hQ)
  · refine x_pc 8 rfl ?_
    refine x_iload_n C (dq DX7_flows 4 rfl) rfl 2 rfl ?_
    refine x_if_lt (tgt := 28) C (dq DX7_flows 5 rfl) (by decide) h (fun h => ?_) (fun h => ?_)
    · exact x_lv [0] rfl (tX7_flows_28 C g0 h hQ)
    · refine x_iload_n C (dq DX7_flows 6 rfl) rfl 2 rfl ?_
      refine x_sipush (v := 300) C (dq DX7_flows 7 rfl) (by decide) ?_
      refine x_icmp_gt (tgt := 28) C (dq DX7_flows 8 rfl) (by decide) h (fun h => ?_) (fun h => ?_)
      · exact x_lv [0] rfl (tX7_flows_28 C g0 h hQ)
      · refine x_pc 19 rfl ?_
        refine x_iload_n C (dq DX7_flows 9 rfl) rfl 3 rfl ?_
        refine x_if_lt (tgt := 28) C (dq DX7_flows 10 rfl) (by decide) h (fun h => ?_) (fun h => ?_)
        · exact x_lv [0] rfl (tX7_flows_28 C g0 h hQ)
        · refine x_iload_n C (dq DX7_flows 11 rfl) rfl 3 rfl ?_
          refine x_iconst (v := 2) C (dq DX7_flows 12 rfl) (by decide) ?_
          refine x_icmp_le (tgt := 30) C (dq DX7_flows 13 rfl) (by decide) h (fun h => ?_) (fun h => ?_)
          · refine x_pc 30 rfl ?_
            refine x_aload_n C (dq DX7_flows 16 rfl) rfl 0 rfl ?_
            refine callX7_226 C (dq DX7_flows 17 rfl) h (by decide) (by decide) (Nat.le_of_ble_eq_true rfl) (fun m2 h => ?_)
            refine x_aload_n C (dq DX7_flows 18 rfl) rfl 0 rfl ?_
            refine x_aload_n C (dq DX7_flows 19 rfl) rfl 0 rfl ?_
            refine getX7_55 C (dq DX7_flows 20 rfl) g0 ?_
            refine x_pc 39 rfl ?_
            refine x_iload_n C (dq DX7_flows 21 rfl) rfl 2 rfl ?_
            refine callX7_132 C (dq DX7_flows 22 rfl) h (by decide) (by decide) (Nat.le_of_ble_eq_true rfl) (fun m3 h => ?_)
            refine x_iload_n C (dq DX7_flows 23 rfl) rfl 3 rfl ?_
            refine x_if_ne (tgt := 58) C (dq DX7_flows 24 rfl) (by decide) h (fun h => ?_) (fun h => ?_)
            · refine x_iload_n C (dq DX7_flows 32 rfl) rfl 3 rfl ?_
              refine x_pc 59 rfl ?_
              refine x_iconst (v := 1) C (dq DX7_flows 33 rfl) (by decide) ?_
              refine x_icmp_ne (tgt := 69) C (dq DX7_flows 34 rfl) (by decide) h (fun h => ?_) (fun h => ?_)
              · refine x_sipush (v := 232) C (dq DX7_flows 37 rfl) (by decide) ?_
                exact x_lv [0, 1] rfl (tX7_flows_72 C g0 h hQ)
              · refine x_sipush (v := 240) C (dq DX7_flows 35 rfl) (by decide) ?_
                refine x_goto (tgt := 72) C (dq DX7_flows 36 rfl) (by decide) ?_
                exact x_lv [0, 1] rfl (tX7_flows_72 C g0 h hQ)
            · refine x_aload_n C (dq DX7_flows 25 rfl) rfl 0 rfl ?_
              refine x_pc 48 rfl ?_
              refine getX7_55 C (dq DX7_flows 26 rfl) g0 ?_
              refine x_sipush (v := 200) C (dq DX7_flows 27 rfl) (by decide) ?_
              refine x_iload_n C (dq DX7_flows 28 rfl) rfl 1 rfl ?_
              refine x_iadd C (dq DX7_flows 29 rfl) ?_
              refine x_iald C (dq DX7_flows 30 rfl) h (fun a6 h => ?_)
              refine x_pc 57 rfl ?_
              cases h
              exact x_iret C (dq DX7_flows 31 rfl) hQ
          · exact x_lv [0] rfl (tX7_flows_28 C g0 h hQ)
set_option maxHeartbeats 1000000 in
theorem qX7_flows {S : List Sh} {mm : Mm} {x0 : Nat} {x1 : Int32} {x2 : Int32} {x3 : Int32} {r : Int32 × Mm} (h : fX7_flows S mm x0 x1 x2 x3 = some r) : isC S x0 7 := by
  unfold fX7_flows at h
  exact (gd_some h).1
abbrev eX7_sum : List (Nat × Instr × Nat) := [(0, .iconst 0, 1), (1, .istore_n 3, 1), (2, .iconst 0, 1), (3, .istore 4, 2), (5, .iload 4, 2), (7, .iload_n 2, 1), (8, .if_icmp .ge 18, 3), (11, .iload_n 3, 1), (12, .aload_n 0, 1), (13, .iload_n 1, 1), (14, .iload 4, 2), (16, .iadd, 1), (17, .iaload, 1), (18, .iadd, 1), (19, .istore_n 3, 1), (20, .iinc 4 1, 3), (23, .goto (-18), 3), (26, .iload_n 3, 1), (27, .ireturn, 1)]
theorem DX7_sum : (eX7_sum.all fun q => decide (decode cX7_sum q.1 = .ok q.2)) = true := by decide +kernel
def bX7_sum_5 (S : List Sh) (mm : Mm) (x0 : Nat) (x1 : Int32) (x2 : Int32) (x3 : Int32) (x4 : Int32) : Option ((Int32 × Int32) ⊕ (Int32)) := if x2 ≤ x4 then (some (.inr (x3))) else (bd1 (ldA S 0 mm x0 (x1 + x4)) fun a1 => some (.inl ((x3 + a1), x4 + 1)))
def fX7_sum (S : List Sh) (mm : Mm) (x0 : Nat) (x1 : Int32) (x2 : Int32) : Option (Int32) := bd1 (lp (fun s2 => bX7_sum_5 S mm x0 x1 x2 s2.1 s2.2) fu (0, 0)) fun y3 => some y3
set_option maxHeartbeats 1000000 in
theorem tX7_sum_5 {G : Gt} {l : Launch} {E : Ev} {S : List Sh} {mm : Mm} {x0 : Nat} {x1 : Int32} {x2 : Int32} {x3 : Int32} {x4 : Int32} {r : (Int32 × Int32) ⊕ (Int32)} (C : Cx G E cX7_sum 5 RX7 (some .int) 0 0)  (h : bX7_sum_5 S mm x0 x1 x2 x3 x4 = some r) (kb : ∀ z : Int32 × Int32, r = .inl z → WM G l E S 5 [(0, .ref (E.2.2 x0)), (1, .int x1), (2, .int x2), (3, .int z.1), (4, .int z.2)] [] mm) (kx : ∀ z : Int32, r = .inr z → WM G l E S 26 [(0, .ref (E.2.2 x0)), (1, .int x1), (2, .int x2), (3, .int z)] [] mm) : WM G l E S 5 [(0, .ref (E.2.2 x0)), (1, .int x1), (2, .int x2), (3, .int x3), (4, .int x4)] [] mm := by
  unfold bX7_sum_5 at h
  refine x_iload C (dq DX7_sum 4 rfl) 4 rfl ?_
  refine x_iload_n C (dq DX7_sum 5 rfl) rfl 2 rfl ?_
  refine x_icmp_ge (tgt := 26) C (dq DX7_sum 6 rfl) (by decide) h (fun h => ?_) (fun h => ?_)
  · cases h
    exact x_lv [0, 1, 2, 3] rfl (kx (x3) rfl)
  · refine x_iload_n C (dq DX7_sum 7 rfl) rfl 3 rfl ?_
    refine x_pc 12 rfl ?_
    refine x_aload_n C (dq DX7_sum 8 rfl) rfl 0 rfl ?_
    refine x_iload_n C (dq DX7_sum 9 rfl) rfl 1 rfl ?_
    refine x_iload C (dq DX7_sum 10 rfl) 4 rfl ?_
    refine x_iadd C (dq DX7_sum 11 rfl) ?_
    refine x_iald C (dq DX7_sum 12 rfl) h (fun a1 h => ?_)
    refine x_pc 18 rfl ?_
    refine x_iadd C (dq DX7_sum 13 rfl) ?_
    refine x_istore_n (lv' := [(3, .int (x3 + a1)), (0, .ref (E.2.2 x0)), (1, .int x1), (2, .int x2), (4, .int x4)]) C (dq DX7_sum 14 rfl) rfl (by decide) rfl ?_
    refine x_iinc (v := x4 + 1) (lv' := [(4, .int (x4 + 1)), (3, .int (x3 + a1)), (0, .ref (E.2.2 x0)), (1, .int x1), (2, .int x2)]) C (dq DX7_sum 15 rfl) 4 rfl rfl (by decide) rfl ?_
    refine x_goto (tgt := 5) C (dq DX7_sum 16 rfl) (by decide) ?_
    cases h
    exact x_lv [2, 3, 4, 1, 0] rfl (kb ((x3 + a1), x4 + 1) rfl)
set_option maxHeartbeats 1000000 in
theorem mX7_sum {l : Launch} {E : Ev} {S : List Sh} {mm : Mm} {x0 : Nat} {x1 : Int32} {x2 : Int32} {r : Int32} (h : fX7_sum S mm x0 x1 x2 = some r) : Ml l E S yX7_sum cX7_sum 5 (some .int) 0 0 [.ref (E.2.2 x0), .int x1, .int x2] mm (some (.int r)) mm := by
  refine Ml.of (by decide +kernel) (Nat.le_of_ble_eq_true rfl) (fun G C hQ => ?_)
  have C : Cx G E cX7_sum 5 RX7 (some .int) 0 0 := C
  unfold fX7_sum at h
  show WM G l E S 0 [(0, .ref (E.2.2 x0)), (1, .int x1), (2, .int x2)] [] mm
  refine x_iconst (v := 0) C (dq DX7_sum 0 rfl) (by decide) ?_
  refine x_istore_n (lv' := [(3, .int 0), (0, .ref (E.2.2 x0)), (1, .int x1), (2, .int x2)]) C (dq DX7_sum 1 rfl) rfl (by decide) rfl ?_
  refine x_iconst (v := 0) C (dq DX7_sum 2 rfl) (by decide) ?_
  refine x_istore (lv' := [(4, .int 0), (3, .int 0), (0, .ref (E.2.2 x0)), (1, .int x1), (2, .int x2)]) C (dq DX7_sum 3 rfl) (by decide) rfl ?_
  refine x_lv [2, 3, 4, 1, 0] rfl ?_
  refine x_loop (s0 := (0, 0)) (fun s2 => WM G l E S 5 [(0, .ref (E.2.2 x0)), (1, .int x1), (2, .int x2), (3, .int s2.1), (4, .int s2.2)] [] mm) h (fun s2 r hb kb kx => tX7_sum_5 C  hb kb (fun y3 hy => ?_))
  have h := kx y3 hy
  clear kx kb hb hy
  refine x_pc 26 rfl ?_
  refine x_iload_n C (dq DX7_sum 17 rfl) rfl 3 rfl ?_
  cases h
  exact x_iret C (dq DX7_sum 18 rfl) hQ
