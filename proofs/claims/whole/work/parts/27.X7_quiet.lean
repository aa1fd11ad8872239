theorem callX7_241 {G : Gt} {l : Launch} {E : Ev} {S : List Sh} {cc : ByteArray} {nL : Nat} {rt : Option FieldType} {fr lo : Nat} {pc : Nat} {lv : List (Nat × Value)} {rest : List Value} {mm : Mm} {α : Type} {f : Int32 → Option α} {r : α} {a0 : Nat} {a1 : Int32} {a2 : Int32} (C : Cx G E cc nL RX7 rt fr lo) (d : decode cc pc = .ok (.invokestatic 241, 3)) (h : bd1 (fX7_sum S mm a0 a1 a2) f = some r) (hfr : 1 ≤ fr) (hlo : 24 ≤ lo) (hrs : (rest.map fun v => v.category).sum ≤ 8) (k : ∀ v, f v = some r → WM G l E S (pc + 3) lv (.int v :: rest) mm) : WM G l E S pc lv (.int a2 :: .int a1 :: .ref (E.2.2 a0) :: rest) mm := by
  obtain ⟨v, hv, hf⟩ := bd1_some h
  exact x_callS (n := 3) (As := [.ref (E.2.2 a0), .int a1, .int a2]) (rest := rest) C (mX7_sum hv) (gmem 673 (by decide +kernel) rfl) (gmem 674 (by decide +kernel) rfl) (gmem 1 (by decide +kernel) rfl) (gmem 675 (by decide +kernel) rfl) (by decide +kernel) rfl hfr hlo hrs d rfl rfl (k v hf)
abbrev eX7_quiet : List (Nat × Instr × Nat) := [(0, .aload_n 0, 1), (1, .invokevirtual 226, 3), (4, .iconst 0, 1), (5, .istore_n 1, 1), (6, .iload_n 1, 1), (7, .aload_n 0, 1), (8, .getfield 61, 3), (11, .getfield 238, 3), (14, .if_icmp .ge 20, 3), (17, .aload_n 0, 1), (18, .getfield 55, 3), (21, .sipush 264, 3), (24, .iload_n 1, 1), (25, .iadd, 1), (26, .iconst 0, 1), (27, .iastore, 1), (28, .iinc 1 1, 3), (31, .goto (-25), 3), (34, .iconst 0, 1), (35, .istore_n 1, 1), (36, .iload_n 1, 1), (37, .sipush 300, 3), (40, .if_icmp .gt 45, 3), (43, .aload_n 0, 1), (44, .getfield 55, 3), (47, .bipush 30, 2), (49, .aload_n 0, 1), (50, .getfield 61, 3), (53, .getfield 184, 3), (56, .invokestatic 241, 3), (59, .ifCond .ne 5, 3), (62, .iload_n 1, 1), (63, .ireturn, 1), (64, .aload_n 0, 1), (65, .getfield 26, 3), (68, .aload_n 0, 1), (69, .getfield 61, 3), (72, .aload_n 0, 1), (73, .getfield 55, 3), (76, .invokevirtual 229, 3), (79, .iinc 1 1, 3), (82, .goto (-46), 3), (85, .bipush (-2), 2), (87, .ireturn, 1)]
theorem DX7_quiet : (eX7_quiet.all fun q => decide (decode cX7_quiet q.1 = .ok q.2)) = true := by decide +kernel
def bX7_quiet_6 (S : List Sh) (x0 : Nat) (x1 : Int32) (mm : Mm) : Option ((Int32 × Mm) ⊕ (Mm)) := gd S (rf S mm x0 8) 1 (if (mm.1 (rf S mm x0 8) 10) ≤ x1 then (some (.inr (mm))) else (bd1 (stA S 0 mm (rf S mm x0 7) (264 + x1) 0) fun m3 => some (.inl (x1 + 1, m3))))
def bX7_quiet_36 (S : List Sh) (x0 : Nat) (x1 : Int32) (mm : Mm) : Option ((Int32 × Mm) ⊕ ((Int32 × Mm) ⊕ (Mm))) := if 300 < x1 then (some (.inr (.inr (mm)))) else (gd S (rf S mm x0 8) 1 (bd1 (fX7_sum S mm (rf S mm x0 7) 30 (mm.1 (rf S mm x0 8) 9)) fun a7 => if ¬ a7 = 0 then (bd1 (fX5_step S mm (rf S mm x0 2) (rf S mm x0 8) (rf S mm x0 7)) fun m8 => some (.inl (x1 + 1, m8))) else (some (.inr (.inl (x1, mm))))))
def fX7_quiet (S : List Sh) (mm : Mm) (x0 : Nat) : Option (Int32 × Mm) := gd S x0 7 (bd1 (fX7_startTrial S mm x0) fun m1 => bd1 (lp (fun s4 => bX7_quiet_6 S x0 s4.1 s4.2) fu (0, m1)) fun y5 => bdR (lp (fun s9 => bX7_quiet_36 S x0 s9.1 s9.2) fu (0, y5)) (fun a11 => some a11) fun y10 => some ((-2), y10))
set_option maxHeartbeats 1000000 in
theorem tX7_quiet_6 {G : Gt} {l : Launch} {E : Ev} {S : List Sh} {x0 : Nat} {x1 : Int32} {mm : Mm} {r : (Int32 × Mm) ⊕ (Mm)} (C : Cx G E cX7_quiet 2 RX7 (some .int) 4 107) (g0 : isC S x0 7) (h : bX7_quiet_6 S x0 x1 mm = some r) (kb : ∀ z : Int32 × Mm, r = .inl z → WM G l E S 6 [(0, .ref (E.2.2 x0)), (1, .int z.1)] [] z.2) (kx : ∀ z : Mm, r = .inr z → WM G l E S 34 [(0, .ref (E.2.2 x0))] [] z) : WM G l E S 6 [(0, .ref (E.2.2 x0)), (1, .int x1)] [] mm := by
  unfold bX7_quiet_6 at h
  refine x_iload_n C (dq DX7_quiet 4 rfl) rfl 1 rfl ?_
  refine x_aload_n C (dq DX7_quiet 5 rfl) rfl 0 rfl ?_
  refine getX7_61 C (dq DX7_quiet 6 rfl) g0 ?_
  obtain ⟨g2, h⟩ := gd_some h
  refine getX7_238 C (dq DX7_quiet 7 rfl) g2 ?_
  refine x_pc 14 rfl ?_
  refine x_icmp_ge (tgt := 34) C (dq DX7_quiet 8 rfl) (by decide) h (fun h => ?_) (fun h => ?_)
  · cases h
    exact x_lv [0] rfl (kx (mm) rfl)
  · refine x_aload_n C (dq DX7_quiet 9 rfl) rfl 0 rfl ?_
    refine getX7_55 C (dq DX7_quiet 10 rfl) g0 ?_
    refine x_sipush (v := 264) C (dq DX7_quiet 11 rfl) (by decide) ?_
    refine x_iload_n C (dq DX7_quiet 12 rfl) rfl 1 rfl ?_
    refine x_pc 25 rfl ?_
    refine x_iadd C (dq DX7_quiet 13 rfl) ?_
    refine x_iconst (v := 0) C (dq DX7_quiet 14 rfl) (by decide) ?_
    refine x_iast C (dq DX7_quiet 15 rfl) h (fun m3 h => ?_)
    refine x_iinc (v := x1 + 1) (lv' := [(1, .int (x1 + 1)), (0, .ref (E.2.2 x0))]) C (dq DX7_quiet 16 rfl) 1 rfl rfl (by decide) rfl ?_
    refine x_goto (tgt := 6) C (dq DX7_quiet 17 rfl) (by decide) ?_
    cases h
    exact x_lv [1, 0] rfl (kb (x1 + 1, m3) rfl)
set_option maxHeartbeats 1000000 in
theorem tX7_quiet_36 {G : Gt} {l : Launch} {E : Ev} {S : List Sh} {x0 : Nat} {x1 : Int32} {mm : Mm} {r : (Int32 × Mm) ⊕ ((Int32 × Mm) ⊕ (Mm))} (C : Cx G E cX7_quiet 2 RX7 (some .int) 4 107) (g0 : isC S x0 7) (h : bX7_quiet_36 S x0 x1 mm = some r) (kb : ∀ z : Int32 × Mm, r = .inl z → WM G l E S 36 [(0, .ref (E.2.2 x0)), (1, .int z.1)] [] z.2) (kr : ∀ z : Int32 × Mm, r = .inr (.inl z) → RQ G E S (some (.int z.1)) z.2) (kx : ∀ z : Mm, r = .inr (.inr z) → WM G l E S 85 [(0, .ref (E.2.2 x0))] [] z) : WM G l E S 36 [(0, .ref (E.2.2 x0)), (1, .int x1)] [] mm := by
  unfold bX7_quiet_36 at h
  refine x_iload_n C (dq DX7_quiet 20 rfl) rfl 1 rfl ?_
  refine x_sipush (v := 300) C (dq DX7_quiet 21 rfl) (by decide) ?_
  refine x_icmp_gt (tgt := 85) C (dq DX7_quiet 22 rfl) (by decide) h (fun h => ?_) (fun h => ?_)
  · cases h
    exact x_lv [0] rfl (kx (mm) rfl)
  · refine x_aload_n C (dq DX7_quiet 23 rfl) rfl 0 rfl ?_
    refine x_pc 44 rfl ?_
    refine getX7_55 C (dq DX7_quiet 24 rfl) g0 ?_
    refine x_bipush (v := 30) C (dq DX7_quiet 25 rfl) (by decide) ?_
    refine x_aload_n C (dq DX7_quiet 26 rfl) rfl 0 rfl ?_
    refine getX7_61 C (dq DX7_quiet 27 rfl) g0 ?_
    obtain ⟨g6, h⟩ := gd_some h
    refine getX7_184 C (dq DX7_quiet 28 rfl) g6 ?_
    refine x_pc 56 rfl ?_
    refine callX7_241 C (dq DX7_quiet 29 rfl) h (by decide) (by decide) (Nat.le_of_ble_eq_true rfl) (fun a7 h => ?_)
    refine x_if_ne (tgt := 64) C (dq DX7_quiet 30 rfl) (by decide) h (fun h => ?_) (fun h => ?_)
    · refine x_aload_n C (dq DX7_quiet 33 rfl) rfl 0 rfl ?_
      refine getX7_26 C (dq DX7_quiet 34 rfl) g0 ?_
      refine x_aload_n C (dq DX7_quiet 35 rfl) rfl 0 rfl ?_
      refine x_pc 69 rfl ?_
      refine getX7_61 C (dq DX7_quiet 36 rfl) g0 ?_
      refine x_aload_n C (dq DX7_quiet 37 rfl) rfl 0 rfl ?_
      refine getX7_55 C (dq DX7_quiet 38 rfl) g0 ?_
      refine callX7_229 C (dq DX7_quiet 39 rfl) h (by decide) (by decide) (Nat.le_of_ble_eq_true rfl) (fun m8 h => ?_)
      refine x_iinc (v := x1 + 1) (lv' := [(1, .int (x1 + 1)), (0, .ref (E.2.2 x0))]) C (dq DX7_quiet 40 rfl) 1 rfl rfl (by decide) rfl ?_
      refine x_pc 82 rfl ?_
      refine x_goto (tgt := 36) C (dq DX7_quiet 41 rfl) (by decide) ?_
      cases h
      exact x_lv [1, 0] rfl (kb (x1 + 1, m8) rfl)
    · refine x_iload_n C (dq DX7_quiet 31 rfl) rfl 1 rfl ?_
      cases h
      exact x_iret C (dq DX7_quiet 32 rfl) (kr (x1, mm) rfl)
set_option maxHeartbeats 1000000 in
theorem mX7_quiet {l : Launch} {E : Ev} {S : List Sh} {mm : Mm} {x0 : Nat} {r : Int32 × Mm} (h : fX7_quiet S mm x0 = some r) : Ml l E S yX7_quiet cX7_quiet 2 (some .int) 4 107 [.ref (E.2.2 x0)] mm (some (.int r.1)) r.2 := by
  refine Ml.of (by decide +kernel) (Nat.le_of_ble_eq_true rfl) (fun G C hQ => ?_)
  have C : Cx G E cX7_quiet 2 RX7 (some .int) 4 107 := C
  unfold fX7_quiet at h
  obtain ⟨g0, h⟩ := gd_some h
  show WM G l E S 0 [(0, .ref (E.2.2 x0))] [] mm
  refine x_aload_n C (dq DX7_quiet 0 rfl) rfl 0 rfl ?_
  refine callX7_226 C (dq DX7_quiet 1 rfl) h (by decide) (by decide) (Nat.le_of_ble_eq_true rfl) (fun m1 h => ?_)
  refine x_iconst (v := 0) C (dq DX7_quiet 2 rfl) (by decide) ?_
  refine x_istore_n (lv' := [(1, .int 0), (0, .ref (E.2.2 x0))]) C (dq DX7_quiet 3 rfl) rfl (by decide) rfl ?_
  refine x_lv [1, 0] rfl ?_
  refine x_loop (s0 := (0, m1)) (fun s4 => WM G l E S 6 [(0, .ref (E.2.2 x0)), (1, .int s4.1)] [] s4.2) h (fun s4 r hb kb kx => tX7_quiet_6 C g0 hb kb (fun y5 hy => ?_))
  have h := kx y5 hy
  clear kx kb hb hy
  refine x_pc 34 rfl ?_
  refine x_iconst (v := 0) C (dq DX7_quiet 18 rfl) (by decide) ?_
  refine x_istore_n (lv' := [(1, .int 0), (0, .ref (E.2.2 x0))]) C (dq DX7_quiet 19 rfl) rfl (by decide) rfl ?_
  refine x_lv [1, 0] rfl ?_
  refine x_loopR (s0 := (0, y5)) (fun s9 => WM G l E S 36 [(0, .ref (E.2.2 x0)), (1, .int s9.1)] [] s9.2) h (fun s9 r hb kb kg kx => tX7_quiet_36 C g0 hb kb (fun a11 ha => ?_) (fun y10 hy => ?_))
  · have h := kg a11 ha
    cases h
    exact hQ
  · have h := kx y10 hy
    clear kx kb hb hy kg
    refine x_bipush (v := (-2)) C (dq DX7_quiet 42 rfl) (by decide) ?_
    cases h
    exact x_iret C (dq DX7_quiet 43 rfl) hQ
set_option maxHeartbeats 1000000 in
theorem qX7_quiet {S : List Sh} {mm : Mm} {x0 : Nat} {r : Int32 × Mm} (h : fX7_quiet S mm x0 = some r) : isC S x0 7 := by
  unfold fX7_quiet at h
  exact (gd_some h).1
theorem callX7_251 {G : Gt} {l : Launch} {E : Ev} {S : List Sh} {cc : ByteArray} {nL : Nat} {rt : Option FieldType} {fr lo : Nat} {pc : Nat} {lv : List (Nat × Value)} {rest : List Value} {mm : Mm} {α : Type} {f : Int32 → Option α} {r : α} {o : Nat} {a0 : Nat} {a1 : Int32} (C : Cx G E cc nL RX7 rt fr lo) (d : decode cc pc = .ok (.invokevirtual 251, 3)) (h : bd1 (fX5_cameTo S mm o a0 a1) f = some r) (hfr : 2 ≤ fr) (hlo : 46 ≤ lo) (hrs : (rest.map fun v => v.category).sum ≤ 8) (k : ∀ v, f v = some r → WM G l E S (pc + 3) lv (.int v :: rest) mm) : WM G l E S pc lv (.int a1 :: .ref (E.2.2 a0) :: .ref (E.2.2 o) :: rest) mm := by
  obtain ⟨v, hv, hf⟩ := bd1_some h
  exact x_callV (n := 2) (As := [.ref (E.2.2 a0), .int a1]) (rest := rest) C (mX5_cameTo hv) (qX5_cameTo hv) (T := TX5) (N := 3) rfl (gmem 692 (by decide +kernel) rfl) (gmem 693 (by decide +kernel) rfl) (gmem 694 (by decide +kernel) rfl) (gmem 4 (by decide +kernel) rfl) (gmem 695 (by decide +kernel) rfl) (by decide +kernel) rfl hfr hlo hrs d rfl rfl (k v hf)
abbrev eX7_leastSize : List (Nat × Instr × Nat) := [(0, .aload_n 0, 1), (1, .iload_n 1, 1), (2, .invokevirtual 140, 3), (5, .ifCond .eq 14, 3), (8, .iload_n 2, 1), (9, .iconst 1, 1), (10, .if_icmp .lt 9, 3), (13, .iload_n 2, 1), (14, .bipush 100, 2), (16, .if_icmp .le 5, 3), (19, .iconst (-1), 1), (20, .ireturn, 1), (21, .aload_n 0, 1), (22, .invokevirtual 226, 3), (25, .aload_n 0, 1), (26, .getfield 55, 3), (29, .bipush 20, 2), (31, .iload_n 1, 1), (32, .iadd, 1), (33, .sipush 1999, 3), (36, .iastore, 1), (37, .iconst 1, 1), (38, .istore_n 3, 1), (39, .iconst 0, 1), (40, .istore 4, 2), (42, .iload 4, 2), (44, .iload_n 2, 1), (45, .if_icmp .ge 53, 3), (48, .aload_n 0, 1), (49, .getfield 26, 3), (52, .aload_n 0, 1), (53, .getfield 61, 3), (56, .aload_n 0, 1), (57, .getfield 55, 3), (60, .invokevirtual 229, 3), (63, .aload_n 0, 1), (64, .getfield 26, 3), (67, .aload_n 0, 1), (68, .getfield 61, 3), (71, .iload_n 1, 1), (72, .invokevirtual 251, 3), (75, .ifCond .le 17, 3), (78, .iload_n 3, 1), (79, .aload_n 0, 1), (80, .getfield 55, 3), (83, .bipush 30, 2), (85, .iload_n 1, 1), (86, .iadd, 1), (87, .iaload, 1), (88, .invokestatic 232, 3), (91, .istore_n 3, 1), (92, .iinc 4 1, 3), (95, .goto (-53), 3), (98, .aload_n 0, 1), (99, .getfield 55, 3), (102, .bipush 50, 2), (104, .iload_n 1, 1), (105, .iadd, 1), (106, .iaload, 1), (107, .aload_n 0, 1), (108, .getfield 51, 3), (111, .bipush 50, 2), (113, .iload_n 1, 1), (114, .iadd, 1), (115, .iaload, 1), (116, .if_icmp .ne 7, 3), (119, .iload_n 3, 1), (120, .goto 5, 3), (123, .bipush (-2), 2), (125, .ireturn, 1)]
theorem DX7_leastSize : (eX7_leastSize.all fun q => decide (decode cX7_leastSize q.1 = .ok q.2)) = true := by decide +kernel
def jX7_leastSize_19 (S : List Sh) (mm : Mm) (x0 : Nat)  : Option (Int32 × Mm) := some ((-1), mm)
def jX7_leastSize_92 (S : List Sh) (mm : Mm) (x0 : Nat) (x1 : Int32) (x2 : Int32) (x3 : Int32) (x4 : Int32)  : Option ((Int32 × Int32 × Mm) ⊕ (Int32 × Mm)) := some (.inl (x3, x4 + 1, mm))
def bX7_leastSize_42 (S : List Sh) (x0 : Nat) (x1 : Int32) (x2 : Int32) (x3 : Int32) (x4 : Int32) (mm : Mm) : Option ((Int32 × Int32 × Mm) ⊕ (Int32 × Mm)) := if x2 ≤ x4 then (some (.inr (x3, mm))) else (bd1 (fX5_step S mm (rf S mm x0 2) (rf S mm x0 8) (rf S mm x0 7)) fun m4 => bd1 (fX5_cameTo S m4 (rf S m4 x0 2) (rf S m4 x0 8) x1) fun a5 => if a5 ≤ 0 then (jX7_leastSize_92 S m4 x0 x1 x2 x3 x4) else (bd1 (ldA S 0 m4 (rf S m4 x0 7) (30 + x1)) fun a6 => jX7_leastSize_92 S m4 x0 x1 x2 (if x3 < a6 then a6 else x3) x4))
def jX7_leastSize_125 (S : List Sh) (mm : Mm) (x0 : Nat) (p0 : Int32) : Option (Int32 × Mm) := some (p0, mm)
def fX7_leastSize (S : List Sh) (mm : Mm) (x0 : Nat) (x1 : Int32) (x2 : Int32) : Option (Int32 × Mm) := gd S x0 7 (bd1 (fX7_isLink S mm x0 x1) fun a1 => if a1 = 0 then (jX7_leastSize_19 S mm x0) else (if x2 < 1 then (jX7_leastSize_19 S mm x0) else (if x2 ≤ 100 then (bd1 (fX7_startTrial S mm x0) fun m2 => bd1 (stA S 0 m2 (rf S m2 x0 7) (20 + x1) 1999) fun m3 => bd1 (lp (fun s7 => bX7_leastSize_42 S x0 x1 x2 s7.1 s7.2.1 s7.2.2) fu (1, 0, m3)) fun y8 => bd1 (ldA S 0 y8.2 (rf S y8.2 x0 7) (50 + x1)) fun a9 => bd1 (ldA S 0 y8.2 (rf S y8.2 x0 6) (50 + x1)) fun a10 => if ¬ a9 = a10 then (jX7_leastSize_125 S y8.2 x0 (-2)) else (jX7_leastSize_125 S y8.2 x0 y8.1)) else (jX7_leastSize_19 S mm x0))))
set_option maxHeartbeats 1000000 in
theorem tX7_leastSize_19 {G : Gt} {l : Launch} {E : Ev} {S : List Sh} {mm : Mm} {x0 : Nat}  {r : Int32 × Mm} (C : Cx G E cX7_leastSize 5 RX7 (some .int) 4 107) (g0 : isC S x0 7) (h : jX7_leastSize_19 S mm x0 = some r) (hQ : RQ G E S (some (.int r.1)) r.2) : WM G l E S 19 [(0, .ref (E.2.2 x0))] [] mm := by
  unfold jX7_leastSize_19 at h
  refine x_iconst (v := (-1)) C (dq DX7_leastSize 10 rfl) (by decide) ?_
  cases h
  exact x_iret C (dq DX7_leastSize 11 rfl) hQ
set_option maxHeartbeats 1000000 in
theorem tX7_leastSize_92 {G : Gt} {l : Launch} {E : Ev} {S : List Sh} {mm : Mm} {x0 : Nat} {x1 : Int32} {x2 : Int32} {x3 : Int32} {x4 : Int32}  {r : (Int32 × Int32 × Mm) ⊕ (Int32 × Mm)} (C : Cx G E cX7_leastSize 5 RX7 (some .int) 4 107) (g0 : isC S x0 7) (h : jX7_leastSize_92 S mm x0 x1 x2 x3 x4 = some r) (kb : ∀ z : Int32 × Int32 × Mm, r = .inl z → WM G l E S 42 [(0, .ref (E.2.2 x0)), (1, .int x1), (2, .int x2), (3, .int z.1), (4, .int z.2.1)] [] z.2.2) (kx : ∀ z : Int32 × Mm, r = .inr z → WM G l E S 98 [(0, .ref (E.2.2 x0)), (1, .int x1), (2, .int x2), (3, .int z.1)] [] z.2) : WM G l E S 92 [(0, .ref (E.2.2 x0)), (1, .int x1), (2, .int x2), (3, .int x3), (4, .int x4)] [] mm := by
  unfold jX7_leastSize_92 at h
  refine x_iinc (v := x4 + 1) (lv' := [(4, .int (x4 + 1)), (0, .ref (E.2.2 x0)), (1, .int x1), (2, .int x2), (3, .int x3)]) C (dq DX7_leastSize 51 rfl) 4 rfl rfl (by decide) rfl ?_
  refine x_goto (tgt := 42) C (dq DX7_leastSize 52 rfl) (by decide) ?_
  cases h
  exact x_lv [1, 2, 3, 4, 0] rfl (kb (x3, x4 + 1, mm) rfl)
set_option maxHeartbeats 1000000 in
theorem tX7_leastSize_42 {G : Gt} {l : Launch} {E : Ev} {S : List Sh} {x0 : Nat} {x1 : Int32} {x2 : Int32} {x3 : Int32} {x4 : Int32} {mm : Mm} {r : (Int32 × Int32 × Mm) ⊕ (Int32 × Mm)} (C : Cx G E cX7_leastSize 5 RX7 (some .int) 4 107) (g0 : isC S x0 7) (h : bX7_leastSize_42 S x0 x1 x2 x3 x4 mm = some r) (kb : ∀ z : Int32 × Int32 × Mm, r = .inl z → WM G l E S 42 [(0, .ref (E.2.2 x0)), (1, .int x1), (2, .int x2), (3, .int z.1), (4, .int z.2.1)] [] z.2.2) (kx : ∀ z : Int32 × Mm, r = .inr z → WM G l E S 98 [(0, .ref (E.2.2 x0)), (1, .int x1), (2, .int x2), (3, .int z.1)] [] z.2) : WM G l E S 42 [(0, .ref (E.2.2 x0)), (1, .int x1), (2, .int x2), (3, .int x3), (4, .int x4)] [] mm := by
  unfold bX7_leastSize_42 at h
  refine x_iload C (dq DX7_leastSize 25 rfl) 4 rfl ?_
  refine x_iload_n C (dq DX7_leastSize 26 rfl) rfl 2 rfl ?_
  refine x_icmp_ge (tgt := 98) C (dq DX7_leastSize 27 rfl) (by decide) h (fun h => ?_) (fun h => ?_)
  · cases h
    exact x_lv [0, 1, 2, 3] rfl (kx (x3, mm) rfl)
  · refine x_aload_n C (dq DX7_leastSize 28 rfl) rfl 0 rfl ?_
    refine x_pc 49 rfl ?_
    refine getX7_26 C (dq DX7_leastSize 29 rfl) g0 ?_
    refine x_aload_n C (dq DX7_leastSize 30 rfl) rfl 0 rfl ?_
    refine getX7_61 C (dq DX7_leastSize 31 rfl) g0 ?_
    refine x_aload_n C (dq DX7_leastSize 32 rfl) rfl 0 rfl ?_
    refine getX7_55 C (dq DX7_leastSize 33 rfl) g0 ?_
    refine x_pc 60 rfl ?_
    refine callX7_229 C (dq DX7_leastSize 34 rfl) h (by decide) (by decide) (Nat.le_of_ble_eq_true rfl) (fun m4 h => ?_)
    refine x_aload_n C (dq DX7_leastSize 35 rfl) rfl 0 rfl ?_
    refine getX7_26 C (dq DX7_leastSize 36 rfl) g0 ?_
    refine x_aload_n C (dq DX7_leastSize 37 rfl) rfl 0 rfl ?_
    refine getX7_61 C (dq DX7_leastSize 38 rfl) g0 ?_
    refine x_pc 71 rfl ?_
    refine x_iload_n C (dq DX7_leastSize 39 rfl) rfl 1 rfl ?_
    refine callX7_251 C (dq DX7_leastSize 40 rfl) h (by decide) (by decide) (Nat.le_of_ble_eq_true rfl) (fun a5 h => ?_)
    refine x_if_le (tgt := 92) C (dq DX7_leastSize 41 rfl) (by decide) h (fun h => ?_) (fun h => ?_)
    · exact x_lv [0, 1, 2, 3, 4] rfl (tX7_leastSize_92 C g0 h kb kx)
    · refine x_iload_n C (dq DX7_leastSize 42 rfl) rfl 3 rfl ?_
      refine x_aload_n C (dq DX7_leastSize 43 rfl) rfl 0 rfl ?_
      refine x_pc 80 rfl ?_
      refine getX7_55 C (dq DX7_leastSize 44 rfl) g0 ?_
      refine x_bipush (v := 30) C (dq DX7_leastSize 45 rfl) (by decide) ?_
      refine x_iload_n C (dq DX7_leastSize 46 rfl) rfl 1 rfl ?_
      refine x_iadd C (dq DX7_leastSize 47 rfl) ?_
      refine x_iald C (dq DX7_leastSize 48 rfl) h (fun a6 h => ?_)
      refine x_pc 88 rfl ?_
      refine callX7_232 C (dq DX7_leastSize 49 rfl) (by decide) (Nat.le_of_ble_eq_true rfl) ?_
      refine x_istore_n (lv' := [(3, .int (if x3 < a6 then a6 else x3)), (0, .ref (E.2.2 x0)), (1, .int x1), (2, .int x2), (4, .int x4)]) C (dq DX7_leastSize 50 rfl) rfl (by decide) rfl ?_
      exact x_lv [1, 2, 3, 0, 4] rfl (tX7_leastSize_92 C g0 h kb kx)
set_option maxHeartbeats 1000000 in
theorem tX7_leastSize_125 {G : Gt} {l : Launch} {E : Ev} {S : List Sh} {mm : Mm} {x0 : Nat} {p0 : Int32} {r : Int32 × Mm} (C : Cx G E cX7_leastSize 5 RX7 (some .int) 4 107) (g0 : isC S x0 7) (h : jX7_leastSize_125 S mm x0 p0 = some r) (hQ : RQ G E S (some (.int r.1)) r.2) : WM G l E S 125 [(0, .ref (E.2.2 x0))] [.int p0] mm := by
  unfold jX7_leastSize_125 at h
  cases h
  exact x_iret C (dq DX7_leastSize 69 rfl) hQ
set_option maxHeartbeats 1000000 in
theorem mX7_leastSize {l : Launch} {E : Ev} {S : List Sh} {mm : Mm} {x0 : Nat} {x1 : Int32} {x2 : Int32} {r : Int32 × Mm} (h : fX7_leastSize S mm x0 x1 x2 = some r) : Ml l E S yX7_leastSize cX7_leastSize 5 (some .int) 4 107 [.ref (E.2.2 x0), .int x1, .int x2] mm (some (.int r.1)) r.2 := by
  refine Ml.of (by decide +kernel) (Nat.le_of_ble_eq_true rfl) (fun G C hQ => ?_)
  have C : Cx G E cX7_leastSize 5 RX7 (some .int) 4 107 := C
  unfold fX7_leastSize at h
  obtain ⟨g0, h⟩ := gd_some h
  show WM G l E S 0 [(0, .ref (E.2.2 x0)), (1, .int x1), (2, .int x2)] [] mm
  refine x_aload_n C (dq DX7_leastSize 0 rfl) rfl 0 rfl ?_
  refine x_iload_n C (dq DX7_leastSize 1 rfl) rfl 1 rfl ?_
  refine callX7_140 C (dq DX7_leastSize 2 rfl) h (by decide) (by decide) (Nat.le_of_ble_eq_true rfl) (fun a1 h => ?_)
  refine x_if_eq (tgt := 19) C (dq DX7_leastSize 3 rfl) (by decide) h (fun h => ?_) (fun h => ?_)
  · exact x_lv [0] rfl (tX7_leastSize_19 C g0 h hQ)
  · refine x_pc 8 rfl ?_
    refine x_iload_n C (dq DX7_leastSize 4 rfl) rfl 2 rfl ?_
    refine x_iconst (v := 1) C (dq DX7_leastSize 5 rfl) (by decide) ?_
    refine x_icmp_lt (tgt := 19) C (dq DX7_leastSize 6 rfl) (by decide) h (fun h => ?_) (fun h => ?_)
    · exact x_lv [0] rfl (tX7_leastSize_19 C g0 h hQ)
    · refine x_iload_n C (dq DX7_leastSize 7 rfl) rfl 2 rfl ?_
      refine x_bipush (v := 100) C (dq DX7_leastSize 8 rfl) (by decide) ?_
      refine x_pc 16 rfl ?_
      refine x_icmp_le (tgt := 21) C (dq DX7_leastSize 9 rfl) (by decide) h (fun h => ?_) (fun h => ?_)
      · refine x_aload_n C (dq DX7_leastSize 12 rfl) rfl 0 rfl ?_
        refine callX7_226 C (dq DX7_leastSize 13 rfl) h (by decide) (by decide) (Nat.le_of_ble_eq_true rfl) (fun m2 h => ?_)
        refine x_aload_n C (dq DX7_leastSize 14 rfl) rfl 0 rfl ?_
        refine getX7_55 C (dq DX7_leastSize 15 rfl) g0 ?_
        refine x_pc 29 rfl ?_
        refine x_bipush (v := 20) C (dq DX7_leastSize 16 rfl) (by decide) ?_
        refine x_iload_n C (dq DX7_leastSize 17 rfl) rfl 1 rfl ?_
        refine x_iadd C (dq DX7_leastSize 18 rfl) ?_
        refine x_sipush (v := 1999) C (dq DX7_leastSize 19 rfl) (by decide) ?_
        refine x_iast C (dq DX7_leastSize 20 rfl) h (fun m3 h => ?_)
        refine x_pc 37 rfl ?_
        refine x_iconst (v := 1) C (dq DX7_leastSize 21 rfl) (by decide) ?_
        refine x_istore_n (lv' := [(3, .int 1), (0, .ref (E.2.2 x0)), (1, .int x1), (2, .int x2)]) C (dq DX7_leastSize 22 rfl) rfl (by decide) rfl ?_
        refine x_iconst (v := 0) C (dq DX7_leastSize 23 rfl) (by decide) ?_
        refine x_istore (lv' := [(4, .int 0), (3, .int 1), (0, .ref (E.2.2 x0)), (1, .int x1), (2, .int x2)]) C (dq DX7_leastSize 24 rfl) (by decide) rfl ?_
        refine x_lv [2, 3, 4, 1, 0] rfl ?_
        refine x_loop (s0 := (1, 0, m3)) (fun s7 => WM G l E S 42 [(0, .ref (E.2.2 x0)), (1, .int x1), (2, .int x2), (3, .int s7.1), (4, .int s7.2.1)] [] s7.2.2) h (fun s7 r hb kb kx => tX7_leastSize_42 C g0 hb kb (fun y8 hy => ?_))
        have h := kx y8 hy
        clear kx kb hb hy
        refine x_aload_n C (dq DX7_leastSize 53 rfl) rfl 0 rfl ?_
        refine x_pc 99 rfl ?_
        refine getX7_55 C (dq DX7_leastSize 54 rfl) g0 ?_
        refine x_bipush (v := 50) C (dq DX7_leastSize 55 rfl) (by decide) ?_
        refine x_iload_n C (dq DX7_leastSize 56 rfl) rfl 1 rfl ?_
        refine x_iadd C (dq DX7_leastSize 57 rfl) ?_
        refine x_iald C (dq DX7_leastSize 58 rfl) h (fun a9 h => ?_)
        refine x_pc 107 rfl ?_
        refine x_aload_n C (dq DX7_leastSize 59 rfl) rfl 0 rfl ?_
        refine getX7_51 C (dq DX7_leastSize 60 rfl) g0 ?_
        refine x_bipush (v := 50) C (dq DX7_leastSize 61 rfl) (by decide) ?_
        refine x_iload_n C (dq DX7_leastSize 62 rfl) rfl 1 rfl ?_
        refine x_iadd C (dq DX7_leastSize 63 rfl) ?_
        refine x_pc 115 rfl ?_
        refine x_iald C (dq DX7_leastSize 64 rfl) h (fun a10 h => ?_)
        refine x_icmp_ne (tgt := 123) C (dq DX7_leastSize 65 rfl) (by decide) h (fun h => ?_) (fun h => ?_)
        · refine x_bipush (v := (-2)) C (dq DX7_leastSize 68 rfl) (by decide) ?_
          exact x_lv [0] rfl (tX7_leastSize_125 C g0 h hQ)
        · refine x_iload_n C (dq DX7_leastSize 66 rfl) rfl 3 rfl ?_
          refine x_goto (tgt := 125) C (dq DX7_leastSize 67 rfl) (by decide) ?_
          exact x_lv [0] rfl (tX7_leastSize_125 C g0 h hQ)
      · exact x_lv [0] rfl (tX7_leastSize_19 C g0 h hQ)
set_option maxHeartbeats 1000000 in
theorem qX7_leastSize {S : List Sh} {mm : Mm} {x0 : Nat} {x1 : Int32} {x2 : Int32} {r : Int32 × Mm} (h : fX7_leastSize S mm x0 x1 x2 = some r) : isC S x0 7 := by
  unfold fX7_leastSize at h
  exact (gd_some h).1
theorem callX7_276 {G : Gt} {l : Launch} {E : Ev} {S : List Sh} {cc : ByteArray} {nL : Nat} {rt : Option FieldType} {fr lo : Nat} {pc : Nat} {lv : List (Nat × Value)} {rest : List Value} {mm : Mm} {α : Type} {f : Int32 → Option α} {r : α} {o : Nat} (C : Cx G E cc nL RX7 rt fr lo) (d : decode cc pc = .ok (.invokevirtual 276, 3)) (h : bd1 (fX7_askedPause S mm o) f = some r) (hfr : 1 ≤ fr) (hlo : 22 ≤ lo) (hrs : (rest.map fun v => v.category).sum ≤ 8) (k : ∀ v, f v = some r → WM G l E S (pc + 3) lv (.int v :: rest) mm) : WM G l E S pc lv (.ref (E.2.2 o) :: rest) mm := by
  obtain ⟨v, hv, hf⟩ := bd1_some h
  exact x_callV (n := 0) (As := []) (rest := rest) C (mX7_askedPause hv) (qX7_askedPause hv) (T := TX7) (N := 12) rfl (gmem 735 (by decide +kernel) rfl) (gmem 737 (by decide +kernel) rfl) (gmemS 36 (by decide +kernel) rfl) (gmem 1 (by decide +kernel) rfl) (gmem 738 (by decide +kernel) rfl) (by decide +kernel) rfl hfr hlo hrs d rfl rfl (k v hf)
abbrev eX7_count : List (Nat × Instr × Nat) := [(0, .iload_n 1, 1), (1, .tableswitch 193 0 10 #[59, 67, 75, 84, 102, 120, 137, 154, 172, 177, 185], 59), (60, .aload_n 0, 1), (61, .getfield 61, 3), (64, .getfield 184, 3), (67, .ireturn, 1), (68, .aload_n 0, 1), (69, .getfield 61, 3), (72, .getfield 238, 3), (75, .ireturn, 1), (76, .aload_n 0, 1), (77, .getfield 51, 3), (80, .sipush 296, 3), (83, .iaload, 1), (84, .ireturn, 1), (85, .aload_n 0, 1), (86, .getfield 51, 3), (89, .sipush 232, 3), (92, .aload_n 0, 1), (93, .getfield 61, 3), (96, .getfield 238, 3), (99, .invokestatic 241, 3), (102, .ireturn, 1), (103, .aload_n 0, 1), (104, .getfield 51, 3), (107, .sipush 240, 3), (110, .aload_n 0, 1), (111, .getfield 61, 3), (114, .getfield 238, 3), (117, .invokestatic 241, 3), (120, .ireturn, 1), (121, .aload_n 0, 1), (122, .getfield 51, 3), (125, .bipush 50, 2), (127, .aload_n 0, 1), (128, .getfield 61, 3), (131, .getfield 184, 3), (134, .invokestatic 241, 3), (137, .ireturn, 1), (138, .aload_n 0, 1), (139, .getfield 51, 3), (142, .bipush 80, 2), (144, .aload_n 0, 1), (145, .getfield 61, 3), (148, .getfield 184, 3), (151, .invokestatic 241, 3), (154, .ireturn, 1), (155, .aload_n 0, 1), (156, .getfield 51, 3), (159, .sipush 264, 3), (162, .aload_n 0, 1), (163, .getfield 61, 3), (166, .getfield 238, 3), (169, .invokestatic 241, 3), (172, .ireturn, 1), (173, .aload_n 0, 1), (174, .invokevirtual 276, 3), (177, .ireturn, 1), (178, .aload_n 0, 1), (179, .getfield 47, 3), (182, .getfield 267, 3), (185, .ireturn, 1), (186, .aload_n 0, 1), (187, .getfield 10, 3), (190, .getfield 75, 3), (193, .ireturn, 1), (194, .iconst (-1), 1), (195, .ireturn, 1)]
theorem DX7_count : (eX7_count.all fun q => decide (decode cX7_count q.1 = .ok q.2)) = true := by decide +kernel
def fX7_count (S : List Sh) (mm : Mm) (x0 : Nat) (x1 : Int32) : Option (Int32) := gd S x0 7 (if x1 = 0 then (gd S (rf S mm x0 8) 1 (some (mm.1 (rf S mm x0 8) 9))) else (if x1 = 1 then (gd S (rf S mm x0 8) 1 (some (mm.1 (rf S mm x0 8) 10))) else (if x1 = 2 then (bd1 (ldA S 0 mm (rf S mm x0 6) 296) fun a5 => some a5) else (if x1 = 3 then (gd S (rf S mm x0 8) 1 (bd1 (fX7_sum S mm (rf S mm x0 6) 232 (mm.1 (rf S mm x0 8) 10)) fun a8 => some a8)) else (if x1 = 4 then (gd S (rf S mm x0 8) 1 (bd1 (fX7_sum S mm (rf S mm x0 6) 240 (mm.1 (rf S mm x0 8) 10)) fun a11 => some a11)) else (if x1 = 5 then (gd S (rf S mm x0 8) 1 (bd1 (fX7_sum S mm (rf S mm x0 6) 50 (mm.1 (rf S mm x0 8) 9)) fun a14 => some a14)) else (if x1 = 6 then (gd S (rf S mm x0 8) 1 (bd1 (fX7_sum S mm (rf S mm x0 6) 80 (mm.1 (rf S mm x0 8) 9)) fun a17 => some a17)) else (if x1 = 7 then (gd S (rf S mm x0 8) 1 (bd1 (fX7_sum S mm (rf S mm x0 6) 264 (mm.1 (rf S mm x0 8) 10)) fun a20 => some a20)) else (if x1 = 8 then (bd1 (fX7_askedPause S mm x0) fun a22 => some a22) else (if x1 = 9 then (gd S (rf S mm x0 5) 0 (some (mm.1 (rf S mm x0 5) 3))) else (if x1 = 10 then (gd S (rf S mm x0 0) 4 (some (mm.1 (rf S mm x0 0) 1))) else (some (-1)))))))))))))
set_option maxHeartbeats 1000000 in
theorem mX7_count {l : Launch} {E : Ev} {S : List Sh} {mm : Mm} {x0 : Nat} {x1 : Int32} {r : Int32} (h : fX7_count S mm x0 x1 = some r) : Ml l E S yX7_count cX7_count 2 (some .int) 1 24 [.ref (E.2.2 x0), .int x1] mm (some (.int r)) mm := by
  refine Ml.of (by decide +kernel) (Nat.le_of_ble_eq_true rfl) (fun G C hQ => ?_)
  have C : Cx G E cX7_count 2 RX7 (some .int) 1 24 := C
  unfold fX7_count at h
  obtain ⟨g0, h⟩ := gd_some h
  show WM G l E S 0 [(0, .ref (E.2.2 x0)), (1, .int x1)] [] mm
  refine x_iload_n C (dq DX7_count 0 rfl) rfl 1 rfl ?_
  refine x_tab1 (tgt := 60) C (dq DX7_count 1 rfl) (w := 0) (z := 0) (by decide) (by decide) (by decide) rfl (by decide) h (fun h => ?_) (fun n2 h => ?_)
  · refine x_aload_n C (dq DX7_count 2 rfl) rfl 0 rfl ?_
    refine getX7_61 C (dq DX7_count 3 rfl) g0 ?_
    refine x_pc 64 rfl ?_
    obtain ⟨g1, h⟩ := gd_some h
    refine getX7_184 C (dq DX7_count 4 rfl) g1 ?_
    cases h
    exact x_iret C (dq DX7_count 5 rfl) hQ
  refine x_tab1 (tgt := 68) C (dq DX7_count 1 rfl) (w := 1) (z := 1) (by decide) (by decide) (by decide) rfl (by decide) h (fun h => ?_) (fun n4 h => ?_)
  · refine x_aload_n C (dq DX7_count 6 rfl) rfl 0 rfl ?_
    refine getX7_61 C (dq DX7_count 7 rfl) g0 ?_
    refine x_pc 72 rfl ?_
    obtain ⟨g3, h⟩ := gd_some h
    refine getX7_238 C (dq DX7_count 8 rfl) g3 ?_
    cases h
    exact x_iret C (dq DX7_count 9 rfl) hQ
  refine x_tab1 (tgt := 76) C (dq DX7_count 1 rfl) (w := 2) (z := 2) (by decide) (by decide) (by decide) rfl (by decide) h (fun h => ?_) (fun n6 h => ?_)
  · refine x_aload_n C (dq DX7_count 10 rfl) rfl 0 rfl ?_
    refine getX7_51 C (dq DX7_count 11 rfl) g0 ?_
    refine x_pc 80 rfl ?_
    refine x_sipush (v := 296) C (dq DX7_count 12 rfl) (by decide) ?_
    refine x_iald C (dq DX7_count 13 rfl) h (fun a5 h => ?_)
    cases h
    exact x_iret C (dq DX7_count 14 rfl) hQ
  refine x_tab1 (tgt := 85) C (dq DX7_count 1 rfl) (w := 3) (z := 3) (by decide) (by decide) (by decide) rfl (by decide) h (fun h => ?_) (fun n9 h => ?_)
  · refine x_aload_n C (dq DX7_count 15 rfl) rfl 0 rfl ?_
    refine getX7_51 C (dq DX7_count 16 rfl) g0 ?_
    refine x_pc 89 rfl ?_
    refine x_sipush (v := 232) C (dq DX7_count 17 rfl) (by decide) ?_
    refine x_aload_n C (dq DX7_count 18 rfl) rfl 0 rfl ?_
    refine getX7_61 C (dq DX7_count 19 rfl) g0 ?_
    obtain ⟨g7, h⟩ := gd_some h
    refine getX7_238 C (dq DX7_count 20 rfl) g7 ?_
    refine callX7_241 C (dq DX7_count 21 rfl) h (by decide) (by decide) (Nat.le_of_ble_eq_true rfl) (fun a8 h => ?_)
    refine x_pc 102 rfl ?_
    cases h
    exact x_iret C (dq DX7_count 22 rfl) hQ
  refine x_tab1 (tgt := 103) C (dq DX7_count 1 rfl) (w := 4) (z := 4) (by decide) (by decide) (by decide) rfl (by decide) h (fun h => ?_) (fun n12 h => ?_)
  · refine x_aload_n C (dq DX7_count 23 rfl) rfl 0 rfl ?_
    refine getX7_51 C (dq DX7_count 24 rfl) g0 ?_
    refine x_pc 107 rfl ?_
    refine x_sipush (v := 240) C (dq DX7_count 25 rfl) (by decide) ?_
    refine x_aload_n C (dq DX7_count 26 rfl) rfl 0 rfl ?_
    refine getX7_61 C (dq DX7_count 27 rfl) g0 ?_
    obtain ⟨g10, h⟩ := gd_some h
    refine getX7_238 C (dq DX7_count 28 rfl) g10 ?_
    refine callX7_241 C (dq DX7_count 29 rfl) h (by decide) (by decide) (Nat.le_of_ble_eq_true rfl) (fun a11 h => ?_)
    refine x_pc 120 rfl ?_
    cases h
    exact x_iret C (dq DX7_count 30 rfl) hQ
  refine x_tab1 (tgt := 121) C (dq DX7_count 1 rfl) (w := 5) (z := 5) (by decide) (by decide) (by decide) rfl (by decide) h (fun h => ?_) (fun n15 h => ?_)
  · refine x_aload_n C (dq DX7_count 31 rfl) rfl 0 rfl ?_
    refine getX7_51 C (dq DX7_count 32 rfl) g0 ?_
    refine x_pc 125 rfl ?_
    refine x_bipush (v := 50) C (dq DX7_count 33 rfl) (by decide) ?_
    refine x_aload_n C (dq DX7_count 34 rfl) rfl 0 rfl ?_
    refine getX7_61 C (dq DX7_count 35 rfl) g0 ?_
    obtain ⟨g13, h⟩ := gd_some h
    refine getX7_184 C (dq DX7_count 36 rfl) g13 ?_
    refine callX7_241 C (dq DX7_count 37 rfl) h (by decide) (by decide) (Nat.le_of_ble_eq_true rfl) (fun a14 h => ?_)
    refine x_pc 137 rfl ?_
    cases h
    exact x_iret C (dq DX7_count 38 rfl) hQ
  refine x_tab1 (tgt := 138) C (dq DX7_count 1 rfl) (w := 6) (z := 6) (by decide) (by decide) (by decide) rfl (by decide) h (fun h => ?_) (fun n18 h => ?_)
  · refine x_aload_n C (dq DX7_count 39 rfl) rfl 0 rfl ?_
    refine getX7_51 C (dq DX7_count 40 rfl) g0 ?_
    refine x_pc 142 rfl ?_
    refine x_bipush (v := 80) C (dq DX7_count 41 rfl) (by decide) ?_
    refine x_aload_n C (dq DX7_count 42 rfl) rfl 0 rfl ?_
    refine getX7_61 C (dq DX7_count 43 rfl) g0 ?_
    obtain ⟨g16, h⟩ := gd_some h
    refine getX7_184 C (dq DX7_count 44 rfl) g16 ?_
    refine callX7_241 C (dq DX7_count 45 rfl) h (by decide) (by decide) (Nat.le_of_ble_eq_true rfl) (fun a17 h => ?_)
    refine x_pc 154 rfl ?_
    cases h
    exact x_iret C (dq DX7_count 46 rfl) hQ
  refine x_tab1 (tgt := 155) C (dq DX7_count 1 rfl) (w := 7) (z := 7) (by decide) (by decide) (by decide) rfl (by decide) h (fun h => ?_) (fun n21 h => ?_)
  · refine x_aload_n C (dq DX7_count 47 rfl) rfl 0 rfl ?_
    refine getX7_51 C (dq DX7_count 48 rfl) g0 ?_
    refine x_pc 159 rfl ?_
    refine x_sipush (v := 264) C (dq DX7_count 49 rfl) (by decide) ?_
    refine x_aload_n C (dq DX7_count 50 rfl) rfl 0 rfl ?_
    refine getX7_61 C (dq DX7_count 51 rfl) g0 ?_
    obtain ⟨g19, h⟩ := gd_some h
    refine getX7_238 C (dq DX7_count 52 rfl) g19 ?_
    refine callX7_241 C (dq DX7_count 53 rfl) h (by decide) (by decide) (Nat.le_of_ble_eq_true rfl) (fun a20 h => ?_)
    refine x_pc 172 rfl ?_
    cases h
    exact x_iret C (dq DX7_count 54 rfl) hQ
  refine x_tab1 (tgt := 173) C (dq DX7_count 1 rfl) (w := 8) (z := 8) (by decide) (by decide) (by decide) rfl (by decide) h (fun h => ?_) (fun n23 h => ?_)
  · refine x_aload_n C (dq DX7_count 55 rfl) rfl 0 rfl ?_
    refine callX7_276 C (dq DX7_count 56 rfl) h (by decide) (by decide) (Nat.le_of_ble_eq_true rfl) (fun a22 h => ?_)
    refine x_pc 177 rfl ?_
    cases h
    exact x_iret C (dq DX7_count 57 rfl) hQ
  refine x_tab1 (tgt := 178) C (dq DX7_count 1 rfl) (w := 9) (z := 9) (by decide) (by decide) (by decide) rfl (by decide) h (fun h => ?_) (fun n25 h => ?_)
  · refine x_aload_n C (dq DX7_count 58 rfl) rfl 0 rfl ?_
    refine getX7_47 C (dq DX7_count 59 rfl) g0 ?_
    refine x_pc 182 rfl ?_
    obtain ⟨g24, h⟩ := gd_some h
    refine getX7_267 C (dq DX7_count 60 rfl) g24 ?_
    cases h
    exact x_iret C (dq DX7_count 61 rfl) hQ
  refine x_tab1 (tgt := 186) C (dq DX7_count 1 rfl) (w := 10) (z := 10) (by decide) (by decide) (by decide) rfl (by decide) h (fun h => ?_) (fun n27 h => ?_)
  · refine x_aload_n C (dq DX7_count 62 rfl) rfl 0 rfl ?_
    refine getX7_10 C (dq DX7_count 63 rfl) g0 ?_
    refine x_pc 190 rfl ?_
    obtain ⟨g26, h⟩ := gd_some h
    refine getX7_75 C (dq DX7_count 64 rfl) g26 ?_
    cases h
    exact x_iret C (dq DX7_count 65 rfl) hQ
  refine x_tabO (tgt := 194) C (dq DX7_count 1 rfl) (by omega) (by decide) ?_
  refine x_iconst (v := (-1)) C (dq DX7_count 66 rfl) (by decide) ?_
  cases h
  exact x_iret C (dq DX7_count 67 rfl) hQ
set_option maxHeartbeats 1000000 in
theorem qX7_count {S : List Sh} {mm : Mm} {x0 : Nat} {x1 : Int32} {r : Int32} (h : fX7_count S mm x0 x1 = some r) : isC S x0 7 := by
  unfold fX7_count at h
  exact (gd_some h).1
abbrev eX7_grown : List (Nat × Instr × Nat) := [(0, .aload_n 0, 1), (1, .getfield 55, 3), (4, .iload_n 1, 1), (5, .iload_n 2, 1), (6, .invokestatic 241, 3), (9, .aload_n 0, 1), (10, .getfield 51, 3), (13, .iload_n 1, 1), (14, .iload_n 2, 1), (15, .invokestatic 241, 3), (18, .isub, 1), (19, .ireturn, 1)]
theorem DX7_grown : (eX7_grown.all fun q => decide (decode cX7_grown q.1 = .ok q.2)) = true := by decide +kernel
def fX7_grown (S : List Sh) (mm : Mm) (x0 : Nat) (x1 : Int32) (x2 : Int32) : Option (Int32) := gd S x0 7 (bd1 (fX7_sum S mm (rf S mm x0 7) x1 x2) fun a1 => bd1 (fX7_sum S mm (rf S mm x0 6) x1 x2) fun a2 => some (a1 - a2))
set_option maxHeartbeats 1000000 in
theorem mX7_grown {l : Launch} {E : Ev} {S : List Sh} {mm : Mm} {x0 : Nat} {x1 : Int32} {x2 : Int32} {r : Int32} (h : fX7_grown S mm x0 x1 x2 = some r) : Ml l E S yX7_grown cX7_grown 3 (some .int) 1 24 [.ref (E.2.2 x0), .int x1, .int x2] mm (some (.int r)) mm := by
  refine Ml.of (by decide +kernel) (Nat.le_of_ble_eq_true rfl) (fun G C hQ => ?_)
  have C : Cx G E cX7_grown 3 RX7 (some .int) 1 24 := C
  unfold fX7_grown at h
  obtain ⟨g0, h⟩ := gd_some h
  show WM G l E S 0 [(0, .ref (E.2.2 x0)), (1, .int x1), (2, .int x2)] [] mm
  refine x_aload_n C (dq DX7_grown 0 rfl) rfl 0 rfl ?_
  refine getX7_55 C (dq DX7_grown 1 rfl) g0 ?_
  refine x_iload_n C (dq DX7_grown 2 rfl) rfl 1 rfl ?_
  refine x_iload_n C (dq DX7_grown 3 rfl) rfl 2 rfl ?_
  refine x_pc 6 rfl ?_
  refine callX7_241 C (dq DX7_grown 4 rfl) h (by decide) (by decide) (Nat.le_of_ble_eq_true rfl) (fun a1 h => ?_)
  refine x_aload_n C (dq DX7_grown 5 rfl) rfl 0 rfl ?_
  refine getX7_51 C (dq DX7_grown 6 rfl) g0 ?_
  refine x_iload_n C (dq DX7_grown 7 rfl) rfl 1 rfl ?_
  refine x_iload_n C (dq DX7_grown 8 rfl) rfl 2 rfl ?_
  refine x_pc 15 rfl ?_
  refine callX7_241 C (dq DX7_grown 9 rfl) h (by decide) (by decide) (Nat.le_of_ble_eq_true rfl) (fun a2 h => ?_)
  refine x_isub C (dq DX7_grown 10 rfl) ?_
  cases h
  exact x_iret C (dq DX7_grown 11 rfl) hQ
set_option maxHeartbeats 1000000 in
theorem qX7_grown {S : List Sh} {mm : Mm} {x0 : Nat} {x1 : Int32} {x2 : Int32} {r : Int32} (h : fX7_grown S mm x0 x1 x2 = some r) : isC S x0 7 := by
  unfold fX7_grown at h
  exact (gd_some h).1
theorem callX7_248 {G : Gt} {l : Launch} {E : Ev} {S : List Sh} {cc : ByteArray} {nL : Nat} {rt : Option FieldType} {fr lo : Nat} {pc : Nat} {lv : List (Nat × Value)} {rest : List Value} {mm : Mm} {α : Type} {f : Int32 → Option α} {r : α} {o : Nat} {a0 : Int32} {a1 : Int32} (C : Cx G E cc nL RX7 rt fr lo) (d : decode cc pc = .ok (.invokevirtual 248, 3)) (h : bd1 (fX7_grown S mm o a0 a1) f = some r) (hfr : 2 ≤ fr) (hlo : 46 ≤ lo) (hrs : (rest.map fun v => v.category).sum ≤ 8) (k : ∀ v, f v = some r → WM G l E S (pc + 3) lv (.int v :: rest) mm) : WM G l E S pc lv (.int a1 :: .int a0 :: .ref (E.2.2 o) :: rest) mm := by
  obtain ⟨v, hv, hf⟩ := bd1_some h
  exact x_callV (n := 2) (As := [.int a0, .int a1]) (rest := rest) C (mX7_grown hv) (qX7_grown hv) (T := TX7) (N := 12) rfl (gmem 684 (by decide +kernel) rfl) (gmem 686 (by decide +kernel) rfl) (gmemS 34 (by decide +kernel) rfl) (gmem 1 (by decide +kernel) rfl) (gmem 687 (by decide +kernel) rfl) (by decide +kernel) rfl hfr hlo hrs d rfl rfl (k v hf)
abbrev eX7_deliveredWithout : List (Nat × Instr × Nat) := [(0, .aload_n 0, 1), (1, .invokevirtual 226, 3), (4, .aload_n 0, 1), (5, .getfield 55, 3), (8, .sipush 264, 3), (11, .iload_n 1, 1), (12, .iadd, 1), (13, .iconst 0, 1), (14, .iastore, 1), (15, .aload_n 0, 1), (16, .aload_n 0, 1), (17, .getfield 55, 3), (20, .iload_n 2, 1), (21, .invokevirtual 132, 3), (24, .aload_n 0, 1), (25, .sipush 240, 3), (28, .aload_n 0, 1), (29, .getfield 61, 3), (32, .getfield 238, 3), (35, .invokevirtual 248, 3), (38, .istore_n 3, 1), (39, .iload_n 3, 1), (40, .aload_n 0, 1), (41, .getfield 55, 3), (44, .sipush 240, 3), (47, .iload_n 1, 1), (48, .iadd, 1), (49, .iaload, 1), (50, .aload_n 0, 1), (51, .getfield 51, 3), (54, .sipush 240, 3), (57, .iload_n 1, 1), (58, .iadd, 1), (59, .iaload, 1), (60, .isub, 1), (61, .isub, 1), (62, .ireturn, 1)]
theorem DX7_deliveredWithout : (eX7_deliveredWithout.all fun q => decide (decode cX7_deliveredWithout q.1 = .ok q.2)) = true := by decide +kernel
def fX7_deliveredWithout (S : List Sh) (mm : Mm) (x0 : Nat) (x1 : Int32) (x2 : Int32) : Option (Int32 × Mm) := gd S x0 7 (bd1 (fX7_startTrial S mm x0) fun m1 => bd1 (stA S 0 m1 (rf S m1 x0 7) (264 + x1) 0) fun m2 => bd1 (fX7_run S m2 x0 (rf S m2 x0 7) x2) fun m3 => gd S (rf S m3 x0 8) 1 (bd1 (fX7_grown S m3 x0 240 (m3.1 (rf S m3 x0 8) 10)) fun a5 => bd1 (ldA S 0 m3 (rf S m3 x0 7) (240 + x1)) fun a6 => bd1 (ldA S 0 m3 (rf S m3 x0 6) (240 + x1)) fun a7 => some ((a5 - (a6 - a7)), m3)))
set_option maxHeartbeats 1000000 in
theorem mX7_deliveredWithout {l : Launch} {E : Ev} {S : List Sh} {mm : Mm} {x0 : Nat} {x1 : Int32} {x2 : Int32} {r : Int32 × Mm} (h : fX7_deliveredWithout S mm x0 x1 x2 = some r) : Ml l E S yX7_deliveredWithout cX7_deliveredWithout 4 (some .int) 5 130 [.ref (E.2.2 x0), .int x1, .int x2] mm (some (.int r.1)) r.2 := by
  refine Ml.of (by decide +kernel) (Nat.le_of_ble_eq_true rfl) (fun G C hQ => ?_)
  have C : Cx G E cX7_deliveredWithout 4 RX7 (some .int) 5 130 := C
  unfold fX7_deliveredWithout at h
  obtain ⟨g0, h⟩ := gd_some h
  show WM G l E S 0 [(0, .ref (E.2.2 x0)), (1, .int x1), (2, .int x2)] [] mm
  refine x_aload_n C (dq DX7_deliveredWithout 0 rfl) rfl 0 rfl ?_
  refine callX7_226 C (dq DX7_deliveredWithout 1 rfl) h (by decide) (by decide) (Nat.le_of_ble_eq_true rfl) (fun m1 h => ?_)
  refine x_aload_n C (dq DX7_deliveredWithout 2 rfl) rfl 0 rfl ?_
  refine getX7_55 C (dq DX7_deliveredWithout 3 rfl) g0 ?_
  refine x_pc 8 rfl ?_
  refine x_sipush (v := 264) C (dq DX7_deliveredWithout 4 rfl) (by decide) ?_
  refine x_iload_n C (dq DX7_deliveredWithout 5 rfl) rfl 1 rfl ?_
  refine x_iadd C (dq DX7_deliveredWithout 6 rfl) ?_
  refine x_iconst (v := 0) C (dq DX7_deliveredWithout 7 rfl) (by decide) ?_
  refine x_iast C (dq DX7_deliveredWithout 8 rfl) h (fun m2 h => ?_)
  refine x_pc 15 rfl ?_
  refine x_aload_n C (dq DX7_deliveredWithout 9 rfl) rfl 0 rfl ?_
  refine x_aload_n C (dq DX7_deliveredWithout 10 rfl) rfl 0 rfl ?_
  refine getX7_55 C (dq DX7_deliveredWithout 11 rfl) g0 ?_
  refine x_iload_n C (dq DX7_deliveredWithout 12 rfl) rfl 2 rfl ?_
  refine callX7_132 C (dq DX7_deliveredWithout 13 rfl) h (by decide) (by decide) (Nat.le_of_ble_eq_true rfl) (fun m3 h => ?_)
  refine x_pc 24 rfl ?_
  refine x_aload_n C (dq DX7_deliveredWithout 14 rfl) rfl 0 rfl ?_
  refine x_sipush (v := 240) C (dq DX7_deliveredWithout 15 rfl) (by decide) ?_
  refine x_aload_n C (dq DX7_deliveredWithout 16 rfl) rfl 0 rfl ?_
  refine getX7_61 C (dq DX7_deliveredWithout 17 rfl) g0 ?_
  obtain ⟨g4, h⟩ := gd_some h
  refine getX7_238 C (dq DX7_deliveredWithout 18 rfl) g4 ?_
  refine x_pc 35 rfl ?_
  refine callX7_248 C (dq DX7_deliveredWithout 19 rfl) h (by decide) (by decide) (Nat.le_of_ble_eq_true rfl) (fun a5 h => ?_)
  refine x_istore_n (lv' := [(3, .int a5), (0, .ref (E.2.2 x0)), (1, .int x1), (2, .int x2)]) C (dq DX7_deliveredWithout 20 rfl) rfl (by decide) rfl ?_
  refine x_iload_n C (dq DX7_deliveredWithout 21 rfl) rfl 0 rfl ?_
  refine x_aload_n C (dq DX7_deliveredWithout 22 rfl) rfl 1 rfl ?_
  refine getX7_55 C (dq DX7_deliveredWithout 23 rfl) g0 ?_
  refine x_pc 44 rfl ?_
  refine x_sipush (v := 240) C (dq DX7_deliveredWithout 24 rfl) (by decide) ?_
  refine x_iload_n C (dq DX7_deliveredWithout 25 rfl) rfl 2 rfl ?_
  refine x_iadd C (dq DX7_deliveredWithout 26 rfl) ?_
  refine x_iald C (dq DX7_deliveredWithout 27 rfl) h (fun a6 h => ?_)
  refine x_aload_n C (dq DX7_deliveredWithout 28 rfl) rfl 1 rfl ?_
  refine x_pc 51 rfl ?_
  refine getX7_51 C (dq DX7_deliveredWithout 29 rfl) g0 ?_
  refine x_sipush (v := 240) C (dq DX7_deliveredWithout 30 rfl) (by decide) ?_
  refine x_iload_n C (dq DX7_deliveredWithout 31 rfl) rfl 2 rfl ?_
  refine x_iadd C (dq DX7_deliveredWithout 32 rfl) ?_
  refine x_iald C (dq DX7_deliveredWithout 33 rfl) h (fun a7 h => ?_)
  refine x_pc 60 rfl ?_
  refine x_isub C (dq DX7_deliveredWithout 34 rfl) ?_
  refine x_isub C (dq DX7_deliveredWithout 35 rfl) ?_
  cases h
  exact x_iret C (dq DX7_deliveredWithout 36 rfl) hQ
set_option maxHeartbeats 1000000 in
theorem qX7_deliveredWithout {S : List Sh} {mm : Mm} {x0 : Nat} {x1 : Int32} {x2 : Int32} {r : Int32 × Mm} (h : fX7_deliveredWithout S mm x0 x1 x2 = some r) : isC S x0 7 := by
  unfold fX7_deliveredWithout at h
  exact (gd_some h).1
theorem callX7_245 {G : Gt} {l : Launch} {E : Ev} {S : List Sh} {cc : ByteArray} {nL : Nat} {rt : Option FieldType} {fr lo : Nat} {pc : Nat} {lv : List (Nat × Value)} {rest : List Value} {mm : Mm} {α : Type} {f : Int32 → Mm → Option α} {r : α} {o : Nat} {a0 : Int32} {a1 : Int32} (C : Cx G E cc nL RX7 rt fr lo) (d : decode cc pc = .ok (.invokevirtual 245, 3)) (h : bd2 (fX7_deliveredWithout S mm o a0 a1) f = some r) (hfr : 6 ≤ fr) (hlo : 153 ≤ lo) (hrs : (rest.map fun v => v.category).sum ≤ 8) (k : ∀ v m1, f v m1 = some r → WM G l E S (pc + 3) lv (.int v :: rest) m1) : WM G l E S pc lv (.int a1 :: .int a0 :: .ref (E.2.2 o) :: rest) mm := by
  obtain ⟨v, m1, hv, hf⟩ := bd2_some h
  exact x_callV (n := 2) (As := [.int a0, .int a1]) (rest := rest) C (mX7_deliveredWithout hv) (qX7_deliveredWithout hv) (T := TX7) (N := 12) rfl (gmem 680 (by decide +kernel) rfl) (gmem 682 (by decide +kernel) rfl) (gmemS 33 (by decide +kernel) rfl) (gmem 1 (by decide +kernel) rfl) (gmem 683 (by decide +kernel) rfl) (by decide +kernel) rfl hfr hlo hrs d rfl rfl (k v m1 hf)
abbrev eX7_worst : List (Nat × Instr × Nat) := [(0, .iload_n 1, 1), (1, .iconst 1, 1), (2, .if_icmp .lt 9, 3), (5, .iload_n 1, 1), (6, .bipush 40, 2), (8, .if_icmp .le 5, 3), (11, .iconst (-1), 1), (12, .ireturn, 1), (13, .bipush (-2), 2), (15, .istore_n 2, 1), (16, .iconst (-1), 1), (17, .istore_n 3, 1), (18, .iconst 0, 1), (19, .istore 4, 2), (21, .iload 4, 2), (23, .aload_n 0, 1), (24, .getfield 61, 3), (27, .getfield 238, 3), (30, .if_icmp .ge 45, 3), (33, .aload_n 0, 1), (34, .getfield 51, 3), (37, .sipush 264, 3), (40, .iload 4, 2), (42, .iadd, 1), (43, .iaload, 1), (44, .iconst 1, 1), (45, .if_icmp .ne 24, 3), (48, .aload_n 0, 1), (49, .iload 4, 2), (51, .iload_n 1, 1), (52, .invokevirtual 245, 3), (55, .istore 5, 2), (57, .iload 5, 2), (59, .iload_n 3, 1), (60, .if_icmp .le 9, 3), (63, .iload 5, 2), (65, .istore_n 3, 1), (66, .iload 4, 2), (68, .istore_n 2, 1), (69, .iinc 4 1, 3), (72, .goto (-51), 3), (75, .iload_n 2, 1), (76, .ireturn, 1)]
theorem DX7_worst : (eX7_worst.all fun q => decide (decode cX7_worst q.1 = .ok q.2)) = true := by decide +kernel
def jX7_worst_11 (S : List Sh) (mm : Mm) (x0 : Nat)  : Option (Int32 × Mm) := some ((-1), mm)
def jX7_worst_69 (S : List Sh) (mm : Mm) (x0 : Nat) (x1 : Int32) (x2 : Int32) (x3 : Int32) (x4 : Int32)  : Option ((Int32 × Int32 × Int32 × Mm) ⊕ (Int32 × Mm)) := some (.inl (x2, x3, x4 + 1, mm))
def bX7_worst_21 (S : List Sh) (x0 : Nat) (x1 : Int32) (x2 : Int32) (x3 : Int32) (x4 : Int32) (mm : Mm) : Option ((Int32 × Int32 × Int32 × Mm) ⊕ (Int32 × Mm)) := gd S (rf S mm x0 8) 1 (if (mm.1 (rf S mm x0 8) 10) ≤ x4 then (some (.inr (x2, mm))) else (bd1 (ldA S 0 mm (rf S mm x0 6) (264 + x4)) fun a2 => if ¬ a2 = 1 then (jX7_worst_69 S mm x0 x1 x2 x3 x4) else (bd2 (fX7_deliveredWithout S mm x0 x4 x1) fun a3 m4 => if a3 ≤ x3 then (jX7_worst_69 S m4 x0 x1 x2 x3 x4) else (jX7_worst_69 S m4 x0 x1 x4 a3 x4))))
def fX7_worst (S : List Sh) (mm : Mm) (x0 : Nat) (x1 : Int32) : Option (Int32 × Mm) := gd S x0 7 (if x1 < 1 then (jX7_worst_11 S mm x0) else (if x1 ≤ 40 then (bd1 (lp (fun s5 => bX7_worst_21 S x0 x1 s5.1 s5.2.1 s5.2.2.1 s5.2.2.2) fu ((-2), (-1), 0, mm)) fun y6 => some (y6.1, y6.2)) else (jX7_worst_11 S mm x0)))
set_option maxHeartbeats 1000000 in
theorem tX7_worst_11 {G : Gt} {l : Launch} {E : Ev} {S : List Sh} {mm : Mm} {x0 : Nat}  {r : Int32 × Mm} (C : Cx G E cX7_worst 6 RX7 (some .int) 6 153) (g0 : isC S x0 7) (h : jX7_worst_11 S mm x0 = some r) (hQ : RQ G E S (some (.int r.1)) r.2) : WM G l E S 11 [(0, .ref (E.2.2 x0))] [] mm := by
  unfold jX7_worst_11 at h
  refine x_iconst (v := (-1)) C (dq DX7_worst 6 rfl) (by decide) ?_
  cases h
  exact x_iret C (dq DX7_worst 7 rfl) hQ
set_option maxHeartbeats 1000000 in
theorem tX7_worst_69 {G : Gt} {l : Launch} {E : Ev} {S : List Sh} {mm : Mm} {x0 : Nat} {x1 : Int32} {x2 : Int32} {x3 : Int32} {x4 : Int32}  {r : (Int32 × Int32 × Int32 × Mm) ⊕ (Int32 × Mm)} (C : Cx G E cX7_worst 6 RX7 (some .int) 6 153) (g0 : isC S x0 7) (h : jX7_worst_69 S mm x0 x1 x2 x3 x4 = some r) (kb : ∀ z : Int32 × Int32 × Int32 × Mm, r = .inl z → WM G l E S 21 [(0, .ref (E.2.2 x0)), (1, .int x1), (2, .int z.1), (3, .int z.2.1), (4, .int z.2.2.1)] [] z.2.2.2) (kx : ∀ z : Int32 × Mm, r = .inr z → WM G l E S 75 [(0, .ref (E.2.2 x0)), (1, .int x1), (2, .int z.1)] [] z.2) : WM G l E S 69 [(0, .ref (E.2.2 x0)), (1, .int x1), (2, .int x2), (3, .int x3), (4, .int x4)] [] mm := by
  unfold jX7_worst_69 at h
  refine x_iinc (v := x4 + 1) (lv' := [(4, .int (x4 + 1)), (0, .ref (E.2.2 x0)), (1, .int x1), (2, .int x2), (3, .int x3)]) C (dq DX7_worst 39 rfl) 4 rfl rfl (by decide) rfl ?_
  refine x_goto (tgt := 21) C (dq DX7_worst 40 rfl) (by decide) ?_
  cases h
  exact x_lv [1, 2, 3, 4, 0] rfl (kb (x2, x3, x4 + 1, mm) rfl)
set_option maxHeartbeats 1000000 in
theorem tX7_worst_21 {G : Gt} {l : Launch} {E : Ev} {S : List Sh} {x0 : Nat} {x1 : Int32} {x2 : Int32} {x3 : Int32} {x4 : Int32} {mm : Mm} {r : (Int32 × Int32 × Int32 × Mm) ⊕ (Int32 × Mm)} (C : Cx G E cX7_worst 6 RX7 (some .int) 6 153) (g0 : isC S x0 7) (h : bX7_worst_21 S x0 x1 x2 x3 x4 mm = some r) (kb : ∀ z : Int32 × Int32 × Int32 × Mm, r = .inl z → WM G l E S 21 [(0, .ref (E.2.2 x0)), (1, .int x1), (2, .int z.1), (3, .int z.2.1), (4, .int z.2.2.1)] [] z.2.2.2) (kx : ∀ z : Int32 × Mm, r = .inr z → WM G l E S 75 [(0, .ref (E.2.2 x0)), (1, .int x1), (2, .int z.1)] [] z.2) : WM G l E S 21 [(0, .ref (E.2.2 x0)), (1, .int x1), (2, .int x2), (3, .int x3), (4, .int x4)] [] mm := by
  unfold bX7_worst_21 at h
  refine x_iload C (dq DX7_worst 14 rfl) 4 rfl ?_
  refine x_aload_n C (dq DX7_worst 15 rfl) rfl 0 rfl ?_
  refine getX7_61 C (dq DX7_worst 16 rfl) g0 ?_
  obtain ⟨g1, h⟩ := gd_some h
  refine getX7_238 C (dq DX7_worst 17 rfl) g1 ?_
  refine x_pc 30 rfl ?_
  refine x_icmp_ge (tgt := 75) C (dq DX7_worst 18 rfl) (by decide) h (fun h => ?_) (fun h => ?_)
  · cases h
    exact x_lv [0, 1, 2] rfl (kx (x2, mm) rfl)
  · refine x_aload_n C (dq DX7_worst 19 rfl) rfl 0 rfl ?_
    refine getX7_51 C (dq DX7_worst 20 rfl) g0 ?_
    refine x_sipush (v := 264) C (dq DX7_worst 21 rfl) (by decide) ?_
    refine x_iload C (dq DX7_worst 22 rfl) 4 rfl ?_
    refine x_pc 42 rfl ?_
    refine x_iadd C (dq DX7_worst 23 rfl) ?_
    refine x_iald C (dq DX7_worst 24 rfl) h (fun a2 h => ?_)
    refine x_iconst (v := 1) C (dq DX7_worst 25 rfl) (by decide) ?_
    refine x_icmp_ne (tgt := 69) C (dq DX7_worst 26 rfl) (by decide) h (fun h => ?_) (fun h => ?_)
    · exact x_lv [0, 1, 2, 3, 4] rfl (tX7_worst_69 C g0 h kb kx)
    · refine x_aload_n C (dq DX7_worst 27 rfl) rfl 0 rfl ?_
      refine x_pc 49 rfl ?_
      refine x_iload C (dq DX7_worst 28 rfl) 4 rfl ?_
      refine x_iload_n C (dq DX7_worst 29 rfl) rfl 1 rfl ?_
      refine callX7_245 C (dq DX7_worst 30 rfl) h (by decide) (by decide) (Nat.le_of_ble_eq_true rfl) (fun a3 m4 h => ?_)
      refine x_istore (lv' := [(5, .int a3), (0, .ref (E.2.2 x0)), (1, .int x1), (2, .int x2), (3, .int x3), (4, .int x4)]) C (dq DX7_worst 31 rfl) (by decide) rfl ?_
      refine x_iload C (dq DX7_worst 32 rfl) 0 rfl ?_
      refine x_pc 59 rfl ?_
      refine x_iload_n C (dq DX7_worst 33 rfl) rfl 4 rfl ?_
      refine x_icmp_le (tgt := 69) C (dq DX7_worst 34 rfl) (by decide) h (fun h => ?_) (fun h => ?_)
      · exact x_lv [1, 2, 3, 4, 5] rfl (tX7_worst_69 C g0 h kb kx)
      · refine x_iload C (dq DX7_worst 35 rfl) 0 rfl ?_
        refine x_istore_n (lv' := [(3, .int a3), (5, .int a3), (0, .ref (E.2.2 x0)), (1, .int x1), (2, .int x2), (4, .int x4)]) C (dq DX7_worst 36 rfl) rfl (by decide) rfl ?_
        refine x_iload C (dq DX7_worst 37 rfl) 5 rfl ?_
        refine x_pc 68 rfl ?_
        refine x_istore_n (lv' := [(2, .int x4), (3, .int a3), (5, .int a3), (0, .ref (E.2.2 x0)), (1, .int x1), (4, .int x4)]) C (dq DX7_worst 38 rfl) rfl (by decide) rfl ?_
        exact x_lv [3, 4, 0, 1, 5] rfl (tX7_worst_69 C g0 h kb kx)
set_option maxHeartbeats 1000000 in
theorem mX7_worst {l : Launch} {E : Ev} {S : List Sh} {mm : Mm} {x0 : Nat} {x1 : Int32} {r : Int32 × Mm} (h : fX7_worst S mm x0 x1 = some r) : Ml l E S yX7_worst cX7_worst 6 (some .int) 6 153 [.ref (E.2.2 x0), .int x1] mm (some (.int r.1)) r.2 := by
  refine Ml.of (by decide +kernel) (Nat.le_of_ble_eq_true rfl) (fun G C hQ => ?_)
  have C : Cx G E cX7_worst 6 RX7 (some .int) 6 153 := C
  unfold fX7_worst at h
  obtain ⟨g0, h⟩ := gd_some h
  show WM G l E S 0 [(0, .ref (E.2.2 x0)), (1, .int x1)] [] mm
  refine x_iload_n C (dq DX7_worst 0 rfl) rfl 1 rfl ?_
  refine x_iconst (v := 1) C (dq DX7_worst 1 rfl) (by decide) ?_
  refine x_icmp_lt (tgt := 11) C (dq DX7_worst 2 rfl) (by decide) h (fun h => ?_) (fun h => ?_)
  · exact x_lv [0] rfl (tX7_worst_11 C g0 h hQ)
  · refine x_iload_n C (dq DX7_worst 3 rfl) rfl 1 rfl ?_
    refine x_pc 6 rfl ?_
    refine x_bipush (v := 40) C (dq DX7_worst 4 rfl) (by decide) ?_
    refine x_icmp_le (tgt := 13) C (dq DX7_worst 5 rfl) (by decide) h (fun h => ?_) (fun h => ?_)
    · refine x_bipush (v := (-2)) C (dq DX7_worst 8 rfl) (by decide) ?_
      refine x_istore_n (lv' := [(2, .int (-2)), (0, .ref (E.2.2 x0)), (1, .int x1)]) C (dq DX7_worst 9 rfl) rfl (by decide) rfl ?_
      refine x_iconst (v := (-1)) C (dq DX7_worst 10 rfl) (by decide) ?_
      refine x_pc 17 rfl ?_
      refine x_istore_n (lv' := [(3, .int (-1)), (2, .int (-2)), (0, .ref (E.2.2 x0)), (1, .int x1)]) C (dq DX7_worst 11 rfl) rfl (by decide) rfl ?_
      refine x_iconst (v := 0) C (dq DX7_worst 12 rfl) (by decide) ?_
      refine x_istore (lv' := [(4, .int 0), (3, .int (-1)), (2, .int (-2)), (0, .ref (E.2.2 x0)), (1, .int x1)]) C (dq DX7_worst 13 rfl) (by decide) rfl ?_
      refine x_lv [3, 4, 2, 1, 0] rfl ?_
      refine x_loop (s0 := ((-2), (-1), 0, mm)) (fun s5 => WM G l E S 21 [(0, .ref (E.2.2 x0)), (1, .int x1), (2, .int s5.1), (3, .int s5.2.1), (4, .int s5.2.2.1)] [] s5.2.2.2) h (fun s5 r hb kb kx => tX7_worst_21 C g0 hb kb (fun y6 hy => ?_))
      have h := kx y6 hy
      clear kx kb hb hy
      refine x_iload_n C (dq DX7_worst 41 rfl) rfl 2 rfl ?_
      cases h
      exact x_iret C (dq DX7_worst 42 rfl) hQ
    · exact x_lv [0] rfl (tX7_worst_11 C g0 h hQ)
set_option maxHeartbeats 1000000 in
theorem qX7_worst {S : List Sh} {mm : Mm} {x0 : Nat} {x1 : Int32} {r : Int32 × Mm} (h : fX7_worst S mm x0 x1 = some r) : isC S x0 7 := by
  unfold fX7_worst at h
  exact (gd_some h).1
theorem getX7_255 {G : Gt} {l : Launch} {E : Ev} {S : List Sh} {cc : ByteArray} {nL : Nat} {rt : Option FieldType} {fr lo : Nat} {pc : Nat} {lv : List (Nat × Value)} {st : List Value} {mm : Mm} {o : Nat} (C : Cx G E cc nL RX7 rt fr lo) (d : decode cc pc = .ok (.getfield 255, 3)) (hg : isC S o 1) (k : WM G l E S (pc + 3) lv (.ref (E.2.2 (rf S mm o 8)) :: st) mm) : WM G l E S pc lv (.ref (E.2.2 o) :: st) mm := x_getN2 C hg (T := TX1) (N := 11) rfl inX1 (by decide) (i := 8) (host := "LosslessFabric") (nmem 206 (by decide +kernel) rfl) rfl rfl d k
theorem callX7_258 {G : Gt} {l : Launch} {E : Ev} {S : List Sh} {cc : ByteArray} {nL : Nat} {rt : Option FieldType} {fr lo : Nat} {pc : Nat} {lv : List (Nat × Value)} {rest : List Value} {mm : Mm} {α : Type} {f : Int32 → Mm → Option α} {r : α} {o : Nat} {a0 : Int32} {a1 : Int32} {a2 : Int32} (C : Cx G E cc nL RX7 rt fr lo) (d : decode cc pc = .ok (.invokevirtual 258, 3)) (h : bd2 (fX7_runByChance S mm o a0 a1 a2) f = some r) (hfr : 5 ≤ fr) (hlo : 134 ≤ lo) (hrs : (rest.map fun v => v.category).sum ≤ 8) (k : ∀ v m1, f v m1 = some r → WM G l E S (pc + 3) lv (.int v :: rest) m1) : WM G l E S pc lv (.int a2 :: .int a1 :: .int a0 :: .ref (E.2.2 o) :: rest) mm := by
  obtain ⟨v, m1, hv, hf⟩ := bd2_some h
  exact x_callV (n := 3) (As := [.int a0, .int a1, .int a2]) (rest := rest) C (mX7_runByChance hv) (qX7_runByChance hv) (T := TX7) (N := 12) rfl (gmem 705 (by decide +kernel) rfl) (gmem 707 (by decide +kernel) rfl) (gmemS 35 (by decide +kernel) rfl) (gmem 1 (by decide +kernel) rfl) (gmem 708 (by decide +kernel) rfl) (by decide +kernel) rfl hfr hlo hrs d rfl rfl (k v m1 hf)
abbrev eX7_chance : List (Nat × Instr × Nat) := [(0, .iload_n 1, 1), (1, .iconst (-1), 1), (2, .if_icmp .lt 36, 3), (5, .iload_n 2, 1), (6, .iconst 1, 1), (7, .if_icmp .lt 31, 3), (10, .iload_n 2, 1), (11, .sipush 200, 3), (14, .if_icmp .gt 24, 3), (17, .iload_n 3, 1), (18, .ifCond .lt 20, 3), (21, .iload_n 3, 1), (22, .bipush 100, 2), (24, .if_icmp .gt 14, 3), (27, .iload 4, 2), (29, .ifCond .lt 9, 3), (32, .iload 4, 2), (34, .iconst 3, 1), (35, .if_icmp .le 5, 3), (38, .iconst (-1), 1), (39, .ireturn, 1), (40, .aload_n 0, 1), (41, .iload_n 1, 1), (42, .iconst (-1), 1), (43, .if_icmp .ne 16, 3), (46, .aload_n 0, 1), (47, .getfield 61, 3), (50, .getfield 255, 3), (53, .bipush 6, 2), (55, .iaload, 1), (56, .goto 4, 3), (59, .iload_n 1, 1), (60, .iload_n 2, 1), (61, .iload_n 3, 1), (62, .invokevirtual 258, 3), (65, .istore 5, 2), (67, .iload 4, 2), (69, .tableswitch 59 0 2 #[27, 42, 56], 27), (96, .aload_n 0, 1), (97, .sipush 240, 3), (100, .aload_n 0, 1), (101, .getfield 61, 3), (104, .getfield 238, 3), (107, .invokevirtual 248, 3), (110, .ireturn, 1), (111, .aload_n 0, 1), (112, .bipush 50, 2), (114, .aload_n 0, 1), (115, .getfield 61, 3), (118, .getfield 184, 3), (121, .invokevirtual 248, 3), (124, .ireturn, 1), (125, .iload 5, 2), (127, .ireturn, 1), (128, .aload_n 0, 1), (129, .bipush 80, 2), (131, .aload_n 0, 1), (132, .getfield 61, 3), (135, .getfield 184, 3), (138, .invokevirtual 248, 3), (141, .ireturn, 1)]
theorem DX7_chance : (eX7_chance.all fun q => decide (decode cX7_chance q.1 = .ok q.2)) = true := by decide +kernel
def jX7_chance_38 (S : List Sh) (mm : Mm) (x0 : Nat)  : Option (Int32 × Mm) := some ((-1), mm)
def jX7_chance_60 (S : List Sh) (mm : Mm) (x0 : Nat) (x2 : Int32) (x3 : Int32) (x4 : Int32) (p0 : Nat) (p1 : Int32) : Option (Int32 × Mm) := bd2 (fX7_runByChance S mm p0 p1 x2 x3) fun a1 m2 => if x4 = 0 then (gd S (rf S m2 x0 8) 1 (bd1 (fX7_grown S m2 x0 240 (m2.1 (rf S m2 x0 8) 10)) fun a4 => some (a4, m2))) else (if x4 = 1 then (gd S (rf S m2 x0 8) 1 (bd1 (fX7_grown S m2 x0 50 (m2.1 (rf S m2 x0 8) 9)) fun a7 => some (a7, m2))) else (if x4 = 2 then (some (a1, m2)) else (gd S (rf S m2 x0 8) 1 (bd1 (fX7_grown S m2 x0 80 (m2.1 (rf S m2 x0 8) 9)) fun a11 => some (a11, m2)))))
def fX7_chance (S : List Sh) (mm : Mm) (x0 : Nat) (x1 : Int32) (x2 : Int32) (x3 : Int32) (x4 : Int32) : Option (Int32 × Mm) := gd S x0 7 (if x1 < (-1) then (jX7_chance_38 S mm x0) else (if x2 < 1 then (jX7_chance_38 S mm x0) else (if 200 < x2 then (jX7_chance_38 S mm x0) else (if x3 < 0 then (jX7_chance_38 S mm x0) else (if 100 < x3 then (jX7_chance_38 S mm x0) else (if x4 < 0 then (jX7_chance_38 S mm x0) else (if x4 ≤ 3 then (if ¬ x1 = (-1) then (jX7_chance_60 S mm x0 x2 x3 x4 x0 x1) else (gd S (rf S mm x0 8) 1 (bd1 (ldA S 0 mm (rf S mm (rf S mm x0 8) 8) 6) fun a13 => jX7_chance_60 S mm x0 x2 x3 x4 x0 a13))) else (jX7_chance_38 S mm x0))))))))
set_option maxHeartbeats 1000000 in
theorem tX7_chance_38 {G : Gt} {l : Launch} {E : Ev} {S : List Sh} {mm : Mm} {x0 : Nat}  {r : Int32 × Mm} (C : Cx G E cX7_chance 6 RX7 (some .int) 5 134) (g0 : isC S x0 7) (h : jX7_chance_38 S mm x0 = some r) (hQ : RQ G E S (some (.int r.1)) r.2) : WM G l E S 38 [(0, .ref (E.2.2 x0))] [] mm := by
  unfold jX7_chance_38 at h
  refine x_iconst (v := (-1)) C (dq DX7_chance 19 rfl) (by decide) ?_
  cases h
  exact x_iret C (dq DX7_chance 20 rfl) hQ
set_option maxHeartbeats 1000000 in
theorem tX7_chance_60 {G : Gt} {l : Launch} {E : Ev} {S : List Sh} {mm : Mm} {x0 : Nat} {x2 : Int32} {x3 : Int32} {x4 : Int32} {p0 : Nat} {p1 : Int32} {r : Int32 × Mm} (C : Cx G E cX7_chance 6 RX7 (some .int) 5 134) (g0 : isC S x0 7) (h : jX7_chance_60 S mm x0 x2 x3 x4 p0 p1 = some r) (hQ : RQ G E S (some (.int r.1)) r.2) : WM G l E S 60 [(0, .ref (E.2.2 x0)), (2, .int x2), (3, .int x3), (4, .int x4)] [.int p1, .ref (E.2.2 p0)] mm := by
  unfold jX7_chance_60 at h
  refine x_iload_n C (dq DX7_chance 32 rfl) rfl 1 rfl ?_
  refine x_iload_n C (dq DX7_chance 33 rfl) rfl 2 rfl ?_
  refine callX7_258 C (dq DX7_chance 34 rfl) h (by decide) (by decide) (Nat.le_of_ble_eq_true rfl) (fun a1 m2 h => ?_)
  refine x_istore (lv' := [(5, .int a1), (0, .ref (E.2.2 x0)), (2, .int x2), (3, .int x3), (4, .int x4)]) C (dq DX7_chance 35 rfl) (by decide) rfl ?_
  refine x_pc 67 rfl ?_
  refine x_iload C (dq DX7_chance 36 rfl) 4 rfl ?_
  refine x_tab1 (tgt := 96) C (dq DX7_chance 37 rfl) (w := 0) (z := 0) (by decide) (by decide) (by decide) rfl (by decide) h (fun h => ?_) (fun n5 h => ?_)
  · refine x_aload_n C (dq DX7_chance 38 rfl) rfl 1 rfl ?_
    refine x_sipush (v := 240) C (dq DX7_chance 39 rfl) (by decide) ?_
    refine x_aload_n C (dq DX7_chance 40 rfl) rfl 1 rfl ?_
    refine x_pc 101 rfl ?_
    refine getX7_61 C (dq DX7_chance 41 rfl) g0 ?_
    obtain ⟨g3, h⟩ := gd_some h
    refine getX7_238 C (dq DX7_chance 42 rfl) g3 ?_
    refine callX7_248 C (dq DX7_chance 43 rfl) h (by decide) (by decide) (Nat.le_of_ble_eq_true rfl) (fun a4 h => ?_)
    cases h
    exact x_iret C (dq DX7_chance 44 rfl) hQ
  refine x_tab1 (tgt := 111) C (dq DX7_chance 37 rfl) (w := 1) (z := 1) (by decide) (by decide) (by decide) rfl (by decide) h (fun h => ?_) (fun n8 h => ?_)
  · refine x_aload_n C (dq DX7_chance 45 rfl) rfl 1 rfl ?_
    refine x_bipush (v := 50) C (dq DX7_chance 46 rfl) (by decide) ?_
    refine x_aload_n C (dq DX7_chance 47 rfl) rfl 1 rfl ?_
    refine x_pc 115 rfl ?_
    refine getX7_61 C (dq DX7_chance 48 rfl) g0 ?_
    obtain ⟨g6, h⟩ := gd_some h
    refine getX7_184 C (dq DX7_chance 49 rfl) g6 ?_
    refine callX7_248 C (dq DX7_chance 50 rfl) h (by decide) (by decide) (Nat.le_of_ble_eq_true rfl) (fun a7 h => ?_)
    cases h
    exact x_iret C (dq DX7_chance 51 rfl) hQ
  refine x_tab1 (tgt := 125) C (dq DX7_chance 37 rfl) (w := 2) (z := 2) (by decide) (by decide) (by decide) rfl (by decide) h (fun h => ?_) (fun n9 h => ?_)
  · refine x_iload C (dq DX7_chance 52 rfl) 0 rfl ?_
    cases h
    exact x_iret C (dq DX7_chance 53 rfl) hQ
  refine x_tabO (tgt := 128) C (dq DX7_chance 37 rfl) (by omega) (by decide) ?_
  refine x_aload_n C (dq DX7_chance 54 rfl) rfl 1 rfl ?_
  refine x_bipush (v := 80) C (dq DX7_chance 55 rfl) (by decide) ?_
  refine x_aload_n C (dq DX7_chance 56 rfl) rfl 1 rfl ?_
  refine x_pc 132 rfl ?_
  refine getX7_61 C (dq DX7_chance 57 rfl) g0 ?_
  obtain ⟨g10, h⟩ := gd_some h
  refine getX7_184 C (dq DX7_chance 58 rfl) g10 ?_
  refine callX7_248 C (dq DX7_chance 59 rfl) h (by decide) (by decide) (Nat.le_of_ble_eq_true rfl) (fun a11 h => ?_)
  cases h
  exact x_iret C (dq DX7_chance 60 rfl) hQ
set_option maxHeartbeats 1000000 in
theorem mX7_chance {l : Launch} {E : Ev} {S : List Sh} {mm : Mm} {x0 : Nat} {x1 : Int32} {x2 : Int32} {x3 : Int32} {x4 : Int32} {r : Int32 × Mm} (h : fX7_chance S mm x0 x1 x2 x3 x4 = some r) : Ml l E S yX7_chance cX7_chance 6 (some .int) 5 134 [.ref (E.2.2 x0), .int x1, .int x2, .int x3, .int x4] mm (some (.int r.1)) r.2 := by
  refine Ml.of (by decide +kernel) (Nat.le_of_ble_eq_true rfl) (fun G C hQ => ?_)
  have C : Cx G E cX7_chance 6 RX7 (some .int) 5 134 := C
  unfold fX7_chance at h
  obtain ⟨g0, h⟩ := gd_some h
  show WM G l E S 0 [(0, .ref (E.2.2 x0)), (1, .int x1), (2, .int x2), (3, .int x3), (4, .int x4)] [] mm
  refine x_iload_n C (dq DX7_chance 0 rfl) rfl 1 rfl ?_
  refine x_iconst (v := (-1)) C (dq DX7_chance 1 rfl) (by decide) ?_
  refine x_icmp_lt (tgt := 38) C (dq DX7_chance 2 rfl) (by decide) h (fun h => ?_) (fun h => ?_)
  · exact x_lv [0] rfl (tX7_chance_38 C g0 h hQ)
  · refine x_iload_n C (dq DX7_chance 3 rfl) rfl 2 rfl ?_
    refine x_pc 6 rfl ?_
    refine x_iconst (v := 1) C (dq DX7_chance 4 rfl) (by decide) ?_
    refine x_icmp_lt (tgt := 38) C (dq DX7_chance 5 rfl) (by decide) h (fun h => ?_) (fun h => ?_)
    · exact x_lv [0] rfl (tX7_chance_38 C g0 h hQ)
    · refine x_iload_n C (dq DX7_chance 6 rfl) rfl 2 rfl ?_
      refine x_sipush (v := 200) C (dq DX7_chance 7 rfl) (by decide) ?_
      refine x_icmp_gt (tgt := 38) C (dq DX7_chance 8 rfl) (by decide) h (fun h => ?_) (fun h => ?_)
      · exact x_lv [0] rfl (tX7_chance_38 C g0 h hQ)
      · refine x_pc 17 rfl ?_
        refine x_iload_n C (dq DX7_chance 9 rfl) rfl 3 rfl ?_
        refine x_if_lt (tgt := 38) C (dq DX7_chance 10 rfl) (by decide) h (fun h => ?_) (fun h => ?_)
        · exact x_lv [0] rfl (tX7_chance_38 C g0 h hQ)
        · refine x_iload_n C (dq DX7_chance 11 rfl) rfl 3 rfl ?_
          refine x_bipush (v := 100) C (dq DX7_chance 12 rfl) (by decide) ?_
          refine x_icmp_gt (tgt := 38) C (dq DX7_chance 13 rfl) (by decide) h (fun h => ?_) (fun h => ?_)
          · exact x_lv [0] rfl (tX7_chance_38 C g0 h hQ)
          · refine x_pc 27 rfl ?_
            refine x_iload C (dq DX7_chance 14 rfl) 4 rfl ?_
            refine x_if_lt (tgt := 38) C (dq DX7_chance 15 rfl) (by decide) h (fun h => ?_) (fun h => ?_)
            · exact x_lv [0] rfl (tX7_chance_38 C g0 h hQ)
            · refine x_iload C (dq DX7_chance 16 rfl) 4 rfl ?_
              refine x_iconst (v := 3) C (dq DX7_chance 17 rfl) (by decide) ?_
              refine x_icmp_le (tgt := 40) C (dq DX7_chance 18 rfl) (by decide) h (fun h => ?_) (fun h => ?_)
              · refine x_pc 40 rfl ?_
                refine x_aload_n C (dq DX7_chance 21 rfl) rfl 0 rfl ?_
                refine x_iload_n C (dq DX7_chance 22 rfl) rfl 1 rfl ?_
                refine x_iconst (v := (-1)) C (dq DX7_chance 23 rfl) (by decide) ?_
                refine x_icmp_ne (tgt := 59) C (dq DX7_chance 24 rfl) (by decide) h (fun h => ?_) (fun h => ?_)
                · refine x_iload_n C (dq DX7_chance 31 rfl) rfl 1 rfl ?_
                  exact x_lv [0, 2, 3, 4] rfl (tX7_chance_60 C g0 h hQ)
                · refine x_aload_n C (dq DX7_chance 25 rfl) rfl 0 rfl ?_
                  refine x_pc 47 rfl ?_
                  refine getX7_61 C (dq DX7_chance 26 rfl) g0 ?_
                  obtain ⟨g12, h⟩ := gd_some h
                  refine getX7_255 C (dq DX7_chance 27 rfl) g12 ?_
                  refine x_bipush (v := 6) C (dq DX7_chance 28 rfl) (by decide) ?_
                  refine x_iald C (dq DX7_chance 29 rfl) h (fun a13 h => ?_)
                  refine x_goto (tgt := 60) C (dq DX7_chance 30 rfl) (by decide) ?_
                  exact x_lv [0, 2, 3, 4] rfl (tX7_chance_60 C g0 h hQ)
              · exact x_lv [0] rfl (tX7_chance_38 C g0 h hQ)
set_option maxHeartbeats 1000000 in
theorem qX7_chance {S : List Sh} {mm : Mm} {x0 : Nat} {x1 : Int32} {x2 : Int32} {x3 : Int32} {x4 : Int32} {r : Int32 × Mm} (h : fX7_chance S mm x0 x1 x2 x3 x4 = some r) : isC S x0 7 := by
  unfold fX7_chance at h
  exact (gd_some h).1
