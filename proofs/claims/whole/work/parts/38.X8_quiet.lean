theorem callX8_385 {G : Gt} {l : Launch} {E : Ev} {S : List Sh} {cc : ByteArray} {nL : Nat} {rt : Option FieldType} {fr lo : Nat} {pc : Nat} {lv : List (Nat × Value)} {rest : List Value} {mm : Mm} {α : Type} {f : Int32 → Option α} {r : α} {o : Nat} (C : Cx G E cc nL RX8 rt fr lo) (d : decode cc pc = .ok (.invokevirtual 385, 3)) (h : bd1 (fX8_isEmpty S mm o) f = some r) (hfr : 2 ≤ fr) (hlo : 44 ≤ lo) (hrs : (rest.map fun v => v.category).sum ≤ 8) (k : ∀ v, f v = some r → WM G l E S (pc + 3) lv (.int v :: rest) mm) : WM G l E S pc lv (.ref (E.2.2 o) :: rest) mm := by
  obtain ⟨v, hv, hf⟩ := bd1_some h
  exact x_callV (n := 0) (As := []) (rest := rest) C (mX8_isEmpty hv) (qX8_isEmpty hv) (T := TX8) (N := 49) rfl (gmem 1418 (by decide +kernel) rfl) (gmem 1420 (by decide +kernel) rfl) (gmemS 95 (by decide +kernel) rfl) (gmem 9 (by decide +kernel) rfl) (gmem 1421 (by decide +kernel) rfl) (by decide +kernel) rfl hfr hlo hrs d rfl rfl (k v hf)
abbrev eX8_quiet : List (Nat × Instr × Nat) := [(0, .aload_n 0, 1), (1, .iconst 0, 1), (2, .putfield 115, 3), (5, .aload_n 0, 1), (6, .getfield 57, 3), (9, .iconst 0, 1), (10, .aload_n 0, 1), (11, .getfield 60, 3), (14, .iconst 0, 1), (15, .invokestatic 254, 3), (18, .iconst 0, 1), (19, .istore_n 1, 1), (20, .iload_n 1, 1), (21, .aload_n 0, 1), (22, .invokevirtual 251, 3), (25, .if_icmp .ge 22, 3), (28, .aload_n 0, 1), (29, .getfield 57, 3), (32, .iload_n 1, 1), (33, .invokestatic 258, 3), (36, .bipush 7, 2), (38, .iadd, 1), (39, .iconst 0, 1), (40, .iastore, 1), (41, .iinc 1 1, 3), (44, .goto (-24), 3), (47, .iconst 0, 1), (48, .istore_n 1, 1), (49, .iload_n 1, 1), (50, .sipush 300, 3), (53, .if_icmp .ge 20, 3), (56, .aload_n 0, 1), (57, .invokevirtual 385, 3), (60, .ifCond .ne 13, 3), (63, .aload_n 0, 1), (64, .invokevirtual 313, 3), (67, .iinc 1 1, 3), (70, .goto (-21), 3), (73, .aload_n 0, 1), (74, .invokevirtual 385, 3), (77, .istore_n 2, 1), (78, .aload_n 0, 1), (79, .getfield 60, 3), (82, .iconst 0, 1), (83, .aload_n 0, 1), (84, .getfield 57, 3), (87, .iconst 0, 1), (88, .invokestatic 254, 3), (91, .iload_n 2, 1), (92, .ifCond .eq 7, 3), (95, .iload_n 1, 1), (96, .goto 5, 3), (99, .bipush (-2), 2), (101, .ireturn, 1)]
theorem DX8_quiet : (eX8_quiet.all fun q => decide (decode cX8_quiet q.1 = .ok q.2)) = true := by decide +kernel
def bX8_quiet_20 (S : List Sh) (x0 : Nat) (x1 : Int32) (mm : Mm) : Option ((Int32 × Mm) ⊕ (Mm)) := bd1 (fX8_flows S mm x0) fun a3 => if a3 ≤ x1 then (some (.inr (mm))) else (bd1 (fX8_flowAt S mm x1) fun a4 => bd1 (stA S 0 mm (rf S mm x0 26) (a4 + 7) 0) fun m5 => some (.inl (x1 + 1, m5)))
def bX8_quiet_49 (S : List Sh) (x0 : Nat) (x1 : Int32) (mm : Mm) : Option ((Int32 × Mm) ⊕ (Int32 × Mm)) := if 300 ≤ x1 then (some (.inr (x1, mm))) else (bd1 (fX8_isEmpty S mm x0) fun a8 => if ¬ a8 = 0 then (some (.inr (x1, mm))) else (bd1 (fX8_tickGoes S mm x0) fun m9 => some (.inl (x1 + 1, m9))))
def jX8_quiet_101 (S : List Sh) (mm : Mm) (x0 : Nat) (p0 : Int32) : Option (Int32 × Mm) := some (p0, mm)
def jX8_quiet_73 (S : List Sh) (mm : Mm) (x0 : Nat) (x1 : Int32)  : Option (Int32 × Mm) := bd1 (fX8_isEmpty S mm x0) fun a12 => bd1 (fX8_copies S mm (rf S mm x0 27) 0 (rf S mm x0 26) 0) fun m13 => if a12 = 0 then (jX8_quiet_101 S m13 x0 (-2)) else (jX8_quiet_101 S m13 x0 x1)
def fX8_quiet (S : List Sh) (mm : Mm) (x0 : Nat) : Option (Int32 × Mm) := gd S x0 8 (bd1 (some (u1 mm x0 0 0)) fun m1 => bd1 (fX8_copies S m1 (rf S m1 x0 26) 0 (rf S m1 x0 27) 0) fun m2 => bd1 (lp (fun s6 => bX8_quiet_20 S x0 s6.1 s6.2) fu (0, m2)) fun y7 => bd1 (lp (fun s10 => bX8_quiet_49 S x0 s10.1 s10.2) fu (0, y7)) fun y11 => jX8_quiet_73 S y11.2 x0 y11.1)
set_option maxHeartbeats 1000000 in
theorem tX8_quiet_20 {G : Gt} {l : Launch} {E : Ev} {S : List Sh} {x0 : Nat} {x1 : Int32} {mm : Mm} {r : (Int32 × Mm) ⊕ (Mm)} (C : Cx G E cX8_quiet 3 RX8 (some .int) 4 91) (g0 : isC S x0 8) (h : bX8_quiet_20 S x0 x1 mm = some r) (kb : ∀ z : Int32 × Mm, r = .inl z → WM G l E S 20 [(0, .ref (E.2.2 x0)), (1, .int z.1)] [] z.2) (kx : ∀ z : Mm, r = .inr z → WM G l E S 47 [(0, .ref (E.2.2 x0))] [] z) : WM G l E S 20 [(0, .ref (E.2.2 x0)), (1, .int x1)] [] mm := by
  unfold bX8_quiet_20 at h
  refine x_iload_n C (dq DX8_quiet 12 rfl) rfl 1 rfl ?_
  refine x_aload_n C (dq DX8_quiet 13 rfl) rfl 0 rfl ?_
  refine callX8_251 C (dq DX8_quiet 14 rfl) h (by decide) (by decide) (Nat.le_of_ble_eq_true rfl) (fun a3 h => ?_)
  refine x_icmp_ge (tgt := 47) C (dq DX8_quiet 15 rfl) (by decide) h (fun h => ?_) (fun h => ?_)
  · cases h
    exact x_lv [0] rfl (kx (mm) rfl)
  · refine x_pc 28 rfl ?_
    refine x_aload_n C (dq DX8_quiet 16 rfl) rfl 0 rfl ?_
    refine getX8_57 C (dq DX8_quiet 17 rfl) g0 ?_
    refine x_iload_n C (dq DX8_quiet 18 rfl) rfl 1 rfl ?_
    refine callX8_258 C (dq DX8_quiet 19 rfl) h (by decide) (by decide) (Nat.le_of_ble_eq_true rfl) (fun a4 h => ?_)
    refine x_bipush (v := 7) C (dq DX8_quiet 20 rfl) (by decide) ?_
    refine x_pc 38 rfl ?_
    refine x_iadd C (dq DX8_quiet 21 rfl) ?_
    refine x_iconst (v := 0) C (dq DX8_quiet 22 rfl) (by decide) ?_
    refine x_iast C (dq DX8_quiet 23 rfl) h (fun m5 h => ?_)
    refine x_iinc (v := x1 + 1) (lv' := [(1, .int (x1 + 1)), (0, .ref (E.2.2 x0))]) C (dq DX8_quiet 24 rfl) 1 rfl rfl (by decide) rfl ?_
    refine x_goto (tgt := 20) C (dq DX8_quiet 25 rfl) (by decide) ?_
    cases h
    exact x_lv [1, 0] rfl (kb (x1 + 1, m5) rfl)
set_option maxHeartbeats 1000000 in
theorem tX8_quiet_49 {G : Gt} {l : Launch} {E : Ev} {S : List Sh} {x0 : Nat} {x1 : Int32} {mm : Mm} {r : (Int32 × Mm) ⊕ (Int32 × Mm)} (C : Cx G E cX8_quiet 3 RX8 (some .int) 4 91) (g0 : isC S x0 8) (h : bX8_quiet_49 S x0 x1 mm = some r) (kb : ∀ z : Int32 × Mm, r = .inl z → WM G l E S 49 [(0, .ref (E.2.2 x0)), (1, .int z.1)] [] z.2) (kx : ∀ z : Int32 × Mm, r = .inr z → WM G l E S 73 [(0, .ref (E.2.2 x0)), (1, .int z.1)] [] z.2) : WM G l E S 49 [(0, .ref (E.2.2 x0)), (1, .int x1)] [] mm := by
  unfold bX8_quiet_49 at h
  refine x_iload_n C (dq DX8_quiet 28 rfl) rfl 1 rfl ?_
  refine x_sipush (v := 300) C (dq DX8_quiet 29 rfl) (by decide) ?_
  refine x_icmp_ge (tgt := 73) C (dq DX8_quiet 30 rfl) (by decide) h (fun h => ?_) (fun h => ?_)
  · cases h
    exact x_lv [0, 1] rfl (kx (x1, mm) rfl)
  · refine x_aload_n C (dq DX8_quiet 31 rfl) rfl 0 rfl ?_
    refine x_pc 57 rfl ?_
    refine callX8_385 C (dq DX8_quiet 32 rfl) h (by decide) (by decide) (Nat.le_of_ble_eq_true rfl) (fun a8 h => ?_)
    refine x_if_ne (tgt := 73) C (dq DX8_quiet 33 rfl) (by decide) h (fun h => ?_) (fun h => ?_)
    · cases h
      exact x_lv [0, 1] rfl (kx (x1, mm) rfl)
    · refine x_aload_n C (dq DX8_quiet 34 rfl) rfl 0 rfl ?_
      refine callX8_313 C (dq DX8_quiet 35 rfl) h (by decide) (by decide) (Nat.le_of_ble_eq_true rfl) (fun m9 h => ?_)
      refine x_iinc (v := x1 + 1) (lv' := [(1, .int (x1 + 1)), (0, .ref (E.2.2 x0))]) C (dq DX8_quiet 36 rfl) 1 rfl rfl (by decide) rfl ?_
      refine x_pc 70 rfl ?_
      refine x_goto (tgt := 49) C (dq DX8_quiet 37 rfl) (by decide) ?_
      cases h
      exact x_lv [1, 0] rfl (kb (x1 + 1, m9) rfl)
set_option maxHeartbeats 1000000 in
theorem tX8_quiet_101 {G : Gt} {l : Launch} {E : Ev} {S : List Sh} {mm : Mm} {x0 : Nat} {p0 : Int32} {r : Int32 × Mm} (C : Cx G E cX8_quiet 3 RX8 (some .int) 4 91) (g0 : isC S x0 8) (h : jX8_quiet_101 S mm x0 p0 = some r) (hQ : RQ G E S (some (.int r.1)) r.2) : WM G l E S 101 [(0, .ref (E.2.2 x0))] [.int p0] mm := by
  unfold jX8_quiet_101 at h
  cases h
  exact x_iret C (dq DX8_quiet 53 rfl) hQ
set_option maxHeartbeats 1000000 in
theorem tX8_quiet_73 {G : Gt} {l : Launch} {E : Ev} {S : List Sh} {mm : Mm} {x0 : Nat} {x1 : Int32}  {r : Int32 × Mm} (C : Cx G E cX8_quiet 3 RX8 (some .int) 4 91) (g0 : isC S x0 8) (h : jX8_quiet_73 S mm x0 x1 = some r) (hQ : RQ G E S (some (.int r.1)) r.2) : WM G l E S 73 [(0, .ref (E.2.2 x0)), (1, .int x1)] [] mm := by
  unfold jX8_quiet_73 at h
  refine x_aload_n C (dq DX8_quiet 38 rfl) rfl 0 rfl ?_
  refine callX8_385 C (dq DX8_quiet 39 rfl) h (by decide) (by decide) (Nat.le_of_ble_eq_true rfl) (fun a12 h => ?_)
  refine x_istore_n (lv' := [(2, .int a12), (0, .ref (E.2.2 x0)), (1, .int x1)]) C (dq DX8_quiet 40 rfl) rfl (by decide) rfl ?_
  refine x_aload_n C (dq DX8_quiet 41 rfl) rfl 1 rfl ?_
  refine x_pc 79 rfl ?_
  refine getX8_60 C (dq DX8_quiet 42 rfl) g0 ?_
  refine x_iconst (v := 0) C (dq DX8_quiet 43 rfl) (by decide) ?_
  refine x_aload_n C (dq DX8_quiet 44 rfl) rfl 1 rfl ?_
  refine getX8_57 C (dq DX8_quiet 45 rfl) g0 ?_
  refine x_iconst (v := 0) C (dq DX8_quiet 46 rfl) (by decide) ?_
  refine x_pc 88 rfl ?_
  refine callX8_254 C (dq DX8_quiet 47 rfl) h (by decide) (by decide) (Nat.le_of_ble_eq_true rfl) (fun m13 h => ?_)
  refine x_iload_n C (dq DX8_quiet 48 rfl) rfl 0 rfl ?_
  refine x_if_eq (tgt := 99) C (dq DX8_quiet 49 rfl) (by decide) h (fun h => ?_) (fun h => ?_)
  · refine x_bipush (v := (-2)) C (dq DX8_quiet 52 rfl) (by decide) ?_
    exact x_lv [1] rfl (tX8_quiet_101 C g0 h hQ)
  · refine x_iload_n C (dq DX8_quiet 50 rfl) rfl 2 rfl ?_
    refine x_goto (tgt := 101) C (dq DX8_quiet 51 rfl) (by decide) ?_
    exact x_lv [1] rfl (tX8_quiet_101 C g0 h hQ)
set_option maxHeartbeats 1000000 in
theorem mX8_quiet {l : Launch} {E : Ev} {S : List Sh} {mm : Mm} {x0 : Nat} {r : Int32 × Mm} (h : fX8_quiet S mm x0 = some r) : Ml l E S yX8_quiet cX8_quiet 3 (some .int) 4 91 [.ref (E.2.2 x0)] mm (some (.int r.1)) r.2 := by
  refine Ml.of (by decide +kernel) (Nat.le_of_ble_eq_true rfl) (fun G C hQ => ?_)
  have C : Cx G E cX8_quiet 3 RX8 (some .int) 4 91 := C
  unfold fX8_quiet at h
  obtain ⟨g0, h⟩ := gd_some h
  show WM G l E S 0 [(0, .ref (E.2.2 x0))] [] mm
  refine x_aload_n C (dq DX8_quiet 0 rfl) rfl 0 rfl ?_
  refine x_iconst (v := 0) C (dq DX8_quiet 1 rfl) (by decide) ?_
  refine putX8_115 C (dq DX8_quiet 2 rfl) g0 h (fun m1 h => ?_)
  refine x_aload_n C (dq DX8_quiet 3 rfl) rfl 0 rfl ?_
  refine x_pc 6 rfl ?_
  refine getX8_57 C (dq DX8_quiet 4 rfl) g0 ?_
  refine x_iconst (v := 0) C (dq DX8_quiet 5 rfl) (by decide) ?_
  refine x_aload_n C (dq DX8_quiet 6 rfl) rfl 0 rfl ?_
  refine getX8_60 C (dq DX8_quiet 7 rfl) g0 ?_
  refine x_iconst (v := 0) C (dq DX8_quiet 8 rfl) (by decide) ?_
  refine x_pc 15 rfl ?_
  refine callX8_254 C (dq DX8_quiet 9 rfl) h (by decide) (by decide) (Nat.le_of_ble_eq_true rfl) (fun m2 h => ?_)
  refine x_iconst (v := 0) C (dq DX8_quiet 10 rfl) (by decide) ?_
  refine x_istore_n (lv' := [(1, .int 0), (0, .ref (E.2.2 x0))]) C (dq DX8_quiet 11 rfl) rfl (by decide) rfl ?_
  refine x_lv [1, 0] rfl ?_
  refine x_loop (s0 := (0, m2)) (fun s6 => WM G l E S 20 [(0, .ref (E.2.2 x0)), (1, .int s6.1)] [] s6.2) h (fun s6 r hb kb kx => tX8_quiet_20 C g0 hb kb (fun y7 hy => ?_))
  have h := kx y7 hy
  clear kx kb hb hy
  refine x_iconst (v := 0) C (dq DX8_quiet 26 rfl) (by decide) ?_
  refine x_istore_n (lv' := [(1, .int 0), (0, .ref (E.2.2 x0))]) C (dq DX8_quiet 27 rfl) rfl (by decide) rfl ?_
  refine x_lv [1, 0] rfl ?_
  refine x_loop (s0 := (0, y7)) (fun s10 => WM G l E S 49 [(0, .ref (E.2.2 x0)), (1, .int s10.1)] [] s10.2) h (fun s10 r hb kb kx => tX8_quiet_49 C g0 hb kb (fun y11 hy => ?_))
  have h := kx y11 hy
  clear kx kb hb hy
  exact x_lv [0, 1] rfl (tX8_quiet_73 C g0 h hQ)
set_option maxHeartbeats 1000000 in
theorem qX8_quiet {S : List Sh} {mm : Mm} {x0 : Nat} {r : Int32 × Mm} (h : fX8_quiet S mm x0 = some r) : isC S x0 8 := by
  unfold fX8_quiet at h
  exact (gd_some h).1
abbrev eX8_sumOf : List (Nat × Instr × Nat) := [(0, .iconst 0, 1), (1, .istore_n 2, 1), (2, .iconst 0, 1), (3, .istore_n 3, 1), (4, .iload_n 3, 1), (5, .aload_n 0, 1), (6, .invokevirtual 251, 3), (9, .if_icmp .ge 23, 3), (12, .iload_n 2, 1), (13, .aload_n 0, 1), (14, .getfield 57, 3), (17, .iload_n 3, 1), (18, .invokestatic 258, 3), (21, .iload_n 1, 1), (22, .iadd, 1), (23, .iaload, 1), (24, .iadd, 1), (25, .istore_n 2, 1), (26, .iinc 3 1, 3), (29, .goto (-25), 3), (32, .iload_n 2, 1), (33, .ireturn, 1)]
theorem DX8_sumOf : (eX8_sumOf.all fun q => decide (decode cX8_sumOf q.1 = .ok q.2)) = true := by decide +kernel
def bX8_sumOf_4 (S : List Sh) (mm : Mm) (x0 : Nat) (x1 : Int32) (x2 : Int32) (x3 : Int32) : Option ((Int32 × Int32) ⊕ (Int32)) := bd1 (fX8_flows S mm x0) fun a1 => if a1 ≤ x3 then (some (.inr (x2))) else (bd1 (fX8_flowAt S mm x3) fun a2 => bd1 (ldA S 0 mm (rf S mm x0 26) (a2 + x1)) fun a3 => some (.inl ((x2 + a3), x3 + 1)))
def fX8_sumOf (S : List Sh) (mm : Mm) (x0 : Nat) (x1 : Int32) : Option (Int32) := gd S x0 8 (bd1 (lp (fun s4 => bX8_sumOf_4 S mm x0 x1 s4.1 s4.2) fu (0, 0)) fun y5 => some y5)
set_option maxHeartbeats 1000000 in
theorem tX8_sumOf_4 {G : Gt} {l : Launch} {E : Ev} {S : List Sh} {mm : Mm} {x0 : Nat} {x1 : Int32} {x2 : Int32} {x3 : Int32} {r : (Int32 × Int32) ⊕ (Int32)} (C : Cx G E cX8_sumOf 4 RX8 (some .int) 1 20) (g0 : isC S x0 8) (h : bX8_sumOf_4 S mm x0 x1 x2 x3 = some r) (kb : ∀ z : Int32 × Int32, r = .inl z → WM G l E S 4 [(0, .ref (E.2.2 x0)), (1, .int x1), (2, .int z.1), (3, .int z.2)] [] mm) (kx : ∀ z : Int32, r = .inr z → WM G l E S 32 [(0, .ref (E.2.2 x0)), (1, .int x1), (2, .int z)] [] mm) : WM G l E S 4 [(0, .ref (E.2.2 x0)), (1, .int x1), (2, .int x2), (3, .int x3)] [] mm := by
  unfold bX8_sumOf_4 at h
  refine x_iload_n C (dq DX8_sumOf 4 rfl) rfl 3 rfl ?_
  refine x_aload_n C (dq DX8_sumOf 5 rfl) rfl 0 rfl ?_
  refine callX8_251 C (dq DX8_sumOf 6 rfl) h (by decide) (by decide) (Nat.le_of_ble_eq_true rfl) (fun a1 h => ?_)
  refine x_icmp_ge (tgt := 32) C (dq DX8_sumOf 7 rfl) (by decide) h (fun h => ?_) (fun h => ?_)
  · cases h
    exact x_lv [0, 1, 2] rfl (kx (x2) rfl)
  · refine x_pc 12 rfl ?_
    refine x_iload_n C (dq DX8_sumOf 8 rfl) rfl 2 rfl ?_
    refine x_aload_n C (dq DX8_sumOf 9 rfl) rfl 0 rfl ?_
    refine getX8_57 C (dq DX8_sumOf 10 rfl) g0 ?_
    refine x_iload_n C (dq DX8_sumOf 11 rfl) rfl 3 rfl ?_
    refine callX8_258 C (dq DX8_sumOf 12 rfl) h (by decide) (by decide) (Nat.le_of_ble_eq_true rfl) (fun a2 h => ?_)
    refine x_pc 21 rfl ?_
    refine x_iload_n C (dq DX8_sumOf 13 rfl) rfl 1 rfl ?_
    refine x_iadd C (dq DX8_sumOf 14 rfl) ?_
    refine x_iald C (dq DX8_sumOf 15 rfl) h (fun a3 h => ?_)
    refine x_iadd C (dq DX8_sumOf 16 rfl) ?_
    refine x_istore_n (lv' := [(2, .int (x2 + a3)), (0, .ref (E.2.2 x0)), (1, .int x1), (3, .int x3)]) C (dq DX8_sumOf 17 rfl) rfl (by decide) rfl ?_
    refine x_pc 26 rfl ?_
    refine x_iinc (v := x3 + 1) (lv' := [(3, .int (x3 + 1)), (2, .int (x2 + a3)), (0, .ref (E.2.2 x0)), (1, .int x1)]) C (dq DX8_sumOf 18 rfl) 3 rfl rfl (by decide) rfl ?_
    refine x_goto (tgt := 4) C (dq DX8_sumOf 19 rfl) (by decide) ?_
    cases h
    exact x_lv [2, 3, 1, 0] rfl (kb ((x2 + a3), x3 + 1) rfl)
set_option maxHeartbeats 1000000 in
theorem mX8_sumOf {l : Launch} {E : Ev} {S : List Sh} {mm : Mm} {x0 : Nat} {x1 : Int32} {r : Int32} (h : fX8_sumOf S mm x0 x1 = some r) : Ml l E S yX8_sumOf cX8_sumOf 4 (some .int) 1 20 [.ref (E.2.2 x0), .int x1] mm (some (.int r)) mm := by
  refine Ml.of (by decide +kernel) (Nat.le_of_ble_eq_true rfl) (fun G C hQ => ?_)
  have C : Cx G E cX8_sumOf 4 RX8 (some .int) 1 20 := C
  unfold fX8_sumOf at h
  obtain ⟨g0, h⟩ := gd_some h
  show WM G l E S 0 [(0, .ref (E.2.2 x0)), (1, .int x1)] [] mm
  refine x_iconst (v := 0) C (dq DX8_sumOf 0 rfl) (by decide) ?_
  refine x_istore_n (lv' := [(2, .int 0), (0, .ref (E.2.2 x0)), (1, .int x1)]) C (dq DX8_sumOf 1 rfl) rfl (by decide) rfl ?_
  refine x_iconst (v := 0) C (dq DX8_sumOf 2 rfl) (by decide) ?_
  refine x_istore_n (lv' := [(3, .int 0), (2, .int 0), (0, .ref (E.2.2 x0)), (1, .int x1)]) C (dq DX8_sumOf 3 rfl) rfl (by decide) rfl ?_
  refine x_lv [2, 3, 1, 0] rfl ?_
  refine x_loop (s0 := (0, 0)) (fun s4 => WM G l E S 4 [(0, .ref (E.2.2 x0)), (1, .int x1), (2, .int s4.1), (3, .int s4.2)] [] mm) h (fun s4 r hb kb kx => tX8_sumOf_4 C g0 hb kb (fun y5 hy => ?_))
  have h := kx y5 hy
  clear kx kb hb hy
  refine x_pc 32 rfl ?_
  refine x_iload_n C (dq DX8_sumOf 20 rfl) rfl 2 rfl ?_
  cases h
  exact x_iret C (dq DX8_sumOf 21 rfl) hQ
set_option maxHeartbeats 1000000 in
theorem qX8_sumOf {S : List Sh} {mm : Mm} {x0 : Nat} {x1 : Int32} {r : Int32} (h : fX8_sumOf S mm x0 x1 = some r) : isC S x0 8 := by
  unfold fX8_sumOf at h
  exact (gd_some h).1
theorem callX8_388 {G : Gt} {l : Launch} {E : Ev} {S : List Sh} {cc : ByteArray} {nL : Nat} {rt : Option FieldType} {fr lo : Nat} {pc : Nat} {lv : List (Nat × Value)} {rest : List Value} {mm : Mm} {α : Type} {f : Int32 → Option α} {r : α} {o : Nat} {a0 : Int32} (C : Cx G E cc nL RX8 rt fr lo) (d : decode cc pc = .ok (.invokevirtual 388, 3)) (h : bd1 (fX8_sumOf S mm o a0) f = some r) (hfr : 2 ≤ fr) (hlo : 43 ≤ lo) (hrs : (rest.map fun v => v.category).sum ≤ 8) (k : ∀ v, f v = some r → WM G l E S (pc + 3) lv (.int v :: rest) mm) : WM G l E S pc lv (.int a0 :: .ref (E.2.2 o) :: rest) mm := by
  obtain ⟨v, hv, hf⟩ := bd1_some h
  exact x_callV (n := 1) (As := [.int a0]) (rest := rest) C (mX8_sumOf hv) (qX8_sumOf hv) (T := TX8) (N := 49) rfl (gmem 1426 (by decide +kernel) rfl) (gmem 1428 (by decide +kernel) rfl) (gmemS 96 (by decide +kernel) rfl) (gmem 9 (by decide +kernel) rfl) (gmem 1429 (by decide +kernel) rfl) (by decide +kernel) rfl hfr hlo hrs d rfl rfl (k v hf)
abbrev eX8_worst : List (Nat × Instr × Nat) := [(0, .aload_n 0, 1), (1, .iconst 0, 1), (2, .putfield 115, 3), (5, .iload_n 1, 1), (6, .iconst 1, 1), (7, .if_icmp .lt 9, 3), (10, .iload_n 1, 1), (11, .bipush 40, 2), (13, .if_icmp .le 5, 3), (16, .iconst (-1), 1), (17, .ireturn, 1), (18, .bipush (-2), 2), (20, .istore_n 2, 1), (21, .iconst 0, 1), (22, .istore_n 3, 1), (23, .aload_n 0, 1), (24, .getfield 57, 3), (27, .iconst 0, 1), (28, .aload_n 0, 1), (29, .getfield 60, 3), (32, .iconst 0, 1), (33, .invokestatic 254, 3), (36, .iconst 0, 1), (37, .istore 4, 2), (39, .iload 4, 2), (41, .aload_n 0, 1), (42, .invokevirtual 251, 3), (45, .if_icmp .ge 131, 3), (48, .aload_n 0, 1), (49, .iload 4, 2), (51, .invokevirtual 283, 3), (54, .ifCond .ne 6, 3), (57, .goto 113, 3), (60, .aload_n 0, 1), (61, .iconst 5, 1), (62, .invokevirtual 388, 3), (65, .aload_n 0, 1), (66, .getfield 57, 3), (69, .iload 4, 2), (71, .invokestatic 258, 3), (74, .iconst 5, 1), (75, .iadd, 1), (76, .iaload, 1), (77, .isub, 1), (78, .istore 5, 2), (80, .aload_n 0, 1), (81, .getfield 57, 3), (84, .iload 4, 2), (86, .invokestatic 258, 3), (89, .bipush 7, 2), (91, .iadd, 1), (92, .iconst 0, 1), (93, .iastore, 1), (94, .iconst 0, 1), (95, .istore 6, 2), (97, .iload 6, 2), (99, .iload_n 1, 1), (100, .if_icmp .ge 13, 3), (103, .aload_n 0, 1), (104, .invokevirtual 313, 3), (107, .iinc 6 1, 3), (110, .goto (-13), 3), (113, .aload_n 0, 1), (114, .iconst 5, 1), (115, .invokevirtual 388, 3), (118, .aload_n 0, 1), (119, .getfield 57, 3), (122, .iload 4, 2), (124, .invokestatic 258, 3), (127, .iconst 5, 1), (128, .iadd, 1), (129, .iaload, 1), (130, .isub, 1), (131, .iload 5, 2), (133, .isub, 1), (134, .istore 6, 2), (136, .aload_n 0, 1), (137, .getfield 60, 3), (140, .iconst 0, 1), (141, .aload_n 0, 1), (142, .getfield 57, 3), (145, .iconst 0, 1), (146, .invokestatic 254, 3), (149, .iload_n 2, 1), (150, .bipush (-2), 2), (152, .if_icmp .eq 12, 3), (155, .iload 6, 2), (157, .iload_n 3, 1), (158, .if_icmp .gt 6, 3), (161, .goto 9, 3), (164, .iload 4, 2), (166, .istore_n 2, 1), (167, .iload 6, 2), (169, .istore_n 3, 1), (170, .iinc 4 1, 3), (173, .goto (-134), 3), (176, .iload_n 2, 1), (177, .ireturn, 1)]
theorem DX8_worst : (eX8_worst.all fun q => decide (decode cX8_worst q.1 = .ok q.2)) = true := by decide +kernel
def jX8_worst_16 (S : List Sh) (mm : Mm) (x0 : Nat)  : Option (Int32 × Mm) := some ((-1), mm)
def bX8_worst_97 (S : List Sh) (x0 : Nat) (x1 : Int32) (x2 : Int32) (x3 : Int32) (x4 : Int32) (x5 : Int32) (x6 : Int32) (mm : Mm) : Option ((Int32 × Mm) ⊕ (Mm)) := if x1 ≤ x6 then (some (.inr (mm))) else (bd1 (fX8_tickGoes S mm x0) fun m10 => some (.inl (x6 + 1, m10)))
def jX8_worst_170 (S : List Sh) (mm : Mm) (x0 : Nat) (x1 : Int32) (x2 : Int32) (x3 : Int32) (x4 : Int32)  : Option ((Int32 × Int32 × Int32 × Mm) ⊕ (Int32 × Mm)) := some (.inl (x2, x3, x4 + 1, mm))
def jX8_worst_164 (S : List Sh) (mm : Mm) (x0 : Nat) (x1 : Int32) (x4 : Int32) (x6 : Int32)  : Option ((Int32 × Int32 × Int32 × Mm) ⊕ (Int32 × Mm)) := jX8_worst_170 S mm x0 x1 x4 x6 x4
def bX8_worst_39 (S : List Sh) (x0 : Nat) (x1 : Int32) (x2 : Int32) (x3 : Int32) (x4 : Int32) (mm : Mm) : Option ((Int32 × Int32 × Int32 × Mm) ⊕ (Int32 × Mm)) := bd1 (fX8_flows S mm x0) fun a3 => if a3 ≤ x4 then (some (.inr (x2, mm))) else (bd1 (fX8_isOn S mm x0 x4) fun a4 => if ¬ a4 = 0 then (bd1 (fX8_sumOf S mm x0 5) fun a5 => bd1 (fX8_flowAt S mm x4) fun a6 => bd1 (ldA S 0 mm (rf S mm x0 26) (a6 + 5)) fun a7 => bd1 (fX8_flowAt S mm x4) fun a8 => bd1 (stA S 0 mm (rf S mm x0 26) (a8 + 7) 0) fun m9 => bd1 (lp (fun s11 => bX8_worst_97 S x0 x1 x2 x3 x4 (a5 - a7) s11.1 s11.2) fu (0, m9)) fun y12 => bd1 (fX8_sumOf S y12 x0 5) fun a13 => bd1 (fX8_flowAt S y12 x4) fun a14 => bd1 (ldA S 0 y12 (rf S y12 x0 26) (a14 + 5)) fun a15 => bd1 (fX8_copies S y12 (rf S y12 x0 27) 0 (rf S y12 x0 26) 0) fun m16 => if x2 = (-2) then (jX8_worst_164 S m16 x0 x1 x4 ((a13 - a15) - (a5 - a7))) else (if x3 < ((a13 - a15) - (a5 - a7)) then (jX8_worst_164 S m16 x0 x1 x4 ((a13 - a15) - (a5 - a7))) else (jX8_worst_170 S m16 x0 x1 x2 x3 x4))) else (jX8_worst_170 S mm x0 x1 x2 x3 x4))
def fX8_worst (S : List Sh) (mm : Mm) (x0 : Nat) (x1 : Int32) : Option (Int32 × Mm) := gd S x0 8 (bd1 (some (u1 mm x0 0 0)) fun m1 => if x1 < 1 then (jX8_worst_16 S m1 x0) else (if x1 ≤ 40 then (bd1 (fX8_copies S m1 (rf S m1 x0 26) 0 (rf S m1 x0 27) 0) fun m2 => bd1 (lp (fun s17 => bX8_worst_39 S x0 x1 s17.1 s17.2.1 s17.2.2.1 s17.2.2.2) fu ((-2), 0, 0, m2)) fun y18 => some (y18.1, y18.2)) else (jX8_worst_16 S m1 x0)))
set_option maxHeartbeats 1000000 in
theorem tX8_worst_16 {G : Gt} {l : Launch} {E : Ev} {S : List Sh} {mm : Mm} {x0 : Nat}  {r : Int32 × Mm} (C : Cx G E cX8_worst 7 RX8 (some .int) 4 91) (g0 : isC S x0 8) (h : jX8_worst_16 S mm x0 = some r) (hQ : RQ G E S (some (.int r.1)) r.2) : WM G l E S 16 [(0, .ref (E.2.2 x0))] [] mm := by
  unfold jX8_worst_16 at h
  refine x_iconst (v := (-1)) C (dq DX8_worst 9 rfl) (by decide) ?_
  cases h
  exact x_iret C (dq DX8_worst 10 rfl) hQ
set_option maxHeartbeats 1000000 in
theorem tX8_worst_97 {G : Gt} {l : Launch} {E : Ev} {S : List Sh} {x0 : Nat} {x1 : Int32} {x2 : Int32} {x3 : Int32} {x4 : Int32} {x5 : Int32} {x6 : Int32} {mm : Mm} {r : (Int32 × Mm) ⊕ (Mm)} (C : Cx G E cX8_worst 7 RX8 (some .int) 4 91) (g0 : isC S x0 8) (h : bX8_worst_97 S x0 x1 x2 x3 x4 x5 x6 mm = some r) (kb : ∀ z : Int32 × Mm, r = .inl z → WM G l E S 97 [(0, .ref (E.2.2 x0)), (1, .int x1), (2, .int x2), (3, .int x3), (4, .int x4), (5, .int x5), (6, .int z.1)] [] z.2) (kx : ∀ z : Mm, r = .inr z → WM G l E S 113 [(0, .ref (E.2.2 x0)), (1, .int x1), (2, .int x2), (3, .int x3), (4, .int x4), (5, .int x5)] [] z) : WM G l E S 97 [(0, .ref (E.2.2 x0)), (1, .int x1), (2, .int x2), (3, .int x3), (4, .int x4), (5, .int x5), (6, .int x6)] [] mm := by
  unfold bX8_worst_97 at h
  refine x_iload C (dq DX8_worst 55 rfl) 6 rfl ?_
  refine x_iload_n C (dq DX8_worst 56 rfl) rfl 1 rfl ?_
  refine x_icmp_ge (tgt := 113) C (dq DX8_worst 57 rfl) (by decide) h (fun h => ?_) (fun h => ?_)
  · cases h
    exact x_lv [0, 1, 2, 3, 4, 5] rfl (kx (mm) rfl)
  · refine x_aload_n C (dq DX8_worst 58 rfl) rfl 0 rfl ?_
    refine x_pc 104 rfl ?_
    refine callX8_313 C (dq DX8_worst 59 rfl) h (by decide) (by decide) (Nat.le_of_ble_eq_true rfl) (fun m10 h => ?_)
    refine x_iinc (v := x6 + 1) (lv' := [(6, .int (x6 + 1)), (0, .ref (E.2.2 x0)), (1, .int x1), (2, .int x2), (3, .int x3), (4, .int x4), (5, .int x5)]) C (dq DX8_worst 60 rfl) 6 rfl rfl (by decide) rfl ?_
    refine x_goto (tgt := 97) C (dq DX8_worst 61 rfl) (by decide) ?_
    cases h
    exact x_lv [1, 2, 3, 4, 5, 6, 0] rfl (kb (x6 + 1, m10) rfl)
set_option maxHeartbeats 1000000 in
theorem tX8_worst_170 {G : Gt} {l : Launch} {E : Ev} {S : List Sh} {mm : Mm} {x0 : Nat} {x1 : Int32} {x2 : Int32} {x3 : Int32} {x4 : Int32}  {r : (Int32 × Int32 × Int32 × Mm) ⊕ (Int32 × Mm)} (C : Cx G E cX8_worst 7 RX8 (some .int) 4 91) (g0 : isC S x0 8) (h : jX8_worst_170 S mm x0 x1 x2 x3 x4 = some r) (kb : ∀ z : Int32 × Int32 × Int32 × Mm, r = .inl z → WM G l E S 39 [(0, .ref (E.2.2 x0)), (1, .int x1), (2, .int z.1), (3, .int z.2.1), (4, .int z.2.2.1)] [] z.2.2.2) (kx : ∀ z : Int32 × Mm, r = .inr z → WM G l E S 176 [(0, .ref (E.2.2 x0)), (1, .int x1), (2, .int z.1)] [] z.2) : WM G l E S 170 [(0, .ref (E.2.2 x0)), (1, .int x1), (2, .int x2), (3, .int x3), (4, .int x4)] [] mm := by
  unfold jX8_worst_170 at h
  refine x_iinc (v := x4 + 1) (lv' := [(4, .int (x4 + 1)), (0, .ref (E.2.2 x0)), (1, .int x1), (2, .int x2), (3, .int x3)]) C (dq DX8_worst 94 rfl) 4 rfl rfl (by decide) rfl ?_
  refine x_goto (tgt := 39) C (dq DX8_worst 95 rfl) (by decide) ?_
  cases h
  exact x_lv [1, 2, 3, 4, 0] rfl (kb (x2, x3, x4 + 1, mm) rfl)
set_option maxHeartbeats 1000000 in
theorem tX8_worst_164 {G : Gt} {l : Launch} {E : Ev} {S : List Sh} {mm : Mm} {x0 : Nat} {x1 : Int32} {x4 : Int32} {x6 : Int32}  {r : (Int32 × Int32 × Int32 × Mm) ⊕ (Int32 × Mm)} (C : Cx G E cX8_worst 7 RX8 (some .int) 4 91) (g0 : isC S x0 8) (h : jX8_worst_164 S mm x0 x1 x4 x6 = some r) (kb : ∀ z : Int32 × Int32 × Int32 × Mm, r = .inl z → WM G l E S 39 [(0, .ref (E.2.2 x0)), (1, .int x1), (2, .int z.1), (3, .int z.2.1), (4, .int z.2.2.1)] [] z.2.2.2) (kx : ∀ z : Int32 × Mm, r = .inr z → WM G l E S 176 [(0, .ref (E.2.2 x0)), (1, .int x1), (2, .int z.1)] [] z.2) : WM G l E S 164 [(0, .ref (E.2.2 x0)), (1, .int x1), (4, .int x4), (6, .int x6)] [] mm := by
  unfold jX8_worst_164 at h
  refine x_iload C (dq DX8_worst 90 rfl) 2 rfl ?_
  refine x_istore_n (lv' := [(2, .int x4), (0, .ref (E.2.2 x0)), (1, .int x1), (4, .int x4), (6, .int x6)]) C (dq DX8_worst 91 rfl) rfl (by decide) rfl ?_
  refine x_iload C (dq DX8_worst 92 rfl) 4 rfl ?_
  refine x_istore_n (lv' := [(3, .int x6), (2, .int x4), (0, .ref (E.2.2 x0)), (1, .int x1), (4, .int x4), (6, .int x6)]) C (dq DX8_worst 93 rfl) rfl (by decide) rfl ?_
  exact x_lv [2, 3, 1, 0, 4] rfl (tX8_worst_170 C g0 h kb kx)
set_option maxHeartbeats 1000000 in
theorem tX8_worst_39 {G : Gt} {l : Launch} {E : Ev} {S : List Sh} {x0 : Nat} {x1 : Int32} {x2 : Int32} {x3 : Int32} {x4 : Int32} {mm : Mm} {r : (Int32 × Int32 × Int32 × Mm) ⊕ (Int32 × Mm)} (C : Cx G E cX8_worst 7 RX8 (some .int) 4 91) (g0 : isC S x0 8) (h : bX8_worst_39 S x0 x1 x2 x3 x4 mm = some r) (kb : ∀ z : Int32 × Int32 × Int32 × Mm, r = .inl z → WM G l E S 39 [(0, .ref (E.2.2 x0)), (1, .int x1), (2, .int z.1), (3, .int z.2.1), (4, .int z.2.2.1)] [] z.2.2.2) (kx : ∀ z : Int32 × Mm, r = .inr z → WM G l E S 176 [(0, .ref (E.2.2 x0)), (1, .int x1), (2, .int z.1)] [] z.2) : WM G l E S 39 [(0, .ref (E.2.2 x0)), (1, .int x1), (2, .int x2), (3, .int x3), (4, .int x4)] [] mm := by
  unfold bX8_worst_39 at h
  refine x_iload C (dq DX8_worst 24 rfl) 4 rfl ?_
  refine x_aload_n C (dq DX8_worst 25 rfl) rfl 0 rfl ?_
  refine callX8_251 C (dq DX8_worst 26 rfl) h (by decide) (by decide) (Nat.le_of_ble_eq_true rfl) (fun a3 h => ?_)
  refine x_icmp_ge (tgt := 176) C (dq DX8_worst 27 rfl) (by decide) h (fun h => ?_) (fun h => ?_)
  · cases h
    exact x_lv [0, 1, 2] rfl (kx (x2, mm) rfl)
  · refine x_pc 48 rfl ?_
    refine x_aload_n C (dq DX8_worst 28 rfl) rfl 0 rfl ?_
    refine x_iload C (dq DX8_worst 29 rfl) 4 rfl ?_
    refine callX8_283 C (dq DX8_worst 30 rfl) h (by decide) (by decide) (Nat.le_of_ble_eq_true rfl) (fun a4 h => ?_)
    refine x_if_ne (tgt := 60) C (dq DX8_worst 31 rfl) (by decide) h (fun h => ?_) (fun h => ?_)
    · refine x_aload_n C (dq DX8_worst 33 rfl) rfl 0 rfl ?_
      refine x_pc 61 rfl ?_
      refine x_iconst (v := 5) C (dq DX8_worst 34 rfl) (by decide) ?_
      refine callX8_388 C (dq DX8_worst 35 rfl) h (by decide) (by decide) (Nat.le_of_ble_eq_true rfl) (fun a5 h => ?_)
      refine x_aload_n C (dq DX8_worst 36 rfl) rfl 0 rfl ?_
      refine getX8_57 C (dq DX8_worst 37 rfl) g0 ?_
      refine x_iload C (dq DX8_worst 38 rfl) 4 rfl ?_
      refine x_pc 71 rfl ?_
      refine callX8_258 C (dq DX8_worst 39 rfl) h (by decide) (by decide) (Nat.le_of_ble_eq_true rfl) (fun a6 h => ?_)
      refine x_iconst (v := 5) C (dq DX8_worst 40 rfl) (by decide) ?_
      refine x_iadd C (dq DX8_worst 41 rfl) ?_
      refine x_iald C (dq DX8_worst 42 rfl) h (fun a7 h => ?_)
      refine x_isub C (dq DX8_worst 43 rfl) ?_
      refine x_pc 78 rfl ?_
      refine x_istore (lv' := [(5, .int (a5 - a7)), (0, .ref (E.2.2 x0)), (1, .int x1), (2, .int x2), (3, .int x3), (4, .int x4)]) C (dq DX8_worst 44 rfl) (by decide) rfl ?_
      refine x_aload_n C (dq DX8_worst 45 rfl) rfl 1 rfl ?_
      refine getX8_57 C (dq DX8_worst 46 rfl) g0 ?_
      refine x_iload C (dq DX8_worst 47 rfl) 5 rfl ?_
      refine callX8_258 C (dq DX8_worst 48 rfl) h (by decide) (by decide) (Nat.le_of_ble_eq_true rfl) (fun a8 h => ?_)
      refine x_pc 89 rfl ?_
      refine x_bipush (v := 7) C (dq DX8_worst 49 rfl) (by decide) ?_
      refine x_iadd C (dq DX8_worst 50 rfl) ?_
      refine x_iconst (v := 0) C (dq DX8_worst 51 rfl) (by decide) ?_
      refine x_iast C (dq DX8_worst 52 rfl) h (fun m9 h => ?_)
      refine x_iconst (v := 0) C (dq DX8_worst 53 rfl) (by decide) ?_
      refine x_pc 95 rfl ?_
      refine x_istore (lv' := [(6, .int 0), (5, .int (a5 - a7)), (0, .ref (E.2.2 x0)), (1, .int x1), (2, .int x2), (3, .int x3), (4, .int x4)]) C (dq DX8_worst 54 rfl) (by decide) rfl ?_
      refine x_lv [2, 3, 4, 5, 6, 1, 0] rfl ?_
      refine x_loop (s0 := (0, m9)) (fun s11 => WM G l E S 97 [(0, .ref (E.2.2 x0)), (1, .int x1), (2, .int x2), (3, .int x3), (4, .int x4), (5, .int (a5 - a7)), (6, .int s11.1)] [] s11.2) h (fun s11 r hb kb kx => tX8_worst_97 C g0 hb kb (fun y12 hy => ?_))
      have h := kx y12 hy
      clear kx kb hb hy
      refine x_aload_n C (dq DX8_worst 62 rfl) rfl 0 rfl ?_
      refine x_iconst (v := 5) C (dq DX8_worst 63 rfl) (by decide) ?_
      refine callX8_388 C (dq DX8_worst 64 rfl) h (by decide) (by decide) (Nat.le_of_ble_eq_true rfl) (fun a13 h => ?_)
      refine x_aload_n C (dq DX8_worst 65 rfl) rfl 0 rfl ?_
      refine x_pc 119 rfl ?_
      refine getX8_57 C (dq DX8_worst 66 rfl) g0 ?_
      refine x_iload C (dq DX8_worst 67 rfl) 4 rfl ?_
      refine callX8_258 C (dq DX8_worst 68 rfl) h (by decide) (by decide) (Nat.le_of_ble_eq_true rfl) (fun a14 h => ?_)
      refine x_iconst (v := 5) C (dq DX8_worst 69 rfl) (by decide) ?_
      refine x_iadd C (dq DX8_worst 70 rfl) ?_
      refine x_pc 129 rfl ?_
      refine x_iald C (dq DX8_worst 71 rfl) h (fun a15 h => ?_)
      refine x_isub C (dq DX8_worst 72 rfl) ?_
      refine x_iload C (dq DX8_worst 73 rfl) 5 rfl ?_
      refine x_isub C (dq DX8_worst 74 rfl) ?_
      refine x_istore (lv' := [(6, .int ((a13 - a15) - (a5 - a7))), (0, .ref (E.2.2 x0)), (1, .int x1), (2, .int x2), (3, .int x3), (4, .int x4), (5, .int (a5 - a7))]) C (dq DX8_worst 75 rfl) (by decide) rfl ?_
      refine x_pc 136 rfl ?_
      refine x_aload_n C (dq DX8_worst 76 rfl) rfl 1 rfl ?_
      refine getX8_60 C (dq DX8_worst 77 rfl) g0 ?_
      refine x_iconst (v := 0) C (dq DX8_worst 78 rfl) (by decide) ?_
      refine x_aload_n C (dq DX8_worst 79 rfl) rfl 1 rfl ?_
      refine getX8_57 C (dq DX8_worst 80 rfl) g0 ?_
      refine x_pc 145 rfl ?_
      refine x_iconst (v := 0) C (dq DX8_worst 81 rfl) (by decide) ?_
      refine callX8_254 C (dq DX8_worst 82 rfl) h (by decide) (by decide) (Nat.le_of_ble_eq_true rfl) (fun m16 h => ?_)
      refine x_iload_n C (dq DX8_worst 83 rfl) rfl 3 rfl ?_
      refine x_bipush (v := (-2)) C (dq DX8_worst 84 rfl) (by decide) ?_
      refine x_icmp_eq (tgt := 164) C (dq DX8_worst 85 rfl) (by decide) h (fun h => ?_) (fun h => ?_)
      · exact x_lv [1, 2, 5, 0] rfl (tX8_worst_164 C g0 h kb kx)
      · refine x_pc 155 rfl ?_
        refine x_iload C (dq DX8_worst 86 rfl) 0 rfl ?_
        refine x_iload_n C (dq DX8_worst 87 rfl) rfl 4 rfl ?_
        refine x_icmp_gt (tgt := 164) C (dq DX8_worst 88 rfl) (by decide) h (fun h => ?_) (fun h => ?_)
        · exact x_lv [1, 2, 5, 0] rfl (tX8_worst_164 C g0 h kb kx)
        · refine x_goto (tgt := 170) C (dq DX8_worst 89 rfl) (by decide) ?_
          exact x_lv [1, 2, 3, 4, 5] rfl (tX8_worst_170 C g0 h kb kx)
    · refine x_goto (tgt := 170) C (dq DX8_worst 32 rfl) (by decide) ?_
      exact x_lv [0, 1, 2, 3, 4] rfl (tX8_worst_170 C g0 h kb kx)
set_option maxHeartbeats 1000000 in
theorem mX8_worst {l : Launch} {E : Ev} {S : List Sh} {mm : Mm} {x0 : Nat} {x1 : Int32} {r : Int32 × Mm} (h : fX8_worst S mm x0 x1 = some r) : Ml l E S yX8_worst cX8_worst 7 (some .int) 4 91 [.ref (E.2.2 x0), .int x1] mm (some (.int r.1)) r.2 := by
  refine Ml.of (by decide +kernel) (Nat.le_of_ble_eq_true rfl) (fun G C hQ => ?_)
  have C : Cx G E cX8_worst 7 RX8 (some .int) 4 91 := C
  unfold fX8_worst at h
  obtain ⟨g0, h⟩ := gd_some h
  show WM G l E S 0 [(0, .ref (E.2.2 x0)), (1, .int x1)] [] mm
  refine x_aload_n C (dq DX8_worst 0 rfl) rfl 0 rfl ?_
  refine x_iconst (v := 0) C (dq DX8_worst 1 rfl) (by decide) ?_
  refine putX8_115 C (dq DX8_worst 2 rfl) g0 h (fun m1 h => ?_)
  refine x_iload_n C (dq DX8_worst 3 rfl) rfl 1 rfl ?_
  refine x_pc 6 rfl ?_
  refine x_iconst (v := 1) C (dq DX8_worst 4 rfl) (by decide) ?_
  refine x_icmp_lt (tgt := 16) C (dq DX8_worst 5 rfl) (by decide) h (fun h => ?_) (fun h => ?_)
  · exact x_lv [0] rfl (tX8_worst_16 C g0 h hQ)
  · refine x_iload_n C (dq DX8_worst 6 rfl) rfl 1 rfl ?_
    refine x_bipush (v := 40) C (dq DX8_worst 7 rfl) (by decide) ?_
    refine x_icmp_le (tgt := 18) C (dq DX8_worst 8 rfl) (by decide) h (fun h => ?_) (fun h => ?_)
    · refine x_pc 18 rfl ?_
      refine x_bipush (v := (-2)) C (dq DX8_worst 11 rfl) (by decide) ?_
      refine x_istore_n (lv' := [(2, .int (-2)), (0, .ref (E.2.2 x0)), (1, .int x1)]) C (dq DX8_worst 12 rfl) rfl (by decide) rfl ?_
      refine x_iconst (v := 0) C (dq DX8_worst 13 rfl) (by decide) ?_
      refine x_istore_n (lv' := [(3, .int 0), (2, .int (-2)), (0, .ref (E.2.2 x0)), (1, .int x1)]) C (dq DX8_worst 14 rfl) rfl (by decide) rfl ?_
      refine x_aload_n C (dq DX8_worst 15 rfl) rfl 2 rfl ?_
      refine x_pc 24 rfl ?_
      refine getX8_57 C (dq DX8_worst 16 rfl) g0 ?_
      refine x_iconst (v := 0) C (dq DX8_worst 17 rfl) (by decide) ?_
      refine x_aload_n C (dq DX8_worst 18 rfl) rfl 2 rfl ?_
      refine getX8_60 C (dq DX8_worst 19 rfl) g0 ?_
      refine x_iconst (v := 0) C (dq DX8_worst 20 rfl) (by decide) ?_
      refine x_pc 33 rfl ?_
      refine callX8_254 C (dq DX8_worst 21 rfl) h (by decide) (by decide) (Nat.le_of_ble_eq_true rfl) (fun m2 h => ?_)
      refine x_iconst (v := 0) C (dq DX8_worst 22 rfl) (by decide) ?_
      refine x_istore (lv' := [(4, .int 0), (3, .int 0), (2, .int (-2)), (0, .ref (E.2.2 x0)), (1, .int x1)]) C (dq DX8_worst 23 rfl) (by decide) rfl ?_
      refine x_lv [3, 4, 2, 1, 0] rfl ?_
      refine x_loop (s0 := ((-2), 0, 0, m2)) (fun s17 => WM G l E S 39 [(0, .ref (E.2.2 x0)), (1, .int x1), (2, .int s17.1), (3, .int s17.2.1), (4, .int s17.2.2.1)] [] s17.2.2.2) h (fun s17 r hb kb kx => tX8_worst_39 C g0 hb kb (fun y18 hy => ?_))
      have h := kx y18 hy
      clear kx kb hb hy
      refine x_iload_n C (dq DX8_worst 96 rfl) rfl 2 rfl ?_
      cases h
      exact x_iret C (dq DX8_worst 97 rfl) hQ
    · exact x_lv [0] rfl (tX8_worst_16 C g0 h hQ)
set_option maxHeartbeats 1000000 in
theorem qX8_worst {S : List Sh} {mm : Mm} {x0 : Nat} {x1 : Int32} {r : Int32 × Mm} (h : fX8_worst S mm x0 x1 = some r) : isC S x0 8 := by
  unfold fX8_worst at h
  exact (gd_some h).1
abbrev eX8_leastSize : List (Nat × Instr × Nat) := [(0, .aload_n 0, 1), (1, .iconst 0, 1), (2, .putfield 115, 3), (5, .aload_n 0, 1), (6, .iload_n 1, 1), (7, .invokevirtual 319, 3), (10, .ifCond .eq 14, 3), (13, .iload_n 2, 1), (14, .iconst 1, 1), (15, .if_icmp .lt 9, 3), (18, .iload_n 2, 1), (19, .bipush 100, 2), (21, .if_icmp .le 5, 3), (24, .iconst (-1), 1), (25, .ireturn, 1), (26, .aload_n 0, 1), (27, .getfield 57, 3), (30, .iconst 0, 1), (31, .aload_n 0, 1), (32, .getfield 60, 3), (35, .iconst 0, 1), (36, .invokestatic 254, 3), (39, .aload_n 0, 1), (40, .getfield 57, 3), (43, .bipush 24, 2), (45, .iload_n 1, 1), (46, .imul, 1), (47, .iconst 2, 1), (48, .iadd, 1), (49, .sipush 1999, 3), (52, .iastore, 1), (53, .aload_n 0, 1), (54, .getfield 57, 3), (57, .bipush 24, 2), (59, .iload_n 1, 1), (60, .imul, 1), (61, .iconst 3, 1), (62, .iadd, 1), (63, .iaload, 1), (64, .istore_n 3, 1), (65, .iconst 1, 1), (66, .istore 4, 2), (68, .iconst 0, 1), (69, .istore 5, 2), (71, .iload 5, 2), (73, .iload_n 2, 1), (74, .if_icmp .ge 73, 3), (77, .aload_n 0, 1), (78, .invokevirtual 313, 3), (81, .iconst 0, 1), (82, .istore 6, 2), (84, .iconst 0, 1), (85, .istore 7, 2), (87, .iload 7, 2), (89, .aload_n 0, 1), (90, .invokevirtual 251, 3), (93, .if_icmp .ge 26, 3), (96, .iload 6, 2), (98, .aload_n 0, 1), (99, .getfield 78, 3), (102, .bipush 8, 2), (104, .iload_n 1, 1), (105, .imul, 1), (106, .iload 7, 2), (108, .iadd, 1), (109, .iaload, 1), (110, .iadd, 1), (111, .istore 6, 2), (113, .iinc 7 1, 3), (116, .goto (-29), 3), (119, .iload 6, 2), (121, .ifCond .le 20, 3), (124, .aload_n 0, 1), (125, .iload_n 1, 1), (126, .invokevirtual 264, 3), (129, .iload 4, 2), (131, .if_icmp .le 10, 3), (134, .aload_n 0, 1), (135, .iload_n 1, 1), (136, .invokevirtual 264, 3), (139, .istore 4, 2), (141, .iinc 5 1, 3), (144, .goto (-73), 3), (147, .aload_n 0, 1), (148, .getfield 57, 3), (151, .bipush 24, 2), (153, .iload_n 1, 1), (154, .imul, 1), (155, .iconst 3, 1), (156, .iadd, 1), (157, .iaload, 1), (158, .iload_n 3, 1), (159, .if_icmp .ne 7, 3), (162, .iconst 1, 1), (163, .goto 4, 3), (166, .iconst 0, 1), (167, .istore 5, 2), (169, .aload_n 0, 1), (170, .getfield 60, 3), (173, .iconst 0, 1), (174, .aload_n 0, 1), (175, .getfield 57, 3), (178, .iconst 0, 1), (179, .invokestatic 254, 3), (182, .iload 5, 2), (184, .ifCond .eq 8, 3), (187, .iload 4, 2), (189, .goto 5, 3), (192, .bipush (-2), 2), (194, .ireturn, 1)]
theorem DX8_leastSize : (eX8_leastSize.all fun q => decide (decode cX8_leastSize q.1 = .ok q.2)) = true := by decide +kernel
def jX8_leastSize_24 (S : List Sh) (mm : Mm) (x0 : Nat)  : Option (Int32 × Mm) := some ((-1), mm)
def bX8_leastSize_87 (S : List Sh) (mm : Mm) (x0 : Nat) (x1 : Int32) (x2 : Int32) (x3 : Int32) (x4 : Int32) (x5 : Int32) (x6 : Int32) (x7 : Int32) : Option ((Int32 × Int32) ⊕ (Int32)) := bd1 (fX8_flows S mm x0) fun a7 => if a7 ≤ x7 then (some (.inr (x6))) else (bd1 (ldA S 0 mm (rf S mm x0 35) ((8 * x1) + x7)) fun a8 => some (.inl ((x6 + a8), x7 + 1)))
def jX8_leastSize_141 (S : List Sh) (mm : Mm) (x0 : Nat) (x1 : Int32) (x2 : Int32) (x3 : Int32) (x4 : Int32) (x5 : Int32)  : Option ((Int32 × Int32 × Mm) ⊕ (Int32 × Mm)) := some (.inl (x4, x5 + 1, mm))
def bX8_leastSize_71 (S : List Sh) (x0 : Nat) (x1 : Int32) (x2 : Int32) (x3 : Int32) (x4 : Int32) (x5 : Int32) (mm : Mm) : Option ((Int32 × Int32 × Mm) ⊕ (Int32 × Mm)) := if x2 ≤ x5 then (some (.inr (x4, mm))) else (bd1 (fX8_tickGoes S mm x0) fun m6 => bd1 (lp (fun s9 => bX8_leastSize_87 S m6 x0 x1 x2 x3 x4 x5 s9.1 s9.2) fu (0, 0)) fun y10 => if y10 ≤ 0 then (jX8_leastSize_141 S m6 x0 x1 x2 x3 x4 x5) else (bd1 (fX8_queueOf S m6 x0 x1) fun a11 => if a11 ≤ x4 then (jX8_leastSize_141 S m6 x0 x1 x2 x3 x4 x5) else (bd1 (fX8_queueOf S m6 x0 x1) fun a12 => jX8_leastSize_141 S m6 x0 x1 x2 x3 a12 x5)))
def jX8_leastSize_194 (S : List Sh) (mm : Mm) (x0 : Nat) (p0 : Int32) : Option (Int32 × Mm) := some (p0, mm)
def jX8_leastSize_167 (S : List Sh) (mm : Mm) (x0 : Nat) (x4 : Int32) (p0 : Int32) : Option (Int32 × Mm) := bd1 (fX8_copies S mm (rf S mm x0 27) 0 (rf S mm x0 26) 0) fun m16 => if p0 = 0 then (jX8_leastSize_194 S m16 x0 (-2)) else (jX8_leastSize_194 S m16 x0 x4)
def fX8_leastSize (S : List Sh) (mm : Mm) (x0 : Nat) (x1 : Int32) (x2 : Int32) : Option (Int32 × Mm) := gd S x0 8 (bd1 (some (u1 mm x0 0 0)) fun m1 => bd1 (fX8_isLink S m1 x0 x1) fun a2 => if a2 = 0 then (jX8_leastSize_24 S m1 x0) else (if x2 < 1 then (jX8_leastSize_24 S m1 x0) else (if x2 ≤ 100 then (bd1 (fX8_copies S m1 (rf S m1 x0 26) 0 (rf S m1 x0 27) 0) fun m3 => bd1 (stA S 0 m3 (rf S m3 x0 26) ((24 * x1) + 2) 1999) fun m4 => bd1 (ldA S 0 m4 (rf S m4 x0 26) ((24 * x1) + 3)) fun a5 => bd1 (lp (fun s13 => bX8_leastSize_71 S x0 x1 x2 a5 s13.1 s13.2.1 s13.2.2) fu (1, 0, m4)) fun y14 => bd1 (ldA S 0 y14.2 (rf S y14.2 x0 26) ((24 * x1) + 3)) fun a15 => if ¬ a15 = a5 then (jX8_leastSize_167 S y14.2 x0 y14.1 0) else (jX8_leastSize_167 S y14.2 x0 y14.1 1)) else (jX8_leastSize_24 S m1 x0))))
set_option maxHeartbeats 1000000 in
theorem tX8_leastSize_24 {G : Gt} {l : Launch} {E : Ev} {S : List Sh} {mm : Mm} {x0 : Nat}  {r : Int32 × Mm} (C : Cx G E cX8_leastSize 8 RX8 (some .int) 4 91) (g0 : isC S x0 8) (h : jX8_leastSize_24 S mm x0 = some r) (hQ : RQ G E S (some (.int r.1)) r.2) : WM G l E S 24 [(0, .ref (E.2.2 x0))] [] mm := by
  unfold jX8_leastSize_24 at h
  refine x_iconst (v := (-1)) C (dq DX8_leastSize 13 rfl) (by decide) ?_
  cases h
  exact x_iret C (dq DX8_leastSize 14 rfl) hQ
set_option maxHeartbeats 1000000 in
theorem tX8_leastSize_87 {G : Gt} {l : Launch} {E : Ev} {S : List Sh} {mm : Mm} {x0 : Nat} {x1 : Int32} {x2 : Int32} {x3 : Int32} {x4 : Int32} {x5 : Int32} {x6 : Int32} {x7 : Int32} {r : (Int32 × Int32) ⊕ (Int32)} (C : Cx G E cX8_leastSize 8 RX8 (some .int) 4 91) (g0 : isC S x0 8) (h : bX8_leastSize_87 S mm x0 x1 x2 x3 x4 x5 x6 x7 = some r) (kb : ∀ z : Int32 × Int32, r = .inl z → WM G l E S 87 [(0, .ref (E.2.2 x0)), (1, .int x1), (2, .int x2), (3, .int x3), (4, .int x4), (5, .int x5), (6, .int z.1), (7, .int z.2)] [] mm) (kx : ∀ z : Int32, r = .inr z → WM G l E S 119 [(0, .ref (E.2.2 x0)), (1, .int x1), (2, .int x2), (3, .int x3), (4, .int x4), (5, .int x5), (6, .int z)] [] mm) : WM G l E S 87 [(0, .ref (E.2.2 x0)), (1, .int x1), (2, .int x2), (3, .int x3), (4, .int x4), (5, .int x5), (6, .int x6), (7, .int x7)] [] mm := by
  unfold bX8_leastSize_87 at h
  refine x_iload C (dq DX8_leastSize 53 rfl) 7 rfl ?_
  refine x_aload_n C (dq DX8_leastSize 54 rfl) rfl 0 rfl ?_
  refine callX8_251 C (dq DX8_leastSize 55 rfl) h (by decide) (by decide) (Nat.le_of_ble_eq_true rfl) (fun a7 h => ?_)
  refine x_icmp_ge (tgt := 119) C (dq DX8_leastSize 56 rfl) (by decide) h (fun h => ?_) (fun h => ?_)
  · cases h
    exact x_lv [0, 1, 2, 3, 4, 5, 6] rfl (kx (x6) rfl)
  · refine x_pc 96 rfl ?_
    refine x_iload C (dq DX8_leastSize 57 rfl) 6 rfl ?_
    refine x_aload_n C (dq DX8_leastSize 58 rfl) rfl 0 rfl ?_
    refine getX8_78 C (dq DX8_leastSize 59 rfl) g0 ?_
    refine x_bipush (v := 8) C (dq DX8_leastSize 60 rfl) (by decide) ?_
    refine x_iload_n C (dq DX8_leastSize 61 rfl) rfl 1 rfl ?_
    refine x_pc 105 rfl ?_
    refine x_imul C (dq DX8_leastSize 62 rfl) ?_
    refine x_iload C (dq DX8_leastSize 63 rfl) 7 rfl ?_
    refine x_iadd C (dq DX8_leastSize 64 rfl) ?_
    refine x_iald C (dq DX8_leastSize 65 rfl) h (fun a8 h => ?_)
    refine x_iadd C (dq DX8_leastSize 66 rfl) ?_
    refine x_pc 111 rfl ?_
    refine x_istore (lv' := [(6, .int (x6 + a8)), (0, .ref (E.2.2 x0)), (1, .int x1), (2, .int x2), (3, .int x3), (4, .int x4), (5, .int x5), (7, .int x7)]) C (dq DX8_leastSize 67 rfl) (by decide) rfl ?_
    refine x_iinc (v := x7 + 1) (lv' := [(7, .int (x7 + 1)), (6, .int (x6 + a8)), (0, .ref (E.2.2 x0)), (1, .int x1), (2, .int x2), (3, .int x3), (4, .int x4), (5, .int x5)]) C (dq DX8_leastSize 68 rfl) 7 rfl rfl (by decide) rfl ?_
    refine x_goto (tgt := 87) C (dq DX8_leastSize 69 rfl) (by decide) ?_
    cases h
    exact x_lv [2, 3, 4, 5, 6, 7, 1, 0] rfl (kb ((x6 + a8), x7 + 1) rfl)
set_option maxHeartbeats 1000000 in
theorem tX8_leastSize_141 {G : Gt} {l : Launch} {E : Ev} {S : List Sh} {mm : Mm} {x0 : Nat} {x1 : Int32} {x2 : Int32} {x3 : Int32} {x4 : Int32} {x5 : Int32}  {r : (Int32 × Int32 × Mm) ⊕ (Int32 × Mm)} (C : Cx G E cX8_leastSize 8 RX8 (some .int) 4 91) (g0 : isC S x0 8) (h : jX8_leastSize_141 S mm x0 x1 x2 x3 x4 x5 = some r) (kb : ∀ z : Int32 × Int32 × Mm, r = .inl z → WM G l E S 71 [(0, .ref (E.2.2 x0)), (1, .int x1), (2, .int x2), (3, .int x3), (4, .int z.1), (5, .int z.2.1)] [] z.2.2) (kx : ∀ z : Int32 × Mm, r = .inr z → WM G l E S 147 [(0, .ref (E.2.2 x0)), (1, .int x1), (2, .int x2), (3, .int x3), (4, .int z.1)] [] z.2) : WM G l E S 141 [(0, .ref (E.2.2 x0)), (1, .int x1), (2, .int x2), (3, .int x3), (4, .int x4), (5, .int x5)] [] mm := by
  unfold jX8_leastSize_141 at h
  refine x_iinc (v := x5 + 1) (lv' := [(5, .int (x5 + 1)), (0, .ref (E.2.2 x0)), (1, .int x1), (2, .int x2), (3, .int x3), (4, .int x4)]) C (dq DX8_leastSize 81 rfl) 5 rfl rfl (by decide) rfl ?_
  refine x_goto (tgt := 71) C (dq DX8_leastSize 82 rfl) (by decide) ?_
  cases h
  exact x_lv [1, 2, 3, 4, 5, 0] rfl (kb (x4, x5 + 1, mm) rfl)
set_option maxHeartbeats 1000000 in
theorem tX8_leastSize_71 {G : Gt} {l : Launch} {E : Ev} {S : List Sh} {x0 : Nat} {x1 : Int32} {x2 : Int32} {x3 : Int32} {x4 : Int32} {x5 : Int32} {mm : Mm} {r : (Int32 × Int32 × Mm) ⊕ (Int32 × Mm)} (C : Cx G E cX8_leastSize 8 RX8 (some .int) 4 91) (g0 : isC S x0 8) (h : bX8_leastSize_71 S x0 x1 x2 x3 x4 x5 mm = some r) (kb : ∀ z : Int32 × Int32 × Mm, r = .inl z → WM G l E S 71 [(0, .ref (E.2.2 x0)), (1, .int x1), (2, .int x2), (3, .int x3), (4, .int z.1), (5, .int z.2.1)] [] z.2.2) (kx : ∀ z : Int32 × Mm, r = .inr z → WM G l E S 147 [(0, .ref (E.2.2 x0)), (1, .int x1), (2, .int x2), (3, .int x3), (4, .int z.1)] [] z.2) : WM G l E S 71 [(0, .ref (E.2.2 x0)), (1, .int x1), (2, .int x2), (3, .int x3), (4, .int x4), (5, .int x5)] [] mm := by
  unfold bX8_leastSize_71 at h
  refine x_iload C (dq DX8_leastSize 44 rfl) 5 rfl ?_
  refine x_iload_n C (dq DX8_leastSize 45 rfl) rfl 2 rfl ?_
  refine x_icmp_ge (tgt := 147) C (dq DX8_leastSize 46 rfl) (by decide) h (fun h => ?_) (fun h => ?_)
  · cases h
    exact x_lv [0, 1, 2, 3, 4] rfl (kx (x4, mm) rfl)
  · refine x_aload_n C (dq DX8_leastSize 47 rfl) rfl 0 rfl ?_
    refine x_pc 78 rfl ?_
    refine callX8_313 C (dq DX8_leastSize 48 rfl) h (by decide) (by decide) (Nat.le_of_ble_eq_true rfl) (fun m6 h => ?_)
    refine x_iconst (v := 0) C (dq DX8_leastSize 49 rfl) (by decide) ?_
    refine x_istore (lv' := [(6, .int 0), (0, .ref (E.2.2 x0)), (1, .int x1), (2, .int x2), (3, .int x3), (4, .int x4), (5, .int x5)]) C (dq DX8_leastSize 50 rfl) (by decide) rfl ?_
    refine x_iconst (v := 0) C (dq DX8_leastSize 51 rfl) (by decide) ?_
    refine x_istore (lv' := [(7, .int 0), (6, .int 0), (0, .ref (E.2.2 x0)), (1, .int x1), (2, .int x2), (3, .int x3), (4, .int x4), (5, .int x5)]) C (dq DX8_leastSize 52 rfl) (by decide) rfl ?_
    refine x_lv [2, 3, 4, 5, 6, 7, 1, 0] rfl ?_
    refine x_loop (s0 := (0, 0)) (fun s9 => WM G l E S 87 [(0, .ref (E.2.2 x0)), (1, .int x1), (2, .int x2), (3, .int x3), (4, .int x4), (5, .int x5), (6, .int s9.1), (7, .int s9.2)] [] m6) h (fun s9 r hb kb kx => tX8_leastSize_87 C g0 hb kb (fun y10 hy => ?_))
    have h := kx y10 hy
    clear kx kb hb hy
    refine x_pc 119 rfl ?_
    refine x_iload C (dq DX8_leastSize 70 rfl) 6 rfl ?_
    refine x_if_le (tgt := 141) C (dq DX8_leastSize 71 rfl) (by decide) h (fun h => ?_) (fun h => ?_)
    · exact x_lv [0, 1, 2, 3, 4, 5] rfl (tX8_leastSize_141 C g0 h kb kx)
    · refine x_aload_n C (dq DX8_leastSize 72 rfl) rfl 0 rfl ?_
      refine x_iload_n C (dq DX8_leastSize 73 rfl) rfl 1 rfl ?_
      refine callX8_264 C (dq DX8_leastSize 74 rfl) h (by decide) (by decide) (Nat.le_of_ble_eq_true rfl) (fun a11 h => ?_)
      refine x_pc 129 rfl ?_
      refine x_iload C (dq DX8_leastSize 75 rfl) 4 rfl ?_
      refine x_icmp_le (tgt := 141) C (dq DX8_leastSize 76 rfl) (by decide) h (fun h => ?_) (fun h => ?_)
      · exact x_lv [0, 1, 2, 3, 4, 5] rfl (tX8_leastSize_141 C g0 h kb kx)
      · refine x_aload_n C (dq DX8_leastSize 77 rfl) rfl 0 rfl ?_
        refine x_iload_n C (dq DX8_leastSize 78 rfl) rfl 1 rfl ?_
        refine callX8_264 C (dq DX8_leastSize 79 rfl) h (by decide) (by decide) (Nat.le_of_ble_eq_true rfl) (fun a12 h => ?_)
        refine x_pc 139 rfl ?_
        refine x_istore (lv' := [(4, .int a12), (0, .ref (E.2.2 x0)), (1, .int x1), (2, .int x2), (3, .int x3), (5, .int x5), (6, .int y10)]) C (dq DX8_leastSize 80 rfl) (by decide) rfl ?_
        exact x_lv [1, 2, 3, 4, 0, 5] rfl (tX8_leastSize_141 C g0 h kb kx)
set_option maxHeartbeats 1000000 in
theorem tX8_leastSize_194 {G : Gt} {l : Launch} {E : Ev} {S : List Sh} {mm : Mm} {x0 : Nat} {p0 : Int32} {r : Int32 × Mm} (C : Cx G E cX8_leastSize 8 RX8 (some .int) 4 91) (g0 : isC S x0 8) (h : jX8_leastSize_194 S mm x0 p0 = some r) (hQ : RQ G E S (some (.int r.1)) r.2) : WM G l E S 194 [(0, .ref (E.2.2 x0))] [.int p0] mm := by
  unfold jX8_leastSize_194 at h
  cases h
  exact x_iret C (dq DX8_leastSize 109 rfl) hQ
set_option maxHeartbeats 1000000 in
theorem tX8_leastSize_167 {G : Gt} {l : Launch} {E : Ev} {S : List Sh} {mm : Mm} {x0 : Nat} {x4 : Int32} {p0 : Int32} {r : Int32 × Mm} (C : Cx G E cX8_leastSize 8 RX8 (some .int) 4 91) (g0 : isC S x0 8) (h : jX8_leastSize_167 S mm x0 x4 p0 = some r) (hQ : RQ G E S (some (.int r.1)) r.2) : WM G l E S 167 [(0, .ref (E.2.2 x0)), (4, .int x4)] [.int p0] mm := by
  unfold jX8_leastSize_167 at h
  refine x_istore (lv' := [(5, .int p0), (0, .ref (E.2.2 x0)), (4, .int x4)]) C (dq DX8_leastSize 96 rfl) (by decide) rfl ?_
  refine x_aload_n C (dq DX8_leastSize 97 rfl) rfl 1 rfl ?_
  refine getX8_60 C (dq DX8_leastSize 98 rfl) g0 ?_
  refine x_iconst (v := 0) C (dq DX8_leastSize 99 rfl) (by decide) ?_
  refine x_pc 174 rfl ?_
  refine x_aload_n C (dq DX8_leastSize 100 rfl) rfl 1 rfl ?_
  refine getX8_57 C (dq DX8_leastSize 101 rfl) g0 ?_
  refine x_iconst (v := 0) C (dq DX8_leastSize 102 rfl) (by decide) ?_
  refine callX8_254 C (dq DX8_leastSize 103 rfl) h (by decide) (by decide) (Nat.le_of_ble_eq_true rfl) (fun m16 h => ?_)
  refine x_iload C (dq DX8_leastSize 104 rfl) 0 rfl ?_
  refine x_pc 184 rfl ?_
  refine x_if_eq (tgt := 192) C (dq DX8_leastSize 105 rfl) (by decide) h (fun h => ?_) (fun h => ?_)
  · refine x_bipush (v := (-2)) C (dq DX8_leastSize 108 rfl) (by decide) ?_
    exact x_lv [1] rfl (tX8_leastSize_194 C g0 h hQ)
  · refine x_iload C (dq DX8_leastSize 106 rfl) 2 rfl ?_
    refine x_goto (tgt := 194) C (dq DX8_leastSize 107 rfl) (by decide) ?_
    exact x_lv [1] rfl (tX8_leastSize_194 C g0 h hQ)
set_option maxHeartbeats 1000000 in
theorem mX8_leastSize {l : Launch} {E : Ev} {S : List Sh} {mm : Mm} {x0 : Nat} {x1 : Int32} {x2 : Int32} {r : Int32 × Mm} (h : fX8_leastSize S mm x0 x1 x2 = some r) : Ml l E S yX8_leastSize cX8_leastSize 8 (some .int) 4 91 [.ref (E.2.2 x0), .int x1, .int x2] mm (some (.int r.1)) r.2 := by
  refine Ml.of (by decide +kernel) (Nat.le_of_ble_eq_true rfl) (fun G C hQ => ?_)
  have C : Cx G E cX8_leastSize 8 RX8 (some .int) 4 91 := C
  unfold fX8_leastSize at h
  obtain ⟨g0, h⟩ := gd_some h
  show WM G l E S 0 [(0, .ref (E.2.2 x0)), (1, .int x1), (2, .int x2)] [] mm
  refine x_aload_n C (dq DX8_leastSize 0 rfl) rfl 0 rfl ?_
  refine x_iconst (v := 0) C (dq DX8_leastSize 1 rfl) (by decide) ?_
  refine putX8_115 C (dq DX8_leastSize 2 rfl) g0 h (fun m1 h => ?_)
  refine x_aload_n C (dq DX8_leastSize 3 rfl) rfl 0 rfl ?_
  refine x_pc 6 rfl ?_
  refine x_iload_n C (dq DX8_leastSize 4 rfl) rfl 1 rfl ?_
  refine callX8_319 C (dq DX8_leastSize 5 rfl) h (by decide) (by decide) (Nat.le_of_ble_eq_true rfl) (fun a2 h => ?_)
  refine x_if_eq (tgt := 24) C (dq DX8_leastSize 6 rfl) (by decide) h (fun h => ?_) (fun h => ?_)
  · exact x_lv [0] rfl (tX8_leastSize_24 C g0 h hQ)
  · refine x_iload_n C (dq DX8_leastSize 7 rfl) rfl 2 rfl ?_
    refine x_iconst (v := 1) C (dq DX8_leastSize 8 rfl) (by decide) ?_
    refine x_pc 15 rfl ?_
    refine x_icmp_lt (tgt := 24) C (dq DX8_leastSize 9 rfl) (by decide) h (fun h => ?_) (fun h => ?_)
    · exact x_lv [0] rfl (tX8_leastSize_24 C g0 h hQ)
    · refine x_iload_n C (dq DX8_leastSize 10 rfl) rfl 2 rfl ?_
      refine x_bipush (v := 100) C (dq DX8_leastSize 11 rfl) (by decide) ?_
      refine x_icmp_le (tgt := 26) C (dq DX8_leastSize 12 rfl) (by decide) h (fun h => ?_) (fun h => ?_)
      · refine x_aload_n C (dq DX8_leastSize 15 rfl) rfl 0 rfl ?_
        refine x_pc 27 rfl ?_
        refine getX8_57 C (dq DX8_leastSize 16 rfl) g0 ?_
        refine x_iconst (v := 0) C (dq DX8_leastSize 17 rfl) (by decide) ?_
        refine x_aload_n C (dq DX8_leastSize 18 rfl) rfl 0 rfl ?_
        refine getX8_60 C (dq DX8_leastSize 19 rfl) g0 ?_
        refine x_iconst (v := 0) C (dq DX8_leastSize 20 rfl) (by decide) ?_
        refine x_pc 36 rfl ?_
        refine callX8_254 C (dq DX8_leastSize 21 rfl) h (by decide) (by decide) (Nat.le_of_ble_eq_true rfl) (fun m3 h => ?_)
        refine x_aload_n C (dq DX8_leastSize 22 rfl) rfl 0 rfl ?_
        refine getX8_57 C (dq DX8_leastSize 23 rfl) g0 ?_
        refine x_bipush (v := 24) C (dq DX8_leastSize 24 rfl) (by decide) ?_
        refine x_iload_n C (dq DX8_leastSize 25 rfl) rfl 1 rfl ?_
        refine x_pc 46 rfl ?_
        refine x_imul C (dq DX8_leastSize 26 rfl) ?_
        refine x_iconst (v := 2) C (dq DX8_leastSize 27 rfl) (by decide) ?_
        refine x_iadd C (dq DX8_leastSize 28 rfl) ?_
        refine x_sipush (v := 1999) C (dq DX8_leastSize 29 rfl) (by decide) ?_
        refine x_iast C (dq DX8_leastSize 30 rfl) h (fun m4 h => ?_)
        refine x_pc 53 rfl ?_
        refine x_aload_n C (dq DX8_leastSize 31 rfl) rfl 0 rfl ?_
        refine getX8_57 C (dq DX8_leastSize 32 rfl) g0 ?_
        refine x_bipush (v := 24) C (dq DX8_leastSize 33 rfl) (by decide) ?_
        refine x_iload_n C (dq DX8_leastSize 34 rfl) rfl 1 rfl ?_
        refine x_imul C (dq DX8_leastSize 35 rfl) ?_
        refine x_pc 61 rfl ?_
        refine x_iconst (v := 3) C (dq DX8_leastSize 36 rfl) (by decide) ?_
        refine x_iadd C (dq DX8_leastSize 37 rfl) ?_
        refine x_iald C (dq DX8_leastSize 38 rfl) h (fun a5 h => ?_)
        refine x_istore_n (lv' := [(3, .int a5), (0, .ref (E.2.2 x0)), (1, .int x1), (2, .int x2)]) C (dq DX8_leastSize 39 rfl) rfl (by decide) rfl ?_
        refine x_iconst (v := 1) C (dq DX8_leastSize 40 rfl) (by decide) ?_
        refine x_pc 66 rfl ?_
        refine x_istore (lv' := [(4, .int 1), (3, .int a5), (0, .ref (E.2.2 x0)), (1, .int x1), (2, .int x2)]) C (dq DX8_leastSize 41 rfl) (by decide) rfl ?_
        refine x_iconst (v := 0) C (dq DX8_leastSize 42 rfl) (by decide) ?_
        refine x_istore (lv' := [(5, .int 0), (4, .int 1), (3, .int a5), (0, .ref (E.2.2 x0)), (1, .int x1), (2, .int x2)]) C (dq DX8_leastSize 43 rfl) (by decide) rfl ?_
        refine x_lv [3, 4, 5, 2, 1, 0] rfl ?_
        refine x_loop (s0 := (1, 0, m4)) (fun s13 => WM G l E S 71 [(0, .ref (E.2.2 x0)), (1, .int x1), (2, .int x2), (3, .int a5), (4, .int s13.1), (5, .int s13.2.1)] [] s13.2.2) h (fun s13 r hb kb kx => tX8_leastSize_71 C g0 hb kb (fun y14 hy => ?_))
        have h := kx y14 hy
        clear kx kb hb hy
        refine x_aload_n C (dq DX8_leastSize 83 rfl) rfl 0 rfl ?_
        refine getX8_57 C (dq DX8_leastSize 84 rfl) g0 ?_
        refine x_pc 151 rfl ?_
        refine x_bipush (v := 24) C (dq DX8_leastSize 85 rfl) (by decide) ?_
        refine x_iload_n C (dq DX8_leastSize 86 rfl) rfl 1 rfl ?_
        refine x_imul C (dq DX8_leastSize 87 rfl) ?_
        refine x_iconst (v := 3) C (dq DX8_leastSize 88 rfl) (by decide) ?_
        refine x_iadd C (dq DX8_leastSize 89 rfl) ?_
        refine x_pc 157 rfl ?_
        refine x_iald C (dq DX8_leastSize 90 rfl) h (fun a15 h => ?_)
        refine x_iload_n C (dq DX8_leastSize 91 rfl) rfl 3 rfl ?_
        refine x_icmp_ne (tgt := 166) C (dq DX8_leastSize 92 rfl) (by decide) h (fun h => ?_) (fun h => ?_)
        · refine x_iconst (v := 0) C (dq DX8_leastSize 95 rfl) (by decide) ?_
          exact x_lv [0, 4] rfl (tX8_leastSize_167 C g0 h hQ)
        · refine x_iconst (v := 1) C (dq DX8_leastSize 93 rfl) (by decide) ?_
          refine x_goto (tgt := 167) C (dq DX8_leastSize 94 rfl) (by decide) ?_
          exact x_lv [0, 4] rfl (tX8_leastSize_167 C g0 h hQ)
      · exact x_lv [0] rfl (tX8_leastSize_24 C g0 h hQ)
set_option maxHeartbeats 1000000 in
theorem qX8_leastSize {S : List Sh} {mm : Mm} {x0 : Nat} {x1 : Int32} {x2 : Int32} {r : Int32 × Mm} (h : fX8_leastSize S mm x0 x1 x2 = some r) : isC S x0 8 := by
  unfold fX8_leastSize at h
  exact (gd_some h).1
theorem getX8_391 {G : Gt} {l : Launch} {E : Ev} {S : List Sh} {cc : ByteArray} {nL : Nat} {rt : Option FieldType} {fr lo : Nat} {pc : Nat} {lv : List (Nat × Value)} {st : List Value} {mm : Mm} {o : Nat} (C : Cx G E cc nL RX8 rt fr lo) (d : decode cc pc = .ok (.getfield 391, 3)) (hg : isC S o 8) (k : WM G l E S (pc + 3) lv (.int (mm.1 o 48) :: st) mm) : WM G l E S pc lv (.ref (E.2.2 o) :: st) mm := x_get0 C hg (T := TX8) (N := 49) rfl inX8 (by decide) (i := 48) (gmem 913 (by decide +kernel) rfl) rfl rfl d k
theorem putX8_391 {G : Gt} {l : Launch} {E : Ev} {S : List Sh} {cc : ByteArray} {nL : Nat} {rt : Option FieldType} {fr lo : Nat} {pc : Nat} {lv : List (Nat × Value)} {st : List Value} {mm : Mm} {o : Nat} {α : Type} {f : Mm → Option α} {r : α} {x : Int32} (C : Cx G E cc nL RX8 rt fr lo) (d : decode cc pc = .ok (.putfield 391, 3)) (hg : isC S o 8) (h : bd1 (some (u1 mm o 48 x)) f = some r) (k : ∀ m1, f m1 = some r → WM G l E S (pc + 3) lv st m1) : WM G l E S pc lv (.int x :: .ref (E.2.2 o) :: st) mm := x_putI C hg (T := TX8) (N := 49) rfl inX8 (by decide) (i := 48) (gmem 913 (by decide +kernel) rfl) rfl tyX8 tyX8_ok nmX8 rfl rfl (by decide) (by decide +kernel) d (k _ h)
abbrev eX8_draw : List (Nat × Instr × Nat) := [(0, .aload_n 0, 1), (1, .aload_n 0, 1), (2, .getfield 391, 3), (5, .ldc_w 394, 3), (8, .imul, 1), (9, .sipush 12345, 3), (12, .iadd, 1), (13, .ldc_w 395, 3), (16, .iand, 1), (17, .putfield 391, 3), (20, .aload_n 0, 1), (21, .getfield 391, 3), (24, .bipush 16, 2), (26, .ishr, 1), (27, .iload_n 1, 1), (28, .irem, 1), (29, .ireturn, 1)]
theorem DX8_draw : (eX8_draw.all fun q => decide (decode cX8_draw q.1 = .ok q.2)) = true := by decide +kernel
def fX8_draw (S : List Sh) (mm : Mm) (x0 : Nat) (x1 : Int32) : Option (Int32 × Mm) := gd S x0 8 (bd1 (some (u1 mm x0 48 ((((mm.1 x0 48) * 1103515245) + 12345) &&& 2147483647))) fun m1 => bd1 (rmI ((m1.1 x0 48) >>> (16 &&& 31)) x1) fun a2 => some (a2, m1))
set_option maxHeartbeats 1000000 in
theorem mX8_draw {l : Launch} {E : Ev} {S : List Sh} {mm : Mm} {x0 : Nat} {x1 : Int32} {r : Int32 × Mm} (h : fX8_draw S mm x0 x1 = some r) : Ml l E S yX8_draw cX8_draw 2 (some .int) 0 0 [.ref (E.2.2 x0), .int x1] mm (some (.int r.1)) r.2 := by
  refine Ml.of (by decide +kernel) (Nat.le_of_ble_eq_true rfl) (fun G C hQ => ?_)
  have C : Cx G E cX8_draw 2 RX8 (some .int) 0 0 := C
  unfold fX8_draw at h
  obtain ⟨g0, h⟩ := gd_some h
  show WM G l E S 0 [(0, .ref (E.2.2 x0)), (1, .int x1)] [] mm
  refine x_aload_n C (dq DX8_draw 0 rfl) rfl 0 rfl ?_
  refine x_aload_n C (dq DX8_draw 1 rfl) rfl 0 rfl ?_
  refine getX8_391 C (dq DX8_draw 2 rfl) g0 ?_
  refine x_ldc_w (v := 1103515245) C (dq DX8_draw 3 rfl) (gmem 1446 (by decide +kernel) rfl) ?_
  refine x_pc 8 rfl ?_
  refine x_imul C (dq DX8_draw 4 rfl) ?_
  refine x_sipush (v := 12345) C (dq DX8_draw 5 rfl) (by decide) ?_
  refine x_iadd C (dq DX8_draw 6 rfl) ?_
  refine x_ldc_w (v := 2147483647) C (dq DX8_draw 7 rfl) (gmem 1447 (by decide +kernel) rfl) ?_
  refine x_iand C (dq DX8_draw 8 rfl) ?_
  refine x_pc 17 rfl ?_
  refine putX8_391 C (dq DX8_draw 9 rfl) g0 h (fun m1 h => ?_)
  refine x_aload_n C (dq DX8_draw 10 rfl) rfl 0 rfl ?_
  refine getX8_391 C (dq DX8_draw 11 rfl) g0 ?_
  refine x_bipush (v := 16) C (dq DX8_draw 12 rfl) (by decide) ?_
  refine x_ishr C (dq DX8_draw 13 rfl) ?_
  refine x_pc 27 rfl ?_
  refine x_iload_n C (dq DX8_draw 14 rfl) rfl 1 rfl ?_
  refine x_irem C (dq DX8_draw 15 rfl) h (fun a2 h => ?_)
  cases h
  exact x_iret C (dq DX8_draw 16 rfl) hQ
set_option maxHeartbeats 1000000 in
theorem qX8_draw {S : List Sh} {mm : Mm} {x0 : Nat} {x1 : Int32} {r : Int32 × Mm} (h : fX8_draw S mm x0 x1 = some r) : isC S x0 8 := by
  unfold fX8_draw at h
  exact (gd_some h).1
