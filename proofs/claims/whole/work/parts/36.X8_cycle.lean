theorem callX8_349 {G : Gt} {l : Launch} {E : Ev} {S : List Sh} {cc : ByteArray} {nL : Nat} {rt : Option FieldType} {fr lo : Nat} {pc : Nat} {lv : List (Nat × Value)} {rest : List Value} {mm : Mm} {α : Type} {f : Mm → Option α} {r : α} {o : Nat} (C : Cx G E cc nL RX8 rt fr lo) (d : decode cc pc = .ok (.invokevirtual 349, 3)) (h : bd1 (fX8_laysCycle S mm o) f = some r) (hfr : 5 ≤ fr) (hlo : 118 ≤ lo) (hrs : (rest.map fun v => v.category).sum ≤ 8) (k : ∀ m1, f m1 = some r → WM G l E S (pc + 3) lv rest m1) : WM G l E S pc lv (.ref (E.2.2 o) :: rest) mm := by
  obtain ⟨m1, hv, hf⟩ := bd1_some h
  exact x_callV (n := 0) (As := []) (rest := rest) C (mX8_laysCycle hv) (qX8_laysCycle hv) (T := TX8) (N := 49) rfl (gmem 1359 (by decide +kernel) rfl) (gmem 1361 (by decide +kernel) rfl) (gmemS 89 (by decide +kernel) rfl) (gmem 9 (by decide +kernel) rfl) (gmem 1362 (by decide +kernel) rfl) (by decide +kernel) rfl hfr hlo hrs d rfl rfl (k m1 hf)
abbrev eX8_cycle : List (Nat × Instr × Nat) := [(0, .aload_n 0, 1), (1, .iconst 0, 1), (2, .putfield 115, 3), (5, .iload_n 1, 1), (6, .ifCond .ge 5, 3), (9, .iconst (-1), 1), (10, .ireturn, 1), (11, .aload_n 0, 1), (12, .invokevirtual 349, 3), (15, .iload_n 1, 1), (16, .aload_n 0, 1), (17, .getfield 346, 3), (20, .if_icmp .ge 12, 3), (23, .aload_n 0, 1), (24, .getfield 93, 3), (27, .iload_n 1, 1), (28, .iaload, 1), (29, .goto 5, 3), (32, .bipush (-2), 2), (34, .ireturn, 1)]
theorem DX8_cycle : (eX8_cycle.all fun q => decide (decode cX8_cycle q.1 = .ok q.2)) = true := by decide +kernel
def jX8_cycle_34 (S : List Sh) (mm : Mm) (x0 : Nat) (p0 : Int32) : Option (Int32 × Mm) := some (p0, mm)
def fX8_cycle (S : List Sh) (mm : Mm) (x0 : Nat) (x1 : Int32) : Option (Int32 × Mm) := gd S x0 8 (bd1 (some (u1 mm x0 0 0)) fun m1 => if 0 ≤ x1 then (bd1 (fX8_laysCycle S m1 x0) fun m2 => if (m2.1 x0 42) ≤ x1 then (jX8_cycle_34 S m2 x0 (-2)) else (bd1 (ldA S 0 m2 (rf S m2 x0 41) x1) fun a3 => jX8_cycle_34 S m2 x0 a3)) else (some ((-1), m1)))
set_option maxHeartbeats 1000000 in
theorem tX8_cycle_34 {G : Gt} {l : Launch} {E : Ev} {S : List Sh} {mm : Mm} {x0 : Nat} {p0 : Int32} {r : Int32 × Mm} (C : Cx G E cX8_cycle 2 RX8 (some .int) 5 118) (g0 : isC S x0 8) (h : jX8_cycle_34 S mm x0 p0 = some r) (hQ : RQ G E S (some (.int r.1)) r.2) : WM G l E S 34 [(0, .ref (E.2.2 x0))] [.int p0] mm := by
  unfold jX8_cycle_34 at h
  cases h
  exact x_iret C (dq DX8_cycle 19 rfl) hQ
set_option maxHeartbeats 1000000 in
theorem mX8_cycle {l : Launch} {E : Ev} {S : List Sh} {mm : Mm} {x0 : Nat} {x1 : Int32} {r : Int32 × Mm} (h : fX8_cycle S mm x0 x1 = some r) : Ml l E S yX8_cycle cX8_cycle 2 (some .int) 5 118 [.ref (E.2.2 x0), .int x1] mm (some (.int r.1)) r.2 := by
  refine Ml.of (by decide +kernel) (Nat.le_of_ble_eq_true rfl) (fun G C hQ => ?_)
  have C : Cx G E cX8_cycle 2 RX8 (some .int) 5 118 := C
  unfold fX8_cycle at h
  obtain ⟨g0, h⟩ := gd_some h
  show WM G l E S 0 [(0, .ref (E.2.2 x0)), (1, .int x1)] [] mm
  refine x_aload_n C (dq DX8_cycle 0 rfl) rfl 0 rfl ?_
  refine x_iconst (v := 0) C (dq DX8_cycle 1 rfl) (by decide) ?_
  refine putX8_115 C (dq DX8_cycle 2 rfl) g0 h (fun m1 h => ?_)
  refine x_iload_n C (dq DX8_cycle 3 rfl) rfl 1 rfl ?_
  refine x_pc 6 rfl ?_
  refine x_if_ge (tgt := 11) C (dq DX8_cycle 4 rfl) (by decide) h (fun h => ?_) (fun h => ?_)
  · refine x_aload_n C (dq DX8_cycle 7 rfl) rfl 0 rfl ?_
    refine callX8_349 C (dq DX8_cycle 8 rfl) h (by decide) (by decide) (Nat.le_of_ble_eq_true rfl) (fun m2 h => ?_)
    refine x_iload_n C (dq DX8_cycle 9 rfl) rfl 1 rfl ?_
    refine x_aload_n C (dq DX8_cycle 10 rfl) rfl 0 rfl ?_
    refine x_pc 17 rfl ?_
    refine getX8_346 C (dq DX8_cycle 11 rfl) g0 ?_
    refine x_icmp_ge (tgt := 32) C (dq DX8_cycle 12 rfl) (by decide) h (fun h => ?_) (fun h => ?_)
    · refine x_bipush (v := (-2)) C (dq DX8_cycle 18 rfl) (by decide) ?_
      exact x_lv [0] rfl (tX8_cycle_34 C g0 h hQ)
    · refine x_aload_n C (dq DX8_cycle 13 rfl) rfl 0 rfl ?_
      refine getX8_93 C (dq DX8_cycle 14 rfl) g0 ?_
      refine x_iload_n C (dq DX8_cycle 15 rfl) rfl 1 rfl ?_
      refine x_pc 28 rfl ?_
      refine x_iald C (dq DX8_cycle 16 rfl) h (fun a3 h => ?_)
      refine x_goto (tgt := 34) C (dq DX8_cycle 17 rfl) (by decide) ?_
      exact x_lv [0] rfl (tX8_cycle_34 C g0 h hQ)
  · refine x_iconst (v := (-1)) C (dq DX8_cycle 5 rfl) (by decide) ?_
    cases h
    exact x_iret C (dq DX8_cycle 6 rfl) hQ
set_option maxHeartbeats 1000000 in
theorem qX8_cycle {S : List Sh} {mm : Mm} {x0 : Nat} {x1 : Int32} {r : Int32 × Mm} (h : fX8_cycle S mm x0 x1 = some r) : isC S x0 8 := by
  unfold fX8_cycle at h
  exact (gd_some h).1
abbrev eX8_witness : List (Nat × Instr × Nat) := [(0, .aload_n 0, 1), (1, .iconst 0, 1), (2, .putfield 115, 3), (5, .iload_n 1, 1), (6, .ifCond .ge 5, 3), (9, .iconst (-1), 1), (10, .ireturn, 1), (11, .aload_n 0, 1), (12, .invokevirtual 349, 3), (15, .iload_n 1, 1), (16, .aload_n 0, 1), (17, .getfield 346, 3), (20, .if_icmp .lt 6, 3), (23, .bipush (-2), 2), (25, .ireturn, 1), (26, .aload_n 0, 1), (27, .getfield 93, 3), (30, .iload_n 1, 1), (31, .iconst 1, 1), (32, .iadd, 1), (33, .aload_n 0, 1), (34, .getfield 346, 3), (37, .irem, 1), (38, .iaload, 1), (39, .istore_n 2, 1), (40, .iconst 0, 1), (41, .istore_n 3, 1), (42, .aload_n 0, 1), (43, .aload_n 0, 1), (44, .getfield 93, 3), (47, .iload_n 1, 1), (48, .iaload, 1), (49, .iload_n 3, 1), (50, .iload_n 2, 1), (51, .invokevirtual 332, 3), (54, .ifCond .ne 9, 3), (57, .iinc 3 1, 3), (60, .goto (-18), 3), (63, .iload_n 3, 1), (64, .ireturn, 1)]
theorem DX8_witness : (eX8_witness.all fun q => decide (decode cX8_witness q.1 = .ok q.2)) = true := by decide +kernel
def bX8_witness_42 (S : List Sh) (mm : Mm) (x0 : Nat) (x1 : Int32) (x2 : Int32) (x3 : Int32) : Option ((Int32) ⊕ (Int32)) := bd1 (ldA S 0 mm (rf S mm x0 41) x1) fun a5 => bd1 (fX8_isWaiting S mm x0 a5 x3 x2) fun a6 => if ¬ a6 = 0 then (some (.inr (x3))) else (some (.inl (x3 + 1)))
def fX8_witness (S : List Sh) (mm : Mm) (x0 : Nat) (x1 : Int32) : Option (Int32 × Mm) := gd S x0 8 (bd1 (some (u1 mm x0 0 0)) fun m1 => if 0 ≤ x1 then (bd1 (fX8_laysCycle S m1 x0) fun m2 => if x1 < (m2.1 x0 42) then (bd1 (rmI (x1 + 1) (m2.1 x0 42)) fun a3 => bd1 (ldA S 0 m2 (rf S m2 x0 41) a3) fun a4 => bd1 (lp (fun s7 => bX8_witness_42 S m2 x0 x1 a4 s7) fu 0) fun y8 => some (y8, m2)) else (some ((-2), m2))) else (some ((-1), m1)))
set_option maxHeartbeats 1000000 in
theorem tX8_witness_42 {G : Gt} {l : Launch} {E : Ev} {S : List Sh} {mm : Mm} {x0 : Nat} {x1 : Int32} {x2 : Int32} {x3 : Int32} {r : (Int32) ⊕ (Int32)} (C : Cx G E cX8_witness 4 RX8 (some .int) 5 118) (g0 : isC S x0 8) (h : bX8_witness_42 S mm x0 x1 x2 x3 = some r) (kb : ∀ z : Int32, r = .inl z → WM G l E S 42 [(0, .ref (E.2.2 x0)), (1, .int x1), (2, .int x2), (3, .int z)] [] mm) (kx : ∀ z : Int32, r = .inr z → WM G l E S 63 [(0, .ref (E.2.2 x0)), (1, .int x1), (2, .int x2), (3, .int z)] [] mm) : WM G l E S 42 [(0, .ref (E.2.2 x0)), (1, .int x1), (2, .int x2), (3, .int x3)] [] mm := by
  unfold bX8_witness_42 at h
  refine x_aload_n C (dq DX8_witness 27 rfl) rfl 0 rfl ?_
  refine x_aload_n C (dq DX8_witness 28 rfl) rfl 0 rfl ?_
  refine getX8_93 C (dq DX8_witness 29 rfl) g0 ?_
  refine x_iload_n C (dq DX8_witness 30 rfl) rfl 1 rfl ?_
  refine x_pc 48 rfl ?_
  refine x_iald C (dq DX8_witness 31 rfl) h (fun a5 h => ?_)
  refine x_iload_n C (dq DX8_witness 32 rfl) rfl 3 rfl ?_
  refine x_iload_n C (dq DX8_witness 33 rfl) rfl 2 rfl ?_
  refine callX8_332 C (dq DX8_witness 34 rfl) h (by decide) (by decide) (Nat.le_of_ble_eq_true rfl) (fun a6 h => ?_)
  refine x_if_ne (tgt := 63) C (dq DX8_witness 35 rfl) (by decide) h (fun h => ?_) (fun h => ?_)
  · cases h
    exact x_lv [0, 1, 2, 3] rfl (kx (x3) rfl)
  · refine x_pc 57 rfl ?_
    refine x_iinc (v := x3 + 1) (lv' := [(3, .int (x3 + 1)), (0, .ref (E.2.2 x0)), (1, .int x1), (2, .int x2)]) C (dq DX8_witness 36 rfl) 3 rfl rfl (by decide) rfl ?_
    refine x_goto (tgt := 42) C (dq DX8_witness 37 rfl) (by decide) ?_
    cases h
    exact x_lv [1, 2, 3, 0] rfl (kb (x3 + 1) rfl)
set_option maxHeartbeats 1000000 in
theorem mX8_witness {l : Launch} {E : Ev} {S : List Sh} {mm : Mm} {x0 : Nat} {x1 : Int32} {r : Int32 × Mm} (h : fX8_witness S mm x0 x1 = some r) : Ml l E S yX8_witness cX8_witness 4 (some .int) 5 118 [.ref (E.2.2 x0), .int x1] mm (some (.int r.1)) r.2 := by
  refine Ml.of (by decide +kernel) (Nat.le_of_ble_eq_true rfl) (fun G C hQ => ?_)
  have C : Cx G E cX8_witness 4 RX8 (some .int) 5 118 := C
  unfold fX8_witness at h
  obtain ⟨g0, h⟩ := gd_some h
  show WM G l E S 0 [(0, .ref (E.2.2 x0)), (1, .int x1)] [] mm
  refine x_aload_n C (dq DX8_witness 0 rfl) rfl 0 rfl ?_
  refine x_iconst (v := 0) C (dq DX8_witness 1 rfl) (by decide) ?_
  refine putX8_115 C (dq DX8_witness 2 rfl) g0 h (fun m1 h => ?_)
  refine x_iload_n C (dq DX8_witness 3 rfl) rfl 1 rfl ?_
  refine x_pc 6 rfl ?_
  refine x_if_ge (tgt := 11) C (dq DX8_witness 4 rfl) (by decide) h (fun h => ?_) (fun h => ?_)
  · refine x_aload_n C (dq DX8_witness 7 rfl) rfl 0 rfl ?_
    refine callX8_349 C (dq DX8_witness 8 rfl) h (by decide) (by decide) (Nat.le_of_ble_eq_true rfl) (fun m2 h => ?_)
    refine x_iload_n C (dq DX8_witness 9 rfl) rfl 1 rfl ?_
    refine x_aload_n C (dq DX8_witness 10 rfl) rfl 0 rfl ?_
    refine x_pc 17 rfl ?_
    refine getX8_346 C (dq DX8_witness 11 rfl) g0 ?_
    refine x_icmp_lt (tgt := 26) C (dq DX8_witness 12 rfl) (by decide) h (fun h => ?_) (fun h => ?_)
    · refine x_aload_n C (dq DX8_witness 15 rfl) rfl 0 rfl ?_
      refine getX8_93 C (dq DX8_witness 16 rfl) g0 ?_
      refine x_iload_n C (dq DX8_witness 17 rfl) rfl 1 rfl ?_
      refine x_pc 31 rfl ?_
      refine x_iconst (v := 1) C (dq DX8_witness 18 rfl) (by decide) ?_
      refine x_iadd C (dq DX8_witness 19 rfl) ?_
      refine x_aload_n C (dq DX8_witness 20 rfl) rfl 0 rfl ?_
      refine getX8_346 C (dq DX8_witness 21 rfl) g0 ?_
      refine x_irem C (dq DX8_witness 22 rfl) h (fun a3 h => ?_)
      refine x_pc 38 rfl ?_
      refine x_iald C (dq DX8_witness 23 rfl) h (fun a4 h => ?_)
      refine x_istore_n (lv' := [(2, .int a4), (0, .ref (E.2.2 x0)), (1, .int x1)]) C (dq DX8_witness 24 rfl) rfl (by decide) rfl ?_
      refine x_iconst (v := 0) C (dq DX8_witness 25 rfl) (by decide) ?_
      refine x_istore_n (lv' := [(3, .int 0), (2, .int a4), (0, .ref (E.2.2 x0)), (1, .int x1)]) C (dq DX8_witness 26 rfl) rfl (by decide) rfl ?_
      refine x_lv [2, 3, 1, 0] rfl ?_
      refine x_loop (s0 := 0) (fun s7 => WM G l E S 42 [(0, .ref (E.2.2 x0)), (1, .int x1), (2, .int a4), (3, .int s7)] [] m2) h (fun s7 r hb kb kx => tX8_witness_42 C g0 hb kb (fun y8 hy => ?_))
      have h := kx y8 hy
      clear kx kb hb hy
      refine x_iload_n C (dq DX8_witness 38 rfl) rfl 3 rfl ?_
      refine x_pc 64 rfl ?_
      cases h
      exact x_iret C (dq DX8_witness 39 rfl) hQ
    · refine x_bipush (v := (-2)) C (dq DX8_witness 13 rfl) (by decide) ?_
      cases h
      exact x_iret C (dq DX8_witness 14 rfl) hQ
  · refine x_iconst (v := (-1)) C (dq DX8_witness 5 rfl) (by decide) ?_
    cases h
    exact x_iret C (dq DX8_witness 6 rfl) hQ
set_option maxHeartbeats 1000000 in
theorem qX8_witness {S : List Sh} {mm : Mm} {x0 : Nat} {x1 : Int32} {r : Int32 × Mm} (h : fX8_witness S mm x0 x1 = some r) : isC S x0 8 := by
  unfold fX8_witness at h
  exact (gd_some h).1
abbrev eX8_divisor : List (Nat × Instr × Nat) := [(0, .lload_n 0, 1), (1, .lconst 0, 1), (2, .lcmp, 1), (3, .ifCond .ge 8, 3), (6, .lload_n 0, 1), (7, .lneg, 1), (8, .goto 4, 3), (11, .lload_n 0, 1), (12, .lstore 4, 2), (14, .lload_n 2, 1), (15, .lstore 6, 2), (17, .lload 6, 2), (19, .lconst 0, 1), (20, .lcmp, 1), (21, .ifCond .eq 21, 3), (24, .lload 4, 2), (26, .lload 6, 2), (28, .lrem, 1), (29, .lstore 8, 2), (31, .lload 6, 2), (33, .lstore 4, 2), (35, .lload 8, 2), (37, .lstore 6, 2), (39, .goto (-22), 3), (42, .lload 4, 2), (44, .lreturn, 1)]
theorem DX8_divisor : (eX8_divisor.all fun q => decide (decode cX8_divisor q.1 = .ok q.2)) = true := by decide +kernel
def bX8_divisor_17 (S : List Sh) (mm : Mm)  (x4 : Int64) (x6 : Int64) : Option ((Int64 × Int64) ⊕ (Int64)) := if (lg_cmp x6 0) = 0 then (some (.inr (x4))) else (bd1 (rmL x4 x6) fun a1 => some (.inl (x6, a1)))
def jX8_divisor_12 (S : List Sh) (mm : Mm) (x2 : Int64) (p0 : Int64) : Option (Int64) := bd1 (lp (fun s2 => bX8_divisor_17 S mm s2.1 s2.2) fu (p0, x2)) fun y3 => some y3
def fX8_divisor (S : List Sh) (mm : Mm) (x0 : Int64) (x2 : Int64) : Option (Int64) := if 0 ≤ (lg_cmp x0 0) then (jX8_divisor_12 S mm x2 x0) else (jX8_divisor_12 S mm x2 (-x0))
set_option maxHeartbeats 1000000 in
theorem tX8_divisor_17 {G : Gt} {l : Launch} {E : Ev} {S : List Sh} {mm : Mm}  {x4 : Int64} {x6 : Int64} {r : (Int64 × Int64) ⊕ (Int64)} (C : Cx G E cX8_divisor 10 RX8 (some .long) 0 0)  (h : bX8_divisor_17 S mm x4 x6 = some r) (kb : ∀ z : Int64 × Int64, r = .inl z → WM G l E S 17 [(4, .long z.1), (6, .long z.2)] [] mm) (kx : ∀ z : Int64, r = .inr z → WM G l E S 42 [(4, .long z)] [] mm) : WM G l E S 17 [(4, .long x4), (6, .long x6)] [] mm := by
  unfold bX8_divisor_17 at h
  refine x_lload C (dq DX8_divisor 11 rfl) 1 rfl ?_
  refine x_lconst (v := 0) C (dq DX8_divisor 12 rfl) rfl ?_
  refine x_lcmp C (dq DX8_divisor 13 rfl) ?_
  refine x_if_eq (tgt := 42) C (dq DX8_divisor 14 rfl) (by decide) h (fun h => ?_) (fun h => ?_)
  · cases h
    exact x_lv [0] rfl (kx (x4) rfl)
  · refine x_pc 24 rfl ?_
    refine x_lload C (dq DX8_divisor 15 rfl) 0 rfl ?_
    refine x_lload C (dq DX8_divisor 16 rfl) 1 rfl ?_
    refine x_lrem C (dq DX8_divisor 17 rfl) h (fun a1 h => ?_)
    refine x_lstore (lv' := [(8, .long a1), (4, .long x4), (6, .long x6)]) C (dq DX8_divisor 18 rfl) (by decide) rfl ?_
    refine x_lload C (dq DX8_divisor 19 rfl) 2 rfl ?_
    refine x_pc 33 rfl ?_
    refine x_lstore (lv' := [(4, .long x6), (8, .long a1), (6, .long x6)]) C (dq DX8_divisor 20 rfl) (by decide) rfl ?_
    refine x_lload C (dq DX8_divisor 21 rfl) 1 rfl ?_
    refine x_lstore (lv' := [(6, .long a1), (4, .long x6), (8, .long a1)]) C (dq DX8_divisor 22 rfl) (by decide) rfl ?_
    refine x_goto (tgt := 17) C (dq DX8_divisor 23 rfl) (by decide) ?_
    cases h
    exact x_lv [1, 0] rfl (kb (x6, a1) rfl)
set_option maxHeartbeats 1000000 in
theorem tX8_divisor_12 {G : Gt} {l : Launch} {E : Ev} {S : List Sh} {mm : Mm} {x2 : Int64} {p0 : Int64} {r : Int64} (C : Cx G E cX8_divisor 10 RX8 (some .long) 0 0)  (h : jX8_divisor_12 S mm x2 p0 = some r) (hQ : RQ G E S (some (.long r)) mm) : WM G l E S 12 [(2, .long x2)] [.long p0] mm := by
  unfold jX8_divisor_12 at h
  refine x_lstore (lv' := [(4, .long p0), (2, .long x2)]) C (dq DX8_divisor 8 rfl) (by decide) rfl ?_
  refine x_lload_n C (dq DX8_divisor 9 rfl) rfl 1 rfl ?_
  refine x_lstore (lv' := [(6, .long x2), (4, .long p0), (2, .long x2)]) C (dq DX8_divisor 10 rfl) (by decide) rfl ?_
  refine x_lv [1, 0] rfl ?_
  refine x_loop (s0 := (p0, x2)) (fun s2 => WM G l E S 17 [(4, .long s2.1), (6, .long s2.2)] [] mm) h (fun s2 r hb kb kx => tX8_divisor_17 C  hb kb (fun y3 hy => ?_))
  have h := kx y3 hy
  clear kx kb hb hy
  refine x_lload C (dq DX8_divisor 24 rfl) 0 rfl ?_
  refine x_pc 44 rfl ?_
  cases h
  exact x_lret C (dq DX8_divisor 25 rfl) hQ
set_option maxHeartbeats 1000000 in
theorem mX8_divisor {l : Launch} {E : Ev} {S : List Sh} {mm : Mm} {x0 : Int64} {x2 : Int64} {r : Int64} (h : fX8_divisor S mm x0 x2 = some r) : Ml l E S yX8_divisor cX8_divisor 10 (some .long) 0 0 [.long x0, .long x2] mm (some (.long r)) mm := by
  refine Ml.of (by decide +kernel) (Nat.le_of_ble_eq_true rfl) (fun G C hQ => ?_)
  have C : Cx G E cX8_divisor 10 RX8 (some .long) 0 0 := C
  unfold fX8_divisor at h
  show WM G l E S 0 [(0, .long x0), (2, .long x2)] [] mm
  refine x_lload_n C (dq DX8_divisor 0 rfl) rfl 0 rfl ?_
  refine x_lconst (v := 0) C (dq DX8_divisor 1 rfl) rfl ?_
  refine x_lcmp C (dq DX8_divisor 2 rfl) ?_
  refine x_if_ge (tgt := 11) C (dq DX8_divisor 3 rfl) (by decide) h (fun h => ?_) (fun h => ?_)
  · refine x_pc 11 rfl ?_
    refine x_lload_n C (dq DX8_divisor 7 rfl) rfl 0 rfl ?_
    exact x_lv [1] rfl (tX8_divisor_12 C  h hQ)
  · refine x_pc 6 rfl ?_
    refine x_lload_n C (dq DX8_divisor 4 rfl) rfl 0 rfl ?_
    refine x_lneg C (dq DX8_divisor 5 rfl) ?_
    refine x_goto (tgt := 12) C (dq DX8_divisor 6 rfl) (by decide) ?_
    exact x_lv [1] rfl (tX8_divisor_12 C  h hQ)
theorem putX8_356 {G : Gt} {l : Launch} {E : Ev} {S : List Sh} {cc : ByteArray} {nL : Nat} {rt : Option FieldType} {fr lo : Nat} {pc : Nat} {lv : List (Nat × Value)} {st : List Value} {mm : Mm} {o : Nat} {α : Type} {f : Mm → Option α} {r : α} {x : Int64} (C : Cx G E cc nL RX8 rt fr lo) (d : decode cc pc = .ok (.putfield 356, 3)) (hg : isC S o 8) (h : bd1 (some (u2 mm o 46 x)) f = some r) (k : ∀ m1, f m1 = some r → WM G l E S (pc + 3) lv st m1) : WM G l E S pc lv (.long x :: .ref (E.2.2 o) :: st) mm := x_putL C hg (T := TX8) (N := 49) rfl inX8 (by decide) (i := 46) (gmem 911 (by decide +kernel) rfl) rfl tyX8 tyX8_ok nmX8 rfl rfl (by decide) (by decide +kernel) d (k _ h)
theorem putX8_360 {G : Gt} {l : Launch} {E : Ev} {S : List Sh} {cc : ByteArray} {nL : Nat} {rt : Option FieldType} {fr lo : Nat} {pc : Nat} {lv : List (Nat × Value)} {st : List Value} {mm : Mm} {o : Nat} {α : Type} {f : Mm → Option α} {r : α} {x : Int64} (C : Cx G E cc nL RX8 rt fr lo) (d : decode cc pc = .ok (.putfield 360, 3)) (hg : isC S o 8) (h : bd1 (some (u2 mm o 47 x)) f = some r) (k : ∀ m1, f m1 = some r → WM G l E S (pc + 3) lv st m1) : WM G l E S pc lv (.long x :: .ref (E.2.2 o) :: st) mm := x_putL C hg (T := TX8) (N := 49) rfl inX8 (by decide) (i := 47) (gmem 912 (by decide +kernel) rfl) rfl tyX8 tyX8_ok nmX8 rfl rfl (by decide) (by decide +kernel) d (k _ h)
theorem callX8_352 {G : Gt} {l : Launch} {E : Ev} {S : List Sh} {cc : ByteArray} {nL : Nat} {rt : Option FieldType} {fr lo : Nat} {pc : Nat} {lv : List (Nat × Value)} {rest : List Value} {mm : Mm} {α : Type} {f : Int64 → Option α} {r : α} {a0 : Int64} {a1 : Int64} (C : Cx G E cc nL RX8 rt fr lo) (d : decode cc pc = .ok (.invokestatic 352, 3)) (h : bd1 (fX8_divisor S mm a0 a1) f = some r) (hfr : 1 ≤ fr) (hlo : 29 ≤ lo) (hrs : (rest.map fun v => v.category).sum ≤ 8) (k : ∀ v, f v = some r → WM G l E S (pc + 3) lv (.long v :: rest) mm) : WM G l E S pc lv (.long a1 :: .long a0 :: rest) mm := by
  obtain ⟨v, hv, hf⟩ := bd1_some h
  exact x_callS (n := 2) (As := [.long a0, .long a1]) (rest := rest) C (mX8_divisor hv) (gmem 1384 (by decide +kernel) rfl) (gmem 1385 (by decide +kernel) rfl) (gmem 9 (by decide +kernel) rfl) (gmem 1386 (by decide +kernel) rfl) (by decide +kernel) rfl hfr hlo hrs d rfl rfl (k v hf)
abbrev eX8_tells : List (Nat × Instr × Nat) := [(0, .lload_n 1, 1), (1, .lload_n 3, 1), (2, .invokestatic 352, 3), (5, .lstore 5, 2), (7, .aload_n 0, 1), (8, .lload_n 1, 1), (9, .lload 5, 2), (11, .ldiv, 1), (12, .putfield 356, 3), (15, .aload_n 0, 1), (16, .lload_n 3, 1), (17, .lload 5, 2), (19, .ldiv, 1), (20, .putfield 360, 3), (23, .return_, 1)]
theorem DX8_tells : (eX8_tells.all fun q => decide (decode cX8_tells q.1 = .ok q.2)) = true := by decide +kernel
def fX8_tells (S : List Sh) (mm : Mm) (x0 : Nat) (x1 : Int64) (x3 : Int64) : Option (Mm) := gd S x0 8 (bd1 (fX8_divisor S mm x1 x3) fun a1 => bd1 (dvL x1 a1) fun a2 => bd1 (some (u2 mm x0 46 a2)) fun m3 => bd1 (dvL x3 a1) fun a4 => bd1 (some (u2 m3 x0 47 a4)) fun m5 => some m5)
set_option maxHeartbeats 1000000 in
theorem mX8_tells {l : Launch} {E : Ev} {S : List Sh} {mm : Mm} {x0 : Nat} {x1 : Int64} {x3 : Int64} {r : Mm} (h : fX8_tells S mm x0 x1 x3 = some r) : Ml l E S yX8_tells cX8_tells 7 none 1 29 [.ref (E.2.2 x0), .long x1, .long x3] mm none r := by
  refine Ml.of (by decide +kernel) (Nat.le_of_ble_eq_true rfl) (fun G C hQ => ?_)
  have C : Cx G E cX8_tells 7 RX8 none 1 29 := C
  unfold fX8_tells at h
  obtain ⟨g0, h⟩ := gd_some h
  show WM G l E S 0 [(0, .ref (E.2.2 x0)), (1, .long x1), (3, .long x3)] [] mm
  refine x_lload_n C (dq DX8_tells 0 rfl) rfl 1 rfl ?_
  refine x_lload_n C (dq DX8_tells 1 rfl) rfl 2 rfl ?_
  refine callX8_352 C (dq DX8_tells 2 rfl) h (by decide) (by decide) (Nat.le_of_ble_eq_true rfl) (fun a1 h => ?_)
  refine x_lstore (lv' := [(5, .long a1), (0, .ref (E.2.2 x0)), (1, .long x1), (3, .long x3)]) C (dq DX8_tells 3 rfl) (by decide) rfl ?_
  refine x_pc 7 rfl ?_
  refine x_aload_n C (dq DX8_tells 4 rfl) rfl 1 rfl ?_
  refine x_lload_n C (dq DX8_tells 5 rfl) rfl 2 rfl ?_
  refine x_lload C (dq DX8_tells 6 rfl) 0 rfl ?_
  refine x_ldiv C (dq DX8_tells 7 rfl) h (fun a2 h => ?_)
  refine putX8_356 C (dq DX8_tells 8 rfl) g0 h (fun m3 h => ?_)
  refine x_pc 15 rfl ?_
  refine x_aload_n C (dq DX8_tells 9 rfl) rfl 1 rfl ?_
  refine x_lload_n C (dq DX8_tells 10 rfl) rfl 3 rfl ?_
  refine x_lload C (dq DX8_tells 11 rfl) 0 rfl ?_
  refine x_ldiv C (dq DX8_tells 12 rfl) h (fun a4 h => ?_)
  refine putX8_360 C (dq DX8_tells 13 rfl) g0 h (fun m5 h => ?_)
  refine x_pc 23 rfl ?_
  cases h
  exact x_vret C (dq DX8_tells 14 rfl) hQ
set_option maxHeartbeats 1000000 in
theorem qX8_tells {S : List Sh} {mm : Mm} {x0 : Nat} {x1 : Int64} {x3 : Int64} {r : Mm} (h : fX8_tells S mm x0 x1 x3 = some r) : isC S x0 8 := by
  unfold fX8_tells at h
  exact (gd_some h).1
theorem getX8_96 {G : Gt} {l : Launch} {E : Ev} {S : List Sh} {cc : ByteArray} {nL : Nat} {rt : Option FieldType} {fr lo : Nat} {pc : Nat} {lv : List (Nat × Value)} {st : List Value} {mm : Mm} {o : Nat} (C : Cx G E cc nL RX8 rt fr lo) (d : decode cc pc = .ok (.getfield 96, 3)) (hg : isC S o 8) (k : WM G l E S (pc + 3) lv (.ref (E.2.2 (rf S mm o 43)) :: st) mm) : WM G l E S pc lv (.ref (E.2.2 o) :: st) mm := x_get2 C hg (T := TX8) (N := 49) rfl inX8 (by decide) (i := 43) (gmem 908 (by decide +kernel) rfl) rfl rfl d k
theorem getX8_100 {G : Gt} {l : Launch} {E : Ev} {S : List Sh} {cc : ByteArray} {nL : Nat} {rt : Option FieldType} {fr lo : Nat} {pc : Nat} {lv : List (Nat × Value)} {st : List Value} {mm : Mm} {o : Nat} (C : Cx G E cc nL RX8 rt fr lo) (d : decode cc pc = .ok (.getfield 100, 3)) (hg : isC S o 8) (k : WM G l E S (pc + 3) lv (.ref (E.2.2 (rf S mm o 44)) :: st) mm) : WM G l E S pc lv (.ref (E.2.2 o) :: st) mm := x_get2 C hg (T := TX8) (N := 49) rfl inX8 (by decide) (i := 44) (gmem 909 (by decide +kernel) rfl) rfl rfl d k
theorem getX8_103 {G : Gt} {l : Launch} {E : Ev} {S : List Sh} {cc : ByteArray} {nL : Nat} {rt : Option FieldType} {fr lo : Nat} {pc : Nat} {lv : List (Nat × Value)} {st : List Value} {mm : Mm} {o : Nat} (C : Cx G E cc nL RX8 rt fr lo) (d : decode cc pc = .ok (.getfield 103, 3)) (hg : isC S o 8) (k : WM G l E S (pc + 3) lv (.ref (E.2.2 (rf S mm o 45)) :: st) mm) : WM G l E S pc lv (.ref (E.2.2 o) :: st) mm := x_get2 C hg (T := TX8) (N := 49) rfl inX8 (by decide) (i := 45) (gmem 910 (by decide +kernel) rfl) rfl rfl d k
theorem getX8_356 {G : Gt} {l : Launch} {E : Ev} {S : List Sh} {cc : ByteArray} {nL : Nat} {rt : Option FieldType} {fr lo : Nat} {pc : Nat} {lv : List (Nat × Value)} {st : List Value} {mm : Mm} {o : Nat} (C : Cx G E cc nL RX8 rt fr lo) (d : decode cc pc = .ok (.getfield 356, 3)) (hg : isC S o 8) (k : WM G l E S (pc + 3) lv (.long (mm.2 o 46) :: st) mm) : WM G l E S pc lv (.ref (E.2.2 o) :: st) mm := x_get1 C hg (T := TX8) (N := 49) rfl inX8 (by decide) (i := 46) (gmem 911 (by decide +kernel) rfl) rfl rfl d k
theorem getX8_360 {G : Gt} {l : Launch} {E : Ev} {S : List Sh} {cc : ByteArray} {nL : Nat} {rt : Option FieldType} {fr lo : Nat} {pc : Nat} {lv : List (Nat × Value)} {st : List Value} {mm : Mm} {o : Nat} (C : Cx G E cc nL RX8 rt fr lo) (d : decode cc pc = .ok (.getfield 360, 3)) (hg : isC S o 8) (k : WM G l E S (pc + 3) lv (.long (mm.2 o 47) :: st) mm) : WM G l E S pc lv (.ref (E.2.2 o) :: st) mm := x_get1 C hg (T := TX8) (N := 49) rfl inX8 (by decide) (i := 47) (gmem 912 (by decide +kernel) rfl) rfl rfl d k
theorem callX8_363 {G : Gt} {l : Launch} {E : Ev} {S : List Sh} {cc : ByteArray} {nL : Nat} {rt : Option FieldType} {fr lo : Nat} {pc : Nat} {lv : List (Nat × Value)} {rest : List Value} {mm : Mm} {α : Type} {f : Mm → Option α} {r : α} {o : Nat} {a0 : Int64} {a1 : Int64} (C : Cx G E cc nL RX8 rt fr lo) (d : decode cc pc = .ok (.invokevirtual 363, 3)) (h : bd1 (fX8_tells S mm o a0 a1) f = some r) (hfr : 2 ≤ fr) (hlo : 55 ≤ lo) (hrs : (rest.map fun v => v.category).sum ≤ 8) (k : ∀ m1, f m1 = some r → WM G l E S (pc + 3) lv rest m1) : WM G l E S pc lv (.long a1 :: .long a0 :: .ref (E.2.2 o) :: rest) mm := by
  obtain ⟨m1, hv, hf⟩ := bd1_some h
  exact x_callV (n := 2) (As := [.long a0, .long a1]) (rest := rest) C (mX8_tells hv) (qX8_tells hv) (T := TX8) (N := 49) rfl (gmem 1380 (by decide +kernel) rfl) (gmem 1382 (by decide +kernel) rfl) (gmemS 92 (by decide +kernel) rfl) (gmem 9 (by decide +kernel) rfl) (gmem 1383 (by decide +kernel) rfl) (by decide +kernel) rfl hfr hlo hrs d rfl rfl (k m1 hf)
abbrev eX8_leftOf : List (Nat × Instr × Nat) := [(0, .aload_n 0, 1), (1, .aload_n 0, 1), (2, .getfield 23, 3), (5, .iload_n 1, 1), (6, .iaload, 1), (7, .i2l, 1), (8, .lconst 1, 1), (9, .invokevirtual 363, 3), (12, .iconst 0, 1), (13, .istore_n 2, 1), (14, .iconst 0, 1), (15, .istore_n 3, 1), (16, .iload_n 3, 1), (17, .aload_n 0, 1), (18, .invokevirtual 251, 3), (21, .if_icmp .ge 83, 3), (24, .aload_n 0, 1), (25, .iload_n 3, 1), (26, .invokevirtual 283, 3), (29, .ifCond .eq 69, 3), (32, .aload_n 0, 1), (33, .iload_n 3, 1), (34, .iload_n 1, 1), (35, .invokevirtual 261, 3), (38, .iconst (-1), 1), (39, .if_icmp .ne 6, 3), (42, .goto 56, 3), (45, .aload_n 0, 1), (46, .getfield 103, 3), (49, .iload_n 3, 1), (50, .baload, 1), (51, .ifCond .eq 44, 3), (54, .aload_n 0, 1), (55, .aload_n 0, 1), (56, .getfield 356, 3), (59, .aload_n 0, 1), (60, .getfield 100, 3), (63, .iload_n 3, 1), (64, .laload, 1), (65, .lmul, 1), (66, .aload_n 0, 1), (67, .getfield 96, 3), (70, .iload_n 3, 1), (71, .laload, 1), (72, .aload_n 0, 1), (73, .getfield 360, 3), (76, .lmul, 1), (77, .lsub, 1), (78, .aload_n 0, 1), (79, .getfield 360, 3), (82, .aload_n 0, 1), (83, .getfield 100, 3), (86, .iload_n 3, 1), (87, .laload, 1), (88, .lmul, 1), (89, .invokevirtual 363, 3), (92, .goto 6, 3), (95, .iinc 2 1, 3), (98, .iinc 3 1, 3), (101, .goto (-85), 3), (104, .iload_n 2, 1), (105, .ireturn, 1)]
theorem DX8_leftOf : (eX8_leftOf.all fun q => decide (decode cX8_leftOf q.1 = .ok q.2)) = true := by decide +kernel
def jX8_leftOf_98 (S : List Sh) (mm : Mm) (x0 : Nat) (x1 : Int32) (x2 : Int32) (x3 : Int32)  : Option ((Int32 × Int32 × Mm) ⊕ (Int32 × Mm)) := some (.inl (x2, x3 + 1, mm))
def bX8_leftOf_16 (S : List Sh) (x0 : Nat) (x1 : Int32) (x2 : Int32) (x3 : Int32) (mm : Mm) : Option ((Int32 × Int32 × Mm) ⊕ (Int32 × Mm)) := bd1 (fX8_flows S mm x0) fun a3 => if a3 ≤ x3 then (some (.inr (x2, mm))) else (bd1 (fX8_isOn S mm x0 x3) fun a4 => if a4 = 0 then (jX8_leftOf_98 S mm x0 x1 x2 x3) else (bd1 (fX8_hopOf S mm x0 x3 x1) fun a5 => if ¬ a5 = (-1) then (bd1 (ldA S 2 mm (rf S mm x0 45) x3) fun a6 => if a6 = 0 then (jX8_leftOf_98 S mm x0 x1 (x2 + 1) x3) else (bd1 (ldL S mm (rf S mm x0 44) x3) fun a7 => bd1 (ldL S mm (rf S mm x0 43) x3) fun a8 => bd1 (ldL S mm (rf S mm x0 44) x3) fun a9 => bd1 (fX8_tells S mm x0 (((mm.2 x0 46) * a7) - (a8 * (mm.2 x0 47))) ((mm.2 x0 47) * a9)) fun m10 => jX8_leftOf_98 S m10 x0 x1 x2 x3)) else (jX8_leftOf_98 S mm x0 x1 x2 x3)))
def fX8_leftOf (S : List Sh) (mm : Mm) (x0 : Nat) (x1 : Int32) : Option (Int32 × Mm) := gd S x0 8 (bd1 (ldA S 0 mm (rf S mm x0 6) x1) fun a1 => bd1 (fX8_tells S mm x0 a1.toInt64 1) fun m2 => bd1 (lp (fun s11 => bX8_leftOf_16 S x0 x1 s11.1 s11.2.1 s11.2.2) fu (0, 0, m2)) fun y12 => some (y12.1, y12.2))
set_option maxHeartbeats 1000000 in
theorem tX8_leftOf_98 {G : Gt} {l : Launch} {E : Ev} {S : List Sh} {mm : Mm} {x0 : Nat} {x1 : Int32} {x2 : Int32} {x3 : Int32}  {r : (Int32 × Int32 × Mm) ⊕ (Int32 × Mm)} (C : Cx G E cX8_leftOf 4 RX8 (some .int) 2 55) (g0 : isC S x0 8) (h : jX8_leftOf_98 S mm x0 x1 x2 x3 = some r) (kb : ∀ z : Int32 × Int32 × Mm, r = .inl z → WM G l E S 16 [(0, .ref (E.2.2 x0)), (1, .int x1), (2, .int z.1), (3, .int z.2.1)] [] z.2.2) (kx : ∀ z : Int32 × Mm, r = .inr z → WM G l E S 104 [(0, .ref (E.2.2 x0)), (1, .int x1), (2, .int z.1)] [] z.2) : WM G l E S 98 [(0, .ref (E.2.2 x0)), (1, .int x1), (2, .int x2), (3, .int x3)] [] mm := by
  unfold jX8_leftOf_98 at h
  refine x_iinc (v := x3 + 1) (lv' := [(3, .int (x3 + 1)), (0, .ref (E.2.2 x0)), (1, .int x1), (2, .int x2)]) C (dq DX8_leftOf 58 rfl) 3 rfl rfl (by decide) rfl ?_
  refine x_goto (tgt := 16) C (dq DX8_leftOf 59 rfl) (by decide) ?_
  cases h
  exact x_lv [1, 2, 3, 0] rfl (kb (x2, x3 + 1, mm) rfl)
set_option maxHeartbeats 1000000 in
theorem tX8_leftOf_16 {G : Gt} {l : Launch} {E : Ev} {S : List Sh} {x0 : Nat} {x1 : Int32} {x2 : Int32} {x3 : Int32} {mm : Mm} {r : (Int32 × Int32 × Mm) ⊕ (Int32 × Mm)} (C : Cx G E cX8_leftOf 4 RX8 (some .int) 2 55) (g0 : isC S x0 8) (h : bX8_leftOf_16 S x0 x1 x2 x3 mm = some r) (kb : ∀ z : Int32 × Int32 × Mm, r = .inl z → WM G l E S 16 [(0, .ref (E.2.2 x0)), (1, .int x1), (2, .int z.1), (3, .int z.2.1)] [] z.2.2) (kx : ∀ z : Int32 × Mm, r = .inr z → WM G l E S 104 [(0, .ref (E.2.2 x0)), (1, .int x1), (2, .int z.1)] [] z.2) : WM G l E S 16 [(0, .ref (E.2.2 x0)), (1, .int x1), (2, .int x2), (3, .int x3)] [] mm := by
  unfold bX8_leftOf_16 at h
  refine x_iload_n C (dq DX8_leftOf 12 rfl) rfl 3 rfl ?_
  refine x_aload_n C (dq DX8_leftOf 13 rfl) rfl 0 rfl ?_
  refine callX8_251 C (dq DX8_leftOf 14 rfl) h (by decide) (by decide) (Nat.le_of_ble_eq_true rfl) (fun a3 h => ?_)
  refine x_icmp_ge (tgt := 104) C (dq DX8_leftOf 15 rfl) (by decide) h (fun h => ?_) (fun h => ?_)
  · cases h
    exact x_lv [0, 1, 2] rfl (kx (x2, mm) rfl)
  · refine x_pc 24 rfl ?_
    refine x_aload_n C (dq DX8_leftOf 16 rfl) rfl 0 rfl ?_
    refine x_iload_n C (dq DX8_leftOf 17 rfl) rfl 3 rfl ?_
    refine callX8_283 C (dq DX8_leftOf 18 rfl) h (by decide) (by decide) (Nat.le_of_ble_eq_true rfl) (fun a4 h => ?_)
    refine x_if_eq (tgt := 98) C (dq DX8_leftOf 19 rfl) (by decide) h (fun h => ?_) (fun h => ?_)
    · exact x_lv [0, 1, 2, 3] rfl (tX8_leftOf_98 C g0 h kb kx)
    · refine x_aload_n C (dq DX8_leftOf 20 rfl) rfl 0 rfl ?_
      refine x_pc 33 rfl ?_
      refine x_iload_n C (dq DX8_leftOf 21 rfl) rfl 3 rfl ?_
      refine x_iload_n C (dq DX8_leftOf 22 rfl) rfl 1 rfl ?_
      refine callX8_261 C (dq DX8_leftOf 23 rfl) h (by decide) (by decide) (Nat.le_of_ble_eq_true rfl) (fun a5 h => ?_)
      refine x_iconst (v := (-1)) C (dq DX8_leftOf 24 rfl) (by decide) ?_
      refine x_icmp_ne (tgt := 45) C (dq DX8_leftOf 25 rfl) (by decide) h (fun h => ?_) (fun h => ?_)
      · refine x_pc 45 rfl ?_
        refine x_aload_n C (dq DX8_leftOf 27 rfl) rfl 0 rfl ?_
        refine getX8_103 C (dq DX8_leftOf 28 rfl) g0 ?_
        refine x_iload_n C (dq DX8_leftOf 29 rfl) rfl 3 rfl ?_
        refine x_zald C (dq DX8_leftOf 30 rfl) h (fun a6 h => ?_)
        refine x_if_eq (tgt := 95) C (dq DX8_leftOf 31 rfl) (by decide) h (fun h => ?_) (fun h => ?_)
        · refine x_pc 95 rfl ?_
          refine x_iinc (v := x2 + 1) (lv' := [(2, .int (x2 + 1)), (0, .ref (E.2.2 x0)), (1, .int x1), (3, .int x3)]) C (dq DX8_leftOf 57 rfl) 2 rfl rfl (by decide) rfl ?_
          exact x_lv [1, 2, 0, 3] rfl (tX8_leftOf_98 C g0 h kb kx)
        · refine x_pc 54 rfl ?_
          refine x_aload_n C (dq DX8_leftOf 32 rfl) rfl 0 rfl ?_
          refine x_aload_n C (dq DX8_leftOf 33 rfl) rfl 0 rfl ?_
          refine getX8_356 C (dq DX8_leftOf 34 rfl) g0 ?_
          refine x_aload_n C (dq DX8_leftOf 35 rfl) rfl 0 rfl ?_
          refine getX8_100 C (dq DX8_leftOf 36 rfl) g0 ?_
          refine x_pc 63 rfl ?_
          refine x_iload_n C (dq DX8_leftOf 37 rfl) rfl 3 rfl ?_
          refine x_lald C (dq DX8_leftOf 38 rfl) h (fun a7 h => ?_)
          refine x_lmul C (dq DX8_leftOf 39 rfl) ?_
          refine x_aload_n C (dq DX8_leftOf 40 rfl) rfl 0 rfl ?_
          refine getX8_96 C (dq DX8_leftOf 41 rfl) g0 ?_
          refine x_pc 70 rfl ?_
          refine x_iload_n C (dq DX8_leftOf 42 rfl) rfl 3 rfl ?_
          refine x_lald C (dq DX8_leftOf 43 rfl) h (fun a8 h => ?_)
          refine x_aload_n C (dq DX8_leftOf 44 rfl) rfl 0 rfl ?_
          refine getX8_360 C (dq DX8_leftOf 45 rfl) g0 ?_
          refine x_lmul C (dq DX8_leftOf 46 rfl) ?_
          refine x_pc 77 rfl ?_
          refine x_lsub C (dq DX8_leftOf 47 rfl) ?_
          refine x_aload_n C (dq DX8_leftOf 48 rfl) rfl 0 rfl ?_
          refine getX8_360 C (dq DX8_leftOf 49 rfl) g0 ?_
          refine x_aload_n C (dq DX8_leftOf 50 rfl) rfl 0 rfl ?_
          refine getX8_100 C (dq DX8_leftOf 51 rfl) g0 ?_
          refine x_pc 86 rfl ?_
          refine x_iload_n C (dq DX8_leftOf 52 rfl) rfl 3 rfl ?_
          refine x_lald C (dq DX8_leftOf 53 rfl) h (fun a9 h => ?_)
          refine x_lmul C (dq DX8_leftOf 54 rfl) ?_
          refine callX8_363 C (dq DX8_leftOf 55 rfl) h (by decide) (by decide) (Nat.le_of_ble_eq_true rfl) (fun m10 h => ?_)
          refine x_goto (tgt := 98) C (dq DX8_leftOf 56 rfl) (by decide) ?_
          exact x_lv [0, 1, 2, 3] rfl (tX8_leftOf_98 C g0 h kb kx)
      · refine x_pc 42 rfl ?_
        refine x_goto (tgt := 98) C (dq DX8_leftOf 26 rfl) (by decide) ?_
        exact x_lv [0, 1, 2, 3] rfl (tX8_leftOf_98 C g0 h kb kx)
set_option maxHeartbeats 1000000 in
theorem mX8_leftOf {l : Launch} {E : Ev} {S : List Sh} {mm : Mm} {x0 : Nat} {x1 : Int32} {r : Int32 × Mm} (h : fX8_leftOf S mm x0 x1 = some r) : Ml l E S yX8_leftOf cX8_leftOf 4 (some .int) 2 55 [.ref (E.2.2 x0), .int x1] mm (some (.int r.1)) r.2 := by
  refine Ml.of (by decide +kernel) (Nat.le_of_ble_eq_true rfl) (fun G C hQ => ?_)
  have C : Cx G E cX8_leftOf 4 RX8 (some .int) 2 55 := C
  unfold fX8_leftOf at h
  obtain ⟨g0, h⟩ := gd_some h
  show WM G l E S 0 [(0, .ref (E.2.2 x0)), (1, .int x1)] [] mm
  refine x_aload_n C (dq DX8_leftOf 0 rfl) rfl 0 rfl ?_
  refine x_aload_n C (dq DX8_leftOf 1 rfl) rfl 0 rfl ?_
  refine getX8_23 C (dq DX8_leftOf 2 rfl) g0 ?_
  refine x_iload_n C (dq DX8_leftOf 3 rfl) rfl 1 rfl ?_
  refine x_pc 6 rfl ?_
  refine x_iald C (dq DX8_leftOf 4 rfl) h (fun a1 h => ?_)
  refine x_i2l C (dq DX8_leftOf 5 rfl) ?_
  refine x_lconst (v := 1) C (dq DX8_leftOf 6 rfl) rfl ?_
  refine callX8_363 C (dq DX8_leftOf 7 rfl) h (by decide) (by decide) (Nat.le_of_ble_eq_true rfl) (fun m2 h => ?_)
  refine x_iconst (v := 0) C (dq DX8_leftOf 8 rfl) (by decide) ?_
  refine x_pc 13 rfl ?_
  refine x_istore_n (lv' := [(2, .int 0), (0, .ref (E.2.2 x0)), (1, .int x1)]) C (dq DX8_leftOf 9 rfl) rfl (by decide) rfl ?_
  refine x_iconst (v := 0) C (dq DX8_leftOf 10 rfl) (by decide) ?_
  refine x_istore_n (lv' := [(3, .int 0), (2, .int 0), (0, .ref (E.2.2 x0)), (1, .int x1)]) C (dq DX8_leftOf 11 rfl) rfl (by decide) rfl ?_
  refine x_lv [2, 3, 1, 0] rfl ?_
  refine x_loop (s0 := (0, 0, m2)) (fun s11 => WM G l E S 16 [(0, .ref (E.2.2 x0)), (1, .int x1), (2, .int s11.1), (3, .int s11.2.1)] [] s11.2.2) h (fun s11 r hb kb kx => tX8_leftOf_16 C g0 hb kb (fun y12 hy => ?_))
  have h := kx y12 hy
  clear kx kb hb hy
  refine x_iload_n C (dq DX8_leftOf 60 rfl) rfl 2 rfl ?_
  cases h
  exact x_iret C (dq DX8_leftOf 61 rfl) hQ
set_option maxHeartbeats 1000000 in
theorem qX8_leftOf {S : List Sh} {mm : Mm} {x0 : Nat} {x1 : Int32} {r : Int32 × Mm} (h : fX8_leftOf S mm x0 x1 = some r) : isC S x0 8 := by
  unfold fX8_leftOf at h
  exact (gd_some h).1
theorem callX8_367 {G : Gt} {l : Launch} {E : Ev} {S : List Sh} {cc : ByteArray} {nL : Nat} {rt : Option FieldType} {fr lo : Nat} {pc : Nat} {lv : List (Nat × Value)} {rest : List Value} {mm : Mm} {α : Type} {f : Int32 → Mm → Option α} {r : α} {o : Nat} {a0 : Int32} (C : Cx G E cc nL RX8 rt fr lo) (d : decode cc pc = .ok (.invokevirtual 367, 3)) (h : bd2 (fX8_leftOf S mm o a0) f = some r) (hfr : 3 ≤ fr) (hlo : 78 ≤ lo) (hrs : (rest.map fun v => v.category).sum ≤ 8) (k : ∀ v m1, f v m1 = some r → WM G l E S (pc + 3) lv (.int v :: rest) m1) : WM G l E S pc lv (.int a0 :: .ref (E.2.2 o) :: rest) mm := by
  obtain ⟨v, m1, hv, hf⟩ := bd2_some h
  exact x_callV (n := 1) (As := [.int a0]) (rest := rest) C (mX8_leftOf hv) (qX8_leftOf hv) (T := TX8) (N := 49) rfl (gmem 1376 (by decide +kernel) rfl) (gmem 1378 (by decide +kernel) rfl) (gmemS 91 (by decide +kernel) rfl) (gmem 9 (by decide +kernel) rfl) (gmem 1379 (by decide +kernel) rfl) (by decide +kernel) rfl hfr hlo hrs d rfl rfl (k v m1 hf)
abbrev eX8_stops : List (Nat × Instr × Nat) := [(0, .iconst 0, 1), (1, .istore 5, 2), (3, .iconst 0, 1), (4, .istore 6, 2), (6, .iload 6, 2), (8, .aload_n 0, 1), (9, .invokevirtual 248, 3), (12, .if_icmp .ge 51, 3), (15, .aload_n 0, 1), (16, .iload 6, 2), (18, .invokevirtual 367, 3), (21, .istore 7, 2), (23, .iload 7, 2), (25, .ifCond .le 32, 3), (28, .aload_n 0, 1), (29, .getfield 356, 3), (32, .lload_n 3, 1), (33, .lmul, 1), (34, .lload_n 1, 1), (35, .aload_n 0, 1), (36, .getfield 360, 3), (39, .lmul, 1), (40, .iload 7, 2), (42, .i2l, 1), (43, .lmul, 1), (44, .lcmp, 1), (45, .ifCond .ne 12, 3), (48, .iload 5, 2), (50, .iconst 1, 1), (51, .iload 6, 2), (53, .ishl, 1), (54, .ior, 1), (55, .istore 5, 2), (57, .iinc 6 1, 3), (60, .goto (-54), 3), (63, .iconst 0, 1), (64, .istore 6, 2), (66, .iload 6, 2), (68, .aload_n 0, 1), (69, .invokevirtual 251, 3), (72, .if_icmp .ge 108, 3), (75, .iconst 0, 1), (76, .istore 7, 2), (78, .iconst 0, 1), (79, .istore 8, 2), (81, .iload 8, 2), (83, .aload_n 0, 1), (84, .getfield 47, 3), (87, .iload 6, 2), (89, .iaload, 1), (90, .if_icmp .ge 42, 3), (93, .iload 7, 2), (95, .ifCond .ne 24, 3), (98, .iload 5, 2), (100, .aload_n 0, 1), (101, .getfield 50, 3), (104, .iconst 5, 1), (105, .iload 6, 2), (107, .imul, 1), (108, .iload 8, 2), (110, .iadd, 1), (111, .iaload, 1), (112, .ishr, 1), (113, .iconst 1, 1), (114, .iand, 1), (115, .iconst 1, 1), (116, .if_icmp .ne 7, 3), (119, .iconst 1, 1), (120, .goto 4, 3), (123, .iconst 0, 1), (124, .istore 7, 2), (126, .iinc 8 1, 3), (129, .goto (-48), 3), (132, .aload_n 0, 1), (133, .getfield 103, 3), (136, .iload 6, 2), (138, .baload, 1), (139, .ifCond .ne 35, 3), (142, .iload 7, 2), (144, .ifCond .ne 6, 3), (147, .goto 27, 3), (150, .aload_n 0, 1), (151, .getfield 103, 3), (154, .iload 6, 2), (156, .iconst 1, 1), (157, .bastore, 1), (158, .aload_n 0, 1), (159, .getfield 96, 3), (162, .iload 6, 2), (164, .lload_n 1, 1), (165, .lastore, 1), (166, .aload_n 0, 1), (167, .getfield 100, 3), (170, .iload 6, 2), (172, .lload_n 3, 1), (173, .lastore, 1), (174, .iinc 6 1, 3), (177, .goto (-111), 3), (180, .return_, 1)]
theorem DX8_stops : (eX8_stops.all fun q => decide (decode cX8_stops q.1 = .ok q.2)) = true := by decide +kernel
def jX8_stops_57 (S : List Sh) (mm : Mm) (x0 : Nat) (x1 : Int64) (x3 : Int64) (x5 : Int32) (x6 : Int32)  : Option ((Int32 × Int32 × Mm) ⊕ (Int32 × Mm)) := some (.inl (x5, x6 + 1, mm))
def bX8_stops_6 (S : List Sh) (x0 : Nat) (x1 : Int64) (x3 : Int64) (x5 : Int32) (x6 : Int32) (mm : Mm) : Option ((Int32 × Int32 × Mm) ⊕ (Int32 × Mm)) := bd1 (fX8_links S mm x0) fun a1 => if a1 ≤ x6 then (some (.inr (x5, mm))) else (bd2 (fX8_leftOf S mm x0 x6) fun a2 m3 => if a2 ≤ 0 then (jX8_stops_57 S m3 x0 x1 x3 x5 x6) else (if ¬ (lg_cmp ((m3.2 x0 46) * x3) ((x1 * (m3.2 x0 47)) * a2.toInt64)) = 0 then (jX8_stops_57 S m3 x0 x1 x3 x5 x6) else (jX8_stops_57 S m3 x0 x1 x3 (x5 ||| (1 <<< (x6 &&& 31))) x6)))
def jX8_stops_124 (S : List Sh) (mm : Mm) (x0 : Nat) (x1 : Int64) (x3 : Int64) (x5 : Int32) (x6 : Int32) (x8 : Int32) (p0 : Int32) : Option ((Int32 × Int32) ⊕ (Int32)) := some (.inl (p0, x8 + 1))
def jX8_stops_119 (S : List Sh) (mm : Mm) (x0 : Nat) (x1 : Int64) (x3 : Int64) (x5 : Int32) (x6 : Int32) (x8 : Int32)  : Option ((Int32 × Int32) ⊕ (Int32)) := jX8_stops_124 S mm x0 x1 x3 x5 x6 x8 1
def bX8_stops_81 (S : List Sh) (mm : Mm) (x0 : Nat) (x1 : Int64) (x3 : Int64) (x5 : Int32) (x6 : Int32) (x7 : Int32) (x8 : Int32) : Option ((Int32 × Int32) ⊕ (Int32)) := bd1 (ldA S 0 mm (rf S mm x0 14) x6) fun a7 => if a7 ≤ x8 then (some (.inr (x7))) else (if ¬ x7 = 0 then (jX8_stops_119 S mm x0 x1 x3 x5 x6 x8) else (bd1 (ldA S 0 mm (rf S mm x0 15) ((5 * x6) + x8)) fun a8 => if ¬ ((x5 >>> (a8 &&& 31)) &&& 1) = 1 then (jX8_stops_124 S mm x0 x1 x3 x5 x6 x8 0) else (jX8_stops_119 S mm x0 x1 x3 x5 x6 x8)))
def jX8_stops_174 (S : List Sh) (mm : Mm) (x0 : Nat) (x1 : Int64) (x3 : Int64) (x5 : Int32) (x6 : Int32)  : Option ((Int32 × Mm) ⊕ (Mm)) := some (.inl (x6 + 1, mm))
def bX8_stops_66 (S : List Sh) (x0 : Nat) (x1 : Int64) (x3 : Int64) (x5 : Int32) (x6 : Int32) (mm : Mm) : Option ((Int32 × Mm) ⊕ (Mm)) := bd1 (fX8_flows S mm x0) fun a6 => if a6 ≤ x6 then (some (.inr (mm))) else (bd1 (lp (fun s9 => bX8_stops_81 S mm x0 x1 x3 x5 x6 s9.1 s9.2) fu (0, 0)) fun y10 => bd1 (ldA S 2 mm (rf S mm x0 45) x6) fun a11 => if ¬ a11 = 0 then (jX8_stops_174 S mm x0 x1 x3 x5 x6) else (if ¬ y10 = 0 then (bd1 (stA S 2 mm (rf S mm x0 45) x6 1) fun m12 => bd1 (stL S m12 (rf S m12 x0 43) x6 x1) fun m13 => bd1 (stL S m13 (rf S m13 x0 44) x6 x3) fun m14 => jX8_stops_174 S m14 x0 x1 x3 x5 x6) else (jX8_stops_174 S mm x0 x1 x3 x5 x6)))
def fX8_stops (S : List Sh) (mm : Mm) (x0 : Nat) (x1 : Int64) (x3 : Int64) : Option (Mm) := gd S x0 8 (bd1 (lp (fun s4 => bX8_stops_6 S x0 x1 x3 s4.1 s4.2.1 s4.2.2) fu (0, 0, mm)) fun y5 => bd1 (lp (fun s15 => bX8_stops_66 S x0 x1 x3 y5.1 s15.1 s15.2) fu (0, y5.2)) fun y16 => some y16)
set_option maxHeartbeats 1000000 in
theorem tX8_stops_57 {G : Gt} {l : Launch} {E : Ev} {S : List Sh} {mm : Mm} {x0 : Nat} {x1 : Int64} {x3 : Int64} {x5 : Int32} {x6 : Int32}  {r : (Int32 × Int32 × Mm) ⊕ (Int32 × Mm)} (C : Cx G E cX8_stops 9 RX8 none 3 78) (g0 : isC S x0 8) (h : jX8_stops_57 S mm x0 x1 x3 x5 x6 = some r) (kb : ∀ z : Int32 × Int32 × Mm, r = .inl z → WM G l E S 6 [(0, .ref (E.2.2 x0)), (1, .long x1), (3, .long x3), (5, .int z.1), (6, .int z.2.1)] [] z.2.2) (kx : ∀ z : Int32 × Mm, r = .inr z → WM G l E S 63 [(0, .ref (E.2.2 x0)), (1, .long x1), (3, .long x3), (5, .int z.1)] [] z.2) : WM G l E S 57 [(0, .ref (E.2.2 x0)), (1, .long x1), (3, .long x3), (5, .int x5), (6, .int x6)] [] mm := by
  unfold jX8_stops_57 at h
  refine x_iinc (v := x6 + 1) (lv' := [(6, .int (x6 + 1)), (0, .ref (E.2.2 x0)), (1, .long x1), (3, .long x3), (5, .int x5)]) C (dq DX8_stops 33 rfl) 4 rfl rfl (by decide) rfl ?_
  refine x_goto (tgt := 6) C (dq DX8_stops 34 rfl) (by decide) ?_
  cases h
  exact x_lv [1, 2, 3, 4, 0] rfl (kb (x5, x6 + 1, mm) rfl)
set_option maxHeartbeats 1000000 in
theorem tX8_stops_6 {G : Gt} {l : Launch} {E : Ev} {S : List Sh} {x0 : Nat} {x1 : Int64} {x3 : Int64} {x5 : Int32} {x6 : Int32} {mm : Mm} {r : (Int32 × Int32 × Mm) ⊕ (Int32 × Mm)} (C : Cx G E cX8_stops 9 RX8 none 3 78) (g0 : isC S x0 8) (h : bX8_stops_6 S x0 x1 x3 x5 x6 mm = some r) (kb : ∀ z : Int32 × Int32 × Mm, r = .inl z → WM G l E S 6 [(0, .ref (E.2.2 x0)), (1, .long x1), (3, .long x3), (5, .int z.1), (6, .int z.2.1)] [] z.2.2) (kx : ∀ z : Int32 × Mm, r = .inr z → WM G l E S 63 [(0, .ref (E.2.2 x0)), (1, .long x1), (3, .long x3), (5, .int z.1)] [] z.2) : WM G l E S 6 [(0, .ref (E.2.2 x0)), (1, .long x1), (3, .long x3), (5, .int x5), (6, .int x6)] [] mm := by
  unfold bX8_stops_6 at h
  refine x_iload C (dq DX8_stops 4 rfl) 4 rfl ?_
  refine x_aload_n C (dq DX8_stops 5 rfl) rfl 0 rfl ?_
  refine callX8_248 C (dq DX8_stops 6 rfl) h (by decide) (by decide) (Nat.le_of_ble_eq_true rfl) (fun a1 h => ?_)
  refine x_icmp_ge (tgt := 63) C (dq DX8_stops 7 rfl) (by decide) h (fun h => ?_) (fun h => ?_)
  · cases h
    exact x_lv [0, 1, 2, 3] rfl (kx (x5, mm) rfl)
  · refine x_pc 15 rfl ?_
    refine x_aload_n C (dq DX8_stops 8 rfl) rfl 0 rfl ?_
    refine x_iload C (dq DX8_stops 9 rfl) 4 rfl ?_
    refine callX8_367 C (dq DX8_stops 10 rfl) h (by decide) (by decide) (Nat.le_of_ble_eq_true rfl) (fun a2 m3 h => ?_)
    refine x_istore (lv' := [(7, .int a2), (0, .ref (E.2.2 x0)), (1, .long x1), (3, .long x3), (5, .int x5), (6, .int x6)]) C (dq DX8_stops 11 rfl) (by decide) rfl ?_
    refine x_iload C (dq DX8_stops 12 rfl) 0 rfl ?_
    refine x_pc 25 rfl ?_
    refine x_if_le (tgt := 57) C (dq DX8_stops 13 rfl) (by decide) h (fun h => ?_) (fun h => ?_)
    · exact x_lv [1, 2, 3, 4, 5] rfl (tX8_stops_57 C g0 h kb kx)
    · refine x_aload_n C (dq DX8_stops 14 rfl) rfl 1 rfl ?_
      refine getX8_356 C (dq DX8_stops 15 rfl) g0 ?_
      refine x_lload_n C (dq DX8_stops 16 rfl) rfl 3 rfl ?_
      refine x_lmul C (dq DX8_stops 17 rfl) ?_
      refine x_pc 34 rfl ?_
      refine x_lload_n C (dq DX8_stops 18 rfl) rfl 2 rfl ?_
      refine x_aload_n C (dq DX8_stops 19 rfl) rfl 1 rfl ?_
      refine getX8_360 C (dq DX8_stops 20 rfl) g0 ?_
      refine x_lmul C (dq DX8_stops 21 rfl) ?_
      refine x_iload C (dq DX8_stops 22 rfl) 0 rfl ?_
      refine x_pc 42 rfl ?_
      refine x_i2l C (dq DX8_stops 23 rfl) ?_
      refine x_lmul C (dq DX8_stops 24 rfl) ?_
      refine x_lcmp C (dq DX8_stops 25 rfl) ?_
      refine x_if_ne (tgt := 57) C (dq DX8_stops 26 rfl) (by decide) h (fun h => ?_) (fun h => ?_)
      · exact x_lv [1, 2, 3, 4, 5] rfl (tX8_stops_57 C g0 h kb kx)
      · refine x_iload C (dq DX8_stops 27 rfl) 4 rfl ?_
        refine x_pc 50 rfl ?_
        refine x_iconst (v := 1) C (dq DX8_stops 28 rfl) (by decide) ?_
        refine x_iload C (dq DX8_stops 29 rfl) 5 rfl ?_
        refine x_ishl C (dq DX8_stops 30 rfl) ?_
        refine x_ior C (dq DX8_stops 31 rfl) ?_
        refine x_istore (lv' := [(5, .int (x5 ||| (1 <<< (x6 &&& 31)))), (7, .int a2), (0, .ref (E.2.2 x0)), (1, .long x1), (3, .long x3), (6, .int x6)]) C (dq DX8_stops 32 rfl) (by decide) rfl ?_
        exact x_lv [2, 3, 4, 0, 5] rfl (tX8_stops_57 C g0 h kb kx)
set_option maxHeartbeats 1000000 in
theorem tX8_stops_124 {G : Gt} {l : Launch} {E : Ev} {S : List Sh} {mm : Mm} {x0 : Nat} {x1 : Int64} {x3 : Int64} {x5 : Int32} {x6 : Int32} {x8 : Int32} {p0 : Int32} {r : (Int32 × Int32) ⊕ (Int32)} (C : Cx G E cX8_stops 9 RX8 none 3 78) (g0 : isC S x0 8) (h : jX8_stops_124 S mm x0 x1 x3 x5 x6 x8 p0 = some r) (kb : ∀ z : Int32 × Int32, r = .inl z → WM G l E S 81 [(0, .ref (E.2.2 x0)), (1, .long x1), (3, .long x3), (5, .int x5), (6, .int x6), (7, .int z.1), (8, .int z.2)] [] mm) (kx : ∀ z : Int32, r = .inr z → WM G l E S 132 [(0, .ref (E.2.2 x0)), (1, .long x1), (3, .long x3), (5, .int x5), (6, .int x6), (7, .int z)] [] mm) : WM G l E S 124 [(0, .ref (E.2.2 x0)), (1, .long x1), (3, .long x3), (5, .int x5), (6, .int x6), (8, .int x8)] [.int p0] mm := by
  unfold jX8_stops_124 at h
  refine x_istore (lv' := [(7, .int p0), (0, .ref (E.2.2 x0)), (1, .long x1), (3, .long x3), (5, .int x5), (6, .int x6), (8, .int x8)]) C (dq DX8_stops 70 rfl) (by decide) rfl ?_
  refine x_iinc (v := x8 + 1) (lv' := [(8, .int (x8 + 1)), (7, .int p0), (0, .ref (E.2.2 x0)), (1, .long x1), (3, .long x3), (5, .int x5), (6, .int x6)]) C (dq DX8_stops 71 rfl) 6 rfl rfl (by decide) rfl ?_
  refine x_goto (tgt := 81) C (dq DX8_stops 72 rfl) (by decide) ?_
  cases h
  exact x_lv [2, 3, 4, 5, 6, 1, 0] rfl (kb (p0, x8 + 1) rfl)
set_option maxHeartbeats 1000000 in
theorem tX8_stops_119 {G : Gt} {l : Launch} {E : Ev} {S : List Sh} {mm : Mm} {x0 : Nat} {x1 : Int64} {x3 : Int64} {x5 : Int32} {x6 : Int32} {x8 : Int32}  {r : (Int32 × Int32) ⊕ (Int32)} (C : Cx G E cX8_stops 9 RX8 none 3 78) (g0 : isC S x0 8) (h : jX8_stops_119 S mm x0 x1 x3 x5 x6 x8 = some r) (kb : ∀ z : Int32 × Int32, r = .inl z → WM G l E S 81 [(0, .ref (E.2.2 x0)), (1, .long x1), (3, .long x3), (5, .int x5), (6, .int x6), (7, .int z.1), (8, .int z.2)] [] mm) (kx : ∀ z : Int32, r = .inr z → WM G l E S 132 [(0, .ref (E.2.2 x0)), (1, .long x1), (3, .long x3), (5, .int x5), (6, .int x6), (7, .int z)] [] mm) : WM G l E S 119 [(0, .ref (E.2.2 x0)), (1, .long x1), (3, .long x3), (5, .int x5), (6, .int x6), (8, .int x8)] [] mm := by
  unfold jX8_stops_119 at h
  refine x_iconst (v := 1) C (dq DX8_stops 67 rfl) (by decide) ?_
  refine x_goto (tgt := 124) C (dq DX8_stops 68 rfl) (by decide) ?_
  exact x_lv [0, 1, 2, 3, 4, 5] rfl (tX8_stops_124 C g0 h kb kx)
set_option maxHeartbeats 1000000 in
theorem tX8_stops_81 {G : Gt} {l : Launch} {E : Ev} {S : List Sh} {mm : Mm} {x0 : Nat} {x1 : Int64} {x3 : Int64} {x5 : Int32} {x6 : Int32} {x7 : Int32} {x8 : Int32} {r : (Int32 × Int32) ⊕ (Int32)} (C : Cx G E cX8_stops 9 RX8 none 3 78) (g0 : isC S x0 8) (h : bX8_stops_81 S mm x0 x1 x3 x5 x6 x7 x8 = some r) (kb : ∀ z : Int32 × Int32, r = .inl z → WM G l E S 81 [(0, .ref (E.2.2 x0)), (1, .long x1), (3, .long x3), (5, .int x5), (6, .int x6), (7, .int z.1), (8, .int z.2)] [] mm) (kx : ∀ z : Int32, r = .inr z → WM G l E S 132 [(0, .ref (E.2.2 x0)), (1, .long x1), (3, .long x3), (5, .int x5), (6, .int x6), (7, .int z)] [] mm) : WM G l E S 81 [(0, .ref (E.2.2 x0)), (1, .long x1), (3, .long x3), (5, .int x5), (6, .int x6), (7, .int x7), (8, .int x8)] [] mm := by
  unfold bX8_stops_81 at h
  refine x_iload C (dq DX8_stops 45 rfl) 6 rfl ?_
  refine x_aload_n C (dq DX8_stops 46 rfl) rfl 0 rfl ?_
  refine getX8_47 C (dq DX8_stops 47 rfl) g0 ?_
  refine x_iload C (dq DX8_stops 48 rfl) 4 rfl ?_
  refine x_pc 89 rfl ?_
  refine x_iald C (dq DX8_stops 49 rfl) h (fun a7 h => ?_)
  refine x_icmp_ge (tgt := 132) C (dq DX8_stops 50 rfl) (by decide) h (fun h => ?_) (fun h => ?_)
  · cases h
    exact x_lv [0, 1, 2, 3, 4, 5] rfl (kx (x7) rfl)
  · refine x_iload C (dq DX8_stops 51 rfl) 5 rfl ?_
    refine x_if_ne (tgt := 119) C (dq DX8_stops 52 rfl) (by decide) h (fun h => ?_) (fun h => ?_)
    · exact x_lv [0, 1, 2, 3, 4, 6] rfl (tX8_stops_119 C g0 h kb kx)
    · refine x_iload C (dq DX8_stops 53 rfl) 3 rfl ?_
      refine x_pc 100 rfl ?_
      refine x_aload_n C (dq DX8_stops 54 rfl) rfl 0 rfl ?_
      refine getX8_50 C (dq DX8_stops 55 rfl) g0 ?_
      refine x_iconst (v := 5) C (dq DX8_stops 56 rfl) (by decide) ?_
      refine x_iload C (dq DX8_stops 57 rfl) 4 rfl ?_
      refine x_imul C (dq DX8_stops 58 rfl) ?_
      refine x_pc 108 rfl ?_
      refine x_iload C (dq DX8_stops 59 rfl) 6 rfl ?_
      refine x_iadd C (dq DX8_stops 60 rfl) ?_
      refine x_iald C (dq DX8_stops 61 rfl) h (fun a8 h => ?_)
      refine x_ishr C (dq DX8_stops 62 rfl) ?_
      refine x_iconst (v := 1) C (dq DX8_stops 63 rfl) (by decide) ?_
      refine x_pc 114 rfl ?_
      refine x_iand C (dq DX8_stops 64 rfl) ?_
      refine x_iconst (v := 1) C (dq DX8_stops 65 rfl) (by decide) ?_
      refine x_icmp_ne (tgt := 123) C (dq DX8_stops 66 rfl) (by decide) h (fun h => ?_) (fun h => ?_)
      · refine x_iconst (v := 0) C (dq DX8_stops 69 rfl) (by decide) ?_
        exact x_lv [0, 1, 2, 3, 4, 6] rfl (tX8_stops_124 C g0 h kb kx)
      · exact x_lv [0, 1, 2, 3, 4, 6] rfl (tX8_stops_119 C g0 h kb kx)
set_option maxHeartbeats 1000000 in
theorem tX8_stops_174 {G : Gt} {l : Launch} {E : Ev} {S : List Sh} {mm : Mm} {x0 : Nat} {x1 : Int64} {x3 : Int64} {x5 : Int32} {x6 : Int32}  {r : (Int32 × Mm) ⊕ (Mm)} (C : Cx G E cX8_stops 9 RX8 none 3 78) (g0 : isC S x0 8) (h : jX8_stops_174 S mm x0 x1 x3 x5 x6 = some r) (kb : ∀ z : Int32 × Mm, r = .inl z → WM G l E S 66 [(0, .ref (E.2.2 x0)), (1, .long x1), (3, .long x3), (5, .int x5), (6, .int z.1)] [] z.2) (kx : ∀ z : Mm, r = .inr z → WM G l E S 180 [(0, .ref (E.2.2 x0)), (1, .long x1), (3, .long x3), (5, .int x5)] [] z) : WM G l E S 174 [(0, .ref (E.2.2 x0)), (1, .long x1), (3, .long x3), (5, .int x5), (6, .int x6)] [] mm := by
  unfold jX8_stops_174 at h
  refine x_iinc (v := x6 + 1) (lv' := [(6, .int (x6 + 1)), (0, .ref (E.2.2 x0)), (1, .long x1), (3, .long x3), (5, .int x5)]) C (dq DX8_stops 96 rfl) 4 rfl rfl (by decide) rfl ?_
  refine x_goto (tgt := 66) C (dq DX8_stops 97 rfl) (by decide) ?_
  cases h
  exact x_lv [1, 2, 3, 4, 0] rfl (kb (x6 + 1, mm) rfl)
set_option maxHeartbeats 1000000 in
theorem tX8_stops_66 {G : Gt} {l : Launch} {E : Ev} {S : List Sh} {x0 : Nat} {x1 : Int64} {x3 : Int64} {x5 : Int32} {x6 : Int32} {mm : Mm} {r : (Int32 × Mm) ⊕ (Mm)} (C : Cx G E cX8_stops 9 RX8 none 3 78) (g0 : isC S x0 8) (h : bX8_stops_66 S x0 x1 x3 x5 x6 mm = some r) (kb : ∀ z : Int32 × Mm, r = .inl z → WM G l E S 66 [(0, .ref (E.2.2 x0)), (1, .long x1), (3, .long x3), (5, .int x5), (6, .int z.1)] [] z.2) (kx : ∀ z : Mm, r = .inr z → WM G l E S 180 [(0, .ref (E.2.2 x0)), (1, .long x1), (3, .long x3), (5, .int x5)] [] z) : WM G l E S 66 [(0, .ref (E.2.2 x0)), (1, .long x1), (3, .long x3), (5, .int x5), (6, .int x6)] [] mm := by
  unfold bX8_stops_66 at h
  refine x_iload C (dq DX8_stops 37 rfl) 4 rfl ?_
  refine x_aload_n C (dq DX8_stops 38 rfl) rfl 0 rfl ?_
  refine callX8_251 C (dq DX8_stops 39 rfl) h (by decide) (by decide) (Nat.le_of_ble_eq_true rfl) (fun a6 h => ?_)
  refine x_icmp_ge (tgt := 180) C (dq DX8_stops 40 rfl) (by decide) h (fun h => ?_) (fun h => ?_)
  · cases h
    exact x_lv [0, 1, 2, 3] rfl (kx (mm) rfl)
  · refine x_pc 75 rfl ?_
    refine x_iconst (v := 0) C (dq DX8_stops 41 rfl) (by decide) ?_
    refine x_istore (lv' := [(7, .int 0), (0, .ref (E.2.2 x0)), (1, .long x1), (3, .long x3), (5, .int x5), (6, .int x6)]) C (dq DX8_stops 42 rfl) (by decide) rfl ?_
    refine x_iconst (v := 0) C (dq DX8_stops 43 rfl) (by decide) ?_
    refine x_istore (lv' := [(8, .int 0), (7, .int 0), (0, .ref (E.2.2 x0)), (1, .long x1), (3, .long x3), (5, .int x5), (6, .int x6)]) C (dq DX8_stops 44 rfl) (by decide) rfl ?_
    refine x_lv [2, 3, 4, 5, 6, 1, 0] rfl ?_
    refine x_loop (s0 := (0, 0)) (fun s9 => WM G l E S 81 [(0, .ref (E.2.2 x0)), (1, .long x1), (3, .long x3), (5, .int x5), (6, .int x6), (7, .int s9.1), (8, .int s9.2)] [] mm) h (fun s9 r hb kb kx => tX8_stops_81 C g0 hb kb (fun y10 hy => ?_))
    have h := kx y10 hy
    clear kx kb hb hy
    refine x_aload_n C (dq DX8_stops 73 rfl) rfl 0 rfl ?_
    refine x_pc 133 rfl ?_
    refine getX8_103 C (dq DX8_stops 74 rfl) g0 ?_
    refine x_iload C (dq DX8_stops 75 rfl) 4 rfl ?_
    refine x_zald C (dq DX8_stops 76 rfl) h (fun a11 h => ?_)
    refine x_if_ne (tgt := 174) C (dq DX8_stops 77 rfl) (by decide) h (fun h => ?_) (fun h => ?_)
    · exact x_lv [0, 1, 2, 3, 4] rfl (tX8_stops_174 C g0 h kb kx)
    · refine x_iload C (dq DX8_stops 78 rfl) 5 rfl ?_
      refine x_pc 144 rfl ?_
      refine x_if_ne (tgt := 150) C (dq DX8_stops 79 rfl) (by decide) h (fun h => ?_) (fun h => ?_)
      · refine x_aload_n C (dq DX8_stops 81 rfl) rfl 0 rfl ?_
        refine getX8_103 C (dq DX8_stops 82 rfl) g0 ?_
        refine x_iload C (dq DX8_stops 83 rfl) 4 rfl ?_
        refine x_iconst (v := 1) C (dq DX8_stops 84 rfl) (by decide) ?_
        refine x_pc 157 rfl ?_
        refine x_zast C (dq DX8_stops 85 rfl) h (fun m12 h => ?_)
        refine x_aload_n C (dq DX8_stops 86 rfl) rfl 0 rfl ?_
        refine getX8_96 C (dq DX8_stops 87 rfl) g0 ?_
        refine x_iload C (dq DX8_stops 88 rfl) 4 rfl ?_
        refine x_lload_n C (dq DX8_stops 89 rfl) rfl 1 rfl ?_
        refine x_pc 165 rfl ?_
        refine x_last C (dq DX8_stops 90 rfl) h (fun m13 h => ?_)
        refine x_aload_n C (dq DX8_stops 91 rfl) rfl 0 rfl ?_
        refine getX8_100 C (dq DX8_stops 92 rfl) g0 ?_
        refine x_iload C (dq DX8_stops 93 rfl) 4 rfl ?_
        refine x_lload_n C (dq DX8_stops 94 rfl) rfl 2 rfl ?_
        refine x_pc 173 rfl ?_
        refine x_last C (dq DX8_stops 95 rfl) h (fun m14 h => ?_)
        exact x_lv [0, 1, 2, 3, 4] rfl (tX8_stops_174 C g0 h kb kx)
      · refine x_goto (tgt := 174) C (dq DX8_stops 80 rfl) (by decide) ?_
        exact x_lv [0, 1, 2, 3, 4] rfl (tX8_stops_174 C g0 h kb kx)
set_option maxHeartbeats 1000000 in
theorem mX8_stops {l : Launch} {E : Ev} {S : List Sh} {mm : Mm} {x0 : Nat} {x1 : Int64} {x3 : Int64} {r : Mm} (h : fX8_stops S mm x0 x1 x3 = some r) : Ml l E S yX8_stops cX8_stops 9 none 3 78 [.ref (E.2.2 x0), .long x1, .long x3] mm none r := by
  refine Ml.of (by decide +kernel) (Nat.le_of_ble_eq_true rfl) (fun G C hQ => ?_)
  have C : Cx G E cX8_stops 9 RX8 none 3 78 := C
  unfold fX8_stops at h
  obtain ⟨g0, h⟩ := gd_some h
  show WM G l E S 0 [(0, .ref (E.2.2 x0)), (1, .long x1), (3, .long x3)] [] mm
  refine x_iconst (v := 0) C (dq DX8_stops 0 rfl) (by decide) ?_
  refine x_istore (lv' := [(5, .int 0), (0, .ref (E.2.2 x0)), (1, .long x1), (3, .long x3)]) C (dq DX8_stops 1 rfl) (by decide) rfl ?_
  refine x_iconst (v := 0) C (dq DX8_stops 2 rfl) (by decide) ?_
  refine x_istore (lv' := [(6, .int 0), (5, .int 0), (0, .ref (E.2.2 x0)), (1, .long x1), (3, .long x3)]) C (dq DX8_stops 3 rfl) (by decide) rfl ?_
  refine x_lv [2, 3, 4, 1, 0] rfl ?_
  refine x_loop (s0 := (0, 0, mm)) (fun s4 => WM G l E S 6 [(0, .ref (E.2.2 x0)), (1, .long x1), (3, .long x3), (5, .int s4.1), (6, .int s4.2.1)] [] s4.2.2) h (fun s4 r hb kb kx => tX8_stops_6 C g0 hb kb (fun y5 hy => ?_))
  have h := kx y5 hy
  clear kx kb hb hy
  refine x_pc 63 rfl ?_
  refine x_iconst (v := 0) C (dq DX8_stops 35 rfl) (by decide) ?_
  refine x_istore (lv' := [(6, .int 0), (0, .ref (E.2.2 x0)), (1, .long x1), (3, .long x3), (5, .int y5.1)]) C (dq DX8_stops 36 rfl) (by decide) rfl ?_
  refine x_lv [1, 2, 3, 4, 0] rfl ?_
  refine x_loop (s0 := (0, y5.2)) (fun s15 => WM G l E S 66 [(0, .ref (E.2.2 x0)), (1, .long x1), (3, .long x3), (5, .int y5.1), (6, .int s15.1)] [] s15.2) h (fun s15 r hb kb kx => tX8_stops_66 C g0 hb kb (fun y16 hy => ?_))
  have h := kx y16 hy
  clear kx kb hb hy
  cases h
  exact x_vret C (dq DX8_stops 98 rfl) hQ
set_option maxHeartbeats 1000000 in
theorem qX8_stops {S : List Sh} {mm : Mm} {x0 : Nat} {x1 : Int64} {x3 : Int64} {r : Mm} (h : fX8_stops S mm x0 x1 x3 = some r) : isC S x0 8 := by
  unfold fX8_stops at h
  exact (gd_some h).1
theorem callX8_370 {G : Gt} {l : Launch} {E : Ev} {S : List Sh} {cc : ByteArray} {nL : Nat} {rt : Option FieldType} {fr lo : Nat} {pc : Nat} {lv : List (Nat × Value)} {rest : List Value} {mm : Mm} {α : Type} {f : Mm → Option α} {r : α} {o : Nat} {a0 : Int64} {a1 : Int64} (C : Cx G E cc nL RX8 rt fr lo) (d : decode cc pc = .ok (.invokevirtual 370, 3)) (h : bd1 (fX8_stops S mm o a0 a1) f = some r) (hfr : 4 ≤ fr) (hlo : 106 ≤ lo) (hrs : (rest.map fun v => v.category).sum ≤ 8) (k : ∀ m1, f m1 = some r → WM G l E S (pc + 3) lv rest m1) : WM G l E S pc lv (.long a1 :: .long a0 :: .ref (E.2.2 o) :: rest) mm := by
  obtain ⟨m1, hv, hf⟩ := bd1_some h
  exact x_callV (n := 2) (As := [.long a0, .long a1]) (rest := rest) C (mX8_stops hv) (qX8_stops hv) (T := TX8) (N := 49) rfl (gmem 1387 (by decide +kernel) rfl) (gmem 1389 (by decide +kernel) rfl) (gmemS 93 (by decide +kernel) rfl) (gmem 9 (by decide +kernel) rfl) (gmem 1390 (by decide +kernel) rfl) (by decide +kernel) rfl hfr hlo hrs d rfl rfl (k m1 hf)
abbrev eX8_laysFair : List (Nat × Instr × Nat) := [(0, .iconst 0, 1), (1, .istore_n 1, 1), (2, .iload_n 1, 1), (3, .aload_n 0, 1), (4, .invokevirtual 251, 3), (7, .if_icmp .ge 42, 3), (10, .aload_n 0, 1), (11, .getfield 96, 3), (14, .iload_n 1, 1), (15, .lconst 0, 1), (16, .lastore, 1), (17, .aload_n 0, 1), (18, .getfield 100, 3), (21, .iload_n 1, 1), (22, .lconst 1, 1), (23, .lastore, 1), (24, .aload_n 0, 1), (25, .getfield 103, 3), (28, .iload_n 1, 1), (29, .aload_n 0, 1), (30, .iload_n 1, 1), (31, .invokevirtual 283, 3), (34, .ifCond .ne 7, 3), (37, .iconst 1, 1), (38, .goto 4, 3), (41, .iconst 0, 1), (42, .bastore, 1), (43, .iinc 1 1, 3), (46, .goto (-44), 3), (49, .iconst 1, 1), (50, .istore_n 1, 1), (51, .iload_n 1, 1), (52, .ifCond .eq 111, 3), (55, .iconst 0, 1), (56, .istore_n 1, 1), (57, .lconst 0, 1), (58, .lstore_n 2, 1), (59, .lconst 1, 1), (60, .lstore 4, 2), (62, .iconst 0, 1), (63, .istore 6, 2), (65, .iload 6, 2), (67, .aload_n 0, 1), (68, .invokevirtual 248, 3), (71, .if_icmp .ge 78, 3), (74, .aload_n 0, 1), (75, .iload 6, 2), (77, .invokevirtual 367, 3), (80, .istore 7, 2), (82, .iload 7, 2), (84, .ifCond .ne 6, 3), (87, .goto 56, 3), (90, .aload_n 0, 1), (91, .aload_n 0, 1), (92, .getfield 356, 3), (95, .aload_n 0, 1), (96, .getfield 360, 3), (99, .iload 7, 2), (101, .i2l, 1), (102, .lmul, 1), (103, .invokevirtual 363, 3), (106, .iload_n 1, 1), (107, .ifCond .eq 23, 3), (110, .aload_n 0, 1), (111, .getfield 356, 3), (114, .lload 4, 2), (116, .lmul, 1), (117, .lload_n 2, 1), (118, .aload_n 0, 1), (119, .getfield 360, 3), (122, .lmul, 1), (123, .lcmp, 1), (124, .ifCond .lt 6, 3), (127, .goto 16, 3), (130, .aload_n 0, 1), (131, .getfield 356, 3), (134, .lstore_n 2, 1), (135, .aload_n 0, 1), (136, .getfield 360, 3), (139, .lstore 4, 2), (141, .iconst 1, 1), (142, .istore_n 1, 1), (143, .iinc 6 1, 3), (146, .goto (-81), 3), (149, .iload_n 1, 1), (150, .ifCond .eq 10, 3), (153, .aload_n 0, 1), (154, .lload_n 2, 1), (155, .lload 4, 2), (157, .invokevirtual 370, 3), (160, .goto (-109), 3), (163, .return_, 1)]
theorem DX8_laysFair : (eX8_laysFair.all fun q => decide (decode cX8_laysFair q.1 = .ok q.2)) = true := by decide +kernel
def jX8_laysFair_42 (S : List Sh) (mm : Mm) (x0 : Nat) (x1 : Int32) (p0 : Nat) (p1 : Int32) (p2 : Int32) : Option ((Int32 × Mm) ⊕ (Mm)) := bd1 (stA S 2 mm p0 p1 p2) fun m5 => some (.inl (x1 + 1, m5))
def bX8_laysFair_2 (S : List Sh) (x0 : Nat) (x1 : Int32) (mm : Mm) : Option ((Int32 × Mm) ⊕ (Mm)) := bd1 (fX8_flows S mm x0) fun a1 => if a1 ≤ x1 then (some (.inr (mm))) else (bd1 (stL S mm (rf S mm x0 43) x1 0) fun m2 => bd1 (stL S m2 (rf S m2 x0 44) x1 1) fun m3 => bd1 (fX8_isOn S m3 x0 x1) fun a4 => if ¬ a4 = 0 then (jX8_laysFair_42 S m3 x0 x1 (rf S m3 x0 45) x1 0) else (jX8_laysFair_42 S m3 x0 x1 (rf S m3 x0 45) x1 1))
def jX8_laysFair_143 (S : List Sh) (mm : Mm) (x0 : Nat) (x1 : Int32) (x2 : Int64) (x4 : Int64) (x6 : Int32)  : Option ((Int32 × Int64 × Int64 × Int32 × Mm) ⊕ (Int32 × Int64 × Int64 × Mm)) := some (.inl (x1, x2, x4, x6 + 1, mm))
def jX8_laysFair_130 (S : List Sh) (mm : Mm) (x0 : Nat) (x6 : Int32)  : Option ((Int32 × Int64 × Int64 × Int32 × Mm) ⊕ (Int32 × Int64 × Int64 × Mm)) := jX8_laysFair_143 S mm x0 1 (mm.2 x0 46) (mm.2 x0 47) x6
def bX8_laysFair_65 (S : List Sh) (x0 : Nat) (x1 : Int32) (x2 : Int64) (x4 : Int64) (x6 : Int32) (mm : Mm) : Option ((Int32 × Int64 × Int64 × Int32 × Mm) ⊕ (Int32 × Int64 × Int64 × Mm)) := bd1 (fX8_links S mm x0) fun a8 => if a8 ≤ x6 then (some (.inr (x1, x2, x4, mm))) else (bd2 (fX8_leftOf S mm x0 x6) fun a9 m10 => if ¬ a9 = 0 then (bd1 (fX8_tells S m10 x0 (m10.2 x0 46) ((m10.2 x0 47) * a9.toInt64)) fun m11 => if x1 = 0 then (jX8_laysFair_130 S m11 x0 x6) else (if (lg_cmp ((m11.2 x0 46) * x4) (x2 * (m11.2 x0 47))) < 0 then (jX8_laysFair_130 S m11 x0 x6) else (jX8_laysFair_143 S m11 x0 x1 x2 x4 x6))) else (jX8_laysFair_143 S m10 x0 x1 x2 x4 x6))
def jX8_laysFair_160 (S : List Sh) (mm : Mm) (x0 : Nat) (x1 : Int32)  : Option ((Int32 × Mm) ⊕ (Mm)) := some (.inl (x1, mm))
def bX8_laysFair_51 (S : List Sh) (x0 : Nat) (x1 : Int32) (mm : Mm) : Option ((Int32 × Mm) ⊕ (Mm)) := if x1 = 0 then (some (.inr (mm))) else (bd1 (lp (fun s12 => bX8_laysFair_65 S x0 s12.1 s12.2.1 s12.2.2.1 s12.2.2.2.1 s12.2.2.2.2) fu (0, 0, 1, 0, mm)) fun y13 => if y13.1 = 0 then (jX8_laysFair_160 S y13.2.2.2 x0 y13.1) else (bd1 (fX8_stops S y13.2.2.2 x0 y13.2.1 y13.2.2.1) fun m14 => jX8_laysFair_160 S m14 x0 y13.1))
def fX8_laysFair (S : List Sh) (mm : Mm) (x0 : Nat) : Option (Mm) := gd S x0 8 (bd1 (lp (fun s6 => bX8_laysFair_2 S x0 s6.1 s6.2) fu (0, mm)) fun y7 => bd1 (lp (fun s15 => bX8_laysFair_51 S x0 s15.1 s15.2) fu (1, y7)) fun y16 => some y16)
set_option maxHeartbeats 1000000 in
theorem tX8_laysFair_42 {G : Gt} {l : Launch} {E : Ev} {S : List Sh} {mm : Mm} {x0 : Nat} {x1 : Int32} {p0 : Nat} {p1 : Int32} {p2 : Int32} {r : (Int32 × Mm) ⊕ (Mm)} (C : Cx G E cX8_laysFair 8 RX8 none 4 106) (g0 : isC S x0 8) (h : jX8_laysFair_42 S mm x0 x1 p0 p1 p2 = some r) (kb : ∀ z : Int32 × Mm, r = .inl z → WM G l E S 2 [(0, .ref (E.2.2 x0)), (1, .int z.1)] [] z.2) (kx : ∀ z : Mm, r = .inr z → WM G l E S 49 [(0, .ref (E.2.2 x0))] [] z) : WM G l E S 42 [(0, .ref (E.2.2 x0)), (1, .int x1)] [.int p2, .int p1, .ref (E.2.2 p0)] mm := by
  unfold jX8_laysFair_42 at h
  refine x_zast C (dq DX8_laysFair 26 rfl) h (fun m5 h => ?_)
  refine x_iinc (v := x1 + 1) (lv' := [(1, .int (x1 + 1)), (0, .ref (E.2.2 x0))]) C (dq DX8_laysFair 27 rfl) 1 rfl rfl (by decide) rfl ?_
  refine x_goto (tgt := 2) C (dq DX8_laysFair 28 rfl) (by decide) ?_
  cases h
  exact x_lv [1, 0] rfl (kb (x1 + 1, m5) rfl)
set_option maxHeartbeats 1000000 in
theorem tX8_laysFair_2 {G : Gt} {l : Launch} {E : Ev} {S : List Sh} {x0 : Nat} {x1 : Int32} {mm : Mm} {r : (Int32 × Mm) ⊕ (Mm)} (C : Cx G E cX8_laysFair 8 RX8 none 4 106) (g0 : isC S x0 8) (h : bX8_laysFair_2 S x0 x1 mm = some r) (kb : ∀ z : Int32 × Mm, r = .inl z → WM G l E S 2 [(0, .ref (E.2.2 x0)), (1, .int z.1)] [] z.2) (kx : ∀ z : Mm, r = .inr z → WM G l E S 49 [(0, .ref (E.2.2 x0))] [] z) : WM G l E S 2 [(0, .ref (E.2.2 x0)), (1, .int x1)] [] mm := by
  unfold bX8_laysFair_2 at h
  refine x_iload_n C (dq DX8_laysFair 2 rfl) rfl 1 rfl ?_
  refine x_aload_n C (dq DX8_laysFair 3 rfl) rfl 0 rfl ?_
  refine callX8_251 C (dq DX8_laysFair 4 rfl) h (by decide) (by decide) (Nat.le_of_ble_eq_true rfl) (fun a1 h => ?_)
  refine x_icmp_ge (tgt := 49) C (dq DX8_laysFair 5 rfl) (by decide) h (fun h => ?_) (fun h => ?_)
  · cases h
    exact x_lv [0] rfl (kx (mm) rfl)
  · refine x_pc 10 rfl ?_
    refine x_aload_n C (dq DX8_laysFair 6 rfl) rfl 0 rfl ?_
    refine getX8_96 C (dq DX8_laysFair 7 rfl) g0 ?_
    refine x_iload_n C (dq DX8_laysFair 8 rfl) rfl 1 rfl ?_
    refine x_lconst (v := 0) C (dq DX8_laysFair 9 rfl) rfl ?_
    refine x_last C (dq DX8_laysFair 10 rfl) h (fun m2 h => ?_)
    refine x_pc 17 rfl ?_
    refine x_aload_n C (dq DX8_laysFair 11 rfl) rfl 0 rfl ?_
    refine getX8_100 C (dq DX8_laysFair 12 rfl) g0 ?_
    refine x_iload_n C (dq DX8_laysFair 13 rfl) rfl 1 rfl ?_
    refine x_lconst (v := 1) C (dq DX8_laysFair 14 rfl) rfl ?_
    refine x_last C (dq DX8_laysFair 15 rfl) h (fun m3 h => ?_)
    refine x_pc 24 rfl ?_
    refine x_aload_n C (dq DX8_laysFair 16 rfl) rfl 0 rfl ?_
    refine getX8_103 C (dq DX8_laysFair 17 rfl) g0 ?_
    refine x_iload_n C (dq DX8_laysFair 18 rfl) rfl 1 rfl ?_
    refine x_aload_n C (dq DX8_laysFair 19 rfl) rfl 0 rfl ?_
    refine x_iload_n C (dq DX8_laysFair 20 rfl) rfl 1 rfl ?_
    refine x_pc 31 rfl ?_
    refine callX8_283 C (dq DX8_laysFair 21 rfl) h (by decide) (by decide) (Nat.le_of_ble_eq_true rfl) (fun a4 h => ?_)
    refine x_if_ne (tgt := 41) C (dq DX8_laysFair 22 rfl) (by decide) h (fun h => ?_) (fun h => ?_)
    · refine x_iconst (v := 0) C (dq DX8_laysFair 25 rfl) (by decide) ?_
      exact x_lv [0, 1] rfl (tX8_laysFair_42 C g0 h kb kx)
    · refine x_iconst (v := 1) C (dq DX8_laysFair 23 rfl) (by decide) ?_
      refine x_goto (tgt := 42) C (dq DX8_laysFair 24 rfl) (by decide) ?_
      exact x_lv [0, 1] rfl (tX8_laysFair_42 C g0 h kb kx)
set_option maxHeartbeats 1000000 in
theorem tX8_laysFair_143 {G : Gt} {l : Launch} {E : Ev} {S : List Sh} {mm : Mm} {x0 : Nat} {x1 : Int32} {x2 : Int64} {x4 : Int64} {x6 : Int32}  {r : (Int32 × Int64 × Int64 × Int32 × Mm) ⊕ (Int32 × Int64 × Int64 × Mm)} (C : Cx G E cX8_laysFair 8 RX8 none 4 106) (g0 : isC S x0 8) (h : jX8_laysFair_143 S mm x0 x1 x2 x4 x6 = some r) (kb : ∀ z : Int32 × Int64 × Int64 × Int32 × Mm, r = .inl z → WM G l E S 65 [(0, .ref (E.2.2 x0)), (1, .int z.1), (2, .long z.2.1), (4, .long z.2.2.1), (6, .int z.2.2.2.1)] [] z.2.2.2.2) (kx : ∀ z : Int32 × Int64 × Int64 × Mm, r = .inr z → WM G l E S 149 [(0, .ref (E.2.2 x0)), (1, .int z.1), (2, .long z.2.1), (4, .long z.2.2.1)] [] z.2.2.2) : WM G l E S 143 [(0, .ref (E.2.2 x0)), (1, .int x1), (2, .long x2), (4, .long x4), (6, .int x6)] [] mm := by
  unfold jX8_laysFair_143 at h
  refine x_iinc (v := x6 + 1) (lv' := [(6, .int (x6 + 1)), (0, .ref (E.2.2 x0)), (1, .int x1), (2, .long x2), (4, .long x4)]) C (dq DX8_laysFair 82 rfl) 4 rfl rfl (by decide) rfl ?_
  refine x_goto (tgt := 65) C (dq DX8_laysFair 83 rfl) (by decide) ?_
  cases h
  exact x_lv [1, 2, 3, 4, 0] rfl (kb (x1, x2, x4, x6 + 1, mm) rfl)
set_option maxHeartbeats 1000000 in
theorem tX8_laysFair_130 {G : Gt} {l : Launch} {E : Ev} {S : List Sh} {mm : Mm} {x0 : Nat} {x6 : Int32}  {r : (Int32 × Int64 × Int64 × Int32 × Mm) ⊕ (Int32 × Int64 × Int64 × Mm)} (C : Cx G E cX8_laysFair 8 RX8 none 4 106) (g0 : isC S x0 8) (h : jX8_laysFair_130 S mm x0 x6 = some r) (kb : ∀ z : Int32 × Int64 × Int64 × Int32 × Mm, r = .inl z → WM G l E S 65 [(0, .ref (E.2.2 x0)), (1, .int z.1), (2, .long z.2.1), (4, .long z.2.2.1), (6, .int z.2.2.2.1)] [] z.2.2.2.2) (kx : ∀ z : Int32 × Int64 × Int64 × Mm, r = .inr z → WM G l E S 149 [(0, .ref (E.2.2 x0)), (1, .int z.1), (2, .long z.2.1), (4, .long z.2.2.1)] [] z.2.2.2) : WM G l E S 130 [(0, .ref (E.2.2 x0)), (6, .int x6)] [] mm := by
  unfold jX8_laysFair_130 at h
  refine x_aload_n C (dq DX8_laysFair 74 rfl) rfl 0 rfl ?_
  refine getX8_356 C (dq DX8_laysFair 75 rfl) g0 ?_
  refine x_lstore_n (lv' := [(2, .long (mm.2 x0 46)), (0, .ref (E.2.2 x0)), (6, .int x6)]) C (dq DX8_laysFair 76 rfl) rfl (by decide) rfl ?_
  refine x_aload_n C (dq DX8_laysFair 77 rfl) rfl 1 rfl ?_
  refine x_pc 136 rfl ?_
  refine getX8_360 C (dq DX8_laysFair 78 rfl) g0 ?_
  refine x_lstore (lv' := [(4, .long (mm.2 x0 47)), (2, .long (mm.2 x0 46)), (0, .ref (E.2.2 x0)), (6, .int x6)]) C (dq DX8_laysFair 79 rfl) (by decide) rfl ?_
  refine x_iconst (v := 1) C (dq DX8_laysFair 80 rfl) (by decide) ?_
  refine x_istore_n (lv' := [(1, .int 1), (4, .long (mm.2 x0 47)), (2, .long (mm.2 x0 46)), (0, .ref (E.2.2 x0)), (6, .int x6)]) C (dq DX8_laysFair 81 rfl) rfl (by decide) rfl ?_
  exact x_lv [3, 0, 2, 1, 4] rfl (tX8_laysFair_143 C g0 h kb kx)
set_option maxHeartbeats 1000000 in
theorem tX8_laysFair_65 {G : Gt} {l : Launch} {E : Ev} {S : List Sh} {x0 : Nat} {x1 : Int32} {x2 : Int64} {x4 : Int64} {x6 : Int32} {mm : Mm} {r : (Int32 × Int64 × Int64 × Int32 × Mm) ⊕ (Int32 × Int64 × Int64 × Mm)} (C : Cx G E cX8_laysFair 8 RX8 none 4 106) (g0 : isC S x0 8) (h : bX8_laysFair_65 S x0 x1 x2 x4 x6 mm = some r) (kb : ∀ z : Int32 × Int64 × Int64 × Int32 × Mm, r = .inl z → WM G l E S 65 [(0, .ref (E.2.2 x0)), (1, .int z.1), (2, .long z.2.1), (4, .long z.2.2.1), (6, .int z.2.2.2.1)] [] z.2.2.2.2) (kx : ∀ z : Int32 × Int64 × Int64 × Mm, r = .inr z → WM G l E S 149 [(0, .ref (E.2.2 x0)), (1, .int z.1), (2, .long z.2.1), (4, .long z.2.2.1)] [] z.2.2.2) : WM G l E S 65 [(0, .ref (E.2.2 x0)), (1, .int x1), (2, .long x2), (4, .long x4), (6, .int x6)] [] mm := by
  unfold bX8_laysFair_65 at h
  refine x_iload C (dq DX8_laysFair 41 rfl) 4 rfl ?_
  refine x_aload_n C (dq DX8_laysFair 42 rfl) rfl 0 rfl ?_
  refine callX8_248 C (dq DX8_laysFair 43 rfl) h (by decide) (by decide) (Nat.le_of_ble_eq_true rfl) (fun a8 h => ?_)
  refine x_icmp_ge (tgt := 149) C (dq DX8_laysFair 44 rfl) (by decide) h (fun h => ?_) (fun h => ?_)
  · cases h
    exact x_lv [0, 1, 2, 3] rfl (kx (x1, x2, x4, mm) rfl)
  · refine x_pc 74 rfl ?_
    refine x_aload_n C (dq DX8_laysFair 45 rfl) rfl 0 rfl ?_
    refine x_iload C (dq DX8_laysFair 46 rfl) 4 rfl ?_
    refine callX8_367 C (dq DX8_laysFair 47 rfl) h (by decide) (by decide) (Nat.le_of_ble_eq_true rfl) (fun a9 m10 h => ?_)
    refine x_istore (lv' := [(7, .int a9), (0, .ref (E.2.2 x0)), (1, .int x1), (2, .long x2), (4, .long x4), (6, .int x6)]) C (dq DX8_laysFair 48 rfl) (by decide) rfl ?_
    refine x_iload C (dq DX8_laysFair 49 rfl) 0 rfl ?_
    refine x_pc 84 rfl ?_
    refine x_if_ne (tgt := 90) C (dq DX8_laysFair 50 rfl) (by decide) h (fun h => ?_) (fun h => ?_)
    · refine x_aload_n C (dq DX8_laysFair 52 rfl) rfl 1 rfl ?_
      refine x_aload_n C (dq DX8_laysFair 53 rfl) rfl 1 rfl ?_
      refine getX8_356 C (dq DX8_laysFair 54 rfl) g0 ?_
      refine x_aload_n C (dq DX8_laysFair 55 rfl) rfl 1 rfl ?_
      refine x_pc 96 rfl ?_
      refine getX8_360 C (dq DX8_laysFair 56 rfl) g0 ?_
      refine x_iload C (dq DX8_laysFair 57 rfl) 0 rfl ?_
      refine x_i2l C (dq DX8_laysFair 58 rfl) ?_
      refine x_lmul C (dq DX8_laysFair 59 rfl) ?_
      refine callX8_363 C (dq DX8_laysFair 60 rfl) h (by decide) (by decide) (Nat.le_of_ble_eq_true rfl) (fun m11 h => ?_)
      refine x_pc 106 rfl ?_
      refine x_iload_n C (dq DX8_laysFair 61 rfl) rfl 2 rfl ?_
      refine x_if_eq (tgt := 130) C (dq DX8_laysFair 62 rfl) (by decide) h (fun h => ?_) (fun h => ?_)
      · exact x_lv [1, 5] rfl (tX8_laysFair_130 C g0 h kb kx)
      · refine x_aload_n C (dq DX8_laysFair 63 rfl) rfl 1 rfl ?_
        refine getX8_356 C (dq DX8_laysFair 64 rfl) g0 ?_
        refine x_lload C (dq DX8_laysFair 65 rfl) 4 rfl ?_
        refine x_pc 116 rfl ?_
        refine x_lmul C (dq DX8_laysFair 66 rfl) ?_
        refine x_lload_n C (dq DX8_laysFair 67 rfl) rfl 3 rfl ?_
        refine x_aload_n C (dq DX8_laysFair 68 rfl) rfl 1 rfl ?_
        refine getX8_360 C (dq DX8_laysFair 69 rfl) g0 ?_
        refine x_lmul C (dq DX8_laysFair 70 rfl) ?_
        refine x_pc 123 rfl ?_
        refine x_lcmp C (dq DX8_laysFair 71 rfl) ?_
        refine x_if_lt (tgt := 130) C (dq DX8_laysFair 72 rfl) (by decide) h (fun h => ?_) (fun h => ?_)
        · exact x_lv [1, 5] rfl (tX8_laysFair_130 C g0 h kb kx)
        · refine x_goto (tgt := 143) C (dq DX8_laysFair 73 rfl) (by decide) ?_
          exact x_lv [1, 2, 3, 4, 5] rfl (tX8_laysFair_143 C g0 h kb kx)
    · refine x_goto (tgt := 143) C (dq DX8_laysFair 51 rfl) (by decide) ?_
      exact x_lv [1, 2, 3, 4, 5] rfl (tX8_laysFair_143 C g0 h kb kx)
set_option maxHeartbeats 1000000 in
theorem tX8_laysFair_160 {G : Gt} {l : Launch} {E : Ev} {S : List Sh} {mm : Mm} {x0 : Nat} {x1 : Int32}  {r : (Int32 × Mm) ⊕ (Mm)} (C : Cx G E cX8_laysFair 8 RX8 none 4 106) (g0 : isC S x0 8) (h : jX8_laysFair_160 S mm x0 x1 = some r) (kb : ∀ z : Int32 × Mm, r = .inl z → WM G l E S 51 [(0, .ref (E.2.2 x0)), (1, .int z.1)] [] z.2) (kx : ∀ z : Mm, r = .inr z → WM G l E S 163 [(0, .ref (E.2.2 x0))] [] z) : WM G l E S 160 [(0, .ref (E.2.2 x0)), (1, .int x1)] [] mm := by
  unfold jX8_laysFair_160 at h
  refine x_goto (tgt := 51) C (dq DX8_laysFair 90 rfl) (by decide) ?_
  cases h
  exact x_lv [0, 1] rfl (kb (x1, mm) rfl)
set_option maxHeartbeats 1000000 in
theorem tX8_laysFair_51 {G : Gt} {l : Launch} {E : Ev} {S : List Sh} {x0 : Nat} {x1 : Int32} {mm : Mm} {r : (Int32 × Mm) ⊕ (Mm)} (C : Cx G E cX8_laysFair 8 RX8 none 4 106) (g0 : isC S x0 8) (h : bX8_laysFair_51 S x0 x1 mm = some r) (kb : ∀ z : Int32 × Mm, r = .inl z → WM G l E S 51 [(0, .ref (E.2.2 x0)), (1, .int z.1)] [] z.2) (kx : ∀ z : Mm, r = .inr z → WM G l E S 163 [(0, .ref (E.2.2 x0))] [] z) : WM G l E S 51 [(0, .ref (E.2.2 x0)), (1, .int x1)] [] mm := by
  unfold bX8_laysFair_51 at h
  refine x_iload_n C (dq DX8_laysFair 31 rfl) rfl 1 rfl ?_
  refine x_if_eq (tgt := 163) C (dq DX8_laysFair 32 rfl) (by decide) h (fun h => ?_) (fun h => ?_)
  · cases h
    exact x_lv [0] rfl (kx (mm) rfl)
  · refine x_iconst (v := 0) C (dq DX8_laysFair 33 rfl) (by decide) ?_
    refine x_istore_n (lv' := [(1, .int 0), (0, .ref (E.2.2 x0))]) C (dq DX8_laysFair 34 rfl) rfl (by decide) rfl ?_
    refine x_pc 57 rfl ?_
    refine x_lconst (v := 0) C (dq DX8_laysFair 35 rfl) rfl ?_
    refine x_lstore_n (lv' := [(2, .long 0), (1, .int 0), (0, .ref (E.2.2 x0))]) C (dq DX8_laysFair 36 rfl) rfl (by decide) rfl ?_
    refine x_lconst (v := 1) C (dq DX8_laysFair 37 rfl) rfl ?_
    refine x_lstore (lv' := [(4, .long 1), (2, .long 0), (1, .int 0), (0, .ref (E.2.2 x0))]) C (dq DX8_laysFair 38 rfl) (by decide) rfl ?_
    refine x_iconst (v := 0) C (dq DX8_laysFair 39 rfl) (by decide) ?_
    refine x_pc 63 rfl ?_
    refine x_istore (lv' := [(6, .int 0), (4, .long 1), (2, .long 0), (1, .int 0), (0, .ref (E.2.2 x0))]) C (dq DX8_laysFair 40 rfl) (by decide) rfl ?_
    refine x_lv [4, 3, 2, 1, 0] rfl ?_
    refine x_loop (s0 := (0, 0, 1, 0, mm)) (fun s12 => WM G l E S 65 [(0, .ref (E.2.2 x0)), (1, .int s12.1), (2, .long s12.2.1), (4, .long s12.2.2.1), (6, .int s12.2.2.2.1)] [] s12.2.2.2.2) h (fun s12 r hb kb kx => tX8_laysFair_65 C g0 hb kb (fun y13 hy => ?_))
    have h := kx y13 hy
    clear kx kb hb hy
    refine x_iload_n C (dq DX8_laysFair 84 rfl) rfl 1 rfl ?_
    refine x_if_eq (tgt := 160) C (dq DX8_laysFair 85 rfl) (by decide) h (fun h => ?_) (fun h => ?_)
    · exact x_lv [0, 1] rfl (tX8_laysFair_160 C g0 h kb kx)
    · refine x_aload_n C (dq DX8_laysFair 86 rfl) rfl 0 rfl ?_
      refine x_lload_n C (dq DX8_laysFair 87 rfl) rfl 2 rfl ?_
      refine x_pc 155 rfl ?_
      refine x_lload C (dq DX8_laysFair 88 rfl) 3 rfl ?_
      refine callX8_370 C (dq DX8_laysFair 89 rfl) h (by decide) (by decide) (Nat.le_of_ble_eq_true rfl) (fun m14 h => ?_)
      exact x_lv [0, 1] rfl (tX8_laysFair_160 C g0 h kb kx)
set_option maxHeartbeats 1000000 in
theorem mX8_laysFair {l : Launch} {E : Ev} {S : List Sh} {mm : Mm} {x0 : Nat} {r : Mm} (h : fX8_laysFair S mm x0 = some r) : Ml l E S yX8_laysFair cX8_laysFair 8 none 4 106 [.ref (E.2.2 x0)] mm none r := by
  refine Ml.of (by decide +kernel) (Nat.le_of_ble_eq_true rfl) (fun G C hQ => ?_)
  have C : Cx G E cX8_laysFair 8 RX8 none 4 106 := C
  unfold fX8_laysFair at h
  obtain ⟨g0, h⟩ := gd_some h
  show WM G l E S 0 [(0, .ref (E.2.2 x0))] [] mm
  refine x_iconst (v := 0) C (dq DX8_laysFair 0 rfl) (by decide) ?_
  refine x_istore_n (lv' := [(1, .int 0), (0, .ref (E.2.2 x0))]) C (dq DX8_laysFair 1 rfl) rfl (by decide) rfl ?_
  refine x_lv [1, 0] rfl ?_
  refine x_loop (s0 := (0, mm)) (fun s6 => WM G l E S 2 [(0, .ref (E.2.2 x0)), (1, .int s6.1)] [] s6.2) h (fun s6 r hb kb kx => tX8_laysFair_2 C g0 hb kb (fun y7 hy => ?_))
  have h := kx y7 hy
  clear kx kb hb hy
  refine x_iconst (v := 1) C (dq DX8_laysFair 29 rfl) (by decide) ?_
  refine x_istore_n (lv' := [(1, .int 1), (0, .ref (E.2.2 x0))]) C (dq DX8_laysFair 30 rfl) rfl (by decide) rfl ?_
  refine x_lv [1, 0] rfl ?_
  refine x_loop (s0 := (1, y7)) (fun s15 => WM G l E S 51 [(0, .ref (E.2.2 x0)), (1, .int s15.1)] [] s15.2) h (fun s15 r hb kb kx => tX8_laysFair_51 C g0 hb kb (fun y16 hy => ?_))
  have h := kx y16 hy
  clear kx kb hb hy
  refine x_pc 163 rfl ?_
  cases h
  exact x_vret C (dq DX8_laysFair 91 rfl) hQ
set_option maxHeartbeats 1000000 in
theorem qX8_laysFair {S : List Sh} {mm : Mm} {x0 : Nat} {r : Mm} (h : fX8_laysFair S mm x0 = some r) : isC S x0 8 := by
  unfold fX8_laysFair at h
  exact (gd_some h).1
