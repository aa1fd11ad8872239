abbrev eX5_ready : List (Nat × Instr × Nat) := [(0, .iload_n 1, 1), (1, .ifCond .lt 15, 3), (4, .aload_n 0, 1), (5, .bipush 120, 2), (7, .iload_n 1, 1), (8, .bipush 8, 2), (10, .imul, 1), (11, .iadd, 1), (12, .iload_n 2, 1), (13, .iadd, 1), (14, .iaload, 1), (15, .ireturn, 1), (16, .iload_n 1, 1), (17, .iconst (-1), 1), (18, .if_icmp .ne 16, 3), (21, .aload_n 0, 1), (22, .sipush 272, 3), (25, .iload_n 2, 1), (26, .iadd, 1), (27, .iaload, 1), (28, .bipush 16, 2), (30, .idiv, 1), (31, .goto 4, 3), (34, .iconst 0, 1), (35, .ireturn, 1)]
theorem DX5_ready : (eX5_ready.all fun q => decide (decode cX5_ready q.1 = .ok q.2)) = true := by decide +kernel
def jX5_ready_35 (S : List Sh) (mm : Mm)  (p0 : Int32) : Option (Int32) := some p0
def fX5_ready (S : List Sh) (mm : Mm) (x0 : Nat) (x1 : Int32) (x2 : Int32) : Option (Int32) := if x1 < 0 then (if ¬ x1 = (-1) then (jX5_ready_35 S mm 0) else (bd1 (ldA S 0 mm x0 (272 + x2)) fun a1 => bd1 (dvI a1 16) fun a2 => jX5_ready_35 S mm a2)) else (bd1 (ldA S 0 mm x0 ((120 + (x1 * 8)) + x2)) fun a3 => some a3)
set_option maxHeartbeats 1000000 in
theorem tX5_ready_35 {G : Gt} {l : Launch} {E : Ev} {S : List Sh} {mm : Mm}  {p0 : Int32} {r : Int32} (C : Cx G E cX5_ready 3 RX5 (some .int) 0 0)  (h : jX5_ready_35 S mm p0 = some r) (hQ : RQ G E S (some (.int r)) mm) : WM G l E S 35 [] [.int p0] mm := by
  unfold jX5_ready_35 at h
  cases h
  exact x_iret C (dq DX5_ready 24 rfl) hQ
set_option maxHeartbeats 1000000 in
theorem mX5_ready {l : Launch} {E : Ev} {S : List Sh} {mm : Mm} {x0 : Nat} {x1 : Int32} {x2 : Int32} {r : Int32} (h : fX5_ready S mm x0 x1 x2 = some r) : Ml l E S yX5_ready cX5_ready 3 (some .int) 0 0 [.ref (E.2.2 x0), .int x1, .int x2] mm (some (.int r)) mm := by
  refine Ml.of (by decide +kernel) (Nat.le_of_ble_eq_true rfl) (fun G C hQ => ?_)
  have C : Cx G E cX5_ready 3 RX5 (some .int) 0 0 := C
  unfold fX5_ready at h
  show WM G l E S 0 [(0, .ref (E.2.2 x0)), (1, .int x1), (2, .int x2)] [] mm
  refine x_iload_n C (dq DX5_ready 0 rfl) rfl 1 rfl ?_
  refine x_if_lt (tgt := 16) C (dq DX5_ready 1 rfl) (by decide) h (fun h => ?_) (fun h => ?_)
  · refine x_iload_n C (dq DX5_ready 12 rfl) rfl 1 rfl ?_
    refine x_iconst (v := (-1)) C (dq DX5_ready 13 rfl) (by decide) ?_
    refine x_pc 18 rfl ?_
    refine x_icmp_ne (tgt := 34) C (dq DX5_ready 14 rfl) (by decide) h (fun h => ?_) (fun h => ?_)
    · refine x_iconst (v := 0) C (dq DX5_ready 23 rfl) (by decide) ?_
      exact x_lv [] rfl (tX5_ready_35 C  h hQ)
    · refine x_aload_n C (dq DX5_ready 15 rfl) rfl 0 rfl ?_
      refine x_sipush (v := 272) C (dq DX5_ready 16 rfl) (by decide) ?_
      refine x_iload_n C (dq DX5_ready 17 rfl) rfl 2 rfl ?_
      refine x_iadd C (dq DX5_ready 18 rfl) ?_
      refine x_pc 27 rfl ?_
      refine x_iald C (dq DX5_ready 19 rfl) h (fun a1 h => ?_)
      refine x_bipush (v := 16) C (dq DX5_ready 20 rfl) (by decide) ?_
      refine x_idiv C (dq DX5_ready 21 rfl) h (fun a2 h => ?_)
      refine x_goto (tgt := 35) C (dq DX5_ready 22 rfl) (by decide) ?_
      exact x_lv [] rfl (tX5_ready_35 C  h hQ)
  · refine x_aload_n C (dq DX5_ready 2 rfl) rfl 0 rfl ?_
    refine x_bipush (v := 120) C (dq DX5_ready 3 rfl) (by decide) ?_
    refine x_pc 7 rfl ?_
    refine x_iload_n C (dq DX5_ready 4 rfl) rfl 1 rfl ?_
    refine x_bipush (v := 8) C (dq DX5_ready 5 rfl) (by decide) ?_
    refine x_imul C (dq DX5_ready 6 rfl) ?_
    refine x_iadd C (dq DX5_ready 7 rfl) ?_
    refine x_iload_n C (dq DX5_ready 8 rfl) rfl 2 rfl ?_
    refine x_pc 13 rfl ?_
    refine x_iadd C (dq DX5_ready 9 rfl) ?_
    refine x_iald C (dq DX5_ready 10 rfl) h (fun a3 h => ?_)
    cases h
    exact x_iret C (dq DX5_ready 11 rfl) hQ
theorem getX5_9 {G : Gt} {l : Launch} {E : Ev} {S : List Sh} {cc : ByteArray} {nL : Nat} {rt : Option FieldType} {fr lo : Nat} {pc : Nat} {lv : List (Nat × Value)} {st : List Value} {mm : Mm} {o : Nat} (C : Cx G E cc nL RX5 rt fr lo) (d : decode cc pc = .ok (.getfield 9, 3)) (hg : isC S o 5) (k : WM G l E S (pc + 3) lv (.ref (E.2.2 (rf S mm o 0)) :: st) mm) : WM G l E S pc lv (.ref (E.2.2 o) :: st) mm := x_get2 C hg (T := TX5) (N := 3) rfl inX5 (by decide) (i := 0) (gmem 87 (by decide +kernel) rfl) rfl rfl d k
theorem getX5_15 {G : Gt} {l : Launch} {E : Ev} {S : List Sh} {cc : ByteArray} {nL : Nat} {rt : Option FieldType} {fr lo : Nat} {pc : Nat} {lv : List (Nat × Value)} {st : List Value} {mm : Mm} {o : Nat} (C : Cx G E cc nL RX5 rt fr lo) (d : decode cc pc = .ok (.getfield 15, 3)) (hg : isC S o 5) (k : WM G l E S (pc + 3) lv (.ref (E.2.2 (rf S mm o 1)) :: st) mm) : WM G l E S pc lv (.ref (E.2.2 o) :: st) mm := x_get2 C hg (T := TX5) (N := 3) rfl inX5 (by decide) (i := 1) (gmem 88 (by decide +kernel) rfl) rfl rfl d k
abbrev eX5_giveEach : List (Nat × Instr × Nat) := [(0, .iconst 0, 1), (1, .istore 5, 2), (3, .iconst 0, 1), (4, .istore 6, 2), (6, .iload 6, 2), (8, .iload_n 2, 1), (9, .if_icmp .ge 53, 3), (12, .iload 5, 2), (14, .iload 4, 2), (16, .if_icmp .ge 46, 3), (19, .aload_n 0, 1), (20, .getfield 15, 3), (23, .iload 6, 2), (25, .iaload, 1), (26, .ifCond .le 30, 3), (29, .aload_n 0, 1), (30, .getfield 15, 3), (33, .iload 6, 2), (35, .dup2, 1), (36, .iaload, 1), (37, .iload_n 3, 1), (38, .isub, 1), (39, .iastore, 1), (40, .aload_n 0, 1), (41, .getfield 9, 3), (44, .iload_n 1, 1), (45, .iload 6, 2), (47, .iadd, 1), (48, .dup2, 1), (49, .iaload, 1), (50, .iload_n 3, 1), (51, .iadd, 1), (52, .iastore, 1), (53, .iinc 5 1, 3), (56, .iinc 6 1, 3), (59, .goto (-53), 3), (62, .iload 5, 2), (64, .iload_n 3, 1), (65, .imul, 1), (66, .ireturn, 1)]
theorem DX5_giveEach : (eX5_giveEach.all fun q => decide (decode cX5_giveEach q.1 = .ok q.2)) = true := by decide +kernel
def jX5_giveEach_56 (S : List Sh) (mm : Mm) (x0 : Nat) (x1 : Int32) (x2 : Int32) (x3 : Int32) (x4 : Int32) (x5 : Int32) (x6 : Int32)  : Option ((Int32 × Int32 × Mm) ⊕ (Int32 × Mm)) := some (.inl (x5, x6 + 1, mm))
def bX5_giveEach_6 (S : List Sh) (x0 : Nat) (x1 : Int32) (x2 : Int32) (x3 : Int32) (x4 : Int32) (x5 : Int32) (x6 : Int32) (mm : Mm) : Option ((Int32 × Int32 × Mm) ⊕ (Int32 × Mm)) := if x2 ≤ x6 then (some (.inr (x5, mm))) else (if x4 ≤ x5 then (some (.inr (x5, mm))) else (bd1 (ldA S 0 mm (rf S mm x0 1) x6) fun a1 => if a1 ≤ 0 then (jX5_giveEach_56 S mm x0 x1 x2 x3 x4 x5 x6) else (bd1 (ldA S 0 mm (rf S mm x0 1) x6) fun a2 => bd1 (stA S 0 mm (rf S mm x0 1) x6 (a2 - x3)) fun m3 => bd1 (ldA S 0 m3 (rf S m3 x0 0) (x1 + x6)) fun a4 => bd1 (stA S 0 m3 (rf S m3 x0 0) (x1 + x6) (a4 + x3)) fun m5 => jX5_giveEach_56 S m5 x0 x1 x2 x3 x4 (x5 + 1) x6)))
def jX5_giveEach_62 (S : List Sh) (mm : Mm) (x0 : Nat) (x3 : Int32) (x5 : Int32)  : Option (Int32 × Mm) := some ((x5 * x3), mm)
def fX5_giveEach (S : List Sh) (mm : Mm) (x0 : Nat) (x1 : Int32) (x2 : Int32) (x3 : Int32) (x4 : Int32) : Option (Int32 × Mm) := gd S x0 5 (bd1 (lp (fun s6 => bX5_giveEach_6 S x0 x1 x2 x3 x4 s6.1 s6.2.1 s6.2.2) fu (0, 0, mm)) fun y7 => jX5_giveEach_62 S y7.2 x0 x3 y7.1)
set_option maxHeartbeats 1000000 in
theorem tX5_giveEach_56 {G : Gt} {l : Launch} {E : Ev} {S : List Sh} {mm : Mm} {x0 : Nat} {x1 : Int32} {x2 : Int32} {x3 : Int32} {x4 : Int32} {x5 : Int32} {x6 : Int32}  {r : (Int32 × Int32 × Mm) ⊕ (Int32 × Mm)} (C : Cx G E cX5_giveEach 7 RX5 (some .int) 0 0) (g0 : isC S x0 5) (h : jX5_giveEach_56 S mm x0 x1 x2 x3 x4 x5 x6 = some r) (kb : ∀ z : Int32 × Int32 × Mm, r = .inl z → WM G l E S 6 [(0, .ref (E.2.2 x0)), (1, .int x1), (2, .int x2), (3, .int x3), (4, .int x4), (5, .int z.1), (6, .int z.2.1)] [] z.2.2) (kx : ∀ z : Int32 × Mm, r = .inr z → WM G l E S 62 [(0, .ref (E.2.2 x0)), (1, .int x1), (2, .int x2), (3, .int x3), (4, .int x4), (5, .int z.1)] [] z.2) : WM G l E S 56 [(0, .ref (E.2.2 x0)), (1, .int x1), (2, .int x2), (3, .int x3), (4, .int x4), (5, .int x5), (6, .int x6)] [] mm := by
  unfold jX5_giveEach_56 at h
  refine x_iinc (v := x6 + 1) (lv' := [(6, .int (x6 + 1)), (0, .ref (E.2.2 x0)), (1, .int x1), (2, .int x2), (3, .int x3), (4, .int x4), (5, .int x5)]) C (dq DX5_giveEach 34 rfl) 6 rfl rfl (by decide) rfl ?_
  refine x_goto (tgt := 6) C (dq DX5_giveEach 35 rfl) (by decide) ?_
  cases h
  exact x_lv [1, 2, 3, 4, 5, 6, 0] rfl (kb (x5, x6 + 1, mm) rfl)
set_option maxHeartbeats 1000000 in
theorem tX5_giveEach_6 {G : Gt} {l : Launch} {E : Ev} {S : List Sh} {x0 : Nat} {x1 : Int32} {x2 : Int32} {x3 : Int32} {x4 : Int32} {x5 : Int32} {x6 : Int32} {mm : Mm} {r : (Int32 × Int32 × Mm) ⊕ (Int32 × Mm)} (C : Cx G E cX5_giveEach 7 RX5 (some .int) 0 0) (g0 : isC S x0 5) (h : bX5_giveEach_6 S x0 x1 x2 x3 x4 x5 x6 mm = some r) (kb : ∀ z : Int32 × Int32 × Mm, r = .inl z → WM G l E S 6 [(0, .ref (E.2.2 x0)), (1, .int x1), (2, .int x2), (3, .int x3), (4, .int x4), (5, .int z.1), (6, .int z.2.1)] [] z.2.2) (kx : ∀ z : Int32 × Mm, r = .inr z → WM G l E S 62 [(0, .ref (E.2.2 x0)), (1, .int x1), (2, .int x2), (3, .int x3), (4, .int x4), (5, .int z.1)] [] z.2) : WM G l E S 6 [(0, .ref (E.2.2 x0)), (1, .int x1), (2, .int x2), (3, .int x3), (4, .int x4), (5, .int x5), (6, .int x6)] [] mm := by
  unfold bX5_giveEach_6 at h
  refine x_iload C (dq DX5_giveEach 4 rfl) 6 rfl ?_
  refine x_iload_n C (dq DX5_giveEach 5 rfl) rfl 2 rfl ?_
  refine x_icmp_ge (tgt := 62) C (dq DX5_giveEach 6 rfl) (by decide) h (fun h => ?_) (fun h => ?_)
  · cases h
    exact x_lv [0, 1, 2, 3, 4, 5] rfl (kx (x5, mm) rfl)
  · refine x_iload C (dq DX5_giveEach 7 rfl) 5 rfl ?_
    refine x_pc 14 rfl ?_
    refine x_iload C (dq DX5_giveEach 8 rfl) 4 rfl ?_
    refine x_icmp_ge (tgt := 62) C (dq DX5_giveEach 9 rfl) (by decide) h (fun h => ?_) (fun h => ?_)
    · cases h
      exact x_lv [0, 1, 2, 3, 4, 5] rfl (kx (x5, mm) rfl)
    · refine x_aload_n C (dq DX5_giveEach 10 rfl) rfl 0 rfl ?_
      refine getX5_15 C (dq DX5_giveEach 11 rfl) g0 ?_
      refine x_iload C (dq DX5_giveEach 12 rfl) 6 rfl ?_
      refine x_pc 25 rfl ?_
      refine x_iald C (dq DX5_giveEach 13 rfl) h (fun a1 h => ?_)
      refine x_if_le (tgt := 56) C (dq DX5_giveEach 14 rfl) (by decide) h (fun h => ?_) (fun h => ?_)
      · exact x_lv [0, 1, 2, 3, 4, 5, 6] rfl (tX5_giveEach_56 C g0 h kb kx)
      · refine x_aload_n C (dq DX5_giveEach 15 rfl) rfl 0 rfl ?_
        refine getX5_15 C (dq DX5_giveEach 16 rfl) g0 ?_
        refine x_iload C (dq DX5_giveEach 17 rfl) 6 rfl ?_
        refine x_pc 35 rfl ?_
        refine x_dup2 C (dq DX5_giveEach 18 rfl) rfl rfl ?_
        refine x_iald C (dq DX5_giveEach 19 rfl) h (fun a2 h => ?_)
        refine x_iload_n C (dq DX5_giveEach 20 rfl) rfl 3 rfl ?_
        refine x_isub C (dq DX5_giveEach 21 rfl) ?_
        refine x_iast C (dq DX5_giveEach 22 rfl) h (fun m3 h => ?_)
        refine x_pc 40 rfl ?_
        refine x_aload_n C (dq DX5_giveEach 23 rfl) rfl 0 rfl ?_
        refine getX5_9 C (dq DX5_giveEach 24 rfl) g0 ?_
        refine x_iload_n C (dq DX5_giveEach 25 rfl) rfl 1 rfl ?_
        refine x_iload C (dq DX5_giveEach 26 rfl) 6 rfl ?_
        refine x_iadd C (dq DX5_giveEach 27 rfl) ?_
        refine x_pc 48 rfl ?_
        refine x_dup2 C (dq DX5_giveEach 28 rfl) rfl rfl ?_
        refine x_iald C (dq DX5_giveEach 29 rfl) h (fun a4 h => ?_)
        refine x_iload_n C (dq DX5_giveEach 30 rfl) rfl 3 rfl ?_
        refine x_iadd C (dq DX5_giveEach 31 rfl) ?_
        refine x_iast C (dq DX5_giveEach 32 rfl) h (fun m5 h => ?_)
        refine x_pc 53 rfl ?_
        refine x_iinc (v := x5 + 1) (lv' := [(5, .int (x5 + 1)), (0, .ref (E.2.2 x0)), (1, .int x1), (2, .int x2), (3, .int x3), (4, .int x4), (6, .int x6)]) C (dq DX5_giveEach 33 rfl) 5 rfl rfl (by decide) rfl ?_
        exact x_lv [1, 2, 3, 4, 5, 0, 6] rfl (tX5_giveEach_56 C g0 h kb kx)
set_option maxHeartbeats 1000000 in
theorem tX5_giveEach_62 {G : Gt} {l : Launch} {E : Ev} {S : List Sh} {mm : Mm} {x0 : Nat} {x3 : Int32} {x5 : Int32}  {r : Int32 × Mm} (C : Cx G E cX5_giveEach 7 RX5 (some .int) 0 0) (g0 : isC S x0 5) (h : jX5_giveEach_62 S mm x0 x3 x5 = some r) (hQ : RQ G E S (some (.int r.1)) r.2) : WM G l E S 62 [(0, .ref (E.2.2 x0)), (3, .int x3), (5, .int x5)] [] mm := by
  unfold jX5_giveEach_62 at h
  refine x_iload C (dq DX5_giveEach 36 rfl) 2 rfl ?_
  refine x_iload_n C (dq DX5_giveEach 37 rfl) rfl 1 rfl ?_
  refine x_imul C (dq DX5_giveEach 38 rfl) ?_
  cases h
  exact x_iret C (dq DX5_giveEach 39 rfl) hQ
set_option maxHeartbeats 1000000 in
theorem mX5_giveEach {l : Launch} {E : Ev} {S : List Sh} {mm : Mm} {x0 : Nat} {x1 : Int32} {x2 : Int32} {x3 : Int32} {x4 : Int32} {r : Int32 × Mm} (h : fX5_giveEach S mm x0 x1 x2 x3 x4 = some r) : Ml l E S yX5_giveEach cX5_giveEach 7 (some .int) 0 0 [.ref (E.2.2 x0), .int x1, .int x2, .int x3, .int x4] mm (some (.int r.1)) r.2 := by
  refine Ml.of (by decide +kernel) (Nat.le_of_ble_eq_true rfl) (fun G C hQ => ?_)
  have C : Cx G E cX5_giveEach 7 RX5 (some .int) 0 0 := C
  unfold fX5_giveEach at h
  obtain ⟨g0, h⟩ := gd_some h
  show WM G l E S 0 [(0, .ref (E.2.2 x0)), (1, .int x1), (2, .int x2), (3, .int x3), (4, .int x4)] [] mm
  refine x_iconst (v := 0) C (dq DX5_giveEach 0 rfl) (by decide) ?_
  refine x_istore (lv' := [(5, .int 0), (0, .ref (E.2.2 x0)), (1, .int x1), (2, .int x2), (3, .int x3), (4, .int x4)]) C (dq DX5_giveEach 1 rfl) (by decide) rfl ?_
  refine x_iconst (v := 0) C (dq DX5_giveEach 2 rfl) (by decide) ?_
  refine x_istore (lv' := [(6, .int 0), (5, .int 0), (0, .ref (E.2.2 x0)), (1, .int x1), (2, .int x2), (3, .int x3), (4, .int x4)]) C (dq DX5_giveEach 3 rfl) (by decide) rfl ?_
  refine x_lv [2, 3, 4, 5, 6, 1, 0] rfl ?_
  refine x_loop (s0 := (0, 0, mm)) (fun s6 => WM G l E S 6 [(0, .ref (E.2.2 x0)), (1, .int x1), (2, .int x2), (3, .int x3), (4, .int x4), (5, .int s6.1), (6, .int s6.2.1)] [] s6.2.2) h (fun s6 r hb kb kx => tX5_giveEach_6 C g0 hb kb (fun y7 hy => ?_))
  have h := kx y7 hy
  clear kx kb hb hy
  exact x_lv [0, 3, 5] rfl (tX5_giveEach_62 C g0 h hQ)
set_option maxHeartbeats 1000000 in
theorem qX5_giveEach {S : List Sh} {mm : Mm} {x0 : Nat} {x1 : Int32} {x2 : Int32} {x3 : Int32} {x4 : Int32} {r : Int32 × Mm} (h : fX5_giveEach S mm x0 x1 x2 x3 x4 = some r) : isC S x0 5 := by
  unfold fX5_giveEach at h
  exact (gd_some h).1
theorem callX5_27 {G : Gt} {l : Launch} {E : Ev} {S : List Sh} {cc : ByteArray} {nL : Nat} {rt : Option FieldType} {fr lo : Nat} {pc : Nat} {lv : List (Nat × Value)} {rest : List Value} {mm : Mm} {x y : Int32} (C : Cx G E cc nL RX5 rt fr lo) (d : decode cc pc = .ok (.invokestatic 27, 3)) (h1 : 1 ≤ fr) (h2 : (rest.map fun v => v.category).sum + 13 ≤ lo) (k : WM G l E S (pc + 3) lv (.int (if y < x then y else x) :: rest) mm) : WM G l E S pc lv (.int y :: .int x :: rest) mm := x_mmin C d (gmem 440 (by decide +kernel) rfl) (gmem 296 (by decide +kernel) rfl) (gmem 10 (by decide +kernel) rfl) (gmem 297 (by decide +kernel) rfl) h1 h2 k
theorem callX5_78 {G : Gt} {l : Launch} {E : Ev} {S : List Sh} {cc : ByteArray} {nL : Nat} {rt : Option FieldType} {fr lo : Nat} {pc : Nat} {lv : List (Nat × Value)} {rest : List Value} {mm : Mm} {α : Type} {f : Int32 → Mm → Option α} {r : α} {o : Nat} {a0 : Int32} {a1 : Int32} {a2 : Int32} {a3 : Int32} (C : Cx G E cc nL RX5 rt fr lo) (d : decode cc pc = .ok (.invokevirtual 78, 3)) (h : bd2 (fX5_giveEach S mm o a0 a1 a2 a3) f = some r) (hfr : 1 ≤ fr) (hlo : 26 ≤ lo) (hrs : (rest.map fun v => v.category).sum ≤ 8) (k : ∀ v m1, f v m1 = some r → WM G l E S (pc + 3) lv (.int v :: rest) m1) : WM G l E S pc lv (.int a3 :: .int a2 :: .int a1 :: .int a0 :: .ref (E.2.2 o) :: rest) mm := by
  obtain ⟨v, m1, hv, hf⟩ := bd2_some h
  exact x_callV (n := 4) (As := [.int a0, .int a1, .int a2, .int a3]) (rest := rest) C (mX5_giveEach hv) (qX5_giveEach hv) (T := TX5) (N := 3) rfl (gmem 456 (by decide +kernel) rfl) (gmem 458 (by decide +kernel) rfl) (gmemS 18 (by decide +kernel) rfl) (gmem 4 (by decide +kernel) rfl) (gmem 459 (by decide +kernel) rfl) (by decide +kernel) rfl hfr hlo hrs d rfl rfl (k v m1 hf)
abbrev eX5_takeTurns : List (Nat × Instr × Nat) := [(0, .iload_n 3, 1), (1, .istore 4, 2), (3, .iconst 0, 1), (4, .istore 5, 2), (6, .iload 5, 2), (8, .bipush 10, 2), (10, .if_icmp .ge 113, 3), (13, .iload 4, 2), (15, .ifCond .le 108, 3), (18, .iconst 0, 1), (19, .istore 6, 2), (21, .iload 4, 2), (23, .istore 7, 2), (25, .iconst 0, 1), (26, .istore 8, 2), (28, .iload 8, 2), (30, .iload_n 2, 1), (31, .if_icmp .ge 36, 3), (34, .aload_n 0, 1), (35, .getfield 15, 3), (38, .iload 8, 2), (40, .iaload, 1), (41, .ifCond .le 20, 3), (44, .iinc 6 1, 3), (47, .iload 7, 2), (49, .aload_n 0, 1), (50, .getfield 15, 3), (53, .iload 8, 2), (55, .iaload, 1), (56, .invokestatic 27, 3), (59, .istore 7, 2), (61, .iinc 8 1, 3), (64, .goto (-36), 3), (67, .iload 6, 2), (69, .ifCond .ne 4, 3), (72, .return_, 1), (73, .iload 7, 2), (75, .iload 4, 2), (77, .iload 6, 2), (79, .idiv, 1), (80, .invokestatic 27, 3), (83, .istore 7, 2), (85, .iload 4, 2), (87, .iload 7, 2), (89, .ifCond .ne 15, 3), (92, .aload_n 0, 1), (93, .iload_n 1, 1), (94, .iload_n 2, 1), (95, .iconst 1, 1), (96, .iload 4, 2), (98, .invokevirtual 78, 3), (101, .goto 13, 3), (104, .aload_n 0, 1), (105, .iload_n 1, 1), (106, .iload_n 2, 1), (107, .iload 7, 2), (109, .iload 6, 2), (111, .invokevirtual 78, 3), (114, .isub, 1), (115, .istore 4, 2), (117, .iinc 5 1, 3), (120, .goto (-114), 3), (123, .return_, 1)]
theorem DX5_takeTurns : (eX5_takeTurns.all fun q => decide (decode cX5_takeTurns q.1 = .ok q.2)) = true := by decide +kernel
def jX5_takeTurns_61 (S : List Sh) (mm : Mm) (x0 : Nat) (x1 : Int32) (x2 : Int32) (x4 : Int32) (x5 : Int32) (x6 : Int32) (x7 : Int32) (x8 : Int32)  : Option ((Int32 × Int32 × Int32) ⊕ (Int32 × Int32)) := some (.inl (x6, x7, x8 + 1))
def bX5_takeTurns_28 (S : List Sh) (mm : Mm) (x0 : Nat) (x1 : Int32) (x2 : Int32) (x4 : Int32) (x5 : Int32) (x6 : Int32) (x7 : Int32) (x8 : Int32) : Option ((Int32 × Int32 × Int32) ⊕ (Int32 × Int32)) := if x2 ≤ x8 then (some (.inr (x6, x7))) else (bd1 (ldA S 0 mm (rf S mm x0 1) x8) fun a1 => if a1 ≤ 0 then (jX5_takeTurns_61 S mm x0 x1 x2 x4 x5 x6 x7 x8) else (bd1 (ldA S 0 mm (rf S mm x0 1) x8) fun a2 => jX5_takeTurns_61 S mm x0 x1 x2 x4 x5 (x6 + 1) (if a2 < x7 then a2 else x7) x8))
def jX5_takeTurns_114 (S : List Sh) (mm : Mm) (x0 : Nat) (x1 : Int32) (x2 : Int32) (x5 : Int32) (p0 : Int32) (p1 : Int32) : Option ((Int32 × Int32 × Mm) ⊕ ((Mm) ⊕ (Mm))) := some (.inl ((p0 - p1), x5 + 1, mm))
def bX5_takeTurns_6 (S : List Sh) (x0 : Nat) (x1 : Int32) (x2 : Int32) (x4 : Int32) (x5 : Int32) (mm : Mm) : Option ((Int32 × Int32 × Mm) ⊕ ((Mm) ⊕ (Mm))) := if 10 ≤ x5 then (some (.inr (.inr (mm)))) else (if x4 ≤ 0 then (some (.inr (.inr (mm)))) else (bd1 (lp (fun s3 => bX5_takeTurns_28 S mm x0 x1 x2 x4 x5 s3.1 s3.2.1 s3.2.2) fu (0, x4, 0)) fun y4 => if ¬ y4.1 = 0 then (bd1 (dvI x4 y4.1) fun a5 => if ¬ (if a5 < y4.2 then a5 else y4.2) = 0 then (bd2 (fX5_giveEach S mm x0 x1 x2 (if a5 < y4.2 then a5 else y4.2) y4.1) fun a6 m7 => jX5_takeTurns_114 S m7 x0 x1 x2 x5 x4 a6) else (bd2 (fX5_giveEach S mm x0 x1 x2 1 x4) fun a8 m9 => jX5_takeTurns_114 S m9 x0 x1 x2 x5 x4 a8)) else (some (.inr (.inl mm)))))
def jX5_takeTurns_123 (S : List Sh) (mm : Mm) (x0 : Nat)  : Option (Mm) := some mm
def fX5_takeTurns (S : List Sh) (mm : Mm) (x0 : Nat) (x1 : Int32) (x2 : Int32) (x3 : Int32) : Option (Mm) := gd S x0 5 (bdR (lp (fun s10 => bX5_takeTurns_6 S x0 x1 x2 s10.1 s10.2.1 s10.2.2) fu (x3, 0, mm)) (fun a12 => some a12) fun y11 => jX5_takeTurns_123 S y11 x0)
set_option maxHeartbeats 1000000 in
theorem tX5_takeTurns_61 {G : Gt} {l : Launch} {E : Ev} {S : List Sh} {mm : Mm} {x0 : Nat} {x1 : Int32} {x2 : Int32} {x4 : Int32} {x5 : Int32} {x6 : Int32} {x7 : Int32} {x8 : Int32}  {r : (Int32 × Int32 × Int32) ⊕ (Int32 × Int32)} (C : Cx G E cX5_takeTurns 9 RX5 none 1 29) (g0 : isC S x0 5) (h : jX5_takeTurns_61 S mm x0 x1 x2 x4 x5 x6 x7 x8 = some r) (kb : ∀ z : Int32 × Int32 × Int32, r = .inl z → WM G l E S 28 [(0, .ref (E.2.2 x0)), (1, .int x1), (2, .int x2), (4, .int x4), (5, .int x5), (6, .int z.1), (7, .int z.2.1), (8, .int z.2.2)] [] mm) (kx : ∀ z : Int32 × Int32, r = .inr z → WM G l E S 67 [(0, .ref (E.2.2 x0)), (1, .int x1), (2, .int x2), (4, .int x4), (5, .int x5), (6, .int z.1), (7, .int z.2)] [] mm) : WM G l E S 61 [(0, .ref (E.2.2 x0)), (1, .int x1), (2, .int x2), (4, .int x4), (5, .int x5), (6, .int x6), (7, .int x7), (8, .int x8)] [] mm := by
  unfold jX5_takeTurns_61 at h
  refine x_iinc (v := x8 + 1) (lv' := [(8, .int (x8 + 1)), (0, .ref (E.2.2 x0)), (1, .int x1), (2, .int x2), (4, .int x4), (5, .int x5), (6, .int x6), (7, .int x7)]) C (dq DX5_takeTurns 31 rfl) 7 rfl rfl (by decide) rfl ?_
  refine x_goto (tgt := 28) C (dq DX5_takeTurns 32 rfl) (by decide) ?_
  cases h
  exact x_lv [1, 2, 3, 4, 5, 6, 7, 0] rfl (kb (x6, x7, x8 + 1) rfl)
set_option maxHeartbeats 1000000 in
theorem tX5_takeTurns_28 {G : Gt} {l : Launch} {E : Ev} {S : List Sh} {mm : Mm} {x0 : Nat} {x1 : Int32} {x2 : Int32} {x4 : Int32} {x5 : Int32} {x6 : Int32} {x7 : Int32} {x8 : Int32} {r : (Int32 × Int32 × Int32) ⊕ (Int32 × Int32)} (C : Cx G E cX5_takeTurns 9 RX5 none 1 29) (g0 : isC S x0 5) (h : bX5_takeTurns_28 S mm x0 x1 x2 x4 x5 x6 x7 x8 = some r) (kb : ∀ z : Int32 × Int32 × Int32, r = .inl z → WM G l E S 28 [(0, .ref (E.2.2 x0)), (1, .int x1), (2, .int x2), (4, .int x4), (5, .int x5), (6, .int z.1), (7, .int z.2.1), (8, .int z.2.2)] [] mm) (kx : ∀ z : Int32 × Int32, r = .inr z → WM G l E S 67 [(0, .ref (E.2.2 x0)), (1, .int x1), (2, .int x2), (4, .int x4), (5, .int x5), (6, .int z.1), (7, .int z.2)] [] mm) : WM G l E S 28 [(0, .ref (E.2.2 x0)), (1, .int x1), (2, .int x2), (4, .int x4), (5, .int x5), (6, .int x6), (7, .int x7), (8, .int x8)] [] mm := by
  unfold bX5_takeTurns_28 at h
  refine x_iload C (dq DX5_takeTurns 15 rfl) 7 rfl ?_
  refine x_iload_n C (dq DX5_takeTurns 16 rfl) rfl 2 rfl ?_
  refine x_icmp_ge (tgt := 67) C (dq DX5_takeTurns 17 rfl) (by decide) h (fun h => ?_) (fun h => ?_)
  · cases h
    exact x_lv [0, 1, 2, 3, 4, 5, 6] rfl (kx (x6, x7) rfl)
  · refine x_aload_n C (dq DX5_takeTurns 18 rfl) rfl 0 rfl ?_
    refine x_pc 35 rfl ?_
    refine getX5_15 C (dq DX5_takeTurns 19 rfl) g0 ?_
    refine x_iload C (dq DX5_takeTurns 20 rfl) 7 rfl ?_
    refine x_iald C (dq DX5_takeTurns 21 rfl) h (fun a1 h => ?_)
    refine x_if_le (tgt := 61) C (dq DX5_takeTurns 22 rfl) (by decide) h (fun h => ?_) (fun h => ?_)
    · exact x_lv [0, 1, 2, 3, 4, 5, 6, 7] rfl (tX5_takeTurns_61 C g0 h kb kx)
    · refine x_iinc (v := x6 + 1) (lv' := [(6, .int (x6 + 1)), (0, .ref (E.2.2 x0)), (1, .int x1), (2, .int x2), (4, .int x4), (5, .int x5), (7, .int x7), (8, .int x8)]) C (dq DX5_takeTurns 23 rfl) 5 rfl rfl (by decide) rfl ?_
      refine x_pc 47 rfl ?_
      refine x_iload C (dq DX5_takeTurns 24 rfl) 6 rfl ?_
      refine x_aload_n C (dq DX5_takeTurns 25 rfl) rfl 1 rfl ?_
      refine getX5_15 C (dq DX5_takeTurns 26 rfl) g0 ?_
      refine x_iload C (dq DX5_takeTurns 27 rfl) 7 rfl ?_
      refine x_iald C (dq DX5_takeTurns 28 rfl) h (fun a2 h => ?_)
      refine x_pc 56 rfl ?_
      refine callX5_27 C (dq DX5_takeTurns 29 rfl) (by decide) (Nat.le_of_ble_eq_true rfl) ?_
      refine x_istore (lv' := [(7, .int (if a2 < x7 then a2 else x7)), (6, .int (x6 + 1)), (0, .ref (E.2.2 x0)), (1, .int x1), (2, .int x2), (4, .int x4), (5, .int x5), (8, .int x8)]) C (dq DX5_takeTurns 30 rfl) (by decide) rfl ?_
      exact x_lv [2, 3, 4, 5, 6, 1, 0, 7] rfl (tX5_takeTurns_61 C g0 h kb kx)
set_option maxHeartbeats 1000000 in
theorem tX5_takeTurns_114 {G : Gt} {l : Launch} {E : Ev} {S : List Sh} {mm : Mm} {x0 : Nat} {x1 : Int32} {x2 : Int32} {x5 : Int32} {p0 : Int32} {p1 : Int32} {r : (Int32 × Int32 × Mm) ⊕ ((Mm) ⊕ (Mm))} (C : Cx G E cX5_takeTurns 9 RX5 none 1 29) (g0 : isC S x0 5) (h : jX5_takeTurns_114 S mm x0 x1 x2 x5 p0 p1 = some r) (kb : ∀ z : Int32 × Int32 × Mm, r = .inl z → WM G l E S 6 [(0, .ref (E.2.2 x0)), (1, .int x1), (2, .int x2), (4, .int z.1), (5, .int z.2.1)] [] z.2.2) (kr : ∀ z : Mm, r = .inr (.inl z) → RQ G E S none z) (kx : ∀ z : Mm, r = .inr (.inr z) → WM G l E S 123 [(0, .ref (E.2.2 x0)), (1, .int x1), (2, .int x2)] [] z) : WM G l E S 114 [(0, .ref (E.2.2 x0)), (1, .int x1), (2, .int x2), (5, .int x5)] [.int p1, .int p0] mm := by
  unfold jX5_takeTurns_114 at h
  refine x_isub C (dq DX5_takeTurns 58 rfl) ?_
  refine x_istore (lv' := [(4, .int (p0 - p1)), (0, .ref (E.2.2 x0)), (1, .int x1), (2, .int x2), (5, .int x5)]) C (dq DX5_takeTurns 59 rfl) (by decide) rfl ?_
  refine x_iinc (v := x5 + 1) (lv' := [(5, .int (x5 + 1)), (4, .int (p0 - p1)), (0, .ref (E.2.2 x0)), (1, .int x1), (2, .int x2)]) C (dq DX5_takeTurns 60 rfl) 4 rfl rfl (by decide) rfl ?_
  refine x_goto (tgt := 6) C (dq DX5_takeTurns 61 rfl) (by decide) ?_
  cases h
  exact x_lv [2, 3, 4, 1, 0] rfl (kb ((p0 - p1), x5 + 1, mm) rfl)
set_option maxHeartbeats 1000000 in
theorem tX5_takeTurns_6 {G : Gt} {l : Launch} {E : Ev} {S : List Sh} {x0 : Nat} {x1 : Int32} {x2 : Int32} {x4 : Int32} {x5 : Int32} {mm : Mm} {r : (Int32 × Int32 × Mm) ⊕ ((Mm) ⊕ (Mm))} (C : Cx G E cX5_takeTurns 9 RX5 none 1 29) (g0 : isC S x0 5) (h : bX5_takeTurns_6 S x0 x1 x2 x4 x5 mm = some r) (kb : ∀ z : Int32 × Int32 × Mm, r = .inl z → WM G l E S 6 [(0, .ref (E.2.2 x0)), (1, .int x1), (2, .int x2), (4, .int z.1), (5, .int z.2.1)] [] z.2.2) (kr : ∀ z : Mm, r = .inr (.inl z) → RQ G E S none z) (kx : ∀ z : Mm, r = .inr (.inr z) → WM G l E S 123 [(0, .ref (E.2.2 x0)), (1, .int x1), (2, .int x2)] [] z) : WM G l E S 6 [(0, .ref (E.2.2 x0)), (1, .int x1), (2, .int x2), (4, .int x4), (5, .int x5)] [] mm := by
  unfold bX5_takeTurns_6 at h
  refine x_iload C (dq DX5_takeTurns 4 rfl) 4 rfl ?_
  refine x_bipush (v := 10) C (dq DX5_takeTurns 5 rfl) (by decide) ?_
  refine x_icmp_ge (tgt := 123) C (dq DX5_takeTurns 6 rfl) (by decide) h (fun h => ?_) (fun h => ?_)
  · cases h
    exact x_lv [0, 1, 2] rfl (kx (mm) rfl)
  · refine x_iload C (dq DX5_takeTurns 7 rfl) 3 rfl ?_
    refine x_pc 15 rfl ?_
    refine x_if_le (tgt := 123) C (dq DX5_takeTurns 8 rfl) (by decide) h (fun h => ?_) (fun h => ?_)
    · cases h
      exact x_lv [0, 1, 2] rfl (kx (mm) rfl)
    · refine x_iconst (v := 0) C (dq DX5_takeTurns 9 rfl) (by decide) ?_
      refine x_istore (lv' := [(6, .int 0), (0, .ref (E.2.2 x0)), (1, .int x1), (2, .int x2), (4, .int x4), (5, .int x5)]) C (dq DX5_takeTurns 10 rfl) (by decide) rfl ?_
      refine x_iload C (dq DX5_takeTurns 11 rfl) 4 rfl ?_
      refine x_istore (lv' := [(7, .int x4), (6, .int 0), (0, .ref (E.2.2 x0)), (1, .int x1), (2, .int x2), (4, .int x4), (5, .int x5)]) C (dq DX5_takeTurns 12 rfl) (by decide) rfl ?_
      refine x_pc 25 rfl ?_
      refine x_iconst (v := 0) C (dq DX5_takeTurns 13 rfl) (by decide) ?_
      refine x_istore (lv' := [(8, .int 0), (7, .int x4), (6, .int 0), (0, .ref (E.2.2 x0)), (1, .int x1), (2, .int x2), (4, .int x4), (5, .int x5)]) C (dq DX5_takeTurns 14 rfl) (by decide) rfl ?_
      refine x_lv [3, 4, 5, 6, 7, 2, 1, 0] rfl ?_
      refine x_loop (s0 := (0, x4, 0)) (fun s3 => WM G l E S 28 [(0, .ref (E.2.2 x0)), (1, .int x1), (2, .int x2), (4, .int x4), (5, .int x5), (6, .int s3.1), (7, .int s3.2.1), (8, .int s3.2.2)] [] mm) h (fun s3 r hb kb kx => tX5_takeTurns_28 C g0 hb kb (fun y4 hy => ?_))
      have h := kx y4 hy
      clear kx kb hb hy
      refine x_iload C (dq DX5_takeTurns 33 rfl) 5 rfl ?_
      refine x_if_ne (tgt := 73) C (dq DX5_takeTurns 34 rfl) (by decide) h (fun h => ?_) (fun h => ?_)
      · refine x_iload C (dq DX5_takeTurns 36 rfl) 6 rfl ?_
        refine x_pc 75 rfl ?_
        refine x_iload C (dq DX5_takeTurns 37 rfl) 3 rfl ?_
        refine x_iload C (dq DX5_takeTurns 38 rfl) 5 rfl ?_
        refine x_idiv C (dq DX5_takeTurns 39 rfl) h (fun a5 h => ?_)
        refine callX5_27 C (dq DX5_takeTurns 40 rfl) (by decide) (Nat.le_of_ble_eq_true rfl) ?_
        refine x_istore (lv' := [(7, .int (if a5 < y4.2 then a5 else y4.2)), (0, .ref (E.2.2 x0)), (1, .int x1), (2, .int x2), (4, .int x4), (5, .int x5), (6, .int y4.1)]) C (dq DX5_takeTurns 41 rfl) (by decide) rfl ?_
        refine x_pc 85 rfl ?_
        refine x_iload C (dq DX5_takeTurns 42 rfl) 4 rfl ?_
        refine x_iload C (dq DX5_takeTurns 43 rfl) 0 rfl ?_
        refine x_if_ne (tgt := 104) C (dq DX5_takeTurns 44 rfl) (by decide) h (fun h => ?_) (fun h => ?_)
        · refine x_aload_n C (dq DX5_takeTurns 52 rfl) rfl 1 rfl ?_
          refine x_iload_n C (dq DX5_takeTurns 53 rfl) rfl 2 rfl ?_
          refine x_pc 106 rfl ?_
          refine x_iload_n C (dq DX5_takeTurns 54 rfl) rfl 3 rfl ?_
          refine x_iload C (dq DX5_takeTurns 55 rfl) 0 rfl ?_
          refine x_iload C (dq DX5_takeTurns 56 rfl) 6 rfl ?_
          refine callX5_78 C (dq DX5_takeTurns 57 rfl) h (by decide) (by decide) (Nat.le_of_ble_eq_true rfl) (fun a6 m7 h => ?_)
          exact x_lv [1, 2, 3, 5] rfl (tX5_takeTurns_114 C g0 h kb kr kx)
        · refine x_aload_n C (dq DX5_takeTurns 45 rfl) rfl 1 rfl ?_
          refine x_iload_n C (dq DX5_takeTurns 46 rfl) rfl 2 rfl ?_
          refine x_pc 94 rfl ?_
          refine x_iload_n C (dq DX5_takeTurns 47 rfl) rfl 3 rfl ?_
          refine x_iconst (v := 1) C (dq DX5_takeTurns 48 rfl) (by decide) ?_
          refine x_iload C (dq DX5_takeTurns 49 rfl) 4 rfl ?_
          refine callX5_78 C (dq DX5_takeTurns 50 rfl) h (by decide) (by decide) (Nat.le_of_ble_eq_true rfl) (fun a8 m9 h => ?_)
          refine x_goto (tgt := 114) C (dq DX5_takeTurns 51 rfl) (by decide) ?_
          exact x_lv [1, 2, 3, 5] rfl (tX5_takeTurns_114 C g0 h kb kr kx)
      · cases h
        exact x_vret C (dq DX5_takeTurns 35 rfl) (kr mm rfl)
set_option maxHeartbeats 1000000 in
theorem tX5_takeTurns_123 {G : Gt} {l : Launch} {E : Ev} {S : List Sh} {mm : Mm} {x0 : Nat}  {r : Mm} (C : Cx G E cX5_takeTurns 9 RX5 none 1 29) (g0 : isC S x0 5) (h : jX5_takeTurns_123 S mm x0 = some r) (hQ : RQ G E S none r) : WM G l E S 123 [(0, .ref (E.2.2 x0))] [] mm := by
  unfold jX5_takeTurns_123 at h
  cases h
  exact x_vret C (dq DX5_takeTurns 62 rfl) hQ
set_option maxHeartbeats 1000000 in
theorem mX5_takeTurns {l : Launch} {E : Ev} {S : List Sh} {mm : Mm} {x0 : Nat} {x1 : Int32} {x2 : Int32} {x3 : Int32} {r : Mm} (h : fX5_takeTurns S mm x0 x1 x2 x3 = some r) : Ml l E S yX5_takeTurns cX5_takeTurns 9 none 1 29 [.ref (E.2.2 x0), .int x1, .int x2, .int x3] mm none r := by
  refine Ml.of (by decide +kernel) (Nat.le_of_ble_eq_true rfl) (fun G C hQ => ?_)
  have C : Cx G E cX5_takeTurns 9 RX5 none 1 29 := C
  unfold fX5_takeTurns at h
  obtain ⟨g0, h⟩ := gd_some h
  show WM G l E S 0 [(0, .ref (E.2.2 x0)), (1, .int x1), (2, .int x2), (3, .int x3)] [] mm
  refine x_iload_n C (dq DX5_takeTurns 0 rfl) rfl 3 rfl ?_
  refine x_istore (lv' := [(4, .int x3), (0, .ref (E.2.2 x0)), (1, .int x1), (2, .int x2), (3, .int x3)]) C (dq DX5_takeTurns 1 rfl) (by decide) rfl ?_
  refine x_iconst (v := 0) C (dq DX5_takeTurns 2 rfl) (by decide) ?_
  refine x_istore (lv' := [(5, .int 0), (4, .int x3), (0, .ref (E.2.2 x0)), (1, .int x1), (2, .int x2), (3, .int x3)]) C (dq DX5_takeTurns 3 rfl) (by decide) rfl ?_
  refine x_lv [2, 3, 4, 1, 0] rfl ?_
  refine x_loopR (s0 := (x3, 0, mm)) (fun s10 => WM G l E S 6 [(0, .ref (E.2.2 x0)), (1, .int x1), (2, .int x2), (4, .int s10.1), (5, .int s10.2.1)] [] s10.2.2) h (fun s10 r hb kb kg kx => tX5_takeTurns_6 C g0 hb kb (fun a12 ha => ?_) (fun y11 hy => ?_))
  · have h := kg a12 ha
    cases h
    exact hQ
  · have h := kx y11 hy
    clear kx kb hb hy kg
    exact x_lv [0] rfl (tX5_takeTurns_123 C g0 h hQ)
set_option maxHeartbeats 1000000 in
theorem qX5_takeTurns {S : List Sh} {mm : Mm} {x0 : Nat} {x1 : Int32} {x2 : Int32} {x3 : Int32} {r : Mm} (h : fX5_takeTurns S mm x0 x1 x2 x3 = some r) : isC S x0 5 := by
  unfold fX5_takeTurns at h
  exact (gd_some h).1
theorem getX5_18 {G : Gt} {l : Launch} {E : Ev} {S : List Sh} {cc : ByteArray} {nL : Nat} {rt : Option FieldType} {fr lo : Nat} {pc : Nat} {lv : List (Nat × Value)} {st : List Value} {mm : Mm} {o : Nat} (C : Cx G E cc nL RX5 rt fr lo) (d : decode cc pc = .ok (.getfield 18, 3)) (hg : isC S o 5) (k : WM G l E S (pc + 3) lv (.ref (E.2.2 (rf S mm o 2)) :: st) mm) : WM G l E S pc lv (.ref (E.2.2 o) :: st) mm := x_get2 C hg (T := TX5) (N := 3) rfl inX5 (by decide) (i := 2) (gmem 89 (by decide +kernel) rfl) rfl rfl d k
abbrev eX5_takeOff : List (Nat × Instr × Nat) := [(0, .iload_n 2, 1), (1, .ifCond .lt 33, 3), (4, .aload_n 1, 1), (5, .bipush 120, 2), (7, .iload_n 2, 1), (8, .bipush 8, 2), (10, .imul, 1), (11, .iadd, 1), (12, .iload_n 3, 1), (13, .iadd, 1), (14, .dup2, 1), (15, .iaload, 1), (16, .iload 4, 2), (18, .isub, 1), (19, .iastore, 1), (20, .aload_n 1, 1), (21, .bipush 30, 2), (23, .iload_n 2, 1), (24, .iadd, 1), (25, .dup2, 1), (26, .iaload, 1), (27, .iload 4, 2), (29, .isub, 1), (30, .iastore, 1), (31, .goto 38, 3), (34, .aload_n 1, 1), (35, .sipush 272, 3), (38, .iload_n 3, 1), (39, .iadd, 1), (40, .dup2, 1), (41, .iaload, 1), (42, .iload 4, 2), (44, .bipush 16, 2), (46, .imul, 1), (47, .isub, 1), (48, .iastore, 1), (49, .aload_n 1, 1), (50, .sipush 232, 3), (53, .iload_n 3, 1), (54, .iadd, 1), (55, .dup2, 1), (56, .iaload, 1), (57, .iload 4, 2), (59, .iadd, 1), (60, .iastore, 1), (61, .aload_n 0, 1), (62, .getfield 18, 3), (65, .iload_n 3, 1), (66, .iload 4, 2), (68, .iastore, 1), (69, .return_, 1)]
theorem DX5_takeOff : (eX5_takeOff.all fun q => decide (decode cX5_takeOff q.1 = .ok q.2)) = true := by decide +kernel
def jX5_takeOff_69 (S : List Sh) (mm : Mm) (x0 : Nat)  : Option (Mm) := some mm
def fX5_takeOff (S : List Sh) (mm : Mm) (x0 : Nat) (x1 : Nat) (x2 : Int32) (x3 : Int32) (x4 : Int32) : Option (Mm) := gd S x0 5 (if x2 < 0 then (bd1 (ldA S 0 mm x1 (272 + x3)) fun a1 => bd1 (stA S 0 mm x1 (272 + x3) (a1 - (x4 * 16))) fun m2 => bd1 (ldA S 0 m2 x1 (232 + x3)) fun a3 => bd1 (stA S 0 m2 x1 (232 + x3) (a3 + x4)) fun m4 => bd1 (stA S 0 m4 (rf S m4 x0 2) x3 x4) fun m5 => jX5_takeOff_69 S m5 x0) else (bd1 (ldA S 0 mm x1 ((120 + (x2 * 8)) + x3)) fun a6 => bd1 (stA S 0 mm x1 ((120 + (x2 * 8)) + x3) (a6 - x4)) fun m7 => bd1 (ldA S 0 m7 x1 (30 + x2)) fun a8 => bd1 (stA S 0 m7 x1 (30 + x2) (a8 - x4)) fun m9 => jX5_takeOff_69 S m9 x0))
set_option maxHeartbeats 1000000 in
theorem tX5_takeOff_69 {G : Gt} {l : Launch} {E : Ev} {S : List Sh} {mm : Mm} {x0 : Nat}  {r : Mm} (C : Cx G E cX5_takeOff 5 RX5 none 0 0) (g0 : isC S x0 5) (h : jX5_takeOff_69 S mm x0 = some r) (hQ : RQ G E S none r) : WM G l E S 69 [(0, .ref (E.2.2 x0))] [] mm := by
  unfold jX5_takeOff_69 at h
  cases h
  exact x_vret C (dq DX5_takeOff 50 rfl) hQ
set_option maxHeartbeats 1000000 in
theorem mX5_takeOff {l : Launch} {E : Ev} {S : List Sh} {mm : Mm} {x0 : Nat} {x1 : Nat} {x2 : Int32} {x3 : Int32} {x4 : Int32} {r : Mm} (h : fX5_takeOff S mm x0 x1 x2 x3 x4 = some r) : Ml l E S yX5_takeOff cX5_takeOff 5 none 0 0 [.ref (E.2.2 x0), .ref (E.2.2 x1), .int x2, .int x3, .int x4] mm none r := by
  refine Ml.of (by decide +kernel) (Nat.le_of_ble_eq_true rfl) (fun G C hQ => ?_)
  have C : Cx G E cX5_takeOff 5 RX5 none 0 0 := C
  unfold fX5_takeOff at h
  obtain ⟨g0, h⟩ := gd_some h
  show WM G l E S 0 [(0, .ref (E.2.2 x0)), (1, .ref (E.2.2 x1)), (2, .int x2), (3, .int x3), (4, .int x4)] [] mm
  refine x_iload_n C (dq DX5_takeOff 0 rfl) rfl 2 rfl ?_
  refine x_if_lt (tgt := 34) C (dq DX5_takeOff 1 rfl) (by decide) h (fun h => ?_) (fun h => ?_)
  · refine x_aload_n C (dq DX5_takeOff 25 rfl) rfl 1 rfl ?_
    refine x_sipush (v := 272) C (dq DX5_takeOff 26 rfl) (by decide) ?_
    refine x_pc 38 rfl ?_
    refine x_iload_n C (dq DX5_takeOff 27 rfl) rfl 3 rfl ?_
    refine x_iadd C (dq DX5_takeOff 28 rfl) ?_
    refine x_dup2 C (dq DX5_takeOff 29 rfl) rfl rfl ?_
    refine x_iald C (dq DX5_takeOff 30 rfl) h (fun a1 h => ?_)
    refine x_iload C (dq DX5_takeOff 31 rfl) 4 rfl ?_
    refine x_pc 44 rfl ?_
    refine x_bipush (v := 16) C (dq DX5_takeOff 32 rfl) (by decide) ?_
    refine x_imul C (dq DX5_takeOff 33 rfl) ?_
    refine x_isub C (dq DX5_takeOff 34 rfl) ?_
    refine x_iast C (dq DX5_takeOff 35 rfl) h (fun m2 h => ?_)
    refine x_aload_n C (dq DX5_takeOff 36 rfl) rfl 1 rfl ?_
    refine x_pc 50 rfl ?_
    refine x_sipush (v := 232) C (dq DX5_takeOff 37 rfl) (by decide) ?_
    refine x_iload_n C (dq DX5_takeOff 38 rfl) rfl 3 rfl ?_
    refine x_iadd C (dq DX5_takeOff 39 rfl) ?_
    refine x_dup2 C (dq DX5_takeOff 40 rfl) rfl rfl ?_
    refine x_iald C (dq DX5_takeOff 41 rfl) h (fun a3 h => ?_)
    refine x_pc 57 rfl ?_
    refine x_iload C (dq DX5_takeOff 42 rfl) 4 rfl ?_
    refine x_iadd C (dq DX5_takeOff 43 rfl) ?_
    refine x_iast C (dq DX5_takeOff 44 rfl) h (fun m4 h => ?_)
    refine x_aload_n C (dq DX5_takeOff 45 rfl) rfl 0 rfl ?_
    refine getX5_18 C (dq DX5_takeOff 46 rfl) g0 ?_
    refine x_pc 65 rfl ?_
    refine x_iload_n C (dq DX5_takeOff 47 rfl) rfl 3 rfl ?_
    refine x_iload C (dq DX5_takeOff 48 rfl) 4 rfl ?_
    refine x_iast C (dq DX5_takeOff 49 rfl) h (fun m5 h => ?_)
    exact x_lv [0] rfl (tX5_takeOff_69 C g0 h hQ)
  · refine x_aload_n C (dq DX5_takeOff 2 rfl) rfl 1 rfl ?_
    refine x_bipush (v := 120) C (dq DX5_takeOff 3 rfl) (by decide) ?_
    refine x_pc 7 rfl ?_
    refine x_iload_n C (dq DX5_takeOff 4 rfl) rfl 2 rfl ?_
    refine x_bipush (v := 8) C (dq DX5_takeOff 5 rfl) (by decide) ?_
    refine x_imul C (dq DX5_takeOff 6 rfl) ?_
    refine x_iadd C (dq DX5_takeOff 7 rfl) ?_
    refine x_iload_n C (dq DX5_takeOff 8 rfl) rfl 3 rfl ?_
    refine x_pc 13 rfl ?_
    refine x_iadd C (dq DX5_takeOff 9 rfl) ?_
    refine x_dup2 C (dq DX5_takeOff 10 rfl) rfl rfl ?_
    refine x_iald C (dq DX5_takeOff 11 rfl) h (fun a6 h => ?_)
    refine x_iload C (dq DX5_takeOff 12 rfl) 4 rfl ?_
    refine x_isub C (dq DX5_takeOff 13 rfl) ?_
    refine x_pc 19 rfl ?_
    refine x_iast C (dq DX5_takeOff 14 rfl) h (fun m7 h => ?_)
    refine x_aload_n C (dq DX5_takeOff 15 rfl) rfl 1 rfl ?_
    refine x_bipush (v := 30) C (dq DX5_takeOff 16 rfl) (by decide) ?_
    refine x_iload_n C (dq DX5_takeOff 17 rfl) rfl 2 rfl ?_
    refine x_iadd C (dq DX5_takeOff 18 rfl) ?_
    refine x_pc 25 rfl ?_
    refine x_dup2 C (dq DX5_takeOff 19 rfl) rfl rfl ?_
    refine x_iald C (dq DX5_takeOff 20 rfl) h (fun a8 h => ?_)
    refine x_iload C (dq DX5_takeOff 21 rfl) 4 rfl ?_
    refine x_isub C (dq DX5_takeOff 22 rfl) ?_
    refine x_iast C (dq DX5_takeOff 23 rfl) h (fun m9 h => ?_)
    refine x_pc 31 rfl ?_
    refine x_goto (tgt := 69) C (dq DX5_takeOff 24 rfl) (by decide) ?_
    exact x_lv [0] rfl (tX5_takeOff_69 C g0 h hQ)
set_option maxHeartbeats 1000000 in
theorem qX5_takeOff {S : List Sh} {mm : Mm} {x0 : Nat} {x1 : Nat} {x2 : Int32} {x3 : Int32} {x4 : Int32} {r : Mm} (h : fX5_takeOff S mm x0 x1 x2 x3 x4 = some r) : isC S x0 5 := by
  unfold fX5_takeOff at h
  exact (gd_some h).1
theorem getX5_21 {G : Gt} {l : Launch} {E : Ev} {S : List Sh} {cc : ByteArray} {nL : Nat} {rt : Option FieldType} {fr lo : Nat} {pc : Nat} {lv : List (Nat × Value)} {st : List Value} {mm : Mm} {o : Nat} (C : Cx G E cc nL RX5 rt fr lo) (d : decode cc pc = .ok (.getfield 21, 3)) (hg : isC S o 1) (k : WM G l E S (pc + 3) lv (.int (mm.1 o 10) :: st) mm) : WM G l E S pc lv (.ref (E.2.2 o) :: st) mm := x_getN0 C hg (T := TX1) (N := 11) rfl inX1 (by decide) (i := 10) (host := "LosslessFabric") (nmem 213 (by decide +kernel) rfl) rfl rfl d k
theorem getX5_61 {G : Gt} {l : Launch} {E : Ev} {S : List Sh} {cc : ByteArray} {nL : Nat} {rt : Option FieldType} {fr lo : Nat} {pc : Nat} {lv : List (Nat × Value)} {st : List Value} {mm : Mm} {o : Nat} (C : Cx G E cc nL RX5 rt fr lo) (d : decode cc pc = .ok (.getfield 61, 3)) (hg : isC S o 1) (k : WM G l E S (pc + 3) lv (.ref (E.2.2 (rf S mm o 6)) :: st) mm) : WM G l E S pc lv (.ref (E.2.2 o) :: st) mm := x_getN2 C hg (T := TX1) (N := 11) rfl inX1 (by decide) (i := 6) (host := "LosslessFabric") (nmem 198 (by decide +kernel) rfl) rfl rfl d k
theorem getX5_67 {G : Gt} {l : Launch} {E : Ev} {S : List Sh} {cc : ByteArray} {nL : Nat} {rt : Option FieldType} {fr lo : Nat} {pc : Nat} {lv : List (Nat × Value)} {st : List Value} {mm : Mm} {o : Nat} (C : Cx G E cc nL RX5 rt fr lo) (d : decode cc pc = .ok (.getfield 67, 3)) (hg : isC S o 1) (k : WM G l E S (pc + 3) lv (.ref (E.2.2 (rf S mm o 1)) :: st) mm) : WM G l E S pc lv (.ref (E.2.2 o) :: st) mm := x_getN2 C hg (T := TX1) (N := 11) rfl inX1 (by decide) (i := 1) (host := "LosslessFabric") (nmem 185 (by decide +kernel) rfl) rfl rfl d k
theorem callX5_57 {G : Gt} {l : Launch} {E : Ev} {S : List Sh} {cc : ByteArray} {nL : Nat} {rt : Option FieldType} {fr lo : Nat} {pc : Nat} {lv : List (Nat × Value)} {rest : List Value} {mm : Mm} {α : Type} {f : Int32 → Option α} {r : α} {o : Nat} {a0 : Nat} {a1 : Int32} (C : Cx G E cc nL RX5 rt fr lo) (d : decode cc pc = .ok (.invokevirtual 57, 3)) (h : bd1 (fX1_isPaused S mm o a0 a1) f = some r) (hfr : 1 ≤ fr) (hlo : 22 ≤ lo) (hrs : (rest.map fun v => v.category).sum ≤ 8) (k : ∀ v, f v = some r → WM G l E S (pc + 3) lv (.int v :: rest) mm) : WM G l E S pc lv (.int a1 :: .ref (E.2.2 a0) :: .ref (E.2.2 o) :: rest) mm := by
  obtain ⟨v, hv, hf⟩ := bd1_some h
  exact x_callV (n := 2) (As := [.ref (E.2.2 a0), .int a1]) (rest := rest) C (mX1_isPaused hv) (qX1_isPaused hv) (T := TX1) (N := 11) rfl (gmem 445 (by decide +kernel) rfl) (gmem 446 (by decide +kernel) rfl) (gmem 447 (by decide +kernel) rfl) (gmem 8 (by decide +kernel) rfl) (gmem 448 (by decide +kernel) rfl) (by decide +kernel) rfl hfr hlo hrs d rfl rfl (k v hf)
theorem callX5_64 {G : Gt} {l : Launch} {E : Ev} {S : List Sh} {cc : ByteArray} {nL : Nat} {rt : Option FieldType} {fr lo : Nat} {pc : Nat} {lv : List (Nat × Value)} {rest : List Value} {mm : Mm} {α : Type} {f : Int32 → Option α} {r : α} {a0 : Nat} {a1 : Int32} {a2 : Int32} (C : Cx G E cc nL RX5 rt fr lo) (d : decode cc pc = .ok (.invokestatic 64, 3)) (h : bd1 (fX5_ready S mm a0 a1 a2) f = some r) (hfr : 1 ≤ fr) (hlo : 22 ≤ lo) (hrs : (rest.map fun v => v.category).sum ≤ 8) (k : ∀ v, f v = some r → WM G l E S (pc + 3) lv (.int v :: rest) mm) : WM G l E S pc lv (.int a2 :: .int a1 :: .ref (E.2.2 a0) :: rest) mm := by
  obtain ⟨v, hv, hf⟩ := bd1_some h
  exact x_callS (n := 3) (As := [.ref (E.2.2 a0), .int a1, .int a2]) (rest := rest) C (mX5_ready hv) (gmem 449 (by decide +kernel) rfl) (gmem 450 (by decide +kernel) rfl) (gmem 4 (by decide +kernel) rfl) (gmem 451 (by decide +kernel) rfl) (by decide +kernel) rfl hfr hlo hrs d rfl rfl (k v hf)
theorem callX5_70 {G : Gt} {l : Launch} {E : Ev} {S : List Sh} {cc : ByteArray} {nL : Nat} {rt : Option FieldType} {fr lo : Nat} {pc : Nat} {lv : List (Nat × Value)} {rest : List Value} {mm : Mm} {α : Type} {f : Mm → Option α} {r : α} {o : Nat} {a0 : Int32} {a1 : Int32} {a2 : Int32} (C : Cx G E cc nL RX5 rt fr lo) (d : decode cc pc = .ok (.invokevirtual 70, 3)) (h : bd1 (fX5_takeTurns S mm o a0 a1 a2) f = some r) (hfr : 2 ≤ fr) (hlo : 57 ≤ lo) (hrs : (rest.map fun v => v.category).sum ≤ 8) (k : ∀ m1, f m1 = some r → WM G l E S (pc + 3) lv rest m1) : WM G l E S pc lv (.int a2 :: .int a1 :: .int a0 :: .ref (E.2.2 o) :: rest) mm := by
  obtain ⟨m1, hv, hf⟩ := bd1_some h
  exact x_callV (n := 3) (As := [.int a0, .int a1, .int a2]) (rest := rest) C (mX5_takeTurns hv) (qX5_takeTurns hv) (T := TX5) (N := 3) rfl (gmem 452 (by decide +kernel) rfl) (gmem 454 (by decide +kernel) rfl) (gmemS 17 (by decide +kernel) rfl) (gmem 4 (by decide +kernel) rfl) (gmem 455 (by decide +kernel) rfl) (by decide +kernel) rfl hfr hlo hrs d rfl rfl (k m1 hf)
theorem callX5_74 {G : Gt} {l : Launch} {E : Ev} {S : List Sh} {cc : ByteArray} {nL : Nat} {rt : Option FieldType} {fr lo : Nat} {pc : Nat} {lv : List (Nat × Value)} {rest : List Value} {mm : Mm} {α : Type} {f : Mm → Option α} {r : α} {o : Nat} {a0 : Nat} {a1 : Int32} {a2 : Int32} {a3 : Int32} (C : Cx G E cc nL RX5 rt fr lo) (d : decode cc pc = .ok (.invokevirtual 74, 3)) (h : bd1 (fX5_takeOff S mm o a0 a1 a2 a3) f = some r) (hfr : 1 ≤ fr) (hlo : 24 ≤ lo) (hrs : (rest.map fun v => v.category).sum ≤ 8) (k : ∀ m1, f m1 = some r → WM G l E S (pc + 3) lv rest m1) : WM G l E S pc lv (.int a3 :: .int a2 :: .int a1 :: .ref (E.2.2 a0) :: .ref (E.2.2 o) :: rest) mm := by
  obtain ⟨m1, hv, hf⟩ := bd1_some h
  exact x_callV (n := 4) (As := [.ref (E.2.2 a0), .int a1, .int a2, .int a3]) (rest := rest) C (mX5_takeOff hv) (qX5_takeOff hv) (T := TX5) (N := 3) rfl (gmem 460 (by decide +kernel) rfl) (gmem 462 (by decide +kernel) rfl) (gmemS 19 (by decide +kernel) rfl) (gmem 4 (by decide +kernel) rfl) (gmem 463 (by decide +kernel) rfl) (by decide +kernel) rfl hfr hlo hrs d rfl rfl (k m1 hf)
abbrev eX5_carry : List (Nat × Instr × Nat) := [(0, .iload_n 3, 1), (1, .bipush 8, 2), (3, .imul, 1), (4, .istore 4, 2), (6, .aload_n 1, 1), (7, .aload_n 2, 1), (8, .iload_n 3, 1), (9, .invokevirtual 57, 3), (12, .istore 5, 2), (14, .iconst 0, 1), (15, .istore 6, 2), (17, .iconst 0, 1), (18, .istore 7, 2), (20, .iload 7, 2), (22, .aload_n 1, 1), (23, .getfield 21, 3), (26, .if_icmp .ge 64, 3), (29, .aload_n 0, 1), (30, .getfield 9, 3), (33, .iload 4, 2), (35, .iload 7, 2), (37, .iadd, 1), (38, .iconst 0, 1), (39, .iastore, 1), (40, .aload_n 0, 1), (41, .getfield 15, 3), (44, .iload 7, 2), (46, .iload 5, 2), (48, .ifCond .eq 7, 3), (51, .iconst 0, 1), (52, .goto 19, 3), (55, .aload_n 2, 1), (56, .aload_n 1, 1), (57, .getfield 61, 3), (60, .iload 4, 2), (62, .iload 7, 2), (64, .iadd, 1), (65, .iaload, 1), (66, .iload 7, 2), (68, .invokestatic 64, 3), (71, .iastore, 1), (72, .iload 6, 2), (74, .aload_n 0, 1), (75, .getfield 15, 3), (78, .iload 7, 2), (80, .iaload, 1), (81, .iadd, 1), (82, .istore 6, 2), (84, .iinc 7 1, 3), (87, .goto (-67), 3), (90, .aload_n 2, 1), (91, .bipush 90, 2), (93, .iload_n 3, 1), (94, .iadd, 1), (95, .iload 6, 2), (97, .aload_n 1, 1), (98, .getfield 67, 3), (101, .iload_n 3, 1), (102, .iaload, 1), (103, .invokestatic 27, 3), (106, .iastore, 1), (107, .iload 6, 2), (109, .ifCond .ne 4, 3), (112, .return_, 1), (113, .aload_n 0, 1), (114, .iload 4, 2), (116, .aload_n 1, 1), (117, .getfield 21, 3), (120, .aload_n 2, 1), (121, .bipush 90, 2), (123, .iload_n 3, 1), (124, .iadd, 1), (125, .iaload, 1), (126, .invokevirtual 70, 3), (129, .iconst 0, 1), (130, .istore 7, 2), (132, .iload 7, 2), (134, .aload_n 1, 1), (135, .getfield 21, 3), (138, .if_icmp .ge 49, 3), (141, .aload_n 0, 1), (142, .getfield 9, 3), (145, .iload 4, 2), (147, .iload 7, 2), (149, .iadd, 1), (150, .iaload, 1), (151, .ifCond .le 30, 3), (154, .aload_n 0, 1), (155, .aload_n 2, 1), (156, .aload_n 1, 1), (157, .getfield 61, 3), (160, .iload 4, 2), (162, .iload 7, 2), (164, .iadd, 1), (165, .iaload, 1), (166, .iload 7, 2), (168, .aload_n 0, 1), (169, .getfield 9, 3), (172, .iload 4, 2), (174, .iload 7, 2), (176, .iadd, 1), (177, .iaload, 1), (178, .invokevirtual 74, 3), (181, .iinc 7 1, 3), (184, .goto (-52), 3), (187, .return_, 1)]
theorem DX5_carry : (eX5_carry.all fun q => decide (decode cX5_carry q.1 = .ok q.2)) = true := by decide +kernel
def jX5_carry_71 (S : List Sh) (mm : Mm) (x0 : Nat) (x1 : Nat) (x2 : Nat) (x3 : Int32) (x4 : Int32) (x5 : Int32) (x6 : Int32) (x7 : Int32) (p0 : Nat) (p1 : Int32) (p2 : Int32) : Option ((Int32 × Int32 × Mm) ⊕ (Int32 × Mm)) := bd1 (stA S 0 mm p0 p1 p2) fun m5 => bd1 (ldA S 0 m5 (rf S m5 x0 1) x7) fun a6 => some (.inl ((x6 + a6), x7 + 1, m5))
def bX5_carry_20 (S : List Sh) (x0 : Nat) (x1 : Nat) (x2 : Nat) (x3 : Int32) (x4 : Int32) (x5 : Int32) (x6 : Int32) (x7 : Int32) (mm : Mm) : Option ((Int32 × Int32 × Mm) ⊕ (Int32 × Mm)) := if (mm.1 x1 10) ≤ x7 then (some (.inr (x6, mm))) else (bd1 (stA S 0 mm (rf S mm x0 0) (x4 + x7) 0) fun m2 => if x5 = 0 then (bd1 (ldA S 0 m2 (rf S m2 x1 6) (x4 + x7)) fun a3 => bd1 (fX5_ready S m2 x2 a3 x7) fun a4 => jX5_carry_71 S m2 x0 x1 x2 x3 x4 x5 x6 x7 (rf S m2 x0 1) x7 a4) else (jX5_carry_71 S m2 x0 x1 x2 x3 x4 x5 x6 x7 (rf S m2 x0 1) x7 0))
def jX5_carry_181 (S : List Sh) (mm : Mm) (x0 : Nat) (x1 : Nat) (x2 : Nat) (x4 : Int32) (x7 : Int32)  : Option ((Int32 × Mm) ⊕ (Mm)) := some (.inl (x7 + 1, mm))
def bX5_carry_132 (S : List Sh) (x0 : Nat) (x1 : Nat) (x2 : Nat) (x4 : Int32) (x7 : Int32) (mm : Mm) : Option ((Int32 × Mm) ⊕ (Mm)) := if (mm.1 x1 10) ≤ x7 then (some (.inr (mm))) else (bd1 (ldA S 0 mm (rf S mm x0 0) (x4 + x7)) fun a13 => if a13 ≤ 0 then (jX5_carry_181 S mm x0 x1 x2 x4 x7) else (bd1 (ldA S 0 mm (rf S mm x1 6) (x4 + x7)) fun a14 => bd1 (ldA S 0 mm (rf S mm x0 0) (x4 + x7)) fun a15 => bd1 (fX5_takeOff S mm x0 x2 a14 x7 a15) fun m16 => jX5_carry_181 S m16 x0 x1 x2 x4 x7))
def fX5_carry (S : List Sh) (mm : Mm) (x0 : Nat) (x1 : Nat) (x2 : Nat) (x3 : Int32) : Option (Mm) := gd S x0 5 (gd S x1 1 (bd1 (fX1_isPaused S mm x1 x2 x3) fun a1 => bd1 (lp (fun s7 => bX5_carry_20 S x0 x1 x2 x3 (x3 * 8) a1 s7.1 s7.2.1 s7.2.2) fu (0, 0, mm)) fun y8 => bd1 (ldA S 0 y8.2 (rf S y8.2 x1 1) x3) fun a9 => bd1 (stA S 0 y8.2 x2 (90 + x3) (if a9 < y8.1 then a9 else y8.1)) fun m10 => if ¬ y8.1 = 0 then (bd1 (ldA S 0 m10 x2 (90 + x3)) fun a11 => bd1 (fX5_takeTurns S m10 x0 (x3 * 8) (m10.1 x1 10) a11) fun m12 => bd1 (lp (fun s17 => bX5_carry_132 S x0 x1 x2 (x3 * 8) s17.1 s17.2) fu (0, m12)) fun y18 => some y18) else (some m10)))
set_option maxHeartbeats 1000000 in
theorem tX5_carry_71 {G : Gt} {l : Launch} {E : Ev} {S : List Sh} {mm : Mm} {x0 : Nat} {x1 : Nat} {x2 : Nat} {x3 : Int32} {x4 : Int32} {x5 : Int32} {x6 : Int32} {x7 : Int32} {p0 : Nat} {p1 : Int32} {p2 : Int32} {r : (Int32 × Int32 × Mm) ⊕ (Int32 × Mm)} (C : Cx G E cX5_carry 8 RX5 none 2 57) (g0 : isC S x0 5) (g1 : isC S x1 1) (h : jX5_carry_71 S mm x0 x1 x2 x3 x4 x5 x6 x7 p0 p1 p2 = some r) (kb : ∀ z : Int32 × Int32 × Mm, r = .inl z → WM G l E S 20 [(0, .ref (E.2.2 x0)), (1, .ref (E.2.2 x1)), (2, .ref (E.2.2 x2)), (3, .int x3), (4, .int x4), (5, .int x5), (6, .int z.1), (7, .int z.2.1)] [] z.2.2) (kx : ∀ z : Int32 × Mm, r = .inr z → WM G l E S 90 [(0, .ref (E.2.2 x0)), (1, .ref (E.2.2 x1)), (2, .ref (E.2.2 x2)), (3, .int x3), (4, .int x4), (5, .int x5), (6, .int z.1)] [] z.2) : WM G l E S 71 [(0, .ref (E.2.2 x0)), (1, .ref (E.2.2 x1)), (2, .ref (E.2.2 x2)), (3, .int x3), (4, .int x4), (5, .int x5), (6, .int x6), (7, .int x7)] [.int p2, .int p1, .ref (E.2.2 p0)] mm := by
  unfold jX5_carry_71 at h
  refine x_iast C (dq DX5_carry 40 rfl) h (fun m5 h => ?_)
  refine x_iload C (dq DX5_carry 41 rfl) 6 rfl ?_
  refine x_aload_n C (dq DX5_carry 42 rfl) rfl 0 rfl ?_
  refine getX5_15 C (dq DX5_carry 43 rfl) g0 ?_
  refine x_pc 78 rfl ?_
  refine x_iload C (dq DX5_carry 44 rfl) 7 rfl ?_
  refine x_iald C (dq DX5_carry 45 rfl) h (fun a6 h => ?_)
  refine x_iadd C (dq DX5_carry 46 rfl) ?_
  refine x_istore (lv' := [(6, .int (x6 + a6)), (0, .ref (E.2.2 x0)), (1, .ref (E.2.2 x1)), (2, .ref (E.2.2 x2)), (3, .int x3), (4, .int x4), (5, .int x5), (7, .int x7)]) C (dq DX5_carry 47 rfl) (by decide) rfl ?_
  refine x_iinc (v := x7 + 1) (lv' := [(7, .int (x7 + 1)), (6, .int (x6 + a6)), (0, .ref (E.2.2 x0)), (1, .ref (E.2.2 x1)), (2, .ref (E.2.2 x2)), (3, .int x3), (4, .int x4), (5, .int x5)]) C (dq DX5_carry 48 rfl) 7 rfl rfl (by decide) rfl ?_
  refine x_pc 87 rfl ?_
  refine x_goto (tgt := 20) C (dq DX5_carry 49 rfl) (by decide) ?_
  cases h
  exact x_lv [2, 3, 4, 5, 6, 7, 1, 0] rfl (kb ((x6 + a6), x7 + 1, m5) rfl)
set_option maxHeartbeats 1000000 in
theorem tX5_carry_20 {G : Gt} {l : Launch} {E : Ev} {S : List Sh} {x0 : Nat} {x1 : Nat} {x2 : Nat} {x3 : Int32} {x4 : Int32} {x5 : Int32} {x6 : Int32} {x7 : Int32} {mm : Mm} {r : (Int32 × Int32 × Mm) ⊕ (Int32 × Mm)} (C : Cx G E cX5_carry 8 RX5 none 2 57) (g0 : isC S x0 5) (g1 : isC S x1 1) (h : bX5_carry_20 S x0 x1 x2 x3 x4 x5 x6 x7 mm = some r) (kb : ∀ z : Int32 × Int32 × Mm, r = .inl z → WM G l E S 20 [(0, .ref (E.2.2 x0)), (1, .ref (E.2.2 x1)), (2, .ref (E.2.2 x2)), (3, .int x3), (4, .int x4), (5, .int x5), (6, .int z.1), (7, .int z.2.1)] [] z.2.2) (kx : ∀ z : Int32 × Mm, r = .inr z → WM G l E S 90 [(0, .ref (E.2.2 x0)), (1, .ref (E.2.2 x1)), (2, .ref (E.2.2 x2)), (3, .int x3), (4, .int x4), (5, .int x5), (6, .int z.1)] [] z.2) : WM G l E S 20 [(0, .ref (E.2.2 x0)), (1, .ref (E.2.2 x1)), (2, .ref (E.2.2 x2)), (3, .int x3), (4, .int x4), (5, .int x5), (6, .int x6), (7, .int x7)] [] mm := by
  unfold bX5_carry_20 at h
  refine x_iload C (dq DX5_carry 13 rfl) 7 rfl ?_
  refine x_aload_n C (dq DX5_carry 14 rfl) rfl 1 rfl ?_
  refine getX5_21 C (dq DX5_carry 15 rfl) g1 ?_
  refine x_icmp_ge (tgt := 90) C (dq DX5_carry 16 rfl) (by decide) h (fun h => ?_) (fun h => ?_)
  · cases h
    exact x_lv [0, 1, 2, 3, 4, 5, 6] rfl (kx (x6, mm) rfl)
  · refine x_pc 29 rfl ?_
    refine x_aload_n C (dq DX5_carry 17 rfl) rfl 0 rfl ?_
    refine getX5_9 C (dq DX5_carry 18 rfl) g0 ?_
    refine x_iload C (dq DX5_carry 19 rfl) 4 rfl ?_
    refine x_iload C (dq DX5_carry 20 rfl) 7 rfl ?_
    refine x_iadd C (dq DX5_carry 21 rfl) ?_
    refine x_pc 38 rfl ?_
    refine x_iconst (v := 0) C (dq DX5_carry 22 rfl) (by decide) ?_
    refine x_iast C (dq DX5_carry 23 rfl) h (fun m2 h => ?_)
    refine x_aload_n C (dq DX5_carry 24 rfl) rfl 0 rfl ?_
    refine getX5_15 C (dq DX5_carry 25 rfl) g0 ?_
    refine x_iload C (dq DX5_carry 26 rfl) 7 rfl ?_
    refine x_pc 46 rfl ?_
    refine x_iload C (dq DX5_carry 27 rfl) 5 rfl ?_
    refine x_if_eq (tgt := 55) C (dq DX5_carry 28 rfl) (by decide) h (fun h => ?_) (fun h => ?_)
    · refine x_aload_n C (dq DX5_carry 31 rfl) rfl 2 rfl ?_
      refine x_aload_n C (dq DX5_carry 32 rfl) rfl 1 rfl ?_
      refine getX5_61 C (dq DX5_carry 33 rfl) g1 ?_
      refine x_pc 60 rfl ?_
      refine x_iload C (dq DX5_carry 34 rfl) 4 rfl ?_
      refine x_iload C (dq DX5_carry 35 rfl) 7 rfl ?_
      refine x_iadd C (dq DX5_carry 36 rfl) ?_
      refine x_iald C (dq DX5_carry 37 rfl) h (fun a3 h => ?_)
      refine x_iload C (dq DX5_carry 38 rfl) 7 rfl ?_
      refine x_pc 68 rfl ?_
      refine callX5_64 C (dq DX5_carry 39 rfl) h (by decide) (by decide) (Nat.le_of_ble_eq_true rfl) (fun a4 h => ?_)
      exact x_lv [0, 1, 2, 3, 4, 5, 6, 7] rfl (tX5_carry_71 C g0 g1 h kb kx)
    · refine x_iconst (v := 0) C (dq DX5_carry 29 rfl) (by decide) ?_
      refine x_goto (tgt := 71) C (dq DX5_carry 30 rfl) (by decide) ?_
      exact x_lv [0, 1, 2, 3, 4, 5, 6, 7] rfl (tX5_carry_71 C g0 g1 h kb kx)
set_option maxHeartbeats 1000000 in
theorem tX5_carry_181 {G : Gt} {l : Launch} {E : Ev} {S : List Sh} {mm : Mm} {x0 : Nat} {x1 : Nat} {x2 : Nat} {x4 : Int32} {x7 : Int32}  {r : (Int32 × Mm) ⊕ (Mm)} (C : Cx G E cX5_carry 8 RX5 none 2 57) (g0 : isC S x0 5) (g1 : isC S x1 1) (h : jX5_carry_181 S mm x0 x1 x2 x4 x7 = some r) (kb : ∀ z : Int32 × Mm, r = .inl z → WM G l E S 132 [(0, .ref (E.2.2 x0)), (1, .ref (E.2.2 x1)), (2, .ref (E.2.2 x2)), (4, .int x4), (7, .int z.1)] [] z.2) (kx : ∀ z : Mm, r = .inr z → WM G l E S 187 [(0, .ref (E.2.2 x0)), (1, .ref (E.2.2 x1)), (2, .ref (E.2.2 x2)), (4, .int x4)] [] z) : WM G l E S 181 [(0, .ref (E.2.2 x0)), (1, .ref (E.2.2 x1)), (2, .ref (E.2.2 x2)), (4, .int x4), (7, .int x7)] [] mm := by
  unfold jX5_carry_181 at h
  refine x_iinc (v := x7 + 1) (lv' := [(7, .int (x7 + 1)), (0, .ref (E.2.2 x0)), (1, .ref (E.2.2 x1)), (2, .ref (E.2.2 x2)), (4, .int x4)]) C (dq DX5_carry 103 rfl) 4 rfl rfl (by decide) rfl ?_
  refine x_goto (tgt := 132) C (dq DX5_carry 104 rfl) (by decide) ?_
  cases h
  exact x_lv [1, 2, 3, 4, 0] rfl (kb (x7 + 1, mm) rfl)
set_option maxHeartbeats 1000000 in
theorem tX5_carry_132 {G : Gt} {l : Launch} {E : Ev} {S : List Sh} {x0 : Nat} {x1 : Nat} {x2 : Nat} {x4 : Int32} {x7 : Int32} {mm : Mm} {r : (Int32 × Mm) ⊕ (Mm)} (C : Cx G E cX5_carry 8 RX5 none 2 57) (g0 : isC S x0 5) (g1 : isC S x1 1) (h : bX5_carry_132 S x0 x1 x2 x4 x7 mm = some r) (kb : ∀ z : Int32 × Mm, r = .inl z → WM G l E S 132 [(0, .ref (E.2.2 x0)), (1, .ref (E.2.2 x1)), (2, .ref (E.2.2 x2)), (4, .int x4), (7, .int z.1)] [] z.2) (kx : ∀ z : Mm, r = .inr z → WM G l E S 187 [(0, .ref (E.2.2 x0)), (1, .ref (E.2.2 x1)), (2, .ref (E.2.2 x2)), (4, .int x4)] [] z) : WM G l E S 132 [(0, .ref (E.2.2 x0)), (1, .ref (E.2.2 x1)), (2, .ref (E.2.2 x2)), (4, .int x4), (7, .int x7)] [] mm := by
  unfold bX5_carry_132 at h
  refine x_iload C (dq DX5_carry 76 rfl) 4 rfl ?_
  refine x_aload_n C (dq DX5_carry 77 rfl) rfl 1 rfl ?_
  refine getX5_21 C (dq DX5_carry 78 rfl) g1 ?_
  refine x_icmp_ge (tgt := 187) C (dq DX5_carry 79 rfl) (by decide) h (fun h => ?_) (fun h => ?_)
  · cases h
    exact x_lv [0, 1, 2, 3] rfl (kx (mm) rfl)
  · refine x_pc 141 rfl ?_
    refine x_aload_n C (dq DX5_carry 80 rfl) rfl 0 rfl ?_
    refine getX5_9 C (dq DX5_carry 81 rfl) g0 ?_
    refine x_iload C (dq DX5_carry 82 rfl) 3 rfl ?_
    refine x_iload C (dq DX5_carry 83 rfl) 4 rfl ?_
    refine x_iadd C (dq DX5_carry 84 rfl) ?_
    refine x_pc 150 rfl ?_
    refine x_iald C (dq DX5_carry 85 rfl) h (fun a13 h => ?_)
    refine x_if_le (tgt := 181) C (dq DX5_carry 86 rfl) (by decide) h (fun h => ?_) (fun h => ?_)
    · exact x_lv [0, 1, 2, 3, 4] rfl (tX5_carry_181 C g0 g1 h kb kx)
    · refine x_aload_n C (dq DX5_carry 87 rfl) rfl 0 rfl ?_
      refine x_aload_n C (dq DX5_carry 88 rfl) rfl 2 rfl ?_
      refine x_aload_n C (dq DX5_carry 89 rfl) rfl 1 rfl ?_
      refine x_pc 157 rfl ?_
      refine getX5_61 C (dq DX5_carry 90 rfl) g1 ?_
      refine x_iload C (dq DX5_carry 91 rfl) 3 rfl ?_
      refine x_iload C (dq DX5_carry 92 rfl) 4 rfl ?_
      refine x_iadd C (dq DX5_carry 93 rfl) ?_
      refine x_iald C (dq DX5_carry 94 rfl) h (fun a14 h => ?_)
      refine x_pc 166 rfl ?_
      refine x_iload C (dq DX5_carry 95 rfl) 4 rfl ?_
      refine x_aload_n C (dq DX5_carry 96 rfl) rfl 0 rfl ?_
      refine getX5_9 C (dq DX5_carry 97 rfl) g0 ?_
      refine x_iload C (dq DX5_carry 98 rfl) 3 rfl ?_
      refine x_iload C (dq DX5_carry 99 rfl) 4 rfl ?_
      refine x_pc 176 rfl ?_
      refine x_iadd C (dq DX5_carry 100 rfl) ?_
      refine x_iald C (dq DX5_carry 101 rfl) h (fun a15 h => ?_)
      refine callX5_74 C (dq DX5_carry 102 rfl) h (by decide) (by decide) (Nat.le_of_ble_eq_true rfl) (fun m16 h => ?_)
      exact x_lv [0, 1, 2, 3, 4] rfl (tX5_carry_181 C g0 g1 h kb kx)
set_option maxHeartbeats 1000000 in
theorem mX5_carry {l : Launch} {E : Ev} {S : List Sh} {mm : Mm} {x0 : Nat} {x1 : Nat} {x2 : Nat} {x3 : Int32} {r : Mm} (h : fX5_carry S mm x0 x1 x2 x3 = some r) : Ml l E S yX5_carry cX5_carry 8 none 2 57 [.ref (E.2.2 x0), .ref (E.2.2 x1), .ref (E.2.2 x2), .int x3] mm none r := by
  refine Ml.of (by decide +kernel) (Nat.le_of_ble_eq_true rfl) (fun G C hQ => ?_)
  have C : Cx G E cX5_carry 8 RX5 none 2 57 := C
  unfold fX5_carry at h
  obtain ⟨g0, h⟩ := gd_some h
  obtain ⟨g1, h⟩ := gd_some h
  show WM G l E S 0 [(0, .ref (E.2.2 x0)), (1, .ref (E.2.2 x1)), (2, .ref (E.2.2 x2)), (3, .int x3)] [] mm
  refine x_iload_n C (dq DX5_carry 0 rfl) rfl 3 rfl ?_
  refine x_bipush (v := 8) C (dq DX5_carry 1 rfl) (by decide) ?_
  refine x_imul C (dq DX5_carry 2 rfl) ?_
  refine x_istore (lv' := [(4, .int (x3 * 8)), (0, .ref (E.2.2 x0)), (1, .ref (E.2.2 x1)), (2, .ref (E.2.2 x2)), (3, .int x3)]) C (dq DX5_carry 3 rfl) (by decide) rfl ?_
  refine x_pc 6 rfl ?_
  refine x_aload_n C (dq DX5_carry 4 rfl) rfl 2 rfl ?_
  refine x_aload_n C (dq DX5_carry 5 rfl) rfl 3 rfl ?_
  refine x_iload_n C (dq DX5_carry 6 rfl) rfl 4 rfl ?_
  refine callX5_57 C (dq DX5_carry 7 rfl) h (by decide) (by decide) (Nat.le_of_ble_eq_true rfl) (fun a1 h => ?_)
  refine x_istore (lv' := [(5, .int a1), (4, .int (x3 * 8)), (0, .ref (E.2.2 x0)), (1, .ref (E.2.2 x1)), (2, .ref (E.2.2 x2)), (3, .int x3)]) C (dq DX5_carry 8 rfl) (by decide) rfl ?_
  refine x_pc 14 rfl ?_
  refine x_iconst (v := 0) C (dq DX5_carry 9 rfl) (by decide) ?_
  refine x_istore (lv' := [(6, .int 0), (5, .int a1), (4, .int (x3 * 8)), (0, .ref (E.2.2 x0)), (1, .ref (E.2.2 x1)), (2, .ref (E.2.2 x2)), (3, .int x3)]) C (dq DX5_carry 10 rfl) (by decide) rfl ?_
  refine x_iconst (v := 0) C (dq DX5_carry 11 rfl) (by decide) ?_
  refine x_istore (lv' := [(7, .int 0), (6, .int 0), (5, .int a1), (4, .int (x3 * 8)), (0, .ref (E.2.2 x0)), (1, .ref (E.2.2 x1)), (2, .ref (E.2.2 x2)), (3, .int x3)]) C (dq DX5_carry 12 rfl) (by decide) rfl ?_
  refine x_lv [4, 5, 6, 7, 3, 2, 1, 0] rfl ?_
  refine x_loop (s0 := (0, 0, mm)) (fun s7 => WM G l E S 20 [(0, .ref (E.2.2 x0)), (1, .ref (E.2.2 x1)), (2, .ref (E.2.2 x2)), (3, .int x3), (4, .int (x3 * 8)), (5, .int a1), (6, .int s7.1), (7, .int s7.2.1)] [] s7.2.2) h (fun s7 r hb kb kx => tX5_carry_20 C g0 g1 hb kb (fun y8 hy => ?_))
  have h := kx y8 hy
  clear kx kb hb hy
  refine x_aload_n C (dq DX5_carry 50 rfl) rfl 2 rfl ?_
  refine x_pc 91 rfl ?_
  refine x_bipush (v := 90) C (dq DX5_carry 51 rfl) (by decide) ?_
  refine x_iload_n C (dq DX5_carry 52 rfl) rfl 3 rfl ?_
  refine x_iadd C (dq DX5_carry 53 rfl) ?_
  refine x_iload C (dq DX5_carry 54 rfl) 6 rfl ?_
  refine x_aload_n C (dq DX5_carry 55 rfl) rfl 1 rfl ?_
  refine x_pc 98 rfl ?_
  refine getX5_67 C (dq DX5_carry 56 rfl) g1 ?_
  refine x_iload_n C (dq DX5_carry 57 rfl) rfl 3 rfl ?_
  refine x_iald C (dq DX5_carry 58 rfl) h (fun a9 h => ?_)
  refine callX5_27 C (dq DX5_carry 59 rfl) (by decide) (Nat.le_of_ble_eq_true rfl) ?_
  refine x_iast C (dq DX5_carry 60 rfl) h (fun m10 h => ?_)
  refine x_pc 107 rfl ?_
  refine x_iload C (dq DX5_carry 61 rfl) 6 rfl ?_
  refine x_if_ne (tgt := 113) C (dq DX5_carry 62 rfl) (by decide) h (fun h => ?_) (fun h => ?_)
  · refine x_aload_n C (dq DX5_carry 64 rfl) rfl 0 rfl ?_
    refine x_iload C (dq DX5_carry 65 rfl) 4 rfl ?_
    refine x_aload_n C (dq DX5_carry 66 rfl) rfl 1 rfl ?_
    refine x_pc 117 rfl ?_
    refine getX5_21 C (dq DX5_carry 67 rfl) g1 ?_
    refine x_aload_n C (dq DX5_carry 68 rfl) rfl 2 rfl ?_
    refine x_bipush (v := 90) C (dq DX5_carry 69 rfl) (by decide) ?_
    refine x_iload_n C (dq DX5_carry 70 rfl) rfl 3 rfl ?_
    refine x_iadd C (dq DX5_carry 71 rfl) ?_
    refine x_pc 125 rfl ?_
    refine x_iald C (dq DX5_carry 72 rfl) h (fun a11 h => ?_)
    refine callX5_70 C (dq DX5_carry 73 rfl) h (by decide) (by decide) (Nat.le_of_ble_eq_true rfl) (fun m12 h => ?_)
    refine x_iconst (v := 0) C (dq DX5_carry 74 rfl) (by decide) ?_
    refine x_istore (lv' := [(7, .int 0), (0, .ref (E.2.2 x0)), (1, .ref (E.2.2 x1)), (2, .ref (E.2.2 x2)), (3, .int x3), (4, .int (x3 * 8)), (5, .int a1), (6, .int y8.1)]) C (dq DX5_carry 75 rfl) (by decide) rfl ?_
    refine x_lv [1, 2, 3, 5, 0] rfl ?_
    refine x_loop (s0 := (0, m12)) (fun s17 => WM G l E S 132 [(0, .ref (E.2.2 x0)), (1, .ref (E.2.2 x1)), (2, .ref (E.2.2 x2)), (4, .int (x3 * 8)), (7, .int s17.1)] [] s17.2) h (fun s17 r hb kb kx => tX5_carry_132 C g0 g1 hb kb (fun y18 hy => ?_))
    have h := kx y18 hy
    clear kx kb hb hy
    cases h
    exact x_vret C (dq DX5_carry 105 rfl) hQ
  · cases h
    exact x_vret C (dq DX5_carry 63 rfl) hQ
set_option maxHeartbeats 1000000 in
theorem qX5_carry {S : List Sh} {mm : Mm} {x0 : Nat} {x1 : Nat} {x2 : Nat} {x3 : Int32} {r : Mm} (h : fX5_carry S mm x0 x1 x2 x3 = some r) : isC S x0 5 := by
  unfold fX5_carry at h
  exact (gd_some h).1
