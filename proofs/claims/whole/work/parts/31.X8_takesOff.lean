abbrev eX8_takesOff : List (Nat × Instr × Nat) := [(0, .iconst 0, 1), (1, .istore_n 1, 1), (2, .iload_n 1, 1), (3, .aload_n 0, 1), (4, .invokevirtual 248, 3), (7, .if_icmp .ge 124, 3), (10, .iconst 0, 1), (11, .istore_n 2, 1), (12, .iload_n 2, 1), (13, .aload_n 0, 1), (14, .invokevirtual 251, 3), (17, .if_icmp .ge 108, 3), (20, .aload_n 0, 1), (21, .getfield 75, 3), (24, .bipush 8, 2), (26, .iload_n 1, 1), (27, .imul, 1), (28, .iload_n 2, 1), (29, .iadd, 1), (30, .iaload, 1), (31, .istore_n 3, 1), (32, .iload_n 3, 1), (33, .ifCond .ne 6, 3), (36, .goto 83, 3), (39, .aload_n 0, 1), (40, .iload_n 2, 1), (41, .iload_n 1, 1), (42, .invokevirtual 261, 3), (45, .istore 4, 2), (47, .iload 4, 2), (49, .ifCond .le 36, 3), (52, .aload_n 0, 1), (53, .getfield 57, 3), (56, .bipush 24, 2), (58, .aload_n 0, 1), (59, .getfield 50, 3), (62, .iconst 5, 1), (63, .iload_n 2, 1), (64, .imul, 1), (65, .iload 4, 2), (67, .iadd, 1), (68, .iconst 1, 1), (69, .isub, 1), (70, .iaload, 1), (71, .imul, 1), (72, .bipush 15, 2), (74, .iadd, 1), (75, .iload_n 2, 1), (76, .iadd, 1), (77, .dup2, 1), (78, .iaload, 1), (79, .iload_n 3, 1), (80, .isub, 1), (81, .iastore, 1), (82, .goto 37, 3), (85, .aload_n 0, 1), (86, .getfield 57, 3), (89, .iload_n 2, 1), (90, .invokestatic 258, 3), (93, .bipush 8, 2), (95, .iadd, 1), (96, .dup2, 1), (97, .iaload, 1), (98, .bipush 16, 2), (100, .iload_n 3, 1), (101, .imul, 1), (102, .isub, 1), (103, .iastore, 1), (104, .aload_n 0, 1), (105, .getfield 57, 3), (108, .iload_n 2, 1), (109, .invokestatic 258, 3), (112, .iconst 4, 1), (113, .iadd, 1), (114, .dup2, 1), (115, .iaload, 1), (116, .iload_n 3, 1), (117, .iadd, 1), (118, .iastore, 1), (119, .iinc 2 1, 3), (122, .goto (-110), 3), (125, .iinc 1 1, 3), (128, .goto (-126), 3), (131, .return_, 1)]
theorem DX8_takesOff : (eX8_takesOff.all fun q => decide (decode cX8_takesOff q.1 = .ok q.2)) = true := by decide +kernel
def jX8_takesOff_119 (S : List Sh) (mm : Mm) (x0 : Nat) (x1 : Int32) (x2 : Int32)  : Option ((Int32 × Mm) ⊕ (Mm)) := some (.inl (x2 + 1, mm))
def bX8_takesOff_12 (S : List Sh) (x0 : Nat) (x1 : Int32) (x2 : Int32) (mm : Mm) : Option ((Int32 × Mm) ⊕ (Mm)) := bd1 (fX8_flows S mm x0) fun a2 => if a2 ≤ x2 then (some (.inr (mm))) else (bd1 (ldA S 0 mm (rf S mm x0 34) ((8 * x1) + x2)) fun a3 => if ¬ a3 = 0 then (bd1 (fX8_hopOf S mm x0 x2 x1) fun a4 => if a4 ≤ 0 then (bd1 (fX8_flowAt S mm x2) fun a5 => bd1 (ldA S 0 mm (rf S mm x0 26) (a5 + 8)) fun a6 => bd1 (stA S 0 mm (rf S mm x0 26) (a5 + 8) (a6 - (16 * a3))) fun m7 => bd1 (fX8_flowAt S m7 x2) fun a8 => bd1 (ldA S 0 m7 (rf S m7 x0 26) (a8 + 4)) fun a9 => bd1 (stA S 0 m7 (rf S m7 x0 26) (a8 + 4) (a9 + a3)) fun m10 => jX8_takesOff_119 S m10 x0 x1 x2) else (bd1 (ldA S 0 mm (rf S mm x0 15) (((5 * x2) + a4) - 1)) fun a11 => bd1 (ldA S 0 mm (rf S mm x0 26) (((24 * a11) + 15) + x2)) fun a12 => bd1 (stA S 0 mm (rf S mm x0 26) (((24 * a11) + 15) + x2) (a12 - a3)) fun m13 => jX8_takesOff_119 S m13 x0 x1 x2)) else (jX8_takesOff_119 S mm x0 x1 x2))
def bX8_takesOff_2 (S : List Sh) (x0 : Nat) (x1 : Int32) (mm : Mm) : Option ((Int32 × Mm) ⊕ (Mm)) := bd1 (fX8_links S mm x0) fun a1 => if a1 ≤ x1 then (some (.inr (mm))) else (bd1 (lp (fun s14 => bX8_takesOff_12 S x0 x1 s14.1 s14.2) fu (0, mm)) fun y15 => some (.inl (x1 + 1, y15)))
def fX8_takesOff (S : List Sh) (mm : Mm) (x0 : Nat) : Option (Mm) := gd S x0 8 (bd1 (lp (fun s16 => bX8_takesOff_2 S x0 s16.1 s16.2) fu (0, mm)) fun y17 => some y17)
set_option maxHeartbeats 1000000 in
theorem tX8_takesOff_119 {G : Gt} {l : Launch} {E : Ev} {S : List Sh} {mm : Mm} {x0 : Nat} {x1 : Int32} {x2 : Int32}  {r : (Int32 × Mm) ⊕ (Mm)} (C : Cx G E cX8_takesOff 5 RX8 none 1 23) (g0 : isC S x0 8) (h : jX8_takesOff_119 S mm x0 x1 x2 = some r) (kb : ∀ z : Int32 × Mm, r = .inl z → WM G l E S 12 [(0, .ref (E.2.2 x0)), (1, .int x1), (2, .int z.1)] [] z.2) (kx : ∀ z : Mm, r = .inr z → WM G l E S 125 [(0, .ref (E.2.2 x0)), (1, .int x1)] [] z) : WM G l E S 119 [(0, .ref (E.2.2 x0)), (1, .int x1), (2, .int x2)] [] mm := by
  unfold jX8_takesOff_119 at h
  refine x_iinc (v := x2 + 1) (lv' := [(2, .int (x2 + 1)), (0, .ref (E.2.2 x0)), (1, .int x1)]) C (dq DX8_takesOff 79 rfl) 2 rfl rfl (by decide) rfl ?_
  refine x_goto (tgt := 12) C (dq DX8_takesOff 80 rfl) (by decide) ?_
  cases h
  exact x_lv [1, 2, 0] rfl (kb (x2 + 1, mm) rfl)
set_option maxHeartbeats 1000000 in
theorem tX8_takesOff_12 {G : Gt} {l : Launch} {E : Ev} {S : List Sh} {x0 : Nat} {x1 : Int32} {x2 : Int32} {mm : Mm} {r : (Int32 × Mm) ⊕ (Mm)} (C : Cx G E cX8_takesOff 5 RX8 none 1 23) (g0 : isC S x0 8) (h : bX8_takesOff_12 S x0 x1 x2 mm = some r) (kb : ∀ z : Int32 × Mm, r = .inl z → WM G l E S 12 [(0, .ref (E.2.2 x0)), (1, .int x1), (2, .int z.1)] [] z.2) (kx : ∀ z : Mm, r = .inr z → WM G l E S 125 [(0, .ref (E.2.2 x0)), (1, .int x1)] [] z) : WM G l E S 12 [(0, .ref (E.2.2 x0)), (1, .int x1), (2, .int x2)] [] mm := by
  unfold bX8_takesOff_12 at h
  refine x_iload_n C (dq DX8_takesOff 8 rfl) rfl 2 rfl ?_
  refine x_aload_n C (dq DX8_takesOff 9 rfl) rfl 0 rfl ?_
  refine callX8_251 C (dq DX8_takesOff 10 rfl) h (by decide) (by decide) (Nat.le_of_ble_eq_true rfl) (fun a2 h => ?_)
  refine x_icmp_ge (tgt := 125) C (dq DX8_takesOff 11 rfl) (by decide) h (fun h => ?_) (fun h => ?_)
  · cases h
    exact x_lv [0, 1] rfl (kx (mm) rfl)
  · refine x_pc 20 rfl ?_
    refine x_aload_n C (dq DX8_takesOff 12 rfl) rfl 0 rfl ?_
    refine getX8_75 C (dq DX8_takesOff 13 rfl) g0 ?_
    refine x_bipush (v := 8) C (dq DX8_takesOff 14 rfl) (by decide) ?_
    refine x_iload_n C (dq DX8_takesOff 15 rfl) rfl 1 rfl ?_
    refine x_imul C (dq DX8_takesOff 16 rfl) ?_
    refine x_pc 28 rfl ?_
    refine x_iload_n C (dq DX8_takesOff 17 rfl) rfl 2 rfl ?_
    refine x_iadd C (dq DX8_takesOff 18 rfl) ?_
    refine x_iald C (dq DX8_takesOff 19 rfl) h (fun a3 h => ?_)
    refine x_istore_n (lv' := [(3, .int a3), (0, .ref (E.2.2 x0)), (1, .int x1), (2, .int x2)]) C (dq DX8_takesOff 20 rfl) rfl (by decide) rfl ?_
    refine x_iload_n C (dq DX8_takesOff 21 rfl) rfl 0 rfl ?_
    refine x_pc 33 rfl ?_
    refine x_if_ne (tgt := 39) C (dq DX8_takesOff 22 rfl) (by decide) h (fun h => ?_) (fun h => ?_)
    · refine x_aload_n C (dq DX8_takesOff 24 rfl) rfl 1 rfl ?_
      refine x_iload_n C (dq DX8_takesOff 25 rfl) rfl 3 rfl ?_
      refine x_iload_n C (dq DX8_takesOff 26 rfl) rfl 2 rfl ?_
      refine callX8_261 C (dq DX8_takesOff 27 rfl) h (by decide) (by decide) (Nat.le_of_ble_eq_true rfl) (fun a4 h => ?_)
      refine x_pc 45 rfl ?_
      refine x_istore (lv' := [(4, .int a4), (3, .int a3), (0, .ref (E.2.2 x0)), (1, .int x1), (2, .int x2)]) C (dq DX8_takesOff 28 rfl) (by decide) rfl ?_
      refine x_iload C (dq DX8_takesOff 29 rfl) 0 rfl ?_
      refine x_if_le (tgt := 85) C (dq DX8_takesOff 30 rfl) (by decide) h (fun h => ?_) (fun h => ?_)
      · refine x_aload_n C (dq DX8_takesOff 55 rfl) rfl 2 rfl ?_
        refine getX8_57 C (dq DX8_takesOff 56 rfl) g0 ?_
        refine x_pc 89 rfl ?_
        refine x_iload_n C (dq DX8_takesOff 57 rfl) rfl 4 rfl ?_
        refine callX8_258 C (dq DX8_takesOff 58 rfl) h (by decide) (by decide) (Nat.le_of_ble_eq_true rfl) (fun a5 h => ?_)
        refine x_bipush (v := 8) C (dq DX8_takesOff 59 rfl) (by decide) ?_
        refine x_iadd C (dq DX8_takesOff 60 rfl) ?_
        refine x_dup2 C (dq DX8_takesOff 61 rfl) rfl rfl ?_
        refine x_pc 97 rfl ?_
        refine x_iald C (dq DX8_takesOff 62 rfl) h (fun a6 h => ?_)
        refine x_bipush (v := 16) C (dq DX8_takesOff 63 rfl) (by decide) ?_
        refine x_iload_n C (dq DX8_takesOff 64 rfl) rfl 1 rfl ?_
        refine x_imul C (dq DX8_takesOff 65 rfl) ?_
        refine x_isub C (dq DX8_takesOff 66 rfl) ?_
        refine x_pc 103 rfl ?_
        refine x_iast C (dq DX8_takesOff 67 rfl) h (fun m7 h => ?_)
        refine x_aload_n C (dq DX8_takesOff 68 rfl) rfl 2 rfl ?_
        refine getX8_57 C (dq DX8_takesOff 69 rfl) g0 ?_
        refine x_iload_n C (dq DX8_takesOff 70 rfl) rfl 4 rfl ?_
        refine callX8_258 C (dq DX8_takesOff 71 rfl) h (by decide) (by decide) (Nat.le_of_ble_eq_true rfl) (fun a8 h => ?_)
        refine x_pc 112 rfl ?_
        refine x_iconst (v := 4) C (dq DX8_takesOff 72 rfl) (by decide) ?_
        refine x_iadd C (dq DX8_takesOff 73 rfl) ?_
        refine x_dup2 C (dq DX8_takesOff 74 rfl) rfl rfl ?_
        refine x_iald C (dq DX8_takesOff 75 rfl) h (fun a9 h => ?_)
        refine x_iload_n C (dq DX8_takesOff 76 rfl) rfl 1 rfl ?_
        refine x_pc 117 rfl ?_
        refine x_iadd C (dq DX8_takesOff 77 rfl) ?_
        refine x_iast C (dq DX8_takesOff 78 rfl) h (fun m10 h => ?_)
        exact x_lv [2, 3, 4] rfl (tX8_takesOff_119 C g0 h kb kx)
      · refine x_aload_n C (dq DX8_takesOff 31 rfl) rfl 2 rfl ?_
        refine getX8_57 C (dq DX8_takesOff 32 rfl) g0 ?_
        refine x_pc 56 rfl ?_
        refine x_bipush (v := 24) C (dq DX8_takesOff 33 rfl) (by decide) ?_
        refine x_aload_n C (dq DX8_takesOff 34 rfl) rfl 2 rfl ?_
        refine getX8_50 C (dq DX8_takesOff 35 rfl) g0 ?_
        refine x_iconst (v := 5) C (dq DX8_takesOff 36 rfl) (by decide) ?_
        refine x_iload_n C (dq DX8_takesOff 37 rfl) rfl 4 rfl ?_
        refine x_pc 64 rfl ?_
        refine x_imul C (dq DX8_takesOff 38 rfl) ?_
        refine x_iload C (dq DX8_takesOff 39 rfl) 0 rfl ?_
        refine x_iadd C (dq DX8_takesOff 40 rfl) ?_
        refine x_iconst (v := 1) C (dq DX8_takesOff 41 rfl) (by decide) ?_
        refine x_isub C (dq DX8_takesOff 42 rfl) ?_
        refine x_pc 70 rfl ?_
        refine x_iald C (dq DX8_takesOff 43 rfl) h (fun a11 h => ?_)
        refine x_imul C (dq DX8_takesOff 44 rfl) ?_
        refine x_bipush (v := 15) C (dq DX8_takesOff 45 rfl) (by decide) ?_
        refine x_iadd C (dq DX8_takesOff 46 rfl) ?_
        refine x_iload_n C (dq DX8_takesOff 47 rfl) rfl 4 rfl ?_
        refine x_pc 76 rfl ?_
        refine x_iadd C (dq DX8_takesOff 48 rfl) ?_
        refine x_dup2 C (dq DX8_takesOff 49 rfl) rfl rfl ?_
        refine x_iald C (dq DX8_takesOff 50 rfl) h (fun a12 h => ?_)
        refine x_iload_n C (dq DX8_takesOff 51 rfl) rfl 1 rfl ?_
        refine x_isub C (dq DX8_takesOff 52 rfl) ?_
        refine x_pc 81 rfl ?_
        refine x_iast C (dq DX8_takesOff 53 rfl) h (fun m13 h => ?_)
        refine x_goto (tgt := 119) C (dq DX8_takesOff 54 rfl) (by decide) ?_
        exact x_lv [2, 3, 4] rfl (tX8_takesOff_119 C g0 h kb kx)
    · refine x_goto (tgt := 119) C (dq DX8_takesOff 23 rfl) (by decide) ?_
      exact x_lv [1, 2, 3] rfl (tX8_takesOff_119 C g0 h kb kx)
set_option maxHeartbeats 1000000 in
theorem tX8_takesOff_2 {G : Gt} {l : Launch} {E : Ev} {S : List Sh} {x0 : Nat} {x1 : Int32} {mm : Mm} {r : (Int32 × Mm) ⊕ (Mm)} (C : Cx G E cX8_takesOff 5 RX8 none 1 23) (g0 : isC S x0 8) (h : bX8_takesOff_2 S x0 x1 mm = some r) (kb : ∀ z : Int32 × Mm, r = .inl z → WM G l E S 2 [(0, .ref (E.2.2 x0)), (1, .int z.1)] [] z.2) (kx : ∀ z : Mm, r = .inr z → WM G l E S 131 [(0, .ref (E.2.2 x0))] [] z) : WM G l E S 2 [(0, .ref (E.2.2 x0)), (1, .int x1)] [] mm := by
  unfold bX8_takesOff_2 at h
  refine x_iload_n C (dq DX8_takesOff 2 rfl) rfl 1 rfl ?_
  refine x_aload_n C (dq DX8_takesOff 3 rfl) rfl 0 rfl ?_
  refine callX8_248 C (dq DX8_takesOff 4 rfl) h (by decide) (by decide) (Nat.le_of_ble_eq_true rfl) (fun a1 h => ?_)
  refine x_icmp_ge (tgt := 131) C (dq DX8_takesOff 5 rfl) (by decide) h (fun h => ?_) (fun h => ?_)
  · cases h
    exact x_lv [0] rfl (kx (mm) rfl)
  · refine x_pc 10 rfl ?_
    refine x_iconst (v := 0) C (dq DX8_takesOff 6 rfl) (by decide) ?_
    refine x_istore_n (lv' := [(2, .int 0), (0, .ref (E.2.2 x0)), (1, .int x1)]) C (dq DX8_takesOff 7 rfl) rfl (by decide) rfl ?_
    refine x_lv [1, 2, 0] rfl ?_
    refine x_loop (s0 := (0, mm)) (fun s14 => WM G l E S 12 [(0, .ref (E.2.2 x0)), (1, .int x1), (2, .int s14.1)] [] s14.2) h (fun s14 r hb kb kx => tX8_takesOff_12 C g0 hb kb (fun y15 hy => ?_))
    have h := kx y15 hy
    clear kx kb hb hy
    refine x_iinc (v := x1 + 1) (lv' := [(1, .int (x1 + 1)), (0, .ref (E.2.2 x0))]) C (dq DX8_takesOff 81 rfl) 1 rfl rfl (by decide) rfl ?_
    refine x_goto (tgt := 2) C (dq DX8_takesOff 82 rfl) (by decide) ?_
    cases h
    exact x_lv [1, 0] rfl (kb (x1 + 1, y15) rfl)
set_option maxHeartbeats 1000000 in
theorem mX8_takesOff {l : Launch} {E : Ev} {S : List Sh} {mm : Mm} {x0 : Nat} {r : Mm} (h : fX8_takesOff S mm x0 = some r) : Ml l E S yX8_takesOff cX8_takesOff 5 none 1 23 [.ref (E.2.2 x0)] mm none r := by
  refine Ml.of (by decide +kernel) (Nat.le_of_ble_eq_true rfl) (fun G C hQ => ?_)
  have C : Cx G E cX8_takesOff 5 RX8 none 1 23 := C
  unfold fX8_takesOff at h
  obtain ⟨g0, h⟩ := gd_some h
  show WM G l E S 0 [(0, .ref (E.2.2 x0))] [] mm
  refine x_iconst (v := 0) C (dq DX8_takesOff 0 rfl) (by decide) ?_
  refine x_istore_n (lv' := [(1, .int 0), (0, .ref (E.2.2 x0))]) C (dq DX8_takesOff 1 rfl) rfl (by decide) rfl ?_
  refine x_lv [1, 0] rfl ?_
  refine x_loop (s0 := (0, mm)) (fun s16 => WM G l E S 2 [(0, .ref (E.2.2 x0)), (1, .int s16.1)] [] s16.2) h (fun s16 r hb kb kx => tX8_takesOff_2 C g0 hb kb (fun y17 hy => ?_))
  have h := kx y17 hy
  clear kx kb hb hy
  cases h
  exact x_vret C (dq DX8_takesOff 83 rfl) hQ
set_option maxHeartbeats 1000000 in
theorem qX8_takesOff {S : List Sh} {mm : Mm} {x0 : Nat} {r : Mm} (h : fX8_takesOff S mm x0 = some r) : isC S x0 8 := by
  unfold fX8_takesOff at h
  exact (gd_some h).1
theorem callX8_264 {G : Gt} {l : Launch} {E : Ev} {S : List Sh} {cc : ByteArray} {nL : Nat} {rt : Option FieldType} {fr lo : Nat} {pc : Nat} {lv : List (Nat × Value)} {rest : List Value} {mm : Mm} {α : Type} {f : Int32 → Option α} {r : α} {o : Nat} {a0 : Int32} (C : Cx G E cc nL RX8 rt fr lo) (d : decode cc pc = .ok (.invokevirtual 264, 3)) (h : bd1 (fX8_queueOf S mm o a0) f = some r) (hfr : 1 ≤ fr) (hlo : 23 ≤ lo) (hrs : (rest.map fun v => v.category).sum ≤ 8) (k : ∀ v, f v = some r → WM G l E S (pc + 3) lv (.int v :: rest) mm) : WM G l E S pc lv (.int a0 :: .ref (E.2.2 o) :: rest) mm := by
  obtain ⟨v, hv, hf⟩ := bd1_some h
  exact x_callV (n := 1) (As := [.int a0]) (rest := rest) C (mX8_queueOf hv) (qX8_queueOf hv) (T := TX8) (N := 49) rfl (gmem 1226 (by decide +kernel) rfl) (gmem 1228 (by decide +kernel) rfl) (gmemS 72 (by decide +kernel) rfl) (gmem 9 (by decide +kernel) rfl) (gmem 1229 (by decide +kernel) rfl) (by decide +kernel) rfl hfr hlo hrs d rfl rfl (k v hf)
theorem callX8_267 {G : Gt} {l : Launch} {E : Ev} {S : List Sh} {cc : ByteArray} {nL : Nat} {rt : Option FieldType} {fr lo : Nat} {pc : Nat} {lv : List (Nat × Value)} {rest : List Value} {mm : Mm} {α : Type} {f : Int32 → Option α} {r : α} {a0 : Int32} {a1 : Int32} {a2 : Int32} (C : Cx G E cc nL RX8 rt fr lo) (d : decode cc pc = .ok (.invokestatic 267, 3)) (h : bd1 (fX8_within S mm a0 a1 a2) f = some r) (hfr : 1 ≤ fr) (hlo : 22 ≤ lo) (hrs : (rest.map fun v => v.category).sum ≤ 8) (k : ∀ v, f v = some r → WM G l E S (pc + 3) lv (.int v :: rest) mm) : WM G l E S pc lv (.int a2 :: .int a1 :: .int a0 :: rest) mm := by
  obtain ⟨v, hv, hf⟩ := bd1_some h
  exact x_callS (n := 3) (As := [.int a0, .int a1, .int a2]) (rest := rest) C (mX8_within hv) (gmem 1203 (by decide +kernel) rfl) (gmem 1204 (by decide +kernel) rfl) (gmem 9 (by decide +kernel) rfl) (gmem 1205 (by decide +kernel) rfl) (by decide +kernel) rfl hfr hlo hrs d rfl rfl (k v hf)
abbrev eX8_comesTo : List (Nat × Instr × Nat) := [(0, .iconst 0, 1), (1, .istore_n 2, 1), (2, .iload_n 2, 1), (3, .aload_n 0, 1), (4, .invokevirtual 251, 3), (7, .if_icmp .ge 169, 3), (10, .aload_n 0, 1), (11, .getfield 75, 3), (14, .bipush 8, 2), (16, .iload_n 1, 1), (17, .imul, 1), (18, .iload_n 2, 1), (19, .iadd, 1), (20, .iaload, 1), (21, .istore_n 3, 1), (22, .iload_n 3, 1), (23, .ifCond .ne 6, 3), (26, .goto 144, 3), (29, .aload_n 0, 1), (30, .iload_n 2, 1), (31, .iload_n 1, 1), (32, .invokevirtual 261, 3), (35, .aload_n 0, 1), (36, .getfield 47, 3), (39, .iload_n 2, 1), (40, .iaload, 1), (41, .iconst 1, 1), (42, .isub, 1), (43, .if_icmp .ne 21, 3), (46, .aload_n 0, 1), (47, .getfield 57, 3), (50, .iload_n 2, 1), (51, .invokestatic 258, 3), (54, .iconst 5, 1), (55, .iadd, 1), (56, .dup2, 1), (57, .iaload, 1), (58, .iload_n 3, 1), (59, .iadd, 1), (60, .iastore, 1), (61, .goto 109, 3), (64, .aload_n 0, 1), (65, .getfield 57, 3), (68, .bipush 24, 2), (70, .iload_n 1, 1), (71, .imul, 1), (72, .iconst 2, 1), (73, .iadd, 1), (74, .iaload, 1), (75, .aload_n 0, 1), (76, .iload_n 1, 1), (77, .invokevirtual 264, 3), (80, .isub, 1), (81, .istore 4, 2), (83, .iload_n 3, 1), (84, .iconst 0, 1), (85, .iload 4, 2), (87, .ifCond .le 8, 3), (90, .iload 4, 2), (92, .goto 4, 3), (95, .iconst 0, 1), (96, .invokestatic 267, 3), (99, .istore 5, 2), (101, .aload_n 0, 1), (102, .getfield 57, 3), (105, .bipush 24, 2), (107, .iload_n 1, 1), (108, .imul, 1), (109, .bipush 15, 2), (111, .iadd, 1), (112, .iload_n 2, 1), (113, .iadd, 1), (114, .dup2, 1), (115, .iaload, 1), (116, .iload 5, 2), (118, .iadd, 1), (119, .iastore, 1), (120, .aload_n 0, 1), (121, .getfield 78, 3), (124, .bipush 8, 2), (126, .iload_n 1, 1), (127, .imul, 1), (128, .iload_n 2, 1), (129, .iadd, 1), (130, .iload 5, 2), (132, .iastore, 1), (133, .aload_n 0, 1), (134, .getfield 57, 3), (137, .bipush 24, 2), (139, .iload_n 1, 1), (140, .imul, 1), (141, .iconst 3, 1), (142, .iadd, 1), (143, .dup2, 1), (144, .iaload, 1), (145, .iload_n 3, 1), (146, .iload 5, 2), (148, .isub, 1), (149, .iadd, 1), (150, .iastore, 1), (151, .aload_n 0, 1), (152, .getfield 57, 3), (155, .iload_n 2, 1), (156, .invokestatic 258, 3), (159, .bipush 11, 2), (161, .iadd, 1), (162, .dup2, 1), (163, .iaload, 1), (164, .iload_n 3, 1), (165, .iload 5, 2), (167, .isub, 1), (168, .iadd, 1), (169, .iastore, 1), (170, .iinc 2 1, 3), (173, .goto (-171), 3), (176, .aload_n 0, 1), (177, .iload_n 1, 1), (178, .invokevirtual 264, 3), (181, .istore_n 2, 1), (182, .aload_n 0, 1), (183, .getfield 57, 3), (186, .bipush 24, 2), (188, .iload_n 1, 1), (189, .imul, 1), (190, .iconst 4, 1), (191, .iadd, 1), (192, .iload_n 2, 1), (193, .aload_n 0, 1), (194, .getfield 57, 3), (197, .bipush 24, 2), (199, .iload_n 1, 1), (200, .imul, 1), (201, .iconst 4, 1), (202, .iadd, 1), (203, .iaload, 1), (204, .if_icmp .le 7, 3), (207, .iload_n 2, 1), (208, .goto 14, 3), (211, .aload_n 0, 1), (212, .getfield 57, 3), (215, .bipush 24, 2), (217, .iload_n 1, 1), (218, .imul, 1), (219, .iconst 4, 1), (220, .iadd, 1), (221, .iaload, 1), (222, .iastore, 1), (223, .return_, 1)]
theorem DX8_comesTo : (eX8_comesTo.all fun q => decide (decode cX8_comesTo q.1 = .ok q.2)) = true := by decide +kernel
def jX8_comesTo_170 (S : List Sh) (mm : Mm) (x0 : Nat) (x1 : Int32) (x2 : Int32)  : Option ((Int32 × Mm) ⊕ (Mm)) := some (.inl (x2 + 1, mm))
def jX8_comesTo_96 (S : List Sh) (mm : Mm) (x0 : Nat) (x1 : Int32) (x2 : Int32) (x3 : Int32) (p0 : Int32) (p1 : Int32) (p2 : Int32) : Option ((Int32 × Mm) ⊕ (Mm)) := bd1 (fX8_within S mm p0 p1 p2) fun a7 => bd1 (ldA S 0 mm (rf S mm x0 26) (((24 * x1) + 15) + x2)) fun a8 => bd1 (stA S 0 mm (rf S mm x0 26) (((24 * x1) + 15) + x2) (a8 + a7)) fun m9 => bd1 (stA S 0 m9 (rf S m9 x0 35) ((8 * x1) + x2) a7) fun m10 => bd1 (ldA S 0 m10 (rf S m10 x0 26) ((24 * x1) + 3)) fun a11 => bd1 (stA S 0 m10 (rf S m10 x0 26) ((24 * x1) + 3) (a11 + (x3 - a7))) fun m12 => bd1 (fX8_flowAt S m12 x2) fun a13 => bd1 (ldA S 0 m12 (rf S m12 x0 26) (a13 + 11)) fun a14 => bd1 (stA S 0 m12 (rf S m12 x0 26) (a13 + 11) (a14 + (x3 - a7))) fun m15 => jX8_comesTo_170 S m15 x0 x1 x2
def bX8_comesTo_2 (S : List Sh) (x0 : Nat) (x1 : Int32) (x2 : Int32) (mm : Mm) : Option ((Int32 × Mm) ⊕ (Mm)) := bd1 (fX8_flows S mm x0) fun a1 => if a1 ≤ x2 then (some (.inr (mm))) else (bd1 (ldA S 0 mm (rf S mm x0 34) ((8 * x1) + x2)) fun a2 => if ¬ a2 = 0 then (bd1 (fX8_hopOf S mm x0 x2 x1) fun a3 => bd1 (ldA S 0 mm (rf S mm x0 14) x2) fun a4 => if ¬ a3 = (a4 - 1) then (bd1 (ldA S 0 mm (rf S mm x0 26) ((24 * x1) + 2)) fun a5 => bd1 (fX8_queueOf S mm x0 x1) fun a6 => if (a5 - a6) ≤ 0 then (jX8_comesTo_96 S mm x0 x1 x2 a2 a2 0 0) else (jX8_comesTo_96 S mm x0 x1 x2 a2 a2 0 (a5 - a6))) else (bd1 (fX8_flowAt S mm x2) fun a16 => bd1 (ldA S 0 mm (rf S mm x0 26) (a16 + 5)) fun a17 => bd1 (stA S 0 mm (rf S mm x0 26) (a16 + 5) (a17 + a2)) fun m18 => jX8_comesTo_170 S m18 x0 x1 x2)) else (jX8_comesTo_170 S mm x0 x1 x2))
def jX8_comesTo_222 (S : List Sh) (mm : Mm) (x0 : Nat) (p0 : Nat) (p1 : Int32) (p2 : Int32) : Option (Mm) := bd1 (stA S 0 mm p0 p1 p2) fun m24 => some m24
def fX8_comesTo (S : List Sh) (mm : Mm) (x0 : Nat) (x1 : Int32) : Option (Mm) := gd S x0 8 (bd1 (lp (fun s19 => bX8_comesTo_2 S x0 x1 s19.1 s19.2) fu (0, mm)) fun y20 => bd1 (fX8_queueOf S y20 x0 x1) fun a21 => bd1 (ldA S 0 y20 (rf S y20 x0 26) ((24 * x1) + 4)) fun a22 => if a21 ≤ a22 then (bd1 (ldA S 0 y20 (rf S y20 x0 26) ((24 * x1) + 4)) fun a23 => jX8_comesTo_222 S y20 x0 (rf S y20 x0 26) ((24 * x1) + 4) a23) else (jX8_comesTo_222 S y20 x0 (rf S y20 x0 26) ((24 * x1) + 4) a21))
set_option maxHeartbeats 1000000 in
theorem tX8_comesTo_170 {G : Gt} {l : Launch} {E : Ev} {S : List Sh} {mm : Mm} {x0 : Nat} {x1 : Int32} {x2 : Int32}  {r : (Int32 × Mm) ⊕ (Mm)} (C : Cx G E cX8_comesTo 6 RX8 none 1 23) (g0 : isC S x0 8) (h : jX8_comesTo_170 S mm x0 x1 x2 = some r) (kb : ∀ z : Int32 × Mm, r = .inl z → WM G l E S 2 [(0, .ref (E.2.2 x0)), (1, .int x1), (2, .int z.1)] [] z.2) (kx : ∀ z : Mm, r = .inr z → WM G l E S 176 [(0, .ref (E.2.2 x0)), (1, .int x1)] [] z) : WM G l E S 170 [(0, .ref (E.2.2 x0)), (1, .int x1), (2, .int x2)] [] mm := by
  unfold jX8_comesTo_170 at h
  refine x_iinc (v := x2 + 1) (lv' := [(2, .int (x2 + 1)), (0, .ref (E.2.2 x0)), (1, .int x1)]) C (dq DX8_comesTo 113 rfl) 2 rfl rfl (by decide) rfl ?_
  refine x_goto (tgt := 2) C (dq DX8_comesTo 114 rfl) (by decide) ?_
  cases h
  exact x_lv [1, 2, 0] rfl (kb (x2 + 1, mm) rfl)
set_option maxHeartbeats 1000000 in
theorem tX8_comesTo_96 {G : Gt} {l : Launch} {E : Ev} {S : List Sh} {mm : Mm} {x0 : Nat} {x1 : Int32} {x2 : Int32} {x3 : Int32} {p0 : Int32} {p1 : Int32} {p2 : Int32} {r : (Int32 × Mm) ⊕ (Mm)} (C : Cx G E cX8_comesTo 6 RX8 none 1 23) (g0 : isC S x0 8) (h : jX8_comesTo_96 S mm x0 x1 x2 x3 p0 p1 p2 = some r) (kb : ∀ z : Int32 × Mm, r = .inl z → WM G l E S 2 [(0, .ref (E.2.2 x0)), (1, .int x1), (2, .int z.1)] [] z.2) (kx : ∀ z : Mm, r = .inr z → WM G l E S 176 [(0, .ref (E.2.2 x0)), (1, .int x1)] [] z) : WM G l E S 96 [(0, .ref (E.2.2 x0)), (1, .int x1), (2, .int x2), (3, .int x3)] [.int p2, .int p1, .int p0] mm := by
  unfold jX8_comesTo_96 at h
  refine callX8_267 C (dq DX8_comesTo 61 rfl) h (by decide) (by decide) (Nat.le_of_ble_eq_true rfl) (fun a7 h => ?_)
  refine x_istore (lv' := [(5, .int a7), (0, .ref (E.2.2 x0)), (1, .int x1), (2, .int x2), (3, .int x3)]) C (dq DX8_comesTo 62 rfl) (by decide) rfl ?_
  refine x_aload_n C (dq DX8_comesTo 63 rfl) rfl 1 rfl ?_
  refine getX8_57 C (dq DX8_comesTo 64 rfl) g0 ?_
  refine x_pc 105 rfl ?_
  refine x_bipush (v := 24) C (dq DX8_comesTo 65 rfl) (by decide) ?_
  refine x_iload_n C (dq DX8_comesTo 66 rfl) rfl 2 rfl ?_
  refine x_imul C (dq DX8_comesTo 67 rfl) ?_
  refine x_bipush (v := 15) C (dq DX8_comesTo 68 rfl) (by decide) ?_
  refine x_iadd C (dq DX8_comesTo 69 rfl) ?_
  refine x_pc 112 rfl ?_
  refine x_iload_n C (dq DX8_comesTo 70 rfl) rfl 3 rfl ?_
  refine x_iadd C (dq DX8_comesTo 71 rfl) ?_
  refine x_dup2 C (dq DX8_comesTo 72 rfl) rfl rfl ?_
  refine x_iald C (dq DX8_comesTo 73 rfl) h (fun a8 h => ?_)
  refine x_iload C (dq DX8_comesTo 74 rfl) 0 rfl ?_
  refine x_pc 118 rfl ?_
  refine x_iadd C (dq DX8_comesTo 75 rfl) ?_
  refine x_iast C (dq DX8_comesTo 76 rfl) h (fun m9 h => ?_)
  refine x_aload_n C (dq DX8_comesTo 77 rfl) rfl 1 rfl ?_
  refine getX8_78 C (dq DX8_comesTo 78 rfl) g0 ?_
  refine x_bipush (v := 8) C (dq DX8_comesTo 79 rfl) (by decide) ?_
  refine x_pc 126 rfl ?_
  refine x_iload_n C (dq DX8_comesTo 80 rfl) rfl 2 rfl ?_
  refine x_imul C (dq DX8_comesTo 81 rfl) ?_
  refine x_iload_n C (dq DX8_comesTo 82 rfl) rfl 3 rfl ?_
  refine x_iadd C (dq DX8_comesTo 83 rfl) ?_
  refine x_iload C (dq DX8_comesTo 84 rfl) 0 rfl ?_
  refine x_pc 132 rfl ?_
  refine x_iast C (dq DX8_comesTo 85 rfl) h (fun m10 h => ?_)
  refine x_aload_n C (dq DX8_comesTo 86 rfl) rfl 1 rfl ?_
  refine getX8_57 C (dq DX8_comesTo 87 rfl) g0 ?_
  refine x_bipush (v := 24) C (dq DX8_comesTo 88 rfl) (by decide) ?_
  refine x_iload_n C (dq DX8_comesTo 89 rfl) rfl 2 rfl ?_
  refine x_pc 140 rfl ?_
  refine x_imul C (dq DX8_comesTo 90 rfl) ?_
  refine x_iconst (v := 3) C (dq DX8_comesTo 91 rfl) (by decide) ?_
  refine x_iadd C (dq DX8_comesTo 92 rfl) ?_
  refine x_dup2 C (dq DX8_comesTo 93 rfl) rfl rfl ?_
  refine x_iald C (dq DX8_comesTo 94 rfl) h (fun a11 h => ?_)
  refine x_pc 145 rfl ?_
  refine x_iload_n C (dq DX8_comesTo 95 rfl) rfl 4 rfl ?_
  refine x_iload C (dq DX8_comesTo 96 rfl) 0 rfl ?_
  refine x_isub C (dq DX8_comesTo 97 rfl) ?_
  refine x_iadd C (dq DX8_comesTo 98 rfl) ?_
  refine x_iast C (dq DX8_comesTo 99 rfl) h (fun m12 h => ?_)
  refine x_pc 151 rfl ?_
  refine x_aload_n C (dq DX8_comesTo 100 rfl) rfl 1 rfl ?_
  refine getX8_57 C (dq DX8_comesTo 101 rfl) g0 ?_
  refine x_iload_n C (dq DX8_comesTo 102 rfl) rfl 3 rfl ?_
  refine callX8_258 C (dq DX8_comesTo 103 rfl) h (by decide) (by decide) (Nat.le_of_ble_eq_true rfl) (fun a13 h => ?_)
  refine x_bipush (v := 11) C (dq DX8_comesTo 104 rfl) (by decide) ?_
  refine x_pc 161 rfl ?_
  refine x_iadd C (dq DX8_comesTo 105 rfl) ?_
  refine x_dup2 C (dq DX8_comesTo 106 rfl) rfl rfl ?_
  refine x_iald C (dq DX8_comesTo 107 rfl) h (fun a14 h => ?_)
  refine x_iload_n C (dq DX8_comesTo 108 rfl) rfl 4 rfl ?_
  refine x_iload C (dq DX8_comesTo 109 rfl) 0 rfl ?_
  refine x_pc 167 rfl ?_
  refine x_isub C (dq DX8_comesTo 110 rfl) ?_
  refine x_iadd C (dq DX8_comesTo 111 rfl) ?_
  refine x_iast C (dq DX8_comesTo 112 rfl) h (fun m15 h => ?_)
  exact x_lv [1, 2, 3] rfl (tX8_comesTo_170 C g0 h kb kx)
set_option maxHeartbeats 1000000 in
theorem tX8_comesTo_2 {G : Gt} {l : Launch} {E : Ev} {S : List Sh} {x0 : Nat} {x1 : Int32} {x2 : Int32} {mm : Mm} {r : (Int32 × Mm) ⊕ (Mm)} (C : Cx G E cX8_comesTo 6 RX8 none 1 23) (g0 : isC S x0 8) (h : bX8_comesTo_2 S x0 x1 x2 mm = some r) (kb : ∀ z : Int32 × Mm, r = .inl z → WM G l E S 2 [(0, .ref (E.2.2 x0)), (1, .int x1), (2, .int z.1)] [] z.2) (kx : ∀ z : Mm, r = .inr z → WM G l E S 176 [(0, .ref (E.2.2 x0)), (1, .int x1)] [] z) : WM G l E S 2 [(0, .ref (E.2.2 x0)), (1, .int x1), (2, .int x2)] [] mm := by
  unfold bX8_comesTo_2 at h
  refine x_iload_n C (dq DX8_comesTo 2 rfl) rfl 2 rfl ?_
  refine x_aload_n C (dq DX8_comesTo 3 rfl) rfl 0 rfl ?_
  refine callX8_251 C (dq DX8_comesTo 4 rfl) h (by decide) (by decide) (Nat.le_of_ble_eq_true rfl) (fun a1 h => ?_)
  refine x_icmp_ge (tgt := 176) C (dq DX8_comesTo 5 rfl) (by decide) h (fun h => ?_) (fun h => ?_)
  · cases h
    exact x_lv [0, 1] rfl (kx (mm) rfl)
  · refine x_pc 10 rfl ?_
    refine x_aload_n C (dq DX8_comesTo 6 rfl) rfl 0 rfl ?_
    refine getX8_75 C (dq DX8_comesTo 7 rfl) g0 ?_
    refine x_bipush (v := 8) C (dq DX8_comesTo 8 rfl) (by decide) ?_
    refine x_iload_n C (dq DX8_comesTo 9 rfl) rfl 1 rfl ?_
    refine x_imul C (dq DX8_comesTo 10 rfl) ?_
    refine x_pc 18 rfl ?_
    refine x_iload_n C (dq DX8_comesTo 11 rfl) rfl 2 rfl ?_
    refine x_iadd C (dq DX8_comesTo 12 rfl) ?_
    refine x_iald C (dq DX8_comesTo 13 rfl) h (fun a2 h => ?_)
    refine x_istore_n (lv' := [(3, .int a2), (0, .ref (E.2.2 x0)), (1, .int x1), (2, .int x2)]) C (dq DX8_comesTo 14 rfl) rfl (by decide) rfl ?_
    refine x_iload_n C (dq DX8_comesTo 15 rfl) rfl 0 rfl ?_
    refine x_pc 23 rfl ?_
    refine x_if_ne (tgt := 29) C (dq DX8_comesTo 16 rfl) (by decide) h (fun h => ?_) (fun h => ?_)
    · refine x_aload_n C (dq DX8_comesTo 18 rfl) rfl 1 rfl ?_
      refine x_iload_n C (dq DX8_comesTo 19 rfl) rfl 3 rfl ?_
      refine x_iload_n C (dq DX8_comesTo 20 rfl) rfl 2 rfl ?_
      refine callX8_261 C (dq DX8_comesTo 21 rfl) h (by decide) (by decide) (Nat.le_of_ble_eq_true rfl) (fun a3 h => ?_)
      refine x_pc 35 rfl ?_
      refine x_aload_n C (dq DX8_comesTo 22 rfl) rfl 1 rfl ?_
      refine getX8_47 C (dq DX8_comesTo 23 rfl) g0 ?_
      refine x_iload_n C (dq DX8_comesTo 24 rfl) rfl 3 rfl ?_
      refine x_iald C (dq DX8_comesTo 25 rfl) h (fun a4 h => ?_)
      refine x_iconst (v := 1) C (dq DX8_comesTo 26 rfl) (by decide) ?_
      refine x_pc 42 rfl ?_
      refine x_isub C (dq DX8_comesTo 27 rfl) ?_
      refine x_icmp_ne (tgt := 64) C (dq DX8_comesTo 28 rfl) (by decide) h (fun h => ?_) (fun h => ?_)
      · refine x_aload_n C (dq DX8_comesTo 41 rfl) rfl 1 rfl ?_
        refine getX8_57 C (dq DX8_comesTo 42 rfl) g0 ?_
        refine x_bipush (v := 24) C (dq DX8_comesTo 43 rfl) (by decide) ?_
        refine x_pc 70 rfl ?_
        refine x_iload_n C (dq DX8_comesTo 44 rfl) rfl 2 rfl ?_
        refine x_imul C (dq DX8_comesTo 45 rfl) ?_
        refine x_iconst (v := 2) C (dq DX8_comesTo 46 rfl) (by decide) ?_
        refine x_iadd C (dq DX8_comesTo 47 rfl) ?_
        refine x_iald C (dq DX8_comesTo 48 rfl) h (fun a5 h => ?_)
        refine x_pc 75 rfl ?_
        refine x_aload_n C (dq DX8_comesTo 49 rfl) rfl 1 rfl ?_
        refine x_iload_n C (dq DX8_comesTo 50 rfl) rfl 2 rfl ?_
        refine callX8_264 C (dq DX8_comesTo 51 rfl) h (by decide) (by decide) (Nat.le_of_ble_eq_true rfl) (fun a6 h => ?_)
        refine x_isub C (dq DX8_comesTo 52 rfl) ?_
        refine x_istore (lv' := [(4, .int (a5 - a6)), (3, .int a2), (0, .ref (E.2.2 x0)), (1, .int x1), (2, .int x2)]) C (dq DX8_comesTo 53 rfl) (by decide) rfl ?_
        refine x_pc 83 rfl ?_
        refine x_iload_n C (dq DX8_comesTo 54 rfl) rfl 1 rfl ?_
        refine x_iconst (v := 0) C (dq DX8_comesTo 55 rfl) (by decide) ?_
        refine x_iload C (dq DX8_comesTo 56 rfl) 0 rfl ?_
        refine x_if_le (tgt := 95) C (dq DX8_comesTo 57 rfl) (by decide) h (fun h => ?_) (fun h => ?_)
        · refine x_iconst (v := 0) C (dq DX8_comesTo 60 rfl) (by decide) ?_
          exact x_lv [2, 3, 4, 1] rfl (tX8_comesTo_96 C g0 h kb kx)
        · refine x_iload C (dq DX8_comesTo 58 rfl) 0 rfl ?_
          refine x_pc 92 rfl ?_
          refine x_goto (tgt := 96) C (dq DX8_comesTo 59 rfl) (by decide) ?_
          exact x_lv [2, 3, 4, 1] rfl (tX8_comesTo_96 C g0 h kb kx)
      · refine x_aload_n C (dq DX8_comesTo 29 rfl) rfl 1 rfl ?_
        refine getX8_57 C (dq DX8_comesTo 30 rfl) g0 ?_
        refine x_iload_n C (dq DX8_comesTo 31 rfl) rfl 3 rfl ?_
        refine x_pc 51 rfl ?_
        refine callX8_258 C (dq DX8_comesTo 32 rfl) h (by decide) (by decide) (Nat.le_of_ble_eq_true rfl) (fun a16 h => ?_)
        refine x_iconst (v := 5) C (dq DX8_comesTo 33 rfl) (by decide) ?_
        refine x_iadd C (dq DX8_comesTo 34 rfl) ?_
        refine x_dup2 C (dq DX8_comesTo 35 rfl) rfl rfl ?_
        refine x_iald C (dq DX8_comesTo 36 rfl) h (fun a17 h => ?_)
        refine x_pc 58 rfl ?_
        refine x_iload_n C (dq DX8_comesTo 37 rfl) rfl 0 rfl ?_
        refine x_iadd C (dq DX8_comesTo 38 rfl) ?_
        refine x_iast C (dq DX8_comesTo 39 rfl) h (fun m18 h => ?_)
        refine x_goto (tgt := 170) C (dq DX8_comesTo 40 rfl) (by decide) ?_
        exact x_lv [1, 2, 3] rfl (tX8_comesTo_170 C g0 h kb kx)
    · refine x_goto (tgt := 170) C (dq DX8_comesTo 17 rfl) (by decide) ?_
      exact x_lv [1, 2, 3] rfl (tX8_comesTo_170 C g0 h kb kx)
set_option maxHeartbeats 1000000 in
theorem tX8_comesTo_222 {G : Gt} {l : Launch} {E : Ev} {S : List Sh} {mm : Mm} {x0 : Nat} {p0 : Nat} {p1 : Int32} {p2 : Int32} {r : Mm} (C : Cx G E cX8_comesTo 6 RX8 none 1 23) (g0 : isC S x0 8) (h : jX8_comesTo_222 S mm x0 p0 p1 p2 = some r) (hQ : RQ G E S none r) : WM G l E S 222 [(0, .ref (E.2.2 x0))] [.int p2, .int p1, .ref (E.2.2 p0)] mm := by
  unfold jX8_comesTo_222 at h
  refine x_iast C (dq DX8_comesTo 146 rfl) h (fun m24 h => ?_)
  cases h
  exact x_vret C (dq DX8_comesTo 147 rfl) hQ
set_option maxHeartbeats 1000000 in
theorem mX8_comesTo {l : Launch} {E : Ev} {S : List Sh} {mm : Mm} {x0 : Nat} {x1 : Int32} {r : Mm} (h : fX8_comesTo S mm x0 x1 = some r) : Ml l E S yX8_comesTo cX8_comesTo 6 none 1 23 [.ref (E.2.2 x0), .int x1] mm none r := by
  refine Ml.of (by decide +kernel) (Nat.le_of_ble_eq_true rfl) (fun G C hQ => ?_)
  have C : Cx G E cX8_comesTo 6 RX8 none 1 23 := C
  unfold fX8_comesTo at h
  obtain ⟨g0, h⟩ := gd_some h
  show WM G l E S 0 [(0, .ref (E.2.2 x0)), (1, .int x1)] [] mm
  refine x_iconst (v := 0) C (dq DX8_comesTo 0 rfl) (by decide) ?_
  refine x_istore_n (lv' := [(2, .int 0), (0, .ref (E.2.2 x0)), (1, .int x1)]) C (dq DX8_comesTo 1 rfl) rfl (by decide) rfl ?_
  refine x_lv [1, 2, 0] rfl ?_
  refine x_loop (s0 := (0, mm)) (fun s19 => WM G l E S 2 [(0, .ref (E.2.2 x0)), (1, .int x1), (2, .int s19.1)] [] s19.2) h (fun s19 r hb kb kx => tX8_comesTo_2 C g0 hb kb (fun y20 hy => ?_))
  have h := kx y20 hy
  clear kx kb hb hy
  refine x_aload_n C (dq DX8_comesTo 115 rfl) rfl 0 rfl ?_
  refine x_iload_n C (dq DX8_comesTo 116 rfl) rfl 1 rfl ?_
  refine x_pc 178 rfl ?_
  refine callX8_264 C (dq DX8_comesTo 117 rfl) h (by decide) (by decide) (Nat.le_of_ble_eq_true rfl) (fun a21 h => ?_)
  refine x_istore_n (lv' := [(2, .int a21), (0, .ref (E.2.2 x0)), (1, .int x1)]) C (dq DX8_comesTo 118 rfl) rfl (by decide) rfl ?_
  refine x_aload_n C (dq DX8_comesTo 119 rfl) rfl 1 rfl ?_
  refine getX8_57 C (dq DX8_comesTo 120 rfl) g0 ?_
  refine x_bipush (v := 24) C (dq DX8_comesTo 121 rfl) (by decide) ?_
  refine x_pc 188 rfl ?_
  refine x_iload_n C (dq DX8_comesTo 122 rfl) rfl 2 rfl ?_
  refine x_imul C (dq DX8_comesTo 123 rfl) ?_
  refine x_iconst (v := 4) C (dq DX8_comesTo 124 rfl) (by decide) ?_
  refine x_iadd C (dq DX8_comesTo 125 rfl) ?_
  refine x_iload_n C (dq DX8_comesTo 126 rfl) rfl 0 rfl ?_
  refine x_pc 193 rfl ?_
  refine x_aload_n C (dq DX8_comesTo 127 rfl) rfl 1 rfl ?_
  refine getX8_57 C (dq DX8_comesTo 128 rfl) g0 ?_
  refine x_bipush (v := 24) C (dq DX8_comesTo 129 rfl) (by decide) ?_
  refine x_iload_n C (dq DX8_comesTo 130 rfl) rfl 2 rfl ?_
  refine x_imul C (dq DX8_comesTo 131 rfl) ?_
  refine x_pc 201 rfl ?_
  refine x_iconst (v := 4) C (dq DX8_comesTo 132 rfl) (by decide) ?_
  refine x_iadd C (dq DX8_comesTo 133 rfl) ?_
  refine x_iald C (dq DX8_comesTo 134 rfl) h (fun a22 h => ?_)
  refine x_icmp_le (tgt := 211) C (dq DX8_comesTo 135 rfl) (by decide) h (fun h => ?_) (fun h => ?_)
  · refine x_aload_n C (dq DX8_comesTo 138 rfl) rfl 1 rfl ?_
    refine x_pc 212 rfl ?_
    refine getX8_57 C (dq DX8_comesTo 139 rfl) g0 ?_
    refine x_bipush (v := 24) C (dq DX8_comesTo 140 rfl) (by decide) ?_
    refine x_iload_n C (dq DX8_comesTo 141 rfl) rfl 2 rfl ?_
    refine x_imul C (dq DX8_comesTo 142 rfl) ?_
    refine x_iconst (v := 4) C (dq DX8_comesTo 143 rfl) (by decide) ?_
    refine x_pc 220 rfl ?_
    refine x_iadd C (dq DX8_comesTo 144 rfl) ?_
    refine x_iald C (dq DX8_comesTo 145 rfl) h (fun a23 h => ?_)
    exact x_lv [1] rfl (tX8_comesTo_222 C g0 h hQ)
  · refine x_iload_n C (dq DX8_comesTo 136 rfl) rfl 0 rfl ?_
    refine x_pc 208 rfl ?_
    refine x_goto (tgt := 222) C (dq DX8_comesTo 137 rfl) (by decide) ?_
    exact x_lv [1] rfl (tX8_comesTo_222 C g0 h hQ)
set_option maxHeartbeats 1000000 in
theorem qX8_comesTo {S : List Sh} {mm : Mm} {x0 : Nat} {x1 : Int32} {r : Mm} (h : fX8_comesTo S mm x0 x1 = some r) : isC S x0 8 := by
  unfold fX8_comesTo at h
  exact (gd_some h).1
abbrev eX8_asks : List (Nat × Instr × Nat) := [(0, .aload_n 0, 1), (1, .iload_n 1, 1), (2, .invokevirtual 264, 3), (5, .istore_n 2, 1), (6, .aload_n 0, 1), (7, .getfield 57, 3), (10, .bipush 24, 2), (12, .iload_n 1, 1), (13, .imul, 1), (14, .bipush 10, 2), (16, .iadd, 1), (17, .iaload, 1), (18, .istore_n 3, 1), (19, .iconst 4, 1), (20, .istore 4, 2), (22, .iload 4, 2), (24, .ifCond .le 41, 3), (27, .aload_n 0, 1), (28, .getfield 57, 3), (31, .bipush 24, 2), (33, .iload_n 1, 1), (34, .imul, 1), (35, .bipush 10, 2), (37, .iadd, 1), (38, .iload 4, 2), (40, .iadd, 1), (41, .aload_n 0, 1), (42, .getfield 57, 3), (45, .bipush 24, 2), (47, .iload_n 1, 1), (48, .imul, 1), (49, .bipush 10, 2), (51, .iadd, 1), (52, .iload 4, 2), (54, .iadd, 1), (55, .iconst 1, 1), (56, .isub, 1), (57, .iaload, 1), (58, .iastore, 1), (59, .iinc 4 (-1), 3), (62, .goto (-40), 3), (65, .aload_n 0, 1), (66, .getfield 57, 3), (69, .bipush 24, 2), (71, .iload_n 1, 1), (72, .imul, 1), (73, .bipush 10, 2), (75, .iadd, 1), (76, .iload_n 2, 1), (77, .aload_n 0, 1), (78, .getfield 57, 3), (81, .bipush 24, 2), (83, .iload_n 1, 1), (84, .imul, 1), (85, .iconst 0, 1), (86, .iadd, 1), (87, .iaload, 1), (88, .if_icmp .lt 7, 3), (91, .iconst 1, 1), (92, .goto 23, 3), (95, .iload_n 2, 1), (96, .aload_n 0, 1), (97, .getfield 57, 3), (100, .bipush 24, 2), (102, .iload_n 1, 1), (103, .imul, 1), (104, .iconst 1, 1), (105, .iadd, 1), (106, .iaload, 1), (107, .if_icmp .gt 7, 3), (110, .iconst 0, 1), (111, .goto 4, 3), (114, .iload_n 3, 1), (115, .iastore, 1), (116, .return_, 1)]
theorem DX8_asks : (eX8_asks.all fun q => decide (decode cX8_asks q.1 = .ok q.2)) = true := by decide +kernel
def bX8_asks_22 (S : List Sh) (x0 : Nat) (x1 : Int32) (x2 : Int32) (x3 : Int32) (x4 : Int32) (mm : Mm) : Option ((Int32 × Mm) ⊕ (Mm)) := if x4 ≤ 0 then (some (.inr (mm))) else (bd1 (ldA S 0 mm (rf S mm x0 26) ((((24 * x1) + 10) + x4) - 1)) fun a3 => bd1 (stA S 0 mm (rf S mm x0 26) (((24 * x1) + 10) + x4) a3) fun m4 => some (.inl (x4 + (-1), m4)))
def jX8_asks_115 (S : List Sh) (mm : Mm) (x0 : Nat) (p0 : Nat) (p1 : Int32) (p2 : Int32) : Option (Mm) := bd1 (stA S 0 mm p0 p1 p2) fun m9 => some m9
def fX8_asks (S : List Sh) (mm : Mm) (x0 : Nat) (x1 : Int32) : Option (Mm) := gd S x0 8 (bd1 (fX8_queueOf S mm x0 x1) fun a1 => bd1 (ldA S 0 mm (rf S mm x0 26) ((24 * x1) + 10)) fun a2 => bd1 (lp (fun s5 => bX8_asks_22 S x0 x1 a1 a2 s5.1 s5.2) fu (4, mm)) fun y6 => bd1 (ldA S 0 y6 (rf S y6 x0 26) ((24 * x1) + 0)) fun a7 => if a1 < a7 then (bd1 (ldA S 0 y6 (rf S y6 x0 26) ((24 * x1) + 1)) fun a8 => if a8 < a1 then (jX8_asks_115 S y6 x0 (rf S y6 x0 26) ((24 * x1) + 10) a2) else (jX8_asks_115 S y6 x0 (rf S y6 x0 26) ((24 * x1) + 10) 0)) else (jX8_asks_115 S y6 x0 (rf S y6 x0 26) ((24 * x1) + 10) 1))
set_option maxHeartbeats 1000000 in
theorem tX8_asks_22 {G : Gt} {l : Launch} {E : Ev} {S : List Sh} {x0 : Nat} {x1 : Int32} {x2 : Int32} {x3 : Int32} {x4 : Int32} {mm : Mm} {r : (Int32 × Mm) ⊕ (Mm)} (C : Cx G E cX8_asks 5 RX8 none 1 23) (g0 : isC S x0 8) (h : bX8_asks_22 S x0 x1 x2 x3 x4 mm = some r) (kb : ∀ z : Int32 × Mm, r = .inl z → WM G l E S 22 [(0, .ref (E.2.2 x0)), (1, .int x1), (2, .int x2), (3, .int x3), (4, .int z.1)] [] z.2) (kx : ∀ z : Mm, r = .inr z → WM G l E S 65 [(0, .ref (E.2.2 x0)), (1, .int x1), (2, .int x2), (3, .int x3)] [] z) : WM G l E S 22 [(0, .ref (E.2.2 x0)), (1, .int x1), (2, .int x2), (3, .int x3), (4, .int x4)] [] mm := by
  unfold bX8_asks_22 at h
  refine x_iload C (dq DX8_asks 15 rfl) 4 rfl ?_
  refine x_if_le (tgt := 65) C (dq DX8_asks 16 rfl) (by decide) h (fun h => ?_) (fun h => ?_)
  · cases h
    exact x_lv [0, 1, 2, 3] rfl (kx (mm) rfl)
  · refine x_aload_n C (dq DX8_asks 17 rfl) rfl 0 rfl ?_
    refine getX8_57 C (dq DX8_asks 18 rfl) g0 ?_
    refine x_pc 31 rfl ?_
    refine x_bipush (v := 24) C (dq DX8_asks 19 rfl) (by decide) ?_
    refine x_iload_n C (dq DX8_asks 20 rfl) rfl 1 rfl ?_
    refine x_imul C (dq DX8_asks 21 rfl) ?_
    refine x_bipush (v := 10) C (dq DX8_asks 22 rfl) (by decide) ?_
    refine x_iadd C (dq DX8_asks 23 rfl) ?_
    refine x_pc 38 rfl ?_
    refine x_iload C (dq DX8_asks 24 rfl) 4 rfl ?_
    refine x_iadd C (dq DX8_asks 25 rfl) ?_
    refine x_aload_n C (dq DX8_asks 26 rfl) rfl 0 rfl ?_
    refine getX8_57 C (dq DX8_asks 27 rfl) g0 ?_
    refine x_bipush (v := 24) C (dq DX8_asks 28 rfl) (by decide) ?_
    refine x_pc 47 rfl ?_
    refine x_iload_n C (dq DX8_asks 29 rfl) rfl 1 rfl ?_
    refine x_imul C (dq DX8_asks 30 rfl) ?_
    refine x_bipush (v := 10) C (dq DX8_asks 31 rfl) (by decide) ?_
    refine x_iadd C (dq DX8_asks 32 rfl) ?_
    refine x_iload C (dq DX8_asks 33 rfl) 4 rfl ?_
    refine x_pc 54 rfl ?_
    refine x_iadd C (dq DX8_asks 34 rfl) ?_
    refine x_iconst (v := 1) C (dq DX8_asks 35 rfl) (by decide) ?_
    refine x_isub C (dq DX8_asks 36 rfl) ?_
    refine x_iald C (dq DX8_asks 37 rfl) h (fun a3 h => ?_)
    refine x_iast C (dq DX8_asks 38 rfl) h (fun m4 h => ?_)
    refine x_pc 59 rfl ?_
    refine x_iinc (v := x4 + (-1)) (lv' := [(4, .int (x4 + (-1))), (0, .ref (E.2.2 x0)), (1, .int x1), (2, .int x2), (3, .int x3)]) C (dq DX8_asks 39 rfl) 4 rfl rfl (by decide) rfl ?_
    refine x_goto (tgt := 22) C (dq DX8_asks 40 rfl) (by decide) ?_
    cases h
    exact x_lv [1, 2, 3, 4, 0] rfl (kb (x4 + (-1), m4) rfl)
set_option maxHeartbeats 1000000 in
theorem tX8_asks_115 {G : Gt} {l : Launch} {E : Ev} {S : List Sh} {mm : Mm} {x0 : Nat} {p0 : Nat} {p1 : Int32} {p2 : Int32} {r : Mm} (C : Cx G E cX8_asks 5 RX8 none 1 23) (g0 : isC S x0 8) (h : jX8_asks_115 S mm x0 p0 p1 p2 = some r) (hQ : RQ G E S none r) : WM G l E S 115 [(0, .ref (E.2.2 x0))] [.int p2, .int p1, .ref (E.2.2 p0)] mm := by
  unfold jX8_asks_115 at h
  refine x_iast C (dq DX8_asks 73 rfl) h (fun m9 h => ?_)
  cases h
  exact x_vret C (dq DX8_asks 74 rfl) hQ
set_option maxHeartbeats 1000000 in
theorem mX8_asks {l : Launch} {E : Ev} {S : List Sh} {mm : Mm} {x0 : Nat} {x1 : Int32} {r : Mm} (h : fX8_asks S mm x0 x1 = some r) : Ml l E S yX8_asks cX8_asks 5 none 1 23 [.ref (E.2.2 x0), .int x1] mm none r := by
  refine Ml.of (by decide +kernel) (Nat.le_of_ble_eq_true rfl) (fun G C hQ => ?_)
  have C : Cx G E cX8_asks 5 RX8 none 1 23 := C
  unfold fX8_asks at h
  obtain ⟨g0, h⟩ := gd_some h
  show WM G l E S 0 [(0, .ref (E.2.2 x0)), (1, .int x1)] [] mm
  refine x_aload_n C (dq DX8_asks 0 rfl) rfl 0 rfl ?_
  refine x_iload_n C (dq DX8_asks 1 rfl) rfl 1 rfl ?_
  refine callX8_264 C (dq DX8_asks 2 rfl) h (by decide) (by decide) (Nat.le_of_ble_eq_true rfl) (fun a1 h => ?_)
  refine x_istore_n (lv' := [(2, .int a1), (0, .ref (E.2.2 x0)), (1, .int x1)]) C (dq DX8_asks 3 rfl) rfl (by decide) rfl ?_
  refine x_pc 6 rfl ?_
  refine x_aload_n C (dq DX8_asks 4 rfl) rfl 1 rfl ?_
  refine getX8_57 C (dq DX8_asks 5 rfl) g0 ?_
  refine x_bipush (v := 24) C (dq DX8_asks 6 rfl) (by decide) ?_
  refine x_iload_n C (dq DX8_asks 7 rfl) rfl 2 rfl ?_
  refine x_imul C (dq DX8_asks 8 rfl) ?_
  refine x_pc 14 rfl ?_
  refine x_bipush (v := 10) C (dq DX8_asks 9 rfl) (by decide) ?_
  refine x_iadd C (dq DX8_asks 10 rfl) ?_
  refine x_iald C (dq DX8_asks 11 rfl) h (fun a2 h => ?_)
  refine x_istore_n (lv' := [(3, .int a2), (2, .int a1), (0, .ref (E.2.2 x0)), (1, .int x1)]) C (dq DX8_asks 12 rfl) rfl (by decide) rfl ?_
  refine x_iconst (v := 4) C (dq DX8_asks 13 rfl) (by decide) ?_
  refine x_pc 20 rfl ?_
  refine x_istore (lv' := [(4, .int 4), (3, .int a2), (2, .int a1), (0, .ref (E.2.2 x0)), (1, .int x1)]) C (dq DX8_asks 14 rfl) (by decide) rfl ?_
  refine x_lv [3, 4, 2, 1, 0] rfl ?_
  refine x_loop (s0 := (4, mm)) (fun s5 => WM G l E S 22 [(0, .ref (E.2.2 x0)), (1, .int x1), (2, .int a1), (3, .int a2), (4, .int s5.1)] [] s5.2) h (fun s5 r hb kb kx => tX8_asks_22 C g0 hb kb (fun y6 hy => ?_))
  have h := kx y6 hy
  clear kx kb hb hy
  refine x_aload_n C (dq DX8_asks 41 rfl) rfl 0 rfl ?_
  refine getX8_57 C (dq DX8_asks 42 rfl) g0 ?_
  refine x_bipush (v := 24) C (dq DX8_asks 43 rfl) (by decide) ?_
  refine x_iload_n C (dq DX8_asks 44 rfl) rfl 1 rfl ?_
  refine x_pc 72 rfl ?_
  refine x_imul C (dq DX8_asks 45 rfl) ?_
  refine x_bipush (v := 10) C (dq DX8_asks 46 rfl) (by decide) ?_
  refine x_iadd C (dq DX8_asks 47 rfl) ?_
  refine x_iload_n C (dq DX8_asks 48 rfl) rfl 2 rfl ?_
  refine x_aload_n C (dq DX8_asks 49 rfl) rfl 0 rfl ?_
  refine x_pc 78 rfl ?_
  refine getX8_57 C (dq DX8_asks 50 rfl) g0 ?_
  refine x_bipush (v := 24) C (dq DX8_asks 51 rfl) (by decide) ?_
  refine x_iload_n C (dq DX8_asks 52 rfl) rfl 1 rfl ?_
  refine x_imul C (dq DX8_asks 53 rfl) ?_
  refine x_iconst (v := 0) C (dq DX8_asks 54 rfl) (by decide) ?_
  refine x_pc 86 rfl ?_
  refine x_iadd C (dq DX8_asks 55 rfl) ?_
  refine x_iald C (dq DX8_asks 56 rfl) h (fun a7 h => ?_)
  refine x_icmp_lt (tgt := 95) C (dq DX8_asks 57 rfl) (by decide) h (fun h => ?_) (fun h => ?_)
  · refine x_iload_n C (dq DX8_asks 60 rfl) rfl 2 rfl ?_
    refine x_aload_n C (dq DX8_asks 61 rfl) rfl 0 rfl ?_
    refine x_pc 97 rfl ?_
    refine getX8_57 C (dq DX8_asks 62 rfl) g0 ?_
    refine x_bipush (v := 24) C (dq DX8_asks 63 rfl) (by decide) ?_
    refine x_iload_n C (dq DX8_asks 64 rfl) rfl 1 rfl ?_
    refine x_imul C (dq DX8_asks 65 rfl) ?_
    refine x_iconst (v := 1) C (dq DX8_asks 66 rfl) (by decide) ?_
    refine x_pc 105 rfl ?_
    refine x_iadd C (dq DX8_asks 67 rfl) ?_
    refine x_iald C (dq DX8_asks 68 rfl) h (fun a8 h => ?_)
    refine x_icmp_gt (tgt := 114) C (dq DX8_asks 69 rfl) (by decide) h (fun h => ?_) (fun h => ?_)
    · refine x_iload_n C (dq DX8_asks 72 rfl) rfl 3 rfl ?_
      exact x_lv [0] rfl (tX8_asks_115 C g0 h hQ)
    · refine x_iconst (v := 0) C (dq DX8_asks 70 rfl) (by decide) ?_
      refine x_goto (tgt := 115) C (dq DX8_asks 71 rfl) (by decide) ?_
      exact x_lv [0] rfl (tX8_asks_115 C g0 h hQ)
  · refine x_iconst (v := 1) C (dq DX8_asks 58 rfl) (by decide) ?_
    refine x_goto (tgt := 115) C (dq DX8_asks 59 rfl) (by decide) ?_
    exact x_lv [0] rfl (tX8_asks_115 C g0 h hQ)
set_option maxHeartbeats 1000000 in
theorem qX8_asks {S : List Sh} {mm : Mm} {x0 : Nat} {x1 : Int32} {r : Mm} (h : fX8_asks S mm x0 x1 = some r) : isC S x0 8 := by
  unfold fX8_asks at h
  exact (gd_some h).1
abbrev eX8_feedbackOf : List (Nat × Instr × Nat) := [(0, .aload_n 0, 1), (1, .iload_n 1, 1), (2, .invokevirtual 264, 3), (5, .istore_n 2, 1), (6, .iload_n 2, 1), (7, .aload_n 0, 1), (8, .getfield 13, 3), (11, .iconst 3, 1), (12, .iaload, 1), (13, .isub, 1), (14, .aload_n 0, 1), (15, .getfield 13, 3), (18, .iconst 4, 1), (19, .iaload, 1), (20, .iload_n 2, 1), (21, .aload_n 0, 1), (22, .getfield 57, 3), (25, .bipush 24, 2), (27, .iload_n 1, 1), (28, .imul, 1), (29, .bipush 9, 2), (31, .iadd, 1), (32, .iaload, 1), (33, .isub, 1), (34, .imul, 1), (35, .iadd, 1), (36, .ireturn, 1)]
theorem DX8_feedbackOf : (eX8_feedbackOf.all fun q => decide (decode cX8_feedbackOf q.1 = .ok q.2)) = true := by decide +kernel
def fX8_feedbackOf (S : List Sh) (mm : Mm) (x0 : Nat) (x1 : Int32) : Option (Int32) := gd S x0 8 (bd1 (fX8_queueOf S mm x0 x1) fun a1 => bd1 (ldA S 0 mm (rf S mm x0 3) 3) fun a2 => bd1 (ldA S 0 mm (rf S mm x0 3) 4) fun a3 => bd1 (ldA S 0 mm (rf S mm x0 26) ((24 * x1) + 9)) fun a4 => some ((a1 - a2) + (a3 * (a1 - a4))))
set_option maxHeartbeats 1000000 in
theorem mX8_feedbackOf {l : Launch} {E : Ev} {S : List Sh} {mm : Mm} {x0 : Nat} {x1 : Int32} {r : Int32} (h : fX8_feedbackOf S mm x0 x1 = some r) : Ml l E S yX8_feedbackOf cX8_feedbackOf 3 (some .int) 1 23 [.ref (E.2.2 x0), .int x1] mm (some (.int r)) mm := by
  refine Ml.of (by decide +kernel) (Nat.le_of_ble_eq_true rfl) (fun G C hQ => ?_)
  have C : Cx G E cX8_feedbackOf 3 RX8 (some .int) 1 23 := C
  unfold fX8_feedbackOf at h
  obtain ⟨g0, h⟩ := gd_some h
  show WM G l E S 0 [(0, .ref (E.2.2 x0)), (1, .int x1)] [] mm
  refine x_aload_n C (dq DX8_feedbackOf 0 rfl) rfl 0 rfl ?_
  refine x_iload_n C (dq DX8_feedbackOf 1 rfl) rfl 1 rfl ?_
  refine callX8_264 C (dq DX8_feedbackOf 2 rfl) h (by decide) (by decide) (Nat.le_of_ble_eq_true rfl) (fun a1 h => ?_)
  refine x_istore_n (lv' := [(2, .int a1), (0, .ref (E.2.2 x0)), (1, .int x1)]) C (dq DX8_feedbackOf 3 rfl) rfl (by decide) rfl ?_
  refine x_pc 6 rfl ?_
  refine x_iload_n C (dq DX8_feedbackOf 4 rfl) rfl 0 rfl ?_
  refine x_aload_n C (dq DX8_feedbackOf 5 rfl) rfl 1 rfl ?_
  refine getX8_13 C (dq DX8_feedbackOf 6 rfl) g0 ?_
  refine x_iconst (v := 3) C (dq DX8_feedbackOf 7 rfl) (by decide) ?_
  refine x_iald C (dq DX8_feedbackOf 8 rfl) h (fun a2 h => ?_)
  refine x_pc 13 rfl ?_
  refine x_isub C (dq DX8_feedbackOf 9 rfl) ?_
  refine x_aload_n C (dq DX8_feedbackOf 10 rfl) rfl 1 rfl ?_
  refine getX8_13 C (dq DX8_feedbackOf 11 rfl) g0 ?_
  refine x_iconst (v := 4) C (dq DX8_feedbackOf 12 rfl) (by decide) ?_
  refine x_iald C (dq DX8_feedbackOf 13 rfl) h (fun a3 h => ?_)
  refine x_pc 20 rfl ?_
  refine x_iload_n C (dq DX8_feedbackOf 14 rfl) rfl 0 rfl ?_
  refine x_aload_n C (dq DX8_feedbackOf 15 rfl) rfl 1 rfl ?_
  refine getX8_57 C (dq DX8_feedbackOf 16 rfl) g0 ?_
  refine x_bipush (v := 24) C (dq DX8_feedbackOf 17 rfl) (by decide) ?_
  refine x_iload_n C (dq DX8_feedbackOf 18 rfl) rfl 2 rfl ?_
  refine x_pc 28 rfl ?_
  refine x_imul C (dq DX8_feedbackOf 19 rfl) ?_
  refine x_bipush (v := 9) C (dq DX8_feedbackOf 20 rfl) (by decide) ?_
  refine x_iadd C (dq DX8_feedbackOf 21 rfl) ?_
  refine x_iald C (dq DX8_feedbackOf 22 rfl) h (fun a4 h => ?_)
  refine x_isub C (dq DX8_feedbackOf 23 rfl) ?_
  refine x_pc 34 rfl ?_
  refine x_imul C (dq DX8_feedbackOf 24 rfl) ?_
  refine x_iadd C (dq DX8_feedbackOf 25 rfl) ?_
  cases h
  exact x_iret C (dq DX8_feedbackOf 26 rfl) hQ
set_option maxHeartbeats 1000000 in
theorem qX8_feedbackOf {S : List Sh} {mm : Mm} {x0 : Nat} {x1 : Int32} {r : Int32} (h : fX8_feedbackOf S mm x0 x1 = some r) : isC S x0 8 := by
  unfold fX8_feedbackOf at h
  exact (gd_some h).1
abbrev eX8_noticeOf : List (Nat × Instr × Nat) := [(0, .iload_n 1, 1), (1, .ifCond .gt 7, 3), (4, .iconst 0, 1), (5, .goto 31, 3), (8, .iload_n 1, 1), (9, .bipush 64, 2), (11, .imul, 1), (12, .aload_n 0, 1), (13, .getfield 13, 3), (16, .iconst 3, 1), (17, .iaload, 1), (18, .iconst 1, 1), (19, .iconst 2, 1), (20, .aload_n 0, 1), (21, .getfield 13, 3), (24, .iconst 4, 1), (25, .iaload, 1), (26, .imul, 1), (27, .iadd, 1), (28, .imul, 1), (29, .idiv, 1), (30, .iconst 1, 1), (31, .bipush 63, 2), (33, .invokestatic 267, 3), (36, .ireturn, 1)]
theorem DX8_noticeOf : (eX8_noticeOf.all fun q => decide (decode cX8_noticeOf q.1 = .ok q.2)) = true := by decide +kernel
def jX8_noticeOf_36 (S : List Sh) (mm : Mm) (x0 : Nat) (p0 : Int32) : Option (Int32) := some p0
def fX8_noticeOf (S : List Sh) (mm : Mm) (x0 : Nat) (x1 : Int32) : Option (Int32) := gd S x0 8 (if 0 < x1 then (bd1 (ldA S 0 mm (rf S mm x0 3) 3) fun a1 => bd1 (ldA S 0 mm (rf S mm x0 3) 4) fun a2 => bd1 (dvI (x1 * 64) (a1 * (1 + (2 * a2)))) fun a3 => bd1 (fX8_within S mm a3 1 63) fun a4 => jX8_noticeOf_36 S mm x0 a4) else (jX8_noticeOf_36 S mm x0 0))
set_option maxHeartbeats 1000000 in
theorem tX8_noticeOf_36 {G : Gt} {l : Launch} {E : Ev} {S : List Sh} {mm : Mm} {x0 : Nat} {p0 : Int32} {r : Int32} (C : Cx G E cX8_noticeOf 2 RX8 (some .int) 1 22) (g0 : isC S x0 8) (h : jX8_noticeOf_36 S mm x0 p0 = some r) (hQ : RQ G E S (some (.int r)) mm) : WM G l E S 36 [(0, .ref (E.2.2 x0))] [.int p0] mm := by
  unfold jX8_noticeOf_36 at h
  cases h
  exact x_iret C (dq DX8_noticeOf 24 rfl) hQ
set_option maxHeartbeats 1000000 in
theorem mX8_noticeOf {l : Launch} {E : Ev} {S : List Sh} {mm : Mm} {x0 : Nat} {x1 : Int32} {r : Int32} (h : fX8_noticeOf S mm x0 x1 = some r) : Ml l E S yX8_noticeOf cX8_noticeOf 2 (some .int) 1 22 [.ref (E.2.2 x0), .int x1] mm (some (.int r)) mm := by
  refine Ml.of (by decide +kernel) (Nat.le_of_ble_eq_true rfl) (fun G C hQ => ?_)
  have C : Cx G E cX8_noticeOf 2 RX8 (some .int) 1 22 := C
  unfold fX8_noticeOf at h
  obtain ⟨g0, h⟩ := gd_some h
  show WM G l E S 0 [(0, .ref (E.2.2 x0)), (1, .int x1)] [] mm
  refine x_iload_n C (dq DX8_noticeOf 0 rfl) rfl 1 rfl ?_
  refine x_if_gt (tgt := 8) C (dq DX8_noticeOf 1 rfl) (by decide) h (fun h => ?_) (fun h => ?_)
  · refine x_iload_n C (dq DX8_noticeOf 4 rfl) rfl 1 rfl ?_
    refine x_bipush (v := 64) C (dq DX8_noticeOf 5 rfl) (by decide) ?_
    refine x_pc 11 rfl ?_
    refine x_imul C (dq DX8_noticeOf 6 rfl) ?_
    refine x_aload_n C (dq DX8_noticeOf 7 rfl) rfl 0 rfl ?_
    refine getX8_13 C (dq DX8_noticeOf 8 rfl) g0 ?_
    refine x_iconst (v := 3) C (dq DX8_noticeOf 9 rfl) (by decide) ?_
    refine x_iald C (dq DX8_noticeOf 10 rfl) h (fun a1 h => ?_)
    refine x_pc 18 rfl ?_
    refine x_iconst (v := 1) C (dq DX8_noticeOf 11 rfl) (by decide) ?_
    refine x_iconst (v := 2) C (dq DX8_noticeOf 12 rfl) (by decide) ?_
    refine x_aload_n C (dq DX8_noticeOf 13 rfl) rfl 0 rfl ?_
    refine getX8_13 C (dq DX8_noticeOf 14 rfl) g0 ?_
    refine x_iconst (v := 4) C (dq DX8_noticeOf 15 rfl) (by decide) ?_
    refine x_pc 25 rfl ?_
    refine x_iald C (dq DX8_noticeOf 16 rfl) h (fun a2 h => ?_)
    refine x_imul C (dq DX8_noticeOf 17 rfl) ?_
    refine x_iadd C (dq DX8_noticeOf 18 rfl) ?_
    refine x_imul C (dq DX8_noticeOf 19 rfl) ?_
    refine x_idiv C (dq DX8_noticeOf 20 rfl) h (fun a3 h => ?_)
    refine x_pc 30 rfl ?_
    refine x_iconst (v := 1) C (dq DX8_noticeOf 21 rfl) (by decide) ?_
    refine x_bipush (v := 63) C (dq DX8_noticeOf 22 rfl) (by decide) ?_
    refine callX8_267 C (dq DX8_noticeOf 23 rfl) h (by decide) (by decide) (Nat.le_of_ble_eq_true rfl) (fun a4 h => ?_)
    exact x_lv [0] rfl (tX8_noticeOf_36 C g0 h hQ)
  · refine x_iconst (v := 0) C (dq DX8_noticeOf 2 rfl) (by decide) ?_
    refine x_goto (tgt := 36) C (dq DX8_noticeOf 3 rfl) (by decide) ?_
    exact x_lv [0] rfl (tX8_noticeOf_36 C g0 h hQ)
set_option maxHeartbeats 1000000 in
theorem qX8_noticeOf {S : List Sh} {mm : Mm} {x0 : Nat} {x1 : Int32} {r : Int32} (h : fX8_noticeOf S mm x0 x1 = some r) : isC S x0 8 := by
  unfold fX8_noticeOf at h
  exact (gd_some h).1
theorem getX8_81 {G : Gt} {l : Launch} {E : Ev} {S : List Sh} {cc : ByteArray} {nL : Nat} {rt : Option FieldType} {fr lo : Nat} {pc : Nat} {lv : List (Nat × Value)} {st : List Value} {mm : Mm} {o : Nat} (C : Cx G E cc nL RX8 rt fr lo) (d : decode cc pc = .ok (.getfield 81, 3)) (hg : isC S o 8) (k : WM G l E S (pc + 3) lv (.ref (E.2.2 (rf S mm o 36)) :: st) mm) : WM G l E S pc lv (.ref (E.2.2 o) :: st) mm := x_get2 C hg (T := TX8) (N := 49) rfl inX8 (by decide) (i := 36) (gmem 901 (by decide +kernel) rfl) rfl rfl d k
theorem getX8_84 {G : Gt} {l : Launch} {E : Ev} {S : List Sh} {cc : ByteArray} {nL : Nat} {rt : Option FieldType} {fr lo : Nat} {pc : Nat} {lv : List (Nat × Value)} {st : List Value} {mm : Mm} {o : Nat} (C : Cx G E cc nL RX8 rt fr lo) (d : decode cc pc = .ok (.getfield 84, 3)) (hg : isC S o 8) (k : WM G l E S (pc + 3) lv (.ref (E.2.2 (rf S mm o 37)) :: st) mm) : WM G l E S pc lv (.ref (E.2.2 o) :: st) mm := x_get2 C hg (T := TX8) (N := 49) rfl inX8 (by decide) (i := 37) (gmem 902 (by decide +kernel) rfl) rfl rfl d k
theorem getX8_277 {G : Gt} {l : Launch} {E : Ev} {S : List Sh} {cc : ByteArray} {nL : Nat} {rt : Option FieldType} {fr lo : Nat} {pc : Nat} {lv : List (Nat × Value)} {st : List Value} {mm : Mm} {o : Nat} (C : Cx G E cc nL RX8 rt fr lo) (d : decode cc pc = .ok (.getfield 277, 3)) (hg : isC S o 8) (k : WM G l E S (pc + 3) lv (.int (mm.1 o 38) :: st) mm) : WM G l E S pc lv (.ref (E.2.2 o) :: st) mm := x_get0 C hg (T := TX8) (N := 49) rfl inX8 (by decide) (i := 38) (gmem 903 (by decide +kernel) rfl) rfl rfl d k
theorem putX8_277 {G : Gt} {l : Launch} {E : Ev} {S : List Sh} {cc : ByteArray} {nL : Nat} {rt : Option FieldType} {fr lo : Nat} {pc : Nat} {lv : List (Nat × Value)} {st : List Value} {mm : Mm} {o : Nat} {α : Type} {f : Mm → Option α} {r : α} {x : Int32} (C : Cx G E cc nL RX8 rt fr lo) (d : decode cc pc = .ok (.putfield 277, 3)) (hg : isC S o 8) (h : bd1 (some (u1 mm o 38 x)) f = some r) (k : ∀ m1, f m1 = some r → WM G l E S (pc + 3) lv st m1) : WM G l E S pc lv (.int x :: .ref (E.2.2 o) :: st) mm := x_putI C hg (T := TX8) (N := 49) rfl inX8 (by decide) (i := 38) (gmem 903 (by decide +kernel) rfl) rfl tyX8 tyX8_ok nmX8 rfl rfl (by decide) (by decide +kernel) d (k _ h)
theorem callX8_271 {G : Gt} {l : Launch} {E : Ev} {S : List Sh} {cc : ByteArray} {nL : Nat} {rt : Option FieldType} {fr lo : Nat} {pc : Nat} {lv : List (Nat × Value)} {rest : List Value} {mm : Mm} {α : Type} {f : Int32 → Option α} {r : α} {o : Nat} {a0 : Int32} (C : Cx G E cc nL RX8 rt fr lo) (d : decode cc pc = .ok (.invokevirtual 271, 3)) (h : bd1 (fX8_feedbackOf S mm o a0) f = some r) (hfr : 2 ≤ fr) (hlo : 45 ≤ lo) (hrs : (rest.map fun v => v.category).sum ≤ 8) (k : ∀ v, f v = some r → WM G l E S (pc + 3) lv (.int v :: rest) mm) : WM G l E S pc lv (.int a0 :: .ref (E.2.2 o) :: rest) mm := by
  obtain ⟨v, hv, hf⟩ := bd1_some h
  exact x_callV (n := 1) (As := [.int a0]) (rest := rest) C (mX8_feedbackOf hv) (qX8_feedbackOf hv) (T := TX8) (N := 49) rfl (gmem 1238 (by decide +kernel) rfl) (gmem 1240 (by decide +kernel) rfl) (gmemS 75 (by decide +kernel) rfl) (gmem 9 (by decide +kernel) rfl) (gmem 1241 (by decide +kernel) rfl) (by decide +kernel) rfl hfr hlo hrs d rfl rfl (k v hf)
theorem callX8_274 {G : Gt} {l : Launch} {E : Ev} {S : List Sh} {cc : ByteArray} {nL : Nat} {rt : Option FieldType} {fr lo : Nat} {pc : Nat} {lv : List (Nat × Value)} {rest : List Value} {mm : Mm} {α : Type} {f : Int32 → Option α} {r : α} {o : Nat} {a0 : Int32} (C : Cx G E cc nL RX8 rt fr lo) (d : decode cc pc = .ok (.invokevirtual 274, 3)) (h : bd1 (fX8_noticeOf S mm o a0) f = some r) (hfr : 2 ≤ fr) (hlo : 43 ≤ lo) (hrs : (rest.map fun v => v.category).sum ≤ 8) (k : ∀ v, f v = some r → WM G l E S (pc + 3) lv (.int v :: rest) mm) : WM G l E S pc lv (.int a0 :: .ref (E.2.2 o) :: rest) mm := by
  obtain ⟨v, hv, hf⟩ := bd1_some h
  exact x_callV (n := 1) (As := [.int a0]) (rest := rest) C (mX8_noticeOf hv) (qX8_noticeOf hv) (T := TX8) (N := 49) rfl (gmem 1242 (by decide +kernel) rfl) (gmem 1244 (by decide +kernel) rfl) (gmemS 76 (by decide +kernel) rfl) (gmem 9 (by decide +kernel) rfl) (gmem 1245 (by decide +kernel) rfl) (by decide +kernel) rfl hfr hlo hrs d rfl rfl (k v hf)
abbrev eX8_samples : List (Nat × Instr × Nat) := [(0, .bipush 24, 2), (2, .iload_n 1, 1), (3, .imul, 1), (4, .istore_n 2, 1), (5, .iconst (-1), 1), (6, .istore_n 3, 1), (7, .iconst 0, 1), (8, .istore 4, 2), (10, .iload 4, 2), (12, .aload_n 0, 1), (13, .invokevirtual 251, 3), (16, .if_icmp .ge 59, 3), (19, .aload_n 0, 1), (20, .getfield 57, 3), (23, .iload_n 2, 1), (24, .bipush 8, 2), (26, .iadd, 1), (27, .dup2, 1), (28, .iaload, 1), (29, .aload_n 0, 1), (30, .getfield 78, 3), (33, .bipush 8, 2), (35, .iload_n 1, 1), (36, .imul, 1), (37, .iload 4, 2), (39, .iadd, 1), (40, .iaload, 1), (41, .iadd, 1), (42, .iastore, 1), (43, .iload_n 3, 1), (44, .iconst (-1), 1), (45, .if_icmp .ne 24, 3), (48, .aload_n 0, 1), (49, .getfield 57, 3), (52, .iload_n 2, 1), (53, .bipush 8, 2), (55, .iadd, 1), (56, .iaload, 1), (57, .aload_n 0, 1), (58, .getfield 13, 3), (61, .iconst 2, 1), (62, .iaload, 1), (63, .if_icmp .lt 6, 3), (66, .iload 4, 2), (68, .istore_n 3, 1), (69, .iinc 4 1, 3), (72, .goto (-62), 3), (75, .iload_n 3, 1), (76, .iconst (-1), 1), (77, .if_icmp .ne 4, 3), (80, .return_, 1), (81, .aload_n 0, 1), (82, .getfield 57, 3), (85, .iload_n 2, 1), (86, .bipush 8, 2), (88, .iadd, 1), (89, .dup2, 1), (90, .iaload, 1), (91, .aload_n 0, 1), (92, .getfield 13, 3), (95, .iconst 2, 1), (96, .iaload, 1), (97, .irem, 1), (98, .iastore, 1), (99, .aload_n 0, 1), (100, .aload_n 0, 1), (101, .iload_n 1, 1), (102, .invokevirtual 271, 3), (105, .invokevirtual 274, 3), (108, .istore 4, 2), (110, .aload_n 0, 1), (111, .getfield 57, 3), (114, .iload_n 2, 1), (115, .iconst 5, 1), (116, .iadd, 1), (117, .dup2, 1), (118, .iaload, 1), (119, .iconst 1, 1), (120, .iadd, 1), (121, .iastore, 1), (122, .aload_n 0, 1), (123, .getfield 57, 3), (126, .iload_n 2, 1), (127, .bipush 9, 2), (129, .iadd, 1), (130, .aload_n 0, 1), (131, .iload_n 1, 1), (132, .invokevirtual 264, 3), (135, .iastore, 1), (136, .iload 4, 2), (138, .ifCond .ne 4, 3), (141, .return_, 1), (142, .aload_n 0, 1), (143, .getfield 57, 3), (146, .iload_n 2, 1), (147, .bipush 6, 2), (149, .iadd, 1), (150, .dup2, 1), (151, .iaload, 1), (152, .iconst 1, 1), (153, .iadd, 1), (154, .iastore, 1), (155, .aload_n 0, 1), (156, .getfield 81, 3), (159, .aload_n 0, 1), (160, .getfield 277, 3), (163, .iload_n 3, 1), (164, .iastore, 1), (165, .aload_n 0, 1), (166, .getfield 84, 3), (169, .aload_n 0, 1), (170, .getfield 277, 3), (173, .iload 4, 2), (175, .iastore, 1), (176, .aload_n 0, 1), (177, .dup, 1), (178, .getfield 277, 3), (181, .iconst 1, 1), (182, .iadd, 1), (183, .putfield 277, 3), (186, .return_, 1)]
theorem DX8_samples : (eX8_samples.all fun q => decide (decode cX8_samples q.1 = .ok q.2)) = true := by decide +kernel
def jX8_samples_69 (S : List Sh) (mm : Mm) (x0 : Nat) (x1 : Int32) (x2 : Int32) (x3 : Int32) (x4 : Int32)  : Option ((Int32 × Int32 × Mm) ⊕ (Int32 × Mm)) := some (.inl (x3, x4 + 1, mm))
def bX8_samples_10 (S : List Sh) (x0 : Nat) (x1 : Int32) (x2 : Int32) (x3 : Int32) (x4 : Int32) (mm : Mm) : Option ((Int32 × Int32 × Mm) ⊕ (Int32 × Mm)) := bd1 (fX8_flows S mm x0) fun a1 => if a1 ≤ x4 then (some (.inr (x3, mm))) else (bd1 (ldA S 0 mm (rf S mm x0 26) (x2 + 8)) fun a2 => bd1 (ldA S 0 mm (rf S mm x0 35) ((8 * x1) + x4)) fun a3 => bd1 (stA S 0 mm (rf S mm x0 26) (x2 + 8) (a2 + a3)) fun m4 => if ¬ x3 = (-1) then (jX8_samples_69 S m4 x0 x1 x2 x3 x4) else (bd1 (ldA S 0 m4 (rf S m4 x0 26) (x2 + 8)) fun a5 => bd1 (ldA S 0 m4 (rf S m4 x0 3) 2) fun a6 => if a5 < a6 then (jX8_samples_69 S m4 x0 x1 x2 x3 x4) else (jX8_samples_69 S m4 x0 x1 x2 x4 x4)))
def fX8_samples (S : List Sh) (mm : Mm) (x0 : Nat) (x1 : Int32) : Option (Mm) := gd S x0 8 (bd1 (lp (fun s7 => bX8_samples_10 S x0 x1 (24 * x1) s7.1 s7.2.1 s7.2.2) fu ((-1), 0, mm)) fun y8 => if ¬ y8.1 = (-1) then (bd1 (ldA S 0 y8.2 (rf S y8.2 x0 26) ((24 * x1) + 8)) fun a9 => bd1 (ldA S 0 y8.2 (rf S y8.2 x0 3) 2) fun a10 => bd1 (rmI a9 a10) fun a11 => bd1 (stA S 0 y8.2 (rf S y8.2 x0 26) ((24 * x1) + 8) a11) fun m12 => bd1 (fX8_feedbackOf S m12 x0 x1) fun a13 => bd1 (fX8_noticeOf S m12 x0 a13) fun a14 => bd1 (ldA S 0 m12 (rf S m12 x0 26) ((24 * x1) + 5)) fun a15 => bd1 (stA S 0 m12 (rf S m12 x0 26) ((24 * x1) + 5) (a15 + 1)) fun m16 => bd1 (fX8_queueOf S m16 x0 x1) fun a17 => bd1 (stA S 0 m16 (rf S m16 x0 26) ((24 * x1) + 9) a17) fun m18 => if ¬ a14 = 0 then (bd1 (ldA S 0 m18 (rf S m18 x0 26) ((24 * x1) + 6)) fun a19 => bd1 (stA S 0 m18 (rf S m18 x0 26) ((24 * x1) + 6) (a19 + 1)) fun m20 => bd1 (stA S 0 m20 (rf S m20 x0 36) (m20.1 x0 38) y8.1) fun m21 => bd1 (stA S 0 m21 (rf S m21 x0 37) (m21.1 x0 38) a14) fun m22 => bd1 (some (u1 m22 x0 38 ((m22.1 x0 38) + 1))) fun m23 => some m23) else (some m18)) else (some y8.2))
set_option maxHeartbeats 1000000 in
theorem tX8_samples_69 {G : Gt} {l : Launch} {E : Ev} {S : List Sh} {mm : Mm} {x0 : Nat} {x1 : Int32} {x2 : Int32} {x3 : Int32} {x4 : Int32}  {r : (Int32 × Int32 × Mm) ⊕ (Int32 × Mm)} (C : Cx G E cX8_samples 5 RX8 none 2 45) (g0 : isC S x0 8) (h : jX8_samples_69 S mm x0 x1 x2 x3 x4 = some r) (kb : ∀ z : Int32 × Int32 × Mm, r = .inl z → WM G l E S 10 [(0, .ref (E.2.2 x0)), (1, .int x1), (2, .int x2), (3, .int z.1), (4, .int z.2.1)] [] z.2.2) (kx : ∀ z : Int32 × Mm, r = .inr z → WM G l E S 75 [(0, .ref (E.2.2 x0)), (1, .int x1), (2, .int x2), (3, .int z.1)] [] z.2) : WM G l E S 69 [(0, .ref (E.2.2 x0)), (1, .int x1), (2, .int x2), (3, .int x3), (4, .int x4)] [] mm := by
  unfold jX8_samples_69 at h
  refine x_iinc (v := x4 + 1) (lv' := [(4, .int (x4 + 1)), (0, .ref (E.2.2 x0)), (1, .int x1), (2, .int x2), (3, .int x3)]) C (dq DX8_samples 45 rfl) 4 rfl rfl (by decide) rfl ?_
  refine x_goto (tgt := 10) C (dq DX8_samples 46 rfl) (by decide) ?_
  cases h
  exact x_lv [1, 2, 3, 4, 0] rfl (kb (x3, x4 + 1, mm) rfl)
set_option maxHeartbeats 1000000 in
theorem tX8_samples_10 {G : Gt} {l : Launch} {E : Ev} {S : List Sh} {x0 : Nat} {x1 : Int32} {x2 : Int32} {x3 : Int32} {x4 : Int32} {mm : Mm} {r : (Int32 × Int32 × Mm) ⊕ (Int32 × Mm)} (C : Cx G E cX8_samples 5 RX8 none 2 45) (g0 : isC S x0 8) (h : bX8_samples_10 S x0 x1 x2 x3 x4 mm = some r) (kb : ∀ z : Int32 × Int32 × Mm, r = .inl z → WM G l E S 10 [(0, .ref (E.2.2 x0)), (1, .int x1), (2, .int x2), (3, .int z.1), (4, .int z.2.1)] [] z.2.2) (kx : ∀ z : Int32 × Mm, r = .inr z → WM G l E S 75 [(0, .ref (E.2.2 x0)), (1, .int x1), (2, .int x2), (3, .int z.1)] [] z.2) : WM G l E S 10 [(0, .ref (E.2.2 x0)), (1, .int x1), (2, .int x2), (3, .int x3), (4, .int x4)] [] mm := by
  unfold bX8_samples_10 at h
  refine x_iload C (dq DX8_samples 8 rfl) 4 rfl ?_
  refine x_aload_n C (dq DX8_samples 9 rfl) rfl 0 rfl ?_
  refine callX8_251 C (dq DX8_samples 10 rfl) h (by decide) (by decide) (Nat.le_of_ble_eq_true rfl) (fun a1 h => ?_)
  refine x_icmp_ge (tgt := 75) C (dq DX8_samples 11 rfl) (by decide) h (fun h => ?_) (fun h => ?_)
  · cases h
    exact x_lv [0, 1, 2, 3] rfl (kx (x3, mm) rfl)
  · refine x_pc 19 rfl ?_
    refine x_aload_n C (dq DX8_samples 12 rfl) rfl 0 rfl ?_
    refine getX8_57 C (dq DX8_samples 13 rfl) g0 ?_
    refine x_iload_n C (dq DX8_samples 14 rfl) rfl 2 rfl ?_
    refine x_bipush (v := 8) C (dq DX8_samples 15 rfl) (by decide) ?_
    refine x_iadd C (dq DX8_samples 16 rfl) ?_
    refine x_pc 27 rfl ?_
    refine x_dup2 C (dq DX8_samples 17 rfl) rfl rfl ?_
    refine x_iald C (dq DX8_samples 18 rfl) h (fun a2 h => ?_)
    refine x_aload_n C (dq DX8_samples 19 rfl) rfl 0 rfl ?_
    refine getX8_78 C (dq DX8_samples 20 rfl) g0 ?_
    refine x_bipush (v := 8) C (dq DX8_samples 21 rfl) (by decide) ?_
    refine x_pc 35 rfl ?_
    refine x_iload_n C (dq DX8_samples 22 rfl) rfl 1 rfl ?_
    refine x_imul C (dq DX8_samples 23 rfl) ?_
    refine x_iload C (dq DX8_samples 24 rfl) 4 rfl ?_
    refine x_iadd C (dq DX8_samples 25 rfl) ?_
    refine x_iald C (dq DX8_samples 26 rfl) h (fun a3 h => ?_)
    refine x_pc 41 rfl ?_
    refine x_iadd C (dq DX8_samples 27 rfl) ?_
    refine x_iast C (dq DX8_samples 28 rfl) h (fun m4 h => ?_)
    refine x_iload_n C (dq DX8_samples 29 rfl) rfl 3 rfl ?_
    refine x_iconst (v := (-1)) C (dq DX8_samples 30 rfl) (by decide) ?_
    refine x_icmp_ne (tgt := 69) C (dq DX8_samples 31 rfl) (by decide) h (fun h => ?_) (fun h => ?_)
    · exact x_lv [0, 1, 2, 3, 4] rfl (tX8_samples_69 C g0 h kb kx)
    · refine x_pc 48 rfl ?_
      refine x_aload_n C (dq DX8_samples 32 rfl) rfl 0 rfl ?_
      refine getX8_57 C (dq DX8_samples 33 rfl) g0 ?_
      refine x_iload_n C (dq DX8_samples 34 rfl) rfl 2 rfl ?_
      refine x_bipush (v := 8) C (dq DX8_samples 35 rfl) (by decide) ?_
      refine x_iadd C (dq DX8_samples 36 rfl) ?_
      refine x_pc 56 rfl ?_
      refine x_iald C (dq DX8_samples 37 rfl) h (fun a5 h => ?_)
      refine x_aload_n C (dq DX8_samples 38 rfl) rfl 0 rfl ?_
      refine getX8_13 C (dq DX8_samples 39 rfl) g0 ?_
      refine x_iconst (v := 2) C (dq DX8_samples 40 rfl) (by decide) ?_
      refine x_iald C (dq DX8_samples 41 rfl) h (fun a6 h => ?_)
      refine x_pc 63 rfl ?_
      refine x_icmp_lt (tgt := 69) C (dq DX8_samples 42 rfl) (by decide) h (fun h => ?_) (fun h => ?_)
      · exact x_lv [0, 1, 2, 3, 4] rfl (tX8_samples_69 C g0 h kb kx)
      · refine x_iload C (dq DX8_samples 43 rfl) 4 rfl ?_
        refine x_istore_n (lv' := [(3, .int x4), (0, .ref (E.2.2 x0)), (1, .int x1), (2, .int x2), (4, .int x4)]) C (dq DX8_samples 44 rfl) rfl (by decide) rfl ?_
        exact x_lv [1, 2, 3, 0, 4] rfl (tX8_samples_69 C g0 h kb kx)
set_option maxHeartbeats 1000000 in
theorem mX8_samples {l : Launch} {E : Ev} {S : List Sh} {mm : Mm} {x0 : Nat} {x1 : Int32} {r : Mm} (h : fX8_samples S mm x0 x1 = some r) : Ml l E S yX8_samples cX8_samples 5 none 2 45 [.ref (E.2.2 x0), .int x1] mm none r := by
  refine Ml.of (by decide +kernel) (Nat.le_of_ble_eq_true rfl) (fun G C hQ => ?_)
  have C : Cx G E cX8_samples 5 RX8 none 2 45 := C
  unfold fX8_samples at h
  obtain ⟨g0, h⟩ := gd_some h
  show WM G l E S 0 [(0, .ref (E.2.2 x0)), (1, .int x1)] [] mm
  refine x_bipush (v := 24) C (dq DX8_samples 0 rfl) (by decide) ?_
  refine x_iload_n C (dq DX8_samples 1 rfl) rfl 1 rfl ?_
  refine x_imul C (dq DX8_samples 2 rfl) ?_
  refine x_istore_n (lv' := [(2, .int (24 * x1)), (0, .ref (E.2.2 x0)), (1, .int x1)]) C (dq DX8_samples 3 rfl) rfl (by decide) rfl ?_
  refine x_pc 5 rfl ?_
  refine x_iconst (v := (-1)) C (dq DX8_samples 4 rfl) (by decide) ?_
  refine x_istore_n (lv' := [(3, .int (-1)), (2, .int (24 * x1)), (0, .ref (E.2.2 x0)), (1, .int x1)]) C (dq DX8_samples 5 rfl) rfl (by decide) rfl ?_
  refine x_iconst (v := 0) C (dq DX8_samples 6 rfl) (by decide) ?_
  refine x_istore (lv' := [(4, .int 0), (3, .int (-1)), (2, .int (24 * x1)), (0, .ref (E.2.2 x0)), (1, .int x1)]) C (dq DX8_samples 7 rfl) (by decide) rfl ?_
  refine x_lv [3, 4, 2, 1, 0] rfl ?_
  refine x_loop (s0 := ((-1), 0, mm)) (fun s7 => WM G l E S 10 [(0, .ref (E.2.2 x0)), (1, .int x1), (2, .int (24 * x1)), (3, .int s7.1), (4, .int s7.2.1)] [] s7.2.2) h (fun s7 r hb kb kx => tX8_samples_10 C g0 hb kb (fun y8 hy => ?_))
  have h := kx y8 hy
  clear kx kb hb hy
  refine x_iload_n C (dq DX8_samples 47 rfl) rfl 3 rfl ?_
  refine x_pc 76 rfl ?_
  refine x_iconst (v := (-1)) C (dq DX8_samples 48 rfl) (by decide) ?_
  refine x_icmp_ne (tgt := 81) C (dq DX8_samples 49 rfl) (by decide) h (fun h => ?_) (fun h => ?_)
  · refine x_aload_n C (dq DX8_samples 51 rfl) rfl 0 rfl ?_
    refine getX8_57 C (dq DX8_samples 52 rfl) g0 ?_
    refine x_iload_n C (dq DX8_samples 53 rfl) rfl 2 rfl ?_
    refine x_pc 86 rfl ?_
    refine x_bipush (v := 8) C (dq DX8_samples 54 rfl) (by decide) ?_
    refine x_iadd C (dq DX8_samples 55 rfl) ?_
    refine x_dup2 C (dq DX8_samples 56 rfl) rfl rfl ?_
    refine x_iald C (dq DX8_samples 57 rfl) h (fun a9 h => ?_)
    refine x_aload_n C (dq DX8_samples 58 rfl) rfl 0 rfl ?_
    refine x_pc 92 rfl ?_
    refine getX8_13 C (dq DX8_samples 59 rfl) g0 ?_
    refine x_iconst (v := 2) C (dq DX8_samples 60 rfl) (by decide) ?_
    refine x_iald C (dq DX8_samples 61 rfl) h (fun a10 h => ?_)
    refine x_irem C (dq DX8_samples 62 rfl) h (fun a11 h => ?_)
    refine x_iast C (dq DX8_samples 63 rfl) h (fun m12 h => ?_)
    refine x_pc 99 rfl ?_
    refine x_aload_n C (dq DX8_samples 64 rfl) rfl 0 rfl ?_
    refine x_aload_n C (dq DX8_samples 65 rfl) rfl 0 rfl ?_
    refine x_iload_n C (dq DX8_samples 66 rfl) rfl 1 rfl ?_
    refine callX8_271 C (dq DX8_samples 67 rfl) h (by decide) (by decide) (Nat.le_of_ble_eq_true rfl) (fun a13 h => ?_)
    refine callX8_274 C (dq DX8_samples 68 rfl) h (by decide) (by decide) (Nat.le_of_ble_eq_true rfl) (fun a14 h => ?_)
    refine x_pc 108 rfl ?_
    refine x_istore (lv' := [(4, .int a14), (0, .ref (E.2.2 x0)), (1, .int x1), (2, .int (24 * x1)), (3, .int y8.1)]) C (dq DX8_samples 69 rfl) (by decide) rfl ?_
    refine x_aload_n C (dq DX8_samples 70 rfl) rfl 1 rfl ?_
    refine getX8_57 C (dq DX8_samples 71 rfl) g0 ?_
    refine x_iload_n C (dq DX8_samples 72 rfl) rfl 3 rfl ?_
    refine x_iconst (v := 5) C (dq DX8_samples 73 rfl) (by decide) ?_
    refine x_pc 116 rfl ?_
    refine x_iadd C (dq DX8_samples 74 rfl) ?_
    refine x_dup2 C (dq DX8_samples 75 rfl) rfl rfl ?_
    refine x_iald C (dq DX8_samples 76 rfl) h (fun a15 h => ?_)
    refine x_iconst (v := 1) C (dq DX8_samples 77 rfl) (by decide) ?_
    refine x_iadd C (dq DX8_samples 78 rfl) ?_
    refine x_pc 121 rfl ?_
    refine x_iast C (dq DX8_samples 79 rfl) h (fun m16 h => ?_)
    refine x_aload_n C (dq DX8_samples 80 rfl) rfl 1 rfl ?_
    refine getX8_57 C (dq DX8_samples 81 rfl) g0 ?_
    refine x_iload_n C (dq DX8_samples 82 rfl) rfl 3 rfl ?_
    refine x_bipush (v := 9) C (dq DX8_samples 83 rfl) (by decide) ?_
    refine x_pc 129 rfl ?_
    refine x_iadd C (dq DX8_samples 84 rfl) ?_
    refine x_aload_n C (dq DX8_samples 85 rfl) rfl 1 rfl ?_
    refine x_iload_n C (dq DX8_samples 86 rfl) rfl 2 rfl ?_
    refine callX8_264 C (dq DX8_samples 87 rfl) h (by decide) (by decide) (Nat.le_of_ble_eq_true rfl) (fun a17 h => ?_)
    refine x_iast C (dq DX8_samples 88 rfl) h (fun m18 h => ?_)
    refine x_pc 136 rfl ?_
    refine x_iload C (dq DX8_samples 89 rfl) 0 rfl ?_
    refine x_if_ne (tgt := 142) C (dq DX8_samples 90 rfl) (by decide) h (fun h => ?_) (fun h => ?_)
    · refine x_aload_n C (dq DX8_samples 92 rfl) rfl 1 rfl ?_
      refine getX8_57 C (dq DX8_samples 93 rfl) g0 ?_
      refine x_iload_n C (dq DX8_samples 94 rfl) rfl 3 rfl ?_
      refine x_pc 147 rfl ?_
      refine x_bipush (v := 6) C (dq DX8_samples 95 rfl) (by decide) ?_
      refine x_iadd C (dq DX8_samples 96 rfl) ?_
      refine x_dup2 C (dq DX8_samples 97 rfl) rfl rfl ?_
      refine x_iald C (dq DX8_samples 98 rfl) h (fun a19 h => ?_)
      refine x_iconst (v := 1) C (dq DX8_samples 99 rfl) (by decide) ?_
      refine x_pc 153 rfl ?_
      refine x_iadd C (dq DX8_samples 100 rfl) ?_
      refine x_iast C (dq DX8_samples 101 rfl) h (fun m20 h => ?_)
      refine x_aload_n C (dq DX8_samples 102 rfl) rfl 1 rfl ?_
      refine getX8_81 C (dq DX8_samples 103 rfl) g0 ?_
      refine x_aload_n C (dq DX8_samples 104 rfl) rfl 1 rfl ?_
      refine x_pc 160 rfl ?_
      refine getX8_277 C (dq DX8_samples 105 rfl) g0 ?_
      refine x_iload_n C (dq DX8_samples 106 rfl) rfl 4 rfl ?_
      refine x_iast C (dq DX8_samples 107 rfl) h (fun m21 h => ?_)
      refine x_aload_n C (dq DX8_samples 108 rfl) rfl 1 rfl ?_
      refine getX8_84 C (dq DX8_samples 109 rfl) g0 ?_
      refine x_pc 169 rfl ?_
      refine x_aload_n C (dq DX8_samples 110 rfl) rfl 1 rfl ?_
      refine getX8_277 C (dq DX8_samples 111 rfl) g0 ?_
      refine x_iload C (dq DX8_samples 112 rfl) 0 rfl ?_
      refine x_iast C (dq DX8_samples 113 rfl) h (fun m22 h => ?_)
      refine x_aload_n C (dq DX8_samples 114 rfl) rfl 1 rfl ?_
      refine x_pc 177 rfl ?_
      refine x_dup C (dq DX8_samples 115 rfl) rfl ?_
      refine getX8_277 C (dq DX8_samples 116 rfl) g0 ?_
      refine x_iconst (v := 1) C (dq DX8_samples 117 rfl) (by decide) ?_
      refine x_iadd C (dq DX8_samples 118 rfl) ?_
      refine putX8_277 C (dq DX8_samples 119 rfl) g0 h (fun m23 h => ?_)
      refine x_pc 186 rfl ?_
      cases h
      exact x_vret C (dq DX8_samples 120 rfl) hQ
    · cases h
      exact x_vret C (dq DX8_samples 91 rfl) hQ
  · cases h
    exact x_vret C (dq DX8_samples 50 rfl) hQ
set_option maxHeartbeats 1000000 in
theorem qX8_samples {S : List Sh} {mm : Mm} {x0 : Nat} {x1 : Int32} {r : Mm} (h : fX8_samples S mm x0 x1 = some r) : isC S x0 8 := by
  unfold fX8_samples at h
  exact (gd_some h).1
