theorem getX8_69 {G : Gt} {l : Launch} {E : Ev} {S : List Sh} {cc : ByteArray} {nL : Nat} {rt : Option FieldType} {fr lo : Nat} {pc : Nat} {lv : List (Nat × Value)} {st : List Value} {mm : Mm} {o : Nat} (C : Cx G E cc nL RX8 rt fr lo) (d : decode cc pc = .ok (.getfield 69, 3)) (hg : isC S o 8) (k : WM G l E S (pc + 3) lv (.ref (E.2.2 (rf S mm o 30)) :: st) mm) : WM G l E S pc lv (.ref (E.2.2 o) :: st) mm := x_get2 C hg (T := TX8) (N := 49) rfl inX8 (by decide) (i := 30) (gmem 895 (by decide +kernel) rfl) rfl rfl d k
theorem getX8_241 {G : Gt} {l : Launch} {E : Ev} {S : List Sh} {cc : ByteArray} {nL : Nat} {rt : Option FieldType} {fr lo : Nat} {pc : Nat} {lv : List (Nat × Value)} {st : List Value} {mm : Mm} {o : Nat} (C : Cx G E cc nL RX8 rt fr lo) (d : decode cc pc = .ok (.getfield 241, 3)) (hg : isC S o 8) (k : WM G l E S (pc + 3) lv (.int (mm.1 o 31) :: st) mm) : WM G l E S pc lv (.ref (E.2.2 o) :: st) mm := x_get0 C hg (T := TX8) (N := 49) rfl inX8 (by decide) (i := 31) (gmem 896 (by decide +kernel) rfl) rfl rfl d k
theorem putX8_241 {G : Gt} {l : Launch} {E : Ev} {S : List Sh} {cc : ByteArray} {nL : Nat} {rt : Option FieldType} {fr lo : Nat} {pc : Nat} {lv : List (Nat × Value)} {st : List Value} {mm : Mm} {o : Nat} {α : Type} {f : Mm → Option α} {r : α} {x : Int32} (C : Cx G E cc nL RX8 rt fr lo) (d : decode cc pc = .ok (.putfield 241, 3)) (hg : isC S o 8) (h : bd1 (some (u1 mm o 31 x)) f = some r) (k : ∀ m1, f m1 = some r → WM G l E S (pc + 3) lv st m1) : WM G l E S pc lv (.int x :: .ref (E.2.2 o) :: st) mm := x_putI C hg (T := TX8) (N := 49) rfl inX8 (by decide) (i := 31) (gmem 896 (by decide +kernel) rfl) rfl tyX8 tyX8_ok nmX8 rfl rfl (by decide) (by decide +kernel) d (k _ h)
theorem callX8_254 {G : Gt} {l : Launch} {E : Ev} {S : List Sh} {cc : ByteArray} {nL : Nat} {rt : Option FieldType} {fr lo : Nat} {pc : Nat} {lv : List (Nat × Value)} {rest : List Value} {mm : Mm} {α : Type} {f : Mm → Option α} {r : α} {a0 : Nat} {a1 : Int32} {a2 : Nat} {a3 : Int32} (C : Cx G E cc nL RX8 rt fr lo) (d : decode cc pc = .ok (.invokestatic 254, 3)) (h : bd1 (fX8_copies S mm a0 a1 a2 a3) f = some r) (hfr : 1 ≤ fr) (hlo : 24 ≤ lo) (hrs : (rest.map fun v => v.category).sum ≤ 8) (k : ∀ m1, f m1 = some r → WM G l E S (pc + 3) lv rest m1) : WM G l E S pc lv (.int a3 :: .ref (E.2.2 a2) :: .int a1 :: .ref (E.2.2 a0) :: rest) mm := by
  obtain ⟨m1, hv, hf⟩ := bd1_some h
  exact x_callS (n := 4) (As := [.ref (E.2.2 a0), .int a1, .ref (E.2.2 a2), .int a3]) (rest := rest) C (mX8_copies hv) (gmem 1173 (by decide +kernel) rfl) (gmem 1174 (by decide +kernel) rfl) (gmem 9 (by decide +kernel) rfl) (gmem 1175 (by decide +kernel) rfl) (by decide +kernel) rfl hfr hlo hrs d rfl rfl (k m1 hf)
abbrev eX8_remembers : List (Nat × Instr × Nat) := [(0, .aload_n 0, 1), (1, .getfield 241, 3), (4, .bipush 20, 2), (6, .if_icmp .ne 44, 3), (9, .iconst 0, 1), (10, .istore_n 1, 1), (11, .iload_n 1, 1), (12, .sipush 6403, 3), (15, .if_icmp .ge 25, 3), (18, .aload_n 0, 1), (19, .getfield 69, 3), (22, .iload_n 1, 1), (23, .aload_n 0, 1), (24, .getfield 69, 3), (27, .sipush 337, 3), (30, .iload_n 1, 1), (31, .iadd, 1), (32, .iaload, 1), (33, .iastore, 1), (34, .iinc 1 1, 3), (37, .goto (-26), 3), (40, .aload_n 0, 1), (41, .dup, 1), (42, .getfield 241, 3), (45, .iconst 1, 1), (46, .isub, 1), (47, .putfield 241, 3), (50, .aload_n 0, 1), (51, .getfield 57, 3), (54, .iconst 0, 1), (55, .aload_n 0, 1), (56, .getfield 69, 3), (59, .sipush 337, 3), (62, .aload_n 0, 1), (63, .getfield 241, 3), (66, .imul, 1), (67, .invokestatic 254, 3), (70, .aload_n 0, 1), (71, .dup, 1), (72, .getfield 241, 3), (75, .iconst 1, 1), (76, .iadd, 1), (77, .putfield 241, 3), (80, .return_, 1)]
theorem DX8_remembers : (eX8_remembers.all fun q => decide (decode cX8_remembers q.1 = .ok q.2)) = true := by decide +kernel
def jX8_remembers_50 (S : List Sh) (mm : Mm) (x0 : Nat)  : Option (Mm) := bd1 (fX8_copies S mm (rf S mm x0 26) 0 (rf S mm x0 30) (337 * (mm.1 x0 31))) fun m1 => bd1 (some (u1 m1 x0 31 ((m1.1 x0 31) + 1))) fun m2 => some m2
def bX8_remembers_11 (S : List Sh) (x0 : Nat) (x1 : Int32) (mm : Mm) : Option ((Int32 × Mm) ⊕ (Mm)) := if 6403 ≤ x1 then (some (.inr (mm))) else (bd1 (ldA S 0 mm (rf S mm x0 30) (337 + x1)) fun a3 => bd1 (stA S 0 mm (rf S mm x0 30) x1 a3) fun m4 => some (.inl (x1 + 1, m4)))
def fX8_remembers (S : List Sh) (mm : Mm) (x0 : Nat) : Option (Mm) := gd S x0 8 (if ¬ (mm.1 x0 31) = 20 then (jX8_remembers_50 S mm x0) else (bd1 (lp (fun s5 => bX8_remembers_11 S x0 s5.1 s5.2) fu (0, mm)) fun y6 => bd1 (some (u1 y6 x0 31 ((y6.1 x0 31) - 1))) fun m7 => jX8_remembers_50 S m7 x0))
set_option maxHeartbeats 1000000 in
theorem tX8_remembers_50 {G : Gt} {l : Launch} {E : Ev} {S : List Sh} {mm : Mm} {x0 : Nat}  {r : Mm} (C : Cx G E cX8_remembers 2 RX8 none 1 24) (g0 : isC S x0 8) (h : jX8_remembers_50 S mm x0 = some r) (hQ : RQ G E S none r) : WM G l E S 50 [(0, .ref (E.2.2 x0))] [] mm := by
  unfold jX8_remembers_50 at h
  refine x_aload_n C (dq DX8_remembers 27 rfl) rfl 0 rfl ?_
  refine getX8_57 C (dq DX8_remembers 28 rfl) g0 ?_
  refine x_iconst (v := 0) C (dq DX8_remembers 29 rfl) (by decide) ?_
  refine x_aload_n C (dq DX8_remembers 30 rfl) rfl 0 rfl ?_
  refine x_pc 56 rfl ?_
  refine getX8_69 C (dq DX8_remembers 31 rfl) g0 ?_
  refine x_sipush (v := 337) C (dq DX8_remembers 32 rfl) (by decide) ?_
  refine x_aload_n C (dq DX8_remembers 33 rfl) rfl 0 rfl ?_
  refine getX8_241 C (dq DX8_remembers 34 rfl) g0 ?_
  refine x_imul C (dq DX8_remembers 35 rfl) ?_
  refine x_pc 67 rfl ?_
  refine callX8_254 C (dq DX8_remembers 36 rfl) h (by decide) (by decide) (Nat.le_of_ble_eq_true rfl) (fun m1 h => ?_)
  refine x_aload_n C (dq DX8_remembers 37 rfl) rfl 0 rfl ?_
  refine x_dup C (dq DX8_remembers 38 rfl) rfl ?_
  refine getX8_241 C (dq DX8_remembers 39 rfl) g0 ?_
  refine x_iconst (v := 1) C (dq DX8_remembers 40 rfl) (by decide) ?_
  refine x_pc 76 rfl ?_
  refine x_iadd C (dq DX8_remembers 41 rfl) ?_
  refine putX8_241 C (dq DX8_remembers 42 rfl) g0 h (fun m2 h => ?_)
  cases h
  exact x_vret C (dq DX8_remembers 43 rfl) hQ
set_option maxHeartbeats 1000000 in
theorem tX8_remembers_11 {G : Gt} {l : Launch} {E : Ev} {S : List Sh} {x0 : Nat} {x1 : Int32} {mm : Mm} {r : (Int32 × Mm) ⊕ (Mm)} (C : Cx G E cX8_remembers 2 RX8 none 1 24) (g0 : isC S x0 8) (h : bX8_remembers_11 S x0 x1 mm = some r) (kb : ∀ z : Int32 × Mm, r = .inl z → WM G l E S 11 [(0, .ref (E.2.2 x0)), (1, .int z.1)] [] z.2) (kx : ∀ z : Mm, r = .inr z → WM G l E S 40 [(0, .ref (E.2.2 x0))] [] z) : WM G l E S 11 [(0, .ref (E.2.2 x0)), (1, .int x1)] [] mm := by
  unfold bX8_remembers_11 at h
  refine x_iload_n C (dq DX8_remembers 6 rfl) rfl 1 rfl ?_
  refine x_sipush (v := 6403) C (dq DX8_remembers 7 rfl) (by decide) ?_
  refine x_icmp_ge (tgt := 40) C (dq DX8_remembers 8 rfl) (by decide) h (fun h => ?_) (fun h => ?_)
  · cases h
    exact x_lv [0] rfl (kx (mm) rfl)
  · refine x_aload_n C (dq DX8_remembers 9 rfl) rfl 0 rfl ?_
    refine x_pc 19 rfl ?_
    refine getX8_69 C (dq DX8_remembers 10 rfl) g0 ?_
    refine x_iload_n C (dq DX8_remembers 11 rfl) rfl 1 rfl ?_
    refine x_aload_n C (dq DX8_remembers 12 rfl) rfl 0 rfl ?_
    refine getX8_69 C (dq DX8_remembers 13 rfl) g0 ?_
    refine x_sipush (v := 337) C (dq DX8_remembers 14 rfl) (by decide) ?_
    refine x_pc 30 rfl ?_
    refine x_iload_n C (dq DX8_remembers 15 rfl) rfl 1 rfl ?_
    refine x_iadd C (dq DX8_remembers 16 rfl) ?_
    refine x_iald C (dq DX8_remembers 17 rfl) h (fun a3 h => ?_)
    refine x_iast C (dq DX8_remembers 18 rfl) h (fun m4 h => ?_)
    refine x_iinc (v := x1 + 1) (lv' := [(1, .int (x1 + 1)), (0, .ref (E.2.2 x0))]) C (dq DX8_remembers 19 rfl) 1 rfl rfl (by decide) rfl ?_
    refine x_pc 37 rfl ?_
    refine x_goto (tgt := 11) C (dq DX8_remembers 20 rfl) (by decide) ?_
    cases h
    exact x_lv [1, 0] rfl (kb (x1 + 1, m4) rfl)
set_option maxHeartbeats 1000000 in
theorem mX8_remembers {l : Launch} {E : Ev} {S : List Sh} {mm : Mm} {x0 : Nat} {r : Mm} (h : fX8_remembers S mm x0 = some r) : Ml l E S yX8_remembers cX8_remembers 2 none 1 24 [.ref (E.2.2 x0)] mm none r := by
  refine Ml.of (by decide +kernel) (Nat.le_of_ble_eq_true rfl) (fun G C hQ => ?_)
  have C : Cx G E cX8_remembers 2 RX8 none 1 24 := C
  unfold fX8_remembers at h
  obtain ⟨g0, h⟩ := gd_some h
  show WM G l E S 0 [(0, .ref (E.2.2 x0))] [] mm
  refine x_aload_n C (dq DX8_remembers 0 rfl) rfl 0 rfl ?_
  refine getX8_241 C (dq DX8_remembers 1 rfl) g0 ?_
  refine x_bipush (v := 20) C (dq DX8_remembers 2 rfl) (by decide) ?_
  refine x_icmp_ne (tgt := 50) C (dq DX8_remembers 3 rfl) (by decide) h (fun h => ?_) (fun h => ?_)
  · exact x_lv [0] rfl (tX8_remembers_50 C g0 h hQ)
  · refine x_pc 9 rfl ?_
    refine x_iconst (v := 0) C (dq DX8_remembers 4 rfl) (by decide) ?_
    refine x_istore_n (lv' := [(1, .int 0), (0, .ref (E.2.2 x0))]) C (dq DX8_remembers 5 rfl) rfl (by decide) rfl ?_
    refine x_lv [1, 0] rfl ?_
    refine x_loop (s0 := (0, mm)) (fun s5 => WM G l E S 11 [(0, .ref (E.2.2 x0)), (1, .int s5.1)] [] s5.2) h (fun s5 r hb kb kx => tX8_remembers_11 C g0 hb kb (fun y6 hy => ?_))
    have h := kx y6 hy
    clear kx kb hb hy
    refine x_aload_n C (dq DX8_remembers 21 rfl) rfl 0 rfl ?_
    refine x_dup C (dq DX8_remembers 22 rfl) rfl ?_
    refine getX8_241 C (dq DX8_remembers 23 rfl) g0 ?_
    refine x_pc 45 rfl ?_
    refine x_iconst (v := 1) C (dq DX8_remembers 24 rfl) (by decide) ?_
    refine x_isub C (dq DX8_remembers 25 rfl) ?_
    refine putX8_241 C (dq DX8_remembers 26 rfl) g0 h (fun m7 h => ?_)
    exact x_lv [0] rfl (tX8_remembers_50 C g0 h hQ)
set_option maxHeartbeats 1000000 in
theorem qX8_remembers {S : List Sh} {mm : Mm} {x0 : Nat} {r : Mm} (h : fX8_remembers S mm x0 = some r) : isC S x0 8 := by
  unfold fX8_remembers at h
  exact (gd_some h).1
abbrev eX8_undo : List (Nat × Instr × Nat) := [(0, .aload_n 0, 1), (1, .iconst 0, 1), (2, .putfield 115, 3), (5, .aload_n 0, 1), (6, .getfield 241, 3), (9, .ifCond .ne 5, 3), (12, .iconst (-1), 1), (13, .ireturn, 1), (14, .aload_n 0, 1), (15, .dup, 1), (16, .getfield 241, 3), (19, .iconst 1, 1), (20, .isub, 1), (21, .putfield 241, 3), (24, .aload_n 0, 1), (25, .getfield 69, 3), (28, .sipush 337, 3), (31, .aload_n 0, 1), (32, .getfield 241, 3), (35, .imul, 1), (36, .aload_n 0, 1), (37, .getfield 57, 3), (40, .iconst 0, 1), (41, .invokestatic 254, 3), (44, .aload_n 0, 1), (45, .getfield 241, 3), (48, .ireturn, 1)]
theorem DX8_undo : (eX8_undo.all fun q => decide (decode cX8_undo q.1 = .ok q.2)) = true := by decide +kernel
def fX8_undo (S : List Sh) (mm : Mm) (x0 : Nat) : Option (Int32 × Mm) := gd S x0 8 (bd1 (some (u1 mm x0 0 0)) fun m1 => if ¬ (m1.1 x0 31) = 0 then (bd1 (some (u1 m1 x0 31 ((m1.1 x0 31) - 1))) fun m2 => bd1 (fX8_copies S m2 (rf S m2 x0 30) (337 * (m2.1 x0 31)) (rf S m2 x0 26) 0) fun m3 => some ((m3.1 x0 31), m3)) else (some ((-1), m1)))
set_option maxHeartbeats 1000000 in
theorem mX8_undo {l : Launch} {E : Ev} {S : List Sh} {mm : Mm} {x0 : Nat} {r : Int32 × Mm} (h : fX8_undo S mm x0 = some r) : Ml l E S yX8_undo cX8_undo 1 (some .int) 1 24 [.ref (E.2.2 x0)] mm (some (.int r.1)) r.2 := by
  refine Ml.of (by decide +kernel) (Nat.le_of_ble_eq_true rfl) (fun G C hQ => ?_)
  have C : Cx G E cX8_undo 1 RX8 (some .int) 1 24 := C
  unfold fX8_undo at h
  obtain ⟨g0, h⟩ := gd_some h
  show WM G l E S 0 [(0, .ref (E.2.2 x0))] [] mm
  refine x_aload_n C (dq DX8_undo 0 rfl) rfl 0 rfl ?_
  refine x_iconst (v := 0) C (dq DX8_undo 1 rfl) (by decide) ?_
  refine putX8_115 C (dq DX8_undo 2 rfl) g0 h (fun m1 h => ?_)
  refine x_aload_n C (dq DX8_undo 3 rfl) rfl 0 rfl ?_
  refine x_pc 6 rfl ?_
  refine getX8_241 C (dq DX8_undo 4 rfl) g0 ?_
  refine x_if_ne (tgt := 14) C (dq DX8_undo 5 rfl) (by decide) h (fun h => ?_) (fun h => ?_)
  · refine x_aload_n C (dq DX8_undo 8 rfl) rfl 0 rfl ?_
    refine x_dup C (dq DX8_undo 9 rfl) rfl ?_
    refine getX8_241 C (dq DX8_undo 10 rfl) g0 ?_
    refine x_pc 19 rfl ?_
    refine x_iconst (v := 1) C (dq DX8_undo 11 rfl) (by decide) ?_
    refine x_isub C (dq DX8_undo 12 rfl) ?_
    refine putX8_241 C (dq DX8_undo 13 rfl) g0 h (fun m2 h => ?_)
    refine x_aload_n C (dq DX8_undo 14 rfl) rfl 0 rfl ?_
    refine getX8_69 C (dq DX8_undo 15 rfl) g0 ?_
    refine x_pc 28 rfl ?_
    refine x_sipush (v := 337) C (dq DX8_undo 16 rfl) (by decide) ?_
    refine x_aload_n C (dq DX8_undo 17 rfl) rfl 0 rfl ?_
    refine getX8_241 C (dq DX8_undo 18 rfl) g0 ?_
    refine x_imul C (dq DX8_undo 19 rfl) ?_
    refine x_aload_n C (dq DX8_undo 20 rfl) rfl 0 rfl ?_
    refine x_pc 37 rfl ?_
    refine getX8_57 C (dq DX8_undo 21 rfl) g0 ?_
    refine x_iconst (v := 0) C (dq DX8_undo 22 rfl) (by decide) ?_
    refine callX8_254 C (dq DX8_undo 23 rfl) h (by decide) (by decide) (Nat.le_of_ble_eq_true rfl) (fun m3 h => ?_)
    refine x_aload_n C (dq DX8_undo 24 rfl) rfl 0 rfl ?_
    refine getX8_241 C (dq DX8_undo 25 rfl) g0 ?_
    refine x_pc 48 rfl ?_
    cases h
    exact x_iret C (dq DX8_undo 26 rfl) hQ
  · refine x_iconst (v := (-1)) C (dq DX8_undo 6 rfl) (by decide) ?_
    cases h
    exact x_iret C (dq DX8_undo 7 rfl) hQ
set_option maxHeartbeats 1000000 in
theorem qX8_undo {S : List Sh} {mm : Mm} {x0 : Nat} {r : Int32 × Mm} (h : fX8_undo S mm x0 = some r) : isC S x0 8 := by
  unfold fX8_undo at h
  exact (gd_some h).1
theorem getX8_66 {G : Gt} {l : Launch} {E : Ev} {S : List Sh} {cc : ByteArray} {nL : Nat} {rt : Option FieldType} {fr lo : Nat} {pc : Nat} {lv : List (Nat × Value)} {st : List Value} {mm : Mm} {o : Nat} (C : Cx G E cc nL RX8 rt fr lo) (d : decode cc pc = .ok (.getfield 66, 3)) (hg : isC S o 8) (k : WM G l E S (pc + 3) lv (.ref (E.2.2 (rf S mm o 29)) :: st) mm) : WM G l E S pc lv (.ref (E.2.2 o) :: st) mm := x_get2 C hg (T := TX8) (N := 49) rfl inX8 (by decide) (i := 29) (gmem 894 (by decide +kernel) rfl) rfl rfl d k
theorem putX8_244 {G : Gt} {l : Launch} {E : Ev} {S : List Sh} {cc : ByteArray} {nL : Nat} {rt : Option FieldType} {fr lo : Nat} {pc : Nat} {lv : List (Nat × Value)} {st : List Value} {mm : Mm} {o : Nat} {α : Type} {f : Mm → Option α} {r : α} {x : Int32} (C : Cx G E cc nL RX8 rt fr lo) (d : decode cc pc = .ok (.putfield 244, 3)) (hg : isC S o 8) (hz : x = 0 ∨ x = 1) (h : bd1 (some (u1 mm o 32 x)) f = some r) (k : ∀ m1, f m1 = some r → WM G l E S (pc + 3) lv st m1) : WM G l E S pc lv (.int x :: .ref (E.2.2 o) :: st) mm := x_putZ C hg (T := TX8) (N := 49) rfl inX8 (by decide) (i := 32) (gmem 897 (by decide +kernel) rfl) rfl tyX8 tyX8_ok nmX8 rfl hz rfl (by decide) (by decide +kernel) d (k _ h)
abbrev eX8_keep : List (Nat × Instr × Nat) := [(0, .aload_n 0, 1), (1, .iconst 0, 1), (2, .putfield 115, 3), (5, .aload_n 0, 1), (6, .getfield 57, 3), (9, .iconst 0, 1), (10, .aload_n 0, 1), (11, .getfield 66, 3), (14, .iconst 0, 1), (15, .invokestatic 254, 3), (18, .aload_n 0, 1), (19, .iconst 1, 1), (20, .putfield 244, 3), (23, .aload_n 0, 1), (24, .getfield 57, 3), (27, .sipush 336, 3), (30, .iaload, 1), (31, .ireturn, 1)]
theorem DX8_keep : (eX8_keep.all fun q => decide (decode cX8_keep q.1 = .ok q.2)) = true := by decide +kernel
def fX8_keep (S : List Sh) (mm : Mm) (x0 : Nat) : Option (Int32 × Mm) := gd S x0 8 (bd1 (some (u1 mm x0 0 0)) fun m1 => bd1 (fX8_copies S m1 (rf S m1 x0 26) 0 (rf S m1 x0 29) 0) fun m2 => bd1 (some (u1 m2 x0 32 1)) fun m3 => bd1 (ldA S 0 m3 (rf S m3 x0 26) 336) fun a4 => some (a4, m3))
set_option maxHeartbeats 1000000 in
theorem mX8_keep {l : Launch} {E : Ev} {S : List Sh} {mm : Mm} {x0 : Nat} {r : Int32 × Mm} (h : fX8_keep S mm x0 = some r) : Ml l E S yX8_keep cX8_keep 1 (some .int) 1 24 [.ref (E.2.2 x0)] mm (some (.int r.1)) r.2 := by
  refine Ml.of (by decide +kernel) (Nat.le_of_ble_eq_true rfl) (fun G C hQ => ?_)
  have C : Cx G E cX8_keep 1 RX8 (some .int) 1 24 := C
  unfold fX8_keep at h
  obtain ⟨g0, h⟩ := gd_some h
  show WM G l E S 0 [(0, .ref (E.2.2 x0))] [] mm
  refine x_aload_n C (dq DX8_keep 0 rfl) rfl 0 rfl ?_
  refine x_iconst (v := 0) C (dq DX8_keep 1 rfl) (by decide) ?_
  refine putX8_115 C (dq DX8_keep 2 rfl) g0 h (fun m1 h => ?_)
  refine x_aload_n C (dq DX8_keep 3 rfl) rfl 0 rfl ?_
  refine x_pc 6 rfl ?_
  refine getX8_57 C (dq DX8_keep 4 rfl) g0 ?_
  refine x_iconst (v := 0) C (dq DX8_keep 5 rfl) (by decide) ?_
  refine x_aload_n C (dq DX8_keep 6 rfl) rfl 0 rfl ?_
  refine getX8_66 C (dq DX8_keep 7 rfl) g0 ?_
  refine x_iconst (v := 0) C (dq DX8_keep 8 rfl) (by decide) ?_
  refine x_pc 15 rfl ?_
  refine callX8_254 C (dq DX8_keep 9 rfl) h (by decide) (by decide) (Nat.le_of_ble_eq_true rfl) (fun m2 h => ?_)
  refine x_aload_n C (dq DX8_keep 10 rfl) rfl 0 rfl ?_
  refine x_iconst (v := 1) C (dq DX8_keep 11 rfl) (by decide) ?_
  refine putX8_244 C (dq DX8_keep 12 rfl) g0 (Or.inr rfl) h (fun m3 h => ?_)
  refine x_aload_n C (dq DX8_keep 13 rfl) rfl 0 rfl ?_
  refine x_pc 24 rfl ?_
  refine getX8_57 C (dq DX8_keep 14 rfl) g0 ?_
  refine x_sipush (v := 336) C (dq DX8_keep 15 rfl) (by decide) ?_
  refine x_iald C (dq DX8_keep 16 rfl) h (fun a4 h => ?_)
  cases h
  exact x_iret C (dq DX8_keep 17 rfl) hQ
set_option maxHeartbeats 1000000 in
theorem qX8_keep {S : List Sh} {mm : Mm} {x0 : Nat} {r : Int32 × Mm} (h : fX8_keep S mm x0 = some r) : isC S x0 8 := by
  unfold fX8_keep at h
  exact (gd_some h).1
theorem getX8_244 {G : Gt} {l : Launch} {E : Ev} {S : List Sh} {cc : ByteArray} {nL : Nat} {rt : Option FieldType} {fr lo : Nat} {pc : Nat} {lv : List (Nat × Value)} {st : List Value} {mm : Mm} {o : Nat} (C : Cx G E cc nL RX8 rt fr lo) (d : decode cc pc = .ok (.getfield 244, 3)) (hg : isC S o 8) (k : WM G l E S (pc + 3) lv (.int (mm.1 o 32) :: st) mm) : WM G l E S pc lv (.ref (E.2.2 o) :: st) mm := x_get0 C hg (T := TX8) (N := 49) rfl inX8 (by decide) (i := 32) (gmem 897 (by decide +kernel) rfl) rfl rfl d k
abbrev eX8_back : List (Nat × Instr × Nat) := [(0, .aload_n 0, 1), (1, .iconst 0, 1), (2, .putfield 115, 3), (5, .aload_n 0, 1), (6, .getfield 244, 3), (9, .ifCond .ne 5, 3), (12, .iconst (-1), 1), (13, .ireturn, 1), (14, .aload_n 0, 1), (15, .getfield 66, 3), (18, .iconst 0, 1), (19, .aload_n 0, 1), (20, .getfield 57, 3), (23, .iconst 0, 1), (24, .invokestatic 254, 3), (27, .aload_n 0, 1), (28, .iconst 0, 1), (29, .putfield 241, 3), (32, .aload_n 0, 1), (33, .getfield 57, 3), (36, .sipush 336, 3), (39, .iaload, 1), (40, .ireturn, 1)]
theorem DX8_back : (eX8_back.all fun q => decide (decode cX8_back q.1 = .ok q.2)) = true := by decide +kernel
def fX8_back (S : List Sh) (mm : Mm) (x0 : Nat) : Option (Int32 × Mm) := gd S x0 8 (bd1 (some (u1 mm x0 0 0)) fun m1 => if ¬ (m1.1 x0 32) = 0 then (bd1 (fX8_copies S m1 (rf S m1 x0 29) 0 (rf S m1 x0 26) 0) fun m2 => bd1 (some (u1 m2 x0 31 0)) fun m3 => bd1 (ldA S 0 m3 (rf S m3 x0 26) 336) fun a4 => some (a4, m3)) else (some ((-1), m1)))
set_option maxHeartbeats 1000000 in
theorem mX8_back {l : Launch} {E : Ev} {S : List Sh} {mm : Mm} {x0 : Nat} {r : Int32 × Mm} (h : fX8_back S mm x0 = some r) : Ml l E S yX8_back cX8_back 1 (some .int) 1 24 [.ref (E.2.2 x0)] mm (some (.int r.1)) r.2 := by
  refine Ml.of (by decide +kernel) (Nat.le_of_ble_eq_true rfl) (fun G C hQ => ?_)
  have C : Cx G E cX8_back 1 RX8 (some .int) 1 24 := C
  unfold fX8_back at h
  obtain ⟨g0, h⟩ := gd_some h
  show WM G l E S 0 [(0, .ref (E.2.2 x0))] [] mm
  refine x_aload_n C (dq DX8_back 0 rfl) rfl 0 rfl ?_
  refine x_iconst (v := 0) C (dq DX8_back 1 rfl) (by decide) ?_
  refine putX8_115 C (dq DX8_back 2 rfl) g0 h (fun m1 h => ?_)
  refine x_aload_n C (dq DX8_back 3 rfl) rfl 0 rfl ?_
  refine x_pc 6 rfl ?_
  refine getX8_244 C (dq DX8_back 4 rfl) g0 ?_
  refine x_if_ne (tgt := 14) C (dq DX8_back 5 rfl) (by decide) h (fun h => ?_) (fun h => ?_)
  · refine x_aload_n C (dq DX8_back 8 rfl) rfl 0 rfl ?_
    refine getX8_66 C (dq DX8_back 9 rfl) g0 ?_
    refine x_iconst (v := 0) C (dq DX8_back 10 rfl) (by decide) ?_
    refine x_pc 19 rfl ?_
    refine x_aload_n C (dq DX8_back 11 rfl) rfl 0 rfl ?_
    refine getX8_57 C (dq DX8_back 12 rfl) g0 ?_
    refine x_iconst (v := 0) C (dq DX8_back 13 rfl) (by decide) ?_
    refine callX8_254 C (dq DX8_back 14 rfl) h (by decide) (by decide) (Nat.le_of_ble_eq_true rfl) (fun m2 h => ?_)
    refine x_aload_n C (dq DX8_back 15 rfl) rfl 0 rfl ?_
    refine x_pc 28 rfl ?_
    refine x_iconst (v := 0) C (dq DX8_back 16 rfl) (by decide) ?_
    refine putX8_241 C (dq DX8_back 17 rfl) g0 h (fun m3 h => ?_)
    refine x_aload_n C (dq DX8_back 18 rfl) rfl 0 rfl ?_
    refine getX8_57 C (dq DX8_back 19 rfl) g0 ?_
    refine x_sipush (v := 336) C (dq DX8_back 20 rfl) (by decide) ?_
    refine x_pc 39 rfl ?_
    refine x_iald C (dq DX8_back 21 rfl) h (fun a4 h => ?_)
    cases h
    exact x_iret C (dq DX8_back 22 rfl) hQ
  · refine x_iconst (v := (-1)) C (dq DX8_back 6 rfl) (by decide) ?_
    cases h
    exact x_iret C (dq DX8_back 7 rfl) hQ
set_option maxHeartbeats 1000000 in
theorem qX8_back {S : List Sh} {mm : Mm} {x0 : Nat} {r : Int32 × Mm} (h : fX8_back S mm x0 = some r) : isC S x0 8 := by
  unfold fX8_back at h
  exact (gd_some h).1
abbrev eX8_flowAt : List (Nat × Instr × Nat) := [(0, .sipush 240, 3), (3, .bipush 12, 2), (5, .iload_n 0, 1), (6, .imul, 1), (7, .iadd, 1), (8, .ireturn, 1)]
theorem DX8_flowAt : (eX8_flowAt.all fun q => decide (decode cX8_flowAt q.1 = .ok q.2)) = true := by decide +kernel
def fX8_flowAt (S : List Sh) (mm : Mm) (x0 : Int32) : Option (Int32) := some (240 + (12 * x0))
set_option maxHeartbeats 1000000 in
theorem mX8_flowAt {l : Launch} {E : Ev} {S : List Sh} {mm : Mm} {x0 : Int32} {r : Int32} (h : fX8_flowAt S mm x0 = some r) : Ml l E S yX8_flowAt cX8_flowAt 1 (some .int) 0 0 [.int x0] mm (some (.int r)) mm := by
  refine Ml.of (by decide +kernel) (Nat.le_of_ble_eq_true rfl) (fun G C hQ => ?_)
  have C : Cx G E cX8_flowAt 1 RX8 (some .int) 0 0 := C
  unfold fX8_flowAt at h
  show WM G l E S 0 [(0, .int x0)] [] mm
  refine x_sipush (v := 240) C (dq DX8_flowAt 0 rfl) (by decide) ?_
  refine x_bipush (v := 12) C (dq DX8_flowAt 1 rfl) (by decide) ?_
  refine x_iload_n C (dq DX8_flowAt 2 rfl) rfl 0 rfl ?_
  refine x_imul C (dq DX8_flowAt 3 rfl) ?_
  refine x_pc 7 rfl ?_
  refine x_iadd C (dq DX8_flowAt 4 rfl) ?_
  cases h
  exact x_iret C (dq DX8_flowAt 5 rfl) hQ
abbrev eX8_queueOf : List (Nat × Instr × Nat) := [(0, .iconst 0, 1), (1, .istore_n 2, 1), (2, .iconst 0, 1), (3, .istore_n 3, 1), (4, .iload_n 3, 1), (5, .bipush 8, 2), (7, .if_icmp .ge 26, 3), (10, .iload_n 2, 1), (11, .aload_n 0, 1), (12, .getfield 57, 3), (15, .bipush 24, 2), (17, .iload_n 1, 1), (18, .imul, 1), (19, .bipush 15, 2), (21, .iadd, 1), (22, .iload_n 3, 1), (23, .iadd, 1), (24, .iaload, 1), (25, .iadd, 1), (26, .istore_n 2, 1), (27, .iinc 3 1, 3), (30, .goto (-26), 3), (33, .iload_n 2, 1), (34, .ireturn, 1)]
theorem DX8_queueOf : (eX8_queueOf.all fun q => decide (decode cX8_queueOf q.1 = .ok q.2)) = true := by decide +kernel
def bX8_queueOf_4 (S : List Sh) (mm : Mm) (x0 : Nat) (x1 : Int32) (x2 : Int32) (x3 : Int32) : Option ((Int32 × Int32) ⊕ (Int32)) := if 8 ≤ x3 then (some (.inr (x2))) else (bd1 (ldA S 0 mm (rf S mm x0 26) (((24 * x1) + 15) + x3)) fun a1 => some (.inl ((x2 + a1), x3 + 1)))
def fX8_queueOf (S : List Sh) (mm : Mm) (x0 : Nat) (x1 : Int32) : Option (Int32) := gd S x0 8 (bd1 (lp (fun s2 => bX8_queueOf_4 S mm x0 x1 s2.1 s2.2) fu (0, 0)) fun y3 => some y3)
set_option maxHeartbeats 1000000 in
theorem tX8_queueOf_4 {G : Gt} {l : Launch} {E : Ev} {S : List Sh} {mm : Mm} {x0 : Nat} {x1 : Int32} {x2 : Int32} {x3 : Int32} {r : (Int32 × Int32) ⊕ (Int32)} (C : Cx G E cX8_queueOf 4 RX8 (some .int) 0 0) (g0 : isC S x0 8) (h : bX8_queueOf_4 S mm x0 x1 x2 x3 = some r) (kb : ∀ z : Int32 × Int32, r = .inl z → WM G l E S 4 [(0, .ref (E.2.2 x0)), (1, .int x1), (2, .int z.1), (3, .int z.2)] [] mm) (kx : ∀ z : Int32, r = .inr z → WM G l E S 33 [(0, .ref (E.2.2 x0)), (1, .int x1), (2, .int z)] [] mm) : WM G l E S 4 [(0, .ref (E.2.2 x0)), (1, .int x1), (2, .int x2), (3, .int x3)] [] mm := by
  unfold bX8_queueOf_4 at h
  refine x_iload_n C (dq DX8_queueOf 4 rfl) rfl 3 rfl ?_
  refine x_bipush (v := 8) C (dq DX8_queueOf 5 rfl) (by decide) ?_
  refine x_icmp_ge (tgt := 33) C (dq DX8_queueOf 6 rfl) (by decide) h (fun h => ?_) (fun h => ?_)
  · cases h
    exact x_lv [0, 1, 2] rfl (kx (x2) rfl)
  · refine x_iload_n C (dq DX8_queueOf 7 rfl) rfl 2 rfl ?_
    refine x_pc 11 rfl ?_
    refine x_aload_n C (dq DX8_queueOf 8 rfl) rfl 0 rfl ?_
    refine getX8_57 C (dq DX8_queueOf 9 rfl) g0 ?_
    refine x_bipush (v := 24) C (dq DX8_queueOf 10 rfl) (by decide) ?_
    refine x_iload_n C (dq DX8_queueOf 11 rfl) rfl 1 rfl ?_
    refine x_imul C (dq DX8_queueOf 12 rfl) ?_
    refine x_pc 19 rfl ?_
    refine x_bipush (v := 15) C (dq DX8_queueOf 13 rfl) (by decide) ?_
    refine x_iadd C (dq DX8_queueOf 14 rfl) ?_
    refine x_iload_n C (dq DX8_queueOf 15 rfl) rfl 3 rfl ?_
    refine x_iadd C (dq DX8_queueOf 16 rfl) ?_
    refine x_iald C (dq DX8_queueOf 17 rfl) h (fun a1 h => ?_)
    refine x_pc 25 rfl ?_
    refine x_iadd C (dq DX8_queueOf 18 rfl) ?_
    refine x_istore_n (lv' := [(2, .int (x2 + a1)), (0, .ref (E.2.2 x0)), (1, .int x1), (3, .int x3)]) C (dq DX8_queueOf 19 rfl) rfl (by decide) rfl ?_
    refine x_iinc (v := x3 + 1) (lv' := [(3, .int (x3 + 1)), (2, .int (x2 + a1)), (0, .ref (E.2.2 x0)), (1, .int x1)]) C (dq DX8_queueOf 20 rfl) 3 rfl rfl (by decide) rfl ?_
    refine x_goto (tgt := 4) C (dq DX8_queueOf 21 rfl) (by decide) ?_
    cases h
    exact x_lv [2, 3, 1, 0] rfl (kb ((x2 + a1), x3 + 1) rfl)
set_option maxHeartbeats 1000000 in
theorem mX8_queueOf {l : Launch} {E : Ev} {S : List Sh} {mm : Mm} {x0 : Nat} {x1 : Int32} {r : Int32} (h : fX8_queueOf S mm x0 x1 = some r) : Ml l E S yX8_queueOf cX8_queueOf 4 (some .int) 0 0 [.ref (E.2.2 x0), .int x1] mm (some (.int r)) mm := by
  refine Ml.of (by decide +kernel) (Nat.le_of_ble_eq_true rfl) (fun G C hQ => ?_)
  have C : Cx G E cX8_queueOf 4 RX8 (some .int) 0 0 := C
  unfold fX8_queueOf at h
  obtain ⟨g0, h⟩ := gd_some h
  show WM G l E S 0 [(0, .ref (E.2.2 x0)), (1, .int x1)] [] mm
  refine x_iconst (v := 0) C (dq DX8_queueOf 0 rfl) (by decide) ?_
  refine x_istore_n (lv' := [(2, .int 0), (0, .ref (E.2.2 x0)), (1, .int x1)]) C (dq DX8_queueOf 1 rfl) rfl (by decide) rfl ?_
  refine x_iconst (v := 0) C (dq DX8_queueOf 2 rfl) (by decide) ?_
  refine x_istore_n (lv' := [(3, .int 0), (2, .int 0), (0, .ref (E.2.2 x0)), (1, .int x1)]) C (dq DX8_queueOf 3 rfl) rfl (by decide) rfl ?_
  refine x_lv [2, 3, 1, 0] rfl ?_
  refine x_loop (s0 := (0, 0)) (fun s2 => WM G l E S 4 [(0, .ref (E.2.2 x0)), (1, .int x1), (2, .int s2.1), (3, .int s2.2)] [] mm) h (fun s2 r hb kb kx => tX8_queueOf_4 C g0 hb kb (fun y3 hy => ?_))
  have h := kx y3 hy
  clear kx kb hb hy
  refine x_pc 33 rfl ?_
  refine x_iload_n C (dq DX8_queueOf 22 rfl) rfl 2 rfl ?_
  cases h
  exact x_iret C (dq DX8_queueOf 23 rfl) hQ
set_option maxHeartbeats 1000000 in
theorem qX8_queueOf {S : List Sh} {mm : Mm} {x0 : Nat} {x1 : Int32} {r : Int32} (h : fX8_queueOf S mm x0 x1 = some r) : isC S x0 8 := by
  unfold fX8_queueOf at h
  exact (gd_some h).1
theorem callX8_258 {G : Gt} {l : Launch} {E : Ev} {S : List Sh} {cc : ByteArray} {nL : Nat} {rt : Option FieldType} {fr lo : Nat} {pc : Nat} {lv : List (Nat × Value)} {rest : List Value} {mm : Mm} {α : Type} {f : Int32 → Option α} {r : α} {a0 : Int32} (C : Cx G E cc nL RX8 rt fr lo) (d : decode cc pc = .ok (.invokestatic 258, 3)) (h : bd1 (fX8_flowAt S mm a0) f = some r) (hfr : 1 ≤ fr) (hlo : 20 ≤ lo) (hrs : (rest.map fun v => v.category).sum ≤ 8) (k : ∀ v, f v = some r → WM G l E S (pc + 3) lv (.int v :: rest) mm) : WM G l E S pc lv (.int a0 :: rest) mm := by
  obtain ⟨v, hv, hf⟩ := bd1_some h
  exact x_callS (n := 1) (As := [.int a0]) (rest := rest) C (mX8_flowAt hv) (gmem 1196 (by decide +kernel) rfl) (gmem 1197 (by decide +kernel) rfl) (gmem 9 (by decide +kernel) rfl) (gmem 1198 (by decide +kernel) rfl) (by decide +kernel) rfl hfr hlo hrs d rfl rfl (k v hf)
abbrev eX8_isOn : List (Nat × Instr × Nat) := [(0, .aload_n 0, 1), (1, .getfield 57, 3), (4, .iload_n 1, 1), (5, .invokestatic 258, 3), (8, .bipush 7, 2), (10, .iadd, 1), (11, .iaload, 1), (12, .iconst 1, 1), (13, .if_icmp .ne 7, 3), (16, .iconst 1, 1), (17, .goto 4, 3), (20, .iconst 0, 1), (21, .ireturn, 1)]
theorem DX8_isOn : (eX8_isOn.all fun q => decide (decode cX8_isOn q.1 = .ok q.2)) = true := by decide +kernel
def jX8_isOn_21 (S : List Sh) (mm : Mm) (x0 : Nat) (p0 : Int32) : Option (Int32) := bd1 (okZ p0) fun _ => some p0
def fX8_isOn (S : List Sh) (mm : Mm) (x0 : Nat) (x1 : Int32) : Option (Int32) := gd S x0 8 (bd1 (fX8_flowAt S mm x1) fun a1 => bd1 (ldA S 0 mm (rf S mm x0 26) (a1 + 7)) fun a2 => if ¬ a2 = 1 then (jX8_isOn_21 S mm x0 0) else (jX8_isOn_21 S mm x0 1))
set_option maxHeartbeats 1000000 in
theorem tX8_isOn_21 {G : Gt} {l : Launch} {E : Ev} {S : List Sh} {mm : Mm} {x0 : Nat} {p0 : Int32} {r : Int32} (C : Cx G E cX8_isOn 2 RX8 (some .boolean) 1 20) (g0 : isC S x0 8) (h : jX8_isOn_21 S mm x0 p0 = some r) (hQ : RQ G E S (some (.int r)) mm) : WM G l E S 21 [(0, .ref (E.2.2 x0))] [.int p0] mm := by
  unfold jX8_isOn_21 at h
  refine x_zret C (dq DX8_isOn 12 rfl) h (fun h => ?_)
  cases h
  exact hQ
set_option maxHeartbeats 1000000 in
theorem mX8_isOn {l : Launch} {E : Ev} {S : List Sh} {mm : Mm} {x0 : Nat} {x1 : Int32} {r : Int32} (h : fX8_isOn S mm x0 x1 = some r) : Ml l E S yX8_isOn cX8_isOn 2 (some .boolean) 1 20 [.ref (E.2.2 x0), .int x1] mm (some (.int r)) mm := by
  refine Ml.of (by decide +kernel) (Nat.le_of_ble_eq_true rfl) (fun G C hQ => ?_)
  have C : Cx G E cX8_isOn 2 RX8 (some .boolean) 1 20 := C
  unfold fX8_isOn at h
  obtain ⟨g0, h⟩ := gd_some h
  show WM G l E S 0 [(0, .ref (E.2.2 x0)), (1, .int x1)] [] mm
  refine x_aload_n C (dq DX8_isOn 0 rfl) rfl 0 rfl ?_
  refine getX8_57 C (dq DX8_isOn 1 rfl) g0 ?_
  refine x_iload_n C (dq DX8_isOn 2 rfl) rfl 1 rfl ?_
  refine callX8_258 C (dq DX8_isOn 3 rfl) h (by decide) (by decide) (Nat.le_of_ble_eq_true rfl) (fun a1 h => ?_)
  refine x_pc 8 rfl ?_
  refine x_bipush (v := 7) C (dq DX8_isOn 4 rfl) (by decide) ?_
  refine x_iadd C (dq DX8_isOn 5 rfl) ?_
  refine x_iald C (dq DX8_isOn 6 rfl) h (fun a2 h => ?_)
  refine x_iconst (v := 1) C (dq DX8_isOn 7 rfl) (by decide) ?_
  refine x_icmp_ne (tgt := 20) C (dq DX8_isOn 8 rfl) (by decide) h (fun h => ?_) (fun h => ?_)
  · refine x_pc 20 rfl ?_
    refine x_iconst (v := 0) C (dq DX8_isOn 11 rfl) (by decide) ?_
    exact x_lv [0] rfl (tX8_isOn_21 C g0 h hQ)
  · refine x_pc 16 rfl ?_
    refine x_iconst (v := 1) C (dq DX8_isOn 9 rfl) (by decide) ?_
    refine x_goto (tgt := 21) C (dq DX8_isOn 10 rfl) (by decide) ?_
    exact x_lv [0] rfl (tX8_isOn_21 C g0 h hQ)
set_option maxHeartbeats 1000000 in
theorem qX8_isOn {S : List Sh} {mm : Mm} {x0 : Nat} {x1 : Int32} {r : Int32} (h : fX8_isOn S mm x0 x1 = some r) : isC S x0 8 := by
  unfold fX8_isOn at h
  exact (gd_some h).1
abbrev eX8_asked : List (Nat × Instr × Nat) := [(0, .aload_n 0, 1), (1, .getfield 57, 3), (4, .bipush 24, 2), (6, .iload_n 1, 1), (7, .imul, 1), (8, .bipush 10, 2), (10, .iadd, 1), (11, .iaload, 1), (12, .iconst 1, 1), (13, .if_icmp .ne 7, 3), (16, .iconst 1, 1), (17, .goto 4, 3), (20, .iconst 0, 1), (21, .ireturn, 1)]
theorem DX8_asked : (eX8_asked.all fun q => decide (decode cX8_asked q.1 = .ok q.2)) = true := by decide +kernel
def jX8_asked_21 (S : List Sh) (mm : Mm) (x0 : Nat) (p0 : Int32) : Option (Int32) := bd1 (okZ p0) fun _ => some p0
def fX8_asked (S : List Sh) (mm : Mm) (x0 : Nat) (x1 : Int32) : Option (Int32) := gd S x0 8 (bd1 (ldA S 0 mm (rf S mm x0 26) ((24 * x1) + 10)) fun a1 => if ¬ a1 = 1 then (jX8_asked_21 S mm x0 0) else (jX8_asked_21 S mm x0 1))
set_option maxHeartbeats 1000000 in
theorem tX8_asked_21 {G : Gt} {l : Launch} {E : Ev} {S : List Sh} {mm : Mm} {x0 : Nat} {p0 : Int32} {r : Int32} (C : Cx G E cX8_asked 2 RX8 (some .boolean) 0 0) (g0 : isC S x0 8) (h : jX8_asked_21 S mm x0 p0 = some r) (hQ : RQ G E S (some (.int r)) mm) : WM G l E S 21 [(0, .ref (E.2.2 x0))] [.int p0] mm := by
  unfold jX8_asked_21 at h
  refine x_zret C (dq DX8_asked 13 rfl) h (fun h => ?_)
  cases h
  exact hQ
set_option maxHeartbeats 1000000 in
theorem mX8_asked {l : Launch} {E : Ev} {S : List Sh} {mm : Mm} {x0 : Nat} {x1 : Int32} {r : Int32} (h : fX8_asked S mm x0 x1 = some r) : Ml l E S yX8_asked cX8_asked 2 (some .boolean) 0 0 [.ref (E.2.2 x0), .int x1] mm (some (.int r)) mm := by
  refine Ml.of (by decide +kernel) (Nat.le_of_ble_eq_true rfl) (fun G C hQ => ?_)
  have C : Cx G E cX8_asked 2 RX8 (some .boolean) 0 0 := C
  unfold fX8_asked at h
  obtain ⟨g0, h⟩ := gd_some h
  show WM G l E S 0 [(0, .ref (E.2.2 x0)), (1, .int x1)] [] mm
  refine x_aload_n C (dq DX8_asked 0 rfl) rfl 0 rfl ?_
  refine getX8_57 C (dq DX8_asked 1 rfl) g0 ?_
  refine x_bipush (v := 24) C (dq DX8_asked 2 rfl) (by decide) ?_
  refine x_iload_n C (dq DX8_asked 3 rfl) rfl 1 rfl ?_
  refine x_pc 7 rfl ?_
  refine x_imul C (dq DX8_asked 4 rfl) ?_
  refine x_bipush (v := 10) C (dq DX8_asked 5 rfl) (by decide) ?_
  refine x_iadd C (dq DX8_asked 6 rfl) ?_
  refine x_iald C (dq DX8_asked 7 rfl) h (fun a1 h => ?_)
  refine x_iconst (v := 1) C (dq DX8_asked 8 rfl) (by decide) ?_
  refine x_pc 13 rfl ?_
  refine x_icmp_ne (tgt := 20) C (dq DX8_asked 9 rfl) (by decide) h (fun h => ?_) (fun h => ?_)
  · refine x_iconst (v := 0) C (dq DX8_asked 12 rfl) (by decide) ?_
    exact x_lv [0] rfl (tX8_asked_21 C g0 h hQ)
  · refine x_iconst (v := 1) C (dq DX8_asked 10 rfl) (by decide) ?_
    refine x_goto (tgt := 21) C (dq DX8_asked 11 rfl) (by decide) ?_
    exact x_lv [0] rfl (tX8_asked_21 C g0 h hQ)
set_option maxHeartbeats 1000000 in
theorem qX8_asked {S : List Sh} {mm : Mm} {x0 : Nat} {x1 : Int32} {r : Int32} (h : fX8_asked S mm x0 x1 = some r) : isC S x0 8 := by
  unfold fX8_asked at h
  exact (gd_some h).1
abbrev eX8_hopOf : List (Nat × Instr × Nat) := [(0, .iconst 0, 1), (1, .istore_n 3, 1), (2, .iload_n 3, 1), (3, .aload_n 0, 1), (4, .getfield 47, 3), (7, .iload_n 1, 1), (8, .iaload, 1), (9, .if_icmp .ge 25, 3), (12, .aload_n 0, 1), (13, .getfield 50, 3), (16, .iconst 5, 1), (17, .iload_n 1, 1), (18, .imul, 1), (19, .iload_n 3, 1), (20, .iadd, 1), (21, .iaload, 1), (22, .iload_n 2, 1), (23, .if_icmp .ne 5, 3), (26, .iload_n 3, 1), (27, .ireturn, 1), (28, .iinc 3 1, 3), (31, .goto (-29), 3), (34, .iconst (-1), 1), (35, .ireturn, 1)]
theorem DX8_hopOf : (eX8_hopOf.all fun q => decide (decode cX8_hopOf q.1 = .ok q.2)) = true := by decide +kernel
def bX8_hopOf_2 (S : List Sh) (mm : Mm) (x0 : Nat) (x1 : Int32) (x2 : Int32) (x3 : Int32) : Option ((Int32) ⊕ ((Int32) ⊕ (Unit))) := bd1 (ldA S 0 mm (rf S mm x0 14) x1) fun a1 => if a1 ≤ x3 then (some (.inr (.inr ()))) else (bd1 (ldA S 0 mm (rf S mm x0 15) ((5 * x1) + x3)) fun a2 => if ¬ a2 = x2 then (some (.inl (x3 + 1))) else (some (.inr (.inl x3))))
def fX8_hopOf (S : List Sh) (mm : Mm) (x0 : Nat) (x1 : Int32) (x2 : Int32) : Option (Int32) := gd S x0 8 (bdR (lp (fun s3 => bX8_hopOf_2 S mm x0 x1 x2 s3) fu 0) (fun a5 => some a5) fun y4 => some (-1))
set_option maxHeartbeats 1000000 in
theorem tX8_hopOf_2 {G : Gt} {l : Launch} {E : Ev} {S : List Sh} {mm : Mm} {x0 : Nat} {x1 : Int32} {x2 : Int32} {x3 : Int32} {r : (Int32) ⊕ ((Int32) ⊕ (Unit))} (C : Cx G E cX8_hopOf 4 RX8 (some .int) 0 0) (g0 : isC S x0 8) (h : bX8_hopOf_2 S mm x0 x1 x2 x3 = some r) (kb : ∀ z : Int32, r = .inl z → WM G l E S 2 [(0, .ref (E.2.2 x0)), (1, .int x1), (2, .int x2), (3, .int z)] [] mm) (kr : ∀ z : Int32, r = .inr (.inl z) → RQ G E S (some (.int z)) mm) (kx : ∀ z : Unit, r = .inr (.inr z) → WM G l E S 34 [(0, .ref (E.2.2 x0)), (1, .int x1), (2, .int x2)] [] mm) : WM G l E S 2 [(0, .ref (E.2.2 x0)), (1, .int x1), (2, .int x2), (3, .int x3)] [] mm := by
  unfold bX8_hopOf_2 at h
  refine x_iload_n C (dq DX8_hopOf 2 rfl) rfl 3 rfl ?_
  refine x_aload_n C (dq DX8_hopOf 3 rfl) rfl 0 rfl ?_
  refine getX8_47 C (dq DX8_hopOf 4 rfl) g0 ?_
  refine x_iload_n C (dq DX8_hopOf 5 rfl) rfl 1 rfl ?_
  refine x_pc 8 rfl ?_
  refine x_iald C (dq DX8_hopOf 6 rfl) h (fun a1 h => ?_)
  refine x_icmp_ge (tgt := 34) C (dq DX8_hopOf 7 rfl) (by decide) h (fun h => ?_) (fun h => ?_)
  · cases h
    exact x_lv [0, 1, 2] rfl (kx () rfl)
  · refine x_aload_n C (dq DX8_hopOf 8 rfl) rfl 0 rfl ?_
    refine getX8_50 C (dq DX8_hopOf 9 rfl) g0 ?_
    refine x_iconst (v := 5) C (dq DX8_hopOf 10 rfl) (by decide) ?_
    refine x_pc 17 rfl ?_
    refine x_iload_n C (dq DX8_hopOf 11 rfl) rfl 1 rfl ?_
    refine x_imul C (dq DX8_hopOf 12 rfl) ?_
    refine x_iload_n C (dq DX8_hopOf 13 rfl) rfl 3 rfl ?_
    refine x_iadd C (dq DX8_hopOf 14 rfl) ?_
    refine x_iald C (dq DX8_hopOf 15 rfl) h (fun a2 h => ?_)
    refine x_pc 22 rfl ?_
    refine x_iload_n C (dq DX8_hopOf 16 rfl) rfl 2 rfl ?_
    refine x_icmp_ne (tgt := 28) C (dq DX8_hopOf 17 rfl) (by decide) h (fun h => ?_) (fun h => ?_)
    · refine x_iinc (v := x3 + 1) (lv' := [(3, .int (x3 + 1)), (0, .ref (E.2.2 x0)), (1, .int x1), (2, .int x2)]) C (dq DX8_hopOf 20 rfl) 3 rfl rfl (by decide) rfl ?_
      refine x_goto (tgt := 2) C (dq DX8_hopOf 21 rfl) (by decide) ?_
      cases h
      exact x_lv [1, 2, 3, 0] rfl (kb (x3 + 1) rfl)
    · refine x_iload_n C (dq DX8_hopOf 18 rfl) rfl 3 rfl ?_
      cases h
      exact x_iret C (dq DX8_hopOf 19 rfl) (kr x3 rfl)
set_option maxHeartbeats 1000000 in
theorem mX8_hopOf {l : Launch} {E : Ev} {S : List Sh} {mm : Mm} {x0 : Nat} {x1 : Int32} {x2 : Int32} {r : Int32} (h : fX8_hopOf S mm x0 x1 x2 = some r) : Ml l E S yX8_hopOf cX8_hopOf 4 (some .int) 0 0 [.ref (E.2.2 x0), .int x1, .int x2] mm (some (.int r)) mm := by
  refine Ml.of (by decide +kernel) (Nat.le_of_ble_eq_true rfl) (fun G C hQ => ?_)
  have C : Cx G E cX8_hopOf 4 RX8 (some .int) 0 0 := C
  unfold fX8_hopOf at h
  obtain ⟨g0, h⟩ := gd_some h
  show WM G l E S 0 [(0, .ref (E.2.2 x0)), (1, .int x1), (2, .int x2)] [] mm
  refine x_iconst (v := 0) C (dq DX8_hopOf 0 rfl) (by decide) ?_
  refine x_istore_n (lv' := [(3, .int 0), (0, .ref (E.2.2 x0)), (1, .int x1), (2, .int x2)]) C (dq DX8_hopOf 1 rfl) rfl (by decide) rfl ?_
  refine x_lv [1, 2, 3, 0] rfl ?_
  refine x_loopR (s0 := 0) (fun s3 => WM G l E S 2 [(0, .ref (E.2.2 x0)), (1, .int x1), (2, .int x2), (3, .int s3)] [] mm) h (fun s3 r hb kb kg kx => tX8_hopOf_2 C g0 hb kb (fun a5 ha => ?_) (fun y4 hy => ?_))
  · have h := kg a5 ha
    cases h
    exact hQ
  · have h := kx y4 hy
    clear kx kb hb hy kg
    refine x_iconst (v := (-1)) C (dq DX8_hopOf 22 rfl) (by decide) ?_
    cases h
    exact x_iret C (dq DX8_hopOf 23 rfl) hQ
set_option maxHeartbeats 1000000 in
theorem qX8_hopOf {S : List Sh} {mm : Mm} {x0 : Nat} {x1 : Int32} {x2 : Int32} {r : Int32} (h : fX8_hopOf S mm x0 x1 x2 = some r) : isC S x0 8 := by
  unfold fX8_hopOf at h
  exact (gd_some h).1
abbrev eX8_within : List (Nat × Instr × Nat) := [(0, .iload_n 0, 1), (1, .iload_n 1, 1), (2, .if_icmp .ge 7, 3), (5, .iload_n 1, 1), (6, .goto 13, 3), (9, .iload_n 0, 1), (10, .iload_n 2, 1), (11, .if_icmp .le 7, 3), (14, .iload_n 2, 1), (15, .goto 4, 3), (18, .iload_n 0, 1), (19, .ireturn, 1)]
theorem DX8_within : (eX8_within.all fun q => decide (decode cX8_within q.1 = .ok q.2)) = true := by decide +kernel
def jX8_within_19 (S : List Sh) (mm : Mm)  (p0 : Int32) : Option (Int32) := some p0
def fX8_within (S : List Sh) (mm : Mm) (x0 : Int32) (x1 : Int32) (x2 : Int32) : Option (Int32) := if x1 ≤ x0 then (if x0 ≤ x2 then (jX8_within_19 S mm x0) else (jX8_within_19 S mm x2)) else (jX8_within_19 S mm x1)
set_option maxHeartbeats 1000000 in
theorem tX8_within_19 {G : Gt} {l : Launch} {E : Ev} {S : List Sh} {mm : Mm}  {p0 : Int32} {r : Int32} (C : Cx G E cX8_within 3 RX8 (some .int) 0 0)  (h : jX8_within_19 S mm p0 = some r) (hQ : RQ G E S (some (.int r)) mm) : WM G l E S 19 [] [.int p0] mm := by
  unfold jX8_within_19 at h
  cases h
  exact x_iret C (dq DX8_within 11 rfl) hQ
set_option maxHeartbeats 1000000 in
theorem mX8_within {l : Launch} {E : Ev} {S : List Sh} {mm : Mm} {x0 : Int32} {x1 : Int32} {x2 : Int32} {r : Int32} (h : fX8_within S mm x0 x1 x2 = some r) : Ml l E S yX8_within cX8_within 3 (some .int) 0 0 [.int x0, .int x1, .int x2] mm (some (.int r)) mm := by
  refine Ml.of (by decide +kernel) (Nat.le_of_ble_eq_true rfl) (fun G C hQ => ?_)
  have C : Cx G E cX8_within 3 RX8 (some .int) 0 0 := C
  unfold fX8_within at h
  show WM G l E S 0 [(0, .int x0), (1, .int x1), (2, .int x2)] [] mm
  refine x_iload_n C (dq DX8_within 0 rfl) rfl 0 rfl ?_
  refine x_iload_n C (dq DX8_within 1 rfl) rfl 1 rfl ?_
  refine x_icmp_ge (tgt := 9) C (dq DX8_within 2 rfl) (by decide) h (fun h => ?_) (fun h => ?_)
  · refine x_iload_n C (dq DX8_within 5 rfl) rfl 0 rfl ?_
    refine x_pc 10 rfl ?_
    refine x_iload_n C (dq DX8_within 6 rfl) rfl 2 rfl ?_
    refine x_icmp_le (tgt := 18) C (dq DX8_within 7 rfl) (by decide) h (fun h => ?_) (fun h => ?_)
    · refine x_iload_n C (dq DX8_within 10 rfl) rfl 0 rfl ?_
      exact x_lv [] rfl (tX8_within_19 C  h hQ)
    · refine x_iload_n C (dq DX8_within 8 rfl) rfl 2 rfl ?_
      refine x_goto (tgt := 19) C (dq DX8_within 9 rfl) (by decide) ?_
      exact x_lv [] rfl (tX8_within_19 C  h hQ)
  · refine x_iload_n C (dq DX8_within 3 rfl) rfl 1 rfl ?_
    refine x_pc 6 rfl ?_
    refine x_goto (tgt := 19) C (dq DX8_within 4 rfl) (by decide) ?_
    exact x_lv [] rfl (tX8_within_19 C  h hQ)
theorem getX8_72 {G : Gt} {l : Launch} {E : Ev} {S : List Sh} {cc : ByteArray} {nL : Nat} {rt : Option FieldType} {fr lo : Nat} {pc : Nat} {lv : List (Nat × Value)} {st : List Value} {mm : Mm} {o : Nat} (C : Cx G E cc nL RX8 rt fr lo) (d : decode cc pc = .ok (.getfield 72, 3)) (hg : isC S o 8) (k : WM G l E S (pc + 3) lv (.ref (E.2.2 (rf S mm o 33)) :: st) mm) : WM G l E S pc lv (.ref (E.2.2 o) :: st) mm := x_get2 C hg (T := TX8) (N := 49) rfl inX8 (by decide) (i := 33) (gmem 898 (by decide +kernel) rfl) rfl rfl d k
theorem getX8_75 {G : Gt} {l : Launch} {E : Ev} {S : List Sh} {cc : ByteArray} {nL : Nat} {rt : Option FieldType} {fr lo : Nat} {pc : Nat} {lv : List (Nat × Value)} {st : List Value} {mm : Mm} {o : Nat} (C : Cx G E cc nL RX8 rt fr lo) (d : decode cc pc = .ok (.getfield 75, 3)) (hg : isC S o 8) (k : WM G l E S (pc + 3) lv (.ref (E.2.2 (rf S mm o 34)) :: st) mm) : WM G l E S pc lv (.ref (E.2.2 o) :: st) mm := x_get2 C hg (T := TX8) (N := 49) rfl inX8 (by decide) (i := 34) (gmem 899 (by decide +kernel) rfl) rfl rfl d k
theorem getX8_78 {G : Gt} {l : Launch} {E : Ev} {S : List Sh} {cc : ByteArray} {nL : Nat} {rt : Option FieldType} {fr lo : Nat} {pc : Nat} {lv : List (Nat × Value)} {st : List Value} {mm : Mm} {o : Nat} (C : Cx G E cc nL RX8 rt fr lo) (d : decode cc pc = .ok (.getfield 78, 3)) (hg : isC S o 8) (k : WM G l E S (pc + 3) lv (.ref (E.2.2 (rf S mm o 35)) :: st) mm) : WM G l E S pc lv (.ref (E.2.2 o) :: st) mm := x_get2 C hg (T := TX8) (N := 49) rfl inX8 (by decide) (i := 35) (gmem 900 (by decide +kernel) rfl) rfl rfl d k
theorem callX8_261 {G : Gt} {l : Launch} {E : Ev} {S : List Sh} {cc : ByteArray} {nL : Nat} {rt : Option FieldType} {fr lo : Nat} {pc : Nat} {lv : List (Nat × Value)} {rest : List Value} {mm : Mm} {α : Type} {f : Int32 → Option α} {r : α} {o : Nat} {a0 : Int32} {a1 : Int32} (C : Cx G E cc nL RX8 rt fr lo) (d : decode cc pc = .ok (.invokevirtual 261, 3)) (h : bd1 (fX8_hopOf S mm o a0 a1) f = some r) (hfr : 1 ≤ fr) (hlo : 23 ≤ lo) (hrs : (rest.map fun v => v.category).sum ≤ 8) (k : ∀ v, f v = some r → WM G l E S (pc + 3) lv (.int v :: rest) mm) : WM G l E S pc lv (.int a1 :: .int a0 :: .ref (E.2.2 o) :: rest) mm := by
  obtain ⟨v, hv, hf⟩ := bd1_some h
  exact x_callV (n := 2) (As := [.int a0, .int a1]) (rest := rest) C (mX8_hopOf hv) (qX8_hopOf hv) (T := TX8) (N := 49) rfl (gmem 1210 (by decide +kernel) rfl) (gmem 1212 (by decide +kernel) rfl) (gmemS 68 (by decide +kernel) rfl) (gmem 9 (by decide +kernel) rfl) (gmem 1213 (by decide +kernel) rfl) (by decide +kernel) rfl hfr hlo hrs d rfl rfl (k v hf)
abbrev eX8_laysCan : List (Nat × Instr × Nat) := [(0, .iconst 0, 1), (1, .istore_n 1, 1), (2, .iload_n 1, 1), (3, .aload_n 0, 1), (4, .invokevirtual 248, 3), (7, .if_icmp .ge 119, 3), (10, .iconst 0, 1), (11, .istore_n 2, 1), (12, .iload_n 2, 1), (13, .aload_n 0, 1), (14, .invokevirtual 251, 3), (17, .if_icmp .ge 103, 3), (20, .aload_n 0, 1), (21, .iload_n 2, 1), (22, .iload_n 1, 1), (23, .invokevirtual 261, 3), (26, .istore_n 3, 1), (27, .bipush 8, 2), (29, .iload_n 1, 1), (30, .imul, 1), (31, .iload_n 2, 1), (32, .iadd, 1), (33, .istore 4, 2), (35, .aload_n 0, 1), (36, .getfield 72, 3), (39, .iload 4, 2), (41, .iload_n 3, 1), (42, .iconst (-1), 1), (43, .if_icmp .ne 7, 3), (46, .iconst 0, 1), (47, .goto 50, 3), (50, .iload_n 3, 1), (51, .ifCond .ne 21, 3), (54, .aload_n 0, 1), (55, .getfield 57, 3), (58, .iload_n 2, 1), (59, .invokestatic 258, 3), (62, .bipush 8, 2), (64, .iadd, 1), (65, .iaload, 1), (66, .bipush 16, 2), (68, .idiv, 1), (69, .goto 28, 3), (72, .aload_n 0, 1), (73, .getfield 57, 3), (76, .bipush 24, 2), (78, .aload_n 0, 1), (79, .getfield 50, 3), (82, .iconst 5, 1), (83, .iload_n 2, 1), (84, .imul, 1), (85, .iload_n 3, 1), (86, .iadd, 1), (87, .iconst 1, 1), (88, .isub, 1), (89, .iaload, 1), (90, .imul, 1), (91, .bipush 15, 2), (93, .iadd, 1), (94, .iload_n 2, 1), (95, .iadd, 1), (96, .iaload, 1), (97, .iastore, 1), (98, .aload_n 0, 1), (99, .getfield 75, 3), (102, .iload 4, 2), (104, .iconst 0, 1), (105, .iastore, 1), (106, .aload_n 0, 1), (107, .getfield 78, 3), (110, .iload 4, 2), (112, .iconst 0, 1), (113, .iastore, 1), (114, .iinc 2 1, 3), (117, .goto (-105), 3), (120, .iinc 1 1, 3), (123, .goto (-121), 3), (126, .return_, 1)]
theorem DX8_laysCan : (eX8_laysCan.all fun q => decide (decode cX8_laysCan q.1 = .ok q.2)) = true := by decide +kernel
def jX8_laysCan_97 (S : List Sh) (mm : Mm) (x0 : Nat) (x1 : Int32) (x2 : Int32) (x4 : Int32) (p0 : Nat) (p1 : Int32) (p2 : Int32) : Option ((Int32 × Mm) ⊕ (Mm)) := bd1 (stA S 0 mm p0 p1 p2) fun m6 => bd1 (stA S 0 m6 (rf S m6 x0 34) x4 0) fun m7 => bd1 (stA S 0 m7 (rf S m7 x0 35) x4 0) fun m8 => some (.inl (x2 + 1, m8))
def bX8_laysCan_12 (S : List Sh) (x0 : Nat) (x1 : Int32) (x2 : Int32) (mm : Mm) : Option ((Int32 × Mm) ⊕ (Mm)) := bd1 (fX8_flows S mm x0) fun a2 => if a2 ≤ x2 then (some (.inr (mm))) else (bd1 (fX8_hopOf S mm x0 x2 x1) fun a3 => if ¬ a3 = (-1) then (if ¬ a3 = 0 then (bd1 (ldA S 0 mm (rf S mm x0 15) (((5 * x2) + a3) - 1)) fun a4 => bd1 (ldA S 0 mm (rf S mm x0 26) (((24 * a4) + 15) + x2)) fun a5 => jX8_laysCan_97 S mm x0 x1 x2 ((8 * x1) + x2) (rf S mm x0 33) ((8 * x1) + x2) a5) else (bd1 (fX8_flowAt S mm x2) fun a9 => bd1 (ldA S 0 mm (rf S mm x0 26) (a9 + 8)) fun a10 => bd1 (dvI a10 16) fun a11 => jX8_laysCan_97 S mm x0 x1 x2 ((8 * x1) + x2) (rf S mm x0 33) ((8 * x1) + x2) a11)) else (jX8_laysCan_97 S mm x0 x1 x2 ((8 * x1) + x2) (rf S mm x0 33) ((8 * x1) + x2) 0))
def bX8_laysCan_2 (S : List Sh) (x0 : Nat) (x1 : Int32) (mm : Mm) : Option ((Int32 × Mm) ⊕ (Mm)) := bd1 (fX8_links S mm x0) fun a1 => if a1 ≤ x1 then (some (.inr (mm))) else (bd1 (lp (fun s12 => bX8_laysCan_12 S x0 x1 s12.1 s12.2) fu (0, mm)) fun y13 => some (.inl (x1 + 1, y13)))
def fX8_laysCan (S : List Sh) (mm : Mm) (x0 : Nat) : Option (Mm) := gd S x0 8 (bd1 (lp (fun s14 => bX8_laysCan_2 S x0 s14.1 s14.2) fu (0, mm)) fun y15 => some y15)
set_option maxHeartbeats 1000000 in
theorem tX8_laysCan_97 {G : Gt} {l : Launch} {E : Ev} {S : List Sh} {mm : Mm} {x0 : Nat} {x1 : Int32} {x2 : Int32} {x4 : Int32} {p0 : Nat} {p1 : Int32} {p2 : Int32} {r : (Int32 × Mm) ⊕ (Mm)} (C : Cx G E cX8_laysCan 5 RX8 none 1 23) (g0 : isC S x0 8) (h : jX8_laysCan_97 S mm x0 x1 x2 x4 p0 p1 p2 = some r) (kb : ∀ z : Int32 × Mm, r = .inl z → WM G l E S 12 [(0, .ref (E.2.2 x0)), (1, .int x1), (2, .int z.1)] [] z.2) (kx : ∀ z : Mm, r = .inr z → WM G l E S 120 [(0, .ref (E.2.2 x0)), (1, .int x1)] [] z) : WM G l E S 97 [(0, .ref (E.2.2 x0)), (1, .int x1), (2, .int x2), (4, .int x4)] [.int p2, .int p1, .ref (E.2.2 p0)] mm := by
  unfold jX8_laysCan_97 at h
  refine x_iast C (dq DX8_laysCan 62 rfl) h (fun m6 h => ?_)
  refine x_aload_n C (dq DX8_laysCan 63 rfl) rfl 0 rfl ?_
  refine getX8_75 C (dq DX8_laysCan 64 rfl) g0 ?_
  refine x_iload C (dq DX8_laysCan 65 rfl) 3 rfl ?_
  refine x_pc 104 rfl ?_
  refine x_iconst (v := 0) C (dq DX8_laysCan 66 rfl) (by decide) ?_
  refine x_iast C (dq DX8_laysCan 67 rfl) h (fun m7 h => ?_)
  refine x_aload_n C (dq DX8_laysCan 68 rfl) rfl 0 rfl ?_
  refine getX8_78 C (dq DX8_laysCan 69 rfl) g0 ?_
  refine x_iload C (dq DX8_laysCan 70 rfl) 3 rfl ?_
  refine x_pc 112 rfl ?_
  refine x_iconst (v := 0) C (dq DX8_laysCan 71 rfl) (by decide) ?_
  refine x_iast C (dq DX8_laysCan 72 rfl) h (fun m8 h => ?_)
  refine x_iinc (v := x2 + 1) (lv' := [(2, .int (x2 + 1)), (0, .ref (E.2.2 x0)), (1, .int x1), (4, .int x4)]) C (dq DX8_laysCan 73 rfl) 2 rfl rfl (by decide) rfl ?_
  refine x_goto (tgt := 12) C (dq DX8_laysCan 74 rfl) (by decide) ?_
  cases h
  exact x_lv [1, 2, 0] rfl (kb (x2 + 1, m8) rfl)
set_option maxHeartbeats 1000000 in
theorem tX8_laysCan_12 {G : Gt} {l : Launch} {E : Ev} {S : List Sh} {x0 : Nat} {x1 : Int32} {x2 : Int32} {mm : Mm} {r : (Int32 × Mm) ⊕ (Mm)} (C : Cx G E cX8_laysCan 5 RX8 none 1 23) (g0 : isC S x0 8) (h : bX8_laysCan_12 S x0 x1 x2 mm = some r) (kb : ∀ z : Int32 × Mm, r = .inl z → WM G l E S 12 [(0, .ref (E.2.2 x0)), (1, .int x1), (2, .int z.1)] [] z.2) (kx : ∀ z : Mm, r = .inr z → WM G l E S 120 [(0, .ref (E.2.2 x0)), (1, .int x1)] [] z) : WM G l E S 12 [(0, .ref (E.2.2 x0)), (1, .int x1), (2, .int x2)] [] mm := by
  unfold bX8_laysCan_12 at h
  refine x_iload_n C (dq DX8_laysCan 8 rfl) rfl 2 rfl ?_
  refine x_aload_n C (dq DX8_laysCan 9 rfl) rfl 0 rfl ?_
  refine callX8_251 C (dq DX8_laysCan 10 rfl) h (by decide) (by decide) (Nat.le_of_ble_eq_true rfl) (fun a2 h => ?_)
  refine x_icmp_ge (tgt := 120) C (dq DX8_laysCan 11 rfl) (by decide) h (fun h => ?_) (fun h => ?_)
  · cases h
    exact x_lv [0, 1] rfl (kx (mm) rfl)
  · refine x_pc 20 rfl ?_
    refine x_aload_n C (dq DX8_laysCan 12 rfl) rfl 0 rfl ?_
    refine x_iload_n C (dq DX8_laysCan 13 rfl) rfl 2 rfl ?_
    refine x_iload_n C (dq DX8_laysCan 14 rfl) rfl 1 rfl ?_
    refine callX8_261 C (dq DX8_laysCan 15 rfl) h (by decide) (by decide) (Nat.le_of_ble_eq_true rfl) (fun a3 h => ?_)
    refine x_istore_n (lv' := [(3, .int a3), (0, .ref (E.2.2 x0)), (1, .int x1), (2, .int x2)]) C (dq DX8_laysCan 16 rfl) rfl (by decide) rfl ?_
    refine x_pc 27 rfl ?_
    refine x_bipush (v := 8) C (dq DX8_laysCan 17 rfl) (by decide) ?_
    refine x_iload_n C (dq DX8_laysCan 18 rfl) rfl 2 rfl ?_
    refine x_imul C (dq DX8_laysCan 19 rfl) ?_
    refine x_iload_n C (dq DX8_laysCan 20 rfl) rfl 3 rfl ?_
    refine x_iadd C (dq DX8_laysCan 21 rfl) ?_
    refine x_pc 33 rfl ?_
    refine x_istore (lv' := [(4, .int ((8 * x1) + x2)), (3, .int a3), (0, .ref (E.2.2 x0)), (1, .int x1), (2, .int x2)]) C (dq DX8_laysCan 22 rfl) (by decide) rfl ?_
    refine x_aload_n C (dq DX8_laysCan 23 rfl) rfl 2 rfl ?_
    refine getX8_72 C (dq DX8_laysCan 24 rfl) g0 ?_
    refine x_iload C (dq DX8_laysCan 25 rfl) 0 rfl ?_
    refine x_iload_n C (dq DX8_laysCan 26 rfl) rfl 1 rfl ?_
    refine x_pc 42 rfl ?_
    refine x_iconst (v := (-1)) C (dq DX8_laysCan 27 rfl) (by decide) ?_
    refine x_icmp_ne (tgt := 50) C (dq DX8_laysCan 28 rfl) (by decide) h (fun h => ?_) (fun h => ?_)
    · refine x_iload_n C (dq DX8_laysCan 31 rfl) rfl 1 rfl ?_
      refine x_if_ne (tgt := 72) C (dq DX8_laysCan 32 rfl) (by decide) h (fun h => ?_) (fun h => ?_)
      · refine x_aload_n C (dq DX8_laysCan 43 rfl) rfl 2 rfl ?_
        refine x_pc 73 rfl ?_
        refine getX8_57 C (dq DX8_laysCan 44 rfl) g0 ?_
        refine x_bipush (v := 24) C (dq DX8_laysCan 45 rfl) (by decide) ?_
        refine x_aload_n C (dq DX8_laysCan 46 rfl) rfl 2 rfl ?_
        refine getX8_50 C (dq DX8_laysCan 47 rfl) g0 ?_
        refine x_iconst (v := 5) C (dq DX8_laysCan 48 rfl) (by decide) ?_
        refine x_pc 83 rfl ?_
        refine x_iload_n C (dq DX8_laysCan 49 rfl) rfl 4 rfl ?_
        refine x_imul C (dq DX8_laysCan 50 rfl) ?_
        refine x_iload_n C (dq DX8_laysCan 51 rfl) rfl 1 rfl ?_
        refine x_iadd C (dq DX8_laysCan 52 rfl) ?_
        refine x_iconst (v := 1) C (dq DX8_laysCan 53 rfl) (by decide) ?_
        refine x_pc 88 rfl ?_
        refine x_isub C (dq DX8_laysCan 54 rfl) ?_
        refine x_iald C (dq DX8_laysCan 55 rfl) h (fun a4 h => ?_)
        refine x_imul C (dq DX8_laysCan 56 rfl) ?_
        refine x_bipush (v := 15) C (dq DX8_laysCan 57 rfl) (by decide) ?_
        refine x_iadd C (dq DX8_laysCan 58 rfl) ?_
        refine x_pc 94 rfl ?_
        refine x_iload_n C (dq DX8_laysCan 59 rfl) rfl 4 rfl ?_
        refine x_iadd C (dq DX8_laysCan 60 rfl) ?_
        refine x_iald C (dq DX8_laysCan 61 rfl) h (fun a5 h => ?_)
        exact x_lv [2, 3, 4, 0] rfl (tX8_laysCan_97 C g0 h kb kx)
      · refine x_aload_n C (dq DX8_laysCan 33 rfl) rfl 2 rfl ?_
        refine x_pc 55 rfl ?_
        refine getX8_57 C (dq DX8_laysCan 34 rfl) g0 ?_
        refine x_iload_n C (dq DX8_laysCan 35 rfl) rfl 4 rfl ?_
        refine callX8_258 C (dq DX8_laysCan 36 rfl) h (by decide) (by decide) (Nat.le_of_ble_eq_true rfl) (fun a9 h => ?_)
        refine x_bipush (v := 8) C (dq DX8_laysCan 37 rfl) (by decide) ?_
        refine x_iadd C (dq DX8_laysCan 38 rfl) ?_
        refine x_pc 65 rfl ?_
        refine x_iald C (dq DX8_laysCan 39 rfl) h (fun a10 h => ?_)
        refine x_bipush (v := 16) C (dq DX8_laysCan 40 rfl) (by decide) ?_
        refine x_idiv C (dq DX8_laysCan 41 rfl) h (fun a11 h => ?_)
        refine x_goto (tgt := 97) C (dq DX8_laysCan 42 rfl) (by decide) ?_
        exact x_lv [2, 3, 4, 0] rfl (tX8_laysCan_97 C g0 h kb kx)
    · refine x_iconst (v := 0) C (dq DX8_laysCan 29 rfl) (by decide) ?_
      refine x_goto (tgt := 97) C (dq DX8_laysCan 30 rfl) (by decide) ?_
      exact x_lv [2, 3, 4, 0] rfl (tX8_laysCan_97 C g0 h kb kx)
set_option maxHeartbeats 1000000 in
theorem tX8_laysCan_2 {G : Gt} {l : Launch} {E : Ev} {S : List Sh} {x0 : Nat} {x1 : Int32} {mm : Mm} {r : (Int32 × Mm) ⊕ (Mm)} (C : Cx G E cX8_laysCan 5 RX8 none 1 23) (g0 : isC S x0 8) (h : bX8_laysCan_2 S x0 x1 mm = some r) (kb : ∀ z : Int32 × Mm, r = .inl z → WM G l E S 2 [(0, .ref (E.2.2 x0)), (1, .int z.1)] [] z.2) (kx : ∀ z : Mm, r = .inr z → WM G l E S 126 [(0, .ref (E.2.2 x0))] [] z) : WM G l E S 2 [(0, .ref (E.2.2 x0)), (1, .int x1)] [] mm := by
  unfold bX8_laysCan_2 at h
  refine x_iload_n C (dq DX8_laysCan 2 rfl) rfl 1 rfl ?_
  refine x_aload_n C (dq DX8_laysCan 3 rfl) rfl 0 rfl ?_
  refine callX8_248 C (dq DX8_laysCan 4 rfl) h (by decide) (by decide) (Nat.le_of_ble_eq_true rfl) (fun a1 h => ?_)
  refine x_icmp_ge (tgt := 126) C (dq DX8_laysCan 5 rfl) (by decide) h (fun h => ?_) (fun h => ?_)
  · cases h
    exact x_lv [0] rfl (kx (mm) rfl)
  · refine x_pc 10 rfl ?_
    refine x_iconst (v := 0) C (dq DX8_laysCan 6 rfl) (by decide) ?_
    refine x_istore_n (lv' := [(2, .int 0), (0, .ref (E.2.2 x0)), (1, .int x1)]) C (dq DX8_laysCan 7 rfl) rfl (by decide) rfl ?_
    refine x_lv [1, 2, 0] rfl ?_
    refine x_loop (s0 := (0, mm)) (fun s12 => WM G l E S 12 [(0, .ref (E.2.2 x0)), (1, .int x1), (2, .int s12.1)] [] s12.2) h (fun s12 r hb kb kx => tX8_laysCan_12 C g0 hb kb (fun y13 hy => ?_))
    have h := kx y13 hy
    clear kx kb hb hy
    refine x_iinc (v := x1 + 1) (lv' := [(1, .int (x1 + 1)), (0, .ref (E.2.2 x0))]) C (dq DX8_laysCan 75 rfl) 1 rfl rfl (by decide) rfl ?_
    refine x_goto (tgt := 2) C (dq DX8_laysCan 76 rfl) (by decide) ?_
    cases h
    exact x_lv [1, 0] rfl (kb (x1 + 1, y13) rfl)
set_option maxHeartbeats 1000000 in
theorem mX8_laysCan {l : Launch} {E : Ev} {S : List Sh} {mm : Mm} {x0 : Nat} {r : Mm} (h : fX8_laysCan S mm x0 = some r) : Ml l E S yX8_laysCan cX8_laysCan 5 none 1 23 [.ref (E.2.2 x0)] mm none r := by
  refine Ml.of (by decide +kernel) (Nat.le_of_ble_eq_true rfl) (fun G C hQ => ?_)
  have C : Cx G E cX8_laysCan 5 RX8 none 1 23 := C
  unfold fX8_laysCan at h
  obtain ⟨g0, h⟩ := gd_some h
  show WM G l E S 0 [(0, .ref (E.2.2 x0))] [] mm
  refine x_iconst (v := 0) C (dq DX8_laysCan 0 rfl) (by decide) ?_
  refine x_istore_n (lv' := [(1, .int 0), (0, .ref (E.2.2 x0))]) C (dq DX8_laysCan 1 rfl) rfl (by decide) rfl ?_
  refine x_lv [1, 0] rfl ?_
  refine x_loop (s0 := (0, mm)) (fun s14 => WM G l E S 2 [(0, .ref (E.2.2 x0)), (1, .int s14.1)] [] s14.2) h (fun s14 r hb kb kx => tX8_laysCan_2 C g0 hb kb (fun y15 hy => ?_))
  have h := kx y15 hy
  clear kx kb hb hy
  cases h
  exact x_vret C (dq DX8_laysCan 77 rfl) hQ
set_option maxHeartbeats 1000000 in
theorem qX8_laysCan {S : List Sh} {mm : Mm} {x0 : Nat} {r : Mm} (h : fX8_laysCan S mm x0 = some r) : isC S x0 8 := by
  unfold fX8_laysCan at h
  exact (gd_some h).1
abbrev eX8_carriesOf : List (Nat × Instr × Nat) := [(0, .aload_n 0, 1), (1, .getfield 23, 3), (4, .iload_n 1, 1), (5, .iaload, 1), (6, .istore_n 2, 1), (7, .aload_n 0, 1), (8, .getfield 57, 3), (11, .bipush 24, 2), (13, .iload_n 1, 1), (14, .imul, 1), (15, .bipush 10, 2), (17, .iadd, 1), (18, .aload_n 0, 1), (19, .getfield 26, 3), (22, .iload_n 1, 1), (23, .iaload, 1), (24, .iadd, 1), (25, .iaload, 1), (26, .ifCond .ne 7, 3), (29, .iconst 1, 1), (30, .goto 4, 3), (33, .iconst 0, 1), (34, .istore_n 3, 1), (35, .iload_n 3, 1), (36, .ifCond .eq 79, 3), (39, .iload_n 2, 1), (40, .ifCond .le 75, 3), (43, .iconst 0, 1), (44, .istore_n 3, 1), (45, .iconst 0, 1), (46, .istore 4, 2), (48, .iload 4, 2), (50, .aload_n 0, 1), (51, .invokevirtual 251, 3), (54, .if_icmp .ge 58, 3), (57, .iload_n 2, 1), (58, .ifCond .le 54, 3), (61, .bipush 8, 2), (63, .iload_n 1, 1), (64, .imul, 1), (65, .iload 4, 2), (67, .iadd, 1), (68, .istore 5, 2), (70, .aload_n 0, 1), (71, .getfield 75, 3), (74, .iload 5, 2), (76, .iaload, 1), (77, .aload_n 0, 1), (78, .getfield 72, 3), (81, .iload 5, 2), (83, .iaload, 1), (84, .if_icmp .ne 6, 3), (87, .goto 19, 3), (90, .aload_n 0, 1), (91, .getfield 75, 3), (94, .iload 5, 2), (96, .dup2, 1), (97, .iaload, 1), (98, .iconst 1, 1), (99, .iadd, 1), (100, .iastore, 1), (101, .iinc 2 (-1), 3), (104, .iconst 1, 1), (105, .istore_n 3, 1), (106, .iinc 4 1, 3), (109, .goto (-61), 3), (112, .goto (-77), 3), (115, .aload_n 0, 1), (116, .getfield 57, 3), (119, .bipush 24, 2), (121, .iload_n 1, 1), (122, .imul, 1), (123, .bipush 7, 2), (125, .iadd, 1), (126, .aload_n 0, 1), (127, .getfield 23, 3), (130, .iload_n 1, 1), (131, .iaload, 1), (132, .iload_n 2, 1), (133, .isub, 1), (134, .iastore, 1), (135, .return_, 1)]
theorem DX8_carriesOf : (eX8_carriesOf.all fun q => decide (decode cX8_carriesOf q.1 = .ok q.2)) = true := by decide +kernel
def jX8_carriesOf_106 (S : List Sh) (mm : Mm) (x0 : Nat) (x1 : Int32) (x2 : Int32) (x3 : Int32) (x4 : Int32)  : Option ((Int32 × Int32 × Int32 × Mm) ⊕ (Int32 × Int32 × Mm)) := some (.inl (x2, x3, x4 + 1, mm))
def bX8_carriesOf_48 (S : List Sh) (x0 : Nat) (x1 : Int32) (x2 : Int32) (x3 : Int32) (x4 : Int32) (mm : Mm) : Option ((Int32 × Int32 × Int32 × Mm) ⊕ (Int32 × Int32 × Mm)) := bd1 (fX8_flows S mm x0) fun a4 => if a4 ≤ x4 then (some (.inr (x2, x3, mm))) else (if x2 ≤ 0 then (some (.inr (x2, x3, mm))) else (bd1 (ldA S 0 mm (rf S mm x0 34) ((8 * x1) + x4)) fun a5 => bd1 (ldA S 0 mm (rf S mm x0 33) ((8 * x1) + x4)) fun a6 => if ¬ a5 = a6 then (bd1 (ldA S 0 mm (rf S mm x0 34) ((8 * x1) + x4)) fun a7 => bd1 (stA S 0 mm (rf S mm x0 34) ((8 * x1) + x4) (a7 + 1)) fun m8 => jX8_carriesOf_106 S m8 x0 x1 (x2 + (-1)) 1 x4) else (jX8_carriesOf_106 S mm x0 x1 x2 x3 x4)))
def jX8_carriesOf_112 (S : List Sh) (mm : Mm) (x0 : Nat) (x1 : Int32) (x2 : Int32) (x3 : Int32)  : Option ((Int32 × Int32 × Mm) ⊕ (Int32 × Mm)) := some (.inl (x2, x3, mm))
def bX8_carriesOf_35 (S : List Sh) (x0 : Nat) (x1 : Int32) (x2 : Int32) (x3 : Int32) (mm : Mm) : Option ((Int32 × Int32 × Mm) ⊕ (Int32 × Mm)) := if x3 = 0 then (some (.inr (x2, mm))) else (if x2 ≤ 0 then (some (.inr (x2, mm))) else (bd1 (lp (fun s9 => bX8_carriesOf_48 S x0 x1 s9.1 s9.2.1 s9.2.2.1 s9.2.2.2) fu (x2, 0, 0, mm)) fun y10 => jX8_carriesOf_112 S y10.2.2 x0 x1 y10.1 y10.2.1))
def jX8_carriesOf_115 (S : List Sh) (mm : Mm) (x0 : Nat) (x1 : Int32) (x2 : Int32)  : Option (Mm) := bd1 (ldA S 0 mm (rf S mm x0 6) x1) fun a13 => bd1 (stA S 0 mm (rf S mm x0 26) ((24 * x1) + 7) (a13 - x2)) fun m14 => some m14
def jX8_carriesOf_34 (S : List Sh) (mm : Mm) (x0 : Nat) (x1 : Int32) (x2 : Int32) (p0 : Int32) : Option (Mm) := bd1 (lp (fun s11 => bX8_carriesOf_35 S x0 x1 s11.1 s11.2.1 s11.2.2) fu (x2, p0, mm)) fun y12 => jX8_carriesOf_115 S y12.2 x0 x1 y12.1
def fX8_carriesOf (S : List Sh) (mm : Mm) (x0 : Nat) (x1 : Int32) : Option (Mm) := gd S x0 8 (bd1 (ldA S 0 mm (rf S mm x0 6) x1) fun a1 => bd1 (ldA S 0 mm (rf S mm x0 7) x1) fun a2 => bd1 (ldA S 0 mm (rf S mm x0 26) (((24 * x1) + 10) + a2)) fun a3 => if ¬ a3 = 0 then (jX8_carriesOf_34 S mm x0 x1 a1 0) else (jX8_carriesOf_34 S mm x0 x1 a1 1))
set_option maxHeartbeats 1000000 in
theorem tX8_carriesOf_106 {G : Gt} {l : Launch} {E : Ev} {S : List Sh} {mm : Mm} {x0 : Nat} {x1 : Int32} {x2 : Int32} {x3 : Int32} {x4 : Int32}  {r : (Int32 × Int32 × Int32 × Mm) ⊕ (Int32 × Int32 × Mm)} (C : Cx G E cX8_carriesOf 6 RX8 none 1 20) (g0 : isC S x0 8) (h : jX8_carriesOf_106 S mm x0 x1 x2 x3 x4 = some r) (kb : ∀ z : Int32 × Int32 × Int32 × Mm, r = .inl z → WM G l E S 48 [(0, .ref (E.2.2 x0)), (1, .int x1), (2, .int z.1), (3, .int z.2.1), (4, .int z.2.2.1)] [] z.2.2.2) (kx : ∀ z : Int32 × Int32 × Mm, r = .inr z → WM G l E S 112 [(0, .ref (E.2.2 x0)), (1, .int x1), (2, .int z.1), (3, .int z.2.1)] [] z.2.2) : WM G l E S 106 [(0, .ref (E.2.2 x0)), (1, .int x1), (2, .int x2), (3, .int x3), (4, .int x4)] [] mm := by
  unfold jX8_carriesOf_106 at h
  refine x_iinc (v := x4 + 1) (lv' := [(4, .int (x4 + 1)), (0, .ref (E.2.2 x0)), (1, .int x1), (2, .int x2), (3, .int x3)]) C (dq DX8_carriesOf 64 rfl) 4 rfl rfl (by decide) rfl ?_
  refine x_goto (tgt := 48) C (dq DX8_carriesOf 65 rfl) (by decide) ?_
  cases h
  exact x_lv [1, 2, 3, 4, 0] rfl (kb (x2, x3, x4 + 1, mm) rfl)
set_option maxHeartbeats 1000000 in
theorem tX8_carriesOf_48 {G : Gt} {l : Launch} {E : Ev} {S : List Sh} {x0 : Nat} {x1 : Int32} {x2 : Int32} {x3 : Int32} {x4 : Int32} {mm : Mm} {r : (Int32 × Int32 × Int32 × Mm) ⊕ (Int32 × Int32 × Mm)} (C : Cx G E cX8_carriesOf 6 RX8 none 1 20) (g0 : isC S x0 8) (h : bX8_carriesOf_48 S x0 x1 x2 x3 x4 mm = some r) (kb : ∀ z : Int32 × Int32 × Int32 × Mm, r = .inl z → WM G l E S 48 [(0, .ref (E.2.2 x0)), (1, .int x1), (2, .int z.1), (3, .int z.2.1), (4, .int z.2.2.1)] [] z.2.2.2) (kx : ∀ z : Int32 × Int32 × Mm, r = .inr z → WM G l E S 112 [(0, .ref (E.2.2 x0)), (1, .int x1), (2, .int z.1), (3, .int z.2.1)] [] z.2.2) : WM G l E S 48 [(0, .ref (E.2.2 x0)), (1, .int x1), (2, .int x2), (3, .int x3), (4, .int x4)] [] mm := by
  unfold bX8_carriesOf_48 at h
  refine x_iload C (dq DX8_carriesOf 31 rfl) 4 rfl ?_
  refine x_aload_n C (dq DX8_carriesOf 32 rfl) rfl 0 rfl ?_
  refine callX8_251 C (dq DX8_carriesOf 33 rfl) h (by decide) (by decide) (Nat.le_of_ble_eq_true rfl) (fun a4 h => ?_)
  refine x_icmp_ge (tgt := 112) C (dq DX8_carriesOf 34 rfl) (by decide) h (fun h => ?_) (fun h => ?_)
  · cases h
    exact x_lv [0, 1, 2, 3] rfl (kx (x2, x3, mm) rfl)
  · refine x_pc 57 rfl ?_
    refine x_iload_n C (dq DX8_carriesOf 35 rfl) rfl 2 rfl ?_
    refine x_if_le (tgt := 112) C (dq DX8_carriesOf 36 rfl) (by decide) h (fun h => ?_) (fun h => ?_)
    · cases h
      exact x_lv [0, 1, 2, 3] rfl (kx (x2, x3, mm) rfl)
    · refine x_bipush (v := 8) C (dq DX8_carriesOf 37 rfl) (by decide) ?_
      refine x_iload_n C (dq DX8_carriesOf 38 rfl) rfl 1 rfl ?_
      refine x_imul C (dq DX8_carriesOf 39 rfl) ?_
      refine x_pc 65 rfl ?_
      refine x_iload C (dq DX8_carriesOf 40 rfl) 4 rfl ?_
      refine x_iadd C (dq DX8_carriesOf 41 rfl) ?_
      refine x_istore (lv' := [(5, .int ((8 * x1) + x4)), (0, .ref (E.2.2 x0)), (1, .int x1), (2, .int x2), (3, .int x3), (4, .int x4)]) C (dq DX8_carriesOf 42 rfl) (by decide) rfl ?_
      refine x_aload_n C (dq DX8_carriesOf 43 rfl) rfl 1 rfl ?_
      refine getX8_75 C (dq DX8_carriesOf 44 rfl) g0 ?_
      refine x_pc 74 rfl ?_
      refine x_iload C (dq DX8_carriesOf 45 rfl) 0 rfl ?_
      refine x_iald C (dq DX8_carriesOf 46 rfl) h (fun a5 h => ?_)
      refine x_aload_n C (dq DX8_carriesOf 47 rfl) rfl 1 rfl ?_
      refine getX8_72 C (dq DX8_carriesOf 48 rfl) g0 ?_
      refine x_iload C (dq DX8_carriesOf 49 rfl) 0 rfl ?_
      refine x_pc 83 rfl ?_
      refine x_iald C (dq DX8_carriesOf 50 rfl) h (fun a6 h => ?_)
      refine x_icmp_ne (tgt := 90) C (dq DX8_carriesOf 51 rfl) (by decide) h (fun h => ?_) (fun h => ?_)
      · refine x_aload_n C (dq DX8_carriesOf 53 rfl) rfl 1 rfl ?_
        refine getX8_75 C (dq DX8_carriesOf 54 rfl) g0 ?_
        refine x_iload C (dq DX8_carriesOf 55 rfl) 0 rfl ?_
        refine x_pc 96 rfl ?_
        refine x_dup2 C (dq DX8_carriesOf 56 rfl) rfl rfl ?_
        refine x_iald C (dq DX8_carriesOf 57 rfl) h (fun a7 h => ?_)
        refine x_iconst (v := 1) C (dq DX8_carriesOf 58 rfl) (by decide) ?_
        refine x_iadd C (dq DX8_carriesOf 59 rfl) ?_
        refine x_iast C (dq DX8_carriesOf 60 rfl) h (fun m8 h => ?_)
        refine x_pc 101 rfl ?_
        refine x_iinc (v := x2 + (-1)) (lv' := [(2, .int (x2 + (-1))), (5, .int ((8 * x1) + x4)), (0, .ref (E.2.2 x0)), (1, .int x1), (3, .int x3), (4, .int x4)]) C (dq DX8_carriesOf 61 rfl) 3 rfl rfl (by decide) rfl ?_
        refine x_iconst (v := 1) C (dq DX8_carriesOf 62 rfl) (by decide) ?_
        refine x_istore_n (lv' := [(3, .int 1), (2, .int (x2 + (-1))), (5, .int ((8 * x1) + x4)), (0, .ref (E.2.2 x0)), (1, .int x1), (4, .int x4)]) C (dq DX8_carriesOf 63 rfl) rfl (by decide) rfl ?_
        exact x_lv [3, 4, 1, 0, 5] rfl (tX8_carriesOf_106 C g0 h kb kx)
      · refine x_goto (tgt := 106) C (dq DX8_carriesOf 52 rfl) (by decide) ?_
        exact x_lv [1, 2, 3, 4, 5] rfl (tX8_carriesOf_106 C g0 h kb kx)
set_option maxHeartbeats 1000000 in
theorem tX8_carriesOf_112 {G : Gt} {l : Launch} {E : Ev} {S : List Sh} {mm : Mm} {x0 : Nat} {x1 : Int32} {x2 : Int32} {x3 : Int32}  {r : (Int32 × Int32 × Mm) ⊕ (Int32 × Mm)} (C : Cx G E cX8_carriesOf 6 RX8 none 1 20) (g0 : isC S x0 8) (h : jX8_carriesOf_112 S mm x0 x1 x2 x3 = some r) (kb : ∀ z : Int32 × Int32 × Mm, r = .inl z → WM G l E S 35 [(0, .ref (E.2.2 x0)), (1, .int x1), (2, .int z.1), (3, .int z.2.1)] [] z.2.2) (kx : ∀ z : Int32 × Mm, r = .inr z → WM G l E S 115 [(0, .ref (E.2.2 x0)), (1, .int x1), (2, .int z.1)] [] z.2) : WM G l E S 112 [(0, .ref (E.2.2 x0)), (1, .int x1), (2, .int x2), (3, .int x3)] [] mm := by
  unfold jX8_carriesOf_112 at h
  refine x_goto (tgt := 35) C (dq DX8_carriesOf 66 rfl) (by decide) ?_
  cases h
  exact x_lv [0, 1, 2, 3] rfl (kb (x2, x3, mm) rfl)
set_option maxHeartbeats 1000000 in
theorem tX8_carriesOf_35 {G : Gt} {l : Launch} {E : Ev} {S : List Sh} {x0 : Nat} {x1 : Int32} {x2 : Int32} {x3 : Int32} {mm : Mm} {r : (Int32 × Int32 × Mm) ⊕ (Int32 × Mm)} (C : Cx G E cX8_carriesOf 6 RX8 none 1 20) (g0 : isC S x0 8) (h : bX8_carriesOf_35 S x0 x1 x2 x3 mm = some r) (kb : ∀ z : Int32 × Int32 × Mm, r = .inl z → WM G l E S 35 [(0, .ref (E.2.2 x0)), (1, .int x1), (2, .int z.1), (3, .int z.2.1)] [] z.2.2) (kx : ∀ z : Int32 × Mm, r = .inr z → WM G l E S 115 [(0, .ref (E.2.2 x0)), (1, .int x1), (2, .int z.1)] [] z.2) : WM G l E S 35 [(0, .ref (E.2.2 x0)), (1, .int x1), (2, .int x2), (3, .int x3)] [] mm := by
  unfold bX8_carriesOf_35 at h
  refine x_iload_n C (dq DX8_carriesOf 23 rfl) rfl 3 rfl ?_
  refine x_if_eq (tgt := 115) C (dq DX8_carriesOf 24 rfl) (by decide) h (fun h => ?_) (fun h => ?_)
  · cases h
    exact x_lv [0, 1, 2] rfl (kx (x2, mm) rfl)
  · refine x_iload_n C (dq DX8_carriesOf 25 rfl) rfl 2 rfl ?_
    refine x_if_le (tgt := 115) C (dq DX8_carriesOf 26 rfl) (by decide) h (fun h => ?_) (fun h => ?_)
    · cases h
      exact x_lv [0, 1, 2] rfl (kx (x2, mm) rfl)
    · refine x_pc 43 rfl ?_
      refine x_iconst (v := 0) C (dq DX8_carriesOf 27 rfl) (by decide) ?_
      refine x_istore_n (lv' := [(3, .int 0), (0, .ref (E.2.2 x0)), (1, .int x1), (2, .int x2)]) C (dq DX8_carriesOf 28 rfl) rfl (by decide) rfl ?_
      refine x_iconst (v := 0) C (dq DX8_carriesOf 29 rfl) (by decide) ?_
      refine x_istore (lv' := [(4, .int 0), (3, .int 0), (0, .ref (E.2.2 x0)), (1, .int x1), (2, .int x2)]) C (dq DX8_carriesOf 30 rfl) (by decide) rfl ?_
      refine x_lv [2, 3, 4, 1, 0] rfl ?_
      refine x_loop (s0 := (x2, 0, 0, mm)) (fun s9 => WM G l E S 48 [(0, .ref (E.2.2 x0)), (1, .int x1), (2, .int s9.1), (3, .int s9.2.1), (4, .int s9.2.2.1)] [] s9.2.2.2) h (fun s9 r hb kb kx => tX8_carriesOf_48 C g0 hb kb (fun y10 hy => ?_))
      have h := kx y10 hy
      clear kx kb hb hy
      exact x_lv [0, 1, 2, 3] rfl (tX8_carriesOf_112 C g0 h kb kx)
set_option maxHeartbeats 1000000 in
theorem tX8_carriesOf_115 {G : Gt} {l : Launch} {E : Ev} {S : List Sh} {mm : Mm} {x0 : Nat} {x1 : Int32} {x2 : Int32}  {r : Mm} (C : Cx G E cX8_carriesOf 6 RX8 none 1 20) (g0 : isC S x0 8) (h : jX8_carriesOf_115 S mm x0 x1 x2 = some r) (hQ : RQ G E S none r) : WM G l E S 115 [(0, .ref (E.2.2 x0)), (1, .int x1), (2, .int x2)] [] mm := by
  unfold jX8_carriesOf_115 at h
  refine x_aload_n C (dq DX8_carriesOf 67 rfl) rfl 0 rfl ?_
  refine getX8_57 C (dq DX8_carriesOf 68 rfl) g0 ?_
  refine x_bipush (v := 24) C (dq DX8_carriesOf 69 rfl) (by decide) ?_
  refine x_iload_n C (dq DX8_carriesOf 70 rfl) rfl 1 rfl ?_
  refine x_pc 122 rfl ?_
  refine x_imul C (dq DX8_carriesOf 71 rfl) ?_
  refine x_bipush (v := 7) C (dq DX8_carriesOf 72 rfl) (by decide) ?_
  refine x_iadd C (dq DX8_carriesOf 73 rfl) ?_
  refine x_aload_n C (dq DX8_carriesOf 74 rfl) rfl 0 rfl ?_
  refine getX8_23 C (dq DX8_carriesOf 75 rfl) g0 ?_
  refine x_pc 130 rfl ?_
  refine x_iload_n C (dq DX8_carriesOf 76 rfl) rfl 1 rfl ?_
  refine x_iald C (dq DX8_carriesOf 77 rfl) h (fun a13 h => ?_)
  refine x_iload_n C (dq DX8_carriesOf 78 rfl) rfl 2 rfl ?_
  refine x_isub C (dq DX8_carriesOf 79 rfl) ?_
  refine x_iast C (dq DX8_carriesOf 80 rfl) h (fun m14 h => ?_)
  refine x_pc 135 rfl ?_
  cases h
  exact x_vret C (dq DX8_carriesOf 81 rfl) hQ
set_option maxHeartbeats 1000000 in
theorem tX8_carriesOf_34 {G : Gt} {l : Launch} {E : Ev} {S : List Sh} {mm : Mm} {x0 : Nat} {x1 : Int32} {x2 : Int32} {p0 : Int32} {r : Mm} (C : Cx G E cX8_carriesOf 6 RX8 none 1 20) (g0 : isC S x0 8) (h : jX8_carriesOf_34 S mm x0 x1 x2 p0 = some r) (hQ : RQ G E S none r) : WM G l E S 34 [(0, .ref (E.2.2 x0)), (1, .int x1), (2, .int x2)] [.int p0] mm := by
  unfold jX8_carriesOf_34 at h
  refine x_istore_n (lv' := [(3, .int p0), (0, .ref (E.2.2 x0)), (1, .int x1), (2, .int x2)]) C (dq DX8_carriesOf 22 rfl) rfl (by decide) rfl ?_
  refine x_lv [1, 2, 3, 0] rfl ?_
  refine x_loop (s0 := (x2, p0, mm)) (fun s11 => WM G l E S 35 [(0, .ref (E.2.2 x0)), (1, .int x1), (2, .int s11.1), (3, .int s11.2.1)] [] s11.2.2) h (fun s11 r hb kb kx => tX8_carriesOf_35 C g0 hb kb (fun y12 hy => ?_))
  have h := kx y12 hy
  clear kx kb hb hy
  exact x_lv [0, 1, 2] rfl (tX8_carriesOf_115 C g0 h hQ)
set_option maxHeartbeats 1000000 in
theorem mX8_carriesOf {l : Launch} {E : Ev} {S : List Sh} {mm : Mm} {x0 : Nat} {x1 : Int32} {r : Mm} (h : fX8_carriesOf S mm x0 x1 = some r) : Ml l E S yX8_carriesOf cX8_carriesOf 6 none 1 20 [.ref (E.2.2 x0), .int x1] mm none r := by
  refine Ml.of (by decide +kernel) (Nat.le_of_ble_eq_true rfl) (fun G C hQ => ?_)
  have C : Cx G E cX8_carriesOf 6 RX8 none 1 20 := C
  unfold fX8_carriesOf at h
  obtain ⟨g0, h⟩ := gd_some h
  show WM G l E S 0 [(0, .ref (E.2.2 x0)), (1, .int x1)] [] mm
  refine x_aload_n C (dq DX8_carriesOf 0 rfl) rfl 0 rfl ?_
  refine getX8_23 C (dq DX8_carriesOf 1 rfl) g0 ?_
  refine x_iload_n C (dq DX8_carriesOf 2 rfl) rfl 1 rfl ?_
  refine x_iald C (dq DX8_carriesOf 3 rfl) h (fun a1 h => ?_)
  refine x_pc 6 rfl ?_
  refine x_istore_n (lv' := [(2, .int a1), (0, .ref (E.2.2 x0)), (1, .int x1)]) C (dq DX8_carriesOf 4 rfl) rfl (by decide) rfl ?_
  refine x_aload_n C (dq DX8_carriesOf 5 rfl) rfl 1 rfl ?_
  refine getX8_57 C (dq DX8_carriesOf 6 rfl) g0 ?_
  refine x_bipush (v := 24) C (dq DX8_carriesOf 7 rfl) (by decide) ?_
  refine x_iload_n C (dq DX8_carriesOf 8 rfl) rfl 2 rfl ?_
  refine x_pc 14 rfl ?_
  refine x_imul C (dq DX8_carriesOf 9 rfl) ?_
  refine x_bipush (v := 10) C (dq DX8_carriesOf 10 rfl) (by decide) ?_
  refine x_iadd C (dq DX8_carriesOf 11 rfl) ?_
  refine x_aload_n C (dq DX8_carriesOf 12 rfl) rfl 1 rfl ?_
  refine getX8_26 C (dq DX8_carriesOf 13 rfl) g0 ?_
  refine x_pc 22 rfl ?_
  refine x_iload_n C (dq DX8_carriesOf 14 rfl) rfl 2 rfl ?_
  refine x_iald C (dq DX8_carriesOf 15 rfl) h (fun a2 h => ?_)
  refine x_iadd C (dq DX8_carriesOf 16 rfl) ?_
  refine x_iald C (dq DX8_carriesOf 17 rfl) h (fun a3 h => ?_)
  refine x_if_ne (tgt := 33) C (dq DX8_carriesOf 18 rfl) (by decide) h (fun h => ?_) (fun h => ?_)
  · refine x_pc 33 rfl ?_
    refine x_iconst (v := 0) C (dq DX8_carriesOf 21 rfl) (by decide) ?_
    exact x_lv [1, 2, 0] rfl (tX8_carriesOf_34 C g0 h hQ)
  · refine x_pc 29 rfl ?_
    refine x_iconst (v := 1) C (dq DX8_carriesOf 19 rfl) (by decide) ?_
    refine x_goto (tgt := 34) C (dq DX8_carriesOf 20 rfl) (by decide) ?_
    exact x_lv [1, 2, 0] rfl (tX8_carriesOf_34 C g0 h hQ)
set_option maxHeartbeats 1000000 in
theorem qX8_carriesOf {S : List Sh} {mm : Mm} {x0 : Nat} {x1 : Int32} {r : Mm} (h : fX8_carriesOf S mm x0 x1 = some r) : isC S x0 8 := by
  unfold fX8_carriesOf at h
  exact (gd_some h).1
