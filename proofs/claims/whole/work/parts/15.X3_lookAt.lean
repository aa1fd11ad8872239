theorem getX3_9 {G : Gt} {l : Launch} {E : Ev} {S : List Sh} {cc : ByteArray} {nL : Nat} {rt : Option FieldType} {fr lo : Nat} {pc : Nat} {lv : List (Nat × Value)} {st : List Value} {mm : Mm} {o : Nat} (C : Cx G E cc nL RX3 rt fr lo) (d : decode cc pc = .ok (.getfield 9, 3)) (hg : isC S o 3) (k : WM G l E S (pc + 3) lv (.ref (E.2.2 (rf S mm o 0)) :: st) mm) : WM G l E S pc lv (.ref (E.2.2 o) :: st) mm := x_get2 C hg (T := TX3) (N := 5) rfl inX3 (by decide) (i := 0) (gmem 128 (by decide +kernel) rfl) rfl rfl d k
theorem getX3_15 {G : Gt} {l : Launch} {E : Ev} {S : List Sh} {cc : ByteArray} {nL : Nat} {rt : Option FieldType} {fr lo : Nat} {pc : Nat} {lv : List (Nat × Value)} {st : List Value} {mm : Mm} {o : Nat} (C : Cx G E cc nL RX3 rt fr lo) (d : decode cc pc = .ok (.getfield 15, 3)) (hg : isC S o 3) (k : WM G l E S (pc + 3) lv (.ref (E.2.2 (rf S mm o 1)) :: st) mm) : WM G l E S pc lv (.ref (E.2.2 o) :: st) mm := x_get2 C hg (T := TX3) (N := 5) rfl inX3 (by decide) (i := 1) (gmem 129 (by decide +kernel) rfl) rfl rfl d k
theorem getX3_19 {G : Gt} {l : Launch} {E : Ev} {S : List Sh} {cc : ByteArray} {nL : Nat} {rt : Option FieldType} {fr lo : Nat} {pc : Nat} {lv : List (Nat × Value)} {st : List Value} {mm : Mm} {o : Nat} (C : Cx G E cc nL RX3 rt fr lo) (d : decode cc pc = .ok (.getfield 19, 3)) (hg : isC S o 3) (k : WM G l E S (pc + 3) lv (.int (mm.1 o 2) :: st) mm) : WM G l E S pc lv (.ref (E.2.2 o) :: st) mm := x_get0 C hg (T := TX3) (N := 5) rfl inX3 (by decide) (i := 2) (gmem 130 (by decide +kernel) rfl) rfl rfl d k
theorem getX3_23 {G : Gt} {l : Launch} {E : Ev} {S : List Sh} {cc : ByteArray} {nL : Nat} {rt : Option FieldType} {fr lo : Nat} {pc : Nat} {lv : List (Nat × Value)} {st : List Value} {mm : Mm} {o : Nat} (C : Cx G E cc nL RX3 rt fr lo) (d : decode cc pc = .ok (.getfield 23, 3)) (hg : isC S o 3) (k : WM G l E S (pc + 3) lv (.int (mm.1 o 3) :: st) mm) : WM G l E S pc lv (.ref (E.2.2 o) :: st) mm := x_get0 C hg (T := TX3) (N := 5) rfl inX3 (by decide) (i := 3) (gmem 131 (by decide +kernel) rfl) rfl rfl d k
theorem getX3_26 {G : Gt} {l : Launch} {E : Ev} {S : List Sh} {cc : ByteArray} {nL : Nat} {rt : Option FieldType} {fr lo : Nat} {pc : Nat} {lv : List (Nat × Value)} {st : List Value} {mm : Mm} {o : Nat} (C : Cx G E cc nL RX3 rt fr lo) (d : decode cc pc = .ok (.getfield 26, 3)) (hg : isC S o 3) (k : WM G l E S (pc + 3) lv (.int (mm.1 o 4) :: st) mm) : WM G l E S pc lv (.ref (E.2.2 o) :: st) mm := x_get0 C hg (T := TX3) (N := 5) rfl inX3 (by decide) (i := 4) (gmem 132 (by decide +kernel) rfl) rfl rfl d k
theorem getX3_29 {G : Gt} {l : Launch} {E : Ev} {S : List Sh} {cc : ByteArray} {nL : Nat} {rt : Option FieldType} {fr lo : Nat} {pc : Nat} {lv : List (Nat × Value)} {st : List Value} {mm : Mm} {o : Nat} (C : Cx G E cc nL RX3 rt fr lo) (d : decode cc pc = .ok (.getfield 29, 3)) (hg : isC S o 1) (k : WM G l E S (pc + 3) lv (.int (mm.1 o 10) :: st) mm) : WM G l E S pc lv (.ref (E.2.2 o) :: st) mm := x_getN0 C hg (T := TX1) (N := 11) rfl inX1 (by decide) (i := 10) (host := "LosslessFabric") (nmem 215 (by decide +kernel) rfl) rfl rfl d k
theorem getX3_48 {G : Gt} {l : Launch} {E : Ev} {S : List Sh} {cc : ByteArray} {nL : Nat} {rt : Option FieldType} {fr lo : Nat} {pc : Nat} {lv : List (Nat × Value)} {st : List Value} {mm : Mm} {o : Nat} (C : Cx G E cc nL RX3 rt fr lo) (d : decode cc pc = .ok (.getfield 48, 3)) (hg : isC S o 1) (k : WM G l E S (pc + 3) lv (.ref (E.2.2 (rf S mm o 1)) :: st) mm) : WM G l E S pc lv (.ref (E.2.2 o) :: st) mm := x_getN2 C hg (T := TX1) (N := 11) rfl inX1 (by decide) (i := 1) (host := "LosslessFabric") (nmem 183 (by decide +kernel) rfl) rfl rfl d k
theorem getX3_51 {G : Gt} {l : Launch} {E : Ev} {S : List Sh} {cc : ByteArray} {nL : Nat} {rt : Option FieldType} {fr lo : Nat} {pc : Nat} {lv : List (Nat × Value)} {st : List Value} {mm : Mm} {o : Nat} (C : Cx G E cc nL RX3 rt fr lo) (d : decode cc pc = .ok (.getfield 51, 3)) (hg : isC S o 1) (k : WM G l E S (pc + 3) lv (.ref (E.2.2 (rf S mm o 6)) :: st) mm) : WM G l E S pc lv (.ref (E.2.2 o) :: st) mm := x_getN2 C hg (T := TX1) (N := 11) rfl inX1 (by decide) (i := 6) (host := "LosslessFabric") (nmem 197 (by decide +kernel) rfl) rfl rfl d k
theorem putX3_23 {G : Gt} {l : Launch} {E : Ev} {S : List Sh} {cc : ByteArray} {nL : Nat} {rt : Option FieldType} {fr lo : Nat} {pc : Nat} {lv : List (Nat × Value)} {st : List Value} {mm : Mm} {o : Nat} {α : Type} {f : Mm → Option α} {r : α} {x : Int32} (C : Cx G E cc nL RX3 rt fr lo) (d : decode cc pc = .ok (.putfield 23, 3)) (hg : isC S o 3) (h : bd1 (some (u1 mm o 3 x)) f = some r) (k : ∀ m1, f m1 = some r → WM G l E S (pc + 3) lv st m1) : WM G l E S pc lv (.int x :: .ref (E.2.2 o) :: st) mm := x_putI C hg (T := TX3) (N := 5) rfl inX3 (by decide) (i := 3) (gmem 131 (by decide +kernel) rfl) rfl tyX3 tyX3_ok nmX3 rfl rfl (by decide) (by decide +kernel) d (k _ h)
theorem putX3_26 {G : Gt} {l : Launch} {E : Ev} {S : List Sh} {cc : ByteArray} {nL : Nat} {rt : Option FieldType} {fr lo : Nat} {pc : Nat} {lv : List (Nat × Value)} {st : List Value} {mm : Mm} {o : Nat} {α : Type} {f : Mm → Option α} {r : α} {x : Int32} (C : Cx G E cc nL RX3 rt fr lo) (d : decode cc pc = .ok (.putfield 26, 3)) (hg : isC S o 3) (h : bd1 (some (u1 mm o 4 x)) f = some r) (k : ∀ m1, f m1 = some r → WM G l E S (pc + 3) lv st m1) : WM G l E S pc lv (.int x :: .ref (E.2.2 o) :: st) mm := x_putI C hg (T := TX3) (N := 5) rfl inX3 (by decide) (i := 4) (gmem 132 (by decide +kernel) rfl) rfl tyX3 tyX3_ok nmX3 rfl rfl (by decide) (by decide +kernel) d (k _ h)
abbrev eX3_lookAt : List (Nat × Instr × Nat) := [(0, .aload_n 0, 1), (1, .aload_n 1, 1), (2, .getfield 48, 3), (5, .iload_n 2, 1), (6, .iaload, 1), (7, .aload_n 0, 1), (8, .getfield 19, 3), (11, .imul, 1), (12, .putfield 23, 3), (15, .aload_n 0, 1), (16, .iconst 0, 1), (17, .putfield 26, 3), (20, .iconst 0, 1), (21, .istore_n 3, 1), (22, .iload_n 3, 1), (23, .aload_n 1, 1), (24, .getfield 29, 3), (27, .if_icmp .ge 65, 3), (30, .aload_n 1, 1), (31, .getfield 51, 3), (34, .iload_n 2, 1), (35, .bipush 8, 2), (37, .imul, 1), (38, .iload_n 3, 1), (39, .iadd, 1), (40, .iaload, 1), (41, .bipush (-2), 2), (43, .if_icmp .ne 6, 3), (46, .goto 40, 3), (49, .aload_n 0, 1), (50, .getfield 15, 3), (53, .iload_n 3, 1), (54, .baload, 1), (55, .ifCond .eq 21, 3), (58, .aload_n 0, 1), (59, .dup, 1), (60, .getfield 23, 3), (63, .aload_n 0, 1), (64, .getfield 9, 3), (67, .iload_n 3, 1), (68, .iaload, 1), (69, .isub, 1), (70, .putfield 23, 3), (73, .goto 13, 3), (76, .aload_n 0, 1), (77, .dup, 1), (78, .getfield 26, 3), (81, .iconst 1, 1), (82, .iadd, 1), (83, .putfield 26, 3), (86, .iinc 3 1, 3), (89, .goto (-67), 3), (92, .return_, 1)]
theorem DX3_lookAt : (eX3_lookAt.all fun q => decide (decode cX3_lookAt q.1 = .ok q.2)) = true := by decide +kernel
def jX3_lookAt_86 (S : List Sh) (mm : Mm) (x0 : Nat) (x1 : Nat) (x2 : Int32) (x3 : Int32)  : Option ((Int32 × Mm) ⊕ (Mm)) := some (.inl (x3 + 1, mm))
def bX3_lookAt_22 (S : List Sh) (x0 : Nat) (x1 : Nat) (x2 : Int32) (x3 : Int32) (mm : Mm) : Option ((Int32 × Mm) ⊕ (Mm)) := if (mm.1 x1 10) ≤ x3 then (some (.inr (mm))) else (bd1 (ldA S 0 mm (rf S mm x1 6) ((x2 * 8) + x3)) fun a4 => if ¬ a4 = (-2) then (bd1 (ldA S 2 mm (rf S mm x0 1) x3) fun a5 => if a5 = 0 then (bd1 (some (u1 mm x0 4 ((mm.1 x0 4) + 1))) fun m6 => jX3_lookAt_86 S m6 x0 x1 x2 x3) else (bd1 (ldA S 0 mm (rf S mm x0 0) x3) fun a7 => bd1 (some (u1 mm x0 3 ((mm.1 x0 3) - a7))) fun m8 => jX3_lookAt_86 S m8 x0 x1 x2 x3)) else (jX3_lookAt_86 S mm x0 x1 x2 x3))
def fX3_lookAt (S : List Sh) (mm : Mm) (x0 : Nat) (x1 : Nat) (x2 : Int32) : Option (Mm) := gd S x0 3 (gd S x1 1 (bd1 (ldA S 0 mm (rf S mm x1 1) x2) fun a1 => bd1 (some (u1 mm x0 3 (a1 * (mm.1 x0 2)))) fun m2 => bd1 (some (u1 m2 x0 4 0)) fun m3 => bd1 (lp (fun s9 => bX3_lookAt_22 S x0 x1 x2 s9.1 s9.2) fu (0, m3)) fun y10 => some y10))
set_option maxHeartbeats 1000000 in
theorem tX3_lookAt_86 {G : Gt} {l : Launch} {E : Ev} {S : List Sh} {mm : Mm} {x0 : Nat} {x1 : Nat} {x2 : Int32} {x3 : Int32}  {r : (Int32 × Mm) ⊕ (Mm)} (C : Cx G E cX3_lookAt 4 RX3 none 0 0) (g0 : isC S x0 3) (g1 : isC S x1 1) (h : jX3_lookAt_86 S mm x0 x1 x2 x3 = some r) (kb : ∀ z : Int32 × Mm, r = .inl z → WM G l E S 22 [(0, .ref (E.2.2 x0)), (1, .ref (E.2.2 x1)), (2, .int x2), (3, .int z.1)] [] z.2) (kx : ∀ z : Mm, r = .inr z → WM G l E S 92 [(0, .ref (E.2.2 x0)), (1, .ref (E.2.2 x1)), (2, .int x2)] [] z) : WM G l E S 86 [(0, .ref (E.2.2 x0)), (1, .ref (E.2.2 x1)), (2, .int x2), (3, .int x3)] [] mm := by
  unfold jX3_lookAt_86 at h
  refine x_iinc (v := x3 + 1) (lv' := [(3, .int (x3 + 1)), (0, .ref (E.2.2 x0)), (1, .ref (E.2.2 x1)), (2, .int x2)]) C (dq DX3_lookAt 50 rfl) 3 rfl rfl (by decide) rfl ?_
  refine x_goto (tgt := 22) C (dq DX3_lookAt 51 rfl) (by decide) ?_
  cases h
  exact x_lv [1, 2, 3, 0] rfl (kb (x3 + 1, mm) rfl)
set_option maxHeartbeats 1000000 in
theorem tX3_lookAt_22 {G : Gt} {l : Launch} {E : Ev} {S : List Sh} {x0 : Nat} {x1 : Nat} {x2 : Int32} {x3 : Int32} {mm : Mm} {r : (Int32 × Mm) ⊕ (Mm)} (C : Cx G E cX3_lookAt 4 RX3 none 0 0) (g0 : isC S x0 3) (g1 : isC S x1 1) (h : bX3_lookAt_22 S x0 x1 x2 x3 mm = some r) (kb : ∀ z : Int32 × Mm, r = .inl z → WM G l E S 22 [(0, .ref (E.2.2 x0)), (1, .ref (E.2.2 x1)), (2, .int x2), (3, .int z.1)] [] z.2) (kx : ∀ z : Mm, r = .inr z → WM G l E S 92 [(0, .ref (E.2.2 x0)), (1, .ref (E.2.2 x1)), (2, .int x2)] [] z) : WM G l E S 22 [(0, .ref (E.2.2 x0)), (1, .ref (E.2.2 x1)), (2, .int x2), (3, .int x3)] [] mm := by
  unfold bX3_lookAt_22 at h
  refine x_iload_n C (dq DX3_lookAt 14 rfl) rfl 3 rfl ?_
  refine x_aload_n C (dq DX3_lookAt 15 rfl) rfl 1 rfl ?_
  refine getX3_29 C (dq DX3_lookAt 16 rfl) g1 ?_
  refine x_icmp_ge (tgt := 92) C (dq DX3_lookAt 17 rfl) (by decide) h (fun h => ?_) (fun h => ?_)
  · cases h
    exact x_lv [0, 1, 2] rfl (kx (mm) rfl)
  · refine x_pc 30 rfl ?_
    refine x_aload_n C (dq DX3_lookAt 18 rfl) rfl 1 rfl ?_
    refine getX3_51 C (dq DX3_lookAt 19 rfl) g1 ?_
    refine x_iload_n C (dq DX3_lookAt 20 rfl) rfl 2 rfl ?_
    refine x_bipush (v := 8) C (dq DX3_lookAt 21 rfl) (by decide) ?_
    refine x_imul C (dq DX3_lookAt 22 rfl) ?_
    refine x_pc 38 rfl ?_
    refine x_iload_n C (dq DX3_lookAt 23 rfl) rfl 3 rfl ?_
    refine x_iadd C (dq DX3_lookAt 24 rfl) ?_
    refine x_iald C (dq DX3_lookAt 25 rfl) h (fun a4 h => ?_)
    refine x_bipush (v := (-2)) C (dq DX3_lookAt 26 rfl) (by decide) ?_
    refine x_icmp_ne (tgt := 49) C (dq DX3_lookAt 27 rfl) (by decide) h (fun h => ?_) (fun h => ?_)
    · refine x_pc 49 rfl ?_
      refine x_aload_n C (dq DX3_lookAt 29 rfl) rfl 0 rfl ?_
      refine getX3_15 C (dq DX3_lookAt 30 rfl) g0 ?_
      refine x_iload_n C (dq DX3_lookAt 31 rfl) rfl 3 rfl ?_
      refine x_zald C (dq DX3_lookAt 32 rfl) h (fun a5 h => ?_)
      refine x_if_eq (tgt := 76) C (dq DX3_lookAt 33 rfl) (by decide) h (fun h => ?_) (fun h => ?_)
      · refine x_pc 76 rfl ?_
        refine x_aload_n C (dq DX3_lookAt 44 rfl) rfl 0 rfl ?_
        refine x_dup C (dq DX3_lookAt 45 rfl) rfl ?_
        refine getX3_26 C (dq DX3_lookAt 46 rfl) g0 ?_
        refine x_iconst (v := 1) C (dq DX3_lookAt 47 rfl) (by decide) ?_
        refine x_iadd C (dq DX3_lookAt 48 rfl) ?_
        refine x_pc 83 rfl ?_
        refine putX3_26 C (dq DX3_lookAt 49 rfl) g0 h (fun m6 h => ?_)
        exact x_lv [0, 1, 2, 3] rfl (tX3_lookAt_86 C g0 g1 h kb kx)
      · refine x_pc 58 rfl ?_
        refine x_aload_n C (dq DX3_lookAt 34 rfl) rfl 0 rfl ?_
        refine x_dup C (dq DX3_lookAt 35 rfl) rfl ?_
        refine getX3_23 C (dq DX3_lookAt 36 rfl) g0 ?_
        refine x_aload_n C (dq DX3_lookAt 37 rfl) rfl 0 rfl ?_
        refine getX3_9 C (dq DX3_lookAt 38 rfl) g0 ?_
        refine x_pc 67 rfl ?_
        refine x_iload_n C (dq DX3_lookAt 39 rfl) rfl 3 rfl ?_
        refine x_iald C (dq DX3_lookAt 40 rfl) h (fun a7 h => ?_)
        refine x_isub C (dq DX3_lookAt 41 rfl) ?_
        refine putX3_23 C (dq DX3_lookAt 42 rfl) g0 h (fun m8 h => ?_)
        refine x_goto (tgt := 86) C (dq DX3_lookAt 43 rfl) (by decide) ?_
        exact x_lv [0, 1, 2, 3] rfl (tX3_lookAt_86 C g0 g1 h kb kx)
    · refine x_pc 46 rfl ?_
      refine x_goto (tgt := 86) C (dq DX3_lookAt 28 rfl) (by decide) ?_
      exact x_lv [0, 1, 2, 3] rfl (tX3_lookAt_86 C g0 g1 h kb kx)
set_option maxHeartbeats 1000000 in
theorem mX3_lookAt {l : Launch} {E : Ev} {S : List Sh} {mm : Mm} {x0 : Nat} {x1 : Nat} {x2 : Int32} {r : Mm} (h : fX3_lookAt S mm x0 x1 x2 = some r) : Ml l E S yX3_lookAt cX3_lookAt 4 none 0 0 [.ref (E.2.2 x0), .ref (E.2.2 x1), .int x2] mm none r := by
  refine Ml.of (by decide +kernel) (Nat.le_of_ble_eq_true rfl) (fun G C hQ => ?_)
  have C : Cx G E cX3_lookAt 4 RX3 none 0 0 := C
  unfold fX3_lookAt at h
  obtain ⟨g0, h⟩ := gd_some h
  obtain ⟨g1, h⟩ := gd_some h
  show WM G l E S 0 [(0, .ref (E.2.2 x0)), (1, .ref (E.2.2 x1)), (2, .int x2)] [] mm
  refine x_aload_n C (dq DX3_lookAt 0 rfl) rfl 0 rfl ?_
  refine x_aload_n C (dq DX3_lookAt 1 rfl) rfl 1 rfl ?_
  refine getX3_48 C (dq DX3_lookAt 2 rfl) g1 ?_
  refine x_iload_n C (dq DX3_lookAt 3 rfl) rfl 2 rfl ?_
  refine x_pc 6 rfl ?_
  refine x_iald C (dq DX3_lookAt 4 rfl) h (fun a1 h => ?_)
  refine x_aload_n C (dq DX3_lookAt 5 rfl) rfl 0 rfl ?_
  refine getX3_19 C (dq DX3_lookAt 6 rfl) g0 ?_
  refine x_imul C (dq DX3_lookAt 7 rfl) ?_
  refine putX3_23 C (dq DX3_lookAt 8 rfl) g0 h (fun m2 h => ?_)
  refine x_pc 15 rfl ?_
  refine x_aload_n C (dq DX3_lookAt 9 rfl) rfl 0 rfl ?_
  refine x_iconst (v := 0) C (dq DX3_lookAt 10 rfl) (by decide) ?_
  refine putX3_26 C (dq DX3_lookAt 11 rfl) g0 h (fun m3 h => ?_)
  refine x_iconst (v := 0) C (dq DX3_lookAt 12 rfl) (by decide) ?_
  refine x_istore_n (lv' := [(3, .int 0), (0, .ref (E.2.2 x0)), (1, .ref (E.2.2 x1)), (2, .int x2)]) C (dq DX3_lookAt 13 rfl) rfl (by decide) rfl ?_
  refine x_lv [1, 2, 3, 0] rfl ?_
  refine x_loop (s0 := (0, m3)) (fun s9 => WM G l E S 22 [(0, .ref (E.2.2 x0)), (1, .ref (E.2.2 x1)), (2, .int x2), (3, .int s9.1)] [] s9.2) h (fun s9 r hb kb kx => tX3_lookAt_22 C g0 g1 hb kb (fun y10 hy => ?_))
  have h := kx y10 hy
  clear kx kb hb hy
  refine x_pc 92 rfl ?_
  cases h
  exact x_vret C (dq DX3_lookAt 52 rfl) hQ
set_option maxHeartbeats 1000000 in
theorem qX3_lookAt {S : List Sh} {mm : Mm} {x0 : Nat} {x1 : Nat} {x2 : Int32} {r : Mm} (h : fX3_lookAt S mm x0 x1 x2 = some r) : isC S x0 3 := by
  unfold fX3_lookAt at h
  exact (gd_some h).1
theorem getX3_42 {G : Gt} {l : Launch} {E : Ev} {S : List Sh} {cc : ByteArray} {nL : Nat} {rt : Option FieldType} {fr lo : Nat} {pc : Nat} {lv : List (Nat × Value)} {st : List Value} {mm : Mm} {o : Nat} (C : Cx G E cc nL RX3 rt fr lo) (d : decode cc pc = .ok (.getfield 42, 3)) (hg : isC S o 1) (k : WM G l E S (pc + 3) lv (.int (mm.1 o 9) :: st) mm) : WM G l E S pc lv (.ref (E.2.2 o) :: st) mm := x_getN0 C hg (T := TX1) (N := 11) rfl inX1 (by decide) (i := 9) (host := "LosslessFabric") (nmem 210 (by decide +kernel) rfl) rfl rfl d k
theorem callX3_45 {G : Gt} {l : Launch} {E : Ev} {S : List Sh} {cc : ByteArray} {nL : Nat} {rt : Option FieldType} {fr lo : Nat} {pc : Nat} {lv : List (Nat × Value)} {rest : List Value} {mm : Mm} {α : Type} {f : Mm → Option α} {r : α} {o : Nat} {a0 : Nat} {a1 : Int32} (C : Cx G E cc nL RX3 rt fr lo) (d : decode cc pc = .ok (.invokevirtual 45, 3)) (h : bd1 (fX3_lookAt S mm o a0 a1) f = some r) (hfr : 1 ≤ fr) (hlo : 23 ≤ lo) (hrs : (rest.map fun v => v.category).sum ≤ 8) (k : ∀ m1, f m1 = some r → WM G l E S (pc + 3) lv rest m1) : WM G l E S pc lv (.int a1 :: .ref (E.2.2 a0) :: .ref (E.2.2 o) :: rest) mm := by
  obtain ⟨m1, hv, hf⟩ := bd1_some h
  exact x_callV (n := 2) (As := [.ref (E.2.2 a0), .int a1]) (rest := rest) C (mX3_lookAt hv) (qX3_lookAt hv) (T := TX3) (N := 5) rfl (gmem 623 (by decide +kernel) rfl) (gmem 625 (by decide +kernel) rfl) (gmemS 29 (by decide +kernel) rfl) (gmem 6 (by decide +kernel) rfl) (gmem 626 (by decide +kernel) rfl) (by decide +kernel) rfl hfr hlo hrs d rfl rfl (k m1 hf)
abbrev eX3_firstToFill : List (Nat × Instr × Nat) := [(0, .iconst (-1), 1), (1, .istore_n 2, 1), (2, .iconst 0, 1), (3, .istore_n 3, 1), (4, .iconst 1, 1), (5, .istore 4, 2), (7, .iconst 0, 1), (8, .istore 5, 2), (10, .iload 5, 2), (12, .aload_n 1, 1), (13, .getfield 42, 3), (16, .if_icmp .ge 58, 3), (19, .aload_n 0, 1), (20, .aload_n 1, 1), (21, .iload 5, 2), (23, .invokevirtual 45, 3), (26, .aload_n 0, 1), (27, .getfield 26, 3), (30, .ifCond .le 38, 3), (33, .iload_n 2, 1), (34, .iconst (-1), 1), (35, .if_icmp .eq 19, 3), (38, .aload_n 0, 1), (39, .getfield 23, 3), (42, .iload 4, 2), (44, .imul, 1), (45, .iload_n 3, 1), (46, .aload_n 0, 1), (47, .getfield 26, 3), (50, .imul, 1), (51, .if_icmp .ge 17, 3), (54, .iload 5, 2), (56, .istore_n 2, 1), (57, .aload_n 0, 1), (58, .getfield 23, 3), (61, .istore_n 3, 1), (62, .aload_n 0, 1), (63, .getfield 26, 3), (66, .istore 4, 2), (68, .iinc 5 1, 3), (71, .goto (-61), 3), (74, .iload_n 2, 1), (75, .ireturn, 1)]
theorem DX3_firstToFill : (eX3_firstToFill.all fun q => decide (decode cX3_firstToFill q.1 = .ok q.2)) = true := by decide +kernel
def jX3_firstToFill_68 (S : List Sh) (mm : Mm) (x0 : Nat) (x1 : Nat) (x2 : Int32) (x3 : Int32) (x4 : Int32) (x5 : Int32)  : Option ((Int32 × Int32 × Int32 × Int32 × Mm) ⊕ (Int32 × Mm)) := some (.inl (x2, x3, x4, x5 + 1, mm))
def jX3_firstToFill_54 (S : List Sh) (mm : Mm) (x0 : Nat) (x1 : Nat) (x5 : Int32)  : Option ((Int32 × Int32 × Int32 × Int32 × Mm) ⊕ (Int32 × Mm)) := jX3_firstToFill_68 S mm x0 x1 x5 (mm.1 x0 3) (mm.1 x0 4) x5
def bX3_firstToFill_10 (S : List Sh) (x0 : Nat) (x1 : Nat) (x2 : Int32) (x3 : Int32) (x4 : Int32) (x5 : Int32) (mm : Mm) : Option ((Int32 × Int32 × Int32 × Int32 × Mm) ⊕ (Int32 × Mm)) := if (mm.1 x1 9) ≤ x5 then (some (.inr (x2, mm))) else (bd1 (fX3_lookAt S mm x0 x1 x5) fun m1 => if (m1.1 x0 4) ≤ 0 then (jX3_firstToFill_68 S m1 x0 x1 x2 x3 x4 x5) else (if x2 = (-1) then (jX3_firstToFill_54 S m1 x0 x1 x5) else (if (x3 * (m1.1 x0 4)) ≤ ((m1.1 x0 3) * x4) then (jX3_firstToFill_68 S m1 x0 x1 x2 x3 x4 x5) else (jX3_firstToFill_54 S m1 x0 x1 x5))))
def fX3_firstToFill (S : List Sh) (mm : Mm) (x0 : Nat) (x1 : Nat) : Option (Int32 × Mm) := gd S x0 3 (gd S x1 1 (bd1 (lp (fun s2 => bX3_firstToFill_10 S x0 x1 s2.1 s2.2.1 s2.2.2.1 s2.2.2.2.1 s2.2.2.2.2) fu ((-1), 0, 1, 0, mm)) fun y3 => some (y3.1, y3.2)))
set_option maxHeartbeats 1000000 in
theorem tX3_firstToFill_68 {G : Gt} {l : Launch} {E : Ev} {S : List Sh} {mm : Mm} {x0 : Nat} {x1 : Nat} {x2 : Int32} {x3 : Int32} {x4 : Int32} {x5 : Int32}  {r : (Int32 × Int32 × Int32 × Int32 × Mm) ⊕ (Int32 × Mm)} (C : Cx G E cX3_firstToFill 6 RX3 (some .int) 1 23) (g0 : isC S x0 3) (g1 : isC S x1 1) (h : jX3_firstToFill_68 S mm x0 x1 x2 x3 x4 x5 = some r) (kb : ∀ z : Int32 × Int32 × Int32 × Int32 × Mm, r = .inl z → WM G l E S 10 [(0, .ref (E.2.2 x0)), (1, .ref (E.2.2 x1)), (2, .int z.1), (3, .int z.2.1), (4, .int z.2.2.1), (5, .int z.2.2.2.1)] [] z.2.2.2.2) (kx : ∀ z : Int32 × Mm, r = .inr z → WM G l E S 74 [(0, .ref (E.2.2 x0)), (1, .ref (E.2.2 x1)), (2, .int z.1)] [] z.2) : WM G l E S 68 [(0, .ref (E.2.2 x0)), (1, .ref (E.2.2 x1)), (2, .int x2), (3, .int x3), (4, .int x4), (5, .int x5)] [] mm := by
  unfold jX3_firstToFill_68 at h
  refine x_iinc (v := x5 + 1) (lv' := [(5, .int (x5 + 1)), (0, .ref (E.2.2 x0)), (1, .ref (E.2.2 x1)), (2, .int x2), (3, .int x3), (4, .int x4)]) C (dq DX3_firstToFill 39 rfl) 5 rfl rfl (by decide) rfl ?_
  refine x_goto (tgt := 10) C (dq DX3_firstToFill 40 rfl) (by decide) ?_
  cases h
  exact x_lv [1, 2, 3, 4, 5, 0] rfl (kb (x2, x3, x4, x5 + 1, mm) rfl)
set_option maxHeartbeats 1000000 in
theorem tX3_firstToFill_54 {G : Gt} {l : Launch} {E : Ev} {S : List Sh} {mm : Mm} {x0 : Nat} {x1 : Nat} {x5 : Int32}  {r : (Int32 × Int32 × Int32 × Int32 × Mm) ⊕ (Int32 × Mm)} (C : Cx G E cX3_firstToFill 6 RX3 (some .int) 1 23) (g0 : isC S x0 3) (g1 : isC S x1 1) (h : jX3_firstToFill_54 S mm x0 x1 x5 = some r) (kb : ∀ z : Int32 × Int32 × Int32 × Int32 × Mm, r = .inl z → WM G l E S 10 [(0, .ref (E.2.2 x0)), (1, .ref (E.2.2 x1)), (2, .int z.1), (3, .int z.2.1), (4, .int z.2.2.1), (5, .int z.2.2.2.1)] [] z.2.2.2.2) (kx : ∀ z : Int32 × Mm, r = .inr z → WM G l E S 74 [(0, .ref (E.2.2 x0)), (1, .ref (E.2.2 x1)), (2, .int z.1)] [] z.2) : WM G l E S 54 [(0, .ref (E.2.2 x0)), (1, .ref (E.2.2 x1)), (5, .int x5)] [] mm := by
  unfold jX3_firstToFill_54 at h
  refine x_iload C (dq DX3_firstToFill 31 rfl) 2 rfl ?_
  refine x_istore_n (lv' := [(2, .int x5), (0, .ref (E.2.2 x0)), (1, .ref (E.2.2 x1)), (5, .int x5)]) C (dq DX3_firstToFill 32 rfl) rfl (by decide) rfl ?_
  refine x_aload_n C (dq DX3_firstToFill 33 rfl) rfl 1 rfl ?_
  refine getX3_23 C (dq DX3_firstToFill 34 rfl) g0 ?_
  refine x_pc 61 rfl ?_
  refine x_istore_n (lv' := [(3, .int (mm.1 x0 3)), (2, .int x5), (0, .ref (E.2.2 x0)), (1, .ref (E.2.2 x1)), (5, .int x5)]) C (dq DX3_firstToFill 35 rfl) rfl (by decide) rfl ?_
  refine x_aload_n C (dq DX3_firstToFill 36 rfl) rfl 2 rfl ?_
  refine getX3_26 C (dq DX3_firstToFill 37 rfl) g0 ?_
  refine x_istore (lv' := [(4, .int (mm.1 x0 4)), (3, .int (mm.1 x0 3)), (2, .int x5), (0, .ref (E.2.2 x0)), (1, .ref (E.2.2 x1)), (5, .int x5)]) C (dq DX3_firstToFill 38 rfl) (by decide) rfl ?_
  exact x_lv [3, 4, 2, 1, 0, 5] rfl (tX3_firstToFill_68 C g0 g1 h kb kx)
set_option maxHeartbeats 1000000 in
theorem tX3_firstToFill_10 {G : Gt} {l : Launch} {E : Ev} {S : List Sh} {x0 : Nat} {x1 : Nat} {x2 : Int32} {x3 : Int32} {x4 : Int32} {x5 : Int32} {mm : Mm} {r : (Int32 × Int32 × Int32 × Int32 × Mm) ⊕ (Int32 × Mm)} (C : Cx G E cX3_firstToFill 6 RX3 (some .int) 1 23) (g0 : isC S x0 3) (g1 : isC S x1 1) (h : bX3_firstToFill_10 S x0 x1 x2 x3 x4 x5 mm = some r) (kb : ∀ z : Int32 × Int32 × Int32 × Int32 × Mm, r = .inl z → WM G l E S 10 [(0, .ref (E.2.2 x0)), (1, .ref (E.2.2 x1)), (2, .int z.1), (3, .int z.2.1), (4, .int z.2.2.1), (5, .int z.2.2.2.1)] [] z.2.2.2.2) (kx : ∀ z : Int32 × Mm, r = .inr z → WM G l E S 74 [(0, .ref (E.2.2 x0)), (1, .ref (E.2.2 x1)), (2, .int z.1)] [] z.2) : WM G l E S 10 [(0, .ref (E.2.2 x0)), (1, .ref (E.2.2 x1)), (2, .int x2), (3, .int x3), (4, .int x4), (5, .int x5)] [] mm := by
  unfold bX3_firstToFill_10 at h
  refine x_iload C (dq DX3_firstToFill 8 rfl) 5 rfl ?_
  refine x_aload_n C (dq DX3_firstToFill 9 rfl) rfl 1 rfl ?_
  refine getX3_42 C (dq DX3_firstToFill 10 rfl) g1 ?_
  refine x_icmp_ge (tgt := 74) C (dq DX3_firstToFill 11 rfl) (by decide) h (fun h => ?_) (fun h => ?_)
  · cases h
    exact x_lv [0, 1, 2] rfl (kx (x2, mm) rfl)
  · refine x_pc 19 rfl ?_
    refine x_aload_n C (dq DX3_firstToFill 12 rfl) rfl 0 rfl ?_
    refine x_aload_n C (dq DX3_firstToFill 13 rfl) rfl 1 rfl ?_
    refine x_iload C (dq DX3_firstToFill 14 rfl) 5 rfl ?_
    refine callX3_45 C (dq DX3_firstToFill 15 rfl) h (by decide) (by decide) (Nat.le_of_ble_eq_true rfl) (fun m1 h => ?_)
    refine x_aload_n C (dq DX3_firstToFill 16 rfl) rfl 0 rfl ?_
    refine x_pc 27 rfl ?_
    refine getX3_26 C (dq DX3_firstToFill 17 rfl) g0 ?_
    refine x_if_le (tgt := 68) C (dq DX3_firstToFill 18 rfl) (by decide) h (fun h => ?_) (fun h => ?_)
    · exact x_lv [0, 1, 2, 3, 4, 5] rfl (tX3_firstToFill_68 C g0 g1 h kb kx)
    · refine x_iload_n C (dq DX3_firstToFill 19 rfl) rfl 2 rfl ?_
      refine x_iconst (v := (-1)) C (dq DX3_firstToFill 20 rfl) (by decide) ?_
      refine x_icmp_eq (tgt := 54) C (dq DX3_firstToFill 21 rfl) (by decide) h (fun h => ?_) (fun h => ?_)
      · exact x_lv [0, 1, 5] rfl (tX3_firstToFill_54 C g0 g1 h kb kx)
      · refine x_pc 38 rfl ?_
        refine x_aload_n C (dq DX3_firstToFill 22 rfl) rfl 0 rfl ?_
        refine getX3_23 C (dq DX3_firstToFill 23 rfl) g0 ?_
        refine x_iload C (dq DX3_firstToFill 24 rfl) 4 rfl ?_
        refine x_imul C (dq DX3_firstToFill 25 rfl) ?_
        refine x_iload_n C (dq DX3_firstToFill 26 rfl) rfl 3 rfl ?_
        refine x_pc 46 rfl ?_
        refine x_aload_n C (dq DX3_firstToFill 27 rfl) rfl 0 rfl ?_
        refine getX3_26 C (dq DX3_firstToFill 28 rfl) g0 ?_
        refine x_imul C (dq DX3_firstToFill 29 rfl) ?_
        refine x_icmp_ge (tgt := 68) C (dq DX3_firstToFill 30 rfl) (by decide) h (fun h => ?_) (fun h => ?_)
        · exact x_lv [0, 1, 2, 3, 4, 5] rfl (tX3_firstToFill_68 C g0 g1 h kb kx)
        · exact x_lv [0, 1, 5] rfl (tX3_firstToFill_54 C g0 g1 h kb kx)
set_option maxHeartbeats 1000000 in
theorem mX3_firstToFill {l : Launch} {E : Ev} {S : List Sh} {mm : Mm} {x0 : Nat} {x1 : Nat} {r : Int32 × Mm} (h : fX3_firstToFill S mm x0 x1 = some r) : Ml l E S yX3_firstToFill cX3_firstToFill 6 (some .int) 1 23 [.ref (E.2.2 x0), .ref (E.2.2 x1)] mm (some (.int r.1)) r.2 := by
  refine Ml.of (by decide +kernel) (Nat.le_of_ble_eq_true rfl) (fun G C hQ => ?_)
  have C : Cx G E cX3_firstToFill 6 RX3 (some .int) 1 23 := C
  unfold fX3_firstToFill at h
  obtain ⟨g0, h⟩ := gd_some h
  obtain ⟨g1, h⟩ := gd_some h
  show WM G l E S 0 [(0, .ref (E.2.2 x0)), (1, .ref (E.2.2 x1))] [] mm
  refine x_iconst (v := (-1)) C (dq DX3_firstToFill 0 rfl) (by decide) ?_
  refine x_istore_n (lv' := [(2, .int (-1)), (0, .ref (E.2.2 x0)), (1, .ref (E.2.2 x1))]) C (dq DX3_firstToFill 1 rfl) rfl (by decide) rfl ?_
  refine x_iconst (v := 0) C (dq DX3_firstToFill 2 rfl) (by decide) ?_
  refine x_istore_n (lv' := [(3, .int 0), (2, .int (-1)), (0, .ref (E.2.2 x0)), (1, .ref (E.2.2 x1))]) C (dq DX3_firstToFill 3 rfl) rfl (by decide) rfl ?_
  refine x_pc 4 rfl ?_
  refine x_iconst (v := 1) C (dq DX3_firstToFill 4 rfl) (by decide) ?_
  refine x_istore (lv' := [(4, .int 1), (3, .int 0), (2, .int (-1)), (0, .ref (E.2.2 x0)), (1, .ref (E.2.2 x1))]) C (dq DX3_firstToFill 5 rfl) (by decide) rfl ?_
  refine x_iconst (v := 0) C (dq DX3_firstToFill 6 rfl) (by decide) ?_
  refine x_istore (lv' := [(5, .int 0), (4, .int 1), (3, .int 0), (2, .int (-1)), (0, .ref (E.2.2 x0)), (1, .ref (E.2.2 x1))]) C (dq DX3_firstToFill 7 rfl) (by decide) rfl ?_
  refine x_lv [4, 5, 3, 2, 1, 0] rfl ?_
  refine x_loop (s0 := ((-1), 0, 1, 0, mm)) (fun s2 => WM G l E S 10 [(0, .ref (E.2.2 x0)), (1, .ref (E.2.2 x1)), (2, .int s2.1), (3, .int s2.2.1), (4, .int s2.2.2.1), (5, .int s2.2.2.2.1)] [] s2.2.2.2.2) h (fun s2 r hb kb kx => tX3_firstToFill_10 C g0 g1 hb kb (fun y3 hy => ?_))
  have h := kx y3 hy
  clear kx kb hb hy
  refine x_iload_n C (dq DX3_firstToFill 41 rfl) rfl 2 rfl ?_
  refine x_pc 75 rfl ?_
  cases h
  exact x_iret C (dq DX3_firstToFill 42 rfl) hQ
set_option maxHeartbeats 1000000 in
theorem qX3_firstToFill {S : List Sh} {mm : Mm} {x0 : Nat} {x1 : Nat} {r : Int32 × Mm} (h : fX3_firstToFill S mm x0 x1 = some r) : isC S x0 3 := by
  unfold fX3_firstToFill at h
  exact (gd_some h).1
theorem putX3_19 {G : Gt} {l : Launch} {E : Ev} {S : List Sh} {cc : ByteArray} {nL : Nat} {rt : Option FieldType} {fr lo : Nat} {pc : Nat} {lv : List (Nat × Value)} {st : List Value} {mm : Mm} {o : Nat} {α : Type} {f : Mm → Option α} {r : α} {x : Int32} (C : Cx G E cc nL RX3 rt fr lo) (d : decode cc pc = .ok (.putfield 19, 3)) (hg : isC S o 3) (h : bd1 (some (u1 mm o 2 x)) f = some r) (k : ∀ m1, f m1 = some r → WM G l E S (pc + 3) lv st m1) : WM G l E S pc lv (.int x :: .ref (E.2.2 o) :: st) mm := x_putI C hg (T := TX3) (N := 5) rfl inX3 (by decide) (i := 2) (gmem 130 (by decide +kernel) rfl) rfl tyX3 tyX3_ok nmX3 rfl rfl (by decide) (by decide +kernel) d (k _ h)
abbrev eX3_hold : List (Nat × Instr × Nat) := [(0, .aload_n 0, 1), (1, .aload_n 1, 1), (2, .iload_n 2, 1), (3, .invokevirtual 45, 3), (6, .aload_n 0, 1), (7, .dup, 1), (8, .getfield 19, 3), (11, .aload_n 0, 1), (12, .getfield 26, 3), (15, .imul, 1), (16, .putfield 19, 3), (19, .iconst 0, 1), (20, .istore_n 3, 1), (21, .iload_n 3, 1), (22, .aload_n 1, 1), (23, .getfield 29, 3), (26, .if_icmp .ge 67, 3), (29, .aload_n 0, 1), (30, .getfield 15, 3), (33, .iload_n 3, 1), (34, .baload, 1), (35, .ifCond .eq 19, 3), (38, .aload_n 0, 1), (39, .getfield 9, 3), (42, .iload_n 3, 1), (43, .dup2, 1), (44, .iaload, 1), (45, .aload_n 0, 1), (46, .getfield 26, 3), (49, .imul, 1), (50, .iastore, 1), (51, .goto 36, 3), (54, .aload_n 1, 1), (55, .getfield 51, 3), (58, .iload_n 2, 1), (59, .bipush 8, 2), (61, .imul, 1), (62, .iload_n 3, 1), (63, .iadd, 1), (64, .iaload, 1), (65, .bipush (-2), 2), (67, .if_icmp .eq 20, 3), (70, .aload_n 0, 1), (71, .getfield 9, 3), (74, .iload_n 3, 1), (75, .aload_n 0, 1), (76, .getfield 23, 3), (79, .iastore, 1), (80, .aload_n 0, 1), (81, .getfield 15, 3), (84, .iload_n 3, 1), (85, .iconst 1, 1), (86, .bastore, 1), (87, .iinc 3 1, 3), (90, .goto (-69), 3), (93, .return_, 1)]
theorem DX3_hold : (eX3_hold.all fun q => decide (decode cX3_hold q.1 = .ok q.2)) = true := by decide +kernel
def jX3_hold_87 (S : List Sh) (mm : Mm) (x0 : Nat) (x1 : Nat) (x2 : Int32) (x3 : Int32)  : Option ((Int32 × Mm) ⊕ (Mm)) := some (.inl (x3 + 1, mm))
def bX3_hold_21 (S : List Sh) (x0 : Nat) (x1 : Nat) (x2 : Int32) (x3 : Int32) (mm : Mm) : Option ((Int32 × Mm) ⊕ (Mm)) := if (mm.1 x1 10) ≤ x3 then (some (.inr (mm))) else (bd1 (ldA S 2 mm (rf S mm x0 1) x3) fun a3 => if a3 = 0 then (bd1 (ldA S 0 mm (rf S mm x1 6) ((x2 * 8) + x3)) fun a4 => if a4 = (-2) then (jX3_hold_87 S mm x0 x1 x2 x3) else (bd1 (stA S 0 mm (rf S mm x0 0) x3 (mm.1 x0 3)) fun m5 => bd1 (stA S 2 m5 (rf S m5 x0 1) x3 1) fun m6 => jX3_hold_87 S m6 x0 x1 x2 x3)) else (bd1 (ldA S 0 mm (rf S mm x0 0) x3) fun a7 => bd1 (stA S 0 mm (rf S mm x0 0) x3 (a7 * (mm.1 x0 4))) fun m8 => jX3_hold_87 S m8 x0 x1 x2 x3))
def fX3_hold (S : List Sh) (mm : Mm) (x0 : Nat) (x1 : Nat) (x2 : Int32) : Option (Mm) := gd S x0 3 (gd S x1 1 (bd1 (fX3_lookAt S mm x0 x1 x2) fun m1 => bd1 (some (u1 m1 x0 2 ((m1.1 x0 2) * (m1.1 x0 4)))) fun m2 => bd1 (lp (fun s9 => bX3_hold_21 S x0 x1 x2 s9.1 s9.2) fu (0, m2)) fun y10 => some y10))
set_option maxHeartbeats 1000000 in
theorem tX3_hold_87 {G : Gt} {l : Launch} {E : Ev} {S : List Sh} {mm : Mm} {x0 : Nat} {x1 : Nat} {x2 : Int32} {x3 : Int32}  {r : (Int32 × Mm) ⊕ (Mm)} (C : Cx G E cX3_hold 4 RX3 none 1 23) (g0 : isC S x0 3) (g1 : isC S x1 1) (h : jX3_hold_87 S mm x0 x1 x2 x3 = some r) (kb : ∀ z : Int32 × Mm, r = .inl z → WM G l E S 21 [(0, .ref (E.2.2 x0)), (1, .ref (E.2.2 x1)), (2, .int x2), (3, .int z.1)] [] z.2) (kx : ∀ z : Mm, r = .inr z → WM G l E S 93 [(0, .ref (E.2.2 x0)), (1, .ref (E.2.2 x1)), (2, .int x2)] [] z) : WM G l E S 87 [(0, .ref (E.2.2 x0)), (1, .ref (E.2.2 x1)), (2, .int x2), (3, .int x3)] [] mm := by
  unfold jX3_hold_87 at h
  refine x_iinc (v := x3 + 1) (lv' := [(3, .int (x3 + 1)), (0, .ref (E.2.2 x0)), (1, .ref (E.2.2 x1)), (2, .int x2)]) C (dq DX3_hold 53 rfl) 3 rfl rfl (by decide) rfl ?_
  refine x_goto (tgt := 21) C (dq DX3_hold 54 rfl) (by decide) ?_
  cases h
  exact x_lv [1, 2, 3, 0] rfl (kb (x3 + 1, mm) rfl)
set_option maxHeartbeats 1000000 in
theorem tX3_hold_21 {G : Gt} {l : Launch} {E : Ev} {S : List Sh} {x0 : Nat} {x1 : Nat} {x2 : Int32} {x3 : Int32} {mm : Mm} {r : (Int32 × Mm) ⊕ (Mm)} (C : Cx G E cX3_hold 4 RX3 none 1 23) (g0 : isC S x0 3) (g1 : isC S x1 1) (h : bX3_hold_21 S x0 x1 x2 x3 mm = some r) (kb : ∀ z : Int32 × Mm, r = .inl z → WM G l E S 21 [(0, .ref (E.2.2 x0)), (1, .ref (E.2.2 x1)), (2, .int x2), (3, .int z.1)] [] z.2) (kx : ∀ z : Mm, r = .inr z → WM G l E S 93 [(0, .ref (E.2.2 x0)), (1, .ref (E.2.2 x1)), (2, .int x2)] [] z) : WM G l E S 21 [(0, .ref (E.2.2 x0)), (1, .ref (E.2.2 x1)), (2, .int x2), (3, .int x3)] [] mm := by
  unfold bX3_hold_21 at h
  refine x_iload_n C (dq DX3_hold 13 rfl) rfl 3 rfl ?_
  refine x_aload_n C (dq DX3_hold 14 rfl) rfl 1 rfl ?_
  refine getX3_29 C (dq DX3_hold 15 rfl) g1 ?_
  refine x_icmp_ge (tgt := 93) C (dq DX3_hold 16 rfl) (by decide) h (fun h => ?_) (fun h => ?_)
  · cases h
    exact x_lv [0, 1, 2] rfl (kx (mm) rfl)
  · refine x_pc 29 rfl ?_
    refine x_aload_n C (dq DX3_hold 17 rfl) rfl 0 rfl ?_
    refine getX3_15 C (dq DX3_hold 18 rfl) g0 ?_
    refine x_iload_n C (dq DX3_hold 19 rfl) rfl 3 rfl ?_
    refine x_zald C (dq DX3_hold 20 rfl) h (fun a3 h => ?_)
    refine x_if_eq (tgt := 54) C (dq DX3_hold 21 rfl) (by decide) h (fun h => ?_) (fun h => ?_)
    · refine x_pc 54 rfl ?_
      refine x_aload_n C (dq DX3_hold 32 rfl) rfl 1 rfl ?_
      refine getX3_51 C (dq DX3_hold 33 rfl) g1 ?_
      refine x_iload_n C (dq DX3_hold 34 rfl) rfl 2 rfl ?_
      refine x_bipush (v := 8) C (dq DX3_hold 35 rfl) (by decide) ?_
      refine x_imul C (dq DX3_hold 36 rfl) ?_
      refine x_pc 62 rfl ?_
      refine x_iload_n C (dq DX3_hold 37 rfl) rfl 3 rfl ?_
      refine x_iadd C (dq DX3_hold 38 rfl) ?_
      refine x_iald C (dq DX3_hold 39 rfl) h (fun a4 h => ?_)
      refine x_bipush (v := (-2)) C (dq DX3_hold 40 rfl) (by decide) ?_
      refine x_icmp_eq (tgt := 87) C (dq DX3_hold 41 rfl) (by decide) h (fun h => ?_) (fun h => ?_)
      · exact x_lv [0, 1, 2, 3] rfl (tX3_hold_87 C g0 g1 h kb kx)
      · refine x_pc 70 rfl ?_
        refine x_aload_n C (dq DX3_hold 42 rfl) rfl 0 rfl ?_
        refine getX3_9 C (dq DX3_hold 43 rfl) g0 ?_
        refine x_iload_n C (dq DX3_hold 44 rfl) rfl 3 rfl ?_
        refine x_aload_n C (dq DX3_hold 45 rfl) rfl 0 rfl ?_
        refine getX3_23 C (dq DX3_hold 46 rfl) g0 ?_
        refine x_pc 79 rfl ?_
        refine x_iast C (dq DX3_hold 47 rfl) h (fun m5 h => ?_)
        refine x_aload_n C (dq DX3_hold 48 rfl) rfl 0 rfl ?_
        refine getX3_15 C (dq DX3_hold 49 rfl) g0 ?_
        refine x_iload_n C (dq DX3_hold 50 rfl) rfl 3 rfl ?_
        refine x_iconst (v := 1) C (dq DX3_hold 51 rfl) (by decide) ?_
        refine x_pc 86 rfl ?_
        refine x_zast C (dq DX3_hold 52 rfl) h (fun m6 h => ?_)
        exact x_lv [0, 1, 2, 3] rfl (tX3_hold_87 C g0 g1 h kb kx)
    · refine x_pc 38 rfl ?_
      refine x_aload_n C (dq DX3_hold 22 rfl) rfl 0 rfl ?_
      refine getX3_9 C (dq DX3_hold 23 rfl) g0 ?_
      refine x_iload_n C (dq DX3_hold 24 rfl) rfl 3 rfl ?_
      refine x_dup2 C (dq DX3_hold 25 rfl) rfl rfl ?_
      refine x_iald C (dq DX3_hold 26 rfl) h (fun a7 h => ?_)
      refine x_pc 45 rfl ?_
      refine x_aload_n C (dq DX3_hold 27 rfl) rfl 0 rfl ?_
      refine getX3_26 C (dq DX3_hold 28 rfl) g0 ?_
      refine x_imul C (dq DX3_hold 29 rfl) ?_
      refine x_iast C (dq DX3_hold 30 rfl) h (fun m8 h => ?_)
      refine x_goto (tgt := 87) C (dq DX3_hold 31 rfl) (by decide) ?_
      exact x_lv [0, 1, 2, 3] rfl (tX3_hold_87 C g0 g1 h kb kx)
set_option maxHeartbeats 1000000 in
theorem mX3_hold {l : Launch} {E : Ev} {S : List Sh} {mm : Mm} {x0 : Nat} {x1 : Nat} {x2 : Int32} {r : Mm} (h : fX3_hold S mm x0 x1 x2 = some r) : Ml l E S yX3_hold cX3_hold 4 none 1 23 [.ref (E.2.2 x0), .ref (E.2.2 x1), .int x2] mm none r := by
  refine Ml.of (by decide +kernel) (Nat.le_of_ble_eq_true rfl) (fun G C hQ => ?_)
  have C : Cx G E cX3_hold 4 RX3 none 1 23 := C
  unfold fX3_hold at h
  obtain ⟨g0, h⟩ := gd_some h
  obtain ⟨g1, h⟩ := gd_some h
  show WM G l E S 0 [(0, .ref (E.2.2 x0)), (1, .ref (E.2.2 x1)), (2, .int x2)] [] mm
  refine x_aload_n C (dq DX3_hold 0 rfl) rfl 0 rfl ?_
  refine x_aload_n C (dq DX3_hold 1 rfl) rfl 1 rfl ?_
  refine x_iload_n C (dq DX3_hold 2 rfl) rfl 2 rfl ?_
  refine callX3_45 C (dq DX3_hold 3 rfl) h (by decide) (by decide) (Nat.le_of_ble_eq_true rfl) (fun m1 h => ?_)
  refine x_pc 6 rfl ?_
  refine x_aload_n C (dq DX3_hold 4 rfl) rfl 0 rfl ?_
  refine x_dup C (dq DX3_hold 5 rfl) rfl ?_
  refine getX3_19 C (dq DX3_hold 6 rfl) g0 ?_
  refine x_aload_n C (dq DX3_hold 7 rfl) rfl 0 rfl ?_
  refine getX3_26 C (dq DX3_hold 8 rfl) g0 ?_
  refine x_pc 15 rfl ?_
  refine x_imul C (dq DX3_hold 9 rfl) ?_
  refine putX3_19 C (dq DX3_hold 10 rfl) g0 h (fun m2 h => ?_)
  refine x_iconst (v := 0) C (dq DX3_hold 11 rfl) (by decide) ?_
  refine x_istore_n (lv' := [(3, .int 0), (0, .ref (E.2.2 x0)), (1, .ref (E.2.2 x1)), (2, .int x2)]) C (dq DX3_hold 12 rfl) rfl (by decide) rfl ?_
  refine x_lv [1, 2, 3, 0] rfl ?_
  refine x_loop (s0 := (0, m2)) (fun s9 => WM G l E S 21 [(0, .ref (E.2.2 x0)), (1, .ref (E.2.2 x1)), (2, .int x2), (3, .int s9.1)] [] s9.2) h (fun s9 r hb kb kx => tX3_hold_21 C g0 g1 hb kb (fun y10 hy => ?_))
  have h := kx y10 hy
  clear kx kb hb hy
  cases h
  exact x_vret C (dq DX3_hold 55 rfl) hQ
set_option maxHeartbeats 1000000 in
theorem qX3_hold {S : List Sh} {mm : Mm} {x0 : Nat} {x1 : Nat} {x2 : Int32} {r : Mm} (h : fX3_hold S mm x0 x1 x2 = some r) : isC S x0 3 := by
  unfold fX3_hold at h
  exact (gd_some h).1
theorem callX3_34 {G : Gt} {l : Launch} {E : Ev} {S : List Sh} {cc : ByteArray} {nL : Nat} {rt : Option FieldType} {fr lo : Nat} {pc : Nat} {lv : List (Nat × Value)} {rest : List Value} {mm : Mm} {α : Type} {f : Int32 → Mm → Option α} {r : α} {o : Nat} {a0 : Nat} (C : Cx G E cc nL RX3 rt fr lo) (d : decode cc pc = .ok (.invokevirtual 34, 3)) (h : bd2 (fX3_firstToFill S mm o a0) f = some r) (hfr : 2 ≤ fr) (hlo : 48 ≤ lo) (hrs : (rest.map fun v => v.category).sum ≤ 8) (k : ∀ v m1, f v m1 = some r → WM G l E S (pc + 3) lv (.int v :: rest) m1) : WM G l E S pc lv (.ref (E.2.2 a0) :: .ref (E.2.2 o) :: rest) mm := by
  obtain ⟨v, m1, hv, hf⟩ := bd2_some h
  exact x_callV (n := 1) (As := [.ref (E.2.2 a0)]) (rest := rest) C (mX3_firstToFill hv) (qX3_firstToFill hv) (T := TX3) (N := 5) rfl (gmem 619 (by decide +kernel) rfl) (gmem 621 (by decide +kernel) rfl) (gmemS 28 (by decide +kernel) rfl) (gmem 6 (by decide +kernel) rfl) (gmem 622 (by decide +kernel) rfl) (by decide +kernel) rfl hfr hlo hrs d rfl rfl (k v m1 hf)
theorem callX3_38 {G : Gt} {l : Launch} {E : Ev} {S : List Sh} {cc : ByteArray} {nL : Nat} {rt : Option FieldType} {fr lo : Nat} {pc : Nat} {lv : List (Nat × Value)} {rest : List Value} {mm : Mm} {α : Type} {f : Mm → Option α} {r : α} {o : Nat} {a0 : Nat} {a1 : Int32} (C : Cx G E cc nL RX3 rt fr lo) (d : decode cc pc = .ok (.invokevirtual 38, 3)) (h : bd1 (fX3_hold S mm o a0 a1) f = some r) (hfr : 2 ≤ fr) (hlo : 46 ≤ lo) (hrs : (rest.map fun v => v.category).sum ≤ 8) (k : ∀ m1, f m1 = some r → WM G l E S (pc + 3) lv rest m1) : WM G l E S pc lv (.int a1 :: .ref (E.2.2 a0) :: .ref (E.2.2 o) :: rest) mm := by
  obtain ⟨m1, hv, hf⟩ := bd1_some h
  exact x_callV (n := 2) (As := [.ref (E.2.2 a0), .int a1]) (rest := rest) C (mX3_hold hv) (qX3_hold hv) (T := TX3) (N := 5) rfl (gmem 627 (by decide +kernel) rfl) (gmem 629 (by decide +kernel) rfl) (gmemS 30 (by decide +kernel) rfl) (gmem 6 (by decide +kernel) rfl) (gmem 630 (by decide +kernel) rfl) (by decide +kernel) rfl hfr hlo hrs d rfl rfl (k m1 hf)
abbrev eX3_share : List (Nat × Instr × Nat) := [(0, .aload_n 0, 1), (1, .iconst 1, 1), (2, .putfield 19, 3), (5, .iconst 0, 1), (6, .istore_n 3, 1), (7, .iload_n 3, 1), (8, .aload_n 1, 1), (9, .getfield 29, 3), (12, .if_icmp .ge 37, 3), (15, .aload_n 0, 1), (16, .getfield 9, 3), (19, .iload_n 3, 1), (20, .iconst 0, 1), (21, .iastore, 1), (22, .aload_n 0, 1), (23, .getfield 15, 3), (26, .iload_n 3, 1), (27, .aload_n 2, 1), (28, .sipush 264, 3), (31, .iload_n 3, 1), (32, .iadd, 1), (33, .iaload, 1), (34, .ifCond .ne 7, 3), (37, .iconst 1, 1), (38, .goto 4, 3), (41, .iconst 0, 1), (42, .bastore, 1), (43, .iinc 3 1, 3), (46, .goto (-39), 3), (49, .iconst 0, 1), (50, .istore_n 3, 1), (51, .iload_n 3, 1), (52, .bipush 8, 2), (54, .if_icmp .ge 30, 3), (57, .aload_n 0, 1), (58, .aload_n 1, 1), (59, .invokevirtual 34, 3), (62, .istore 4, 2), (64, .iload 4, 2), (66, .iconst (-1), 1), (67, .if_icmp .ne 4, 3), (70, .return_, 1), (71, .aload_n 0, 1), (72, .aload_n 1, 1), (73, .iload 4, 2), (75, .invokevirtual 38, 3), (78, .iinc 3 1, 3), (81, .goto (-30), 3), (84, .return_, 1)]
theorem DX3_share : (eX3_share.all fun q => decide (decode cX3_share q.1 = .ok q.2)) = true := by decide +kernel
def jX3_share_42 (S : List Sh) (mm : Mm) (x0 : Nat) (x1 : Nat) (x2 : Nat) (x3 : Int32) (p0 : Nat) (p1 : Int32) (p2 : Int32) : Option ((Int32 × Mm) ⊕ (Mm)) := bd1 (stA S 2 mm p0 p1 p2) fun m4 => some (.inl (x3 + 1, m4))
def bX3_share_7 (S : List Sh) (x0 : Nat) (x1 : Nat) (x2 : Nat) (x3 : Int32) (mm : Mm) : Option ((Int32 × Mm) ⊕ (Mm)) := if (mm.1 x1 10) ≤ x3 then (some (.inr (mm))) else (bd1 (stA S 0 mm (rf S mm x0 0) x3 0) fun m2 => bd1 (ldA S 0 m2 x2 (264 + x3)) fun a3 => if ¬ a3 = 0 then (jX3_share_42 S m2 x0 x1 x2 x3 (rf S m2 x0 1) x3 0) else (jX3_share_42 S m2 x0 x1 x2 x3 (rf S m2 x0 1) x3 1))
def bX3_share_51 (S : List Sh) (x0 : Nat) (x1 : Nat) (x3 : Int32) (mm : Mm) : Option ((Int32 × Mm) ⊕ ((Mm) ⊕ (Mm))) := if 8 ≤ x3 then (some (.inr (.inr (mm)))) else (bd2 (fX3_firstToFill S mm x0 x1) fun a7 m8 => if ¬ a7 = (-1) then (bd1 (fX3_hold S m8 x0 x1 a7) fun m9 => some (.inl (x3 + 1, m9))) else (some (.inr (.inl m8))))
def fX3_share (S : List Sh) (mm : Mm) (x0 : Nat) (x1 : Nat) (x2 : Nat) : Option (Mm) := gd S x0 3 (gd S x1 1 (bd1 (some (u1 mm x0 2 1)) fun m1 => bd1 (lp (fun s5 => bX3_share_7 S x0 x1 x2 s5.1 s5.2) fu (0, m1)) fun y6 => bdR (lp (fun s10 => bX3_share_51 S x0 x1 s10.1 s10.2) fu (0, y6)) (fun a12 => some a12) fun y11 => some y11))
set_option maxHeartbeats 1000000 in
theorem tX3_share_42 {G : Gt} {l : Launch} {E : Ev} {S : List Sh} {mm : Mm} {x0 : Nat} {x1 : Nat} {x2 : Nat} {x3 : Int32} {p0 : Nat} {p1 : Int32} {p2 : Int32} {r : (Int32 × Mm) ⊕ (Mm)} (C : Cx G E cX3_share 5 RX3 none 2 48) (g0 : isC S x0 3) (g1 : isC S x1 1) (h : jX3_share_42 S mm x0 x1 x2 x3 p0 p1 p2 = some r) (kb : ∀ z : Int32 × Mm, r = .inl z → WM G l E S 7 [(0, .ref (E.2.2 x0)), (1, .ref (E.2.2 x1)), (2, .ref (E.2.2 x2)), (3, .int z.1)] [] z.2) (kx : ∀ z : Mm, r = .inr z → WM G l E S 49 [(0, .ref (E.2.2 x0)), (1, .ref (E.2.2 x1)), (2, .ref (E.2.2 x2))] [] z) : WM G l E S 42 [(0, .ref (E.2.2 x0)), (1, .ref (E.2.2 x1)), (2, .ref (E.2.2 x2)), (3, .int x3)] [.int p2, .int p1, .ref (E.2.2 p0)] mm := by
  unfold jX3_share_42 at h
  refine x_zast C (dq DX3_share 26 rfl) h (fun m4 h => ?_)
  refine x_iinc (v := x3 + 1) (lv' := [(3, .int (x3 + 1)), (0, .ref (E.2.2 x0)), (1, .ref (E.2.2 x1)), (2, .ref (E.2.2 x2))]) C (dq DX3_share 27 rfl) 3 rfl rfl (by decide) rfl ?_
  refine x_goto (tgt := 7) C (dq DX3_share 28 rfl) (by decide) ?_
  cases h
  exact x_lv [1, 2, 3, 0] rfl (kb (x3 + 1, m4) rfl)
set_option maxHeartbeats 1000000 in
theorem tX3_share_7 {G : Gt} {l : Launch} {E : Ev} {S : List Sh} {x0 : Nat} {x1 : Nat} {x2 : Nat} {x3 : Int32} {mm : Mm} {r : (Int32 × Mm) ⊕ (Mm)} (C : Cx G E cX3_share 5 RX3 none 2 48) (g0 : isC S x0 3) (g1 : isC S x1 1) (h : bX3_share_7 S x0 x1 x2 x3 mm = some r) (kb : ∀ z : Int32 × Mm, r = .inl z → WM G l E S 7 [(0, .ref (E.2.2 x0)), (1, .ref (E.2.2 x1)), (2, .ref (E.2.2 x2)), (3, .int z.1)] [] z.2) (kx : ∀ z : Mm, r = .inr z → WM G l E S 49 [(0, .ref (E.2.2 x0)), (1, .ref (E.2.2 x1)), (2, .ref (E.2.2 x2))] [] z) : WM G l E S 7 [(0, .ref (E.2.2 x0)), (1, .ref (E.2.2 x1)), (2, .ref (E.2.2 x2)), (3, .int x3)] [] mm := by
  unfold bX3_share_7 at h
  refine x_iload_n C (dq DX3_share 5 rfl) rfl 3 rfl ?_
  refine x_aload_n C (dq DX3_share 6 rfl) rfl 1 rfl ?_
  refine getX3_29 C (dq DX3_share 7 rfl) g1 ?_
  refine x_icmp_ge (tgt := 49) C (dq DX3_share 8 rfl) (by decide) h (fun h => ?_) (fun h => ?_)
  · cases h
    exact x_lv [0, 1, 2] rfl (kx (mm) rfl)
  · refine x_pc 15 rfl ?_
    refine x_aload_n C (dq DX3_share 9 rfl) rfl 0 rfl ?_
    refine getX3_9 C (dq DX3_share 10 rfl) g0 ?_
    refine x_iload_n C (dq DX3_share 11 rfl) rfl 3 rfl ?_
    refine x_iconst (v := 0) C (dq DX3_share 12 rfl) (by decide) ?_
    refine x_iast C (dq DX3_share 13 rfl) h (fun m2 h => ?_)
    refine x_pc 22 rfl ?_
    refine x_aload_n C (dq DX3_share 14 rfl) rfl 0 rfl ?_
    refine getX3_15 C (dq DX3_share 15 rfl) g0 ?_
    refine x_iload_n C (dq DX3_share 16 rfl) rfl 3 rfl ?_
    refine x_aload_n C (dq DX3_share 17 rfl) rfl 2 rfl ?_
    refine x_sipush (v := 264) C (dq DX3_share 18 rfl) (by decide) ?_
    refine x_pc 31 rfl ?_
    refine x_iload_n C (dq DX3_share 19 rfl) rfl 3 rfl ?_
    refine x_iadd C (dq DX3_share 20 rfl) ?_
    refine x_iald C (dq DX3_share 21 rfl) h (fun a3 h => ?_)
    refine x_if_ne (tgt := 41) C (dq DX3_share 22 rfl) (by decide) h (fun h => ?_) (fun h => ?_)
    · refine x_iconst (v := 0) C (dq DX3_share 25 rfl) (by decide) ?_
      exact x_lv [0, 1, 2, 3] rfl (tX3_share_42 C g0 g1 h kb kx)
    · refine x_iconst (v := 1) C (dq DX3_share 23 rfl) (by decide) ?_
      refine x_pc 38 rfl ?_
      refine x_goto (tgt := 42) C (dq DX3_share 24 rfl) (by decide) ?_
      exact x_lv [0, 1, 2, 3] rfl (tX3_share_42 C g0 g1 h kb kx)
set_option maxHeartbeats 1000000 in
theorem tX3_share_51 {G : Gt} {l : Launch} {E : Ev} {S : List Sh} {x0 : Nat} {x1 : Nat} {x3 : Int32} {mm : Mm} {r : (Int32 × Mm) ⊕ ((Mm) ⊕ (Mm))} (C : Cx G E cX3_share 5 RX3 none 2 48) (g0 : isC S x0 3) (g1 : isC S x1 1) (h : bX3_share_51 S x0 x1 x3 mm = some r) (kb : ∀ z : Int32 × Mm, r = .inl z → WM G l E S 51 [(0, .ref (E.2.2 x0)), (1, .ref (E.2.2 x1)), (3, .int z.1)] [] z.2) (kr : ∀ z : Mm, r = .inr (.inl z) → RQ G E S none z) (kx : ∀ z : Mm, r = .inr (.inr z) → WM G l E S 84 [(0, .ref (E.2.2 x0)), (1, .ref (E.2.2 x1))] [] z) : WM G l E S 51 [(0, .ref (E.2.2 x0)), (1, .ref (E.2.2 x1)), (3, .int x3)] [] mm := by
  unfold bX3_share_51 at h
  refine x_iload_n C (dq DX3_share 31 rfl) rfl 2 rfl ?_
  refine x_bipush (v := 8) C (dq DX3_share 32 rfl) (by decide) ?_
  refine x_icmp_ge (tgt := 84) C (dq DX3_share 33 rfl) (by decide) h (fun h => ?_) (fun h => ?_)
  · cases h
    exact x_lv [0, 1] rfl (kx (mm) rfl)
  · refine x_aload_n C (dq DX3_share 34 rfl) rfl 0 rfl ?_
    refine x_pc 58 rfl ?_
    refine x_aload_n C (dq DX3_share 35 rfl) rfl 1 rfl ?_
    refine callX3_34 C (dq DX3_share 36 rfl) h (by decide) (by decide) (Nat.le_of_ble_eq_true rfl) (fun a7 m8 h => ?_)
    refine x_istore (lv' := [(4, .int a7), (0, .ref (E.2.2 x0)), (1, .ref (E.2.2 x1)), (3, .int x3)]) C (dq DX3_share 37 rfl) (by decide) rfl ?_
    refine x_iload C (dq DX3_share 38 rfl) 0 rfl ?_
    refine x_iconst (v := (-1)) C (dq DX3_share 39 rfl) (by decide) ?_
    refine x_pc 67 rfl ?_
    refine x_icmp_ne (tgt := 71) C (dq DX3_share 40 rfl) (by decide) h (fun h => ?_) (fun h => ?_)
    · refine x_aload_n C (dq DX3_share 42 rfl) rfl 1 rfl ?_
      refine x_aload_n C (dq DX3_share 43 rfl) rfl 2 rfl ?_
      refine x_iload C (dq DX3_share 44 rfl) 0 rfl ?_
      refine callX3_38 C (dq DX3_share 45 rfl) h (by decide) (by decide) (Nat.le_of_ble_eq_true rfl) (fun m9 h => ?_)
      refine x_pc 78 rfl ?_
      refine x_iinc (v := x3 + 1) (lv' := [(3, .int (x3 + 1)), (4, .int a7), (0, .ref (E.2.2 x0)), (1, .ref (E.2.2 x1))]) C (dq DX3_share 46 rfl) 3 rfl rfl (by decide) rfl ?_
      refine x_goto (tgt := 51) C (dq DX3_share 47 rfl) (by decide) ?_
      cases h
      exact x_lv [2, 3, 0] rfl (kb (x3 + 1, m9) rfl)
    · cases h
      exact x_vret C (dq DX3_share 41 rfl) (kr m8 rfl)
set_option maxHeartbeats 1000000 in
theorem mX3_share {l : Launch} {E : Ev} {S : List Sh} {mm : Mm} {x0 : Nat} {x1 : Nat} {x2 : Nat} {r : Mm} (h : fX3_share S mm x0 x1 x2 = some r) : Ml l E S yX3_share cX3_share 5 none 2 48 [.ref (E.2.2 x0), .ref (E.2.2 x1), .ref (E.2.2 x2)] mm none r := by
  refine Ml.of (by decide +kernel) (Nat.le_of_ble_eq_true rfl) (fun G C hQ => ?_)
  have C : Cx G E cX3_share 5 RX3 none 2 48 := C
  unfold fX3_share at h
  obtain ⟨g0, h⟩ := gd_some h
  obtain ⟨g1, h⟩ := gd_some h
  show WM G l E S 0 [(0, .ref (E.2.2 x0)), (1, .ref (E.2.2 x1)), (2, .ref (E.2.2 x2))] [] mm
  refine x_aload_n C (dq DX3_share 0 rfl) rfl 0 rfl ?_
  refine x_iconst (v := 1) C (dq DX3_share 1 rfl) (by decide) ?_
  refine putX3_19 C (dq DX3_share 2 rfl) g0 h (fun m1 h => ?_)
  refine x_iconst (v := 0) C (dq DX3_share 3 rfl) (by decide) ?_
  refine x_pc 6 rfl ?_
  refine x_istore_n (lv' := [(3, .int 0), (0, .ref (E.2.2 x0)), (1, .ref (E.2.2 x1)), (2, .ref (E.2.2 x2))]) C (dq DX3_share 4 rfl) rfl (by decide) rfl ?_
  refine x_lv [1, 2, 3, 0] rfl ?_
  refine x_loop (s0 := (0, m1)) (fun s5 => WM G l E S 7 [(0, .ref (E.2.2 x0)), (1, .ref (E.2.2 x1)), (2, .ref (E.2.2 x2)), (3, .int s5.1)] [] s5.2) h (fun s5 r hb kb kx => tX3_share_7 C g0 g1 hb kb (fun y6 hy => ?_))
  have h := kx y6 hy
  clear kx kb hb hy
  refine x_iconst (v := 0) C (dq DX3_share 29 rfl) (by decide) ?_
  refine x_istore_n (lv' := [(3, .int 0), (0, .ref (E.2.2 x0)), (1, .ref (E.2.2 x1)), (2, .ref (E.2.2 x2))]) C (dq DX3_share 30 rfl) rfl (by decide) rfl ?_
  refine x_lv [1, 2, 0] rfl ?_
  refine x_loopR (s0 := (0, y6)) (fun s10 => WM G l E S 51 [(0, .ref (E.2.2 x0)), (1, .ref (E.2.2 x1)), (3, .int s10.1)] [] s10.2) h (fun s10 r hb kb kg kx => tX3_share_51 C g0 g1 hb kb (fun a12 ha => ?_) (fun y11 hy => ?_))
  · have h := kg a12 ha
    cases h
    exact hQ
  · have h := kx y11 hy
    clear kx kb hb hy kg
    cases h
    exact x_vret C (dq DX3_share 48 rfl) hQ
set_option maxHeartbeats 1000000 in
theorem qX3_share {S : List Sh} {mm : Mm} {x0 : Nat} {x1 : Nat} {x2 : Nat} {r : Mm} (h : fX3_share S mm x0 x1 x2 = some r) : isC S x0 3 := by
  unfold fX3_share at h
  exact (gd_some h).1
abbrev eX3_fills : List (Nat × Instr × Nat) := [(0, .aload_n 0, 1), (1, .aload_n 1, 1), (2, .iload_n 2, 1), (3, .invokevirtual 45, 3), (6, .aload_n 0, 1), (7, .getfield 23, 3), (10, .ifCond .ne 7, 3), (13, .iconst 1, 1), (14, .goto 4, 3), (17, .iconst 0, 1), (18, .ireturn, 1)]
theorem DX3_fills : (eX3_fills.all fun q => decide (decode cX3_fills q.1 = .ok q.2)) = true := by decide +kernel
def jX3_fills_18 (S : List Sh) (mm : Mm) (x0 : Nat) (x1 : Nat) (p0 : Int32) : Option (Int32 × Mm) := bd1 (okZ p0) fun _ => some (p0, mm)
def fX3_fills (S : List Sh) (mm : Mm) (x0 : Nat) (x1 : Nat) (x2 : Int32) : Option (Int32 × Mm) := gd S x0 3 (gd S x1 1 (bd1 (fX3_lookAt S mm x0 x1 x2) fun m1 => if ¬ (m1.1 x0 3) = 0 then (jX3_fills_18 S m1 x0 x1 0) else (jX3_fills_18 S m1 x0 x1 1)))
set_option maxHeartbeats 1000000 in
theorem tX3_fills_18 {G : Gt} {l : Launch} {E : Ev} {S : List Sh} {mm : Mm} {x0 : Nat} {x1 : Nat} {p0 : Int32} {r : Int32 × Mm} (C : Cx G E cX3_fills 3 RX3 (some .boolean) 1 23) (g0 : isC S x0 3) (g1 : isC S x1 1) (h : jX3_fills_18 S mm x0 x1 p0 = some r) (hQ : RQ G E S (some (.int r.1)) r.2) : WM G l E S 18 [(0, .ref (E.2.2 x0)), (1, .ref (E.2.2 x1))] [.int p0] mm := by
  unfold jX3_fills_18 at h
  refine x_zret C (dq DX3_fills 10 rfl) h (fun h => ?_)
  cases h
  exact hQ
set_option maxHeartbeats 1000000 in
theorem mX3_fills {l : Launch} {E : Ev} {S : List Sh} {mm : Mm} {x0 : Nat} {x1 : Nat} {x2 : Int32} {r : Int32 × Mm} (h : fX3_fills S mm x0 x1 x2 = some r) : Ml l E S yX3_fills cX3_fills 3 (some .boolean) 1 23 [.ref (E.2.2 x0), .ref (E.2.2 x1), .int x2] mm (some (.int r.1)) r.2 := by
  refine Ml.of (by decide +kernel) (Nat.le_of_ble_eq_true rfl) (fun G C hQ => ?_)
  have C : Cx G E cX3_fills 3 RX3 (some .boolean) 1 23 := C
  unfold fX3_fills at h
  obtain ⟨g0, h⟩ := gd_some h
  obtain ⟨g1, h⟩ := gd_some h
  show WM G l E S 0 [(0, .ref (E.2.2 x0)), (1, .ref (E.2.2 x1)), (2, .int x2)] [] mm
  refine x_aload_n C (dq DX3_fills 0 rfl) rfl 0 rfl ?_
  refine x_aload_n C (dq DX3_fills 1 rfl) rfl 1 rfl ?_
  refine x_iload_n C (dq DX3_fills 2 rfl) rfl 2 rfl ?_
  refine callX3_45 C (dq DX3_fills 3 rfl) h (by decide) (by decide) (Nat.le_of_ble_eq_true rfl) (fun m1 h => ?_)
  refine x_pc 6 rfl ?_
  refine x_aload_n C (dq DX3_fills 4 rfl) rfl 0 rfl ?_
  refine getX3_23 C (dq DX3_fills 5 rfl) g0 ?_
  refine x_if_ne (tgt := 17) C (dq DX3_fills 6 rfl) (by decide) h (fun h => ?_) (fun h => ?_)
  · refine x_iconst (v := 0) C (dq DX3_fills 9 rfl) (by decide) ?_
    exact x_lv [0, 1] rfl (tX3_fills_18 C g0 g1 h hQ)
  · refine x_iconst (v := 1) C (dq DX3_fills 7 rfl) (by decide) ?_
    refine x_goto (tgt := 18) C (dq DX3_fills 8 rfl) (by decide) ?_
    exact x_lv [0, 1] rfl (tX3_fills_18 C g0 g1 h hQ)
set_option maxHeartbeats 1000000 in
theorem qX3_fills {S : List Sh} {mm : Mm} {x0 : Nat} {x1 : Nat} {x2 : Int32} {r : Int32 × Mm} (h : fX3_fills S mm x0 x1 x2 = some r) : isC S x0 3 := by
  unfold fX3_fills at h
  exact (gd_some h).1
theorem callX3_58 {G : Gt} {l : Launch} {E : Ev} {S : List Sh} {cc : ByteArray} {nL : Nat} {rt : Option FieldType} {fr lo : Nat} {pc : Nat} {lv : List (Nat × Value)} {rest : List Value} {mm : Mm} {x y : Int32} (C : Cx G E cc nL RX3 rt fr lo) (d : decode cc pc = .ok (.invokestatic 58, 3)) (h1 : 1 ≤ fr) (h2 : (rest.map fun v => v.category).sum + 13 ≤ lo) (k : WM G l E S (pc + 3) lv (.int (if x < y then y else x) :: rest) mm) : WM G l E S pc lv (.int y :: .int x :: rest) mm := x_mmax C d (gmem 639 (by decide +kernel) rfl) (gmem 469 (by decide +kernel) rfl) (gmem 10 (by decide +kernel) rfl) (gmem 470 (by decide +kernel) rfl) h1 h2 k
abbrev eX3_common : List (Nat × Instr × Nat) := [(0, .iconst 1, 1), (1, .aload_n 0, 1), (2, .getfield 19, 3), (5, .invokestatic 58, 3), (8, .istore_n 2, 1), (9, .aload_n 0, 1), (10, .getfield 9, 3), (13, .iload_n 1, 1), (14, .iaload, 1), (15, .istore_n 3, 1), (16, .iconst 0, 1), (17, .istore 4, 2), (19, .iload 4, 2), (21, .bipush 64, 2), (23, .if_icmp .ge 23, 3), (26, .iload_n 3, 1), (27, .ifCond .le 19, 3), (30, .iload_n 2, 1), (31, .iload_n 3, 1), (32, .irem, 1), (33, .istore 5, 2), (35, .iload_n 3, 1), (36, .istore_n 2, 1), (37, .iload 5, 2), (39, .istore_n 3, 1), (40, .iinc 4 1, 3), (43, .goto (-24), 3), (46, .iload_n 2, 1), (47, .ireturn, 1)]
theorem DX3_common : (eX3_common.all fun q => decide (decode cX3_common q.1 = .ok q.2)) = true := by decide +kernel
def bX3_common_19 (S : List Sh) (mm : Mm) (x0 : Nat) (x2 : Int32) (x3 : Int32) (x4 : Int32) : Option ((Int32 × Int32 × Int32) ⊕ (Int32)) := if 64 ≤ x4 then (some (.inr (x2))) else (if x3 ≤ 0 then (some (.inr (x2))) else (bd1 (rmI x2 x3) fun a2 => some (.inl (x3, a2, x4 + 1))))
def jX3_common_46 (S : List Sh) (mm : Mm) (x0 : Nat) (x2 : Int32)  : Option (Int32) := some x2
def fX3_common (S : List Sh) (mm : Mm) (x0 : Nat) (x1 : Int32) : Option (Int32) := gd S x0 3 (bd1 (ldA S 0 mm (rf S mm x0 0) x1) fun a1 => bd1 (lp (fun s3 => bX3_common_19 S mm x0 s3.1 s3.2.1 s3.2.2) fu ((if (1 : Int32) < (mm.1 x0 2) then (mm.1 x0 2) else 1), a1, 0)) fun y4 => jX3_common_46 S mm x0 y4)
set_option maxHeartbeats 1000000 in
theorem tX3_common_19 {G : Gt} {l : Launch} {E : Ev} {S : List Sh} {mm : Mm} {x0 : Nat} {x2 : Int32} {x3 : Int32} {x4 : Int32} {r : (Int32 × Int32 × Int32) ⊕ (Int32)} (C : Cx G E cX3_common 6 RX3 (some .int) 1 29) (g0 : isC S x0 3) (h : bX3_common_19 S mm x0 x2 x3 x4 = some r) (kb : ∀ z : Int32 × Int32 × Int32, r = .inl z → WM G l E S 19 [(0, .ref (E.2.2 x0)), (2, .int z.1), (3, .int z.2.1), (4, .int z.2.2)] [] mm) (kx : ∀ z : Int32, r = .inr z → WM G l E S 46 [(0, .ref (E.2.2 x0)), (2, .int z)] [] mm) : WM G l E S 19 [(0, .ref (E.2.2 x0)), (2, .int x2), (3, .int x3), (4, .int x4)] [] mm := by
  unfold bX3_common_19 at h
  refine x_iload C (dq DX3_common 12 rfl) 3 rfl ?_
  refine x_bipush (v := 64) C (dq DX3_common 13 rfl) (by decide) ?_
  refine x_icmp_ge (tgt := 46) C (dq DX3_common 14 rfl) (by decide) h (fun h => ?_) (fun h => ?_)
  · cases h
    exact x_lv [0, 1] rfl (kx (x2) rfl)
  · refine x_iload_n C (dq DX3_common 15 rfl) rfl 2 rfl ?_
    refine x_pc 27 rfl ?_
    refine x_if_le (tgt := 46) C (dq DX3_common 16 rfl) (by decide) h (fun h => ?_) (fun h => ?_)
    · cases h
      exact x_lv [0, 1] rfl (kx (x2) rfl)
    · refine x_iload_n C (dq DX3_common 17 rfl) rfl 1 rfl ?_
      refine x_iload_n C (dq DX3_common 18 rfl) rfl 2 rfl ?_
      refine x_irem C (dq DX3_common 19 rfl) h (fun a2 h => ?_)
      refine x_istore (lv' := [(5, .int a2), (0, .ref (E.2.2 x0)), (2, .int x2), (3, .int x3), (4, .int x4)]) C (dq DX3_common 20 rfl) (by decide) rfl ?_
      refine x_pc 35 rfl ?_
      refine x_iload_n C (dq DX3_common 21 rfl) rfl 3 rfl ?_
      refine x_istore_n (lv' := [(2, .int x3), (5, .int a2), (0, .ref (E.2.2 x0)), (3, .int x3), (4, .int x4)]) C (dq DX3_common 22 rfl) rfl (by decide) rfl ?_
      refine x_iload C (dq DX3_common 23 rfl) 1 rfl ?_
      refine x_istore_n (lv' := [(3, .int a2), (2, .int x3), (5, .int a2), (0, .ref (E.2.2 x0)), (4, .int x4)]) C (dq DX3_common 24 rfl) rfl (by decide) rfl ?_
      refine x_iinc (v := x4 + 1) (lv' := [(4, .int (x4 + 1)), (3, .int a2), (2, .int x3), (5, .int a2), (0, .ref (E.2.2 x0))]) C (dq DX3_common 25 rfl) 4 rfl rfl (by decide) rfl ?_
      refine x_pc 43 rfl ?_
      refine x_goto (tgt := 19) C (dq DX3_common 26 rfl) (by decide) ?_
      cases h
      exact x_lv [4, 2, 1, 0] rfl (kb (x3, a2, x4 + 1) rfl)
set_option maxHeartbeats 1000000 in
theorem tX3_common_46 {G : Gt} {l : Launch} {E : Ev} {S : List Sh} {mm : Mm} {x0 : Nat} {x2 : Int32}  {r : Int32} (C : Cx G E cX3_common 6 RX3 (some .int) 1 29) (g0 : isC S x0 3) (h : jX3_common_46 S mm x0 x2 = some r) (hQ : RQ G E S (some (.int r)) mm) : WM G l E S 46 [(0, .ref (E.2.2 x0)), (2, .int x2)] [] mm := by
  unfold jX3_common_46 at h
  refine x_iload_n C (dq DX3_common 27 rfl) rfl 1 rfl ?_
  cases h
  exact x_iret C (dq DX3_common 28 rfl) hQ
set_option maxHeartbeats 1000000 in
theorem mX3_common {l : Launch} {E : Ev} {S : List Sh} {mm : Mm} {x0 : Nat} {x1 : Int32} {r : Int32} (h : fX3_common S mm x0 x1 = some r) : Ml l E S yX3_common cX3_common 6 (some .int) 1 29 [.ref (E.2.2 x0), .int x1] mm (some (.int r)) mm := by
  refine Ml.of (by decide +kernel) (Nat.le_of_ble_eq_true rfl) (fun G C hQ => ?_)
  have C : Cx G E cX3_common 6 RX3 (some .int) 1 29 := C
  unfold fX3_common at h
  obtain ⟨g0, h⟩ := gd_some h
  show WM G l E S 0 [(0, .ref (E.2.2 x0)), (1, .int x1)] [] mm
  refine x_iconst (v := 1) C (dq DX3_common 0 rfl) (by decide) ?_
  refine x_aload_n C (dq DX3_common 1 rfl) rfl 0 rfl ?_
  refine getX3_19 C (dq DX3_common 2 rfl) g0 ?_
  refine callX3_58 C (dq DX3_common 3 rfl) (by decide) (Nat.le_of_ble_eq_true rfl) ?_
  refine x_pc 8 rfl ?_
  refine x_istore_n (lv' := [(2, .int (if (1 : Int32) < (mm.1 x0 2) then (mm.1 x0 2) else 1)), (0, .ref (E.2.2 x0)), (1, .int x1)]) C (dq DX3_common 4 rfl) rfl (by decide) rfl ?_
  refine x_aload_n C (dq DX3_common 5 rfl) rfl 1 rfl ?_
  refine getX3_9 C (dq DX3_common 6 rfl) g0 ?_
  refine x_iload_n C (dq DX3_common 7 rfl) rfl 2 rfl ?_
  refine x_iald C (dq DX3_common 8 rfl) h (fun a1 h => ?_)
  refine x_pc 15 rfl ?_
  refine x_istore_n (lv' := [(3, .int a1), (2, .int (if (1 : Int32) < (mm.1 x0 2) then (mm.1 x0 2) else 1)), (0, .ref (E.2.2 x0)), (1, .int x1)]) C (dq DX3_common 9 rfl) rfl (by decide) rfl ?_
  refine x_iconst (v := 0) C (dq DX3_common 10 rfl) (by decide) ?_
  refine x_istore (lv' := [(4, .int 0), (3, .int a1), (2, .int (if (1 : Int32) < (mm.1 x0 2) then (mm.1 x0 2) else 1)), (0, .ref (E.2.2 x0)), (1, .int x1)]) C (dq DX3_common 11 rfl) (by decide) rfl ?_
  refine x_lv [3, 2, 1, 0] rfl ?_
  refine x_loop (s0 := ((if (1 : Int32) < (mm.1 x0 2) then (mm.1 x0 2) else 1), a1, 0)) (fun s3 => WM G l E S 19 [(0, .ref (E.2.2 x0)), (2, .int s3.1), (3, .int s3.2.1), (4, .int s3.2.2)] [] mm) h (fun s3 r hb kb kx => tX3_common_19 C g0 hb kb (fun y4 hy => ?_))
  have h := kx y4 hy
  clear kx kb hb hy
  exact x_lv [0, 1] rfl (tX3_common_46 C g0 h hQ)
set_option maxHeartbeats 1000000 in
theorem qX3_common {S : List Sh} {mm : Mm} {x0 : Nat} {x1 : Int32} {r : Int32} (h : fX3_common S mm x0 x1 = some r) : isC S x0 3 := by
  unfold fX3_common at h
  exact (gd_some h).1
theorem callX3_54 {G : Gt} {l : Launch} {E : Ev} {S : List Sh} {cc : ByteArray} {nL : Nat} {rt : Option FieldType} {fr lo : Nat} {pc : Nat} {lv : List (Nat × Value)} {rest : List Value} {mm : Mm} {α : Type} {f : Int32 → Option α} {r : α} {o : Nat} {a0 : Int32} (C : Cx G E cc nL RX3 rt fr lo) (d : decode cc pc = .ok (.invokevirtual 54, 3)) (h : bd1 (fX3_common S mm o a0) f = some r) (hfr : 2 ≤ fr) (hlo : 54 ≤ lo) (hrs : (rest.map fun v => v.category).sum ≤ 8) (k : ∀ v, f v = some r → WM G l E S (pc + 3) lv (.int v :: rest) mm) : WM G l E S pc lv (.int a0 :: .ref (E.2.2 o) :: rest) mm := by
  obtain ⟨v, hv, hf⟩ := bd1_some h
  exact x_callV (n := 1) (As := [.int a0]) (rest := rest) C (mX3_common hv) (qX3_common hv) (T := TX3) (N := 5) rfl (gmem 635 (by decide +kernel) rfl) (gmem 637 (by decide +kernel) rfl) (gmemS 31 (by decide +kernel) rfl) (gmem 6 (by decide +kernel) rfl) (gmem 638 (by decide +kernel) rfl) (by decide +kernel) rfl hfr hlo hrs d rfl rfl (k v hf)
abbrev eX3_upper : List (Nat × Instr × Nat) := [(0, .aload_n 0, 1), (1, .iload_n 1, 1), (2, .invokevirtual 54, 3), (5, .istore_n 2, 1), (6, .iload_n 2, 1), (7, .iconst 1, 1), (8, .if_icmp .le 14, 3), (11, .aload_n 0, 1), (12, .getfield 9, 3), (15, .iload_n 1, 1), (16, .iaload, 1), (17, .iload_n 2, 1), (18, .idiv, 1), (19, .goto 9, 3), (22, .aload_n 0, 1), (23, .getfield 9, 3), (26, .iload_n 1, 1), (27, .iaload, 1), (28, .ireturn, 1)]
theorem DX3_upper : (eX3_upper.all fun q => decide (decode cX3_upper q.1 = .ok q.2)) = true := by decide +kernel
def jX3_upper_28 (S : List Sh) (mm : Mm) (x0 : Nat) (p0 : Int32) : Option (Int32) := some p0
def fX3_upper (S : List Sh) (mm : Mm) (x0 : Nat) (x1 : Int32) : Option (Int32) := gd S x0 3 (bd1 (fX3_common S mm x0 x1) fun a1 => if a1 ≤ 1 then (bd1 (ldA S 0 mm (rf S mm x0 0) x1) fun a2 => jX3_upper_28 S mm x0 a2) else (bd1 (ldA S 0 mm (rf S mm x0 0) x1) fun a3 => bd1 (dvI a3 a1) fun a4 => jX3_upper_28 S mm x0 a4))
set_option maxHeartbeats 1000000 in
theorem tX3_upper_28 {G : Gt} {l : Launch} {E : Ev} {S : List Sh} {mm : Mm} {x0 : Nat} {p0 : Int32} {r : Int32} (C : Cx G E cX3_upper 3 RX3 (some .int) 2 54) (g0 : isC S x0 3) (h : jX3_upper_28 S mm x0 p0 = some r) (hQ : RQ G E S (some (.int r)) mm) : WM G l E S 28 [(0, .ref (E.2.2 x0))] [.int p0] mm := by
  unfold jX3_upper_28 at h
  cases h
  exact x_iret C (dq DX3_upper 18 rfl) hQ
set_option maxHeartbeats 1000000 in
theorem mX3_upper {l : Launch} {E : Ev} {S : List Sh} {mm : Mm} {x0 : Nat} {x1 : Int32} {r : Int32} (h : fX3_upper S mm x0 x1 = some r) : Ml l E S yX3_upper cX3_upper 3 (some .int) 2 54 [.ref (E.2.2 x0), .int x1] mm (some (.int r)) mm := by
  refine Ml.of (by decide +kernel) (Nat.le_of_ble_eq_true rfl) (fun G C hQ => ?_)
  have C : Cx G E cX3_upper 3 RX3 (some .int) 2 54 := C
  unfold fX3_upper at h
  obtain ⟨g0, h⟩ := gd_some h
  show WM G l E S 0 [(0, .ref (E.2.2 x0)), (1, .int x1)] [] mm
  refine x_aload_n C (dq DX3_upper 0 rfl) rfl 0 rfl ?_
  refine x_iload_n C (dq DX3_upper 1 rfl) rfl 1 rfl ?_
  refine callX3_54 C (dq DX3_upper 2 rfl) h (by decide) (by decide) (Nat.le_of_ble_eq_true rfl) (fun a1 h => ?_)
  refine x_istore_n (lv' := [(2, .int a1), (0, .ref (E.2.2 x0)), (1, .int x1)]) C (dq DX3_upper 3 rfl) rfl (by decide) rfl ?_
  refine x_pc 6 rfl ?_
  refine x_iload_n C (dq DX3_upper 4 rfl) rfl 0 rfl ?_
  refine x_iconst (v := 1) C (dq DX3_upper 5 rfl) (by decide) ?_
  refine x_icmp_le (tgt := 22) C (dq DX3_upper 6 rfl) (by decide) h (fun h => ?_) (fun h => ?_)
  · refine x_aload_n C (dq DX3_upper 14 rfl) rfl 1 rfl ?_
    refine getX3_9 C (dq DX3_upper 15 rfl) g0 ?_
    refine x_pc 26 rfl ?_
    refine x_iload_n C (dq DX3_upper 16 rfl) rfl 2 rfl ?_
    refine x_iald C (dq DX3_upper 17 rfl) h (fun a2 h => ?_)
    exact x_lv [1] rfl (tX3_upper_28 C g0 h hQ)
  · refine x_aload_n C (dq DX3_upper 7 rfl) rfl 1 rfl ?_
    refine getX3_9 C (dq DX3_upper 8 rfl) g0 ?_
    refine x_pc 15 rfl ?_
    refine x_iload_n C (dq DX3_upper 9 rfl) rfl 2 rfl ?_
    refine x_iald C (dq DX3_upper 10 rfl) h (fun a3 h => ?_)
    refine x_iload_n C (dq DX3_upper 11 rfl) rfl 0 rfl ?_
    refine x_idiv C (dq DX3_upper 12 rfl) h (fun a4 h => ?_)
    refine x_goto (tgt := 28) C (dq DX3_upper 13 rfl) (by decide) ?_
    exact x_lv [1] rfl (tX3_upper_28 C g0 h hQ)
set_option maxHeartbeats 1000000 in
theorem qX3_upper {S : List Sh} {mm : Mm} {x0 : Nat} {x1 : Int32} {r : Int32} (h : fX3_upper S mm x0 x1 = some r) : isC S x0 3 := by
  unfold fX3_upper at h
  exact (gd_some h).1
