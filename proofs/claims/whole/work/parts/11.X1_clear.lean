theorem getX1_30 {G : Gt} {l : Launch} {E : Ev} {S : List Sh} {cc : ByteArray} {nL : Nat} {rt : Option FieldType} {fr lo : Nat} {pc : Nat} {lv : List (Nat × Value)} {st : List Value} {mm : Mm} {o : Nat} (C : Cx G E cc nL RX1 rt fr lo) (d : decode cc pc = .ok (.getfield 30, 3)) (hg : isC S o 1) (k : WM G l E S (pc + 3) lv (.ref (E.2.2 (rf S mm o 6)) :: st) mm) : WM G l E S pc lv (.ref (E.2.2 o) :: st) mm := x_get2 C hg (T := TX1) (N := 11) rfl inX1 (by decide) (i := 6) (gmem 196 (by decide +kernel) rfl) rfl rfl d k
theorem getX1_33 {G : Gt} {l : Launch} {E : Ev} {S : List Sh} {cc : ByteArray} {nL : Nat} {rt : Option FieldType} {fr lo : Nat} {pc : Nat} {lv : List (Nat × Value)} {st : List Value} {mm : Mm} {o : Nat} (C : Cx G E cc nL RX1 rt fr lo) (d : decode cc pc = .ok (.getfield 33, 3)) (hg : isC S o 1) (k : WM G l E S (pc + 3) lv (.ref (E.2.2 (rf S mm o 7)) :: st) mm) : WM G l E S pc lv (.ref (E.2.2 o) :: st) mm := x_get2 C hg (T := TX1) (N := 11) rfl inX1 (by decide) (i := 7) (gmem 200 (by decide +kernel) rfl) rfl rfl d k
theorem getX1_36 {G : Gt} {l : Launch} {E : Ev} {S : List Sh} {cc : ByteArray} {nL : Nat} {rt : Option FieldType} {fr lo : Nat} {pc : Nat} {lv : List (Nat × Value)} {st : List Value} {mm : Mm} {o : Nat} (C : Cx G E cc nL RX1 rt fr lo) (d : decode cc pc = .ok (.getfield 36, 3)) (hg : isC S o 1) (k : WM G l E S (pc + 3) lv (.ref (E.2.2 (rf S mm o 8)) :: st) mm) : WM G l E S pc lv (.ref (E.2.2 o) :: st) mm := x_get2 C hg (T := TX1) (N := 11) rfl inX1 (by decide) (i := 8) (gmem 203 (by decide +kernel) rfl) rfl rfl d k
theorem putX1_42 {G : Gt} {l : Launch} {E : Ev} {S : List Sh} {cc : ByteArray} {nL : Nat} {rt : Option FieldType} {fr lo : Nat} {pc : Nat} {lv : List (Nat × Value)} {st : List Value} {mm : Mm} {o : Nat} {α : Type} {f : Mm → Option α} {r : α} {x : Int32} (C : Cx G E cc nL RX1 rt fr lo) (d : decode cc pc = .ok (.putfield 42, 3)) (hg : isC S o 1) (h : bd1 (some (u1 mm o 9 x)) f = some r) (k : ∀ m1, f m1 = some r → WM G l E S (pc + 3) lv st m1) : WM G l E S pc lv (.int x :: .ref (E.2.2 o) :: st) mm := x_putI C hg (T := TX1) (N := 11) rfl inX1 (by decide) (i := 9) (gmem 207 (by decide +kernel) rfl) rfl tyX1 tyX1_ok nmX1 rfl rfl (by decide) (by decide +kernel) d (k _ h)
theorem putX1_46 {G : Gt} {l : Launch} {E : Ev} {S : List Sh} {cc : ByteArray} {nL : Nat} {rt : Option FieldType} {fr lo : Nat} {pc : Nat} {lv : List (Nat × Value)} {st : List Value} {mm : Mm} {o : Nat} {α : Type} {f : Mm → Option α} {r : α} {x : Int32} (C : Cx G E cc nL RX1 rt fr lo) (d : decode cc pc = .ok (.putfield 46, 3)) (hg : isC S o 1) (h : bd1 (some (u1 mm o 10 x)) f = some r) (k : ∀ m1, f m1 = some r → WM G l E S (pc + 3) lv st m1) : WM G l E S pc lv (.int x :: .ref (E.2.2 o) :: st) mm := x_putI C hg (T := TX1) (N := 11) rfl inX1 (by decide) (i := 10) (gmem 214 (by decide +kernel) rfl) rfl tyX1 tyX1_ok nmX1 rfl rfl (by decide) (by decide +kernel) d (k _ h)
abbrev eX1_clear : List (Nat × Instr × Nat) := [(0, .aload_n 0, 1), (1, .iconst 0, 1), (2, .putfield 42, 3), (5, .aload_n 0, 1), (6, .iconst 0, 1), (7, .putfield 46, 3), (10, .aload_n 0, 1), (11, .getfield 36, 3), (14, .iconst 0, 1), (15, .bipush 20, 2), (17, .iastore, 1), (18, .aload_n 0, 1), (19, .getfield 36, 3), (22, .iconst 1, 1), (23, .bipush 26, 2), (25, .iastore, 1), (26, .aload_n 0, 1), (27, .getfield 36, 3), (30, .iconst 2, 1), (31, .iconst 2, 1), (32, .iastore, 1), (33, .aload_n 0, 1), (34, .getfield 36, 3), (37, .iconst 3, 1), (38, .bipush 50, 2), (40, .iastore, 1), (41, .aload_n 0, 1), (42, .getfield 36, 3), (45, .iconst 4, 1), (46, .bipush 10, 2), (48, .iastore, 1), (49, .aload_n 0, 1), (50, .getfield 36, 3), (53, .iconst 5, 1), (54, .iconst 4, 1), (55, .iastore, 1), (56, .aload_n 0, 1), (57, .getfield 36, 3), (60, .bipush 6, 2), (62, .iconst 0, 1), (63, .iastore, 1), (64, .iconst 0, 1), (65, .istore_n 1, 1), (66, .iload_n 1, 1), (67, .aload_n 0, 1), (68, .getfield 30, 3), (71, .arraylength, 1), (72, .if_icmp .ge 24, 3), (75, .aload_n 0, 1), (76, .getfield 30, 3), (79, .iload_n 1, 1), (80, .bipush (-2), 2), (82, .iastore, 1), (83, .aload_n 0, 1), (84, .getfield 33, 3), (87, .iload_n 1, 1), (88, .iconst (-1), 1), (89, .iastore, 1), (90, .iinc 1 1, 3), (93, .goto (-27), 3), (96, .return_, 1)]
theorem DX1_clear : (eX1_clear.all fun q => decide (decode cX1_clear q.1 = .ok q.2)) = true := by decide +kernel
def bX1_clear_66 (S : List Sh) (x0 : Nat) (x1 : Int32) (mm : Mm) : Option ((Int32 × Mm) ⊕ (Mm)) := bd1 (alA S (rf S mm x0 6)) fun a10 => if a10 ≤ x1 then (some (.inr (mm))) else (bd1 (stA S 0 mm (rf S mm x0 6) x1 (-2)) fun m11 => bd1 (stA S 0 m11 (rf S m11 x0 7) x1 (-1)) fun m12 => some (.inl (x1 + 1, m12)))
def fX1_clear (S : List Sh) (mm : Mm) (x0 : Nat) : Option (Mm) := gd S x0 1 (bd1 (some (u1 mm x0 9 0)) fun m1 => bd1 (some (u1 m1 x0 10 0)) fun m2 => bd1 (stA S 0 m2 (rf S m2 x0 8) 0 20) fun m3 => bd1 (stA S 0 m3 (rf S m3 x0 8) 1 26) fun m4 => bd1 (stA S 0 m4 (rf S m4 x0 8) 2 2) fun m5 => bd1 (stA S 0 m5 (rf S m5 x0 8) 3 50) fun m6 => bd1 (stA S 0 m6 (rf S m6 x0 8) 4 10) fun m7 => bd1 (stA S 0 m7 (rf S m7 x0 8) 5 4) fun m8 => bd1 (stA S 0 m8 (rf S m8 x0 8) 6 0) fun m9 => bd1 (lp (fun s13 => bX1_clear_66 S x0 s13.1 s13.2) fu (0, m9)) fun y14 => some y14)
set_option maxHeartbeats 1000000 in
theorem tX1_clear_66 {G : Gt} {l : Launch} {E : Ev} {S : List Sh} {x0 : Nat} {x1 : Int32} {mm : Mm} {r : (Int32 × Mm) ⊕ (Mm)} (C : Cx G E cX1_clear 2 RX1 none 0 0) (g0 : isC S x0 1) (h : bX1_clear_66 S x0 x1 mm = some r) (kb : ∀ z : Int32 × Mm, r = .inl z → WM G l E S 66 [(0, .ref (E.2.2 x0)), (1, .int z.1)] [] z.2) (kx : ∀ z : Mm, r = .inr z → WM G l E S 96 [(0, .ref (E.2.2 x0))] [] z) : WM G l E S 66 [(0, .ref (E.2.2 x0)), (1, .int x1)] [] mm := by
  unfold bX1_clear_66 at h
  refine x_iload_n C (dq DX1_clear 43 rfl) rfl 1 rfl ?_
  refine x_aload_n C (dq DX1_clear 44 rfl) rfl 0 rfl ?_
  refine getX1_30 C (dq DX1_clear 45 rfl) g0 ?_
  refine x_alen C (dq DX1_clear 46 rfl) h (fun a10 h => ?_)
  refine x_pc 72 rfl ?_
  refine x_icmp_ge (tgt := 96) C (dq DX1_clear 47 rfl) (by decide) h (fun h => ?_) (fun h => ?_)
  · cases h
    exact x_lv [0] rfl (kx (mm) rfl)
  · refine x_aload_n C (dq DX1_clear 48 rfl) rfl 0 rfl ?_
    refine getX1_30 C (dq DX1_clear 49 rfl) g0 ?_
    refine x_iload_n C (dq DX1_clear 50 rfl) rfl 1 rfl ?_
    refine x_bipush (v := (-2)) C (dq DX1_clear 51 rfl) (by decide) ?_
    refine x_pc 82 rfl ?_
    refine x_iast C (dq DX1_clear 52 rfl) h (fun m11 h => ?_)
    refine x_aload_n C (dq DX1_clear 53 rfl) rfl 0 rfl ?_
    refine getX1_33 C (dq DX1_clear 54 rfl) g0 ?_
    refine x_iload_n C (dq DX1_clear 55 rfl) rfl 1 rfl ?_
    refine x_iconst (v := (-1)) C (dq DX1_clear 56 rfl) (by decide) ?_
    refine x_pc 89 rfl ?_
    refine x_iast C (dq DX1_clear 57 rfl) h (fun m12 h => ?_)
    refine x_iinc (v := x1 + 1) (lv' := [(1, .int (x1 + 1)), (0, .ref (E.2.2 x0))]) C (dq DX1_clear 58 rfl) 1 rfl rfl (by decide) rfl ?_
    refine x_goto (tgt := 66) C (dq DX1_clear 59 rfl) (by decide) ?_
    cases h
    exact x_lv [1, 0] rfl (kb (x1 + 1, m12) rfl)
set_option maxHeartbeats 1000000 in
theorem mX1_clear {l : Launch} {E : Ev} {S : List Sh} {mm : Mm} {x0 : Nat} {r : Mm} (h : fX1_clear S mm x0 = some r) : Ml l E S yX1_clear cX1_clear 2 none 0 0 [.ref (E.2.2 x0)] mm none r := by
  refine Ml.of (by decide +kernel) (Nat.le_of_ble_eq_true rfl) (fun G C hQ => ?_)
  have C : Cx G E cX1_clear 2 RX1 none 0 0 := C
  unfold fX1_clear at h
  obtain ⟨g0, h⟩ := gd_some h
  show WM G l E S 0 [(0, .ref (E.2.2 x0))] [] mm
  refine x_aload_n C (dq DX1_clear 0 rfl) rfl 0 rfl ?_
  refine x_iconst (v := 0) C (dq DX1_clear 1 rfl) (by decide) ?_
  refine putX1_42 C (dq DX1_clear 2 rfl) g0 h (fun m1 h => ?_)
  refine x_aload_n C (dq DX1_clear 3 rfl) rfl 0 rfl ?_
  refine x_pc 6 rfl ?_
  refine x_iconst (v := 0) C (dq DX1_clear 4 rfl) (by decide) ?_
  refine putX1_46 C (dq DX1_clear 5 rfl) g0 h (fun m2 h => ?_)
  refine x_aload_n C (dq DX1_clear 6 rfl) rfl 0 rfl ?_
  refine getX1_36 C (dq DX1_clear 7 rfl) g0 ?_
  refine x_iconst (v := 0) C (dq DX1_clear 8 rfl) (by decide) ?_
  refine x_pc 15 rfl ?_
  refine x_bipush (v := 20) C (dq DX1_clear 9 rfl) (by decide) ?_
  refine x_iast C (dq DX1_clear 10 rfl) h (fun m3 h => ?_)
  refine x_aload_n C (dq DX1_clear 11 rfl) rfl 0 rfl ?_
  refine getX1_36 C (dq DX1_clear 12 rfl) g0 ?_
  refine x_iconst (v := 1) C (dq DX1_clear 13 rfl) (by decide) ?_
  refine x_pc 23 rfl ?_
  refine x_bipush (v := 26) C (dq DX1_clear 14 rfl) (by decide) ?_
  refine x_iast C (dq DX1_clear 15 rfl) h (fun m4 h => ?_)
  refine x_aload_n C (dq DX1_clear 16 rfl) rfl 0 rfl ?_
  refine getX1_36 C (dq DX1_clear 17 rfl) g0 ?_
  refine x_iconst (v := 2) C (dq DX1_clear 18 rfl) (by decide) ?_
  refine x_pc 31 rfl ?_
  refine x_iconst (v := 2) C (dq DX1_clear 19 rfl) (by decide) ?_
  refine x_iast C (dq DX1_clear 20 rfl) h (fun m5 h => ?_)
  refine x_aload_n C (dq DX1_clear 21 rfl) rfl 0 rfl ?_
  refine getX1_36 C (dq DX1_clear 22 rfl) g0 ?_
  refine x_iconst (v := 3) C (dq DX1_clear 23 rfl) (by decide) ?_
  refine x_pc 38 rfl ?_
  refine x_bipush (v := 50) C (dq DX1_clear 24 rfl) (by decide) ?_
  refine x_iast C (dq DX1_clear 25 rfl) h (fun m6 h => ?_)
  refine x_aload_n C (dq DX1_clear 26 rfl) rfl 0 rfl ?_
  refine getX1_36 C (dq DX1_clear 27 rfl) g0 ?_
  refine x_iconst (v := 4) C (dq DX1_clear 28 rfl) (by decide) ?_
  refine x_pc 46 rfl ?_
  refine x_bipush (v := 10) C (dq DX1_clear 29 rfl) (by decide) ?_
  refine x_iast C (dq DX1_clear 30 rfl) h (fun m7 h => ?_)
  refine x_aload_n C (dq DX1_clear 31 rfl) rfl 0 rfl ?_
  refine getX1_36 C (dq DX1_clear 32 rfl) g0 ?_
  refine x_iconst (v := 5) C (dq DX1_clear 33 rfl) (by decide) ?_
  refine x_pc 54 rfl ?_
  refine x_iconst (v := 4) C (dq DX1_clear 34 rfl) (by decide) ?_
  refine x_iast C (dq DX1_clear 35 rfl) h (fun m8 h => ?_)
  refine x_aload_n C (dq DX1_clear 36 rfl) rfl 0 rfl ?_
  refine getX1_36 C (dq DX1_clear 37 rfl) g0 ?_
  refine x_bipush (v := 6) C (dq DX1_clear 38 rfl) (by decide) ?_
  refine x_pc 62 rfl ?_
  refine x_iconst (v := 0) C (dq DX1_clear 39 rfl) (by decide) ?_
  refine x_iast C (dq DX1_clear 40 rfl) h (fun m9 h => ?_)
  refine x_iconst (v := 0) C (dq DX1_clear 41 rfl) (by decide) ?_
  refine x_istore_n (lv' := [(1, .int 0), (0, .ref (E.2.2 x0))]) C (dq DX1_clear 42 rfl) rfl (by decide) rfl ?_
  refine x_lv [1, 0] rfl ?_
  refine x_loop (s0 := (0, m9)) (fun s13 => WM G l E S 66 [(0, .ref (E.2.2 x0)), (1, .int s13.1)] [] s13.2) h (fun s13 r hb kb kx => tX1_clear_66 C g0 hb kb (fun y14 hy => ?_))
  have h := kx y14 hy
  clear kx kb hb hy
  cases h
  exact x_vret C (dq DX1_clear 60 rfl) hQ
set_option maxHeartbeats 1000000 in
theorem qX1_clear {S : List Sh} {mm : Mm} {x0 : Nat} {r : Mm} (h : fX1_clear S mm x0 = some r) : isC S x0 1 := by
  unfold fX1_clear at h
  exact (gd_some h).1
theorem getX1_9 {G : Gt} {l : Launch} {E : Ev} {S : List Sh} {cc : ByteArray} {nL : Nat} {rt : Option FieldType} {fr lo : Nat} {pc : Nat} {lv : List (Nat × Value)} {st : List Value} {mm : Mm} {o : Nat} (C : Cx G E cc nL RX1 rt fr lo) (d : decode cc pc = .ok (.getfield 9, 3)) (hg : isC S o 1) (k : WM G l E S (pc + 3) lv (.ref (E.2.2 (rf S mm o 0)) :: st) mm) : WM G l E S pc lv (.ref (E.2.2 o) :: st) mm := x_get2 C hg (T := TX1) (N := 11) rfl inX1 (by decide) (i := 0) (gmem 180 (by decide +kernel) rfl) rfl rfl d k
theorem getX1_42 {G : Gt} {l : Launch} {E : Ev} {S : List Sh} {cc : ByteArray} {nL : Nat} {rt : Option FieldType} {fr lo : Nat} {pc : Nat} {lv : List (Nat × Value)} {st : List Value} {mm : Mm} {o : Nat} (C : Cx G E cc nL RX1 rt fr lo) (d : decode cc pc = .ok (.getfield 42, 3)) (hg : isC S o 1) (k : WM G l E S (pc + 3) lv (.int (mm.1 o 9) :: st) mm) : WM G l E S pc lv (.ref (E.2.2 o) :: st) mm := x_get0 C hg (T := TX1) (N := 11) rfl inX1 (by decide) (i := 9) (gmem 207 (by decide +kernel) rfl) rfl rfl d k
abbrev eX1_linkOf : List (Nat × Instr × Nat) := [(0, .iconst 0, 1), (1, .istore_n 2, 1), (2, .iload_n 2, 1), (3, .aload_n 0, 1), (4, .getfield 42, 3), (7, .if_icmp .ge 21, 3), (10, .aload_n 0, 1), (11, .getfield 9, 3), (14, .iload_n 2, 1), (15, .iaload, 1), (16, .iload_n 1, 1), (17, .if_icmp .ne 5, 3), (20, .iload_n 2, 1), (21, .ireturn, 1), (22, .iinc 2 1, 3), (25, .goto (-23), 3), (28, .iconst (-1), 1), (29, .ireturn, 1)]
theorem DX1_linkOf : (eX1_linkOf.all fun q => decide (decode cX1_linkOf q.1 = .ok q.2)) = true := by decide +kernel
def bX1_linkOf_2 (S : List Sh) (mm : Mm) (x0 : Nat) (x1 : Int32) (x2 : Int32) : Option ((Int32) ⊕ ((Int32) ⊕ (Unit))) := if (mm.1 x0 9) ≤ x2 then (some (.inr (.inr ()))) else (bd1 (ldA S 0 mm (rf S mm x0 0) x2) fun a1 => if ¬ a1 = x1 then (some (.inl (x2 + 1))) else (some (.inr (.inl x2))))
def fX1_linkOf (S : List Sh) (mm : Mm) (x0 : Nat) (x1 : Int32) : Option (Int32) := gd S x0 1 (bdR (lp (fun s2 => bX1_linkOf_2 S mm x0 x1 s2) fu 0) (fun a4 => some a4) fun y3 => some (-1))
set_option maxHeartbeats 1000000 in
theorem tX1_linkOf_2 {G : Gt} {l : Launch} {E : Ev} {S : List Sh} {mm : Mm} {x0 : Nat} {x1 : Int32} {x2 : Int32} {r : (Int32) ⊕ ((Int32) ⊕ (Unit))} (C : Cx G E cX1_linkOf 3 RX1 (some .int) 0 0) (g0 : isC S x0 1) (h : bX1_linkOf_2 S mm x0 x1 x2 = some r) (kb : ∀ z : Int32, r = .inl z → WM G l E S 2 [(0, .ref (E.2.2 x0)), (1, .int x1), (2, .int z)] [] mm) (kr : ∀ z : Int32, r = .inr (.inl z) → RQ G E S (some (.int z)) mm) (kx : ∀ z : Unit, r = .inr (.inr z) → WM G l E S 28 [(0, .ref (E.2.2 x0)), (1, .int x1)] [] mm) : WM G l E S 2 [(0, .ref (E.2.2 x0)), (1, .int x1), (2, .int x2)] [] mm := by
  unfold bX1_linkOf_2 at h
  refine x_iload_n C (dq DX1_linkOf 2 rfl) rfl 2 rfl ?_
  refine x_aload_n C (dq DX1_linkOf 3 rfl) rfl 0 rfl ?_
  refine getX1_42 C (dq DX1_linkOf 4 rfl) g0 ?_
  refine x_icmp_ge (tgt := 28) C (dq DX1_linkOf 5 rfl) (by decide) h (fun h => ?_) (fun h => ?_)
  · cases h
    exact x_lv [0, 1] rfl (kx () rfl)
  · refine x_pc 10 rfl ?_
    refine x_aload_n C (dq DX1_linkOf 6 rfl) rfl 0 rfl ?_
    refine getX1_9 C (dq DX1_linkOf 7 rfl) g0 ?_
    refine x_iload_n C (dq DX1_linkOf 8 rfl) rfl 2 rfl ?_
    refine x_iald C (dq DX1_linkOf 9 rfl) h (fun a1 h => ?_)
    refine x_iload_n C (dq DX1_linkOf 10 rfl) rfl 1 rfl ?_
    refine x_pc 17 rfl ?_
    refine x_icmp_ne (tgt := 22) C (dq DX1_linkOf 11 rfl) (by decide) h (fun h => ?_) (fun h => ?_)
    · refine x_iinc (v := x2 + 1) (lv' := [(2, .int (x2 + 1)), (0, .ref (E.2.2 x0)), (1, .int x1)]) C (dq DX1_linkOf 14 rfl) 2 rfl rfl (by decide) rfl ?_
      refine x_goto (tgt := 2) C (dq DX1_linkOf 15 rfl) (by decide) ?_
      cases h
      exact x_lv [1, 2, 0] rfl (kb (x2 + 1) rfl)
    · refine x_iload_n C (dq DX1_linkOf 12 rfl) rfl 2 rfl ?_
      cases h
      exact x_iret C (dq DX1_linkOf 13 rfl) (kr x2 rfl)
set_option maxHeartbeats 1000000 in
theorem mX1_linkOf {l : Launch} {E : Ev} {S : List Sh} {mm : Mm} {x0 : Nat} {x1 : Int32} {r : Int32} (h : fX1_linkOf S mm x0 x1 = some r) : Ml l E S yX1_linkOf cX1_linkOf 3 (some .int) 0 0 [.ref (E.2.2 x0), .int x1] mm (some (.int r)) mm := by
  refine Ml.of (by decide +kernel) (Nat.le_of_ble_eq_true rfl) (fun G C hQ => ?_)
  have C : Cx G E cX1_linkOf 3 RX1 (some .int) 0 0 := C
  unfold fX1_linkOf at h
  obtain ⟨g0, h⟩ := gd_some h
  show WM G l E S 0 [(0, .ref (E.2.2 x0)), (1, .int x1)] [] mm
  refine x_iconst (v := 0) C (dq DX1_linkOf 0 rfl) (by decide) ?_
  refine x_istore_n (lv' := [(2, .int 0), (0, .ref (E.2.2 x0)), (1, .int x1)]) C (dq DX1_linkOf 1 rfl) rfl (by decide) rfl ?_
  refine x_lv [1, 2, 0] rfl ?_
  refine x_loopR (s0 := 0) (fun s2 => WM G l E S 2 [(0, .ref (E.2.2 x0)), (1, .int x1), (2, .int s2)] [] mm) h (fun s2 r hb kb kg kx => tX1_linkOf_2 C g0 hb kb (fun a4 ha => ?_) (fun y3 hy => ?_))
  · have h := kg a4 ha
    cases h
    exact hQ
  · have h := kx y3 hy
    clear kx kb hb hy kg
    refine x_iconst (v := (-1)) C (dq DX1_linkOf 16 rfl) (by decide) ?_
    cases h
    exact x_iret C (dq DX1_linkOf 17 rfl) hQ
set_option maxHeartbeats 1000000 in
theorem qX1_linkOf {S : List Sh} {mm : Mm} {x0 : Nat} {x1 : Int32} {r : Int32} (h : fX1_linkOf S mm x0 x1 = some r) : isC S x0 1 := by
  unfold fX1_linkOf at h
  exact (gd_some h).1
theorem getX1_21 {G : Gt} {l : Launch} {E : Ev} {S : List Sh} {cc : ByteArray} {nL : Nat} {rt : Option FieldType} {fr lo : Nat} {pc : Nat} {lv : List (Nat × Value)} {st : List Value} {mm : Mm} {o : Nat} (C : Cx G E cc nL RX1 rt fr lo) (d : decode cc pc = .ok (.getfield 21, 3)) (hg : isC S o 1) (k : WM G l E S (pc + 3) lv (.ref (E.2.2 (rf S mm o 3)) :: st) mm) : WM G l E S pc lv (.ref (E.2.2 o) :: st) mm := x_get2 C hg (T := TX1) (N := 11) rfl inX1 (by decide) (i := 3) (gmem 190 (by decide +kernel) rfl) rfl rfl d k
theorem getX1_46 {G : Gt} {l : Launch} {E : Ev} {S : List Sh} {cc : ByteArray} {nL : Nat} {rt : Option FieldType} {fr lo : Nat} {pc : Nat} {lv : List (Nat × Value)} {st : List Value} {mm : Mm} {o : Nat} (C : Cx G E cc nL RX1 rt fr lo) (d : decode cc pc = .ok (.getfield 46, 3)) (hg : isC S o 1) (k : WM G l E S (pc + 3) lv (.int (mm.1 o 10) :: st) mm) : WM G l E S pc lv (.ref (E.2.2 o) :: st) mm := x_get0 C hg (T := TX1) (N := 11) rfl inX1 (by decide) (i := 10) (gmem 214 (by decide +kernel) rfl) rfl rfl d k
abbrev eX1_flowOf : List (Nat × Instr × Nat) := [(0, .iconst 0, 1), (1, .istore_n 2, 1), (2, .iload_n 2, 1), (3, .aload_n 0, 1), (4, .getfield 46, 3), (7, .if_icmp .ge 21, 3), (10, .aload_n 0, 1), (11, .getfield 21, 3), (14, .iload_n 2, 1), (15, .iaload, 1), (16, .iload_n 1, 1), (17, .if_icmp .ne 5, 3), (20, .iload_n 2, 1), (21, .ireturn, 1), (22, .iinc 2 1, 3), (25, .goto (-23), 3), (28, .iconst (-1), 1), (29, .ireturn, 1)]
theorem DX1_flowOf : (eX1_flowOf.all fun q => decide (decode cX1_flowOf q.1 = .ok q.2)) = true := by decide +kernel
def bX1_flowOf_2 (S : List Sh) (mm : Mm) (x0 : Nat) (x1 : Int32) (x2 : Int32) : Option ((Int32) ⊕ ((Int32) ⊕ (Unit))) := if (mm.1 x0 10) ≤ x2 then (some (.inr (.inr ()))) else (bd1 (ldA S 0 mm (rf S mm x0 3) x2) fun a1 => if ¬ a1 = x1 then (some (.inl (x2 + 1))) else (some (.inr (.inl x2))))
def fX1_flowOf (S : List Sh) (mm : Mm) (x0 : Nat) (x1 : Int32) : Option (Int32) := gd S x0 1 (bdR (lp (fun s2 => bX1_flowOf_2 S mm x0 x1 s2) fu 0) (fun a4 => some a4) fun y3 => some (-1))
set_option maxHeartbeats 1000000 in
theorem tX1_flowOf_2 {G : Gt} {l : Launch} {E : Ev} {S : List Sh} {mm : Mm} {x0 : Nat} {x1 : Int32} {x2 : Int32} {r : (Int32) ⊕ ((Int32) ⊕ (Unit))} (C : Cx G E cX1_flowOf 3 RX1 (some .int) 0 0) (g0 : isC S x0 1) (h : bX1_flowOf_2 S mm x0 x1 x2 = some r) (kb : ∀ z : Int32, r = .inl z → WM G l E S 2 [(0, .ref (E.2.2 x0)), (1, .int x1), (2, .int z)] [] mm) (kr : ∀ z : Int32, r = .inr (.inl z) → RQ G E S (some (.int z)) mm) (kx : ∀ z : Unit, r = .inr (.inr z) → WM G l E S 28 [(0, .ref (E.2.2 x0)), (1, .int x1)] [] mm) : WM G l E S 2 [(0, .ref (E.2.2 x0)), (1, .int x1), (2, .int x2)] [] mm := by
  unfold bX1_flowOf_2 at h
  refine x_iload_n C (dq DX1_flowOf 2 rfl) rfl 2 rfl ?_
  refine x_aload_n C (dq DX1_flowOf 3 rfl) rfl 0 rfl ?_
  refine getX1_46 C (dq DX1_flowOf 4 rfl) g0 ?_
  refine x_icmp_ge (tgt := 28) C (dq DX1_flowOf 5 rfl) (by decide) h (fun h => ?_) (fun h => ?_)
  · cases h
    exact x_lv [0, 1] rfl (kx () rfl)
  · refine x_pc 10 rfl ?_
    refine x_aload_n C (dq DX1_flowOf 6 rfl) rfl 0 rfl ?_
    refine getX1_21 C (dq DX1_flowOf 7 rfl) g0 ?_
    refine x_iload_n C (dq DX1_flowOf 8 rfl) rfl 2 rfl ?_
    refine x_iald C (dq DX1_flowOf 9 rfl) h (fun a1 h => ?_)
    refine x_iload_n C (dq DX1_flowOf 10 rfl) rfl 1 rfl ?_
    refine x_pc 17 rfl ?_
    refine x_icmp_ne (tgt := 22) C (dq DX1_flowOf 11 rfl) (by decide) h (fun h => ?_) (fun h => ?_)
    · refine x_iinc (v := x2 + 1) (lv' := [(2, .int (x2 + 1)), (0, .ref (E.2.2 x0)), (1, .int x1)]) C (dq DX1_flowOf 14 rfl) 2 rfl rfl (by decide) rfl ?_
      refine x_goto (tgt := 2) C (dq DX1_flowOf 15 rfl) (by decide) ?_
      cases h
      exact x_lv [1, 2, 0] rfl (kb (x2 + 1) rfl)
    · refine x_iload_n C (dq DX1_flowOf 12 rfl) rfl 2 rfl ?_
      cases h
      exact x_iret C (dq DX1_flowOf 13 rfl) (kr x2 rfl)
set_option maxHeartbeats 1000000 in
theorem mX1_flowOf {l : Launch} {E : Ev} {S : List Sh} {mm : Mm} {x0 : Nat} {x1 : Int32} {r : Int32} (h : fX1_flowOf S mm x0 x1 = some r) : Ml l E S yX1_flowOf cX1_flowOf 3 (some .int) 0 0 [.ref (E.2.2 x0), .int x1] mm (some (.int r)) mm := by
  refine Ml.of (by decide +kernel) (Nat.le_of_ble_eq_true rfl) (fun G C hQ => ?_)
  have C : Cx G E cX1_flowOf 3 RX1 (some .int) 0 0 := C
  unfold fX1_flowOf at h
  obtain ⟨g0, h⟩ := gd_some h
  show WM G l E S 0 [(0, .ref (E.2.2 x0)), (1, .int x1)] [] mm
  refine x_iconst (v := 0) C (dq DX1_flowOf 0 rfl) (by decide) ?_
  refine x_istore_n (lv' := [(2, .int 0), (0, .ref (E.2.2 x0)), (1, .int x1)]) C (dq DX1_flowOf 1 rfl) rfl (by decide) rfl ?_
  refine x_lv [1, 2, 0] rfl ?_
  refine x_loopR (s0 := 0) (fun s2 => WM G l E S 2 [(0, .ref (E.2.2 x0)), (1, .int x1), (2, .int s2)] [] mm) h (fun s2 r hb kb kg kx => tX1_flowOf_2 C g0 hb kb (fun a4 ha => ?_) (fun y3 hy => ?_))
  · have h := kg a4 ha
    cases h
    exact hQ
  · have h := kx y3 hy
    clear kx kb hb hy kg
    refine x_iconst (v := (-1)) C (dq DX1_flowOf 16 rfl) (by decide) ?_
    cases h
    exact x_iret C (dq DX1_flowOf 17 rfl) hQ
set_option maxHeartbeats 1000000 in
theorem qX1_flowOf {S : List Sh} {mm : Mm} {x0 : Nat} {x1 : Int32} {r : Int32} (h : fX1_flowOf S mm x0 x1 = some r) : isC S x0 1 := by
  unfold fX1_flowOf at h
  exact (gd_some h).1
theorem getX1_24 {G : Gt} {l : Launch} {E : Ev} {S : List Sh} {cc : ByteArray} {nL : Nat} {rt : Option FieldType} {fr lo : Nat} {pc : Nat} {lv : List (Nat × Value)} {st : List Value} {mm : Mm} {o : Nat} (C : Cx G E cc nL RX1 rt fr lo) (d : decode cc pc = .ok (.getfield 24, 3)) (hg : isC S o 1) (k : WM G l E S (pc + 3) lv (.ref (E.2.2 (rf S mm o 4)) :: st) mm) : WM G l E S pc lv (.ref (E.2.2 o) :: st) mm := x_get2 C hg (T := TX1) (N := 11) rfl inX1 (by decide) (i := 4) (gmem 192 (by decide +kernel) rfl) rfl rfl d k
theorem getX1_27 {G : Gt} {l : Launch} {E : Ev} {S : List Sh} {cc : ByteArray} {nL : Nat} {rt : Option FieldType} {fr lo : Nat} {pc : Nat} {lv : List (Nat × Value)} {st : List Value} {mm : Mm} {o : Nat} (C : Cx G E cc nL RX1 rt fr lo) (d : decode cc pc = .ok (.getfield 27, 3)) (hg : isC S o 1) (k : WM G l E S (pc + 3) lv (.ref (E.2.2 (rf S mm o 5)) :: st) mm) : WM G l E S pc lv (.ref (E.2.2 o) :: st) mm := x_get2 C hg (T := TX1) (N := 11) rfl inX1 (by decide) (i := 5) (gmem 194 (by decide +kernel) rfl) rfl rfl d k
abbrev eX1_goOn : List (Nat × Instr × Nat) := [(0, .iload_n 2, 1), (1, .ifCond .lt 8, 3), (4, .iload_n 2, 1), (5, .iconst 5, 1), (6, .if_icmp .lt 4, 3), (9, .return_, 1), (10, .iload_n 2, 1), (11, .ifCond .ne 7, 3), (14, .iconst (-1), 1), (15, .goto 15, 3), (18, .aload_n 0, 1), (19, .getfield 27, 3), (22, .iload_n 1, 1), (23, .iconst 5, 1), (24, .imul, 1), (25, .iload_n 2, 1), (26, .iadd, 1), (27, .iconst 1, 1), (28, .isub, 1), (29, .iaload, 1), (30, .istore 4, 2), (32, .iload 4, 2), (34, .ifCond .lt 16, 3), (37, .aload_n 0, 1), (38, .getfield 33, 3), (41, .iload 4, 2), (43, .bipush 8, 2), (45, .imul, 1), (46, .iload_n 1, 1), (47, .iadd, 1), (48, .iload_n 3, 1), (49, .iastore, 1), (50, .aload_n 0, 1), (51, .getfield 30, 3), (54, .iload_n 3, 1), (55, .bipush 8, 2), (57, .imul, 1), (58, .iload_n 1, 1), (59, .iadd, 1), (60, .iload 4, 2), (62, .iastore, 1), (63, .aload_n 0, 1), (64, .getfield 27, 3), (67, .iload_n 1, 1), (68, .iconst 5, 1), (69, .imul, 1), (70, .iload_n 2, 1), (71, .iadd, 1), (72, .iload_n 3, 1), (73, .iastore, 1), (74, .aload_n 0, 1), (75, .getfield 24, 3), (78, .iload_n 1, 1), (79, .iload_n 2, 1), (80, .iconst 1, 1), (81, .iadd, 1), (82, .iastore, 1), (83, .return_, 1)]
theorem DX1_goOn : (eX1_goOn.all fun q => decide (decode cX1_goOn q.1 = .ok q.2)) = true := by decide +kernel
def jX1_goOn_9 (S : List Sh) (mm : Mm) (x0 : Nat)  : Option (Mm) := some mm
def jX1_goOn_50 (S : List Sh) (mm : Mm) (x0 : Nat) (x1 : Int32) (x2 : Int32) (x3 : Int32) (x4 : Int32)  : Option (Mm) := bd1 (stA S 0 mm (rf S mm x0 6) ((x3 * 8) + x1) x4) fun m2 => bd1 (stA S 0 m2 (rf S m2 x0 5) ((x1 * 5) + x2) x3) fun m3 => bd1 (stA S 0 m3 (rf S m3 x0 4) x1 (x2 + 1)) fun m4 => some m4
def jX1_goOn_30 (S : List Sh) (mm : Mm) (x0 : Nat) (x1 : Int32) (x2 : Int32) (x3 : Int32) (p0 : Int32) : Option (Mm) := if p0 < 0 then (jX1_goOn_50 S mm x0 x1 x2 x3 p0) else (bd1 (stA S 0 mm (rf S mm x0 7) ((p0 * 8) + x1) x3) fun m5 => jX1_goOn_50 S m5 x0 x1 x2 x3 p0)
def fX1_goOn (S : List Sh) (mm : Mm) (x0 : Nat) (x1 : Int32) (x2 : Int32) (x3 : Int32) : Option (Mm) := gd S x0 1 (if x2 < 0 then (jX1_goOn_9 S mm x0) else (if x2 < 5 then (if ¬ x2 = 0 then (bd1 (ldA S 0 mm (rf S mm x0 5) (((x1 * 5) + x2) - 1)) fun a1 => jX1_goOn_30 S mm x0 x1 x2 x3 a1) else (jX1_goOn_30 S mm x0 x1 x2 x3 (-1))) else (jX1_goOn_9 S mm x0)))
set_option maxHeartbeats 1000000 in
theorem tX1_goOn_9 {G : Gt} {l : Launch} {E : Ev} {S : List Sh} {mm : Mm} {x0 : Nat}  {r : Mm} (C : Cx G E cX1_goOn 5 RX1 none 0 0) (g0 : isC S x0 1) (h : jX1_goOn_9 S mm x0 = some r) (hQ : RQ G E S none r) : WM G l E S 9 [(0, .ref (E.2.2 x0))] [] mm := by
  unfold jX1_goOn_9 at h
  cases h
  exact x_vret C (dq DX1_goOn 5 rfl) hQ
set_option maxHeartbeats 1000000 in
theorem tX1_goOn_50 {G : Gt} {l : Launch} {E : Ev} {S : List Sh} {mm : Mm} {x0 : Nat} {x1 : Int32} {x2 : Int32} {x3 : Int32} {x4 : Int32}  {r : Mm} (C : Cx G E cX1_goOn 5 RX1 none 0 0) (g0 : isC S x0 1) (h : jX1_goOn_50 S mm x0 x1 x2 x3 x4 = some r) (hQ : RQ G E S none r) : WM G l E S 50 [(0, .ref (E.2.2 x0)), (1, .int x1), (2, .int x2), (3, .int x3), (4, .int x4)] [] mm := by
  unfold jX1_goOn_50 at h
  refine x_aload_n C (dq DX1_goOn 32 rfl) rfl 0 rfl ?_
  refine getX1_30 C (dq DX1_goOn 33 rfl) g0 ?_
  refine x_iload_n C (dq DX1_goOn 34 rfl) rfl 3 rfl ?_
  refine x_bipush (v := 8) C (dq DX1_goOn 35 rfl) (by decide) ?_
  refine x_pc 57 rfl ?_
  refine x_imul C (dq DX1_goOn 36 rfl) ?_
  refine x_iload_n C (dq DX1_goOn 37 rfl) rfl 1 rfl ?_
  refine x_iadd C (dq DX1_goOn 38 rfl) ?_
  refine x_iload C (dq DX1_goOn 39 rfl) 4 rfl ?_
  refine x_iast C (dq DX1_goOn 40 rfl) h (fun m2 h => ?_)
  refine x_pc 63 rfl ?_
  refine x_aload_n C (dq DX1_goOn 41 rfl) rfl 0 rfl ?_
  refine getX1_27 C (dq DX1_goOn 42 rfl) g0 ?_
  refine x_iload_n C (dq DX1_goOn 43 rfl) rfl 1 rfl ?_
  refine x_iconst (v := 5) C (dq DX1_goOn 44 rfl) (by decide) ?_
  refine x_imul C (dq DX1_goOn 45 rfl) ?_
  refine x_pc 70 rfl ?_
  refine x_iload_n C (dq DX1_goOn 46 rfl) rfl 2 rfl ?_
  refine x_iadd C (dq DX1_goOn 47 rfl) ?_
  refine x_iload_n C (dq DX1_goOn 48 rfl) rfl 3 rfl ?_
  refine x_iast C (dq DX1_goOn 49 rfl) h (fun m3 h => ?_)
  refine x_aload_n C (dq DX1_goOn 50 rfl) rfl 0 rfl ?_
  refine x_pc 75 rfl ?_
  refine getX1_24 C (dq DX1_goOn 51 rfl) g0 ?_
  refine x_iload_n C (dq DX1_goOn 52 rfl) rfl 1 rfl ?_
  refine x_iload_n C (dq DX1_goOn 53 rfl) rfl 2 rfl ?_
  refine x_iconst (v := 1) C (dq DX1_goOn 54 rfl) (by decide) ?_
  refine x_iadd C (dq DX1_goOn 55 rfl) ?_
  refine x_pc 82 rfl ?_
  refine x_iast C (dq DX1_goOn 56 rfl) h (fun m4 h => ?_)
  cases h
  exact x_vret C (dq DX1_goOn 57 rfl) hQ
set_option maxHeartbeats 1000000 in
theorem tX1_goOn_30 {G : Gt} {l : Launch} {E : Ev} {S : List Sh} {mm : Mm} {x0 : Nat} {x1 : Int32} {x2 : Int32} {x3 : Int32} {p0 : Int32} {r : Mm} (C : Cx G E cX1_goOn 5 RX1 none 0 0) (g0 : isC S x0 1) (h : jX1_goOn_30 S mm x0 x1 x2 x3 p0 = some r) (hQ : RQ G E S none r) : WM G l E S 30 [(0, .ref (E.2.2 x0)), (1, .int x1), (2, .int x2), (3, .int x3)] [.int p0] mm := by
  unfold jX1_goOn_30 at h
  refine x_istore (lv' := [(4, .int p0), (0, .ref (E.2.2 x0)), (1, .int x1), (2, .int x2), (3, .int x3)]) C (dq DX1_goOn 20 rfl) (by decide) rfl ?_
  refine x_iload C (dq DX1_goOn 21 rfl) 0 rfl ?_
  refine x_if_lt (tgt := 50) C (dq DX1_goOn 22 rfl) (by decide) h (fun h => ?_) (fun h => ?_)
  · exact x_lv [1, 2, 3, 4, 0] rfl (tX1_goOn_50 C g0 h hQ)
  · refine x_aload_n C (dq DX1_goOn 23 rfl) rfl 1 rfl ?_
    refine x_pc 38 rfl ?_
    refine getX1_33 C (dq DX1_goOn 24 rfl) g0 ?_
    refine x_iload C (dq DX1_goOn 25 rfl) 0 rfl ?_
    refine x_bipush (v := 8) C (dq DX1_goOn 26 rfl) (by decide) ?_
    refine x_imul C (dq DX1_goOn 27 rfl) ?_
    refine x_iload_n C (dq DX1_goOn 28 rfl) rfl 2 rfl ?_
    refine x_pc 47 rfl ?_
    refine x_iadd C (dq DX1_goOn 29 rfl) ?_
    refine x_iload_n C (dq DX1_goOn 30 rfl) rfl 4 rfl ?_
    refine x_iast C (dq DX1_goOn 31 rfl) h (fun m5 h => ?_)
    exact x_lv [1, 2, 3, 4, 0] rfl (tX1_goOn_50 C g0 h hQ)
set_option maxHeartbeats 1000000 in
theorem mX1_goOn {l : Launch} {E : Ev} {S : List Sh} {mm : Mm} {x0 : Nat} {x1 : Int32} {x2 : Int32} {x3 : Int32} {r : Mm} (h : fX1_goOn S mm x0 x1 x2 x3 = some r) : Ml l E S yX1_goOn cX1_goOn 5 none 0 0 [.ref (E.2.2 x0), .int x1, .int x2, .int x3] mm none r := by
  refine Ml.of (by decide +kernel) (Nat.le_of_ble_eq_true rfl) (fun G C hQ => ?_)
  have C : Cx G E cX1_goOn 5 RX1 none 0 0 := C
  unfold fX1_goOn at h
  obtain ⟨g0, h⟩ := gd_some h
  show WM G l E S 0 [(0, .ref (E.2.2 x0)), (1, .int x1), (2, .int x2), (3, .int x3)] [] mm
  refine x_iload_n C (dq DX1_goOn 0 rfl) rfl 2 rfl ?_
  refine x_if_lt (tgt := 9) C (dq DX1_goOn 1 rfl) (by decide) h (fun h => ?_) (fun h => ?_)
  · exact x_lv [0] rfl (tX1_goOn_9 C g0 h hQ)
  · refine x_iload_n C (dq DX1_goOn 2 rfl) rfl 2 rfl ?_
    refine x_iconst (v := 5) C (dq DX1_goOn 3 rfl) (by decide) ?_
    refine x_pc 6 rfl ?_
    refine x_icmp_lt (tgt := 10) C (dq DX1_goOn 4 rfl) (by decide) h (fun h => ?_) (fun h => ?_)
    · refine x_iload_n C (dq DX1_goOn 6 rfl) rfl 2 rfl ?_
      refine x_if_ne (tgt := 18) C (dq DX1_goOn 7 rfl) (by decide) h (fun h => ?_) (fun h => ?_)
      · refine x_aload_n C (dq DX1_goOn 10 rfl) rfl 0 rfl ?_
        refine getX1_27 C (dq DX1_goOn 11 rfl) g0 ?_
        refine x_pc 22 rfl ?_
        refine x_iload_n C (dq DX1_goOn 12 rfl) rfl 1 rfl ?_
        refine x_iconst (v := 5) C (dq DX1_goOn 13 rfl) (by decide) ?_
        refine x_imul C (dq DX1_goOn 14 rfl) ?_
        refine x_iload_n C (dq DX1_goOn 15 rfl) rfl 2 rfl ?_
        refine x_iadd C (dq DX1_goOn 16 rfl) ?_
        refine x_pc 27 rfl ?_
        refine x_iconst (v := 1) C (dq DX1_goOn 17 rfl) (by decide) ?_
        refine x_isub C (dq DX1_goOn 18 rfl) ?_
        refine x_iald C (dq DX1_goOn 19 rfl) h (fun a1 h => ?_)
        exact x_lv [0, 1, 2, 3] rfl (tX1_goOn_30 C g0 h hQ)
      · refine x_iconst (v := (-1)) C (dq DX1_goOn 8 rfl) (by decide) ?_
        refine x_goto (tgt := 30) C (dq DX1_goOn 9 rfl) (by decide) ?_
        exact x_lv [0, 1, 2, 3] rfl (tX1_goOn_30 C g0 h hQ)
    · exact x_lv [0] rfl (tX1_goOn_9 C g0 h hQ)
set_option maxHeartbeats 1000000 in
theorem qX1_goOn {S : List Sh} {mm : Mm} {x0 : Nat} {x1 : Int32} {x2 : Int32} {x3 : Int32} {r : Mm} (h : fX1_goOn S mm x0 x1 x2 x3 = some r) : isC S x0 1 := by
  unfold fX1_goOn at h
  exact (gd_some h).1
theorem getX1_18 {G : Gt} {l : Launch} {E : Ev} {S : List Sh} {cc : ByteArray} {nL : Nat} {rt : Option FieldType} {fr lo : Nat} {pc : Nat} {lv : List (Nat × Value)} {st : List Value} {mm : Mm} {o : Nat} (C : Cx G E cc nL RX1 rt fr lo) (d : decode cc pc = .ok (.getfield 18, 3)) (hg : isC S o 1) (k : WM G l E S (pc + 3) lv (.ref (E.2.2 (rf S mm o 2)) :: st) mm) : WM G l E S pc lv (.ref (E.2.2 o) :: st) mm := x_get2 C hg (T := TX1) (N := 11) rfl inX1 (by decide) (i := 2) (gmem 187 (by decide +kernel) rfl) rfl rfl d k
abbrev eX1_isPaused : List (Nat × Instr × Nat) := [(0, .aload_n 1, 1), (1, .bipush 40, 2), (3, .iload_n 2, 1), (4, .iadd, 1), (5, .iaload, 1), (6, .aload_n 0, 1), (7, .getfield 18, 3), (10, .iload_n 2, 1), (11, .iaload, 1), (12, .ishr, 1), (13, .iconst 1, 1), (14, .iand, 1), (15, .iconst 1, 1), (16, .if_icmp .ne 7, 3), (19, .iconst 1, 1), (20, .goto 4, 3), (23, .iconst 0, 1), (24, .ireturn, 1)]
theorem DX1_isPaused : (eX1_isPaused.all fun q => decide (decode cX1_isPaused q.1 = .ok q.2)) = true := by decide +kernel
def jX1_isPaused_24 (S : List Sh) (mm : Mm) (x0 : Nat) (p0 : Int32) : Option (Int32) := bd1 (okZ p0) fun _ => some p0
def fX1_isPaused (S : List Sh) (mm : Mm) (x0 : Nat) (x1 : Nat) (x2 : Int32) : Option (Int32) := gd S x0 1 (bd1 (ldA S 0 mm x1 (40 + x2)) fun a1 => bd1 (ldA S 0 mm (rf S mm x0 2) x2) fun a2 => if ¬ ((a1 >>> (a2 &&& 31)) &&& 1) = 1 then (jX1_isPaused_24 S mm x0 0) else (jX1_isPaused_24 S mm x0 1))
set_option maxHeartbeats 1000000 in
theorem tX1_isPaused_24 {G : Gt} {l : Launch} {E : Ev} {S : List Sh} {mm : Mm} {x0 : Nat} {p0 : Int32} {r : Int32} (C : Cx G E cX1_isPaused 3 RX1 (some .boolean) 0 0) (g0 : isC S x0 1) (h : jX1_isPaused_24 S mm x0 p0 = some r) (hQ : RQ G E S (some (.int r)) mm) : WM G l E S 24 [(0, .ref (E.2.2 x0))] [.int p0] mm := by
  unfold jX1_isPaused_24 at h
  refine x_zret C (dq DX1_isPaused 17 rfl) h (fun h => ?_)
  cases h
  exact hQ
set_option maxHeartbeats 1000000 in
theorem mX1_isPaused {l : Launch} {E : Ev} {S : List Sh} {mm : Mm} {x0 : Nat} {x1 : Nat} {x2 : Int32} {r : Int32} (h : fX1_isPaused S mm x0 x1 x2 = some r) : Ml l E S yX1_isPaused cX1_isPaused 3 (some .boolean) 0 0 [.ref (E.2.2 x0), .ref (E.2.2 x1), .int x2] mm (some (.int r)) mm := by
  refine Ml.of (by decide +kernel) (Nat.le_of_ble_eq_true rfl) (fun G C hQ => ?_)
  have C : Cx G E cX1_isPaused 3 RX1 (some .boolean) 0 0 := C
  unfold fX1_isPaused at h
  obtain ⟨g0, h⟩ := gd_some h
  show WM G l E S 0 [(0, .ref (E.2.2 x0)), (1, .ref (E.2.2 x1)), (2, .int x2)] [] mm
  refine x_aload_n C (dq DX1_isPaused 0 rfl) rfl 1 rfl ?_
  refine x_bipush (v := 40) C (dq DX1_isPaused 1 rfl) (by decide) ?_
  refine x_iload_n C (dq DX1_isPaused 2 rfl) rfl 2 rfl ?_
  refine x_iadd C (dq DX1_isPaused 3 rfl) ?_
  refine x_pc 5 rfl ?_
  refine x_iald C (dq DX1_isPaused 4 rfl) h (fun a1 h => ?_)
  refine x_aload_n C (dq DX1_isPaused 5 rfl) rfl 0 rfl ?_
  refine getX1_18 C (dq DX1_isPaused 6 rfl) g0 ?_
  refine x_iload_n C (dq DX1_isPaused 7 rfl) rfl 2 rfl ?_
  refine x_iald C (dq DX1_isPaused 8 rfl) h (fun a2 h => ?_)
  refine x_pc 12 rfl ?_
  refine x_ishr C (dq DX1_isPaused 9 rfl) ?_
  refine x_iconst (v := 1) C (dq DX1_isPaused 10 rfl) (by decide) ?_
  refine x_iand C (dq DX1_isPaused 11 rfl) ?_
  refine x_iconst (v := 1) C (dq DX1_isPaused 12 rfl) (by decide) ?_
  refine x_icmp_ne (tgt := 23) C (dq DX1_isPaused 13 rfl) (by decide) h (fun h => ?_) (fun h => ?_)
  · refine x_pc 23 rfl ?_
    refine x_iconst (v := 0) C (dq DX1_isPaused 16 rfl) (by decide) ?_
    exact x_lv [0] rfl (tX1_isPaused_24 C g0 h hQ)
  · refine x_pc 19 rfl ?_
    refine x_iconst (v := 1) C (dq DX1_isPaused 14 rfl) (by decide) ?_
    refine x_goto (tgt := 24) C (dq DX1_isPaused 15 rfl) (by decide) ?_
    exact x_lv [0] rfl (tX1_isPaused_24 C g0 h hQ)
set_option maxHeartbeats 1000000 in
theorem qX1_isPaused {S : List Sh} {mm : Mm} {x0 : Nat} {x1 : Nat} {x2 : Int32} {r : Int32} (h : fX1_isPaused S mm x0 x1 x2 = some r) : isC S x0 1 := by
  unfold fX1_isPaused at h
  exact (gd_some h).1
abbrev eX1_feedbackOf : List (Nat × Instr × Nat) := [(0, .aload_n 1, 1), (1, .bipush 30, 2), (3, .iload_n 2, 1), (4, .iadd, 1), (5, .iaload, 1), (6, .istore_n 3, 1), (7, .iload_n 3, 1), (8, .aload_n 0, 1), (9, .getfield 36, 3), (12, .iconst 1, 1), (13, .iaload, 1), (14, .isub, 1), (15, .aload_n 0, 1), (16, .getfield 36, 3), (19, .iconst 2, 1), (20, .iaload, 1), (21, .iload_n 3, 1), (22, .aload_n 1, 1), (23, .bipush 110, 2), (25, .iload_n 2, 1), (26, .iadd, 1), (27, .iaload, 1), (28, .isub, 1), (29, .imul, 1), (30, .iadd, 1), (31, .ireturn, 1)]
theorem DX1_feedbackOf : (eX1_feedbackOf.all fun q => decide (decode cX1_feedbackOf q.1 = .ok q.2)) = true := by decide +kernel
def fX1_feedbackOf (S : List Sh) (mm : Mm) (x0 : Nat) (x1 : Nat) (x2 : Int32) : Option (Int32) := gd S x0 1 (bd1 (ldA S 0 mm x1 (30 + x2)) fun a1 => bd1 (ldA S 0 mm (rf S mm x0 8) 1) fun a2 => bd1 (ldA S 0 mm (rf S mm x0 8) 2) fun a3 => bd1 (ldA S 0 mm x1 (110 + x2)) fun a4 => some ((a1 - a2) + (a3 * (a1 - a4))))
set_option maxHeartbeats 1000000 in
theorem mX1_feedbackOf {l : Launch} {E : Ev} {S : List Sh} {mm : Mm} {x0 : Nat} {x1 : Nat} {x2 : Int32} {r : Int32} (h : fX1_feedbackOf S mm x0 x1 x2 = some r) : Ml l E S yX1_feedbackOf cX1_feedbackOf 4 (some .int) 0 0 [.ref (E.2.2 x0), .ref (E.2.2 x1), .int x2] mm (some (.int r)) mm := by
  refine Ml.of (by decide +kernel) (Nat.le_of_ble_eq_true rfl) (fun G C hQ => ?_)
  have C : Cx G E cX1_feedbackOf 4 RX1 (some .int) 0 0 := C
  unfold fX1_feedbackOf at h
  obtain ⟨g0, h⟩ := gd_some h
  show WM G l E S 0 [(0, .ref (E.2.2 x0)), (1, .ref (E.2.2 x1)), (2, .int x2)] [] mm
  refine x_aload_n C (dq DX1_feedbackOf 0 rfl) rfl 1 rfl ?_
  refine x_bipush (v := 30) C (dq DX1_feedbackOf 1 rfl) (by decide) ?_
  refine x_iload_n C (dq DX1_feedbackOf 2 rfl) rfl 2 rfl ?_
  refine x_iadd C (dq DX1_feedbackOf 3 rfl) ?_
  refine x_pc 5 rfl ?_
  refine x_iald C (dq DX1_feedbackOf 4 rfl) h (fun a1 h => ?_)
  refine x_istore_n (lv' := [(3, .int a1), (0, .ref (E.2.2 x0)), (1, .ref (E.2.2 x1)), (2, .int x2)]) C (dq DX1_feedbackOf 5 rfl) rfl (by decide) rfl ?_
  refine x_iload_n C (dq DX1_feedbackOf 6 rfl) rfl 0 rfl ?_
  refine x_aload_n C (dq DX1_feedbackOf 7 rfl) rfl 1 rfl ?_
  refine getX1_36 C (dq DX1_feedbackOf 8 rfl) g0 ?_
  refine x_pc 12 rfl ?_
  refine x_iconst (v := 1) C (dq DX1_feedbackOf 9 rfl) (by decide) ?_
  refine x_iald C (dq DX1_feedbackOf 10 rfl) h (fun a2 h => ?_)
  refine x_isub C (dq DX1_feedbackOf 11 rfl) ?_
  refine x_aload_n C (dq DX1_feedbackOf 12 rfl) rfl 1 rfl ?_
  refine getX1_36 C (dq DX1_feedbackOf 13 rfl) g0 ?_
  refine x_pc 19 rfl ?_
  refine x_iconst (v := 2) C (dq DX1_feedbackOf 14 rfl) (by decide) ?_
  refine x_iald C (dq DX1_feedbackOf 15 rfl) h (fun a3 h => ?_)
  refine x_iload_n C (dq DX1_feedbackOf 16 rfl) rfl 0 rfl ?_
  refine x_aload_n C (dq DX1_feedbackOf 17 rfl) rfl 2 rfl ?_
  refine x_bipush (v := 110) C (dq DX1_feedbackOf 18 rfl) (by decide) ?_
  refine x_pc 25 rfl ?_
  refine x_iload_n C (dq DX1_feedbackOf 19 rfl) rfl 3 rfl ?_
  refine x_iadd C (dq DX1_feedbackOf 20 rfl) ?_
  refine x_iald C (dq DX1_feedbackOf 21 rfl) h (fun a4 h => ?_)
  refine x_isub C (dq DX1_feedbackOf 22 rfl) ?_
  refine x_imul C (dq DX1_feedbackOf 23 rfl) ?_
  refine x_pc 30 rfl ?_
  refine x_iadd C (dq DX1_feedbackOf 24 rfl) ?_
  cases h
  exact x_iret C (dq DX1_feedbackOf 25 rfl) hQ
set_option maxHeartbeats 1000000 in
theorem qX1_feedbackOf {S : List Sh} {mm : Mm} {x0 : Nat} {x1 : Nat} {x2 : Int32} {r : Int32} (h : fX1_feedbackOf S mm x0 x1 x2 = some r) : isC S x0 1 := by
  unfold fX1_feedbackOf at h
  exact (gd_some h).1
theorem callX1_49 {G : Gt} {l : Launch} {E : Ev} {S : List Sh} {cc : ByteArray} {nL : Nat} {rt : Option FieldType} {fr lo : Nat} {pc : Nat} {lv : List (Nat × Value)} {rest : List Value} {mm : Mm} {x y : Int32} (C : Cx G E cc nL RX1 rt fr lo) (d : decode cc pc = .ok (.invokestatic 49, 3)) (h1 : 1 ≤ fr) (h2 : (rest.map fun v => v.category).sum + 13 ≤ lo) (k : WM G l E S (pc + 3) lv (.int (if y < x then y else x) :: rest) mm) : WM G l E S pc lv (.int y :: .int x :: rest) mm := x_mmin C d (gmem 486 (by decide +kernel) rfl) (gmem 296 (by decide +kernel) rfl) (gmem 10 (by decide +kernel) rfl) (gmem 297 (by decide +kernel) rfl) h1 h2 k
theorem callX1_55 {G : Gt} {l : Launch} {E : Ev} {S : List Sh} {cc : ByteArray} {nL : Nat} {rt : Option FieldType} {fr lo : Nat} {pc : Nat} {lv : List (Nat × Value)} {rest : List Value} {mm : Mm} {x y : Int32} (C : Cx G E cc nL RX1 rt fr lo) (d : decode cc pc = .ok (.invokestatic 55, 3)) (h1 : 1 ≤ fr) (h2 : (rest.map fun v => v.category).sum + 13 ≤ lo) (k : WM G l E S (pc + 3) lv (.int (if x < y then y else x) :: rest) mm) : WM G l E S pc lv (.int y :: .int x :: rest) mm := x_mmax C d (gmem 487 (by decide +kernel) rfl) (gmem 469 (by decide +kernel) rfl) (gmem 10 (by decide +kernel) rfl) (gmem 470 (by decide +kernel) rfl) h1 h2 k
abbrev eX1_noticeOf : List (Nat × Instr × Nat) := [(0, .aload_n 0, 1), (1, .getfield 36, 3), (4, .iconst 1, 1), (5, .iaload, 1), (6, .iconst 1, 1), (7, .iconst 2, 1), (8, .aload_n 0, 1), (9, .getfield 36, 3), (12, .iconst 2, 1), (13, .iaload, 1), (14, .imul, 1), (15, .iadd, 1), (16, .imul, 1), (17, .istore_n 2, 1), (18, .iload_n 1, 1), (19, .ifCond .le 7, 3), (22, .iload_n 2, 1), (23, .ifCond .gt 5, 3), (26, .iconst 0, 1), (27, .ireturn, 1), (28, .iconst 1, 1), (29, .bipush 63, 2), (31, .iload_n 1, 1), (32, .bipush 64, 2), (34, .imul, 1), (35, .iload_n 2, 1), (36, .idiv, 1), (37, .invokestatic 49, 3), (40, .invokestatic 55, 3), (43, .ireturn, 1)]
theorem DX1_noticeOf : (eX1_noticeOf.all fun q => decide (decode cX1_noticeOf q.1 = .ok q.2)) = true := by decide +kernel
def jX1_noticeOf_26 (S : List Sh) (mm : Mm) (x0 : Nat)  : Option (Int32) := some 0
def fX1_noticeOf (S : List Sh) (mm : Mm) (x0 : Nat) (x1 : Int32) : Option (Int32) := gd S x0 1 (bd1 (ldA S 0 mm (rf S mm x0 8) 1) fun a1 => bd1 (ldA S 0 mm (rf S mm x0 8) 2) fun a2 => if x1 ≤ 0 then (jX1_noticeOf_26 S mm x0) else (if 0 < (a1 * (1 + (2 * a2))) then (bd1 (dvI (x1 * 64) (a1 * (1 + (2 * a2)))) fun a3 => some (if (1 : Int32) < (if a3 < 63 then a3 else 63) then (if a3 < 63 then a3 else 63) else 1)) else (jX1_noticeOf_26 S mm x0)))
set_option maxHeartbeats 1000000 in
theorem tX1_noticeOf_26 {G : Gt} {l : Launch} {E : Ev} {S : List Sh} {mm : Mm} {x0 : Nat}  {r : Int32} (C : Cx G E cX1_noticeOf 3 RX1 (some .int) 1 29) (g0 : isC S x0 1) (h : jX1_noticeOf_26 S mm x0 = some r) (hQ : RQ G E S (some (.int r)) mm) : WM G l E S 26 [(0, .ref (E.2.2 x0))] [] mm := by
  unfold jX1_noticeOf_26 at h
  refine x_iconst (v := 0) C (dq DX1_noticeOf 18 rfl) (by decide) ?_
  cases h
  exact x_iret C (dq DX1_noticeOf 19 rfl) hQ
set_option maxHeartbeats 1000000 in
theorem mX1_noticeOf {l : Launch} {E : Ev} {S : List Sh} {mm : Mm} {x0 : Nat} {x1 : Int32} {r : Int32} (h : fX1_noticeOf S mm x0 x1 = some r) : Ml l E S yX1_noticeOf cX1_noticeOf 3 (some .int) 1 29 [.ref (E.2.2 x0), .int x1] mm (some (.int r)) mm := by
  refine Ml.of (by decide +kernel) (Nat.le_of_ble_eq_true rfl) (fun G C hQ => ?_)
  have C : Cx G E cX1_noticeOf 3 RX1 (some .int) 1 29 := C
  unfold fX1_noticeOf at h
  obtain ⟨g0, h⟩ := gd_some h
  show WM G l E S 0 [(0, .ref (E.2.2 x0)), (1, .int x1)] [] mm
  refine x_aload_n C (dq DX1_noticeOf 0 rfl) rfl 0 rfl ?_
  refine getX1_36 C (dq DX1_noticeOf 1 rfl) g0 ?_
  refine x_iconst (v := 1) C (dq DX1_noticeOf 2 rfl) (by decide) ?_
  refine x_iald C (dq DX1_noticeOf 3 rfl) h (fun a1 h => ?_)
  refine x_pc 6 rfl ?_
  refine x_iconst (v := 1) C (dq DX1_noticeOf 4 rfl) (by decide) ?_
  refine x_iconst (v := 2) C (dq DX1_noticeOf 5 rfl) (by decide) ?_
  refine x_aload_n C (dq DX1_noticeOf 6 rfl) rfl 0 rfl ?_
  refine getX1_36 C (dq DX1_noticeOf 7 rfl) g0 ?_
  refine x_iconst (v := 2) C (dq DX1_noticeOf 8 rfl) (by decide) ?_
  refine x_pc 13 rfl ?_
  refine x_iald C (dq DX1_noticeOf 9 rfl) h (fun a2 h => ?_)
  refine x_imul C (dq DX1_noticeOf 10 rfl) ?_
  refine x_iadd C (dq DX1_noticeOf 11 rfl) ?_
  refine x_imul C (dq DX1_noticeOf 12 rfl) ?_
  refine x_istore_n (lv' := [(2, .int (a1 * (1 + (2 * a2)))), (0, .ref (E.2.2 x0)), (1, .int x1)]) C (dq DX1_noticeOf 13 rfl) rfl (by decide) rfl ?_
  refine x_pc 18 rfl ?_
  refine x_iload_n C (dq DX1_noticeOf 14 rfl) rfl 2 rfl ?_
  refine x_if_le (tgt := 26) C (dq DX1_noticeOf 15 rfl) (by decide) h (fun h => ?_) (fun h => ?_)
  · exact x_lv [1] rfl (tX1_noticeOf_26 C g0 h hQ)
  · refine x_iload_n C (dq DX1_noticeOf 16 rfl) rfl 0 rfl ?_
    refine x_if_gt (tgt := 28) C (dq DX1_noticeOf 17 rfl) (by decide) h (fun h => ?_) (fun h => ?_)
    · refine x_iconst (v := 1) C (dq DX1_noticeOf 20 rfl) (by decide) ?_
      refine x_pc 29 rfl ?_
      refine x_bipush (v := 63) C (dq DX1_noticeOf 21 rfl) (by decide) ?_
      refine x_iload_n C (dq DX1_noticeOf 22 rfl) rfl 2 rfl ?_
      refine x_bipush (v := 64) C (dq DX1_noticeOf 23 rfl) (by decide) ?_
      refine x_imul C (dq DX1_noticeOf 24 rfl) ?_
      refine x_iload_n C (dq DX1_noticeOf 25 rfl) rfl 0 rfl ?_
      refine x_pc 36 rfl ?_
      refine x_idiv C (dq DX1_noticeOf 26 rfl) h (fun a3 h => ?_)
      refine callX1_49 C (dq DX1_noticeOf 27 rfl) (by decide) (Nat.le_of_ble_eq_true rfl) ?_
      refine callX1_55 C (dq DX1_noticeOf 28 rfl) (by decide) (Nat.le_of_ble_eq_true rfl) ?_
      cases h
      exact x_iret C (dq DX1_noticeOf 29 rfl) hQ
    · exact x_lv [1] rfl (tX1_noticeOf_26 C g0 h hQ)
set_option maxHeartbeats 1000000 in
theorem qX1_noticeOf {S : List Sh} {mm : Mm} {x0 : Nat} {x1 : Int32} {r : Int32} (h : fX1_noticeOf S mm x0 x1 = some r) : isC S x0 1 := by
  unfold fX1_noticeOf at h
  exact (gd_some h).1
theorem getX1_15 {G : Gt} {l : Launch} {E : Ev} {S : List Sh} {cc : ByteArray} {nL : Nat} {rt : Option FieldType} {fr lo : Nat} {pc : Nat} {lv : List (Nat × Value)} {st : List Value} {mm : Mm} {o : Nat} (C : Cx G E cc nL RX1 rt fr lo) (d : decode cc pc = .ok (.getfield 15, 3)) (hg : isC S o 1) (k : WM G l E S (pc + 3) lv (.ref (E.2.2 (rf S mm o 1)) :: st) mm) : WM G l E S pc lv (.ref (E.2.2 o) :: st) mm := x_get2 C hg (T := TX1) (N := 11) rfl inX1 (by decide) (i := 1) (gmem 182 (by decide +kernel) rfl) rfl rfl d k
abbrev eX1_headroomOf : List (Nat × Instr × Nat) := [(0, .aload_n 1, 1), (1, .iconst 0, 1), (2, .iload_n 2, 1), (3, .iadd, 1), (4, .iaload, 1), (5, .iconst 1, 1), (6, .isub, 1), (7, .aload_n 0, 1), (8, .getfield 15, 3), (11, .iload_n 2, 1), (12, .iaload, 1), (13, .aload_n 0, 1), (14, .getfield 18, 3), (17, .iload_n 2, 1), (18, .iaload, 1), (19, .iconst 1, 1), (20, .iadd, 1), (21, .imul, 1), (22, .iadd, 1), (23, .ireturn, 1)]
theorem DX1_headroomOf : (eX1_headroomOf.all fun q => decide (decode cX1_headroomOf q.1 = .ok q.2)) = true := by decide +kernel
def fX1_headroomOf (S : List Sh) (mm : Mm) (x0 : Nat) (x1 : Nat) (x2 : Int32) : Option (Int32) := gd S x0 1 (bd1 (ldA S 0 mm x1 (0 + x2)) fun a1 => bd1 (ldA S 0 mm (rf S mm x0 1) x2) fun a2 => bd1 (ldA S 0 mm (rf S mm x0 2) x2) fun a3 => some ((a1 - 1) + (a2 * (a3 + 1))))
set_option maxHeartbeats 1000000 in
theorem mX1_headroomOf {l : Launch} {E : Ev} {S : List Sh} {mm : Mm} {x0 : Nat} {x1 : Nat} {x2 : Int32} {r : Int32} (h : fX1_headroomOf S mm x0 x1 x2 = some r) : Ml l E S yX1_headroomOf cX1_headroomOf 3 (some .int) 0 0 [.ref (E.2.2 x0), .ref (E.2.2 x1), .int x2] mm (some (.int r)) mm := by
  refine Ml.of (by decide +kernel) (Nat.le_of_ble_eq_true rfl) (fun G C hQ => ?_)
  have C : Cx G E cX1_headroomOf 3 RX1 (some .int) 0 0 := C
  unfold fX1_headroomOf at h
  obtain ⟨g0, h⟩ := gd_some h
  show WM G l E S 0 [(0, .ref (E.2.2 x0)), (1, .ref (E.2.2 x1)), (2, .int x2)] [] mm
  refine x_aload_n C (dq DX1_headroomOf 0 rfl) rfl 1 rfl ?_
  refine x_iconst (v := 0) C (dq DX1_headroomOf 1 rfl) (by decide) ?_
  refine x_iload_n C (dq DX1_headroomOf 2 rfl) rfl 2 rfl ?_
  refine x_iadd C (dq DX1_headroomOf 3 rfl) ?_
  refine x_pc 4 rfl ?_
  refine x_iald C (dq DX1_headroomOf 4 rfl) h (fun a1 h => ?_)
  refine x_iconst (v := 1) C (dq DX1_headroomOf 5 rfl) (by decide) ?_
  refine x_isub C (dq DX1_headroomOf 6 rfl) ?_
  refine x_aload_n C (dq DX1_headroomOf 7 rfl) rfl 0 rfl ?_
  refine getX1_15 C (dq DX1_headroomOf 8 rfl) g0 ?_
  refine x_pc 11 rfl ?_
  refine x_iload_n C (dq DX1_headroomOf 9 rfl) rfl 2 rfl ?_
  refine x_iald C (dq DX1_headroomOf 10 rfl) h (fun a2 h => ?_)
  refine x_aload_n C (dq DX1_headroomOf 11 rfl) rfl 0 rfl ?_
  refine getX1_18 C (dq DX1_headroomOf 12 rfl) g0 ?_
  refine x_iload_n C (dq DX1_headroomOf 13 rfl) rfl 2 rfl ?_
  refine x_pc 18 rfl ?_
  refine x_iald C (dq DX1_headroomOf 14 rfl) h (fun a3 h => ?_)
  refine x_iconst (v := 1) C (dq DX1_headroomOf 15 rfl) (by decide) ?_
  refine x_iadd C (dq DX1_headroomOf 16 rfl) ?_
  refine x_imul C (dq DX1_headroomOf 17 rfl) ?_
  refine x_iadd C (dq DX1_headroomOf 18 rfl) ?_
  refine x_pc 23 rfl ?_
  cases h
  exact x_iret C (dq DX1_headroomOf 19 rfl) hQ
set_option maxHeartbeats 1000000 in
theorem qX1_headroomOf {S : List Sh} {mm : Mm} {x0 : Nat} {x1 : Nat} {x2 : Int32} {r : Int32} (h : fX1_headroomOf S mm x0 x1 x2 = some r) : isC S x0 1 := by
  unfold fX1_headroomOf at h
  exact (gd_some h).1
