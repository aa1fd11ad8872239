theorem getX0_9 {G : Gt} {l : Launch} {E : Ev} {S : List Sh} {cc : ByteArray} {nL : Nat} {rt : Option FieldType} {fr lo : Nat} {pc : Nat} {lv : List (Nat × Value)} {st : List Value} {mm : Mm} {o : Nat} (C : Cx G E cc nL RX0 rt fr lo) (d : decode cc pc = .ok (.getfield 9, 3)) (hg : isC S o 0) (k : WM G l E S (pc + 3) lv (.ref (E.2.2 (rf S mm o 0)) :: st) mm) : WM G l E S pc lv (.ref (E.2.2 o) :: st) mm := x_get2 C hg (T := TX0) (N := 5) rfl inX0 (by decide) (i := 0) (gmem 151 (by decide +kernel) rfl) rfl rfl d k
theorem getX0_22 {G : Gt} {l : Launch} {E : Ev} {S : List Sh} {cc : ByteArray} {nL : Nat} {rt : Option FieldType} {fr lo : Nat} {pc : Nat} {lv : List (Nat × Value)} {st : List Value} {mm : Mm} {o : Nat} (C : Cx G E cc nL RX0 rt fr lo) (d : decode cc pc = .ok (.getfield 22, 3)) (hg : isC S o 0) (k : WM G l E S (pc + 3) lv (.int (mm.1 o 3) :: st) mm) : WM G l E S pc lv (.ref (E.2.2 o) :: st) mm := x_get0 C hg (T := TX0) (N := 5) rfl inX0 (by decide) (i := 3) (gmem 156 (by decide +kernel) rfl) rfl rfl d k
theorem getX0_26 {G : Gt} {l : Launch} {E : Ev} {S : List Sh} {cc : ByteArray} {nL : Nat} {rt : Option FieldType} {fr lo : Nat} {pc : Nat} {lv : List (Nat × Value)} {st : List Value} {mm : Mm} {o : Nat} (C : Cx G E cc nL RX0 rt fr lo) (d : decode cc pc = .ok (.getfield 26, 3)) (hg : isC S o 0) (k : WM G l E S (pc + 3) lv (.int (mm.1 o 4) :: st) mm) : WM G l E S pc lv (.ref (E.2.2 o) :: st) mm := x_get0 C hg (T := TX0) (N := 5) rfl inX0 (by decide) (i := 4) (gmem 158 (by decide +kernel) rfl) rfl rfl d k
theorem putX0_22 {G : Gt} {l : Launch} {E : Ev} {S : List Sh} {cc : ByteArray} {nL : Nat} {rt : Option FieldType} {fr lo : Nat} {pc : Nat} {lv : List (Nat × Value)} {st : List Value} {mm : Mm} {o : Nat} {α : Type} {f : Mm → Option α} {r : α} {x : Int32} (C : Cx G E cc nL RX0 rt fr lo) (d : decode cc pc = .ok (.putfield 22, 3)) (hg : isC S o 0) (h : bd1 (some (u1 mm o 3 x)) f = some r) (k : ∀ m1, f m1 = some r → WM G l E S (pc + 3) lv st m1) : WM G l E S pc lv (.int x :: .ref (E.2.2 o) :: st) mm := x_putI C hg (T := TX0) (N := 5) rfl inX0 (by decide) (i := 3) (gmem 156 (by decide +kernel) rfl) rfl tyX0 tyX0_ok nmX0 rfl rfl (by decide) (by decide +kernel) d (k _ h)
theorem putX0_26 {G : Gt} {l : Launch} {E : Ev} {S : List Sh} {cc : ByteArray} {nL : Nat} {rt : Option FieldType} {fr lo : Nat} {pc : Nat} {lv : List (Nat × Value)} {st : List Value} {mm : Mm} {o : Nat} {α : Type} {f : Mm → Option α} {r : α} {x : Int32} (C : Cx G E cc nL RX0 rt fr lo) (d : decode cc pc = .ok (.putfield 26, 3)) (hg : isC S o 0) (h : bd1 (some (u1 mm o 4 x)) f = some r) (k : ∀ m1, f m1 = some r → WM G l E S (pc + 3) lv st m1) : WM G l E S pc lv (.int x :: .ref (E.2.2 o) :: st) mm := x_putI C hg (T := TX0) (N := 5) rfl inX0 (by decide) (i := 4) (gmem 158 (by decide +kernel) rfl) rfl tyX0 tyX0_ok nmX0 rfl rfl (by decide) (by decide +kernel) d (k _ h)
theorem callX0_29 {G : Gt} {l : Launch} {E : Ev} {S : List Sh} {cc : ByteArray} {nL : Nat} {rt : Option FieldType} {fr lo : Nat} {pc : Nat} {lv : List (Nat × Value)} {rest : List Value} {mm : Mm} {α : Type} {f : Mm → Option α} {r : α} {o1 o2 : Nat} {sp dp n : Int32} (C : Cx G E cc nL RX0 rt fr lo) (d : decode cc pc = .ok (.invokestatic 29, 3)) (h1 : 1 ≤ fr) (h2 : (rest.map fun v => v.category).sum + (nativeFrameWords "java/lang/System" "arraycopy" 5 + 11) ≤ lo) (h : bd1 (cpA S mm o1 sp o2 dp n) f = some r) (k : ∀ m1, f m1 = some r → WM G l E S (pc + 3) lv rest m1) : WM G l E S pc lv (.int n :: .int dp :: .ref (E.2.2 o2) :: .int sp :: .ref (E.2.2 o1) :: rest) mm := x_acopy C d (gmem 430 (by decide +kernel) rfl) (gmem 407 (by decide +kernel) rfl) (gmem 406 (by decide +kernel) rfl) (gmem 11 (by decide +kernel) rfl) h1 h2 h k
theorem callX0_35 {G : Gt} {l : Launch} {E : Ev} {S : List Sh} {cc : ByteArray} {nL : Nat} {rt : Option FieldType} {fr lo : Nat} {pc : Nat} {lv : List (Nat × Value)} {rest : List Value} {mm : Mm} {x y : Int32} (C : Cx G E cc nL RX0 rt fr lo) (d : decode cc pc = .ok (.invokestatic 35, 3)) (h1 : 1 ≤ fr) (h2 : (rest.map fun v => v.category).sum + 13 ≤ lo) (k : WM G l E S (pc + 3) lv (.int (if y < x then y else x) :: rest) mm) : WM G l E S pc lv (.int y :: .int x :: rest) mm := x_mmin C d (gmem 431 (by decide +kernel) rfl) (gmem 296 (by decide +kernel) rfl) (gmem 10 (by decide +kernel) rfl) (gmem 297 (by decide +kernel) rfl) h1 h2 k
abbrev eX0_push : List (Nat × Instr × Nat) := [(0, .aload_n 1, 1), (1, .iconst 0, 1), (2, .aload_n 0, 1), (3, .getfield 9, 3), (6, .aload_n 0, 1), (7, .getfield 26, 3), (10, .sipush 297, 3), (13, .imul, 1), (14, .sipush 297, 3), (17, .invokestatic 29, 3), (20, .aload_n 0, 1), (21, .aload_n 0, 1), (22, .getfield 26, 3), (25, .iconst 1, 1), (26, .iadd, 1), (27, .bipush 20, 2), (29, .if_icmp .ge 12, 3), (32, .aload_n 0, 1), (33, .getfield 26, 3), (36, .iconst 1, 1), (37, .iadd, 1), (38, .goto 4, 3), (41, .iconst 0, 1), (42, .putfield 26, 3), (45, .aload_n 0, 1), (46, .bipush 20, 2), (48, .aload_n 0, 1), (49, .getfield 22, 3), (52, .iconst 1, 1), (53, .iadd, 1), (54, .invokestatic 35, 3), (57, .putfield 22, 3), (60, .return_, 1)]
theorem DX0_push : (eX0_push.all fun q => decide (decode cX0_push q.1 = .ok q.2)) = true := by decide +kernel
def jX0_push_42 (S : List Sh) (mm : Mm) (x0 : Nat) (p0 : Nat) (p1 : Int32) : Option (Mm) := gd S p0 0 (bd1 (some (u1 mm p0 4 p1)) fun m3 => bd1 (some (u1 m3 x0 3 (if ((m3.1 x0 3) + 1) < 20 then ((m3.1 x0 3) + 1) else 20))) fun m4 => some m4)
def fX0_push (S : List Sh) (mm : Mm) (x0 : Nat) (x1 : Nat) : Option (Mm) := gd S x0 0 (bd1 (cpA S mm x1 0 (rf S mm x0 0) ((mm.1 x0 4) * 297) 297) fun m1 => if 20 ≤ ((m1.1 x0 4) + 1) then (jX0_push_42 S m1 x0 x0 0) else (jX0_push_42 S m1 x0 x0 ((m1.1 x0 4) + 1)))
set_option maxHeartbeats 1000000 in
theorem tX0_push_42 {G : Gt} {l : Launch} {E : Ev} {S : List Sh} {mm : Mm} {x0 : Nat} {p0 : Nat} {p1 : Int32} {r : Mm} (C : Cx G E cX0_push 2 RX0 none 1 40) (g0 : isC S x0 0) (h : jX0_push_42 S mm x0 p0 p1 = some r) (hQ : RQ G E S none r) : WM G l E S 42 [(0, .ref (E.2.2 x0))] [.int p1, .ref (E.2.2 p0)] mm := by
  unfold jX0_push_42 at h
  obtain ⟨g2, h⟩ := gd_some h
  refine putX0_26 C (dq DX0_push 23 rfl) g2 h (fun m3 h => ?_)
  refine x_aload_n C (dq DX0_push 24 rfl) rfl 0 rfl ?_
  refine x_bipush (v := 20) C (dq DX0_push 25 rfl) (by decide) ?_
  refine x_aload_n C (dq DX0_push 26 rfl) rfl 0 rfl ?_
  refine x_pc 49 rfl ?_
  refine getX0_22 C (dq DX0_push 27 rfl) g0 ?_
  refine x_iconst (v := 1) C (dq DX0_push 28 rfl) (by decide) ?_
  refine x_iadd C (dq DX0_push 29 rfl) ?_
  refine callX0_35 C (dq DX0_push 30 rfl) (by decide) (Nat.le_of_ble_eq_true rfl) ?_
  refine putX0_22 C (dq DX0_push 31 rfl) g0 h (fun m4 h => ?_)
  refine x_pc 60 rfl ?_
  cases h
  exact x_vret C (dq DX0_push 32 rfl) hQ
set_option maxHeartbeats 1000000 in
theorem mX0_push {l : Launch} {E : Ev} {S : List Sh} {mm : Mm} {x0 : Nat} {x1 : Nat} {r : Mm} (h : fX0_push S mm x0 x1 = some r) : Ml l E S yX0_push cX0_push 2 none 1 40 [.ref (E.2.2 x0), .ref (E.2.2 x1)] mm none r := by
  refine Ml.of (by decide +kernel) (Nat.le_of_ble_eq_true rfl) (fun G C hQ => ?_)
  have C : Cx G E cX0_push 2 RX0 none 1 40 := C
  unfold fX0_push at h
  obtain ⟨g0, h⟩ := gd_some h
  show WM G l E S 0 [(0, .ref (E.2.2 x0)), (1, .ref (E.2.2 x1))] [] mm
  refine x_aload_n C (dq DX0_push 0 rfl) rfl 1 rfl ?_
  refine x_iconst (v := 0) C (dq DX0_push 1 rfl) (by decide) ?_
  refine x_aload_n C (dq DX0_push 2 rfl) rfl 0 rfl ?_
  refine getX0_9 C (dq DX0_push 3 rfl) g0 ?_
  refine x_pc 6 rfl ?_
  refine x_aload_n C (dq DX0_push 4 rfl) rfl 0 rfl ?_
  refine getX0_26 C (dq DX0_push 5 rfl) g0 ?_
  refine x_sipush (v := 297) C (dq DX0_push 6 rfl) (by decide) ?_
  refine x_imul C (dq DX0_push 7 rfl) ?_
  refine x_sipush (v := 297) C (dq DX0_push 8 rfl) (by decide) ?_
  refine x_pc 17 rfl ?_
  refine callX0_29 C (dq DX0_push 9 rfl) (by decide) (Nat.le_of_ble_eq_true rfl) h (fun m1 h => ?_)
  refine x_aload_n C (dq DX0_push 10 rfl) rfl 0 rfl ?_
  refine x_aload_n C (dq DX0_push 11 rfl) rfl 0 rfl ?_
  refine getX0_26 C (dq DX0_push 12 rfl) g0 ?_
  refine x_iconst (v := 1) C (dq DX0_push 13 rfl) (by decide) ?_
  refine x_pc 26 rfl ?_
  refine x_iadd C (dq DX0_push 14 rfl) ?_
  refine x_bipush (v := 20) C (dq DX0_push 15 rfl) (by decide) ?_
  refine x_icmp_ge (tgt := 41) C (dq DX0_push 16 rfl) (by decide) h (fun h => ?_) (fun h => ?_)
  · refine x_iconst (v := 0) C (dq DX0_push 22 rfl) (by decide) ?_
    exact x_lv [0] rfl (tX0_push_42 C g0 h hQ)
  · refine x_aload_n C (dq DX0_push 17 rfl) rfl 0 rfl ?_
    refine getX0_26 C (dq DX0_push 18 rfl) g0 ?_
    refine x_pc 36 rfl ?_
    refine x_iconst (v := 1) C (dq DX0_push 19 rfl) (by decide) ?_
    refine x_iadd C (dq DX0_push 20 rfl) ?_
    refine x_goto (tgt := 42) C (dq DX0_push 21 rfl) (by decide) ?_
    exact x_lv [0] rfl (tX0_push_42 C g0 h hQ)
set_option maxHeartbeats 1000000 in
theorem qX0_push {S : List Sh} {mm : Mm} {x0 : Nat} {x1 : Nat} {r : Mm} (h : fX0_push S mm x0 x1 = some r) : isC S x0 0 := by
  unfold fX0_push at h
  exact (gd_some h).1
theorem callX0_41 {G : Gt} {l : Launch} {E : Ev} {S : List Sh} {cc : ByteArray} {nL : Nat} {rt : Option FieldType} {fr lo : Nat} {pc : Nat} {lv : List (Nat × Value)} {rest : List Value} {mm : Mm} {x y : Int32} (C : Cx G E cc nL RX0 rt fr lo) (d : decode cc pc = .ok (.invokestatic 41, 3)) (h1 : 1 ≤ fr) (h2 : (rest.map fun v => v.category).sum + 13 ≤ lo) (k : WM G l E S (pc + 3) lv (.int (if x < y then y else x) :: rest) mm) : WM G l E S pc lv (.int y :: .int x :: rest) mm := x_mmax C d (gmem 722 (by decide +kernel) rfl) (gmem 469 (by decide +kernel) rfl) (gmem 10 (by decide +kernel) rfl) (gmem 470 (by decide +kernel) rfl) h1 h2 k
abbrev eX0_pop : List (Nat × Instr × Nat) := [(0, .aload_n 0, 1), (1, .aload_n 0, 1), (2, .getfield 26, 3), (5, .ifCond .le 12, 3), (8, .aload_n 0, 1), (9, .getfield 26, 3), (12, .iconst 1, 1), (13, .isub, 1), (14, .goto 5, 3), (17, .bipush 19, 2), (19, .putfield 26, 3), (22, .aload_n 0, 1), (23, .iconst 0, 1), (24, .aload_n 0, 1), (25, .getfield 22, 3), (28, .iconst 1, 1), (29, .isub, 1), (30, .invokestatic 41, 3), (33, .putfield 22, 3), (36, .aload_n 0, 1), (37, .getfield 9, 3), (40, .aload_n 0, 1), (41, .getfield 26, 3), (44, .sipush 297, 3), (47, .imul, 1), (48, .aload_n 1, 1), (49, .iconst 0, 1), (50, .sipush 297, 3), (53, .invokestatic 29, 3), (56, .return_, 1)]
theorem DX0_pop : (eX0_pop.all fun q => decide (decode cX0_pop q.1 = .ok q.2)) = true := by decide +kernel
def jX0_pop_19 (S : List Sh) (mm : Mm) (x0 : Nat) (x1 : Nat) (p0 : Nat) (p1 : Int32) : Option (Mm) := gd S p0 0 (bd1 (some (u1 mm p0 4 p1)) fun m2 => bd1 (some (u1 m2 x0 3 (if (0 : Int32) < ((m2.1 x0 3) - 1) then ((m2.1 x0 3) - 1) else 0))) fun m3 => bd1 (cpA S m3 (rf S m3 x0 0) ((m3.1 x0 4) * 297) x1 0 297) fun m4 => some m4)
def fX0_pop (S : List Sh) (mm : Mm) (x0 : Nat) (x1 : Nat) : Option (Mm) := gd S x0 0 (if (mm.1 x0 4) ≤ 0 then (jX0_pop_19 S mm x0 x1 x0 19) else (jX0_pop_19 S mm x0 x1 x0 ((mm.1 x0 4) - 1)))
set_option maxHeartbeats 1000000 in
theorem tX0_pop_19 {G : Gt} {l : Launch} {E : Ev} {S : List Sh} {mm : Mm} {x0 : Nat} {x1 : Nat} {p0 : Nat} {p1 : Int32} {r : Mm} (C : Cx G E cX0_pop 2 RX0 none 1 40) (g0 : isC S x0 0) (h : jX0_pop_19 S mm x0 x1 p0 p1 = some r) (hQ : RQ G E S none r) : WM G l E S 19 [(0, .ref (E.2.2 x0)), (1, .ref (E.2.2 x1))] [.int p1, .ref (E.2.2 p0)] mm := by
  unfold jX0_pop_19 at h
  obtain ⟨g1, h⟩ := gd_some h
  refine putX0_26 C (dq DX0_pop 10 rfl) g1 h (fun m2 h => ?_)
  refine x_aload_n C (dq DX0_pop 11 rfl) rfl 0 rfl ?_
  refine x_iconst (v := 0) C (dq DX0_pop 12 rfl) (by decide) ?_
  refine x_aload_n C (dq DX0_pop 13 rfl) rfl 0 rfl ?_
  refine x_pc 25 rfl ?_
  refine getX0_22 C (dq DX0_pop 14 rfl) g0 ?_
  refine x_iconst (v := 1) C (dq DX0_pop 15 rfl) (by decide) ?_
  refine x_isub C (dq DX0_pop 16 rfl) ?_
  refine callX0_41 C (dq DX0_pop 17 rfl) (by decide) (Nat.le_of_ble_eq_true rfl) ?_
  refine putX0_22 C (dq DX0_pop 18 rfl) g0 h (fun m3 h => ?_)
  refine x_pc 36 rfl ?_
  refine x_aload_n C (dq DX0_pop 19 rfl) rfl 0 rfl ?_
  refine getX0_9 C (dq DX0_pop 20 rfl) g0 ?_
  refine x_aload_n C (dq DX0_pop 21 rfl) rfl 0 rfl ?_
  refine getX0_26 C (dq DX0_pop 22 rfl) g0 ?_
  refine x_sipush (v := 297) C (dq DX0_pop 23 rfl) (by decide) ?_
  refine x_pc 47 rfl ?_
  refine x_imul C (dq DX0_pop 24 rfl) ?_
  refine x_aload_n C (dq DX0_pop 25 rfl) rfl 1 rfl ?_
  refine x_iconst (v := 0) C (dq DX0_pop 26 rfl) (by decide) ?_
  refine x_sipush (v := 297) C (dq DX0_pop 27 rfl) (by decide) ?_
  refine callX0_29 C (dq DX0_pop 28 rfl) (by decide) (Nat.le_of_ble_eq_true rfl) h (fun m4 h => ?_)
  refine x_pc 56 rfl ?_
  cases h
  exact x_vret C (dq DX0_pop 29 rfl) hQ
set_option maxHeartbeats 1000000 in
theorem mX0_pop {l : Launch} {E : Ev} {S : List Sh} {mm : Mm} {x0 : Nat} {x1 : Nat} {r : Mm} (h : fX0_pop S mm x0 x1 = some r) : Ml l E S yX0_pop cX0_pop 2 none 1 40 [.ref (E.2.2 x0), .ref (E.2.2 x1)] mm none r := by
  refine Ml.of (by decide +kernel) (Nat.le_of_ble_eq_true rfl) (fun G C hQ => ?_)
  have C : Cx G E cX0_pop 2 RX0 none 1 40 := C
  unfold fX0_pop at h
  obtain ⟨g0, h⟩ := gd_some h
  show WM G l E S 0 [(0, .ref (E.2.2 x0)), (1, .ref (E.2.2 x1))] [] mm
  refine x_aload_n C (dq DX0_pop 0 rfl) rfl 0 rfl ?_
  refine x_aload_n C (dq DX0_pop 1 rfl) rfl 0 rfl ?_
  refine getX0_26 C (dq DX0_pop 2 rfl) g0 ?_
  refine x_if_le (tgt := 17) C (dq DX0_pop 3 rfl) (by decide) h (fun h => ?_) (fun h => ?_)
  · refine x_pc 17 rfl ?_
    refine x_bipush (v := 19) C (dq DX0_pop 9 rfl) (by decide) ?_
    exact x_lv [0, 1] rfl (tX0_pop_19 C g0 h hQ)
  · refine x_pc 8 rfl ?_
    refine x_aload_n C (dq DX0_pop 4 rfl) rfl 0 rfl ?_
    refine getX0_26 C (dq DX0_pop 5 rfl) g0 ?_
    refine x_iconst (v := 1) C (dq DX0_pop 6 rfl) (by decide) ?_
    refine x_isub C (dq DX0_pop 7 rfl) ?_
    refine x_goto (tgt := 19) C (dq DX0_pop 8 rfl) (by decide) ?_
    exact x_lv [0, 1] rfl (tX0_pop_19 C g0 h hQ)
set_option maxHeartbeats 1000000 in
theorem qX0_pop {S : List Sh} {mm : Mm} {x0 : Nat} {x1 : Nat} {r : Mm} (h : fX0_pop S mm x0 x1 = some r) : isC S x0 0 := by
  unfold fX0_pop at h
  exact (gd_some h).1
abbrev eX0_forgetSteps : List (Nat × Instr × Nat) := [(0, .aload_n 0, 1), (1, .iconst 0, 1), (2, .putfield 22, 3), (5, .aload_n 0, 1), (6, .iconst 0, 1), (7, .putfield 26, 3), (10, .return_, 1)]
theorem DX0_forgetSteps : (eX0_forgetSteps.all fun q => decide (decode cX0_forgetSteps q.1 = .ok q.2)) = true := by decide +kernel
def fX0_forgetSteps (S : List Sh) (mm : Mm) (x0 : Nat) : Option (Mm) := gd S x0 0 (bd1 (some (u1 mm x0 3 0)) fun m1 => bd1 (some (u1 m1 x0 4 0)) fun m2 => some m2)
set_option maxHeartbeats 1000000 in
theorem mX0_forgetSteps {l : Launch} {E : Ev} {S : List Sh} {mm : Mm} {x0 : Nat} {r : Mm} (h : fX0_forgetSteps S mm x0 = some r) : Ml l E S yX0_forgetSteps cX0_forgetSteps 1 none 0 0 [.ref (E.2.2 x0)] mm none r := by
  refine Ml.of (by decide +kernel) (Nat.le_of_ble_eq_true rfl) (fun G C hQ => ?_)
  have C : Cx G E cX0_forgetSteps 1 RX0 none 0 0 := C
  unfold fX0_forgetSteps at h
  obtain ⟨g0, h⟩ := gd_some h
  show WM G l E S 0 [(0, .ref (E.2.2 x0))] [] mm
  refine x_aload_n C (dq DX0_forgetSteps 0 rfl) rfl 0 rfl ?_
  refine x_iconst (v := 0) C (dq DX0_forgetSteps 1 rfl) (by decide) ?_
  refine putX0_22 C (dq DX0_forgetSteps 2 rfl) g0 h (fun m1 h => ?_)
  refine x_aload_n C (dq DX0_forgetSteps 3 rfl) rfl 0 rfl ?_
  refine x_pc 6 rfl ?_
  refine x_iconst (v := 0) C (dq DX0_forgetSteps 4 rfl) (by decide) ?_
  refine putX0_26 C (dq DX0_forgetSteps 5 rfl) g0 h (fun m2 h => ?_)
  cases h
  exact x_vret C (dq DX0_forgetSteps 6 rfl) hQ
set_option maxHeartbeats 1000000 in
theorem qX0_forgetSteps {S : List Sh} {mm : Mm} {x0 : Nat} {r : Mm} (h : fX0_forgetSteps S mm x0 = some r) : isC S x0 0 := by
  unfold fX0_forgetSteps at h
  exact (gd_some h).1
