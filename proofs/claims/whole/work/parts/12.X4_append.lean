theorem getX4_9 {G : Gt} {l : Launch} {E : Ev} {S : List Sh} {cc : ByteArray} {nL : Nat} {rt : Option FieldType} {fr lo : Nat} {pc : Nat} {lv : List (Nat × Value)} {st : List Value} {mm : Mm} {o : Nat} (C : Cx G E cc nL RX4 rt fr lo) (d : decode cc pc = .ok (.getfield 9, 3)) (hg : isC S o 4) (k : WM G l E S (pc + 3) lv (.ref (E.2.2 (rf S mm o 0)) :: st) mm) : WM G l E S pc lv (.ref (E.2.2 o) :: st) mm := x_get2 C hg (T := TX4) (N := 7) rfl inX4 (by decide) (i := 0) (gmem 35 (by decide +kernel) rfl) rfl rfl d k
theorem getX4_15 {G : Gt} {l : Launch} {E : Ev} {S : List Sh} {cc : ByteArray} {nL : Nat} {rt : Option FieldType} {fr lo : Nat} {pc : Nat} {lv : List (Nat × Value)} {st : List Value} {mm : Mm} {o : Nat} (C : Cx G E cc nL RX4 rt fr lo) (d : decode cc pc = .ok (.getfield 15, 3)) (hg : isC S o 4) (k : WM G l E S (pc + 3) lv (.int (mm.1 o 1) :: st) mm) : WM G l E S pc lv (.ref (E.2.2 o) :: st) mm := x_get0 C hg (T := TX4) (N := 7) rfl inX4 (by decide) (i := 1) (gmem 36 (by decide +kernel) rfl) rfl rfl d k
theorem putX4_15 {G : Gt} {l : Launch} {E : Ev} {S : List Sh} {cc : ByteArray} {nL : Nat} {rt : Option FieldType} {fr lo : Nat} {pc : Nat} {lv : List (Nat × Value)} {st : List Value} {mm : Mm} {o : Nat} {α : Type} {f : Mm → Option α} {r : α} {x : Int32} (C : Cx G E cc nL RX4 rt fr lo) (d : decode cc pc = .ok (.putfield 15, 3)) (hg : isC S o 4) (h : bd1 (some (u1 mm o 1 x)) f = some r) (k : ∀ m1, f m1 = some r → WM G l E S (pc + 3) lv st m1) : WM G l E S pc lv (.int x :: .ref (E.2.2 o) :: st) mm := x_putI C hg (T := TX4) (N := 7) rfl inX4 (by decide) (i := 1) (gmem 36 (by decide +kernel) rfl) rfl tyX4 tyX4_ok nmX4 rfl rfl (by decide) (by decide +kernel) d (k _ h)
abbrev eX4_append : List (Nat × Instr × Nat) := [(0, .bipush 24, 2), (2, .istore_n 2, 1), (3, .iload_n 2, 1), (4, .ifCond .lt 44, 3), (7, .aload_n 0, 1), (8, .getfield 15, 3), (11, .aload_n 0, 1), (12, .getfield 9, 3), (15, .arraylength, 1), (16, .if_icmp .ge 32, 3), (19, .aload_n 0, 1), (20, .getfield 9, 3), (23, .aload_n 0, 1), (24, .getfield 15, 3), (27, .iload_n 1, 1), (28, .iload_n 2, 1), (29, .ishr, 1), (30, .i2b, 1), (31, .bastore, 1), (32, .aload_n 0, 1), (33, .dup, 1), (34, .getfield 15, 3), (37, .iconst 1, 1), (38, .iadd, 1), (39, .putfield 15, 3), (42, .iinc 2 (-8), 3), (45, .goto (-42), 3), (48, .return_, 1)]
theorem DX4_append : (eX4_append.all fun q => decide (decode cX4_append q.1 = .ok q.2)) = true := by decide +kernel
def bX4_append_3 (S : List Sh) (x0 : Nat) (x1 : Int32) (x2 : Int32) (mm : Mm) : Option ((Int32 × Mm) ⊕ (Mm)) := if x2 < 0 then (some (.inr (mm))) else (bd1 (alA S (rf S mm x0 0)) fun a1 => if a1 ≤ (mm.1 x0 1) then (some (.inr (mm))) else (bd1 (stA S 1 mm (rf S mm x0 0) (mm.1 x0 1) ((x1 >>> (x2 &&& 31)).toInt8.toInt32)) fun m2 => bd1 (some (u1 m2 x0 1 ((m2.1 x0 1) + 1))) fun m3 => some (.inl (x2 + (-8), m3))))
def jX4_append_48 (S : List Sh) (mm : Mm) (x0 : Nat)  : Option (Mm) := some mm
def fX4_append (S : List Sh) (mm : Mm) (x0 : Nat) (x1 : Int32) : Option (Mm) := gd S x0 4 (bd1 (lp (fun s4 => bX4_append_3 S x0 x1 s4.1 s4.2) fu (24, mm)) fun y5 => jX4_append_48 S y5 x0)
set_option maxHeartbeats 1000000 in
theorem tX4_append_3 {G : Gt} {l : Launch} {E : Ev} {S : List Sh} {x0 : Nat} {x1 : Int32} {x2 : Int32} {mm : Mm} {r : (Int32 × Mm) ⊕ (Mm)} (C : Cx G E cX4_append 3 RX4 none 0 0) (g0 : isC S x0 4) (h : bX4_append_3 S x0 x1 x2 mm = some r) (kb : ∀ z : Int32 × Mm, r = .inl z → WM G l E S 3 [(0, .ref (E.2.2 x0)), (1, .int x1), (2, .int z.1)] [] z.2) (kx : ∀ z : Mm, r = .inr z → WM G l E S 48 [(0, .ref (E.2.2 x0)), (1, .int x1)] [] z) : WM G l E S 3 [(0, .ref (E.2.2 x0)), (1, .int x1), (2, .int x2)] [] mm := by
  unfold bX4_append_3 at h
  refine x_iload_n C (dq DX4_append 2 rfl) rfl 2 rfl ?_
  refine x_if_lt (tgt := 48) C (dq DX4_append 3 rfl) (by decide) h (fun h => ?_) (fun h => ?_)
  · cases h
    exact x_lv [0, 1] rfl (kx (mm) rfl)
  · refine x_aload_n C (dq DX4_append 4 rfl) rfl 0 rfl ?_
    refine getX4_15 C (dq DX4_append 5 rfl) g0 ?_
    refine x_pc 11 rfl ?_
    refine x_aload_n C (dq DX4_append 6 rfl) rfl 0 rfl ?_
    refine getX4_9 C (dq DX4_append 7 rfl) g0 ?_
    refine x_alen C (dq DX4_append 8 rfl) h (fun a1 h => ?_)
    refine x_icmp_ge (tgt := 48) C (dq DX4_append 9 rfl) (by decide) h (fun h => ?_) (fun h => ?_)
    · cases h
      exact x_lv [0, 1] rfl (kx (mm) rfl)
    · refine x_aload_n C (dq DX4_append 10 rfl) rfl 0 rfl ?_
      refine x_pc 20 rfl ?_
      refine getX4_9 C (dq DX4_append 11 rfl) g0 ?_
      refine x_aload_n C (dq DX4_append 12 rfl) rfl 0 rfl ?_
      refine getX4_15 C (dq DX4_append 13 rfl) g0 ?_
      refine x_iload_n C (dq DX4_append 14 rfl) rfl 1 rfl ?_
      refine x_iload_n C (dq DX4_append 15 rfl) rfl 2 rfl ?_
      refine x_pc 29 rfl ?_
      refine x_ishr C (dq DX4_append 16 rfl) ?_
      refine x_i2b C (dq DX4_append 17 rfl) ?_
      refine x_bast C (dq DX4_append 18 rfl) h (fun m2 h => ?_)
      refine x_aload_n C (dq DX4_append 19 rfl) rfl 0 rfl ?_
      refine x_dup C (dq DX4_append 20 rfl) rfl ?_
      refine x_pc 34 rfl ?_
      refine getX4_15 C (dq DX4_append 21 rfl) g0 ?_
      refine x_iconst (v := 1) C (dq DX4_append 22 rfl) (by decide) ?_
      refine x_iadd C (dq DX4_append 23 rfl) ?_
      refine putX4_15 C (dq DX4_append 24 rfl) g0 h (fun m3 h => ?_)
      refine x_iinc (v := x2 + (-8)) (lv' := [(2, .int (x2 + (-8))), (0, .ref (E.2.2 x0)), (1, .int x1)]) C (dq DX4_append 25 rfl) 2 rfl rfl (by decide) rfl ?_
      refine x_pc 45 rfl ?_
      refine x_goto (tgt := 3) C (dq DX4_append 26 rfl) (by decide) ?_
      cases h
      exact x_lv [1, 2, 0] rfl (kb (x2 + (-8), m3) rfl)
set_option maxHeartbeats 1000000 in
theorem tX4_append_48 {G : Gt} {l : Launch} {E : Ev} {S : List Sh} {mm : Mm} {x0 : Nat}  {r : Mm} (C : Cx G E cX4_append 3 RX4 none 0 0) (g0 : isC S x0 4) (h : jX4_append_48 S mm x0 = some r) (hQ : RQ G E S none r) : WM G l E S 48 [(0, .ref (E.2.2 x0))] [] mm := by
  unfold jX4_append_48 at h
  cases h
  exact x_vret C (dq DX4_append 27 rfl) hQ
set_option maxHeartbeats 1000000 in
theorem mX4_append {l : Launch} {E : Ev} {S : List Sh} {mm : Mm} {x0 : Nat} {x1 : Int32} {r : Mm} (h : fX4_append S mm x0 x1 = some r) : Ml l E S yX4_append cX4_append 3 none 0 0 [.ref (E.2.2 x0), .int x1] mm none r := by
  refine Ml.of (by decide +kernel) (Nat.le_of_ble_eq_true rfl) (fun G C hQ => ?_)
  have C : Cx G E cX4_append 3 RX4 none 0 0 := C
  unfold fX4_append at h
  obtain ⟨g0, h⟩ := gd_some h
  show WM G l E S 0 [(0, .ref (E.2.2 x0)), (1, .int x1)] [] mm
  refine x_bipush (v := 24) C (dq DX4_append 0 rfl) (by decide) ?_
  refine x_istore_n (lv' := [(2, .int 24), (0, .ref (E.2.2 x0)), (1, .int x1)]) C (dq DX4_append 1 rfl) rfl (by decide) rfl ?_
  refine x_lv [1, 2, 0] rfl ?_
  refine x_loop (s0 := (24, mm)) (fun s4 => WM G l E S 3 [(0, .ref (E.2.2 x0)), (1, .int x1), (2, .int s4.1)] [] s4.2) h (fun s4 r hb kb kx => tX4_append_3 C g0 hb kb (fun y5 hy => ?_))
  have h := kx y5 hy
  clear kx kb hb hy
  exact x_lv [0] rfl (tX4_append_48 C g0 h hQ)
set_option maxHeartbeats 1000000 in
theorem qX4_append {S : List Sh} {mm : Mm} {x0 : Nat} {x1 : Int32} {r : Mm} (h : fX4_append S mm x0 x1 = some r) : isC S x0 4 := by
  unfold fX4_append at h
  exact (gd_some h).1
theorem putX4_19 {G : Gt} {l : Launch} {E : Ev} {S : List Sh} {cc : ByteArray} {nL : Nat} {rt : Option FieldType} {fr lo : Nat} {pc : Nat} {lv : List (Nat × Value)} {st : List Value} {mm : Mm} {o : Nat} {α : Type} {f : Mm → Option α} {r : α} {x : Int32} (C : Cx G E cc nL RX4 rt fr lo) (d : decode cc pc = .ok (.putfield 19, 3)) (hg : isC S o 4) (h : bd1 (some (u1 mm o 2 x)) f = some r) (k : ∀ m1, f m1 = some r → WM G l E S (pc + 3) lv st m1) : WM G l E S pc lv (.int x :: .ref (E.2.2 o) :: st) mm := x_putI C hg (T := TX4) (N := 7) rfl inX4 (by decide) (i := 2) (gmem 38 (by decide +kernel) rfl) rfl tyX4 tyX4_ok nmX4 rfl rfl (by decide) (by decide +kernel) d (k _ h)
theorem putX4_22 {G : Gt} {l : Launch} {E : Ev} {S : List Sh} {cc : ByteArray} {nL : Nat} {rt : Option FieldType} {fr lo : Nat} {pc : Nat} {lv : List (Nat × Value)} {st : List Value} {mm : Mm} {o : Nat} {α : Type} {f : Mm → Option α} {r : α} {x : Int32} (C : Cx G E cc nL RX4 rt fr lo) (d : decode cc pc = .ok (.putfield 22, 3)) (hg : isC S o 4) (h : bd1 (some (u1 mm o 3 x)) f = some r) (k : ∀ m1, f m1 = some r → WM G l E S (pc + 3) lv st m1) : WM G l E S pc lv (.int x :: .ref (E.2.2 o) :: st) mm := x_putI C hg (T := TX4) (N := 7) rfl inX4 (by decide) (i := 3) (gmem 39 (by decide +kernel) rfl) rfl tyX4 tyX4_ok nmX4 rfl rfl (by decide) (by decide +kernel) d (k _ h)
theorem callX4_34 {G : Gt} {l : Launch} {E : Ev} {S : List Sh} {cc : ByteArray} {nL : Nat} {rt : Option FieldType} {fr lo : Nat} {pc : Nat} {lv : List (Nat × Value)} {rest : List Value} {mm : Mm} {x y : Int32} (C : Cx G E cc nL RX4 rt fr lo) (d : decode cc pc = .ok (.invokestatic 34, 3)) (h1 : 1 ≤ fr) (h2 : (rest.map fun v => v.category).sum + 13 ≤ lo) (k : WM G l E S (pc + 3) lv (.int (if y < x then y else x) :: rest) mm) : WM G l E S pc lv (.int y :: .int x :: rest) mm := x_mmin C d (gmem 295 (by decide +kernel) rfl) (gmem 296 (by decide +kernel) rfl) (gmem 10 (by decide +kernel) rfl) (gmem 297 (by decide +kernel) rfl) h1 h2 k
abbrev eX4_rewind : List (Nat × Instr × Nat) := [(0, .aload_n 0, 1), (1, .iload_n 1, 1), (2, .aload_n 0, 1), (3, .getfield 15, 3), (6, .invokestatic 34, 3), (9, .putfield 19, 3), (12, .aload_n 0, 1), (13, .iconst 0, 1), (14, .putfield 22, 3), (17, .return_, 1)]
theorem DX4_rewind : (eX4_rewind.all fun q => decide (decode cX4_rewind q.1 = .ok q.2)) = true := by decide +kernel
def fX4_rewind (S : List Sh) (mm : Mm) (x0 : Nat) (x1 : Int32) : Option (Mm) := gd S x0 4 (bd1 (some (u1 mm x0 2 (if (mm.1 x0 1) < x1 then (mm.1 x0 1) else x1))) fun m1 => bd1 (some (u1 m1 x0 3 0)) fun m2 => some m2)
set_option maxHeartbeats 1000000 in
theorem mX4_rewind {l : Launch} {E : Ev} {S : List Sh} {mm : Mm} {x0 : Nat} {x1 : Int32} {r : Mm} (h : fX4_rewind S mm x0 x1 = some r) : Ml l E S yX4_rewind cX4_rewind 2 none 1 29 [.ref (E.2.2 x0), .int x1] mm none r := by
  refine Ml.of (by decide +kernel) (Nat.le_of_ble_eq_true rfl) (fun G C hQ => ?_)
  have C : Cx G E cX4_rewind 2 RX4 none 1 29 := C
  unfold fX4_rewind at h
  obtain ⟨g0, h⟩ := gd_some h
  show WM G l E S 0 [(0, .ref (E.2.2 x0)), (1, .int x1)] [] mm
  refine x_aload_n C (dq DX4_rewind 0 rfl) rfl 0 rfl ?_
  refine x_iload_n C (dq DX4_rewind 1 rfl) rfl 1 rfl ?_
  refine x_aload_n C (dq DX4_rewind 2 rfl) rfl 0 rfl ?_
  refine getX4_15 C (dq DX4_rewind 3 rfl) g0 ?_
  refine x_pc 6 rfl ?_
  refine callX4_34 C (dq DX4_rewind 4 rfl) (by decide) (Nat.le_of_ble_eq_true rfl) ?_
  refine putX4_19 C (dq DX4_rewind 5 rfl) g0 h (fun m1 h => ?_)
  refine x_aload_n C (dq DX4_rewind 6 rfl) rfl 0 rfl ?_
  refine x_iconst (v := 0) C (dq DX4_rewind 7 rfl) (by decide) ?_
  refine putX4_22 C (dq DX4_rewind 8 rfl) g0 h (fun m2 h => ?_)
  refine x_pc 17 rfl ?_
  cases h
  exact x_vret C (dq DX4_rewind 9 rfl) hQ
set_option maxHeartbeats 1000000 in
theorem qX4_rewind {S : List Sh} {mm : Mm} {x0 : Nat} {x1 : Int32} {r : Mm} (h : fX4_rewind S mm x0 x1 = some r) : isC S x0 4 := by
  unfold fX4_rewind at h
  exact (gd_some h).1
abbrev eX4_isBlank : List (Nat × Instr × Nat) := [(0, .iload_n 0, 1), (1, .bipush 10, 2), (3, .if_icmp .eq 9, 3), (6, .iload_n 0, 1), (7, .bipush 32, 2), (9, .if_icmp .ne 7, 3), (12, .iconst 1, 1), (13, .goto 4, 3), (16, .iconst 0, 1), (17, .ireturn, 1)]
theorem DX4_isBlank : (eX4_isBlank.all fun q => decide (decode cX4_isBlank q.1 = .ok q.2)) = true := by decide +kernel
def jX4_isBlank_17 (S : List Sh) (mm : Mm)  (p0 : Int32) : Option (Int32) := bd1 (okZ p0) fun _ => some p0
def jX4_isBlank_12 (S : List Sh) (mm : Mm)   : Option (Int32) := jX4_isBlank_17 S mm 1
def fX4_isBlank (S : List Sh) (mm : Mm) (x0 : Int32) : Option (Int32) := if x0 = 10 then (jX4_isBlank_12 S mm ) else (if ¬ x0 = 32 then (jX4_isBlank_17 S mm 0) else (jX4_isBlank_12 S mm ))
set_option maxHeartbeats 1000000 in
theorem tX4_isBlank_17 {G : Gt} {l : Launch} {E : Ev} {S : List Sh} {mm : Mm}  {p0 : Int32} {r : Int32} (C : Cx G E cX4_isBlank 1 RX4 (some .boolean) 0 0)  (h : jX4_isBlank_17 S mm p0 = some r) (hQ : RQ G E S (some (.int r)) mm) : WM G l E S 17 [] [.int p0] mm := by
  unfold jX4_isBlank_17 at h
  refine x_zret C (dq DX4_isBlank 9 rfl) h (fun h => ?_)
  cases h
  exact hQ
set_option maxHeartbeats 1000000 in
theorem tX4_isBlank_12 {G : Gt} {l : Launch} {E : Ev} {S : List Sh} {mm : Mm}   {r : Int32} (C : Cx G E cX4_isBlank 1 RX4 (some .boolean) 0 0)  (h : jX4_isBlank_12 S mm = some r) (hQ : RQ G E S (some (.int r)) mm) : WM G l E S 12 [] [] mm := by
  unfold jX4_isBlank_12 at h
  refine x_iconst (v := 1) C (dq DX4_isBlank 6 rfl) (by decide) ?_
  refine x_goto (tgt := 17) C (dq DX4_isBlank 7 rfl) (by decide) ?_
  exact x_lv [] rfl (tX4_isBlank_17 C  h hQ)
set_option maxHeartbeats 1000000 in
theorem mX4_isBlank {l : Launch} {E : Ev} {S : List Sh} {mm : Mm} {x0 : Int32} {r : Int32} (h : fX4_isBlank S mm x0 = some r) : Ml l E S yX4_isBlank cX4_isBlank 1 (some .boolean) 0 0 [.int x0] mm (some (.int r)) mm := by
  refine Ml.of (by decide +kernel) (Nat.le_of_ble_eq_true rfl) (fun G C hQ => ?_)
  have C : Cx G E cX4_isBlank 1 RX4 (some .boolean) 0 0 := C
  unfold fX4_isBlank at h
  show WM G l E S 0 [(0, .int x0)] [] mm
  refine x_iload_n C (dq DX4_isBlank 0 rfl) rfl 0 rfl ?_
  refine x_bipush (v := 10) C (dq DX4_isBlank 1 rfl) (by decide) ?_
  refine x_icmp_eq (tgt := 12) C (dq DX4_isBlank 2 rfl) (by decide) h (fun h => ?_) (fun h => ?_)
  · exact x_lv [] rfl (tX4_isBlank_12 C  h hQ)
  · refine x_iload_n C (dq DX4_isBlank 3 rfl) rfl 0 rfl ?_
    refine x_pc 7 rfl ?_
    refine x_bipush (v := 32) C (dq DX4_isBlank 4 rfl) (by decide) ?_
    refine x_icmp_ne (tgt := 16) C (dq DX4_isBlank 5 rfl) (by decide) h (fun h => ?_) (fun h => ?_)
    · refine x_iconst (v := 0) C (dq DX4_isBlank 8 rfl) (by decide) ?_
      exact x_lv [] rfl (tX4_isBlank_17 C  h hQ)
    · exact x_lv [] rfl (tX4_isBlank_12 C  h hQ)
abbrev eX4_isLetter : List (Nat × Instr × Nat) := [(0, .iload_n 0, 1), (1, .bipush 97, 2), (3, .if_icmp .lt 13, 3), (6, .iload_n 0, 1), (7, .bipush 122, 2), (9, .if_icmp .gt 7, 3), (12, .iconst 1, 1), (13, .goto 4, 3), (16, .iconst 0, 1), (17, .ireturn, 1)]
theorem DX4_isLetter : (eX4_isLetter.all fun q => decide (decode cX4_isLetter q.1 = .ok q.2)) = true := by decide +kernel
def jX4_isLetter_17 (S : List Sh) (mm : Mm)  (p0 : Int32) : Option (Int32) := bd1 (okZ p0) fun _ => some p0
def jX4_isLetter_16 (S : List Sh) (mm : Mm)   : Option (Int32) := jX4_isLetter_17 S mm 0
def fX4_isLetter (S : List Sh) (mm : Mm) (x0 : Int32) : Option (Int32) := if x0 < 97 then (jX4_isLetter_16 S mm ) else (if 122 < x0 then (jX4_isLetter_16 S mm ) else (jX4_isLetter_17 S mm 1))
set_option maxHeartbeats 1000000 in
theorem tX4_isLetter_17 {G : Gt} {l : Launch} {E : Ev} {S : List Sh} {mm : Mm}  {p0 : Int32} {r : Int32} (C : Cx G E cX4_isLetter 1 RX4 (some .boolean) 0 0)  (h : jX4_isLetter_17 S mm p0 = some r) (hQ : RQ G E S (some (.int r)) mm) : WM G l E S 17 [] [.int p0] mm := by
  unfold jX4_isLetter_17 at h
  refine x_zret C (dq DX4_isLetter 9 rfl) h (fun h => ?_)
  cases h
  exact hQ
set_option maxHeartbeats 1000000 in
theorem tX4_isLetter_16 {G : Gt} {l : Launch} {E : Ev} {S : List Sh} {mm : Mm}   {r : Int32} (C : Cx G E cX4_isLetter 1 RX4 (some .boolean) 0 0)  (h : jX4_isLetter_16 S mm = some r) (hQ : RQ G E S (some (.int r)) mm) : WM G l E S 16 [] [] mm := by
  unfold jX4_isLetter_16 at h
  refine x_iconst (v := 0) C (dq DX4_isLetter 8 rfl) (by decide) ?_
  exact x_lv [] rfl (tX4_isLetter_17 C  h hQ)
set_option maxHeartbeats 1000000 in
theorem mX4_isLetter {l : Launch} {E : Ev} {S : List Sh} {mm : Mm} {x0 : Int32} {r : Int32} (h : fX4_isLetter S mm x0 = some r) : Ml l E S yX4_isLetter cX4_isLetter 1 (some .boolean) 0 0 [.int x0] mm (some (.int r)) mm := by
  refine Ml.of (by decide +kernel) (Nat.le_of_ble_eq_true rfl) (fun G C hQ => ?_)
  have C : Cx G E cX4_isLetter 1 RX4 (some .boolean) 0 0 := C
  unfold fX4_isLetter at h
  show WM G l E S 0 [(0, .int x0)] [] mm
  refine x_iload_n C (dq DX4_isLetter 0 rfl) rfl 0 rfl ?_
  refine x_bipush (v := 97) C (dq DX4_isLetter 1 rfl) (by decide) ?_
  refine x_icmp_lt (tgt := 16) C (dq DX4_isLetter 2 rfl) (by decide) h (fun h => ?_) (fun h => ?_)
  · exact x_lv [] rfl (tX4_isLetter_16 C  h hQ)
  · refine x_iload_n C (dq DX4_isLetter 3 rfl) rfl 0 rfl ?_
    refine x_pc 7 rfl ?_
    refine x_bipush (v := 122) C (dq DX4_isLetter 4 rfl) (by decide) ?_
    refine x_icmp_gt (tgt := 16) C (dq DX4_isLetter 5 rfl) (by decide) h (fun h => ?_) (fun h => ?_)
    · exact x_lv [] rfl (tX4_isLetter_16 C  h hQ)
    · refine x_iconst (v := 1) C (dq DX4_isLetter 6 rfl) (by decide) ?_
      refine x_goto (tgt := 17) C (dq DX4_isLetter 7 rfl) (by decide) ?_
      exact x_lv [] rfl (tX4_isLetter_17 C  h hQ)
abbrev eX4_isDigit : List (Nat × Instr × Nat) := [(0, .iload_n 0, 1), (1, .bipush 48, 2), (3, .if_icmp .lt 13, 3), (6, .iload_n 0, 1), (7, .bipush 57, 2), (9, .if_icmp .gt 7, 3), (12, .iconst 1, 1), (13, .goto 4, 3), (16, .iconst 0, 1), (17, .ireturn, 1)]
theorem DX4_isDigit : (eX4_isDigit.all fun q => decide (decode cX4_isDigit q.1 = .ok q.2)) = true := by decide +kernel
def jX4_isDigit_17 (S : List Sh) (mm : Mm)  (p0 : Int32) : Option (Int32) := bd1 (okZ p0) fun _ => some p0
def jX4_isDigit_16 (S : List Sh) (mm : Mm)   : Option (Int32) := jX4_isDigit_17 S mm 0
def fX4_isDigit (S : List Sh) (mm : Mm) (x0 : Int32) : Option (Int32) := if x0 < 48 then (jX4_isDigit_16 S mm ) else (if 57 < x0 then (jX4_isDigit_16 S mm ) else (jX4_isDigit_17 S mm 1))
set_option maxHeartbeats 1000000 in
theorem tX4_isDigit_17 {G : Gt} {l : Launch} {E : Ev} {S : List Sh} {mm : Mm}  {p0 : Int32} {r : Int32} (C : Cx G E cX4_isDigit 1 RX4 (some .boolean) 0 0)  (h : jX4_isDigit_17 S mm p0 = some r) (hQ : RQ G E S (some (.int r)) mm) : WM G l E S 17 [] [.int p0] mm := by
  unfold jX4_isDigit_17 at h
  refine x_zret C (dq DX4_isDigit 9 rfl) h (fun h => ?_)
  cases h
  exact hQ
set_option maxHeartbeats 1000000 in
theorem tX4_isDigit_16 {G : Gt} {l : Launch} {E : Ev} {S : List Sh} {mm : Mm}   {r : Int32} (C : Cx G E cX4_isDigit 1 RX4 (some .boolean) 0 0)  (h : jX4_isDigit_16 S mm = some r) (hQ : RQ G E S (some (.int r)) mm) : WM G l E S 16 [] [] mm := by
  unfold jX4_isDigit_16 at h
  refine x_iconst (v := 0) C (dq DX4_isDigit 8 rfl) (by decide) ?_
  exact x_lv [] rfl (tX4_isDigit_17 C  h hQ)
set_option maxHeartbeats 1000000 in
theorem mX4_isDigit {l : Launch} {E : Ev} {S : List Sh} {mm : Mm} {x0 : Int32} {r : Int32} (h : fX4_isDigit S mm x0 = some r) : Ml l E S yX4_isDigit cX4_isDigit 1 (some .boolean) 0 0 [.int x0] mm (some (.int r)) mm := by
  refine Ml.of (by decide +kernel) (Nat.le_of_ble_eq_true rfl) (fun G C hQ => ?_)
  have C : Cx G E cX4_isDigit 1 RX4 (some .boolean) 0 0 := C
  unfold fX4_isDigit at h
  show WM G l E S 0 [(0, .int x0)] [] mm
  refine x_iload_n C (dq DX4_isDigit 0 rfl) rfl 0 rfl ?_
  refine x_bipush (v := 48) C (dq DX4_isDigit 1 rfl) (by decide) ?_
  refine x_icmp_lt (tgt := 16) C (dq DX4_isDigit 2 rfl) (by decide) h (fun h => ?_) (fun h => ?_)
  · exact x_lv [] rfl (tX4_isDigit_16 C  h hQ)
  · refine x_iload_n C (dq DX4_isDigit 3 rfl) rfl 0 rfl ?_
    refine x_pc 7 rfl ?_
    refine x_bipush (v := 57) C (dq DX4_isDigit 4 rfl) (by decide) ?_
    refine x_icmp_gt (tgt := 16) C (dq DX4_isDigit 5 rfl) (by decide) h (fun h => ?_) (fun h => ?_)
    · exact x_lv [] rfl (tX4_isDigit_16 C  h hQ)
    · refine x_iconst (v := 1) C (dq DX4_isDigit 6 rfl) (by decide) ?_
      refine x_goto (tgt := 17) C (dq DX4_isDigit 7 rfl) (by decide) ?_
      exact x_lv [] rfl (tX4_isDigit_17 C  h hQ)
theorem getX4_19 {G : Gt} {l : Launch} {E : Ev} {S : List Sh} {cc : ByteArray} {nL : Nat} {rt : Option FieldType} {fr lo : Nat} {pc : Nat} {lv : List (Nat × Value)} {st : List Value} {mm : Mm} {o : Nat} (C : Cx G E cc nL RX4 rt fr lo) (d : decode cc pc = .ok (.getfield 19, 3)) (hg : isC S o 4) (k : WM G l E S (pc + 3) lv (.int (mm.1 o 2) :: st) mm) : WM G l E S pc lv (.ref (E.2.2 o) :: st) mm := x_get0 C hg (T := TX4) (N := 7) rfl inX4 (by decide) (i := 2) (gmem 38 (by decide +kernel) rfl) rfl rfl d k
theorem getX4_22 {G : Gt} {l : Launch} {E : Ev} {S : List Sh} {cc : ByteArray} {nL : Nat} {rt : Option FieldType} {fr lo : Nat} {pc : Nat} {lv : List (Nat × Value)} {st : List Value} {mm : Mm} {o : Nat} (C : Cx G E cc nL RX4 rt fr lo) (d : decode cc pc = .ok (.getfield 22, 3)) (hg : isC S o 4) (k : WM G l E S (pc + 3) lv (.int (mm.1 o 3) :: st) mm) : WM G l E S pc lv (.ref (E.2.2 o) :: st) mm := x_get0 C hg (T := TX4) (N := 7) rfl inX4 (by decide) (i := 3) (gmem 39 (by decide +kernel) rfl) rfl rfl d k
theorem getX4_31 {G : Gt} {l : Launch} {E : Ev} {S : List Sh} {cc : ByteArray} {nL : Nat} {rt : Option FieldType} {fr lo : Nat} {pc : Nat} {lv : List (Nat × Value)} {st : List Value} {mm : Mm} {o : Nat} (C : Cx G E cc nL RX4 rt fr lo) (d : decode cc pc = .ok (.getfield 31, 3)) (hg : isC S o 4) (k : WM G l E S (pc + 3) lv (.int (mm.1 o 6) :: st) mm) : WM G l E S pc lv (.ref (E.2.2 o) :: st) mm := x_get0 C hg (T := TX4) (N := 7) rfl inX4 (by decide) (i := 6) (gmem 45 (by decide +kernel) rfl) rfl rfl d k
theorem putX4_25 {G : Gt} {l : Launch} {E : Ev} {S : List Sh} {cc : ByteArray} {nL : Nat} {rt : Option FieldType} {fr lo : Nat} {pc : Nat} {lv : List (Nat × Value)} {st : List Value} {mm : Mm} {o : Nat} {α : Type} {f : Mm → Option α} {r : α} {x : Int32} (C : Cx G E cc nL RX4 rt fr lo) (d : decode cc pc = .ok (.putfield 25, 3)) (hg : isC S o 4) (h : bd1 (some (u1 mm o 4 x)) f = some r) (k : ∀ m1, f m1 = some r → WM G l E S (pc + 3) lv st m1) : WM G l E S pc lv (.int x :: .ref (E.2.2 o) :: st) mm := x_putI C hg (T := TX4) (N := 7) rfl inX4 (by decide) (i := 4) (gmem 40 (by decide +kernel) rfl) rfl tyX4 tyX4_ok nmX4 rfl rfl (by decide) (by decide +kernel) d (k _ h)
theorem putX4_31 {G : Gt} {l : Launch} {E : Ev} {S : List Sh} {cc : ByteArray} {nL : Nat} {rt : Option FieldType} {fr lo : Nat} {pc : Nat} {lv : List (Nat × Value)} {st : List Value} {mm : Mm} {o : Nat} {α : Type} {f : Mm → Option α} {r : α} {x : Int32} (C : Cx G E cc nL RX4 rt fr lo) (d : decode cc pc = .ok (.putfield 31, 3)) (hg : isC S o 4) (h : bd1 (some (u1 mm o 6 x)) f = some r) (k : ∀ m1, f m1 = some r → WM G l E S (pc + 3) lv st m1) : WM G l E S pc lv (.int x :: .ref (E.2.2 o) :: st) mm := x_putI C hg (T := TX4) (N := 7) rfl inX4 (by decide) (i := 6) (gmem 45 (by decide +kernel) rfl) rfl tyX4 tyX4_ok nmX4 rfl rfl (by decide) (by decide +kernel) d (k _ h)
theorem callX4_50 {G : Gt} {l : Launch} {E : Ev} {S : List Sh} {cc : ByteArray} {nL : Nat} {rt : Option FieldType} {fr lo : Nat} {pc : Nat} {lv : List (Nat × Value)} {rest : List Value} {mm : Mm} {α : Type} {f : Int32 → Option α} {r : α} {a0 : Int32} (C : Cx G E cc nL RX4 rt fr lo) (d : decode cc pc = .ok (.invokestatic 50, 3)) (h : bd1 (fX4_isDigit S mm a0) f = some r) (hfr : 1 ≤ fr) (hlo : 20 ≤ lo) (hrs : (rest.map fun v => v.category).sum ≤ 8) (k : ∀ v, f v = some r → WM G l E S (pc + 3) lv (.int v :: rest) mm) : WM G l E S pc lv (.int a0 :: rest) mm := by
  obtain ⟨v, hv, hf⟩ := bd1_some h
  exact x_callS (n := 1) (As := [.int a0]) (rest := rest) C (mX4_isDigit hv) (gmem 326 (by decide +kernel) rfl) (gmem 327 (by decide +kernel) rfl) (gmem 2 (by decide +kernel) rfl) (gmem 328 (by decide +kernel) rfl) (by decide +kernel) rfl hfr hlo hrs d rfl rfl (k v hf)
abbrev eX4_scanNumber : List (Nat × Instr × Nat) := [(0, .aload_n 0, 1), (1, .iconst 3, 1), (2, .putfield 25, 3), (5, .aload_n 0, 1), (6, .getfield 22, 3), (9, .aload_n 0, 1), (10, .getfield 19, 3), (13, .if_icmp .ge 60, 3), (16, .aload_n 0, 1), (17, .getfield 9, 3), (20, .aload_n 0, 1), (21, .getfield 22, 3), (24, .baload, 1), (25, .invokestatic 50, 3), (28, .ifCond .eq 45, 3), (31, .aload_n 0, 1), (32, .ldc 59, 2), (34, .aload_n 0, 1), (35, .getfield 31, 3), (38, .bipush 10, 2), (40, .imul, 1), (41, .aload_n 0, 1), (42, .getfield 9, 3), (45, .aload_n 0, 1), (46, .getfield 22, 3), (49, .baload, 1), (50, .iadd, 1), (51, .bipush 48, 2), (53, .isub, 1), (54, .invokestatic 34, 3), (57, .putfield 31, 3), (60, .aload_n 0, 1), (61, .dup, 1), (62, .getfield 22, 3), (65, .iconst 1, 1), (66, .iadd, 1), (67, .putfield 22, 3), (70, .goto (-65), 3), (73, .return_, 1)]
theorem DX4_scanNumber : (eX4_scanNumber.all fun q => decide (decode cX4_scanNumber q.1 = .ok q.2)) = true := by decide +kernel
def bX4_scanNumber_5 (S : List Sh) (x0 : Nat)  (mm : Mm) : Option ((Mm) ⊕ (Mm)) := if (mm.1 x0 2) ≤ (mm.1 x0 3) then (some (.inr (mm))) else (bd1 (ldA S 1 mm (rf S mm x0 0) (mm.1 x0 3)) fun a2 => bd1 (fX4_isDigit S mm a2) fun a3 => if a3 = 0 then (some (.inr (mm))) else (bd1 (ldA S 1 mm (rf S mm x0 0) (mm.1 x0 3)) fun a4 => bd1 (some (u1 mm x0 6 (if ((((mm.1 x0 6) * 10) + a4) - 48) < 1000000 then ((((mm.1 x0 6) * 10) + a4) - 48) else 1000000))) fun m5 => bd1 (some (u1 m5 x0 3 ((m5.1 x0 3) + 1))) fun m6 => some (.inl (m6))))
def jX4_scanNumber_73 (S : List Sh) (mm : Mm) (x0 : Nat)  : Option (Mm) := some mm
def fX4_scanNumber (S : List Sh) (mm : Mm) (x0 : Nat) : Option (Mm) := gd S x0 4 (bd1 (some (u1 mm x0 4 3)) fun m1 => bd1 (lp (fun s7 => bX4_scanNumber_5 S x0 s7) fu m1) fun y8 => jX4_scanNumber_73 S y8 x0)
set_option maxHeartbeats 1000000 in
theorem tX4_scanNumber_5 {G : Gt} {l : Launch} {E : Ev} {S : List Sh} {x0 : Nat}  {mm : Mm} {r : (Mm) ⊕ (Mm)} (C : Cx G E cX4_scanNumber 1 RX4 none 1 29) (g0 : isC S x0 4) (h : bX4_scanNumber_5 S x0 mm = some r) (kb : ∀ z : Mm, r = .inl z → WM G l E S 5 [(0, .ref (E.2.2 x0))] [] z) (kx : ∀ z : Mm, r = .inr z → WM G l E S 73 [(0, .ref (E.2.2 x0))] [] z) : WM G l E S 5 [(0, .ref (E.2.2 x0))] [] mm := by
  unfold bX4_scanNumber_5 at h
  refine x_aload_n C (dq DX4_scanNumber 3 rfl) rfl 0 rfl ?_
  refine getX4_22 C (dq DX4_scanNumber 4 rfl) g0 ?_
  refine x_aload_n C (dq DX4_scanNumber 5 rfl) rfl 0 rfl ?_
  refine getX4_19 C (dq DX4_scanNumber 6 rfl) g0 ?_
  refine x_pc 13 rfl ?_
  refine x_icmp_ge (tgt := 73) C (dq DX4_scanNumber 7 rfl) (by decide) h (fun h => ?_) (fun h => ?_)
  · cases h
    exact x_lv [0] rfl (kx (mm) rfl)
  · refine x_aload_n C (dq DX4_scanNumber 8 rfl) rfl 0 rfl ?_
    refine getX4_9 C (dq DX4_scanNumber 9 rfl) g0 ?_
    refine x_aload_n C (dq DX4_scanNumber 10 rfl) rfl 0 rfl ?_
    refine getX4_22 C (dq DX4_scanNumber 11 rfl) g0 ?_
    refine x_pc 24 rfl ?_
    refine x_bald C (dq DX4_scanNumber 12 rfl) h (fun a2 h => ?_)
    refine callX4_50 C (dq DX4_scanNumber 13 rfl) h (by decide) (by decide) (Nat.le_of_ble_eq_true rfl) (fun a3 h => ?_)
    refine x_if_eq (tgt := 73) C (dq DX4_scanNumber 14 rfl) (by decide) h (fun h => ?_) (fun h => ?_)
    · cases h
      exact x_lv [0] rfl (kx (mm) rfl)
    · refine x_aload_n C (dq DX4_scanNumber 15 rfl) rfl 0 rfl ?_
      refine x_ldc (v := 1000000) C (dq DX4_scanNumber 16 rfl) (gmem 333 (by decide +kernel) rfl) ?_
      refine x_pc 34 rfl ?_
      refine x_aload_n C (dq DX4_scanNumber 17 rfl) rfl 0 rfl ?_
      refine getX4_31 C (dq DX4_scanNumber 18 rfl) g0 ?_
      refine x_bipush (v := 10) C (dq DX4_scanNumber 19 rfl) (by decide) ?_
      refine x_imul C (dq DX4_scanNumber 20 rfl) ?_
      refine x_aload_n C (dq DX4_scanNumber 21 rfl) rfl 0 rfl ?_
      refine x_pc 42 rfl ?_
      refine getX4_9 C (dq DX4_scanNumber 22 rfl) g0 ?_
      refine x_aload_n C (dq DX4_scanNumber 23 rfl) rfl 0 rfl ?_
      refine getX4_22 C (dq DX4_scanNumber 24 rfl) g0 ?_
      refine x_bald C (dq DX4_scanNumber 25 rfl) h (fun a4 h => ?_)
      refine x_iadd C (dq DX4_scanNumber 26 rfl) ?_
      refine x_pc 51 rfl ?_
      refine x_bipush (v := 48) C (dq DX4_scanNumber 27 rfl) (by decide) ?_
      refine x_isub C (dq DX4_scanNumber 28 rfl) ?_
      refine callX4_34 C (dq DX4_scanNumber 29 rfl) (by decide) (Nat.le_of_ble_eq_true rfl) ?_
      refine putX4_31 C (dq DX4_scanNumber 30 rfl) g0 h (fun m5 h => ?_)
      refine x_aload_n C (dq DX4_scanNumber 31 rfl) rfl 0 rfl ?_
      refine x_pc 61 rfl ?_
      refine x_dup C (dq DX4_scanNumber 32 rfl) rfl ?_
      refine getX4_22 C (dq DX4_scanNumber 33 rfl) g0 ?_
      refine x_iconst (v := 1) C (dq DX4_scanNumber 34 rfl) (by decide) ?_
      refine x_iadd C (dq DX4_scanNumber 35 rfl) ?_
      refine putX4_22 C (dq DX4_scanNumber 36 rfl) g0 h (fun m6 h => ?_)
      refine x_pc 70 rfl ?_
      refine x_goto (tgt := 5) C (dq DX4_scanNumber 37 rfl) (by decide) ?_
      cases h
      exact x_lv [0] rfl (kb (m6) rfl)
set_option maxHeartbeats 1000000 in
theorem tX4_scanNumber_73 {G : Gt} {l : Launch} {E : Ev} {S : List Sh} {mm : Mm} {x0 : Nat}  {r : Mm} (C : Cx G E cX4_scanNumber 1 RX4 none 1 29) (g0 : isC S x0 4) (h : jX4_scanNumber_73 S mm x0 = some r) (hQ : RQ G E S none r) : WM G l E S 73 [(0, .ref (E.2.2 x0))] [] mm := by
  unfold jX4_scanNumber_73 at h
  cases h
  exact x_vret C (dq DX4_scanNumber 38 rfl) hQ
set_option maxHeartbeats 1000000 in
theorem mX4_scanNumber {l : Launch} {E : Ev} {S : List Sh} {mm : Mm} {x0 : Nat} {r : Mm} (h : fX4_scanNumber S mm x0 = some r) : Ml l E S yX4_scanNumber cX4_scanNumber 1 none 1 29 [.ref (E.2.2 x0)] mm none r := by
  refine Ml.of (by decide +kernel) (Nat.le_of_ble_eq_true rfl) (fun G C hQ => ?_)
  have C : Cx G E cX4_scanNumber 1 RX4 none 1 29 := C
  unfold fX4_scanNumber at h
  obtain ⟨g0, h⟩ := gd_some h
  show WM G l E S 0 [(0, .ref (E.2.2 x0))] [] mm
  refine x_aload_n C (dq DX4_scanNumber 0 rfl) rfl 0 rfl ?_
  refine x_iconst (v := 3) C (dq DX4_scanNumber 1 rfl) (by decide) ?_
  refine putX4_25 C (dq DX4_scanNumber 2 rfl) g0 h (fun m1 h => ?_)
  refine x_lv [0] rfl ?_
  refine x_loop (s0 := m1) (fun s7 => WM G l E S 5 [(0, .ref (E.2.2 x0))] [] s7) h (fun s7 r hb kb kx => tX4_scanNumber_5 C g0 hb kb (fun y8 hy => ?_))
  have h := kx y8 hy
  clear kx kb hb hy
  exact x_lv [0] rfl (tX4_scanNumber_73 C g0 h hQ)
set_option maxHeartbeats 1000000 in
theorem qX4_scanNumber {S : List Sh} {mm : Mm} {x0 : Nat} {r : Mm} (h : fX4_scanNumber S mm x0 = some r) : isC S x0 4 := by
  unfold fX4_scanNumber at h
  exact (gd_some h).1
abbrev eX4_isKeyword : List (Nat × Instr × Nat) := [(0, .iload_n 0, 1), (1, .ldc 60, 2), (3, .if_icmp .eq 33, 3), (6, .iload_n 0, 1), (7, .ldc 61, 2), (9, .if_icmp .eq 27, 3), (12, .iload_n 0, 1), (13, .ldc 62, 2), (15, .if_icmp .eq 21, 3), (18, .iload_n 0, 1), (19, .ldc 63, 2), (21, .if_icmp .eq 15, 3), (24, .iload_n 0, 1), (25, .ldc 64, 2), (27, .if_icmp .eq 9, 3), (30, .iload_n 0, 1), (31, .ldc 65, 2), (33, .if_icmp .ne 7, 3), (36, .iconst 1, 1), (37, .goto 4, 3), (40, .iconst 0, 1), (41, .ireturn, 1)]
theorem DX4_isKeyword : (eX4_isKeyword.all fun q => decide (decode cX4_isKeyword q.1 = .ok q.2)) = true := by decide +kernel
def jX4_isKeyword_41 (S : List Sh) (mm : Mm)  (p0 : Int32) : Option (Int32) := bd1 (okZ p0) fun _ => some p0
def jX4_isKeyword_36 (S : List Sh) (mm : Mm)   : Option (Int32) := jX4_isKeyword_41 S mm 1
def fX4_isKeyword (S : List Sh) (mm : Mm) (x0 : Int32) : Option (Int32) := if x0 = 412560384 then (jX4_isKeyword_36 S mm ) else (if x0 = 214424576 then (jX4_isKeyword_36 S mm ) else (if x0 = 639025541 then (jX4_isKeyword_36 S mm ) else (if x0 = 658545824 then (jX4_isKeyword_36 S mm ) else (if x0 = 509804544 then (jX4_isKeyword_36 S mm ) else (if ¬ x0 = 642945024 then (jX4_isKeyword_41 S mm 0) else (jX4_isKeyword_36 S mm ))))))
set_option maxHeartbeats 1000000 in
theorem tX4_isKeyword_41 {G : Gt} {l : Launch} {E : Ev} {S : List Sh} {mm : Mm}  {p0 : Int32} {r : Int32} (C : Cx G E cX4_isKeyword 1 RX4 (some .boolean) 0 0)  (h : jX4_isKeyword_41 S mm p0 = some r) (hQ : RQ G E S (some (.int r)) mm) : WM G l E S 41 [] [.int p0] mm := by
  unfold jX4_isKeyword_41 at h
  refine x_zret C (dq DX4_isKeyword 21 rfl) h (fun h => ?_)
  cases h
  exact hQ
set_option maxHeartbeats 1000000 in
theorem tX4_isKeyword_36 {G : Gt} {l : Launch} {E : Ev} {S : List Sh} {mm : Mm}   {r : Int32} (C : Cx G E cX4_isKeyword 1 RX4 (some .boolean) 0 0)  (h : jX4_isKeyword_36 S mm = some r) (hQ : RQ G E S (some (.int r)) mm) : WM G l E S 36 [] [] mm := by
  unfold jX4_isKeyword_36 at h
  refine x_iconst (v := 1) C (dq DX4_isKeyword 18 rfl) (by decide) ?_
  refine x_goto (tgt := 41) C (dq DX4_isKeyword 19 rfl) (by decide) ?_
  exact x_lv [] rfl (tX4_isKeyword_41 C  h hQ)
set_option maxHeartbeats 1000000 in
theorem mX4_isKeyword {l : Launch} {E : Ev} {S : List Sh} {mm : Mm} {x0 : Int32} {r : Int32} (h : fX4_isKeyword S mm x0 = some r) : Ml l E S yX4_isKeyword cX4_isKeyword 1 (some .boolean) 0 0 [.int x0] mm (some (.int r)) mm := by
  refine Ml.of (by decide +kernel) (Nat.le_of_ble_eq_true rfl) (fun G C hQ => ?_)
  have C : Cx G E cX4_isKeyword 1 RX4 (some .boolean) 0 0 := C
  unfold fX4_isKeyword at h
  show WM G l E S 0 [(0, .int x0)] [] mm
  refine x_iload_n C (dq DX4_isKeyword 0 rfl) rfl 0 rfl ?_
  refine x_ldc (v := 412560384) C (dq DX4_isKeyword 1 rfl) (gmem 320 (by decide +kernel) rfl) ?_
  refine x_icmp_eq (tgt := 36) C (dq DX4_isKeyword 2 rfl) (by decide) h (fun h => ?_) (fun h => ?_)
  · exact x_lv [] rfl (tX4_isKeyword_36 C  h hQ)
  · refine x_iload_n C (dq DX4_isKeyword 3 rfl) rfl 0 rfl ?_
    refine x_pc 7 rfl ?_
    refine x_ldc (v := 214424576) C (dq DX4_isKeyword 4 rfl) (gmem 321 (by decide +kernel) rfl) ?_
    refine x_icmp_eq (tgt := 36) C (dq DX4_isKeyword 5 rfl) (by decide) h (fun h => ?_) (fun h => ?_)
    · exact x_lv [] rfl (tX4_isKeyword_36 C  h hQ)
    · refine x_iload_n C (dq DX4_isKeyword 6 rfl) rfl 0 rfl ?_
      refine x_ldc (v := 639025541) C (dq DX4_isKeyword 7 rfl) (gmem 322 (by decide +kernel) rfl) ?_
      refine x_icmp_eq (tgt := 36) C (dq DX4_isKeyword 8 rfl) (by decide) h (fun h => ?_) (fun h => ?_)
      · exact x_lv [] rfl (tX4_isKeyword_36 C  h hQ)
      · refine x_pc 18 rfl ?_
        refine x_iload_n C (dq DX4_isKeyword 9 rfl) rfl 0 rfl ?_
        refine x_ldc (v := 658545824) C (dq DX4_isKeyword 10 rfl) (gmem 323 (by decide +kernel) rfl) ?_
        refine x_icmp_eq (tgt := 36) C (dq DX4_isKeyword 11 rfl) (by decide) h (fun h => ?_) (fun h => ?_)
        · exact x_lv [] rfl (tX4_isKeyword_36 C  h hQ)
        · refine x_iload_n C (dq DX4_isKeyword 12 rfl) rfl 0 rfl ?_
          refine x_ldc (v := 509804544) C (dq DX4_isKeyword 13 rfl) (gmem 324 (by decide +kernel) rfl) ?_
          refine x_pc 27 rfl ?_
          refine x_icmp_eq (tgt := 36) C (dq DX4_isKeyword 14 rfl) (by decide) h (fun h => ?_) (fun h => ?_)
          · exact x_lv [] rfl (tX4_isKeyword_36 C  h hQ)
          · refine x_iload_n C (dq DX4_isKeyword 15 rfl) rfl 0 rfl ?_
            refine x_ldc (v := 642945024) C (dq DX4_isKeyword 16 rfl) (gmem 325 (by decide +kernel) rfl) ?_
            refine x_icmp_ne (tgt := 40) C (dq DX4_isKeyword 17 rfl) (by decide) h (fun h => ?_) (fun h => ?_)
            · refine x_iconst (v := 0) C (dq DX4_isKeyword 20 rfl) (by decide) ?_
              exact x_lv [] rfl (tX4_isKeyword_41 C  h hQ)
            · exact x_lv [] rfl (tX4_isKeyword_36 C  h hQ)
theorem callX4_44 {G : Gt} {l : Launch} {E : Ev} {S : List Sh} {cc : ByteArray} {nL : Nat} {rt : Option FieldType} {fr lo : Nat} {pc : Nat} {lv : List (Nat × Value)} {rest : List Value} {mm : Mm} {α : Type} {f : Int32 → Option α} {r : α} {a0 : Int32} (C : Cx G E cc nL RX4 rt fr lo) (d : decode cc pc = .ok (.invokestatic 44, 3)) (h : bd1 (fX4_isLetter S mm a0) f = some r) (hfr : 1 ≤ fr) (hlo : 20 ≤ lo) (hrs : (rest.map fun v => v.category).sum ≤ 8) (k : ∀ v, f v = some r → WM G l E S (pc + 3) lv (.int v :: rest) mm) : WM G l E S pc lv (.int a0 :: rest) mm := by
  obtain ⟨v, hv, hf⟩ := bd1_some h
  exact x_callS (n := 1) (As := [.int a0]) (rest := rest) C (mX4_isLetter hv) (gmem 310 (by decide +kernel) rfl) (gmem 311 (by decide +kernel) rfl) (gmem 2 (by decide +kernel) rfl) (gmem 312 (by decide +kernel) rfl) (by decide +kernel) rfl hfr hlo hrs d rfl rfl (k v hf)
theorem callX4_56 {G : Gt} {l : Launch} {E : Ev} {S : List Sh} {cc : ByteArray} {nL : Nat} {rt : Option FieldType} {fr lo : Nat} {pc : Nat} {lv : List (Nat × Value)} {rest : List Value} {mm : Mm} {α : Type} {f : Int32 → Option α} {r : α} {a0 : Int32} (C : Cx G E cc nL RX4 rt fr lo) (d : decode cc pc = .ok (.invokestatic 56, 3)) (h : bd1 (fX4_isKeyword S mm a0) f = some r) (hfr : 1 ≤ fr) (hlo : 20 ≤ lo) (hrs : (rest.map fun v => v.category).sum ≤ 8) (k : ∀ v, f v = some r → WM G l E S (pc + 3) lv (.int v :: rest) mm) : WM G l E S pc lv (.int a0 :: rest) mm := by
  obtain ⟨v, hv, hf⟩ := bd1_some h
  exact x_callS (n := 1) (As := [.int a0]) (rest := rest) C (mX4_isKeyword hv) (gmem 317 (by decide +kernel) rfl) (gmem 318 (by decide +kernel) rfl) (gmem 2 (by decide +kernel) rfl) (gmem 319 (by decide +kernel) rfl) (by decide +kernel) rfl hfr hlo hrs d rfl rfl (k v hf)
abbrev eX4_scanWord : List (Nat × Instr × Nat) := [(0, .iconst 0, 1), (1, .istore_n 1, 1), (2, .aload_n 0, 1), (3, .getfield 22, 3), (6, .aload_n 0, 1), (7, .getfield 19, 3), (10, .if_icmp .ge 65, 3), (13, .aload_n 0, 1), (14, .getfield 9, 3), (17, .aload_n 0, 1), (18, .getfield 22, 3), (21, .baload, 1), (22, .invokestatic 44, 3), (25, .ifCond .eq 50, 3), (28, .iload_n 1, 1), (29, .bipush 6, 2), (31, .if_icmp .ge 28, 3), (34, .aload_n 0, 1), (35, .aload_n 0, 1), (36, .getfield 31, 3), (39, .iconst 5, 1), (40, .ishl, 1), (41, .aload_n 0, 1), (42, .getfield 9, 3), (45, .aload_n 0, 1), (46, .getfield 22, 3), (49, .baload, 1), (50, .bipush 97, 2), (52, .isub, 1), (53, .iconst 1, 1), (54, .iadd, 1), (55, .ior, 1), (56, .putfield 31, 3), (59, .iinc 1 1, 3), (62, .aload_n 0, 1), (63, .dup, 1), (64, .getfield 22, 3), (67, .iconst 1, 1), (68, .iadd, 1), (69, .putfield 22, 3), (72, .goto (-70), 3), (75, .iload_n 1, 1), (76, .bipush 6, 2), (78, .if_icmp .le 9, 3), (81, .aload_n 0, 1), (82, .iconst 5, 1), (83, .putfield 25, 3), (86, .return_, 1), (87, .aload_n 0, 1), (88, .aload_n 0, 1), (89, .getfield 31, 3), (92, .iconst 5, 1), (93, .bipush 6, 2), (95, .iload_n 1, 1), (96, .isub, 1), (97, .imul, 1), (98, .ishl, 1), (99, .putfield 31, 3), (102, .aload_n 0, 1), (103, .aload_n 0, 1), (104, .getfield 31, 3), (107, .invokestatic 56, 3), (110, .ifCond .eq 7, 3), (113, .iconst 2, 1), (114, .goto 4, 3), (117, .iconst 1, 1), (118, .putfield 25, 3), (121, .return_, 1)]
theorem DX4_scanWord : (eX4_scanWord.all fun q => decide (decode cX4_scanWord q.1 = .ok q.2)) = true := by decide +kernel
def jX4_scanWord_59 (S : List Sh) (mm : Mm) (x0 : Nat) (x1 : Int32)  : Option ((Int32 × Mm) ⊕ (Int32 × Mm)) := bd1 (some (u1 mm x0 3 ((mm.1 x0 3) + 1))) fun m3 => some (.inl (x1 + 1, m3))
def bX4_scanWord_2 (S : List Sh) (x0 : Nat) (x1 : Int32) (mm : Mm) : Option ((Int32 × Mm) ⊕ (Int32 × Mm)) := if (mm.1 x0 2) ≤ (mm.1 x0 3) then (some (.inr (x1, mm))) else (bd1 (ldA S 1 mm (rf S mm x0 0) (mm.1 x0 3)) fun a1 => bd1 (fX4_isLetter S mm a1) fun a2 => if a2 = 0 then (some (.inr (x1, mm))) else (if 6 ≤ x1 then (jX4_scanWord_59 S mm x0 x1) else (bd1 (ldA S 1 mm (rf S mm x0 0) (mm.1 x0 3)) fun a4 => bd1 (some (u1 mm x0 6 (((mm.1 x0 6) <<< (5 &&& 31)) ||| ((a4 - 97) + 1)))) fun m5 => jX4_scanWord_59 S m5 x0 x1)))
def jX4_scanWord_118 (S : List Sh) (mm : Mm) (x0 : Nat) (p0 : Nat) (p1 : Int32) : Option (Mm) := gd S p0 4 (bd1 (some (u1 mm p0 4 p1)) fun m11 => some m11)
def jX4_scanWord_75 (S : List Sh) (mm : Mm) (x0 : Nat) (x1 : Int32)  : Option (Mm) := if x1 ≤ 6 then (bd1 (some (u1 mm x0 6 ((mm.1 x0 6) <<< ((5 * (6 - x1)) &&& 31)))) fun m8 => bd1 (fX4_isKeyword S m8 (m8.1 x0 6)) fun a9 => if a9 = 0 then (jX4_scanWord_118 S m8 x0 x0 1) else (jX4_scanWord_118 S m8 x0 x0 2)) else (bd1 (some (u1 mm x0 4 5)) fun m12 => some m12)
def fX4_scanWord (S : List Sh) (mm : Mm) (x0 : Nat) : Option (Mm) := gd S x0 4 (bd1 (lp (fun s6 => bX4_scanWord_2 S x0 s6.1 s6.2) fu (0, mm)) fun y7 => jX4_scanWord_75 S y7.2 x0 y7.1)
set_option maxHeartbeats 1000000 in
theorem tX4_scanWord_59 {G : Gt} {l : Launch} {E : Ev} {S : List Sh} {mm : Mm} {x0 : Nat} {x1 : Int32}  {r : (Int32 × Mm) ⊕ (Int32 × Mm)} (C : Cx G E cX4_scanWord 2 RX4 none 1 20) (g0 : isC S x0 4) (h : jX4_scanWord_59 S mm x0 x1 = some r) (kb : ∀ z : Int32 × Mm, r = .inl z → WM G l E S 2 [(0, .ref (E.2.2 x0)), (1, .int z.1)] [] z.2) (kx : ∀ z : Int32 × Mm, r = .inr z → WM G l E S 75 [(0, .ref (E.2.2 x0)), (1, .int z.1)] [] z.2) : WM G l E S 59 [(0, .ref (E.2.2 x0)), (1, .int x1)] [] mm := by
  unfold jX4_scanWord_59 at h
  refine x_iinc (v := x1 + 1) (lv' := [(1, .int (x1 + 1)), (0, .ref (E.2.2 x0))]) C (dq DX4_scanWord 33 rfl) 1 rfl rfl (by decide) rfl ?_
  refine x_aload_n C (dq DX4_scanWord 34 rfl) rfl 1 rfl ?_
  refine x_dup C (dq DX4_scanWord 35 rfl) rfl ?_
  refine getX4_22 C (dq DX4_scanWord 36 rfl) g0 ?_
  refine x_pc 67 rfl ?_
  refine x_iconst (v := 1) C (dq DX4_scanWord 37 rfl) (by decide) ?_
  refine x_iadd C (dq DX4_scanWord 38 rfl) ?_
  refine putX4_22 C (dq DX4_scanWord 39 rfl) g0 h (fun m3 h => ?_)
  refine x_goto (tgt := 2) C (dq DX4_scanWord 40 rfl) (by decide) ?_
  cases h
  exact x_lv [1, 0] rfl (kb (x1 + 1, m3) rfl)
set_option maxHeartbeats 1000000 in
theorem tX4_scanWord_2 {G : Gt} {l : Launch} {E : Ev} {S : List Sh} {x0 : Nat} {x1 : Int32} {mm : Mm} {r : (Int32 × Mm) ⊕ (Int32 × Mm)} (C : Cx G E cX4_scanWord 2 RX4 none 1 20) (g0 : isC S x0 4) (h : bX4_scanWord_2 S x0 x1 mm = some r) (kb : ∀ z : Int32 × Mm, r = .inl z → WM G l E S 2 [(0, .ref (E.2.2 x0)), (1, .int z.1)] [] z.2) (kx : ∀ z : Int32 × Mm, r = .inr z → WM G l E S 75 [(0, .ref (E.2.2 x0)), (1, .int z.1)] [] z.2) : WM G l E S 2 [(0, .ref (E.2.2 x0)), (1, .int x1)] [] mm := by
  unfold bX4_scanWord_2 at h
  refine x_aload_n C (dq DX4_scanWord 2 rfl) rfl 0 rfl ?_
  refine getX4_22 C (dq DX4_scanWord 3 rfl) g0 ?_
  refine x_aload_n C (dq DX4_scanWord 4 rfl) rfl 0 rfl ?_
  refine getX4_19 C (dq DX4_scanWord 5 rfl) g0 ?_
  refine x_pc 10 rfl ?_
  refine x_icmp_ge (tgt := 75) C (dq DX4_scanWord 6 rfl) (by decide) h (fun h => ?_) (fun h => ?_)
  · cases h
    exact x_lv [0, 1] rfl (kx (x1, mm) rfl)
  · refine x_aload_n C (dq DX4_scanWord 7 rfl) rfl 0 rfl ?_
    refine getX4_9 C (dq DX4_scanWord 8 rfl) g0 ?_
    refine x_aload_n C (dq DX4_scanWord 9 rfl) rfl 0 rfl ?_
    refine getX4_22 C (dq DX4_scanWord 10 rfl) g0 ?_
    refine x_pc 21 rfl ?_
    refine x_bald C (dq DX4_scanWord 11 rfl) h (fun a1 h => ?_)
    refine callX4_44 C (dq DX4_scanWord 12 rfl) h (by decide) (by decide) (Nat.le_of_ble_eq_true rfl) (fun a2 h => ?_)
    refine x_if_eq (tgt := 75) C (dq DX4_scanWord 13 rfl) (by decide) h (fun h => ?_) (fun h => ?_)
    · cases h
      exact x_lv [0, 1] rfl (kx (x1, mm) rfl)
    · refine x_iload_n C (dq DX4_scanWord 14 rfl) rfl 1 rfl ?_
      refine x_bipush (v := 6) C (dq DX4_scanWord 15 rfl) (by decide) ?_
      refine x_pc 31 rfl ?_
      refine x_icmp_ge (tgt := 59) C (dq DX4_scanWord 16 rfl) (by decide) h (fun h => ?_) (fun h => ?_)
      · exact x_lv [0, 1] rfl (tX4_scanWord_59 C g0 h kb kx)
      · refine x_aload_n C (dq DX4_scanWord 17 rfl) rfl 0 rfl ?_
        refine x_aload_n C (dq DX4_scanWord 18 rfl) rfl 0 rfl ?_
        refine getX4_31 C (dq DX4_scanWord 19 rfl) g0 ?_
        refine x_iconst (v := 5) C (dq DX4_scanWord 20 rfl) (by decide) ?_
        refine x_pc 40 rfl ?_
        refine x_ishl C (dq DX4_scanWord 21 rfl) ?_
        refine x_aload_n C (dq DX4_scanWord 22 rfl) rfl 0 rfl ?_
        refine getX4_9 C (dq DX4_scanWord 23 rfl) g0 ?_
        refine x_aload_n C (dq DX4_scanWord 24 rfl) rfl 0 rfl ?_
        refine getX4_22 C (dq DX4_scanWord 25 rfl) g0 ?_
        refine x_pc 49 rfl ?_
        refine x_bald C (dq DX4_scanWord 26 rfl) h (fun a4 h => ?_)
        refine x_bipush (v := 97) C (dq DX4_scanWord 27 rfl) (by decide) ?_
        refine x_isub C (dq DX4_scanWord 28 rfl) ?_
        refine x_iconst (v := 1) C (dq DX4_scanWord 29 rfl) (by decide) ?_
        refine x_iadd C (dq DX4_scanWord 30 rfl) ?_
        refine x_pc 55 rfl ?_
        refine x_ior C (dq DX4_scanWord 31 rfl) ?_
        refine putX4_31 C (dq DX4_scanWord 32 rfl) g0 h (fun m5 h => ?_)
        exact x_lv [0, 1] rfl (tX4_scanWord_59 C g0 h kb kx)
set_option maxHeartbeats 1000000 in
theorem tX4_scanWord_118 {G : Gt} {l : Launch} {E : Ev} {S : List Sh} {mm : Mm} {x0 : Nat} {p0 : Nat} {p1 : Int32} {r : Mm} (C : Cx G E cX4_scanWord 2 RX4 none 1 20) (g0 : isC S x0 4) (h : jX4_scanWord_118 S mm x0 p0 p1 = some r) (hQ : RQ G E S none r) : WM G l E S 118 [(0, .ref (E.2.2 x0))] [.int p1, .ref (E.2.2 p0)] mm := by
  unfold jX4_scanWord_118 at h
  obtain ⟨g10, h⟩ := gd_some h
  refine putX4_25 C (dq DX4_scanWord 66 rfl) g10 h (fun m11 h => ?_)
  cases h
  exact x_vret C (dq DX4_scanWord 67 rfl) hQ
set_option maxHeartbeats 1000000 in
theorem tX4_scanWord_75 {G : Gt} {l : Launch} {E : Ev} {S : List Sh} {mm : Mm} {x0 : Nat} {x1 : Int32}  {r : Mm} (C : Cx G E cX4_scanWord 2 RX4 none 1 20) (g0 : isC S x0 4) (h : jX4_scanWord_75 S mm x0 x1 = some r) (hQ : RQ G E S none r) : WM G l E S 75 [(0, .ref (E.2.2 x0)), (1, .int x1)] [] mm := by
  unfold jX4_scanWord_75 at h
  refine x_iload_n C (dq DX4_scanWord 41 rfl) rfl 1 rfl ?_
  refine x_bipush (v := 6) C (dq DX4_scanWord 42 rfl) (by decide) ?_
  refine x_icmp_le (tgt := 87) C (dq DX4_scanWord 43 rfl) (by decide) h (fun h => ?_) (fun h => ?_)
  · refine x_aload_n C (dq DX4_scanWord 48 rfl) rfl 0 rfl ?_
    refine x_pc 88 rfl ?_
    refine x_aload_n C (dq DX4_scanWord 49 rfl) rfl 0 rfl ?_
    refine getX4_31 C (dq DX4_scanWord 50 rfl) g0 ?_
    refine x_iconst (v := 5) C (dq DX4_scanWord 51 rfl) (by decide) ?_
    refine x_bipush (v := 6) C (dq DX4_scanWord 52 rfl) (by decide) ?_
    refine x_iload_n C (dq DX4_scanWord 53 rfl) rfl 1 rfl ?_
    refine x_pc 96 rfl ?_
    refine x_isub C (dq DX4_scanWord 54 rfl) ?_
    refine x_imul C (dq DX4_scanWord 55 rfl) ?_
    refine x_ishl C (dq DX4_scanWord 56 rfl) ?_
    refine putX4_31 C (dq DX4_scanWord 57 rfl) g0 h (fun m8 h => ?_)
    refine x_aload_n C (dq DX4_scanWord 58 rfl) rfl 0 rfl ?_
    refine x_pc 103 rfl ?_
    refine x_aload_n C (dq DX4_scanWord 59 rfl) rfl 0 rfl ?_
    refine getX4_31 C (dq DX4_scanWord 60 rfl) g0 ?_
    refine callX4_56 C (dq DX4_scanWord 61 rfl) h (by decide) (by decide) (Nat.le_of_ble_eq_true rfl) (fun a9 h => ?_)
    refine x_if_eq (tgt := 117) C (dq DX4_scanWord 62 rfl) (by decide) h (fun h => ?_) (fun h => ?_)
    · refine x_iconst (v := 1) C (dq DX4_scanWord 65 rfl) (by decide) ?_
      exact x_lv [0] rfl (tX4_scanWord_118 C g0 h hQ)
    · refine x_iconst (v := 2) C (dq DX4_scanWord 63 rfl) (by decide) ?_
      refine x_pc 114 rfl ?_
      refine x_goto (tgt := 118) C (dq DX4_scanWord 64 rfl) (by decide) ?_
      exact x_lv [0] rfl (tX4_scanWord_118 C g0 h hQ)
  · refine x_aload_n C (dq DX4_scanWord 44 rfl) rfl 0 rfl ?_
    refine x_pc 82 rfl ?_
    refine x_iconst (v := 5) C (dq DX4_scanWord 45 rfl) (by decide) ?_
    refine putX4_25 C (dq DX4_scanWord 46 rfl) g0 h (fun m12 h => ?_)
    cases h
    exact x_vret C (dq DX4_scanWord 47 rfl) hQ
set_option maxHeartbeats 1000000 in
theorem mX4_scanWord {l : Launch} {E : Ev} {S : List Sh} {mm : Mm} {x0 : Nat} {r : Mm} (h : fX4_scanWord S mm x0 = some r) : Ml l E S yX4_scanWord cX4_scanWord 2 none 1 20 [.ref (E.2.2 x0)] mm none r := by
  refine Ml.of (by decide +kernel) (Nat.le_of_ble_eq_true rfl) (fun G C hQ => ?_)
  have C : Cx G E cX4_scanWord 2 RX4 none 1 20 := C
  unfold fX4_scanWord at h
  obtain ⟨g0, h⟩ := gd_some h
  show WM G l E S 0 [(0, .ref (E.2.2 x0))] [] mm
  refine x_iconst (v := 0) C (dq DX4_scanWord 0 rfl) (by decide) ?_
  refine x_istore_n (lv' := [(1, .int 0), (0, .ref (E.2.2 x0))]) C (dq DX4_scanWord 1 rfl) rfl (by decide) rfl ?_
  refine x_lv [1, 0] rfl ?_
  refine x_loop (s0 := (0, mm)) (fun s6 => WM G l E S 2 [(0, .ref (E.2.2 x0)), (1, .int s6.1)] [] s6.2) h (fun s6 r hb kb kx => tX4_scanWord_2 C g0 hb kb (fun y7 hy => ?_))
  have h := kx y7 hy
  clear kx kb hb hy
  exact x_lv [0, 1] rfl (tX4_scanWord_75 C g0 h hQ)
set_option maxHeartbeats 1000000 in
theorem qX4_scanWord {S : List Sh} {mm : Mm} {x0 : Nat} {r : Mm} (h : fX4_scanWord S mm x0 = some r) : isC S x0 4 := by
  unfold fX4_scanWord at h
  exact (gd_some h).1
theorem putX4_28 {G : Gt} {l : Launch} {E : Ev} {S : List Sh} {cc : ByteArray} {nL : Nat} {rt : Option FieldType} {fr lo : Nat} {pc : Nat} {lv : List (Nat × Value)} {st : List Value} {mm : Mm} {o : Nat} {α : Type} {f : Mm → Option α} {r : α} {x : Int32} (C : Cx G E cc nL RX4 rt fr lo) (d : decode cc pc = .ok (.putfield 28, 3)) (hg : isC S o 4) (h : bd1 (some (u1 mm o 5 x)) f = some r) (k : ∀ m1, f m1 = some r → WM G l E S (pc + 3) lv st m1) : WM G l E S pc lv (.int x :: .ref (E.2.2 o) :: st) mm := x_putI C hg (T := TX4) (N := 7) rfl inX4 (by decide) (i := 5) (gmem 43 (by decide +kernel) rfl) rfl tyX4 tyX4_ok nmX4 rfl rfl (by decide) (by decide +kernel) d (k _ h)
theorem callX4_40 {G : Gt} {l : Launch} {E : Ev} {S : List Sh} {cc : ByteArray} {nL : Nat} {rt : Option FieldType} {fr lo : Nat} {pc : Nat} {lv : List (Nat × Value)} {rest : List Value} {mm : Mm} {α : Type} {f : Int32 → Option α} {r : α} {a0 : Int32} (C : Cx G E cc nL RX4 rt fr lo) (d : decode cc pc = .ok (.invokestatic 40, 3)) (h : bd1 (fX4_isBlank S mm a0) f = some r) (hfr : 1 ≤ fr) (hlo : 20 ≤ lo) (hrs : (rest.map fun v => v.category).sum ≤ 8) (k : ∀ v, f v = some r → WM G l E S (pc + 3) lv (.int v :: rest) mm) : WM G l E S pc lv (.int a0 :: rest) mm := by
  obtain ⟨v, hv, hf⟩ := bd1_some h
  exact x_callS (n := 1) (As := [.int a0]) (rest := rest) C (mX4_isBlank hv) (gmem 307 (by decide +kernel) rfl) (gmem 308 (by decide +kernel) rfl) (gmem 2 (by decide +kernel) rfl) (gmem 309 (by decide +kernel) rfl) (by decide +kernel) rfl hfr hlo hrs d rfl rfl (k v hf)
theorem callX4_47 {G : Gt} {l : Launch} {E : Ev} {S : List Sh} {cc : ByteArray} {nL : Nat} {rt : Option FieldType} {fr lo : Nat} {pc : Nat} {lv : List (Nat × Value)} {rest : List Value} {mm : Mm} {α : Type} {f : Mm → Option α} {r : α} {o : Nat} (C : Cx G E cc nL RX4 rt fr lo) (d : decode cc pc = .ok (.invokevirtual 47, 3)) (h : bd1 (fX4_scanWord S mm o) f = some r) (hfr : 2 ≤ fr) (hlo : 41 ≤ lo) (hrs : (rest.map fun v => v.category).sum ≤ 8) (k : ∀ m1, f m1 = some r → WM G l E S (pc + 3) lv rest m1) : WM G l E S pc lv (.ref (E.2.2 o) :: rest) mm := by
  obtain ⟨m1, hv, hf⟩ := bd1_some h
  exact x_callV (n := 0) (As := []) (rest := rest) C (mX4_scanWord hv) (qX4_scanWord hv) (T := TX4) (N := 7) rfl (gmem 313 (by decide +kernel) rfl) (gmem 315 (by decide +kernel) rfl) (gmemS 0 (by decide +kernel) rfl) (gmem 2 (by decide +kernel) rfl) (gmem 316 (by decide +kernel) rfl) (by decide +kernel) rfl hfr hlo hrs d rfl rfl (k m1 hf)
theorem callX4_53 {G : Gt} {l : Launch} {E : Ev} {S : List Sh} {cc : ByteArray} {nL : Nat} {rt : Option FieldType} {fr lo : Nat} {pc : Nat} {lv : List (Nat × Value)} {rest : List Value} {mm : Mm} {α : Type} {f : Mm → Option α} {r : α} {o : Nat} (C : Cx G E cc nL RX4 rt fr lo) (d : decode cc pc = .ok (.invokevirtual 53, 3)) (h : bd1 (fX4_scanNumber S mm o) f = some r) (hfr : 2 ≤ fr) (hlo : 49 ≤ lo) (hrs : (rest.map fun v => v.category).sum ≤ 8) (k : ∀ m1, f m1 = some r → WM G l E S (pc + 3) lv rest m1) : WM G l E S pc lv (.ref (E.2.2 o) :: rest) mm := by
  obtain ⟨m1, hv, hf⟩ := bd1_some h
  exact x_callV (n := 0) (As := []) (rest := rest) C (mX4_scanNumber hv) (qX4_scanNumber hv) (T := TX4) (N := 7) rfl (gmem 329 (by decide +kernel) rfl) (gmem 331 (by decide +kernel) rfl) (gmemS 1 (by decide +kernel) rfl) (gmem 2 (by decide +kernel) rfl) (gmem 332 (by decide +kernel) rfl) (by decide +kernel) rfl hfr hlo hrs d rfl rfl (k m1 hf)
abbrev eX4_next : List (Nat × Instr × Nat) := [(0, .aload_n 0, 1), (1, .getfield 22, 3), (4, .aload_n 0, 1), (5, .getfield 19, 3), (8, .if_icmp .ge 31, 3), (11, .aload_n 0, 1), (12, .getfield 9, 3), (15, .aload_n 0, 1), (16, .getfield 22, 3), (19, .baload, 1), (20, .invokestatic 40, 3), (23, .ifCond .eq 16, 3), (26, .aload_n 0, 1), (27, .dup, 1), (28, .getfield 22, 3), (31, .iconst 1, 1), (32, .iadd, 1), (33, .putfield 22, 3), (36, .goto (-36), 3), (39, .aload_n 0, 1), (40, .aload_n 0, 1), (41, .getfield 22, 3), (44, .putfield 28, 3), (47, .aload_n 0, 1), (48, .iconst 0, 1), (49, .putfield 31, 3), (52, .aload_n 0, 1), (53, .getfield 22, 3), (56, .aload_n 0, 1), (57, .getfield 19, 3), (60, .if_icmp .lt 11, 3), (63, .aload_n 0, 1), (64, .iconst 0, 1), (65, .putfield 25, 3), (68, .goto 80, 3), (71, .aload_n 0, 1), (72, .getfield 9, 3), (75, .aload_n 0, 1), (76, .getfield 22, 3), (79, .baload, 1), (80, .invokestatic 44, 3), (83, .ifCond .eq 10, 3), (86, .aload_n 0, 1), (87, .invokevirtual 47, 3), (90, .goto 58, 3), (93, .aload_n 0, 1), (94, .getfield 9, 3), (97, .aload_n 0, 1), (98, .getfield 22, 3), (101, .baload, 1), (102, .invokestatic 50, 3), (105, .ifCond .eq 10, 3), (108, .aload_n 0, 1), (109, .invokevirtual 53, 3), (112, .goto 36, 3), (115, .aload_n 0, 1), (116, .aload_n 0, 1), (117, .getfield 9, 3), (120, .aload_n 0, 1), (121, .getfield 22, 3), (124, .baload, 1), (125, .bipush 59, 2), (127, .if_icmp .ne 7, 3), (130, .iconst 4, 1), (131, .goto 4, 3), (134, .iconst 5, 1), (135, .putfield 25, 3), (138, .aload_n 0, 1), (139, .dup, 1), (140, .getfield 22, 3), (143, .iconst 1, 1), (144, .iadd, 1), (145, .putfield 22, 3), (148, .return_, 1)]
theorem DX4_next : (eX4_next.all fun q => decide (decode cX4_next q.1 = .ok q.2)) = true := by decide +kernel
def bX4_next_0 (S : List Sh) (x0 : Nat)  (mm : Mm) : Option ((Mm) ⊕ (Mm)) := if (mm.1 x0 2) ≤ (mm.1 x0 3) then (some (.inr (mm))) else (bd1 (ldA S 1 mm (rf S mm x0 0) (mm.1 x0 3)) fun a1 => bd1 (fX4_isBlank S mm a1) fun a2 => if a2 = 0 then (some (.inr (mm))) else (bd1 (some (u1 mm x0 3 ((mm.1 x0 3) + 1))) fun m3 => some (.inl (m3))))
def jX4_next_148 (S : List Sh) (mm : Mm) (x0 : Nat)  : Option (Mm) := some mm
def jX4_next_135 (S : List Sh) (mm : Mm) (x0 : Nat) (p0 : Nat) (p1 : Int32) : Option (Mm) := gd S p0 4 (bd1 (some (u1 mm p0 4 p1)) fun m14 => bd1 (some (u1 m14 x0 3 ((m14.1 x0 3) + 1))) fun m15 => jX4_next_148 S m15 x0)
def jX4_next_39 (S : List Sh) (mm : Mm) (x0 : Nat)  : Option (Mm) := bd1 (some (u1 mm x0 5 (mm.1 x0 3))) fun m6 => bd1 (some (u1 m6 x0 6 0)) fun m7 => if (m7.1 x0 3) < (m7.1 x0 2) then (bd1 (ldA S 1 m7 (rf S m7 x0 0) (m7.1 x0 3)) fun a8 => bd1 (fX4_isLetter S m7 a8) fun a9 => if a9 = 0 then (bd1 (ldA S 1 m7 (rf S m7 x0 0) (m7.1 x0 3)) fun a10 => bd1 (fX4_isDigit S m7 a10) fun a11 => if a11 = 0 then (bd1 (ldA S 1 m7 (rf S m7 x0 0) (m7.1 x0 3)) fun a12 => if ¬ a12 = 59 then (jX4_next_135 S m7 x0 x0 5) else (jX4_next_135 S m7 x0 x0 4)) else (bd1 (fX4_scanNumber S m7 x0) fun m16 => jX4_next_148 S m16 x0)) else (bd1 (fX4_scanWord S m7 x0) fun m17 => jX4_next_148 S m17 x0)) else (bd1 (some (u1 m7 x0 4 0)) fun m18 => jX4_next_148 S m18 x0)
def fX4_next (S : List Sh) (mm : Mm) (x0 : Nat) : Option (Mm) := gd S x0 4 (bd1 (lp (fun s4 => bX4_next_0 S x0 s4) fu mm) fun y5 => jX4_next_39 S y5 x0)
set_option maxHeartbeats 1000000 in
theorem tX4_next_0 {G : Gt} {l : Launch} {E : Ev} {S : List Sh} {x0 : Nat}  {mm : Mm} {r : (Mm) ⊕ (Mm)} (C : Cx G E cX4_next 1 RX4 none 2 49) (g0 : isC S x0 4) (h : bX4_next_0 S x0 mm = some r) (kb : ∀ z : Mm, r = .inl z → WM G l E S 0 [(0, .ref (E.2.2 x0))] [] z) (kx : ∀ z : Mm, r = .inr z → WM G l E S 39 [(0, .ref (E.2.2 x0))] [] z) : WM G l E S 0 [(0, .ref (E.2.2 x0))] [] mm := by
  unfold bX4_next_0 at h
  refine x_aload_n C (dq DX4_next 0 rfl) rfl 0 rfl ?_
  refine getX4_22 C (dq DX4_next 1 rfl) g0 ?_
  refine x_aload_n C (dq DX4_next 2 rfl) rfl 0 rfl ?_
  refine getX4_19 C (dq DX4_next 3 rfl) g0 ?_
  refine x_pc 8 rfl ?_
  refine x_icmp_ge (tgt := 39) C (dq DX4_next 4 rfl) (by decide) h (fun h => ?_) (fun h => ?_)
  · cases h
    exact x_lv [0] rfl (kx (mm) rfl)
  · refine x_aload_n C (dq DX4_next 5 rfl) rfl 0 rfl ?_
    refine getX4_9 C (dq DX4_next 6 rfl) g0 ?_
    refine x_aload_n C (dq DX4_next 7 rfl) rfl 0 rfl ?_
    refine getX4_22 C (dq DX4_next 8 rfl) g0 ?_
    refine x_pc 19 rfl ?_
    refine x_bald C (dq DX4_next 9 rfl) h (fun a1 h => ?_)
    refine callX4_40 C (dq DX4_next 10 rfl) h (by decide) (by decide) (Nat.le_of_ble_eq_true rfl) (fun a2 h => ?_)
    refine x_if_eq (tgt := 39) C (dq DX4_next 11 rfl) (by decide) h (fun h => ?_) (fun h => ?_)
    · cases h
      exact x_lv [0] rfl (kx (mm) rfl)
    · refine x_aload_n C (dq DX4_next 12 rfl) rfl 0 rfl ?_
      refine x_dup C (dq DX4_next 13 rfl) rfl ?_
      refine x_pc 28 rfl ?_
      refine getX4_22 C (dq DX4_next 14 rfl) g0 ?_
      refine x_iconst (v := 1) C (dq DX4_next 15 rfl) (by decide) ?_
      refine x_iadd C (dq DX4_next 16 rfl) ?_
      refine putX4_22 C (dq DX4_next 17 rfl) g0 h (fun m3 h => ?_)
      refine x_goto (tgt := 0) C (dq DX4_next 18 rfl) (by decide) ?_
      cases h
      exact x_lv [0] rfl (kb (m3) rfl)
set_option maxHeartbeats 1000000 in
theorem tX4_next_148 {G : Gt} {l : Launch} {E : Ev} {S : List Sh} {mm : Mm} {x0 : Nat}  {r : Mm} (C : Cx G E cX4_next 1 RX4 none 2 49) (g0 : isC S x0 4) (h : jX4_next_148 S mm x0 = some r) (hQ : RQ G E S none r) : WM G l E S 148 [(0, .ref (E.2.2 x0))] [] mm := by
  unfold jX4_next_148 at h
  cases h
  exact x_vret C (dq DX4_next 73 rfl) hQ
set_option maxHeartbeats 1000000 in
theorem tX4_next_135 {G : Gt} {l : Launch} {E : Ev} {S : List Sh} {mm : Mm} {x0 : Nat} {p0 : Nat} {p1 : Int32} {r : Mm} (C : Cx G E cX4_next 1 RX4 none 2 49) (g0 : isC S x0 4) (h : jX4_next_135 S mm x0 p0 p1 = some r) (hQ : RQ G E S none r) : WM G l E S 135 [(0, .ref (E.2.2 x0))] [.int p1, .ref (E.2.2 p0)] mm := by
  unfold jX4_next_135 at h
  obtain ⟨g13, h⟩ := gd_some h
  refine putX4_25 C (dq DX4_next 66 rfl) g13 h (fun m14 h => ?_)
  refine x_aload_n C (dq DX4_next 67 rfl) rfl 0 rfl ?_
  refine x_dup C (dq DX4_next 68 rfl) rfl ?_
  refine getX4_22 C (dq DX4_next 69 rfl) g0 ?_
  refine x_pc 143 rfl ?_
  refine x_iconst (v := 1) C (dq DX4_next 70 rfl) (by decide) ?_
  refine x_iadd C (dq DX4_next 71 rfl) ?_
  refine putX4_22 C (dq DX4_next 72 rfl) g0 h (fun m15 h => ?_)
  exact x_lv [0] rfl (tX4_next_148 C g0 h hQ)
set_option maxHeartbeats 1000000 in
theorem tX4_next_39 {G : Gt} {l : Launch} {E : Ev} {S : List Sh} {mm : Mm} {x0 : Nat}  {r : Mm} (C : Cx G E cX4_next 1 RX4 none 2 49) (g0 : isC S x0 4) (h : jX4_next_39 S mm x0 = some r) (hQ : RQ G E S none r) : WM G l E S 39 [(0, .ref (E.2.2 x0))] [] mm := by
  unfold jX4_next_39 at h
  refine x_aload_n C (dq DX4_next 19 rfl) rfl 0 rfl ?_
  refine x_aload_n C (dq DX4_next 20 rfl) rfl 0 rfl ?_
  refine getX4_22 C (dq DX4_next 21 rfl) g0 ?_
  refine putX4_28 C (dq DX4_next 22 rfl) g0 h (fun m6 h => ?_)
  refine x_pc 47 rfl ?_
  refine x_aload_n C (dq DX4_next 23 rfl) rfl 0 rfl ?_
  refine x_iconst (v := 0) C (dq DX4_next 24 rfl) (by decide) ?_
  refine putX4_31 C (dq DX4_next 25 rfl) g0 h (fun m7 h => ?_)
  refine x_aload_n C (dq DX4_next 26 rfl) rfl 0 rfl ?_
  refine getX4_22 C (dq DX4_next 27 rfl) g0 ?_
  refine x_pc 56 rfl ?_
  refine x_aload_n C (dq DX4_next 28 rfl) rfl 0 rfl ?_
  refine getX4_19 C (dq DX4_next 29 rfl) g0 ?_
  refine x_icmp_lt (tgt := 71) C (dq DX4_next 30 rfl) (by decide) h (fun h => ?_) (fun h => ?_)
  · refine x_aload_n C (dq DX4_next 35 rfl) rfl 0 rfl ?_
    refine getX4_9 C (dq DX4_next 36 rfl) g0 ?_
    refine x_pc 75 rfl ?_
    refine x_aload_n C (dq DX4_next 37 rfl) rfl 0 rfl ?_
    refine getX4_22 C (dq DX4_next 38 rfl) g0 ?_
    refine x_bald C (dq DX4_next 39 rfl) h (fun a8 h => ?_)
    refine callX4_44 C (dq DX4_next 40 rfl) h (by decide) (by decide) (Nat.le_of_ble_eq_true rfl) (fun a9 h => ?_)
    refine x_if_eq (tgt := 93) C (dq DX4_next 41 rfl) (by decide) h (fun h => ?_) (fun h => ?_)
    · refine x_pc 93 rfl ?_
      refine x_aload_n C (dq DX4_next 45 rfl) rfl 0 rfl ?_
      refine getX4_9 C (dq DX4_next 46 rfl) g0 ?_
      refine x_aload_n C (dq DX4_next 47 rfl) rfl 0 rfl ?_
      refine getX4_22 C (dq DX4_next 48 rfl) g0 ?_
      refine x_bald C (dq DX4_next 49 rfl) h (fun a10 h => ?_)
      refine x_pc 102 rfl ?_
      refine callX4_50 C (dq DX4_next 50 rfl) h (by decide) (by decide) (Nat.le_of_ble_eq_true rfl) (fun a11 h => ?_)
      refine x_if_eq (tgt := 115) C (dq DX4_next 51 rfl) (by decide) h (fun h => ?_) (fun h => ?_)
      · refine x_aload_n C (dq DX4_next 55 rfl) rfl 0 rfl ?_
        refine x_aload_n C (dq DX4_next 56 rfl) rfl 0 rfl ?_
        refine getX4_9 C (dq DX4_next 57 rfl) g0 ?_
        refine x_pc 120 rfl ?_
        refine x_aload_n C (dq DX4_next 58 rfl) rfl 0 rfl ?_
        refine getX4_22 C (dq DX4_next 59 rfl) g0 ?_
        refine x_bald C (dq DX4_next 60 rfl) h (fun a12 h => ?_)
        refine x_bipush (v := 59) C (dq DX4_next 61 rfl) (by decide) ?_
        refine x_icmp_ne (tgt := 134) C (dq DX4_next 62 rfl) (by decide) h (fun h => ?_) (fun h => ?_)
        · refine x_pc 134 rfl ?_
          refine x_iconst (v := 5) C (dq DX4_next 65 rfl) (by decide) ?_
          exact x_lv [0] rfl (tX4_next_135 C g0 h hQ)
        · refine x_pc 130 rfl ?_
          refine x_iconst (v := 4) C (dq DX4_next 63 rfl) (by decide) ?_
          refine x_goto (tgt := 135) C (dq DX4_next 64 rfl) (by decide) ?_
          exact x_lv [0] rfl (tX4_next_135 C g0 h hQ)
      · refine x_aload_n C (dq DX4_next 52 rfl) rfl 0 rfl ?_
        refine callX4_53 C (dq DX4_next 53 rfl) h (by decide) (by decide) (Nat.le_of_ble_eq_true rfl) (fun m16 h => ?_)
        refine x_goto (tgt := 148) C (dq DX4_next 54 rfl) (by decide) ?_
        exact x_lv [0] rfl (tX4_next_148 C g0 h hQ)
    · refine x_pc 86 rfl ?_
      refine x_aload_n C (dq DX4_next 42 rfl) rfl 0 rfl ?_
      refine callX4_47 C (dq DX4_next 43 rfl) h (by decide) (by decide) (Nat.le_of_ble_eq_true rfl) (fun m17 h => ?_)
      refine x_goto (tgt := 148) C (dq DX4_next 44 rfl) (by decide) ?_
      exact x_lv [0] rfl (tX4_next_148 C g0 h hQ)
  · refine x_aload_n C (dq DX4_next 31 rfl) rfl 0 rfl ?_
    refine x_iconst (v := 0) C (dq DX4_next 32 rfl) (by decide) ?_
    refine x_pc 65 rfl ?_
    refine putX4_25 C (dq DX4_next 33 rfl) g0 h (fun m18 h => ?_)
    refine x_goto (tgt := 148) C (dq DX4_next 34 rfl) (by decide) ?_
    exact x_lv [0] rfl (tX4_next_148 C g0 h hQ)
set_option maxHeartbeats 1000000 in
theorem mX4_next {l : Launch} {E : Ev} {S : List Sh} {mm : Mm} {x0 : Nat} {r : Mm} (h : fX4_next S mm x0 = some r) : Ml l E S yX4_next cX4_next 1 none 2 49 [.ref (E.2.2 x0)] mm none r := by
  refine Ml.of (by decide +kernel) (Nat.le_of_ble_eq_true rfl) (fun G C hQ => ?_)
  have C : Cx G E cX4_next 1 RX4 none 2 49 := C
  unfold fX4_next at h
  obtain ⟨g0, h⟩ := gd_some h
  show WM G l E S 0 [(0, .ref (E.2.2 x0))] [] mm
  refine x_lv [0] rfl ?_
  refine x_loop (s0 := mm) (fun s4 => WM G l E S 0 [(0, .ref (E.2.2 x0))] [] s4) h (fun s4 r hb kb kx => tX4_next_0 C g0 hb kb (fun y5 hy => ?_))
  have h := kx y5 hy
  clear kx kb hb hy
  exact x_lv [0] rfl (tX4_next_39 C g0 h hQ)
set_option maxHeartbeats 1000000 in
theorem qX4_next {S : List Sh} {mm : Mm} {x0 : Nat} {r : Mm} (h : fX4_next S mm x0 = some r) : isC S x0 4 := by
  unfold fX4_next at h
  exact (gd_some h).1
