theorem getX8_115 {G : Gt} {l : Launch} {E : Ev} {S : List Sh} {cc : ByteArray} {nL : Nat} {rt : Option FieldType} {fr lo : Nat} {pc : Nat} {lv : List (Nat × Value)} {st : List Value} {mm : Mm} {o : Nat} (C : Cx G E cc nL RX8 rt fr lo) (d : decode cc pc = .ok (.getfield 115, 3)) (hg : isC S o 8) (k : WM G l E S (pc + 3) lv (.int (mm.1 o 0) :: st) mm) : WM G l E S pc lv (.ref (E.2.2 o) :: st) mm := x_get0 C hg (T := TX8) (N := 49) rfl inX8 (by decide) (i := 0) (gmem 865 (by decide +kernel) rfl) rfl rfl d k
abbrev eX8_thrown : List (Nat × Instr × Nat) := [(0, .aload_n 0, 1), (1, .getfield 115, 3), (4, .ireturn, 1)]
theorem DX8_thrown : (eX8_thrown.all fun q => decide (decode cX8_thrown q.1 = .ok q.2)) = true := by decide +kernel
def fX8_thrown (S : List Sh) (mm : Mm) (x0 : Nat) : Option (Int32) := gd S x0 8 (some (mm.1 x0 0))
set_option maxHeartbeats 1000000 in
theorem mX8_thrown {l : Launch} {E : Ev} {S : List Sh} {mm : Mm} {x0 : Nat} {r : Int32} (h : fX8_thrown S mm x0 = some r) : Ml l E S yX8_thrown cX8_thrown 1 (some .int) 0 0 [.ref (E.2.2 x0)] mm (some (.int r)) mm := by
  refine Ml.of (by decide +kernel) (Nat.le_of_ble_eq_true rfl) (fun G C hQ => ?_)
  have C : Cx G E cX8_thrown 1 RX8 (some .int) 0 0 := C
  unfold fX8_thrown at h
  obtain ⟨g0, h⟩ := gd_some h
  show WM G l E S 0 [(0, .ref (E.2.2 x0))] [] mm
  refine x_aload_n C (dq DX8_thrown 0 rfl) rfl 0 rfl ?_
  refine getX8_115 C (dq DX8_thrown 1 rfl) g0 ?_
  cases h
  exact x_iret C (dq DX8_thrown 2 rfl) hQ
set_option maxHeartbeats 1000000 in
theorem qX8_thrown {S : List Sh} {mm : Mm} {x0 : Nat} {r : Int32} (h : fX8_thrown S mm x0 = some r) : isC S x0 8 := by
  unfold fX8_thrown at h
  exact (gd_some h).1
theorem getX8_7 {G : Gt} {l : Launch} {E : Ev} {S : List Sh} {cc : ByteArray} {nL : Nat} {rt : Option FieldType} {fr lo : Nat} {pc : Nat} {lv : List (Nat × Value)} {st : List Value} {mm : Mm} {o : Nat} (C : Cx G E cc nL RX8 rt fr lo) (d : decode cc pc = .ok (.getfield 7, 3)) (hg : isC S o 8) (k : WM G l E S (pc + 3) lv (.ref (E.2.2 (rf S mm o 1)) :: st) mm) : WM G l E S pc lv (.ref (E.2.2 o) :: st) mm := x_get2 C hg (T := TX8) (N := 49) rfl inX8 (by decide) (i := 1) (gmem 866 (by decide +kernel) rfl) rfl rfl d k
theorem getX8_118 {G : Gt} {l : Launch} {E : Ev} {S : List Sh} {cc : ByteArray} {nL : Nat} {rt : Option FieldType} {fr lo : Nat} {pc : Nat} {lv : List (Nat × Value)} {st : List Value} {mm : Mm} {o : Nat} (C : Cx G E cc nL RX8 rt fr lo) (d : decode cc pc = .ok (.getfield 118, 3)) (hg : isC S o 8) (k : WM G l E S (pc + 3) lv (.int (mm.1 o 2) :: st) mm) : WM G l E S pc lv (.ref (E.2.2 o) :: st) mm := x_get0 C hg (T := TX8) (N := 49) rfl inX8 (by decide) (i := 2) (gmem 867 (by decide +kernel) rfl) rfl rfl d k
theorem putX8_115 {G : Gt} {l : Launch} {E : Ev} {S : List Sh} {cc : ByteArray} {nL : Nat} {rt : Option FieldType} {fr lo : Nat} {pc : Nat} {lv : List (Nat × Value)} {st : List Value} {mm : Mm} {o : Nat} {α : Type} {f : Mm → Option α} {r : α} {x : Int32} (C : Cx G E cc nL RX8 rt fr lo) (d : decode cc pc = .ok (.putfield 115, 3)) (hg : isC S o 8) (h : bd1 (some (u1 mm o 0 x)) f = some r) (k : ∀ m1, f m1 = some r → WM G l E S (pc + 3) lv st m1) : WM G l E S pc lv (.int x :: .ref (E.2.2 o) :: st) mm := x_putI C hg (T := TX8) (N := 49) rfl inX8 (by decide) (i := 0) (gmem 865 (by decide +kernel) rfl) rfl tyX8 tyX8_ok nmX8 rfl rfl (by decide) (by decide +kernel) d (k _ h)
theorem putX8_118 {G : Gt} {l : Launch} {E : Ev} {S : List Sh} {cc : ByteArray} {nL : Nat} {rt : Option FieldType} {fr lo : Nat} {pc : Nat} {lv : List (Nat × Value)} {st : List Value} {mm : Mm} {o : Nat} {α : Type} {f : Mm → Option α} {r : α} {x : Int32} (C : Cx G E cc nL RX8 rt fr lo) (d : decode cc pc = .ok (.putfield 118, 3)) (hg : isC S o 8) (h : bd1 (some (u1 mm o 2 x)) f = some r) (k : ∀ m1, f m1 = some r → WM G l E S (pc + 3) lv st m1) : WM G l E S pc lv (.int x :: .ref (E.2.2 o) :: st) mm := x_putI C hg (T := TX8) (N := 49) rfl inX8 (by decide) (i := 2) (gmem 867 (by decide +kernel) rfl) rfl tyX8 tyX8_ok nmX8 rfl rfl (by decide) (by decide +kernel) d (k _ h)
abbrev eX8_feed : List (Nat × Instr × Nat) := [(0, .aload_n 0, 1), (1, .iconst 0, 1), (2, .putfield 115, 3), (5, .aload_n 0, 1), (6, .getfield 118, 3), (9, .sipush 680, 3), (12, .if_icmp .le 5, 3), (15, .iconst (-1), 1), (16, .ireturn, 1), (17, .iconst 0, 1), (18, .istore 6, 2), (20, .iload 6, 2), (22, .bipush 20, 2), (24, .if_icmp .ge 86, 3), (27, .iload 6, 2), (29, .iconst 4, 1), (30, .if_icmp .ge 7, 3), (33, .iload_n 1, 1), (34, .goto 39, 3), (37, .iload 6, 2), (39, .bipush 8, 2), (41, .if_icmp .ge 7, 3), (44, .iload_n 2, 1), (45, .goto 28, 3), (48, .iload 6, 2), (50, .bipush 12, 2), (52, .if_icmp .ge 7, 3), (55, .iload_n 3, 1), (56, .goto 17, 3), (59, .iload 6, 2), (61, .bipush 16, 2), (63, .if_icmp .ge 8, 3), (66, .iload 4, 2), (68, .goto 5, 3), (71, .iload 5, 2), (73, .istore 7, 2), (75, .aload_n 0, 1), (76, .getfield 7, 3), (79, .aload_n 0, 1), (80, .getfield 118, 3), (83, .iload 6, 2), (85, .iadd, 1), (86, .iload 7, 2), (88, .bipush 24, 2), (90, .bipush 8, 2), (92, .iload 6, 2), (94, .iconst 4, 1), (95, .irem, 1), (96, .imul, 1), (97, .isub, 1), (98, .ishr, 1), (99, .sipush 255, 3), (102, .iand, 1), (103, .iastore, 1), (104, .iinc 6 1, 3), (107, .goto (-87), 3), (110, .aload_n 0, 1), (111, .dup, 1), (112, .getfield 118, 3), (115, .bipush 20, 2), (117, .iadd, 1), (118, .putfield 118, 3), (121, .aload_n 0, 1), (122, .getfield 118, 3), (125, .ireturn, 1)]
theorem DX8_feed : (eX8_feed.all fun q => decide (decode cX8_feed q.1 = .ok q.2)) = true := by decide +kernel
def jX8_feed_73 (S : List Sh) (mm : Mm) (x0 : Nat) (x1 : Int32) (x2 : Int32) (x3 : Int32) (x4 : Int32) (x5 : Int32) (x6 : Int32) (p0 : Int32) : Option ((Int32 × Mm) ⊕ (Mm)) := bd1 (rmI x6 4) fun a2 => bd1 (stA S 0 mm (rf S mm x0 1) ((mm.1 x0 2) + x6) ((p0 >>> ((24 - (8 * a2)) &&& 31)) &&& 255)) fun m3 => some (.inl (x6 + 1, m3))
def bX8_feed_20 (S : List Sh) (x0 : Nat) (x1 : Int32) (x2 : Int32) (x3 : Int32) (x4 : Int32) (x5 : Int32) (x6 : Int32) (mm : Mm) : Option ((Int32 × Mm) ⊕ (Mm)) := if 20 ≤ x6 then (some (.inr (mm))) else (if 4 ≤ x6 then (if 8 ≤ x6 then (if 12 ≤ x6 then (if 16 ≤ x6 then (jX8_feed_73 S mm x0 x1 x2 x3 x4 x5 x6 x5) else (jX8_feed_73 S mm x0 x1 x2 x3 x4 x5 x6 x4)) else (jX8_feed_73 S mm x0 x1 x2 x3 x4 x5 x6 x3)) else (jX8_feed_73 S mm x0 x1 x2 x3 x4 x5 x6 x2)) else (jX8_feed_73 S mm x0 x1 x2 x3 x4 x5 x6 x1))
def fX8_feed (S : List Sh) (mm : Mm) (x0 : Nat) (x1 : Int32) (x2 : Int32) (x3 : Int32) (x4 : Int32) (x5 : Int32) : Option (Int32 × Mm) := gd S x0 8 (bd1 (some (u1 mm x0 0 0)) fun m1 => if (m1.1 x0 2) ≤ 680 then (bd1 (lp (fun s4 => bX8_feed_20 S x0 x1 x2 x3 x4 x5 s4.1 s4.2) fu (0, m1)) fun y5 => bd1 (some (u1 y5 x0 2 ((y5.1 x0 2) + 20))) fun m6 => some ((m6.1 x0 2), m6)) else (some ((-1), m1)))
set_option maxHeartbeats 1000000 in
theorem tX8_feed_73 {G : Gt} {l : Launch} {E : Ev} {S : List Sh} {mm : Mm} {x0 : Nat} {x1 : Int32} {x2 : Int32} {x3 : Int32} {x4 : Int32} {x5 : Int32} {x6 : Int32} {p0 : Int32} {r : (Int32 × Mm) ⊕ (Mm)} (C : Cx G E cX8_feed 8 RX8 (some .int) 0 0) (g0 : isC S x0 8) (h : jX8_feed_73 S mm x0 x1 x2 x3 x4 x5 x6 p0 = some r) (kb : ∀ z : Int32 × Mm, r = .inl z → WM G l E S 20 [(0, .ref (E.2.2 x0)), (1, .int x1), (2, .int x2), (3, .int x3), (4, .int x4), (5, .int x5), (6, .int z.1)] [] z.2) (kx : ∀ z : Mm, r = .inr z → WM G l E S 110 [(0, .ref (E.2.2 x0)), (1, .int x1), (2, .int x2), (3, .int x3), (4, .int x4), (5, .int x5)] [] z) : WM G l E S 73 [(0, .ref (E.2.2 x0)), (1, .int x1), (2, .int x2), (3, .int x3), (4, .int x4), (5, .int x5), (6, .int x6)] [.int p0] mm := by
  unfold jX8_feed_73 at h
  refine x_istore (lv' := [(7, .int p0), (0, .ref (E.2.2 x0)), (1, .int x1), (2, .int x2), (3, .int x3), (4, .int x4), (5, .int x5), (6, .int x6)]) C (dq DX8_feed 35 rfl) (by decide) rfl ?_
  refine x_aload_n C (dq DX8_feed 36 rfl) rfl 1 rfl ?_
  refine getX8_7 C (dq DX8_feed 37 rfl) g0 ?_
  refine x_aload_n C (dq DX8_feed 38 rfl) rfl 1 rfl ?_
  refine x_pc 80 rfl ?_
  refine getX8_118 C (dq DX8_feed 39 rfl) g0 ?_
  refine x_iload C (dq DX8_feed 40 rfl) 7 rfl ?_
  refine x_iadd C (dq DX8_feed 41 rfl) ?_
  refine x_iload C (dq DX8_feed 42 rfl) 0 rfl ?_
  refine x_bipush (v := 24) C (dq DX8_feed 43 rfl) (by decide) ?_
  refine x_pc 90 rfl ?_
  refine x_bipush (v := 8) C (dq DX8_feed 44 rfl) (by decide) ?_
  refine x_iload C (dq DX8_feed 45 rfl) 7 rfl ?_
  refine x_iconst (v := 4) C (dq DX8_feed 46 rfl) (by decide) ?_
  refine x_irem C (dq DX8_feed 47 rfl) h (fun a2 h => ?_)
  refine x_imul C (dq DX8_feed 48 rfl) ?_
  refine x_pc 97 rfl ?_
  refine x_isub C (dq DX8_feed 49 rfl) ?_
  refine x_ishr C (dq DX8_feed 50 rfl) ?_
  refine x_sipush (v := 255) C (dq DX8_feed 51 rfl) (by decide) ?_
  refine x_iand C (dq DX8_feed 52 rfl) ?_
  refine x_iast C (dq DX8_feed 53 rfl) h (fun m3 h => ?_)
  refine x_pc 104 rfl ?_
  refine x_iinc (v := x6 + 1) (lv' := [(6, .int (x6 + 1)), (7, .int p0), (0, .ref (E.2.2 x0)), (1, .int x1), (2, .int x2), (3, .int x3), (4, .int x4), (5, .int x5)]) C (dq DX8_feed 54 rfl) 7 rfl rfl (by decide) rfl ?_
  refine x_goto (tgt := 20) C (dq DX8_feed 55 rfl) (by decide) ?_
  cases h
  exact x_lv [2, 3, 4, 5, 6, 7, 0] rfl (kb (x6 + 1, m3) rfl)
set_option maxHeartbeats 1000000 in
theorem tX8_feed_20 {G : Gt} {l : Launch} {E : Ev} {S : List Sh} {x0 : Nat} {x1 : Int32} {x2 : Int32} {x3 : Int32} {x4 : Int32} {x5 : Int32} {x6 : Int32} {mm : Mm} {r : (Int32 × Mm) ⊕ (Mm)} (C : Cx G E cX8_feed 8 RX8 (some .int) 0 0) (g0 : isC S x0 8) (h : bX8_feed_20 S x0 x1 x2 x3 x4 x5 x6 mm = some r) (kb : ∀ z : Int32 × Mm, r = .inl z → WM G l E S 20 [(0, .ref (E.2.2 x0)), (1, .int x1), (2, .int x2), (3, .int x3), (4, .int x4), (5, .int x5), (6, .int z.1)] [] z.2) (kx : ∀ z : Mm, r = .inr z → WM G l E S 110 [(0, .ref (E.2.2 x0)), (1, .int x1), (2, .int x2), (3, .int x3), (4, .int x4), (5, .int x5)] [] z) : WM G l E S 20 [(0, .ref (E.2.2 x0)), (1, .int x1), (2, .int x2), (3, .int x3), (4, .int x4), (5, .int x5), (6, .int x6)] [] mm := by
  unfold bX8_feed_20 at h
  refine x_iload C (dq DX8_feed 11 rfl) 6 rfl ?_
  refine x_bipush (v := 20) C (dq DX8_feed 12 rfl) (by decide) ?_
  refine x_icmp_ge (tgt := 110) C (dq DX8_feed 13 rfl) (by decide) h (fun h => ?_) (fun h => ?_)
  · cases h
    exact x_lv [0, 1, 2, 3, 4, 5] rfl (kx (mm) rfl)
  · refine x_iload C (dq DX8_feed 14 rfl) 6 rfl ?_
    refine x_pc 29 rfl ?_
    refine x_iconst (v := 4) C (dq DX8_feed 15 rfl) (by decide) ?_
    refine x_icmp_ge (tgt := 37) C (dq DX8_feed 16 rfl) (by decide) h (fun h => ?_) (fun h => ?_)
    · refine x_iload C (dq DX8_feed 19 rfl) 6 rfl ?_
      refine x_bipush (v := 8) C (dq DX8_feed 20 rfl) (by decide) ?_
      refine x_icmp_ge (tgt := 48) C (dq DX8_feed 21 rfl) (by decide) h (fun h => ?_) (fun h => ?_)
      · refine x_pc 48 rfl ?_
        refine x_iload C (dq DX8_feed 24 rfl) 6 rfl ?_
        refine x_bipush (v := 12) C (dq DX8_feed 25 rfl) (by decide) ?_
        refine x_icmp_ge (tgt := 59) C (dq DX8_feed 26 rfl) (by decide) h (fun h => ?_) (fun h => ?_)
        · refine x_iload C (dq DX8_feed 29 rfl) 6 rfl ?_
          refine x_bipush (v := 16) C (dq DX8_feed 30 rfl) (by decide) ?_
          refine x_pc 63 rfl ?_
          refine x_icmp_ge (tgt := 71) C (dq DX8_feed 31 rfl) (by decide) h (fun h => ?_) (fun h => ?_)
          · refine x_iload C (dq DX8_feed 34 rfl) 5 rfl ?_
            exact x_lv [0, 1, 2, 3, 4, 5, 6] rfl (tX8_feed_73 C g0 h kb kx)
          · refine x_iload C (dq DX8_feed 32 rfl) 4 rfl ?_
            refine x_goto (tgt := 73) C (dq DX8_feed 33 rfl) (by decide) ?_
            exact x_lv [0, 1, 2, 3, 4, 5, 6] rfl (tX8_feed_73 C g0 h kb kx)
        · refine x_iload_n C (dq DX8_feed 27 rfl) rfl 3 rfl ?_
          refine x_goto (tgt := 73) C (dq DX8_feed 28 rfl) (by decide) ?_
          exact x_lv [0, 1, 2, 3, 4, 5, 6] rfl (tX8_feed_73 C g0 h kb kx)
      · refine x_pc 44 rfl ?_
        refine x_iload_n C (dq DX8_feed 22 rfl) rfl 2 rfl ?_
        refine x_goto (tgt := 73) C (dq DX8_feed 23 rfl) (by decide) ?_
        exact x_lv [0, 1, 2, 3, 4, 5, 6] rfl (tX8_feed_73 C g0 h kb kx)
    · refine x_iload_n C (dq DX8_feed 17 rfl) rfl 1 rfl ?_
      refine x_goto (tgt := 73) C (dq DX8_feed 18 rfl) (by decide) ?_
      exact x_lv [0, 1, 2, 3, 4, 5, 6] rfl (tX8_feed_73 C g0 h kb kx)
set_option maxHeartbeats 1000000 in
theorem mX8_feed {l : Launch} {E : Ev} {S : List Sh} {mm : Mm} {x0 : Nat} {x1 : Int32} {x2 : Int32} {x3 : Int32} {x4 : Int32} {x5 : Int32} {r : Int32 × Mm} (h : fX8_feed S mm x0 x1 x2 x3 x4 x5 = some r) : Ml l E S yX8_feed cX8_feed 8 (some .int) 0 0 [.ref (E.2.2 x0), .int x1, .int x2, .int x3, .int x4, .int x5] mm (some (.int r.1)) r.2 := by
  refine Ml.of (by decide +kernel) (Nat.le_of_ble_eq_true rfl) (fun G C hQ => ?_)
  have C : Cx G E cX8_feed 8 RX8 (some .int) 0 0 := C
  unfold fX8_feed at h
  obtain ⟨g0, h⟩ := gd_some h
  show WM G l E S 0 [(0, .ref (E.2.2 x0)), (1, .int x1), (2, .int x2), (3, .int x3), (4, .int x4), (5, .int x5)] [] mm
  refine x_aload_n C (dq DX8_feed 0 rfl) rfl 0 rfl ?_
  refine x_iconst (v := 0) C (dq DX8_feed 1 rfl) (by decide) ?_
  refine putX8_115 C (dq DX8_feed 2 rfl) g0 h (fun m1 h => ?_)
  refine x_aload_n C (dq DX8_feed 3 rfl) rfl 0 rfl ?_
  refine x_pc 6 rfl ?_
  refine getX8_118 C (dq DX8_feed 4 rfl) g0 ?_
  refine x_sipush (v := 680) C (dq DX8_feed 5 rfl) (by decide) ?_
  refine x_icmp_le (tgt := 17) C (dq DX8_feed 6 rfl) (by decide) h (fun h => ?_) (fun h => ?_)
  · refine x_iconst (v := 0) C (dq DX8_feed 9 rfl) (by decide) ?_
    refine x_istore (lv' := [(6, .int 0), (0, .ref (E.2.2 x0)), (1, .int x1), (2, .int x2), (3, .int x3), (4, .int x4), (5, .int x5)]) C (dq DX8_feed 10 rfl) (by decide) rfl ?_
    refine x_lv [1, 2, 3, 4, 5, 6, 0] rfl ?_
    refine x_loop (s0 := (0, m1)) (fun s4 => WM G l E S 20 [(0, .ref (E.2.2 x0)), (1, .int x1), (2, .int x2), (3, .int x3), (4, .int x4), (5, .int x5), (6, .int s4.1)] [] s4.2) h (fun s4 r hb kb kx => tX8_feed_20 C g0 hb kb (fun y5 hy => ?_))
    have h := kx y5 hy
    clear kx kb hb hy
    refine x_pc 110 rfl ?_
    refine x_aload_n C (dq DX8_feed 56 rfl) rfl 0 rfl ?_
    refine x_dup C (dq DX8_feed 57 rfl) rfl ?_
    refine getX8_118 C (dq DX8_feed 58 rfl) g0 ?_
    refine x_bipush (v := 20) C (dq DX8_feed 59 rfl) (by decide) ?_
    refine x_iadd C (dq DX8_feed 60 rfl) ?_
    refine x_pc 118 rfl ?_
    refine putX8_118 C (dq DX8_feed 61 rfl) g0 h (fun m6 h => ?_)
    refine x_aload_n C (dq DX8_feed 62 rfl) rfl 0 rfl ?_
    refine getX8_118 C (dq DX8_feed 63 rfl) g0 ?_
    cases h
    exact x_iret C (dq DX8_feed 64 rfl) hQ
  · refine x_iconst (v := (-1)) C (dq DX8_feed 7 rfl) (by decide) ?_
    cases h
    exact x_iret C (dq DX8_feed 8 rfl) hQ
set_option maxHeartbeats 1000000 in
theorem qX8_feed {S : List Sh} {mm : Mm} {x0 : Nat} {x1 : Int32} {x2 : Int32} {x3 : Int32} {x4 : Int32} {x5 : Int32} {r : Int32 × Mm} (h : fX8_feed S mm x0 x1 x2 x3 x4 x5 = some r) : isC S x0 8 := by
  unfold fX8_feed at h
  exact (gd_some h).1
theorem getX8_121 {G : Gt} {l : Launch} {E : Ev} {S : List Sh} {cc : ByteArray} {nL : Nat} {rt : Option FieldType} {fr lo : Nat} {pc : Nat} {lv : List (Nat × Value)} {st : List Value} {mm : Mm} {o : Nat} (C : Cx G E cc nL RX8 rt fr lo) (d : decode cc pc = .ok (.getfield 121, 3)) (hg : isC S o 8) (k : WM G l E S (pc + 3) lv (.int (mm.1 o 18) :: st) mm) : WM G l E S pc lv (.ref (E.2.2 o) :: st) mm := x_get0 C hg (T := TX8) (N := 49) rfl inX8 (by decide) (i := 18) (gmem 883 (by decide +kernel) rfl) rfl rfl d k
theorem getX8_124 {G : Gt} {l : Launch} {E : Ev} {S : List Sh} {cc : ByteArray} {nL : Nat} {rt : Option FieldType} {fr lo : Nat} {pc : Nat} {lv : List (Nat × Value)} {st : List Value} {mm : Mm} {o : Nat} (C : Cx G E cc nL RX8 rt fr lo) (d : decode cc pc = .ok (.getfield 124, 3)) (hg : isC S o 8) (k : WM G l E S (pc + 3) lv (.int (mm.1 o 17) :: st) mm) : WM G l E S pc lv (.ref (E.2.2 o) :: st) mm := x_get0 C hg (T := TX8) (N := 49) rfl inX8 (by decide) (i := 17) (gmem 882 (by decide +kernel) rfl) rfl rfl d k
abbrev eX8_here : List (Nat × Instr × Nat) := [(0, .aload_n 0, 1), (1, .getfield 121, 3), (4, .aload_n 0, 1), (5, .getfield 124, 3), (8, .if_icmp .ge 15, 3), (11, .aload_n 0, 1), (12, .getfield 7, 3), (15, .aload_n 0, 1), (16, .getfield 121, 3), (19, .iaload, 1), (20, .goto 4, 3), (23, .iconst (-1), 1), (24, .ireturn, 1)]
theorem DX8_here : (eX8_here.all fun q => decide (decode cX8_here q.1 = .ok q.2)) = true := by decide +kernel
def jX8_here_24 (S : List Sh) (mm : Mm) (x0 : Nat) (p0 : Int32) : Option (Int32) := some p0
def fX8_here (S : List Sh) (mm : Mm) (x0 : Nat) : Option (Int32) := gd S x0 8 (if (mm.1 x0 17) ≤ (mm.1 x0 18) then (jX8_here_24 S mm x0 (-1)) else (bd1 (ldA S 0 mm (rf S mm x0 1) (mm.1 x0 18)) fun a1 => jX8_here_24 S mm x0 a1))
set_option maxHeartbeats 1000000 in
theorem tX8_here_24 {G : Gt} {l : Launch} {E : Ev} {S : List Sh} {mm : Mm} {x0 : Nat} {p0 : Int32} {r : Int32} (C : Cx G E cX8_here 1 RX8 (some .int) 0 0) (g0 : isC S x0 8) (h : jX8_here_24 S mm x0 p0 = some r) (hQ : RQ G E S (some (.int r)) mm) : WM G l E S 24 [(0, .ref (E.2.2 x0))] [.int p0] mm := by
  unfold jX8_here_24 at h
  cases h
  exact x_iret C (dq DX8_here 12 rfl) hQ
set_option maxHeartbeats 1000000 in
theorem mX8_here {l : Launch} {E : Ev} {S : List Sh} {mm : Mm} {x0 : Nat} {r : Int32} (h : fX8_here S mm x0 = some r) : Ml l E S yX8_here cX8_here 1 (some .int) 0 0 [.ref (E.2.2 x0)] mm (some (.int r)) mm := by
  refine Ml.of (by decide +kernel) (Nat.le_of_ble_eq_true rfl) (fun G C hQ => ?_)
  have C : Cx G E cX8_here 1 RX8 (some .int) 0 0 := C
  unfold fX8_here at h
  obtain ⟨g0, h⟩ := gd_some h
  show WM G l E S 0 [(0, .ref (E.2.2 x0))] [] mm
  refine x_aload_n C (dq DX8_here 0 rfl) rfl 0 rfl ?_
  refine getX8_121 C (dq DX8_here 1 rfl) g0 ?_
  refine x_aload_n C (dq DX8_here 2 rfl) rfl 0 rfl ?_
  refine getX8_124 C (dq DX8_here 3 rfl) g0 ?_
  refine x_pc 8 rfl ?_
  refine x_icmp_ge (tgt := 23) C (dq DX8_here 4 rfl) (by decide) h (fun h => ?_) (fun h => ?_)
  · refine x_iconst (v := (-1)) C (dq DX8_here 11 rfl) (by decide) ?_
    exact x_lv [0] rfl (tX8_here_24 C g0 h hQ)
  · refine x_aload_n C (dq DX8_here 5 rfl) rfl 0 rfl ?_
    refine getX8_7 C (dq DX8_here 6 rfl) g0 ?_
    refine x_aload_n C (dq DX8_here 7 rfl) rfl 0 rfl ?_
    refine getX8_121 C (dq DX8_here 8 rfl) g0 ?_
    refine x_pc 19 rfl ?_
    refine x_iald C (dq DX8_here 9 rfl) h (fun a1 h => ?_)
    refine x_goto (tgt := 24) C (dq DX8_here 10 rfl) (by decide) ?_
    exact x_lv [0] rfl (tX8_here_24 C g0 h hQ)
set_option maxHeartbeats 1000000 in
theorem qX8_here {S : List Sh} {mm : Mm} {x0 : Nat} {r : Int32} (h : fX8_here S mm x0 = some r) : isC S x0 8 := by
  unfold fX8_here at h
  exact (gd_some h).1
abbrev eX8_isSmall : List (Nat × Instr × Nat) := [(0, .iload_n 0, 1), (1, .bipush 97, 2), (3, .if_icmp .lt 13, 3), (6, .iload_n 0, 1), (7, .bipush 122, 2), (9, .if_icmp .gt 7, 3), (12, .iconst 1, 1), (13, .goto 4, 3), (16, .iconst 0, 1), (17, .ireturn, 1)]
theorem DX8_isSmall : (eX8_isSmall.all fun q => decide (decode cX8_isSmall q.1 = .ok q.2)) = true := by decide +kernel
def jX8_isSmall_17 (S : List Sh) (mm : Mm)  (p0 : Int32) : Option (Int32) := bd1 (okZ p0) fun _ => some p0
def jX8_isSmall_16 (S : List Sh) (mm : Mm)   : Option (Int32) := jX8_isSmall_17 S mm 0
def fX8_isSmall (S : List Sh) (mm : Mm) (x0 : Int32) : Option (Int32) := if x0 < 97 then (jX8_isSmall_16 S mm ) else (if 122 < x0 then (jX8_isSmall_16 S mm ) else (jX8_isSmall_17 S mm 1))
set_option maxHeartbeats 1000000 in
theorem tX8_isSmall_17 {G : Gt} {l : Launch} {E : Ev} {S : List Sh} {mm : Mm}  {p0 : Int32} {r : Int32} (C : Cx G E cX8_isSmall 1 RX8 (some .boolean) 0 0)  (h : jX8_isSmall_17 S mm p0 = some r) (hQ : RQ G E S (some (.int r)) mm) : WM G l E S 17 [] [.int p0] mm := by
  unfold jX8_isSmall_17 at h
  refine x_zret C (dq DX8_isSmall 9 rfl) h (fun h => ?_)
  cases h
  exact hQ
set_option maxHeartbeats 1000000 in
theorem tX8_isSmall_16 {G : Gt} {l : Launch} {E : Ev} {S : List Sh} {mm : Mm}   {r : Int32} (C : Cx G E cX8_isSmall 1 RX8 (some .boolean) 0 0)  (h : jX8_isSmall_16 S mm = some r) (hQ : RQ G E S (some (.int r)) mm) : WM G l E S 16 [] [] mm := by
  unfold jX8_isSmall_16 at h
  refine x_iconst (v := 0) C (dq DX8_isSmall 8 rfl) (by decide) ?_
  exact x_lv [] rfl (tX8_isSmall_17 C  h hQ)
set_option maxHeartbeats 1000000 in
theorem mX8_isSmall {l : Launch} {E : Ev} {S : List Sh} {mm : Mm} {x0 : Int32} {r : Int32} (h : fX8_isSmall S mm x0 = some r) : Ml l E S yX8_isSmall cX8_isSmall 1 (some .boolean) 0 0 [.int x0] mm (some (.int r)) mm := by
  refine Ml.of (by decide +kernel) (Nat.le_of_ble_eq_true rfl) (fun G C hQ => ?_)
  have C : Cx G E cX8_isSmall 1 RX8 (some .boolean) 0 0 := C
  unfold fX8_isSmall at h
  show WM G l E S 0 [(0, .int x0)] [] mm
  refine x_iload_n C (dq DX8_isSmall 0 rfl) rfl 0 rfl ?_
  refine x_bipush (v := 97) C (dq DX8_isSmall 1 rfl) (by decide) ?_
  refine x_icmp_lt (tgt := 16) C (dq DX8_isSmall 2 rfl) (by decide) h (fun h => ?_) (fun h => ?_)
  · exact x_lv [] rfl (tX8_isSmall_16 C  h hQ)
  · refine x_iload_n C (dq DX8_isSmall 3 rfl) rfl 0 rfl ?_
    refine x_pc 7 rfl ?_
    refine x_bipush (v := 122) C (dq DX8_isSmall 4 rfl) (by decide) ?_
    refine x_icmp_gt (tgt := 16) C (dq DX8_isSmall 5 rfl) (by decide) h (fun h => ?_) (fun h => ?_)
    · exact x_lv [] rfl (tX8_isSmall_16 C  h hQ)
    · refine x_iconst (v := 1) C (dq DX8_isSmall 6 rfl) (by decide) ?_
      refine x_goto (tgt := 17) C (dq DX8_isSmall 7 rfl) (by decide) ?_
      exact x_lv [] rfl (tX8_isSmall_17 C  h hQ)
abbrev eX8_isDigit : List (Nat × Instr × Nat) := [(0, .iload_n 0, 1), (1, .bipush 48, 2), (3, .if_icmp .lt 13, 3), (6, .iload_n 0, 1), (7, .bipush 57, 2), (9, .if_icmp .gt 7, 3), (12, .iconst 1, 1), (13, .goto 4, 3), (16, .iconst 0, 1), (17, .ireturn, 1)]
theorem DX8_isDigit : (eX8_isDigit.all fun q => decide (decode cX8_isDigit q.1 = .ok q.2)) = true := by decide +kernel
def jX8_isDigit_17 (S : List Sh) (mm : Mm)  (p0 : Int32) : Option (Int32) := bd1 (okZ p0) fun _ => some p0
def jX8_isDigit_16 (S : List Sh) (mm : Mm)   : Option (Int32) := jX8_isDigit_17 S mm 0
def fX8_isDigit (S : List Sh) (mm : Mm) (x0 : Int32) : Option (Int32) := if x0 < 48 then (jX8_isDigit_16 S mm ) else (if 57 < x0 then (jX8_isDigit_16 S mm ) else (jX8_isDigit_17 S mm 1))
set_option maxHeartbeats 1000000 in
theorem tX8_isDigit_17 {G : Gt} {l : Launch} {E : Ev} {S : List Sh} {mm : Mm}  {p0 : Int32} {r : Int32} (C : Cx G E cX8_isDigit 1 RX8 (some .boolean) 0 0)  (h : jX8_isDigit_17 S mm p0 = some r) (hQ : RQ G E S (some (.int r)) mm) : WM G l E S 17 [] [.int p0] mm := by
  unfold jX8_isDigit_17 at h
  refine x_zret C (dq DX8_isDigit 9 rfl) h (fun h => ?_)
  cases h
  exact hQ
set_option maxHeartbeats 1000000 in
theorem tX8_isDigit_16 {G : Gt} {l : Launch} {E : Ev} {S : List Sh} {mm : Mm}   {r : Int32} (C : Cx G E cX8_isDigit 1 RX8 (some .boolean) 0 0)  (h : jX8_isDigit_16 S mm = some r) (hQ : RQ G E S (some (.int r)) mm) : WM G l E S 16 [] [] mm := by
  unfold jX8_isDigit_16 at h
  refine x_iconst (v := 0) C (dq DX8_isDigit 8 rfl) (by decide) ?_
  exact x_lv [] rfl (tX8_isDigit_17 C  h hQ)
set_option maxHeartbeats 1000000 in
theorem mX8_isDigit {l : Launch} {E : Ev} {S : List Sh} {mm : Mm} {x0 : Int32} {r : Int32} (h : fX8_isDigit S mm x0 = some r) : Ml l E S yX8_isDigit cX8_isDigit 1 (some .boolean) 0 0 [.int x0] mm (some (.int r)) mm := by
  refine Ml.of (by decide +kernel) (Nat.le_of_ble_eq_true rfl) (fun G C hQ => ?_)
  have C : Cx G E cX8_isDigit 1 RX8 (some .boolean) 0 0 := C
  unfold fX8_isDigit at h
  show WM G l E S 0 [(0, .int x0)] [] mm
  refine x_iload_n C (dq DX8_isDigit 0 rfl) rfl 0 rfl ?_
  refine x_bipush (v := 48) C (dq DX8_isDigit 1 rfl) (by decide) ?_
  refine x_icmp_lt (tgt := 16) C (dq DX8_isDigit 2 rfl) (by decide) h (fun h => ?_) (fun h => ?_)
  · exact x_lv [] rfl (tX8_isDigit_16 C  h hQ)
  · refine x_iload_n C (dq DX8_isDigit 3 rfl) rfl 0 rfl ?_
    refine x_pc 7 rfl ?_
    refine x_bipush (v := 57) C (dq DX8_isDigit 4 rfl) (by decide) ?_
    refine x_icmp_gt (tgt := 16) C (dq DX8_isDigit 5 rfl) (by decide) h (fun h => ?_) (fun h => ?_)
    · exact x_lv [] rfl (tX8_isDigit_16 C  h hQ)
    · refine x_iconst (v := 1) C (dq DX8_isDigit 6 rfl) (by decide) ?_
      refine x_goto (tgt := 17) C (dq DX8_isDigit 7 rfl) (by decide) ?_
      exact x_lv [] rfl (tX8_isDigit_17 C  h hQ)
theorem getX8_131 {G : Gt} {l : Launch} {E : Ev} {S : List Sh} {cc : ByteArray} {nL : Nat} {rt : Option FieldType} {fr lo : Nat} {pc : Nat} {lv : List (Nat × Value)} {st : List Value} {mm : Mm} {o : Nat} (C : Cx G E cc nL RX8 rt fr lo) (d : decode cc pc = .ok (.getfield 131, 3)) (hg : isC S o 8) (k : WM G l E S (pc + 3) lv (.int (mm.1 o 19) :: st) mm) : WM G l E S pc lv (.ref (E.2.2 o) :: st) mm := x_get0 C hg (T := TX8) (N := 49) rfl inX8 (by decide) (i := 19) (gmem 884 (by decide +kernel) rfl) rfl rfl d k
theorem getX8_144 {G : Gt} {l : Launch} {E : Ev} {S : List Sh} {cc : ByteArray} {nL : Nat} {rt : Option FieldType} {fr lo : Nat} {pc : Nat} {lv : List (Nat × Value)} {st : List Value} {mm : Mm} {o : Nat} (C : Cx G E cc nL RX8 rt fr lo) (d : decode cc pc = .ok (.getfield 144, 3)) (hg : isC S o 8) (k : WM G l E S (pc + 3) lv (.int (mm.1 o 21) :: st) mm) : WM G l E S pc lv (.ref (E.2.2 o) :: st) mm := x_get0 C hg (T := TX8) (N := 49) rfl inX8 (by decide) (i := 21) (gmem 886 (by decide +kernel) rfl) rfl rfl d k
theorem putX8_144 {G : Gt} {l : Launch} {E : Ev} {S : List Sh} {cc : ByteArray} {nL : Nat} {rt : Option FieldType} {fr lo : Nat} {pc : Nat} {lv : List (Nat × Value)} {st : List Value} {mm : Mm} {o : Nat} {α : Type} {f : Mm → Option α} {r : α} {x : Int32} (C : Cx G E cc nL RX8 rt fr lo) (d : decode cc pc = .ok (.putfield 144, 3)) (hg : isC S o 8) (h : bd1 (some (u1 mm o 21 x)) f = some r) (k : ∀ m1, f m1 = some r → WM G l E S (pc + 3) lv st m1) : WM G l E S pc lv (.int x :: .ref (E.2.2 o) :: st) mm := x_putI C hg (T := TX8) (N := 49) rfl inX8 (by decide) (i := 21) (gmem 886 (by decide +kernel) rfl) rfl tyX8 tyX8_ok nmX8 rfl rfl (by decide) (by decide +kernel) d (k _ h)
abbrev eX8_nameHere : List (Nat × Instr × Nat) := [(0, .aload_n 0, 1), (1, .iconst 0, 1), (2, .putfield 144, 3), (5, .iconst 0, 1), (6, .istore_n 1, 1), (7, .iload_n 1, 1), (8, .bipush 6, 2), (10, .if_icmp .ge 53, 3), (13, .aload_n 0, 1), (14, .aload_n 0, 1), (15, .getfield 144, 3), (18, .iconst 5, 1), (19, .ishl, 1), (20, .aload_n 0, 1), (21, .getfield 131, 3), (24, .iload_n 1, 1), (25, .iadd, 1), (26, .aload_n 0, 1), (27, .getfield 121, 3), (30, .if_icmp .ge 22, 3), (33, .aload_n 0, 1), (34, .getfield 7, 3), (37, .aload_n 0, 1), (38, .getfield 131, 3), (41, .iload_n 1, 1), (42, .iadd, 1), (43, .iaload, 1), (44, .bipush 97, 2), (46, .isub, 1), (47, .iconst 1, 1), (48, .iadd, 1), (49, .goto 4, 3), (52, .iconst 0, 1), (53, .ior, 1), (54, .putfield 144, 3), (57, .iinc 1 1, 3), (60, .goto (-53), 3), (63, .return_, 1)]
theorem DX8_nameHere : (eX8_nameHere.all fun q => decide (decode cX8_nameHere q.1 = .ok q.2)) = true := by decide +kernel
def jX8_nameHere_53 (S : List Sh) (mm : Mm) (x0 : Nat) (x1 : Int32) (p0 : Nat) (p1 : Int32) (p2 : Int32) : Option ((Int32 × Mm) ⊕ (Mm)) := gd S p0 8 (bd1 (some (u1 mm p0 21 (p1 ||| p2))) fun m3 => some (.inl (x1 + 1, m3)))
def bX8_nameHere_7 (S : List Sh) (x0 : Nat) (x1 : Int32) (mm : Mm) : Option ((Int32 × Mm) ⊕ (Mm)) := if 6 ≤ x1 then (some (.inr (mm))) else (if (mm.1 x0 18) ≤ ((mm.1 x0 19) + x1) then (jX8_nameHere_53 S mm x0 x1 x0 ((mm.1 x0 21) <<< (5 &&& 31)) 0) else (bd1 (ldA S 0 mm (rf S mm x0 1) ((mm.1 x0 19) + x1)) fun a4 => jX8_nameHere_53 S mm x0 x1 x0 ((mm.1 x0 21) <<< (5 &&& 31)) ((a4 - 97) + 1)))
def fX8_nameHere (S : List Sh) (mm : Mm) (x0 : Nat) : Option (Mm) := gd S x0 8 (bd1 (some (u1 mm x0 21 0)) fun m1 => bd1 (lp (fun s5 => bX8_nameHere_7 S x0 s5.1 s5.2) fu (0, m1)) fun y6 => some y6)
set_option maxHeartbeats 1000000 in
theorem tX8_nameHere_53 {G : Gt} {l : Launch} {E : Ev} {S : List Sh} {mm : Mm} {x0 : Nat} {x1 : Int32} {p0 : Nat} {p1 : Int32} {p2 : Int32} {r : (Int32 × Mm) ⊕ (Mm)} (C : Cx G E cX8_nameHere 2 RX8 none 0 0) (g0 : isC S x0 8) (h : jX8_nameHere_53 S mm x0 x1 p0 p1 p2 = some r) (kb : ∀ z : Int32 × Mm, r = .inl z → WM G l E S 7 [(0, .ref (E.2.2 x0)), (1, .int z.1)] [] z.2) (kx : ∀ z : Mm, r = .inr z → WM G l E S 63 [(0, .ref (E.2.2 x0))] [] z) : WM G l E S 53 [(0, .ref (E.2.2 x0)), (1, .int x1)] [.int p2, .int p1, .ref (E.2.2 p0)] mm := by
  unfold jX8_nameHere_53 at h
  refine x_ior C (dq DX8_nameHere 33 rfl) ?_
  obtain ⟨g2, h⟩ := gd_some h
  refine putX8_144 C (dq DX8_nameHere 34 rfl) g2 h (fun m3 h => ?_)
  refine x_iinc (v := x1 + 1) (lv' := [(1, .int (x1 + 1)), (0, .ref (E.2.2 x0))]) C (dq DX8_nameHere 35 rfl) 1 rfl rfl (by decide) rfl ?_
  refine x_goto (tgt := 7) C (dq DX8_nameHere 36 rfl) (by decide) ?_
  cases h
  exact x_lv [1, 0] rfl (kb (x1 + 1, m3) rfl)
set_option maxHeartbeats 1000000 in
theorem tX8_nameHere_7 {G : Gt} {l : Launch} {E : Ev} {S : List Sh} {x0 : Nat} {x1 : Int32} {mm : Mm} {r : (Int32 × Mm) ⊕ (Mm)} (C : Cx G E cX8_nameHere 2 RX8 none 0 0) (g0 : isC S x0 8) (h : bX8_nameHere_7 S x0 x1 mm = some r) (kb : ∀ z : Int32 × Mm, r = .inl z → WM G l E S 7 [(0, .ref (E.2.2 x0)), (1, .int z.1)] [] z.2) (kx : ∀ z : Mm, r = .inr z → WM G l E S 63 [(0, .ref (E.2.2 x0))] [] z) : WM G l E S 7 [(0, .ref (E.2.2 x0)), (1, .int x1)] [] mm := by
  unfold bX8_nameHere_7 at h
  refine x_iload_n C (dq DX8_nameHere 5 rfl) rfl 1 rfl ?_
  refine x_bipush (v := 6) C (dq DX8_nameHere 6 rfl) (by decide) ?_
  refine x_icmp_ge (tgt := 63) C (dq DX8_nameHere 7 rfl) (by decide) h (fun h => ?_) (fun h => ?_)
  · cases h
    exact x_lv [0] rfl (kx (mm) rfl)
  · refine x_aload_n C (dq DX8_nameHere 8 rfl) rfl 0 rfl ?_
    refine x_pc 14 rfl ?_
    refine x_aload_n C (dq DX8_nameHere 9 rfl) rfl 0 rfl ?_
    refine getX8_144 C (dq DX8_nameHere 10 rfl) g0 ?_
    refine x_iconst (v := 5) C (dq DX8_nameHere 11 rfl) (by decide) ?_
    refine x_ishl C (dq DX8_nameHere 12 rfl) ?_
    refine x_aload_n C (dq DX8_nameHere 13 rfl) rfl 0 rfl ?_
    refine x_pc 21 rfl ?_
    refine getX8_131 C (dq DX8_nameHere 14 rfl) g0 ?_
    refine x_iload_n C (dq DX8_nameHere 15 rfl) rfl 1 rfl ?_
    refine x_iadd C (dq DX8_nameHere 16 rfl) ?_
    refine x_aload_n C (dq DX8_nameHere 17 rfl) rfl 0 rfl ?_
    refine getX8_121 C (dq DX8_nameHere 18 rfl) g0 ?_
    refine x_pc 30 rfl ?_
    refine x_icmp_ge (tgt := 52) C (dq DX8_nameHere 19 rfl) (by decide) h (fun h => ?_) (fun h => ?_)
    · refine x_iconst (v := 0) C (dq DX8_nameHere 32 rfl) (by decide) ?_
      exact x_lv [0, 1] rfl (tX8_nameHere_53 C g0 h kb kx)
    · refine x_aload_n C (dq DX8_nameHere 20 rfl) rfl 0 rfl ?_
      refine getX8_7 C (dq DX8_nameHere 21 rfl) g0 ?_
      refine x_aload_n C (dq DX8_nameHere 22 rfl) rfl 0 rfl ?_
      refine getX8_131 C (dq DX8_nameHere 23 rfl) g0 ?_
      refine x_pc 41 rfl ?_
      refine x_iload_n C (dq DX8_nameHere 24 rfl) rfl 1 rfl ?_
      refine x_iadd C (dq DX8_nameHere 25 rfl) ?_
      refine x_iald C (dq DX8_nameHere 26 rfl) h (fun a4 h => ?_)
      refine x_bipush (v := 97) C (dq DX8_nameHere 27 rfl) (by decide) ?_
      refine x_isub C (dq DX8_nameHere 28 rfl) ?_
      refine x_pc 47 rfl ?_
      refine x_iconst (v := 1) C (dq DX8_nameHere 29 rfl) (by decide) ?_
      refine x_iadd C (dq DX8_nameHere 30 rfl) ?_
      refine x_goto (tgt := 53) C (dq DX8_nameHere 31 rfl) (by decide) ?_
      exact x_lv [0, 1] rfl (tX8_nameHere_53 C g0 h kb kx)
set_option maxHeartbeats 1000000 in
theorem mX8_nameHere {l : Launch} {E : Ev} {S : List Sh} {mm : Mm} {x0 : Nat} {r : Mm} (h : fX8_nameHere S mm x0 = some r) : Ml l E S yX8_nameHere cX8_nameHere 2 none 0 0 [.ref (E.2.2 x0)] mm none r := by
  refine Ml.of (by decide +kernel) (Nat.le_of_ble_eq_true rfl) (fun G C hQ => ?_)
  have C : Cx G E cX8_nameHere 2 RX8 none 0 0 := C
  unfold fX8_nameHere at h
  obtain ⟨g0, h⟩ := gd_some h
  show WM G l E S 0 [(0, .ref (E.2.2 x0))] [] mm
  refine x_aload_n C (dq DX8_nameHere 0 rfl) rfl 0 rfl ?_
  refine x_iconst (v := 0) C (dq DX8_nameHere 1 rfl) (by decide) ?_
  refine putX8_144 C (dq DX8_nameHere 2 rfl) g0 h (fun m1 h => ?_)
  refine x_iconst (v := 0) C (dq DX8_nameHere 3 rfl) (by decide) ?_
  refine x_pc 6 rfl ?_
  refine x_istore_n (lv' := [(1, .int 0), (0, .ref (E.2.2 x0))]) C (dq DX8_nameHere 4 rfl) rfl (by decide) rfl ?_
  refine x_lv [1, 0] rfl ?_
  refine x_loop (s0 := (0, m1)) (fun s5 => WM G l E S 7 [(0, .ref (E.2.2 x0)), (1, .int s5.1)] [] s5.2) h (fun s5 r hb kb kx => tX8_nameHere_7 C g0 hb kb (fun y6 hy => ?_))
  have h := kx y6 hy
  clear kx kb hb hy
  cases h
  exact x_vret C (dq DX8_nameHere 37 rfl) hQ
set_option maxHeartbeats 1000000 in
theorem qX8_nameHere {S : List Sh} {mm : Mm} {x0 : Nat} {r : Mm} (h : fX8_nameHere S mm x0 = some r) : isC S x0 8 := by
  unfold fX8_nameHere at h
  exact (gd_some h).1
theorem getX8_165 {G : Gt} {l : Launch} {E : Ev} {S : List Sh} {cc : ByteArray} {nL : Nat} {rt : Option FieldType} {fr lo : Nat} {pc : Nat} {lv : List (Nat × Value)} {st : List Value} {mm : Mm} {o : Nat} (C : Cx G E cc nL RX8 rt fr lo) (d : decode cc pc = .ok (.getfield 165, 3)) (hg : isC S o 8) (k : WM G l E S (pc + 3) lv (.int (mm.1 o 22) :: st) mm) : WM G l E S pc lv (.ref (E.2.2 o) :: st) mm := x_get0 C hg (T := TX8) (N := 49) rfl inX8 (by decide) (i := 22) (gmem 887 (by decide +kernel) rfl) rfl rfl d k
theorem putX8_165 {G : Gt} {l : Launch} {E : Ev} {S : List Sh} {cc : ByteArray} {nL : Nat} {rt : Option FieldType} {fr lo : Nat} {pc : Nat} {lv : List (Nat × Value)} {st : List Value} {mm : Mm} {o : Nat} {α : Type} {f : Mm → Option α} {r : α} {x : Int32} (C : Cx G E cc nL RX8 rt fr lo) (d : decode cc pc = .ok (.putfield 165, 3)) (hg : isC S o 8) (h : bd1 (some (u1 mm o 22 x)) f = some r) (k : ∀ m1, f m1 = some r → WM G l E S (pc + 3) lv st m1) : WM G l E S pc lv (.int x :: .ref (E.2.2 o) :: st) mm := x_putI C hg (T := TX8) (N := 49) rfl inX8 (by decide) (i := 22) (gmem 887 (by decide +kernel) rfl) rfl tyX8 tyX8_ok nmX8 rfl rfl (by decide) (by decide +kernel) d (k _ h)
theorem putX8_168 {G : Gt} {l : Launch} {E : Ev} {S : List Sh} {cc : ByteArray} {nL : Nat} {rt : Option FieldType} {fr lo : Nat} {pc : Nat} {lv : List (Nat × Value)} {st : List Value} {mm : Mm} {o : Nat} {α : Type} {f : Mm → Option α} {r : α} {x : Int32} (C : Cx G E cc nL RX8 rt fr lo) (d : decode cc pc = .ok (.putfield 168, 3)) (hg : isC S o 8) (h : bd1 (some (u1 mm o 23 x)) f = some r) (k : ∀ m1, f m1 = some r → WM G l E S (pc + 3) lv st m1) : WM G l E S pc lv (.int x :: .ref (E.2.2 o) :: st) mm := x_putI C hg (T := TX8) (N := 49) rfl inX8 (by decide) (i := 23) (gmem 888 (by decide +kernel) rfl) rfl tyX8 tyX8_ok nmX8 rfl rfl (by decide) (by decide +kernel) d (k _ h)
abbrev eX8_wrong : List (Nat × Instr × Nat) := [(0, .aload_n 0, 1), (1, .getfield 165, 3), (4, .ifCond .eq 4, 3), (7, .return_, 1), (8, .aload_n 0, 1), (9, .iload_n 1, 1), (10, .putfield 165, 3), (13, .aload_n 0, 1), (14, .aload_n 0, 1), (15, .getfield 131, 3), (18, .putfield 168, 3), (21, .return_, 1)]
theorem DX8_wrong : (eX8_wrong.all fun q => decide (decode cX8_wrong q.1 = .ok q.2)) = true := by decide +kernel
def fX8_wrong (S : List Sh) (mm : Mm) (x0 : Nat) (x1 : Int32) : Option (Mm) := gd S x0 8 (if (mm.1 x0 22) = 0 then (bd1 (some (u1 mm x0 22 x1)) fun m1 => bd1 (some (u1 m1 x0 23 (m1.1 x0 19))) fun m2 => some m2) else (some mm))
set_option maxHeartbeats 1000000 in
theorem mX8_wrong {l : Launch} {E : Ev} {S : List Sh} {mm : Mm} {x0 : Nat} {x1 : Int32} {r : Mm} (h : fX8_wrong S mm x0 x1 = some r) : Ml l E S yX8_wrong cX8_wrong 2 none 0 0 [.ref (E.2.2 x0), .int x1] mm none r := by
  refine Ml.of (by decide +kernel) (Nat.le_of_ble_eq_true rfl) (fun G C hQ => ?_)
  have C : Cx G E cX8_wrong 2 RX8 none 0 0 := C
  unfold fX8_wrong at h
  obtain ⟨g0, h⟩ := gd_some h
  show WM G l E S 0 [(0, .ref (E.2.2 x0)), (1, .int x1)] [] mm
  refine x_aload_n C (dq DX8_wrong 0 rfl) rfl 0 rfl ?_
  refine getX8_165 C (dq DX8_wrong 1 rfl) g0 ?_
  refine x_if_eq (tgt := 8) C (dq DX8_wrong 2 rfl) (by decide) h (fun h => ?_) (fun h => ?_)
  · refine x_aload_n C (dq DX8_wrong 4 rfl) rfl 0 rfl ?_
    refine x_pc 9 rfl ?_
    refine x_iload_n C (dq DX8_wrong 5 rfl) rfl 1 rfl ?_
    refine putX8_165 C (dq DX8_wrong 6 rfl) g0 h (fun m1 h => ?_)
    refine x_aload_n C (dq DX8_wrong 7 rfl) rfl 0 rfl ?_
    refine x_aload_n C (dq DX8_wrong 8 rfl) rfl 0 rfl ?_
    refine getX8_131 C (dq DX8_wrong 9 rfl) g0 ?_
    refine x_pc 18 rfl ?_
    refine putX8_168 C (dq DX8_wrong 10 rfl) g0 h (fun m2 h => ?_)
    cases h
    exact x_vret C (dq DX8_wrong 11 rfl) hQ
  · cases h
    exact x_vret C (dq DX8_wrong 3 rfl) hQ
set_option maxHeartbeats 1000000 in
theorem qX8_wrong {S : List Sh} {mm : Mm} {x0 : Nat} {x1 : Int32} {r : Mm} (h : fX8_wrong S mm x0 x1 = some r) : isC S x0 8 := by
  unfold fX8_wrong at h
  exact (gd_some h).1
theorem getX8_13 {G : Gt} {l : Launch} {E : Ev} {S : List Sh} {cc : ByteArray} {nL : Nat} {rt : Option FieldType} {fr lo : Nat} {pc : Nat} {lv : List (Nat × Value)} {st : List Value} {mm : Mm} {o : Nat} (C : Cx G E cc nL RX8 rt fr lo) (d : decode cc pc = .ok (.getfield 13, 3)) (hg : isC S o 8) (k : WM G l E S (pc + 3) lv (.ref (E.2.2 (rf S mm o 3)) :: st) mm) : WM G l E S pc lv (.ref (E.2.2 o) :: st) mm := x_get2 C hg (T := TX8) (N := 49) rfl inX8 (by decide) (i := 3) (gmem 868 (by decide +kernel) rfl) rfl rfl d k
abbrev eX8_reading : List (Nat × Instr × Nat) := [(0, .aload_n 0, 1), (1, .getfield 13, 3), (4, .bipush 9, 2), (6, .iload_n 1, 1), (7, .iadd, 1), (8, .iaload, 1), (9, .ireturn, 1)]
theorem DX8_reading : (eX8_reading.all fun q => decide (decode cX8_reading q.1 = .ok q.2)) = true := by decide +kernel
def fX8_reading (S : List Sh) (mm : Mm) (x0 : Nat) (x1 : Int32) : Option (Int32) := gd S x0 8 (bd1 (ldA S 0 mm (rf S mm x0 3) (9 + x1)) fun a1 => some a1)
set_option maxHeartbeats 1000000 in
theorem mX8_reading {l : Launch} {E : Ev} {S : List Sh} {mm : Mm} {x0 : Nat} {x1 : Int32} {r : Int32} (h : fX8_reading S mm x0 x1 = some r) : Ml l E S yX8_reading cX8_reading 2 (some .int) 0 0 [.ref (E.2.2 x0), .int x1] mm (some (.int r)) mm := by
  refine Ml.of (by decide +kernel) (Nat.le_of_ble_eq_true rfl) (fun G C hQ => ?_)
  have C : Cx G E cX8_reading 2 RX8 (some .int) 0 0 := C
  unfold fX8_reading at h
  obtain ⟨g0, h⟩ := gd_some h
  show WM G l E S 0 [(0, .ref (E.2.2 x0)), (1, .int x1)] [] mm
  refine x_aload_n C (dq DX8_reading 0 rfl) rfl 0 rfl ?_
  refine getX8_13 C (dq DX8_reading 1 rfl) g0 ?_
  refine x_bipush (v := 9) C (dq DX8_reading 2 rfl) (by decide) ?_
  refine x_iload_n C (dq DX8_reading 3 rfl) rfl 1 rfl ?_
  refine x_pc 7 rfl ?_
  refine x_iadd C (dq DX8_reading 4 rfl) ?_
  refine x_iald C (dq DX8_reading 5 rfl) h (fun a1 h => ?_)
  cases h
  exact x_iret C (dq DX8_reading 6 rfl) hQ
set_option maxHeartbeats 1000000 in
theorem qX8_reading {S : List Sh} {mm : Mm} {x0 : Nat} {x1 : Int32} {r : Int32} (h : fX8_reading S mm x0 x1 = some r) : isC S x0 8 := by
  unfold fX8_reading at h
  exact (gd_some h).1
abbrev eX8_reads : List (Nat × Instr × Nat) := [(0, .aload_n 0, 1), (1, .getfield 13, 3), (4, .bipush 9, 2), (6, .iload_n 1, 1), (7, .iadd, 1), (8, .iload_n 2, 1), (9, .iastore, 1), (10, .return_, 1)]
theorem DX8_reads : (eX8_reads.all fun q => decide (decode cX8_reads q.1 = .ok q.2)) = true := by decide +kernel
def fX8_reads (S : List Sh) (mm : Mm) (x0 : Nat) (x1 : Int32) (x2 : Int32) : Option (Mm) := gd S x0 8 (bd1 (stA S 0 mm (rf S mm x0 3) (9 + x1) x2) fun m1 => some m1)
set_option maxHeartbeats 1000000 in
theorem mX8_reads {l : Launch} {E : Ev} {S : List Sh} {mm : Mm} {x0 : Nat} {x1 : Int32} {x2 : Int32} {r : Mm} (h : fX8_reads S mm x0 x1 x2 = some r) : Ml l E S yX8_reads cX8_reads 3 none 0 0 [.ref (E.2.2 x0), .int x1, .int x2] mm none r := by
  refine Ml.of (by decide +kernel) (Nat.le_of_ble_eq_true rfl) (fun G C hQ => ?_)
  have C : Cx G E cX8_reads 3 RX8 none 0 0 := C
  unfold fX8_reads at h
  obtain ⟨g0, h⟩ := gd_some h
  show WM G l E S 0 [(0, .ref (E.2.2 x0)), (1, .int x1), (2, .int x2)] [] mm
  refine x_aload_n C (dq DX8_reads 0 rfl) rfl 0 rfl ?_
  refine getX8_13 C (dq DX8_reads 1 rfl) g0 ?_
  refine x_bipush (v := 9) C (dq DX8_reads 2 rfl) (by decide) ?_
  refine x_iload_n C (dq DX8_reads 3 rfl) rfl 1 rfl ?_
  refine x_pc 7 rfl ?_
  refine x_iadd C (dq DX8_reads 4 rfl) ?_
  refine x_iload_n C (dq DX8_reads 5 rfl) rfl 2 rfl ?_
  refine x_iast C (dq DX8_reads 6 rfl) h (fun m1 h => ?_)
  cases h
  exact x_vret C (dq DX8_reads 7 rfl) hQ
set_option maxHeartbeats 1000000 in
theorem qX8_reads {S : List Sh} {mm : Mm} {x0 : Nat} {x1 : Int32} {x2 : Int32} {r : Mm} (h : fX8_reads S mm x0 x1 x2 = some r) : isC S x0 8 := by
  unfold fX8_reads at h
  exact (gd_some h).1
abbrev eX8_foundIn : List (Nat × Instr × Nat) := [(0, .iconst 0, 1), (1, .istore 4, 2), (3, .iload 4, 2), (5, .iload_n 2, 1), (6, .if_icmp .ge 22, 3), (9, .aload_n 0, 1), (10, .iload_n 1, 1), (11, .iload 4, 2), (13, .iadd, 1), (14, .iaload, 1), (15, .iload_n 3, 1), (16, .if_icmp .ne 6, 3), (19, .iload 4, 2), (21, .ireturn, 1), (22, .iinc 4 1, 3), (25, .goto (-22), 3), (28, .iconst (-1), 1), (29, .ireturn, 1)]
theorem DX8_foundIn : (eX8_foundIn.all fun q => decide (decode cX8_foundIn q.1 = .ok q.2)) = true := by decide +kernel
def bX8_foundIn_3 (S : List Sh) (mm : Mm) (x0 : Nat) (x1 : Int32) (x2 : Int32) (x3 : Int32) (x4 : Int32) : Option ((Int32) ⊕ ((Int32) ⊕ (Unit))) := if x2 ≤ x4 then (some (.inr (.inr ()))) else (bd1 (ldA S 0 mm x0 (x1 + x4)) fun a1 => if ¬ a1 = x3 then (some (.inl (x4 + 1))) else (some (.inr (.inl x4))))
def fX8_foundIn (S : List Sh) (mm : Mm) (x0 : Nat) (x1 : Int32) (x2 : Int32) (x3 : Int32) : Option (Int32) := bdR (lp (fun s2 => bX8_foundIn_3 S mm x0 x1 x2 x3 s2) fu 0) (fun a4 => some a4) fun y3 => some (-1)
set_option maxHeartbeats 1000000 in
theorem tX8_foundIn_3 {G : Gt} {l : Launch} {E : Ev} {S : List Sh} {mm : Mm} {x0 : Nat} {x1 : Int32} {x2 : Int32} {x3 : Int32} {x4 : Int32} {r : (Int32) ⊕ ((Int32) ⊕ (Unit))} (C : Cx G E cX8_foundIn 5 RX8 (some .int) 0 0)  (h : bX8_foundIn_3 S mm x0 x1 x2 x3 x4 = some r) (kb : ∀ z : Int32, r = .inl z → WM G l E S 3 [(0, .ref (E.2.2 x0)), (1, .int x1), (2, .int x2), (3, .int x3), (4, .int z)] [] mm) (kr : ∀ z : Int32, r = .inr (.inl z) → RQ G E S (some (.int z)) mm) (kx : ∀ z : Unit, r = .inr (.inr z) → WM G l E S 28 [(0, .ref (E.2.2 x0)), (1, .int x1), (2, .int x2), (3, .int x3)] [] mm) : WM G l E S 3 [(0, .ref (E.2.2 x0)), (1, .int x1), (2, .int x2), (3, .int x3), (4, .int x4)] [] mm := by
  unfold bX8_foundIn_3 at h
  refine x_iload C (dq DX8_foundIn 2 rfl) 4 rfl ?_
  refine x_iload_n C (dq DX8_foundIn 3 rfl) rfl 2 rfl ?_
  refine x_icmp_ge (tgt := 28) C (dq DX8_foundIn 4 rfl) (by decide) h (fun h => ?_) (fun h => ?_)
  · cases h
    exact x_lv [0, 1, 2, 3] rfl (kx () rfl)
  · refine x_aload_n C (dq DX8_foundIn 5 rfl) rfl 0 rfl ?_
    refine x_pc 10 rfl ?_
    refine x_iload_n C (dq DX8_foundIn 6 rfl) rfl 1 rfl ?_
    refine x_iload C (dq DX8_foundIn 7 rfl) 4 rfl ?_
    refine x_iadd C (dq DX8_foundIn 8 rfl) ?_
    refine x_iald C (dq DX8_foundIn 9 rfl) h (fun a1 h => ?_)
    refine x_iload_n C (dq DX8_foundIn 10 rfl) rfl 3 rfl ?_
    refine x_pc 16 rfl ?_
    refine x_icmp_ne (tgt := 22) C (dq DX8_foundIn 11 rfl) (by decide) h (fun h => ?_) (fun h => ?_)
    · refine x_iinc (v := x4 + 1) (lv' := [(4, .int (x4 + 1)), (0, .ref (E.2.2 x0)), (1, .int x1), (2, .int x2), (3, .int x3)]) C (dq DX8_foundIn 14 rfl) 4 rfl rfl (by decide) rfl ?_
      refine x_goto (tgt := 3) C (dq DX8_foundIn 15 rfl) (by decide) ?_
      cases h
      exact x_lv [1, 2, 3, 4, 0] rfl (kb (x4 + 1) rfl)
    · refine x_iload C (dq DX8_foundIn 12 rfl) 4 rfl ?_
      cases h
      exact x_iret C (dq DX8_foundIn 13 rfl) (kr x4 rfl)
set_option maxHeartbeats 1000000 in
theorem mX8_foundIn {l : Launch} {E : Ev} {S : List Sh} {mm : Mm} {x0 : Nat} {x1 : Int32} {x2 : Int32} {x3 : Int32} {r : Int32} (h : fX8_foundIn S mm x0 x1 x2 x3 = some r) : Ml l E S yX8_foundIn cX8_foundIn 5 (some .int) 0 0 [.ref (E.2.2 x0), .int x1, .int x2, .int x3] mm (some (.int r)) mm := by
  refine Ml.of (by decide +kernel) (Nat.le_of_ble_eq_true rfl) (fun G C hQ => ?_)
  have C : Cx G E cX8_foundIn 5 RX8 (some .int) 0 0 := C
  unfold fX8_foundIn at h
  show WM G l E S 0 [(0, .ref (E.2.2 x0)), (1, .int x1), (2, .int x2), (3, .int x3)] [] mm
  refine x_iconst (v := 0) C (dq DX8_foundIn 0 rfl) (by decide) ?_
  refine x_istore (lv' := [(4, .int 0), (0, .ref (E.2.2 x0)), (1, .int x1), (2, .int x2), (3, .int x3)]) C (dq DX8_foundIn 1 rfl) (by decide) rfl ?_
  refine x_lv [1, 2, 3, 4, 0] rfl ?_
  refine x_loopR (s0 := 0) (fun s2 => WM G l E S 3 [(0, .ref (E.2.2 x0)), (1, .int x1), (2, .int x2), (3, .int x3), (4, .int s2)] [] mm) h (fun s2 r hb kb kg kx => tX8_foundIn_3 C  hb kb (fun a4 ha => ?_) (fun y3 hy => ?_))
  · have h := kg a4 ha
    cases h
    exact hQ
  · have h := kx y3 hy
    clear kx kb hb hy kg
    refine x_iconst (v := (-1)) C (dq DX8_foundIn 16 rfl) (by decide) ?_
    cases h
    exact x_iret C (dq DX8_foundIn 17 rfl) hQ
theorem getX8_47 {G : Gt} {l : Launch} {E : Ev} {S : List Sh} {cc : ByteArray} {nL : Nat} {rt : Option FieldType} {fr lo : Nat} {pc : Nat} {lv : List (Nat × Value)} {st : List Value} {mm : Mm} {o : Nat} (C : Cx G E cc nL RX8 rt fr lo) (d : decode cc pc = .ok (.getfield 47, 3)) (hg : isC S o 8) (k : WM G l E S (pc + 3) lv (.ref (E.2.2 (rf S mm o 14)) :: st) mm) : WM G l E S pc lv (.ref (E.2.2 o) :: st) mm := x_get2 C hg (T := TX8) (N := 49) rfl inX8 (by decide) (i := 14) (gmem 879 (by decide +kernel) rfl) rfl rfl d k
theorem getX8_50 {G : Gt} {l : Launch} {E : Ev} {S : List Sh} {cc : ByteArray} {nL : Nat} {rt : Option FieldType} {fr lo : Nat} {pc : Nat} {lv : List (Nat × Value)} {st : List Value} {mm : Mm} {o : Nat} (C : Cx G E cc nL RX8 rt fr lo) (d : decode cc pc = .ok (.getfield 50, 3)) (hg : isC S o 8) (k : WM G l E S (pc + 3) lv (.ref (E.2.2 (rf S mm o 15)) :: st) mm) : WM G l E S pc lv (.ref (E.2.2 o) :: st) mm := x_get2 C hg (T := TX8) (N := 49) rfl inX8 (by decide) (i := 15) (gmem 880 (by decide +kernel) rfl) rfl rfl d k
abbrev eX8_isOnPath : List (Nat × Instr × Nat) := [(0, .iconst 0, 1), (1, .istore_n 3, 1), (2, .iload_n 3, 1), (3, .aload_n 0, 1), (4, .getfield 47, 3), (7, .iload_n 1, 1), (8, .iaload, 1), (9, .if_icmp .ge 25, 3), (12, .aload_n 0, 1), (13, .getfield 50, 3), (16, .iconst 5, 1), (17, .iload_n 1, 1), (18, .imul, 1), (19, .iload_n 3, 1), (20, .iadd, 1), (21, .iaload, 1), (22, .iload_n 2, 1), (23, .if_icmp .ne 5, 3), (26, .iconst 1, 1), (27, .ireturn, 1), (28, .iinc 3 1, 3), (31, .goto (-29), 3), (34, .iconst 0, 1), (35, .ireturn, 1)]
theorem DX8_isOnPath : (eX8_isOnPath.all fun q => decide (decode cX8_isOnPath q.1 = .ok q.2)) = true := by decide +kernel
def bX8_isOnPath_2 (S : List Sh) (mm : Mm) (x0 : Nat) (x1 : Int32) (x2 : Int32) (x3 : Int32) : Option ((Int32) ⊕ ((Int32) ⊕ (Unit))) := bd1 (ldA S 0 mm (rf S mm x0 14) x1) fun a1 => if a1 ≤ x3 then (some (.inr (.inr ()))) else (bd1 (ldA S 0 mm (rf S mm x0 15) ((5 * x1) + x3)) fun a2 => if ¬ a2 = x2 then (some (.inl (x3 + 1))) else (bd1 (okZ 1) fun _ => some (.inr (.inl 1))))
def fX8_isOnPath (S : List Sh) (mm : Mm) (x0 : Nat) (x1 : Int32) (x2 : Int32) : Option (Int32) := gd S x0 8 (bdR (lp (fun s3 => bX8_isOnPath_2 S mm x0 x1 x2 s3) fu 0) (fun a5 => some a5) fun y4 => bd1 (okZ 0) fun _ => some 0)
set_option maxHeartbeats 1000000 in
theorem tX8_isOnPath_2 {G : Gt} {l : Launch} {E : Ev} {S : List Sh} {mm : Mm} {x0 : Nat} {x1 : Int32} {x2 : Int32} {x3 : Int32} {r : (Int32) ⊕ ((Int32) ⊕ (Unit))} (C : Cx G E cX8_isOnPath 4 RX8 (some .boolean) 0 0) (g0 : isC S x0 8) (h : bX8_isOnPath_2 S mm x0 x1 x2 x3 = some r) (kb : ∀ z : Int32, r = .inl z → WM G l E S 2 [(0, .ref (E.2.2 x0)), (1, .int x1), (2, .int x2), (3, .int z)] [] mm) (kr : ∀ z : Int32, r = .inr (.inl z) → RQ G E S (some (.int z)) mm) (kx : ∀ z : Unit, r = .inr (.inr z) → WM G l E S 34 [(0, .ref (E.2.2 x0)), (1, .int x1), (2, .int x2)] [] mm) : WM G l E S 2 [(0, .ref (E.2.2 x0)), (1, .int x1), (2, .int x2), (3, .int x3)] [] mm := by
  unfold bX8_isOnPath_2 at h
  refine x_iload_n C (dq DX8_isOnPath 2 rfl) rfl 3 rfl ?_
  refine x_aload_n C (dq DX8_isOnPath 3 rfl) rfl 0 rfl ?_
  refine getX8_47 C (dq DX8_isOnPath 4 rfl) g0 ?_
  refine x_iload_n C (dq DX8_isOnPath 5 rfl) rfl 1 rfl ?_
  refine x_pc 8 rfl ?_
  refine x_iald C (dq DX8_isOnPath 6 rfl) h (fun a1 h => ?_)
  refine x_icmp_ge (tgt := 34) C (dq DX8_isOnPath 7 rfl) (by decide) h (fun h => ?_) (fun h => ?_)
  · cases h
    exact x_lv [0, 1, 2] rfl (kx () rfl)
  · refine x_aload_n C (dq DX8_isOnPath 8 rfl) rfl 0 rfl ?_
    refine getX8_50 C (dq DX8_isOnPath 9 rfl) g0 ?_
    refine x_iconst (v := 5) C (dq DX8_isOnPath 10 rfl) (by decide) ?_
    refine x_pc 17 rfl ?_
    refine x_iload_n C (dq DX8_isOnPath 11 rfl) rfl 1 rfl ?_
    refine x_imul C (dq DX8_isOnPath 12 rfl) ?_
    refine x_iload_n C (dq DX8_isOnPath 13 rfl) rfl 3 rfl ?_
    refine x_iadd C (dq DX8_isOnPath 14 rfl) ?_
    refine x_iald C (dq DX8_isOnPath 15 rfl) h (fun a2 h => ?_)
    refine x_pc 22 rfl ?_
    refine x_iload_n C (dq DX8_isOnPath 16 rfl) rfl 2 rfl ?_
    refine x_icmp_ne (tgt := 28) C (dq DX8_isOnPath 17 rfl) (by decide) h (fun h => ?_) (fun h => ?_)
    · refine x_iinc (v := x3 + 1) (lv' := [(3, .int (x3 + 1)), (0, .ref (E.2.2 x0)), (1, .int x1), (2, .int x2)]) C (dq DX8_isOnPath 20 rfl) 3 rfl rfl (by decide) rfl ?_
      refine x_goto (tgt := 2) C (dq DX8_isOnPath 21 rfl) (by decide) ?_
      cases h
      exact x_lv [1, 2, 3, 0] rfl (kb (x3 + 1) rfl)
    · refine x_iconst (v := 1) C (dq DX8_isOnPath 18 rfl) (by decide) ?_
      refine x_zret C (dq DX8_isOnPath 19 rfl) h (fun h => ?_)
      cases h
      exact (kr 1 rfl)
set_option maxHeartbeats 1000000 in
theorem mX8_isOnPath {l : Launch} {E : Ev} {S : List Sh} {mm : Mm} {x0 : Nat} {x1 : Int32} {x2 : Int32} {r : Int32} (h : fX8_isOnPath S mm x0 x1 x2 = some r) : Ml l E S yX8_isOnPath cX8_isOnPath 4 (some .boolean) 0 0 [.ref (E.2.2 x0), .int x1, .int x2] mm (some (.int r)) mm := by
  refine Ml.of (by decide +kernel) (Nat.le_of_ble_eq_true rfl) (fun G C hQ => ?_)
  have C : Cx G E cX8_isOnPath 4 RX8 (some .boolean) 0 0 := C
  unfold fX8_isOnPath at h
  obtain ⟨g0, h⟩ := gd_some h
  show WM G l E S 0 [(0, .ref (E.2.2 x0)), (1, .int x1), (2, .int x2)] [] mm
  refine x_iconst (v := 0) C (dq DX8_isOnPath 0 rfl) (by decide) ?_
  refine x_istore_n (lv' := [(3, .int 0), (0, .ref (E.2.2 x0)), (1, .int x1), (2, .int x2)]) C (dq DX8_isOnPath 1 rfl) rfl (by decide) rfl ?_
  refine x_lv [1, 2, 3, 0] rfl ?_
  refine x_loopR (s0 := 0) (fun s3 => WM G l E S 2 [(0, .ref (E.2.2 x0)), (1, .int x1), (2, .int x2), (3, .int s3)] [] mm) h (fun s3 r hb kb kg kx => tX8_isOnPath_2 C g0 hb kb (fun a5 ha => ?_) (fun y4 hy => ?_))
  · have h := kg a5 ha
    cases h
    exact hQ
  · have h := kx y4 hy
    clear kx kb hb hy kg
    refine x_iconst (v := 0) C (dq DX8_isOnPath 22 rfl) (by decide) ?_
    refine x_zret C (dq DX8_isOnPath 23 rfl) h (fun h => ?_)
    cases h
    exact hQ
set_option maxHeartbeats 1000000 in
theorem qX8_isOnPath {S : List Sh} {mm : Mm} {x0 : Nat} {x1 : Int32} {x2 : Int32} {r : Int32} (h : fX8_isOnPath S mm x0 x1 x2 = some r) : isC S x0 8 := by
  unfold fX8_isOnPath at h
  exact (gd_some h).1
theorem getX8_16 {G : Gt} {l : Launch} {E : Ev} {S : List Sh} {cc : ByteArray} {nL : Nat} {rt : Option FieldType} {fr lo : Nat} {pc : Nat} {lv : List (Nat × Value)} {st : List Value} {mm : Mm} {o : Nat} (C : Cx G E cc nL RX8 rt fr lo) (d : decode cc pc = .ok (.getfield 16, 3)) (hg : isC S o 8) (k : WM G l E S (pc + 3) lv (.ref (E.2.2 (rf S mm o 4)) :: st) mm) : WM G l E S pc lv (.ref (E.2.2 o) :: st) mm := x_get2 C hg (T := TX8) (N := 49) rfl inX8 (by decide) (i := 4) (gmem 869 (by decide +kernel) rfl) rfl rfl d k
theorem callX8_197 {G : Gt} {l : Launch} {E : Ev} {S : List Sh} {cc : ByteArray} {nL : Nat} {rt : Option FieldType} {fr lo : Nat} {pc : Nat} {lv : List (Nat × Value)} {rest : List Value} {mm : Mm} {α : Type} {f : Mm → Option α} {r : α} {o : Nat} {a0 : Int32} {a1 : Int32} (C : Cx G E cc nL RX8 rt fr lo) (d : decode cc pc = .ok (.invokevirtual 197, 3)) (h : bd1 (fX8_reads S mm o a0 a1) f = some r) (hfr : 1 ≤ fr) (hlo : 22 ≤ lo) (hrs : (rest.map fun v => v.category).sum ≤ 8) (k : ∀ m1, f m1 = some r → WM G l E S (pc + 3) lv rest m1) : WM G l E S pc lv (.int a1 :: .int a0 :: .ref (E.2.2 o) :: rest) mm := by
  obtain ⟨m1, hv, hf⟩ := bd1_some h
  exact x_callV (n := 2) (As := [.int a0, .int a1]) (rest := rest) C (mX8_reads hv) (qX8_reads hv) (T := TX8) (N := 49) rfl (gmem 841 (by decide +kernel) rfl) (gmem 843 (by decide +kernel) rfl) (gmemS 39 (by decide +kernel) rfl) (gmem 9 (by decide +kernel) rfl) (gmem 844 (by decide +kernel) rfl) (by decide +kernel) rfl hfr hlo hrs d rfl rfl (k m1 hf)
abbrev eX8_freshText : List (Nat × Instr × Nat) := [(0, .iconst 0, 1), (1, .istore_n 1, 1), (2, .iload_n 1, 1), (3, .bipush 9, 2), (5, .if_icmp .ge 15, 3), (8, .aload_n 0, 1), (9, .iload_n 1, 1), (10, .iconst 0, 1), (11, .invokevirtual 197, 3), (14, .iinc 1 1, 3), (17, .goto (-15), 3), (20, .aload_n 0, 1), (21, .iconst 2, 1), (22, .bipush 20, 2), (24, .invokevirtual 197, 3), (27, .aload_n 0, 1), (28, .iconst 3, 1), (29, .bipush 26, 2), (31, .invokevirtual 197, 3), (34, .aload_n 0, 1), (35, .iconst 4, 1), (36, .iconst 2, 1), (37, .invokevirtual 197, 3), (40, .aload_n 0, 1), (41, .iconst 5, 1), (42, .bipush 50, 2), (44, .invokevirtual 197, 3), (47, .aload_n 0, 1), (48, .bipush 6, 2), (50, .bipush 10, 2), (52, .invokevirtual 197, 3), (55, .aload_n 0, 1), (56, .bipush 7, 2), (58, .iconst 4, 1), (59, .invokevirtual 197, 3), (62, .iconst 0, 1), (63, .istore_n 1, 1), (64, .iload_n 1, 1), (65, .bipush 6, 2), (67, .if_icmp .ge 16, 3), (70, .aload_n 0, 1), (71, .getfield 16, 3), (74, .iload_n 1, 1), (75, .iconst 0, 1), (76, .bastore, 1), (77, .iinc 1 1, 3), (80, .goto (-16), 3), (83, .return_, 1)]
theorem DX8_freshText : (eX8_freshText.all fun q => decide (decode cX8_freshText q.1 = .ok q.2)) = true := by decide +kernel
def bX8_freshText_2 (S : List Sh) (x0 : Nat) (x1 : Int32) (mm : Mm) : Option ((Int32 × Mm) ⊕ (Mm)) := if 9 ≤ x1 then (some (.inr (mm))) else (bd1 (fX8_reads S mm x0 x1 0) fun m1 => some (.inl (x1 + 1, m1)))
def bX8_freshText_64 (S : List Sh) (x0 : Nat) (x1 : Int32) (mm : Mm) : Option ((Int32 × Mm) ⊕ (Mm)) := if 6 ≤ x1 then (some (.inr (mm))) else (bd1 (stA S 2 mm (rf S mm x0 4) x1 0) fun m10 => some (.inl (x1 + 1, m10)))
def fX8_freshText (S : List Sh) (mm : Mm) (x0 : Nat) : Option (Mm) := gd S x0 8 (bd1 (lp (fun s2 => bX8_freshText_2 S x0 s2.1 s2.2) fu (0, mm)) fun y3 => bd1 (fX8_reads S y3 x0 2 20) fun m4 => bd1 (fX8_reads S m4 x0 3 26) fun m5 => bd1 (fX8_reads S m5 x0 4 2) fun m6 => bd1 (fX8_reads S m6 x0 5 50) fun m7 => bd1 (fX8_reads S m7 x0 6 10) fun m8 => bd1 (fX8_reads S m8 x0 7 4) fun m9 => bd1 (lp (fun s11 => bX8_freshText_64 S x0 s11.1 s11.2) fu (0, m9)) fun y12 => some y12)
set_option maxHeartbeats 1000000 in
theorem tX8_freshText_2 {G : Gt} {l : Launch} {E : Ev} {S : List Sh} {x0 : Nat} {x1 : Int32} {mm : Mm} {r : (Int32 × Mm) ⊕ (Mm)} (C : Cx G E cX8_freshText 2 RX8 none 1 22) (g0 : isC S x0 8) (h : bX8_freshText_2 S x0 x1 mm = some r) (kb : ∀ z : Int32 × Mm, r = .inl z → WM G l E S 2 [(0, .ref (E.2.2 x0)), (1, .int z.1)] [] z.2) (kx : ∀ z : Mm, r = .inr z → WM G l E S 20 [(0, .ref (E.2.2 x0))] [] z) : WM G l E S 2 [(0, .ref (E.2.2 x0)), (1, .int x1)] [] mm := by
  unfold bX8_freshText_2 at h
  refine x_iload_n C (dq DX8_freshText 2 rfl) rfl 1 rfl ?_
  refine x_bipush (v := 9) C (dq DX8_freshText 3 rfl) (by decide) ?_
  refine x_icmp_ge (tgt := 20) C (dq DX8_freshText 4 rfl) (by decide) h (fun h => ?_) (fun h => ?_)
  · cases h
    exact x_lv [0] rfl (kx (mm) rfl)
  · refine x_aload_n C (dq DX8_freshText 5 rfl) rfl 0 rfl ?_
    refine x_pc 9 rfl ?_
    refine x_iload_n C (dq DX8_freshText 6 rfl) rfl 1 rfl ?_
    refine x_iconst (v := 0) C (dq DX8_freshText 7 rfl) (by decide) ?_
    refine callX8_197 C (dq DX8_freshText 8 rfl) h (by decide) (by decide) (Nat.le_of_ble_eq_true rfl) (fun m1 h => ?_)
    refine x_iinc (v := x1 + 1) (lv' := [(1, .int (x1 + 1)), (0, .ref (E.2.2 x0))]) C (dq DX8_freshText 9 rfl) 1 rfl rfl (by decide) rfl ?_
    refine x_goto (tgt := 2) C (dq DX8_freshText 10 rfl) (by decide) ?_
    cases h
    exact x_lv [1, 0] rfl (kb (x1 + 1, m1) rfl)
set_option maxHeartbeats 1000000 in
theorem tX8_freshText_64 {G : Gt} {l : Launch} {E : Ev} {S : List Sh} {x0 : Nat} {x1 : Int32} {mm : Mm} {r : (Int32 × Mm) ⊕ (Mm)} (C : Cx G E cX8_freshText 2 RX8 none 1 22) (g0 : isC S x0 8) (h : bX8_freshText_64 S x0 x1 mm = some r) (kb : ∀ z : Int32 × Mm, r = .inl z → WM G l E S 64 [(0, .ref (E.2.2 x0)), (1, .int z.1)] [] z.2) (kx : ∀ z : Mm, r = .inr z → WM G l E S 83 [(0, .ref (E.2.2 x0))] [] z) : WM G l E S 64 [(0, .ref (E.2.2 x0)), (1, .int x1)] [] mm := by
  unfold bX8_freshText_64 at h
  refine x_iload_n C (dq DX8_freshText 37 rfl) rfl 1 rfl ?_
  refine x_bipush (v := 6) C (dq DX8_freshText 38 rfl) (by decide) ?_
  refine x_icmp_ge (tgt := 83) C (dq DX8_freshText 39 rfl) (by decide) h (fun h => ?_) (fun h => ?_)
  · cases h
    exact x_lv [0] rfl (kx (mm) rfl)
  · refine x_aload_n C (dq DX8_freshText 40 rfl) rfl 0 rfl ?_
    refine x_pc 71 rfl ?_
    refine getX8_16 C (dq DX8_freshText 41 rfl) g0 ?_
    refine x_iload_n C (dq DX8_freshText 42 rfl) rfl 1 rfl ?_
    refine x_iconst (v := 0) C (dq DX8_freshText 43 rfl) (by decide) ?_
    refine x_zast C (dq DX8_freshText 44 rfl) h (fun m10 h => ?_)
    refine x_iinc (v := x1 + 1) (lv' := [(1, .int (x1 + 1)), (0, .ref (E.2.2 x0))]) C (dq DX8_freshText 45 rfl) 1 rfl rfl (by decide) rfl ?_
    refine x_pc 80 rfl ?_
    refine x_goto (tgt := 64) C (dq DX8_freshText 46 rfl) (by decide) ?_
    cases h
    exact x_lv [1, 0] rfl (kb (x1 + 1, m10) rfl)
set_option maxHeartbeats 1000000 in
theorem mX8_freshText {l : Launch} {E : Ev} {S : List Sh} {mm : Mm} {x0 : Nat} {r : Mm} (h : fX8_freshText S mm x0 = some r) : Ml l E S yX8_freshText cX8_freshText 2 none 1 22 [.ref (E.2.2 x0)] mm none r := by
  refine Ml.of (by decide +kernel) (Nat.le_of_ble_eq_true rfl) (fun G C hQ => ?_)
  have C : Cx G E cX8_freshText 2 RX8 none 1 22 := C
  unfold fX8_freshText at h
  obtain ⟨g0, h⟩ := gd_some h
  show WM G l E S 0 [(0, .ref (E.2.2 x0))] [] mm
  refine x_iconst (v := 0) C (dq DX8_freshText 0 rfl) (by decide) ?_
  refine x_istore_n (lv' := [(1, .int 0), (0, .ref (E.2.2 x0))]) C (dq DX8_freshText 1 rfl) rfl (by decide) rfl ?_
  refine x_lv [1, 0] rfl ?_
  refine x_loop (s0 := (0, mm)) (fun s2 => WM G l E S 2 [(0, .ref (E.2.2 x0)), (1, .int s2.1)] [] s2.2) h (fun s2 r hb kb kx => tX8_freshText_2 C g0 hb kb (fun y3 hy => ?_))
  have h := kx y3 hy
  clear kx kb hb hy
  refine x_aload_n C (dq DX8_freshText 11 rfl) rfl 0 rfl ?_
  refine x_iconst (v := 2) C (dq DX8_freshText 12 rfl) (by decide) ?_
  refine x_pc 22 rfl ?_
  refine x_bipush (v := 20) C (dq DX8_freshText 13 rfl) (by decide) ?_
  refine callX8_197 C (dq DX8_freshText 14 rfl) h (by decide) (by decide) (Nat.le_of_ble_eq_true rfl) (fun m4 h => ?_)
  refine x_aload_n C (dq DX8_freshText 15 rfl) rfl 0 rfl ?_
  refine x_iconst (v := 3) C (dq DX8_freshText 16 rfl) (by decide) ?_
  refine x_bipush (v := 26) C (dq DX8_freshText 17 rfl) (by decide) ?_
  refine x_pc 31 rfl ?_
  refine callX8_197 C (dq DX8_freshText 18 rfl) h (by decide) (by decide) (Nat.le_of_ble_eq_true rfl) (fun m5 h => ?_)
  refine x_aload_n C (dq DX8_freshText 19 rfl) rfl 0 rfl ?_
  refine x_iconst (v := 4) C (dq DX8_freshText 20 rfl) (by decide) ?_
  refine x_iconst (v := 2) C (dq DX8_freshText 21 rfl) (by decide) ?_
  refine callX8_197 C (dq DX8_freshText 22 rfl) h (by decide) (by decide) (Nat.le_of_ble_eq_true rfl) (fun m6 h => ?_)
  refine x_pc 40 rfl ?_
  refine x_aload_n C (dq DX8_freshText 23 rfl) rfl 0 rfl ?_
  refine x_iconst (v := 5) C (dq DX8_freshText 24 rfl) (by decide) ?_
  refine x_bipush (v := 50) C (dq DX8_freshText 25 rfl) (by decide) ?_
  refine callX8_197 C (dq DX8_freshText 26 rfl) h (by decide) (by decide) (Nat.le_of_ble_eq_true rfl) (fun m7 h => ?_)
  refine x_aload_n C (dq DX8_freshText 27 rfl) rfl 0 rfl ?_
  refine x_pc 48 rfl ?_
  refine x_bipush (v := 6) C (dq DX8_freshText 28 rfl) (by decide) ?_
  refine x_bipush (v := 10) C (dq DX8_freshText 29 rfl) (by decide) ?_
  refine callX8_197 C (dq DX8_freshText 30 rfl) h (by decide) (by decide) (Nat.le_of_ble_eq_true rfl) (fun m8 h => ?_)
  refine x_aload_n C (dq DX8_freshText 31 rfl) rfl 0 rfl ?_
  refine x_bipush (v := 7) C (dq DX8_freshText 32 rfl) (by decide) ?_
  refine x_pc 58 rfl ?_
  refine x_iconst (v := 4) C (dq DX8_freshText 33 rfl) (by decide) ?_
  refine callX8_197 C (dq DX8_freshText 34 rfl) h (by decide) (by decide) (Nat.le_of_ble_eq_true rfl) (fun m9 h => ?_)
  refine x_iconst (v := 0) C (dq DX8_freshText 35 rfl) (by decide) ?_
  refine x_istore_n (lv' := [(1, .int 0), (0, .ref (E.2.2 x0))]) C (dq DX8_freshText 36 rfl) rfl (by decide) rfl ?_
  refine x_lv [1, 0] rfl ?_
  refine x_loop (s0 := (0, m9)) (fun s11 => WM G l E S 64 [(0, .ref (E.2.2 x0)), (1, .int s11.1)] [] s11.2) h (fun s11 r hb kb kx => tX8_freshText_64 C g0 hb kb (fun y12 hy => ?_))
  have h := kx y12 hy
  clear kx kb hb hy
  cases h
  exact x_vret C (dq DX8_freshText 47 rfl) hQ
set_option maxHeartbeats 1000000 in
theorem qX8_freshText {S : List Sh} {mm : Mm} {x0 : Nat} {r : Mm} (h : fX8_freshText S mm x0 = some r) : isC S x0 8 := by
  unfold fX8_freshText at h
  exact (gd_some h).1
