theorem getX7_10 {G : Gt} {l : Launch} {E : Ev} {S : List Sh} {cc : ByteArray} {nL : Nat} {rt : Option FieldType} {fr lo : Nat} {pc : Nat} {lv : List (Nat × Value)} {st : List Value} {mm : Mm} {o : Nat} (C : Cx G E cc nL RX7 rt fr lo) (d : decode cc pc = .ok (.getfield 10, 3)) (hg : isC S o 7) (k : WM G l E S (pc + 3) lv (.ref (E.2.2 (rf S mm o 0)) :: st) mm) : WM G l E S pc lv (.ref (E.2.2 o) :: st) mm := x_get2 C hg (T := TX7) (N := 12) rfl inX7 (by decide) (i := 0) (gmem 242 (by decide +kernel) rfl) rfl rfl d k
theorem getX7_75 {G : Gt} {l : Launch} {E : Ev} {S : List Sh} {cc : ByteArray} {nL : Nat} {rt : Option FieldType} {fr lo : Nat} {pc : Nat} {lv : List (Nat × Value)} {st : List Value} {mm : Mm} {o : Nat} (C : Cx G E cc nL RX7 rt fr lo) (d : decode cc pc = .ok (.getfield 75, 3)) (hg : isC S o 4) (k : WM G l E S (pc + 3) lv (.int (mm.1 o 1) :: st) mm) : WM G l E S pc lv (.ref (E.2.2 o) :: st) mm := x_getN0 C hg (T := TX4) (N := 7) rfl inX4 (by decide) (i := 1) (host := "LosslessFabric") (nmem 37 (by decide +kernel) rfl) rfl rfl d k
theorem callX7_78 {G : Gt} {l : Launch} {E : Ev} {S : List Sh} {cc : ByteArray} {nL : Nat} {rt : Option FieldType} {fr lo : Nat} {pc : Nat} {lv : List (Nat × Value)} {rest : List Value} {mm : Mm} {α : Type} {f : Mm → Option α} {r : α} {o : Nat} {a0 : Int32} (C : Cx G E cc nL RX7 rt fr lo) (d : decode cc pc = .ok (.invokevirtual 78, 3)) (h : bd1 (fX4_append S mm o a0) f = some r) (hfr : 1 ≤ fr) (hlo : 22 ≤ lo) (hrs : (rest.map fun v => v.category).sum ≤ 8) (k : ∀ m1, f m1 = some r → WM G l E S (pc + 3) lv rest m1) : WM G l E S pc lv (.int a0 :: .ref (E.2.2 o) :: rest) mm := by
  obtain ⟨m1, hv, hf⟩ := bd1_some h
  exact x_callV (n := 1) (As := [.int a0]) (rest := rest) C (mX4_append hv) (qX4_append hv) (T := TX4) (N := 7) rfl (gmem 283 (by decide +kernel) rfl) (gmem 284 (by decide +kernel) rfl) (gmem 285 (by decide +kernel) rfl) (gmem 2 (by decide +kernel) rfl) (gmem 286 (by decide +kernel) rfl) (by decide +kernel) rfl hfr hlo hrs d rfl rfl (k m1 hf)
abbrev eX7_feed : List (Nat × Instr × Nat) := [(0, .aload_n 0, 1), (1, .getfield 10, 3), (4, .getfield 75, 3), (7, .bipush 20, 2), (9, .iadd, 1), (10, .sipush 700, 3), (13, .if_icmp .le 5, 3), (16, .iconst (-1), 1), (17, .ireturn, 1), (18, .aload_n 0, 1), (19, .getfield 10, 3), (22, .iload_n 1, 1), (23, .invokevirtual 78, 3), (26, .aload_n 0, 1), (27, .getfield 10, 3), (30, .iload_n 2, 1), (31, .invokevirtual 78, 3), (34, .aload_n 0, 1), (35, .getfield 10, 3), (38, .iload_n 3, 1), (39, .invokevirtual 78, 3), (42, .aload_n 0, 1), (43, .getfield 10, 3), (46, .iload 4, 2), (48, .invokevirtual 78, 3), (51, .aload_n 0, 1), (52, .getfield 10, 3), (55, .iload 5, 2), (57, .invokevirtual 78, 3), (60, .aload_n 0, 1), (61, .getfield 10, 3), (64, .getfield 75, 3), (67, .ireturn, 1)]
theorem DX7_feed : (eX7_feed.all fun q => decide (decode cX7_feed q.1 = .ok q.2)) = true := by decide +kernel
def fX7_feed (S : List Sh) (mm : Mm) (x0 : Nat) (x1 : Int32) (x2 : Int32) (x3 : Int32) (x4 : Int32) (x5 : Int32) : Option (Int32 × Mm) := gd S x0 7 (gd S (rf S mm x0 0) 4 (if ((mm.1 (rf S mm x0 0) 1) + 20) ≤ 700 then (bd1 (fX4_append S mm (rf S mm x0 0) x1) fun m2 => bd1 (fX4_append S m2 (rf S m2 x0 0) x2) fun m3 => bd1 (fX4_append S m3 (rf S m3 x0 0) x3) fun m4 => bd1 (fX4_append S m4 (rf S m4 x0 0) x4) fun m5 => bd1 (fX4_append S m5 (rf S m5 x0 0) x5) fun m6 => gd S (rf S m6 x0 0) 4 (some ((m6.1 (rf S m6 x0 0) 1), m6))) else (some ((-1), mm))))
set_option maxHeartbeats 1000000 in
theorem mX7_feed {l : Launch} {E : Ev} {S : List Sh} {mm : Mm} {x0 : Nat} {x1 : Int32} {x2 : Int32} {x3 : Int32} {x4 : Int32} {x5 : Int32} {r : Int32 × Mm} (h : fX7_feed S mm x0 x1 x2 x3 x4 x5 = some r) : Ml l E S yX7_feed cX7_feed 6 (some .int) 1 22 [.ref (E.2.2 x0), .int x1, .int x2, .int x3, .int x4, .int x5] mm (some (.int r.1)) r.2 := by
  refine Ml.of (by decide +kernel) (Nat.le_of_ble_eq_true rfl) (fun G C hQ => ?_)
  have C : Cx G E cX7_feed 6 RX7 (some .int) 1 22 := C
  unfold fX7_feed at h
  obtain ⟨g0, h⟩ := gd_some h
  show WM G l E S 0 [(0, .ref (E.2.2 x0)), (1, .int x1), (2, .int x2), (3, .int x3), (4, .int x4), (5, .int x5)] [] mm
  refine x_aload_n C (dq DX7_feed 0 rfl) rfl 0 rfl ?_
  refine getX7_10 C (dq DX7_feed 1 rfl) g0 ?_
  obtain ⟨g1, h⟩ := gd_some h
  refine getX7_75 C (dq DX7_feed 2 rfl) g1 ?_
  refine x_bipush (v := 20) C (dq DX7_feed 3 rfl) (by decide) ?_
  refine x_pc 9 rfl ?_
  refine x_iadd C (dq DX7_feed 4 rfl) ?_
  refine x_sipush (v := 700) C (dq DX7_feed 5 rfl) (by decide) ?_
  refine x_icmp_le (tgt := 18) C (dq DX7_feed 6 rfl) (by decide) h (fun h => ?_) (fun h => ?_)
  · refine x_aload_n C (dq DX7_feed 9 rfl) rfl 0 rfl ?_
    refine getX7_10 C (dq DX7_feed 10 rfl) g0 ?_
    refine x_pc 22 rfl ?_
    refine x_iload_n C (dq DX7_feed 11 rfl) rfl 1 rfl ?_
    refine callX7_78 C (dq DX7_feed 12 rfl) h (by decide) (by decide) (Nat.le_of_ble_eq_true rfl) (fun m2 h => ?_)
    refine x_aload_n C (dq DX7_feed 13 rfl) rfl 0 rfl ?_
    refine getX7_10 C (dq DX7_feed 14 rfl) g0 ?_
    refine x_iload_n C (dq DX7_feed 15 rfl) rfl 2 rfl ?_
    refine x_pc 31 rfl ?_
    refine callX7_78 C (dq DX7_feed 16 rfl) h (by decide) (by decide) (Nat.le_of_ble_eq_true rfl) (fun m3 h => ?_)
    refine x_aload_n C (dq DX7_feed 17 rfl) rfl 0 rfl ?_
    refine getX7_10 C (dq DX7_feed 18 rfl) g0 ?_
    refine x_iload_n C (dq DX7_feed 19 rfl) rfl 3 rfl ?_
    refine callX7_78 C (dq DX7_feed 20 rfl) h (by decide) (by decide) (Nat.le_of_ble_eq_true rfl) (fun m4 h => ?_)
    refine x_pc 42 rfl ?_
    refine x_aload_n C (dq DX7_feed 21 rfl) rfl 0 rfl ?_
    refine getX7_10 C (dq DX7_feed 22 rfl) g0 ?_
    refine x_iload C (dq DX7_feed 23 rfl) 4 rfl ?_
    refine callX7_78 C (dq DX7_feed 24 rfl) h (by decide) (by decide) (Nat.le_of_ble_eq_true rfl) (fun m5 h => ?_)
    refine x_aload_n C (dq DX7_feed 25 rfl) rfl 0 rfl ?_
    refine x_pc 52 rfl ?_
    refine getX7_10 C (dq DX7_feed 26 rfl) g0 ?_
    refine x_iload C (dq DX7_feed 27 rfl) 5 rfl ?_
    refine callX7_78 C (dq DX7_feed 28 rfl) h (by decide) (by decide) (Nat.le_of_ble_eq_true rfl) (fun m6 h => ?_)
    refine x_aload_n C (dq DX7_feed 29 rfl) rfl 0 rfl ?_
    refine getX7_10 C (dq DX7_feed 30 rfl) g0 ?_
    refine x_pc 64 rfl ?_
    obtain ⟨g7, h⟩ := gd_some h
    refine getX7_75 C (dq DX7_feed 31 rfl) g7 ?_
    cases h
    exact x_iret C (dq DX7_feed 32 rfl) hQ
  · refine x_iconst (v := (-1)) C (dq DX7_feed 7 rfl) (by decide) ?_
    cases h
    exact x_iret C (dq DX7_feed 8 rfl) hQ
set_option maxHeartbeats 1000000 in
theorem qX7_feed {S : List Sh} {mm : Mm} {x0 : Nat} {x1 : Int32} {x2 : Int32} {x3 : Int32} {x4 : Int32} {x5 : Int32} {r : Int32 × Mm} (h : fX7_feed S mm x0 x1 x2 x3 x4 x5 = some r) : isC S x0 7 := by
  unfold fX7_feed at h
  exact (gd_some h).1
theorem getX7_47 {G : Gt} {l : Launch} {E : Ev} {S : List Sh} {cc : ByteArray} {nL : Nat} {rt : Option FieldType} {fr lo : Nat} {pc : Nat} {lv : List (Nat × Value)} {st : List Value} {mm : Mm} {o : Nat} (C : Cx G E cc nL RX7 rt fr lo) (d : decode cc pc = .ok (.getfield 47, 3)) (hg : isC S o 7) (k : WM G l E S (pc + 3) lv (.ref (E.2.2 (rf S mm o 5)) :: st) mm) : WM G l E S pc lv (.ref (E.2.2 o) :: st) mm := x_get2 C hg (T := TX7) (N := 12) rfl inX7 (by decide) (i := 5) (gmem 247 (by decide +kernel) rfl) rfl rfl d k
theorem getX7_51 {G : Gt} {l : Launch} {E : Ev} {S : List Sh} {cc : ByteArray} {nL : Nat} {rt : Option FieldType} {fr lo : Nat} {pc : Nat} {lv : List (Nat × Value)} {st : List Value} {mm : Mm} {o : Nat} (C : Cx G E cc nL RX7 rt fr lo) (d : decode cc pc = .ok (.getfield 51, 3)) (hg : isC S o 7) (k : WM G l E S (pc + 3) lv (.ref (E.2.2 (rf S mm o 6)) :: st) mm) : WM G l E S pc lv (.ref (E.2.2 o) :: st) mm := x_get2 C hg (T := TX7) (N := 12) rfl inX7 (by decide) (i := 6) (gmem 248 (by decide +kernel) rfl) rfl rfl d k
theorem getX7_55 {G : Gt} {l : Launch} {E : Ev} {S : List Sh} {cc : ByteArray} {nL : Nat} {rt : Option FieldType} {fr lo : Nat} {pc : Nat} {lv : List (Nat × Value)} {st : List Value} {mm : Mm} {o : Nat} (C : Cx G E cc nL RX7 rt fr lo) (d : decode cc pc = .ok (.getfield 55, 3)) (hg : isC S o 7) (k : WM G l E S (pc + 3) lv (.ref (E.2.2 (rf S mm o 7)) :: st) mm) : WM G l E S pc lv (.ref (E.2.2 o) :: st) mm := x_get2 C hg (T := TX7) (N := 12) rfl inX7 (by decide) (i := 7) (gmem 249 (by decide +kernel) rfl) rfl rfl d k
theorem getX7_61 {G : Gt} {l : Launch} {E : Ev} {S : List Sh} {cc : ByteArray} {nL : Nat} {rt : Option FieldType} {fr lo : Nat} {pc : Nat} {lv : List (Nat × Value)} {st : List Value} {mm : Mm} {o : Nat} (C : Cx G E cc nL RX7 rt fr lo) (d : decode cc pc = .ok (.getfield 61, 3)) (hg : isC S o 7) (k : WM G l E S (pc + 3) lv (.ref (E.2.2 (rf S mm o 8)) :: st) mm) : WM G l E S pc lv (.ref (E.2.2 o) :: st) mm := x_get2 C hg (T := TX7) (N := 12) rfl inX7 (by decide) (i := 8) (gmem 250 (by decide +kernel) rfl) rfl rfl d k
theorem getX7_65 {G : Gt} {l : Launch} {E : Ev} {S : List Sh} {cc : ByteArray} {nL : Nat} {rt : Option FieldType} {fr lo : Nat} {pc : Nat} {lv : List (Nat × Value)} {st : List Value} {mm : Mm} {o : Nat} (C : Cx G E cc nL RX7 rt fr lo) (d : decode cc pc = .ok (.getfield 65, 3)) (hg : isC S o 7) (k : WM G l E S (pc + 3) lv (.ref (E.2.2 (rf S mm o 9)) :: st) mm) : WM G l E S pc lv (.ref (E.2.2 o) :: st) mm := x_get2 C hg (T := TX7) (N := 12) rfl inX7 (by decide) (i := 9) (gmem 251 (by decide +kernel) rfl) rfl rfl d k
theorem putX7_61 {G : Gt} {l : Launch} {E : Ev} {S : List Sh} {cc : ByteArray} {nL : Nat} {rt : Option FieldType} {fr lo : Nat} {pc : Nat} {lv : List (Nat × Value)} {st : List Value} {mm : Mm} {o : Nat} {α : Type} {f : Mm → Option α} {r : α} {x : Nat} (C : Cx G E cc nL RX7 rt fr lo) (d : decode cc pc = .ok (.putfield 61, 3)) (hg : isC S o 7) (h : bd1 (pR S mm o 8 x) f = some r) (k : ∀ m1, f m1 = some r → WM G l E S (pc + 3) lv st m1) : WM G l E S pc lv (.ref (E.2.2 x) :: .ref (E.2.2 o) :: st) mm := x_putR (tn := "LosslessFabric$Plan") C hg (T := TX7) (N := 12) rfl inX7 (by decide) (i := 8) (gmem 250 (by decide +kernel) rfl) rfl tyX7 tyX7_ok nmX7 rfl rfl (by decide) (by decide +kernel) d h k
theorem putX7_65 {G : Gt} {l : Launch} {E : Ev} {S : List Sh} {cc : ByteArray} {nL : Nat} {rt : Option FieldType} {fr lo : Nat} {pc : Nat} {lv : List (Nat × Value)} {st : List Value} {mm : Mm} {o : Nat} {α : Type} {f : Mm → Option α} {r : α} {x : Nat} (C : Cx G E cc nL RX7 rt fr lo) (d : decode cc pc = .ok (.putfield 65, 3)) (hg : isC S o 7) (h : bd1 (pR S mm o 9 x) f = some r) (k : ∀ m1, f m1 = some r → WM G l E S (pc + 3) lv st m1) : WM G l E S pc lv (.ref (E.2.2 x) :: .ref (E.2.2 o) :: st) mm := x_putR (tn := "LosslessFabric$Plan") C hg (T := TX7) (N := 12) rfl inX7 (by decide) (i := 9) (gmem 251 (by decide +kernel) rfl) rfl tyX7 tyX7_ok nmX7 rfl rfl (by decide) (by decide +kernel) d h k
theorem putX7_117 {G : Gt} {l : Launch} {E : Ev} {S : List Sh} {cc : ByteArray} {nL : Nat} {rt : Option FieldType} {fr lo : Nat} {pc : Nat} {lv : List (Nat × Value)} {st : List Value} {mm : Mm} {o : Nat} {α : Type} {f : Mm → Option α} {r : α} {x : Int32} (C : Cx G E cc nL RX7 rt fr lo) (d : decode cc pc = .ok (.putfield 117, 3)) (hg : isC S o 0) (hz : x = 0 ∨ x = 1) (h : bd1 (some (u1 mm o 2 x)) f = some r) (k : ∀ m1, f m1 = some r → WM G l E S (pc + 3) lv st m1) : WM G l E S pc lv (.int x :: .ref (E.2.2 o) :: st) mm := x_putNZ C hg (T := TX0) (N := 5) rfl inX0 (by decide) (i := 2) (host := "LosslessFabric") (nmem 155 (by decide +kernel) rfl) rfl tyX0 tyX0_ok nmX0 rfl hz rfl (by decide) (by decide +kernel) d (k _ h)
theorem callX7_108 {G : Gt} {l : Launch} {E : Ev} {S : List Sh} {cc : ByteArray} {nL : Nat} {rt : Option FieldType} {fr lo : Nat} {pc : Nat} {lv : List (Nat × Value)} {rest : List Value} {mm : Mm} {α : Type} {f : Mm → Option α} {r : α} {o1 o2 : Nat} {sp dp n : Int32} (C : Cx G E cc nL RX7 rt fr lo) (d : decode cc pc = .ok (.invokestatic 108, 3)) (h1 : 1 ≤ fr) (h2 : (rest.map fun v => v.category).sum + (nativeFrameWords "java/lang/System" "arraycopy" 5 + 11) ≤ lo) (h : bd1 (cpA S mm o1 sp o2 dp n) f = some r) (k : ∀ m1, f m1 = some r → WM G l E S (pc + 3) lv rest m1) : WM G l E S pc lv (.int n :: .int dp :: .ref (E.2.2 o2) :: .int sp :: .ref (E.2.2 o1) :: rest) mm := x_acopy C d (gmem 405 (by decide +kernel) rfl) (gmem 407 (by decide +kernel) rfl) (gmem 406 (by decide +kernel) rfl) (gmem 11 (by decide +kernel) rfl) h1 h2 h k
theorem callX7_114 {G : Gt} {l : Launch} {E : Ev} {S : List Sh} {cc : ByteArray} {nL : Nat} {rt : Option FieldType} {fr lo : Nat} {pc : Nat} {lv : List (Nat × Value)} {rest : List Value} {mm : Mm} {α : Type} {f : Mm → Option α} {r : α} {o : Nat} (C : Cx G E cc nL RX7 rt fr lo) (d : decode cc pc = .ok (.invokevirtual 114, 3)) (h : bd1 (fX0_forgetSteps S mm o) f = some r) (hfr : 1 ≤ fr) (hlo : 20 ≤ lo) (hrs : (rest.map fun v => v.category).sum ≤ 8) (k : ∀ m1, f m1 = some r → WM G l E S (pc + 3) lv rest m1) : WM G l E S pc lv (.ref (E.2.2 o) :: rest) mm := by
  obtain ⟨m1, hv, hf⟩ := bd1_some h
  exact x_callV (n := 0) (As := []) (rest := rest) C (mX0_forgetSteps hv) (qX0_forgetSteps hv) (T := TX0) (N := 5) rfl (gmem 408 (by decide +kernel) rfl) (gmem 409 (by decide +kernel) rfl) (gmem 410 (by decide +kernel) rfl) (gmem 7 (by decide +kernel) rfl) (gmem 411 (by decide +kernel) rfl) (by decide +kernel) rfl hfr hlo hrs d rfl rfl (k m1 hf)
abbrev eX7_takeWhatWasRead : List (Nat × Instr × Nat) := [(0, .aload_n 0, 1), (1, .getfield 61, 3), (4, .astore_n 1, 1), (5, .aload_n 0, 1), (6, .aload_n 0, 1), (7, .getfield 65, 3), (10, .putfield 61, 3), (13, .aload_n 0, 1), (14, .aload_n 1, 1), (15, .putfield 65, 3), (18, .aload_n 0, 1), (19, .getfield 55, 3), (22, .iconst 0, 1), (23, .aload_n 0, 1), (24, .getfield 51, 3), (27, .iconst 0, 1), (28, .sipush 297, 3), (31, .invokestatic 108, 3), (34, .aload_n 0, 1), (35, .getfield 47, 3), (38, .invokevirtual 114, 3), (41, .aload_n 0, 1), (42, .getfield 47, 3), (45, .iconst 0, 1), (46, .putfield 117, 3), (49, .return_, 1)]
theorem DX7_takeWhatWasRead : (eX7_takeWhatWasRead.all fun q => decide (decode cX7_takeWhatWasRead q.1 = .ok q.2)) = true := by decide +kernel
def fX7_takeWhatWasRead (S : List Sh) (mm : Mm) (x0 : Nat) : Option (Mm) := gd S x0 7 (bd1 (pR S mm x0 8 (rf S mm x0 9)) fun m1 => bd1 (pR S m1 x0 9 (rf S mm x0 8)) fun m2 => bd1 (cpA S m2 (rf S m2 x0 7) 0 (rf S m2 x0 6) 0 297) fun m3 => bd1 (fX0_forgetSteps S m3 (rf S m3 x0 5)) fun m4 => gd S (rf S m4 x0 5) 0 (bd1 (some (u1 m4 (rf S m4 x0 5) 2 0)) fun m6 => some m6))
set_option maxHeartbeats 1000000 in
theorem mX7_takeWhatWasRead {l : Launch} {E : Ev} {S : List Sh} {mm : Mm} {x0 : Nat} {r : Mm} (h : fX7_takeWhatWasRead S mm x0 = some r) : Ml l E S yX7_takeWhatWasRead cX7_takeWhatWasRead 2 none 1 40 [.ref (E.2.2 x0)] mm none r := by
  refine Ml.of (by decide +kernel) (Nat.le_of_ble_eq_true rfl) (fun G C hQ => ?_)
  have C : Cx G E cX7_takeWhatWasRead 2 RX7 none 1 40 := C
  unfold fX7_takeWhatWasRead at h
  obtain ⟨g0, h⟩ := gd_some h
  show WM G l E S 0 [(0, .ref (E.2.2 x0))] [] mm
  refine x_aload_n C (dq DX7_takeWhatWasRead 0 rfl) rfl 0 rfl ?_
  refine getX7_61 C (dq DX7_takeWhatWasRead 1 rfl) g0 ?_
  refine x_astore_n (lv' := [(1, .ref (E.2.2 (rf S mm x0 8))), (0, .ref (E.2.2 x0))]) C (dq DX7_takeWhatWasRead 2 rfl) rfl (by decide) rfl ?_
  refine x_aload_n C (dq DX7_takeWhatWasRead 3 rfl) rfl 1 rfl ?_
  refine x_pc 6 rfl ?_
  refine x_aload_n C (dq DX7_takeWhatWasRead 4 rfl) rfl 1 rfl ?_
  refine getX7_65 C (dq DX7_takeWhatWasRead 5 rfl) g0 ?_
  refine putX7_61 C (dq DX7_takeWhatWasRead 6 rfl) g0 h (fun m1 h => ?_)
  refine x_aload_n C (dq DX7_takeWhatWasRead 7 rfl) rfl 1 rfl ?_
  refine x_aload_n C (dq DX7_takeWhatWasRead 8 rfl) rfl 0 rfl ?_
  refine x_pc 15 rfl ?_
  refine putX7_65 C (dq DX7_takeWhatWasRead 9 rfl) g0 h (fun m2 h => ?_)
  refine x_aload_n C (dq DX7_takeWhatWasRead 10 rfl) rfl 1 rfl ?_
  refine getX7_55 C (dq DX7_takeWhatWasRead 11 rfl) g0 ?_
  refine x_iconst (v := 0) C (dq DX7_takeWhatWasRead 12 rfl) (by decide) ?_
  refine x_aload_n C (dq DX7_takeWhatWasRead 13 rfl) rfl 1 rfl ?_
  refine x_pc 24 rfl ?_
  refine getX7_51 C (dq DX7_takeWhatWasRead 14 rfl) g0 ?_
  refine x_iconst (v := 0) C (dq DX7_takeWhatWasRead 15 rfl) (by decide) ?_
  refine x_sipush (v := 297) C (dq DX7_takeWhatWasRead 16 rfl) (by decide) ?_
  refine callX7_108 C (dq DX7_takeWhatWasRead 17 rfl) (by decide) (Nat.le_of_ble_eq_true rfl) h (fun m3 h => ?_)
  refine x_aload_n C (dq DX7_takeWhatWasRead 18 rfl) rfl 1 rfl ?_
  refine x_pc 35 rfl ?_
  refine getX7_47 C (dq DX7_takeWhatWasRead 19 rfl) g0 ?_
  refine callX7_114 C (dq DX7_takeWhatWasRead 20 rfl) h (by decide) (by decide) (Nat.le_of_ble_eq_true rfl) (fun m4 h => ?_)
  refine x_aload_n C (dq DX7_takeWhatWasRead 21 rfl) rfl 1 rfl ?_
  refine getX7_47 C (dq DX7_takeWhatWasRead 22 rfl) g0 ?_
  refine x_iconst (v := 0) C (dq DX7_takeWhatWasRead 23 rfl) (by decide) ?_
  refine x_pc 46 rfl ?_
  obtain ⟨g5, h⟩ := gd_some h
  refine putX7_117 C (dq DX7_takeWhatWasRead 24 rfl) g5 (Or.inl rfl) h (fun m6 h => ?_)
  cases h
  exact x_vret C (dq DX7_takeWhatWasRead 25 rfl) hQ
set_option maxHeartbeats 1000000 in
theorem qX7_takeWhatWasRead {S : List Sh} {mm : Mm} {x0 : Nat} {r : Mm} (h : fX7_takeWhatWasRead S mm x0 = some r) : isC S x0 7 := by
  unfold fX7_takeWhatWasRead at h
  exact (gd_some h).1
theorem getX7_19 {G : Gt} {l : Launch} {E : Ev} {S : List Sh} {cc : ByteArray} {nL : Nat} {rt : Option FieldType} {fr lo : Nat} {pc : Nat} {lv : List (Nat × Value)} {st : List Value} {mm : Mm} {o : Nat} (C : Cx G E cc nL RX7 rt fr lo) (d : decode cc pc = .ok (.getfield 19, 3)) (hg : isC S o 7) (k : WM G l E S (pc + 3) lv (.ref (E.2.2 (rf S mm o 1)) :: st) mm) : WM G l E S pc lv (.ref (E.2.2 o) :: st) mm := x_get2 C hg (T := TX7) (N := 12) rfl inX7 (by decide) (i := 1) (gmem 243 (by decide +kernel) rfl) rfl rfl d k
theorem getX7_68 {G : Gt} {l : Launch} {E : Ev} {S : List Sh} {cc : ByteArray} {nL : Nat} {rt : Option FieldType} {fr lo : Nat} {pc : Nat} {lv : List (Nat × Value)} {st : List Value} {mm : Mm} {o : Nat} (C : Cx G E cc nL RX7 rt fr lo) (d : decode cc pc = .ok (.getfield 68, 3)) (hg : isC S o 7) (k : WM G l E S (pc + 3) lv (.int (mm.1 o 10) :: st) mm) : WM G l E S pc lv (.ref (E.2.2 o) :: st) mm := x_get0 C hg (T := TX7) (N := 12) rfl inX7 (by decide) (i := 10) (gmem 252 (by decide +kernel) rfl) rfl rfl d k
theorem getX7_92 {G : Gt} {l : Launch} {E : Ev} {S : List Sh} {cc : ByteArray} {nL : Nat} {rt : Option FieldType} {fr lo : Nat} {pc : Nat} {lv : List (Nat × Value)} {st : List Value} {mm : Mm} {o : Nat} (C : Cx G E cc nL RX7 rt fr lo) (d : decode cc pc = .ok (.getfield 92, 3)) (hg : isC S o 4) (k : WM G l E S (pc + 3) lv (.int (mm.1 o 4) :: st) mm) : WM G l E S pc lv (.ref (E.2.2 o) :: st) mm := x_getN0 C hg (T := TX4) (N := 7) rfl inX4 (by decide) (i := 4) (host := "LosslessFabric") (nmem 42 (by decide +kernel) rfl) rfl rfl d k
theorem getX7_99 {G : Gt} {l : Launch} {E : Ev} {S : List Sh} {cc : ByteArray} {nL : Nat} {rt : Option FieldType} {fr lo : Nat} {pc : Nat} {lv : List (Nat × Value)} {st : List Value} {mm : Mm} {o : Nat} (C : Cx G E cc nL RX7 rt fr lo) (d : decode cc pc = .ok (.getfield 99, 3)) (hg : isC S o 2) (k : WM G l E S (pc + 3) lv (.int (mm.1 o 0) :: st) mm) : WM G l E S pc lv (.ref (E.2.2 o) :: st) mm := x_getN0 C hg (T := TX2) (N := 3) rfl inX2 (by decide) (i := 0) (host := "LosslessFabric") (nmem 70 (by decide +kernel) rfl) rfl rfl d k
theorem getX7_102 {G : Gt} {l : Launch} {E : Ev} {S : List Sh} {cc : ByteArray} {nL : Nat} {rt : Option FieldType} {fr lo : Nat} {pc : Nat} {lv : List (Nat × Value)} {st : List Value} {mm : Mm} {o : Nat} (C : Cx G E cc nL RX7 rt fr lo) (d : decode cc pc = .ok (.getfield 102, 3)) (hg : isC S o 2) (k : WM G l E S (pc + 3) lv (.int (mm.1 o 1) :: st) mm) : WM G l E S pc lv (.ref (E.2.2 o) :: st) mm := x_getN0 C hg (T := TX2) (N := 3) rfl inX2 (by decide) (i := 1) (host := "LosslessFabric") (nmem 72 (by decide +kernel) rfl) rfl rfl d k
theorem putX7_68 {G : Gt} {l : Launch} {E : Ev} {S : List Sh} {cc : ByteArray} {nL : Nat} {rt : Option FieldType} {fr lo : Nat} {pc : Nat} {lv : List (Nat × Value)} {st : List Value} {mm : Mm} {o : Nat} {α : Type} {f : Mm → Option α} {r : α} {x : Int32} (C : Cx G E cc nL RX7 rt fr lo) (d : decode cc pc = .ok (.putfield 68, 3)) (hg : isC S o 7) (h : bd1 (some (u1 mm o 10 x)) f = some r) (k : ∀ m1, f m1 = some r → WM G l E S (pc + 3) lv st m1) : WM G l E S pc lv (.int x :: .ref (E.2.2 o) :: st) mm := x_putI C hg (T := TX7) (N := 12) rfl inX7 (by decide) (i := 10) (gmem 252 (by decide +kernel) rfl) rfl tyX7 tyX7_ok nmX7 rfl rfl (by decide) (by decide +kernel) d (k _ h)
theorem putX7_72 {G : Gt} {l : Launch} {E : Ev} {S : List Sh} {cc : ByteArray} {nL : Nat} {rt : Option FieldType} {fr lo : Nat} {pc : Nat} {lv : List (Nat × Value)} {st : List Value} {mm : Mm} {o : Nat} {α : Type} {f : Mm → Option α} {r : α} {x : Int32} (C : Cx G E cc nL RX7 rt fr lo) (d : decode cc pc = .ok (.putfield 72, 3)) (hg : isC S o 7) (h : bd1 (some (u1 mm o 11 x)) f = some r) (k : ∀ m1, f m1 = some r → WM G l E S (pc + 3) lv st m1) : WM G l E S pc lv (.int x :: .ref (E.2.2 o) :: st) mm := x_putI C hg (T := TX7) (N := 12) rfl inX7 (by decide) (i := 11) (gmem 253 (by decide +kernel) rfl) rfl tyX7 tyX7_ok nmX7 rfl rfl (by decide) (by decide +kernel) d (k _ h)
theorem putX7_75 {G : Gt} {l : Launch} {E : Ev} {S : List Sh} {cc : ByteArray} {nL : Nat} {rt : Option FieldType} {fr lo : Nat} {pc : Nat} {lv : List (Nat × Value)} {st : List Value} {mm : Mm} {o : Nat} {α : Type} {f : Mm → Option α} {r : α} {x : Int32} (C : Cx G E cc nL RX7 rt fr lo) (d : decode cc pc = .ok (.putfield 75, 3)) (hg : isC S o 4) (h : bd1 (some (u1 mm o 1 x)) f = some r) (k : ∀ m1, f m1 = some r → WM G l E S (pc + 3) lv st m1) : WM G l E S pc lv (.int x :: .ref (E.2.2 o) :: st) mm := x_putNI C hg (T := TX4) (N := 7) rfl inX4 (by decide) (i := 1) (host := "LosslessFabric") (nmem 37 (by decide +kernel) rfl) rfl tyX4 tyX4_ok nmX4 rfl rfl (by decide) (by decide +kernel) d (k _ h)
theorem callX7_82 {G : Gt} {l : Launch} {E : Ev} {S : List Sh} {cc : ByteArray} {nL : Nat} {rt : Option FieldType} {fr lo : Nat} {pc : Nat} {lv : List (Nat × Value)} {rest : List Value} {mm : Mm} {α : Type} {f : Mm → Option α} {r : α} {o : Nat} {a0 : Int32} (C : Cx G E cc nL RX7 rt fr lo) (d : decode cc pc = .ok (.invokevirtual 82, 3)) (h : bd1 (fX4_rewind S mm o a0) f = some r) (hfr : 2 ≤ fr) (hlo : 50 ≤ lo) (hrs : (rest.map fun v => v.category).sum ≤ 8) (k : ∀ m1, f m1 = some r → WM G l E S (pc + 3) lv rest m1) : WM G l E S pc lv (.int a0 :: .ref (E.2.2 o) :: rest) mm := by
  obtain ⟨m1, hv, hf⟩ := bd1_some h
  exact x_callV (n := 1) (As := [.int a0]) (rest := rest) C (mX4_rewind hv) (qX4_rewind hv) (T := TX4) (N := 7) rfl (gmem 291 (by decide +kernel) rfl) (gmem 292 (by decide +kernel) rfl) (gmem 293 (by decide +kernel) rfl) (gmem 2 (by decide +kernel) rfl) (gmem 294 (by decide +kernel) rfl) (by decide +kernel) rfl hfr hlo hrs d rfl rfl (k m1 hf)
theorem callX7_85 {G : Gt} {l : Launch} {E : Ev} {S : List Sh} {cc : ByteArray} {nL : Nat} {rt : Option FieldType} {fr lo : Nat} {pc : Nat} {lv : List (Nat × Value)} {rest : List Value} {mm : Mm} {α : Type} {f : Mm → Option α} {r : α} {o : Nat} {a0 : Nat} {a1 : Nat} (C : Cx G E cc nL RX7 rt fr lo) (d : decode cc pc = .ok (.invokevirtual 85, 3)) (h : bd1 (fX2_begin S mm o a0 a1) f = some r) (hfr : 2 ≤ fr) (hlo : 44 ≤ lo) (hrs : (rest.map fun v => v.category).sum ≤ 8) (k : ∀ m1, f m1 = some r → WM G l E S (pc + 3) lv rest m1) : WM G l E S pc lv (.ref (E.2.2 a1) :: .ref (E.2.2 a0) :: .ref (E.2.2 o) :: rest) mm := by
  obtain ⟨m1, hv, hf⟩ := bd1_some h
  exact x_callV (n := 2) (As := [.ref (E.2.2 a0), .ref (E.2.2 a1)]) (rest := rest) C (mX2_begin hv) (qX2_begin hv) (T := TX2) (N := 3) rfl (gmem 298 (by decide +kernel) rfl) (gmem 299 (by decide +kernel) rfl) (gmem 300 (by decide +kernel) rfl) (gmem 3 (by decide +kernel) rfl) (gmem 301 (by decide +kernel) rfl) (by decide +kernel) rfl hfr hlo hrs d rfl rfl (k m1 hf)
theorem callX7_89 {G : Gt} {l : Launch} {E : Ev} {S : List Sh} {cc : ByteArray} {nL : Nat} {rt : Option FieldType} {fr lo : Nat} {pc : Nat} {lv : List (Nat × Value)} {rest : List Value} {mm : Mm} {α : Type} {f : Mm → Option α} {r : α} {o : Nat} (C : Cx G E cc nL RX7 rt fr lo) (d : decode cc pc = .ok (.invokevirtual 89, 3)) (h : bd1 (fX4_next S mm o) f = some r) (hfr : 3 ≤ fr) (hlo : 69 ≤ lo) (hrs : (rest.map fun v => v.category).sum ≤ 8) (k : ∀ m1, f m1 = some r → WM G l E S (pc + 3) lv rest m1) : WM G l E S pc lv (.ref (E.2.2 o) :: rest) mm := by
  obtain ⟨m1, hv, hf⟩ := bd1_some h
  exact x_callV (n := 0) (As := []) (rest := rest) C (mX4_next hv) (qX4_next hv) (T := TX4) (N := 7) rfl (gmem 303 (by decide +kernel) rfl) (gmem 304 (by decide +kernel) rfl) (gmem 305 (by decide +kernel) rfl) (gmem 2 (by decide +kernel) rfl) (gmem 306 (by decide +kernel) rfl) (by decide +kernel) rfl hfr hlo hrs d rfl rfl (k m1 hf)
theorem callX7_95 {G : Gt} {l : Launch} {E : Ev} {S : List Sh} {cc : ByteArray} {nL : Nat} {rt : Option FieldType} {fr lo : Nat} {pc : Nat} {lv : List (Nat × Value)} {rest : List Value} {mm : Mm} {α : Type} {f : Int32 → Mm → Option α} {r : α} {o : Nat} {a0 : Nat} {a1 : Nat} {a2 : Nat} (C : Cx G E cc nL RX7 rt fr lo) (d : decode cc pc = .ok (.invokevirtual 95, 3)) (h : bd2 (fX2_readLine S mm o a0 a1 a2) f = some r) (hfr : 6 ≤ fr) (hlo : 141 ≤ lo) (hrs : (rest.map fun v => v.category).sum ≤ 8) (k : ∀ v m1, f v m1 = some r → WM G l E S (pc + 3) lv (.int v :: rest) m1) : WM G l E S pc lv (.ref (E.2.2 a2) :: .ref (E.2.2 a1) :: .ref (E.2.2 a0) :: .ref (E.2.2 o) :: rest) mm := by
  obtain ⟨v, m1, hv, hf⟩ := bd2_some h
  exact x_callV (n := 3) (As := [.ref (E.2.2 a0), .ref (E.2.2 a1), .ref (E.2.2 a2)]) (rest := rest) C (mX2_readLine hv) (qX2_readLine hv) (T := TX2) (N := 3) rfl (gmem 334 (by decide +kernel) rfl) (gmem 335 (by decide +kernel) rfl) (gmem 336 (by decide +kernel) rfl) (gmem 3 (by decide +kernel) rfl) (gmem 337 (by decide +kernel) rfl) (by decide +kernel) rfl hfr hlo hrs d rfl rfl (k v m1 hf)
theorem callX7_105 {G : Gt} {l : Launch} {E : Ev} {S : List Sh} {cc : ByteArray} {nL : Nat} {rt : Option FieldType} {fr lo : Nat} {pc : Nat} {lv : List (Nat × Value)} {rest : List Value} {mm : Mm} {α : Type} {f : Mm → Option α} {r : α} {o : Nat} (C : Cx G E cc nL RX7 rt fr lo) (d : decode cc pc = .ok (.invokevirtual 105, 3)) (h : bd1 (fX7_takeWhatWasRead S mm o) f = some r) (hfr : 2 ≤ fr) (hlo : 61 ≤ lo) (hrs : (rest.map fun v => v.category).sum ≤ 8) (k : ∀ m1, f m1 = some r → WM G l E S (pc + 3) lv rest m1) : WM G l E S pc lv (.ref (E.2.2 o) :: rest) mm := by
  obtain ⟨m1, hv, hf⟩ := bd1_some h
  exact x_callV (n := 0) (As := []) (rest := rest) C (mX7_takeWhatWasRead hv) (qX7_takeWhatWasRead hv) (T := TX7) (N := 12) rfl (gmem 401 (by decide +kernel) rfl) (gmem 403 (by decide +kernel) rfl) (gmemS 14 (by decide +kernel) rfl) (gmem 1 (by decide +kernel) rfl) (gmem 404 (by decide +kernel) rfl) (by decide +kernel) rfl hfr hlo hrs d rfl rfl (k m1 hf)
abbrev eX7_text : List (Nat × Instr × Nat) := [(0, .iload_n 1, 1), (1, .ifCond .lt 14, 3), (4, .iload_n 1, 1), (5, .aload_n 0, 1), (6, .getfield 10, 3), (9, .getfield 75, 3), (12, .if_icmp .le 6, 3), (15, .bipush (-2), 2), (17, .ireturn, 1), (18, .aload_n 0, 1), (19, .getfield 10, 3), (22, .iload_n 1, 1), (23, .invokevirtual 82, 3), (26, .aload_n 0, 1), (27, .getfield 19, 3), (30, .aload_n 0, 1), (31, .getfield 65, 3), (34, .aload_n 0, 1), (35, .getfield 55, 3), (38, .invokevirtual 85, 3), (41, .iconst 0, 1), (42, .istore_n 2, 1), (43, .aload_n 0, 1), (44, .getfield 10, 3), (47, .invokevirtual 89, 3), (50, .iload_n 2, 1), (51, .sipush 700, 3), (54, .if_icmp .ge 48, 3), (57, .aload_n 0, 1), (58, .getfield 10, 3), (61, .getfield 92, 3), (64, .ifCond .eq 38, 3), (67, .aload_n 0, 1), (68, .getfield 19, 3), (71, .aload_n 0, 1), (72, .getfield 10, 3), (75, .aload_n 0, 1), (76, .getfield 65, 3), (79, .aload_n 0, 1), (80, .getfield 55, 3), (83, .invokevirtual 95, 3), (86, .ifCond .eq 16, 3), (89, .iinc 2 1, 3), (92, .aload_n 0, 1), (93, .getfield 10, 3), (96, .invokevirtual 89, 3), (99, .goto (-49), 3), (102, .aload_n 0, 1), (103, .getfield 10, 3), (106, .iconst 0, 1), (107, .putfield 75, 3), (110, .aload_n 0, 1), (111, .aload_n 0, 1), (112, .getfield 19, 3), (115, .getfield 99, 3), (118, .putfield 68, 3), (121, .aload_n 0, 1), (122, .aload_n 0, 1), (123, .getfield 19, 3), (126, .getfield 102, 3), (129, .putfield 72, 3), (132, .aload_n 0, 1), (133, .getfield 68, 3), (136, .ifCond .eq 5, 3), (139, .iconst (-1), 1), (140, .ireturn, 1), (141, .aload_n 0, 1), (142, .invokevirtual 105, 3), (145, .iload_n 2, 1), (146, .ireturn, 1)]
theorem DX7_text : (eX7_text.all fun q => decide (decode cX7_text q.1 = .ok q.2)) = true := by decide +kernel
def jX7_text_15 (S : List Sh) (mm : Mm) (x0 : Nat)  : Option (Int32 × Mm) := some ((-2), mm)
def bX7_text_50 (S : List Sh) (x0 : Nat) (x2 : Int32) (mm : Mm) : Option ((Int32 × Mm) ⊕ (Int32 × Mm)) := if 700 ≤ x2 then (some (.inr (x2, mm))) else (gd S (rf S mm x0 0) 4 (if (mm.1 (rf S mm x0 0) 4) = 0 then (some (.inr (x2, mm))) else (bd2 (fX2_readLine S mm (rf S mm x0 1) (rf S mm x0 0) (rf S mm x0 9) (rf S mm x0 7)) fun a6 m7 => if a6 = 0 then (some (.inr (x2, m7))) else (bd1 (fX4_next S m7 (rf S m7 x0 0)) fun m8 => some (.inl (x2 + 1, m8))))))
def jX7_text_102 (S : List Sh) (mm : Mm) (x0 : Nat) (x2 : Int32)  : Option (Int32 × Mm) := gd S (rf S mm x0 0) 4 (bd1 (some (u1 mm (rf S mm x0 0) 1 0)) fun m12 => gd S (rf S m12 x0 1) 2 (bd1 (some (u1 m12 x0 10 (m12.1 (rf S m12 x0 1) 0))) fun m14 => gd S (rf S m14 x0 1) 2 (bd1 (some (u1 m14 x0 11 (m14.1 (rf S m14 x0 1) 1))) fun m16 => if (m16.1 x0 10) = 0 then (bd1 (fX7_takeWhatWasRead S m16 x0) fun m17 => some (x2, m17)) else (some ((-1), m16)))))
def fX7_text (S : List Sh) (mm : Mm) (x0 : Nat) (x1 : Int32) : Option (Int32 × Mm) := gd S x0 7 (if x1 < 0 then (jX7_text_15 S mm x0) else (gd S (rf S mm x0 0) 4 (if x1 ≤ (mm.1 (rf S mm x0 0) 1) then (bd1 (fX4_rewind S mm (rf S mm x0 0) x1) fun m2 => bd1 (fX2_begin S m2 (rf S m2 x0 1) (rf S m2 x0 9) (rf S m2 x0 7)) fun m3 => bd1 (fX4_next S m3 (rf S m3 x0 0)) fun m4 => bd1 (lp (fun s9 => bX7_text_50 S x0 s9.1 s9.2) fu (0, m4)) fun y10 => jX7_text_102 S y10.2 x0 y10.1) else (jX7_text_15 S mm x0))))
set_option maxHeartbeats 1000000 in
theorem tX7_text_15 {G : Gt} {l : Launch} {E : Ev} {S : List Sh} {mm : Mm} {x0 : Nat}  {r : Int32 × Mm} (C : Cx G E cX7_text 3 RX7 (some .int) 6 141) (g0 : isC S x0 7) (h : jX7_text_15 S mm x0 = some r) (hQ : RQ G E S (some (.int r.1)) r.2) : WM G l E S 15 [(0, .ref (E.2.2 x0))] [] mm := by
  unfold jX7_text_15 at h
  refine x_bipush (v := (-2)) C (dq DX7_text 7 rfl) (by decide) ?_
  cases h
  exact x_iret C (dq DX7_text 8 rfl) hQ
set_option maxHeartbeats 1000000 in
theorem tX7_text_50 {G : Gt} {l : Launch} {E : Ev} {S : List Sh} {x0 : Nat} {x2 : Int32} {mm : Mm} {r : (Int32 × Mm) ⊕ (Int32 × Mm)} (C : Cx G E cX7_text 3 RX7 (some .int) 6 141) (g0 : isC S x0 7) (h : bX7_text_50 S x0 x2 mm = some r) (kb : ∀ z : Int32 × Mm, r = .inl z → WM G l E S 50 [(0, .ref (E.2.2 x0)), (2, .int z.1)] [] z.2) (kx : ∀ z : Int32 × Mm, r = .inr z → WM G l E S 102 [(0, .ref (E.2.2 x0)), (2, .int z.1)] [] z.2) : WM G l E S 50 [(0, .ref (E.2.2 x0)), (2, .int x2)] [] mm := by
  unfold bX7_text_50 at h
  refine x_iload_n C (dq DX7_text 25 rfl) rfl 1 rfl ?_
  refine x_sipush (v := 700) C (dq DX7_text 26 rfl) (by decide) ?_
  refine x_icmp_ge (tgt := 102) C (dq DX7_text 27 rfl) (by decide) h (fun h => ?_) (fun h => ?_)
  · cases h
    exact x_lv [0, 1] rfl (kx (x2, mm) rfl)
  · refine x_aload_n C (dq DX7_text 28 rfl) rfl 0 rfl ?_
    refine x_pc 58 rfl ?_
    refine getX7_10 C (dq DX7_text 29 rfl) g0 ?_
    obtain ⟨g5, h⟩ := gd_some h
    refine getX7_92 C (dq DX7_text 30 rfl) g5 ?_
    refine x_if_eq (tgt := 102) C (dq DX7_text 31 rfl) (by decide) h (fun h => ?_) (fun h => ?_)
    · cases h
      exact x_lv [0, 1] rfl (kx (x2, mm) rfl)
    · refine x_aload_n C (dq DX7_text 32 rfl) rfl 0 rfl ?_
      refine getX7_19 C (dq DX7_text 33 rfl) g0 ?_
      refine x_pc 71 rfl ?_
      refine x_aload_n C (dq DX7_text 34 rfl) rfl 0 rfl ?_
      refine getX7_10 C (dq DX7_text 35 rfl) g0 ?_
      refine x_aload_n C (dq DX7_text 36 rfl) rfl 0 rfl ?_
      refine getX7_65 C (dq DX7_text 37 rfl) g0 ?_
      refine x_aload_n C (dq DX7_text 38 rfl) rfl 0 rfl ?_
      refine x_pc 80 rfl ?_
      refine getX7_55 C (dq DX7_text 39 rfl) g0 ?_
      refine callX7_95 C (dq DX7_text 40 rfl) h (by decide) (by decide) (Nat.le_of_ble_eq_true rfl) (fun a6 m7 h => ?_)
      refine x_if_eq (tgt := 102) C (dq DX7_text 41 rfl) (by decide) h (fun h => ?_) (fun h => ?_)
      · cases h
        exact x_lv [0, 1] rfl (kx (x2, m7) rfl)
      · refine x_iinc (v := x2 + 1) (lv' := [(2, .int (x2 + 1)), (0, .ref (E.2.2 x0))]) C (dq DX7_text 42 rfl) 1 rfl rfl (by decide) rfl ?_
        refine x_aload_n C (dq DX7_text 43 rfl) rfl 1 rfl ?_
        refine x_pc 93 rfl ?_
        refine getX7_10 C (dq DX7_text 44 rfl) g0 ?_
        refine callX7_89 C (dq DX7_text 45 rfl) h (by decide) (by decide) (Nat.le_of_ble_eq_true rfl) (fun m8 h => ?_)
        refine x_goto (tgt := 50) C (dq DX7_text 46 rfl) (by decide) ?_
        cases h
        exact x_lv [1, 0] rfl (kb (x2 + 1, m8) rfl)
set_option maxHeartbeats 1000000 in
theorem tX7_text_102 {G : Gt} {l : Launch} {E : Ev} {S : List Sh} {mm : Mm} {x0 : Nat} {x2 : Int32}  {r : Int32 × Mm} (C : Cx G E cX7_text 3 RX7 (some .int) 6 141) (g0 : isC S x0 7) (h : jX7_text_102 S mm x0 x2 = some r) (hQ : RQ G E S (some (.int r.1)) r.2) : WM G l E S 102 [(0, .ref (E.2.2 x0)), (2, .int x2)] [] mm := by
  unfold jX7_text_102 at h
  refine x_aload_n C (dq DX7_text 47 rfl) rfl 0 rfl ?_
  refine getX7_10 C (dq DX7_text 48 rfl) g0 ?_
  refine x_iconst (v := 0) C (dq DX7_text 49 rfl) (by decide) ?_
  obtain ⟨g11, h⟩ := gd_some h
  refine putX7_75 C (dq DX7_text 50 rfl) g11 h (fun m12 h => ?_)
  refine x_pc 110 rfl ?_
  refine x_aload_n C (dq DX7_text 51 rfl) rfl 0 rfl ?_
  refine x_aload_n C (dq DX7_text 52 rfl) rfl 0 rfl ?_
  refine getX7_19 C (dq DX7_text 53 rfl) g0 ?_
  obtain ⟨g13, h⟩ := gd_some h
  refine getX7_99 C (dq DX7_text 54 rfl) g13 ?_
  refine putX7_68 C (dq DX7_text 55 rfl) g0 h (fun m14 h => ?_)
  refine x_pc 121 rfl ?_
  refine x_aload_n C (dq DX7_text 56 rfl) rfl 0 rfl ?_
  refine x_aload_n C (dq DX7_text 57 rfl) rfl 0 rfl ?_
  refine getX7_19 C (dq DX7_text 58 rfl) g0 ?_
  obtain ⟨g15, h⟩ := gd_some h
  refine getX7_102 C (dq DX7_text 59 rfl) g15 ?_
  refine putX7_72 C (dq DX7_text 60 rfl) g0 h (fun m16 h => ?_)
  refine x_pc 132 rfl ?_
  refine x_aload_n C (dq DX7_text 61 rfl) rfl 0 rfl ?_
  refine getX7_68 C (dq DX7_text 62 rfl) g0 ?_
  refine x_if_eq (tgt := 141) C (dq DX7_text 63 rfl) (by decide) h (fun h => ?_) (fun h => ?_)
  · refine x_aload_n C (dq DX7_text 66 rfl) rfl 0 rfl ?_
    refine callX7_105 C (dq DX7_text 67 rfl) h (by decide) (by decide) (Nat.le_of_ble_eq_true rfl) (fun m17 h => ?_)
    refine x_pc 145 rfl ?_
    refine x_iload_n C (dq DX7_text 68 rfl) rfl 1 rfl ?_
    cases h
    exact x_iret C (dq DX7_text 69 rfl) hQ
  · refine x_iconst (v := (-1)) C (dq DX7_text 64 rfl) (by decide) ?_
    cases h
    exact x_iret C (dq DX7_text 65 rfl) hQ
set_option maxHeartbeats 1000000 in
theorem mX7_text {l : Launch} {E : Ev} {S : List Sh} {mm : Mm} {x0 : Nat} {x1 : Int32} {r : Int32 × Mm} (h : fX7_text S mm x0 x1 = some r) : Ml l E S yX7_text cX7_text 3 (some .int) 6 141 [.ref (E.2.2 x0), .int x1] mm (some (.int r.1)) r.2 := by
  refine Ml.of (by decide +kernel) (Nat.le_of_ble_eq_true rfl) (fun G C hQ => ?_)
  have C : Cx G E cX7_text 3 RX7 (some .int) 6 141 := C
  unfold fX7_text at h
  obtain ⟨g0, h⟩ := gd_some h
  show WM G l E S 0 [(0, .ref (E.2.2 x0)), (1, .int x1)] [] mm
  refine x_iload_n C (dq DX7_text 0 rfl) rfl 1 rfl ?_
  refine x_if_lt (tgt := 15) C (dq DX7_text 1 rfl) (by decide) h (fun h => ?_) (fun h => ?_)
  · exact x_lv [0] rfl (tX7_text_15 C g0 h hQ)
  · refine x_iload_n C (dq DX7_text 2 rfl) rfl 1 rfl ?_
    refine x_aload_n C (dq DX7_text 3 rfl) rfl 0 rfl ?_
    refine x_pc 6 rfl ?_
    refine getX7_10 C (dq DX7_text 4 rfl) g0 ?_
    obtain ⟨g1, h⟩ := gd_some h
    refine getX7_75 C (dq DX7_text 5 rfl) g1 ?_
    refine x_icmp_le (tgt := 18) C (dq DX7_text 6 rfl) (by decide) h (fun h => ?_) (fun h => ?_)
    · refine x_aload_n C (dq DX7_text 9 rfl) rfl 0 rfl ?_
      refine getX7_10 C (dq DX7_text 10 rfl) g0 ?_
      refine x_pc 22 rfl ?_
      refine x_iload_n C (dq DX7_text 11 rfl) rfl 1 rfl ?_
      refine callX7_82 C (dq DX7_text 12 rfl) h (by decide) (by decide) (Nat.le_of_ble_eq_true rfl) (fun m2 h => ?_)
      refine x_aload_n C (dq DX7_text 13 rfl) rfl 0 rfl ?_
      refine getX7_19 C (dq DX7_text 14 rfl) g0 ?_
      refine x_aload_n C (dq DX7_text 15 rfl) rfl 0 rfl ?_
      refine x_pc 31 rfl ?_
      refine getX7_65 C (dq DX7_text 16 rfl) g0 ?_
      refine x_aload_n C (dq DX7_text 17 rfl) rfl 0 rfl ?_
      refine getX7_55 C (dq DX7_text 18 rfl) g0 ?_
      refine callX7_85 C (dq DX7_text 19 rfl) h (by decide) (by decide) (Nat.le_of_ble_eq_true rfl) (fun m3 h => ?_)
      refine x_iconst (v := 0) C (dq DX7_text 20 rfl) (by decide) ?_
      refine x_pc 42 rfl ?_
      refine x_istore_n (lv' := [(2, .int 0), (0, .ref (E.2.2 x0)), (1, .int x1)]) C (dq DX7_text 21 rfl) rfl (by decide) rfl ?_
      refine x_aload_n C (dq DX7_text 22 rfl) rfl 1 rfl ?_
      refine getX7_10 C (dq DX7_text 23 rfl) g0 ?_
      refine callX7_89 C (dq DX7_text 24 rfl) h (by decide) (by decide) (Nat.le_of_ble_eq_true rfl) (fun m4 h => ?_)
      refine x_lv [1, 0] rfl ?_
      refine x_loop (s0 := (0, m4)) (fun s9 => WM G l E S 50 [(0, .ref (E.2.2 x0)), (2, .int s9.1)] [] s9.2) h (fun s9 r hb kb kx => tX7_text_50 C g0 hb kb (fun y10 hy => ?_))
      have h := kx y10 hy
      clear kx kb hb hy
      exact x_lv [0, 1] rfl (tX7_text_102 C g0 h hQ)
    · exact x_lv [0] rfl (tX7_text_15 C g0 h hQ)
set_option maxHeartbeats 1000000 in
theorem qX7_text {S : List Sh} {mm : Mm} {x0 : Nat} {x1 : Int32} {r : Int32 × Mm} (h : fX7_text S mm x0 x1 = some r) : isC S x0 7 := by
  unfold fX7_text at h
  exact (gd_some h).1
theorem getX7_72 {G : Gt} {l : Launch} {E : Ev} {S : List Sh} {cc : ByteArray} {nL : Nat} {rt : Option FieldType} {fr lo : Nat} {pc : Nat} {lv : List (Nat × Value)} {st : List Value} {mm : Mm} {o : Nat} (C : Cx G E cc nL RX7 rt fr lo) (d : decode cc pc = .ok (.getfield 72, 3)) (hg : isC S o 7) (k : WM G l E S (pc + 3) lv (.int (mm.1 o 11) :: st) mm) : WM G l E S pc lv (.ref (E.2.2 o) :: st) mm := x_get0 C hg (T := TX7) (N := 12) rfl inX7 (by decide) (i := 11) (gmem 253 (by decide +kernel) rfl) rfl rfl d k
abbrev eX7_fault : List (Nat × Instr × Nat) := [(0, .iload_n 1, 1), (1, .ifCond .ne 8, 3), (4, .aload_n 0, 1), (5, .getfield 68, 3), (8, .ireturn, 1), (9, .iload_n 1, 1), (10, .iconst 1, 1), (11, .if_icmp .ne 10, 3), (14, .aload_n 0, 1), (15, .getfield 72, 3), (18, .goto 4, 3), (21, .iconst (-1), 1), (22, .ireturn, 1)]
theorem DX7_fault : (eX7_fault.all fun q => decide (decode cX7_fault q.1 = .ok q.2)) = true := by decide +kernel
def jX7_fault_22 (S : List Sh) (mm : Mm) (x0 : Nat) (p0 : Int32) : Option (Int32) := some p0
def fX7_fault (S : List Sh) (mm : Mm) (x0 : Nat) (x1 : Int32) : Option (Int32) := gd S x0 7 (if ¬ x1 = 0 then (if ¬ x1 = 1 then (jX7_fault_22 S mm x0 (-1)) else (jX7_fault_22 S mm x0 (mm.1 x0 11))) else (some (mm.1 x0 10)))
set_option maxHeartbeats 1000000 in
theorem tX7_fault_22 {G : Gt} {l : Launch} {E : Ev} {S : List Sh} {mm : Mm} {x0 : Nat} {p0 : Int32} {r : Int32} (C : Cx G E cX7_fault 2 RX7 (some .int) 0 0) (g0 : isC S x0 7) (h : jX7_fault_22 S mm x0 p0 = some r) (hQ : RQ G E S (some (.int r)) mm) : WM G l E S 22 [(0, .ref (E.2.2 x0))] [.int p0] mm := by
  unfold jX7_fault_22 at h
  cases h
  exact x_iret C (dq DX7_fault 12 rfl) hQ
set_option maxHeartbeats 1000000 in
theorem mX7_fault {l : Launch} {E : Ev} {S : List Sh} {mm : Mm} {x0 : Nat} {x1 : Int32} {r : Int32} (h : fX7_fault S mm x0 x1 = some r) : Ml l E S yX7_fault cX7_fault 2 (some .int) 0 0 [.ref (E.2.2 x0), .int x1] mm (some (.int r)) mm := by
  refine Ml.of (by decide +kernel) (Nat.le_of_ble_eq_true rfl) (fun G C hQ => ?_)
  have C : Cx G E cX7_fault 2 RX7 (some .int) 0 0 := C
  unfold fX7_fault at h
  obtain ⟨g0, h⟩ := gd_some h
  show WM G l E S 0 [(0, .ref (E.2.2 x0)), (1, .int x1)] [] mm
  refine x_iload_n C (dq DX7_fault 0 rfl) rfl 1 rfl ?_
  refine x_if_ne (tgt := 9) C (dq DX7_fault 1 rfl) (by decide) h (fun h => ?_) (fun h => ?_)
  · refine x_iload_n C (dq DX7_fault 5 rfl) rfl 1 rfl ?_
    refine x_iconst (v := 1) C (dq DX7_fault 6 rfl) (by decide) ?_
    refine x_pc 11 rfl ?_
    refine x_icmp_ne (tgt := 21) C (dq DX7_fault 7 rfl) (by decide) h (fun h => ?_) (fun h => ?_)
    · refine x_iconst (v := (-1)) C (dq DX7_fault 11 rfl) (by decide) ?_
      exact x_lv [0] rfl (tX7_fault_22 C g0 h hQ)
    · refine x_aload_n C (dq DX7_fault 8 rfl) rfl 0 rfl ?_
      refine getX7_72 C (dq DX7_fault 9 rfl) g0 ?_
      refine x_goto (tgt := 22) C (dq DX7_fault 10 rfl) (by decide) ?_
      exact x_lv [0] rfl (tX7_fault_22 C g0 h hQ)
  · refine x_aload_n C (dq DX7_fault 2 rfl) rfl 0 rfl ?_
    refine getX7_68 C (dq DX7_fault 3 rfl) g0 ?_
    refine x_pc 8 rfl ?_
    cases h
    exact x_iret C (dq DX7_fault 4 rfl) hQ
set_option maxHeartbeats 1000000 in
theorem qX7_fault {S : List Sh} {mm : Mm} {x0 : Nat} {x1 : Int32} {r : Int32} (h : fX7_fault S mm x0 x1 = some r) : isC S x0 7 := by
  unfold fX7_fault at h
  exact (gd_some h).1
theorem callX7_121 {G : Gt} {l : Launch} {E : Ev} {S : List Sh} {cc : ByteArray} {nL : Nat} {rt : Option FieldType} {fr lo : Nat} {pc : Nat} {lv : List (Nat × Value)} {rest : List Value} {mm : Mm} {α : Type} {f : Int32 → Option α} {r : α} {o : Nat} {a0 : Int32} (C : Cx G E cc nL RX7 rt fr lo) (d : decode cc pc = .ok (.invokevirtual 121, 3)) (h : bd1 (fX1_linkOf S mm o a0) f = some r) (hfr : 1 ≤ fr) (hlo : 22 ≤ lo) (hrs : (rest.map fun v => v.category).sum ≤ 8) (k : ∀ v, f v = some r → WM G l E S (pc + 3) lv (.int v :: rest) mm) : WM G l E S pc lv (.int a0 :: .ref (E.2.2 o) :: rest) mm := by
  obtain ⟨v, hv, hf⟩ := bd1_some h
  exact x_callV (n := 1) (As := [.int a0]) (rest := rest) C (mX1_linkOf hv) (qX1_linkOf hv) (T := TX1) (N := 11) rfl (gmem 420 (by decide +kernel) rfl) (gmem 352 (by decide +kernel) rfl) (gmem 353 (by decide +kernel) rfl) (gmem 8 (by decide +kernel) rfl) (gmem 354 (by decide +kernel) rfl) (by decide +kernel) rfl hfr hlo hrs d rfl rfl (k v hf)
theorem callX7_125 {G : Gt} {l : Launch} {E : Ev} {S : List Sh} {cc : ByteArray} {nL : Nat} {rt : Option FieldType} {fr lo : Nat} {pc : Nat} {lv : List (Nat × Value)} {rest : List Value} {mm : Mm} {α : Type} {f : Int32 → Option α} {r : α} {o : Nat} {a0 : Int32} (C : Cx G E cc nL RX7 rt fr lo) (d : decode cc pc = .ok (.invokevirtual 125, 3)) (h : bd1 (fX1_flowOf S mm o a0) f = some r) (hfr : 1 ≤ fr) (hlo : 22 ≤ lo) (hrs : (rest.map fun v => v.category).sum ≤ 8) (k : ∀ v, f v = some r → WM G l E S (pc + 3) lv (.int v :: rest) mm) : WM G l E S pc lv (.int a0 :: .ref (E.2.2 o) :: rest) mm := by
  obtain ⟨v, hv, hf⟩ := bd1_some h
  exact x_callV (n := 1) (As := [.int a0]) (rest := rest) C (mX1_flowOf hv) (qX1_flowOf hv) (T := TX1) (N := 11) rfl (gmem 421 (by decide +kernel) rfl) (gmem 369 (by decide +kernel) rfl) (gmem 370 (by decide +kernel) rfl) (gmem 8 (by decide +kernel) rfl) (gmem 371 (by decide +kernel) rfl) (by decide +kernel) rfl hfr hlo hrs d rfl rfl (k v hf)
abbrev eX7_named : List (Nat × Instr × Nat) := [(0, .iload_n 1, 1), (1, .ifCond .ne 12, 3), (4, .aload_n 0, 1), (5, .getfield 61, 3), (8, .iload_n 2, 1), (9, .invokevirtual 121, 3), (12, .ireturn, 1), (13, .iload_n 1, 1), (14, .iconst 1, 1), (15, .if_icmp .ne 14, 3), (18, .aload_n 0, 1), (19, .getfield 61, 3), (22, .iload_n 2, 1), (23, .invokevirtual 125, 3), (26, .goto 4, 3), (29, .iconst (-1), 1), (30, .ireturn, 1)]
theorem DX7_named : (eX7_named.all fun q => decide (decode cX7_named q.1 = .ok q.2)) = true := by decide +kernel
def jX7_named_30 (S : List Sh) (mm : Mm) (x0 : Nat) (p0 : Int32) : Option (Int32) := some p0
def fX7_named (S : List Sh) (mm : Mm) (x0 : Nat) (x1 : Int32) (x2 : Int32) : Option (Int32) := gd S x0 7 (if ¬ x1 = 0 then (if ¬ x1 = 1 then (jX7_named_30 S mm x0 (-1)) else (bd1 (fX1_flowOf S mm (rf S mm x0 8) x2) fun a1 => jX7_named_30 S mm x0 a1)) else (bd1 (fX1_linkOf S mm (rf S mm x0 8) x2) fun a2 => some a2))
set_option maxHeartbeats 1000000 in
theorem tX7_named_30 {G : Gt} {l : Launch} {E : Ev} {S : List Sh} {mm : Mm} {x0 : Nat} {p0 : Int32} {r : Int32} (C : Cx G E cX7_named 3 RX7 (some .int) 1 22) (g0 : isC S x0 7) (h : jX7_named_30 S mm x0 p0 = some r) (hQ : RQ G E S (some (.int r)) mm) : WM G l E S 30 [(0, .ref (E.2.2 x0))] [.int p0] mm := by
  unfold jX7_named_30 at h
  cases h
  exact x_iret C (dq DX7_named 16 rfl) hQ
set_option maxHeartbeats 1000000 in
theorem mX7_named {l : Launch} {E : Ev} {S : List Sh} {mm : Mm} {x0 : Nat} {x1 : Int32} {x2 : Int32} {r : Int32} (h : fX7_named S mm x0 x1 x2 = some r) : Ml l E S yX7_named cX7_named 3 (some .int) 1 22 [.ref (E.2.2 x0), .int x1, .int x2] mm (some (.int r)) mm := by
  refine Ml.of (by decide +kernel) (Nat.le_of_ble_eq_true rfl) (fun G C hQ => ?_)
  have C : Cx G E cX7_named 3 RX7 (some .int) 1 22 := C
  unfold fX7_named at h
  obtain ⟨g0, h⟩ := gd_some h
  show WM G l E S 0 [(0, .ref (E.2.2 x0)), (1, .int x1), (2, .int x2)] [] mm
  refine x_iload_n C (dq DX7_named 0 rfl) rfl 1 rfl ?_
  refine x_if_ne (tgt := 13) C (dq DX7_named 1 rfl) (by decide) h (fun h => ?_) (fun h => ?_)
  · refine x_iload_n C (dq DX7_named 7 rfl) rfl 1 rfl ?_
    refine x_iconst (v := 1) C (dq DX7_named 8 rfl) (by decide) ?_
    refine x_pc 15 rfl ?_
    refine x_icmp_ne (tgt := 29) C (dq DX7_named 9 rfl) (by decide) h (fun h => ?_) (fun h => ?_)
    · refine x_iconst (v := (-1)) C (dq DX7_named 15 rfl) (by decide) ?_
      exact x_lv [0] rfl (tX7_named_30 C g0 h hQ)
    · refine x_aload_n C (dq DX7_named 10 rfl) rfl 0 rfl ?_
      refine getX7_61 C (dq DX7_named 11 rfl) g0 ?_
      refine x_iload_n C (dq DX7_named 12 rfl) rfl 2 rfl ?_
      refine callX7_125 C (dq DX7_named 13 rfl) h (by decide) (by decide) (Nat.le_of_ble_eq_true rfl) (fun a1 h => ?_)
      refine x_pc 26 rfl ?_
      refine x_goto (tgt := 30) C (dq DX7_named 14 rfl) (by decide) ?_
      exact x_lv [0] rfl (tX7_named_30 C g0 h hQ)
  · refine x_aload_n C (dq DX7_named 2 rfl) rfl 0 rfl ?_
    refine getX7_61 C (dq DX7_named 3 rfl) g0 ?_
    refine x_pc 8 rfl ?_
    refine x_iload_n C (dq DX7_named 4 rfl) rfl 2 rfl ?_
    refine callX7_121 C (dq DX7_named 5 rfl) h (by decide) (by decide) (Nat.le_of_ble_eq_true rfl) (fun a2 h => ?_)
    cases h
    exact x_iret C (dq DX7_named 6 rfl) hQ
set_option maxHeartbeats 1000000 in
theorem qX7_named {S : List Sh} {mm : Mm} {x0 : Nat} {x1 : Int32} {x2 : Int32} {r : Int32} (h : fX7_named S mm x0 x1 x2 = some r) : isC S x0 7 := by
  unfold fX7_named at h
  exact (gd_some h).1
theorem getX7_184 {G : Gt} {l : Launch} {E : Ev} {S : List Sh} {cc : ByteArray} {nL : Nat} {rt : Option FieldType} {fr lo : Nat} {pc : Nat} {lv : List (Nat × Value)} {st : List Value} {mm : Mm} {o : Nat} (C : Cx G E cc nL RX7 rt fr lo) (d : decode cc pc = .ok (.getfield 184, 3)) (hg : isC S o 1) (k : WM G l E S (pc + 3) lv (.int (mm.1 o 9) :: st) mm) : WM G l E S pc lv (.ref (E.2.2 o) :: st) mm := x_getN0 C hg (T := TX1) (N := 11) rfl inX1 (by decide) (i := 9) (host := "LosslessFabric") (nmem 212 (by decide +kernel) rfl) rfl rfl d k
theorem callX7_181 {G : Gt} {l : Launch} {E : Ev} {S : List Sh} {cc : ByteArray} {nL : Nat} {rt : Option FieldType} {fr lo : Nat} {pc : Nat} {lv : List (Nat × Value)} {rest : List Value} {mm : Mm} {α : Type} {f : Int32 → Option α} {r : α} {o : Nat} {a0 : Nat} {a1 : Int32} (C : Cx G E cc nL RX7 rt fr lo) (d : decode cc pc = .ok (.invokevirtual 181, 3)) (h : bd1 (fX1_headroomOf S mm o a0 a1) f = some r) (hfr : 1 ≤ fr) (hlo : 22 ≤ lo) (hrs : (rest.map fun v => v.category).sum ≤ 8) (k : ∀ v, f v = some r → WM G l E S (pc + 3) lv (.int v :: rest) mm) : WM G l E S pc lv (.int a1 :: .ref (E.2.2 a0) :: .ref (E.2.2 o) :: rest) mm := by
  obtain ⟨v, hv, hf⟩ := bd1_some h
  exact x_callV (n := 2) (As := [.ref (E.2.2 a0), .int a1]) (rest := rest) C (mX1_headroomOf hv) (qX1_headroomOf hv) (T := TX1) (N := 11) rfl (gmem 549 (by decide +kernel) rfl) (gmem 550 (by decide +kernel) rfl) (gmem 551 (by decide +kernel) rfl) (gmem 8 (by decide +kernel) rfl) (gmem 552 (by decide +kernel) rfl) (by decide +kernel) rfl hfr hlo hrs d rfl rfl (k v hf)
abbrev eX7_safe : List (Nat × Instr × Nat) := [(0, .iconst 0, 1), (1, .istore_n 1, 1), (2, .iconst 0, 1), (3, .istore_n 2, 1), (4, .iload_n 2, 1), (5, .aload_n 0, 1), (6, .getfield 61, 3), (9, .getfield 184, 3), (12, .if_icmp .ge 39, 3), (15, .aload_n 0, 1), (16, .getfield 61, 3), (19, .aload_n 0, 1), (20, .getfield 51, 3), (23, .iload_n 2, 1), (24, .invokevirtual 181, 3), (27, .aload_n 0, 1), (28, .getfield 51, 3), (31, .bipush 20, 2), (33, .iload_n 2, 1), (34, .iadd, 1), (35, .iaload, 1), (36, .if_icmp .gt 9, 3), (39, .iload_n 1, 1), (40, .iconst 1, 1), (41, .iload_n 2, 1), (42, .ishl, 1), (43, .ior, 1), (44, .istore_n 1, 1), (45, .iinc 2 1, 3), (48, .goto (-44), 3), (51, .iload_n 1, 1), (52, .ireturn, 1)]
theorem DX7_safe : (eX7_safe.all fun q => decide (decode cX7_safe q.1 = .ok q.2)) = true := by decide +kernel
def jX7_safe_45 (S : List Sh) (mm : Mm) (x0 : Nat) (x1 : Int32) (x2 : Int32)  : Option ((Int32 × Int32) ⊕ (Int32)) := some (.inl (x1, x2 + 1))
def bX7_safe_4 (S : List Sh) (mm : Mm) (x0 : Nat) (x1 : Int32) (x2 : Int32) : Option ((Int32 × Int32) ⊕ (Int32)) := gd S (rf S mm x0 8) 1 (if (mm.1 (rf S mm x0 8) 9) ≤ x2 then (some (.inr (x1))) else (bd1 (fX1_headroomOf S mm (rf S mm x0 8) (rf S mm x0 6) x2) fun a2 => bd1 (ldA S 0 mm (rf S mm x0 6) (20 + x2)) fun a3 => if a3 < a2 then (jX7_safe_45 S mm x0 x1 x2) else (jX7_safe_45 S mm x0 (x1 ||| (1 <<< (x2 &&& 31))) x2)))
def fX7_safe (S : List Sh) (mm : Mm) (x0 : Nat) : Option (Int32) := gd S x0 7 (bd1 (lp (fun s4 => bX7_safe_4 S mm x0 s4.1 s4.2) fu (0, 0)) fun y5 => some y5)
set_option maxHeartbeats 1000000 in
theorem tX7_safe_45 {G : Gt} {l : Launch} {E : Ev} {S : List Sh} {mm : Mm} {x0 : Nat} {x1 : Int32} {x2 : Int32}  {r : (Int32 × Int32) ⊕ (Int32)} (C : Cx G E cX7_safe 3 RX7 (some .int) 1 22) (g0 : isC S x0 7) (h : jX7_safe_45 S mm x0 x1 x2 = some r) (kb : ∀ z : Int32 × Int32, r = .inl z → WM G l E S 4 [(0, .ref (E.2.2 x0)), (1, .int z.1), (2, .int z.2)] [] mm) (kx : ∀ z : Int32, r = .inr z → WM G l E S 51 [(0, .ref (E.2.2 x0)), (1, .int z)] [] mm) : WM G l E S 45 [(0, .ref (E.2.2 x0)), (1, .int x1), (2, .int x2)] [] mm := by
  unfold jX7_safe_45 at h
  refine x_iinc (v := x2 + 1) (lv' := [(2, .int (x2 + 1)), (0, .ref (E.2.2 x0)), (1, .int x1)]) C (dq DX7_safe 28 rfl) 2 rfl rfl (by decide) rfl ?_
  refine x_goto (tgt := 4) C (dq DX7_safe 29 rfl) (by decide) ?_
  cases h
  exact x_lv [1, 2, 0] rfl (kb (x1, x2 + 1) rfl)
set_option maxHeartbeats 1000000 in
theorem tX7_safe_4 {G : Gt} {l : Launch} {E : Ev} {S : List Sh} {mm : Mm} {x0 : Nat} {x1 : Int32} {x2 : Int32} {r : (Int32 × Int32) ⊕ (Int32)} (C : Cx G E cX7_safe 3 RX7 (some .int) 1 22) (g0 : isC S x0 7) (h : bX7_safe_4 S mm x0 x1 x2 = some r) (kb : ∀ z : Int32 × Int32, r = .inl z → WM G l E S 4 [(0, .ref (E.2.2 x0)), (1, .int z.1), (2, .int z.2)] [] mm) (kx : ∀ z : Int32, r = .inr z → WM G l E S 51 [(0, .ref (E.2.2 x0)), (1, .int z)] [] mm) : WM G l E S 4 [(0, .ref (E.2.2 x0)), (1, .int x1), (2, .int x2)] [] mm := by
  unfold bX7_safe_4 at h
  refine x_iload_n C (dq DX7_safe 4 rfl) rfl 2 rfl ?_
  refine x_aload_n C (dq DX7_safe 5 rfl) rfl 0 rfl ?_
  refine getX7_61 C (dq DX7_safe 6 rfl) g0 ?_
  obtain ⟨g1, h⟩ := gd_some h
  refine getX7_184 C (dq DX7_safe 7 rfl) g1 ?_
  refine x_pc 12 rfl ?_
  refine x_icmp_ge (tgt := 51) C (dq DX7_safe 8 rfl) (by decide) h (fun h => ?_) (fun h => ?_)
  · cases h
    exact x_lv [0, 1] rfl (kx (x1) rfl)
  · refine x_aload_n C (dq DX7_safe 9 rfl) rfl 0 rfl ?_
    refine getX7_61 C (dq DX7_safe 10 rfl) g0 ?_
    refine x_aload_n C (dq DX7_safe 11 rfl) rfl 0 rfl ?_
    refine getX7_51 C (dq DX7_safe 12 rfl) g0 ?_
    refine x_pc 23 rfl ?_
    refine x_iload_n C (dq DX7_safe 13 rfl) rfl 2 rfl ?_
    refine callX7_181 C (dq DX7_safe 14 rfl) h (by decide) (by decide) (Nat.le_of_ble_eq_true rfl) (fun a2 h => ?_)
    refine x_aload_n C (dq DX7_safe 15 rfl) rfl 0 rfl ?_
    refine getX7_51 C (dq DX7_safe 16 rfl) g0 ?_
    refine x_bipush (v := 20) C (dq DX7_safe 17 rfl) (by decide) ?_
    refine x_pc 33 rfl ?_
    refine x_iload_n C (dq DX7_safe 18 rfl) rfl 2 rfl ?_
    refine x_iadd C (dq DX7_safe 19 rfl) ?_
    refine x_iald C (dq DX7_safe 20 rfl) h (fun a3 h => ?_)
    refine x_icmp_gt (tgt := 45) C (dq DX7_safe 21 rfl) (by decide) h (fun h => ?_) (fun h => ?_)
    · exact x_lv [0, 1, 2] rfl (tX7_safe_45 C g0 h kb kx)
    · refine x_iload_n C (dq DX7_safe 22 rfl) rfl 1 rfl ?_
      refine x_pc 40 rfl ?_
      refine x_iconst (v := 1) C (dq DX7_safe 23 rfl) (by decide) ?_
      refine x_iload_n C (dq DX7_safe 24 rfl) rfl 2 rfl ?_
      refine x_ishl C (dq DX7_safe 25 rfl) ?_
      refine x_ior C (dq DX7_safe 26 rfl) ?_
      refine x_istore_n (lv' := [(1, .int (x1 ||| (1 <<< (x2 &&& 31)))), (0, .ref (E.2.2 x0)), (2, .int x2)]) C (dq DX7_safe 27 rfl) rfl (by decide) rfl ?_
      exact x_lv [1, 0, 2] rfl (tX7_safe_45 C g0 h kb kx)
set_option maxHeartbeats 1000000 in
theorem mX7_safe {l : Launch} {E : Ev} {S : List Sh} {mm : Mm} {x0 : Nat} {r : Int32} (h : fX7_safe S mm x0 = some r) : Ml l E S yX7_safe cX7_safe 3 (some .int) 1 22 [.ref (E.2.2 x0)] mm (some (.int r)) mm := by
  refine Ml.of (by decide +kernel) (Nat.le_of_ble_eq_true rfl) (fun G C hQ => ?_)
  have C : Cx G E cX7_safe 3 RX7 (some .int) 1 22 := C
  unfold fX7_safe at h
  obtain ⟨g0, h⟩ := gd_some h
  show WM G l E S 0 [(0, .ref (E.2.2 x0))] [] mm
  refine x_iconst (v := 0) C (dq DX7_safe 0 rfl) (by decide) ?_
  refine x_istore_n (lv' := [(1, .int 0), (0, .ref (E.2.2 x0))]) C (dq DX7_safe 1 rfl) rfl (by decide) rfl ?_
  refine x_iconst (v := 0) C (dq DX7_safe 2 rfl) (by decide) ?_
  refine x_istore_n (lv' := [(2, .int 0), (1, .int 0), (0, .ref (E.2.2 x0))]) C (dq DX7_safe 3 rfl) rfl (by decide) rfl ?_
  refine x_lv [2, 1, 0] rfl ?_
  refine x_loop (s0 := (0, 0)) (fun s4 => WM G l E S 4 [(0, .ref (E.2.2 x0)), (1, .int s4.1), (2, .int s4.2)] [] mm) h (fun s4 r hb kb kx => tX7_safe_4 C g0 hb kb (fun y5 hy => ?_))
  have h := kx y5 hy
  clear kx kb hb hy
  refine x_pc 51 rfl ?_
  refine x_iload_n C (dq DX7_safe 30 rfl) rfl 1 rfl ?_
  cases h
  exact x_iret C (dq DX7_safe 31 rfl) hQ
set_option maxHeartbeats 1000000 in
theorem qX7_safe {S : List Sh} {mm : Mm} {x0 : Nat} {r : Int32} (h : fX7_safe S mm x0 = some r) : isC S x0 7 := by
  unfold fX7_safe at h
  exact (gd_some h).1
theorem getX7_33 {G : Gt} {l : Launch} {E : Ev} {S : List Sh} {cc : ByteArray} {nL : Nat} {rt : Option FieldType} {fr lo : Nat} {pc : Nat} {lv : List (Nat × Value)} {st : List Value} {mm : Mm} {o : Nat} (C : Cx G E cc nL RX7 rt fr lo) (d : decode cc pc = .ok (.getfield 33, 3)) (hg : isC S o 7) (k : WM G l E S (pc + 3) lv (.ref (E.2.2 (rf S mm o 3)) :: st) mm) : WM G l E S pc lv (.ref (E.2.2 o) :: st) mm := x_get2 C hg (T := TX7) (N := 12) rfl inX7 (by decide) (i := 3) (gmem 245 (by decide +kernel) rfl) rfl rfl d k
theorem getX7_194 {G : Gt} {l : Launch} {E : Ev} {S : List Sh} {cc : ByteArray} {nL : Nat} {rt : Option FieldType} {fr lo : Nat} {pc : Nat} {lv : List (Nat × Value)} {st : List Value} {mm : Mm} {o : Nat} (C : Cx G E cc nL RX7 rt fr lo) (d : decode cc pc = .ok (.getfield 194, 3)) (hg : isC S o 6) (k : WM G l E S (pc + 3) lv (.int (mm.1 o 4) :: st) mm) : WM G l E S pc lv (.ref (E.2.2 o) :: st) mm := x_getN0 C hg (T := TX6) (N := 5) rfl inX6 (by decide) (i := 4) (host := "LosslessFabric") (nmem 110 (by decide +kernel) rfl) rfl rfl d k
theorem getX7_197 {G : Gt} {l : Launch} {E : Ev} {S : List Sh} {cc : ByteArray} {nL : Nat} {rt : Option FieldType} {fr lo : Nat} {pc : Nat} {lv : List (Nat × Value)} {st : List Value} {mm : Mm} {o : Nat} (C : Cx G E cc nL RX7 rt fr lo) (d : decode cc pc = .ok (.getfield 197, 3)) (hg : isC S o 6) (k : WM G l E S (pc + 3) lv (.ref (E.2.2 (rf S mm o 3)) :: st) mm) : WM G l E S pc lv (.ref (E.2.2 o) :: st) mm := x_getN2 C hg (T := TX6) (N := 5) rfl inX6 (by decide) (i := 3) (host := "LosslessFabric") (nmem 108 (by decide +kernel) rfl) rfl rfl d k
theorem callX7_191 {G : Gt} {l : Launch} {E : Ev} {S : List Sh} {cc : ByteArray} {nL : Nat} {rt : Option FieldType} {fr lo : Nat} {pc : Nat} {lv : List (Nat × Value)} {rest : List Value} {mm : Mm} {α : Type} {f : Mm → Option α} {r : α} {o : Nat} {a0 : Nat} {a1 : Nat} (C : Cx G E cc nL RX7 rt fr lo) (d : decode cc pc = .ok (.invokevirtual 191, 3)) (h : bd1 (fX6_findFirst S mm o a0 a1) f = some r) (hfr : 3 ≤ fr) (hlo : 76 ≤ lo) (hrs : (rest.map fun v => v.category).sum ≤ 8) (k : ∀ m1, f m1 = some r → WM G l E S (pc + 3) lv rest m1) : WM G l E S pc lv (.ref (E.2.2 a1) :: .ref (E.2.2 a0) :: .ref (E.2.2 o) :: rest) mm := by
  obtain ⟨m1, hv, hf⟩ := bd1_some h
  exact x_callV (n := 2) (As := [.ref (E.2.2 a0), .ref (E.2.2 a1)]) (rest := rest) C (mX6_findFirst hv) (qX6_findFirst hv) (T := TX6) (N := 5) rfl (gmem 569 (by decide +kernel) rfl) (gmem 570 (by decide +kernel) rfl) (gmem 571 (by decide +kernel) rfl) (gmem 5 (by decide +kernel) rfl) (gmem 572 (by decide +kernel) rfl) (by decide +kernel) rfl hfr hlo hrs d rfl rfl (k m1 hf)
abbrev eX7_cycle : List (Nat × Instr × Nat) := [(0, .iload_n 1, 1), (1, .ifCond .ge 5, 3), (4, .iconst (-1), 1), (5, .ireturn, 1), (6, .aload_n 0, 1), (7, .getfield 33, 3), (10, .aload_n 0, 1), (11, .getfield 61, 3), (14, .aload_n 0, 1), (15, .getfield 51, 3), (18, .invokevirtual 191, 3), (21, .iload_n 1, 1), (22, .aload_n 0, 1), (23, .getfield 33, 3), (26, .getfield 194, 3), (29, .if_icmp .ge 15, 3), (32, .aload_n 0, 1), (33, .getfield 33, 3), (36, .getfield 197, 3), (39, .iload_n 1, 1), (40, .iaload, 1), (41, .goto 5, 3), (44, .bipush (-2), 2), (46, .ireturn, 1)]
theorem DX7_cycle : (eX7_cycle.all fun q => decide (decode cX7_cycle q.1 = .ok q.2)) = true := by decide +kernel
def jX7_cycle_46 (S : List Sh) (mm : Mm) (x0 : Nat) (p0 : Int32) : Option (Int32 × Mm) := some (p0, mm)
def fX7_cycle (S : List Sh) (mm : Mm) (x0 : Nat) (x1 : Int32) : Option (Int32 × Mm) := gd S x0 7 (if 0 ≤ x1 then (bd1 (fX6_findFirst S mm (rf S mm x0 3) (rf S mm x0 8) (rf S mm x0 6)) fun m1 => gd S (rf S m1 x0 3) 6 (if (m1.1 (rf S m1 x0 3) 4) ≤ x1 then (jX7_cycle_46 S m1 x0 (-2)) else (bd1 (ldA S 0 m1 (rf S m1 (rf S m1 x0 3) 3) x1) fun a3 => jX7_cycle_46 S m1 x0 a3))) else (some ((-1), mm)))
set_option maxHeartbeats 1000000 in
theorem tX7_cycle_46 {G : Gt} {l : Launch} {E : Ev} {S : List Sh} {mm : Mm} {x0 : Nat} {p0 : Int32} {r : Int32 × Mm} (C : Cx G E cX7_cycle 2 RX7 (some .int) 3 76) (g0 : isC S x0 7) (h : jX7_cycle_46 S mm x0 p0 = some r) (hQ : RQ G E S (some (.int r.1)) r.2) : WM G l E S 46 [(0, .ref (E.2.2 x0))] [.int p0] mm := by
  unfold jX7_cycle_46 at h
  cases h
  exact x_iret C (dq DX7_cycle 23 rfl) hQ
set_option maxHeartbeats 1000000 in
theorem mX7_cycle {l : Launch} {E : Ev} {S : List Sh} {mm : Mm} {x0 : Nat} {x1 : Int32} {r : Int32 × Mm} (h : fX7_cycle S mm x0 x1 = some r) : Ml l E S yX7_cycle cX7_cycle 2 (some .int) 3 76 [.ref (E.2.2 x0), .int x1] mm (some (.int r.1)) r.2 := by
  refine Ml.of (by decide +kernel) (Nat.le_of_ble_eq_true rfl) (fun G C hQ => ?_)
  have C : Cx G E cX7_cycle 2 RX7 (some .int) 3 76 := C
  unfold fX7_cycle at h
  obtain ⟨g0, h⟩ := gd_some h
  show WM G l E S 0 [(0, .ref (E.2.2 x0)), (1, .int x1)] [] mm
  refine x_iload_n C (dq DX7_cycle 0 rfl) rfl 1 rfl ?_
  refine x_if_ge (tgt := 6) C (dq DX7_cycle 1 rfl) (by decide) h (fun h => ?_) (fun h => ?_)
  · refine x_aload_n C (dq DX7_cycle 4 rfl) rfl 0 rfl ?_
    refine getX7_33 C (dq DX7_cycle 5 rfl) g0 ?_
    refine x_pc 10 rfl ?_
    refine x_aload_n C (dq DX7_cycle 6 rfl) rfl 0 rfl ?_
    refine getX7_61 C (dq DX7_cycle 7 rfl) g0 ?_
    refine x_aload_n C (dq DX7_cycle 8 rfl) rfl 0 rfl ?_
    refine getX7_51 C (dq DX7_cycle 9 rfl) g0 ?_
    refine callX7_191 C (dq DX7_cycle 10 rfl) h (by decide) (by decide) (Nat.le_of_ble_eq_true rfl) (fun m1 h => ?_)
    refine x_pc 21 rfl ?_
    refine x_iload_n C (dq DX7_cycle 11 rfl) rfl 1 rfl ?_
    refine x_aload_n C (dq DX7_cycle 12 rfl) rfl 0 rfl ?_
    refine getX7_33 C (dq DX7_cycle 13 rfl) g0 ?_
    obtain ⟨g2, h⟩ := gd_some h
    refine getX7_194 C (dq DX7_cycle 14 rfl) g2 ?_
    refine x_icmp_ge (tgt := 44) C (dq DX7_cycle 15 rfl) (by decide) h (fun h => ?_) (fun h => ?_)
    · refine x_pc 44 rfl ?_
      refine x_bipush (v := (-2)) C (dq DX7_cycle 22 rfl) (by decide) ?_
      exact x_lv [0] rfl (tX7_cycle_46 C g0 h hQ)
    · refine x_pc 32 rfl ?_
      refine x_aload_n C (dq DX7_cycle 16 rfl) rfl 0 rfl ?_
      refine getX7_33 C (dq DX7_cycle 17 rfl) g0 ?_
      refine getX7_197 C (dq DX7_cycle 18 rfl) g2 ?_
      refine x_iload_n C (dq DX7_cycle 19 rfl) rfl 1 rfl ?_
      refine x_iald C (dq DX7_cycle 20 rfl) h (fun a3 h => ?_)
      refine x_pc 41 rfl ?_
      refine x_goto (tgt := 46) C (dq DX7_cycle 21 rfl) (by decide) ?_
      exact x_lv [0] rfl (tX7_cycle_46 C g0 h hQ)
  · refine x_iconst (v := (-1)) C (dq DX7_cycle 2 rfl) (by decide) ?_
    cases h
    exact x_iret C (dq DX7_cycle 3 rfl) hQ
set_option maxHeartbeats 1000000 in
theorem qX7_cycle {S : List Sh} {mm : Mm} {x0 : Nat} {x1 : Int32} {r : Int32 × Mm} (h : fX7_cycle S mm x0 x1 = some r) : isC S x0 7 := by
  unfold fX7_cycle at h
  exact (gd_some h).1
