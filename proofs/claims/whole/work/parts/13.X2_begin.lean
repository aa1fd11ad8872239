theorem putX2_9 {G : Gt} {l : Launch} {E : Ev} {S : List Sh} {cc : ByteArray} {nL : Nat} {rt : Option FieldType} {fr lo : Nat} {pc : Nat} {lv : List (Nat × Value)} {st : List Value} {mm : Mm} {o : Nat} {α : Type} {f : Mm → Option α} {r : α} {x : Int32} (C : Cx G E cc nL RX2 rt fr lo) (d : decode cc pc = .ok (.putfield 9, 3)) (hg : isC S o 2) (h : bd1 (some (u1 mm o 0 x)) f = some r) (k : ∀ m1, f m1 = some r → WM G l E S (pc + 3) lv st m1) : WM G l E S pc lv (.int x :: .ref (E.2.2 o) :: st) mm := x_putI C hg (T := TX2) (N := 3) rfl inX2 (by decide) (i := 0) (gmem 69 (by decide +kernel) rfl) rfl tyX2 tyX2_ok nmX2 rfl rfl (by decide) (by decide +kernel) d (k _ h)
theorem putX2_15 {G : Gt} {l : Launch} {E : Ev} {S : List Sh} {cc : ByteArray} {nL : Nat} {rt : Option FieldType} {fr lo : Nat} {pc : Nat} {lv : List (Nat × Value)} {st : List Value} {mm : Mm} {o : Nat} {α : Type} {f : Mm → Option α} {r : α} {x : Int32} (C : Cx G E cc nL RX2 rt fr lo) (d : decode cc pc = .ok (.putfield 15, 3)) (hg : isC S o 2) (h : bd1 (some (u1 mm o 1 x)) f = some r) (k : ∀ m1, f m1 = some r → WM G l E S (pc + 3) lv st m1) : WM G l E S pc lv (.int x :: .ref (E.2.2 o) :: st) mm := x_putI C hg (T := TX2) (N := 3) rfl inX2 (by decide) (i := 1) (gmem 71 (by decide +kernel) rfl) rfl tyX2 tyX2_ok nmX2 rfl rfl (by decide) (by decide +kernel) d (k _ h)
theorem putX2_18 {G : Gt} {l : Launch} {E : Ev} {S : List Sh} {cc : ByteArray} {nL : Nat} {rt : Option FieldType} {fr lo : Nat} {pc : Nat} {lv : List (Nat × Value)} {st : List Value} {mm : Mm} {o : Nat} {α : Type} {f : Mm → Option α} {r : α} {x : Int32} (C : Cx G E cc nL RX2 rt fr lo) (d : decode cc pc = .ok (.putfield 18, 3)) (hg : isC S o 2) (h : bd1 (some (u1 mm o 2 x)) f = some r) (k : ∀ m1, f m1 = some r → WM G l E S (pc + 3) lv st m1) : WM G l E S pc lv (.int x :: .ref (E.2.2 o) :: st) mm := x_putI C hg (T := TX2) (N := 3) rfl inX2 (by decide) (i := 2) (gmem 73 (by decide +kernel) rfl) rfl tyX2 tyX2_ok nmX2 rfl rfl (by decide) (by decide +kernel) d (k _ h)
theorem callX2_21 {G : Gt} {l : Launch} {E : Ev} {S : List Sh} {cc : ByteArray} {nL : Nat} {rt : Option FieldType} {fr lo : Nat} {pc : Nat} {lv : List (Nat × Value)} {rest : List Value} {mm : Mm} {α : Type} {f : Mm → Option α} {r : α} {o : Nat} (C : Cx G E cc nL RX2 rt fr lo) (d : decode cc pc = .ok (.invokevirtual 21, 3)) (h : bd1 (fX1_clear S mm o) f = some r) (hfr : 1 ≤ fr) (hlo : 21 ≤ lo) (hrs : (rest.map fun v => v.category).sum ≤ 8) (k : ∀ m1, f m1 = some r → WM G l E S (pc + 3) lv rest m1) : WM G l E S pc lv (.ref (E.2.2 o) :: rest) mm := by
  obtain ⟨m1, hv, hf⟩ := bd1_some h
  exact x_callV (n := 0) (As := []) (rest := rest) C (mX1_clear hv) (qX1_clear hv) (T := TX1) (N := 11) rfl (gmem 302 (by decide +kernel) rfl) (gmem 177 (by decide +kernel) rfl) (gmem 178 (by decide +kernel) rfl) (gmem 8 (by decide +kernel) rfl) (gmem 179 (by decide +kernel) rfl) (by decide +kernel) rfl hfr hlo hrs d rfl rfl (k m1 hf)
abbrev eX2_begin : List (Nat × Instr × Nat) := [(0, .aload_n 0, 1), (1, .iconst 0, 1), (2, .putfield 9, 3), (5, .aload_n 0, 1), (6, .iconst (-1), 1), (7, .putfield 15, 3), (10, .aload_n 0, 1), (11, .iconst 0, 1), (12, .putfield 18, 3), (15, .aload_n 1, 1), (16, .invokevirtual 21, 3), (19, .iconst 0, 1), (20, .istore_n 3, 1), (21, .iload_n 3, 1), (22, .aload_n 2, 1), (23, .arraylength, 1), (24, .if_icmp .ge 13, 3), (27, .aload_n 2, 1), (28, .iload_n 3, 1), (29, .iconst 0, 1), (30, .iastore, 1), (31, .iinc 3 1, 3), (34, .goto (-13), 3), (37, .return_, 1)]
theorem DX2_begin : (eX2_begin.all fun q => decide (decode cX2_begin q.1 = .ok q.2)) = true := by decide +kernel
def bX2_begin_21 (S : List Sh) (x0 : Nat) (x1 : Nat) (x2 : Nat) (x3 : Int32) (mm : Mm) : Option ((Int32 × Mm) ⊕ (Mm)) := bd1 (alA S x2) fun a5 => if a5 ≤ x3 then (some (.inr (mm))) else (bd1 (stA S 0 mm x2 x3 0) fun m6 => some (.inl (x3 + 1, m6)))
def fX2_begin (S : List Sh) (mm : Mm) (x0 : Nat) (x1 : Nat) (x2 : Nat) : Option (Mm) := gd S x0 2 (gd S x1 1 (bd1 (some (u1 mm x0 0 0)) fun m1 => bd1 (some (u1 m1 x0 1 (-1))) fun m2 => bd1 (some (u1 m2 x0 2 0)) fun m3 => bd1 (fX1_clear S m3 x1) fun m4 => bd1 (lp (fun s7 => bX2_begin_21 S x0 x1 x2 s7.1 s7.2) fu (0, m4)) fun y8 => some y8))
set_option maxHeartbeats 1000000 in
theorem tX2_begin_21 {G : Gt} {l : Launch} {E : Ev} {S : List Sh} {x0 : Nat} {x1 : Nat} {x2 : Nat} {x3 : Int32} {mm : Mm} {r : (Int32 × Mm) ⊕ (Mm)} (C : Cx G E cX2_begin 4 RX2 none 1 21) (g0 : isC S x0 2) (g1 : isC S x1 1) (h : bX2_begin_21 S x0 x1 x2 x3 mm = some r) (kb : ∀ z : Int32 × Mm, r = .inl z → WM G l E S 21 [(0, .ref (E.2.2 x0)), (1, .ref (E.2.2 x1)), (2, .ref (E.2.2 x2)), (3, .int z.1)] [] z.2) (kx : ∀ z : Mm, r = .inr z → WM G l E S 37 [(0, .ref (E.2.2 x0)), (1, .ref (E.2.2 x1)), (2, .ref (E.2.2 x2))] [] z) : WM G l E S 21 [(0, .ref (E.2.2 x0)), (1, .ref (E.2.2 x1)), (2, .ref (E.2.2 x2)), (3, .int x3)] [] mm := by
  unfold bX2_begin_21 at h
  refine x_iload_n C (dq DX2_begin 13 rfl) rfl 3 rfl ?_
  refine x_aload_n C (dq DX2_begin 14 rfl) rfl 2 rfl ?_
  refine x_alen C (dq DX2_begin 15 rfl) h (fun a5 h => ?_)
  refine x_icmp_ge (tgt := 37) C (dq DX2_begin 16 rfl) (by decide) h (fun h => ?_) (fun h => ?_)
  · cases h
    exact x_lv [0, 1, 2] rfl (kx (mm) rfl)
  · refine x_pc 27 rfl ?_
    refine x_aload_n C (dq DX2_begin 17 rfl) rfl 2 rfl ?_
    refine x_iload_n C (dq DX2_begin 18 rfl) rfl 3 rfl ?_
    refine x_iconst (v := 0) C (dq DX2_begin 19 rfl) (by decide) ?_
    refine x_iast C (dq DX2_begin 20 rfl) h (fun m6 h => ?_)
    refine x_iinc (v := x3 + 1) (lv' := [(3, .int (x3 + 1)), (0, .ref (E.2.2 x0)), (1, .ref (E.2.2 x1)), (2, .ref (E.2.2 x2))]) C (dq DX2_begin 21 rfl) 3 rfl rfl (by decide) rfl ?_
    refine x_pc 34 rfl ?_
    refine x_goto (tgt := 21) C (dq DX2_begin 22 rfl) (by decide) ?_
    cases h
    exact x_lv [1, 2, 3, 0] rfl (kb (x3 + 1, m6) rfl)
set_option maxHeartbeats 1000000 in
theorem mX2_begin {l : Launch} {E : Ev} {S : List Sh} {mm : Mm} {x0 : Nat} {x1 : Nat} {x2 : Nat} {r : Mm} (h : fX2_begin S mm x0 x1 x2 = some r) : Ml l E S yX2_begin cX2_begin 4 none 1 21 [.ref (E.2.2 x0), .ref (E.2.2 x1), .ref (E.2.2 x2)] mm none r := by
  refine Ml.of (by decide +kernel) (Nat.le_of_ble_eq_true rfl) (fun G C hQ => ?_)
  have C : Cx G E cX2_begin 4 RX2 none 1 21 := C
  unfold fX2_begin at h
  obtain ⟨g0, h⟩ := gd_some h
  obtain ⟨g1, h⟩ := gd_some h
  show WM G l E S 0 [(0, .ref (E.2.2 x0)), (1, .ref (E.2.2 x1)), (2, .ref (E.2.2 x2))] [] mm
  refine x_aload_n C (dq DX2_begin 0 rfl) rfl 0 rfl ?_
  refine x_iconst (v := 0) C (dq DX2_begin 1 rfl) (by decide) ?_
  refine putX2_9 C (dq DX2_begin 2 rfl) g0 h (fun m1 h => ?_)
  refine x_aload_n C (dq DX2_begin 3 rfl) rfl 0 rfl ?_
  refine x_pc 6 rfl ?_
  refine x_iconst (v := (-1)) C (dq DX2_begin 4 rfl) (by decide) ?_
  refine putX2_15 C (dq DX2_begin 5 rfl) g0 h (fun m2 h => ?_)
  refine x_aload_n C (dq DX2_begin 6 rfl) rfl 0 rfl ?_
  refine x_iconst (v := 0) C (dq DX2_begin 7 rfl) (by decide) ?_
  refine putX2_18 C (dq DX2_begin 8 rfl) g0 h (fun m3 h => ?_)
  refine x_pc 15 rfl ?_
  refine x_aload_n C (dq DX2_begin 9 rfl) rfl 1 rfl ?_
  refine callX2_21 C (dq DX2_begin 10 rfl) h (by decide) (by decide) (Nat.le_of_ble_eq_true rfl) (fun m4 h => ?_)
  refine x_iconst (v := 0) C (dq DX2_begin 11 rfl) (by decide) ?_
  refine x_istore_n (lv' := [(3, .int 0), (0, .ref (E.2.2 x0)), (1, .ref (E.2.2 x1)), (2, .ref (E.2.2 x2))]) C (dq DX2_begin 12 rfl) rfl (by decide) rfl ?_
  refine x_lv [1, 2, 3, 0] rfl ?_
  refine x_loop (s0 := (0, m4)) (fun s7 => WM G l E S 21 [(0, .ref (E.2.2 x0)), (1, .ref (E.2.2 x1)), (2, .ref (E.2.2 x2)), (3, .int s7.1)] [] s7.2) h (fun s7 r hb kb kx => tX2_begin_21 C g0 g1 hb kb (fun y8 hy => ?_))
  have h := kx y8 hy
  clear kx kb hb hy
  cases h
  exact x_vret C (dq DX2_begin 23 rfl) hQ
set_option maxHeartbeats 1000000 in
theorem qX2_begin {S : List Sh} {mm : Mm} {x0 : Nat} {x1 : Nat} {x2 : Nat} {r : Mm} (h : fX2_begin S mm x0 x1 x2 = some r) : isC S x0 2 := by
  unfold fX2_begin at h
  exact (gd_some h).1
theorem getX2_122 {G : Gt} {l : Launch} {E : Ev} {S : List Sh} {cc : ByteArray} {nL : Nat} {rt : Option FieldType} {fr lo : Nat} {pc : Nat} {lv : List (Nat × Value)} {st : List Value} {mm : Mm} {o : Nat} (C : Cx G E cc nL RX2 rt fr lo) (d : decode cc pc = .ok (.getfield 122, 3)) (hg : isC S o 4) (k : WM G l E S (pc + 3) lv (.int (mm.1 o 5) :: st) mm) : WM G l E S pc lv (.ref (E.2.2 o) :: st) mm := x_getN0 C hg (T := TX4) (N := 7) rfl inX4 (by decide) (i := 5) (host := "LosslessFabric") (nmem 44 (by decide +kernel) rfl) rfl rfl d k
abbrev eX2_failed : List (Nat × Instr × Nat) := [(0, .aload_n 0, 1), (1, .iload_n 2, 1), (2, .putfield 9, 3), (5, .aload_n 0, 1), (6, .aload_n 1, 1), (7, .getfield 122, 3), (10, .putfield 15, 3), (13, .iconst 0, 1), (14, .ireturn, 1)]
theorem DX2_failed : (eX2_failed.all fun q => decide (decode cX2_failed q.1 = .ok q.2)) = true := by decide +kernel
def fX2_failed (S : List Sh) (mm : Mm) (x0 : Nat) (x1 : Nat) (x2 : Int32) : Option (Int32 × Mm) := gd S x0 2 (gd S x1 4 (bd1 (some (u1 mm x0 0 x2)) fun m1 => bd1 (some (u1 m1 x0 1 (m1.1 x1 5))) fun m2 => bd1 (okZ 0) fun _ => some (0, m2)))
set_option maxHeartbeats 1000000 in
theorem mX2_failed {l : Launch} {E : Ev} {S : List Sh} {mm : Mm} {x0 : Nat} {x1 : Nat} {x2 : Int32} {r : Int32 × Mm} (h : fX2_failed S mm x0 x1 x2 = some r) : Ml l E S yX2_failed cX2_failed 3 (some .boolean) 0 0 [.ref (E.2.2 x0), .ref (E.2.2 x1), .int x2] mm (some (.int r.1)) r.2 := by
  refine Ml.of (by decide +kernel) (Nat.le_of_ble_eq_true rfl) (fun G C hQ => ?_)
  have C : Cx G E cX2_failed 3 RX2 (some .boolean) 0 0 := C
  unfold fX2_failed at h
  obtain ⟨g0, h⟩ := gd_some h
  obtain ⟨g1, h⟩ := gd_some h
  show WM G l E S 0 [(0, .ref (E.2.2 x0)), (1, .ref (E.2.2 x1)), (2, .int x2)] [] mm
  refine x_aload_n C (dq DX2_failed 0 rfl) rfl 0 rfl ?_
  refine x_iload_n C (dq DX2_failed 1 rfl) rfl 2 rfl ?_
  refine putX2_9 C (dq DX2_failed 2 rfl) g0 h (fun m1 h => ?_)
  refine x_aload_n C (dq DX2_failed 3 rfl) rfl 0 rfl ?_
  refine x_pc 6 rfl ?_
  refine x_aload_n C (dq DX2_failed 4 rfl) rfl 1 rfl ?_
  refine getX2_122 C (dq DX2_failed 5 rfl) g1 ?_
  refine putX2_15 C (dq DX2_failed 6 rfl) g0 h (fun m2 h => ?_)
  refine x_iconst (v := 0) C (dq DX2_failed 7 rfl) (by decide) ?_
  refine x_zret C (dq DX2_failed 8 rfl) h (fun h => ?_)
  cases h
  exact hQ
set_option maxHeartbeats 1000000 in
theorem qX2_failed {S : List Sh} {mm : Mm} {x0 : Nat} {x1 : Nat} {x2 : Int32} {r : Int32 × Mm} (h : fX2_failed S mm x0 x1 x2 = some r) : isC S x0 2 := by
  unfold fX2_failed at h
  exact (gd_some h).1
theorem getX2_26 {G : Gt} {l : Launch} {E : Ev} {S : List Sh} {cc : ByteArray} {nL : Nat} {rt : Option FieldType} {fr lo : Nat} {pc : Nat} {lv : List (Nat × Value)} {st : List Value} {mm : Mm} {o : Nat} (C : Cx G E cc nL RX2 rt fr lo) (d : decode cc pc = .ok (.getfield 26, 3)) (hg : isC S o 4) (k : WM G l E S (pc + 3) lv (.int (mm.1 o 4) :: st) mm) : WM G l E S pc lv (.ref (E.2.2 o) :: st) mm := x_getN0 C hg (T := TX4) (N := 7) rfl inX4 (by decide) (i := 4) (host := "LosslessFabric") (nmem 41 (by decide +kernel) rfl) rfl rfl d k
theorem getX2_35 {G : Gt} {l : Launch} {E : Ev} {S : List Sh} {cc : ByteArray} {nL : Nat} {rt : Option FieldType} {fr lo : Nat} {pc : Nat} {lv : List (Nat × Value)} {st : List Value} {mm : Mm} {o : Nat} (C : Cx G E cc nL RX2 rt fr lo) (d : decode cc pc = .ok (.getfield 35, 3)) (hg : isC S o 4) (k : WM G l E S (pc + 3) lv (.int (mm.1 o 6) :: st) mm) : WM G l E S pc lv (.ref (E.2.2 o) :: st) mm := x_getN0 C hg (T := TX4) (N := 7) rfl inX4 (by decide) (i := 6) (host := "LosslessFabric") (nmem 46 (by decide +kernel) rfl) rfl rfl d k
theorem getX2_111 {G : Gt} {l : Launch} {E : Ev} {S : List Sh} {cc : ByteArray} {nL : Nat} {rt : Option FieldType} {fr lo : Nat} {pc : Nat} {lv : List (Nat × Value)} {st : List Value} {mm : Mm} {o : Nat} (C : Cx G E cc nL RX2 rt fr lo) (d : decode cc pc = .ok (.getfield 111, 3)) (hg : isC S o 1) (k : WM G l E S (pc + 3) lv (.ref (E.2.2 (rf S mm o 6)) :: st) mm) : WM G l E S pc lv (.ref (E.2.2 o) :: st) mm := x_getN2 C hg (T := TX1) (N := 11) rfl inX1 (by decide) (i := 6) (host := "LosslessFabric") (nmem 199 (by decide +kernel) rfl) rfl rfl d k
theorem callX2_31 {G : Gt} {l : Launch} {E : Ev} {S : List Sh} {cc : ByteArray} {nL : Nat} {rt : Option FieldType} {fr lo : Nat} {pc : Nat} {lv : List (Nat × Value)} {rest : List Value} {mm : Mm} {α : Type} {f : Int32 → Mm → Option α} {r : α} {o : Nat} {a0 : Nat} {a1 : Int32} (C : Cx G E cc nL RX2 rt fr lo) (d : decode cc pc = .ok (.invokevirtual 31, 3)) (h : bd2 (fX2_failed S mm o a0 a1) f = some r) (hfr : 1 ≤ fr) (hlo : 22 ≤ lo) (hrs : (rest.map fun v => v.category).sum ≤ 8) (k : ∀ v m1, f v m1 = some r → WM G l E S (pc + 3) lv (.int v :: rest) m1) : WM G l E S pc lv (.int a1 :: .ref (E.2.2 a0) :: .ref (E.2.2 o) :: rest) mm := by
  obtain ⟨v, m1, hv, hf⟩ := bd2_some h
  exact x_callV (n := 2) (As := [.ref (E.2.2 a0), .int a1]) (rest := rest) C (mX2_failed hv) (qX2_failed hv) (T := TX2) (N := 3) rfl (gmem 338 (by decide +kernel) rfl) (gmem 340 (by decide +kernel) rfl) (gmemS 2 (by decide +kernel) rfl) (gmem 3 (by decide +kernel) rfl) (gmem 341 (by decide +kernel) rfl) (by decide +kernel) rfl hfr hlo hrs d rfl rfl (k v m1 hf)
theorem callX2_69 {G : Gt} {l : Launch} {E : Ev} {S : List Sh} {cc : ByteArray} {nL : Nat} {rt : Option FieldType} {fr lo : Nat} {pc : Nat} {lv : List (Nat × Value)} {rest : List Value} {mm : Mm} {α : Type} {f : Int32 → Option α} {r : α} {o : Nat} {a0 : Int32} (C : Cx G E cc nL RX2 rt fr lo) (d : decode cc pc = .ok (.invokevirtual 69, 3)) (h : bd1 (fX1_linkOf S mm o a0) f = some r) (hfr : 1 ≤ fr) (hlo : 22 ≤ lo) (hrs : (rest.map fun v => v.category).sum ≤ 8) (k : ∀ v, f v = some r → WM G l E S (pc + 3) lv (.int v :: rest) mm) : WM G l E S pc lv (.int a0 :: .ref (E.2.2 o) :: rest) mm := by
  obtain ⟨v, hv, hf⟩ := bd1_some h
  exact x_callV (n := 1) (As := [.int a0]) (rest := rest) C (mX1_linkOf hv) (qX1_linkOf hv) (T := TX1) (N := 11) rfl (gmem 351 (by decide +kernel) rfl) (gmem 352 (by decide +kernel) rfl) (gmem 353 (by decide +kernel) rfl) (gmem 8 (by decide +kernel) rfl) (gmem 354 (by decide +kernel) rfl) (by decide +kernel) rfl hfr hlo hrs d rfl rfl (k v hf)
theorem callX2_108 {G : Gt} {l : Launch} {E : Ev} {S : List Sh} {cc : ByteArray} {nL : Nat} {rt : Option FieldType} {fr lo : Nat} {pc : Nat} {lv : List (Nat × Value)} {rest : List Value} {mm : Mm} {α : Type} {f : Mm → Option α} {r : α} {o : Nat} (C : Cx G E cc nL RX2 rt fr lo) (d : decode cc pc = .ok (.invokevirtual 108, 3)) (h : bd1 (fX4_next S mm o) f = some r) (hfr : 3 ≤ fr) (hlo : 69 ≤ lo) (hrs : (rest.map fun v => v.category).sum ≤ 8) (k : ∀ m1, f m1 = some r → WM G l E S (pc + 3) lv rest m1) : WM G l E S pc lv (.ref (E.2.2 o) :: rest) mm := by
  obtain ⟨m1, hv, hf⟩ := bd1_some h
  exact x_callV (n := 0) (As := []) (rest := rest) C (mX4_next hv) (qX4_next hv) (T := TX4) (N := 7) rfl (gmem 350 (by decide +kernel) rfl) (gmem 304 (by decide +kernel) rfl) (gmem 305 (by decide +kernel) rfl) (gmem 2 (by decide +kernel) rfl) (gmem 306 (by decide +kernel) rfl) (by decide +kernel) rfl hfr hlo hrs d rfl rfl (k m1 hf)
theorem callX2_114 {G : Gt} {l : Launch} {E : Ev} {S : List Sh} {cc : ByteArray} {nL : Nat} {rt : Option FieldType} {fr lo : Nat} {pc : Nat} {lv : List (Nat × Value)} {rest : List Value} {mm : Mm} {α : Type} {f : Mm → Option α} {r : α} {o : Nat} {a0 : Int32} {a1 : Int32} {a2 : Int32} (C : Cx G E cc nL RX2 rt fr lo) (d : decode cc pc = .ok (.invokevirtual 114, 3)) (h : bd1 (fX1_goOn S mm o a0 a1 a2) f = some r) (hfr : 1 ≤ fr) (hlo : 24 ≤ lo) (hrs : (rest.map fun v => v.category).sum ≤ 8) (k : ∀ m1, f m1 = some r → WM G l E S (pc + 3) lv rest m1) : WM G l E S pc lv (.int a2 :: .int a1 :: .int a0 :: .ref (E.2.2 o) :: rest) mm := by
  obtain ⟨m1, hv, hf⟩ := bd1_some h
  exact x_callV (n := 3) (As := [.int a0, .int a1, .int a2]) (rest := rest) C (mX1_goOn hv) (qX1_goOn hv) (T := TX1) (N := 11) rfl (gmem 376 (by decide +kernel) rfl) (gmem 377 (by decide +kernel) rfl) (gmem 378 (by decide +kernel) rfl) (gmem 8 (by decide +kernel) rfl) (gmem 379 (by decide +kernel) rfl) (by decide +kernel) rfl hfr hlo hrs d rfl rfl (k m1 hf)
abbrev eX2_readPath : List (Nat × Instr × Nat) := [(0, .iconst 0, 1), (1, .istore 4, 2), (3, .iload 4, 2), (5, .iconst 5, 1), (6, .if_icmp .gt 112, 3), (9, .aload_n 1, 1), (10, .invokevirtual 108, 3), (13, .iload 4, 2), (15, .ifCond .le 13, 3), (18, .aload_n 1, 1), (19, .getfield 26, 3), (22, .iconst 4, 1), (23, .if_icmp .ne 5, 3), (26, .iconst 1, 1), (27, .ireturn, 1), (28, .aload_n 1, 1), (29, .getfield 26, 3), (32, .iconst 1, 1), (33, .if_icmp .eq 10, 3), (36, .aload_n 0, 1), (37, .aload_n 1, 1), (38, .iconst 1, 1), (39, .invokevirtual 31, 3), (42, .ireturn, 1), (43, .iload 4, 2), (45, .iconst 5, 1), (46, .if_icmp .ne 10, 3), (49, .aload_n 0, 1), (50, .aload_n 1, 1), (51, .iconst 2, 1), (52, .invokevirtual 31, 3), (55, .ireturn, 1), (56, .aload_n 2, 1), (57, .aload_n 1, 1), (58, .getfield 35, 3), (61, .invokevirtual 69, 3), (64, .istore 5, 2), (66, .iload 5, 2), (68, .iconst (-1), 1), (69, .if_icmp .ne 10, 3), (72, .aload_n 0, 1), (73, .aload_n 1, 1), (74, .iconst 4, 1), (75, .invokevirtual 31, 3), (78, .ireturn, 1), (79, .aload_n 2, 1), (80, .getfield 111, 3), (83, .iload 5, 2), (85, .bipush 8, 2), (87, .imul, 1), (88, .iload_n 3, 1), (89, .iadd, 1), (90, .iaload, 1), (91, .bipush (-2), 2), (93, .if_icmp .eq 10, 3), (96, .aload_n 0, 1), (97, .aload_n 1, 1), (98, .iconst 3, 1), (99, .invokevirtual 31, 3), (102, .ireturn, 1), (103, .aload_n 2, 1), (104, .iload_n 3, 1), (105, .iload 4, 2), (107, .iload 5, 2), (109, .invokevirtual 114, 3), (112, .iinc 4 1, 3), (115, .goto (-112), 3), (118, .iconst 0, 1), (119, .ireturn, 1)]
theorem DX2_readPath : (eX2_readPath.all fun q => decide (decode cX2_readPath q.1 = .ok q.2)) = true := by decide +kernel
def jX2_readPath_28 (S : List Sh) (mm : Mm) (x0 : Nat) (x1 : Nat) (x2 : Nat) (x3 : Int32) (x4 : Int32)  : Option ((Int32 × Mm) ⊕ ((Int32 × Mm) ⊕ (Mm))) := if (mm.1 x1 4) = 1 then (if ¬ x4 = 5 then (bd1 (fX1_linkOf S mm x2 (mm.1 x1 6)) fun a2 => if ¬ a2 = (-1) then (bd1 (ldA S 0 mm (rf S mm x2 6) ((a2 * 8) + x3)) fun a3 => if a3 = (-2) then (bd1 (fX1_goOn S mm x2 x3 x4 a2) fun m4 => some (.inl (x4 + 1, m4))) else (bd2 (fX2_failed S mm x0 x1 3) fun a5 m6 => bd1 (okZ a5) fun _ => some (.inr (.inl (a5, m6))))) else (bd2 (fX2_failed S mm x0 x1 4) fun a7 m8 => bd1 (okZ a7) fun _ => some (.inr (.inl (a7, m8))))) else (bd2 (fX2_failed S mm x0 x1 2) fun a9 m10 => bd1 (okZ a9) fun _ => some (.inr (.inl (a9, m10))))) else (bd2 (fX2_failed S mm x0 x1 1) fun a11 m12 => bd1 (okZ a11) fun _ => some (.inr (.inl (a11, m12))))
def bX2_readPath_3 (S : List Sh) (x0 : Nat) (x1 : Nat) (x2 : Nat) (x3 : Int32) (x4 : Int32) (mm : Mm) : Option ((Int32 × Mm) ⊕ ((Int32 × Mm) ⊕ (Mm))) := if 5 < x4 then (some (.inr (.inr (mm)))) else (bd1 (fX4_next S mm x1) fun m1 => if x4 ≤ 0 then (jX2_readPath_28 S m1 x0 x1 x2 x3 x4) else (if ¬ (m1.1 x1 4) = 4 then (jX2_readPath_28 S m1 x0 x1 x2 x3 x4) else (bd1 (okZ 1) fun _ => some (.inr (.inl (1, m1))))))
def fX2_readPath (S : List Sh) (mm : Mm) (x0 : Nat) (x1 : Nat) (x2 : Nat) (x3 : Int32) : Option (Int32 × Mm) := gd S x0 2 (gd S x1 4 (gd S x2 1 (bdR (lp (fun s13 => bX2_readPath_3 S x0 x1 x2 x3 s13.1 s13.2) fu (0, mm)) (fun a15 => some a15) fun y14 => bd1 (okZ 0) fun _ => some (0, y14))))
set_option maxHeartbeats 1000000 in
theorem tX2_readPath_28 {G : Gt} {l : Launch} {E : Ev} {S : List Sh} {mm : Mm} {x0 : Nat} {x1 : Nat} {x2 : Nat} {x3 : Int32} {x4 : Int32}  {r : (Int32 × Mm) ⊕ ((Int32 × Mm) ⊕ (Mm))} (C : Cx G E cX2_readPath 6 RX2 (some .boolean) 3 69) (g0 : isC S x0 2) (g1 : isC S x1 4) (g2 : isC S x2 1) (h : jX2_readPath_28 S mm x0 x1 x2 x3 x4 = some r) (kb : ∀ z : Int32 × Mm, r = .inl z → WM G l E S 3 [(0, .ref (E.2.2 x0)), (1, .ref (E.2.2 x1)), (2, .ref (E.2.2 x2)), (3, .int x3), (4, .int z.1)] [] z.2) (kr : ∀ z : Int32 × Mm, r = .inr (.inl z) → RQ G E S (some (.int z.1)) z.2) (kx : ∀ z : Mm, r = .inr (.inr z) → WM G l E S 118 [(0, .ref (E.2.2 x0)), (1, .ref (E.2.2 x1)), (2, .ref (E.2.2 x2)), (3, .int x3)] [] z) : WM G l E S 28 [(0, .ref (E.2.2 x0)), (1, .ref (E.2.2 x1)), (2, .ref (E.2.2 x2)), (3, .int x3), (4, .int x4)] [] mm := by
  unfold jX2_readPath_28 at h
  refine x_aload_n C (dq DX2_readPath 15 rfl) rfl 1 rfl ?_
  refine getX2_26 C (dq DX2_readPath 16 rfl) g1 ?_
  refine x_iconst (v := 1) C (dq DX2_readPath 17 rfl) (by decide) ?_
  refine x_icmp_eq (tgt := 43) C (dq DX2_readPath 18 rfl) (by decide) h (fun h => ?_) (fun h => ?_)
  · refine x_pc 43 rfl ?_
    refine x_iload C (dq DX2_readPath 24 rfl) 4 rfl ?_
    refine x_iconst (v := 5) C (dq DX2_readPath 25 rfl) (by decide) ?_
    refine x_icmp_ne (tgt := 56) C (dq DX2_readPath 26 rfl) (by decide) h (fun h => ?_) (fun h => ?_)
    · refine x_aload_n C (dq DX2_readPath 32 rfl) rfl 2 rfl ?_
      refine x_aload_n C (dq DX2_readPath 33 rfl) rfl 1 rfl ?_
      refine x_pc 58 rfl ?_
      refine getX2_35 C (dq DX2_readPath 34 rfl) g1 ?_
      refine callX2_69 C (dq DX2_readPath 35 rfl) h (by decide) (by decide) (Nat.le_of_ble_eq_true rfl) (fun a2 h => ?_)
      refine x_istore (lv' := [(5, .int a2), (0, .ref (E.2.2 x0)), (1, .ref (E.2.2 x1)), (2, .ref (E.2.2 x2)), (3, .int x3), (4, .int x4)]) C (dq DX2_readPath 36 rfl) (by decide) rfl ?_
      refine x_iload C (dq DX2_readPath 37 rfl) 0 rfl ?_
      refine x_iconst (v := (-1)) C (dq DX2_readPath 38 rfl) (by decide) ?_
      refine x_pc 69 rfl ?_
      refine x_icmp_ne (tgt := 79) C (dq DX2_readPath 39 rfl) (by decide) h (fun h => ?_) (fun h => ?_)
      · refine x_aload_n C (dq DX2_readPath 45 rfl) rfl 3 rfl ?_
        refine getX2_111 C (dq DX2_readPath 46 rfl) g2 ?_
        refine x_iload C (dq DX2_readPath 47 rfl) 0 rfl ?_
        refine x_bipush (v := 8) C (dq DX2_readPath 48 rfl) (by decide) ?_
        refine x_pc 87 rfl ?_
        refine x_imul C (dq DX2_readPath 49 rfl) ?_
        refine x_iload_n C (dq DX2_readPath 50 rfl) rfl 4 rfl ?_
        refine x_iadd C (dq DX2_readPath 51 rfl) ?_
        refine x_iald C (dq DX2_readPath 52 rfl) h (fun a3 h => ?_)
        refine x_bipush (v := (-2)) C (dq DX2_readPath 53 rfl) (by decide) ?_
        refine x_pc 93 rfl ?_
        refine x_icmp_eq (tgt := 103) C (dq DX2_readPath 54 rfl) (by decide) h (fun h => ?_) (fun h => ?_)
        · refine x_aload_n C (dq DX2_readPath 60 rfl) rfl 3 rfl ?_
          refine x_iload_n C (dq DX2_readPath 61 rfl) rfl 4 rfl ?_
          refine x_iload C (dq DX2_readPath 62 rfl) 5 rfl ?_
          refine x_iload C (dq DX2_readPath 63 rfl) 0 rfl ?_
          refine x_pc 109 rfl ?_
          refine callX2_114 C (dq DX2_readPath 64 rfl) h (by decide) (by decide) (Nat.le_of_ble_eq_true rfl) (fun m4 h => ?_)
          refine x_iinc (v := x4 + 1) (lv' := [(4, .int (x4 + 1)), (5, .int a2), (0, .ref (E.2.2 x0)), (1, .ref (E.2.2 x1)), (2, .ref (E.2.2 x2)), (3, .int x3)]) C (dq DX2_readPath 65 rfl) 5 rfl rfl (by decide) rfl ?_
          refine x_goto (tgt := 3) C (dq DX2_readPath 66 rfl) (by decide) ?_
          cases h
          exact x_lv [2, 3, 4, 5, 0] rfl (kb (x4 + 1, m4) rfl)
        · refine x_aload_n C (dq DX2_readPath 55 rfl) rfl 1 rfl ?_
          refine x_aload_n C (dq DX2_readPath 56 rfl) rfl 2 rfl ?_
          refine x_iconst (v := 3) C (dq DX2_readPath 57 rfl) (by decide) ?_
          refine callX2_31 C (dq DX2_readPath 58 rfl) h (by decide) (by decide) (Nat.le_of_ble_eq_true rfl) (fun a5 m6 h => ?_)
          refine x_pc 102 rfl ?_
          refine x_zret C (dq DX2_readPath 59 rfl) h (fun h => ?_)
          cases h
          exact (kr (a5, m6) rfl)
      · refine x_aload_n C (dq DX2_readPath 40 rfl) rfl 1 rfl ?_
        refine x_aload_n C (dq DX2_readPath 41 rfl) rfl 2 rfl ?_
        refine x_iconst (v := 4) C (dq DX2_readPath 42 rfl) (by decide) ?_
        refine callX2_31 C (dq DX2_readPath 43 rfl) h (by decide) (by decide) (Nat.le_of_ble_eq_true rfl) (fun a7 m8 h => ?_)
        refine x_pc 78 rfl ?_
        refine x_zret C (dq DX2_readPath 44 rfl) h (fun h => ?_)
        cases h
        exact (kr (a7, m8) rfl)
    · refine x_aload_n C (dq DX2_readPath 27 rfl) rfl 0 rfl ?_
      refine x_aload_n C (dq DX2_readPath 28 rfl) rfl 1 rfl ?_
      refine x_pc 51 rfl ?_
      refine x_iconst (v := 2) C (dq DX2_readPath 29 rfl) (by decide) ?_
      refine callX2_31 C (dq DX2_readPath 30 rfl) h (by decide) (by decide) (Nat.le_of_ble_eq_true rfl) (fun a9 m10 h => ?_)
      refine x_zret C (dq DX2_readPath 31 rfl) h (fun h => ?_)
      cases h
      exact (kr (a9, m10) rfl)
  · refine x_pc 36 rfl ?_
    refine x_aload_n C (dq DX2_readPath 19 rfl) rfl 0 rfl ?_
    refine x_aload_n C (dq DX2_readPath 20 rfl) rfl 1 rfl ?_
    refine x_iconst (v := 1) C (dq DX2_readPath 21 rfl) (by decide) ?_
    refine callX2_31 C (dq DX2_readPath 22 rfl) h (by decide) (by decide) (Nat.le_of_ble_eq_true rfl) (fun a11 m12 h => ?_)
    refine x_zret C (dq DX2_readPath 23 rfl) h (fun h => ?_)
    cases h
    exact (kr (a11, m12) rfl)
set_option maxHeartbeats 1000000 in
theorem tX2_readPath_3 {G : Gt} {l : Launch} {E : Ev} {S : List Sh} {x0 : Nat} {x1 : Nat} {x2 : Nat} {x3 : Int32} {x4 : Int32} {mm : Mm} {r : (Int32 × Mm) ⊕ ((Int32 × Mm) ⊕ (Mm))} (C : Cx G E cX2_readPath 6 RX2 (some .boolean) 3 69) (g0 : isC S x0 2) (g1 : isC S x1 4) (g2 : isC S x2 1) (h : bX2_readPath_3 S x0 x1 x2 x3 x4 mm = some r) (kb : ∀ z : Int32 × Mm, r = .inl z → WM G l E S 3 [(0, .ref (E.2.2 x0)), (1, .ref (E.2.2 x1)), (2, .ref (E.2.2 x2)), (3, .int x3), (4, .int z.1)] [] z.2) (kr : ∀ z : Int32 × Mm, r = .inr (.inl z) → RQ G E S (some (.int z.1)) z.2) (kx : ∀ z : Mm, r = .inr (.inr z) → WM G l E S 118 [(0, .ref (E.2.2 x0)), (1, .ref (E.2.2 x1)), (2, .ref (E.2.2 x2)), (3, .int x3)] [] z) : WM G l E S 3 [(0, .ref (E.2.2 x0)), (1, .ref (E.2.2 x1)), (2, .ref (E.2.2 x2)), (3, .int x3), (4, .int x4)] [] mm := by
  unfold bX2_readPath_3 at h
  refine x_iload C (dq DX2_readPath 2 rfl) 4 rfl ?_
  refine x_iconst (v := 5) C (dq DX2_readPath 3 rfl) (by decide) ?_
  refine x_icmp_gt (tgt := 118) C (dq DX2_readPath 4 rfl) (by decide) h (fun h => ?_) (fun h => ?_)
  · cases h
    exact x_lv [0, 1, 2, 3] rfl (kx (mm) rfl)
  · refine x_aload_n C (dq DX2_readPath 5 rfl) rfl 1 rfl ?_
    refine x_pc 10 rfl ?_
    refine callX2_108 C (dq DX2_readPath 6 rfl) h (by decide) (by decide) (Nat.le_of_ble_eq_true rfl) (fun m1 h => ?_)
    refine x_iload C (dq DX2_readPath 7 rfl) 4 rfl ?_
    refine x_if_le (tgt := 28) C (dq DX2_readPath 8 rfl) (by decide) h (fun h => ?_) (fun h => ?_)
    · exact x_lv [0, 1, 2, 3, 4] rfl (tX2_readPath_28 C g0 g1 g2 h kb kr kx)
    · refine x_aload_n C (dq DX2_readPath 9 rfl) rfl 1 rfl ?_
      refine getX2_26 C (dq DX2_readPath 10 rfl) g1 ?_
      refine x_pc 22 rfl ?_
      refine x_iconst (v := 4) C (dq DX2_readPath 11 rfl) (by decide) ?_
      refine x_icmp_ne (tgt := 28) C (dq DX2_readPath 12 rfl) (by decide) h (fun h => ?_) (fun h => ?_)
      · exact x_lv [0, 1, 2, 3, 4] rfl (tX2_readPath_28 C g0 g1 g2 h kb kr kx)
      · refine x_iconst (v := 1) C (dq DX2_readPath 13 rfl) (by decide) ?_
        refine x_zret C (dq DX2_readPath 14 rfl) h (fun h => ?_)
        cases h
        exact (kr (1, m1) rfl)
set_option maxHeartbeats 1000000 in
theorem mX2_readPath {l : Launch} {E : Ev} {S : List Sh} {mm : Mm} {x0 : Nat} {x1 : Nat} {x2 : Nat} {x3 : Int32} {r : Int32 × Mm} (h : fX2_readPath S mm x0 x1 x2 x3 = some r) : Ml l E S yX2_readPath cX2_readPath 6 (some .boolean) 3 69 [.ref (E.2.2 x0), .ref (E.2.2 x1), .ref (E.2.2 x2), .int x3] mm (some (.int r.1)) r.2 := by
  refine Ml.of (by decide +kernel) (Nat.le_of_ble_eq_true rfl) (fun G C hQ => ?_)
  have C : Cx G E cX2_readPath 6 RX2 (some .boolean) 3 69 := C
  unfold fX2_readPath at h
  obtain ⟨g0, h⟩ := gd_some h
  obtain ⟨g1, h⟩ := gd_some h
  obtain ⟨g2, h⟩ := gd_some h
  show WM G l E S 0 [(0, .ref (E.2.2 x0)), (1, .ref (E.2.2 x1)), (2, .ref (E.2.2 x2)), (3, .int x3)] [] mm
  refine x_iconst (v := 0) C (dq DX2_readPath 0 rfl) (by decide) ?_
  refine x_istore (lv' := [(4, .int 0), (0, .ref (E.2.2 x0)), (1, .ref (E.2.2 x1)), (2, .ref (E.2.2 x2)), (3, .int x3)]) C (dq DX2_readPath 1 rfl) (by decide) rfl ?_
  refine x_lv [1, 2, 3, 4, 0] rfl ?_
  refine x_loopR (s0 := (0, mm)) (fun s13 => WM G l E S 3 [(0, .ref (E.2.2 x0)), (1, .ref (E.2.2 x1)), (2, .ref (E.2.2 x2)), (3, .int x3), (4, .int s13.1)] [] s13.2) h (fun s13 r hb kb kg kx => tX2_readPath_3 C g0 g1 g2 hb kb (fun a15 ha => ?_) (fun y14 hy => ?_))
  · have h := kg a15 ha
    cases h
    exact hQ
  · have h := kx y14 hy
    clear kx kb hb hy kg
    refine x_iconst (v := 0) C (dq DX2_readPath 67 rfl) (by decide) ?_
    refine x_zret C (dq DX2_readPath 68 rfl) h (fun h => ?_)
    cases h
    exact hQ
set_option maxHeartbeats 1000000 in
theorem qX2_readPath {S : List Sh} {mm : Mm} {x0 : Nat} {x1 : Nat} {x2 : Nat} {x3 : Int32} {r : Int32 × Mm} (h : fX2_readPath S mm x0 x1 x2 x3 = some r) : isC S x0 2 := by
  unfold fX2_readPath at h
  exact (gd_some h).1
theorem getX2_18 {G : Gt} {l : Launch} {E : Ev} {S : List Sh} {cc : ByteArray} {nL : Nat} {rt : Option FieldType} {fr lo : Nat} {pc : Nat} {lv : List (Nat × Value)} {st : List Value} {mm : Mm} {o : Nat} (C : Cx G E cc nL RX2 rt fr lo) (d : decode cc pc = .ok (.getfield 18, 3)) (hg : isC S o 2) (k : WM G l E S (pc + 3) lv (.int (mm.1 o 2) :: st) mm) : WM G l E S pc lv (.ref (E.2.2 o) :: st) mm := x_get0 C hg (T := TX2) (N := 3) rfl inX2 (by decide) (i := 2) (gmem 73 (by decide +kernel) rfl) rfl rfl d k
abbrev eX2_isFirst : List (Nat × Instr × Nat) := [(0, .aload_n 0, 1), (1, .getfield 18, 3), (4, .iload_n 2, 1), (5, .iand, 1), (6, .ifCond .eq 10, 3), (9, .aload_n 0, 1), (10, .aload_n 1, 1), (11, .iconst 3, 1), (12, .invokevirtual 31, 3), (15, .ireturn, 1), (16, .aload_n 0, 1), (17, .dup, 1), (18, .getfield 18, 3), (21, .iload_n 2, 1), (22, .ior, 1), (23, .putfield 18, 3), (26, .iconst 1, 1), (27, .ireturn, 1)]
theorem DX2_isFirst : (eX2_isFirst.all fun q => decide (decode cX2_isFirst q.1 = .ok q.2)) = true := by decide +kernel
def fX2_isFirst (S : List Sh) (mm : Mm) (x0 : Nat) (x1 : Nat) (x2 : Int32) : Option (Int32 × Mm) := gd S x0 2 (gd S x1 4 (if ((mm.1 x0 2) &&& x2) = 0 then (bd1 (some (u1 mm x0 2 ((mm.1 x0 2) ||| x2))) fun m1 => bd1 (okZ 1) fun _ => some (1, m1)) else (bd2 (fX2_failed S mm x0 x1 3) fun a2 m3 => bd1 (okZ a2) fun _ => some (a2, m3))))
set_option maxHeartbeats 1000000 in
theorem mX2_isFirst {l : Launch} {E : Ev} {S : List Sh} {mm : Mm} {x0 : Nat} {x1 : Nat} {x2 : Int32} {r : Int32 × Mm} (h : fX2_isFirst S mm x0 x1 x2 = some r) : Ml l E S yX2_isFirst cX2_isFirst 3 (some .boolean) 1 22 [.ref (E.2.2 x0), .ref (E.2.2 x1), .int x2] mm (some (.int r.1)) r.2 := by
  refine Ml.of (by decide +kernel) (Nat.le_of_ble_eq_true rfl) (fun G C hQ => ?_)
  have C : Cx G E cX2_isFirst 3 RX2 (some .boolean) 1 22 := C
  unfold fX2_isFirst at h
  obtain ⟨g0, h⟩ := gd_some h
  obtain ⟨g1, h⟩ := gd_some h
  show WM G l E S 0 [(0, .ref (E.2.2 x0)), (1, .ref (E.2.2 x1)), (2, .int x2)] [] mm
  refine x_aload_n C (dq DX2_isFirst 0 rfl) rfl 0 rfl ?_
  refine getX2_18 C (dq DX2_isFirst 1 rfl) g0 ?_
  refine x_iload_n C (dq DX2_isFirst 2 rfl) rfl 2 rfl ?_
  refine x_iand C (dq DX2_isFirst 3 rfl) ?_
  refine x_pc 6 rfl ?_
  refine x_if_eq (tgt := 16) C (dq DX2_isFirst 4 rfl) (by decide) h (fun h => ?_) (fun h => ?_)
  · refine x_aload_n C (dq DX2_isFirst 10 rfl) rfl 0 rfl ?_
    refine x_dup C (dq DX2_isFirst 11 rfl) rfl ?_
    refine getX2_18 C (dq DX2_isFirst 12 rfl) g0 ?_
    refine x_iload_n C (dq DX2_isFirst 13 rfl) rfl 2 rfl ?_
    refine x_pc 22 rfl ?_
    refine x_ior C (dq DX2_isFirst 14 rfl) ?_
    refine putX2_18 C (dq DX2_isFirst 15 rfl) g0 h (fun m1 h => ?_)
    refine x_iconst (v := 1) C (dq DX2_isFirst 16 rfl) (by decide) ?_
    refine x_zret C (dq DX2_isFirst 17 rfl) h (fun h => ?_)
    cases h
    exact hQ
  · refine x_aload_n C (dq DX2_isFirst 5 rfl) rfl 0 rfl ?_
    refine x_aload_n C (dq DX2_isFirst 6 rfl) rfl 1 rfl ?_
    refine x_iconst (v := 3) C (dq DX2_isFirst 7 rfl) (by decide) ?_
    refine callX2_31 C (dq DX2_isFirst 8 rfl) h (by decide) (by decide) (Nat.le_of_ble_eq_true rfl) (fun a2 m3 h => ?_)
    refine x_pc 15 rfl ?_
    refine x_zret C (dq DX2_isFirst 9 rfl) h (fun h => ?_)
    cases h
    exact hQ
set_option maxHeartbeats 1000000 in
theorem qX2_isFirst {S : List Sh} {mm : Mm} {x0 : Nat} {x1 : Nat} {x2 : Int32} {r : Int32 × Mm} (h : fX2_isFirst S mm x0 x1 x2 = some r) : isC S x0 2 := by
  unfold fX2_isFirst at h
  exact (gd_some h).1
abbrev eX2_readName : List (Nat × Instr × Nat) := [(0, .aload_n 1, 1), (1, .invokevirtual 108, 3), (4, .aload_n 1, 1), (5, .getfield 26, 3), (8, .iconst 1, 1), (9, .if_icmp .eq 12, 3), (12, .aload_n 0, 1), (13, .aload_n 1, 1), (14, .iconst 1, 1), (15, .invokevirtual 31, 3), (18, .ifCond .eq 7, 3), (21, .iconst 1, 1), (22, .goto 4, 3), (25, .iconst 0, 1), (26, .ireturn, 1)]
theorem DX2_readName : (eX2_readName.all fun q => decide (decode cX2_readName q.1 = .ok q.2)) = true := by decide +kernel
def jX2_readName_26 (S : List Sh) (mm : Mm) (x0 : Nat) (x1 : Nat) (p0 : Int32) : Option (Int32 × Mm) := bd1 (okZ p0) fun _ => some (p0, mm)
def jX2_readName_21 (S : List Sh) (mm : Mm) (x0 : Nat) (x1 : Nat)  : Option (Int32 × Mm) := jX2_readName_26 S mm x0 x1 1
def fX2_readName (S : List Sh) (mm : Mm) (x0 : Nat) (x1 : Nat) : Option (Int32 × Mm) := gd S x0 2 (gd S x1 4 (bd1 (fX4_next S mm x1) fun m1 => if (m1.1 x1 4) = 1 then (jX2_readName_21 S m1 x0 x1) else (bd2 (fX2_failed S m1 x0 x1 1) fun a2 m3 => if a2 = 0 then (jX2_readName_26 S m3 x0 x1 0) else (jX2_readName_21 S m3 x0 x1))))
set_option maxHeartbeats 1000000 in
theorem tX2_readName_26 {G : Gt} {l : Launch} {E : Ev} {S : List Sh} {mm : Mm} {x0 : Nat} {x1 : Nat} {p0 : Int32} {r : Int32 × Mm} (C : Cx G E cX2_readName 2 RX2 (some .boolean) 3 69) (g0 : isC S x0 2) (g1 : isC S x1 4) (h : jX2_readName_26 S mm x0 x1 p0 = some r) (hQ : RQ G E S (some (.int r.1)) r.2) : WM G l E S 26 [(0, .ref (E.2.2 x0)), (1, .ref (E.2.2 x1))] [.int p0] mm := by
  unfold jX2_readName_26 at h
  refine x_zret C (dq DX2_readName 14 rfl) h (fun h => ?_)
  cases h
  exact hQ
set_option maxHeartbeats 1000000 in
theorem tX2_readName_21 {G : Gt} {l : Launch} {E : Ev} {S : List Sh} {mm : Mm} {x0 : Nat} {x1 : Nat}  {r : Int32 × Mm} (C : Cx G E cX2_readName 2 RX2 (some .boolean) 3 69) (g0 : isC S x0 2) (g1 : isC S x1 4) (h : jX2_readName_21 S mm x0 x1 = some r) (hQ : RQ G E S (some (.int r.1)) r.2) : WM G l E S 21 [(0, .ref (E.2.2 x0)), (1, .ref (E.2.2 x1))] [] mm := by
  unfold jX2_readName_21 at h
  refine x_iconst (v := 1) C (dq DX2_readName 11 rfl) (by decide) ?_
  refine x_goto (tgt := 26) C (dq DX2_readName 12 rfl) (by decide) ?_
  exact x_lv [0, 1] rfl (tX2_readName_26 C g0 g1 h hQ)
set_option maxHeartbeats 1000000 in
theorem mX2_readName {l : Launch} {E : Ev} {S : List Sh} {mm : Mm} {x0 : Nat} {x1 : Nat} {r : Int32 × Mm} (h : fX2_readName S mm x0 x1 = some r) : Ml l E S yX2_readName cX2_readName 2 (some .boolean) 3 69 [.ref (E.2.2 x0), .ref (E.2.2 x1)] mm (some (.int r.1)) r.2 := by
  refine Ml.of (by decide +kernel) (Nat.le_of_ble_eq_true rfl) (fun G C hQ => ?_)
  have C : Cx G E cX2_readName 2 RX2 (some .boolean) 3 69 := C
  unfold fX2_readName at h
  obtain ⟨g0, h⟩ := gd_some h
  obtain ⟨g1, h⟩ := gd_some h
  show WM G l E S 0 [(0, .ref (E.2.2 x0)), (1, .ref (E.2.2 x1))] [] mm
  refine x_aload_n C (dq DX2_readName 0 rfl) rfl 1 rfl ?_
  refine callX2_108 C (dq DX2_readName 1 rfl) h (by decide) (by decide) (Nat.le_of_ble_eq_true rfl) (fun m1 h => ?_)
  refine x_aload_n C (dq DX2_readName 2 rfl) rfl 1 rfl ?_
  refine getX2_26 C (dq DX2_readName 3 rfl) g1 ?_
  refine x_pc 8 rfl ?_
  refine x_iconst (v := 1) C (dq DX2_readName 4 rfl) (by decide) ?_
  refine x_icmp_eq (tgt := 21) C (dq DX2_readName 5 rfl) (by decide) h (fun h => ?_) (fun h => ?_)
  · exact x_lv [0, 1] rfl (tX2_readName_21 C g0 g1 h hQ)
  · refine x_aload_n C (dq DX2_readName 6 rfl) rfl 0 rfl ?_
    refine x_aload_n C (dq DX2_readName 7 rfl) rfl 1 rfl ?_
    refine x_iconst (v := 1) C (dq DX2_readName 8 rfl) (by decide) ?_
    refine x_pc 15 rfl ?_
    refine callX2_31 C (dq DX2_readName 9 rfl) h (by decide) (by decide) (Nat.le_of_ble_eq_true rfl) (fun a2 m3 h => ?_)
    refine x_if_eq (tgt := 25) C (dq DX2_readName 10 rfl) (by decide) h (fun h => ?_) (fun h => ?_)
    · refine x_iconst (v := 0) C (dq DX2_readName 13 rfl) (by decide) ?_
      exact x_lv [0, 1] rfl (tX2_readName_26 C g0 g1 h hQ)
    · exact x_lv [0, 1] rfl (tX2_readName_21 C g0 g1 h hQ)
set_option maxHeartbeats 1000000 in
theorem qX2_readName {S : List Sh} {mm : Mm} {x0 : Nat} {x1 : Nat} {r : Int32 × Mm} (h : fX2_readName S mm x0 x1 = some r) : isC S x0 2 := by
  unfold fX2_readName at h
  exact (gd_some h).1
abbrev eX2_readNumber : List (Nat × Instr × Nat) := [(0, .aload_n 1, 1), (1, .invokevirtual 108, 3), (4, .aload_n 1, 1), (5, .getfield 26, 3), (8, .iconst 3, 1), (9, .if_icmp .eq 10, 3), (12, .aload_n 0, 1), (13, .aload_n 1, 1), (14, .iconst 1, 1), (15, .invokevirtual 31, 3), (18, .ireturn, 1), (19, .aload_n 1, 1), (20, .getfield 35, 3), (23, .iload_n 2, 1), (24, .if_icmp .lt 11, 3), (27, .aload_n 1, 1), (28, .getfield 35, 3), (31, .iload_n 3, 1), (32, .if_icmp .le 10, 3), (35, .aload_n 0, 1), (36, .aload_n 1, 1), (37, .iconst 2, 1), (38, .invokevirtual 31, 3), (41, .ireturn, 1), (42, .iload 5, 2), (44, .ifCond .lt 20, 3), (47, .iload 5, 2), (49, .aload 4, 2), (51, .arraylength, 1), (52, .if_icmp .ge 12, 3), (55, .aload 4, 2), (57, .iload 5, 2), (59, .aload_n 1, 1), (60, .getfield 35, 3), (63, .iastore, 1), (64, .iconst 1, 1), (65, .ireturn, 1)]
theorem DX2_readNumber : (eX2_readNumber.all fun q => decide (decode cX2_readNumber q.1 = .ok q.2)) = true := by decide +kernel
def jX2_readNumber_35 (S : List Sh) (mm : Mm) (x0 : Nat) (x1 : Nat)  : Option (Int32 × Mm) := bd2 (fX2_failed S mm x0 x1 2) fun a2 m3 => bd1 (okZ a2) fun _ => some (a2, m3)
def jX2_readNumber_64 (S : List Sh) (mm : Mm) (x0 : Nat) (x1 : Nat)  : Option (Int32 × Mm) := bd1 (okZ 1) fun _ => some (1, mm)
def fX2_readNumber (S : List Sh) (mm : Mm) (x0 : Nat) (x1 : Nat) (x2 : Int32) (x3 : Int32) (x4 : Nat) (x5 : Int32) : Option (Int32 × Mm) := gd S x0 2 (gd S x1 4 (bd1 (fX4_next S mm x1) fun m1 => if (m1.1 x1 4) = 3 then (if (m1.1 x1 6) < x2 then (jX2_readNumber_35 S m1 x0 x1) else (if (m1.1 x1 6) ≤ x3 then (if x5 < 0 then (jX2_readNumber_64 S m1 x0 x1) else (bd1 (alA S x4) fun a4 => if a4 ≤ x5 then (jX2_readNumber_64 S m1 x0 x1) else (bd1 (stA S 0 m1 x4 x5 (m1.1 x1 6)) fun m5 => jX2_readNumber_64 S m5 x0 x1))) else (jX2_readNumber_35 S m1 x0 x1))) else (bd2 (fX2_failed S m1 x0 x1 1) fun a6 m7 => bd1 (okZ a6) fun _ => some (a6, m7))))
set_option maxHeartbeats 1000000 in
theorem tX2_readNumber_35 {G : Gt} {l : Launch} {E : Ev} {S : List Sh} {mm : Mm} {x0 : Nat} {x1 : Nat}  {r : Int32 × Mm} (C : Cx G E cX2_readNumber 6 RX2 (some .boolean) 3 69) (g0 : isC S x0 2) (g1 : isC S x1 4) (h : jX2_readNumber_35 S mm x0 x1 = some r) (hQ : RQ G E S (some (.int r.1)) r.2) : WM G l E S 35 [(0, .ref (E.2.2 x0)), (1, .ref (E.2.2 x1))] [] mm := by
  unfold jX2_readNumber_35 at h
  refine x_aload_n C (dq DX2_readNumber 19 rfl) rfl 0 rfl ?_
  refine x_aload_n C (dq DX2_readNumber 20 rfl) rfl 1 rfl ?_
  refine x_iconst (v := 2) C (dq DX2_readNumber 21 rfl) (by decide) ?_
  refine callX2_31 C (dq DX2_readNumber 22 rfl) h (by decide) (by decide) (Nat.le_of_ble_eq_true rfl) (fun a2 m3 h => ?_)
  refine x_pc 41 rfl ?_
  refine x_zret C (dq DX2_readNumber 23 rfl) h (fun h => ?_)
  cases h
  exact hQ
set_option maxHeartbeats 1000000 in
theorem tX2_readNumber_64 {G : Gt} {l : Launch} {E : Ev} {S : List Sh} {mm : Mm} {x0 : Nat} {x1 : Nat}  {r : Int32 × Mm} (C : Cx G E cX2_readNumber 6 RX2 (some .boolean) 3 69) (g0 : isC S x0 2) (g1 : isC S x1 4) (h : jX2_readNumber_64 S mm x0 x1 = some r) (hQ : RQ G E S (some (.int r.1)) r.2) : WM G l E S 64 [(0, .ref (E.2.2 x0)), (1, .ref (E.2.2 x1))] [] mm := by
  unfold jX2_readNumber_64 at h
  refine x_iconst (v := 1) C (dq DX2_readNumber 35 rfl) (by decide) ?_
  refine x_zret C (dq DX2_readNumber 36 rfl) h (fun h => ?_)
  cases h
  exact hQ
set_option maxHeartbeats 1000000 in
theorem mX2_readNumber {l : Launch} {E : Ev} {S : List Sh} {mm : Mm} {x0 : Nat} {x1 : Nat} {x2 : Int32} {x3 : Int32} {x4 : Nat} {x5 : Int32} {r : Int32 × Mm} (h : fX2_readNumber S mm x0 x1 x2 x3 x4 x5 = some r) : Ml l E S yX2_readNumber cX2_readNumber 6 (some .boolean) 3 69 [.ref (E.2.2 x0), .ref (E.2.2 x1), .int x2, .int x3, .ref (E.2.2 x4), .int x5] mm (some (.int r.1)) r.2 := by
  refine Ml.of (by decide +kernel) (Nat.le_of_ble_eq_true rfl) (fun G C hQ => ?_)
  have C : Cx G E cX2_readNumber 6 RX2 (some .boolean) 3 69 := C
  unfold fX2_readNumber at h
  obtain ⟨g0, h⟩ := gd_some h
  obtain ⟨g1, h⟩ := gd_some h
  show WM G l E S 0 [(0, .ref (E.2.2 x0)), (1, .ref (E.2.2 x1)), (2, .int x2), (3, .int x3), (4, .ref (E.2.2 x4)), (5, .int x5)] [] mm
  refine x_aload_n C (dq DX2_readNumber 0 rfl) rfl 1 rfl ?_
  refine callX2_108 C (dq DX2_readNumber 1 rfl) h (by decide) (by decide) (Nat.le_of_ble_eq_true rfl) (fun m1 h => ?_)
  refine x_aload_n C (dq DX2_readNumber 2 rfl) rfl 1 rfl ?_
  refine getX2_26 C (dq DX2_readNumber 3 rfl) g1 ?_
  refine x_pc 8 rfl ?_
  refine x_iconst (v := 3) C (dq DX2_readNumber 4 rfl) (by decide) ?_
  refine x_icmp_eq (tgt := 19) C (dq DX2_readNumber 5 rfl) (by decide) h (fun h => ?_) (fun h => ?_)
  · refine x_aload_n C (dq DX2_readNumber 11 rfl) rfl 1 rfl ?_
    refine getX2_35 C (dq DX2_readNumber 12 rfl) g1 ?_
    refine x_iload_n C (dq DX2_readNumber 13 rfl) rfl 2 rfl ?_
    refine x_pc 24 rfl ?_
    refine x_icmp_lt (tgt := 35) C (dq DX2_readNumber 14 rfl) (by decide) h (fun h => ?_) (fun h => ?_)
    · exact x_lv [0, 1] rfl (tX2_readNumber_35 C g0 g1 h hQ)
    · refine x_aload_n C (dq DX2_readNumber 15 rfl) rfl 1 rfl ?_
      refine getX2_35 C (dq DX2_readNumber 16 rfl) g1 ?_
      refine x_iload_n C (dq DX2_readNumber 17 rfl) rfl 3 rfl ?_
      refine x_icmp_le (tgt := 42) C (dq DX2_readNumber 18 rfl) (by decide) h (fun h => ?_) (fun h => ?_)
      · refine x_pc 42 rfl ?_
        refine x_iload C (dq DX2_readNumber 24 rfl) 5 rfl ?_
        refine x_if_lt (tgt := 64) C (dq DX2_readNumber 25 rfl) (by decide) h (fun h => ?_) (fun h => ?_)
        · exact x_lv [0, 1] rfl (tX2_readNumber_64 C g0 g1 h hQ)
        · refine x_iload C (dq DX2_readNumber 26 rfl) 5 rfl ?_
          refine x_aload C (dq DX2_readNumber 27 rfl) 4 rfl ?_
          refine x_alen C (dq DX2_readNumber 28 rfl) h (fun a4 h => ?_)
          refine x_pc 52 rfl ?_
          refine x_icmp_ge (tgt := 64) C (dq DX2_readNumber 29 rfl) (by decide) h (fun h => ?_) (fun h => ?_)
          · exact x_lv [0, 1] rfl (tX2_readNumber_64 C g0 g1 h hQ)
          · refine x_aload C (dq DX2_readNumber 30 rfl) 4 rfl ?_
            refine x_iload C (dq DX2_readNumber 31 rfl) 5 rfl ?_
            refine x_aload_n C (dq DX2_readNumber 32 rfl) rfl 1 rfl ?_
            refine getX2_35 C (dq DX2_readNumber 33 rfl) g1 ?_
            refine x_pc 63 rfl ?_
            refine x_iast C (dq DX2_readNumber 34 rfl) h (fun m5 h => ?_)
            exact x_lv [0, 1] rfl (tX2_readNumber_64 C g0 g1 h hQ)
      · exact x_lv [0, 1] rfl (tX2_readNumber_35 C g0 g1 h hQ)
  · refine x_aload_n C (dq DX2_readNumber 6 rfl) rfl 0 rfl ?_
    refine x_aload_n C (dq DX2_readNumber 7 rfl) rfl 1 rfl ?_
    refine x_iconst (v := 1) C (dq DX2_readNumber 8 rfl) (by decide) ?_
    refine x_pc 15 rfl ?_
    refine callX2_31 C (dq DX2_readNumber 9 rfl) h (by decide) (by decide) (Nat.le_of_ble_eq_true rfl) (fun a6 m7 h => ?_)
    refine x_zret C (dq DX2_readNumber 10 rfl) h (fun h => ?_)
    cases h
    exact hQ
set_option maxHeartbeats 1000000 in
theorem qX2_readNumber {S : List Sh} {mm : Mm} {x0 : Nat} {x1 : Nat} {x2 : Int32} {x3 : Int32} {x4 : Nat} {x5 : Int32} {r : Int32 × Mm} (h : fX2_readNumber S mm x0 x1 x2 x3 x4 x5 = some r) : isC S x0 2 := by
  unfold fX2_readNumber at h
  exact (gd_some h).1
theorem getX2_95 {G : Gt} {l : Launch} {E : Ev} {S : List Sh} {cc : ByteArray} {nL : Nat} {rt : Option FieldType} {fr lo : Nat} {pc : Nat} {lv : List (Nat × Value)} {st : List Value} {mm : Mm} {o : Nat} (C : Cx G E cc nL RX2 rt fr lo) (d : decode cc pc = .ok (.getfield 95, 3)) (hg : isC S o 1) (k : WM G l E S (pc + 3) lv (.int (mm.1 o 10) :: st) mm) : WM G l E S pc lv (.ref (E.2.2 o) :: st) mm := x_getN0 C hg (T := TX1) (N := 11) rfl inX1 (by decide) (i := 10) (host := "LosslessFabric") (nmem 217 (by decide +kernel) rfl) rfl rfl d k
theorem getX2_101 {G : Gt} {l : Launch} {E : Ev} {S : List Sh} {cc : ByteArray} {nL : Nat} {rt : Option FieldType} {fr lo : Nat} {pc : Nat} {lv : List (Nat × Value)} {st : List Value} {mm : Mm} {o : Nat} (C : Cx G E cc nL RX2 rt fr lo) (d : decode cc pc = .ok (.getfield 101, 3)) (hg : isC S o 1) (k : WM G l E S (pc + 3) lv (.ref (E.2.2 (rf S mm o 3)) :: st) mm) : WM G l E S pc lv (.ref (E.2.2 o) :: st) mm := x_getN2 C hg (T := TX1) (N := 11) rfl inX1 (by decide) (i := 3) (host := "LosslessFabric") (nmem 191 (by decide +kernel) rfl) rfl rfl d k
theorem putX2_95 {G : Gt} {l : Launch} {E : Ev} {S : List Sh} {cc : ByteArray} {nL : Nat} {rt : Option FieldType} {fr lo : Nat} {pc : Nat} {lv : List (Nat × Value)} {st : List Value} {mm : Mm} {o : Nat} {α : Type} {f : Mm → Option α} {r : α} {x : Int32} (C : Cx G E cc nL RX2 rt fr lo) (d : decode cc pc = .ok (.putfield 95, 3)) (hg : isC S o 1) (h : bd1 (some (u1 mm o 10 x)) f = some r) (k : ∀ m1, f m1 = some r → WM G l E S (pc + 3) lv st m1) : WM G l E S pc lv (.int x :: .ref (E.2.2 o) :: st) mm := x_putNI C hg (T := TX1) (N := 11) rfl inX1 (by decide) (i := 10) (host := "LosslessFabric") (nmem 217 (by decide +kernel) rfl) rfl tyX1 tyX1_ok nmX1 rfl rfl (by decide) (by decide +kernel) d (k _ h)
theorem callX2_65 {G : Gt} {l : Launch} {E : Ev} {S : List Sh} {cc : ByteArray} {nL : Nat} {rt : Option FieldType} {fr lo : Nat} {pc : Nat} {lv : List (Nat × Value)} {rest : List Value} {mm : Mm} {α : Type} {f : Int32 → Mm → Option α} {r : α} {o : Nat} {a0 : Nat} (C : Cx G E cc nL RX2 rt fr lo) (d : decode cc pc = .ok (.invokevirtual 65, 3)) (h : bd2 (fX2_readName S mm o a0) f = some r) (hfr : 4 ≤ fr) (hlo : 90 ≤ lo) (hrs : (rest.map fun v => v.category).sum ≤ 8) (k : ∀ v m1, f v m1 = some r → WM G l E S (pc + 3) lv (.int v :: rest) m1) : WM G l E S pc lv (.ref (E.2.2 a0) :: .ref (E.2.2 o) :: rest) mm := by
  obtain ⟨v, m1, hv, hf⟩ := bd2_some h
  exact x_callV (n := 1) (As := [.ref (E.2.2 a0)]) (rest := rest) C (mX2_readName hv) (qX2_readName hv) (T := TX2) (N := 3) rfl (gmem 346 (by decide +kernel) rfl) (gmem 348 (by decide +kernel) rfl) (gmemS 4 (by decide +kernel) rfl) (gmem 3 (by decide +kernel) rfl) (gmem 349 (by decide +kernel) rfl) (by decide +kernel) rfl hfr hlo hrs d rfl rfl (k v m1 hf)
theorem callX2_79 {G : Gt} {l : Launch} {E : Ev} {S : List Sh} {cc : ByteArray} {nL : Nat} {rt : Option FieldType} {fr lo : Nat} {pc : Nat} {lv : List (Nat × Value)} {rest : List Value} {mm : Mm} {α : Type} {f : Int32 → Mm → Option α} {r : α} {o : Nat} {a0 : Nat} {a1 : Int32} {a2 : Int32} {a3 : Nat} {a4 : Int32} (C : Cx G E cc nL RX2 rt fr lo) (d : decode cc pc = .ok (.invokevirtual 79, 3)) (h : bd2 (fX2_readNumber S mm o a0 a1 a2 a3 a4) f = some r) (hfr : 4 ≤ fr) (hlo : 94 ≤ lo) (hrs : (rest.map fun v => v.category).sum ≤ 8) (k : ∀ v m1, f v m1 = some r → WM G l E S (pc + 3) lv (.int v :: rest) m1) : WM G l E S pc lv (.int a4 :: .ref (E.2.2 a3) :: .int a2 :: .int a1 :: .ref (E.2.2 a0) :: .ref (E.2.2 o) :: rest) mm := by
  obtain ⟨v, m1, hv, hf⟩ := bd2_some h
  exact x_callV (n := 5) (As := [.ref (E.2.2 a0), .int a1, .int a2, .ref (E.2.2 a3), .int a4]) (rest := rest) C (mX2_readNumber hv) (qX2_readNumber hv) (T := TX2) (N := 3) rfl (gmem 355 (by decide +kernel) rfl) (gmem 357 (by decide +kernel) rfl) (gmemS 5 (by decide +kernel) rfl) (gmem 3 (by decide +kernel) rfl) (gmem 358 (by decide +kernel) rfl) (by decide +kernel) rfl hfr hlo hrs d rfl rfl (k v m1 hf)
theorem callX2_98 {G : Gt} {l : Launch} {E : Ev} {S : List Sh} {cc : ByteArray} {nL : Nat} {rt : Option FieldType} {fr lo : Nat} {pc : Nat} {lv : List (Nat × Value)} {rest : List Value} {mm : Mm} {α : Type} {f : Int32 → Option α} {r : α} {o : Nat} {a0 : Int32} (C : Cx G E cc nL RX2 rt fr lo) (d : decode cc pc = .ok (.invokevirtual 98, 3)) (h : bd1 (fX1_flowOf S mm o a0) f = some r) (hfr : 1 ≤ fr) (hlo : 22 ≤ lo) (hrs : (rest.map fun v => v.category).sum ≤ 8) (k : ∀ v, f v = some r → WM G l E S (pc + 3) lv (.int v :: rest) mm) : WM G l E S pc lv (.int a0 :: .ref (E.2.2 o) :: rest) mm := by
  obtain ⟨v, hv, hf⟩ := bd1_some h
  exact x_callV (n := 1) (As := [.int a0]) (rest := rest) C (mX1_flowOf hv) (qX1_flowOf hv) (T := TX1) (N := 11) rfl (gmem 368 (by decide +kernel) rfl) (gmem 369 (by decide +kernel) rfl) (gmem 370 (by decide +kernel) rfl) (gmem 8 (by decide +kernel) rfl) (gmem 371 (by decide +kernel) rfl) (by decide +kernel) rfl hfr hlo hrs d rfl rfl (k v hf)
theorem callX2_104 {G : Gt} {l : Launch} {E : Ev} {S : List Sh} {cc : ByteArray} {nL : Nat} {rt : Option FieldType} {fr lo : Nat} {pc : Nat} {lv : List (Nat × Value)} {rest : List Value} {mm : Mm} {α : Type} {f : Int32 → Mm → Option α} {r : α} {o : Nat} {a0 : Nat} {a1 : Nat} {a2 : Int32} (C : Cx G E cc nL RX2 rt fr lo) (d : decode cc pc = .ok (.invokevirtual 104, 3)) (h : bd2 (fX2_readPath S mm o a0 a1 a2) f = some r) (hfr : 4 ≤ fr) (hlo : 94 ≤ lo) (hrs : (rest.map fun v => v.category).sum ≤ 8) (k : ∀ v m1, f v m1 = some r → WM G l E S (pc + 3) lv (.int v :: rest) m1) : WM G l E S pc lv (.int a2 :: .ref (E.2.2 a1) :: .ref (E.2.2 a0) :: .ref (E.2.2 o) :: rest) mm := by
  obtain ⟨v, m1, hv, hf⟩ := bd2_some h
  exact x_callV (n := 3) (As := [.ref (E.2.2 a0), .ref (E.2.2 a1), .int a2]) (rest := rest) C (mX2_readPath hv) (qX2_readPath hv) (T := TX2) (N := 3) rfl (gmem 372 (by decide +kernel) rfl) (gmem 374 (by decide +kernel) rfl) (gmemS 8 (by decide +kernel) rfl) (gmem 3 (by decide +kernel) rfl) (gmem 375 (by decide +kernel) rfl) (by decide +kernel) rfl hfr hlo hrs d rfl rfl (k v m1 hf)
abbrev eX2_readFlow : List (Nat × Instr × Nat) := [(0, .aload_n 2, 1), (1, .getfield 95, 3), (4, .istore 4, 2), (6, .iload 4, 2), (8, .bipush 8, 2), (10, .if_icmp .lt 10, 3), (13, .aload_n 0, 1), (14, .aload_n 1, 1), (15, .iconst 2, 1), (16, .invokevirtual 31, 3), (19, .ireturn, 1), (20, .aload_n 0, 1), (21, .aload_n 1, 1), (22, .invokevirtual 65, 3), (25, .ifCond .ne 5, 3), (28, .iconst 0, 1), (29, .ireturn, 1), (30, .aload_n 2, 1), (31, .aload_n 1, 1), (32, .getfield 35, 3), (35, .invokevirtual 98, 3), (38, .iconst (-1), 1), (39, .if_icmp .eq 10, 3), (42, .aload_n 0, 1), (43, .aload_n 1, 1), (44, .iconst 3, 1), (45, .invokevirtual 31, 3), (48, .ireturn, 1), (49, .aload_n 2, 1), (50, .getfield 101, 3), (53, .iload 4, 2), (55, .aload_n 1, 1), (56, .getfield 35, 3), (59, .iastore, 1), (60, .aload_n 2, 1), (61, .iload 4, 2), (63, .iconst 1, 1), (64, .iadd, 1), (65, .putfield 95, 3), (68, .aload_n 0, 1), (69, .aload_n 1, 1), (70, .iconst 1, 1), (71, .sipush 1024, 3), (74, .aload_n 3, 1), (75, .sipush 200, 3), (78, .iload 4, 2), (80, .iadd, 1), (81, .invokevirtual 79, 3), (84, .ifCond .ne 5, 3), (87, .iconst 0, 1), (88, .ireturn, 1), (89, .aload_n 3, 1), (90, .sipush 208, 3), (93, .iload 4, 2), (95, .iadd, 1), (96, .aload_n 3, 1), (97, .sipush 200, 3), (100, .iload 4, 2), (102, .iadd, 1), (103, .iaload, 1), (104, .iastore, 1), (105, .aload_n 3, 1), (106, .sipush 264, 3), (109, .iload 4, 2), (111, .iadd, 1), (112, .iconst 1, 1), (113, .iastore, 1), (114, .aload_n 0, 1), (115, .aload_n 1, 1), (116, .aload_n 2, 1), (117, .iload 4, 2), (119, .invokevirtual 104, 3), (122, .ireturn, 1)]
theorem DX2_readFlow : (eX2_readFlow.all fun q => decide (decode cX2_readFlow q.1 = .ok q.2)) = true := by decide +kernel
def fX2_readFlow (S : List Sh) (mm : Mm) (x0 : Nat) (x1 : Nat) (x2 : Nat) (x3 : Nat) : Option (Int32 × Mm) := gd S x0 2 (gd S x1 4 (gd S x2 1 (if (mm.1 x2 10) < 8 then (bd2 (fX2_readName S mm x0 x1) fun a1 m2 => if ¬ a1 = 0 then (bd1 (fX1_flowOf S m2 x2 (m2.1 x1 6)) fun a3 => if a3 = (-1) then (bd1 (stA S 0 m2 (rf S m2 x2 3) (mm.1 x2 10) (m2.1 x1 6)) fun m4 => bd1 (some (u1 m4 x2 10 ((mm.1 x2 10) + 1))) fun m5 => bd2 (fX2_readNumber S m5 x0 x1 1 1024 x3 (200 + (mm.1 x2 10))) fun a6 m7 => if ¬ a6 = 0 then (bd1 (ldA S 0 m7 x3 (200 + (mm.1 x2 10))) fun a8 => bd1 (stA S 0 m7 x3 (208 + (mm.1 x2 10)) a8) fun m9 => bd1 (stA S 0 m9 x3 (264 + (mm.1 x2 10)) 1) fun m10 => bd2 (fX2_readPath S m10 x0 x1 x2 (mm.1 x2 10)) fun a11 m12 => bd1 (okZ a11) fun _ => some (a11, m12)) else (bd1 (okZ 0) fun _ => some (0, m7))) else (bd2 (fX2_failed S m2 x0 x1 3) fun a13 m14 => bd1 (okZ a13) fun _ => some (a13, m14))) else (bd1 (okZ 0) fun _ => some (0, m2))) else (bd2 (fX2_failed S mm x0 x1 2) fun a15 m16 => bd1 (okZ a15) fun _ => some (a15, m16)))))
set_option maxHeartbeats 1000000 in
theorem mX2_readFlow {l : Launch} {E : Ev} {S : List Sh} {mm : Mm} {x0 : Nat} {x1 : Nat} {x2 : Nat} {x3 : Nat} {r : Int32 × Mm} (h : fX2_readFlow S mm x0 x1 x2 x3 = some r) : Ml l E S yX2_readFlow cX2_readFlow 5 (some .boolean) 4 94 [.ref (E.2.2 x0), .ref (E.2.2 x1), .ref (E.2.2 x2), .ref (E.2.2 x3)] mm (some (.int r.1)) r.2 := by
  refine Ml.of (by decide +kernel) (Nat.le_of_ble_eq_true rfl) (fun G C hQ => ?_)
  have C : Cx G E cX2_readFlow 5 RX2 (some .boolean) 4 94 := C
  unfold fX2_readFlow at h
  obtain ⟨g0, h⟩ := gd_some h
  obtain ⟨g1, h⟩ := gd_some h
  obtain ⟨g2, h⟩ := gd_some h
  show WM G l E S 0 [(0, .ref (E.2.2 x0)), (1, .ref (E.2.2 x1)), (2, .ref (E.2.2 x2)), (3, .ref (E.2.2 x3))] [] mm
  refine x_aload_n C (dq DX2_readFlow 0 rfl) rfl 2 rfl ?_
  refine getX2_95 C (dq DX2_readFlow 1 rfl) g2 ?_
  refine x_istore (lv' := [(4, .int (mm.1 x2 10)), (0, .ref (E.2.2 x0)), (1, .ref (E.2.2 x1)), (2, .ref (E.2.2 x2)), (3, .ref (E.2.2 x3))]) C (dq DX2_readFlow 2 rfl) (by decide) rfl ?_
  refine x_iload C (dq DX2_readFlow 3 rfl) 0 rfl ?_
  refine x_pc 8 rfl ?_
  refine x_bipush (v := 8) C (dq DX2_readFlow 4 rfl) (by decide) ?_
  refine x_icmp_lt (tgt := 20) C (dq DX2_readFlow 5 rfl) (by decide) h (fun h => ?_) (fun h => ?_)
  · refine x_aload_n C (dq DX2_readFlow 11 rfl) rfl 1 rfl ?_
    refine x_aload_n C (dq DX2_readFlow 12 rfl) rfl 2 rfl ?_
    refine callX2_65 C (dq DX2_readFlow 13 rfl) h (by decide) (by decide) (Nat.le_of_ble_eq_true rfl) (fun a1 m2 h => ?_)
    refine x_pc 25 rfl ?_
    refine x_if_ne (tgt := 30) C (dq DX2_readFlow 14 rfl) (by decide) h (fun h => ?_) (fun h => ?_)
    · refine x_aload_n C (dq DX2_readFlow 17 rfl) rfl 3 rfl ?_
      refine x_aload_n C (dq DX2_readFlow 18 rfl) rfl 2 rfl ?_
      refine getX2_35 C (dq DX2_readFlow 19 rfl) g1 ?_
      refine callX2_98 C (dq DX2_readFlow 20 rfl) h (by decide) (by decide) (Nat.le_of_ble_eq_true rfl) (fun a3 h => ?_)
      refine x_pc 38 rfl ?_
      refine x_iconst (v := (-1)) C (dq DX2_readFlow 21 rfl) (by decide) ?_
      refine x_icmp_eq (tgt := 49) C (dq DX2_readFlow 22 rfl) (by decide) h (fun h => ?_) (fun h => ?_)
      · refine x_aload_n C (dq DX2_readFlow 28 rfl) rfl 3 rfl ?_
        refine getX2_101 C (dq DX2_readFlow 29 rfl) g2 ?_
        refine x_iload C (dq DX2_readFlow 30 rfl) 0 rfl ?_
        refine x_pc 55 rfl ?_
        refine x_aload_n C (dq DX2_readFlow 31 rfl) rfl 2 rfl ?_
        refine getX2_35 C (dq DX2_readFlow 32 rfl) g1 ?_
        refine x_iast C (dq DX2_readFlow 33 rfl) h (fun m4 h => ?_)
        refine x_aload_n C (dq DX2_readFlow 34 rfl) rfl 3 rfl ?_
        refine x_iload C (dq DX2_readFlow 35 rfl) 0 rfl ?_
        refine x_pc 63 rfl ?_
        refine x_iconst (v := 1) C (dq DX2_readFlow 36 rfl) (by decide) ?_
        refine x_iadd C (dq DX2_readFlow 37 rfl) ?_
        refine putX2_95 C (dq DX2_readFlow 38 rfl) g2 h (fun m5 h => ?_)
        refine x_aload_n C (dq DX2_readFlow 39 rfl) rfl 1 rfl ?_
        refine x_aload_n C (dq DX2_readFlow 40 rfl) rfl 2 rfl ?_
        refine x_pc 70 rfl ?_
        refine x_iconst (v := 1) C (dq DX2_readFlow 41 rfl) (by decide) ?_
        refine x_sipush (v := 1024) C (dq DX2_readFlow 42 rfl) (by decide) ?_
        refine x_aload_n C (dq DX2_readFlow 43 rfl) rfl 4 rfl ?_
        refine x_sipush (v := 200) C (dq DX2_readFlow 44 rfl) (by decide) ?_
        refine x_iload C (dq DX2_readFlow 45 rfl) 0 rfl ?_
        refine x_pc 80 rfl ?_
        refine x_iadd C (dq DX2_readFlow 46 rfl) ?_
        refine callX2_79 C (dq DX2_readFlow 47 rfl) h (by decide) (by decide) (Nat.le_of_ble_eq_true rfl) (fun a6 m7 h => ?_)
        refine x_if_ne (tgt := 89) C (dq DX2_readFlow 48 rfl) (by decide) h (fun h => ?_) (fun h => ?_)
        · refine x_aload_n C (dq DX2_readFlow 51 rfl) rfl 4 rfl ?_
          refine x_sipush (v := 208) C (dq DX2_readFlow 52 rfl) (by decide) ?_
          refine x_pc 93 rfl ?_
          refine x_iload C (dq DX2_readFlow 53 rfl) 0 rfl ?_
          refine x_iadd C (dq DX2_readFlow 54 rfl) ?_
          refine x_aload_n C (dq DX2_readFlow 55 rfl) rfl 4 rfl ?_
          refine x_sipush (v := 200) C (dq DX2_readFlow 56 rfl) (by decide) ?_
          refine x_iload C (dq DX2_readFlow 57 rfl) 0 rfl ?_
          refine x_pc 102 rfl ?_
          refine x_iadd C (dq DX2_readFlow 58 rfl) ?_
          refine x_iald C (dq DX2_readFlow 59 rfl) h (fun a8 h => ?_)
          refine x_iast C (dq DX2_readFlow 60 rfl) h (fun m9 h => ?_)
          refine x_aload_n C (dq DX2_readFlow 61 rfl) rfl 4 rfl ?_
          refine x_sipush (v := 264) C (dq DX2_readFlow 62 rfl) (by decide) ?_
          refine x_pc 109 rfl ?_
          refine x_iload C (dq DX2_readFlow 63 rfl) 0 rfl ?_
          refine x_iadd C (dq DX2_readFlow 64 rfl) ?_
          refine x_iconst (v := 1) C (dq DX2_readFlow 65 rfl) (by decide) ?_
          refine x_iast C (dq DX2_readFlow 66 rfl) h (fun m10 h => ?_)
          refine x_aload_n C (dq DX2_readFlow 67 rfl) rfl 1 rfl ?_
          refine x_pc 115 rfl ?_
          refine x_aload_n C (dq DX2_readFlow 68 rfl) rfl 2 rfl ?_
          refine x_aload_n C (dq DX2_readFlow 69 rfl) rfl 3 rfl ?_
          refine x_iload C (dq DX2_readFlow 70 rfl) 0 rfl ?_
          refine callX2_104 C (dq DX2_readFlow 71 rfl) h (by decide) (by decide) (Nat.le_of_ble_eq_true rfl) (fun a11 m12 h => ?_)
          refine x_zret C (dq DX2_readFlow 72 rfl) h (fun h => ?_)
          cases h
          exact hQ
        · refine x_iconst (v := 0) C (dq DX2_readFlow 49 rfl) (by decide) ?_
          refine x_zret C (dq DX2_readFlow 50 rfl) h (fun h => ?_)
          cases h
          exact hQ
      · refine x_aload_n C (dq DX2_readFlow 23 rfl) rfl 1 rfl ?_
        refine x_aload_n C (dq DX2_readFlow 24 rfl) rfl 2 rfl ?_
        refine x_iconst (v := 3) C (dq DX2_readFlow 25 rfl) (by decide) ?_
        refine x_pc 45 rfl ?_
        refine callX2_31 C (dq DX2_readFlow 26 rfl) h (by decide) (by decide) (Nat.le_of_ble_eq_true rfl) (fun a13 m14 h => ?_)
        refine x_zret C (dq DX2_readFlow 27 rfl) h (fun h => ?_)
        cases h
        exact hQ
    · refine x_iconst (v := 0) C (dq DX2_readFlow 15 rfl) (by decide) ?_
      refine x_zret C (dq DX2_readFlow 16 rfl) h (fun h => ?_)
      cases h
      exact hQ
  · refine x_aload_n C (dq DX2_readFlow 6 rfl) rfl 1 rfl ?_
    refine x_aload_n C (dq DX2_readFlow 7 rfl) rfl 2 rfl ?_
    refine x_iconst (v := 2) C (dq DX2_readFlow 8 rfl) (by decide) ?_
    refine x_pc 16 rfl ?_
    refine callX2_31 C (dq DX2_readFlow 9 rfl) h (by decide) (by decide) (Nat.le_of_ble_eq_true rfl) (fun a15 m16 h => ?_)
    refine x_zret C (dq DX2_readFlow 10 rfl) h (fun h => ?_)
    cases h
    exact hQ
set_option maxHeartbeats 1000000 in
theorem qX2_readFlow {S : List Sh} {mm : Mm} {x0 : Nat} {x1 : Nat} {x2 : Nat} {x3 : Nat} {r : Int32 × Mm} (h : fX2_readFlow S mm x0 x1 x2 x3 = some r) : isC S x0 2 := by
  unfold fX2_readFlow at h
  exact (gd_some h).1
abbrev eX2_readSemicolon : List (Nat × Instr × Nat) := [(0, .aload_n 1, 1), (1, .invokevirtual 108, 3), (4, .aload_n 1, 1), (5, .getfield 26, 3), (8, .iconst 4, 1), (9, .if_icmp .eq 12, 3), (12, .aload_n 0, 1), (13, .aload_n 1, 1), (14, .iconst 1, 1), (15, .invokevirtual 31, 3), (18, .ifCond .eq 7, 3), (21, .iconst 1, 1), (22, .goto 4, 3), (25, .iconst 0, 1), (26, .ireturn, 1)]
theorem DX2_readSemicolon : (eX2_readSemicolon.all fun q => decide (decode cX2_readSemicolon q.1 = .ok q.2)) = true := by decide +kernel
def jX2_readSemicolon_26 (S : List Sh) (mm : Mm) (x0 : Nat) (x1 : Nat) (p0 : Int32) : Option (Int32 × Mm) := bd1 (okZ p0) fun _ => some (p0, mm)
def jX2_readSemicolon_21 (S : List Sh) (mm : Mm) (x0 : Nat) (x1 : Nat)  : Option (Int32 × Mm) := jX2_readSemicolon_26 S mm x0 x1 1
def fX2_readSemicolon (S : List Sh) (mm : Mm) (x0 : Nat) (x1 : Nat) : Option (Int32 × Mm) := gd S x0 2 (gd S x1 4 (bd1 (fX4_next S mm x1) fun m1 => if (m1.1 x1 4) = 4 then (jX2_readSemicolon_21 S m1 x0 x1) else (bd2 (fX2_failed S m1 x0 x1 1) fun a2 m3 => if a2 = 0 then (jX2_readSemicolon_26 S m3 x0 x1 0) else (jX2_readSemicolon_21 S m3 x0 x1))))
set_option maxHeartbeats 1000000 in
theorem tX2_readSemicolon_26 {G : Gt} {l : Launch} {E : Ev} {S : List Sh} {mm : Mm} {x0 : Nat} {x1 : Nat} {p0 : Int32} {r : Int32 × Mm} (C : Cx G E cX2_readSemicolon 2 RX2 (some .boolean) 3 69) (g0 : isC S x0 2) (g1 : isC S x1 4) (h : jX2_readSemicolon_26 S mm x0 x1 p0 = some r) (hQ : RQ G E S (some (.int r.1)) r.2) : WM G l E S 26 [(0, .ref (E.2.2 x0)), (1, .ref (E.2.2 x1))] [.int p0] mm := by
  unfold jX2_readSemicolon_26 at h
  refine x_zret C (dq DX2_readSemicolon 14 rfl) h (fun h => ?_)
  cases h
  exact hQ
set_option maxHeartbeats 1000000 in
theorem tX2_readSemicolon_21 {G : Gt} {l : Launch} {E : Ev} {S : List Sh} {mm : Mm} {x0 : Nat} {x1 : Nat}  {r : Int32 × Mm} (C : Cx G E cX2_readSemicolon 2 RX2 (some .boolean) 3 69) (g0 : isC S x0 2) (g1 : isC S x1 4) (h : jX2_readSemicolon_21 S mm x0 x1 = some r) (hQ : RQ G E S (some (.int r.1)) r.2) : WM G l E S 21 [(0, .ref (E.2.2 x0)), (1, .ref (E.2.2 x1))] [] mm := by
  unfold jX2_readSemicolon_21 at h
  refine x_iconst (v := 1) C (dq DX2_readSemicolon 11 rfl) (by decide) ?_
  refine x_goto (tgt := 26) C (dq DX2_readSemicolon 12 rfl) (by decide) ?_
  exact x_lv [0, 1] rfl (tX2_readSemicolon_26 C g0 g1 h hQ)
set_option maxHeartbeats 1000000 in
theorem mX2_readSemicolon {l : Launch} {E : Ev} {S : List Sh} {mm : Mm} {x0 : Nat} {x1 : Nat} {r : Int32 × Mm} (h : fX2_readSemicolon S mm x0 x1 = some r) : Ml l E S yX2_readSemicolon cX2_readSemicolon 2 (some .boolean) 3 69 [.ref (E.2.2 x0), .ref (E.2.2 x1)] mm (some (.int r.1)) r.2 := by
  refine Ml.of (by decide +kernel) (Nat.le_of_ble_eq_true rfl) (fun G C hQ => ?_)
  have C : Cx G E cX2_readSemicolon 2 RX2 (some .boolean) 3 69 := C
  unfold fX2_readSemicolon at h
  obtain ⟨g0, h⟩ := gd_some h
  obtain ⟨g1, h⟩ := gd_some h
  show WM G l E S 0 [(0, .ref (E.2.2 x0)), (1, .ref (E.2.2 x1))] [] mm
  refine x_aload_n C (dq DX2_readSemicolon 0 rfl) rfl 1 rfl ?_
  refine callX2_108 C (dq DX2_readSemicolon 1 rfl) h (by decide) (by decide) (Nat.le_of_ble_eq_true rfl) (fun m1 h => ?_)
  refine x_aload_n C (dq DX2_readSemicolon 2 rfl) rfl 1 rfl ?_
  refine getX2_26 C (dq DX2_readSemicolon 3 rfl) g1 ?_
  refine x_pc 8 rfl ?_
  refine x_iconst (v := 4) C (dq DX2_readSemicolon 4 rfl) (by decide) ?_
  refine x_icmp_eq (tgt := 21) C (dq DX2_readSemicolon 5 rfl) (by decide) h (fun h => ?_) (fun h => ?_)
  · exact x_lv [0, 1] rfl (tX2_readSemicolon_21 C g0 g1 h hQ)
  · refine x_aload_n C (dq DX2_readSemicolon 6 rfl) rfl 0 rfl ?_
    refine x_aload_n C (dq DX2_readSemicolon 7 rfl) rfl 1 rfl ?_
    refine x_iconst (v := 1) C (dq DX2_readSemicolon 8 rfl) (by decide) ?_
    refine x_pc 15 rfl ?_
    refine callX2_31 C (dq DX2_readSemicolon 9 rfl) h (by decide) (by decide) (Nat.le_of_ble_eq_true rfl) (fun a2 m3 h => ?_)
    refine x_if_eq (tgt := 25) C (dq DX2_readSemicolon 10 rfl) (by decide) h (fun h => ?_) (fun h => ?_)
    · refine x_iconst (v := 0) C (dq DX2_readSemicolon 13 rfl) (by decide) ?_
      exact x_lv [0, 1] rfl (tX2_readSemicolon_26 C g0 g1 h hQ)
    · exact x_lv [0, 1] rfl (tX2_readSemicolon_21 C g0 g1 h hQ)
set_option maxHeartbeats 1000000 in
theorem qX2_readSemicolon {S : List Sh} {mm : Mm} {x0 : Nat} {x1 : Nat} {r : Int32 × Mm} (h : fX2_readSemicolon S mm x0 x1 = some r) : isC S x0 2 := by
  unfold fX2_readSemicolon at h
  exact (gd_some h).1
