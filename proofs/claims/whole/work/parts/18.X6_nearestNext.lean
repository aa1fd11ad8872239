abbrev eX6_nearestNext : List (Nat × Instr × Nat) := [(0, .iconst (-1), 1), (1, .istore_n 3, 1), (2, .iconst 0, 1), (3, .istore 4, 2), (5, .iload 4, 2), (7, .iload_n 2, 1), (8, .if_icmp .ge 59, 3), (11, .aload_n 0, 1), (12, .getfield 9, 3), (15, .iload_n 1, 1), (16, .iaload, 1), (17, .iload 4, 2), (19, .ishr, 1), (20, .iconst 1, 1), (21, .iand, 1), (22, .iconst 1, 1), (23, .if_icmp .ne 38, 3), (26, .aload_n 0, 1), (27, .getfield 18, 3), (30, .iload 4, 2), (32, .iaload, 1), (33, .iconst (-1), 1), (34, .if_icmp .eq 27, 3), (37, .iload_n 3, 1), (38, .iconst (-1), 1), (39, .if_icmp .eq 19, 3), (42, .aload_n 0, 1), (43, .getfield 18, 3), (46, .iload 4, 2), (48, .iaload, 1), (49, .aload_n 0, 1), (50, .getfield 18, 3), (53, .iload_n 3, 1), (54, .iaload, 1), (55, .if_icmp .ge 6, 3), (58, .iload 4, 2), (60, .istore_n 3, 1), (61, .iinc 4 1, 3), (64, .goto (-59), 3), (67, .iload_n 3, 1), (68, .ireturn, 1)]
theorem DX6_nearestNext : (eX6_nearestNext.all fun q => decide (decode cX6_nearestNext q.1 = .ok q.2)) = true := by decide +kernel
def jX6_nearestNext_61 (S : List Sh) (mm : Mm) (x0 : Nat) (x1 : Int32) (x2 : Int32) (x3 : Int32) (x4 : Int32)  : Option ((Int32 × Int32) ⊕ (Int32)) := some (.inl (x3, x4 + 1))
def jX6_nearestNext_58 (S : List Sh) (mm : Mm) (x0 : Nat) (x1 : Int32) (x2 : Int32) (x4 : Int32)  : Option ((Int32 × Int32) ⊕ (Int32)) := jX6_nearestNext_61 S mm x0 x1 x2 x4 x4
def bX6_nearestNext_5 (S : List Sh) (mm : Mm) (x0 : Nat) (x1 : Int32) (x2 : Int32) (x3 : Int32) (x4 : Int32) : Option ((Int32 × Int32) ⊕ (Int32)) := if x2 ≤ x4 then (some (.inr (x3))) else (bd1 (ldA S 0 mm (rf S mm x0 0) x1) fun a1 => if ¬ ((a1 >>> (x4 &&& 31)) &&& 1) = 1 then (jX6_nearestNext_61 S mm x0 x1 x2 x3 x4) else (bd1 (ldA S 0 mm (rf S mm x0 2) x4) fun a2 => if a2 = (-1) then (jX6_nearestNext_61 S mm x0 x1 x2 x3 x4) else (if x3 = (-1) then (jX6_nearestNext_58 S mm x0 x1 x2 x4) else (bd1 (ldA S 0 mm (rf S mm x0 2) x4) fun a3 => bd1 (ldA S 0 mm (rf S mm x0 2) x3) fun a4 => if a4 ≤ a3 then (jX6_nearestNext_61 S mm x0 x1 x2 x3 x4) else (jX6_nearestNext_58 S mm x0 x1 x2 x4)))))
def fX6_nearestNext (S : List Sh) (mm : Mm) (x0 : Nat) (x1 : Int32) (x2 : Int32) : Option (Int32) := gd S x0 6 (bd1 (lp (fun s5 => bX6_nearestNext_5 S mm x0 x1 x2 s5.1 s5.2) fu ((-1), 0)) fun y6 => some y6)
set_option maxHeartbeats 1000000 in
theorem tX6_nearestNext_61 {G : Gt} {l : Launch} {E : Ev} {S : List Sh} {mm : Mm} {x0 : Nat} {x1 : Int32} {x2 : Int32} {x3 : Int32} {x4 : Int32}  {r : (Int32 × Int32) ⊕ (Int32)} (C : Cx G E cX6_nearestNext 5 RX6 (some .int) 0 0) (g0 : isC S x0 6) (h : jX6_nearestNext_61 S mm x0 x1 x2 x3 x4 = some r) (kb : ∀ z : Int32 × Int32, r = .inl z → WM G l E S 5 [(0, .ref (E.2.2 x0)), (1, .int x1), (2, .int x2), (3, .int z.1), (4, .int z.2)] [] mm) (kx : ∀ z : Int32, r = .inr z → WM G l E S 67 [(0, .ref (E.2.2 x0)), (1, .int x1), (2, .int x2), (3, .int z)] [] mm) : WM G l E S 61 [(0, .ref (E.2.2 x0)), (1, .int x1), (2, .int x2), (3, .int x3), (4, .int x4)] [] mm := by
  unfold jX6_nearestNext_61 at h
  refine x_iinc (v := x4 + 1) (lv' := [(4, .int (x4 + 1)), (0, .ref (E.2.2 x0)), (1, .int x1), (2, .int x2), (3, .int x3)]) C (dq DX6_nearestNext 37 rfl) 4 rfl rfl (by decide) rfl ?_
  refine x_goto (tgt := 5) C (dq DX6_nearestNext 38 rfl) (by decide) ?_
  cases h
  exact x_lv [1, 2, 3, 4, 0] rfl (kb (x3, x4 + 1) rfl)
set_option maxHeartbeats 1000000 in
theorem tX6_nearestNext_58 {G : Gt} {l : Launch} {E : Ev} {S : List Sh} {mm : Mm} {x0 : Nat} {x1 : Int32} {x2 : Int32} {x4 : Int32}  {r : (Int32 × Int32) ⊕ (Int32)} (C : Cx G E cX6_nearestNext 5 RX6 (some .int) 0 0) (g0 : isC S x0 6) (h : jX6_nearestNext_58 S mm x0 x1 x2 x4 = some r) (kb : ∀ z : Int32 × Int32, r = .inl z → WM G l E S 5 [(0, .ref (E.2.2 x0)), (1, .int x1), (2, .int x2), (3, .int z.1), (4, .int z.2)] [] mm) (kx : ∀ z : Int32, r = .inr z → WM G l E S 67 [(0, .ref (E.2.2 x0)), (1, .int x1), (2, .int x2), (3, .int z)] [] mm) : WM G l E S 58 [(0, .ref (E.2.2 x0)), (1, .int x1), (2, .int x2), (4, .int x4)] [] mm := by
  unfold jX6_nearestNext_58 at h
  refine x_iload C (dq DX6_nearestNext 35 rfl) 3 rfl ?_
  refine x_istore_n (lv' := [(3, .int x4), (0, .ref (E.2.2 x0)), (1, .int x1), (2, .int x2), (4, .int x4)]) C (dq DX6_nearestNext 36 rfl) rfl (by decide) rfl ?_
  exact x_lv [1, 2, 3, 0, 4] rfl (tX6_nearestNext_61 C g0 h kb kx)
set_option maxHeartbeats 1000000 in
theorem tX6_nearestNext_5 {G : Gt} {l : Launch} {E : Ev} {S : List Sh} {mm : Mm} {x0 : Nat} {x1 : Int32} {x2 : Int32} {x3 : Int32} {x4 : Int32} {r : (Int32 × Int32) ⊕ (Int32)} (C : Cx G E cX6_nearestNext 5 RX6 (some .int) 0 0) (g0 : isC S x0 6) (h : bX6_nearestNext_5 S mm x0 x1 x2 x3 x4 = some r) (kb : ∀ z : Int32 × Int32, r = .inl z → WM G l E S 5 [(0, .ref (E.2.2 x0)), (1, .int x1), (2, .int x2), (3, .int z.1), (4, .int z.2)] [] mm) (kx : ∀ z : Int32, r = .inr z → WM G l E S 67 [(0, .ref (E.2.2 x0)), (1, .int x1), (2, .int x2), (3, .int z)] [] mm) : WM G l E S 5 [(0, .ref (E.2.2 x0)), (1, .int x1), (2, .int x2), (3, .int x3), (4, .int x4)] [] mm := by
  unfold bX6_nearestNext_5 at h
  refine x_iload C (dq DX6_nearestNext 4 rfl) 4 rfl ?_
  refine x_iload_n C (dq DX6_nearestNext 5 rfl) rfl 2 rfl ?_
  refine x_icmp_ge (tgt := 67) C (dq DX6_nearestNext 6 rfl) (by decide) h (fun h => ?_) (fun h => ?_)
  · cases h
    exact x_lv [0, 1, 2, 3] rfl (kx (x3) rfl)
  · refine x_aload_n C (dq DX6_nearestNext 7 rfl) rfl 0 rfl ?_
    refine x_pc 12 rfl ?_
    refine getX6_9 C (dq DX6_nearestNext 8 rfl) g0 ?_
    refine x_iload_n C (dq DX6_nearestNext 9 rfl) rfl 1 rfl ?_
    refine x_iald C (dq DX6_nearestNext 10 rfl) h (fun a1 h => ?_)
    refine x_iload C (dq DX6_nearestNext 11 rfl) 4 rfl ?_
    refine x_ishr C (dq DX6_nearestNext 12 rfl) ?_
    refine x_pc 20 rfl ?_
    refine x_iconst (v := 1) C (dq DX6_nearestNext 13 rfl) (by decide) ?_
    refine x_iand C (dq DX6_nearestNext 14 rfl) ?_
    refine x_iconst (v := 1) C (dq DX6_nearestNext 15 rfl) (by decide) ?_
    refine x_icmp_ne (tgt := 61) C (dq DX6_nearestNext 16 rfl) (by decide) h (fun h => ?_) (fun h => ?_)
    · exact x_lv [0, 1, 2, 3, 4] rfl (tX6_nearestNext_61 C g0 h kb kx)
    · refine x_aload_n C (dq DX6_nearestNext 17 rfl) rfl 0 rfl ?_
      refine x_pc 27 rfl ?_
      refine getX6_18 C (dq DX6_nearestNext 18 rfl) g0 ?_
      refine x_iload C (dq DX6_nearestNext 19 rfl) 4 rfl ?_
      refine x_iald C (dq DX6_nearestNext 20 rfl) h (fun a2 h => ?_)
      refine x_iconst (v := (-1)) C (dq DX6_nearestNext 21 rfl) (by decide) ?_
      refine x_icmp_eq (tgt := 61) C (dq DX6_nearestNext 22 rfl) (by decide) h (fun h => ?_) (fun h => ?_)
      · exact x_lv [0, 1, 2, 3, 4] rfl (tX6_nearestNext_61 C g0 h kb kx)
      · refine x_pc 37 rfl ?_
        refine x_iload_n C (dq DX6_nearestNext 23 rfl) rfl 3 rfl ?_
        refine x_iconst (v := (-1)) C (dq DX6_nearestNext 24 rfl) (by decide) ?_
        refine x_icmp_eq (tgt := 58) C (dq DX6_nearestNext 25 rfl) (by decide) h (fun h => ?_) (fun h => ?_)
        · exact x_lv [0, 1, 2, 4] rfl (tX6_nearestNext_58 C g0 h kb kx)
        · refine x_aload_n C (dq DX6_nearestNext 26 rfl) rfl 0 rfl ?_
          refine getX6_18 C (dq DX6_nearestNext 27 rfl) g0 ?_
          refine x_pc 46 rfl ?_
          refine x_iload C (dq DX6_nearestNext 28 rfl) 4 rfl ?_
          refine x_iald C (dq DX6_nearestNext 29 rfl) h (fun a3 h => ?_)
          refine x_aload_n C (dq DX6_nearestNext 30 rfl) rfl 0 rfl ?_
          refine getX6_18 C (dq DX6_nearestNext 31 rfl) g0 ?_
          refine x_iload_n C (dq DX6_nearestNext 32 rfl) rfl 3 rfl ?_
          refine x_pc 54 rfl ?_
          refine x_iald C (dq DX6_nearestNext 33 rfl) h (fun a4 h => ?_)
          refine x_icmp_ge (tgt := 61) C (dq DX6_nearestNext 34 rfl) (by decide) h (fun h => ?_) (fun h => ?_)
          · exact x_lv [0, 1, 2, 3, 4] rfl (tX6_nearestNext_61 C g0 h kb kx)
          · exact x_lv [0, 1, 2, 4] rfl (tX6_nearestNext_58 C g0 h kb kx)
set_option maxHeartbeats 1000000 in
theorem mX6_nearestNext {l : Launch} {E : Ev} {S : List Sh} {mm : Mm} {x0 : Nat} {x1 : Int32} {x2 : Int32} {r : Int32} (h : fX6_nearestNext S mm x0 x1 x2 = some r) : Ml l E S yX6_nearestNext cX6_nearestNext 5 (some .int) 0 0 [.ref (E.2.2 x0), .int x1, .int x2] mm (some (.int r)) mm := by
  refine Ml.of (by decide +kernel) (Nat.le_of_ble_eq_true rfl) (fun G C hQ => ?_)
  have C : Cx G E cX6_nearestNext 5 RX6 (some .int) 0 0 := C
  unfold fX6_nearestNext at h
  obtain ⟨g0, h⟩ := gd_some h
  show WM G l E S 0 [(0, .ref (E.2.2 x0)), (1, .int x1), (2, .int x2)] [] mm
  refine x_iconst (v := (-1)) C (dq DX6_nearestNext 0 rfl) (by decide) ?_
  refine x_istore_n (lv' := [(3, .int (-1)), (0, .ref (E.2.2 x0)), (1, .int x1), (2, .int x2)]) C (dq DX6_nearestNext 1 rfl) rfl (by decide) rfl ?_
  refine x_iconst (v := 0) C (dq DX6_nearestNext 2 rfl) (by decide) ?_
  refine x_istore (lv' := [(4, .int 0), (3, .int (-1)), (0, .ref (E.2.2 x0)), (1, .int x1), (2, .int x2)]) C (dq DX6_nearestNext 3 rfl) (by decide) rfl ?_
  refine x_lv [2, 3, 4, 1, 0] rfl ?_
  refine x_loop (s0 := ((-1), 0)) (fun s5 => WM G l E S 5 [(0, .ref (E.2.2 x0)), (1, .int x1), (2, .int x2), (3, .int s5.1), (4, .int s5.2)] [] mm) h (fun s5 r hb kb kx => tX6_nearestNext_5 C g0 hb kb (fun y6 hy => ?_))
  have h := kx y6 hy
  clear kx kb hb hy
  refine x_pc 67 rfl ?_
  refine x_iload_n C (dq DX6_nearestNext 39 rfl) rfl 3 rfl ?_
  cases h
  exact x_iret C (dq DX6_nearestNext 40 rfl) hQ
set_option maxHeartbeats 1000000 in
theorem qX6_nearestNext {S : List Sh} {mm : Mm} {x0 : Nat} {x1 : Int32} {x2 : Int32} {r : Int32} (h : fX6_nearestNext S mm x0 x1 x2 = some r) : isC S x0 6 := by
  unfold fX6_nearestNext at h
  exact (gd_some h).1
theorem getX6_21 {G : Gt} {l : Launch} {E : Ev} {S : List Sh} {cc : ByteArray} {nL : Nat} {rt : Option FieldType} {fr lo : Nat} {pc : Nat} {lv : List (Nat × Value)} {st : List Value} {mm : Mm} {o : Nat} (C : Cx G E cc nL RX6 rt fr lo) (d : decode cc pc = .ok (.getfield 21, 3)) (hg : isC S o 6) (k : WM G l E S (pc + 3) lv (.ref (E.2.2 (rf S mm o 3)) :: st) mm) : WM G l E S pc lv (.ref (E.2.2 o) :: st) mm := x_get2 C hg (T := TX6) (N := 5) rfl inX6 (by decide) (i := 3) (gmem 107 (by decide +kernel) rfl) rfl rfl d k
theorem putX6_24 {G : Gt} {l : Launch} {E : Ev} {S : List Sh} {cc : ByteArray} {nL : Nat} {rt : Option FieldType} {fr lo : Nat} {pc : Nat} {lv : List (Nat × Value)} {st : List Value} {mm : Mm} {o : Nat} {α : Type} {f : Mm → Option α} {r : α} {x : Int32} (C : Cx G E cc nL RX6 rt fr lo) (d : decode cc pc = .ok (.putfield 24, 3)) (hg : isC S o 6) (h : bd1 (some (u1 mm o 4 x)) f = some r) (k : ∀ m1, f m1 = some r → WM G l E S (pc + 3) lv st m1) : WM G l E S pc lv (.int x :: .ref (E.2.2 o) :: st) mm := x_putI C hg (T := TX6) (N := 5) rfl inX6 (by decide) (i := 4) (gmem 109 (by decide +kernel) rfl) rfl tyX6 tyX6_ok nmX6 rfl rfl (by decide) (by decide +kernel) d (k _ h)
theorem callX6_47 {G : Gt} {l : Launch} {E : Ev} {S : List Sh} {cc : ByteArray} {nL : Nat} {rt : Option FieldType} {fr lo : Nat} {pc : Nat} {lv : List (Nat × Value)} {rest : List Value} {mm : Mm} {α : Type} {f : Int32 → Mm → Option α} {r : α} {o : Nat} {a0 : Nat} {a1 : Nat} (C : Cx G E cc nL RX6 rt fr lo) (d : decode cc pc = .ok (.invokevirtual 47, 3)) (h : bd2 (fX6_inPauseCycles S mm o a0 a1) f = some r) (hfr : 2 ≤ fr) (hlo : 50 ≤ lo) (hrs : (rest.map fun v => v.category).sum ≤ 8) (k : ∀ v m1, f v m1 = some r → WM G l E S (pc + 3) lv (.int v :: rest) m1) : WM G l E S pc lv (.ref (E.2.2 a1) :: .ref (E.2.2 a0) :: .ref (E.2.2 o) :: rest) mm := by
  obtain ⟨v, m1, hv, hf⟩ := bd2_some h
  exact x_callV (n := 2) (As := [.ref (E.2.2 a0), .ref (E.2.2 a1)]) (rest := rest) C (mX6_inPauseCycles hv) (qX6_inPauseCycles hv) (T := TX6) (N := 5) rfl (gmem 573 (by decide +kernel) rfl) (gmem 574 (by decide +kernel) rfl) (gmem 575 (by decide +kernel) rfl) (gmem 5 (by decide +kernel) rfl) (gmem 576 (by decide +kernel) rfl) (by decide +kernel) rfl hfr hlo hrs d rfl rfl (k v m1 hf)
theorem callX6_51 {G : Gt} {l : Launch} {E : Ev} {S : List Sh} {cc : ByteArray} {nL : Nat} {rt : Option FieldType} {fr lo : Nat} {pc : Nat} {lv : List (Nat × Value)} {rest : List Value} {mm : Mm} {α : Type} {f : Int32 → Option α} {r : α} {a0 : Int32} (C : Cx G E cc nL RX6 rt fr lo) (d : decode cc pc = .ok (.invokestatic 51, 3)) (h : bd1 (fX6_leastOf S mm a0) f = some r) (hfr : 1 ≤ fr) (hlo : 21 ≤ lo) (hrs : (rest.map fun v => v.category).sum ≤ 8) (k : ∀ v, f v = some r → WM G l E S (pc + 3) lv (.int v :: rest) mm) : WM G l E S pc lv (.int a0 :: rest) mm := by
  obtain ⟨v, hv, hf⟩ := bd1_some h
  exact x_callS (n := 1) (As := [.int a0]) (rest := rest) C (mX6_leastOf hv) (gmem 582 (by decide +kernel) rfl) (gmem 583 (by decide +kernel) rfl) (gmem 5 (by decide +kernel) rfl) (gmem 584 (by decide +kernel) rfl) (by decide +kernel) rfl hfr hlo hrs d rfl rfl (k v hf)
theorem callX6_54 {G : Gt} {l : Launch} {E : Ev} {S : List Sh} {cc : ByteArray} {nL : Nat} {rt : Option FieldType} {fr lo : Nat} {pc : Nat} {lv : List (Nat × Value)} {rest : List Value} {mm : Mm} {α : Type} {f : Mm → Option α} {r : α} {o : Nat} {a0 : Int32} {a1 : Int32} (C : Cx G E cc nL RX6 rt fr lo) (d : decode cc pc = .ok (.invokevirtual 54, 3)) (h : bd1 (fX6_measure S mm o a0 a1) f = some r) (hfr : 1 ≤ fr) (hlo : 26 ≤ lo) (hrs : (rest.map fun v => v.category).sum ≤ 8) (k : ∀ m1, f m1 = some r → WM G l E S (pc + 3) lv rest m1) : WM G l E S pc lv (.int a1 :: .int a0 :: .ref (E.2.2 o) :: rest) mm := by
  obtain ⟨m1, hv, hf⟩ := bd1_some h
  exact x_callV (n := 2) (As := [.int a0, .int a1]) (rest := rest) C (mX6_measure hv) (qX6_measure hv) (T := TX6) (N := 5) rfl (gmem 585 (by decide +kernel) rfl) (gmem 587 (by decide +kernel) rfl) (gmemS 26 (by decide +kernel) rfl) (gmem 5 (by decide +kernel) rfl) (gmem 588 (by decide +kernel) rfl) (by decide +kernel) rfl hfr hlo hrs d rfl rfl (k m1 hf)
theorem callX6_58 {G : Gt} {l : Launch} {E : Ev} {S : List Sh} {cc : ByteArray} {nL : Nat} {rt : Option FieldType} {fr lo : Nat} {pc : Nat} {lv : List (Nat × Value)} {rest : List Value} {mm : Mm} {α : Type} {f : Int32 → Option α} {r : α} {o : Nat} {a0 : Int32} {a1 : Int32} (C : Cx G E cc nL RX6 rt fr lo) (d : decode cc pc = .ok (.invokevirtual 58, 3)) (h : bd1 (fX6_nearestNext S mm o a0 a1) f = some r) (hfr : 1 ≤ fr) (hlo : 24 ≤ lo) (hrs : (rest.map fun v => v.category).sum ≤ 8) (k : ∀ v, f v = some r → WM G l E S (pc + 3) lv (.int v :: rest) mm) : WM G l E S pc lv (.int a1 :: .int a0 :: .ref (E.2.2 o) :: rest) mm := by
  obtain ⟨v, hv, hf⟩ := bd1_some h
  exact x_callV (n := 2) (As := [.int a0, .int a1]) (rest := rest) C (mX6_nearestNext hv) (qX6_nearestNext hv) (T := TX6) (N := 5) rfl (gmem 589 (by decide +kernel) rfl) (gmem 591 (by decide +kernel) rfl) (gmemS 27 (by decide +kernel) rfl) (gmem 5 (by decide +kernel) rfl) (gmem 592 (by decide +kernel) rfl) (by decide +kernel) rfl hfr hlo hrs d rfl rfl (k v hf)
abbrev eX6_findFirst : List (Nat × Instr × Nat) := [(0, .aload_n 0, 1), (1, .iconst 0, 1), (2, .putfield 24, 3), (5, .aload_n 0, 1), (6, .aload_n 1, 1), (7, .aload_n 2, 1), (8, .invokevirtual 47, 3), (11, .istore_n 3, 1), (12, .iload_n 3, 1), (13, .ifCond .ne 4, 3), (16, .return_, 1), (17, .iload_n 3, 1), (18, .invokestatic 51, 3), (21, .istore 4, 2), (23, .aload_n 0, 1), (24, .iload 4, 2), (26, .aload_n 1, 1), (27, .getfield 36, 3), (30, .invokevirtual 54, 3), (33, .iload 4, 2), (35, .istore 5, 2), (37, .iconst 0, 1), (38, .istore 6, 2), (40, .iload 6, 2), (42, .aload_n 1, 1), (43, .getfield 36, 3), (46, .if_icmp .ge 52, 3), (49, .iload 5, 2), (51, .iconst (-1), 1), (52, .if_icmp .eq 46, 3), (55, .aload_n 0, 1), (56, .getfield 21, 3), (59, .iload 6, 2), (61, .iload 5, 2), (63, .iastore, 1), (64, .aload_n 0, 1), (65, .iload 6, 2), (67, .iconst 1, 1), (68, .iadd, 1), (69, .putfield 24, 3), (72, .aload_n 0, 1), (73, .iload 5, 2), (75, .aload_n 1, 1), (76, .getfield 36, 3), (79, .invokevirtual 58, 3), (82, .istore 5, 2), (84, .iload 5, 2), (86, .iload 4, 2), (88, .if_icmp .ne 4, 3), (91, .return_, 1), (92, .iinc 6 1, 3), (95, .goto (-55), 3), (98, .return_, 1)]
theorem DX6_findFirst : (eX6_findFirst.all fun q => decide (decode cX6_findFirst q.1 = .ok q.2)) = true := by decide +kernel
def bX6_findFirst_40 (S : List Sh) (x0 : Nat) (x1 : Nat) (x4 : Int32) (x5 : Int32) (x6 : Int32) (mm : Mm) : Option ((Int32 × Int32 × Mm) ⊕ ((Mm) ⊕ (Mm))) := if (mm.1 x1 9) ≤ x6 then (some (.inr (.inr (mm)))) else (if x5 = (-1) then (some (.inr (.inr (mm)))) else (bd1 (stA S 0 mm (rf S mm x0 3) x6 x5) fun m6 => bd1 (some (u1 m6 x0 4 (x6 + 1))) fun m7 => bd1 (fX6_nearestNext S m7 x0 x5 (m7.1 x1 9)) fun a8 => if ¬ a8 = x4 then (some (.inl (a8, x6 + 1, m7))) else (some (.inr (.inl m7)))))
def jX6_findFirst_98 (S : List Sh) (mm : Mm) (x0 : Nat) (x1 : Nat)  : Option (Mm) := some mm
def fX6_findFirst (S : List Sh) (mm : Mm) (x0 : Nat) (x1 : Nat) (x2 : Nat) : Option (Mm) := gd S x0 6 (gd S x1 1 (bd1 (some (u1 mm x0 4 0)) fun m1 => bd2 (fX6_inPauseCycles S m1 x0 x1 x2) fun a2 m3 => if ¬ a2 = 0 then (bd1 (fX6_leastOf S m3 a2) fun a4 => bd1 (fX6_measure S m3 x0 a4 (m3.1 x1 9)) fun m5 => bdR (lp (fun s9 => bX6_findFirst_40 S x0 x1 a4 s9.1 s9.2.1 s9.2.2) fu (a4, 0, m5)) (fun a11 => some a11) fun y10 => jX6_findFirst_98 S y10 x0 x1) else (some m3)))
set_option maxHeartbeats 1000000 in
theorem tX6_findFirst_40 {G : Gt} {l : Launch} {E : Ev} {S : List Sh} {x0 : Nat} {x1 : Nat} {x4 : Int32} {x5 : Int32} {x6 : Int32} {mm : Mm} {r : (Int32 × Int32 × Mm) ⊕ ((Mm) ⊕ (Mm))} (C : Cx G E cX6_findFirst 7 RX6 none 2 50) (g0 : isC S x0 6) (g1 : isC S x1 1) (h : bX6_findFirst_40 S x0 x1 x4 x5 x6 mm = some r) (kb : ∀ z : Int32 × Int32 × Mm, r = .inl z → WM G l E S 40 [(0, .ref (E.2.2 x0)), (1, .ref (E.2.2 x1)), (4, .int x4), (5, .int z.1), (6, .int z.2.1)] [] z.2.2) (kr : ∀ z : Mm, r = .inr (.inl z) → RQ G E S none z) (kx : ∀ z : Mm, r = .inr (.inr z) → WM G l E S 98 [(0, .ref (E.2.2 x0)), (1, .ref (E.2.2 x1)), (4, .int x4)] [] z) : WM G l E S 40 [(0, .ref (E.2.2 x0)), (1, .ref (E.2.2 x1)), (4, .int x4), (5, .int x5), (6, .int x6)] [] mm := by
  unfold bX6_findFirst_40 at h
  refine x_iload C (dq DX6_findFirst 23 rfl) 4 rfl ?_
  refine x_aload_n C (dq DX6_findFirst 24 rfl) rfl 1 rfl ?_
  refine getX6_36 C (dq DX6_findFirst 25 rfl) g1 ?_
  refine x_icmp_ge (tgt := 98) C (dq DX6_findFirst 26 rfl) (by decide) h (fun h => ?_) (fun h => ?_)
  · cases h
    exact x_lv [0, 1, 2] rfl (kx (mm) rfl)
  · refine x_pc 49 rfl ?_
    refine x_iload C (dq DX6_findFirst 27 rfl) 3 rfl ?_
    refine x_iconst (v := (-1)) C (dq DX6_findFirst 28 rfl) (by decide) ?_
    refine x_icmp_eq (tgt := 98) C (dq DX6_findFirst 29 rfl) (by decide) h (fun h => ?_) (fun h => ?_)
    · cases h
      exact x_lv [0, 1, 2] rfl (kx (mm) rfl)
    · refine x_aload_n C (dq DX6_findFirst 30 rfl) rfl 0 rfl ?_
      refine getX6_21 C (dq DX6_findFirst 31 rfl) g0 ?_
      refine x_pc 59 rfl ?_
      refine x_iload C (dq DX6_findFirst 32 rfl) 4 rfl ?_
      refine x_iload C (dq DX6_findFirst 33 rfl) 3 rfl ?_
      refine x_iast C (dq DX6_findFirst 34 rfl) h (fun m6 h => ?_)
      refine x_aload_n C (dq DX6_findFirst 35 rfl) rfl 0 rfl ?_
      refine x_iload C (dq DX6_findFirst 36 rfl) 4 rfl ?_
      refine x_pc 67 rfl ?_
      refine x_iconst (v := 1) C (dq DX6_findFirst 37 rfl) (by decide) ?_
      refine x_iadd C (dq DX6_findFirst 38 rfl) ?_
      refine putX6_24 C (dq DX6_findFirst 39 rfl) g0 h (fun m7 h => ?_)
      refine x_aload_n C (dq DX6_findFirst 40 rfl) rfl 0 rfl ?_
      refine x_iload C (dq DX6_findFirst 41 rfl) 3 rfl ?_
      refine x_pc 75 rfl ?_
      refine x_aload_n C (dq DX6_findFirst 42 rfl) rfl 1 rfl ?_
      refine getX6_36 C (dq DX6_findFirst 43 rfl) g1 ?_
      refine callX6_58 C (dq DX6_findFirst 44 rfl) h (by decide) (by decide) (Nat.le_of_ble_eq_true rfl) (fun a8 h => ?_)
      refine x_istore (lv' := [(5, .int a8), (0, .ref (E.2.2 x0)), (1, .ref (E.2.2 x1)), (4, .int x4), (6, .int x6)]) C (dq DX6_findFirst 45 rfl) (by decide) rfl ?_
      refine x_iload C (dq DX6_findFirst 46 rfl) 0 rfl ?_
      refine x_pc 86 rfl ?_
      refine x_iload C (dq DX6_findFirst 47 rfl) 3 rfl ?_
      refine x_icmp_ne (tgt := 92) C (dq DX6_findFirst 48 rfl) (by decide) h (fun h => ?_) (fun h => ?_)
      · refine x_iinc (v := x6 + 1) (lv' := [(6, .int (x6 + 1)), (5, .int a8), (0, .ref (E.2.2 x0)), (1, .ref (E.2.2 x1)), (4, .int x4)]) C (dq DX6_findFirst 50 rfl) 4 rfl rfl (by decide) rfl ?_
        refine x_goto (tgt := 40) C (dq DX6_findFirst 51 rfl) (by decide) ?_
        cases h
        exact x_lv [2, 3, 4, 1, 0] rfl (kb (a8, x6 + 1, m7) rfl)
      · cases h
        exact x_vret C (dq DX6_findFirst 49 rfl) (kr m7 rfl)
set_option maxHeartbeats 1000000 in
theorem tX6_findFirst_98 {G : Gt} {l : Launch} {E : Ev} {S : List Sh} {mm : Mm} {x0 : Nat} {x1 : Nat}  {r : Mm} (C : Cx G E cX6_findFirst 7 RX6 none 2 50) (g0 : isC S x0 6) (g1 : isC S x1 1) (h : jX6_findFirst_98 S mm x0 x1 = some r) (hQ : RQ G E S none r) : WM G l E S 98 [(0, .ref (E.2.2 x0)), (1, .ref (E.2.2 x1))] [] mm := by
  unfold jX6_findFirst_98 at h
  cases h
  exact x_vret C (dq DX6_findFirst 52 rfl) hQ
set_option maxHeartbeats 1000000 in
theorem mX6_findFirst {l : Launch} {E : Ev} {S : List Sh} {mm : Mm} {x0 : Nat} {x1 : Nat} {x2 : Nat} {r : Mm} (h : fX6_findFirst S mm x0 x1 x2 = some r) : Ml l E S yX6_findFirst cX6_findFirst 7 none 2 50 [.ref (E.2.2 x0), .ref (E.2.2 x1), .ref (E.2.2 x2)] mm none r := by
  refine Ml.of (by decide +kernel) (Nat.le_of_ble_eq_true rfl) (fun G C hQ => ?_)
  have C : Cx G E cX6_findFirst 7 RX6 none 2 50 := C
  unfold fX6_findFirst at h
  obtain ⟨g0, h⟩ := gd_some h
  obtain ⟨g1, h⟩ := gd_some h
  show WM G l E S 0 [(0, .ref (E.2.2 x0)), (1, .ref (E.2.2 x1)), (2, .ref (E.2.2 x2))] [] mm
  refine x_aload_n C (dq DX6_findFirst 0 rfl) rfl 0 rfl ?_
  refine x_iconst (v := 0) C (dq DX6_findFirst 1 rfl) (by decide) ?_
  refine putX6_24 C (dq DX6_findFirst 2 rfl) g0 h (fun m1 h => ?_)
  refine x_aload_n C (dq DX6_findFirst 3 rfl) rfl 0 rfl ?_
  refine x_pc 6 rfl ?_
  refine x_aload_n C (dq DX6_findFirst 4 rfl) rfl 1 rfl ?_
  refine x_aload_n C (dq DX6_findFirst 5 rfl) rfl 2 rfl ?_
  refine callX6_47 C (dq DX6_findFirst 6 rfl) h (by decide) (by decide) (Nat.le_of_ble_eq_true rfl) (fun a2 m3 h => ?_)
  refine x_istore_n (lv' := [(3, .int a2), (0, .ref (E.2.2 x0)), (1, .ref (E.2.2 x1)), (2, .ref (E.2.2 x2))]) C (dq DX6_findFirst 7 rfl) rfl (by decide) rfl ?_
  refine x_iload_n C (dq DX6_findFirst 8 rfl) rfl 0 rfl ?_
  refine x_pc 13 rfl ?_
  refine x_if_ne (tgt := 17) C (dq DX6_findFirst 9 rfl) (by decide) h (fun h => ?_) (fun h => ?_)
  · refine x_iload_n C (dq DX6_findFirst 11 rfl) rfl 0 rfl ?_
    refine callX6_51 C (dq DX6_findFirst 12 rfl) h (by decide) (by decide) (Nat.le_of_ble_eq_true rfl) (fun a4 h => ?_)
    refine x_istore (lv' := [(4, .int a4), (3, .int a2), (0, .ref (E.2.2 x0)), (1, .ref (E.2.2 x1)), (2, .ref (E.2.2 x2))]) C (dq DX6_findFirst 13 rfl) (by decide) rfl ?_
    refine x_aload_n C (dq DX6_findFirst 14 rfl) rfl 2 rfl ?_
    refine x_pc 24 rfl ?_
    refine x_iload C (dq DX6_findFirst 15 rfl) 0 rfl ?_
    refine x_aload_n C (dq DX6_findFirst 16 rfl) rfl 3 rfl ?_
    refine getX6_36 C (dq DX6_findFirst 17 rfl) g1 ?_
    refine callX6_54 C (dq DX6_findFirst 18 rfl) h (by decide) (by decide) (Nat.le_of_ble_eq_true rfl) (fun m5 h => ?_)
    refine x_iload C (dq DX6_findFirst 19 rfl) 0 rfl ?_
    refine x_pc 35 rfl ?_
    refine x_istore (lv' := [(5, .int a4), (4, .int a4), (3, .int a2), (0, .ref (E.2.2 x0)), (1, .ref (E.2.2 x1)), (2, .ref (E.2.2 x2))]) C (dq DX6_findFirst 20 rfl) (by decide) rfl ?_
    refine x_iconst (v := 0) C (dq DX6_findFirst 21 rfl) (by decide) ?_
    refine x_istore (lv' := [(6, .int 0), (5, .int a4), (4, .int a4), (3, .int a2), (0, .ref (E.2.2 x0)), (1, .ref (E.2.2 x1)), (2, .ref (E.2.2 x2))]) C (dq DX6_findFirst 22 rfl) (by decide) rfl ?_
    refine x_lv [4, 5, 2, 1, 0] rfl ?_
    refine x_loopR (s0 := (a4, 0, m5)) (fun s9 => WM G l E S 40 [(0, .ref (E.2.2 x0)), (1, .ref (E.2.2 x1)), (4, .int a4), (5, .int s9.1), (6, .int s9.2.1)] [] s9.2.2) h (fun s9 r hb kb kg kx => tX6_findFirst_40 C g0 g1 hb kb (fun a11 ha => ?_) (fun y10 hy => ?_))
    · have h := kg a11 ha
      cases h
      exact hQ
    · have h := kx y10 hy
      clear kx kb hb hy kg
      exact x_lv [0, 1] rfl (tX6_findFirst_98 C g0 g1 h hQ)
  · cases h
    exact x_vret C (dq DX6_findFirst 10 rfl) hQ
set_option maxHeartbeats 1000000 in
theorem qX6_findFirst {S : List Sh} {mm : Mm} {x0 : Nat} {x1 : Nat} {x2 : Nat} {r : Mm} (h : fX6_findFirst S mm x0 x1 x2 = some r) : isC S x0 6 := by
  unfold fX6_findFirst at h
  exact (gd_some h).1
theorem getX6_24 {G : Gt} {l : Launch} {E : Ev} {S : List Sh} {cc : ByteArray} {nL : Nat} {rt : Option FieldType} {fr lo : Nat} {pc : Nat} {lv : List (Nat × Value)} {st : List Value} {mm : Mm} {o : Nat} (C : Cx G E cc nL RX6 rt fr lo) (d : decode cc pc = .ok (.getfield 24, 3)) (hg : isC S o 6) (k : WM G l E S (pc + 3) lv (.int (mm.1 o 4) :: st) mm) : WM G l E S pc lv (.ref (E.2.2 o) :: st) mm := x_get0 C hg (T := TX6) (N := 5) rfl inX6 (by decide) (i := 4) (gmem 109 (by decide +kernel) rfl) rfl rfl d k
abbrev eX6_witnessOf : List (Nat × Instr × Nat) := [(0, .aload_n 0, 1), (1, .getfield 21, 3), (4, .iload_n 3, 1), (5, .iaload, 1), (6, .istore 4, 2), (8, .aload_n 0, 1), (9, .getfield 21, 3), (12, .iload_n 3, 1), (13, .iconst 1, 1), (14, .iadd, 1), (15, .aload_n 0, 1), (16, .getfield 24, 3), (19, .if_icmp .ge 9, 3), (22, .iload_n 3, 1), (23, .iconst 1, 1), (24, .iadd, 1), (25, .goto 4, 3), (28, .iconst 0, 1), (29, .iaload, 1), (30, .istore 5, 2), (32, .iconst 0, 1), (33, .istore 6, 2), (35, .iload 6, 2), (37, .aload_n 1, 1), (38, .getfield 28, 3), (41, .if_icmp .ge 46, 3), (44, .aload_n 1, 1), (45, .getfield 33, 3), (48, .iload 4, 2), (50, .bipush 8, 2), (52, .imul, 1), (53, .iload 6, 2), (55, .iadd, 1), (56, .iaload, 1), (57, .iload 5, 2), (59, .if_icmp .ne 22, 3), (62, .aload_n 2, 1), (63, .bipush 120, 2), (65, .iload 4, 2), (67, .bipush 8, 2), (69, .imul, 1), (70, .iadd, 1), (71, .iload 6, 2), (73, .iadd, 1), (74, .iaload, 1), (75, .ifCond .le 6, 3), (78, .iload 6, 2), (80, .ireturn, 1), (81, .iinc 6 1, 3), (84, .goto (-49), 3), (87, .bipush (-2), 2), (89, .ireturn, 1)]
theorem DX6_witnessOf : (eX6_witnessOf.all fun q => decide (decode cX6_witnessOf q.1 = .ok q.2)) = true := by decide +kernel
def jX6_witnessOf_81 (S : List Sh) (mm : Mm) (x0 : Nat) (x1 : Nat) (x2 : Nat) (x4 : Int32) (x5 : Int32) (x6 : Int32)  : Option ((Int32) ⊕ ((Int32) ⊕ (Unit))) := some (.inl (x6 + 1))
def bX6_witnessOf_35 (S : List Sh) (mm : Mm) (x0 : Nat) (x1 : Nat) (x2 : Nat) (x4 : Int32) (x5 : Int32) (x6 : Int32) : Option ((Int32) ⊕ ((Int32) ⊕ (Unit))) := if (mm.1 x1 10) ≤ x6 then (some (.inr (.inr ()))) else (bd1 (ldA S 0 mm (rf S mm x1 7) ((x4 * 8) + x6)) fun a3 => if ¬ a3 = x5 then (jX6_witnessOf_81 S mm x0 x1 x2 x4 x5 x6) else (bd1 (ldA S 0 mm x2 ((120 + (x4 * 8)) + x6)) fun a4 => if a4 ≤ 0 then (jX6_witnessOf_81 S mm x0 x1 x2 x4 x5 x6) else (some (.inr (.inl x6)))))
def jX6_witnessOf_29 (S : List Sh) (mm : Mm) (x0 : Nat) (x1 : Nat) (x2 : Nat) (x4 : Int32) (p0 : Nat) (p1 : Int32) : Option (Int32) := bd1 (ldA S 0 mm p0 p1) fun a2 => bdR (lp (fun s5 => bX6_witnessOf_35 S mm x0 x1 x2 x4 a2 s5) fu 0) (fun a7 => some a7) fun y6 => some (-2)
def fX6_witnessOf (S : List Sh) (mm : Mm) (x0 : Nat) (x1 : Nat) (x2 : Nat) (x3 : Int32) : Option (Int32) := gd S x0 6 (gd S x1 1 (bd1 (ldA S 0 mm (rf S mm x0 3) x3) fun a1 => if (mm.1 x0 4) ≤ (x3 + 1) then (jX6_witnessOf_29 S mm x0 x1 x2 a1 (rf S mm x0 3) 0) else (jX6_witnessOf_29 S mm x0 x1 x2 a1 (rf S mm x0 3) (x3 + 1))))
set_option maxHeartbeats 1000000 in
theorem tX6_witnessOf_81 {G : Gt} {l : Launch} {E : Ev} {S : List Sh} {mm : Mm} {x0 : Nat} {x1 : Nat} {x2 : Nat} {x4 : Int32} {x5 : Int32} {x6 : Int32}  {r : (Int32) ⊕ ((Int32) ⊕ (Unit))} (C : Cx G E cX6_witnessOf 7 RX6 (some .int) 0 0) (g0 : isC S x0 6) (g1 : isC S x1 1) (h : jX6_witnessOf_81 S mm x0 x1 x2 x4 x5 x6 = some r) (kb : ∀ z : Int32, r = .inl z → WM G l E S 35 [(0, .ref (E.2.2 x0)), (1, .ref (E.2.2 x1)), (2, .ref (E.2.2 x2)), (4, .int x4), (5, .int x5), (6, .int z)] [] mm) (kr : ∀ z : Int32, r = .inr (.inl z) → RQ G E S (some (.int z)) mm) (kx : ∀ z : Unit, r = .inr (.inr z) → WM G l E S 87 [(0, .ref (E.2.2 x0)), (1, .ref (E.2.2 x1)), (2, .ref (E.2.2 x2)), (4, .int x4), (5, .int x5)] [] mm) : WM G l E S 81 [(0, .ref (E.2.2 x0)), (1, .ref (E.2.2 x1)), (2, .ref (E.2.2 x2)), (4, .int x4), (5, .int x5), (6, .int x6)] [] mm := by
  unfold jX6_witnessOf_81 at h
  refine x_iinc (v := x6 + 1) (lv' := [(6, .int (x6 + 1)), (0, .ref (E.2.2 x0)), (1, .ref (E.2.2 x1)), (2, .ref (E.2.2 x2)), (4, .int x4), (5, .int x5)]) C (dq DX6_witnessOf 48 rfl) 5 rfl rfl (by decide) rfl ?_
  refine x_goto (tgt := 35) C (dq DX6_witnessOf 49 rfl) (by decide) ?_
  cases h
  exact x_lv [1, 2, 3, 4, 5, 0] rfl (kb (x6 + 1) rfl)
set_option maxHeartbeats 1000000 in
theorem tX6_witnessOf_35 {G : Gt} {l : Launch} {E : Ev} {S : List Sh} {mm : Mm} {x0 : Nat} {x1 : Nat} {x2 : Nat} {x4 : Int32} {x5 : Int32} {x6 : Int32} {r : (Int32) ⊕ ((Int32) ⊕ (Unit))} (C : Cx G E cX6_witnessOf 7 RX6 (some .int) 0 0) (g0 : isC S x0 6) (g1 : isC S x1 1) (h : bX6_witnessOf_35 S mm x0 x1 x2 x4 x5 x6 = some r) (kb : ∀ z : Int32, r = .inl z → WM G l E S 35 [(0, .ref (E.2.2 x0)), (1, .ref (E.2.2 x1)), (2, .ref (E.2.2 x2)), (4, .int x4), (5, .int x5), (6, .int z)] [] mm) (kr : ∀ z : Int32, r = .inr (.inl z) → RQ G E S (some (.int z)) mm) (kx : ∀ z : Unit, r = .inr (.inr z) → WM G l E S 87 [(0, .ref (E.2.2 x0)), (1, .ref (E.2.2 x1)), (2, .ref (E.2.2 x2)), (4, .int x4), (5, .int x5)] [] mm) : WM G l E S 35 [(0, .ref (E.2.2 x0)), (1, .ref (E.2.2 x1)), (2, .ref (E.2.2 x2)), (4, .int x4), (5, .int x5), (6, .int x6)] [] mm := by
  unfold bX6_witnessOf_35 at h
  refine x_iload C (dq DX6_witnessOf 22 rfl) 5 rfl ?_
  refine x_aload_n C (dq DX6_witnessOf 23 rfl) rfl 1 rfl ?_
  refine getX6_28 C (dq DX6_witnessOf 24 rfl) g1 ?_
  refine x_icmp_ge (tgt := 87) C (dq DX6_witnessOf 25 rfl) (by decide) h (fun h => ?_) (fun h => ?_)
  · cases h
    exact x_lv [0, 1, 2, 3, 4] rfl (kx () rfl)
  · refine x_pc 44 rfl ?_
    refine x_aload_n C (dq DX6_witnessOf 26 rfl) rfl 1 rfl ?_
    refine getX6_33 C (dq DX6_witnessOf 27 rfl) g1 ?_
    refine x_iload C (dq DX6_witnessOf 28 rfl) 3 rfl ?_
    refine x_bipush (v := 8) C (dq DX6_witnessOf 29 rfl) (by decide) ?_
    refine x_imul C (dq DX6_witnessOf 30 rfl) ?_
    refine x_pc 53 rfl ?_
    refine x_iload C (dq DX6_witnessOf 31 rfl) 5 rfl ?_
    refine x_iadd C (dq DX6_witnessOf 32 rfl) ?_
    refine x_iald C (dq DX6_witnessOf 33 rfl) h (fun a3 h => ?_)
    refine x_iload C (dq DX6_witnessOf 34 rfl) 4 rfl ?_
    refine x_icmp_ne (tgt := 81) C (dq DX6_witnessOf 35 rfl) (by decide) h (fun h => ?_) (fun h => ?_)
    · exact x_lv [0, 1, 2, 3, 4, 5] rfl (tX6_witnessOf_81 C g0 g1 h kb kr kx)
    · refine x_pc 62 rfl ?_
      refine x_aload_n C (dq DX6_witnessOf 36 rfl) rfl 2 rfl ?_
      refine x_bipush (v := 120) C (dq DX6_witnessOf 37 rfl) (by decide) ?_
      refine x_iload C (dq DX6_witnessOf 38 rfl) 3 rfl ?_
      refine x_bipush (v := 8) C (dq DX6_witnessOf 39 rfl) (by decide) ?_
      refine x_imul C (dq DX6_witnessOf 40 rfl) ?_
      refine x_pc 70 rfl ?_
      refine x_iadd C (dq DX6_witnessOf 41 rfl) ?_
      refine x_iload C (dq DX6_witnessOf 42 rfl) 5 rfl ?_
      refine x_iadd C (dq DX6_witnessOf 43 rfl) ?_
      refine x_iald C (dq DX6_witnessOf 44 rfl) h (fun a4 h => ?_)
      refine x_if_le (tgt := 81) C (dq DX6_witnessOf 45 rfl) (by decide) h (fun h => ?_) (fun h => ?_)
      · exact x_lv [0, 1, 2, 3, 4, 5] rfl (tX6_witnessOf_81 C g0 g1 h kb kr kx)
      · refine x_pc 78 rfl ?_
        refine x_iload C (dq DX6_witnessOf 46 rfl) 5 rfl ?_
        cases h
        exact x_iret C (dq DX6_witnessOf 47 rfl) (kr x6 rfl)
set_option maxHeartbeats 1000000 in
theorem tX6_witnessOf_29 {G : Gt} {l : Launch} {E : Ev} {S : List Sh} {mm : Mm} {x0 : Nat} {x1 : Nat} {x2 : Nat} {x4 : Int32} {p0 : Nat} {p1 : Int32} {r : Int32} (C : Cx G E cX6_witnessOf 7 RX6 (some .int) 0 0) (g0 : isC S x0 6) (g1 : isC S x1 1) (h : jX6_witnessOf_29 S mm x0 x1 x2 x4 p0 p1 = some r) (hQ : RQ G E S (some (.int r)) mm) : WM G l E S 29 [(0, .ref (E.2.2 x0)), (1, .ref (E.2.2 x1)), (2, .ref (E.2.2 x2)), (4, .int x4)] [.int p1, .ref (E.2.2 p0)] mm := by
  unfold jX6_witnessOf_29 at h
  refine x_iald C (dq DX6_witnessOf 18 rfl) h (fun a2 h => ?_)
  refine x_istore (lv' := [(5, .int a2), (0, .ref (E.2.2 x0)), (1, .ref (E.2.2 x1)), (2, .ref (E.2.2 x2)), (4, .int x4)]) C (dq DX6_witnessOf 19 rfl) (by decide) rfl ?_
  refine x_iconst (v := 0) C (dq DX6_witnessOf 20 rfl) (by decide) ?_
  refine x_istore (lv' := [(6, .int 0), (5, .int a2), (0, .ref (E.2.2 x0)), (1, .ref (E.2.2 x1)), (2, .ref (E.2.2 x2)), (4, .int x4)]) C (dq DX6_witnessOf 21 rfl) (by decide) rfl ?_
  refine x_lv [2, 3, 4, 5, 1, 0] rfl ?_
  refine x_loopR (s0 := 0) (fun s5 => WM G l E S 35 [(0, .ref (E.2.2 x0)), (1, .ref (E.2.2 x1)), (2, .ref (E.2.2 x2)), (4, .int x4), (5, .int a2), (6, .int s5)] [] mm) h (fun s5 r hb kb kg kx => tX6_witnessOf_35 C g0 g1 hb kb (fun a7 ha => ?_) (fun y6 hy => ?_))
  · have h := kg a7 ha
    cases h
    exact hQ
  · have h := kx y6 hy
    clear kx kb hb hy kg
    refine x_pc 87 rfl ?_
    refine x_bipush (v := (-2)) C (dq DX6_witnessOf 50 rfl) (by decide) ?_
    cases h
    exact x_iret C (dq DX6_witnessOf 51 rfl) hQ
set_option maxHeartbeats 1000000 in
theorem mX6_witnessOf {l : Launch} {E : Ev} {S : List Sh} {mm : Mm} {x0 : Nat} {x1 : Nat} {x2 : Nat} {x3 : Int32} {r : Int32} (h : fX6_witnessOf S mm x0 x1 x2 x3 = some r) : Ml l E S yX6_witnessOf cX6_witnessOf 7 (some .int) 0 0 [.ref (E.2.2 x0), .ref (E.2.2 x1), .ref (E.2.2 x2), .int x3] mm (some (.int r)) mm := by
  refine Ml.of (by decide +kernel) (Nat.le_of_ble_eq_true rfl) (fun G C hQ => ?_)
  have C : Cx G E cX6_witnessOf 7 RX6 (some .int) 0 0 := C
  unfold fX6_witnessOf at h
  obtain ⟨g0, h⟩ := gd_some h
  obtain ⟨g1, h⟩ := gd_some h
  show WM G l E S 0 [(0, .ref (E.2.2 x0)), (1, .ref (E.2.2 x1)), (2, .ref (E.2.2 x2)), (3, .int x3)] [] mm
  refine x_aload_n C (dq DX6_witnessOf 0 rfl) rfl 0 rfl ?_
  refine getX6_21 C (dq DX6_witnessOf 1 rfl) g0 ?_
  refine x_iload_n C (dq DX6_witnessOf 2 rfl) rfl 3 rfl ?_
  refine x_iald C (dq DX6_witnessOf 3 rfl) h (fun a1 h => ?_)
  refine x_pc 6 rfl ?_
  refine x_istore (lv' := [(4, .int a1), (0, .ref (E.2.2 x0)), (1, .ref (E.2.2 x1)), (2, .ref (E.2.2 x2)), (3, .int x3)]) C (dq DX6_witnessOf 4 rfl) (by decide) rfl ?_
  refine x_aload_n C (dq DX6_witnessOf 5 rfl) rfl 1 rfl ?_
  refine getX6_21 C (dq DX6_witnessOf 6 rfl) g0 ?_
  refine x_iload_n C (dq DX6_witnessOf 7 rfl) rfl 4 rfl ?_
  refine x_iconst (v := 1) C (dq DX6_witnessOf 8 rfl) (by decide) ?_
  refine x_pc 14 rfl ?_
  refine x_iadd C (dq DX6_witnessOf 9 rfl) ?_
  refine x_aload_n C (dq DX6_witnessOf 10 rfl) rfl 1 rfl ?_
  refine getX6_24 C (dq DX6_witnessOf 11 rfl) g0 ?_
  refine x_icmp_ge (tgt := 28) C (dq DX6_witnessOf 12 rfl) (by decide) h (fun h => ?_) (fun h => ?_)
  · refine x_iconst (v := 0) C (dq DX6_witnessOf 17 rfl) (by decide) ?_
    exact x_lv [1, 2, 3, 0] rfl (tX6_witnessOf_29 C g0 g1 h hQ)
  · refine x_iload_n C (dq DX6_witnessOf 13 rfl) rfl 4 rfl ?_
    refine x_pc 23 rfl ?_
    refine x_iconst (v := 1) C (dq DX6_witnessOf 14 rfl) (by decide) ?_
    refine x_iadd C (dq DX6_witnessOf 15 rfl) ?_
    refine x_goto (tgt := 29) C (dq DX6_witnessOf 16 rfl) (by decide) ?_
    exact x_lv [1, 2, 3, 0] rfl (tX6_witnessOf_29 C g0 g1 h hQ)
set_option maxHeartbeats 1000000 in
theorem qX6_witnessOf {S : List Sh} {mm : Mm} {x0 : Nat} {x1 : Nat} {x2 : Nat} {x3 : Int32} {r : Int32} (h : fX6_witnessOf S mm x0 x1 x2 x3 = some r) : isC S x0 6 := by
  unfold fX6_witnessOf at h
  exact (gd_some h).1
