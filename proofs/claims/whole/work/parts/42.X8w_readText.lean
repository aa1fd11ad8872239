theorem putX8_124 {G : Gt} {l : Launch} {E : Ev} {S : List Sh} {cc : ByteArray} {nL : Nat} {rt : Option FieldType} {fr lo : Nat} {pc : Nat} {lv : List (Nat × Value)} {st : List Value} {mm : Mm} {o : Nat} {α : Type} {f : Mm → Option α} {r : α} {x : Int32} (C : Cx G E cc nL RX8 rt fr lo) (d : decode cc pc = .ok (.putfield 124, 3)) (hg : isC S o 8) (h : bd1 (some (u1 mm o 17 x)) f = some r) (k : ∀ m1, f m1 = some r → WM G l E S (pc + 3) lv st m1) : WM G l E S pc lv (.int x :: .ref (E.2.2 o) :: st) mm := x_putI C hg (T := TX8) (N := 49) rfl inX8 (by decide) (i := 17) (gmem 882 (by decide +kernel) rfl) rfl tyX8 tyX8_ok nmX8 rfl rfl (by decide) (by decide +kernel) d (k _ h)
theorem callX8_106 {G : Gt} {l : Launch} {E : Ev} {S : List Sh} {cc : ByteArray} {nL : Nat} {rt : Option FieldType} {fr lo : Nat} {pc : Nat} {lv : List (Nat × Value)} {rest : List Value} {mm : Mm} {α : Type} {f : Mm → Option α} {r : α} {o : Nat} (C : Cx G E cc nL RX8 rt fr lo) (d : decode cc pc = .ok (.invokevirtual 106, 3)) (h : bd1 (fX8_freshText S mm o) f = some r) (hfr : 2 ≤ fr) (hlo : 43 ≤ lo) (hrs : (rest.map fun v => v.category).sum ≤ 8) (k : ∀ m1, f m1 = some r → WM G l E S (pc + 3) lv rest m1) : WM G l E S pc lv (.ref (E.2.2 o) :: rest) mm := by
  obtain ⟨m1, hv, hf⟩ := bd1_some h
  exact x_callV (n := 0) (As := []) (rest := rest) C (mX8_freshText hv) (qX8_freshText hv) (T := TX8) (N := 49) rfl (gmem 837 (by decide +kernel) rfl) (gmem 839 (by decide +kernel) rfl) (gmemS 38 (by decide +kernel) rfl) (gmem 9 (by decide +kernel) rfl) (gmem 840 (by decide +kernel) rfl) (by decide +kernel) rfl hfr hlo hrs d rfl rfl (k m1 hf)
theorem callX8_232 {G : Gt} {l : Launch} {E : Ev} {S : List Sh} {cc : ByteArray} {nL : Nat} {rt : Option FieldType} {fr lo : Nat} {pc : Nat} {lv : List (Nat × Value)} {rest : List Value} {mm : Mm} {α : Type} {f : Mm → Option α} {r : α} {o : Nat} (C : Cx G E cc nL RX8 rt fr lo) (d : decode cc pc = .ok (.invokevirtual 232, 3)) (h : bd1 (fX8_readLine S mm o) f = some r) (hfr : 10 ≤ fr) (hlo : 218 ≤ lo) (hrs : (rest.map fun v => v.category).sum ≤ 8) (k : ∀ m1, f m1 = some r → WM G l E S (pc + 3) lv rest m1) : WM G l E S pc lv (.ref (E.2.2 o) :: rest) mm := by
  obtain ⟨m1, hv, hf⟩ := bd1_some h
  exact x_callV (n := 0) (As := []) (rest := rest) C (mX8_readLine hv) (qX8_readLine hv) (T := TX8) (N := 49) rfl (gmem 1102 (by decide +kernel) rfl) (gmem 1104 (by decide +kernel) rfl) (gmemS 50 (by decide +kernel) rfl) (gmem 9 (by decide +kernel) rfl) (gmem 1105 (by decide +kernel) rfl) (by decide +kernel) rfl hfr hlo hrs d rfl rfl (k m1 hf)
abbrev eX8_readText : List (Nat × Instr × Nat) := [(0, .aload_n 0, 1), (1, .iload_n 1, 1), (2, .putfield 124, 3), (5, .aload_n 0, 1), (6, .iconst 0, 1), (7, .putfield 121, 3), (10, .aload_n 0, 1), (11, .iconst 0, 1), (12, .putfield 165, 3), (15, .aload_n 0, 1), (16, .iconst 0, 1), (17, .putfield 229, 3), (20, .aload_n 0, 1), (21, .invokevirtual 106, 3), (24, .aload_n 0, 1), (25, .invokevirtual 171, 3), (28, .aload_n 0, 1), (29, .getfield 165, 3), (32, .ifCond .ne 18, 3), (35, .aload_n 0, 1), (36, .getfield 134, 3), (39, .iconst 4, 1), (40, .if_icmp .eq 10, 3), (43, .aload_n 0, 1), (44, .invokevirtual 232, 3), (47, .goto (-19), 3), (50, .return_, 1)]
theorem DX8_readText : (eX8_readText.all fun q => decide (decode cX8_readText q.1 = .ok q.2)) = true := by decide +kernel
def bX8_readText_28 (S : List Sh) (x0 : Nat)  (mm : Mm) : Option ((Mm) ⊕ (Mm)) := if ¬ (mm.1 x0 22) = 0 then (some (.inr (mm))) else (if (mm.1 x0 20) = 4 then (some (.inr (mm))) else (bd1 (fX8_readLine S mm x0) fun m7 => some (.inl (m7))))
def jX8_readText_50 (S : List Sh) (mm : Mm) (x0 : Nat)  : Option (Mm) := some mm
def fX8_readText (S : List Sh) (mm : Mm) (x0 : Nat) (x1 : Int32) : Option (Mm) := gd S x0 8 (bd1 (some (u1 mm x0 17 x1)) fun m1 => bd1 (some (u1 m1 x0 18 0)) fun m2 => bd1 (some (u1 m2 x0 22 0)) fun m3 => bd1 (some (u1 m3 x0 16 0)) fun m4 => bd1 (fX8_freshText S m4 x0) fun m5 => bd1 (fX8_token S m5 x0) fun m6 => bd1 (lp (fun s8 => bX8_readText_28 S x0 s8) fu m6) fun y9 => jX8_readText_50 S y9 x0)
set_option maxHeartbeats 1000000 in
theorem tX8_readText_28 {G : Gt} {l : Launch} {E : Ev} {S : List Sh} {x0 : Nat}  {mm : Mm} {r : (Mm) ⊕ (Mm)} (C : Cx G E cX8_readText 2 RX8 none 10 218) (g0 : isC S x0 8) (h : bX8_readText_28 S x0 mm = some r) (kb : ∀ z : Mm, r = .inl z → WM G l E S 28 [(0, .ref (E.2.2 x0))] [] z) (kx : ∀ z : Mm, r = .inr z → WM G l E S 50 [(0, .ref (E.2.2 x0))] [] z) : WM G l E S 28 [(0, .ref (E.2.2 x0))] [] mm := by
  unfold bX8_readText_28 at h
  refine x_aload_n C (dq DX8_readText 16 rfl) rfl 0 rfl ?_
  refine getX8_165 C (dq DX8_readText 17 rfl) g0 ?_
  refine x_if_ne (tgt := 50) C (dq DX8_readText 18 rfl) (by decide) h (fun h => ?_) (fun h => ?_)
  · cases h
    exact x_lv [0] rfl (kx (mm) rfl)
  · refine x_aload_n C (dq DX8_readText 19 rfl) rfl 0 rfl ?_
    refine x_pc 36 rfl ?_
    refine getX8_134 C (dq DX8_readText 20 rfl) g0 ?_
    refine x_iconst (v := 4) C (dq DX8_readText 21 rfl) (by decide) ?_
    refine x_icmp_eq (tgt := 50) C (dq DX8_readText 22 rfl) (by decide) h (fun h => ?_) (fun h => ?_)
    · cases h
      exact x_lv [0] rfl (kx (mm) rfl)
    · refine x_aload_n C (dq DX8_readText 23 rfl) rfl 0 rfl ?_
      refine callX8_232 C (dq DX8_readText 24 rfl) h (by decide) (by decide) (Nat.le_of_ble_eq_true rfl) (fun m7 h => ?_)
      refine x_pc 47 rfl ?_
      refine x_goto (tgt := 28) C (dq DX8_readText 25 rfl) (by decide) ?_
      cases h
      exact x_lv [0] rfl (kb (m7) rfl)
set_option maxHeartbeats 1000000 in
theorem tX8_readText_50 {G : Gt} {l : Launch} {E : Ev} {S : List Sh} {mm : Mm} {x0 : Nat}  {r : Mm} (C : Cx G E cX8_readText 2 RX8 none 10 218) (g0 : isC S x0 8) (h : jX8_readText_50 S mm x0 = some r) (hQ : RQ G E S none r) : WM G l E S 50 [(0, .ref (E.2.2 x0))] [] mm := by
  unfold jX8_readText_50 at h
  cases h
  exact x_vret C (dq DX8_readText 26 rfl) hQ
set_option maxHeartbeats 1000000 in
theorem mX8_readText {l : Launch} {E : Ev} {S : List Sh} {mm : Mm} {x0 : Nat} {x1 : Int32} {r : Mm} (h : fX8_readText S mm x0 x1 = some r) : Ml l E S yX8_readText cX8_readText 2 none 10 218 [.ref (E.2.2 x0), .int x1] mm none r := by
  refine Ml.of (by decide +kernel) (Nat.le_of_ble_eq_true rfl) (fun G C hQ => ?_)
  have C : Cx G E cX8_readText 2 RX8 none 10 218 := C
  unfold fX8_readText at h
  obtain ⟨g0, h⟩ := gd_some h
  show WM G l E S 0 [(0, .ref (E.2.2 x0)), (1, .int x1)] [] mm
  refine x_aload_n C (dq DX8_readText 0 rfl) rfl 0 rfl ?_
  refine x_iload_n C (dq DX8_readText 1 rfl) rfl 1 rfl ?_
  refine putX8_124 C (dq DX8_readText 2 rfl) g0 h (fun m1 h => ?_)
  refine x_aload_n C (dq DX8_readText 3 rfl) rfl 0 rfl ?_
  refine x_pc 6 rfl ?_
  refine x_iconst (v := 0) C (dq DX8_readText 4 rfl) (by decide) ?_
  refine putX8_121 C (dq DX8_readText 5 rfl) g0 h (fun m2 h => ?_)
  refine x_aload_n C (dq DX8_readText 6 rfl) rfl 0 rfl ?_
  refine x_iconst (v := 0) C (dq DX8_readText 7 rfl) (by decide) ?_
  refine putX8_165 C (dq DX8_readText 8 rfl) g0 h (fun m3 h => ?_)
  refine x_pc 15 rfl ?_
  refine x_aload_n C (dq DX8_readText 9 rfl) rfl 0 rfl ?_
  refine x_iconst (v := 0) C (dq DX8_readText 10 rfl) (by decide) ?_
  refine putX8_229 C (dq DX8_readText 11 rfl) g0 h (fun m4 h => ?_)
  refine x_aload_n C (dq DX8_readText 12 rfl) rfl 0 rfl ?_
  refine callX8_106 C (dq DX8_readText 13 rfl) h (by decide) (by decide) (Nat.le_of_ble_eq_true rfl) (fun m5 h => ?_)
  refine x_pc 24 rfl ?_
  refine x_aload_n C (dq DX8_readText 14 rfl) rfl 0 rfl ?_
  refine callX8_171 C (dq DX8_readText 15 rfl) h (by decide) (by decide) (Nat.le_of_ble_eq_true rfl) (fun m6 h => ?_)
  refine x_lv [0] rfl ?_
  refine x_loop (s0 := m6) (fun s8 => WM G l E S 28 [(0, .ref (E.2.2 x0))] [] s8) h (fun s8 r hb kb kx => tX8_readText_28 C g0 hb kb (fun y9 hy => ?_))
  have h := kx y9 hy
  clear kx kb hb hy
  exact x_lv [0] rfl (tX8_readText_50 C g0 h hQ)
set_option maxHeartbeats 1000000 in
theorem qX8_readText {S : List Sh} {mm : Mm} {x0 : Nat} {x1 : Int32} {r : Mm} (h : fX8_readText S mm x0 x1 = some r) : isC S x0 8 := by
  unfold fX8_readText at h
  exact (gd_some h).1
theorem getX8_168 {G : Gt} {l : Launch} {E : Ev} {S : List Sh} {cc : ByteArray} {nL : Nat} {rt : Option FieldType} {fr lo : Nat} {pc : Nat} {lv : List (Nat × Value)} {st : List Value} {mm : Mm} {o : Nat} (C : Cx G E cc nL RX8 rt fr lo) (d : decode cc pc = .ok (.getfield 168, 3)) (hg : isC S o 8) (k : WM G l E S (pc + 3) lv (.int (mm.1 o 23) :: st) mm) : WM G l E S pc lv (.ref (E.2.2 o) :: st) mm := x_get0 C hg (T := TX8) (N := 49) rfl inX8 (by decide) (i := 23) (gmem 888 (by decide +kernel) rfl) rfl rfl d k
theorem putX8_53 {G : Gt} {l : Launch} {E : Ev} {S : List Sh} {cc : ByteArray} {nL : Nat} {rt : Option FieldType} {fr lo : Nat} {pc : Nat} {lv : List (Nat × Value)} {st : List Value} {mm : Mm} {o : Nat} {α : Type} {f : Mm → Option α} {r : α} {x : Int32} (C : Cx G E cc nL RX8 rt fr lo) (d : decode cc pc = .ok (.putfield 53, 3)) (hg : isC S o 8) (h : bd1 (some (u1 mm o 25 x)) f = some r) (k : ∀ m1, f m1 = some r → WM G l E S (pc + 3) lv st m1) : WM G l E S pc lv (.int x :: .ref (E.2.2 o) :: st) mm := x_putI C hg (T := TX8) (N := 49) rfl inX8 (by decide) (i := 25) (gmem 890 (by decide +kernel) rfl) rfl tyX8 tyX8_ok nmX8 rfl rfl (by decide) (by decide +kernel) d (k _ h)
theorem putX8_238 {G : Gt} {l : Launch} {E : Ev} {S : List Sh} {cc : ByteArray} {nL : Nat} {rt : Option FieldType} {fr lo : Nat} {pc : Nat} {lv : List (Nat × Value)} {st : List Value} {mm : Mm} {o : Nat} {α : Type} {f : Mm → Option α} {r : α} {x : Int32} (C : Cx G E cc nL RX8 rt fr lo) (d : decode cc pc = .ok (.putfield 238, 3)) (hg : isC S o 8) (h : bd1 (some (u1 mm o 24 x)) f = some r) (k : ∀ m1, f m1 = some r → WM G l E S (pc + 3) lv st m1) : WM G l E S pc lv (.int x :: .ref (E.2.2 o) :: st) mm := x_putI C hg (T := TX8) (N := 49) rfl inX8 (by decide) (i := 24) (gmem 889 (by decide +kernel) rfl) rfl tyX8 tyX8_ok nmX8 rfl rfl (by decide) (by decide +kernel) d (k _ h)
theorem callX8_109 {G : Gt} {l : Launch} {E : Ev} {S : List Sh} {cc : ByteArray} {nL : Nat} {rt : Option FieldType} {fr lo : Nat} {pc : Nat} {lv : List (Nat × Value)} {rest : List Value} {mm : Mm} {α : Type} {f : Mm → Option α} {r : α} {o : Nat} (C : Cx G E cc nL RX8 rt fr lo) (d : decode cc pc = .ok (.invokevirtual 109, 3)) (h : bd1 (fX8_takeText S mm o) f = some r) (hfr : 2 ≤ fr) (hlo : 42 ≤ lo) (hrs : (rest.map fun v => v.category).sum ≤ 8) (k : ∀ m1, f m1 = some r → WM G l E S (pc + 3) lv rest m1) : WM G l E S pc lv (.ref (E.2.2 o) :: rest) mm := by
  obtain ⟨m1, hv, hf⟩ := bd1_some h
  exact x_callV (n := 0) (As := []) (rest := rest) C (mX8_takeText hv) (qX8_takeText hv) (T := TX8) (N := 49) rfl (gmem 845 (by decide +kernel) rfl) (gmem 847 (by decide +kernel) rfl) (gmemS 40 (by decide +kernel) rfl) (gmem 9 (by decide +kernel) rfl) (gmem 848 (by decide +kernel) rfl) (by decide +kernel) rfl hfr hlo hrs d rfl rfl (k m1 hf)
theorem callX8_112 {G : Gt} {l : Launch} {E : Ev} {S : List Sh} {cc : ByteArray} {nL : Nat} {rt : Option FieldType} {fr lo : Nat} {pc : Nat} {lv : List (Nat × Value)} {rest : List Value} {mm : Mm} {α : Type} {f : Mm → Option α} {r : α} {o : Nat} (C : Cx G E cc nL RX8 rt fr lo) (d : decode cc pc = .ok (.invokevirtual 112, 3)) (h : bd1 (fX8_begins S mm o) f = some r) (hfr : 2 ≤ fr) (hlo : 42 ≤ lo) (hrs : (rest.map fun v => v.category).sum ≤ 8) (k : ∀ m1, f m1 = some r → WM G l E S (pc + 3) lv rest m1) : WM G l E S pc lv (.ref (E.2.2 o) :: rest) mm := by
  obtain ⟨m1, hv, hf⟩ := bd1_some h
  exact x_callV (n := 0) (As := []) (rest := rest) C (mX8_begins hv) (qX8_begins hv) (T := TX8) (N := 49) rfl (gmem 853 (by decide +kernel) rfl) (gmem 855 (by decide +kernel) rfl) (gmemS 42 (by decide +kernel) rfl) (gmem 9 (by decide +kernel) rfl) (gmem 856 (by decide +kernel) rfl) (by decide +kernel) rfl hfr hlo hrs d rfl rfl (k m1 hf)
theorem callX8_235 {G : Gt} {l : Launch} {E : Ev} {S : List Sh} {cc : ByteArray} {nL : Nat} {rt : Option FieldType} {fr lo : Nat} {pc : Nat} {lv : List (Nat × Value)} {rest : List Value} {mm : Mm} {α : Type} {f : Mm → Option α} {r : α} {o : Nat} {a0 : Int32} (C : Cx G E cc nL RX8 rt fr lo) (d : decode cc pc = .ok (.invokevirtual 235, 3)) (h : bd1 (fX8_readText S mm o a0) f = some r) (hfr : 11 ≤ fr) (hlo : 239 ≤ lo) (hrs : (rest.map fun v => v.category).sum ≤ 8) (k : ∀ m1, f m1 = some r → WM G l E S (pc + 3) lv rest m1) : WM G l E S pc lv (.int a0 :: .ref (E.2.2 o) :: rest) mm := by
  obtain ⟨m1, hv, hf⟩ := bd1_some h
  exact x_callV (n := 1) (As := [.int a0]) (rest := rest) C (mX8_readText hv) (qX8_readText hv) (T := TX8) (N := 49) rfl (gmem 1026 (by decide +kernel) rfl) (gmem 1028 (by decide +kernel) rfl) (gmemS 45 (by decide +kernel) rfl) (gmem 9 (by decide +kernel) rfl) (gmem 1029 (by decide +kernel) rfl) (by decide +kernel) rfl hfr hlo hrs d rfl rfl (k m1 hf)
abbrev eX8_text : List (Nat × Instr × Nat) := [(0, .aload_n 0, 1), (1, .iconst 0, 1), (2, .putfield 115, 3), (5, .iload_n 1, 1), (6, .ifCond .lt 11, 3), (9, .iload_n 1, 1), (10, .aload_n 0, 1), (11, .getfield 118, 3), (14, .if_icmp .le 6, 3), (17, .bipush (-2), 2), (19, .ireturn, 1), (20, .aload_n 0, 1), (21, .iload_n 1, 1), (22, .invokevirtual 235, 3), (25, .aload_n 0, 1), (26, .iconst 0, 1), (27, .putfield 118, 3), (30, .aload_n 0, 1), (31, .aload_n 0, 1), (32, .getfield 165, 3), (35, .putfield 238, 3), (38, .aload_n 0, 1), (39, .aload_n 0, 1), (40, .getfield 165, 3), (43, .ifCond .ne 7, 3), (46, .iconst (-1), 1), (47, .goto 7, 3), (50, .aload_n 0, 1), (51, .getfield 168, 3), (54, .putfield 53, 3), (57, .aload_n 0, 1), (58, .getfield 165, 3), (61, .ifCond .eq 5, 3), (64, .iconst (-1), 1), (65, .ireturn, 1), (66, .aload_n 0, 1), (67, .invokevirtual 109, 3), (70, .aload_n 0, 1), (71, .invokevirtual 112, 3), (74, .aload_n 0, 1), (75, .iconst 0, 1), (76, .putfield 241, 3), (79, .aload_n 0, 1), (80, .iconst 0, 1), (81, .putfield 244, 3), (84, .aload_n 0, 1), (85, .getfield 229, 3), (88, .ireturn, 1)]
theorem DX8_text : (eX8_text.all fun q => decide (decode cX8_text q.1 = .ok q.2)) = true := by decide +kernel
def jX8_text_17 (S : List Sh) (mm : Mm) (x0 : Nat)  : Option (Int32 × Mm) := some ((-2), mm)
def jX8_text_54 (S : List Sh) (mm : Mm) (x0 : Nat) (p0 : Nat) (p1 : Int32) : Option (Int32 × Mm) := gd S p0 8 (bd1 (some (u1 mm p0 25 p1)) fun m6 => if (m6.1 x0 22) = 0 then (bd1 (fX8_takeText S m6 x0) fun m7 => bd1 (fX8_begins S m7 x0) fun m8 => bd1 (some (u1 m8 x0 31 0)) fun m9 => bd1 (some (u1 m9 x0 32 0)) fun m10 => some ((m10.1 x0 16), m10)) else (some ((-1), m6)))
def fX8_text (S : List Sh) (mm : Mm) (x0 : Nat) (x1 : Int32) : Option (Int32 × Mm) := gd S x0 8 (bd1 (some (u1 mm x0 0 0)) fun m1 => if x1 < 0 then (jX8_text_17 S m1 x0) else (if x1 ≤ (m1.1 x0 2) then (bd1 (fX8_readText S m1 x0 x1) fun m2 => bd1 (some (u1 m2 x0 2 0)) fun m3 => bd1 (some (u1 m3 x0 24 (m3.1 x0 22))) fun m4 => if ¬ (m4.1 x0 22) = 0 then (jX8_text_54 S m4 x0 x0 (m4.1 x0 23)) else (jX8_text_54 S m4 x0 x0 (-1))) else (jX8_text_17 S m1 x0)))
set_option maxHeartbeats 1000000 in
theorem tX8_text_17 {G : Gt} {l : Launch} {E : Ev} {S : List Sh} {mm : Mm} {x0 : Nat}  {r : Int32 × Mm} (C : Cx G E cX8_text 2 RX8 (some .int) 11 239) (g0 : isC S x0 8) (h : jX8_text_17 S mm x0 = some r) (hQ : RQ G E S (some (.int r.1)) r.2) : WM G l E S 17 [(0, .ref (E.2.2 x0))] [] mm := by
  unfold jX8_text_17 at h
  refine x_bipush (v := (-2)) C (dq DX8_text 9 rfl) (by decide) ?_
  cases h
  exact x_iret C (dq DX8_text 10 rfl) hQ
set_option maxHeartbeats 1000000 in
theorem tX8_text_54 {G : Gt} {l : Launch} {E : Ev} {S : List Sh} {mm : Mm} {x0 : Nat} {p0 : Nat} {p1 : Int32} {r : Int32 × Mm} (C : Cx G E cX8_text 2 RX8 (some .int) 11 239) (g0 : isC S x0 8) (h : jX8_text_54 S mm x0 p0 p1 = some r) (hQ : RQ G E S (some (.int r.1)) r.2) : WM G l E S 54 [(0, .ref (E.2.2 x0))] [.int p1, .ref (E.2.2 p0)] mm := by
  unfold jX8_text_54 at h
  obtain ⟨g5, h⟩ := gd_some h
  refine putX8_53 C (dq DX8_text 29 rfl) g5 h (fun m6 h => ?_)
  refine x_aload_n C (dq DX8_text 30 rfl) rfl 0 rfl ?_
  refine getX8_165 C (dq DX8_text 31 rfl) g0 ?_
  refine x_if_eq (tgt := 66) C (dq DX8_text 32 rfl) (by decide) h (fun h => ?_) (fun h => ?_)
  · refine x_pc 66 rfl ?_
    refine x_aload_n C (dq DX8_text 35 rfl) rfl 0 rfl ?_
    refine callX8_109 C (dq DX8_text 36 rfl) h (by decide) (by decide) (Nat.le_of_ble_eq_true rfl) (fun m7 h => ?_)
    refine x_aload_n C (dq DX8_text 37 rfl) rfl 0 rfl ?_
    refine callX8_112 C (dq DX8_text 38 rfl) h (by decide) (by decide) (Nat.le_of_ble_eq_true rfl) (fun m8 h => ?_)
    refine x_aload_n C (dq DX8_text 39 rfl) rfl 0 rfl ?_
    refine x_pc 75 rfl ?_
    refine x_iconst (v := 0) C (dq DX8_text 40 rfl) (by decide) ?_
    refine putX8_241 C (dq DX8_text 41 rfl) g0 h (fun m9 h => ?_)
    refine x_aload_n C (dq DX8_text 42 rfl) rfl 0 rfl ?_
    refine x_iconst (v := 0) C (dq DX8_text 43 rfl) (by decide) ?_
    refine putX8_244 C (dq DX8_text 44 rfl) g0 (Or.inl rfl) h (fun m10 h => ?_)
    refine x_pc 84 rfl ?_
    refine x_aload_n C (dq DX8_text 45 rfl) rfl 0 rfl ?_
    refine getX8_229 C (dq DX8_text 46 rfl) g0 ?_
    cases h
    exact x_iret C (dq DX8_text 47 rfl) hQ
  · refine x_pc 64 rfl ?_
    refine x_iconst (v := (-1)) C (dq DX8_text 33 rfl) (by decide) ?_
    cases h
    exact x_iret C (dq DX8_text 34 rfl) hQ
set_option maxHeartbeats 1000000 in
theorem mX8_text {l : Launch} {E : Ev} {S : List Sh} {mm : Mm} {x0 : Nat} {x1 : Int32} {r : Int32 × Mm} (h : fX8_text S mm x0 x1 = some r) : Ml l E S yX8_text cX8_text 2 (some .int) 11 239 [.ref (E.2.2 x0), .int x1] mm (some (.int r.1)) r.2 := by
  refine Ml.of (by decide +kernel) (Nat.le_of_ble_eq_true rfl) (fun G C hQ => ?_)
  have C : Cx G E cX8_text 2 RX8 (some .int) 11 239 := C
  unfold fX8_text at h
  obtain ⟨g0, h⟩ := gd_some h
  show WM G l E S 0 [(0, .ref (E.2.2 x0)), (1, .int x1)] [] mm
  refine x_aload_n C (dq DX8_text 0 rfl) rfl 0 rfl ?_
  refine x_iconst (v := 0) C (dq DX8_text 1 rfl) (by decide) ?_
  refine putX8_115 C (dq DX8_text 2 rfl) g0 h (fun m1 h => ?_)
  refine x_iload_n C (dq DX8_text 3 rfl) rfl 1 rfl ?_
  refine x_pc 6 rfl ?_
  refine x_if_lt (tgt := 17) C (dq DX8_text 4 rfl) (by decide) h (fun h => ?_) (fun h => ?_)
  · exact x_lv [0] rfl (tX8_text_17 C g0 h hQ)
  · refine x_iload_n C (dq DX8_text 5 rfl) rfl 1 rfl ?_
    refine x_aload_n C (dq DX8_text 6 rfl) rfl 0 rfl ?_
    refine getX8_118 C (dq DX8_text 7 rfl) g0 ?_
    refine x_icmp_le (tgt := 20) C (dq DX8_text 8 rfl) (by decide) h (fun h => ?_) (fun h => ?_)
    · refine x_pc 20 rfl ?_
      refine x_aload_n C (dq DX8_text 11 rfl) rfl 0 rfl ?_
      refine x_iload_n C (dq DX8_text 12 rfl) rfl 1 rfl ?_
      refine callX8_235 C (dq DX8_text 13 rfl) h (by decide) (by decide) (Nat.le_of_ble_eq_true rfl) (fun m2 h => ?_)
      refine x_aload_n C (dq DX8_text 14 rfl) rfl 0 rfl ?_
      refine x_iconst (v := 0) C (dq DX8_text 15 rfl) (by decide) ?_
      refine x_pc 27 rfl ?_
      refine putX8_118 C (dq DX8_text 16 rfl) g0 h (fun m3 h => ?_)
      refine x_aload_n C (dq DX8_text 17 rfl) rfl 0 rfl ?_
      refine x_aload_n C (dq DX8_text 18 rfl) rfl 0 rfl ?_
      refine getX8_165 C (dq DX8_text 19 rfl) g0 ?_
      refine putX8_238 C (dq DX8_text 20 rfl) g0 h (fun m4 h => ?_)
      refine x_pc 38 rfl ?_
      refine x_aload_n C (dq DX8_text 21 rfl) rfl 0 rfl ?_
      refine x_aload_n C (dq DX8_text 22 rfl) rfl 0 rfl ?_
      refine getX8_165 C (dq DX8_text 23 rfl) g0 ?_
      refine x_if_ne (tgt := 50) C (dq DX8_text 24 rfl) (by decide) h (fun h => ?_) (fun h => ?_)
      · refine x_aload_n C (dq DX8_text 27 rfl) rfl 0 rfl ?_
        refine x_pc 51 rfl ?_
        refine getX8_168 C (dq DX8_text 28 rfl) g0 ?_
        exact x_lv [0] rfl (tX8_text_54 C g0 h hQ)
      · refine x_iconst (v := (-1)) C (dq DX8_text 25 rfl) (by decide) ?_
        refine x_pc 47 rfl ?_
        refine x_goto (tgt := 54) C (dq DX8_text 26 rfl) (by decide) ?_
        exact x_lv [0] rfl (tX8_text_54 C g0 h hQ)
    · exact x_lv [0] rfl (tX8_text_17 C g0 h hQ)
set_option maxHeartbeats 1000000 in
theorem qX8_text {S : List Sh} {mm : Mm} {x0 : Nat} {x1 : Int32} {r : Int32 × Mm} (h : fX8_text S mm x0 x1 = some r) : isC S x0 8 := by
  unfold fX8_text at h
  exact (gd_some h).1
