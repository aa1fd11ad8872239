/-! the law from its entry to its loop -/
section SW
variable {G : Gt} {l : Launch} {E : Ev} {b L : Nat} {xs : Nat → Int32} {mP m1 m2 m3 : Mm} {adF adM : Nat → Nat}
theorem u_ig {a b2 : Nat} {G : Gt} (h : Rm G 1099 26035) (h1 : Nat.ble a 1099 = true) (h2 : Nat.ble b2 26035 = true) : Rm G a b2 := h.le (Nat.le_of_ble_eq_true h1) (Nat.le_of_ble_eq_true h2)
theorem y_eqs {cs : Nat × Nat} {w w2 : va_W} {pc : Nat} {lv : List (Nat × Value)} {st st2 : List Value} (h : w = w2) (hs : st = st2) (k : WG G l E cs w2 pc lv st2) : WG G l E cs w pc lv st := by
  subst h
  subst hs
  exact k
set_option maxHeartbeats 1000000 in
theorem walk_c (hl9 : l.stackTraces = false) (hL : L ≤ 3072) (C : Cx G E cL_law 7 RL (some .boolean) 15 564) (hX : Sx G b L xs) (hrm : Rm G 1099 26035) (hend : ∀ (cs : Nat × Nat) (w : va_W) (lv : List (Nat × Value)), cs.1 ≤ 1099 → cs.2 ≤ 26035 → WG G l E cs w 1306 lv [.int 1]) (S : Sim (ZX7 mP) m3) : WG G l E (72, 17830) (wd (E.1, E.2.1, adF) SX7 (ZX7 mP) ++ wd (E.1, E.2.1, adM) SX8 m3) 15 [(1, .ref (adF 0)), (0, .ref b)] [.ref (adM 0)] := by
  refine y_astore_n (lv' := [(2, .ref (adM 0)), (1, .ref (adF 0)), (0, .ref b)]) C (dq DL_law0 7 rfl) rfl (by decide) rfl ?_
  refine y_iconst (v := 1) C (dq DL_law0 8 rfl) (by decide) ?_
  refine y_newa3 (N := 1) C (dq DL_law0 9 rfl) (gmem 1013 (by decide +kernel) rfl) (by decide) (by decide) (by decide) (u_ig hrm rfl rfl) (fun ob => ?_)
  refine y_cs (73, 17831) rfl ?_
  refine y_comm (Eq.refl _) ?_
  refine y_w (LWd E (E.1, E.2.1, adF) (E.1, E.2.1, adM) ob (fun _ => 0) (ZX7 mP) m3) (List.append_assoc _ _ _).symm ?_
  refine y_pc 19 rfl ?_
  refine y_astore_n (lv' := [(3, .ref ob), (2, .ref (adM 0)), (1, .ref (adF 0)), (0, .ref b)]) C (dq DL_law0 10 rfl) rfl (by decide) rfl ?_
  refine y_iconst (v := 0) C (dq DL_law0 11 rfl) (by decide) ?_
  refine y_istore (lv' := [(4, .int 0), (3, .ref ob), (2, .ref (adM 0)), (1, .ref (adF 0)), (0, .ref b)]) C (dq DL_law0 12 rfl) (by decide) rfl ?_
  refine y_pc 23 rfl ?_
  refine y_lv [4, 3, 2, 1, 0] rfl ?_
  exact law_loop (EF := (E.1, E.2.1, adF)) (EM := (E.1, E.2.1, adM)) hL hl9 rfl rfl rfl rfl C hX hrm hend 512 0 (fun _ => 0) (ZX7 mP) m3 (by omega) (by omega) S
def fs8 : List Value := [.int 0, .null, .int 0, .null, .null, .null, .null, .null, .null, .null, .null, .null, .null, .null, .null, .null, .int 0, .int 0, .int 0, .int 0, .int 0, .int 0, .int 0, .int 0, .int 0, .int 0, .null, .null, .null, .null, .null, .int 0, .int 0, .null, .null, .null, .null, .null, .int 0, .null, .null, .null, .int 0, .null, .null, .null, .long 0, .long 0, .int 0]
theorem fs8_ok : ∀ j, j < 49 → defaultValue (tyX8 j) = vp_V fs8 j := (fun j hj => by rcases (show j = 0 ∨ j = 1 ∨ j = 2 ∨ j = 3 ∨ j = 4 ∨ j = 5 ∨ j = 6 ∨ j = 7 ∨ j = 8 ∨ j = 9 ∨ j = 10 ∨ j = 11 ∨ j = 12 ∨ j = 13 ∨ j = 14 ∨ j = 15 ∨ j = 16 ∨ j = 17 ∨ j = 18 ∨ j = 19 ∨ j = 20 ∨ j = 21 ∨ j = 22 ∨ j = 23 ∨ j = 24 ∨ j = 25 ∨ j = 26 ∨ j = 27 ∨ j = 28 ∨ j = 29 ∨ j = 30 ∨ j = 31 ∨ j = 32 ∨ j = 33 ∨ j = 34 ∨ j = 35 ∨ j = 36 ∨ j = 37 ∨ j = 38 ∨ j = 39 ∨ j = 40 ∨ j = 41 ∨ j = 42 ∨ j = 43 ∨ j = 44 ∨ j = 45 ∨ j = 46 ∨ j = 47 ∨ j = 48 by omega) with rfl | rfl | rfl | rfl | rfl | rfl | rfl | rfl | rfl | rfl | rfl | rfl | rfl | rfl | rfl | rfl | rfl | rfl | rfl | rfl | rfl | rfl | rfl | rfl | rfl | rfl | rfl | rfl | rfl | rfl | rfl | rfl | rfl | rfl | rfl | rfl | rfl | rfl | rfl | rfl | rfl | rfl | rfl | rfl | rfl | rfl | rfl | rfl | rfl <;> rfl)
def fs7 : List Value := [.null, .null, .null, .null, .null, .null, .null, .null, .null, .null, .int 0, .int 0]
theorem fs7_ok : ∀ j, j < 12 → defaultValue (tyX7 j) = vp_V fs7 j := (fun j hj => by rcases (show j = 0 ∨ j = 1 ∨ j = 2 ∨ j = 3 ∨ j = 4 ∨ j = 5 ∨ j = 6 ∨ j = 7 ∨ j = 8 ∨ j = 9 ∨ j = 10 ∨ j = 11 by omega) with rfl | rfl | rfl | rfl | rfl | rfl | rfl | rfl | rfl | rfl | rfl | rfl <;> rfl)
theorem PX8_ad {h0 : Nat} {mm : Mm} {w : va_W} (h : PX8 E h0 mm w) : ∃ ad : Nat → Nat, ad 0 = h0 ∧ w = wd (E.1, E.2.1, ad) SX8 mm := by
  obtain ⟨q1, q2, q3, q4, q5, q6, q7, q8, q9, q10, q11, q12, q13, q14, q15, q16, q17, q18, q19, q20, q21, q22, q23, q24, q25, q26, q27, q28, q29, q30, h⟩ := h
  exact ⟨adl [h0, q1, q2, q3, q4, q5, q6, q7, q8, q9, q10, q11, q12, q13, q14, q15, q16, q17, q18, q19, q20, q21, q22, q23, q24, q25, q26, q27, q28, q29, q30], rfl, h⟩
theorem nX8f {h0 : Nat} (f2 : fX8_freshText SX8 ZX8 0 = some m1) (f3 : fX8_takeText SX8 m1 0 = some m2) (f4 : fX8_begins SX8 m2 0 = some m3) : Mc l E yX8_init cX8_init 1 2 43 30 9530 h0 (.inr (8, fs8)) (PX8 E h0 m3) := nX8 f2 f3 f4
theorem nX7f {h0 : Nat} (f1 : fX1_clear SX1 ZX1 0 = some mP) : Mc l E yX7_init cX7_init 1 2 41 40 8239 h0 (.inr (7, fs7)) (PX7 E h0 (ZX7 mP)) := nX7 f1
set_option maxHeartbeats 1000000 in
theorem walk_b (hl9 : l.stackTraces = false) (hL : L ≤ 3072) (C : Cx G E cL_law 7 RL (some .boolean) 15 564) (hX : Sx G b L xs) (hrm : Rm G 1099 26035) (hend : ∀ (cs : Nat × Nat) (w : va_W) (lv : List (Nat × Value)), cs.1 ≤ 1099 → cs.2 ≤ 26035 → WG G l E cs w 1306 lv [.int 1]) (f2 : fX8_freshText SX8 ZX8 0 = some m1) (f3 : fX8_takeText SX8 m1 0 = some m2) (f4 : fX8_begins SX8 m2 0 = some m3) (S : Sim (ZX7 mP) m3) : WG G l E (41, 8251) (wd (E.1, E.2.1, adF) SX7 (ZX7 mP)) 7 [(0, .ref b)] [.ref (adF 0)] := by
  refine y_astore_n (lv' := [(1, .ref (adF 0)), (0, .ref b)]) C (dq DL_law0 3 rfl) rfl (by decide) rfl ?_
  refine y_new (ci := 8) (fs := fs8) C (dq DL_law0 4 rfl) (T := TX8) (N := 49) rfl inX8 tyX8 tyX8_ok (gmem 831 (by decide +kernel) rfl) (gmem 832 (by decide +kernel) rfl) (gmem 9 (by decide +kernel) rfl) fs8_ok (u_ig hrm rfl rfl) (fun q1 => ?_)
  refine y_cs (42, 8300) rfl ?_
  refine y_pc 11 rfl ?_
  refine y_dup C (dq DL_law0 5 rfl) rfl ?_
  refine y_callI (wr := wd (E.1, E.2.1, adF) SX7 (ZX7 mP)) (rest := [.ref q1]) C (nX8f f2 f3 f4) (Eq.refl _) (gmem 833 (by decide +kernel) rfl) (gmem 834 (by decide +kernel) rfl) (gmem 9 (by decide +kernel) rfl) (gmem 835 (by decide +kernel) rfl) rfl (by decide +kernel) (by decide) (by decide) (Nat.le_of_ble_eq_true rfl) (u_ig hrm rfl rfl) (dq DL_law0 6 rfl) (fun w1 hw1 => ?_)
  obtain ⟨adM, e1, e2⟩ := PX8_ad hw1
  refine y_eqs (w2 := wd (E.1, E.2.1, adF) SX7 (ZX7 mP) ++ wd (E.1, E.2.1, adM) SX8 m3) (st2 := [.ref (adM 0)]) (congrArg (fun z => wd (E.1, E.2.1, adF) SX7 (ZX7 mP) ++ z) e2) (by rw [e1]) ?_
  exact y_cs (72, 17830) rfl (y_pc 15 rfl (walk_c hl9 hL C hX hrm hend S))
set_option maxHeartbeats 1000000 in
theorem walk_a (hl9 : l.stackTraces = false) (hL : L ≤ 3072) (C : Cx G E cL_law 7 RL (some .boolean) 15 564) (hX : Sx G b L xs) (hrm : Rm G 1099 26035) (hend : ∀ (cs : Nat × Nat) (w : va_W) (lv : List (Nat × Value)), cs.1 ≤ 1099 → cs.2 ≤ 26035 → WG G l E cs w 1306 lv [.int 1]) {q0 : Nat} (f1 : fX1_clear SX1 ZX1 0 = some mP) (f2 : fX8_freshText SX8 ZX8 0 = some m1) (f3 : fX8_takeText SX8 m1 0 = some m2) (f4 : fX8_begins SX8 m2 0 = some m3) (S : Sim (ZX7 mP) m3) : WG G l E (1, 12) [(q0, .inr (7, fs7))] 4 [(0, .ref b)] [.ref q0, .ref q0] := by
  refine y_callI (mc := 40) (ms := 8239) (wr := []) (rest := [.ref q0]) C (nX7f f1) (List.nil_append _) (gmem 23 (by decide +kernel) rfl) (gmem 24 (by decide +kernel) rfl) (gmem 1 (by decide +kernel) rfl) (gmem 25 (by decide +kernel) rfl) rfl (by decide +kernel) (by decide) (by decide) (Nat.le_of_ble_eq_true rfl) (u_ig hrm rfl rfl) (dq DL_law0 2 rfl) (fun w1 hw1 => ?_)
  obtain ⟨adF, e1, e2⟩ := hw1
  refine y_eqs (w2 := wd (E.1, E.2.1, adF) SX7 (ZX7 mP)) (st2 := [.ref (adF 0)]) ((List.nil_append _).trans e2) (by rw [e1]) ?_
  refine y_cs (41, 8251) rfl ?_
  refine y_pc 7 rfl ?_
  exact walk_b hl9 hL C hX hrm hend f2 f3 f4 S
set_option maxHeartbeats 1000000 in
theorem start_walk (hl9 : l.stackTraces = false) (hL : L ≤ 3072) (C : Cx G E cL_law 7 RL (some .boolean) 15 564) (hX : Sx G b L xs) (hrm : Rm G 1099 26035) (hend : ∀ (cs : Nat × Nat) (w : va_W) (lv : List (Nat × Value)), cs.1 ≤ 1099 → cs.2 ≤ 26035 → WG G l E cs w 1306 lv [.int 1]) (f1 : fX1_clear SX1 ZX1 0 = some mP) (f2 : fX8_freshText SX8 ZX8 0 = some m1) (f3 : fX8_takeText SX8 m1 0 = some m2) (f4 : fX8_begins SX8 m2 0 = some m3) (S : Sim (ZX7 mP) m3) : WG G l E (0, 0) [] 0 [(0, .ref b)] [] := by
  refine y_new (ci := 7) (fs := fs7) C (dq DL_law0 0 rfl) (T := TX7) (N := 12) rfl inX7 tyX7 tyX7_ok (gmem 21 (by decide +kernel) rfl) (gmem 22 (by decide +kernel) rfl) (gmem 1 (by decide +kernel) rfl) fs7_ok (u_ig hrm rfl rfl) (fun q0 => ?_)
  refine y_w _ (List.nil_append _) ?_
  refine y_cs (1, 12) rfl ?_
  refine y_pc 3 rfl ?_
  refine y_dup C (dq DL_law0 1 rfl) rfl ?_
  exact walk_a hl9 hL C hX hrm hend f1 f2 f3 f4 S
end SW
