/-! the law's loop -/
theorem vpi {i j L : Nat} (h : i + j < L) (hL : L ≤ 3072) : vp_in (nI i + nI j) L := by
  unfold vp_in
  rw [nI_add, nI_clamp (by omega)]
  rintro (z | z)
  · have := (nn_lt (a := i + j) (b := 0) (by omega) (by omega)).mp z
    omega
  · omega
set_option maxHeartbeats 1000000 in
theorem law_loop {G : Gt} {l : Launch} {E EF EM : Ev} {b L ob : Nat} {xs : Nat → Int32} (hL : L ≤ 3072) (hl9 : l.stackTraces = false) (hF1 : EF.1 = E.1) (hF2 : EF.2.1 = E.2.1) (hM1 : EM.1 = E.1) (hM2 : EM.2.1 = E.2.1) (C : Cx G E cL_law 7 RL (some .boolean) 15 564) (hX : Sx G b L xs) (hrm : Rm G 1099 26035)
    (hend : ∀ (cs : Nat × Nat) (w : va_W) (lv : List (Nat × Value)), cs.1 ≤ 1099 → cs.2 ≤ 26035 → WG G l E cs w 1306 lv [.int 1]) : ∀ d k fo mF mM, L < 6 * (k + d) + 6 → 6 * k ≤ L + 5 → Sim mF mM → WG G l E (73 + k, 17831 + 6 * k) (LWd E EF EM ob fo mF mM) 23 [(0, .ref b), (1, .ref (EF.2.2 0)), (2, .ref (EM.2.2 0)), (3, .ref ob), (4, .int (nI (6 * k)))] [] := by
  intro d
  induction d with
  | zero =>
    intro k fo mF mM h1 h2 S
    refine y_iload C (dq DL_law0 13 rfl) 4 rfl ?_
    refine y_aload_n C (dq DL_law0 14 rfl) rfl 0 rfl ?_
    refine y_slen C (dq DL_law0 15 rfl) hX ?_
    refine y_pc 27 rfl ?_
    refine y_bipush (v := 6) C (dq DL_law0 16 rfl) (by decide) ?_
    refine y_isub C (dq DL_law0 17 rfl) ?_
    have e : (Int32.ofNat L - 6).toInt = (L : Int) - 6 := pk_sub_toInt (a := L) (b := 6) (by omega) (by omega)
    refine y_icmp_gt (tgt := 1305) C (dq DL_law0 18 rfl) (by decide) (fun _ => ?_) (fun hc => absurd (Int32.lt_iff_toInt_lt.mpr (by rw [e, nI_toInt (by omega)]; omega)) hc)
    refine y_iconst (v := 1) C (dq DL_law13 19 rfl) (by decide) ?_
    exact hend _ _ _ (show 73 + k ≤ 1099 by omega) (show 17831 + 6 * k ≤ 26035 by omega)
  | succ d ih =>
    intro k fo mF mM h1 h2 S
    refine y_iload C (dq DL_law0 13 rfl) 4 rfl ?_
    refine y_aload_n C (dq DL_law0 14 rfl) rfl 0 rfl ?_
    refine y_slen C (dq DL_law0 15 rfl) hX ?_
    refine y_pc 27 rfl ?_
    refine y_bipush (v := 6) C (dq DL_law0 16 rfl) (by decide) ?_
    refine y_isub C (dq DL_law0 17 rfl) ?_
    have e : (Int32.ofNat L - 6).toInt = (L : Int) - 6 := pk_sub_toInt (a := L) (b := 6) (by omega) (by omega)
    refine y_icmp_gt (tgt := 1305) C (dq DL_law0 18 rfl) (by decide) (fun _ => ?_) (fun hc => ?_)
    · refine y_iconst (v := 1) C (dq DL_law13 19 rfl) (by decide) ?_
      exact hend _ _ _ (show 73 + k ≤ 1099 by omega) (show 17831 + 6 * k ≤ 26035 by omega)
    · have hle : 6 * k + 6 ≤ L := by
        by_cases z : 6 * k + 6 ≤ L
        · exact z
        · exact absurd (Int32.lt_iff_toInt_lt.mpr (by rw [e, nI_toInt (by omega)]; omega)) hc
      refine y_pc 33 rfl ?_
      refine law_iter hl9 hF1 hF2 hM1 hM2 C hX (hrm.le (show 73 + k + 1 ≤ 1099 by omega) (show 17831 + 6 * k + 6 ≤ 26035 by omega)) (vpi (j := 1) (by omega) hL) (vpi (j := 2) (by omega) hL) (vpi (j := 3) (by omega) hL) (vpi (j := 4) (by omega) hL) (vpi (j := 5) (by omega) hL) S (fun fo2 mF2 mM2 S2 => ?_) (by have := vpi (i := 6 * k) (j := 0) (L := L) (by omega) hL; rw [nI_add, Nat.add_zero] at this; exact this)
      refine y_iinc (v := nI (6 * (k + 1))) (i := 4) C (dq DL_law13 17 rfl) 4 rfl (by rw [show Int32.ofInt 6 = nI 6 from rfl, nI_add]; congr 1) (by decide) rfl ?_
      refine y_pc 1302 rfl ?_
      refine y_goto (tgt := 23) C (dq DL_law13 18 rfl) (by decide) ?_
      refine y_lv [1, 2, 3, 4, 0] rfl ?_
      exact y_cs (73 + (k + 1), 17831 + 6 * (k + 1)) (by rw [Nat.mul_add]; rfl) (ih (k + 1) fo2 mF2 mM2 (by omega) (by omega) S2)
