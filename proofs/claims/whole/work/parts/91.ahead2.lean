/-! ===== what will be ahead ===== -/
theorem isFar_1 {m : Mm} {n : Nat} (h : n ≤ 300) : fX8_isFar SX8 m (nI n) = some (nI 1) := by
  unfold fX8_isFar jX8_isFar_16
  simp (disch := omega) only [L0, L1, L2, L3, L4, L5, L6, L7, L8, L9, L10, L11, L12, L13, L14, L15, L16, L17, L18, L19, L20, L21, L22, L23, L24, L25, L26, L27, L28, L29, L30, L31, L32, L33, L34, L35, L36, L37, L38, L39, L40, L41, L42, L43, L44, L45, L46, L47, L48, L50, L57, L59, L60, L63, L64, L65, L70, L80, L90, L97, L100, L110, L120, L122, L128, L150, L200, L208, L216, L224, L232, L240, L248, L255, L256, L264, L272, L280, L288, L296, L297, L300, L336, L337, L500, L680, L700, L998, L999, L1000, L1024, L1999, L6403, L9999, L10000, L12345, L99999, L1000000, L214424576, L412560384, L509804544, L639025541, L642945024, L658545824, L1103515245, L2147483647, nn_lt, okZ_1, bd1_e]
  rw [if_neg (by omega), if_neg (by omega)]
theorem isFar_0 {m : Mm} {a : Int32} (h : a < nI 0 ∨ nI 300 < a) : fX8_isFar SX8 m a = some (nI 0) := by
  unfold fX8_isFar jX8_isFar_15 jX8_isFar_16
  simp only [L0, L1, L2, L3, L4, L5, L6, L7, L8, L9, L10, L11, L12, L13, L14, L15, L16, L17, L18, L19, L20, L21, L22, L23, L24, L25, L26, L27, L28, L29, L30, L31, L32, L33, L34, L35, L36, L37, L38, L39, L40, L41, L42, L43, L44, L45, L46, L47, L48, L50, L57, L59, L60, L63, L64, L65, L70, L80, L90, L97, L100, L110, L120, L122, L128, L150, L200, L208, L216, L224, L232, L240, L248, L255, L256, L264, L272, L280, L288, L296, L297, L300, L336, L337, L500, L680, L700, L998, L999, L1000, L1024, L1999, L6403, L9999, L10000, L12345, L99999, L1000000, L214424576, L412560384, L509804544, L639025541, L642945024, L658545824, L1103515245, L2147483647, okZ_0, okZ_1, bd1_e]
  by_cases c : a < nI 0
  · rw [if_pos c]
  · rw [if_neg c, if_pos (by rcases h with h | h; exact absurd h c; exact h)]
/-- how far: a number of ticks, or none such -/
theorem far_cases (a : Int32) : (∃ n, n ≤ 300 ∧ a = nI n) ∨ (a < nI 0 ∨ nI 300 < a) := by
  rcases i32_cases a 301 (by omega) with ⟨k, hk, rfl⟩ | h | ⟨_, h⟩
  · exact Or.inl ⟨k, by omega, rfl⟩
  · exact Or.inr (Or.inl h)
  · right; right
    have c2 := Int32.le_iff_toInt_le.mp h
    refine Int32.lt_iff_toInt_lt.mpr ?_
    have z1 : (nI 300).toInt = 300 := rfl
    have z2 : (nI 301).toInt = 301 := rfl
    omega
theorem two_cases (a : Int32) : (∃ n, n ≤ 2 ∧ a = nI n) ∨ a < nI 0 ∨ (¬ a < nI 0 ∧ ¬ a ≤ nI 2) := by
  rcases i32_cases a 3 (by omega) with ⟨k, hk, rfl⟩ | h | ⟨h1, h⟩
  · exact Or.inl ⟨k, by omega, rfl⟩
  · exact Or.inr (Or.inl h)
  · right; right
    refine ⟨h1, fun c => ?_⟩
    have c1 := Int32.le_iff_toInt_le.mp c
    have c2 := Int32.le_iff_toInt_le.mp h
    have z1 : (nI 2).toInt = 2 := rfl
    have z2 : (nI 3).toInt = 3 := rfl
    omega
noncomputable def gtN (π : Pl) (X : Nat → Nat) (l : Nat) : Nat → Nat
  | 0 => X (30 + l)
  | k + 1 => max (gtN π X l k) (stN π X (k + 1) (30 + l))
theorem gtN_s (π : Pl) (X : Nat → Nat) (l k : Nat) : gtN π X l (k + 1) = max (gtN π X l k) (stN π X (k + 1) (30 + l)) := rfl
theorem gtN_b {π : Pl} (O : π.ok) {X : Nat → Nat} (h : K2 π X) {l : Nat} (hl : l < 10) (k : Nat) : gtN π X l k ≤ 1999 := by
  induction k with
  | zero => exact h.1.1.fill l hl
  | succ k ih => rw [gtN_s]; have := (h.N O (k + 1)).1.1.1.fill l hl; omega
theorem sim_ahead {mF mM : Mm} (S : Sim mF mM) (a b c : Int32) : SimC (fX7_ahead SX7 mF 0 a b c) (fX8_ahead SX8 mM 0 a b c) := by
  obtain ⟨π, X, U, I, p, top, tl, B, fc, fp, hF, hM0, hK⟩ := S
  have hM := hM0.thr (v := nI 0)
  have hp := hF.hp
  have ht := hK.t
  have hnl := hK.O.nl
  have O := hK.O
  have S' : Sim mF (u1 mM 0 0 (nI 0)) := ⟨π, X, U, I, p, top, tl, B, fc, fp, hF, hM, hK⟩
  unfold SimC fX7_ahead jX7_ahead_28 jX7_ahead_134 fX8_ahead jX8_ahead_29 jX8_ahead_141
  simp only [L0, L1, L2, L3, L4, L5, L6, L7, L8, L9, L10, L11, L12, L13, L14, L15, L16, L17, L18, L19, L20, L21, L22, L23, L24, L25, L26, L27, L28, L29, L30, L31, L32, L33, L34, L35, L36, L37, L38, L39, L40, L41, L42, L43, L44, L45, L46, L47, L48, L50, L57, L59, L60, L63, L64, L65, L70, L80, L90, L97, L100, L110, L120, L122, L128, L150, L200, L208, L216, L224, L232, L240, L248, L255, L256, L264, L272, L280, L288, L296, L297, L300, L336, L337, L500, L680, L700, L998, L999, L1000, L1024, L1999, L6403, L9999, L10000, L12345, L99999, L1000000, L214424576, L412560384, L509804544, L639025541, L642945024, L658545824, L1103515245, L2147483647, g8_0, r8_1, r8_3, r8_4, r8_5, r8_6, r8_7, r8_8, r8_9, r8_10, r8_11, r8_12, r8_13, r8_14, r8_15, r8_26, r8_27, r8_28, r8_29, r8_30, r8_33, r8_34, r8_35, r8_36, r8_37, r8_39, r8_40, r8_41, r8_43, r8_44, r8_45, g7_0, r7_0_7, r7_0_6, bd1_e]
  rcases i32_cases a π.nl (by omega) with ⟨l, hl, rfl⟩ | h
  · have hl10 : l < 10 := by omega
    simp only [(lk_1 hF hM hK.O hl).1, (lk_1 hF hM hK.O hl).2, bd1_e, if_neg n10]
    rcases far_cases b with ⟨n, hn, rfl⟩ | h
    · simp only [isFar_1 hn, bd1_e, if_neg n10]
      simp (disch := omega) only [nn_lt]
      simp only [if_neg (show ¬ n < 0 by omega), if_neg (show ¬ 300 < n by omega)]
      rcases two_cases c with ⟨w, hw, rfl⟩ | h | ⟨h1, h2⟩
      · simp (disch := omega) only [nn_lt, nn_le]
        simp only [if_neg (show ¬ w < 0 by omega), if_pos hw]
        obtain ⟨m1, a1, T1⟩ := e_start hF
        obtain ⟨m2, b1, b2, b3, b4⟩ := e8_aside 16 (Or.inl rfl) hM
        simp (disch := omega) only [a1, b1, bd1_e, nI_add, pk_mul, ldA_n s7_20, T1.C.row, e8_queueOf b2 hK.K.1.1.q hl10, ldA_n s8_15, b2.lost l hl10]
        obtain ⟨y7, c1, c2, c3⟩ := lp_n (b := fun s6 : Int32 × Int32 × Mm => bX7_ahead_48 SX7 0 (nI l) (nI n) (nI w) s6.1 s6.2.1 s6.2.2) (N := fu) (s0 := (nI (X (30 + l)), nI 0, m1))
          (fun k s => s.1 = nI (gtN π X l k) ∧ s.2.1 = nI k ∧ TR mF s.2.2 20 p π (stN π X k))
          (fun y => y.1 = nI (gtN π X l n) ∧ TR mF y.2 20 p π (stN π X n))
          n ⟨rfl, rfl, T1⟩ (by unfold fu; omega)
          (by
            rintro k ⟨g, i, m3⟩ hk ⟨e1, e2, T⟩
            dsimp only at e1 e2 T ⊢
            subst e1 e2
            have hKk := hK.K.N O k
            obtain ⟨m4, d1, d2⟩ := T.step O (Or.inr rfl) hp hKk.1 (by omega)
            have hg := gtN_b O hK.K hl10 k
            have hf := (hK.K.N O (k + 1)).1.1.1.fill l hl10
            rw [← stN_s] at d2
            refine Or.inl ?_
            unfold bX7_ahead_48
            simp (disch := omega) only [L0, L1, L2, L3, L4, L5, L6, L7, L8, L9, L10, L11, L12, L13, L14, L15, L16, L17, L18, L19, L20, L21, L22, L23, L24, L25, L26, L27, L28, L29, L30, L31, L32, L33, L34, L35, L36, L37, L38, L39, L40, L41, L42, L43, L44, L45, L46, L47, L48, L50, L57, L59, L60, L63, L64, L65, L70, L80, L90, L97, L100, L110, L120, L122, L128, L150, L200, L208, L216, L224, L232, L240, L248, L255, L256, L264, L272, L280, L288, L296, L297, L300, L336, L337, L500, L680, L700, L998, L999, L1000, L1024, L1999, L6403, L9999, L10000, L12345, L99999, L1000000, L214424576, L412560384, L509804544, L639025541, L642945024, L658545824, L1103515245, L2147483647, nn_le, r7_0_2, r7_0_7, rf8 T.pl hp, d1, bd1_e, nI_add, ldA_n s7_20, d2.C.row, maxI]
            rw [if_neg (by omega)]
            exact ⟨_, rfl, by rw [gtN_s], rfl, d2⟩)
          (by
            rintro ⟨g, i, m3⟩ ⟨e1, e2, T⟩
            dsimp only at e1 e2 T ⊢
            subst e1 e2
            unfold bX7_ahead_48
            simp (disch := omega) only [nn_le]
            rw [if_pos (by omega)]
            exact ⟨_, rfl, rfl, T⟩)
        obtain ⟨y8, d1, d2, d3, d4⟩ := lp_n (b := fun s10 : Int32 × Int32 × Mm => bX8_ahead_67 SX8 0 (nI l) (nI n) (nI w) (nI (X (50 + l))) s10.1 s10.2.1 s10.2.2) (N := fu) (s0 := (nI (X (30 + l)), nI 0, m2))
          (fun k s => s.1 = nI (gtN π X l k) ∧ s.2.1 = nI k ∧ RM s.2.2 (stN π X k) ∧ TF m2 s.2.2)
          (fun y => y.1 = nI (gtN π X l n) ∧ RM y.2 (stN π X n) ∧ TF m2 y.2)
          n ⟨rfl, rfl, b2, TF.rfl⟩ (by unfold fu; omega)
          (by
            rintro k ⟨g, i, m3⟩ hk ⟨e1, e2, R, T⟩
            dsimp only at e1 e2 R T ⊢
            subst e1 e2
            have hKk := hK.K.N O k
            have hKs := hK.K.N O (k + 1)
            obtain ⟨m4, q1, q2, _, q4⟩ := e8_tick R (T.P b3) O hKk.1.1 (by omega)
            rw [← stN_s] at q2
            have hg := gtN_b O hK.K hl10 k
            have hf := hKs.1.1.1.fill l hl10
            refine Or.inl ?_
            unfold bX8_ahead_67 jX8_ahead_97
            simp (disch := omega) only [L0, L1, L2, L3, L4, L5, L6, L7, L8, L9, L10, L11, L12, L13, L14, L15, L16, L17, L18, L19, L20, L21, L22, L23, L24, L25, L26, L27, L28, L29, L30, L31, L32, L33, L34, L35, L36, L37, L38, L39, L40, L41, L42, L43, L44, L45, L46, L47, L48, L50, L57, L59, L60, L63, L64, L65, L70, L80, L90, L97, L100, L110, L120, L122, L128, L150, L200, L208, L216, L224, L232, L240, L248, L255, L256, L264, L272, L280, L288, L296, L297, L300, L336, L337, L500, L680, L700, L998, L999, L1000, L1024, L1999, L6403, L9999, L10000, L12345, L99999, L1000000, L214424576, L412560384, L509804544, L639025541, L642945024, L658545824, L1103515245, L2147483647, nn_le, q1, bd1_e, nI_add, e8_queueOf q2 hKs.1.1.1.q hl10]
            rw [if_neg (by omega)]
            by_cases z : stN π X (k + 1) (30 + l) ≤ gtN π X l k
            · rw [if_pos z]
              exact ⟨_, rfl, by rw [gtN_s, Nat.max_eq_left z], rfl, q2, T.trans q4⟩
            · rw [if_neg z]
              exact ⟨_, rfl, by rw [gtN_s, Nat.max_eq_right (by omega)], rfl, q2, T.trans q4⟩)
          (by
            rintro ⟨g, i, m3⟩ ⟨e1, e2, R, T⟩
            dsimp only at e1 e2 R T ⊢
            subst e1 e2
            unfold bX8_ahead_67
            simp (disch := omega) only [nn_le]
            rw [if_pos (by omega)]
            exact ⟨_, rfl, rfl, R, T⟩)
        obtain ⟨m', k1, k2, _⟩ := b4 y8.2 d4.X
        have hKn := hK.K.N O n
        have e19 : ∀ i, i < 297 → y7.2.1 19 i = nI (X i) := fun i hi => by rw [c3.F.2 19 (by unfold PT; omega)]; exact hF.C.row i hi
        have Sf : Sim y7.2 m' := Sim.of hF k2 hK (c3.cor hp) (fun _ _ => rfl) (fun _ _ => rfl)
        simp (disch := omega) only [c1, d1, bd1_e, c2, d2, ldA_n s7_20, c3.C.row, ldA_n s7_19, e19, ldA_n s8_15, d3.lost l hl10, e8_queueOf d3 hKn.1.1.1.q hl10, k1]
        match w, hw with
        | 0, _ => exact ⟨_, _, _, rfl, rfl, Sf⟩
        | 1, _ => exact ⟨_, _, _, rfl, rfl, Sf⟩
        | 2, _ => exact ⟨_, _, _, rfl, rfl, Sf⟩
      · simp only [if_pos h]
        exact ⟨_, _, _, rfl, rfl, S'⟩
      · simp only [if_neg h1, if_neg h2]
        exact ⟨_, _, _, rfl, rfl, S'⟩
    · simp only [isFar_0 h, bd1_e]
      refine ⟨_, _, _, ?_, rfl, S'⟩
      by_cases c1 : b < nI 0
      · rw [if_pos c1]
      · rw [if_neg c1, if_pos (by rcases h with h | h; exact absurd h c1; exact h)]
  · simp only [(lk_0 hF hM hK.O h).1, (lk_0 hF hM hK.O h).2, bd1_e]
    exact ⟨_, _, _, rfl, rfl, S'⟩
theorem sim_flows {mF mM : Mm} (S : Sim mF mM) (a b c : Int32) : SimC (fX7_flows SX7 mF 0 a b c) (fX8_flows_ SX8 mM 0 a b c) := by
  obtain ⟨π, X, U, I, p, top, tl, B, fc, fp, hF, hM0, hK⟩ := S
  have hM := hM0.thr (v := nI 0)
  have hp := hF.hp
  have ht := hK.t
  have hnf := hK.O.nf
  have O := hK.O
  have S' : Sim mF (u1 mM 0 0 (nI 0)) := ⟨π, X, U, I, p, top, tl, B, fc, fp, hF, hM, hK⟩
  unfold SimC fX7_flows jX7_flows_28 jX7_flows_72 fX8_flows_ jX8_flows__29 jX8_flows__53 jX8_flows__71
  simp only [L0, L1, L2, L3, L4, L5, L6, L7, L8, L9, L10, L11, L12, L13, L14, L15, L16, L17, L18, L19, L20, L21, L22, L23, L24, L25, L26, L27, L28, L29, L30, L31, L32, L33, L34, L35, L36, L37, L38, L39, L40, L41, L42, L43, L44, L45, L46, L47, L48, L50, L57, L59, L60, L63, L64, L65, L70, L80, L90, L97, L100, L110, L120, L122, L128, L150, L200, L208, L216, L224, L232, L240, L248, L255, L256, L264, L272, L280, L288, L296, L297, L300, L336, L337, L500, L680, L700, L998, L999, L1000, L1024, L1999, L6403, L9999, L10000, L12345, L99999, L1000000, L214424576, L412560384, L509804544, L639025541, L642945024, L658545824, L1103515245, L2147483647, g8_0, r8_1, r8_3, r8_4, r8_5, r8_6, r8_7, r8_8, r8_9, r8_10, r8_11, r8_12, r8_13, r8_14, r8_15, r8_26, r8_27, r8_28, r8_29, r8_30, r8_33, r8_34, r8_35, r8_36, r8_37, r8_39, r8_40, r8_41, r8_43, r8_44, r8_45, g7_0, r7_0_7, r7_0_6, bd1_e]
  rcases i32_cases a π.nf (by omega) with ⟨f, hf, rfl⟩ | h
  · have hf8 : f < 8 := by omega
    simp only [(fl_1 hF hM hK.O hf).1, (fl_1 hF hM hK.O hf).2, bd1_e, if_neg n10]
    rcases far_cases b with ⟨n, hn, rfl⟩ | h
    · simp only [isFar_1 hn, bd1_e, if_neg n10]
      simp (disch := omega) only [nn_lt]
      simp only [if_neg (show ¬ n < 0 by omega), if_neg (show ¬ 300 < n by omega)]
      rcases two_cases c with ⟨w, hw, rfl⟩ | h | ⟨h1, h2⟩
      · simp (disch := omega) only [nn_lt, nn_le]
        simp only [if_neg (show ¬ w < 0 by omega), if_pos hw]
        obtain ⟨m1, a1, T1⟩ := e_start hF
        obtain ⟨m3, c1, c3⟩ := T1.run (n := n) hK.O (Or.inr rfl) hp hK.K (by omega) (by omega)
        obtain ⟨m2, b1, b2, b3, b4⟩ := e8_aside 16 (Or.inl rfl) hM
        have e19 : ∀ i, i < 297 → m3.1 19 i = nI (X i) := fun i hi => by rw [c3.F.2 19 (by unfold PT; omega)]; exact hF.C.row i hi
        have hloop : ∀ x4 x5, ∃ m4, lp (fun s8 : Int32 × Mm => bX8_flows__89 SX8 0 (nI n) x4 x5 s8.1 s8.2) fu (nI 0, m2) = some m4 ∧ RM m4 (stN π X n) ∧ TF m2 m4 := fun x4 x5 => e8_runs (b := fun s8 : Int32 × Mm => bX8_flows__89 SX8 0 (nI n) x4 x5 s8.1 s8.2) b2 b3 hK.O hK.K (by omega) (show n ≤ 400 by omega) (fun k m1 => by dsimp only; unfold bX8_flows__89; simp only [L0, L1, L2, L3, L4, L5, L6, L7, L8, L9, L10, L11, L12, L13, L14, L15, L16, L17, L18, L19, L20, L21, L22, L23, L24, L25, L26, L27, L28, L29, L30, L31, L32, L33, L34, L35, L36, L37, L38, L39, L40, L41, L42, L43, L44, L45, L46, L47, L48, L50, L57, L59, L60, L63, L64, L65, L70, L80, L90, L97, L100, L110, L120, L122, L128, L150, L200, L208, L216, L224, L232, L240, L248, L255, L256, L264, L272, L280, L288, L296, L297, L300, L336, L337, L500, L680, L700, L998, L999, L1000, L1024, L1999, L6403, L9999, L10000, L12345, L99999, L1000000, L214424576, L412560384, L509804544, L639025541, L642945024, L658545824, L1103515245, L2147483647])
        simp (disch := omega) only [a1, b1, c1, bd1_e, e8_flowAt, nI_add, ldA_n s7_20, c3.C.row, ldA_n s7_19, e19]
        have Sf : ∀ m', SM m' π X U I tl B fc fp → Sim m3 m' := fun m' k2 => Sim.of hF k2 hK (c3.cor hp) (fun _ _ => rfl) (fun _ _ => rfl)
        match w, hw with
        | 0, _ =>
          obtain ⟨m4, d1, d2, d3⟩ := hloop (nI (240 + 12 * f + 0)) (nI 0)
          obtain ⟨m', k1, k2, _⟩ := b4 m4 d3.X
          refine ⟨nI (stN π X n (200 + f)), m3, m', rfl, ?_, Sf m' k2⟩
          show (bd1 (lp (fun s8 : Int32 × Mm => bX8_flows__89 SX8 0 (nI n) (nI (240 + 12 * f + 0)) (nI 0) s8.1 s8.2) fu (nI 0, m2)) fun y9 => bd1 (ldA SX8 0 y9 15 (nI (240 + 12 * f + 0))) fun a10 => bd1 (fX8_copies SX8 y9 16 (nI 0) 15 (nI 0)) fun m11 => some (a10 - nI 0, m11)) = _
          simp (disch := omega) only [d1, bd1_e, ldA_n s8_15, d2.rate f hf8, k1, pk_sub]
          rfl
        | 1, _ =>
          obtain ⟨m4, d1, d2, d3⟩ := hloop (nI (240 + 12 * f + 5)) (nI (X (240 + f)))
          obtain ⟨m', k1, k2, _⟩ := b4 m4 d3.X
          refine ⟨nI (stN π X n (240 + f)) - nI (X (240 + f)), m3, m', rfl, ?_, Sf m' k2⟩
          show (bd1 (ldA SX8 0 (u1 mM 0 0 (nI 0)) 15 (nI (240 + 12 * f + 5))) fun a5 => bd1 (lp (fun s8 : Int32 × Mm => bX8_flows__89 SX8 0 (nI n) (nI (240 + 12 * f + 5)) a5 s8.1 s8.2) fu (nI 0, m2)) fun y9 => bd1 (ldA SX8 0 y9 15 (nI (240 + 12 * f + 5))) fun a10 => bd1 (fX8_copies SX8 y9 16 (nI 0) 15 (nI 0)) fun m11 => some (a10 - a5, m11)) = _
          simp (disch := omega) only [ldA_n s8_15, hM.R.deliv f hf8, d1, bd1_e, d2.deliv f hf8, k1]
        | 2, _ =>
          obtain ⟨m4, d1, d2, d3⟩ := hloop (nI (240 + 12 * f + 4)) (nI (X (232 + f)))
          obtain ⟨m', k1, k2, _⟩ := b4 m4 d3.X
          refine ⟨nI (stN π X n (232 + f)) - nI (X (232 + f)), m3, m', rfl, ?_, Sf m' k2⟩
          show (bd1 (ldA SX8 0 (u1 mM 0 0 (nI 0)) 15 (nI (240 + 12 * f + 4))) fun a5 => bd1 (lp (fun s8 : Int32 × Mm => bX8_flows__89 SX8 0 (nI n) (nI (240 + 12 * f + 4)) a5 s8.1 s8.2) fu (nI 0, m2)) fun y9 => bd1 (ldA SX8 0 y9 15 (nI (240 + 12 * f + 4))) fun a10 => bd1 (fX8_copies SX8 y9 16 (nI 0) 15 (nI 0)) fun m11 => some (a10 - a5, m11)) = _
          simp (disch := omega) only [ldA_n s8_15, hM.R.sent f hf8, d1, bd1_e, d2.sent f hf8, k1]
      · simp only [if_pos h]
        exact ⟨_, _, _, rfl, rfl, S'⟩
      · simp only [if_neg h1, if_neg h2]
        exact ⟨_, _, _, rfl, rfl, S'⟩
    · simp only [isFar_0 h, bd1_e]
      refine ⟨_, _, _, ?_, rfl, S'⟩
      by_cases c1 : b < nI 0
      · rw [if_pos c1]
      · rw [if_neg c1, if_pos (by rcases h with h | h; exact absurd h c1; exact h)]
  · simp only [(fl_0 hF hM hK.O h).1, (fl_0 hF hM hK.O h).2, bd1_e]
    exact ⟨_, _, _, rfl, rfl, S'⟩
