/-! ===== the least size ===== -/
theorem stepA_mv {π : Pl} (O : π.ok) {X : Nat → Nat} (h : J π X) {l f : Nat} (hl : l < π.nl) (hf : f < π.nf) : stepA π X (300 + (l * 8 + f)) ≤ 64 := by
  have hnl := O.nl
  have hnf := O.nf
  have h1 := st1_J O h
  have h2 := st2_W O h1.1 h1.2
  have h3 := (st3_W O h2).1.2.1 l f hl hf
  unfold stepA
  rw [up1_o (by omega), st5_o O (by omega), st4_o O (by omega)]
  exact h3.1
noncomputable def cmN (π : Pl) (X : Nat → Nat) (l k : Nat) : Nat := sm π.nf (fun f => stN π X (k + 1) (300 + (l * 8 + f)))
theorem cmN_b {π : Pl} (O : π.ok) {X : Nat → Nat} (h : K2 π X) {l : Nat} (hl : l < π.nl) (k : Nat) : cmN π X l k ≤ 512 := by
  have hnf := O.nf
  have := sm_b (n := π.nf) (b := 64) (X := fun f => stN π X (k + 1) (300 + (l * 8 + f))) (fun f hf => by rw [stN_s]; exact stepA_mv O (h.N O k).1.1.1 hl hf)
  have h9 : π.nf * 64 ≤ 8 * 64 := Nat.mul_le_mul_right _ hnf
  unfold cmN
  omega
noncomputable def ndN (π : Pl) (X : Nat → Nat) (l : Nat) : Nat → Nat
  | 0 => 1
  | k + 1 => if cmN π X l k = 0 then ndN π X l k else max (ndN π X l k) (stN π X (k + 1) (30 + l))
theorem ndN_s (π : Pl) (X : Nat → Nat) (l k : Nat) : ndN π X l (k + 1) = if cmN π X l k = 0 then ndN π X l k else max (ndN π X l k) (stN π X (k + 1) (30 + l)) := rfl
theorem ndN_b {π : Pl} (O : π.ok) {X : Nat → Nat} (h : K2 π X) {l : Nat} (hl : l < 10) (k : Nat) : ndN π X l k ≤ 1999 := by
  induction k with
  | zero => show 1 ≤ 1999; omega
  | succ k ih => rw [ndN_s]; have := (h.N O (k + 1)).1.1.1.fill l hl; split <;> omega
theorem sim_leastSize {mF mM : Mm} (S : Sim mF mM) (a b : Int32) : SimC (fX7_leastSize SX7 mF 0 a b) (fX8_leastSize SX8 mM 0 a b) := by
  obtain ⟨π, X, U, I, p, top, tl, B, fc, fp, hF, hM0, hK⟩ := S
  have hM := hM0.thr (v := nI 0)
  have hp := hF.hp
  have ht := hK.t
  have hnl := hK.O.nl
  have hnf := hK.O.nf
  have O := hK.O
  have S' : Sim mF (u1 mM 0 0 (nI 0)) := ⟨π, X, U, I, p, top, tl, B, fc, fp, hF, hM, hK⟩
  unfold SimC fX7_leastSize jX7_leastSize_19 jX7_leastSize_125 fX8_leastSize jX8_leastSize_24 jX8_leastSize_167 jX8_leastSize_194
  simp only [L0, L1, L2, L3, L4, L5, L6, L7, L8, L9, L10, L11, L12, L13, L14, L15, L16, L17, L18, L19, L20, L21, L22, L23, L24, L25, L26, L27, L28, L29, L30, L31, L32, L33, L34, L35, L36, L37, L38, L39, L40, L41, L42, L43, L44, L45, L46, L47, L48, L50, L57, L59, L60, L63, L64, L65, L70, L80, L90, L97, L100, L110, L120, L122, L128, L150, L200, L208, L216, L224, L232, L240, L248, L255, L256, L264, L272, L280, L288, L296, L297, L300, L336, L337, L500, L680, L700, L998, L999, L1000, L1024, L1999, L6403, L9999, L10000, L12345, L99999, L1000000, L214424576, L412560384, L509804544, L639025541, L642945024, L658545824, L1103515245, L2147483647, g8_0, r8_1, r8_3, r8_4, r8_5, r8_6, r8_7, r8_8, r8_9, r8_10, r8_11, r8_12, r8_13, r8_14, r8_15, r8_26, r8_27, r8_28, r8_29, r8_30, r8_33, r8_34, r8_35, r8_36, r8_37, r8_39, r8_40, r8_41, r8_43, r8_44, r8_45, g7_0, r7_0_7, r7_0_6, bd1_e]
  rcases i32_cases a π.nl (by omega) with ⟨l, hl, rfl⟩ | h
  · have hl10 : l < 10 := by omega
    simp only [(lk_1 hF hM hK.O hl).1, (lk_1 hF hM hK.O hl).2, bd1_e, if_neg n10]
    by_cases h1 : b < nI 1
    · simp only [if_pos h1]
      exact ⟨_, _, _, rfl, rfl, S'⟩
    · obtain ⟨n, rfl, hn1, hn2⟩ := ge1 h1
      simp only [if_neg h1]
      by_cases h2 : nI n ≤ nI 100
      · have hn3 := (nn_le hn2 (by omega)).mp h2
        simp only [if_pos h2]
        obtain ⟨m1, a1, T1⟩ := e_start hF
        obtain ⟨m2, b1, b2, b3, b4⟩ := e8_aside 16 (Or.inl rfl) hM
        have hQ : K2 π (upN X (20 + l) 1999) := hK.K.set O (by omega)
        have ht1 : upN X (20 + l) 1999 296 = X 296 := upN_n (by omega)
        have T2 := T1.st (Or.inr rfl) hp (i := 20 + l) (v := 1999) (by omega)
        have R2 := b2.st_size (l := l) 1999 hl10
        have T3 : TX m2 (u1 m2 15 (24 * l + 2) (nI 1999)) := TX.rfl.u15
        have hls := R2.lost l hl10
        rw [upN_n (by omega)] at hls
        simp (disch := omega) only [a1, b1, bd1_e, nI_add, pk_mul, stA_n s7_20, narA_0, stA_n s8_15, ldA_n s8_15, hls]
        generalize hQe : upN X (20 + l) 1999 = Q at *
        obtain ⟨y7, c1, c2, c3⟩ := lp_n (b := fun s7 : Int32 × Int32 × Mm => bX7_leastSize_42 SX7 0 (nI l) (nI n) s7.1 s7.2.1 s7.2.2) (N := fu) (s0 := (nI 1, nI 0, u1 m1 20 (20 + l) (nI 1999)))
          (fun k s => s.1 = nI (ndN π Q l k) ∧ s.2.1 = nI k ∧ TR mF s.2.2 20 p π (stN π Q k))
          (fun y => y.1 = nI (ndN π Q l n) ∧ TR mF y.2 20 p π (stN π Q n))
          n ⟨rfl, rfl, T2⟩ (by unfold fu; omega)
          (by
            rintro k ⟨g, i, m3⟩ hk ⟨e1, e2, T⟩
            dsimp only at e1 e2 T ⊢
            subst e1 e2
            have hKk := hQ.N O k
            obtain ⟨m4, d1, d2⟩ := T.step O (Or.inr rfl) hp hKk.1 (by omega)
            have hg := ndN_b O hQ hl10 k
            have hf := (hQ.N O (k + 1)).1.1.1.fill l hl10
            have hc := cmN_b O hQ hl k
            rw [← stN_s] at d2
            have hsum : fX7_sum SX7 m4 5 (nI (l * 8)) (nI π.nf) = some (nI (cmN π Q l k)) := by
              have := e_sum (X := fun j => stN π Q (k + 1) (300 + j)) (b := l * 8) (n := π.nf) (m := m4) (x := 5) (fun i hi => d2.C.mv _ (by omega)) s7_5 (by omega) (by omega)
              exact this
            refine Or.inl ?_
            unfold bX7_leastSize_42 fX5_cameTo jX7_leastSize_92
            simp (disch := omega) only [L0, L1, L2, L3, L4, L5, L6, L7, L8, L9, L10, L11, L12, L13, L14, L15, L16, L17, L18, L19, L20, L21, L22, L23, L24, L25, L26, L27, L28, L29, L30, L31, L32, L33, L34, L35, L36, L37, L38, L39, L40, L41, L42, L43, L44, L45, L46, L47, L48, L50, L57, L59, L60, L63, L64, L65, L70, L80, L90, L97, L100, L110, L120, L122, L128, L150, L200, L208, L216, L224, L232, L240, L248, L255, L256, L264, L272, L280, L288, L296, L297, L300, L336, L337, L500, L680, L700, L998, L999, L1000, L1024, L1999, L6403, L9999, L10000, L12345, L99999, L1000000, L214424576, L412560384, L509804544, L639025541, L642945024, L658545824, L1103515245, L2147483647, nn_le, r7_0_2, r7_0_7, r7_4_0, g7_4, rf8 T.pl hp, rf8 d2.pl hp, g7_p hp, d2.P.nf, d1, bd1_e, nI_add, pk_mul, hsum, ldA_n s7_20, d2.C.row, maxI]
            rw [if_neg (by omega), ndN_s]
            by_cases z : cmN π Q l k = 0
            · rw [if_pos (by omega), if_pos z]
              exact ⟨_, rfl, rfl, rfl, d2⟩
            · rw [if_neg (by omega), if_neg z]
              exact ⟨_, rfl, rfl, rfl, d2⟩)
          (by
            rintro ⟨g, i, m3⟩ ⟨e1, e2, T⟩
            dsimp only at e1 e2 T ⊢
            subst e1 e2
            unfold bX7_leastSize_42
            simp (disch := omega) only [nn_le]
            rw [if_pos (by omega)]
            exact ⟨_, rfl, rfl, T⟩)
        obtain ⟨y8, d1, d2, d3, d4⟩ := lp_n (b := fun s13 : Int32 × Int32 × Mm => bX8_leastSize_71 SX8 0 (nI l) (nI n) (nI (X (50 + l))) s13.1 s13.2.1 s13.2.2) (N := fu) (s0 := (nI 1, nI 0, u1 m2 15 (24 * l + 2) (nI 1999)))
          (fun k s => s.1 = nI (ndN π Q l k) ∧ s.2.1 = nI k ∧ RM s.2.2 (stN π Q k) ∧ TX m2 s.2.2)
          (fun y => y.1 = nI (ndN π Q l n) ∧ RM y.2 (stN π Q n) ∧ TX m2 y.2)
          n ⟨rfl, rfl, R2, T3⟩ (by unfold fu; omega)
          (by
            rintro k ⟨g, i, m3⟩ hk ⟨e1, e2, R, T⟩
            dsimp only at e1 e2 R T ⊢
            subst e1 e2
            have hKk := hQ.N O k
            have hKs := hQ.N O (k + 1)
            obtain ⟨m4, q1, q2, q3, q4⟩ := e8_tick R (T.P b3) O hKk.1.1 (by omega)
            rw [← stN_s] at q2 q3
            have T4 := T.trans q4.X
            have hg := ndN_b O hQ hl10 k
            have hf := hKs.1.1.1.fill l hl10
            have hc := cmN_b O hQ hl k
            have hlp : lp (fun s9 : Int32 × Int32 => bX8_leastSize_87 SX8 m4 0 (nI l) (nI n) (nI (X (50 + l))) (nI (ndN π Q l k)) (nI k) s9.1 s9.2) fu (nI 0, nI 0) = some (nI (cmN π Q l k)) := by
              have h7 := lp_f (b := fun s9 : Int32 × Int32 => bX8_leastSize_87 SX8 m4 0 (nI l) (nI n) (nI (X (50 + l))) (nI (ndN π Q l k)) (nI k) s9.1 s9.2) (N := fu) (r := nI (cmN π Q l k)) (fun j => (nI (sm j (fun f => stN π Q (k + 1) (300 + (l * 8 + f)))), nI j)) π.nf (by unfold fu; omega)
                (by
                  intro j hj
                  have := q3 l j hj (Or.inl hl)
                  dsimp only at this ⊢
                  unfold bX8_leastSize_87
                  simp (disch := omega) only [L0, L1, L2, L3, L4, L5, L6, L7, L8, L9, L10, L11, L12, L13, L14, L15, L16, L17, L18, L19, L20, L21, L22, L23, L24, L25, L26, L27, L28, L29, L30, L31, L32, L33, L34, L35, L36, L37, L38, L39, L40, L41, L42, L43, L44, L45, L46, L47, L48, L50, L57, L59, L60, L63, L64, L65, L70, L80, L90, L97, L100, L110, L120, L122, L128, L150, L200, L208, L216, L224, L232, L240, L248, L255, L256, L264, L272, L280, L288, L296, L297, L300, L336, L337, L500, L680, L700, L998, L999, L1000, L1024, L1999, L6403, L9999, L10000, L12345, L99999, L1000000, L214424576, L412560384, L509804544, L639025541, L642945024, L658545824, L1103515245, L2147483647, g8_0, r8_1, r8_3, r8_4, r8_5, r8_6, r8_7, r8_8, r8_9, r8_10, r8_11, r8_12, r8_13, r8_14, r8_15, r8_26, r8_27, r8_28, r8_29, r8_30, r8_33, r8_34, r8_35, r8_36, r8_37, r8_39, r8_40, r8_41, r8_43, r8_44, r8_45, e8_flows (T4.P b3), nn_le, nI_add, pk_mul, ldA_n s8_22, this, bd1_e]
                  rw [if_neg (by omega), sm_s])
                (by
                  dsimp only
                  unfold bX8_leastSize_87
                  simp (disch := omega) only [e8_flows (T4.P b3), bd1_e, nn_le]
                  rw [if_pos (by omega)]
                  rfl)
              exact h7
            refine Or.inl ?_
            unfold bX8_leastSize_71 jX8_leastSize_141
            simp (disch := omega) only [L0, L1, L2, L3, L4, L5, L6, L7, L8, L9, L10, L11, L12, L13, L14, L15, L16, L17, L18, L19, L20, L21, L22, L23, L24, L25, L26, L27, L28, L29, L30, L31, L32, L33, L34, L35, L36, L37, L38, L39, L40, L41, L42, L43, L44, L45, L46, L47, L48, L50, L57, L59, L60, L63, L64, L65, L70, L80, L90, L97, L100, L110, L120, L122, L128, L150, L200, L208, L216, L224, L232, L240, L248, L255, L256, L264, L272, L280, L288, L296, L297, L300, L336, L337, L500, L680, L700, L998, L999, L1000, L1024, L1999, L6403, L9999, L10000, L12345, L99999, L1000000, L214424576, L412560384, L509804544, L639025541, L642945024, L658545824, L1103515245, L2147483647, nn_le, q1, bd1_e, nI_add, hlp, e8_queueOf q2 hKs.1.1.1.q hl10]
            rw [if_neg (by omega), ndN_s]
            by_cases z : cmN π Q l k = 0
            · rw [if_pos (by omega), if_pos z]
              exact ⟨_, rfl, rfl, rfl, q2, T4⟩
            · rw [if_neg (by omega), if_neg z]
              by_cases z2 : stN π Q (k + 1) (30 + l) ≤ ndN π Q l k
              · rw [if_pos z2, Nat.max_eq_left z2]
                exact ⟨_, rfl, rfl, rfl, q2, T4⟩
              · rw [if_neg z2, Nat.max_eq_right (by omega)]
                exact ⟨_, rfl, rfl, rfl, q2, T4⟩)
          (by
            rintro ⟨g, i, m3⟩ ⟨e1, e2, R, T⟩
            dsimp only at e1 e2 R T ⊢
            subst e1 e2
            unfold bX8_leastSize_71
            simp (disch := omega) only [nn_le]
            rw [if_pos (by omega)]
            exact ⟨_, rfl, rfl, R, T⟩)
        obtain ⟨m', k1, k2, _⟩ := b4 y8.2 d4
        have e19 : ∀ i, i < 297 → y7.2.1 19 i = nI (X i) := fun i hi => by rw [c3.F.2 19 (by unfold PT; omega)]; exact hF.C.row i hi
        have Sf : Sim y7.2 m' := Sim.of hF k2 hK (c3.cor hp) (fun _ _ => rfl) (fun _ _ => rfl)
        simp (disch := omega) only [c1, d1, bd1_e, c2, d2, ldA_n s7_20, c3.C.row, ldA_n s7_19, e19, ldA_n s8_15, d3.lost l hl10, k1]
        by_cases z : nI (stN π Q n (50 + l)) = nI (X (50 + l))
        · rw [if_neg (fun c => c z), if_neg (fun c => c z)]
          exact ⟨_, _, _, rfl, rfl, Sf⟩
        · rw [if_pos z, if_pos z]
          exact ⟨_, _, _, rfl, rfl, Sf⟩
      · simp only [if_neg h2]
        exact ⟨_, _, _, rfl, rfl, S'⟩
  · simp only [(lk_0 hF hM hK.O h).1, (lk_0 hF hM hK.O h).2, bd1_e]
    exact ⟨_, _, _, rfl, rfl, S'⟩
