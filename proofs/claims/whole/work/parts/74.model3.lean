/-! ===== the model: round by round ===== -/
theorem nI_dec {a : Nat} (h : 1 ≤ a) : nI a + -nI 1 = nI (a - 1) := by
  rw [← Int32.sub_eq_add_neg, pk_sub h]
theorem dstE_0 (can : Nat → Nat) (R g : Nat) : dstE can R 0 g = min (can g) R := by
  unfold dstE; rw [if_neg (by omega), Nat.add_zero]
theorem dstE_n {can : Nat → Nat} {R n g : Nat} (hg : g < n) : dstE can R n g = dstE can (R + 1) 0 g := by
  rw [dstE_0]
  unfold dstE
  by_cases c : R < can g
  · rw [if_pos ⟨hg, c⟩]; omega
  · rw [if_neg (by omega)]; omega
theorem dstE_k {can : Nat → Nat} {R k : Nat} : dstE can R k k = min (can k) R := by
  unfold dstE; rw [if_neg (by omega), Nat.add_zero]
theorem dstE_s {can : Nat → Nat} {R k g : Nat} : dstE can R (k + 1) g = if g = k ∧ R < can k then min (can k) R + 1 else dstE can R k g := by
  by_cases e : g = k
  · subst e
    by_cases c : R < can g
    · rw [if_pos ⟨rfl, c⟩]; unfold dstE; rw [if_pos ⟨by omega, c⟩]
    · rw [if_neg (by omega)]; unfold dstE; rw [if_neg (by omega), if_neg (by omega)]
  · rw [if_neg (by omega)]
    unfold dstE
    by_cases c : g < k ∧ R < can g
    · rw [if_pos c, if_pos ⟨by omega, c.2⟩]
    · rw [if_neg c, if_neg (by omega)]
theorem dstE_sm {can : Nat → Nat} {R k n : Nat} (hk : k < n) : sm n (dstE can R (k + 1)) = sm n (dstE can R k) + (if R < can k then 1 else 0) := by
  by_cases c : R < can k
  · rw [if_pos c]
    have h := sm_upd (n := n) (f := dstE can R k) (k := k) (v := min (can k) R + 1) hk
    rw [dstE_k] at h
    have e : sm n (dstE can R (k + 1)) = sm n (fun j => if j = k then min (can k) R + 1 else dstE can R k j) := by
      apply sm_congr
      intro g hg
      rw [dstE_s]
      by_cases e : g = k
      · rw [if_pos ⟨e, c⟩, if_pos e]
      · rw [if_neg (by omega), if_neg e]
    omega
  · rw [if_neg c, Nat.add_zero]
    apply sm_congr
    intro g hg
    rw [dstE_s, if_neg (by omega)]
def CT (m0 m : Mm) (l n : Nat) (mv : Nat → Nat) : Prop := (m.2 = m0.2) ∧ (∀ o, o ≠ 21 → m.1 o = m0.1 o) ∧ (∀ j, j < 8 * l ∨ 8 * l + n ≤ j → m.1 21 j = m0.1 21 j) ∧ (∀ g, g < n → m.1 21 (8 * l + g) = nI (mv g))
theorem CT.mk {m0 m : Mm} {l n : Nat} {mv : Nat → Nat} (h_l : m.2 = m0.2) (h_o : ∀ o, o ≠ 21 → m.1 o = m0.1 o) (h_out : ∀ j, j < 8 * l ∨ 8 * l + n ≤ j → m.1 21 j = m0.1 21 j) (h_mv : ∀ g, g < n → m.1 21 (8 * l + g) = nI (mv g)) : CT m0 m l n mv := ⟨h_l, h_o, h_out, h_mv⟩
theorem CT.l {m0 m : Mm} {l n : Nat} {mv : Nat → Nat} (h : CT m0 m l n mv) : m.2 = m0.2 := h.1
theorem CT.o {m0 m : Mm} {l n : Nat} {mv : Nat → Nat} (h : CT m0 m l n mv) : ∀ o, o ≠ 21 → m.1 o = m0.1 o := h.2.1
theorem CT.out {m0 m : Mm} {l n : Nat} {mv : Nat → Nat} (h : CT m0 m l n mv) : ∀ j, j < 8 * l ∨ 8 * l + n ≤ j → m.1 21 j = m0.1 21 j := h.2.2.1
theorem CT.mv {m0 m : Mm} {l n : Nat} {mv : Nat → Nat} (h : CT m0 m l n mv) : ∀ g, g < n → m.1 21 (8 * l + g) = nI (mv g) := h.2.2.2
theorem CT.st {m0 m : Mm} {l n : Nat} {mv : Nat → Nat} (h : CT m0 m l n mv) {g v : Nat} (hg : g < n) : CT m0 (u1 m 21 (8 * l + g) (nI v)) l n (upN mv g v) := by
  refine CT.mk h.l ?_ ?_ ?_
  · intro o ho; rw [u1_other ho, h.o o ho]
  · intro j hj; rw [u1_rn (Or.inl (by omega)), h.out j hj]
  · intro k hk
    by_cases e : k = g
    · subst e; rw [u1_rs, upN_s]
    · rw [u1_rn (Or.inl (by omega)), upN_n e, h.mv k hk]
theorem CT.congr {m0 m : Mm} {l n : Nat} {mv mv' : Nat → Nat} (h : CT m0 m l n mv) (e : ∀ g, g < n → mv g = mv' g) : CT m0 m l n mv' := CT.mk h.l h.o h.out (fun g hg => by rw [h.mv g hg, e g hg])
theorem CT.F {m0 m : Mm} {l n : Nat} {mv : Nat → Nat} (h : CT m0 m l n mv) : Fr (fun o => o = 21) m0 m := ⟨h.l, fun o ho => h.o o ho⟩
theorem e8_pass {m0 m : Mm} {π : Pl} {l c R : Nat} {can : Nat → Nat} (P : PM m0 π) (O : π.ok) (hl : l < 10) (hT : ∀ f, f < π.nf → m0.1 20 (8 * l + f) = nI (can f)) (hb : ∀ f, f < π.nf → can f < 2147483648) (hC : CT m0 m l π.nf (dstE can R 0)) (hs : sm π.nf (dstE can R 0) ≤ c) (hc : c ≤ 64) : ∃ p b m', p ≤ π.nf ∧ lp (fun s9 : Int32 × Int32 × Int32 × Mm => bX8_carriesOf_48 SX8 0 (nI l) s9.1 s9.2.1 s9.2.2.1 s9.2.2.2) fu (nI (c - sm π.nf (dstE can R 0)), nI 0, nI 0, m) = some (nI (c - sm π.nf (dstE can R p)), nI b, m') ∧ CT m0 m' l π.nf (dstE can R p) ∧ sm π.nf (dstE can R p) ≤ c ∧ (p = π.nf ∨ sm π.nf (dstE can R p) = c) ∧ b ≤ 1 ∧ (b = 0 → ∀ g, g < p → can g ≤ R) ∧ (b = 1 → ∃ g, g < p ∧ R < can g) := by
  have hnf := O.nf
  obtain ⟨r, h1, p, b, m', h2, h3, h4, h5, h6, h7, h8, h9⟩ := lp_n (b := fun s9 : Int32 × Int32 × Int32 × Mm => bX8_carriesOf_48 SX8 0 (nI l) s9.1 s9.2.1 s9.2.2.1 s9.2.2.2) (N := fu) (s0 := (nI (c - sm π.nf (dstE can R 0)), nI 0, nI 0, m))
    (fun k s => s.1 = nI (c - sm π.nf (dstE can R k)) ∧ s.2.2.1 = nI k ∧ CT m0 s.2.2.2 l π.nf (dstE can R k) ∧ sm π.nf (dstE can R k) ≤ c ∧ ∃ b, s.2.1 = nI b ∧ b ≤ 1 ∧ (b = 0 → ∀ g, g < k → can g ≤ R) ∧ (b = 1 → ∃ g, g < k ∧ R < can g))
    (fun r => ∃ p b m', r = (nI (c - sm π.nf (dstE can R p)), nI b, m') ∧ p ≤ π.nf ∧ CT m0 m' l π.nf (dstE can R p) ∧ sm π.nf (dstE can R p) ≤ c ∧ (p = π.nf ∨ sm π.nf (dstE can R p) = c) ∧ b ≤ 1 ∧ (b = 0 → ∀ g, g < p → can g ≤ R) ∧ (b = 1 → ∃ g, g < p ∧ R < can g))
    π.nf ⟨rfl, rfl, hC, hs, 0, rfl, by omega, fun _ g hg => by omega, fun h => by omega⟩ (by unfold fu; omega)
    (by
      rintro k ⟨w, i1, i2, m1⟩ hk ⟨e1, e2, C1, s1, b, e3, b1, b2, b3⟩
      dsimp only at e1 e2 C1 e3 ⊢
      subst e1 e2 e3
      have P1 : PM m1 π := P.fr C1.F (fun o ho => by omega)
      have hcm := C1.mv k hk
      rw [dstE_k] at hcm
      have hca : m1.1 20 (8 * l + k) = nI (can k) := by rw [C1.o 20 (by omega)]; exact hT k hk
      have hbk := hb k hk
      unfold bX8_carriesOf_48 jX8_carriesOf_106
      simp (disch := omega) only [L0, L1, L2, L3, L4, L5, L6, L7, L8, L9, L10, L11, L12, L13, L14, L15, L16, L17, L18, L19, L20, L21, L22, L23, L24, L25, L26, L27, L28, L29, L30, L31, L32, L33, L34, L35, L36, L37, L38, L39, L40, L41, L42, L43, L44, L45, L46, L47, L48, L50, L57, L59, L60, L63, L64, L65, L70, L80, L90, L97, L100, L110, L120, L122, L128, L150, L200, L208, L216, L224, L232, L240, L248, L255, L256, L264, L272, L280, L288, L296, L297, L300, L336, L337, L500, L680, L700, L998, L999, L1000, L1024, L1999, L6403, L9999, L10000, L12345, L99999, L1000000, L214424576, L412560384, L509804544, L639025541, L642945024, L658545824, L1103515245, L2147483647, g8_0, r8_1, r8_3, r8_4, r8_5, r8_6, r8_7, r8_8, r8_9, r8_10, r8_11, r8_12, r8_13, r8_14, r8_15, r8_26, r8_27, r8_28, r8_29, r8_30, r8_33, r8_34, r8_35, r8_36, r8_37, r8_39, r8_40, r8_41, r8_43, r8_44, r8_45, nI_add, pk_mul, narA_0, bd1_e, bd2_e, bdR_l, bdR_r, e8_flows P1, nn_le]
      rw [if_neg (by omega)]
      by_cases hw : c - sm π.nf (dstE can R k) ≤ 0
      · rw [if_pos hw]
        exact Or.inr ⟨_, rfl, k, b, m1, rfl, by omega, C1, s1, Or.inr (by omega), b1, b2, b3⟩
      · rw [if_neg hw]
        simp (disch := omega) only [ldA_n s8_21, ldA_n s8_20, hcm, hca, stA_n s8_21, nI_add, pk_mul, narA_0, bd1_e, bd2_e, bdR_l, bdR_r, nn_eq, nI_dec]
        refine Or.inl ?_
        have hsm := dstE_sm (can := can) (R := R) (k := k) (n := π.nf) hk
        by_cases cR : R < can k
        · rw [if_pos cR] at hsm
          rw [if_pos (by omega)]
          refine ⟨_, rfl, ?_, rfl, (C1.st (v := min (can k) R + 1) hk).congr (fun g hg => ?_), by omega, 1, rfl, by omega, fun h => by omega, fun _ => ⟨k, by omega, cR⟩⟩
          · dsimp only; rw [hsm]; congr 1
          · rw [dstE_s]
            by_cases e : g = k
            · subst e; rw [upN_s, if_pos ⟨rfl, cR⟩]
            · rw [upN_n e, if_neg (by omega)]
        · rw [if_neg cR, Nat.add_zero] at hsm
          rw [if_neg (by omega)]
          refine ⟨_, rfl, by dsimp only; rw [hsm]; rfl, rfl, C1.congr (fun g hg => ?_), by omega, b, rfl, b1, fun h g hg => ?_, fun h => ?_⟩
          · rw [dstE_s, if_neg (by omega)]
          · by_cases e : g = k
            · subst e; omega
            · exact b2 h g (by omega)
          · obtain ⟨g, ga, gb⟩ := b3 h
            exact ⟨g, by omega, gb⟩)
    (by
      rintro ⟨w, i1, i2, m1⟩ ⟨e1, e2, C1, s1, b, e3, b1, b2, b3⟩
      dsimp only at e1 e2 C1 e3 ⊢
      subst e1 e2 e3
      have P1 : PM m1 π := P.fr C1.F (fun o ho => by omega)
      unfold bX8_carriesOf_48
      simp (disch := omega) only [L0, L1, L2, L3, L4, L5, L6, L7, L8, L9, L10, L11, L12, L13, L14, L15, L16, L17, L18, L19, L20, L21, L22, L23, L24, L25, L26, L27, L28, L29, L30, L31, L32, L33, L34, L35, L36, L37, L38, L39, L40, L41, L42, L43, L44, L45, L46, L47, L48, L50, L57, L59, L60, L63, L64, L65, L70, L80, L90, L97, L100, L110, L120, L122, L128, L150, L200, L208, L216, L224, L232, L240, L248, L255, L256, L264, L272, L280, L288, L296, L297, L300, L336, L337, L500, L680, L700, L998, L999, L1000, L1024, L1999, L6403, L9999, L10000, L12345, L99999, L1000000, L214424576, L412560384, L509804544, L639025541, L642945024, L658545824, L1103515245, L2147483647, nI_add, pk_mul, narA_0, bd1_e, bd2_e, bdR_l, bdR_r, e8_flows P1, nn_le]
      rw [if_pos (by omega)]
      exact ⟨_, rfl, π.nf, b, m1, rfl, by omega, C1, s1, Or.inl rfl, b1, b2, b3⟩)
  subst h2
  exact ⟨p, b, m', h3, h1, h4, h5, h6, h7, h8, h9⟩
/-- the rounds of a link that is not paused -/
theorem e8_rounds {m : Mm} {π : Pl} {l : Nat} {can : Nat → Nat} (P : PM m π) (O : π.ok) (hl : l < π.nl) (hT : ∀ f, f < π.nf → m.1 20 (8 * l + f) = nI (can f)) (hb : ∀ f, f < π.nf → can f < 2147483648) (h0 : ∀ f, f < π.nf → m.1 21 (8 * l + f) = nI 0) : ∃ m' mv, lp (fun s11 : Int32 × Int32 × Mm => bX8_carriesOf_35 SX8 0 (nI l) s11.1 s11.2.1 s11.2.2) fu (nI (π.cap l), nI 1, m) = some (nI (π.cap l - min (sm π.nf can) (π.cap l)), m') ∧ CT m m' l π.nf mv ∧ Rr π.nf can (min (sm π.nf can) (π.cap l)) mv := by
  have hnf := O.nf
  have hnl := O.nl
  have hcap := O.cap l hl
  have hle : ∀ R p, sm π.nf (dstE can R p) ≤ sm π.nf can := fun R p => sm_mono (fun g hg => by unfold dstE; split <;> omega)
  obtain ⟨r, h1, m', mv, h2, h3, h4⟩ := lp_n (b := fun s11 : Int32 × Int32 × Mm => bX8_carriesOf_35 SX8 0 (nI l) s11.1 s11.2.1 s11.2.2) (N := fu) (s0 := (nI (π.cap l), nI 1, m))
    (fun k s => (s.2.1 = nI 1 ∧ s.1 = nI (π.cap l - sm π.nf (dstE can k 0)) ∧ sm π.nf (dstE can k 0) ≤ π.cap l ∧ k ≤ sm π.nf (dstE can k 0) ∧ CT m s.2.2 l π.nf (dstE can k 0)) ∨ ((s.2.1 = nI 0 ∨ π.cap l ≤ sm π.nf can) ∧ s.1 = nI (π.cap l - min (sm π.nf can) (π.cap l)) ∧ ∃ b, s.2.1 = nI b ∧ b ≤ 1 ∧ ∃ mv, CT m s.2.2 l π.nf mv ∧ Rr π.nf can (min (sm π.nf can) (π.cap l)) mv))
    (fun r => ∃ m' mv, r = (nI (π.cap l - min (sm π.nf can) (π.cap l)), m') ∧ CT m m' l π.nf mv ∧ Rr π.nf can (min (sm π.nf can) (π.cap l)) mv)
    65 (by
      have e0 : sm π.nf (dstE can 0 0) = 0 := (sm_congr (fun g hg => by rw [dstE_0, Nat.min_zero])).trans sm_zero
      refine Or.inl ⟨rfl, by rw [e0]; rfl, by omega, by omega, CT.mk rfl (fun _ _ => rfl) (fun _ _ => rfl) (fun g hg => by rw [h0 g hg, dstE_0, Nat.min_zero])⟩) (by unfold fu; omega)
    (by
      rintro k ⟨w, i1, m1⟩ hk hI
      dsimp only at hI ⊢
      unfold bX8_carriesOf_35 jX8_carriesOf_112
      simp only [L0, L1, L2, L3, L4, L5, L6, L7, L8, L9, L10, L11, L12, L13, L14, L15, L16, L17, L18, L19, L20, L21, L22, L23, L24, L25, L26, L27, L28, L29, L30, L31, L32, L33, L34, L35, L36, L37, L38, L39, L40, L41, L42, L43, L44, L45, L46, L47, L48, L50, L57, L59, L60, L63, L64, L65, L70, L80, L90, L97, L100, L110, L120, L122, L128, L150, L200, L208, L216, L224, L232, L240, L248, L255, L256, L264, L272, L280, L288, L296, L297, L300, L336, L337, L500, L680, L700, L998, L999, L1000, L1024, L1999, L6403, L9999, L10000, L12345, L99999, L1000000, L214424576, L412560384, L509804544, L639025541, L642945024, L658545824, L1103515245, L2147483647]
      rcases hI with ⟨e1, e2, s1, s2, C1⟩ | ⟨e0, e2, b, e1, b1, mv, C1, hR⟩
      · subst e1 e2
        rw [if_neg (by rw [nn_eq (by omega) (by omega)]; omega)]
        by_cases hw : π.cap l - sm π.nf (dstE can k 0) = 0
        · rw [if_pos (by rw [nn_le (by omega) (by omega)]; omega)]
          have := hle k 0
          have eT : min (sm π.nf can) (π.cap l) = sm π.nf (dstE can k 0) := by omega
          refine Or.inr ⟨_, rfl, m1, dstE can k 0, by rw [eT], C1, ⟨k, 0, fun _ _ => rfl⟩, by rw [eT]⟩
        · rw [if_neg (by rw [nn_le (by omega) (by omega)]; omega)]
          obtain ⟨p, b, m2, p1, p2, p3, p4, p5, p6, p7, p8⟩ := e8_pass P O (by omega) hT hb C1 s1 hcap.2
          rw [p2, bd1_e]
          refine Or.inl ⟨_, rfl, ?_⟩
          dsimp only
          have hl1 := hle k p
          rcases p5 with e | e
          · subst e
            have e3 : sm π.nf (dstE can k π.nf) = sm π.nf (dstE can (k + 1) 0) := sm_congr (fun g hg => dstE_n hg)
            by_cases hb0 : b = 0
            · right
              have eall : sm π.nf (dstE can k π.nf) = sm π.nf can := sm_congr (fun g hg => by
                have := p7 hb0 g hg
                unfold dstE
                rw [if_neg (by omega)]; omega)
              have eT : min (sm π.nf can) (π.cap l) = sm π.nf (dstE can k π.nf) := by omega
              refine ⟨Or.inl (by rw [hb0]), by rw [eT], b, rfl, p6, _, p3, ⟨k, π.nf, fun _ _ => rfl⟩, by rw [eT]⟩
            · left
              have hb1 : b = 1 := by omega
              obtain ⟨g, ga, gb⟩ := p8 hb1
              have hlt : sm π.nf (dstE can k 0) < sm π.nf (dstE can (k + 1) 0) := by
                have hm := sm_mono (n := π.nf) (f := dstE can k 0) (g := dstE can (k + 1) 0) (fun g _ => dstE_mono (Or.inl (by omega)) g)
                apply Nat.lt_of_le_of_ne hm
                intro c
                have := sm_eq (n := π.nf) (f := dstE can k 0) (g := dstE can (k + 1) 0) (fun g _ => dstE_mono (Or.inl (by omega)) g) c g ga
                rw [dstE_0, dstE_0] at this
                omega
              exact ⟨by rw [hb1], by rw [e3], by omega, by omega, p3.congr (fun g hg => dstE_n hg)⟩
          · right
            have eT : min (sm π.nf can) (π.cap l) = sm π.nf (dstE can k p) := by omega
            exact ⟨Or.inr (by omega), by rw [eT], b, rfl, p6, _, p3, ⟨k, p, fun _ _ => rfl⟩, by rw [eT]⟩
      · subst e1
        refine Or.inr ?_
        by_cases hb0 : b = 0
        · rw [if_pos (by rw [hb0])]
          exact ⟨_, rfl, m1, mv, by rw [e2], C1, hR⟩
        · have hc : π.cap l ≤ sm π.nf can := by
            rcases e0 with e | e
            · exact absurd ((nn_eq (by omega) (by omega)).mp e) hb0
            · exact e
          rw [if_neg (by rw [nn_eq (by omega) (by omega)]; exact hb0), e2, if_pos (by rw [nn_le (by omega) (by omega)]; omega)]
          exact ⟨_, rfl, m1, mv, rfl, C1, hR⟩)
    (by
      rintro ⟨w, i1, m1⟩ hI
      dsimp only at hI ⊢
      unfold bX8_carriesOf_35
      simp only [L0, L1, L2, L3, L4, L5, L6, L7, L8, L9, L10, L11, L12, L13, L14, L15, L16, L17, L18, L19, L20, L21, L22, L23, L24, L25, L26, L27, L28, L29, L30, L31, L32, L33, L34, L35, L36, L37, L38, L39, L40, L41, L42, L43, L44, L45, L46, L47, L48, L50, L57, L59, L60, L63, L64, L65, L70, L80, L90, L97, L100, L110, L120, L122, L128, L150, L200, L208, L216, L224, L232, L240, L248, L255, L256, L264, L272, L280, L288, L296, L297, L300, L336, L337, L500, L680, L700, L998, L999, L1000, L1024, L1999, L6403, L9999, L10000, L12345, L99999, L1000000, L214424576, L412560384, L509804544, L639025541, L642945024, L658545824, L1103515245, L2147483647]
      rcases hI with ⟨e1, e2, s1, s2, C1⟩ | ⟨e0, e2, b, e1, b1, mv, C1, hR⟩
      · omega
      · subst e1
        by_cases hb0 : b = 0
        · rw [if_pos (by rw [hb0])]
          exact ⟨_, rfl, m1, mv, by rw [e2], C1, hR⟩
        · have hc : π.cap l ≤ sm π.nf can := by
            rcases e0 with e | e
            · exact absurd ((nn_eq (by omega) (by omega)).mp e) hb0
            · exact e
          rw [if_neg (by rw [nn_eq (by omega) (by omega)]; exact hb0), e2, if_pos (by rw [nn_le (by omega) (by omega)]; omega)]
          exact ⟨_, rfl, m1, mv, rfl, C1, hR⟩)
  subst h2
  exact ⟨m', mv, h1, h3, h4⟩
theorem e8_carriesOf {m : Mm} {π : Pl} {X Y : Nat → Nat} {l : Nat} (R : RM m Y) (P : PM m π) (O : π.ok) (hl : l < π.nl) (h40 : Y (40 + l) = X (40 + l)) (hb : X (40 + l) < 32) (hT : ∀ f, f < π.nf → m.1 20 (8 * l + f) = nI (rdyV (π.pv l f) f X)) (hr : ∀ f, f < π.nf → rdyV (π.pv l f) f X < 2147483648) (h0 : ∀ f, f < π.nf → m.1 21 (8 * l + f) = nI 0) : ∃ m', fX8_carriesOf SX8 m 0 (nI l) = some m' ∧ RM m' (upN Y (90 + l) (capT π l X)) ∧ (∀ f, f < π.nf → m'.1 21 (8 * l + f) = nI (mvB π l X f)) ∧ (∀ j, j < 8 * l ∨ 8 * l + π.nf ≤ j → m'.1 21 j = m.1 21 j) ∧ Fr (fun o => o = 15 ∨ o = 21) m m' := by
  have hnf := O.nf
  have hnl := O.nl
  have hcap := O.cap l hl
  have hd := O.delay l hl
  have hbit := R.bits l (π.delay l) (by omega) (by omega)
  rw [h40] at hbit
  have h2 : X (40 + l) / 2 ^ π.delay l % 2 < 2 := Nat.mod_lt _ (by decide)
  unfold fX8_carriesOf jX8_carriesOf_34 jX8_carriesOf_115
  simp (disch := omega) only [L0, L1, L2, L3, L4, L5, L6, L7, L8, L9, L10, L11, L12, L13, L14, L15, L16, L17, L18, L19, L20, L21, L22, L23, L24, L25, L26, L27, L28, L29, L30, L31, L32, L33, L34, L35, L36, L37, L38, L39, L40, L41, L42, L43, L44, L45, L46, L47, L48, L50, L57, L59, L60, L63, L64, L65, L70, L80, L90, L97, L100, L110, L120, L122, L128, L150, L200, L208, L216, L224, L232, L240, L248, L255, L256, L264, L272, L280, L288, L296, L297, L300, L336, L337, L500, L680, L700, L998, L999, L1000, L1024, L1999, L6403, L9999, L10000, L12345, L99999, L1000000, L214424576, L412560384, L509804544, L639025541, L642945024, L658545824, L1103515245, L2147483647, g8_0, r8_1, r8_3, r8_4, r8_5, r8_6, r8_7, r8_8, r8_9, r8_10, r8_11, r8_12, r8_13, r8_14, r8_15, r8_26, r8_27, r8_28, r8_29, r8_30, r8_33, r8_34, r8_35, r8_36, r8_37, r8_39, r8_40, r8_41, r8_43, r8_44, r8_45, nI_add, pk_mul, narA_0, bd1_e, bd2_e, bdR_l, bdR_r, ldA_n s8_5, P.cap l hl, ldA_n s8_6, P.delay l hl, ldA_n s8_15, hbit, nn_eq]
  by_cases hp : X (40 + l) / 2 ^ π.delay l % 2 = 0
  · rw [if_neg (fun c => c hp)]
    obtain ⟨m', mv, g1, g2, g3⟩ := e8_rounds P O hl hT hr h0
    have ec : ∀ f, canA π X l f = rdyV (π.pv l f) f X := fun f => by unfold canA; rw [if_pos hp]
    have ecf : canA π X l = fun f => rdyV (π.pv l f) f X := funext ec
    rw [g1, bd1_e]
    have eT : min (sm π.nf fun f => rdyV (π.pv l f) f X) (π.cap l) = capT π l X := by unfold capT; rw [ecf]
    have hTc : capT π l X ≤ π.cap l := Nat.min_le_right _ _
    rw [eT] at g3 ⊢
    have hcp : m'.1 5 l = nI (π.cap l) := by rw [g2.o 5 (by omega)]; exact P.cap l hl
    have e9 : π.cap l - (π.cap l - capT π l X) = capT π l X := by omega
    simp (disch := omega) only [ldA_n s8_5, hcp, stA_n s8_15, pk_sub, nI_add, pk_mul, narA_0, bd1_e, bd2_e, bdR_l, bdR_r, e9]
    refine ⟨_, rfl, (R.fr g2.F (by omega)).st_carried _ (by omega), ?_, ?_, (g2.F.mono (fun o ho => Or.inr ho)).st (Or.inl rfl)⟩
    · intro f hf
      rw [u1_rn (Or.inr (by omega)), g2.mv f hf]
      unfold mvB
      rw [ecf, mvF_eq g3 hf]
    · intro j hj
      rw [u1_rn (Or.inr (by omega)), g2.out j hj]
  · rw [if_pos hp]
    have ec : ∀ f, canA π X l f = 0 := fun f => by unfold canA; rw [if_neg hp]
    have ecf : canA π X l = fun _ => 0 := funext ec
    have eT : capT π l X = 0 := by unfold capT; rw [ecf, sm_zero]; omega
    have hl1 : lp (fun s11 : Int32 × Int32 × Mm => bX8_carriesOf_35 SX8 0 (nI l) s11.1 s11.2.1 s11.2.2) fu (nI (π.cap l), nI 0, m) = some (nI (π.cap l), m) := by
      unfold fu lp
      rfl
    rw [hl1, bd1_e]
    simp (disch := omega) only [ldA_n s8_5, P.cap l hl, stA_n s8_15, pk_sub, nI_add, pk_mul, narA_0, bd1_e, bd2_e, bdR_l, bdR_r, Nat.sub_self]
    rw [eT]
    refine ⟨_, rfl, R.st_carried _ (by omega), ?_, ?_, Fr.u1 (Or.inl rfl)⟩
    · intro f hf
      rw [u1_rn (Or.inr (by omega)), h0 f hf]
      have := mvB_le (π := π) (l := l) (X := X) hf
      rw [ec] at this
      rw [show mvB π l X f = 0 by omega]
    · intro j hj
      rw [u1_rn (Or.inr (by omega))]
