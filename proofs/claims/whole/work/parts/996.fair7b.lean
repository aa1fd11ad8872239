/-! ===== fair shares: the class's first link, its hold ===== -/
theorem frac_le {a b c d e f : Nat} (hb : 0 < b) (h1 : a * d ≤ c * b) (h2 : e * b < a * f) : e * d ≤ c * f := by
  have q1 : e * b * d ≤ a * f * d := Nat.mul_le_mul_right d (Nat.le_of_lt h2)
  have q2 : a * d * f ≤ c * b * f := Nat.mul_le_mul_right f h1
  have e1 : a * f * d = a * d * f := Nat.mul_right_comm _ _ _
  have e2 : e * b * d = e * d * b := Nat.mul_right_comm _ _ _
  have e3 : c * b * f = c * f * b := Nat.mul_right_comm _ _ _
  exact Nat.le_of_mul_le_mul_right (by omega : e * d * b ≤ c * f * b) hb
def frL (π : Pl) (D : Nat) (q : Nat → Nat) (H : Nat → Bool) (l : Nat) : Nat := π.cap l * D - hsL π H q l
theorem mul_b {a b A B : Nat} (h1 : a ≤ A) (h2 : b ≤ B) : a * b ≤ A * B := Nat.mul_le_mul h1 h2
theorem e_first {m : Mm} {p : Nat} {π : Pl} {D : Nat} {q : Nat → Nat} {H : Nat → Bool} (hp : p = 21 ∨ p = 31) (P : PF m p π) (O : π.ok) (h : HS m π D q H) (hb : ∀ l, l < π.nl → hsL π H q l ≤ π.cap l * D ∧ π.cap l * D ≤ 16384) : ∃ v m', fX3_firstToFill SX7 m 13 p = some (v, m') ∧ HS m' π D q H ∧ Fr cSh m m' ∧ ((v = -nI 1 ∧ ∀ l, l < π.nl → grL π H l = 0) ∨ ∃ l0, l0 < π.nl ∧ v = nI l0 ∧ 0 < grL π H l0 ∧ ∀ l, l < π.nl → 0 < grL π H l → frL π D q H l0 * grL π H l ≤ frL π D q H l * grL π H l0) := by
  have hnl := O.nl
  have hnf := O.nf
  unfold fX3_firstToFill
  simp only [L0, L1, L2, L3, L4, L5, L6, L7, L8, L9, L10, L11, L12, L13, L14, L15, L16, L17, L18, L19, L20, L21, L22, L23, L24, L25, L26, L27, L28, L29, L30, L31, L32, L33, L34, L35, L36, L37, L38, L39, L40, L41, L42, L43, L44, L45, L46, L47, L48, L50, L57, L59, L60, L63, L64, L65, L70, L80, L90, L97, L100, L110, L120, L122, L128, L150, L200, L208, L216, L224, L232, L240, L248, L255, L256, L264, L272, L280, L288, L296, L297, L300, L336, L337, L500, L680, L700, L998, L999, L1000, L1024, L1999, L6403, L9999, L10000, L12345, L99999, L1000000, L214424576, L412560384, L509804544, L639025541, L642945024, L658545824, L1103515245, L2147483647, g7_0, g7_1, g7_3, g7_4, g7_8, g7_13, g7_16, r7_0_0, r7_0_1, r7_0_2, r7_0_3, r7_0_4, r7_0_5, r7_0_6, r7_0_7, r7_1_0, r7_4_0, r7_4_1, r7_4_2, r7_8_0, r7_8_1, r7_8_2, r7_8_3, r7_13_0, r7_13_1, r7_16_0, r7_16_1, g7_p hp, r7_p_0 hp, r7_p_1 hp, r7_p_2 hp, r7_p_3 hp, r7_p_4 hp, r7_p_5 hp, r7_p_6 hp, r7_p_7 hp, r7_p_8 hp]
  obtain ⟨r, a1, a2, a3, a4⟩ := lp_n (b := fun s2 : Int32 × Int32 × Int32 × Int32 × Mm => bX3_firstToFill_10 SX7 13 p s2.1 s2.2.1 s2.2.2.1 s2.2.2.2.1 s2.2.2.2.2) (N := fu) (s0 := (-nI 1, nI 0, nI 1, nI 0, m))
    (fun k s => s.2.2.2.1 = nI k ∧ HS s.2.2.2.2 π D q H ∧ Fr cSh m s.2.2.2.2 ∧ ((s.1 = -nI 1 ∧ ∀ l, l < k → grL π H l = 0) ∨ ∃ l0, l0 < k ∧ s.1 = nI l0 ∧ s.2.1 = nI (frL π D q H l0) ∧ s.2.2.1 = nI (grL π H l0) ∧ 0 < grL π H l0 ∧ ∀ l, l < k → 0 < grL π H l → frL π D q H l0 * grL π H l ≤ frL π D q H l * grL π H l0))
    (fun r => HS r.2 π D q H ∧ Fr cSh m r.2 ∧ ((r.1 = -nI 1 ∧ ∀ l, l < π.nl → grL π H l = 0) ∨ ∃ l0, l0 < π.nl ∧ r.1 = nI l0 ∧ 0 < grL π H l0 ∧ ∀ l, l < π.nl → 0 < grL π H l → frL π D q H l0 * grL π H l ≤ frL π D q H l * grL π H l0)) π.nl
    ⟨rfl, h, Fr.rfl, Or.inl ⟨rfl, fun l hl => by omega⟩⟩ (by unfold fu; omega)
    (by
      rintro k ⟨x2, x3, x4, x5, m1⟩ hk ⟨e5, h1, F1, hc⟩
      dsimp only at e5 h1 F1 hc ⊢
      subst e5
      have P1 := P.sh hp F1
      obtain ⟨m2, c1, c2, c3, c4, c5⟩ := e_lookAt hp P1 O h1 hk (hb k hk).1
      have hg := grL_le π H k
      have hfk : frL π D q H k ≤ 16384 := by have := hb k hk; unfold frL; omega
      have c3' : m2.1 13 3 = nI (frL π D q H k) := c3
      unfold bX3_firstToFill_10 jX3_firstToFill_54 jX3_firstToFill_68
      simp (disch := omega) only [L0, L1, L2, L3, L4, L5, L6, L7, L8, L9, L10, L11, L12, L13, L14, L15, L16, L17, L18, L19, L20, L21, L22, L23, L24, L25, L26, L27, L28, L29, L30, L31, L32, L33, L34, L35, L36, L37, L38, L39, L40, L41, L42, L43, L44, L45, L46, L47, L48, L50, L57, L59, L60, L63, L64, L65, L70, L80, L90, L97, L100, L110, L120, L122, L128, L150, L200, L208, L216, L224, L232, L240, L248, L255, L256, L264, L272, L280, L288, L296, L297, L300, L336, L337, L500, L680, L700, L998, L999, L1000, L1024, L1999, L6403, L9999, L10000, L12345, L99999, L1000000, L214424576, L412560384, L509804544, L639025541, L642945024, L658545824, L1103515245, L2147483647, P1.nl, nn_le, c1, bd1_e, c4, c3', nI_add]
      rw [if_neg (by omega)]
      refine Or.inl ?_
      by_cases g0 : grL π H k ≤ 0
      · rw [if_pos g0]
        refine ⟨_, rfl, rfl, c2, F1.trans c5, ?_⟩
        dsimp only
        rcases hc with ⟨z1, z2⟩ | ⟨l0, z1, z2, z3, z4, z5, z6⟩
        · refine Or.inl ⟨z1, fun l hl => ?_⟩
          by_cases e : l = k
          · subst e; omega
          · exact z2 l (by omega)
        · refine Or.inr ⟨l0, by omega, z2, z3, z4, z5, fun l hl hgl => ?_⟩
          by_cases e : l = k
          · subst e; omega
          · exact z6 l (by omega) hgl
      · rw [if_neg g0]
        rcases hc with ⟨z1, z2⟩ | ⟨l0, z1, z2, z3, z4, z5, z6⟩
        · rw [if_pos z1]
          refine ⟨_, rfl, rfl, c2, F1.trans c5, Or.inr ⟨k, by omega, rfl, rfl, rfl, by omega, fun l hl hgl => ?_⟩⟩
          by_cases e : l = k
          · subst e; exact Nat.le_refl _
          · have := z2 l (by omega); omega
        · rw [z2, if_neg (by rw [nI_m1 (by omega)]; exact not_false), z3, z4, pk_mul, pk_mul]
          have hg0 := grL_le π H l0
          have hf0 : frL π D q H l0 ≤ 16384 := by have := hb l0 (by omega); unfold frL; omega
          have b1 := mul_b hf0 (show grL π H k ≤ 8 by omega)
          have b2 := mul_b hfk (show grL π H l0 ≤ 8 by omega)
          have hcmp := nn_le (a := frL π D q H l0 * grL π H k) (b := frL π D q H k * grL π H l0) (by omega) (by omega)
          by_cases cc : frL π D q H l0 * grL π H k ≤ frL π D q H k * grL π H l0
          · rw [if_pos (hcmp.mpr cc)]
            refine ⟨_, rfl, rfl, c2, F1.trans c5, Or.inr ⟨l0, by omega, rfl, rfl, rfl, z5, fun l hl hgl => ?_⟩⟩
            by_cases e : l = k
            · subst e; exact cc
            · exact z6 l (by omega) hgl
          · rw [if_neg (fun z => cc (hcmp.mp z))]
            refine ⟨_, rfl, rfl, c2, F1.trans c5, Or.inr ⟨k, by omega, rfl, rfl, rfl, by omega, fun l hl hgl => ?_⟩⟩
            by_cases e : l = k
            · subst e; exact Nat.le_refl _
            · exact frac_le z5 (z6 l (by omega) hgl) (by omega))
    (by
      rintro ⟨x2, x3, x4, x5, m1⟩ ⟨e5, h1, F1, hc⟩
      dsimp only at e5 h1 F1 hc ⊢
      subst e5
      have P1 := P.sh hp F1
      unfold bX3_firstToFill_10
      simp (disch := omega) only [L0, L1, L2, L3, L4, L5, L6, L7, L8, L9, L10, L11, L12, L13, L14, L15, L16, L17, L18, L19, L20, L21, L22, L23, L24, L25, L26, L27, L28, L29, L30, L31, L32, L33, L34, L35, L36, L37, L38, L39, L40, L41, L42, L43, L44, L45, L46, L47, L48, L50, L57, L59, L60, L63, L64, L65, L70, L80, L90, L97, L100, L110, L120, L122, L128, L150, L200, L208, L216, L224, L232, L240, L248, L255, L256, L264, L272, L280, L288, L296, L297, L300, L336, L337, L500, L680, L700, L998, L999, L1000, L1024, L1999, L6403, L9999, L10000, L12345, L99999, L1000000, L214424576, L412560384, L509804544, L639025541, L642945024, L658545824, L1103515245, L2147483647, P1.nl, nn_le]
      rw [if_pos (by omega)]
      refine ⟨_, rfl, h1, F1, ?_⟩
      dsimp only
      rcases hc with z | ⟨l0, z1, z2, z3, z4, z5, z6⟩
      · exact Or.inl z
      · exact Or.inr ⟨l0, z1, z2, z5, z6⟩)
  rw [a1, bd1_e]
  exact ⟨_, _, rfl, a2, a3, a4⟩
/-- the flows of a link held too -/
def hdH (π : Pl) (H : Nat → Bool) (l : Nat) : Nat → Bool := fun f => H f || onL π l f
def hdQ (π : Pl) (D : Nat) (q : Nat → Nat) (H : Nat → Bool) (l : Nat) : Nat → Nat := fun f => if H f = true then q f * grL π H l else if hdH π H l f = true then frL π D q H l else 0
theorem e_hold {m : Mm} {p : Nat} {π : Pl} {D l : Nat} {q : Nat → Nat} {H : Nat → Bool} (hp : p = 21 ∨ p = 31) (P : PF m p π) (O : π.ok) (h : HS m π D q H) (hl : l < π.nl) (hb : hsL π H q l ≤ π.cap l * D) : ∃ m', fX3_hold SX7 m 13 p (nI l) = some m' ∧ HS m' π (D * grL π H l) (hdQ π D q H l) (hdH π H l) ∧ Fr cSh m m' := by
  have hnl := O.nl
  have hnf := O.nf
  obtain ⟨m0, c1, c2, c3, c4, c5⟩ := e_lookAt hp P O h hl hb
  have c3' : m0.1 13 3 = nI (frL π D q H l) := c3
  unfold fX3_hold
  simp only [L0, L1, L2, L3, L4, L5, L6, L7, L8, L9, L10, L11, L12, L13, L14, L15, L16, L17, L18, L19, L20, L21, L22, L23, L24, L25, L26, L27, L28, L29, L30, L31, L32, L33, L34, L35, L36, L37, L38, L39, L40, L41, L42, L43, L44, L45, L46, L47, L48, L50, L57, L59, L60, L63, L64, L65, L70, L80, L90, L97, L100, L110, L120, L122, L128, L150, L200, L208, L216, L224, L232, L240, L248, L255, L256, L264, L272, L280, L288, L296, L297, L300, L336, L337, L500, L680, L700, L998, L999, L1000, L1024, L1999, L6403, L9999, L10000, L12345, L99999, L1000000, L214424576, L412560384, L509804544, L639025541, L642945024, L658545824, L1103515245, L2147483647, g7_0, g7_1, g7_3, g7_4, g7_8, g7_13, g7_16, r7_0_0, r7_0_1, r7_0_2, r7_0_3, r7_0_4, r7_0_5, r7_0_6, r7_0_7, r7_1_0, r7_4_0, r7_4_1, r7_4_2, r7_8_0, r7_8_1, r7_8_2, r7_8_3, r7_13_0, r7_13_1, r7_16_0, r7_16_1, g7_p hp, r7_p_0 hp, r7_p_1 hp, r7_p_2 hp, r7_p_3 hp, r7_p_4 hp, r7_p_5 hp, r7_p_6 hp, r7_p_7 hp, r7_p_8 hp, c1, bd1_e, c2.d, c4, pk_mul]
  obtain ⟨y, a1, a2, a3, a4, a5, a6, a7⟩ := lp_F (b := fun s9 : Int32 × Mm => bX3_hold_21 SX7 13 p (nI l) s9.1 s9.2) (fun k m1 => m1.1 13 2 = nI (D * grL π H l) ∧ m1.1 13 3 = nI (frL π D q H l) ∧ m1.1 13 4 = nI (grL π H l) ∧ (∀ f, f < π.nf → (f < k → hdH π H l f = true → m1.1 14 f = nI (hdQ π D q H l f)) ∧ (k ≤ f → H f = true → m1.1 14 f = nI (q f))) ∧ (∀ f, f < π.nf → m1.1 15 f = nI (bO (if f < k then hdH π H l f else H f))) ∧ Fr cSh m m1) π.nf (m := u1 m0 13 2 (nI (D * grL π H l))) (by omega)
    ⟨u1_rs, by rw [u1_rn (Or.inl (by omega))]; exact c3', by rw [u1_rn (Or.inl (by omega))]; exact c4, fun f hf => ⟨fun z => by omega, fun _ hH => by rw [u1_rn (Or.inr (by omega))]; exact c2.q f hf hH⟩, fun f hf => by rw [u1_rn (Or.inr (by omega)), if_neg (by omega)]; exact c2.h f hf, c5.trans (Fr.u1 (Or.inl rfl))⟩
    (by
      rintro k m1 hk ⟨b1, b2, b3, b4, b5, F1⟩
      have P1 := P.sh hp F1
      have hk15 := b5 k hk
      rw [if_neg (by omega)] at hk15
      dsimp only
      unfold bX3_hold_21 jX3_hold_87
      simp (disch := omega) only [L0, L1, L2, L3, L4, L5, L6, L7, L8, L9, L10, L11, L12, L13, L14, L15, L16, L17, L18, L19, L20, L21, L22, L23, L24, L25, L26, L27, L28, L29, L30, L31, L32, L33, L34, L35, L36, L37, L38, L39, L40, L41, L42, L43, L44, L45, L46, L47, L48, L50, L57, L59, L60, L63, L64, L65, L70, L80, L90, L97, L100, L110, L120, L122, L128, L150, L200, L208, L216, L224, L232, L240, L248, L255, L256, L264, L272, L280, L288, L296, L297, L300, L336, L337, L500, L680, L700, L998, L999, L1000, L1024, L1999, L6403, L9999, L10000, L12345, L99999, L1000000, L214424576, L412560384, L509804544, L639025541, L642945024, L658545824, L1103515245, L2147483647, g7_0, g7_1, g7_3, g7_4, g7_8, g7_13, g7_16, r7_0_0, r7_0_1, r7_0_2, r7_0_3, r7_0_4, r7_0_5, r7_0_6, r7_0_7, r7_1_0, r7_4_0, r7_4_1, r7_4_2, r7_8_0, r7_8_1, r7_8_2, r7_8_3, r7_13_0, r7_13_1, r7_16_0, r7_16_1, g7_p hp, r7_p_0 hp, r7_p_1 hp, r7_p_2 hp, r7_p_3 hp, r7_p_4 hp, r7_p_5 hp, r7_p_6 hp, r7_p_7 hp, r7_p_8 hp, nI_add, pk_mul, narA_0, bd1_e, bd2_e, bdR_l, bdR_r, P1.nf, nn_le, ldA_n s7_15, hk15, bd1_e, ldA_n (s7_p7 hp), P1.pv l k hl hk, pvI_2 (onL_lt O hk), ldA_n s7_14, stA_n s7_14, stA_n s7_15, narA_0, b2, b3]
      rw [if_neg (by omega)]
      cases hH : H k with
      | true =>
        rw [if_neg (show ¬ nI (bO true) = nI 0 by decide), (b4 k hk).2 (Nat.le_refl _) hH, pk_mul]
        have hh : hdH π H l k = true := by unfold hdH; rw [hH]; rfl
        refine ⟨_, rfl, by rw [u1_rn (Or.inr (by omega))]; exact b1, by rw [u1_rn (Or.inr (by omega))]; exact b2, by rw [u1_rn (Or.inr (by omega))]; exact b3, fun f hf => ⟨fun z1 z2 => ?_, fun z1 z2 => ?_⟩, fun f hf => ?_, F1.trans (Fr.u1 (Or.inr (Or.inl rfl)))⟩
        · by_cases e : f = k
          · subst e
            rw [u1_rs]; unfold hdQ; rw [if_pos hH]
          · rw [u1_rn (Or.inl e)]; exact (b4 f hf).1 (by omega) z2
        · rw [u1_rn (Or.inl (by omega))]; exact (b4 f hf).2 (by omega) z2
        · rw [u1_rn (Or.inr (by omega)), b5 f hf]
          by_cases e : f = k
          · subst e
            rw [if_neg (by omega), if_pos (by omega), hH, hh]
          · by_cases e2 : f < k
            · rw [if_pos e2, if_pos (by omega)]
            · rw [if_neg e2, if_neg (by omega)]
      | false =>
        rw [if_pos (show nI (bO false) = nI 0 from rfl)]
        by_cases c : π.pv l k = 0
        · rw [if_pos c]
          have ho : onL π l k = false := decide_eq_false (fun z => z c)
          have hh : hdH π H l k = false := by unfold hdH; rw [hH, ho]; rfl
          refine ⟨_, rfl, b1, b2, b3, fun f hf => ⟨fun z1 z2 => ?_, fun z1 z2 => ?_⟩, fun f hf => ?_, F1⟩
          · by_cases e : f = k
            · subst e; rw [hh] at z2; cases z2
            · exact (b4 f hf).1 (by omega) z2
          · exact (b4 f hf).2 (by omega) z2
          · rw [b5 f hf]
            by_cases e : f = k
            · subst e
              rw [if_neg (by omega), if_pos (by omega), hH, hh]
            · by_cases e2 : f < k
              · rw [if_pos e2, if_pos (by omega)]
              · rw [if_neg e2, if_neg (by omega)]
        · rw [if_neg c]
          have ho : onL π l k = true := decide_eq_true c
          have hh : hdH π H l k = true := by unfold hdH; rw [hH, ho]; rfl
          rw [show narA 2 (nI 1) = nI (bO true) from rfl]
          refine ⟨_, rfl, by rw [u1_rn (Or.inr (by omega)), u1_rn (Or.inr (by omega))]; exact b1, by rw [u1_rn (Or.inr (by omega)), u1_rn (Or.inr (by omega))]; exact b2, by rw [u1_rn (Or.inr (by omega)), u1_rn (Or.inr (by omega))]; exact b3, fun f hf => ⟨fun z1 z2 => ?_, fun z1 z2 => ?_⟩, fun f hf => ?_, (F1.trans (Fr.u1 (Or.inr (Or.inl rfl)))).trans (Fr.u1 (Or.inr (Or.inr rfl)))⟩
          · rw [u1_rn (Or.inr (by omega))]
            by_cases e : f = k
            · subst e
              rw [u1_rs]; unfold hdQ; rw [if_neg (by rw [hH]; decide), if_pos hh]
            · rw [u1_rn (Or.inl e)]; exact (b4 f hf).1 (by omega) z2
          · rw [u1_rn (Or.inr (by omega)), u1_rn (Or.inl (by omega))]; exact (b4 f hf).2 (by omega) z2
          · by_cases e : f = k
            · subst e
              rw [u1_rs, if_pos (by omega), hh]
            · rw [u1_rn (Or.inl e), u1_rn (Or.inr (by omega)), b5 f hf]
              by_cases e2 : f < k
              · rw [if_pos e2, if_pos (by omega)]
              · rw [if_neg e2, if_neg (by omega)])
    (by
      rintro m1 ⟨b1, b2, b3, b4, b5, F1⟩
      have P1 := P.sh hp F1
      dsimp only
      unfold bX3_hold_21
      simp (disch := omega) only [L0, L1, L2, L3, L4, L5, L6, L7, L8, L9, L10, L11, L12, L13, L14, L15, L16, L17, L18, L19, L20, L21, L22, L23, L24, L25, L26, L27, L28, L29, L30, L31, L32, L33, L34, L35, L36, L37, L38, L39, L40, L41, L42, L43, L44, L45, L46, L47, L48, L50, L57, L59, L60, L63, L64, L65, L70, L80, L90, L97, L100, L110, L120, L122, L128, L150, L200, L208, L216, L224, L232, L240, L248, L255, L256, L264, L272, L280, L288, L296, L297, L300, L336, L337, L500, L680, L700, L998, L999, L1000, L1024, L1999, L6403, L9999, L10000, L12345, L99999, L1000000, L214424576, L412560384, L509804544, L639025541, L642945024, L658545824, L1103515245, L2147483647, P1.nf, nn_le]
      rw [if_pos (by omega)])
  rw [a1, bd1_e]
  exact ⟨y, rfl, HS.mk a2 (fun f hf hH => (a5 f hf).1 hf hH) (fun f hf => by rw [a6 f hf, if_pos hf]), a7⟩
