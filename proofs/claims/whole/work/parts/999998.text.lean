/-! ===== text, both sides ===== -/
theorem QP.K2 {π : Pl} {X : Nat → Nat} {td : Nat} (h : QP π X td) : K2 π X := by
  have O := h.O
  have hnl := O.nl
  have hnf := O.nf
  have z : ∀ i, i < 297 → (30 ≤ i ∧ i < 200) ∨ (216 ≤ i ∧ i < 264) ∨ 272 ≤ i → X i = 0 := h.z3
  have hl : ∀ l, l < 10 → X l ≤ 999 ∧ X (10 + l) ≤ 998 ∧ X (20 + l) ≤ 1999 := fun l hl => by
    by_cases c : l < π.nl
    · have := h.xo l c; omega
    · have := h.z1 l (by omega) hl; omega
  have hf : ∀ f, f < 8 → X (200 + f) ≤ 1024 ∧ X (208 + f) ≤ 1024 ∧ X (264 + f) ≤ 1 := fun f hf => by
    by_cases c : f < π.nf
    · have := h.ra f c; omega
    · have := h.z2 f (by omega) hf; omega
  refine ⟨⟨J.mk ?_ ?_ ?_ ?_ ?_ ?_ ?_ ?_ ?_ ?_ ?_ ?_ ?_ ?_ ?_ ?_, ?_⟩, ?_⟩
  · intro l hl'; rw [Nat.zero_add]; exact (hl l hl').1
  · intro l hl'; exact (hl l hl').2.1
  · intro l hl'; exact (hl l hl').2.2
  · intro l hl'; rw [z _ (by omega) (by omega)]; omega
  · intro l hl'; rw [z _ (by omega) (by omega)]; omega
  · intro l hl'; rw [z _ (by omega) (by omega)]; omega
  · intro l hl'; rw [z (30 + l) (by omega) (by omega)]; omega
  · intro l hl'; rw [z _ (by omega) (by omega)]; omega
  · intro l hl'; have := O.each; rw [z _ (by omega) (by omega)]; omega
  · intro f hf'; exact (hf f hf').1
  · intro f hf'; exact (hf f hf').2.1
  · intro f hf'; exact (hf f hf').2.2
  · intro f hf'; rw [z _ (by omega) (by omega)]; omega
  · intro f hf'; have := O.cells; rw [z _ (by omega) (by omega)]; omega
  · intro f hf'; have := O.ticks; rw [z _ (by omega) (by omega)]; omega
  · intro k hk
    rw [z _ (by omega) (by omega), sm_congr (g := fun _ => 0) (fun g hg => z _ (by omega) (by omega)), sm_zero]
  · intro f hf'
    rw [z (216 + f) (by omega) (by omega), z (224 + f) (by omega) (by omega), z (240 + f) (by omega) (by omega)]
    omega
  · unfold NB
    rw [sm_congr (g := fun _ => 0) (fun g hg => z _ (by omega) (by omega)), sm_zero, sm_congr (g := fun _ => 0) (fun g hg => z _ (by omega) (by omega)), sm_zero]
theorem CF.new {m : Mm} {X : Nat → Nat} (h : ∀ i, i < 297 → m.1 19 i = nI (X i)) : ∃ X', (∀ i, i < 297 → X' i = X i) ∧ CF m 19 X' := by
  refine ⟨fun i => if i < 300 then X i else if i < 380 then Classical.choose (nI_ex (m.1 5 (i - 300))) else Classical.choose (nI_ex (m.1 7 (i - 380))), fun i hi => if_pos (by omega), CF.mk ?_ ?_ ?_⟩
  · intro i hi
    rw [h i hi, if_pos (show i < 300 by omega)]
  · intro j hj
    rw [if_neg (show ¬ 300 + j < 300 by omega), if_pos (show 300 + j < 380 by omega), Nat.add_sub_cancel_left]
    exact Classical.choose_spec (nI_ex (m.1 5 j))
  · intro j hj
    rw [if_neg (show ¬ 380 + j < 300 by omega), if_neg (show ¬ 380 + j < 380 by omega), Nat.add_sub_cancel_left]
    exact Classical.choose_spec (nI_ex (m.1 7 j))
theorem pR_8 {m : Mm} {r : Nat} (h : r < 2 ^ 31) : pR SX7 m 0 8 r = some (u1 m 0 8 (nI r)) := by
  unfold pR
  exact if_pos ⟨rfl, h⟩
theorem pR_9 {m : Mm} {r : Nat} (h : r < 2 ^ 31) : pR SX7 m 0 9 r = some (u1 m 0 9 (nI r)) := by
  unfold pR
  exact if_pos ⟨rfl, h⟩
/-- what the class takes -/
theorem e_takeRead {m : Mm} {p : Nat} (hp : p = 21 ∨ p = 31) (h8 : m.1 0 8 = nI p) (h9 : m.1 0 9 = nI (52 - p)) : ∃ m', fX7_takeWhatWasRead SX7 m 0 = some m' ∧ m'.1 0 8 = nI (52 - p) ∧ m'.1 0 9 = nI p ∧ (∀ j, j ≠ 8 → j ≠ 9 → m'.1 0 j = m.1 0 j) ∧ (∀ i, i < 297 → m'.1 19 i = m.1 20 i) ∧ m'.1 16 2 = nI 0 ∧ m'.1 16 3 = nI 0 ∧ m'.1 16 4 = nI 0 ∧ (∀ o, o ≠ 0 → o ≠ 16 → o ≠ 19 → m'.1 o = m.1 o) := by
  have hq : 52 - p = 21 ∨ 52 - p = 31 := by omega
  unfold fX7_takeWhatWasRead fX0_forgetSteps
  simp (disch := omega) only [L0, L1, L2, L3, L4, L5, L6, L7, L8, L9, L10, L11, L12, L13, L14, L15, L16, L17, L18, L19, L20, L21, L22, L23, L24, L25, L26, L27, L28, L29, L30, L31, L32, L33, L34, L35, L36, L37, L38, L39, L40, L41, L42, L43, L44, L45, L46, L47, L48, L50, L57, L59, L60, L63, L64, L65, L70, L80, L90, L97, L100, L110, L120, L122, L128, L150, L200, L208, L216, L224, L232, L240, L248, L255, L256, L264, L272, L280, L288, L296, L297, L300, L336, L337, L500, L680, L700, L998, L999, L1000, L1024, L1999, L6403, L9999, L10000, L12345, L99999, L1000000, L214424576, L412560384, L509804544, L639025541, L642945024, L658545824, L1103515245, L2147483647, g7_0, g7_1, g7_3, g7_4, g7_8, g7_13, g7_16, r7_0_0, r7_0_1, r7_0_2, r7_0_3, r7_0_4, r7_0_5, r7_0_6, r7_0_7, r7_1_0, r7_4_0, r7_4_1, r7_4_2, r7_8_0, r7_8_1, r7_8_2, r7_8_3, r7_13_0, r7_13_1, r7_16_0, r7_16_1, rf9 h9 hq, rf8 h8 hp, pR_8 (show 52 - p < 2 ^ 31 by omega), pR_9 (show p < 2 ^ 31 by omega), bd1_e, cpA_n (n1 := 297) (n2 := 297) s7_20 s7_19]
  refine ⟨_, rfl, ?_, ?_, fun j h1 h2 => ?_, fun i hi => ?_, u1_rs, ?_, ?_, fun o h1 h2 h3 => ?_⟩
  · rw [u1_other (by omega), u1_other (by omega), u1_other (by omega), uA_other (by omega), u1_rn (Or.inl (by omega)), u1_rs]
  · rw [u1_other (by omega), u1_other (by omega), u1_other (by omega), uA_other (by omega), u1_rs]
  · rw [u1_other (by omega), u1_other (by omega), u1_other (by omega), uA_other (by omega), u1_rn (Or.inl h2), u1_rn (Or.inl h1)]
  · rw [u1_other (by omega), u1_other (by omega), u1_other (by omega), uA_same, pk_cpy_in (by omega) (by omega), show 0 + (i - 0) = i by omega, u1_other (by omega), u1_other (by omega)]
  · rw [u1_rn (Or.inl (by omega)), u1_rn (Or.inl (by omega)), u1_rs]
  · rw [u1_rn (Or.inl (by omega)), u1_rs]
  · rw [u1_other h2, u1_other h2, u1_other h2, uA_other h3, u1_other h1, u1_other h1]
theorem e_text102 {m : Mm} {x c pl : Int32} (h0 : m.1 3 0 = c) (h1 : m.1 3 1 = pl) : jX7_text_102 SX7 m 0 x = if c = nI 0 then (bd1 (fX7_takeWhatWasRead SX7 (u1 (u1 (u1 m 1 1 (nI 0)) 0 10 c) 0 11 pl) 0) fun m17 => some (x, m17)) else some (-nI 1, u1 (u1 (u1 m 1 1 (nI 0)) 0 10 c) 0 11 pl) := by
  unfold jX7_text_102
  simp (disch := omega) only [L0, L1, L2, L3, L4, L5, L6, L7, L8, L9, L10, L11, L12, L13, L14, L15, L16, L17, L18, L19, L20, L21, L22, L23, L24, L25, L26, L27, L28, L29, L30, L31, L32, L33, L34, L35, L36, L37, L38, L39, L40, L41, L42, L43, L44, L45, L46, L47, L48, L50, L57, L59, L60, L63, L64, L65, L70, L80, L90, L97, L100, L110, L120, L122, L128, L150, L200, L208, L216, L224, L232, L240, L248, L255, L256, L264, L272, L280, L288, L296, L297, L300, L336, L337, L500, L680, L700, L998, L999, L1000, L1024, L1999, L6403, L9999, L10000, L12345, L99999, L1000000, L214424576, L412560384, L509804544, L639025541, L642945024, L658545824, L1103515245, L2147483647, g7_0, g7_1, g7_3, g7_4, g7_8, g7_13, g7_16, r7_0_0, r7_0_1, r7_0_2, r7_0_3, r7_0_4, r7_0_5, r7_0_6, r7_0_7, r7_1_0, r7_4_0, r7_4_1, r7_4_2, r7_8_0, r7_8_1, r7_8_2, r7_8_3, r7_13_0, r7_13_1, r7_16_0, r7_16_1, bd1_e, u1_rn, u1_rs, h0, h1]
theorem sim_text {mF mM : Mm} (S : Sim mF mM) (a : Int32) : SimC (fX7_text SX7 mF 0 a) (fX8_text SX8 mM 0 a) := by
  obtain ⟨π, X, U, I, p, top, tl, B, fc, fp, hF, hM0, hK⟩ := S
  have hM := hM0.thr (v := nI 0)
  have hp := hF.hp
  have htl := hK.tl
  have S' : Sim mF (u1 mM 0 0 (nI 0)) := ⟨π, X, U, I, p, top, tl, B, fc, fp, hF, hM, hK⟩
  unfold SimC
  rcases i32_cases a (tl + 1) (by omega) with ⟨n, hn, rfl⟩ | h
  · have hn : n ≤ tl := by omega
    have hB : ∀ j, j < n → B j < 256 := fun j hj => hK.B j (by omega)
    generalize hsp : 52 - p = sp
    have hq : sp = 21 ∨ sp = 31 := by omega
    have h9 : mF.1 0 9 = nI sp := by rw [← hsp]; exact hF.sp
    -- the class begins
    generalize hm2 : u1 (u1 mF 1 2 (nI n)) 1 3 (nI 0) = m2
    have m2o : ∀ o, o ≠ 1 → m2.1 o = mF.1 o := fun o ho => by rw [← hm2, u1_other ho, u1_other ho]
    obtain ⟨m3, a1, a2, a3⟩ := e_begin (m := m2) hq
    have T3 : TC m3 B n 0 := by
      refine TC.mk ?_ ?_ (fun j hj => ?_)
      · rw [a3 1 2 (by unfold s0C; omega), ← hm2, u1_rn (Or.inl (by omega)), u1_rs]
      · rw [a3 1 3 (by unfold s0C; omega), ← hm2, u1_rs]
      · rw [a3 2 j (by unfold s0C; omega), m2o 2 (by omega)]; exact hF.by j (by omega)
    obtain ⟨m4, b1, b2, b3, b4, b5, b6, b7⟩ := e_next T3 (by omega) hB (by omega)
    have L7 : LC sp m2 m4 := LC.trans (fun o j q => a3 o j (by unfold lvC at q; unfold s0C; omega)) b3.l
    have e7 : fX7_text SX7 mF 0 (nI n) = bd1 (lp (fun s9 : Int32 × Mm => bX7_text_50 SX7 0 s9.1 s9.2) fu (nI 0, m4)) fun y10 => jX7_text_102 SX7 y10.2 0 y10.1 := by
      have r2 : fX4_rewind SX7 mF 1 (nI n) = some m2 := by
        unfold fX4_rewind
        simp (disch := omega) only [L0, L1, L2, L3, L4, L5, L6, L7, L8, L9, L10, L11, L12, L13, L14, L15, L16, L17, L18, L19, L20, L21, L22, L23, L24, L25, L26, L27, L28, L29, L30, L31, L32, L33, L34, L35, L36, L37, L38, L39, L40, L41, L42, L43, L44, L45, L46, L47, L48, L50, L57, L59, L60, L63, L64, L65, L70, L80, L90, L97, L100, L110, L120, L122, L128, L150, L200, L208, L216, L224, L232, L240, L248, L255, L256, L264, L272, L280, L288, L296, L297, L300, L336, L337, L500, L680, L700, L998, L999, L1000, L1024, L1999, L6403, L9999, L10000, L12345, L99999, L1000000, L214424576, L412560384, L509804544, L639025541, L642945024, L658545824, L1103515245, L2147483647, g7_0, g7_1, g7_3, g7_4, g7_8, g7_13, g7_16, r7_0_0, r7_0_1, r7_0_2, r7_0_3, r7_0_4, r7_0_5, r7_0_6, r7_0_7, r7_1_0, r7_4_0, r7_4_1, r7_4_2, r7_8_0, r7_8_1, r7_8_2, r7_8_3, r7_13_0, r7_13_1, r7_16_0, r7_16_1, hF.len, nn_lt, bd1_e]
        rw [if_neg (by omega), hm2]
      have r9 : rf SX7 m2 0 9 = sp := rf9 (by rw [m2o 0 (by omega)]; exact h9) hq
      unfold fX7_text
      simp (disch := omega) only [L0, L1, L2, L3, L4, L5, L6, L7, L8, L9, L10, L11, L12, L13, L14, L15, L16, L17, L18, L19, L20, L21, L22, L23, L24, L25, L26, L27, L28, L29, L30, L31, L32, L33, L34, L35, L36, L37, L38, L39, L40, L41, L42, L43, L44, L45, L46, L47, L48, L50, L57, L59, L60, L63, L64, L65, L70, L80, L90, L97, L100, L110, L120, L122, L128, L150, L200, L208, L216, L224, L232, L240, L248, L255, L256, L264, L272, L280, L288, L296, L297, L300, L336, L337, L500, L680, L700, L998, L999, L1000, L1024, L1999, L6403, L9999, L10000, L12345, L99999, L1000000, L214424576, L412560384, L509804544, L639025541, L642945024, L658545824, L1103515245, L2147483647, g7_0, g7_1, g7_3, g7_4, g7_8, g7_13, g7_16, r7_0_0, r7_0_1, r7_0_2, r7_0_3, r7_0_4, r7_0_5, r7_0_6, r7_0_7, r7_1_0, r7_4_0, r7_4_1, r7_4_2, r7_8_0, r7_8_1, r7_8_2, r7_8_3, r7_13_0, r7_13_1, r7_16_0, r7_16_1, hF.len, nn_lt, nn_le, r2, r9, a1, b1, bd1_e]
      rw [if_neg (by omega), if_pos hn]
    -- the model begins
    generalize hk4 : u1 (u1 (u1 (u1 (u1 mM 0 0 (nI 0)) 0 17 (nI n)) 0 18 (nI 0)) 0 22 (nI 0)) 0 16 (nI 0) = k4
    obtain ⟨k5, c1, c2, c3⟩ := e8_fresh (m := k4) (by rw [← hk4, u1_rn (Or.inl (by omega)), u1_rs])
    have k4o : ∀ o, o ≠ 0 → k4.1 o = mM.1 o := fun o ho => by rw [← hk4, u1_other ho, u1_other ho, u1_other ho, u1_other ho, u1_other ho]
    have K5 : TM k5 B n 0 := by
      refine TM.mk ?_ ?_ (fun j hj => ?_)
      · rw [c2 0 17 (by unfold s0M; omega), ← hk4]; simp (disch := omega) only [u1_rn, u1_rs]
      · rw [c2 0 18 (by unfold s0M; omega), ← hk4]; simp (disch := omega) only [u1_rn, u1_rs]
      · rw [c2 1 j (by unfold s0M; omega), k4o 1 (by omega)]; exact hM0.by j (by omega)
    obtain ⟨k6, d1, d2, d3, d4⟩ := e8_token K5 (by omega) hB (by omega)
    have L8 : LM (u1 mM 0 0 (nI 0)) k6 := by
      refine LM.trans (LM.trans (m' := k4) ?_ (fun o j q => c2 o j (by unfold lvM at q; unfold s0M; omega))) d3.l
      rw [← hk4]
      exact (((LM.rfl.u (by unfold lvM; omega)).u (by unfold lvM; omega)).u (by unfold lvM; omega)).u (by unfold lvM; omega)
    have e8r : ∀ M, lp (fun s8 : Mm => bX8_readText_28 SX8 0 s8) fu k6 = some M → fX8_readText SX8 (u1 mM 0 0 (nI 0)) 0 (nI n) = some M := by
      intro M z
      unfold fX8_readText jX8_readText_50
      simp only [L0, L1, L2, L3, L4, L5, L6, L7, L8, L9, L10, L11, L12, L13, L14, L15, L16, L17, L18, L19, L20, L21, L22, L23, L24, L25, L26, L27, L28, L29, L30, L31, L32, L33, L34, L35, L36, L37, L38, L39, L40, L41, L42, L43, L44, L45, L46, L47, L48, L50, L57, L59, L60, L63, L64, L65, L70, L80, L90, L97, L100, L110, L120, L122, L128, L150, L200, L208, L216, L224, L232, L240, L248, L255, L256, L264, L272, L280, L288, L296, L297, L300, L336, L337, L500, L680, L700, L998, L999, L1000, L1024, L1999, L6403, L9999, L10000, L12345, L99999, L1000000, L214424576, L412560384, L509804544, L639025541, L642945024, L658545824, L1103515245, L2147483647, g8_0, r8_1, r8_3, r8_4, r8_5, r8_6, r8_7, r8_8, r8_9, r8_10, r8_11, r8_12, r8_13, r8_14, r8_15, r8_26, r8_27, r8_28, r8_29, r8_30, r8_33, r8_34, r8_35, r8_36, r8_37, r8_39, r8_40, r8_41, r8_43, r8_44, r8_45, bd1_e, hk4, c1, d1, z]
    have e8 : ∀ M, lp (fun s8 : Mm => bX8_readText_28 SX8 0 s8) fu k6 = some M → fX8_text SX8 mM 0 (nI n) = if ¬ M.1 0 22 = nI 0 then jX8_text_54 SX8 (u1 (u1 M 0 2 (nI 0)) 0 24 (M.1 0 22)) 0 0 (M.1 0 23) else jX8_text_54 SX8 (u1 (u1 M 0 2 (nI 0)) 0 24 (M.1 0 22)) 0 0 (-nI 1) := by
      intro M z
      unfold fX8_text
      simp (disch := omega) only [L0, L1, L2, L3, L4, L5, L6, L7, L8, L9, L10, L11, L12, L13, L14, L15, L16, L17, L18, L19, L20, L21, L22, L23, L24, L25, L26, L27, L28, L29, L30, L31, L32, L33, L34, L35, L36, L37, L38, L39, L40, L41, L42, L43, L44, L45, L46, L47, L48, L50, L57, L59, L60, L63, L64, L65, L70, L80, L90, L97, L100, L110, L120, L122, L128, L150, L200, L208, L216, L224, L232, L240, L248, L255, L256, L264, L272, L280, L288, L296, L297, L300, L336, L337, L500, L680, L700, L998, L999, L1000, L1024, L1999, L6403, L9999, L10000, L12345, L99999, L1000000, L214424576, L412560384, L509804544, L639025541, L642945024, L658545824, L1103515245, L2147483647, g8_0, r8_1, r8_3, r8_4, r8_5, r8_6, r8_7, r8_8, r8_9, r8_10, r8_11, r8_12, r8_13, r8_14, r8_15, r8_26, r8_27, r8_28, r8_29, r8_30, r8_33, r8_34, r8_35, r8_36, r8_37, r8_39, r8_40, r8_41, r8_43, r8_44, r8_45, bd1_e, hM.len, nn_lt, nn_le, e8r M z, u1_rn]
      rw [if_neg (by omega), if_pos hn]
    have k16 : k6.1 0 16 = nI 0 := by rw [d3.2 16 (by omega), c2 0 16 (by unfold s0M; omega), ← hk4, u1_rs]
    rcases lines2 (mF := m2) (mM := u1 mM 0 0 (nI 0)) (show n ≤ 700 by omega) hB hq (by rw [m2o 0 (by omega)]; exact h9) (n - 0) 0 0 pl0 (fun _ => 0) 0 m4 k6 fu fu rfl (by omega) (by unfold fu; omega) (by unfold fu; omega) (LH.mk b2 b5 b4 b6 d2 d4 (a2.ft hq b3) (c3.fm d3) QP0 L7 L8 k16 (by omega)) with ⟨k', F, M, π', X', td', f1, f2, C, Q, P, LF, LMM, f16⟩ | ⟨c, pl, k', F, M, h0, hc, f1, f3, f4, LF, f2, g1, g2, LMM⟩
    · -- taken
      have e8 := e8 M f2
      rw [f1, bd1_e] at e7
      rw [e_text102 (m := F) (x := nI k') C.code C.place, if_pos rfl] at e7
      have F8 : F.1 0 8 = nI p := by rw [LF 0 8 (by unfold lvC; omega), m2o 0 (by omega)]; exact hF.pl
      have F9 : F.1 0 9 = nI (52 - p) := by rw [LF 0 9 (by unfold lvC; omega), m2o 0 (by omega), hsp]; exact h9
      obtain ⟨G, q1, q2, q3, q4, q5, q6, q7, q8, q9⟩ := e_takeRead (m := u1 (u1 (u1 F 1 1 (nI 0)) 0 10 (nI 0)) 0 11 (-nI 1)) hp (by simp (disch := omega) only [u1_rn]; exact F8) (by simp (disch := omega) only [u1_rn]; exact F9)
      rw [q1, bd1_e] at e7
      rw [Q.f0, if_neg (fun z => z rfl)] at e8
      generalize hk6 : u1 (u1 (u1 M 0 2 (nI 0)) 0 24 (nI 0)) 0 25 (-nI 1) = g6
      have g6o : ∀ o, o ≠ 0 → g6.1 o = M.1 o := fun o ho => by rw [← hk6, u1_other ho, u1_other ho, u1_other ho]
      have g622 : g6.1 0 22 = nI 0 := by rw [← hk6]; simp (disch := omega) only [u1_rn]; exact Q.f0
      have Q6 : QM g6 π' X' td' := Q.e0 g6o g622
      obtain ⟨t1, t2, s1, s2, s3, s4, s5⟩ := e8_taken Q6 P
      have e54 : jX8_text_54 SX8 (u1 (u1 M 0 2 (nI 0)) 0 24 (nI 0)) 0 0 (-nI 1) = some (nI k', u1 (u1 t2 0 31 (nI 0)) 0 32 (nI 0)) := by
        unfold jX8_text_54
        simp (disch := omega) only [L0, L1, L2, L3, L4, L5, L6, L7, L8, L9, L10, L11, L12, L13, L14, L15, L16, L17, L18, L19, L20, L21, L22, L23, L24, L25, L26, L27, L28, L29, L30, L31, L32, L33, L34, L35, L36, L37, L38, L39, L40, L41, L42, L43, L44, L45, L46, L47, L48, L50, L57, L59, L60, L63, L64, L65, L70, L80, L90, L97, L100, L110, L120, L122, L128, L150, L200, L208, L216, L224, L232, L240, L248, L255, L256, L264, L272, L280, L288, L296, L297, L300, L336, L337, L500, L680, L700, L998, L999, L1000, L1024, L1999, L6403, L9999, L10000, L12345, L99999, L1000000, L214424576, L412560384, L509804544, L639025541, L642945024, L658545824, L1103515245, L2147483647, g8_0, r8_1, r8_3, r8_4, r8_5, r8_6, r8_7, r8_8, r8_9, r8_10, r8_11, r8_12, r8_13, r8_14, r8_15, r8_26, r8_27, r8_28, r8_29, r8_30, r8_33, r8_34, r8_35, r8_36, r8_37, r8_39, r8_40, r8_41, r8_43, r8_44, r8_45, bd1_e, hk6, g622, s1, s2, u1_rn]
        rw [if_pos trivial, s5 0 (by omega), ← hk6]
        simp (disch := omega) only [u1_rn, f16]
      rw [e54] at e8
      refine ⟨_, _, _, e7, e8, ?_⟩
      have rowG : ∀ i, i < 297 → G.1 19 i = nI (X' i) := fun i hi => by rw [q5 i hi, u1_other (by omega), u1_other (by omega), u1_other (by omega)]; exact C.row i hi
      obtain ⟨X2, x1, x2⟩ := CF.new rowG
      have Go : ∀ o, o ≠ 0 → o ≠ 1 → o ≠ 16 → o ≠ 19 → G.1 o = F.1 o := fun o h1 h2 h3 h4 => by rw [q9 o h1 h3 h4, u1_other h1, u1_other h1, u1_other h2]
      have t2o : ∀ o, o ≠ 0 → (u1 (u1 t2 0 31 (nI 0)) 0 32 (nI 0)).1 o = t2.1 o := fun o ho => by rw [u1_other ho, u1_other ho]
      refine ⟨π', X2, [], none, sp, 0, 0, B, nI 0, -nI 1, ?_, SM.cg (X := X') ?_ x1, SK.cg (X := X') ?_ x1⟩
      · refine SF.mk hq (by rw [q2, hsp]) (by rw [q3, show 52 - sp = p by omega]) ?_ ?_ (C.P.eq (fun o h1 h2 => Go o (by omega) (by omega) (by omega) (by omega))) x2 q7 q8 (by omega) (fun j Y hj => by cases hj) q6 (fun Y hY => by cases hY) ?_ (fun j hj => by omega)
        · rw [q4 10 (by omega) (by omega), u1_rn (Or.inl (by omega)), u1_rs]
        · rw [q4 11 (by omega) (by omega), u1_rs]
        · rw [q9 1 (by omega) (by omega) (by omega), u1_other (by omega), u1_other (by omega), u1_rs]
      · refine SM.mk (s3.eq (fun o h1 h2 h3 => t2o o (by omega))) (RG.m (by rw [t2o 15 (by omega)]; exact s4.g)) ?_ (fun j Y hj => by cases hj) u1_rs (fun Y hY => by cases hY) ?_ (fun j hj => by omega) ?_ ?_
        · rw [u1_rn (Or.inl (by omega)), u1_rs]; rfl
        · rw [u1_rn (Or.inl (by omega)), u1_rn (Or.inl (by omega)), s5 0 (by omega), ← hk6, u1_rn (Or.inl (by omega)), u1_rn (Or.inl (by omega)), u1_rs]
        · rw [u1_rn (Or.inl (by omega)), u1_rn (Or.inl (by omega)), s5 0 (by omega), ← hk6, u1_rn (Or.inl (by omega)), u1_rs]
        · rw [u1_rn (Or.inl (by omega)), u1_rn (Or.inl (by omega)), s5 0 (by omega), ← hk6, u1_rs]
      · exact SK.mk P.O P.K2 (by rw [P.z3 296 (by omega) (by omega)]; omega) (by decide) (fun Y hY => by cases hY) (fun Y hY => by cases hY) (by omega) (fun j hj => by omega)
    · -- a fault
      have e8 := e8 M f2
      have cne : ¬ nI c = nI 0 := fun z => by have := (nn_eq (a := c) (b := 0) (by omega) (by omega)).mp z; omega
      rw [f1, bd1_e] at e7
      rw [e_text102 (m := F) (x := nI k') f3 f4, if_neg cne] at e7
      rw [g1, g2, if_pos cne] at e8
      have e54 : jX8_text_54 SX8 (u1 (u1 M 0 2 (nI 0)) 0 24 (nI c)) 0 0 (nI pl) = some (-nI 1, u1 (u1 (u1 M 0 2 (nI 0)) 0 24 (nI c)) 0 25 (nI pl)) := by
        unfold jX8_text_54
        simp (disch := omega) only [L0, L1, L2, L3, L4, L5, L6, L7, L8, L9, L10, L11, L12, L13, L14, L15, L16, L17, L18, L19, L20, L21, L22, L23, L24, L25, L26, L27, L28, L29, L30, L31, L32, L33, L34, L35, L36, L37, L38, L39, L40, L41, L42, L43, L44, L45, L46, L47, L48, L50, L57, L59, L60, L63, L64, L65, L70, L80, L90, L97, L100, L110, L120, L122, L128, L150, L200, L208, L216, L224, L232, L240, L248, L255, L256, L264, L272, L280, L288, L296, L297, L300, L336, L337, L500, L680, L700, L998, L999, L1000, L1024, L1999, L6403, L9999, L10000, L12345, L99999, L1000000, L214424576, L412560384, L509804544, L639025541, L642945024, L658545824, L1103515245, L2147483647, g8_0, r8_1, r8_3, r8_4, r8_5, r8_6, r8_7, r8_8, r8_9, r8_10, r8_11, r8_12, r8_13, r8_14, r8_15, r8_26, r8_27, r8_28, r8_29, r8_30, r8_33, r8_34, r8_35, r8_36, r8_37, r8_39, r8_40, r8_41, r8_43, r8_44, r8_45, bd1_e, u1_rn, g1]
        rw [if_neg cne]
      rw [e54] at e8
      refine ⟨_, _, _, e7, e8, π, X, U, I, p, top, 0, B, nI c, nI pl, ?_, ?_, ?_⟩
      · have Fo : ∀ o j, o ≠ 1 → lvC sp o j → F.1 o j = mF.1 o j := fun o j h1 q => by rw [LF o j q, m2o o h1]
        have Fo2 : ∀ o, o ≠ 0 → o ≠ 1 → o ≠ 3 → o ≠ 20 → (o < sp ∨ sp + 9 < o) → (u1 (u1 (u1 F 1 1 (nI 0)) 0 10 (nI c)) 0 11 (nI pl)).1 o = mF.1 o := fun o h0 h1 h3 h20 h => by
          rw [u1_other h0, u1_other h0, u1_other h1]
          exact funext (fun j => Fo o j h1 (by unfold lvC; omega))
        have F0 : ∀ j, j ≠ 10 → j ≠ 11 → (u1 (u1 (u1 F 1 1 (nI 0)) 0 10 (nI c)) 0 11 (nI pl)).1 0 j = mF.1 0 j := fun j h1 h2 => by
          rw [u1_rn (Or.inl h2), u1_rn (Or.inl h1), u1_rn (Or.inr (by omega))]
          exact Fo 0 j (by omega) (by unfold lvC; omega)
        refine SF.mk hp (by rw [F0 8 (by omega) (by omega)]; exact hF.pl) (by rw [F0 9 (by omega) (by omega)]; exact hF.sp) ?_ u1_rs (hF.P.eq (fun o h1 h2 => Fo2 o (by omega) (by omega) (by omega) (by omega) (by omega))) (CF.mk ?_ ?_ ?_) ?_ ?_ hF.tlt ?_ ?_ ?_ ?_ (fun j hj => by omega)
        · rw [u1_rn (Or.inl (by omega)), u1_rs]
        · rw [Fo2 19 (by omega) (by omega) (by omega) (by omega) (by omega)]; exact hF.C.row
        · rw [Fo2 5 (by omega) (by omega) (by omega) (by omega) (by omega)]; exact hF.C.mv
        · rw [Fo2 7 (by omega) (by omega) (by omega) (by omega) (by omega)]; exact hF.C.sn
        · rw [Fo2 16 (by omega) (by omega) (by omega) (by omega) (by omega)]; exact hF.steps
        · rw [Fo2 16 (by omega) (by omega) (by omega) (by omega) (by omega)]; exact hF.top
        · rw [Fo2 17 (by omega) (by omega) (by omega) (by omega) (by omega)]; exact hF.rows
        · rw [Fo2 16 (by omega) (by omega) (by omega) (by omega) (by omega)]; exact hF.him
        · rw [Fo2 18 (by omega) (by omega) (by omega) (by omega) (by omega)]; exact hF.im
        · rw [u1_rn (Or.inr (by omega)), u1_rn (Or.inr (by omega)), u1_rs]
      · have Mo : ∀ o j, o ≠ 0 → lvM o j → (u1 (u1 (u1 M 0 2 (nI 0)) 0 24 (nI c)) 0 25 (nI pl)).1 o j = mM.1 o j := fun o j h1 q => by
          rw [u1_rn (Or.inr h1), u1_rn (Or.inr h1), u1_rn (Or.inr h1), LMM o j q, u1_rn (Or.inr h1)]
        have M0 : ∀ j, 0 < j → j ≠ 2 → j ≠ 24 → j ≠ 25 → (j < 16 ∨ 23 < j) → (u1 (u1 (u1 M 0 2 (nI 0)) 0 24 (nI c)) 0 25 (nI pl)).1 0 j = mM.1 0 j := fun j h0 h1 h2 h3 h => by
          rw [u1_rn (Or.inl h3), u1_rn (Or.inl h2), u1_rn (Or.inl h1), LMM 0 j (by unfold lvM; omega), u1_rn (Or.inl (by omega))]
        have M15 : ∀ o, 15 ≤ o → (u1 (u1 (u1 M 0 2 (nI 0)) 0 24 (nI c)) 0 25 (nI pl)).1 o = mM.1 o := fun o h => funext (fun j => Mo o j (by omega) (by unfold lvM; omega))
        have O := hK.O
        have hnl := O.nl
        have hnf := O.nf
        have PP := hM0.P
        refine SM.mk (PM.mk ?_ ?_ ?_ ?_ ?_ ?_ ?_ ?_ ?_ ?_ ?_ ?_ ?_ ?_ ?_) (RG.m (by rw [M15 15 (by omega)]; exact hM0.R.g)) ?_ ?_ ?_ ?_ ?_ (fun j hj => by omega) ?_ u1_rs
        · rw [Mo 2 0 (by omega) (by unfold lvM; omega)]; exact PP.nl
        · rw [Mo 2 1 (by omega) (by unfold lvM; omega)]; exact PP.nf
        · intro l hl; rw [Mo 4 l (by omega) (by unfold lvM; omega)]; exact PP.lname l hl
        · intro l hl; rw [Mo 5 l (by omega) (by unfold lvM; omega)]; exact PP.cap l hl
        · intro l hl; rw [Mo 6 l (by omega) (by unfold lvM; omega)]; exact PP.delay l hl
        · intro l hl; rw [Mo 10 l (by omega) (by unfold lvM; omega)]; exact PP.fname l hl
        · intro l hl; rw [Mo 13 l (by omega) (by unfold lvM; omega)]; exact PP.hops l hl
        · intro f i hf hi
          have := O.hops f hf
          rw [Mo 14 (5 * f + i) (by omega) (by unfold lvM; omega)]; exact PP.path f i hf hi
        · rw [Mo 2 2 (by omega) (by unfold lvM; omega)]; exact PP.each
        · rw [Mo 2 3 (by omega) (by unfold lvM; omega)]; exact PP.middle
        · rw [Mo 2 4 (by omega) (by unfold lvM; omega)]; exact PP.weight
        · rw [Mo 2 5 (by omega) (by unfold lvM; omega)]; exact PP.cells
        · rw [Mo 2 6 (by omega) (by unfold lvM; omega)]; exact PP.ticks
        · rw [Mo 2 7 (by omega) (by unfold lvM; omega)]; exact PP.more
        · rw [Mo 2 8 (by omega) (by unfold lvM; omega)]; exact PP.seed
        · rw [M0 31 (by omega) (by omega) (by omega) (by omega) (by omega)]; exact hM0.und
        · rw [M15 19 (by omega)]; exact hM0.rows
        · rw [M0 32 (by omega) (by omega) (by omega) (by omega) (by omega)]; exact hM0.him
        · rw [M15 18 (by omega)]; exact hM0.im
        · rw [u1_rn (Or.inl (by omega)), u1_rn (Or.inl (by omega)), u1_rs]
        · rw [u1_rn (Or.inl (by omega)), u1_rs]
      · exact SK.mk hK.O hK.K hK.t hK.ul hK.U hK.I (by omega) (fun j hj => by omega)
  · have hno : a < nI 0 ∨ (¬ a < nI 0 ∧ ¬ a ≤ nI tl) := by
      rcases h with h | ⟨h1, h2⟩
      · exact Or.inl h
      · refine Or.inr ⟨h1, fun z => ?_⟩
        rw [Int32.le_iff_toInt_le, nI_toInt (by omega)] at z h2
        omega
    unfold fX7_text fX8_text jX7_text_15 jX8_text_17
    simp (disch := omega) only [L0, L1, L2, L3, L4, L5, L6, L7, L8, L9, L10, L11, L12, L13, L14, L15, L16, L17, L18, L19, L20, L21, L22, L23, L24, L25, L26, L27, L28, L29, L30, L31, L32, L33, L34, L35, L36, L37, L38, L39, L40, L41, L42, L43, L44, L45, L46, L47, L48, L50, L57, L59, L60, L63, L64, L65, L70, L80, L90, L97, L100, L110, L120, L122, L128, L150, L200, L208, L216, L224, L232, L240, L248, L255, L256, L264, L272, L280, L288, L296, L297, L300, L336, L337, L500, L680, L700, L998, L999, L1000, L1024, L1999, L6403, L9999, L10000, L12345, L99999, L1000000, L214424576, L412560384, L509804544, L639025541, L642945024, L658545824, L1103515245, L2147483647, g8_0, r8_1, r8_3, r8_4, r8_5, r8_6, r8_7, r8_8, r8_9, r8_10, r8_11, r8_12, r8_13, r8_14, r8_15, r8_26, r8_27, r8_28, r8_29, r8_30, r8_33, r8_34, r8_35, r8_36, r8_37, r8_39, r8_40, r8_41, r8_43, r8_44, r8_45, g7_0, g7_1, g7_3, g7_4, g7_8, g7_13, g7_16, r7_0_0, r7_0_1, r7_0_2, r7_0_3, r7_0_4, r7_0_5, r7_0_6, r7_0_7, r7_1_0, r7_4_0, r7_4_1, r7_4_2, r7_8_0, r7_8_1, r7_8_2, r7_8_3, r7_13_0, r7_13_1, r7_16_0, r7_16_1, bd1_e, hF.len, hM.len]
    rcases hno with h | ⟨h1, h2⟩
    · rw [if_pos h, if_pos h]; exact ⟨_, _, _, rfl, rfl, S'⟩
    · rw [if_neg h1, if_neg h1, if_neg h2, if_neg h2]; exact ⟨_, _, _, rfl, rfl, S'⟩
