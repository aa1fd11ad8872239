/-! ===== more calls that only look ===== -/
def SimG (mF mM : Mm) (f7 : Option Int32) (f8 : Option (Int32 × Mm)) : Prop := ∃ v mM', f7 = some v ∧ f8 = some (v, mM') ∧ Sim mF mM'
theorem e_headroomOf {m : Mm} {x p : Nat} {π : Pl} {X : Nat → Nat} {l : Nat} (C : CF m x X) (P : PF m p π) (O : π.ok) (hx : x = 19 ∨ x = 20) (hp : p = 21 ∨ p = 31) (hl : l < π.nl) : fX1_headroomOf SX7 m p x (nI l) = some ((nI (X (0 + l)) - nI 1) + nI (π.cap l * (π.delay l + 1))) := by
  have hnl := O.nl
  unfold fX1_headroomOf
  simp (disch := omega) only [L0, L1, L2, L3, L4, L5, L6, L7, L8, L9, L10, L11, L12, L13, L14, L15, L16, L17, L18, L19, L20, L21, L22, L23, L24, L25, L26, L27, L28, L29, L30, L31, L32, L33, L34, L35, L36, L37, L38, L39, L40, L41, L42, L43, L44, L45, L46, L47, L48, L50, L57, L59, L60, L63, L64, L65, L70, L80, L90, L97, L100, L110, L120, L122, L128, L150, L200, L208, L216, L224, L232, L240, L248, L255, L256, L264, L272, L280, L288, L296, L297, L300, L336, L337, L500, L680, L700, L998, L999, L1000, L1024, L1999, L6403, L9999, L10000, L12345, L99999, L1000000, L214424576, L412560384, L509804544, L639025541, L642945024, L658545824, L1103515245, L2147483647, g7_p hp, r7_p_0 hp, r7_p_1 hp, r7_p_2 hp, r7_p_3 hp, r7_p_4 hp, r7_p_5 hp, r7_p_6 hp, r7_p_7 hp, r7_p_8 hp, nI_add, pk_mul, narA_0, bd1_e, bd2_e, bdR_l, bdR_r, ldA_n (s7_x hx), C.row, ldA_n (s7_p2 hp), P.cap l hl, ldA_n (s7_p3 hp), P.delay l hl]
theorem e8_headroomOf {m : Mm} {π : Pl} {X : Nat → Nat} {l : Nat} (R : RM m X) (P : PM m π) (O : π.ok) (hl : l < π.nl) : fX8_headroomOf SX8 m 0 (nI l) = some ((nI (X (0 + l)) - nI 1) + nI (π.cap l * (π.delay l + 1))) := by
  have hnl := O.nl
  unfold fX8_headroomOf
  simp (disch := omega) only [L0, L1, L2, L3, L4, L5, L6, L7, L8, L9, L10, L11, L12, L13, L14, L15, L16, L17, L18, L19, L20, L21, L22, L23, L24, L25, L26, L27, L28, L29, L30, L31, L32, L33, L34, L35, L36, L37, L38, L39, L40, L41, L42, L43, L44, L45, L46, L47, L48, L50, L57, L59, L60, L63, L64, L65, L70, L80, L90, L97, L100, L110, L120, L122, L128, L150, L200, L208, L216, L224, L232, L240, L248, L255, L256, L264, L272, L280, L288, L296, L297, L300, L336, L337, L500, L680, L700, L998, L999, L1000, L1024, L1999, L6403, L9999, L10000, L12345, L99999, L1000000, L214424576, L412560384, L509804544, L639025541, L642945024, L658545824, L1103515245, L2147483647, g8_0, r8_1, r8_3, r8_4, r8_5, r8_6, r8_7, r8_8, r8_9, r8_10, r8_11, r8_12, r8_13, r8_14, r8_15, r8_26, r8_27, r8_28, r8_29, r8_30, r8_33, r8_34, r8_35, r8_36, r8_37, r8_39, r8_40, r8_41, r8_43, r8_44, r8_45, nI_add, pk_mul, narA_0, bd1_e, bd2_e, bdR_l, bdR_r, ldA_n s8_15, R.xoff l (by omega), ldA_n s8_5, P.cap l hl, ldA_n s8_6, P.delay l hl]
theorem sim_feedback {mF mM : Mm} (S : Sim mF mM) (a : Int32) : SimG mF mM (fX7_feedback SX7 mF 0 a) (fX8_feedback SX8 mM 0 a) := by
  obtain ⟨π, X, U, I, p, top, tl, B, fc, fp, hF, hM0, hK⟩ := S
  have hM := hM0.thr (v := nI 0)
  have hnl := hK.O.nl
  have S' : Sim mF (u1 mM 0 0 (nI 0)) := ⟨π, X, U, I, p, top, tl, B, fc, fp, hF, hM, hK⟩
  unfold SimG fX7_feedback jX7_feedback_25 fX8_feedback jX8_feedback_24
  simp only [L0, L1, L2, L3, L4, L5, L6, L7, L8, L9, L10, L11, L12, L13, L14, L15, L16, L17, L18, L19, L20, L21, L22, L23, L24, L25, L26, L27, L28, L29, L30, L31, L32, L33, L34, L35, L36, L37, L38, L39, L40, L41, L42, L43, L44, L45, L46, L47, L48, L50, L57, L59, L60, L63, L64, L65, L70, L80, L90, L97, L100, L110, L120, L122, L128, L150, L200, L208, L216, L224, L232, L240, L248, L255, L256, L264, L272, L280, L288, L296, L297, L300, L336, L337, L500, L680, L700, L998, L999, L1000, L1024, L1999, L6403, L9999, L10000, L12345, L99999, L1000000, L214424576, L412560384, L509804544, L639025541, L642945024, L658545824, L1103515245, L2147483647, g8_0, g7_0, r7_0_6, bd1_e, hF.r8]
  rcases i32_cases a π.nl (by omega) with ⟨k, hk, rfl⟩ | h
  · simp only [(lk_1 hF hM hK.O hk).1, (lk_1 hF hM hK.O hk).2, bd1_e, if_neg n10, e_feedbackOf hF.C hF.P (Or.inl rfl) hF.hp (show k < 10 by omega), e8_feedbackOf hM.R hM.P hK.K.1.1.q (show k < 10 by omega)]
    exact ⟨_, _, rfl, rfl, S'⟩
  · simp only [(lk_0 hF hM hK.O h).1, (lk_0 hF hM hK.O h).2, bd1_e]
    exact ⟨_, _, rfl, rfl, S'⟩
theorem sim_notice {mF mM : Mm} (S : Sim mF mM) (a : Int32) : SimG mF mM (fX7_notice SX7 mF 0 a) (fX8_notice SX8 mM 0 a) := by
  obtain ⟨π, X, U, I, p, top, tl, B, fc, fp, hF, hM0, hK⟩ := S
  have hM := hM0.thr (v := nI 0)
  have hnl := hK.O.nl
  have S' : Sim mF (u1 mM 0 0 (nI 0)) := ⟨π, X, U, I, p, top, tl, B, fc, fp, hF, hM, hK⟩
  unfold SimG fX7_notice jX7_notice_31 fX8_notice jX8_notice_26
  simp only [L0, L1, L2, L3, L4, L5, L6, L7, L8, L9, L10, L11, L12, L13, L14, L15, L16, L17, L18, L19, L20, L21, L22, L23, L24, L25, L26, L27, L28, L29, L30, L31, L32, L33, L34, L35, L36, L37, L38, L39, L40, L41, L42, L43, L44, L45, L46, L47, L48, L50, L57, L59, L60, L63, L64, L65, L70, L80, L90, L97, L100, L110, L120, L122, L128, L150, L200, L208, L216, L224, L232, L240, L248, L255, L256, L264, L272, L280, L288, L296, L297, L300, L336, L337, L500, L680, L700, L998, L999, L1000, L1024, L1999, L6403, L9999, L10000, L12345, L99999, L1000000, L214424576, L412560384, L509804544, L639025541, L642945024, L658545824, L1103515245, L2147483647, g8_0, g7_0, r7_0_6, bd1_e, hF.r8]
  rcases i32_cases a π.nl (by omega) with ⟨k, hk, rfl⟩ | h
  · simp only [(lk_1 hF hM hK.O hk).1, (lk_1 hF hM hK.O hk).2, bd1_e, if_neg n10, e_feedbackOf hF.C hF.P (Or.inl rfl) hF.hp (show k < 10 by omega), e8_feedbackOf hM.R hM.P hK.K.1.1.q (show k < 10 by omega), e_noticeOf hF.P hK.O hF.hp, e8_noticeOf hM.P hK.O]
    exact ⟨_, _, rfl, rfl, S'⟩
  · simp only [(lk_0 hF hM hK.O h).1, (lk_0 hF hM hK.O h).2, bd1_e]
    exact ⟨_, _, rfl, rfl, S'⟩
theorem sim_headroom {mF mM : Mm} (S : Sim mF mM) (a : Int32) : SimG mF mM (fX7_headroom SX7 mF 0 a) (fX8_headroom SX8 mM 0 a) := by
  obtain ⟨π, X, U, I, p, top, tl, B, fc, fp, hF, hM0, hK⟩ := S
  have hM := hM0.thr (v := nI 0)
  have hnl := hK.O.nl
  have S' : Sim mF (u1 mM 0 0 (nI 0)) := ⟨π, X, U, I, p, top, tl, B, fc, fp, hF, hM, hK⟩
  unfold SimG fX7_headroom jX7_headroom_24 fX8_headroom jX8_headroom_22
  simp only [L0, L1, L2, L3, L4, L5, L6, L7, L8, L9, L10, L11, L12, L13, L14, L15, L16, L17, L18, L19, L20, L21, L22, L23, L24, L25, L26, L27, L28, L29, L30, L31, L32, L33, L34, L35, L36, L37, L38, L39, L40, L41, L42, L43, L44, L45, L46, L47, L48, L50, L57, L59, L60, L63, L64, L65, L70, L80, L90, L97, L100, L110, L120, L122, L128, L150, L200, L208, L216, L224, L232, L240, L248, L255, L256, L264, L272, L280, L288, L296, L297, L300, L336, L337, L500, L680, L700, L998, L999, L1000, L1024, L1999, L6403, L9999, L10000, L12345, L99999, L1000000, L214424576, L412560384, L509804544, L639025541, L642945024, L658545824, L1103515245, L2147483647, g8_0, g7_0, r7_0_6, bd1_e, hF.r8]
  rcases i32_cases a π.nl (by omega) with ⟨k, hk, rfl⟩ | h
  · simp only [(lk_1 hF hM hK.O hk).1, (lk_1 hF hM hK.O hk).2, bd1_e, if_neg n10, e_headroomOf hF.C hF.P hK.O (Or.inl rfl) hF.hp hk, e8_headroomOf hM.R hM.P hK.O hk]
    exact ⟨_, _, rfl, rfl, S'⟩
  · simp only [(lk_0 hF hM hK.O h).1, (lk_0 hF hM hK.O h).2, bd1_e]
    exact ⟨_, _, rfl, rfl, S'⟩
/-- bits set one by one -/
def bts (c : Nat → Bool) : Nat → Int32
  | 0 => nI 0
  | k + 1 => if c k = true then bts c k else (bts c k ||| (nI 1 <<< (nI k &&& nI 31)))
theorem bts_s (c : Nat → Bool) (k : Nat) : bts c (k + 1) = if c k = true then bts c k else (bts c k ||| (nI 1 <<< (nI k &&& nI 31))) := rfl
theorem sim_safe {mF mM : Mm} (S : Sim mF mM) : SimG mF mM (fX7_safe SX7 mF 0) (fX8_safe SX8 mM 0) := by
  obtain ⟨π, X, U, I, p, top, tl, B, fc, fp, hF, hM0, hK⟩ := S
  have hM := hM0.thr (v := nI 0)
  have hnl := hK.O.nl
  have hp := hF.hp
  have S' : Sim mF (u1 mM 0 0 (nI 0)) := ⟨π, X, U, I, p, top, tl, B, fc, fp, hF, hM, hK⟩
  let c : Nat → Bool := fun l => decide (nI (X (20 + l)) < (nI (X (0 + l)) - nI 1) + nI (π.cap l * (π.delay l + 1)))
  have h7 := lp_f (b := fun s4 : Int32 × Int32 => bX7_safe_4 SX7 mF 0 s4.1 s4.2) (N := fu) (r := bts c π.nl) (fun k => (bts c k, nI k)) π.nl (by unfold fu; omega)
    (by
      intro k hk
      dsimp only
      unfold bX7_safe_4 jX7_safe_45
      simp (disch := omega) only [L0, L1, L2, L3, L4, L5, L6, L7, L8, L9, L10, L11, L12, L13, L14, L15, L16, L17, L18, L19, L20, L21, L22, L23, L24, L25, L26, L27, L28, L29, L30, L31, L32, L33, L34, L35, L36, L37, L38, L39, L40, L41, L42, L43, L44, L45, L46, L47, L48, L50, L57, L59, L60, L63, L64, L65, L70, L80, L90, L97, L100, L110, L120, L122, L128, L150, L200, L208, L216, L224, L232, L240, L248, L255, L256, L264, L272, L280, L288, L296, L297, L300, L336, L337, L500, L680, L700, L998, L999, L1000, L1024, L1999, L6403, L9999, L10000, L12345, L99999, L1000000, L214424576, L412560384, L509804544, L639025541, L642945024, L658545824, L1103515245, L2147483647, r7_0_6, hF.r8, g7_p hp, hF.P.nl, nn_le, e_headroomOf hF.C hF.P hK.O (Or.inl rfl) hp hk, ldA_n s7_19, hF.C.row, bd1_e, nI_add]
      rw [if_neg (by omega), bts_s]
      by_cases q : nI (X (20 + k)) < (nI (X (0 + k)) - nI 1) + nI (π.cap k * (π.delay k + 1))
      · rw [if_pos q, if_pos (decide_eq_true q)]
      · rw [if_neg q, if_neg (fun z => q (of_decide_eq_true z))])
    (by
      dsimp only
      unfold bX7_safe_4
      simp (disch := omega) only [hF.r8, g7_p hp, hF.P.nl, nn_le]
      rw [if_pos (by omega)])
  have h8 := lp_f (b := fun s5 : Int32 × Int32 => bX8_safe_9 SX8 (u1 mM 0 0 (nI 0)) 0 s5.1 s5.2) (N := fu) (r := bts c π.nl) (fun k => (bts c k, nI k)) π.nl (by unfold fu; omega)
    (by
      intro k hk
      dsimp only
      unfold bX8_safe_9 jX8_safe_42
      simp (disch := omega) only [L0, L1, L2, L3, L4, L5, L6, L7, L8, L9, L10, L11, L12, L13, L14, L15, L16, L17, L18, L19, L20, L21, L22, L23, L24, L25, L26, L27, L28, L29, L30, L31, L32, L33, L34, L35, L36, L37, L38, L39, L40, L41, L42, L43, L44, L45, L46, L47, L48, L50, L57, L59, L60, L63, L64, L65, L70, L80, L90, L97, L100, L110, L120, L122, L128, L150, L200, L208, L216, L224, L232, L240, L248, L255, L256, L264, L272, L280, L288, L296, L297, L300, L336, L337, L500, L680, L700, L998, L999, L1000, L1024, L1999, L6403, L9999, L10000, L12345, L99999, L1000000, L214424576, L412560384, L509804544, L639025541, L642945024, L658545824, L1103515245, L2147483647, g8_0, r8_1, r8_3, r8_4, r8_5, r8_6, r8_7, r8_8, r8_9, r8_10, r8_11, r8_12, r8_13, r8_14, r8_15, r8_26, r8_27, r8_28, r8_29, r8_30, r8_33, r8_34, r8_35, r8_36, r8_37, r8_39, r8_40, r8_41, r8_43, r8_44, r8_45, e8_links hM.P, bd1_e, nn_le, e8_headroomOf hM.R hM.P hK.O hk, ldA_n s8_15, hM.R.size k (by omega), nI_add, pk_mul]
      rw [if_neg (by omega), bts_s]
      by_cases q : nI (X (20 + k)) < (nI (X (0 + k)) - nI 1) + nI (π.cap k * (π.delay k + 1))
      · rw [if_pos q, if_pos (decide_eq_true q)]
      · rw [if_neg q, if_neg (fun z => q (of_decide_eq_true z))])
    (by
      dsimp only
      unfold bX8_safe_9
      simp (disch := omega) only [e8_links hM.P, bd1_e, nn_le]
      rw [if_pos (by omega)])
  unfold SimG fX7_safe fX8_safe
  simp only [L0, L1, L2, L3, L4, L5, L6, L7, L8, L9, L10, L11, L12, L13, L14, L15, L16, L17, L18, L19, L20, L21, L22, L23, L24, L25, L26, L27, L28, L29, L30, L31, L32, L33, L34, L35, L36, L37, L38, L39, L40, L41, L42, L43, L44, L45, L46, L47, L48, L50, L57, L59, L60, L63, L64, L65, L70, L80, L90, L97, L100, L110, L120, L122, L128, L150, L200, L208, L216, L224, L232, L240, L248, L255, L256, L264, L272, L280, L288, L296, L297, L300, L336, L337, L500, L680, L700, L998, L999, L1000, L1024, L1999, L6403, L9999, L10000, L12345, L99999, L1000000, L214424576, L412560384, L509804544, L639025541, L642945024, L658545824, L1103515245, L2147483647, g8_0, g7_0, bd1_e]
  rw [show ((nI 0, nI 0) : Int32 × Int32) = (bts c 0, nI 0) from rfl, h7, h8]
  exact ⟨_, _, rfl, rfl, S'⟩
theorem sim_onWay {mF mM : Mm} (S : Sim mF mM) (a : Int32) : SimG mF mM (fX7_onWay SX7 mF 0 a) (fX8_onWay SX8 mM 0 a) := by
  obtain ⟨π, X, U, I, p, top, tl, B, fc, fp, hF, hM0, hK⟩ := S
  have hM := hM0.thr (v := nI 0)
  have hnf := hK.O.nf
  have S' : Sim mF (u1 mM 0 0 (nI 0)) := ⟨π, X, U, I, p, top, tl, B, fc, fp, hF, hM, hK⟩
  unfold SimG fX7_onWay fX8_onWay jX8_onWay_53
  simp only [L0, L1, L2, L3, L4, L5, L6, L7, L8, L9, L10, L11, L12, L13, L14, L15, L16, L17, L18, L19, L20, L21, L22, L23, L24, L25, L26, L27, L28, L29, L30, L31, L32, L33, L34, L35, L36, L37, L38, L39, L40, L41, L42, L43, L44, L45, L46, L47, L48, L50, L57, L59, L60, L63, L64, L65, L70, L80, L90, L97, L100, L110, L120, L122, L128, L150, L200, L208, L216, L224, L232, L240, L248, L255, L256, L264, L272, L280, L288, L296, L297, L300, L336, L337, L500, L680, L700, L998, L999, L1000, L1024, L1999, L6403, L9999, L10000, L12345, L99999, L1000000, L214424576, L412560384, L509804544, L639025541, L642945024, L658545824, L1103515245, L2147483647, g8_0, r8_1, r8_3, r8_4, r8_5, r8_6, r8_7, r8_8, r8_9, r8_10, r8_11, r8_12, r8_13, r8_14, r8_15, r8_26, r8_27, r8_28, r8_29, r8_30, r8_33, r8_34, r8_35, r8_36, r8_37, r8_39, r8_40, r8_41, r8_43, r8_44, r8_45, g7_0, r7_0_6, bd1_e, hF.r8]
  rcases i32_cases a π.nf (by omega) with ⟨k, hk, rfl⟩ | h
  · simp (disch := omega) only [(fl_1 hF hM hK.O hk).1, (fl_1 hF hM hK.O hk).2, bd1_e, if_neg n10, ldA_n s7_19, hF.C.row, nI_add, e8_flowAt, ldA_n s8_15, hM.R.sent k (by omega), hM.R.deliv k (by omega), hM.R.flost k (by omega)]
    exact ⟨_, _, if_pos n10, rfl, S'⟩
  · simp only [(fl_0 hF hM hK.O h).1, (fl_0 hF hM hK.O h).2, bd1_e]
    exact ⟨_, _, rfl, rfl, S'⟩
/-- which of the first numbers, or none -/
theorem i32_12 {a : Int32} (h : a < nI 0 ∨ (¬ a < nI 0 ∧ nI 12 ≤ a)) : ∀ c, c < 12 → ¬ a = nI c := by
  rintro c hc rfl
  rcases h with h | ⟨_, h⟩
  · exact absurd ((nn_lt (by omega) (by omega)).mp h) (by omega)
  · exact absurd ((nn_le (by omega) (by omega)).mp h) (by omega)
theorem sim_flow {mF mM : Mm} (S : Sim mF mM) (a b : Int32) : SimG mF mM (fX7_flow SX7 mF 0 a b) (fX8_flow SX8 mM 0 a b) := by
  obtain ⟨π, X, U, I, p, top, tl, B, fc, fp, hF, hM0, hK⟩ := S
  have hM := hM0.thr (v := nI 0)
  have hnf := hK.O.nf
  have hp := hF.hp
  have S' : Sim mF (u1 mM 0 0 (nI 0)) := ⟨π, X, U, I, p, top, tl, B, fc, fp, hF, hM, hK⟩
  unfold SimG fX7_flow fX8_flow jX8_flow_23 jX8_flow_91
  simp only [L0, L1, L2, L3, L4, L5, L6, L7, L8, L9, L10, L11, L12, L13, L14, L15, L16, L17, L18, L19, L20, L21, L22, L23, L24, L25, L26, L27, L28, L29, L30, L31, L32, L33, L34, L35, L36, L37, L38, L39, L40, L41, L42, L43, L44, L45, L46, L47, L48, L50, L57, L59, L60, L63, L64, L65, L70, L80, L90, L97, L100, L110, L120, L122, L128, L150, L200, L208, L216, L224, L232, L240, L248, L255, L256, L264, L272, L280, L288, L296, L297, L300, L336, L337, L500, L680, L700, L998, L999, L1000, L1024, L1999, L6403, L9999, L10000, L12345, L99999, L1000000, L214424576, L412560384, L509804544, L639025541, L642945024, L658545824, L1103515245, L2147483647, g8_0, r8_1, r8_3, r8_4, r8_5, r8_6, r8_7, r8_8, r8_9, r8_10, r8_11, r8_12, r8_13, r8_14, r8_15, r8_26, r8_27, r8_28, r8_29, r8_30, r8_33, r8_34, r8_35, r8_36, r8_37, r8_39, r8_40, r8_41, r8_43, r8_44, r8_45, g7_p hp, r7_p_0 hp, r7_p_1 hp, r7_p_2 hp, r7_p_3 hp, r7_p_4 hp, r7_p_5 hp, r7_p_6 hp, r7_p_7 hp, r7_p_8 hp, g7_0, r7_0_6, bd1_e, hF.r8]
  rcases i32_cases a π.nf (by omega) with ⟨k, hk, rfl⟩ | h
  · have hL : ∀ c, c < 289 → ldA SX7 0 mF 19 (nI (c + k)) = some (nI (X (c + k))) := fun c hc => by rw [ldA_n s7_19 (by omega) (by omega), hF.C.row _ (by omega)]
    have h1 : ldA SX7 0 mF (p + 5) (nI k) = some (nI (π.hops k)) := by rw [ldA_n (s7_p5 hp) (by omega) (by omega), hF.P.hops k hk]
    have h2 : ldA SX8 0 (u1 mM 0 0 (nI 0)) 13 (nI k) = some (nI (π.hops k)) := by rw [ldA_n s8_13 (by omega) (by omega), hM.P.hops k hk]
    simp only [(fl_1 hF hM hK.O hk).1, (fl_1 hF hM hK.O hk).2, bd1_e, if_neg n10, nI_add, e8_flowAt, h1, h2, hL 200 (by omega), hL 208 (by omega), hL 216 (by omega), hL 224 (by omega), hL 232 (by omega), hL 240 (by omega), hL 256 (by omega), hL 264 (by omega), hL 272 (by omega), hL 280 (by omega), hL 288 (by omega)]
    rw [if_pos n10]
    rcases i32_cases b 12 (by omega) with ⟨w, hw, rfl⟩ | h
    · have hk8 : k < 8 := by omega
      have hR : ∀ j, j < 12 → ldA SX8 0 (u1 mM 0 0 (nI 0)) 15 (nI (240 + 12 * k + j)) = some ((u1 mM 0 0 (nI 0)).1 15 (240 + 12 * k + j)) := fun j hj => ldA_n s8_15 (by omega) (by omega)
      simp only [hR 10 (by omega), hR 9 (by omega), nI_add, hR w hw, bd1_e]
      match w, hw with
      | 0, _ => exact ⟨_, _, rfl, congrArg (fun z => some (z, u1 mM 0 0 (nI 0))) (hM.R.rate k hk8), S'⟩
      | 1, _ => exact ⟨_, _, rfl, congrArg (fun z => some (z, u1 mM 0 0 (nI 0))) (hM.R.target k hk8), S'⟩
      | 2, _ => exact ⟨_, _, rfl, congrArg (fun z => some (z, u1 mM 0 0 (nI 0))) (hM.R.stc k hk8), S'⟩
      | 3, _ => exact ⟨_, _, rfl, congrArg (fun z => some (z, u1 mM 0 0 (nI 0))) (hM.R.stt k hk8), S'⟩
      | 4, _ => exact ⟨_, _, rfl, congrArg (fun z => some (z, u1 mM 0 0 (nI 0))) (hM.R.sent k hk8), S'⟩
      | 5, _ => exact ⟨_, _, rfl, congrArg (fun z => some (z, u1 mM 0 0 (nI 0))) (hM.R.deliv k hk8), S'⟩
      | 6, _ => exact ⟨_, _, rfl, congrArg (fun z => some (z, u1 mM 0 0 (nI 0))) (hM.R.notices k hk8), S'⟩
      | 7, _ => exact ⟨_, _, rfl, congrArg (fun z => some (z, u1 mM 0 0 (nI 0))) (hM.R.on k hk8), S'⟩
      | 8, _ => exact ⟨_, _, rfl, congrArg (fun z => some (z, u1 mM 0 0 (nI 0))) (hM.R.credit k hk8), S'⟩
      | 9, _ => exact ⟨_, _, rfl, rfl, S'⟩
      | 10, _ => exact ⟨_, _, rfl, congrArg (fun z => some (z, u1 mM 0 0 (nI 0))) (hM.R.byc k hk8), S'⟩
      | 11, _ => exact ⟨_, _, rfl, congrArg (fun z => some (z, u1 mM 0 0 (nI 0))) (hM.R.byt k hk8), S'⟩
    · have hne := i32_12 h
      simp only [if_neg (hne 0 (by omega)), if_neg (hne 1 (by omega)), if_neg (hne 2 (by omega)), if_neg (hne 3 (by omega)), if_neg (hne 4 (by omega)), if_neg (hne 5 (by omega)), if_neg (hne 6 (by omega)), if_neg (hne 7 (by omega)), if_neg (hne 8 (by omega)), if_neg (hne 9 (by omega)), if_neg (hne 10 (by omega)), if_neg (hne 11 (by omega))]
      rcases h with h | ⟨h1, h2⟩
      · rw [if_pos h]
        exact ⟨_, _, rfl, rfl, S'⟩
      · have h3 : ¬ b ≤ nI 11 := fun c => by
          have c1 := Int32.le_iff_toInt_le.mp c
          have c2 := Int32.le_iff_toInt_le.mp h2
          have z1 : (nI 11).toInt = 11 := rfl
          have z2 : (nI 12).toInt = 12 := rfl
          omega
        rw [if_neg h1, if_neg h3]
        exact ⟨_, _, rfl, rfl, S'⟩
  · simp only [(fl_0 hF hM hK.O h).1, (fl_0 hF hM hK.O h).2, bd1_e]
    exact ⟨_, _, rfl, rfl, S'⟩
/-! sums -/
theorem e_sum {m : Mm} {x b n : Nat} {X : Nat → Nat} (h : ∀ i, i < n → m.1 x (b + i) = nI (X (b + i))) {N : Nat} (hS : SX7[x]? = some (.inl (0, N))) (hb : b + n ≤ N) (hN : N < 10000) : fX7_sum SX7 m x (nI b) (nI n) = some (nI (sm n (fun i => X (b + i)))) := by
  unfold fX7_sum
  simp only [L0, L1, L2, L3, L4, L5, L6, L7, L8, L9, L10, L11, L12, L13, L14, L15, L16, L17, L18, L19, L20, L21, L22, L23, L24, L25, L26, L27, L28, L29, L30, L31, L32, L33, L34, L35, L36, L37, L38, L39, L40, L41, L42, L43, L44, L45, L46, L47, L48, L50, L57, L59, L60, L63, L64, L65, L70, L80, L90, L97, L100, L110, L120, L122, L128, L150, L200, L208, L216, L224, L232, L240, L248, L255, L256, L264, L272, L280, L288, L296, L297, L300, L336, L337, L500, L680, L700, L998, L999, L1000, L1024, L1999, L6403, L9999, L10000, L12345, L99999, L1000000, L214424576, L412560384, L509804544, L639025541, L642945024, L658545824, L1103515245, L2147483647]
  have h7 := lp_f (b := fun s2 : Int32 × Int32 => bX7_sum_5 SX7 m x (nI b) (nI n) s2.1 s2.2) (N := fu) (r := nI (sm n (fun i => X (b + i)))) (fun k => (nI (sm k (fun i => X (b + i))), nI k)) n (by unfold fu; omega)
    (by
      intro k hk
      dsimp only
      unfold bX7_sum_5
      simp (disch := omega) only [L0, L1, L2, L3, L4, L5, L6, L7, L8, L9, L10, L11, L12, L13, L14, L15, L16, L17, L18, L19, L20, L21, L22, L23, L24, L25, L26, L27, L28, L29, L30, L31, L32, L33, L34, L35, L36, L37, L38, L39, L40, L41, L42, L43, L44, L45, L46, L47, L48, L50, L57, L59, L60, L63, L64, L65, L70, L80, L90, L97, L100, L110, L120, L122, L128, L150, L200, L208, L216, L224, L232, L240, L248, L255, L256, L264, L272, L280, L288, L296, L297, L300, L336, L337, L500, L680, L700, L998, L999, L1000, L1024, L1999, L6403, L9999, L10000, L12345, L99999, L1000000, L214424576, L412560384, L509804544, L639025541, L642945024, L658545824, L1103515245, L2147483647, nn_le, nI_add, ldA_n hS, h k hk, bd1_e]
      rw [if_neg (by omega), sm_s])
    (by
      dsimp only
      unfold bX7_sum_5
      simp (disch := omega) only [nn_le]
      rw [if_pos (by omega)])
  rw [show ((nI 0, nI 0) : Int32 × Int32) = (nI (sm 0 (fun i => X (b + i))), nI 0) from rfl, h7, bd1_e]
theorem e8_sumOf {m : Mm} {π : Pl} {w : Nat} {g : Nat → Nat} (P : PM m π) (O : π.ok) (hw : w < 12) (h : ∀ f, f < π.nf → m.1 15 (240 + 12 * f + w) = nI (g f)) : fX8_sumOf SX8 m 0 (nI w) = some (nI (sm π.nf g)) := by
  have hnf := O.nf
  unfold fX8_sumOf
  simp only [L0, L1, L2, L3, L4, L5, L6, L7, L8, L9, L10, L11, L12, L13, L14, L15, L16, L17, L18, L19, L20, L21, L22, L23, L24, L25, L26, L27, L28, L29, L30, L31, L32, L33, L34, L35, L36, L37, L38, L39, L40, L41, L42, L43, L44, L45, L46, L47, L48, L50, L57, L59, L60, L63, L64, L65, L70, L80, L90, L97, L100, L110, L120, L122, L128, L150, L200, L208, L216, L224, L232, L240, L248, L255, L256, L264, L272, L280, L288, L296, L297, L300, L336, L337, L500, L680, L700, L998, L999, L1000, L1024, L1999, L6403, L9999, L10000, L12345, L99999, L1000000, L214424576, L412560384, L509804544, L639025541, L642945024, L658545824, L1103515245, L2147483647, g8_0]
  have h7 := lp_f (b := fun s4 : Int32 × Int32 => bX8_sumOf_4 SX8 m 0 (nI w) s4.1 s4.2) (N := fu) (r := nI (sm π.nf g)) (fun k => (nI (sm k g), nI k)) π.nf (by unfold fu; omega)
    (by
      intro k hk
      dsimp only
      unfold bX8_sumOf_4
      simp (disch := omega) only [L0, L1, L2, L3, L4, L5, L6, L7, L8, L9, L10, L11, L12, L13, L14, L15, L16, L17, L18, L19, L20, L21, L22, L23, L24, L25, L26, L27, L28, L29, L30, L31, L32, L33, L34, L35, L36, L37, L38, L39, L40, L41, L42, L43, L44, L45, L46, L47, L48, L50, L57, L59, L60, L63, L64, L65, L70, L80, L90, L97, L100, L110, L120, L122, L128, L150, L200, L208, L216, L224, L232, L240, L248, L255, L256, L264, L272, L280, L288, L296, L297, L300, L336, L337, L500, L680, L700, L998, L999, L1000, L1024, L1999, L6403, L9999, L10000, L12345, L99999, L1000000, L214424576, L412560384, L509804544, L639025541, L642945024, L658545824, L1103515245, L2147483647, g8_0, r8_1, r8_3, r8_4, r8_5, r8_6, r8_7, r8_8, r8_9, r8_10, r8_11, r8_12, r8_13, r8_14, r8_15, r8_26, r8_27, r8_28, r8_29, r8_30, r8_33, r8_34, r8_35, r8_36, r8_37, r8_39, r8_40, r8_41, r8_43, r8_44, r8_45, e8_flows P, nn_le, e8_flowAt, nI_add, ldA_n s8_15, h k hk, bd1_e]
      rw [if_neg (by omega), sm_s])
    (by
      dsimp only
      unfold bX8_sumOf_4
      simp (disch := omega) only [e8_flows P, bd1_e, nn_le]
      rw [if_pos (by omega)])
  rw [show ((nI 0, nI 0) : Int32 × Int32) = (nI (sm 0 g), nI 0) from rfl, h7, bd1_e]
theorem e8_lostAll {m : Mm} {π : Pl} {X : Nat → Nat} (R : RM m X) (P : PM m π) (O : π.ok) : fX8_lostAll SX8 m 0 = some (nI (sm π.nl (fun l => X (50 + l)))) := by
  have hnl := O.nl
  unfold fX8_lostAll
  simp only [L0, L1, L2, L3, L4, L5, L6, L7, L8, L9, L10, L11, L12, L13, L14, L15, L16, L17, L18, L19, L20, L21, L22, L23, L24, L25, L26, L27, L28, L29, L30, L31, L32, L33, L34, L35, L36, L37, L38, L39, L40, L41, L42, L43, L44, L45, L46, L47, L48, L50, L57, L59, L60, L63, L64, L65, L70, L80, L90, L97, L100, L110, L120, L122, L128, L150, L200, L208, L216, L224, L232, L240, L248, L255, L256, L264, L272, L280, L288, L296, L297, L300, L336, L337, L500, L680, L700, L998, L999, L1000, L1024, L1999, L6403, L9999, L10000, L12345, L99999, L1000000, L214424576, L412560384, L509804544, L639025541, L642945024, L658545824, L1103515245, L2147483647, g8_0]
  have h7 := lp_f (b := fun s3 : Int32 × Int32 => bX8_lostAll_4 SX8 m 0 s3.1 s3.2) (N := fu) (r := nI (sm π.nl (fun l => X (50 + l)))) (fun k => (nI (sm k (fun l => X (50 + l))), nI k)) π.nl (by unfold fu; omega)
    (by
      intro k hk
      dsimp only
      unfold bX8_lostAll_4
      simp (disch := omega) only [L0, L1, L2, L3, L4, L5, L6, L7, L8, L9, L10, L11, L12, L13, L14, L15, L16, L17, L18, L19, L20, L21, L22, L23, L24, L25, L26, L27, L28, L29, L30, L31, L32, L33, L34, L35, L36, L37, L38, L39, L40, L41, L42, L43, L44, L45, L46, L47, L48, L50, L57, L59, L60, L63, L64, L65, L70, L80, L90, L97, L100, L110, L120, L122, L128, L150, L200, L208, L216, L224, L232, L240, L248, L255, L256, L264, L272, L280, L288, L296, L297, L300, L336, L337, L500, L680, L700, L998, L999, L1000, L1024, L1999, L6403, L9999, L10000, L12345, L99999, L1000000, L214424576, L412560384, L509804544, L639025541, L642945024, L658545824, L1103515245, L2147483647, g8_0, r8_1, r8_3, r8_4, r8_5, r8_6, r8_7, r8_8, r8_9, r8_10, r8_11, r8_12, r8_13, r8_14, r8_15, r8_26, r8_27, r8_28, r8_29, r8_30, r8_33, r8_34, r8_35, r8_36, r8_37, r8_39, r8_40, r8_41, r8_43, r8_44, r8_45, e8_links P, nn_le, nI_add, pk_mul, ldA_n s8_15, R.lost k (by omega), bd1_e]
      rw [if_neg (by omega), sm_s])
    (by
      dsimp only
      unfold bX8_lostAll_4
      simp (disch := omega) only [e8_links P, bd1_e, nn_le]
      rw [if_pos (by omega)])
  rw [show ((nI 0, nI 0) : Int32 × Int32) = (nI (sm 0 (fun l => X (50 + l))), nI 0) from rfl, h7, bd1_e]
theorem e8_asked {m : Mm} {X : Nat → Nat} (R : RM m X) {l : Nat} (hl : l < 10) : fX8_asked SX8 m 0 (nI l) = some (nI (X (40 + l) % 2)) := by
  have h2 : X (40 + l) % 2 < 2 := Nat.mod_lt _ (by decide)
  have hb0 := R.bits l 0 hl (by omega)
  rw [Nat.pow_zero, Nat.div_one, Nat.add_zero] at hb0
  unfold fX8_asked jX8_asked_21
  simp (disch := omega) only [L0, L1, L2, L3, L4, L5, L6, L7, L8, L9, L10, L11, L12, L13, L14, L15, L16, L17, L18, L19, L20, L21, L22, L23, L24, L25, L26, L27, L28, L29, L30, L31, L32, L33, L34, L35, L36, L37, L38, L39, L40, L41, L42, L43, L44, L45, L46, L47, L48, L50, L57, L59, L60, L63, L64, L65, L70, L80, L90, L97, L100, L110, L120, L122, L128, L150, L200, L208, L216, L224, L232, L240, L248, L255, L256, L264, L272, L280, L288, L296, L297, L300, L336, L337, L500, L680, L700, L998, L999, L1000, L1024, L1999, L6403, L9999, L10000, L12345, L99999, L1000000, L214424576, L412560384, L509804544, L639025541, L642945024, L658545824, L1103515245, L2147483647, g8_0, r8_1, r8_3, r8_4, r8_5, r8_6, r8_7, r8_8, r8_9, r8_10, r8_11, r8_12, r8_13, r8_14, r8_15, r8_26, r8_27, r8_28, r8_29, r8_30, r8_33, r8_34, r8_35, r8_36, r8_37, r8_39, r8_40, r8_41, r8_43, r8_44, r8_45, nI_add, pk_mul, ldA_n s8_15, hb0, bd1_e, nn_eq]
  by_cases e : X (40 + l) % 2 = 1
  · rw [e]; rfl
  · have e0 : X (40 + l) % 2 = 0 := by omega
    rw [e0]; rfl
theorem e8_askedMany {m : Mm} {π : Pl} {X : Nat → Nat} (R : RM m X) (P : PM m π) (O : π.ok) : fX8_askedMany SX8 m 0 = some (nI (sm π.nl (fun l => X (40 + l) % 2))) := by
  have hnl := O.nl
  unfold fX8_askedMany
  simp only [L0, L1, L2, L3, L4, L5, L6, L7, L8, L9, L10, L11, L12, L13, L14, L15, L16, L17, L18, L19, L20, L21, L22, L23, L24, L25, L26, L27, L28, L29, L30, L31, L32, L33, L34, L35, L36, L37, L38, L39, L40, L41, L42, L43, L44, L45, L46, L47, L48, L50, L57, L59, L60, L63, L64, L65, L70, L80, L90, L97, L100, L110, L120, L122, L128, L150, L200, L208, L216, L224, L232, L240, L248, L255, L256, L264, L272, L280, L288, L296, L297, L300, L336, L337, L500, L680, L700, L998, L999, L1000, L1024, L1999, L6403, L9999, L10000, L12345, L99999, L1000000, L214424576, L412560384, L509804544, L639025541, L642945024, L658545824, L1103515245, L2147483647, g8_0]
  have h7 := lp_f (b := fun s3 : Int32 × Int32 => bX8_askedMany_4 SX8 m 0 s3.1 s3.2) (N := fu) (r := nI (sm π.nl (fun l => X (40 + l) % 2))) (fun k => (nI (sm k (fun l => X (40 + l) % 2)), nI k)) π.nl (by unfold fu; omega)
    (by
      intro k hk
      have h2 : X (40 + k) % 2 < 2 := Nat.mod_lt _ (by decide)
      dsimp only
      unfold bX8_askedMany_4 jX8_askedMany_26
      simp (disch := omega) only [L0, L1, L2, L3, L4, L5, L6, L7, L8, L9, L10, L11, L12, L13, L14, L15, L16, L17, L18, L19, L20, L21, L22, L23, L24, L25, L26, L27, L28, L29, L30, L31, L32, L33, L34, L35, L36, L37, L38, L39, L40, L41, L42, L43, L44, L45, L46, L47, L48, L50, L57, L59, L60, L63, L64, L65, L70, L80, L90, L97, L100, L110, L120, L122, L128, L150, L200, L208, L216, L224, L232, L240, L248, L255, L256, L264, L272, L280, L288, L296, L297, L300, L336, L337, L500, L680, L700, L998, L999, L1000, L1024, L1999, L6403, L9999, L10000, L12345, L99999, L1000000, L214424576, L412560384, L509804544, L639025541, L642945024, L658545824, L1103515245, L2147483647, e8_links P, nn_le, e8_asked R (show k < 10 by omega), bd1_e, nn_eq, nI_add]
      rw [if_neg (by omega), sm_s]
      by_cases e : X (40 + k) % 2 = 0
      · rw [if_pos e, e]
      · rw [if_neg e, show X (40 + k) % 2 = 1 by omega])
    (by
      dsimp only
      unfold bX8_askedMany_4
      simp (disch := omega) only [e8_links P, bd1_e, nn_le]
      rw [if_pos (by omega)])
  rw [show ((nI 0, nI 0) : Int32 × Int32) = (nI (sm 0 (fun l => X (40 + l) % 2)), nI 0) from rfl, h7, bd1_e]
theorem e_askedPause {m : Mm} {π : Pl} {X : Nat → Nat} {p : Nat} (C : CF m 19 X) (P : PF m p π) (O : π.ok) (hp : p = 21 ∨ p = 31) (hr : rf SX7 m 0 8 = p) (hJ : J π X) : fX7_askedPause SX7 m 0 = some (nI (sm π.nl (fun l => X (40 + l) % 2))) := by
  have hnl := O.nl
  unfold fX7_askedPause
  simp only [L0, L1, L2, L3, L4, L5, L6, L7, L8, L9, L10, L11, L12, L13, L14, L15, L16, L17, L18, L19, L20, L21, L22, L23, L24, L25, L26, L27, L28, L29, L30, L31, L32, L33, L34, L35, L36, L37, L38, L39, L40, L41, L42, L43, L44, L45, L46, L47, L48, L50, L57, L59, L60, L63, L64, L65, L70, L80, L90, L97, L100, L110, L120, L122, L128, L150, L200, L208, L216, L224, L232, L240, L248, L255, L256, L264, L272, L280, L288, L296, L297, L300, L336, L337, L500, L680, L700, L998, L999, L1000, L1024, L1999, L6403, L9999, L10000, L12345, L99999, L1000000, L214424576, L412560384, L509804544, L639025541, L642945024, L658545824, L1103515245, L2147483647, g7_0]
  have h7 := lp_f (b := fun s3 : Int32 × Int32 => bX7_askedPause_4 SX7 m 0 s3.1 s3.2) (N := fu) (r := nI (sm π.nl (fun l => X (40 + l) % 2))) (fun k => (nI (sm k (fun l => X (40 + l) % 2)), nI k)) π.nl (by unfold fu; omega)
    (by
      intro k hk
      dsimp only
      unfold bX7_askedPause_4
      simp (disch := omega) only [L0, L1, L2, L3, L4, L5, L6, L7, L8, L9, L10, L11, L12, L13, L14, L15, L16, L17, L18, L19, L20, L21, L22, L23, L24, L25, L26, L27, L28, L29, L30, L31, L32, L33, L34, L35, L36, L37, L38, L39, L40, L41, L42, L43, L44, L45, L46, L47, L48, L50, L57, L59, L60, L63, L64, L65, L70, L80, L90, L97, L100, L110, L120, L122, L128, L150, L200, L208, L216, L224, L232, L240, L248, L255, L256, L264, L272, L280, L288, L296, L297, L300, L336, L337, L500, L680, L700, L998, L999, L1000, L1024, L1999, L6403, L9999, L10000, L12345, L99999, L1000000, L214424576, L412560384, L509804544, L639025541, L642945024, L658545824, L1103515245, L2147483647, hr, g7_p hp, r7_0_6, P.nl, nn_le, ldA_n s7_19, C.row, nI_add, bd1_e, bitJ _ (hJ.asked k (by omega))]
      rw [if_neg (by omega), sm_s])
    (by
      dsimp only
      unfold bX7_askedPause_4
      simp (disch := omega) only [hr, g7_p hp, P.nl, nn_le]
      rw [if_pos (by omega)])
  rw [show ((nI 0, nI 0) : Int32 × Int32) = (nI (sm 0 (fun l => X (40 + l) % 2)), nI 0) from rfl, h7, bd1_e]
