/-! ===== the model: small things ===== -/
theorem e8_links {m : Mm} {π : Pl} (P : PM m π) : fX8_links SX8 m 0 = some (nI π.nl) := by
  unfold fX8_links
  simp (disch := omega) only [L0, L1, L2, L3, L4, L5, L6, L7, L8, L9, L10, L11, L12, L13, L14, L15, L16, L17, L18, L19, L20, L21, L22, L23, L24, L25, L26, L27, L28, L29, L30, L31, L32, L33, L34, L35, L36, L37, L38, L39, L40, L41, L42, L43, L44, L45, L46, L47, L48, L50, L57, L59, L60, L63, L64, L65, L70, L80, L90, L97, L100, L110, L120, L122, L128, L150, L200, L208, L216, L224, L232, L240, L248, L255, L256, L264, L272, L280, L288, L296, L297, L300, L336, L337, L500, L680, L700, L998, L999, L1000, L1024, L1999, L6403, L9999, L10000, L12345, L99999, L1000000, L214424576, L412560384, L509804544, L639025541, L642945024, L658545824, L1103515245, L2147483647, g8_0, r8_1, r8_3, r8_4, r8_5, r8_6, r8_7, r8_8, r8_9, r8_10, r8_11, r8_12, r8_13, r8_14, r8_15, r8_26, r8_27, r8_28, r8_29, r8_30, r8_33, r8_34, r8_35, r8_36, r8_37, r8_39, r8_40, r8_41, r8_43, r8_44, r8_45, nI_add, pk_mul, narA_0, bd1_e, bd2_e, bdR_l, bdR_r, ldA_n s8_2, P.nl]
theorem e8_flows {m : Mm} {π : Pl} (P : PM m π) : fX8_flows SX8 m 0 = some (nI π.nf) := by
  unfold fX8_flows
  simp (disch := omega) only [L0, L1, L2, L3, L4, L5, L6, L7, L8, L9, L10, L11, L12, L13, L14, L15, L16, L17, L18, L19, L20, L21, L22, L23, L24, L25, L26, L27, L28, L29, L30, L31, L32, L33, L34, L35, L36, L37, L38, L39, L40, L41, L42, L43, L44, L45, L46, L47, L48, L50, L57, L59, L60, L63, L64, L65, L70, L80, L90, L97, L100, L110, L120, L122, L128, L150, L200, L208, L216, L224, L232, L240, L248, L255, L256, L264, L272, L280, L288, L296, L297, L300, L336, L337, L500, L680, L700, L998, L999, L1000, L1024, L1999, L6403, L9999, L10000, L12345, L99999, L1000000, L214424576, L412560384, L509804544, L639025541, L642945024, L658545824, L1103515245, L2147483647, g8_0, r8_1, r8_3, r8_4, r8_5, r8_6, r8_7, r8_8, r8_9, r8_10, r8_11, r8_12, r8_13, r8_14, r8_15, r8_26, r8_27, r8_28, r8_29, r8_30, r8_33, r8_34, r8_35, r8_36, r8_37, r8_39, r8_40, r8_41, r8_43, r8_44, r8_45, nI_add, pk_mul, narA_0, bd1_e, bd2_e, bdR_l, bdR_r, ldA_n s8_2, P.nf]
theorem e8_flowAt (m : Mm) (f : Nat) : fX8_flowAt SX8 m (nI f) = some (nI (240 + 12 * f)) := by
  unfold fX8_flowAt
  simp only [L0, L1, L2, L3, L4, L5, L6, L7, L8, L9, L10, L11, L12, L13, L14, L15, L16, L17, L18, L19, L20, L21, L22, L23, L24, L25, L26, L27, L28, L29, L30, L31, L32, L33, L34, L35, L36, L37, L38, L39, L40, L41, L42, L43, L44, L45, L46, L47, L48, L50, L57, L59, L60, L63, L64, L65, L70, L80, L90, L97, L100, L110, L120, L122, L128, L150, L200, L208, L216, L224, L232, L240, L248, L255, L256, L264, L272, L280, L288, L296, L297, L300, L336, L337, L500, L680, L700, L998, L999, L1000, L1024, L1999, L6403, L9999, L10000, L12345, L99999, L1000000, L214424576, L412560384, L509804544, L639025541, L642945024, L658545824, L1103515245, L2147483647, nI_add, pk_mul]
theorem e8_isOn {m : Mm} {X : Nat → Nat} (R : RM m X) {f : Nat} (hf : f < 8) (h : X (264 + f) ≤ 1) : fX8_isOn SX8 m 0 (nI f) = some (nI (X (264 + f))) := by
  unfold fX8_isOn jX8_isOn_21
  simp (disch := omega) only [L0, L1, L2, L3, L4, L5, L6, L7, L8, L9, L10, L11, L12, L13, L14, L15, L16, L17, L18, L19, L20, L21, L22, L23, L24, L25, L26, L27, L28, L29, L30, L31, L32, L33, L34, L35, L36, L37, L38, L39, L40, L41, L42, L43, L44, L45, L46, L47, L48, L50, L57, L59, L60, L63, L64, L65, L70, L80, L90, L97, L100, L110, L120, L122, L128, L150, L200, L208, L216, L224, L232, L240, L248, L255, L256, L264, L272, L280, L288, L296, L297, L300, L336, L337, L500, L680, L700, L998, L999, L1000, L1024, L1999, L6403, L9999, L10000, L12345, L99999, L1000000, L214424576, L412560384, L509804544, L639025541, L642945024, L658545824, L1103515245, L2147483647, g8_0, r8_1, r8_3, r8_4, r8_5, r8_6, r8_7, r8_8, r8_9, r8_10, r8_11, r8_12, r8_13, r8_14, r8_15, r8_26, r8_27, r8_28, r8_29, r8_30, r8_33, r8_34, r8_35, r8_36, r8_37, r8_39, r8_40, r8_41, r8_43, r8_44, r8_45, nI_add, pk_mul, narA_0, bd1_e, bd2_e, bdR_l, bdR_r, e8_flowAt, ldA_n s8_15, R.on f hf, nn_eq]
  by_cases e : X (264 + f) = 1
  · rw [e]; rfl
  · have e0 : X (264 + f) = 0 := by omega
    rw [e0]; rfl
theorem e8_queueOf {m : Mm} {X : Nat → Nat} (R : RM m X) (hF : fillOK X) {l : Nat} (hl : l < 10) : fX8_queueOf SX8 m 0 (nI l) = some (nI (X (30 + l))) := by
  unfold fX8_queueOf
  simp only [L0, L1, L2, L3, L4, L5, L6, L7, L8, L9, L10, L11, L12, L13, L14, L15, L16, L17, L18, L19, L20, L21, L22, L23, L24, L25, L26, L27, L28, L29, L30, L31, L32, L33, L34, L35, L36, L37, L38, L39, L40, L41, L42, L43, L44, L45, L46, L47, L48, L50, L57, L59, L60, L63, L64, L65, L70, L80, L90, L97, L100, L110, L120, L122, L128, L150, L200, L208, L216, L224, L232, L240, L248, L255, L256, L264, L272, L280, L288, L296, L297, L300, L336, L337, L500, L680, L700, L998, L999, L1000, L1024, L1999, L6403, L9999, L10000, L12345, L99999, L1000000, L214424576, L412560384, L509804544, L639025541, L642945024, L658545824, L1103515245, L2147483647, g8_0, r8_1, r8_3, r8_4, r8_5, r8_6, r8_7, r8_8, r8_9, r8_10, r8_11, r8_12, r8_13, r8_14, r8_15, r8_26, r8_27, r8_28, r8_29, r8_30, r8_33, r8_34, r8_35, r8_36, r8_37, r8_39, r8_40, r8_41, r8_43, r8_44, r8_45]
  have h := lp_f (b := fun s2 : Int32 × Int32 => bX8_queueOf_4 SX8 m 0 (nI l) s2.1 s2.2) (N := fu) (r := nI (X (30 + l))) (fun k => (nI (sm k (fun g => X (120 + l * 8 + g))), nI k)) 8 (by unfold fu; omega)
    (by
      intro k hk
      dsimp only
      unfold bX8_queueOf_4
      simp (disch := omega) only [L0, L1, L2, L3, L4, L5, L6, L7, L8, L9, L10, L11, L12, L13, L14, L15, L16, L17, L18, L19, L20, L21, L22, L23, L24, L25, L26, L27, L28, L29, L30, L31, L32, L33, L34, L35, L36, L37, L38, L39, L40, L41, L42, L43, L44, L45, L46, L47, L48, L50, L57, L59, L60, L63, L64, L65, L70, L80, L90, L97, L100, L110, L120, L122, L128, L150, L200, L208, L216, L224, L232, L240, L248, L255, L256, L264, L272, L280, L288, L296, L297, L300, L336, L337, L500, L680, L700, L998, L999, L1000, L1024, L1999, L6403, L9999, L10000, L12345, L99999, L1000000, L214424576, L412560384, L509804544, L639025541, L642945024, L658545824, L1103515245, L2147483647, g8_0, r8_1, r8_3, r8_4, r8_5, r8_6, r8_7, r8_8, r8_9, r8_10, r8_11, r8_12, r8_13, r8_14, r8_15, r8_26, r8_27, r8_28, r8_29, r8_30, r8_33, r8_34, r8_35, r8_36, r8_37, r8_39, r8_40, r8_41, r8_43, r8_44, r8_45, nI_add, pk_mul, narA_0, bd1_e, bd2_e, bdR_l, bdR_r, nn_le, ldA_n s8_15, R.q l k hl hk]
      rw [if_neg (by omega), sm_s])
    (by
      dsimp only
      unfold bX8_queueOf_4
      simp (disch := omega) only [L0, L1, L2, L3, L4, L5, L6, L7, L8, L9, L10, L11, L12, L13, L14, L15, L16, L17, L18, L19, L20, L21, L22, L23, L24, L25, L26, L27, L28, L29, L30, L31, L32, L33, L34, L35, L36, L37, L38, L39, L40, L41, L42, L43, L44, L45, L46, L47, L48, L50, L57, L59, L60, L63, L64, L65, L70, L80, L90, L97, L100, L110, L120, L122, L128, L150, L200, L208, L216, L224, L232, L240, L248, L255, L256, L264, L272, L280, L288, L296, L297, L300, L336, L337, L500, L680, L700, L998, L999, L1000, L1024, L1999, L6403, L9999, L10000, L12345, L99999, L1000000, L214424576, L412560384, L509804544, L639025541, L642945024, L658545824, L1103515245, L2147483647, nn_le]
      rw [if_pos (by omega), hF l hl])
  have e : (nI (sm 0 (fun g => X (120 + l * 8 + g))), nI 0) = (nI 0, nI 0) := rfl
  rw [e] at h
  rw [h, bd1_e]
theorem hpF_s (path : Nat → Nat) (l n : Nat) : hpF path l (n + 1) = if hpF path l n ≠ 0 then hpF path l n else if path n = l then n + 1 else 0 := rfl
theorem hpF_stay {path : Nat → Nat} {l k n : Nat} (h : hpF path l k ≠ 0) (hk : k ≤ n) : hpF path l n = hpF path l k := by
  induction n with
  | zero => have : k = 0 := by omega
            rw [this]
  | succ n ih =>
    by_cases e : k = n + 1
    · rw [e]
    · have := ih (by omega)
      rw [hpF_s, this, if_pos h]
theorem e8_hopOf {m : Mm} {π : Pl} (P : PM m π) (O : π.ok) {f l : Nat} (hf : f < π.nf) (hl : l < 10) : fX8_hopOf SX8 m 0 (nI f) (nI l) = some (nxI (π.hp f l)) := by
  have hnl := O.nl
  have hnf := O.nf
  have hh := O.hops f hf
  unfold fX8_hopOf
  simp only [L0, L1, L2, L3, L4, L5, L6, L7, L8, L9, L10, L11, L12, L13, L14, L15, L16, L17, L18, L19, L20, L21, L22, L23, L24, L25, L26, L27, L28, L29, L30, L31, L32, L33, L34, L35, L36, L37, L38, L39, L40, L41, L42, L43, L44, L45, L46, L47, L48, L50, L57, L59, L60, L63, L64, L65, L70, L80, L90, L97, L100, L110, L120, L122, L128, L150, L200, L208, L216, L224, L232, L240, L248, L255, L256, L264, L272, L280, L288, L296, L297, L300, L336, L337, L500, L680, L700, L998, L999, L1000, L1024, L1999, L6403, L9999, L10000, L12345, L99999, L1000000, L214424576, L412560384, L509804544, L639025541, L642945024, L658545824, L1103515245, L2147483647, g8_0, r8_1, r8_3, r8_4, r8_5, r8_6, r8_7, r8_8, r8_9, r8_10, r8_11, r8_12, r8_13, r8_14, r8_15, r8_26, r8_27, r8_28, r8_29, r8_30, r8_33, r8_34, r8_35, r8_36, r8_37, r8_39, r8_40, r8_41, r8_43, r8_44, r8_45]
  obtain ⟨r, h1, h2⟩ := lp_n (b := fun s3 : Int32 => bX8_hopOf_2 SX8 m 0 (nI f) (nI l) s3) (N := fu) (s0 := nI 0)
    (fun k s => s = nI k ∧ hpF (π.path f) l k = 0)
    (fun r => (r = .inr () ∧ π.hp f l = 0) ∨ ∃ k, r = .inl (nI k) ∧ π.hp f l = k + 1)
    (π.hops f) ⟨rfl, rfl⟩ (by unfold fu; omega)
    (by
      rintro k s hk ⟨rfl, h0⟩
      have hp := O.path f k hf hk
      unfold bX8_hopOf_2
      simp (disch := omega) only [L0, L1, L2, L3, L4, L5, L6, L7, L8, L9, L10, L11, L12, L13, L14, L15, L16, L17, L18, L19, L20, L21, L22, L23, L24, L25, L26, L27, L28, L29, L30, L31, L32, L33, L34, L35, L36, L37, L38, L39, L40, L41, L42, L43, L44, L45, L46, L47, L48, L50, L57, L59, L60, L63, L64, L65, L70, L80, L90, L97, L100, L110, L120, L122, L128, L150, L200, L208, L216, L224, L232, L240, L248, L255, L256, L264, L272, L280, L288, L296, L297, L300, L336, L337, L500, L680, L700, L998, L999, L1000, L1024, L1999, L6403, L9999, L10000, L12345, L99999, L1000000, L214424576, L412560384, L509804544, L639025541, L642945024, L658545824, L1103515245, L2147483647, g8_0, r8_1, r8_3, r8_4, r8_5, r8_6, r8_7, r8_8, r8_9, r8_10, r8_11, r8_12, r8_13, r8_14, r8_15, r8_26, r8_27, r8_28, r8_29, r8_30, r8_33, r8_34, r8_35, r8_36, r8_37, r8_39, r8_40, r8_41, r8_43, r8_44, r8_45, nI_add, pk_mul, narA_0, bd1_e, bd2_e, bdR_l, bdR_r, ldA_n s8_13, P.hops f hf, nn_le, ldA_n s8_14, P.path f k hf hk, nn_eq]
      rw [if_neg (by omega)]
      by_cases e : π.path f k = l
      · rw [if_neg (fun c => c e)]
        refine Or.inr ⟨_, rfl, Or.inr ⟨k, rfl, ?_⟩⟩
        have e1 : hpF (π.path f) l (k + 1) = k + 1 := by
          unfold hpF
          rw [if_neg (fun c => c h0), if_pos e]
        unfold Pl.hp
        rw [hpF_stay (k := k + 1) (by rw [e1]; omega) (by omega), e1]
      · rw [if_pos e]
        refine Or.inl ⟨_, rfl, rfl, ?_⟩
        unfold hpF
        rw [if_neg (fun c => c h0), if_neg e])
    (by
      rintro s ⟨rfl, h0⟩
      unfold bX8_hopOf_2
      simp (disch := omega) only [L0, L1, L2, L3, L4, L5, L6, L7, L8, L9, L10, L11, L12, L13, L14, L15, L16, L17, L18, L19, L20, L21, L22, L23, L24, L25, L26, L27, L28, L29, L30, L31, L32, L33, L34, L35, L36, L37, L38, L39, L40, L41, L42, L43, L44, L45, L46, L47, L48, L50, L57, L59, L60, L63, L64, L65, L70, L80, L90, L97, L100, L110, L120, L122, L128, L150, L200, L208, L216, L224, L232, L240, L248, L255, L256, L264, L272, L280, L288, L296, L297, L300, L336, L337, L500, L680, L700, L998, L999, L1000, L1024, L1999, L6403, L9999, L10000, L12345, L99999, L1000000, L214424576, L412560384, L509804544, L639025541, L642945024, L658545824, L1103515245, L2147483647, g8_0, r8_1, r8_3, r8_4, r8_5, r8_6, r8_7, r8_8, r8_9, r8_10, r8_11, r8_12, r8_13, r8_14, r8_15, r8_26, r8_27, r8_28, r8_29, r8_30, r8_33, r8_34, r8_35, r8_36, r8_37, r8_39, r8_40, r8_41, r8_43, r8_44, r8_45, nI_add, pk_mul, narA_0, bd1_e, bd2_e, bdR_l, bdR_r, ldA_n s8_13, P.hops f hf, nn_le]
      rw [if_pos (by omega)]
      exact ⟨_, rfl, Or.inl ⟨rfl, h0⟩⟩)
  rw [h1]
  rcases h2 with ⟨rfl, h3⟩ | ⟨k, rfl, h3⟩
  · rw [h3]; rfl
  · rw [h3]; rfl
theorem e8_within {m : Mm} {v a b : Nat} (hv : v < 2147483648) (ha : a < 2147483648) (hb : b < 2147483648) (hab : a ≤ b) : fX8_within SX8 m (nI v) (nI a) (nI b) = some (nI (max a (min b v))) := by
  unfold fX8_within jX8_within_19
  simp (disch := omega) only [nn_le]
  by_cases h1 : a ≤ v
  · rw [if_pos h1]
    by_cases h2 : v ≤ b
    · rw [if_pos h2]; congr 2; omega
    · rw [if_neg h2]; congr 2; omega
  · rw [if_neg h1]; congr 2; omega
theorem e8_feedbackOf {m : Mm} {X : Nat → Nat} {π : Pl} (R : RM m X) (P : PM m π) (hF : fillOK X) {l : Nat} (hl : l < 10) : fX8_feedbackOf SX8 m 0 (nI l) = some (fbk π l X) := by
  unfold fX8_feedbackOf
  simp (disch := omega) only [L0, L1, L2, L3, L4, L5, L6, L7, L8, L9, L10, L11, L12, L13, L14, L15, L16, L17, L18, L19, L20, L21, L22, L23, L24, L25, L26, L27, L28, L29, L30, L31, L32, L33, L34, L35, L36, L37, L38, L39, L40, L41, L42, L43, L44, L45, L46, L47, L48, L50, L57, L59, L60, L63, L64, L65, L70, L80, L90, L97, L100, L110, L120, L122, L128, L150, L200, L208, L216, L224, L232, L240, L248, L255, L256, L264, L272, L280, L288, L296, L297, L300, L336, L337, L500, L680, L700, L998, L999, L1000, L1024, L1999, L6403, L9999, L10000, L12345, L99999, L1000000, L214424576, L412560384, L509804544, L639025541, L642945024, L658545824, L1103515245, L2147483647, g8_0, r8_1, r8_3, r8_4, r8_5, r8_6, r8_7, r8_8, r8_9, r8_10, r8_11, r8_12, r8_13, r8_14, r8_15, r8_26, r8_27, r8_28, r8_29, r8_30, r8_33, r8_34, r8_35, r8_36, r8_37, r8_39, r8_40, r8_41, r8_43, r8_44, r8_45, nI_add, pk_mul, narA_0, bd1_e, bd2_e, bdR_l, bdR_r, e8_queueOf R hF hl, ldA_n s8_2, P.middle, P.weight, ldA_n s8_15, R.was l hl]
  rfl
theorem wi63 (S : List Sh) (m : Mm) (a : Int32) : fX8_within S m a (nI 1) (nI 63) = some (nI (if a < nI 1 then 1 else if nI 63 < a then 63 else a.toNatClampNeg)) := by
  unfold fX8_within jX8_within_19
  by_cases h1 : a < nI 1
  · have h1' := Int32.lt_iff_toInt_lt.mp h1
    rw [if_neg (fun c => by have := Int32.le_iff_toInt_le.mp c; omega), if_pos h1]
  · have h1' : ¬ a.toInt < (nI 1).toInt := fun c => h1 (Int32.lt_iff_toInt_lt.mpr c)
    rw [if_pos (Int32.le_iff_toInt_le.mpr (by omega)), if_neg h1]
    by_cases h2 : nI 63 < a
    · have h2' := Int32.lt_iff_toInt_lt.mp h2
      rw [if_neg (fun c => by have := Int32.le_iff_toInt_le.mp c; omega), if_pos h2]
    · have h2' : ¬ (nI 63).toInt < a.toInt := fun c => h2 (Int32.lt_iff_toInt_lt.mpr c)
      rw [if_pos (Int32.le_iff_toInt_le.mpr (by omega)), if_neg h2, ← (i32_small h1 h2).1]
theorem e8_noticeOf {m : Mm} {π : Pl} {v : Int32} (P : PM m π) (O : π.ok) : fX8_noticeOf SX8 m 0 v = some (nI (ntc π v)) := by
  have hs := span_pos O
  unfold fX8_noticeOf jX8_noticeOf_36 ntc
  simp (disch := omega) only [L0, L1, L2, L3, L4, L5, L6, L7, L8, L9, L10, L11, L12, L13, L14, L15, L16, L17, L18, L19, L20, L21, L22, L23, L24, L25, L26, L27, L28, L29, L30, L31, L32, L33, L34, L35, L36, L37, L38, L39, L40, L41, L42, L43, L44, L45, L46, L47, L48, L50, L57, L59, L60, L63, L64, L65, L70, L80, L90, L97, L100, L110, L120, L122, L128, L150, L200, L208, L216, L224, L232, L240, L248, L255, L256, L264, L272, L280, L288, L296, L297, L300, L336, L337, L500, L680, L700, L998, L999, L1000, L1024, L1999, L6403, L9999, L10000, L12345, L99999, L1000000, L214424576, L412560384, L509804544, L639025541, L642945024, L658545824, L1103515245, L2147483647, g8_0, r8_1, r8_3, r8_4, r8_5, r8_6, r8_7, r8_8, r8_9, r8_10, r8_11, r8_12, r8_13, r8_14, r8_15, r8_26, r8_27, r8_28, r8_29, r8_30, r8_33, r8_34, r8_35, r8_36, r8_37, r8_39, r8_40, r8_41, r8_43, r8_44, r8_45, nI_add, pk_mul, narA_0, bd1_e, bd2_e, bdR_l, bdR_r, ldA_n s8_2, P.middle, P.weight]
  have z : (nI 0).toInt = 0 := rfl
  by_cases h : v ≤ nI 0
  · have h' := Int32.le_iff_toInt_le.mp h
    rw [if_neg (fun c => by have := Int32.lt_iff_toInt_lt.mp c; omega), if_pos h]
  · have h' : ¬ v.toInt ≤ (nI 0).toInt := fun c => h (Int32.le_iff_toInt_le.mpr c)
    rw [if_pos (Int32.lt_iff_toInt_lt.mpr (by omega)), if_neg h]
    unfold dvI
    rw [if_neg (nI_ne0 hs.1 hs.2), bd1_e, wi63, bd1_e]
/-! climbing -/
theorem e8_climbs89 {m : Mm} {X : Nat → Nat} {f t : Nat} (R : RM m X) (hf : f < 8) (ht : X (208 + f) + t < 2147483648) (hr : X (200 + f) ≤ 1024) : ∃ m', jX8_climbs_89 SX8 m 0 (nI (240 + 12 * f)) (nI t) = some m' ∧ RM m' (upN (upN X (208 + f) (min 1024 (X (208 + f) + t))) (200 + f) ((X (200 + f) + min 1024 (X (208 + f) + t)) / 2)) ∧ Fr (fun o => o = 15) m m' := by
  have e : max 0 (min 1024 (X (208 + f) + t)) = min 1024 (X (208 + f) + t) := by omega
  unfold jX8_climbs_89
  simp (disch := omega) only [L0, L1, L2, L3, L4, L5, L6, L7, L8, L9, L10, L11, L12, L13, L14, L15, L16, L17, L18, L19, L20, L21, L22, L23, L24, L25, L26, L27, L28, L29, L30, L31, L32, L33, L34, L35, L36, L37, L38, L39, L40, L41, L42, L43, L44, L45, L46, L47, L48, L50, L57, L59, L60, L63, L64, L65, L70, L80, L90, L97, L100, L110, L120, L122, L128, L150, L200, L208, L216, L224, L232, L240, L248, L255, L256, L264, L272, L280, L288, L296, L297, L300, L336, L337, L500, L680, L700, L998, L999, L1000, L1024, L1999, L6403, L9999, L10000, L12345, L99999, L1000000, L214424576, L412560384, L509804544, L639025541, L642945024, L658545824, L1103515245, L2147483647, g8_0, r8_1, r8_3, r8_4, r8_5, r8_6, r8_7, r8_8, r8_9, r8_10, r8_11, r8_12, r8_13, r8_14, r8_15, r8_26, r8_27, r8_28, r8_29, r8_30, r8_33, r8_34, r8_35, r8_36, r8_37, r8_39, r8_40, r8_41, r8_43, r8_44, r8_45, nI_add, pk_mul, narA_0, bd1_e, bd2_e, bdR_l, bdR_r, ldA_n s8_15, stA_n s8_15, R.target f hf, e8_within, e, u1_rn, u1_rs, R.rate f hf, dvI_n]
  exact ⟨_, rfl, (R.st_target _ hf).st_rate _ hf, by (repeat (refine Fr.st ?_ (by first | exact rfl | omega))); exact Fr.rfl⟩
theorem e8_climbs {m : Mm} {π : Pl} {X : Nat → Nat} {f : Nat} (R : RM m X) (P : PM m π) (O : π.ok) (hf : f < 8) (hr : X (200 + f) ≤ 1024) (ht : X (208 + f) ≤ 1024) (hc : X (216 + f) < 2147483648) (hk : X (224 + f) ≤ 20000) : ∃ m', fX8_climbs SX8 m 0 (nI f) = some m' ∧ RM m' (clA π f X) ∧ Fr (fun o => o = 15) m m' := by
  have hm := O.more
  unfold fX8_climbs jX8_climbs_69 jX8_climbs_80 jX8_climbs_61
  simp (disch := omega) only [L0, L1, L2, L3, L4, L5, L6, L7, L8, L9, L10, L11, L12, L13, L14, L15, L16, L17, L18, L19, L20, L21, L22, L23, L24, L25, L26, L27, L28, L29, L30, L31, L32, L33, L34, L35, L36, L37, L38, L39, L40, L41, L42, L43, L44, L45, L46, L47, L48, L50, L57, L59, L60, L63, L64, L65, L70, L80, L90, L97, L100, L110, L120, L122, L128, L150, L200, L208, L216, L224, L232, L240, L248, L255, L256, L264, L272, L280, L288, L296, L297, L300, L336, L337, L500, L680, L700, L998, L999, L1000, L1024, L1999, L6403, L9999, L10000, L12345, L99999, L1000000, L214424576, L412560384, L509804544, L639025541, L642945024, L658545824, L1103515245, L2147483647, g8_0, r8_1, r8_3, r8_4, r8_5, r8_6, r8_7, r8_8, r8_9, r8_10, r8_11, r8_12, r8_13, r8_14, r8_15, r8_26, r8_27, r8_28, r8_29, r8_30, r8_33, r8_34, r8_35, r8_36, r8_37, r8_39, r8_40, r8_41, r8_43, r8_44, r8_45, nI_add, pk_mul, narA_0, bd1_e, bd2_e, bdR_l, bdR_r, e8_flowAt, ldA_n s8_15, R.stc f hf, R.stt f hf, nn_le, nn_lt, ldA_n s8_2, P.more]
  have hl : (if X (224 + f) < X (216 + f) then X (224 + f) else X (216 + f)) ≤ 20000 := by split <;> omega
  have hq : π.more * 2 * ((if X (224 + f) < X (216 + f) then X (224 + f) else X (216 + f)) - 5) ≤ 198 * 20000 := Nat.mul_le_mul (by omega) (by omega)
  unfold clA clT
  by_cases h1 : X (216 + f) ≤ 5
  · rw [if_pos h1, if_neg (show ¬ 5 < X (216 + f) by omega)]
    have hle : (if X (224 + f) < X (216 + f) then X (224 + f) else X (216 + f)) ≤ 5 := by split <;> omega
    rw [if_pos hle]
    by_cases h2 : X (224 + f) ≤ 5
    · have hge : (if X (216 + f) < X (224 + f) then X (224 + f) else X (216 + f)) ≤ 5 := by split <;> omega
      rw [if_pos h2, if_pos hge]
      exact e8_climbs89 R hf (by omega) hr
    · have hge : ¬ (if X (216 + f) < X (224 + f) then X (224 + f) else X (216 + f)) ≤ 5 := by split <;> omega
      rw [if_neg h2, if_neg hge]
      exact e8_climbs89 R hf (by omega) hr
  · rw [if_neg h1, if_pos (show 5 < X (216 + f) by omega)]
    by_cases h2 : X (224 + f) ≤ 5
    · have hle : (if X (224 + f) < X (216 + f) then X (224 + f) else X (216 + f)) ≤ 5 := by split <;> omega
      have hge : ¬ (if X (216 + f) < X (224 + f) then X (224 + f) else X (216 + f)) ≤ 5 := by split <;> omega
      rw [if_pos h2, if_pos hle, if_neg hge]
      exact e8_climbs89 R hf (by omega) hr
    · have hle : ¬ (if X (224 + f) < X (216 + f) then X (224 + f) else X (216 + f)) ≤ 5 := by split <;> omega
      rw [if_neg h2, if_neg hle]
      by_cases h3 : X (224 + f) ≤ X (216 + f)
      · have e : (if X (224 + f) < X (216 + f) then X (224 + f) else X (216 + f)) = X (224 + f) := by split <;> omega
        rw [e] at hq ⊢
        rw [if_pos h3, pk_sub (by omega), pk_mul]
        exact e8_climbs89 R hf (by omega) hr
      · have e : (if X (224 + f) < X (216 + f) then X (224 + f) else X (216 + f)) = X (216 + f) := by split <;> omega
        rw [e] at hq ⊢
        rw [if_neg h3, pk_sub (by omega), pk_mul]
        exact e8_climbs89 R hf (by omega) hr
