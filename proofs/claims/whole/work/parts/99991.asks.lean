/-! ===== what readers ask of a token, both sides ===== -/
/-- a number asked for: the fault's code, 0 if none -/
def nmO (B : Nat → Nat) (n a lo hi : Nat) : Nat := if tzK B n a = 3 then (if nmM B (tzP B n a) (tzN B n a) < lo ∨ hi < nmM B (tzP B n a) (tzN B n a) then 2 else 0) else 1
def nmV (B : Nat → Nat) (n a : Nat) : Nat := nmM B (tzP B n a) (tzN B n a)
/-- another sign asked for -/
def kdO (B : Nat → Nat) (n a k : Nat) : Nat := if tzK B n a = k then 0 else 1
theorem tz_D {B : Nat → Nat} {n a : Nat} (ha : a ≤ n) (h : tzK B n a = 3) : ∀ i, i < tzN B n a → isD (B (tzP B n a + i)) = true := by
  have hp := (tzA_le (B := B) ha)
  unfold tzK at h
  by_cases c1 : n ≤ tzP B n a
  · rw [if_pos c1] at h; omega
  · rw [if_neg c1] at h
    by_cases c2 : isL (B (tzP B n a)) = true
    · rw [if_pos c2] at h
      split at h
      · omega
      · split at h <;> omega
    · rw [if_neg c2] at h
      by_cases c3 : isD (B (tzP B n a)) = true
      · obtain ⟨k, q1, q2, q3, q4⟩ := rn_ex isD B hp.2.2.2
        have eA : tzA B n a = tzP B n a + k := by unfold tzA; rw [if_neg c1, if_neg c2, if_pos c3, q1]
        have eN : tzN B n a = k := by unfold tzN; rw [eA]; omega
        rw [eN]; exact q3
      · rw [if_neg c3] at h
        split at h <;> omega
section RN
variable {m : Mm} {B : Nat → Nat} {n a : Nat}
def fl7 (m : Mm) (c pl : Nat) : Mm := u1 (u1 m 3 0 (nI c)) 3 1 (nI pl)
def fl8 (m : Mm) (c pl : Nat) : Mm := u1 (u1 m 0 22 (nI c)) 0 23 (nI pl)
theorem e_failed {c pl : Nat} (h5 : m.1 1 5 = nI pl) : fX2_failed SX7 m 3 1 (nI c) = some (nI 0, fl7 m c pl) := by
  unfold fX2_failed
  simp only [L0, L1, L2, L3, L4, L5, L6, L7, L8, L9, L10, L11, L12, L13, L14, L15, L16, L17, L18, L19, L20, L21, L22, L23, L24, L25, L26, L27, L28, L29, L30, L31, L32, L33, L34, L35, L36, L37, L38, L39, L40, L41, L42, L43, L44, L45, L46, L47, L48, L50, L57, L59, L60, L63, L64, L65, L70, L80, L90, L97, L100, L110, L120, L122, L128, L150, L200, L208, L216, L224, L232, L240, L248, L255, L256, L264, L272, L280, L288, L296, L297, L300, L336, L337, L500, L680, L700, L998, L999, L1000, L1024, L1999, L6403, L9999, L10000, L12345, L99999, L1000000, L214424576, L412560384, L509804544, L639025541, L642945024, L658545824, L1103515245, L2147483647, g7_0, g7_1, g7_3, g7_4, g7_8, g7_13, g7_16, r7_0_0, r7_0_1, r7_0_2, r7_0_3, r7_0_4, r7_0_5, r7_0_6, r7_0_7, r7_1_0, r7_4_0, r7_4_1, r7_4_2, r7_8_0, r7_8_1, r7_8_2, r7_8_3, r7_13_0, r7_13_1, r7_16_0, r7_16_1, bd1_e, okZ_0]
  rw [u1_rn (Or.inr (by omega)), h5]
  rfl
theorem e8_wrong {c pl : Nat} (h22 : m.1 0 22 = nI 0) (h19 : m.1 0 19 = nI pl) : fX8_wrong SX8 m 0 (nI c) = some (fl8 m c pl) := by
  unfold fX8_wrong
  simp only [L0, L1, L2, L3, L4, L5, L6, L7, L8, L9, L10, L11, L12, L13, L14, L15, L16, L17, L18, L19, L20, L21, L22, L23, L24, L25, L26, L27, L28, L29, L30, L31, L32, L33, L34, L35, L36, L37, L38, L39, L40, L41, L42, L43, L44, L45, L46, L47, L48, L50, L57, L59, L60, L63, L64, L65, L70, L80, L90, L97, L100, L110, L120, L122, L128, L150, L200, L208, L216, L224, L232, L240, L248, L255, L256, L264, L272, L280, L288, L296, L297, L300, L336, L337, L500, L680, L700, L998, L999, L1000, L1024, L1999, L6403, L9999, L10000, L12345, L99999, L1000000, L214424576, L412560384, L509804544, L639025541, L642945024, L658545824, L1103515245, L2147483647, g8_0, r8_1, r8_3, r8_4, r8_5, r8_6, r8_7, r8_8, r8_9, r8_10, r8_11, r8_12, r8_13, r8_14, r8_15, r8_26, r8_27, r8_28, r8_29, r8_30, r8_33, r8_34, r8_35, r8_36, r8_37, r8_39, r8_40, r8_41, r8_43, r8_44, r8_45, bd1_e, h22]
  rw [if_pos trivial, u1_rn (Or.inl (by omega)), h19]
  rfl
theorem fl8_22 {c pl : Nat} : (fl8 m c pl).1 0 22 = nI c := by
  unfold fl8
  rw [u1_rn (Or.inl (by omega)), u1_rs]
theorem e8_goOn1 {c : Nat} (h0 : 0 < c) (hc : c < 9) (h22 : m.1 0 22 = nI c) : fX8_goOn SX8 m 0 = some m := by
  unfold fX8_goOn jX8_goOn_11
  simp (disch := omega) only [L0, L1, L2, L3, L4, L5, L6, L7, L8, L9, L10, L11, L12, L13, L14, L15, L16, L17, L18, L19, L20, L21, L22, L23, L24, L25, L26, L27, L28, L29, L30, L31, L32, L33, L34, L35, L36, L37, L38, L39, L40, L41, L42, L43, L44, L45, L46, L47, L48, L50, L57, L59, L60, L63, L64, L65, L70, L80, L90, L97, L100, L110, L120, L122, L128, L150, L200, L208, L216, L224, L232, L240, L248, L255, L256, L264, L272, L280, L288, L296, L297, L300, L336, L337, L500, L680, L700, L998, L999, L1000, L1024, L1999, L6403, L9999, L10000, L12345, L99999, L1000000, L214424576, L412560384, L509804544, L639025541, L642945024, L658545824, L1103515245, L2147483647, g8_0, r8_1, r8_3, r8_4, r8_5, r8_6, r8_7, r8_8, r8_9, r8_10, r8_11, r8_12, r8_13, r8_14, r8_15, r8_26, r8_27, r8_28, r8_29, r8_30, r8_33, r8_34, r8_35, r8_36, r8_37, r8_39, r8_40, r8_41, r8_43, r8_44, r8_45, h22, nn_eq]
  rw [if_pos (by omega)]
theorem e8_goOn0 (h22 : m.1 0 22 = nI 0) (h : TM m B n a) (hn : n ≤ 700) (hB : ∀ j, j < n → B j < 256) (ha : a ≤ n) : ∃ m', fX8_goOn SX8 m 0 = some m' ∧ TM m' B n (tzA B n a) ∧ FM m m' ∧ TV m' B n a := by
  obtain ⟨m1, a1, a2⟩ := e8_token h hn hB ha
  unfold fX8_goOn jX8_goOn_11
  simp only [L0, L1, L2, L3, L4, L5, L6, L7, L8, L9, L10, L11, L12, L13, L14, L15, L16, L17, L18, L19, L20, L21, L22, L23, L24, L25, L26, L27, L28, L29, L30, L31, L32, L33, L34, L35, L36, L37, L38, L39, L40, L41, L42, L43, L44, L45, L46, L47, L48, L50, L57, L59, L60, L63, L64, L65, L70, L80, L90, L97, L100, L110, L120, L122, L128, L150, L200, L208, L216, L224, L232, L240, L248, L255, L256, L264, L272, L280, L288, L296, L297, L300, L336, L337, L500, L680, L700, L998, L999, L1000, L1024, L1999, L6403, L9999, L10000, L12345, L99999, L1000000, L214424576, L412560384, L509804544, L639025541, L642945024, L658545824, L1103515245, L2147483647, g8_0, r8_1, r8_3, r8_4, r8_5, r8_6, r8_7, r8_8, r8_9, r8_10, r8_11, r8_12, r8_13, r8_14, r8_15, r8_26, r8_27, r8_28, r8_29, r8_30, r8_33, r8_34, r8_35, r8_36, r8_37, r8_39, r8_40, r8_41, r8_43, r8_44, r8_45, h22, a1, bd1_e]
  rw [if_neg (fun z => z trivial)]
  exact ⟨m1, rfl, a2⟩
theorem e8_numeral1 {c : Nat} {lo hi : Int32} (h0 : 0 < c) (hc : c < 9) (h22 : m.1 0 22 = nI c) : fX8_numeral SX8 m 0 lo hi = some (lo, m) := by
  unfold fX8_numeral
  simp (disch := omega) only [L0, L1, L2, L3, L4, L5, L6, L7, L8, L9, L10, L11, L12, L13, L14, L15, L16, L17, L18, L19, L20, L21, L22, L23, L24, L25, L26, L27, L28, L29, L30, L31, L32, L33, L34, L35, L36, L37, L38, L39, L40, L41, L42, L43, L44, L45, L46, L47, L48, L50, L57, L59, L60, L63, L64, L65, L70, L80, L90, L97, L100, L110, L120, L122, L128, L150, L200, L208, L216, L224, L232, L240, L248, L255, L256, L264, L272, L280, L288, L296, L297, L300, L336, L337, L500, L680, L700, L998, L999, L1000, L1024, L1999, L6403, L9999, L10000, L12345, L99999, L1000000, L214424576, L412560384, L509804544, L639025541, L642945024, L658545824, L1103515245, L2147483647, g8_0, r8_1, r8_3, r8_4, r8_5, r8_6, r8_7, r8_8, r8_9, r8_10, r8_11, r8_12, r8_13, r8_14, r8_15, r8_26, r8_27, r8_28, r8_29, r8_30, r8_33, r8_34, r8_35, r8_36, r8_37, r8_39, r8_40, r8_41, r8_43, r8_44, r8_45, h22, nn_eq]
  rw [if_neg (by omega)]
theorem tzK_le (B : Nat → Nat) (n a : Nat) : tzK B n a ≤ 5 := by
  unfold tzK
  split
  · omega
  · split
    · split
      · omega
      · split <;> omega
    · split
      · omega
      · split <;> omega
theorem srt_eq : ∀ k, k < 6 → (srt k = 2 ↔ k = 3) ∧ (srt k = 1 ↔ k = 1) ∧ (srt k = 0 ↔ k = 2) ∧ (srt k = 3 ↔ k = 4) ∧ (srt k = 4 ↔ k = 0) ∧ srt k < 6 := by decide
theorem e8_numeral (h22 : m.1 0 22 = nI 0) (T : TM m B n (tzA B n a)) (V : TV m B n a) (hn : n ≤ 700) (hB : ∀ j, j < n → B j < 256) (ha : a ≤ n) {lo hi : Nat} (hlo : lo < 2147483648) (hhi : hi ≤ 99999) :
    (nmO B n a lo hi = 0 ∧ ∃ m', fX8_numeral SX8 m 0 (nI lo) (nI hi) = some (nI (nmV B n a), m') ∧ TM m' B n (tzA B n (tzA B n a)) ∧ FM m m' ∧ TV m' B n (tzA B n a)) ∨ (0 < nmO B n a lo hi ∧ nmO B n a lo hi < 9 ∧ fX8_numeral SX8 m 0 (nI lo) (nI hi) = some (nI lo, fl8 m (nmO B n a lo hi) (tzP B n a))) := by
  have hA := tzA_le (B := B) ha
  obtain ⟨s1, s2, s3, s4, s5, s6⟩ := srt_eq (tzK B n a) (by have := tzK_le B n a; omega)
  unfold fX8_numeral jX8_numeral_41 jX8_numeral_46 jX8_numeral_61
  simp (disch := omega) only [L0, L1, L2, L3, L4, L5, L6, L7, L8, L9, L10, L11, L12, L13, L14, L15, L16, L17, L18, L19, L20, L21, L22, L23, L24, L25, L26, L27, L28, L29, L30, L31, L32, L33, L34, L35, L36, L37, L38, L39, L40, L41, L42, L43, L44, L45, L46, L47, L48, L50, L57, L59, L60, L63, L64, L65, L70, L80, L90, L97, L100, L110, L120, L122, L128, L150, L200, L208, L216, L224, L232, L240, L248, L255, L256, L264, L272, L280, L288, L296, L297, L300, L336, L337, L500, L680, L700, L998, L999, L1000, L1024, L1999, L6403, L9999, L10000, L12345, L99999, L1000000, L214424576, L412560384, L509804544, L639025541, L642945024, L658545824, L1103515245, L2147483647, g8_0, r8_1, r8_3, r8_4, r8_5, r8_6, r8_7, r8_8, r8_9, r8_10, r8_11, r8_12, r8_13, r8_14, r8_15, r8_26, r8_27, r8_28, r8_29, r8_30, r8_33, r8_34, r8_35, r8_36, r8_37, r8_39, r8_40, r8_41, r8_43, r8_44, r8_45, h22, V.s, nn_eq, s1]
  rw [if_pos trivial]
  by_cases c : tzK B n a = 3
  · rw [if_pos c]
    have hv := V.v c
    have hb := nmM_b (tzN B n a) (tz_D ha c)
    have eO : nmO B n a lo hi = if nmM B (tzP B n a) (tzN B n a) < lo ∨ hi < nmM B (tzP B n a) (tzN B n a) then 2 else 0 := by unfold nmO; rw [if_pos c]
    simp (disch := omega) only [hv, nn_lt, nn_le, e8_wrong h22 V.p, bd1_e, fl8_22, nn_eq, e8_goOn1 (m := fl8 m 2 (tzP B n a)) (c := 2) (by omega) (by omega) fl8_22]
    by_cases c1 : nmM B (tzP B n a) (tzN B n a) < lo
    · have e2 : nmO B n a lo hi = 2 := by rw [eO, if_pos (Or.inl c1)]
      rw [e2, if_pos c1, if_pos (by decide)]
      exact Or.inr ⟨by omega, by omega, rfl⟩
    · rw [if_neg c1]
      by_cases c2 : nmM B (tzP B n a) (tzN B n a) ≤ hi
      · have e2 : nmO B n a lo hi = 0 := by rw [eO, if_neg (by omega)]
        obtain ⟨m1, a1, a2⟩ := e8_goOn0 h22 T hn hB hA.2.1
        rw [if_pos c2, if_neg (fun z => z trivial), a1, bd1_e]
        exact Or.inl ⟨e2, m1, rfl, a2⟩
      · have e2 : nmO B n a lo hi = 2 := by rw [eO, if_pos (Or.inr (by omega))]
        rw [e2, if_neg c2, if_pos (by decide)]
        exact Or.inr ⟨by omega, by omega, rfl⟩
  · have e1 : nmO B n a lo hi = 1 := by unfold nmO; rw [if_neg c]
    rw [if_neg c, e1]
    simp (disch := omega) only [e8_wrong h22 V.p, bd1_e, fl8_22, nn_eq, e8_goOn1 (m := fl8 m 1 (tzP B n a)) (c := 1) (by omega) (by omega) fl8_22]
    rw [if_pos (by decide)]
    exact Or.inr ⟨by omega, by omega, rfl⟩
theorem alA_n {S : List Sh} {t k o : Nat} (ht : t ≤ 3) (h : S[o]? = some (.inl (t, k))) : alA S o = some (nI k) := by
  unfold alA
  rw [h]
  exact if_pos ht
theorem e_readNumber (T : TC m B n a) (hn : n ≤ 700) (hB : ∀ j, j < n → B j < 256) (ha : a ≤ n) {lo hi x i k : Nat} (hx : SX7[x]? = some (.inl (0, k))) (hk : k < 1000) (hi2 : i < k) (hlo : lo ≤ 99999) (hhi : hi ≤ 99999) :
    (nmO B n a lo hi = 0 ∧ ∃ m', fX2_readNumber SX7 m 3 1 (nI lo) (nI hi) x (nI i) = some (nI 1, u1 m' x i (nI (nmV B n a))) ∧ TC m' B n (tzA B n a) ∧ FT m m') ∨ (0 < nmO B n a lo hi ∧ nmO B n a lo hi < 9 ∧ ∃ m', fX2_readNumber SX7 m 3 1 (nI lo) (nI hi) x (nI i) = some (nI 0, fl7 m' (nmO B n a lo hi) (tzP B n a)) ∧ FT m m') := by
  obtain ⟨m1, a1, a2, a3, a4, a5, a6, a7⟩ := e_next T hn hB ha
  have hK := tzK_le B n a
  unfold fX2_readNumber jX2_readNumber_35 jX2_readNumber_64
  simp (disch := omega) only [L0, L1, L2, L3, L4, L5, L6, L7, L8, L9, L10, L11, L12, L13, L14, L15, L16, L17, L18, L19, L20, L21, L22, L23, L24, L25, L26, L27, L28, L29, L30, L31, L32, L33, L34, L35, L36, L37, L38, L39, L40, L41, L42, L43, L44, L45, L46, L47, L48, L50, L57, L59, L60, L63, L64, L65, L70, L80, L90, L97, L100, L110, L120, L122, L128, L150, L200, L208, L216, L224, L232, L240, L248, L255, L256, L264, L272, L280, L288, L296, L297, L300, L336, L337, L500, L680, L700, L998, L999, L1000, L1024, L1999, L6403, L9999, L10000, L12345, L99999, L1000000, L214424576, L412560384, L509804544, L639025541, L642945024, L658545824, L1103515245, L2147483647, g7_0, g7_1, g7_3, g7_4, g7_8, g7_13, g7_16, r7_0_0, r7_0_1, r7_0_2, r7_0_3, r7_0_4, r7_0_5, r7_0_6, r7_0_7, r7_1_0, r7_4_0, r7_4_1, r7_4_2, r7_8_0, r7_8_1, r7_8_2, r7_8_3, r7_13_0, r7_13_1, r7_16_0, r7_16_1, a1, bd1_e, a5, nn_eq]
  by_cases c : tzK B n a = 3
  · rw [if_pos c]
    have hv := a7 c
    have hb := nmC_b (B := B) (p := tzP B n a) (tzN B n a)
    have he := nm_eq (tzN B n a) (tz_D ha c)
    have hM := nmM_b (tzN B n a) (tz_D ha c)
    have eO : nmO B n a lo hi = if nmM B (tzP B n a) (tzN B n a) < lo ∨ hi < nmM B (tzP B n a) (tzN B n a) then 2 else 0 := by unfold nmO; rw [if_pos c]
    simp (disch := omega) only [hv, nn_lt, nn_le, e_failed (c := 2) a4, bd2_e, okZ_0, okZ_1, bd1_e, alA_n (t := 0) (by omega) hx, stA_n hx, narA_0]
    by_cases c1 : nmC B (tzP B n a) (tzN B n a) < lo
    · have e2 : nmO B n a lo hi = 2 := by rw [eO, if_pos (by omega)]
      rw [e2, if_pos c1]
      exact Or.inr ⟨by omega, by omega, m1, rfl, a3⟩
    · rw [if_neg c1]
      by_cases c2 : nmC B (tzP B n a) (tzN B n a) ≤ hi
      · have e2 : nmO B n a lo hi = 0 := by rw [eO, if_neg (by omega)]
        have ev : nmC B (tzP B n a) (tzN B n a) = nmV B n a := by unfold nmV; omega
        rw [if_pos c2, if_neg (by omega), if_neg (by omega), ev]
        exact Or.inl ⟨e2, m1, rfl, a2, a3⟩
      · have e2 : nmO B n a lo hi = 2 := by rw [eO, if_pos (by omega)]
        rw [e2, if_neg c2]
        exact Or.inr ⟨by omega, by omega, m1, rfl, a3⟩
  · have e1 : nmO B n a lo hi = 1 := by unfold nmO; rw [if_neg c]
    rw [if_neg c, e1, e_failed (c := 1) a4, bd2_e, okZ_0, bd1_e]
    exact Or.inr ⟨by omega, by omega, m1, rfl, a3⟩
theorem e_readName (T : TC m B n a) (hn : n ≤ 700) (hB : ∀ j, j < n → B j < 256) (ha : a ≤ n) :
    (tzK B n a = 1 ∧ ∃ m', fX2_readName SX7 m 3 1 = some (nI 1, m') ∧ TC m' B n (tzA B n a) ∧ FT m m' ∧ m'.1 1 5 = nI (tzP B n a) ∧ m'.1 1 6 = nI (tzW B n a)) ∨ (tzK B n a ≠ 1 ∧ ∃ m', fX2_readName SX7 m 3 1 = some (nI 0, fl7 m' 1 (tzP B n a)) ∧ FT m m') := by
  obtain ⟨m1, a1, a2, a3, a4, a5, a6, a7⟩ := e_next T hn hB ha
  have hK := tzK_le B n a
  unfold fX2_readName jX2_readName_21 jX2_readName_26
  simp (disch := omega) only [L0, L1, L2, L3, L4, L5, L6, L7, L8, L9, L10, L11, L12, L13, L14, L15, L16, L17, L18, L19, L20, L21, L22, L23, L24, L25, L26, L27, L28, L29, L30, L31, L32, L33, L34, L35, L36, L37, L38, L39, L40, L41, L42, L43, L44, L45, L46, L47, L48, L50, L57, L59, L60, L63, L64, L65, L70, L80, L90, L97, L100, L110, L120, L122, L128, L150, L200, L208, L216, L224, L232, L240, L248, L255, L256, L264, L272, L280, L288, L296, L297, L300, L336, L337, L500, L680, L700, L998, L999, L1000, L1024, L1999, L6403, L9999, L10000, L12345, L99999, L1000000, L214424576, L412560384, L509804544, L639025541, L642945024, L658545824, L1103515245, L2147483647, g7_0, g7_1, g7_3, g7_4, g7_8, g7_13, g7_16, r7_0_0, r7_0_1, r7_0_2, r7_0_3, r7_0_4, r7_0_5, r7_0_6, r7_0_7, r7_1_0, r7_4_0, r7_4_1, r7_4_2, r7_8_0, r7_8_1, r7_8_2, r7_8_3, r7_13_0, r7_13_1, r7_16_0, r7_16_1, a1, bd1_e, a5, nn_eq, e_failed (c := 1) a4, bd2_e, okZ_0, okZ_1]
  by_cases c : tzK B n a = 1
  · rw [if_pos c]
    exact Or.inl ⟨c, m1, rfl, a2, a3, a4, a6 (Or.inl c)⟩
  · rw [if_neg c, if_pos trivial]
    exact Or.inr ⟨c, m1, rfl, a3⟩
theorem e_readSemicolon (T : TC m B n a) (hn : n ≤ 700) (hB : ∀ j, j < n → B j < 256) (ha : a ≤ n) :
    (tzK B n a = 4 ∧ ∃ m', fX2_readSemicolon SX7 m 3 1 = some (nI 1, m') ∧ TC m' B n (tzA B n a) ∧ FT m m') ∨ (tzK B n a ≠ 4 ∧ ∃ m', fX2_readSemicolon SX7 m 3 1 = some (nI 0, fl7 m' 1 (tzP B n a)) ∧ FT m m') := by
  obtain ⟨m1, a1, a2, a3, a4, a5, a6, a7⟩ := e_next T hn hB ha
  have hK := tzK_le B n a
  unfold fX2_readSemicolon jX2_readSemicolon_21 jX2_readSemicolon_26
  simp (disch := omega) only [L0, L1, L2, L3, L4, L5, L6, L7, L8, L9, L10, L11, L12, L13, L14, L15, L16, L17, L18, L19, L20, L21, L22, L23, L24, L25, L26, L27, L28, L29, L30, L31, L32, L33, L34, L35, L36, L37, L38, L39, L40, L41, L42, L43, L44, L45, L46, L47, L48, L50, L57, L59, L60, L63, L64, L65, L70, L80, L90, L97, L100, L110, L120, L122, L128, L150, L200, L208, L216, L224, L232, L240, L248, L255, L256, L264, L272, L280, L288, L296, L297, L300, L336, L337, L500, L680, L700, L998, L999, L1000, L1024, L1999, L6403, L9999, L10000, L12345, L99999, L1000000, L214424576, L412560384, L509804544, L639025541, L642945024, L658545824, L1103515245, L2147483647, g7_0, g7_1, g7_3, g7_4, g7_8, g7_13, g7_16, r7_0_0, r7_0_1, r7_0_2, r7_0_3, r7_0_4, r7_0_5, r7_0_6, r7_0_7, r7_1_0, r7_4_0, r7_4_1, r7_4_2, r7_8_0, r7_8_1, r7_8_2, r7_8_3, r7_13_0, r7_13_1, r7_16_0, r7_16_1, a1, bd1_e, a5, nn_eq, e_failed (c := 1) a4, bd2_e, okZ_0, okZ_1]
  by_cases c : tzK B n a = 4
  · rw [if_pos c]
    exact Or.inl ⟨c, m1, rfl, a2, a3⟩
  · rw [if_neg c, if_pos trivial]
    exact Or.inr ⟨c, m1, rfl, a3⟩
end RN
