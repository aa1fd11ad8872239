/-! ===== tokens: the model's token ===== -/
section TY8
variable {m : Mm} {B : Nat → Nat} {n a : Nat}
theorem e8_token0 (h : TM m B n a) (hn : n ≤ 700) (hB : ∀ j, j < n → B j < 256) (ha : a ≤ n) : ∃ m', lp (fun s4 : Mm => bX8_token_0 SX8 0 s4) fu m = some m' ∧ TM m' B n (tzP B n a) ∧ FM m m' := by
  obtain ⟨k, q1, q2, q3, q4⟩ := rn_ex isB B ha
  obtain ⟨r, a1, a2, a3⟩ := lp_n (b := fun s4 : Mm => bX8_token_0 SX8 0 s4) (N := fu) (s0 := m) (fun i s => TM s B n (a + i) ∧ FM m s) (fun r => TM r B n (a + k) ∧ FM m r) k ⟨h, FM.rfl⟩ (by unfold fu; omega)
    (by
      rintro i m1 hi ⟨T, F⟩
      have hb := hB (a + i) (by omega)
      have hc : B (a + i) = 10 ∨ B (a + i) = 32 := of_decide_eq_true (q3 i hi)
      refine Or.inl ?_
      unfold bX8_token_0 jX8_token_18
      simp (disch := omega) only [L0, L1, L2, L3, L4, L5, L6, L7, L8, L9, L10, L11, L12, L13, L14, L15, L16, L17, L18, L19, L20, L21, L22, L23, L24, L25, L26, L27, L28, L29, L30, L31, L32, L33, L34, L35, L36, L37, L38, L39, L40, L41, L42, L43, L44, L45, L46, L47, L48, L50, L57, L59, L60, L63, L64, L65, L70, L80, L90, L97, L100, L110, L120, L122, L128, L150, L200, L208, L216, L224, L232, L240, L248, L255, L256, L264, L272, L280, L288, L296, L297, L300, L336, L337, L500, L680, L700, L998, L999, L1000, L1024, L1999, L6403, L9999, L10000, L12345, L99999, L1000000, L214424576, L412560384, L509804544, L639025541, L642945024, L658545824, L1103515245, L2147483647, e8_here T hn (by omega), bd1_e, if_pos (show a + i < n by omega), nn_eq, T.a, nI_add]
      have fin : ∃ s', some (Sum.inl (u1 m1 0 18 (nI (a + i + 1)))) = some (Sum.inl s' : Mm ⊕ Mm) ∧ TM s' B n (a + (i + 1)) ∧ FM m s' := ⟨_, rfl, T.fm (FM.rfl.u (by omega)) (by rw [u1_rs, Nat.add_assoc]), F.u (by omega)⟩
      by_cases c : B (a + i) = 10
      · rw [if_pos c]; exact fin
      · rw [if_neg c, if_neg (fun z => z (by omega))]; exact fin)
    (by
      rintro m1 ⟨T, F⟩
      unfold bX8_token_0
      simp only [L0, L1, L2, L3, L4, L5, L6, L7, L8, L9, L10, L11, L12, L13, L14, L15, L16, L17, L18, L19, L20, L21, L22, L23, L24, L25, L26, L27, L28, L29, L30, L31, L32, L33, L34, L35, L36, L37, L38, L39, L40, L41, L42, L43, L44, L45, L46, L47, L48, L50, L57, L59, L60, L63, L64, L65, L70, L80, L90, L97, L100, L110, L120, L122, L128, L150, L200, L208, L216, L224, L232, L240, L248, L255, L256, L264, L272, L280, L288, L296, L297, L300, L336, L337, L500, L680, L700, L998, L999, L1000, L1024, L1999, L6403, L9999, L10000, L12345, L99999, L1000000, L214424576, L412560384, L509804544, L639025541, L642945024, L658545824, L1103515245, L2147483647, e8_here T hn (by omega), bd1_e]
      by_cases c : a + k < n
      · have q5 : isB (B (a + k)) = false := by rcases q4 with z | z; · omega
                                                · exact z
        have q6 : ¬ (B (a + k) = 10 ∨ B (a + k) = 32) := of_decide_eq_false q5
        have hb := hB (a + k) (by omega)
        simp (disch := omega) only [if_pos c, nn_eq]
        rw [if_neg (by omega), if_pos (by omega)]
        exact ⟨_, rfl, T, F⟩
      · simp only [if_neg c]
        rw [if_neg (by decide), if_pos (by decide)]
        exact ⟨_, rfl, T, F⟩)
  unfold tzP
  rw [q1]
  exact ⟨r, a1, a2, a3⟩
theorem e8_letters {p : Nat} (h : TM m B n p) (hn : n ≤ 700) (hB : ∀ j, j < n → B j < 256) (ha : p ≤ n) : ∃ m', lp (fun s26 : Mm => bX8_token_64 SX8 0 s26) fu m = some m' ∧ TM m' B n (rn isL B n p) ∧ FM m m' ∧ m'.1 0 19 = m.1 0 19 := by
  obtain ⟨k, q1, q2, q3, q4⟩ := rn_ex isL B ha
  rw [q1]
  obtain ⟨r, a1, a2, a3, a4⟩ := lp_n (b := fun s26 : Mm => bX8_token_64 SX8 0 s26) (N := fu) (s0 := m) (fun i s => TM s B n (p + i) ∧ FM m s ∧ s.1 0 19 = m.1 0 19) (fun r => TM r B n (p + k) ∧ FM m r ∧ r.1 0 19 = m.1 0 19) k ⟨h, FM.rfl, rfl⟩ (by unfold fu; omega)
    (by
      rintro i m1 hi ⟨T, F, g⟩
      refine Or.inl ?_
      unfold bX8_token_64
      simp (disch := omega) only [L0, L1, L2, L3, L4, L5, L6, L7, L8, L9, L10, L11, L12, L13, L14, L15, L16, L17, L18, L19, L20, L21, L22, L23, L24, L25, L26, L27, L28, L29, L30, L31, L32, L33, L34, L35, L36, L37, L38, L39, L40, L41, L42, L43, L44, L45, L46, L47, L48, L50, L57, L59, L60, L63, L64, L65, L70, L80, L90, L97, L100, L110, L120, L122, L128, L150, L200, L208, L216, L224, L232, L240, L248, L255, L256, L264, L272, L280, L288, L296, L297, L300, L336, L337, L500, L680, L700, L998, L999, L1000, L1024, L1999, L6403, L9999, L10000, L12345, L99999, L1000000, L214424576, L412560384, L509804544, L639025541, L642945024, L658545824, L1103515245, L2147483647, e8_here T hn (by omega), bd1_e, if_pos (show p + i < n by omega), e8_isSmall (hB (p + i) (by omega)), q3 i hi, T.a, nI_add]
      rw [if_neg bO_t0]
      exact ⟨_, rfl, T.fm (FM.rfl.u (by omega)) (by rw [u1_rs, Nat.add_assoc]), F.u (by omega), by rw [u1_rn (Or.inl (by omega))]; exact g⟩)
    (by
      rintro m1 ⟨T, F, g⟩
      unfold bX8_token_64
      simp only [L0, L1, L2, L3, L4, L5, L6, L7, L8, L9, L10, L11, L12, L13, L14, L15, L16, L17, L18, L19, L20, L21, L22, L23, L24, L25, L26, L27, L28, L29, L30, L31, L32, L33, L34, L35, L36, L37, L38, L39, L40, L41, L42, L43, L44, L45, L46, L47, L48, L50, L57, L59, L60, L63, L64, L65, L70, L80, L90, L97, L100, L110, L120, L122, L128, L150, L200, L208, L216, L224, L232, L240, L248, L255, L256, L264, L272, L280, L288, L296, L297, L300, L336, L337, L500, L680, L700, L998, L999, L1000, L1024, L1999, L6403, L9999, L10000, L12345, L99999, L1000000, L214424576, L412560384, L509804544, L639025541, L642945024, L658545824, L1103515245, L2147483647, e8_here T hn (by omega), bd1_e]
      by_cases c : p + k < n
      · have q5 : isL (B (p + k)) = false := by rcases q4 with z | z; · omega
                                                · exact z
        simp (disch := omega) only [if_pos c, e8_isSmall (hB (p + k) (by omega)), q5, bd1_e]
        rw [if_pos bO_f0]
        exact ⟨_, rfl, T, F, g⟩
      · simp only [if_neg c, e8_isSmall1, bd1_e]
        exact ⟨_, rfl, T, F, g⟩)
  exact ⟨r, a1, a2, a3, a4⟩
theorem e8_digits {p : Nat} (h : TM m B n p) (hn : n ≤ 700) (hB : ∀ j, j < n → B j < 256) (ha : p ≤ n) (hv : m.1 0 21 = nI 0) : ∃ m', lp (fun s21 : Mm => bX8_token_162 SX8 0 s21) fu m = some m' ∧ TM m' B n (rn isD B n p) ∧ FM m m' ∧ m'.1 0 19 = m.1 0 19 ∧ m'.1 0 20 = m.1 0 20 ∧ m'.1 0 21 = nI (nmM B p (rn isD B n p - p)) := by
  obtain ⟨k, q1, q2, q3, q4⟩ := rn_ex isD B ha
  rw [q1, show p + k - p = k by omega]
  obtain ⟨r, a1, a2, a3, a4, a5, a6⟩ := lp_n (b := fun s21 : Mm => bX8_token_162 SX8 0 s21) (N := fu) (s0 := m) (fun i s => TM s B n (p + i) ∧ FM m s ∧ s.1 0 19 = m.1 0 19 ∧ s.1 0 20 = m.1 0 20 ∧ s.1 0 21 = nI (nmM B p i)) (fun r => TM r B n (p + k) ∧ FM m r ∧ r.1 0 19 = m.1 0 19 ∧ r.1 0 20 = m.1 0 20 ∧ r.1 0 21 = nI (nmM B p k)) k ⟨h, FM.rfl, rfl, rfl, hv⟩ (by unfold fu; omega)
    (by
      rintro i m1 hi ⟨T, F, g, g2, g3⟩
      have hb := isD_b (q3 i hi)
      have hm := nmM_b (B := B) (p := p) i (fun j hj => q3 j (by omega))
      have hs : nmM B p (i + 1) = if 99999 < nmM B p i then nmM B p i else 10 * nmM B p i + B (p + i) - 48 := rfl
      refine Or.inl ?_
      unfold bX8_token_162 jX8_token_204
      simp (disch := omega) only [L0, L1, L2, L3, L4, L5, L6, L7, L8, L9, L10, L11, L12, L13, L14, L15, L16, L17, L18, L19, L20, L21, L22, L23, L24, L25, L26, L27, L28, L29, L30, L31, L32, L33, L34, L35, L36, L37, L38, L39, L40, L41, L42, L43, L44, L45, L46, L47, L48, L50, L57, L59, L60, L63, L64, L65, L70, L80, L90, L97, L100, L110, L120, L122, L128, L150, L200, L208, L216, L224, L232, L240, L248, L255, L256, L264, L272, L280, L288, L296, L297, L300, L336, L337, L500, L680, L700, L998, L999, L1000, L1024, L1999, L6403, L9999, L10000, L12345, L99999, L1000000, L214424576, L412560384, L509804544, L639025541, L642945024, L658545824, L1103515245, L2147483647, g8_0, r8_1, r8_3, r8_4, r8_5, r8_6, r8_7, r8_8, r8_9, r8_10, r8_11, r8_12, r8_13, r8_14, r8_15, r8_26, r8_27, r8_28, r8_29, r8_30, r8_33, r8_34, r8_35, r8_36, r8_37, r8_39, r8_40, r8_41, r8_43, r8_44, r8_45, e8_here T hn (by omega), bd1_e, if_pos (show p + i < n by omega), e8_isDigit (hB (p + i) (by omega)), q3 i hi, T.a, nI_add, g3, nn_le, pk_mul, pk_sub, u1_rn]
      rw [if_neg bO_t0]
      have fin : ∀ v, v = nmM B p (i + 1) → ∃ s', some (Sum.inl (u1 (u1 m1 0 21 (nI v)) 0 18 (nI (p + i + 1)))) = some (Sum.inl s' : Mm ⊕ Mm) ∧ TM s' B n (p + (i + 1)) ∧ FM m s' ∧ s'.1 0 19 = m.1 0 19 ∧ s'.1 0 20 = m.1 0 20 ∧ s'.1 0 21 = nI (nmM B p (i + 1)) := by
        intro v hv
        refine ⟨_, rfl, T.fm ((FM.rfl.u (by omega)).u (by omega)) (by rw [u1_rs, Nat.add_assoc]), (F.u (by omega)).u (by omega), ?_, ?_, ?_⟩
        · rw [u1_rn (Or.inl (by omega)), u1_rn (Or.inl (by omega))]; exact g
        · rw [u1_rn (Or.inl (by omega)), u1_rn (Or.inl (by omega))]; exact g2
        · rw [u1_rn (Or.inl (by omega)), u1_rs, hv]
      by_cases c : nmM B p i ≤ 99999
      · rw [if_pos c]; exact fin _ (by rw [hs, if_neg (by omega)])
      · rw [if_neg c]; exact fin _ (by rw [hs, if_pos (by omega)]))
    (by
      rintro m1 ⟨T, F, g, g2, g3⟩
      unfold bX8_token_162
      simp only [L0, L1, L2, L3, L4, L5, L6, L7, L8, L9, L10, L11, L12, L13, L14, L15, L16, L17, L18, L19, L20, L21, L22, L23, L24, L25, L26, L27, L28, L29, L30, L31, L32, L33, L34, L35, L36, L37, L38, L39, L40, L41, L42, L43, L44, L45, L46, L47, L48, L50, L57, L59, L60, L63, L64, L65, L70, L80, L90, L97, L100, L110, L120, L122, L128, L150, L200, L208, L216, L224, L232, L240, L248, L255, L256, L264, L272, L280, L288, L296, L297, L300, L336, L337, L500, L680, L700, L998, L999, L1000, L1024, L1999, L6403, L9999, L10000, L12345, L99999, L1000000, L214424576, L412560384, L509804544, L639025541, L642945024, L658545824, L1103515245, L2147483647, e8_here T hn (by omega), bd1_e]
      by_cases c : p + k < n
      · have q5 : isD (B (p + k)) = false := by rcases q4 with z | z; · omega
                                                · exact z
        simp (disch := omega) only [if_pos c, e8_isDigit (hB (p + k) (by omega)), q5, bd1_e]
        rw [if_pos bO_f0]
        exact ⟨_, rfl, T, F, g, g2, g3⟩
      · simp only [if_neg c, e8_isDigit1, bd1_e]
        exact ⟨_, rfl, T, F, g, g2, g3⟩)
  exact ⟨r, a1, a2, a3, a4, a5, a6⟩
/-- what a token at hand is -/
def TV (m : Mm) (B : Nat → Nat) (n a : Nat) : Prop := (m.1 0 19 = nI (tzP B n a)) ∧ (m.1 0 20 = nI (srt (tzK B n a))) ∧ (tzK B n a = 1 → m.1 0 21 = nI (tzW B n a)) ∧ (tzK B n a = 2 → ∃ w, w < 6 ∧ m.1 0 21 = nI w ∧ tzW B n a = kW8 w) ∧ (tzK B n a = 3 → m.1 0 21 = nI (nmM B (tzP B n a) (tzN B n a)))
theorem TV.mk {m : Mm} {B : Nat → Nat} {n a : Nat} (h_p : m.1 0 19 = nI (tzP B n a)) (h_s : m.1 0 20 = nI (srt (tzK B n a))) (h_w : tzK B n a = 1 → m.1 0 21 = nI (tzW B n a)) (h_k : tzK B n a = 2 → ∃ w, w < 6 ∧ m.1 0 21 = nI w ∧ tzW B n a = kW8 w) (h_v : tzK B n a = 3 → m.1 0 21 = nI (nmM B (tzP B n a) (tzN B n a))) : TV m B n a := ⟨h_p, h_s, h_w, h_k, h_v⟩
theorem TV.p {m : Mm} {B : Nat → Nat} {n a : Nat} (h : TV m B n a) : m.1 0 19 = nI (tzP B n a) := h.1
theorem TV.s {m : Mm} {B : Nat → Nat} {n a : Nat} (h : TV m B n a) : m.1 0 20 = nI (srt (tzK B n a)) := h.2.1
theorem TV.w {m : Mm} {B : Nat → Nat} {n a : Nat} (h : TV m B n a) : tzK B n a = 1 → m.1 0 21 = nI (tzW B n a) := h.2.2.1
theorem TV.k {m : Mm} {B : Nat → Nat} {n a : Nat} (h : TV m B n a) : tzK B n a = 2 → ∃ w, w < 6 ∧ m.1 0 21 = nI w ∧ tzW B n a = kW8 w := h.2.2.2.1
theorem TV.v {m : Mm} {B : Nat → Nat} {n a : Nat} (h : TV m B n a) : tzK B n a = 3 → m.1 0 21 = nI (nmM B (tzP B n a) (tzN B n a)) := h.2.2.2.2
theorem isK_ex {v : Nat} : isK v = true ↔ ∃ w, w < 6 ∧ v = kW8 w := by
  constructor
  · intro h
    have h := of_decide_eq_true h
    rcases h with h | h | h | h | h | h
    · exact ⟨0, by omega, h⟩
    · exact ⟨1, by omega, h⟩
    · exact ⟨2, by omega, h⟩
    · exact ⟨3, by omega, h⟩
    · exact ⟨4, by omega, h⟩
    · exact ⟨5, by omega, h⟩
  · rintro ⟨w, hw, h⟩
    apply decide_eq_true
    match w, hw with
    | 0, _ => exact Or.inl h
    | 1, _ => exact Or.inr (Or.inl h)
    | 2, _ => exact Or.inr (Or.inr (Or.inl h))
    | 3, _ => exact Or.inr (Or.inr (Or.inr (Or.inl h)))
    | 4, _ => exact Or.inr (Or.inr (Or.inr (Or.inr (Or.inl h))))
    | 5, _ => exact Or.inr (Or.inr (Or.inr (Or.inr (Or.inr h))))
theorem e8_token (h : TM m B n a) (hn : n ≤ 700) (hB : ∀ j, j < n → B j < 256) (ha : a ≤ n) : ∃ m', fX8_token SX8 m 0 = some m' ∧ TM m' B n (tzA B n a) ∧ FM m m' ∧ TV m' B n a := by
  obtain ⟨m1, a1, T1, F1⟩ := e8_token0 h hn hB ha
  have hp := (tzA_le (B := B) ha)
  unfold fX8_token
  simp only [L0, L1, L2, L3, L4, L5, L6, L7, L8, L9, L10, L11, L12, L13, L14, L15, L16, L17, L18, L19, L20, L21, L22, L23, L24, L25, L26, L27, L28, L29, L30, L31, L32, L33, L34, L35, L36, L37, L38, L39, L40, L41, L42, L43, L44, L45, L46, L47, L48, L50, L57, L59, L60, L63, L64, L65, L70, L80, L90, L97, L100, L110, L120, L122, L128, L150, L200, L208, L216, L224, L232, L240, L248, L255, L256, L264, L272, L280, L288, L296, L297, L300, L336, L337, L500, L680, L700, L998, L999, L1000, L1024, L1999, L6403, L9999, L10000, L12345, L99999, L1000000, L214424576, L412560384, L509804544, L639025541, L642945024, L658545824, L1103515245, L2147483647, g8_0, r8_1, r8_3, r8_4, r8_5, r8_6, r8_7, r8_8, r8_9, r8_10, r8_11, r8_12, r8_13, r8_14, r8_15, r8_26, r8_27, r8_28, r8_29, r8_30, r8_33, r8_34, r8_35, r8_36, r8_37, r8_39, r8_40, r8_41, r8_43, r8_44, r8_45, a1, bd1_e, T1.a]
  generalize hm2 : u1 m1 0 19 (nI (tzP B n a)) = m2
  have F2 : FM m m2 := by rw [← hm2]; exact F1.u (by omega)
  have T2 : TM m2 B n (tzP B n a) := by rw [← hm2]; exact T1.fm (FM.rfl.u (by omega)) (by rw [u1_rn (Or.inl (by omega))]; exact T1.a)
  have g19 : m2.1 0 19 = nI (tzP B n a) := by rw [← hm2, u1_rs]
  simp only [e8_here T2 hn hp.2.2.2, bd1_e]
  unfold jX8_token_245
  by_cases c : tzP B n a < n
  · have hb := hB _ c
    have hnc : ¬ n ≤ tzP B n a := by omega
    simp (disch := omega) only [if_pos c, nI_m1, e8_isSmall hb, e8_isDigit hb, bd1_e, nn_eq]
    rw [if_pos not_false]
    cases hL : isL (B (tzP B n a)) with
    | true =>
      rw [if_neg bO_t0]
      obtain ⟨m3, b1, b2, b3, b4⟩ := e8_letters T2 hn hB hp.2.2.2
      obtain ⟨k, q1, q2, q3, q4⟩ := rn_ex isL B hp.2.2.2
      have eA : tzA B n a = rn isL B n (tzP B n a) := by unfold tzA; rw [if_neg hnc, if_pos hL]
      have eN : tzN B n a = k := by unfold tzN; rw [eA, q1]; omega
      have eK : tzK B n a = if 6 < tzN B n a then 5 else if isK (tzW B n a) = true then 2 else 1 := by unfold tzK; rw [if_neg hnc, if_pos hL]
      have hk1 : 1 ≤ k := by
        cases k with
        | zero =>
          rcases q4 with z | z
          · omega
          · rw [Nat.add_zero, hL] at z; cases z
        | succ k => omega
      rw [b1, bd1_e]
      rw [q1] at b2
      have h19 : m3.1 0 19 = nI (tzP B n a) := by rw [b4]; exact g19
      have hw := e8_wordHere b2.a h19 b2.b hB hn q2 (by omega)
      rw [show tzP B n a + k - tzP B n a = k by omega] at hw
      have eW : tzW B n a = pk6 B (tzP B n a) k * 2 ^ (5 * (6 - k)) := by unfold tzW; rw [eN]
      rcases hw with ⟨w, w1, w2, w3⟩ | ⟨w2, w3⟩
      · have hk6 : k ≤ 6 := by have := w2.1; have := (w_1 w w1).2.2.2.1; omega
        have eq := (kW_1 hk1 hk6 q3 w w1).mp w2
        have e2 : tzK B n a = 2 := by rw [eK, eN, if_neg (by omega), if_pos (isK_ex.mpr ⟨w, w1, by rw [eW]; exact eq⟩)]
        unfold jX8_token_127 jX8_token_245
        simp (disch := omega) only [L0, L1, L2, L3, L4, L5, L6, L7, L8, L9, L10, L11, L12, L13, L14, L15, L16, L17, L18, L19, L20, L21, L22, L23, L24, L25, L26, L27, L28, L29, L30, L31, L32, L33, L34, L35, L36, L37, L38, L39, L40, L41, L42, L43, L44, L45, L46, L47, L48, L50, L57, L59, L60, L63, L64, L65, L70, L80, L90, L97, L100, L110, L120, L122, L128, L150, L200, L208, L216, L224, L232, L240, L248, L255, L256, L264, L272, L280, L288, L296, L297, L300, L336, L337, L500, L680, L700, L998, L999, L1000, L1024, L1999, L6403, L9999, L10000, L12345, L99999, L1000000, L214424576, L412560384, L509804544, L639025541, L642945024, L658545824, L1103515245, L2147483647, g8_0, r8_1, r8_3, r8_4, r8_5, r8_6, r8_7, r8_8, r8_9, r8_10, r8_11, r8_12, r8_13, r8_14, r8_15, r8_26, r8_27, r8_28, r8_29, r8_30, r8_33, r8_34, r8_35, r8_36, r8_37, r8_39, r8_40, r8_41, r8_43, r8_44, r8_45, w3, bd1_e, u1_rs, nI_m1, nn_eq]
        rw [if_neg not_false, if_pos (show ¬ (0 = 1) by decide)]
        refine ⟨_, rfl, ?_, ((F2.trans b3).u (by omega)).u (by omega), TV.mk ?_ ?_ (fun z => by omega) (fun _ => ⟨w, w1, ?_, by rw [eW]; exact eq⟩) (fun z => by omega)⟩
        · rw [eA, q1]; exact b2.fm ((FM.rfl.u (by omega)).u (by omega)) (by rw [u1_rn (Or.inl (by omega)), u1_rn (Or.inl (by omega))]; exact b2.a)
        · rw [u1_rn (Or.inl (by omega)), u1_rn (Or.inl (by omega))]; exact h19
        · rw [u1_rs, e2]; rfl
        · rw [u1_rn (Or.inl (by omega)), u1_rs]
      · have hnk : k ≤ 6 → isK (tzW B n a) = false := by
          intro hk6
          cases hh : isK (tzW B n a) with
          | false => rfl
          | true =>
            obtain ⟨w, w1, e⟩ := isK_ex.mp hh
            exact absurd ((kW_1 hk1 hk6 q3 w w1).mpr (by rw [← eW]; exact e)) (w2 w w1)
        unfold jX8_token_127 jX8_token_245
        simp (disch := omega) only [L0, L1, L2, L3, L4, L5, L6, L7, L8, L9, L10, L11, L12, L13, L14, L15, L16, L17, L18, L19, L20, L21, L22, L23, L24, L25, L26, L27, L28, L29, L30, L31, L32, L33, L34, L35, L36, L37, L38, L39, L40, L41, L42, L43, L44, L45, L46, L47, L48, L50, L57, L59, L60, L63, L64, L65, L70, L80, L90, L97, L100, L110, L120, L122, L128, L150, L200, L208, L216, L224, L232, L240, L248, L255, L256, L264, L272, L280, L288, L296, L297, L300, L336, L337, L500, L680, L700, L998, L999, L1000, L1024, L1999, L6403, L9999, L10000, L12345, L99999, L1000000, L214424576, L412560384, L509804544, L639025541, L642945024, L658545824, L1103515245, L2147483647, g8_0, r8_1, r8_3, r8_4, r8_5, r8_6, r8_7, r8_8, r8_9, r8_10, r8_11, r8_12, r8_13, r8_14, r8_15, r8_26, r8_27, r8_28, r8_29, r8_30, r8_33, r8_34, r8_35, r8_36, r8_37, r8_39, r8_40, r8_41, r8_43, r8_44, r8_45, w3, bd1_e, u1_rs, u1_rn, b2.a, h19, pk_sub, nn_le, nn_eq]
        rw [if_pos trivial, show tzP B n a + k - tzP B n a = k by omega]
        by_cases c6 : k ≤ 6
        · have e1 : tzK B n a = 1 := by rw [eK, eN, if_neg (by omega), if_neg (by rw [hnk c6]; decide)]
          rw [if_pos c6, if_neg (fun z => z trivial)]
          obtain ⟨m5, n1, n2, n3, n4, n5, n6⟩ := e8_nameHere (m := u1 (u1 m3 0 21 (-nI 1)) 0 20 (nI 1)) (B := B) (n := n) (p := tzP B n a) (q := tzP B n a + k) (by rw [u1_rn (Or.inl (by omega)), u1_rn (Or.inl (by omega))]; exact b2.a) (by rw [u1_rn (Or.inl (by omega)), u1_rn (Or.inl (by omega))]; exact h19) (fun j hj => by rw [u1_rn (Or.inr (by omega)), u1_rn (Or.inr (by omega))]; exact b2.b j hj) hn q2 (by omega) (by omega) (fun i hi => q3 i (by omega))
          rw [show tzP B n a + k - tzP B n a = k by omega] at n6
          rw [n1, bd1_e]
          refine ⟨_, rfl, ?_, (((F2.trans b3).u (by omega)).u (by omega)).trans n2, TV.mk n4 ?_ (fun _ => by rw [eW]; exact n6) (fun z => by omega) (fun z => by omega)⟩
          · rw [eA, q1]; exact b2.fm (((FM.rfl.u (by omega)).u (by omega)).trans n2) n3
          · rw [n5, u1_rs, e1]; rfl
        · have e5 : tzK B n a = 5 := by rw [eK, eN, if_pos (by omega)]
          rw [if_neg c6, if_pos (show ¬ (5 = 1) by decide)]
          refine ⟨_, rfl, ?_, ((F2.trans b3).u (by omega)).u (by omega), TV.mk ?_ ?_ (fun z => by omega) (fun z => by omega) (fun z => by omega)⟩
          · rw [eA, q1]; exact b2.fm ((FM.rfl.u (by omega)).u (by omega)) (by rw [u1_rn (Or.inl (by omega)), u1_rn (Or.inl (by omega))]; exact b2.a)
          · rw [u1_rn (Or.inl (by omega)), u1_rn (Or.inl (by omega))]; exact h19
          · rw [u1_rs, e5]; rfl
    | false =>
      rw [if_pos bO_f0]
      have hLn : ¬ isL (B (tzP B n a)) = true := by rw [hL]; decide
      cases hD : isD (B (tzP B n a)) with
      | true =>
        rw [if_neg bO_t0]
        obtain ⟨m3, b1, b2, b3, b4, b5, b6⟩ := e8_digits (m := u1 (u1 m2 0 20 (nI 2)) 0 21 (nI 0)) (T2.fm ((FM.rfl.u (by omega)).u (by omega)) (by rw [u1_rn (Or.inl (by omega)), u1_rn (Or.inl (by omega))]; exact T2.a)) hn hB hp.2.2.2 u1_rs
        have eA : tzA B n a = rn isD B n (tzP B n a) := by unfold tzA; rw [if_neg hnc, if_neg hLn, if_pos hD]
        have eN : tzN B n a = rn isD B n (tzP B n a) - tzP B n a := by unfold tzN; rw [eA]
        have eK : tzK B n a = 3 := by unfold tzK; rw [if_neg hnc, if_neg hLn, if_pos hD]
        rw [b1, bd1_e]
        refine ⟨_, rfl, by rw [eA]; exact b2, ((F2.u (by omega)).u (by omega)).trans b3, TV.mk ?_ ?_ (fun z => by omega) (fun z => by omega) (fun _ => by rw [eN]; exact b6)⟩
        · rw [b4, u1_rn (Or.inl (by omega)), u1_rn (Or.inl (by omega))]; exact g19
        · rw [b5, u1_rn (Or.inl (by omega)), u1_rs, eK]; rfl
      | false =>
        rw [if_pos bO_f0]
        have hDn : ¬ isD (B (tzP B n a)) = true := by rw [hD]; decide
        have eA : tzA B n a = tzP B n a + 1 := by unfold tzA; rw [if_neg hnc, if_neg hLn, if_neg hDn]
        have eK : tzK B n a = if B (tzP B n a) = 59 then 4 else 5 := by unfold tzK; rw [if_neg hnc, if_neg hLn, if_neg hDn]
        have e59 := nn_eq (a := B (tzP B n a)) (b := 59) (by omega) (by omega)
        have L59' : (59 : Int32) = nI 59 := L59
        unfold jX8_token_232 jX8_token_245
        simp only [g8_0, r8_1, r8_3, r8_4, r8_5, r8_6, r8_7, r8_8, r8_9, r8_10, r8_11, r8_12, r8_13, r8_14, r8_15, r8_26, r8_27, r8_28, r8_29, r8_30, r8_33, r8_34, r8_35, r8_36, r8_37, r8_39, r8_40, r8_41, r8_43, r8_44, r8_45, bd1_e]
        have fin : ∀ v : Nat, v = srt (tzK B n a) → ∃ m', some (u1 (u1 m2 0 20 (nI v)) 0 18 ((u1 m2 0 20 (nI v)).1 0 18 + nI 1)) = some m' ∧ TM m' B n (tzA B n a) ∧ FM m m' ∧ TV m' B n a := by
          intro v hv
          have hv2 : tzK B n a = 4 ∨ tzK B n a = 5 := by rw [eK]; split <;> omega
          refine ⟨_, rfl, T2.fm ((FM.rfl.u (by omega)).u (by omega)) ?_, (F2.u (by omega)).u (by omega), TV.mk ?_ ?_ (fun z => by omega) (fun z => by omega) (fun z => by omega)⟩
          · rw [u1_rs, u1_rn (Or.inl (by omega)), T2.a, nI_add, eA]
          · rw [u1_rn (Or.inl (by omega)), u1_rn (Or.inl (by omega))]; exact g19
          · rw [u1_rn (Or.inl (by omega)), u1_rs, hv]
        by_cases c59 : B (tzP B n a) = 59
        · rw [if_neg (fun z => z c59)]
          exact fin 3 (by rw [eK, if_pos c59]; rfl)
        · rw [if_pos c59]
          exact fin 5 (by rw [eK, if_neg c59]; rfl)
  · simp only [if_neg c]
    have eA : tzA B n a = tzP B n a := by unfold tzA; rw [if_pos (by omega)]
    have eK : tzK B n a = 0 := by unfold tzK; rw [if_pos (by omega)]
    refine ⟨_, rfl, ?_, F2.u (by omega), TV.mk ?_ ?_ (fun z => by omega) (fun z => by omega) (fun z => by omega)⟩
    · rw [eA]; exact T2.fm (FM.rfl.u (by omega)) (by rw [u1_rn (Or.inl (by omega))]; exact T2.a)
    · rw [u1_rn (Or.inl (by omega))]; exact g19
    · rw [u1_rs, eK]; rfl
end TY8
