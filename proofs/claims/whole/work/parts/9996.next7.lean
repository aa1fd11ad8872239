/-! ===== tokens: the class ===== -/
def FT (m m' : Mm) : Prop := (∀ o, o ≠ 1 → m'.1 o = m.1 o) ∧ (∀ j, j < 3 → m'.1 1 j = m.1 1 j)
theorem FT.rfl {m : Mm} : FT m m := ⟨fun _ _ => Eq.refl _, fun _ _ => Eq.refl _⟩
theorem FT.trans {m m' m'' : Mm} (h : FT m m') (h2 : FT m' m'') : FT m m'' := ⟨fun o ho => (h2.1 o ho).trans (h.1 o ho), fun j hj => (h2.2 j hj).trans (h.2 j hj)⟩
theorem FT.u {m m' : Mm} {j : Nat} {v : Int32} (h : FT m m') (hj : 3 ≤ j) : FT m (u1 m' 1 j v) := h.trans ⟨fun o ho => u1_other ho, fun i hi => u1_rn (Or.inl (by omega))⟩
def TC (m : Mm) (B : Nat → Nat) (n a : Nat) : Prop := (m.1 1 2 = nI n) ∧ (m.1 1 3 = nI a) ∧ (∀ j, j < n → m.1 2 j = b8 (B j))
theorem TC.mk {m : Mm} {B : Nat → Nat} {n a : Nat} (h_e : m.1 1 2 = nI n) (h_a : m.1 1 3 = nI a) (h_b : ∀ j, j < n → m.1 2 j = b8 (B j)) : TC m B n a := ⟨h_e, h_a, h_b⟩
theorem TC.e {m : Mm} {B : Nat → Nat} {n a : Nat} (h : TC m B n a) : m.1 1 2 = nI n := h.1
theorem TC.a {m : Mm} {B : Nat → Nat} {n a : Nat} (h : TC m B n a) : m.1 1 3 = nI a := h.2.1
theorem TC.b {m : Mm} {B : Nat → Nat} {n a : Nat} (h : TC m B n a) : ∀ j, j < n → m.1 2 j = b8 (B j) := h.2.2
theorem TC.ft {m m' : Mm} {B : Nat → Nat} {n a a' : Nat} (h : TC m B n a) (f : FT m m') (ha : m'.1 1 3 = nI a') : TC m' B n a' := TC.mk (by rw [f.2 2 (by omega)]; exact h.e) ha (by rw [f.1 2 (by omega)]; exact h.b)
section NX
variable {m : Mm} {B : Nat → Nat} {n a : Nat}
theorem e_next0 (h : TC m B n a) (hn : n ≤ 700) (hB : ∀ j, j < n → B j < 256) (ha : a ≤ n) : ∃ m', lp (fun s4 : Mm => bX4_next_0 SX7 1 s4) fu m = some m' ∧ TC m' B n (tzP B n a) ∧ FT m m' := by
  obtain ⟨k, q1, q2, q3, q4⟩ := rn_ex isB B ha
  obtain ⟨r, a1, a2, a3⟩ := lp_n (b := fun s4 : Mm => bX4_next_0 SX7 1 s4) (N := fu) (s0 := m) (fun i s => TC s B n (a + i) ∧ FT m s) (fun r => TC r B n (a + k) ∧ FT m r) k ⟨h, FT.rfl⟩ (by unfold fu; omega)
    (by
      rintro i m1 hi ⟨T, F⟩
      refine Or.inl ?_
      unfold bX4_next_0
      simp (disch := omega) only [L0, L1, L2, L3, L4, L5, L6, L7, L8, L9, L10, L11, L12, L13, L14, L15, L16, L17, L18, L19, L20, L21, L22, L23, L24, L25, L26, L27, L28, L29, L30, L31, L32, L33, L34, L35, L36, L37, L38, L39, L40, L41, L42, L43, L44, L45, L46, L47, L48, L50, L57, L59, L60, L63, L64, L65, L70, L80, L90, L97, L100, L110, L120, L122, L128, L150, L200, L208, L216, L224, L232, L240, L248, L255, L256, L264, L272, L280, L288, L296, L297, L300, L336, L337, L500, L680, L700, L998, L999, L1000, L1024, L1999, L6403, L9999, L10000, L12345, L99999, L1000000, L214424576, L412560384, L509804544, L639025541, L642945024, L658545824, L1103515245, L2147483647, g7_0, g7_1, g7_3, g7_4, g7_8, g7_13, g7_16, r7_0_0, r7_0_1, r7_0_2, r7_0_3, r7_0_4, r7_0_5, r7_0_6, r7_0_7, r7_1_0, r7_4_0, r7_4_1, r7_4_2, r7_8_0, r7_8_1, r7_8_2, r7_8_3, r7_13_0, r7_13_1, r7_16_0, r7_16_1, T.e, T.a, nn_le, ldA_n s7_2, T.b (a + i) (by omega), bd1_e, e_isBlank (hB (a + i) (by omega)), q3 i hi, nI_add]
      rw [if_neg (by omega), if_neg bO_t0]
      exact ⟨_, rfl, T.ft (FT.rfl.u (by omega)) (by rw [u1_rs, Nat.add_assoc]), F.u (by omega)⟩)
    (by
      rintro m1 ⟨T, F⟩
      unfold bX4_next_0
      simp (disch := omega) only [L0, L1, L2, L3, L4, L5, L6, L7, L8, L9, L10, L11, L12, L13, L14, L15, L16, L17, L18, L19, L20, L21, L22, L23, L24, L25, L26, L27, L28, L29, L30, L31, L32, L33, L34, L35, L36, L37, L38, L39, L40, L41, L42, L43, L44, L45, L46, L47, L48, L50, L57, L59, L60, L63, L64, L65, L70, L80, L90, L97, L100, L110, L120, L122, L128, L150, L200, L208, L216, L224, L232, L240, L248, L255, L256, L264, L272, L280, L288, L296, L297, L300, L336, L337, L500, L680, L700, L998, L999, L1000, L1024, L1999, L6403, L9999, L10000, L12345, L99999, L1000000, L214424576, L412560384, L509804544, L639025541, L642945024, L658545824, L1103515245, L2147483647, g7_0, g7_1, g7_3, g7_4, g7_8, g7_13, g7_16, r7_0_0, r7_0_1, r7_0_2, r7_0_3, r7_0_4, r7_0_5, r7_0_6, r7_0_7, r7_1_0, r7_4_0, r7_4_1, r7_4_2, r7_8_0, r7_8_1, r7_8_2, r7_8_3, r7_13_0, r7_13_1, r7_16_0, r7_16_1, T.e, T.a, nn_le]
      by_cases c : n ≤ a + k
      · rw [if_pos c]; exact ⟨_, rfl, T, F⟩
      · have q5 : isB (B (a + k)) = false := by rcases q4 with z | z; · omega
                                                · exact z
        rw [if_neg c]
        simp (disch := omega) only [ldA_n s7_2, T.b (a + k) (by omega), bd1_e, e_isBlank (hB (a + k) (by omega)), q5]
        rw [if_pos bO_f0]
        exact ⟨_, rfl, T, F⟩)
  unfold tzP
  rw [q1]
  exact ⟨r, a1, a2, a3⟩
/-- a word from p on -/
theorem e_scanWord {p : Nat} (h : TC m B n p) (hn : n ≤ 700) (hB : ∀ j, j < n → B j < 256) (ha : p ≤ n) (hv : m.1 1 6 = nI 0) : ∃ m', fX4_scanWord SX7 m 1 = some m' ∧ TC m' B n (rn isL B n p) ∧ FT m m' ∧ m'.1 1 5 = m.1 1 5 ∧ m'.1 1 4 = nI (if 6 < rn isL B n p - p then 5 else if isK (pk6 B p (rn isL B n p - p) * 2 ^ (5 * (6 - (rn isL B n p - p)))) = true then 2 else 1) ∧ (rn isL B n p - p ≤ 6 → m'.1 1 6 = nI (pk6 B p (rn isL B n p - p) * 2 ^ (5 * (6 - (rn isL B n p - p))))) := by
  obtain ⟨k, q1, q2, q3, q4⟩ := rn_ex isL B ha
  rw [q1, show p + k - p = k by omega]
  unfold fX4_scanWord
  simp only [L0, L1, L2, L3, L4, L5, L6, L7, L8, L9, L10, L11, L12, L13, L14, L15, L16, L17, L18, L19, L20, L21, L22, L23, L24, L25, L26, L27, L28, L29, L30, L31, L32, L33, L34, L35, L36, L37, L38, L39, L40, L41, L42, L43, L44, L45, L46, L47, L48, L50, L57, L59, L60, L63, L64, L65, L70, L80, L90, L97, L100, L110, L120, L122, L128, L150, L200, L208, L216, L224, L232, L240, L248, L255, L256, L264, L272, L280, L288, L296, L297, L300, L336, L337, L500, L680, L700, L998, L999, L1000, L1024, L1999, L6403, L9999, L10000, L12345, L99999, L1000000, L214424576, L412560384, L509804544, L639025541, L642945024, L658545824, L1103515245, L2147483647, g7_0, g7_1, g7_3, g7_4, g7_8, g7_13, g7_16, r7_0_0, r7_0_1, r7_0_2, r7_0_3, r7_0_4, r7_0_5, r7_0_6, r7_0_7, r7_1_0, r7_4_0, r7_4_1, r7_4_2, r7_8_0, r7_8_1, r7_8_2, r7_8_3, r7_13_0, r7_13_1, r7_16_0, r7_16_1]
  obtain ⟨r, a1, a2, a3, a4, a5, a6⟩ := lp_n (b := fun s6 : Int32 × Mm => bX4_scanWord_2 SX7 1 s6.1 s6.2) (N := fu) (s0 := (nI 0, m)) (fun i s => s.1 = nI i ∧ TC s.2 B n (p + i) ∧ FT m s.2 ∧ s.2.1 1 5 = m.1 1 5 ∧ s.2.1 1 6 = nI (pk6 B p i)) (fun r => r.1 = nI k ∧ TC r.2 B n (p + k) ∧ FT m r.2 ∧ r.2.1 1 5 = m.1 1 5 ∧ r.2.1 1 6 = nI (pk6 B p k)) k ⟨rfl, h, FT.rfl, rfl, hv⟩ (by unfold fu; omega)
    (by
      rintro i ⟨x1, m1⟩ hi ⟨e1, T, F, g5, g6⟩
      dsimp only at e1 T F g5 g6 ⊢
      subst e1
      have hb := isL_b (q3 i hi)
      have e97 : (nI (B (p + i)) - nI 97 + nI 1) = nI (B (p + i) - 96) := by
        rw [pk_sub (by omega), nI_add]; congr 1; omega
      refine Or.inl ?_
      unfold bX4_scanWord_2 jX4_scanWord_59
      simp (disch := omega) only [L0, L1, L2, L3, L4, L5, L6, L7, L8, L9, L10, L11, L12, L13, L14, L15, L16, L17, L18, L19, L20, L21, L22, L23, L24, L25, L26, L27, L28, L29, L30, L31, L32, L33, L34, L35, L36, L37, L38, L39, L40, L41, L42, L43, L44, L45, L46, L47, L48, L50, L57, L59, L60, L63, L64, L65, L70, L80, L90, L97, L100, L110, L120, L122, L128, L150, L200, L208, L216, L224, L232, L240, L248, L255, L256, L264, L272, L280, L288, L296, L297, L300, L336, L337, L500, L680, L700, L998, L999, L1000, L1024, L1999, L6403, L9999, L10000, L12345, L99999, L1000000, L214424576, L412560384, L509804544, L639025541, L642945024, L658545824, L1103515245, L2147483647, g7_0, g7_1, g7_3, g7_4, g7_8, g7_13, g7_16, r7_0_0, r7_0_1, r7_0_2, r7_0_3, r7_0_4, r7_0_5, r7_0_6, r7_0_7, r7_1_0, r7_4_0, r7_4_1, r7_4_2, r7_8_0, r7_8_1, r7_8_2, r7_8_3, r7_13_0, r7_13_1, r7_16_0, r7_16_1, T.e, T.a, nn_le, ldA_n s7_2, T.b (p + i) (by omega), bd1_e, e_isLetter (hB (p + i) (by omega)), q3 i hi, nI_add]
      rw [if_neg (by omega), if_neg bO_t0]
      by_cases c : 6 ≤ i
      · rw [if_pos c]
        refine ⟨_, rfl, rfl, T.ft (FT.rfl.u (by omega)) (by rw [u1_rs, Nat.add_assoc]), F.u (by omega), ?_, ?_⟩
        · dsimp only; rw [u1_rn (Or.inl (by omega))]; exact g5
        · dsimp only; rw [u1_rn (Or.inl (by omega)), pk6_s, if_neg (by omega)]; exact g6
      · have hlt := pk6_lt i (fun j hj => q3 j (by omega)) (by omega)
        have hpw : 32 ^ i ≤ 32 ^ 5 := Nat.pow_le_pow_right (by decide) (by omega)
        rw [if_neg c, g6, b8_s (by omega), e97, sh5 (by omega) (by omega)]
        rw [u1_rn (Or.inl (by omega)), T.a, nI_add]
        refine ⟨_, rfl, rfl, T.ft ((FT.rfl.u (by omega)).u (by omega)) (by rw [u1_rs, Nat.add_assoc]), (F.u (by omega)).u (by omega), ?_, ?_⟩
        · dsimp only; rw [u1_rn (Or.inl (by omega)), u1_rn (Or.inl (by omega))]; exact g5
        · dsimp only; rw [u1_rn (Or.inl (by omega)), u1_rs, pk6_s, if_pos (by omega)])
    (by
      rintro ⟨x1, m1⟩ ⟨e1, T, F, g5, g6⟩
      dsimp only at e1 T F g5 g6 ⊢
      subst e1
      unfold bX4_scanWord_2
      simp (disch := omega) only [L0, L1, L2, L3, L4, L5, L6, L7, L8, L9, L10, L11, L12, L13, L14, L15, L16, L17, L18, L19, L20, L21, L22, L23, L24, L25, L26, L27, L28, L29, L30, L31, L32, L33, L34, L35, L36, L37, L38, L39, L40, L41, L42, L43, L44, L45, L46, L47, L48, L50, L57, L59, L60, L63, L64, L65, L70, L80, L90, L97, L100, L110, L120, L122, L128, L150, L200, L208, L216, L224, L232, L240, L248, L255, L256, L264, L272, L280, L288, L296, L297, L300, L336, L337, L500, L680, L700, L998, L999, L1000, L1024, L1999, L6403, L9999, L10000, L12345, L99999, L1000000, L214424576, L412560384, L509804544, L639025541, L642945024, L658545824, L1103515245, L2147483647, g7_0, g7_1, g7_3, g7_4, g7_8, g7_13, g7_16, r7_0_0, r7_0_1, r7_0_2, r7_0_3, r7_0_4, r7_0_5, r7_0_6, r7_0_7, r7_1_0, r7_4_0, r7_4_1, r7_4_2, r7_8_0, r7_8_1, r7_8_2, r7_8_3, r7_13_0, r7_13_1, r7_16_0, r7_16_1, T.e, T.a, nn_le]
      by_cases c : n ≤ p + k
      · rw [if_pos c]; exact ⟨_, rfl, rfl, T, F, g5, g6⟩
      · have q5 : isL (B (p + k)) = false := by rcases q4 with z | z; · omega
                                                · exact z
        rw [if_neg c]
        simp (disch := omega) only [ldA_n s7_2, T.b (p + k) (by omega), bd1_e, e_isLetter (hB (p + k) (by omega)), q5]
        rw [if_pos bO_f0]
        exact ⟨_, rfl, rfl, T, F, g5, g6⟩)
  rw [a1, bd1_e, a2]
  unfold jX4_scanWord_75 jX4_scanWord_118
  simp (disch := omega) only [L0, L1, L2, L3, L4, L5, L6, L7, L8, L9, L10, L11, L12, L13, L14, L15, L16, L17, L18, L19, L20, L21, L22, L23, L24, L25, L26, L27, L28, L29, L30, L31, L32, L33, L34, L35, L36, L37, L38, L39, L40, L41, L42, L43, L44, L45, L46, L47, L48, L50, L57, L59, L60, L63, L64, L65, L70, L80, L90, L97, L100, L110, L120, L122, L128, L150, L200, L208, L216, L224, L232, L240, L248, L255, L256, L264, L272, L280, L288, L296, L297, L300, L336, L337, L500, L680, L700, L998, L999, L1000, L1024, L1999, L6403, L9999, L10000, L12345, L99999, L1000000, L214424576, L412560384, L509804544, L639025541, L642945024, L658545824, L1103515245, L2147483647, g7_0, g7_1, g7_3, g7_4, g7_8, g7_13, g7_16, r7_0_0, r7_0_1, r7_0_2, r7_0_3, r7_0_4, r7_0_5, r7_0_6, r7_0_7, r7_1_0, r7_4_0, r7_4_1, r7_4_2, r7_8_0, r7_8_1, r7_8_2, r7_8_3, r7_13_0, r7_13_1, r7_16_0, r7_16_1, nn_le]
  by_cases c : k ≤ 6
  · have hw := tzW_lt q3 c
    have e6 : (nI 5 * (nI 6 - nI k)) = nI (5 * (6 - k)) := by rw [pk_sub c, pk_mul]
    rw [if_pos c, if_neg (by omega), e6, a6, shk (by omega) (by omega), bd1_e, u1_rs, e_isKeyword hw, bd1_e]
    refine ?_
    have fin : ∀ v : Nat, ∃ m', bd1 (some (u1 (u1 r.2 1 6 (nI (pk6 B p k * 2 ^ (5 * (6 - k))))) 1 4 (nI v))) (fun m11 => some m11) = some m' ∧ TC m' B n (p + k) ∧ FT m m' ∧ m'.1 1 5 = m.1 1 5 ∧ m'.1 1 4 = nI v ∧ (k ≤ 6 → m'.1 1 6 = nI (pk6 B p k * 2 ^ (5 * (6 - k)))) := by
      intro v
      refine ⟨_, rfl, a3.ft ((FT.rfl.u (by omega)).u (by omega)) (by rw [u1_rn (Or.inl (by omega)), u1_rn (Or.inl (by omega))]; exact a3.a), (a4.u (by omega)).u (by omega), ?_, u1_rs, fun _ => ?_⟩
      · rw [u1_rn (Or.inl (by omega)), u1_rn (Or.inl (by omega))]; exact a5
      · rw [u1_rn (Or.inl (by omega)), u1_rs]
    cases hk : isK (pk6 B p k * 2 ^ (5 * (6 - k))) with
    | true => rw [if_neg bO_t0, if_pos rfl]; exact fin 2
    | false => rw [if_pos bO_f0, if_neg (by decide)]; exact fin 1
  · rw [if_neg c, if_pos (by omega), bd1_e]
    exact ⟨_, rfl, a3.ft (FT.rfl.u (by omega)) (by rw [u1_rn (Or.inl (by omega))]; exact a3.a), a4.u (by omega), by rw [u1_rn (Or.inl (by omega))]; exact a5, u1_rs, fun z => absurd z c⟩
theorem e_scanNumber {p : Nat} (h : TC m B n p) (hn : n ≤ 700) (hB : ∀ j, j < n → B j < 256) (ha : p ≤ n) (hv : m.1 1 6 = nI 0) : ∃ m', fX4_scanNumber SX7 m 1 = some m' ∧ TC m' B n (rn isD B n p) ∧ FT m m' ∧ m'.1 1 5 = m.1 1 5 ∧ m'.1 1 4 = nI 3 ∧ m'.1 1 6 = nI (nmC B p (rn isD B n p - p)) := by
  obtain ⟨k, q1, q2, q3, q4⟩ := rn_ex isD B ha
  rw [q1, show p + k - p = k by omega]
  unfold fX4_scanNumber jX4_scanNumber_73
  simp only [L0, L1, L2, L3, L4, L5, L6, L7, L8, L9, L10, L11, L12, L13, L14, L15, L16, L17, L18, L19, L20, L21, L22, L23, L24, L25, L26, L27, L28, L29, L30, L31, L32, L33, L34, L35, L36, L37, L38, L39, L40, L41, L42, L43, L44, L45, L46, L47, L48, L50, L57, L59, L60, L63, L64, L65, L70, L80, L90, L97, L100, L110, L120, L122, L128, L150, L200, L208, L216, L224, L232, L240, L248, L255, L256, L264, L272, L280, L288, L296, L297, L300, L336, L337, L500, L680, L700, L998, L999, L1000, L1024, L1999, L6403, L9999, L10000, L12345, L99999, L1000000, L214424576, L412560384, L509804544, L639025541, L642945024, L658545824, L1103515245, L2147483647, g7_0, g7_1, g7_3, g7_4, g7_8, g7_13, g7_16, r7_0_0, r7_0_1, r7_0_2, r7_0_3, r7_0_4, r7_0_5, r7_0_6, r7_0_7, r7_1_0, r7_4_0, r7_4_1, r7_4_2, r7_8_0, r7_8_1, r7_8_2, r7_8_3, r7_13_0, r7_13_1, r7_16_0, r7_16_1, bd1_e]
  obtain ⟨r, a1, a3, a4, a5, a6, a7⟩ := lp_n (b := fun s7 : Mm => bX4_scanNumber_5 SX7 1 s7) (N := fu) (s0 := u1 m 1 4 (nI 3)) (fun i s => TC s B n (p + i) ∧ FT m s ∧ s.1 1 5 = m.1 1 5 ∧ s.1 1 4 = nI 3 ∧ s.1 1 6 = nI (nmC B p i)) (fun r => TC r B n (p + k) ∧ FT m r ∧ r.1 1 5 = m.1 1 5 ∧ r.1 1 4 = nI 3 ∧ r.1 1 6 = nI (nmC B p k)) k
    ⟨h.ft (FT.rfl.u (by omega)) (by rw [u1_rn (Or.inl (by omega))]; exact h.a), FT.rfl.u (by omega), by rw [u1_rn (Or.inl (by omega))], u1_rs, by rw [u1_rn (Or.inl (by omega))]; exact hv⟩ (by unfold fu; omega)
    (by
      rintro i m1 hi ⟨T, F, g5, g4, g6⟩
      have hb := isD_b (q3 i hi)
      have hm := nmC_b (B := B) (p := p) i
      have ed : fX4_isDigit SX7 m1 (nI (B (p + i))) = some (nI (bO true)) := by rw [← b8_s (by omega), e_isDigit (hB (p + i) (by omega)), q3 i hi]
      refine Or.inl ?_
      unfold bX4_scanNumber_5
      simp (disch := omega) only [L0, L1, L2, L3, L4, L5, L6, L7, L8, L9, L10, L11, L12, L13, L14, L15, L16, L17, L18, L19, L20, L21, L22, L23, L24, L25, L26, L27, L28, L29, L30, L31, L32, L33, L34, L35, L36, L37, L38, L39, L40, L41, L42, L43, L44, L45, L46, L47, L48, L50, L57, L59, L60, L63, L64, L65, L70, L80, L90, L97, L100, L110, L120, L122, L128, L150, L200, L208, L216, L224, L232, L240, L248, L255, L256, L264, L272, L280, L288, L296, L297, L300, L336, L337, L500, L680, L700, L998, L999, L1000, L1024, L1999, L6403, L9999, L10000, L12345, L99999, L1000000, L214424576, L412560384, L509804544, L639025541, L642945024, L658545824, L1103515245, L2147483647, g7_0, g7_1, g7_3, g7_4, g7_8, g7_13, g7_16, r7_0_0, r7_0_1, r7_0_2, r7_0_3, r7_0_4, r7_0_5, r7_0_6, r7_0_7, r7_1_0, r7_4_0, r7_4_1, r7_4_2, r7_8_0, r7_8_1, r7_8_2, r7_8_3, r7_13_0, r7_13_1, r7_16_0, r7_16_1, T.e, T.a, nn_le, ldA_n s7_2, T.b (p + i) (by omega), bd1_e, ed, g6, b8_s (show B (p + i) < 128 by omega), pk_mul, nI_add, pk_sub, nn_lt, ite_lt, ite_le, ite_eq, u1_rn]
      rw [if_neg (by omega), if_neg bO_t0]
      refine ⟨_, rfl, T.ft ((FT.rfl.u (by omega)).u (by omega)) (by rw [u1_rs, Nat.add_assoc]), (F.u (by omega)).u (by omega), ?_, ?_, ?_⟩
      · rw [u1_rn (Or.inl (by omega)), u1_rn (Or.inl (by omega))]; exact g5
      · rw [u1_rn (Or.inl (by omega)), u1_rn (Or.inl (by omega))]; exact g4
      · rw [u1_rn (Or.inl (by omega)), u1_rs]; rfl)
    (by
      rintro m1 ⟨T, F, g5, g4, g6⟩
      unfold bX4_scanNumber_5
      simp (disch := omega) only [L0, L1, L2, L3, L4, L5, L6, L7, L8, L9, L10, L11, L12, L13, L14, L15, L16, L17, L18, L19, L20, L21, L22, L23, L24, L25, L26, L27, L28, L29, L30, L31, L32, L33, L34, L35, L36, L37, L38, L39, L40, L41, L42, L43, L44, L45, L46, L47, L48, L50, L57, L59, L60, L63, L64, L65, L70, L80, L90, L97, L100, L110, L120, L122, L128, L150, L200, L208, L216, L224, L232, L240, L248, L255, L256, L264, L272, L280, L288, L296, L297, L300, L336, L337, L500, L680, L700, L998, L999, L1000, L1024, L1999, L6403, L9999, L10000, L12345, L99999, L1000000, L214424576, L412560384, L509804544, L639025541, L642945024, L658545824, L1103515245, L2147483647, g7_0, g7_1, g7_3, g7_4, g7_8, g7_13, g7_16, r7_0_0, r7_0_1, r7_0_2, r7_0_3, r7_0_4, r7_0_5, r7_0_6, r7_0_7, r7_1_0, r7_4_0, r7_4_1, r7_4_2, r7_8_0, r7_8_1, r7_8_2, r7_8_3, r7_13_0, r7_13_1, r7_16_0, r7_16_1, T.e, T.a, nn_le]
      by_cases c : n ≤ p + k
      · rw [if_pos c]; exact ⟨_, rfl, T, F, g5, g4, g6⟩
      · have q5 : isD (B (p + k)) = false := by rcases q4 with z | z; · omega
                                                · exact z
        rw [if_neg c]
        simp (disch := omega) only [ldA_n s7_2, T.b (p + k) (by omega), bd1_e, e_isDigit (hB (p + k) (by omega)), q5]
        rw [if_pos bO_f0]
        exact ⟨_, rfl, T, F, g5, g4, g6⟩)
  rw [a1, bd1_e]
  exact ⟨r, rfl, a3, a4, a5, a6, a7⟩
theorem rn_le (P : Nat → Bool) {B : Nat → Nat} {n a : Nat} (h : a ≤ n) : a ≤ rn P B n a ∧ rn P B n a ≤ n := by
  obtain ⟨k, q1, q2, _⟩ := rn_ex P B h
  omega
theorem tzA_le (h : a ≤ n) : tzP B n a ≤ tzA B n a ∧ tzA B n a ≤ n ∧ a ≤ tzP B n a ∧ tzP B n a ≤ n := by
  have h1 := rn_le isB (B := B) h
  have h1' : a ≤ tzP B n a ∧ tzP B n a ≤ n := h1
  have h2 := rn_le isL (B := B) h1'.2
  have h3 := rn_le isD (B := B) h1'.2
  unfold tzA
  split
  · omega
  · split
    · omega
    · split
      · omega
      · omega
theorem e_next (h : TC m B n a) (hn : n ≤ 700) (hB : ∀ j, j < n → B j < 256) (ha : a ≤ n) : ∃ m', fX4_next SX7 m 1 = some m' ∧ TC m' B n (tzA B n a) ∧ FT m m' ∧ m'.1 1 5 = nI (tzP B n a) ∧ m'.1 1 4 = nI (tzK B n a) ∧ (tzK B n a = 1 ∨ tzK B n a = 2 → m'.1 1 6 = nI (tzW B n a)) ∧ (tzK B n a = 3 → m'.1 1 6 = nI (nmC B (tzP B n a) (tzN B n a))) := by
  obtain ⟨m1, a1, T1, F1⟩ := e_next0 h hn hB ha
  have hp := (tzA_le (B := B) ha)
  unfold fX4_next jX4_next_39
  simp only [L0, L1, L2, L3, L4, L5, L6, L7, L8, L9, L10, L11, L12, L13, L14, L15, L16, L17, L18, L19, L20, L21, L22, L23, L24, L25, L26, L27, L28, L29, L30, L31, L32, L33, L34, L35, L36, L37, L38, L39, L40, L41, L42, L43, L44, L45, L46, L47, L48, L50, L57, L59, L60, L63, L64, L65, L70, L80, L90, L97, L100, L110, L120, L122, L128, L150, L200, L208, L216, L224, L232, L240, L248, L255, L256, L264, L272, L280, L288, L296, L297, L300, L336, L337, L500, L680, L700, L998, L999, L1000, L1024, L1999, L6403, L9999, L10000, L12345, L99999, L1000000, L214424576, L412560384, L509804544, L639025541, L642945024, L658545824, L1103515245, L2147483647, g7_0, g7_1, g7_3, g7_4, g7_8, g7_13, g7_16, r7_0_0, r7_0_1, r7_0_2, r7_0_3, r7_0_4, r7_0_5, r7_0_6, r7_0_7, r7_1_0, r7_4_0, r7_4_1, r7_4_2, r7_8_0, r7_8_1, r7_8_2, r7_8_3, r7_13_0, r7_13_1, r7_16_0, r7_16_1, a1, bd1_e]
  generalize hm2 : u1 (u1 m1 1 5 (m1.1 1 3)) 1 6 (nI 0) = m2
  have F2 : FT m m2 := by rw [← hm2]; exact (F1.u (by omega)).u (by omega)
  have T2 : TC m2 B n (tzP B n a) := by rw [← hm2]; exact T1.ft ((FT.rfl.u (by omega)).u (by omega)) (by rw [u1_rn (Or.inl (by omega)), u1_rn (Or.inl (by omega))]; exact T1.a)
  have g5 : m2.1 1 5 = nI (tzP B n a) := by rw [← hm2, u1_rn (Or.inl (by omega)), u1_rs]; exact T1.a
  have g6 : m2.1 1 6 = nI 0 := by rw [← hm2, u1_rs]
  simp (disch := omega) only [T2.a, T2.e, nn_lt]
  unfold jX4_next_148
  by_cases c : tzP B n a < n
  · rw [if_pos c]
    simp (disch := omega) only [ldA_n s7_2, T2.b (tzP B n a) c, bd1_e, e_isLetter (hB _ c), e_isDigit (hB _ c)]
    have hnc : ¬ n ≤ tzP B n a := by omega
    cases hL : isL (B (tzP B n a)) with
    | true =>
      obtain ⟨m3, b1, b2, b3, b4, b5, b6⟩ := e_scanWord T2 hn hB hp.2.2.2 g6
      have eA : tzA B n a = rn isL B n (tzP B n a) := by unfold tzA; rw [if_neg hnc, if_pos hL]
      have eN : tzN B n a = rn isL B n (tzP B n a) - tzP B n a := by unfold tzN; rw [eA]
      have eK : tzK B n a = if 6 < tzN B n a then 5 else if isK (tzW B n a) = true then 2 else 1 := by unfold tzK; rw [if_neg hnc, if_pos hL]
      rw [if_neg bO_t0, b1, bd1_e]
      rw [← eN] at b5 b6
      refine ⟨_, rfl, by rw [eA]; exact b2, F2.trans b3, by rw [b4]; exact g5, by rw [eK]; exact b5, fun z => b6 ?_, fun z => ?_⟩
      · rw [eK] at z
        by_cases c6 : 6 < tzN B n a
        · rw [if_pos c6] at z; omega
        · omega
      · rw [eK] at z
        split at z
        · omega
        · split at z <;> omega
    | false =>
      rw [if_pos bO_f0]
      have hLn : ¬ isL (B (tzP B n a)) = true := by rw [hL]; decide
      cases hD : isD (B (tzP B n a)) with
      | true =>
        obtain ⟨m3, b1, b2, b3, b4, b5, b6⟩ := e_scanNumber T2 hn hB hp.2.2.2 g6
        have eA : tzA B n a = rn isD B n (tzP B n a) := by unfold tzA; rw [if_neg hnc, if_neg hLn, if_pos hD]
        have eN : tzN B n a = rn isD B n (tzP B n a) - tzP B n a := by unfold tzN; rw [eA]
        have eK : tzK B n a = 3 := by unfold tzK; rw [if_neg hnc, if_neg hLn, if_pos hD]
        rw [if_neg bO_t0, b1, bd1_e]
        rw [← eN] at b6
        exact ⟨_, rfl, by rw [eA]; exact b2, F2.trans b3, by rw [b4]; exact g5, by rw [eK]; exact b5, fun z => by omega, fun _ => b6⟩
      | false =>
        have hDn : ¬ isD (B (tzP B n a)) = true := by rw [hD]; decide
        rw [if_pos bO_f0]
        have eA : tzA B n a = tzP B n a + 1 := by unfold tzA; rw [if_neg hnc, if_neg hLn, if_neg hDn]
        have eK : tzK B n a = if B (tzP B n a) = 59 then 4 else 5 := by unfold tzK; rw [if_neg hnc, if_neg hLn, if_neg hDn]
        have e59 := b8_eq (k := B (tzP B n a)) (c := 59) (hB _ c) (by omega)
        unfold jX4_next_135 jX4_next_148
        simp only [g7_0, g7_1, g7_3, g7_4, g7_8, g7_13, g7_16, r7_0_0, r7_0_1, r7_0_2, r7_0_3, r7_0_4, r7_0_5, r7_0_6, r7_0_7, r7_1_0, r7_4_0, r7_4_1, r7_4_2, r7_8_0, r7_8_1, r7_8_2, r7_8_3, r7_13_0, r7_13_1, r7_16_0, r7_16_1, bd1_e]
        have fin : ∀ v : Nat, v = tzK B n a → ∃ m', some (u1 (u1 m2 1 4 (nI v)) 1 3 ((u1 m2 1 4 (nI v)).1 1 3 + nI 1)) = some m' ∧ TC m' B n (tzA B n a) ∧ FT m m' ∧ m'.1 1 5 = nI (tzP B n a) ∧ m'.1 1 4 = nI (tzK B n a) ∧ (tzK B n a = 1 ∨ tzK B n a = 2 → m'.1 1 6 = nI (tzW B n a)) ∧ (tzK B n a = 3 → m'.1 1 6 = nI (nmC B (tzP B n a) (tzN B n a))) := by
          intro v hv
          have hv2 : tzK B n a = 4 ∨ tzK B n a = 5 := by rw [eK]; split <;> omega
          refine ⟨_, rfl, T2.ft ((FT.rfl.u (by omega)).u (by omega)) ?_, (F2.u (by omega)).u (by omega), ?_, ?_, fun z => by omega, fun z => by omega⟩
          · rw [u1_rs, u1_rn (Or.inl (by omega)), T2.a, nI_add, eA]
          · rw [u1_rn (Or.inl (by omega)), u1_rn (Or.inl (by omega))]; exact g5
          · rw [u1_rn (Or.inl (by omega)), u1_rs, hv]
        by_cases c59 : B (tzP B n a) = 59
        · rw [if_neg (fun z => z (e59.mpr c59))]
          exact fin 4 (by rw [eK, if_pos c59])
        · rw [if_pos (fun z => c59 (e59.mp z))]
          exact fin 5 (by rw [eK, if_neg c59])
  · rw [if_neg c]
    have eA : tzA B n a = tzP B n a := by unfold tzA; rw [if_pos (by omega)]
    have eK : tzK B n a = 0 := by unfold tzK; rw [if_pos (by omega)]
    exact ⟨_, rfl, T2.ft (FT.rfl.u (by omega)) (by rw [u1_rn (Or.inl (by omega)), eA]; exact T2.a), F2.u (by omega), by rw [u1_rn (Or.inl (by omega))]; exact g5, by rw [u1_rs, eK], fun z => by omega, fun z => by omega⟩
end NX
