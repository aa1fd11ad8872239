/-! ===== tokens: the model's reading of one ===== -/
def srt (k : Nat) : Nat := [4, 1, 0, 2, 3, 5].getD k 0
section KW
variable {B : Nat → Nat} {p k : Nat}
theorem pk6_1 : pk6 B p 1 * 2 ^ (5 * (6 - 1)) = (0 * 32 + (B (p + 0) - 96)) * 33554432 := by
  have e : 2 ^ (5 * (6 - 1)) = 33554432 := by decide
  rw [e]
  rfl
theorem pk6_2 : pk6 B p 2 * 2 ^ (5 * (6 - 2)) = ((0 * 32 + (B (p + 0) - 96)) * 32 + (B (p + 1) - 96)) * 1048576 := by
  have e : 2 ^ (5 * (6 - 2)) = 1048576 := by decide
  rw [e]
  rfl
theorem pk6_3 : pk6 B p 3 * 2 ^ (5 * (6 - 3)) = (((0 * 32 + (B (p + 0) - 96)) * 32 + (B (p + 1) - 96)) * 32 + (B (p + 2) - 96)) * 32768 := by
  have e : 2 ^ (5 * (6 - 3)) = 32768 := by decide
  rw [e]
  rfl
theorem pk6_4 : pk6 B p 4 * 2 ^ (5 * (6 - 4)) = ((((0 * 32 + (B (p + 0) - 96)) * 32 + (B (p + 1) - 96)) * 32 + (B (p + 2) - 96)) * 32 + (B (p + 3) - 96)) * 1024 := by
  have e : 2 ^ (5 * (6 - 4)) = 1024 := by decide
  rw [e]
  rfl
theorem pk6_5 : pk6 B p 5 * 2 ^ (5 * (6 - 5)) = (((((0 * 32 + (B (p + 0) - 96)) * 32 + (B (p + 1) - 96)) * 32 + (B (p + 2) - 96)) * 32 + (B (p + 3) - 96)) * 32 + (B (p + 4) - 96)) * 32 := by
  have e : 2 ^ (5 * (6 - 5)) = 32 := by decide
  rw [e]
  rfl
theorem pk6_6 : pk6 B p 6 * 2 ^ (5 * (6 - 6)) = ((((((0 * 32 + (B (p + 0) - 96)) * 32 + (B (p + 1) - 96)) * 32 + (B (p + 2) - 96)) * 32 + (B (p + 3) - 96)) * 32 + (B (p + 4) - 96)) * 32 + (B (p + 5) - 96)) * 1 := by
  have e : 2 ^ (5 * (6 - 6)) = 1 := by decide
  rw [e]
  rfl
theorem mtW_0 : mtW B p k 0 ↔ k = 4 ∧ B (p + 0) = 108 ∧ B (p + 1) = 105 ∧ B (p + 2) = 110 ∧ B (p + 3) = 107 := by
  constructor
  · rintro ⟨h1, h2⟩
    exact ⟨h1, h2 0 (by decide), h2 1 (by decide), h2 2 (by decide), h2 3 (by decide)⟩
  · rintro ⟨h1, a0, a1, a2, a3⟩
    refine ⟨h1, fun i hi => ?_⟩
    have hi : i < 4 := hi
    match i, hi with
    | 0, _ => exact a0
    | 1, _ => exact a1
    | 2, _ => exact a2
    | 3, _ => exact a3
theorem mtW_1 : mtW B p k 1 ↔ k = 4 ∧ B (p + 0) = 102 ∧ B (p + 1) = 108 ∧ B (p + 2) = 111 ∧ B (p + 3) = 119 := by
  constructor
  · rintro ⟨h1, h2⟩
    exact ⟨h1, h2 0 (by decide), h2 1 (by decide), h2 2 (by decide), h2 3 (by decide)⟩
  · rintro ⟨h1, a0, a1, a2, a3⟩
    refine ⟨h1, fun i hi => ?_⟩
    have hi : i < 4 := hi
    match i, hi with
    | 0, _ => exact a0
    | 1, _ => exact a1
    | 2, _ => exact a2
    | 3, _ => exact a3
theorem mtW_2 : mtW B p k 2 ↔ k = 6 ∧ B (p + 0) = 115 ∧ B (p + 1) = 97 ∧ B (p + 2) = 109 ∧ B (p + 3) = 112 ∧ B (p + 4) = 108 ∧ B (p + 5) = 101 := by
  constructor
  · rintro ⟨h1, h2⟩
    exact ⟨h1, h2 0 (by decide), h2 1 (by decide), h2 2 (by decide), h2 3 (by decide), h2 4 (by decide), h2 5 (by decide)⟩
  · rintro ⟨h1, a0, a1, a2, a3, a4, a5⟩
    refine ⟨h1, fun i hi => ?_⟩
    have hi : i < 6 := hi
    match i, hi with
    | 0, _ => exact a0
    | 1, _ => exact a1
    | 2, _ => exact a2
    | 3, _ => exact a3
    | 4, _ => exact a4
    | 5, _ => exact a5
theorem mtW_3 : mtW B p k 3 ↔ k = 5 ∧ B (p + 0) = 115 ∧ B (p + 1) = 116 ∧ B (p + 2) = 97 ∧ B (p + 3) = 103 ∧ B (p + 4) = 101 := by
  constructor
  · rintro ⟨h1, h2⟩
    exact ⟨h1, h2 0 (by decide), h2 1 (by decide), h2 2 (by decide), h2 3 (by decide), h2 4 (by decide)⟩
  · rintro ⟨h1, a0, a1, a2, a3, a4⟩
    refine ⟨h1, fun i hi => ?_⟩
    have hi : i < 5 := hi
    match i, hi with
    | 0, _ => exact a0
    | 1, _ => exact a1
    | 2, _ => exact a2
    | 3, _ => exact a3
    | 4, _ => exact a4
theorem mtW_4 : mtW B p k 4 ↔ k = 3 ∧ B (p + 0) = 111 ∧ B (p + 1) = 102 ∧ B (p + 2) = 102 := by
  constructor
  · rintro ⟨h1, h2⟩
    exact ⟨h1, h2 0 (by decide), h2 1 (by decide), h2 2 (by decide)⟩
  · rintro ⟨h1, a0, a1, a2⟩
    refine ⟨h1, fun i hi => ?_⟩
    have hi : i < 3 := hi
    match i, hi with
    | 0, _ => exact a0
    | 1, _ => exact a1
    | 2, _ => exact a2
theorem mtW_5 : mtW B p k 5 ↔ k = 4 ∧ B (p + 0) = 115 ∧ B (p + 1) = 101 ∧ B (p + 2) = 101 ∧ B (p + 3) = 100 := by
  constructor
  · rintro ⟨h1, h2⟩
    exact ⟨h1, h2 0 (by decide), h2 1 (by decide), h2 2 (by decide), h2 3 (by decide)⟩
  · rintro ⟨h1, a0, a1, a2, a3⟩
    refine ⟨h1, fun i hi => ?_⟩
    have hi : i < 4 := hi
    match i, hi with
    | 0, _ => exact a0
    | 1, _ => exact a1
    | 2, _ => exact a2
    | 3, _ => exact a3
theorem kW_1 (hk0 : 1 ≤ k) (hk : k ≤ 6) (h : ∀ i, i < k → isL (B (p + i)) = true) : ∀ w, w < 6 → (mtW B p k w ↔ pk6 B p k * 2 ^ (5 * (6 - k)) = kW8 w) := by
  have b : ∀ i, i < k → 97 ≤ B (p + i) ∧ B (p + i) ≤ 122 := fun i hi => isL_b (h i hi)
  intro w hw
  rcases (show k = 1 ∨ k = 2 ∨ k = 3 ∨ k = 4 ∨ k = 5 ∨ k = 6 by omega) with rfl | rfl | rfl | rfl | rfl | rfl
  · have b0 := b 0 (by omega)
    rw [pk6_1]
    match w, hw with
    | 0, _ => rw [mtW_0, show kW8 0 = 412560384 from rfl]; omega
    | 1, _ => rw [mtW_1, show kW8 1 = 214424576 from rfl]; omega
    | 2, _ => rw [mtW_2, show kW8 2 = 639025541 from rfl]; omega
    | 3, _ => rw [mtW_3, show kW8 3 = 658545824 from rfl]; omega
    | 4, _ => rw [mtW_4, show kW8 4 = 509804544 from rfl]; omega
    | 5, _ => rw [mtW_5, show kW8 5 = 642945024 from rfl]; omega
  · have b0 := b 0 (by omega)
    have b1 := b 1 (by omega)
    rw [pk6_2]
    match w, hw with
    | 0, _ => rw [mtW_0, show kW8 0 = 412560384 from rfl]; omega
    | 1, _ => rw [mtW_1, show kW8 1 = 214424576 from rfl]; omega
    | 2, _ => rw [mtW_2, show kW8 2 = 639025541 from rfl]; omega
    | 3, _ => rw [mtW_3, show kW8 3 = 658545824 from rfl]; omega
    | 4, _ => rw [mtW_4, show kW8 4 = 509804544 from rfl]; omega
    | 5, _ => rw [mtW_5, show kW8 5 = 642945024 from rfl]; omega
  · have b0 := b 0 (by omega)
    have b1 := b 1 (by omega)
    have b2 := b 2 (by omega)
    rw [pk6_3]
    match w, hw with
    | 0, _ => rw [mtW_0, show kW8 0 = 412560384 from rfl]; omega
    | 1, _ => rw [mtW_1, show kW8 1 = 214424576 from rfl]; omega
    | 2, _ => rw [mtW_2, show kW8 2 = 639025541 from rfl]; omega
    | 3, _ => rw [mtW_3, show kW8 3 = 658545824 from rfl]; omega
    | 4, _ => rw [mtW_4, show kW8 4 = 509804544 from rfl]; omega
    | 5, _ => rw [mtW_5, show kW8 5 = 642945024 from rfl]; omega
  · have b0 := b 0 (by omega)
    have b1 := b 1 (by omega)
    have b2 := b 2 (by omega)
    have b3 := b 3 (by omega)
    rw [pk6_4]
    match w, hw with
    | 0, _ => rw [mtW_0, show kW8 0 = 412560384 from rfl]; omega
    | 1, _ => rw [mtW_1, show kW8 1 = 214424576 from rfl]; omega
    | 2, _ => rw [mtW_2, show kW8 2 = 639025541 from rfl]; omega
    | 3, _ => rw [mtW_3, show kW8 3 = 658545824 from rfl]; omega
    | 4, _ => rw [mtW_4, show kW8 4 = 509804544 from rfl]; omega
    | 5, _ => rw [mtW_5, show kW8 5 = 642945024 from rfl]; omega
  · have b0 := b 0 (by omega)
    have b1 := b 1 (by omega)
    have b2 := b 2 (by omega)
    have b3 := b 3 (by omega)
    have b4 := b 4 (by omega)
    rw [pk6_5]
    match w, hw with
    | 0, _ => rw [mtW_0, show kW8 0 = 412560384 from rfl]; omega
    | 1, _ => rw [mtW_1, show kW8 1 = 214424576 from rfl]; omega
    | 2, _ => rw [mtW_2, show kW8 2 = 639025541 from rfl]; omega
    | 3, _ => rw [mtW_3, show kW8 3 = 658545824 from rfl]; omega
    | 4, _ => rw [mtW_4, show kW8 4 = 509804544 from rfl]; omega
    | 5, _ => rw [mtW_5, show kW8 5 = 642945024 from rfl]; omega
  · have b0 := b 0 (by omega)
    have b1 := b 1 (by omega)
    have b2 := b 2 (by omega)
    have b3 := b 3 (by omega)
    have b4 := b 4 (by omega)
    have b5 := b 5 (by omega)
    rw [pk6_6]
    match w, hw with
    | 0, _ => rw [mtW_0, show kW8 0 = 412560384 from rfl]; omega
    | 1, _ => rw [mtW_1, show kW8 1 = 214424576 from rfl]; omega
    | 2, _ => rw [mtW_2, show kW8 2 = 639025541 from rfl]; omega
    | 3, _ => rw [mtW_3, show kW8 3 = 658545824 from rfl]; omega
    | 4, _ => rw [mtW_4, show kW8 4 = 509804544 from rfl]; omega
    | 5, _ => rw [mtW_5, show kW8 5 = 642945024 from rfl]; omega
end KW
section TX8
variable {m : Mm} {B : Nat → Nat} {n a : Nat}
theorem e8_nameHere {p q : Nat} (h18 : m.1 0 18 = nI q) (h19 : m.1 0 19 = nI p) (hb : ∀ j, j < n → m.1 1 j = nI (B j)) (hn : n ≤ 700) (hq : q ≤ n) (hp : p ≤ q) (h6 : q - p ≤ 6) (hL : ∀ i, i < q - p → isL (B (p + i)) = true) : ∃ m', fX8_nameHere SX8 m 0 = some m' ∧ FM m m' ∧ m'.1 0 18 = nI q ∧ m'.1 0 19 = nI p ∧ m'.1 0 20 = m.1 0 20 ∧ m'.1 0 21 = nI (pk6 B p (q - p) * 2 ^ (5 * (6 - (q - p)))) := by
  generalize hk : q - p = k at *
  let V : Nat → Nat := fun i => if i ≤ k then pk6 B p i else pk6 B p k * 32 ^ (i - k)
  have hV6 : V 6 = pk6 B p k * 2 ^ (5 * (6 - k)) := by
    show (if 6 ≤ k then pk6 B p 6 else pk6 B p k * 32 ^ (6 - k)) = _
    rw [Nat.pow_mul]
    by_cases c : 6 ≤ k
    · rw [if_pos c, show k = 6 by omega, Nat.sub_self, Nat.pow_zero, Nat.mul_one]
    · rw [if_neg c]
  have hVl : ∀ i, i ≤ 6 → V i < 32 ^ i := by
    intro i hi
    show (if i ≤ k then pk6 B p i else pk6 B p k * 32 ^ (i - k)) < 32 ^ i
    by_cases c : i ≤ k
    · rw [if_pos c]; exact pk6_lt i (fun j hj => hL j (by omega)) hi
    · rw [if_neg c]
      have h1 := pk6_lt k hL h6
      have h2 := Nat.mul_lt_mul_of_lt_of_le h1 (Nat.le_refl (32 ^ (i - k))) (Nat.pow_pos (by decide))
      rw [← Nat.pow_add, show k + (i - k) = i by omega] at h2
      exact h2
  have hVs : ∀ i, i < 6 → V (i + 1) = V i * 32 + (if i < k then B (p + i) - 96 else 0) := by
    intro i hi
    show (if i + 1 ≤ k then pk6 B p (i + 1) else pk6 B p k * 32 ^ (i + 1 - k)) = (if i ≤ k then pk6 B p i else pk6 B p k * 32 ^ (i - k)) * 32 + _
    by_cases c : i < k
    · rw [if_pos (by omega), if_pos (by omega), if_pos c, pk6_s, if_pos hi]
    · rw [if_neg (by omega), if_neg c]
      by_cases c2 : i = k
      · subst c2
        rw [if_pos (Nat.le_refl _), show i + 1 - i = 1 by omega, Nat.pow_one, Nat.add_zero]
      · rw [if_neg (by omega), show i + 1 - k = (i - k) + 1 by omega, Nat.pow_succ, Nat.mul_assoc, Nat.add_zero]
  unfold fX8_nameHere
  simp only [L0, L1, L2, L3, L4, L5, L6, L7, L8, L9, L10, L11, L12, L13, L14, L15, L16, L17, L18, L19, L20, L21, L22, L23, L24, L25, L26, L27, L28, L29, L30, L31, L32, L33, L34, L35, L36, L37, L38, L39, L40, L41, L42, L43, L44, L45, L46, L47, L48, L50, L57, L59, L60, L63, L64, L65, L70, L80, L90, L97, L100, L110, L120, L122, L128, L150, L200, L208, L216, L224, L232, L240, L248, L255, L256, L264, L272, L280, L288, L296, L297, L300, L336, L337, L500, L680, L700, L998, L999, L1000, L1024, L1999, L6403, L9999, L10000, L12345, L99999, L1000000, L214424576, L412560384, L509804544, L639025541, L642945024, L658545824, L1103515245, L2147483647, g8_0, r8_1, r8_3, r8_4, r8_5, r8_6, r8_7, r8_8, r8_9, r8_10, r8_11, r8_12, r8_13, r8_14, r8_15, r8_26, r8_27, r8_28, r8_29, r8_30, r8_33, r8_34, r8_35, r8_36, r8_37, r8_39, r8_40, r8_41, r8_43, r8_44, r8_45, bd1_e]
  obtain ⟨y, a1, a2, a3, a4, a5, a6⟩ := lp_F (b := fun s5 : Int32 × Mm => bX8_nameHere_7 SX8 0 s5.1 s5.2) (fun i m1 => FM m m1 ∧ m1.1 0 18 = nI q ∧ m1.1 0 19 = nI p ∧ m1.1 0 20 = m.1 0 20 ∧ m1.1 0 21 = nI (V i)) 6 (m := u1 m 0 21 (nI 0)) (by omega)
    ⟨FM.rfl.u (by omega), by rw [u1_rn (Or.inl (by omega))]; exact h18, by rw [u1_rn (Or.inl (by omega))]; exact h19, by rw [u1_rn (Or.inl (by omega))], by rw [u1_rs]; congr 1⟩
    (by
      rintro i m1 hi ⟨F, g1, g2, g3, g4⟩
      have hl := hVl i (by omega)
      have hpw : 32 ^ i ≤ 32 ^ 5 := Nat.pow_le_pow_right (by decide) (by omega)
      have fin : ∀ d, d < 32 → V (i + 1) = V i * 32 + d → ∃ m2, some (Sum.inl (nI (i + 1), u1 m1 0 21 ((nI (V i) <<< (nI 5 &&& nI 31)) ||| nI d))) = some (Sum.inl (nI (i + 1), m2) : (Int32 × Mm) ⊕ Mm) ∧ FM m m2 ∧ m2.1 0 18 = nI q ∧ m2.1 0 19 = nI p ∧ m2.1 0 20 = m.1 0 20 ∧ m2.1 0 21 = nI (V (i + 1)) := by
        intro d hd e
        refine ⟨_, rfl, F.u (by omega), ?_, ?_, ?_, ?_⟩
        · rw [u1_rn (Or.inl (by omega))]; exact g1
        · rw [u1_rn (Or.inl (by omega))]; exact g2
        · rw [u1_rn (Or.inl (by omega))]; exact g3
        · rw [u1_rs, sh5 (by omega) hd, e]
      dsimp only
      unfold bX8_nameHere_7 jX8_nameHere_53
      simp (disch := omega) only [L0, L1, L2, L3, L4, L5, L6, L7, L8, L9, L10, L11, L12, L13, L14, L15, L16, L17, L18, L19, L20, L21, L22, L23, L24, L25, L26, L27, L28, L29, L30, L31, L32, L33, L34, L35, L36, L37, L38, L39, L40, L41, L42, L43, L44, L45, L46, L47, L48, L50, L57, L59, L60, L63, L64, L65, L70, L80, L90, L97, L100, L110, L120, L122, L128, L150, L200, L208, L216, L224, L232, L240, L248, L255, L256, L264, L272, L280, L288, L296, L297, L300, L336, L337, L500, L680, L700, L998, L999, L1000, L1024, L1999, L6403, L9999, L10000, L12345, L99999, L1000000, L214424576, L412560384, L509804544, L639025541, L642945024, L658545824, L1103515245, L2147483647, g8_0, r8_1, r8_3, r8_4, r8_5, r8_6, r8_7, r8_8, r8_9, r8_10, r8_11, r8_12, r8_13, r8_14, r8_15, r8_26, r8_27, r8_28, r8_29, r8_30, r8_33, r8_34, r8_35, r8_36, r8_37, r8_39, r8_40, r8_41, r8_43, r8_44, r8_45, nn_le, g1, g2, g4, nI_add, bd1_e]
      rw [if_neg (by omega)]
      by_cases c : q ≤ p + i
      · rw [if_pos c]
        exact fin 0 (by omega) (by rw [hVs i (by omega), if_neg (by omega)])
      · have hbi := isL_b (hL i (by omega))
        have e97 : (nI (B (p + i)) - nI 97 + nI 1) = nI (B (p + i) - 96) := by
          rw [pk_sub (by omega), nI_add]; congr 1; omega
        rw [if_neg c]
        simp (disch := omega) only [ldA_n s8_1, F.1 1 (by omega), hb (p + i) (by omega), bd1_e, e97]
        exact fin (B (p + i) - 96) (by omega) (by rw [hVs i (by omega), if_pos (by omega)]))
    (by
      rintro m1 ⟨F, g1, g2, g3, g4⟩
      dsimp only
      unfold bX8_nameHere_7
      simp (disch := omega) only [L0, L1, L2, L3, L4, L5, L6, L7, L8, L9, L10, L11, L12, L13, L14, L15, L16, L17, L18, L19, L20, L21, L22, L23, L24, L25, L26, L27, L28, L29, L30, L31, L32, L33, L34, L35, L36, L37, L38, L39, L40, L41, L42, L43, L44, L45, L46, L47, L48, L50, L57, L59, L60, L63, L64, L65, L70, L80, L90, L97, L100, L110, L120, L122, L128, L150, L200, L208, L216, L224, L232, L240, L248, L255, L256, L264, L272, L280, L288, L296, L297, L300, L336, L337, L500, L680, L700, L998, L999, L1000, L1024, L1999, L6403, L9999, L10000, L12345, L99999, L1000000, L214424576, L412560384, L509804544, L639025541, L642945024, L658545824, L1103515245, L2147483647, nn_le]
      rw [if_pos (by omega)])
  rw [a1, bd1_e]
  exact ⟨y, rfl, a2, a3, a4, a5, by rw [a6, hV6]⟩
end TX8
