/-! ===== fractions in lowest terms; the class's answers ===== -/
def rdU (a b : Nat) : Nat := a / Nat.gcd b a
def rdL (a b : Nat) : Nat := b / Nat.gcd b a
theorem rd_eq {a b c d : Nat} (hb : 0 < b) (hd : 0 < d) (h : a * d = c * b) : rdU a b = rdU c d ∧ rdL a b = rdL c d := by
  have e1 : Nat.gcd (b * d) (a * d) = Nat.gcd b a * d := Nat.gcd_mul_right b d a
  have e2 : Nat.gcd (d * b) (c * b) = Nat.gcd d c * b := Nat.gcd_mul_right d b c
  have e3 : Nat.gcd (b * d) (a * d) = Nat.gcd (d * b) (c * b) := by rw [h, Nat.mul_comm b d]
  have u1 : a * d / (Nat.gcd b a * d) = a / Nat.gcd b a := Nat.mul_div_mul_right _ _ hd
  have u2 : c * b / (Nat.gcd d c * b) = c / Nat.gcd d c := Nat.mul_div_mul_right _ _ hb
  have l1 : b * d / (Nat.gcd b a * d) = b / Nat.gcd b a := Nat.mul_div_mul_right _ _ hd
  have l2 : d * b / (Nat.gcd d c * b) = d / Nat.gcd d c := Nat.mul_div_mul_right _ _ hb
  unfold rdU rdL
  refine ⟨?_, ?_⟩
  · rw [← u1, ← u2, ← e1, ← e2, e3, h]
  · rw [← l1, ← l2, ← e1, ← e2, e3, Nat.mul_comm b d]
theorem rd_x (a b : Nat) : rdU a b * b = a * rdL a b := by
  unfold rdU rdL
  have h1 : a / Nat.gcd b a * Nat.gcd b a = a := Nat.div_mul_cancel (Nat.gcd_dvd_right b a)
  have h2 : b / Nat.gcd b a * Nat.gcd b a = b := Nat.div_mul_cancel (Nat.gcd_dvd_left b a)
  generalize hu : a / Nat.gcd b a = u at *
  generalize hw : b / Nat.gcd b a = w at *
  generalize Nat.gcd b a = g at *
  rw [← h2, ← h1]
  simp only [Nat.mul_assoc, Nat.mul_comm, Nat.mul_left_comm]
theorem rdL_0 {a b : Nat} (hb : 0 < b) : 0 < rdL a b := Nat.div_pos (Nat.le_of_dvd hb (Nat.gcd_dvd_left b a)) (Nat.gcd_pos_of_pos_left a hb)
theorem rdU_le (a b : Nat) : rdU a b ≤ a := Nat.div_le_self _ _
theorem rdL_le (a b : Nat) : rdL a b ≤ b := Nat.div_le_self _ _
theorem rdU_0 {a b : Nat} (hb : 0 < b) : rdU a b = 0 ↔ a = 0 := by
  constructor
  · intro h
    have := rd_x a b
    rw [h, Nat.zero_mul] at this
    have h2 := rdL_0 (a := a) hb
    rcases Nat.mul_eq_zero.mp this.symm with z | z
    · exact z
    · omega
  · intro h
    have := rdU_le a b
    omega
theorem lp_l {σ ρ : Type} {b : σ → Option (σ ⊕ ρ)} {M : Nat} {s s' : σ} (h : b s = some (.inl s')) : lp b (M + 1) s = lp b M s' := by
  rw [lp.eq_def]
  simp only [h]
theorem lp_r {σ ρ : Type} {b : σ → Option (σ ⊕ ρ)} {M : Nat} {s : σ} {r : ρ} (h : b s = some (.inr r)) : lp b (M + 1) s = some r := by
  rw [lp.eq_def]
  simp only [h]
theorem gcd_st {a b : Nat} : Nat.gcd a b = Nat.gcd b (a % b) := (Nat.gcd_comm a b).trans ((Nat.gcd_rec b a).trans (Nat.gcd_comm _ _))
theorem mod_2k {r b k : Nat} (h0 : 0 < r) (h1 : r ≤ b) (h2 : b < 2 ^ (k + 1)) : b % r < 2 ^ k := by
  rw [Nat.pow_succ] at h2
  by_cases c : r ≤ 2 ^ k
  · have := Nat.mod_lt b h0; omega
  · have e : b % r = (b - r) % r := Nat.mod_eq_sub_mod h1
    have := Nat.mod_le (b - r) r
    omega
theorem gcd7 {m : Mm} : ∀ k a b i M, b < 2 ^ k → a < 2147483648 → b < 2147483648 → i + 2 * k ≤ 64 → 2 * k + 1 ≤ M → lp (fun s3 : Int32 × Int32 × Int32 => bX3_common_19 SX7 m 13 s3.1 s3.2.1 s3.2.2) M (nI a, nI b, nI i) = some (nI (Nat.gcd a b)) := by
  have base : ∀ a b i M, b = 0 → 1 ≤ M → i ≤ 64 → lp (fun s3 : Int32 × Int32 × Int32 => bX3_common_19 SX7 m 13 s3.1 s3.2.1 s3.2.2) M (nI a, nI b, nI i) = some (nI (Nat.gcd a b)) := by
    intro a b i M hb hM hi
    subst hb
    obtain ⟨M, rfl⟩ : ∃ M', M = M' + 1 := ⟨M - 1, by omega⟩
    rw [Nat.gcd_zero_right]
    refine lp_r ?_
    dsimp only
    unfold bX3_common_19
    simp (disch := omega) only [L0, L1, L2, L3, L4, L5, L6, L7, L8, L9, L10, L11, L12, L13, L14, L15, L16, L17, L18, L19, L20, L21, L22, L23, L24, L25, L26, L27, L28, L29, L30, L31, L32, L33, L34, L35, L36, L37, L38, L39, L40, L41, L42, L43, L44, L45, L46, L47, L48, L50, L57, L59, L60, L63, L64, L65, L70, L80, L90, L97, L100, L110, L120, L122, L128, L150, L200, L208, L216, L224, L232, L240, L248, L255, L256, L264, L272, L280, L288, L296, L297, L300, L336, L337, L500, L680, L700, L998, L999, L1000, L1024, L1999, L6403, L9999, L10000, L12345, L99999, L1000000, L214424576, L412560384, L509804544, L639025541, L642945024, L658545824, L1103515245, L2147483647, nn_le]
    by_cases c : 64 ≤ i
    · rw [if_pos c]
    · rw [if_neg c, if_pos (Nat.le_refl _)]
  have step : ∀ a b i M, 0 < b → a < 2147483648 → b < 2147483648 → i < 64 → lp (fun s3 : Int32 × Int32 × Int32 => bX3_common_19 SX7 m 13 s3.1 s3.2.1 s3.2.2) (M + 1) (nI a, nI b, nI i) = lp (fun s3 : Int32 × Int32 × Int32 => bX3_common_19 SX7 m 13 s3.1 s3.2.1 s3.2.2) M (nI b, nI (a % b), nI (i + 1)) := by
    intro a b i M hb ha hb2 hi
    refine lp_l ?_
    dsimp only
    unfold bX3_common_19
    simp (disch := omega) only [L0, L1, L2, L3, L4, L5, L6, L7, L8, L9, L10, L11, L12, L13, L14, L15, L16, L17, L18, L19, L20, L21, L22, L23, L24, L25, L26, L27, L28, L29, L30, L31, L32, L33, L34, L35, L36, L37, L38, L39, L40, L41, L42, L43, L44, L45, L46, L47, L48, L50, L57, L59, L60, L63, L64, L65, L70, L80, L90, L97, L100, L110, L120, L122, L128, L150, L200, L208, L216, L224, L232, L240, L248, L255, L256, L264, L272, L280, L288, L296, L297, L300, L336, L337, L500, L680, L700, L998, L999, L1000, L1024, L1999, L6403, L9999, L10000, L12345, L99999, L1000000, L214424576, L412560384, L509804544, L639025541, L642945024, L658545824, L1103515245, L2147483647, nn_le, rmI_n, bd1_e, nI_add]
    rw [if_neg (by omega), if_neg (by omega)]
  intro k
  induction k with
  | zero =>
    intro a b i M hb ha hb2 hi hM
    exact base a b i M (by omega) (by omega) (by omega)
  | succ k ih =>
    intro a b i M hb ha hb2 hi hM
    by_cases c : b = 0
    · exact base a b i M c (by omega) (by omega)
    · obtain ⟨M, rfl⟩ : ∃ M', M = M' + 2 := ⟨M - 2, by omega⟩
      rw [step a b i (M + 1) (by omega) ha hb2 (by omega), gcd_st]
      have hr := Nat.mod_lt a (show 0 < b by omega)
      by_cases c2 : a % b = 0
      · exact base b (a % b) (i + 1) (M + 1) c2 (by omega) (by omega)
      · have hm := Nat.mod_lt b (show 0 < a % b by omega)
        rw [step b (a % b) (i + 1) M (by omega) hb2 (by omega) (by omega), gcd_st]
        exact ih (a % b) (b % (a % b)) (i + 1 + 1) M (mod_2k (by omega) (by omega) hb) (by omega) (by omega) (by omega) (by omega)
section SH
variable {m : Mm} {p : Nat} {π : Pl} {X : Nat → Nat} {D s : Nat} {q : Nat → Nat} {H : Nat → Bool}
theorem e_common (h : HS m π D q H) (w : WL π X D q H s) (O : π.ok) {f : Nat} (hf : f < π.nf) (hH : H f = true) : fX3_common SX7 m 13 (nI f) = some (nI (Nat.gcd D (q f))) := by
  have hnf := O.nf
  have h1 := w.d1
  have h2 := w.D O
  have h3 := w.p O hf hH
  unfold fX3_common jX3_common_46
  simp (disch := omega) only [L0, L1, L2, L3, L4, L5, L6, L7, L8, L9, L10, L11, L12, L13, L14, L15, L16, L17, L18, L19, L20, L21, L22, L23, L24, L25, L26, L27, L28, L29, L30, L31, L32, L33, L34, L35, L36, L37, L38, L39, L40, L41, L42, L43, L44, L45, L46, L47, L48, L50, L57, L59, L60, L63, L64, L65, L70, L80, L90, L97, L100, L110, L120, L122, L128, L150, L200, L208, L216, L224, L232, L240, L248, L255, L256, L264, L272, L280, L288, L296, L297, L300, L336, L337, L500, L680, L700, L998, L999, L1000, L1024, L1999, L6403, L9999, L10000, L12345, L99999, L1000000, L214424576, L412560384, L509804544, L639025541, L642945024, L658545824, L1103515245, L2147483647, g7_0, g7_1, g7_3, g7_4, g7_8, g7_13, g7_16, r7_0_0, r7_0_1, r7_0_2, r7_0_3, r7_0_4, r7_0_5, r7_0_6, r7_0_7, r7_1_0, r7_4_0, r7_4_1, r7_4_2, r7_8_0, r7_8_1, r7_8_2, r7_8_3, r7_13_0, r7_13_1, r7_16_0, r7_16_1, ldA_n s7_14, h.q f hf hH, h.d, bd1_e]
  have e : (if nI 1 < nI D then nI D else nI 1) = nI D := by
    by_cases c : D = 1
    · subst c; rw [if_neg (by decide)]
    · rw [if_pos ((nn_lt (by omega) (by omega)).mpr (by omega))]
  rw [e, gcd7 15 D (q f) 0 fu (by omega) (by omega) (by omega) (by omega) (by unfold fu; omega), bd1_e]
theorem gcd1 {a : Nat} {g : Nat} (h0 : 0 < g) (h : g ≤ 1) : a / g = a := by
  have : g = 1 := by omega
  rw [this, Nat.div_one]
theorem e_upper (h : HS m π D q H) (w : WL π X D q H s) (O : π.ok) {f : Nat} (hf : f < π.nf) (hH : H f = true) : fX3_upper SX7 m 13 (nI f) = some (nI (rdU (q f) D)) := by
  have hnf := O.nf
  have h1 := w.d1
  have h2 := w.D O
  have h3 := w.p O hf hH
  have g0 := Nat.gcd_pos_of_pos_left (q f) (show 0 < D by omega)
  have g1 := Nat.le_of_dvd (by omega) (Nat.gcd_dvd_left D (q f))
  unfold fX3_upper jX3_upper_28
  simp (disch := omega) only [L0, L1, L2, L3, L4, L5, L6, L7, L8, L9, L10, L11, L12, L13, L14, L15, L16, L17, L18, L19, L20, L21, L22, L23, L24, L25, L26, L27, L28, L29, L30, L31, L32, L33, L34, L35, L36, L37, L38, L39, L40, L41, L42, L43, L44, L45, L46, L47, L48, L50, L57, L59, L60, L63, L64, L65, L70, L80, L90, L97, L100, L110, L120, L122, L128, L150, L200, L208, L216, L224, L232, L240, L248, L255, L256, L264, L272, L280, L288, L296, L297, L300, L336, L337, L500, L680, L700, L998, L999, L1000, L1024, L1999, L6403, L9999, L10000, L12345, L99999, L1000000, L214424576, L412560384, L509804544, L639025541, L642945024, L658545824, L1103515245, L2147483647, g7_0, g7_1, g7_3, g7_4, g7_8, g7_13, g7_16, r7_0_0, r7_0_1, r7_0_2, r7_0_3, r7_0_4, r7_0_5, r7_0_6, r7_0_7, r7_1_0, r7_4_0, r7_4_1, r7_4_2, r7_8_0, r7_8_1, r7_8_2, r7_8_3, r7_13_0, r7_13_1, r7_16_0, r7_16_1, e_common h w O hf hH, ldA_n s7_14, h.q f hf hH, bd1_e, nn_le, dvI_n]
  unfold rdU
  by_cases c : Nat.gcd D (q f) ≤ 1
  · rw [if_pos c, gcd1 g0 c]
  · rw [if_neg c]
theorem e_lower (h : HS m π D q H) (w : WL π X D q H s) (O : π.ok) {f : Nat} (hf : f < π.nf) (hH : H f = true) : fX3_lower SX7 m 13 (nI f) = some (nI (rdL (q f) D)) := by
  have hnf := O.nf
  have h1 := w.d1
  have h2 := w.D O
  have h3 := w.p O hf hH
  have g0 := Nat.gcd_pos_of_pos_left (q f) (show 0 < D by omega)
  have g1 := Nat.le_of_dvd (by omega) (Nat.gcd_dvd_left D (q f))
  unfold fX3_lower jX3_lower_24
  simp (disch := omega) only [L0, L1, L2, L3, L4, L5, L6, L7, L8, L9, L10, L11, L12, L13, L14, L15, L16, L17, L18, L19, L20, L21, L22, L23, L24, L25, L26, L27, L28, L29, L30, L31, L32, L33, L34, L35, L36, L37, L38, L39, L40, L41, L42, L43, L44, L45, L46, L47, L48, L50, L57, L59, L60, L63, L64, L65, L70, L80, L90, L97, L100, L110, L120, L122, L128, L150, L200, L208, L216, L224, L232, L240, L248, L255, L256, L264, L272, L280, L288, L296, L297, L300, L336, L337, L500, L680, L700, L998, L999, L1000, L1024, L1999, L6403, L9999, L10000, L12345, L99999, L1000000, L214424576, L412560384, L509804544, L639025541, L642945024, L658545824, L1103515245, L2147483647, g7_0, g7_1, g7_3, g7_4, g7_8, g7_13, g7_16, r7_0_0, r7_0_1, r7_0_2, r7_0_3, r7_0_4, r7_0_5, r7_0_6, r7_0_7, r7_1_0, r7_4_0, r7_4_1, r7_4_2, r7_8_0, r7_8_1, r7_8_2, r7_8_3, r7_13_0, r7_13_1, r7_16_0, r7_16_1, e_common h w O hf hH, h.d, bd1_e, nn_le, dvI_n]
  unfold rdL
  by_cases c : Nat.gcd D (q f) ≤ 1
  · rw [if_pos c, gcd1 g0 c]
  · rw [if_neg c]
theorem e_fills (hp : p = 21 ∨ p = 31) (P : PF m p π) (h : HS m π D q H) (w : WL π X D q H s) (O : π.ok) {l : Nat} (hl : l < π.nl) : ∃ m', fX3_fills SX7 m 13 p (nI l) = some (nI (if frL π D q H l = 0 then 1 else 0), m') ∧ HS m' π D q H ∧ Fr cSh m m' := by
  have hb := w.b O hl
  obtain ⟨m1, a1, a2, a3, a4, a5⟩ := e_lookAt hp P O h hl hb.1
  have a3' : m1.1 13 3 = nI (frL π D q H l) := a3
  have hfl : frL π D q H l ≤ 16384 := by unfold frL; omega
  unfold fX3_fills jX3_fills_18
  simp (disch := omega) only [L0, L1, L2, L3, L4, L5, L6, L7, L8, L9, L10, L11, L12, L13, L14, L15, L16, L17, L18, L19, L20, L21, L22, L23, L24, L25, L26, L27, L28, L29, L30, L31, L32, L33, L34, L35, L36, L37, L38, L39, L40, L41, L42, L43, L44, L45, L46, L47, L48, L50, L57, L59, L60, L63, L64, L65, L70, L80, L90, L97, L100, L110, L120, L122, L128, L150, L200, L208, L216, L224, L232, L240, L248, L255, L256, L264, L272, L280, L288, L296, L297, L300, L336, L337, L500, L680, L700, L998, L999, L1000, L1024, L1999, L6403, L9999, L10000, L12345, L99999, L1000000, L214424576, L412560384, L509804544, L639025541, L642945024, L658545824, L1103515245, L2147483647, g7_0, g7_1, g7_3, g7_4, g7_8, g7_13, g7_16, r7_0_0, r7_0_1, r7_0_2, r7_0_3, r7_0_4, r7_0_5, r7_0_6, r7_0_7, r7_1_0, r7_4_0, r7_4_1, r7_4_2, r7_8_0, r7_8_1, r7_8_2, r7_8_3, r7_13_0, r7_13_1, r7_16_0, r7_16_1, g7_p hp, r7_p_0 hp, r7_p_1 hp, r7_p_2 hp, r7_p_3 hp, r7_p_4 hp, r7_p_5 hp, r7_p_6 hp, r7_p_7 hp, r7_p_8 hp, a1, bd1_e, a3', nn_eq, okZ_0, okZ_1]
  refine ⟨m1, ?_, a2, a5⟩
  by_cases c : frL π D q H l = 0
  · rw [if_neg (fun z => z c), if_pos c]
  · rw [if_pos c, if_neg c]
end SH
