/-! ===== long numbers; the model's fractions ===== -/
def lI (n : Nat) : Int64 := Int64.ofNat n
theorem lI_toInt {n : Nat} (h : n < 2147483648) : (lI n).toInt = (n : Int) := lg_ofNat_toInt (by omega)
theorem lI_add (a b : Nat) : lI a + lI b = lI (a + b) := (Int64.ofNat_add a b).symm
theorem lI_mul (a b : Nat) : lI a * lI b = lI (a * b) := (Int64.ofNat_mul a b).symm
theorem lI_sub {a b : Nat} (h : b ≤ a) : lI a - lI b = lI (a - b) := by
  obtain ⟨c, rfl⟩ : ∃ c, a = c + b := ⟨a - b, by omega⟩
  rw [← lI_add, Int64.add_sub_cancel, Nat.add_sub_cancel]
theorem lI_div {a d : Nat} (ha : a < 2147483648) (h0 : 0 < d) (hd : d < 2147483648) : lI a / lI d = lI (a / d) := by
  apply Int64.toInt_inj.mp
  rw [lg_ldiv_nonneg (by rw [lI_toInt ha]; omega) (by rw [lI_toInt hd]; omega), lI_toInt ha, lI_toInt hd, lI_toInt (Nat.lt_of_le_of_lt (Nat.div_le_self a d) ha)]
  first | rfl | exact (Int.natCast_ediv _ _).symm
theorem lI_eq {a b : Nat} (ha : a < 2147483648) (hb : b < 2147483648) : (lI a = lI b) ↔ a = b := by
  constructor
  · intro h
    have := congrArg Int64.toInt h
    rw [lI_toInt ha, lI_toInt hb] at this
    omega
  · intro h; rw [h]
theorem lI_lt {a b : Nat} (ha : a < 2147483648) (hb : b < 2147483648) : (lI a < lI b) ↔ a < b := by
  rw [Int64.lt_iff_toInt_lt, lI_toInt ha, lI_toInt hb]; omega
theorem lI_le {a b : Nat} (ha : a < 2147483648) (hb : b < 2147483648) : (lI a ≤ lI b) ↔ a ≤ b := by
  rw [Int64.le_iff_toInt_le, lI_toInt ha, lI_toInt hb]; omega
theorem LL0 : (0 : Int64) = lI 0 := Eq.trans rfl rfl
theorem LL1 : (1 : Int64) = lI 1 := Eq.trans rfl rfl
theorem nI_L {k : Nat} (h : k < 2147483648) : (nI k).toInt64 = lI k := by
  apply Int64.toInt_inj.mp
  rw [Int32.toInt_toInt64, nI_toInt h, lI_toInt h]
theorem dvL_n {a d : Nat} (ha : a < 2147483648) (h0 : 0 < d) (hd : d < 2147483648) : dvL (lI a) (lI d) = some (lI (a / d)) := by
  unfold dvL
  rw [if_neg ?_, lI_div ha h0 hd]
  rw [LL0, lI_eq hd (by omega)]; omega
theorem rmL_n {a d : Nat} (ha : a < 2147483648) (h0 : 0 < d) (hd : d < 2147483648) : rmL (lI a) (lI d) = some (lI (a % d)) := by
  unfold rmL
  rw [if_neg ?_, lI_div ha h0 hd, lI_mul, lI_sub (Nat.div_mul_le_self a d)]
  · exact congrArg (fun x => some (lI x)) (by have := Nat.div_add_mod' a d; omega)
  · rw [LL0, lI_eq hd (by omega)]; omega
theorem lc_ge (x y : Int64) : (nI 0 ≤ lg_cmp x y) ↔ y ≤ x := lg_cmp_ge x y
theorem lc_lt (x y : Int64) : (lg_cmp x y < nI 0) ↔ x < y := lg_cmp_lt x y
theorem lc_eq (x y : Int64) : (lg_cmp x y = nI 0) ↔ x = y := lg_cmp_eq x y
theorem u2_1 {m : Mm} {o i : Nat} {v : Int64} : (u2 m o i v).1 = m.1 := Eq.trans rfl rfl
theorem u2_rs {m : Mm} {o i : Nat} {v : Int64} : (u2 m o i v).2 o i = v := by
  show (if o = o then vp_updL (m.2 o) i v else m.2 o) i = v
  rw [if_pos rfl]; exact pk_uLs
theorem u2_rn {m : Mm} {o i k j : Nat} {v : Int64} (h : j ≠ i ∨ k ≠ o) : (u2 m o i v).2 k j = m.2 k j := by
  show (if k = o then vp_updL (m.2 o) i v else m.2 k) j = m.2 k j
  by_cases e : k = o
  · subst e; rw [if_pos rfl]; exact pk_uLn (by omega)
  · rw [if_neg e]
theorem u2_other {m : Mm} {o i k : Nat} {v : Int64} (h : k ≠ o) : (u2 m o i v).2 k = m.2 k := if_neg h
theorem gcd8 {m : Mm} : ∀ k a b M, b < 2 ^ k → a < 2147483648 → b < 2147483648 → 2 * k + 1 ≤ M → lp (fun s2 : Int64 × Int64 => bX8_divisor_17 SX8 m s2.1 s2.2) M (lI a, lI b) = some (lI (Nat.gcd a b)) := by
  have base : ∀ a b M, b = 0 → 1 ≤ M → lp (fun s2 : Int64 × Int64 => bX8_divisor_17 SX8 m s2.1 s2.2) M (lI a, lI b) = some (lI (Nat.gcd a b)) := by
    intro a b M hb hM
    subst hb
    obtain ⟨M, rfl⟩ : ∃ M', M = M' + 1 := ⟨M - 1, by omega⟩
    rw [Nat.gcd_zero_right]
    refine lp_r ?_
    dsimp only
    unfold bX8_divisor_17
    simp only [L0, L1, L2, L3, L4, L5, L6, L7, L8, L9, L10, L11, L12, L13, L14, L15, L16, L17, L18, L19, L20, L21, L22, L23, L24, L25, L26, L27, L28, L29, L30, L31, L32, L33, L34, L35, L36, L37, L38, L39, L40, L41, L42, L43, L44, L45, L46, L47, L48, L50, L57, L59, L60, L63, L64, L65, L70, L80, L90, L97, L100, L110, L120, L122, L128, L150, L200, L208, L216, L224, L232, L240, L248, L255, L256, L264, L272, L280, L288, L296, L297, L300, L336, L337, L500, L680, L700, L998, L999, L1000, L1024, L1999, L6403, L9999, L10000, L12345, L99999, L1000000, L214424576, L412560384, L509804544, L639025541, L642945024, L658545824, L1103515245, L2147483647, lc_eq, LL0]
    rw [if_pos trivial]
  have step : ∀ a b M, 0 < b → a < 2147483648 → b < 2147483648 → lp (fun s2 : Int64 × Int64 => bX8_divisor_17 SX8 m s2.1 s2.2) (M + 1) (lI a, lI b) = lp (fun s2 : Int64 × Int64 => bX8_divisor_17 SX8 m s2.1 s2.2) M (lI b, lI (a % b)) := by
    intro a b M hb ha hb2
    refine lp_l ?_
    dsimp only
    unfold bX8_divisor_17
    simp (disch := omega) only [L0, L1, L2, L3, L4, L5, L6, L7, L8, L9, L10, L11, L12, L13, L14, L15, L16, L17, L18, L19, L20, L21, L22, L23, L24, L25, L26, L27, L28, L29, L30, L31, L32, L33, L34, L35, L36, L37, L38, L39, L40, L41, L42, L43, L44, L45, L46, L47, L48, L50, L57, L59, L60, L63, L64, L65, L70, L80, L90, L97, L100, L110, L120, L122, L128, L150, L200, L208, L216, L224, L232, L240, L248, L255, L256, L264, L272, L280, L288, L296, L297, L300, L336, L337, L500, L680, L700, L998, L999, L1000, L1024, L1999, L6403, L9999, L10000, L12345, L99999, L1000000, L214424576, L412560384, L509804544, L639025541, L642945024, L658545824, L1103515245, L2147483647, lc_eq, LL0, lI_eq, rmL_n, bd1_e]
    rw [if_neg (by omega)]
  intro k
  induction k with
  | zero =>
    intro a b M hb ha hb2 hM
    exact base a b M (by omega) (by omega)
  | succ k ih =>
    intro a b M hb ha hb2 hM
    by_cases c : b = 0
    · exact base a b M c (by omega)
    · obtain ⟨M, rfl⟩ : ∃ M', M = M' + 2 := ⟨M - 2, by omega⟩
      rw [step a b (M + 1) (by omega) ha hb2, gcd_st]
      have hr := Nat.mod_lt a (show 0 < b by omega)
      by_cases c2 : a % b = 0
      · exact base b (a % b) (M + 1) c2 (by omega)
      · have hm := Nat.mod_lt b (show 0 < a % b by omega)
        rw [step b (a % b) M (by omega) hb2 (by omega), gcd_st]
        exact ih (a % b) (b % (a % b)) M (mod_2k (by omega) (by omega) hb) (by omega) (by omega) (by omega)
theorem e8_divisor {m : Mm} {a b : Nat} (ha : a < 2147483648) (hb : b < 2147483648) : fX8_divisor SX8 m (lI a) (lI b) = some (lI (Nat.gcd b a)) := by
  unfold fX8_divisor jX8_divisor_12
  simp (disch := omega) only [L0, L1, L2, L3, L4, L5, L6, L7, L8, L9, L10, L11, L12, L13, L14, L15, L16, L17, L18, L19, L20, L21, L22, L23, L24, L25, L26, L27, L28, L29, L30, L31, L32, L33, L34, L35, L36, L37, L38, L39, L40, L41, L42, L43, L44, L45, L46, L47, L48, L50, L57, L59, L60, L63, L64, L65, L70, L80, L90, L97, L100, L110, L120, L122, L128, L150, L200, L208, L216, L224, L232, L240, L248, L255, L256, L264, L272, L280, L288, L296, L297, L300, L336, L337, L500, L680, L700, L998, L999, L1000, L1024, L1999, L6403, L9999, L10000, L12345, L99999, L1000000, L214424576, L412560384, L509804544, L639025541, L642945024, L658545824, L1103515245, L2147483647, lc_ge, LL0, lI_le]
  rw [if_pos (by omega), gcd8 31 a b fu (by omega) ha hb (by unfold fu; omega), bd1_e, Nat.gcd_comm]
theorem e8_tells {m : Mm} {a b : Nat} (ha : a < 2147483648) (h0 : 0 < b) (hb : b < 2147483648) : fX8_tells SX8 m 0 (lI a) (lI b) = some (u2 (u2 m 0 46 (lI (rdU a b))) 0 47 (lI (rdL a b))) := by
  have g0 := Nat.gcd_pos_of_pos_left a h0
  have g1 := Nat.le_of_dvd h0 (Nat.gcd_dvd_left b a)
  unfold fX8_tells
  simp (disch := omega) only [g8_0, r8_1, r8_3, r8_4, r8_5, r8_6, r8_7, r8_8, r8_9, r8_10, r8_11, r8_12, r8_13, r8_14, r8_15, r8_26, r8_27, r8_28, r8_29, r8_30, r8_33, r8_34, r8_35, r8_36, r8_37, r8_39, r8_40, r8_41, r8_43, r8_44, r8_45, e8_divisor ha hb, bd1_e, dvL_n]
  rfl
theorem rd_cross {a b c d g : Nat} (hb : 0 < b) (hd : 0 < d) : ∃ k, 0 < k ∧ a * d = k * (rdU a b * rdL c d) ∧ c * b * g = k * (rdU c d * rdL a b * g) := by
  have p1 := Nat.gcd_pos_of_pos_left a hb
  have p2 := Nat.gcd_pos_of_pos_left c hd
  have h1 : rdU a b * Nat.gcd b a = a := Nat.div_mul_cancel (Nat.gcd_dvd_right b a)
  have h2 : rdL a b * Nat.gcd b a = b := Nat.div_mul_cancel (Nat.gcd_dvd_left b a)
  have h3 : rdU c d * Nat.gcd d c = c := Nat.div_mul_cancel (Nat.gcd_dvd_right d c)
  have h4 : rdL c d * Nat.gcd d c = d := Nat.div_mul_cancel (Nat.gcd_dvd_left d c)
  generalize hx : Nat.gcd b a = x at *
  generalize hy : Nat.gcd d c = y at *
  generalize rdU a b = ua at *
  generalize rdL a b = la at *
  generalize rdU c d = uc at *
  generalize rdL c d = lc at *
  refine ⟨x * y, Nat.mul_pos p1 p2, ?_, ?_⟩
  · rw [← h1, ← h4]; simp only [Nat.mul_assoc, Nat.mul_comm, Nat.mul_left_comm]
  · rw [← h3, ← h2]; simp only [Nat.mul_assoc, Nat.mul_comm, Nat.mul_left_comm]
theorem rd_lt {a b c d : Nat} (hb : 0 < b) (hd : 0 < d) : rdU a b * rdL c d < rdU c d * rdL a b ↔ a * d < c * b := by
  obtain ⟨k, hk, e1, e2⟩ := rd_cross (a := a) (b := b) (c := c) (d := d) (g := 1) hb hd
  rw [Nat.mul_one, Nat.mul_one] at e2
  rw [e1, e2]
  exact (Nat.mul_lt_mul_left hk).symm
theorem rd_tie {a b c d g : Nat} (hb : 0 < b) (hd : 0 < d) : rdU a b * rdL c d = rdU c d * rdL a b * g ↔ a * d = c * b * g := by
  obtain ⟨k, hk, e1, e2⟩ := rd_cross (a := a) (b := b) (c := c) (d := d) (g := g) hb hd
  rw [e1, e2]
  exact ⟨fun h => by rw [h], fun h => Nat.eq_of_mul_eq_mul_left hk h⟩
theorem rd_sub {F q D : Nat} (hD : 0 < D) (h : q ≤ F) : rdU q D * rdL F D ≤ rdU F D * rdL q D ∧ rdU (rdU F D * rdL q D - rdU q D * rdL F D) (rdL F D * rdL q D) = rdU (F - q) D ∧ rdL (rdU F D * rdL q D - rdU q D * rdL F D) (rdL F D * rdL q D) = rdL (F - q) D := by
  have x1 := rd_x F D
  have x2 := rd_x q D
  have l1 := rdL_0 (a := F) hD
  have l2 := rdL_0 (a := q) hD
  generalize rdU F D = uF at *
  generalize rdL F D = lF at *
  generalize rdU q D = uq at *
  generalize rdL q D = lq at *
  have e1 : uF * lq * D = F * (lF * lq) := by rw [Nat.mul_right_comm, x1, Nat.mul_assoc]
  have e2 : uq * lF * D = q * (lF * lq) := by rw [Nat.mul_right_comm, x2, Nat.mul_assoc, Nat.mul_comm lq lF]
  refine ⟨?_, rd_eq (Nat.mul_pos l1 l2) hD ?_⟩
  · have := Nat.mul_le_mul_right (lF * lq) h
    exact Nat.le_of_mul_le_mul_right (by omega) hD
  · rw [Nat.sub_mul, Nat.sub_mul, e1, e2]
theorem rd_by {F D g : Nat} (hD : 0 < D) (hg : 0 < g) : rdU (rdU F D) (rdL F D * g) = rdU F (D * g) ∧ rdL (rdU F D) (rdL F D * g) = rdL F (D * g) := by
  have l1 := rdL_0 (a := F) hD
  refine rd_eq (Nat.mul_pos l1 hg) (Nat.mul_pos hD hg) ?_
  rw [← Nat.mul_assoc, ← Nat.mul_assoc, rd_x]
theorem rd_up {a D g : Nat} (hD : 0 < D) (hg : 0 < g) : rdU (a * g) (D * g) = rdU a D ∧ rdL (a * g) (D * g) = rdL a D := by
  refine rd_eq (Nat.mul_pos hD hg) hD ?_
  rw [Nat.mul_assoc, Nat.mul_comm g D]
