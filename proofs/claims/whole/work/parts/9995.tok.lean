/-! ===== tokens ===== -/
def isB (b : Nat) : Bool := decide (b = 10 ∨ b = 32)
def isL (b : Nat) : Bool := decide (97 ≤ b ∧ b ≤ 122)
def isD (b : Nat) : Bool := decide (48 ≤ b ∧ b ≤ 57)
def rnF (P : Nat → Bool) (B : Nat → Nat) : Nat → Nat → Nat
  | 0, a => a
  | k + 1, a => if P (B a) = true then rnF P B k (a + 1) else a
def rn (P : Nat → Bool) (B : Nat → Nat) (n a : Nat) : Nat := rnF P B (n - a) a
theorem rn_ex (P : Nat → Bool) (B : Nat → Nat) {n a : Nat} (h : a ≤ n) : ∃ k, rn P B n a = a + k ∧ a + k ≤ n ∧ (∀ i, i < k → P (B (a + i)) = true) ∧ (a + k = n ∨ P (B (a + k)) = false) := by
  have key : ∀ d a, a + d = n → ∃ k, rnF P B d a = a + k ∧ a + k ≤ n ∧ (∀ i, i < k → P (B (a + i)) = true) ∧ (a + k = n ∨ P (B (a + k)) = false) := by
    intro d
    induction d with
    | zero => intro a ha; exact ⟨0, rfl, by omega, fun i hi => by omega, Or.inl (by omega)⟩
    | succ d ih =>
      intro a ha
      unfold rnF
      by_cases c : P (B a) = true
      · rw [if_pos c]
        obtain ⟨k, h1, h2, h3, h4⟩ := ih (a + 1) (by omega)
        refine ⟨k + 1, by omega, by omega, fun i hi => ?_, ?_⟩
        · cases i with
          | zero => exact c
          | succ i => rw [show a + (i + 1) = a + 1 + i by omega]; exact h3 i (by omega)
        · rw [show a + (k + 1) = a + 1 + k by omega]; exact h4
      · rw [if_neg c]
        refine ⟨0, rfl, by omega, fun i hi => by omega, Or.inr ?_⟩
        rw [Nat.add_zero]
        cases hP : P (B a) with
        | true => exact absurd hP c
        | false => rfl
  exact key (n - a) a (by omega)
/-- letters packed, six at most -/
def pk6 (B : Nat → Nat) (p : Nat) : Nat → Nat
  | 0 => 0
  | k + 1 => if k < 6 then pk6 B p k * 32 + (B (p + k) - 96) else pk6 B p k
theorem pk6_s (B : Nat → Nat) (p k : Nat) : pk6 B p (k + 1) = if k < 6 then pk6 B p k * 32 + (B (p + k) - 96) else pk6 B p k := rfl
def nmC (B : Nat → Nat) (p : Nat) : Nat → Nat
  | 0 => 0
  | k + 1 => if nmC B p k * 10 + B (p + k) - 48 < 1000000 then nmC B p k * 10 + B (p + k) - 48 else 1000000
def nmM (B : Nat → Nat) (p : Nat) : Nat → Nat
  | 0 => 0
  | k + 1 => if 99999 < nmM B p k then nmM B p k else 10 * nmM B p k + B (p + k) - 48
def isK (v : Nat) : Bool := decide (v = 412560384 ∨ v = 214424576 ∨ v = 639025541 ∨ v = 658545824 ∨ v = 509804544 ∨ v = 642945024)
section TK
variable (B : Nat → Nat) (n a : Nat)
def tzP : Nat := rn isB B n a
def tzA : Nat := if n ≤ tzP B n a then tzP B n a else if isL (B (tzP B n a)) = true then rn isL B n (tzP B n a) else if isD (B (tzP B n a)) = true then rn isD B n (tzP B n a) else tzP B n a + 1
def tzN : Nat := tzA B n a - tzP B n a
def tzW : Nat := pk6 B (tzP B n a) (tzN B n a) * 2 ^ (5 * (6 - tzN B n a))
def tzK : Nat := if n ≤ tzP B n a then 0 else if isL (B (tzP B n a)) = true then (if 6 < tzN B n a then 5 else if isK (tzW B n a) = true then 2 else 1) else if isD (B (tzP B n a)) = true then 3 else if B (tzP B n a) = 59 then 4 else 5
end TK
/-! bytes -/
theorem b8_s {k : Nat} (h : k < 128) : b8 k = nI k := by
  unfold b8
  exact lg_i2b_small (by rw [nI_toInt (by omega)]; omega) (by rw [nI_toInt (by omega)]; omega)
theorem b8_t {k : Nat} (h : 128 ≤ k) (h2 : k < 256) : (b8 k).toInt < 0 := by
  unfold b8
  rw [lg_i2b_toInt, nI_toInt (by omega), Int.bmod_def]
  omega
theorem b8_lt {k c : Nat} (h : k < 256) (hc : c < 128) : (b8 k < nI c) ↔ (k < c ∨ 128 ≤ k) := by
  by_cases s : k < 128
  · rw [b8_s s, nn_lt (by omega) (by omega)]; omega
  · rw [Int32.lt_iff_toInt_lt, nI_toInt (by omega)]
    have := b8_t (by omega) h
    omega
theorem b8_gt {k c : Nat} (h : k < 256) (hc : c < 128) : (nI c < b8 k) ↔ (c < k ∧ k < 128) := by
  by_cases s : k < 128
  · rw [b8_s s, nn_lt (by omega) (by omega)]; omega
  · rw [Int32.lt_iff_toInt_lt, nI_toInt (by omega)]
    have := b8_t (by omega) h
    omega
theorem b8_eq {k c : Nat} (h : k < 256) (hc : c < 128) : (b8 k = nI c) ↔ k = c := by
  by_cases s : k < 128
  · rw [b8_s s, nn_eq (by omega) (by omega)]
  · have := b8_t (by omega) h
    constructor
    · intro z
      rw [z, nI_toInt (by omega)] at this
      omega
    · intro z; omega
theorem L49 : (49 : Int32) = nI 49 := Eq.trans rfl rfl
theorem L58 : (58 : Int32) = nI 58 := Eq.trans rfl rfl
theorem e_isBlank {m : Mm} {k : Nat} (h : k < 256) : fX4_isBlank SX7 m (b8 k) = some (nI (bO (isB k))) := by
  unfold fX4_isBlank jX4_isBlank_17 jX4_isBlank_12 jX4_isBlank_17
  simp (disch := omega) only [L0, L1, L2, L3, L4, L5, L6, L7, L8, L9, L10, L11, L12, L13, L14, L15, L16, L17, L18, L19, L20, L21, L22, L23, L24, L25, L26, L27, L28, L29, L30, L31, L32, L33, L34, L35, L36, L37, L38, L39, L40, L41, L42, L43, L44, L45, L46, L47, L48, L50, L57, L59, L60, L63, L64, L65, L70, L80, L90, L97, L100, L110, L120, L122, L128, L150, L200, L208, L216, L224, L232, L240, L248, L255, L256, L264, L272, L280, L288, L296, L297, L300, L336, L337, L500, L680, L700, L998, L999, L1000, L1024, L1999, L6403, L9999, L10000, L12345, L99999, L1000000, L214424576, L412560384, L509804544, L639025541, L642945024, L658545824, L1103515245, L2147483647, b8_eq h, okZ_0, okZ_1, bd1_e]
  by_cases c : k = 10
  · rw [if_pos c, show isB k = true from decide_eq_true (Or.inl c)]; rfl
  · rw [if_neg c]
    by_cases c2 : k = 32
    · rw [if_neg (fun z => z c2), show isB k = true from decide_eq_true (Or.inr c2)]; rfl
    · rw [if_pos c2, show isB k = false from decide_eq_false (by omega)]; rfl
theorem e_isLetter {m : Mm} {k : Nat} (h : k < 256) : fX4_isLetter SX7 m (b8 k) = some (nI (bO (isL k))) := by
  unfold fX4_isLetter jX4_isLetter_16 jX4_isLetter_17
  simp (disch := omega) only [L0, L1, L2, L3, L4, L5, L6, L7, L8, L9, L10, L11, L12, L13, L14, L15, L16, L17, L18, L19, L20, L21, L22, L23, L24, L25, L26, L27, L28, L29, L30, L31, L32, L33, L34, L35, L36, L37, L38, L39, L40, L41, L42, L43, L44, L45, L46, L47, L48, L50, L57, L59, L60, L63, L64, L65, L70, L80, L90, L97, L100, L110, L120, L122, L128, L150, L200, L208, L216, L224, L232, L240, L248, L255, L256, L264, L272, L280, L288, L296, L297, L300, L336, L337, L500, L680, L700, L998, L999, L1000, L1024, L1999, L6403, L9999, L10000, L12345, L99999, L1000000, L214424576, L412560384, L509804544, L639025541, L642945024, L658545824, L1103515245, L2147483647, b8_lt h, b8_gt h, okZ_0, okZ_1, bd1_e]
  by_cases c : k < 97 ∨ 128 ≤ k
  · rw [if_pos c, show isL k = false from decide_eq_false (by omega)]; rfl
  · rw [if_neg c]
    by_cases c2 : 122 < k ∧ k < 128
    · rw [if_pos c2, show isL k = false from decide_eq_false (by omega)]; rfl
    · rw [if_neg c2, show isL k = true from decide_eq_true (by omega)]; rfl
theorem e_isDigit {m : Mm} {k : Nat} (h : k < 256) : fX4_isDigit SX7 m (b8 k) = some (nI (bO (isD k))) := by
  unfold fX4_isDigit jX4_isDigit_16 jX4_isDigit_17
  simp (disch := omega) only [L0, L1, L2, L3, L4, L5, L6, L7, L8, L9, L10, L11, L12, L13, L14, L15, L16, L17, L18, L19, L20, L21, L22, L23, L24, L25, L26, L27, L28, L29, L30, L31, L32, L33, L34, L35, L36, L37, L38, L39, L40, L41, L42, L43, L44, L45, L46, L47, L48, L50, L57, L59, L60, L63, L64, L65, L70, L80, L90, L97, L100, L110, L120, L122, L128, L150, L200, L208, L216, L224, L232, L240, L248, L255, L256, L264, L272, L280, L288, L296, L297, L300, L336, L337, L500, L680, L700, L998, L999, L1000, L1024, L1999, L6403, L9999, L10000, L12345, L99999, L1000000, L214424576, L412560384, L509804544, L639025541, L642945024, L658545824, L1103515245, L2147483647, b8_lt h, b8_gt h, okZ_0, okZ_1, bd1_e]
  by_cases c : k < 48 ∨ 128 ≤ k
  · rw [if_pos c, show isD k = false from decide_eq_false (by omega)]; rfl
  · rw [if_neg c]
    by_cases c2 : 57 < k ∧ k < 128
    · rw [if_pos c2, show isD k = false from decide_eq_false (by omega)]; rfl
    · rw [if_neg c2, show isD k = true from decide_eq_true (by omega)]; rfl
theorem bO_t0 : ¬ nI (bO true) = nI 0 := by decide
theorem bO_f0 : nI (bO false) = nI 0 := rfl
/-! packed letters -/
theorem isL_b {b : Nat} (h : isL b = true) : 97 ≤ b ∧ b ≤ 122 := of_decide_eq_true h
theorem isD_b {b : Nat} (h : isD b = true) : 48 ≤ b ∧ b ≤ 57 := of_decide_eq_true h
theorem pk6_lt {B : Nat → Nat} {p : Nat} : ∀ k, (∀ i, i < k → isL (B (p + i)) = true) → k ≤ 6 → pk6 B p k < 32 ^ k := by
  intro k
  induction k with
  | zero => intro _ _; exact Nat.zero_lt_one
  | succ k ih =>
    intro h hk
    have h1 := ih (fun i hi => h i (by omega)) (by omega)
    have h2 := isL_b (h k (by omega))
    rw [pk6_s, if_pos (by omega), Nat.pow_succ]
    omega
theorem pk6_30 {B : Nat → Nat} {p : Nat} : ∀ k, (∀ i, i < k → isL (B (p + i)) = true) → pk6 B p k < 1073741824 := by
  intro k
  induction k with
  | zero => intro _; exact (by decide : 0 < 1073741824)
  | succ k ih =>
    intro h
    by_cases c : k < 6
    · have := pk6_lt (k + 1) h (by omega)
      have h2 : 32 ^ (k + 1) ≤ 32 ^ 6 := Nat.pow_le_pow_right (by decide) (by omega)
      omega
    · rw [pk6_s, if_neg c]; exact ih (fun i hi => h i (by omega))
theorem smd2 : ∀ k, k < 31 → ((nI k &&& nI 31).toBitVec.smod 32).toNat = k := by decide
theorem or5 {v d : Nat} (hd : d < 32) : v * 32 ||| d = v * 32 + d := by
  have := Nat.shiftLeft_add_eq_or_of_lt (i := 5) (b := d) (by omega) v
  rw [Nat.shiftLeft_eq] at this
  exact this.symm
theorem sh5 {v d : Nat} (hv : v < 33554432) (hd : d < 32) : ((nI v <<< (nI 5 &&& nI 31)) ||| nI d) = nI (v * 32 + d) := by
  rw [pk_shlN _ 5 (smd2 5 (by omega)) (by omega), nI_or]
  congr 1
  exact or5 hd
theorem shk {v k : Nat} (hk : k < 31) (hv : v * 2 ^ k < 4294967296) : (nI v <<< (nI k &&& nI 31)) = nI (v * 2 ^ k) := pk_shlN _ k (smd2 k hk) hv
theorem tzW_lt {B : Nat → Nat} {p k : Nat} (h : ∀ i, i < k → isL (B (p + i)) = true) (hk : k ≤ 6) : pk6 B p k * 2 ^ (5 * (6 - k)) < 1073741824 := by
  have h1 := pk6_lt k h hk
  have e : 32 ^ k * 2 ^ (5 * (6 - k)) = 2 ^ 30 := by
    rw [show (32 : Nat) = 2 ^ 5 from rfl, ← Nat.pow_mul, ← Nat.pow_add]
    congr 1
    omega
  have h2 := Nat.mul_lt_mul_of_lt_of_le h1 (Nat.le_refl (2 ^ (5 * (6 - k)))) (Nat.two_pow_pos _)
  omega
theorem e_isKeyword {m : Mm} {v : Nat} (h : v < 1073741824) : fX4_isKeyword SX7 m (nI v) = some (nI (bO (isK v))) := by
  unfold fX4_isKeyword jX4_isKeyword_36 jX4_isKeyword_41
  simp (disch := omega) only [L0, L1, L2, L3, L4, L5, L6, L7, L8, L9, L10, L11, L12, L13, L14, L15, L16, L17, L18, L19, L20, L21, L22, L23, L24, L25, L26, L27, L28, L29, L30, L31, L32, L33, L34, L35, L36, L37, L38, L39, L40, L41, L42, L43, L44, L45, L46, L47, L48, L50, L57, L59, L60, L63, L64, L65, L70, L80, L90, L97, L100, L110, L120, L122, L128, L150, L200, L208, L216, L224, L232, L240, L248, L255, L256, L264, L272, L280, L288, L296, L297, L300, L336, L337, L500, L680, L700, L998, L999, L1000, L1024, L1999, L6403, L9999, L10000, L12345, L99999, L1000000, L214424576, L412560384, L509804544, L639025541, L642945024, L658545824, L1103515245, L2147483647, nn_eq, okZ_0, okZ_1, bd1_e]
  by_cases c : isK v = true
  · have c' := of_decide_eq_true c
    rw [c]
    by_cases c1 : v = 412560384
    · rw [if_pos c1]; rfl
    rw [if_neg c1]
    by_cases c2 : v = 214424576
    · rw [if_pos c2]; rfl
    rw [if_neg c2]
    by_cases c3 : v = 639025541
    · rw [if_pos c3]; rfl
    rw [if_neg c3]
    by_cases c4 : v = 658545824
    · rw [if_pos c4]; rfl
    rw [if_neg c4]
    by_cases c5 : v = 509804544
    · rw [if_pos c5]; rfl
    rw [if_neg c5, if_neg (fun z => z (by omega))]
    rfl
  · have c' : ¬ (v = 412560384 ∨ v = 214424576 ∨ v = 639025541 ∨ v = 658545824 ∨ v = 509804544 ∨ v = 642945024) := fun z => c (decide_eq_true z)
    rw [show isK v = false from decide_eq_false c', if_neg (by omega), if_neg (by omega), if_neg (by omega), if_neg (by omega), if_neg (by omega), if_pos (by omega)]
    rfl
theorem nmC_b {B : Nat → Nat} {p : Nat} : ∀ k, nmC B p k ≤ 1000000 := by
  intro k
  cases k with
  | zero => exact Nat.zero_le _
  | succ k => unfold nmC; split <;> omega
theorem nmM_b {B : Nat → Nat} {p : Nat} : ∀ k, (∀ i, i < k → isD (B (p + i)) = true) → nmM B p k ≤ 999999 := by
  intro k
  induction k with
  | zero => intro _; exact Nat.zero_le _
  | succ k ih =>
    intro h
    have h1 := ih (fun i hi => h i (by omega))
    have h2 := isD_b (h k (by omega))
    unfold nmM
    split <;> omega
theorem nm_eq {B : Nat → Nat} {p : Nat} : ∀ k, (∀ i, i < k → isD (B (p + i)) = true) → nmC B p k = nmM B p k ∨ (99999 < nmC B p k ∧ 99999 < nmM B p k) := by
  intro k
  induction k with
  | zero => intro _; exact Or.inl rfl
  | succ k ih =>
    intro h
    have h1 := ih (fun i hi => h i (by omega))
    have h2 := isD_b (h k (by omega))
    have h3 := nmM_b k (fun i hi => h i (by omega))
    unfold nmC nmM
    by_cases c : 99999 < nmM B p k
    · rw [if_pos c]
      split <;> omega
    · rw [if_neg c]
      split <;> omega
