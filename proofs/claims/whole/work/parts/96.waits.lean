/-! ===== sets as bits; the class's waits ===== -/
theorem nI_or (a b : Nat) : nI a ||| nI b = nI (a ||| b) := by
  apply Int32.toBitVec_inj.mp
  rw [Int32.toBitVec_or]
  apply BitVec.eq_of_toNat_eq
  show ((BitVec.ofNat 32 a) ||| (BitVec.ofNat 32 b)).toNat = (BitVec.ofNat 32 (a ||| b)).toNat
  rw [BitVec.ofNat_or]
theorem nI_and (a b : Nat) : nI a &&& nI b = nI (a &&& b) := by
  apply Int32.toBitVec_inj.mp
  rw [Int32.toBitVec_and]
  apply BitVec.eq_of_toNat_eq
  show ((BitVec.ofNat 32 a) &&& (BitVec.ofNat 32 b)).toNat = (BitVec.ofNat 32 (a &&& b)).toNat
  rw [BitVec.ofNat_and]
theorem sh1 : ∀ k, k < 10 → (nI 1 <<< (nI k &&& nI 31)) = nI (2 ^ k) := by decide
def bN (v k : Nat) : Nat := if v.testBit k = true then 1 else 0
theorem bN_t {v k : Nat} (h : v.testBit k = true) : bN v k = 1 := if_pos h
theorem bN_f {v k : Nat} (h : v.testBit k = false) : bN v k = 0 := if_neg (by rw [h]; decide)
theorem smd : ∀ k, k < 10 → ((nI k &&& nI 31).toBitVec.smod 32).toNat = k := by decide
theorem bT {v k : Nat} (hv : v < 1024) (hk : k < 10) : ((nI v >>> (nI k &&& nI 31)) &&& nI 1) = nI (bN v k) := by
  rw [pk_shrN (by omega) _ k (smd k hk), nI_and]
  congr 1
  have h1 : v / 2 ^ k &&& 1 = v / 2 ^ k % 2 := Nat.and_one_is_mod _
  rw [h1]
  unfold bN
  rw [Nat.testBit_eq_decide_div_mod_eq]
  by_cases c : v / 2 ^ k % 2 = 1
  · rw [c]; rfl
  · have : v / 2 ^ k % 2 = 0 := by omega
    rw [this]; rfl
theorem bN_le (v k : Nat) : bN v k ≤ 1 := by unfold bN; split <;> omega
theorem or1024 {a b : Nat} (ha : a < 1024) (hb : b < 1024) : a ||| b < 1024 := Nat.or_lt_two_pow (n := 10) ha hb
theorem pw1024 : ∀ k, k < 10 → 2 ^ k < 1024 := by decide
/-- bits of those of the first that have a thing, told by a number -/
def wB (c : Nat → Bool) (g : Nat → Nat) : Nat → Nat
  | 0 => 0
  | k + 1 => if c k = true then wB c g k ||| 2 ^ g k else wB c g k
theorem wB_s (c : Nat → Bool) (g : Nat → Nat) (k : Nat) : wB c g (k + 1) = if c k = true then wB c g k ||| 2 ^ g k else wB c g k := rfl
theorem wB_lt {c : Nat → Bool} {g : Nat → Nat} {k : Nat} (h : ∀ f, f < k → c f = true → g f < 10) : wB c g k < 1024 := by
  induction k with
  | zero => show 0 < 1024; omega
  | succ k ih =>
    rw [wB_s]
    have := ih (fun f hf => h f (by omega))
    split
    · rename_i hc; exact or1024 this (pw1024 _ (h k (by omega) hc))
    · exact this
theorem wB_t {c : Nat → Bool} {g : Nat → Nat} {k t : Nat} : (wB c g k).testBit t = true ↔ ∃ f, f < k ∧ c f = true ∧ g f = t := by
  induction k with
  | zero =>
    constructor
    · intro h; rw [show wB c g 0 = 0 from rfl, Nat.zero_testBit] at h; cases h
    · rintro ⟨f, hf, _⟩; omega
  | succ k ih =>
    rw [wB_s]
    by_cases hc : c k = true
    · rw [if_pos hc, Nat.testBit_or, Bool.or_eq_true, ih, Nat.testBit_two_pow]
      constructor
      · rintro (⟨f, hf, h⟩ | h)
        · exact ⟨f, by omega, h⟩
        · exact ⟨k, by omega, hc, of_decide_eq_true h⟩
      · rintro ⟨f, hf, h1, h2⟩
        by_cases e : f = k
        · subst e; exact Or.inr (decide_eq_true h2)
        · exact Or.inl ⟨f, by omega, h1, h2⟩
    · rw [if_neg hc, ih]
      constructor
      · rintro ⟨f, hf, h⟩; exact ⟨f, by omega, h⟩
      · rintro ⟨f, hf, h1, h2⟩
        by_cases e : f = k
        · subst e; exact absurd h1 hc
        · exact ⟨f, by omega, h1, h2⟩
theorem wB_congr {c c' : Nat → Bool} {g : Nat → Nat} {k : Nat} (h : ∀ f, f < k → c f = c' f) : wB c g k = wB c' g k := by
  induction k with
  | zero => rfl
  | succ k ih => rw [wB_s, wB_s, ih (fun f hf => h f (by omega)), h k (by omega)]
/-- which flows make a link wait -/
def cP (π : Pl) (X : Nat → Nat) (l f : Nat) : Bool := decide (X (40 + l) % 2 = 1 ∧ π.nx l f ≠ 0 ∧ 0 < X (120 + l * 8 + f) ∧ X (40 + (π.nx l f - 1)) % 2 = 1)
def cM (π : Pl) (l f : Nat) : Bool := decide (π.nx l f ≠ 0)
def wP (π : Pl) (X : Nat → Nat) (l : Nat) : Nat := wB (cP π X l) (fun f => π.nx l f - 1) π.nf
def wM' (π : Pl) (l : Nat) : Nat := wB (cM π l) (fun f => π.nx l f - 1) π.nf
theorem wP_lt {π : Pl} (O : π.ok) {X : Nat → Nat} {l : Nat} : wP π X l < 1024 := wB_lt (fun f hf _ => by have := Pl.nx_lt O (l := l) hf; have := O.nl; omega)
theorem wM_lt {π : Pl} (O : π.ok) {l : Nat} : wM' π l < 1024 := wB_lt (fun f hf _ => by have := Pl.nx_lt O (l := l) hf; have := O.nl; omega)
theorem nxI_lt {k : Nat} (h : k < 100) : (nxI k < nI 0) ↔ k = 0 := by
  match k with
  | 0 => exact ⟨fun _ => rfl, fun _ => by decide⟩
  | k + 1 => exact ⟨fun c => by have := (nn_lt (a := k) (b := 0) (by omega) (by omega)).mp c; omega, fun c => by omega⟩
theorem nxI_p {k : Nat} (h : k ≠ 0) : nxI k = nI (k - 1) := by
  obtain ⟨j, rfl⟩ : ∃ j, k = j + 1 := ⟨k - 1, by omega⟩
  rfl
theorem e_waitsOf {m : Mm} {x p : Nat} {π : Pl} {X : Nat → Nat} {l : Nat} (C : CF m x X) (P : PF m p π) (O : π.ok) (hJ : J π X) (hx : x = 19 ∨ x = 20) (hp : p = 21 ∨ p = 31) (hl : l < π.nl) : fX6_waitsOf SX7 m 8 p x (nI l) = some (nI (wP π X l)) := by
  have hnl := O.nl
  have hnf := O.nf
  have h2 : X (40 + l) % 2 < 2 := Nat.mod_lt _ (by decide)
  unfold fX6_waitsOf
  simp (disch := omega) only [L0, L1, L2, L3, L4, L5, L6, L7, L8, L9, L10, L11, L12, L13, L14, L15, L16, L17, L18, L19, L20, L21, L22, L23, L24, L25, L26, L27, L28, L29, L30, L31, L32, L33, L34, L35, L36, L37, L38, L39, L40, L41, L42, L43, L44, L45, L46, L47, L48, L50, L57, L59, L60, L63, L64, L65, L70, L80, L90, L97, L100, L110, L120, L122, L128, L150, L200, L208, L216, L224, L232, L240, L248, L255, L256, L264, L272, L280, L288, L296, L297, L300, L336, L337, L500, L680, L700, L998, L999, L1000, L1024, L1999, L6403, L9999, L10000, L12345, L99999, L1000000, L214424576, L412560384, L509804544, L639025541, L642945024, L658545824, L1103515245, L2147483647, g7_8, g7_p hp, ldA_n (s7_x hx), C.row, nI_add, bd1_e, bitJ _ (hJ.asked l (by omega)), nn_eq]
  by_cases c0 : X (40 + l) % 2 = 0
  · rw [if_neg (fun c => c c0)]
    have : wP π X l = 0 := by
      unfold wP
      have : ∀ k, wB (cP π X l) (fun f => π.nx l f - 1) k = 0 := by
        intro k
        induction k with
        | zero => rfl
        | succ k ih =>
          rw [wB_s, ih, if_neg]
          unfold cP
          intro h
          have := of_decide_eq_true h
          omega
      exact this π.nf
    rw [this]
  · rw [if_pos c0]
    have h7 := lp_f (b := fun s5 : Int32 × Int32 => bX6_waitsOf_19 SX7 m 8 p x (nI l) s5.1 s5.2) (N := fu) (r := nI (wP π X l)) (fun k => (nI (wB (cP π X l) (fun f => π.nx l f - 1) k), nI k)) π.nf (by unfold fu; omega)
      (by
        intro k hk
        have hn := Pl.nx_lt O (l := l) (f := k) hk
        have hq := Nat.le_trans (hJ.q.le (k := l) (g := k) (by omega) (by omega)) (hJ.fill l (by omega))
        dsimp only
        unfold bX6_waitsOf_19 jX6_waitsOf_84
        simp (disch := omega) only [L0, L1, L2, L3, L4, L5, L6, L7, L8, L9, L10, L11, L12, L13, L14, L15, L16, L17, L18, L19, L20, L21, L22, L23, L24, L25, L26, L27, L28, L29, L30, L31, L32, L33, L34, L35, L36, L37, L38, L39, L40, L41, L42, L43, L44, L45, L46, L47, L48, L50, L57, L59, L60, L63, L64, L65, L70, L80, L90, L97, L100, L110, L120, L122, L128, L150, L200, L208, L216, L224, L232, L240, L248, L255, L256, L264, L272, L280, L288, L296, L297, L300, L336, L337, L500, L680, L700, L998, L999, L1000, L1024, L1999, L6403, L9999, L10000, L12345, L99999, L1000000, L214424576, L412560384, L509804544, L639025541, L642945024, L658545824, L1103515245, L2147483647, g7_p hp, r7_p_0 hp, r7_p_1 hp, r7_p_2 hp, r7_p_3 hp, r7_p_4 hp, r7_p_5 hp, r7_p_6 hp, r7_p_7 hp, r7_p_8 hp, P.nf, nn_le, ldA_n (s7_p8 hp), P.nx l k hl hk, nxI_lt, bd1_e, nI_add, pk_mul, ldA_n (s7_x hx), C.row]
        rw [if_neg (by omega), wB_s]
        by_cases c1 : π.nx l k = 0
        · rw [if_pos c1, if_neg (fun h => by have := of_decide_eq_true h; omega)]
        · rw [if_neg c1, nxI_p c1]
          by_cases c2 : X (120 + l * 8 + k) ≤ 0
          · rw [if_pos c2, if_neg (fun h => by have := of_decide_eq_true h; omega)]
          · rw [if_neg c2]
            have h3 : X (40 + (π.nx l k - 1)) % 2 < 2 := Nat.mod_lt _ (by decide)
            simp (disch := omega) only [nI_add, ldA_n (s7_x hx), C.row, bd1_e, bitJ _ (hJ.asked (π.nx l k - 1) (by omega)), nn_eq, sh1 (π.nx l k - 1) (by omega), nI_or]
            by_cases c3 : X (40 + (π.nx l k - 1)) % 2 = 1
            · rw [if_neg (fun c => c c3), if_pos (show cP π X l k = true from decide_eq_true ⟨by omega, c1, by omega, c3⟩)]
            · rw [if_pos c3, if_neg (fun h => by have := of_decide_eq_true h; omega)])
      (by
        dsimp only
        unfold bX6_waitsOf_19
        simp (disch := omega) only [P.nf, nn_le]
        rw [if_pos (by omega)]
        rfl)
    have e : ((nI 0, nI 0) : Int32 × Int32) = (nI (wB (cP π X l) (fun f => π.nx l f - 1) 0), nI 0) := rfl
    rw [e, h7, bd1_e]
/-! cycles -/
def Ed (G : Nat → Nat) (l k : Nat) : Bool := (G l).testBit k
def rN (G : Nat → Nat) : Nat → Nat → Nat
  | 0, l => G l
  | j + 1, l => if (rN G j l).testBit j = true then rN G j l ||| rN G j j else rN G j l
theorem rN_s (G : Nat → Nat) (j l : Nat) : rN G (j + 1) l = if (rN G j l).testBit j = true then rN G j l ||| rN G j j else rN G j l := rfl
theorem rN_t {G : Nat → Nat} {j l t : Nat} : (rN G j l).testBit t = rj (Ed G) j l t := by
  induction j generalizing l t with
  | zero => rfl
  | succ j ih =>
    rw [rN_s, rj_s]
    by_cases c : (rN G j l).testBit j = true
    · rw [if_pos c, Nat.testBit_or, ih, ih, ← ih (l := l) (t := j), c, Bool.true_and]
    · rw [if_neg c, ih, ← ih (l := l) (t := j)]
      have : (rN G j l).testBit j = false := by cases h : (rN G j l).testBit j with
        | true => exact absurd h c
        | false => rfl
      rw [this, Bool.false_and, Bool.or_false]
theorem rN_self (G : Nat → Nat) (j : Nat) : rN G (j + 1) j = rN G j j := by
  rw [rN_s]
  split
  · exact Nat.or_self _
  · rfl
theorem rN_lt {G : Nat → Nat} {n : Nat} (h : ∀ l, l < n → G l < 1024) {j l : Nat} (hj : j ≤ n) (hl : l < n) : rN G j l < 1024 := by
  induction j generalizing l with
  | zero => exact h l hl
  | succ j ih =>
    rw [rN_s]
    split
    · exact or1024 (ih (by omega) hl) (ih (by omega) (by omega))
    · exact ih (by omega) hl
/-- links that lie in a cycle, as bits -/
def cyS (G : Nat → Nat) (n : Nat) : Nat := wB (fun l => rj (Ed G) n l l) (fun l => l) n
theorem cyS_lt {G : Nat → Nat} {n : Nat} (hn : n ≤ 10) : cyS G n < 1024 := wB_lt (fun f hf _ => by omega)
theorem cyS_0 {G : Nat → Nat} {n : Nat} (h : ∀ l, l < n → G l = 0) : cyS G n = 0 := by
  have hr : ∀ j l t, j ≤ n → l < n → rj (Ed G) j l t = false := by
    intro j
    induction j with
    | zero => intro l t _ hl; show (G l).testBit t = false; rw [h l hl, Nat.zero_testBit]
    | succ j ih => intro l t hj hl; rw [rj_s, ih l t (by omega) hl, ih l j (by omega) hl]; rfl
  unfold cyS
  have : ∀ k, k ≤ n → wB (fun l => rj (Ed G) n l l) (fun l => l) k = 0 := by
    intro k
    induction k with
    | zero => intro _; rfl
    | succ k ih => intro hk; rw [wB_s, ih (by omega), if_neg]; rw [hr n k k (Nat.le_refl _) (by omega)]; decide
  exact this n (Nat.le_refl _)
theorem and_pow {v l : Nat} : v &&& 2 ^ l = if v.testBit l = true then 2 ^ l else 0 := by
  apply Nat.eq_of_testBit_eq
  intro i
  rw [Nat.testBit_and, Nat.testBit_two_pow]
  by_cases e : l = i
  · subst e
    by_cases c : v.testBit l = true
    · rw [if_pos c, c, Nat.testBit_two_pow, decide_eq_true rfl]; rfl
    · have hf : v.testBit l = false := by cases h : v.testBit l with
        | true => exact absurd h c
        | false => rfl
      rw [if_neg c, hf, Nat.zero_testBit]; rfl
  · rw [decide_eq_false e, Bool.and_false]
    split
    · rw [Nat.testBit_two_pow, decide_eq_false e]
    · rw [Nat.zero_testBit]
theorem e_inCyclesOf {m : Mm} {n : Nat} {G : Nat → Nat} (hn : n ≤ 10) (hG : ∀ l, l < n → G l < 1024) (h9 : ∀ l, l < n → m.1 9 l = nI (G l)) : ∃ m', fX6_inCyclesOf SX7 m 8 (nI n) = some (nI (cyS G n), m') ∧ Fr (fun o => o = 10) m m' := by
  unfold fX6_inCyclesOf
  simp only [L0, L1, L2, L3, L4, L5, L6, L7, L8, L9, L10, L11, L12, L13, L14, L15, L16, L17, L18, L19, L20, L21, L22, L23, L24, L25, L26, L27, L28, L29, L30, L31, L32, L33, L34, L35, L36, L37, L38, L39, L40, L41, L42, L43, L44, L45, L46, L47, L48, L50, L57, L59, L60, L63, L64, L65, L70, L80, L90, L97, L100, L110, L120, L122, L128, L150, L200, L208, L216, L224, L232, L240, L248, L255, L256, L264, L272, L280, L288, L296, L297, L300, L336, L337, L500, L680, L700, L998, L999, L1000, L1024, L1999, L6403, L9999, L10000, L12345, L99999, L1000000, L214424576, L412560384, L509804544, L639025541, L642945024, L658545824, L1103515245, L2147483647, g7_8]
  obtain ⟨m1, a1, a2, a3⟩ := lp_F (b := fun s3 : Int32 × Mm => bX6_inCyclesOf_2 SX7 8 (nI n) s3.1 s3.2) (fun k m1 => (∀ l, l < k → m1.1 10 l = nI (rN G 0 l)) ∧ Fr (fun o => o = 10) m m1) n (m := m) (by omega) ⟨fun l hl => by omega, Fr.rfl⟩
    (by
      rintro k m1 hk ⟨A, F⟩
      have h9k : m1.1 9 k = nI (G k) := by rw [F.2 9 (by omega)]; exact h9 k hk
      dsimp only
      unfold bX6_inCyclesOf_2
      simp (disch := omega) only [L0, L1, L2, L3, L4, L5, L6, L7, L8, L9, L10, L11, L12, L13, L14, L15, L16, L17, L18, L19, L20, L21, L22, L23, L24, L25, L26, L27, L28, L29, L30, L31, L32, L33, L34, L35, L36, L37, L38, L39, L40, L41, L42, L43, L44, L45, L46, L47, L48, L50, L57, L59, L60, L63, L64, L65, L70, L80, L90, L97, L100, L110, L120, L122, L128, L150, L200, L208, L216, L224, L232, L240, L248, L255, L256, L264, L272, L280, L288, L296, L297, L300, L336, L337, L500, L680, L700, L998, L999, L1000, L1024, L1999, L6403, L9999, L10000, L12345, L99999, L1000000, L214424576, L412560384, L509804544, L639025541, L642945024, L658545824, L1103515245, L2147483647, r7_8_0, r7_8_1, nn_le, ldA_n s7_9, h9k, stA_n s7_10, narA_0, bd1_e, nI_add]
      rw [if_neg (by omega)]
      refine ⟨_, rfl, fun l hl => ?_, F.st rfl⟩
      by_cases e : l = k
      · subst e; rw [u1_rs]; rfl
      · rw [u1_rn (Or.inl e)]; exact A l (by omega))
    (by
      rintro m1 ⟨A, F⟩
      dsimp only
      unfold bX6_inCyclesOf_2
      simp (disch := omega) only [nn_le]
      rw [if_pos (by omega)])
  rw [a1, bd1_e]
  obtain ⟨m2, b1, b2, b3⟩ := lp_F (b := fun s11 : Int32 × Mm => bX6_inCyclesOf_27 SX7 8 (nI n) s11.1 s11.2) (fun j m2 => (∀ l, l < n → m2.1 10 l = nI (rN G j l)) ∧ Fr (fun o => o = 10) m m2) n (m := m1) (by omega) ⟨a2, a3⟩
    (by
      rintro j m2 hj ⟨A, F⟩
      dsimp only
      unfold bX6_inCyclesOf_27
      simp (disch := omega) only [L0, L1, L2, L3, L4, L5, L6, L7, L8, L9, L10, L11, L12, L13, L14, L15, L16, L17, L18, L19, L20, L21, L22, L23, L24, L25, L26, L27, L28, L29, L30, L31, L32, L33, L34, L35, L36, L37, L38, L39, L40, L41, L42, L43, L44, L45, L46, L47, L48, L50, L57, L59, L60, L63, L64, L65, L70, L80, L90, L97, L100, L110, L120, L122, L128, L150, L200, L208, L216, L224, L232, L240, L248, L255, L256, L264, L272, L280, L288, L296, L297, L300, L336, L337, L500, L680, L700, L998, L999, L1000, L1024, L1999, L6403, L9999, L10000, L12345, L99999, L1000000, L214424576, L412560384, L509804544, L639025541, L642945024, L658545824, L1103515245, L2147483647, nn_le]
      rw [if_neg (by omega)]
      obtain ⟨m3, c1, c2, c3⟩ := lp_F (b := fun s9 : Int32 × Mm => bX6_inCyclesOf_34 SX7 8 (nI n) (nI j) s9.1 s9.2) (fun k m3 => (∀ l, l < n → m3.1 10 l = nI (if l < k then rN G (j + 1) l else rN G j l)) ∧ Fr (fun o => o = 10) m m3) n (m := m2) (by omega) ⟨fun l hl => by rw [if_neg (by omega)]; exact A l hl, F⟩
        (by
          rintro k m3 hk ⟨A3, F3⟩
          have hk1 := A3 k hk
          rw [if_neg (by omega)] at hk1
          have hj1 : m3.1 10 j = nI (rN G j j) := by
            rw [A3 j hj]
            by_cases c : j < k
            · rw [if_pos c, rN_self]
            · rw [if_neg c]
          have hb := rN_lt hG (j := j) (by omega) hk
          have hbn := bN_le (rN G j k) j
          dsimp only
          unfold bX6_inCyclesOf_34 jX6_inCyclesOf_68
          simp (disch := omega) only [L0, L1, L2, L3, L4, L5, L6, L7, L8, L9, L10, L11, L12, L13, L14, L15, L16, L17, L18, L19, L20, L21, L22, L23, L24, L25, L26, L27, L28, L29, L30, L31, L32, L33, L34, L35, L36, L37, L38, L39, L40, L41, L42, L43, L44, L45, L46, L47, L48, L50, L57, L59, L60, L63, L64, L65, L70, L80, L90, L97, L100, L110, L120, L122, L128, L150, L200, L208, L216, L224, L232, L240, L248, L255, L256, L264, L272, L280, L288, L296, L297, L300, L336, L337, L500, L680, L700, L998, L999, L1000, L1024, L1999, L6403, L9999, L10000, L12345, L99999, L1000000, L214424576, L412560384, L509804544, L639025541, L642945024, L658545824, L1103515245, L2147483647, r7_8_0, r7_8_1, nn_le, ldA_n s7_10, hk1, hj1, bd1_e, bT hb (show j < 10 by omega), nn_eq, stA_n s7_10, narA_0, nI_or, nI_add]
          rw [if_neg (by omega)]
          by_cases c : (rN G j k).testBit j = true
          · rw [if_neg (fun z => z (bN_t c))]
            refine ⟨_, rfl, fun l hl => ?_, F3.st rfl⟩
            by_cases e : l = k
            · subst e; rw [u1_rs, if_pos (by omega), rN_s, if_pos c]
            · rw [u1_rn (Or.inl e), A3 l hl]
              by_cases q : l < k
              · rw [if_pos q, if_pos (by omega)]
              · rw [if_neg q, if_neg (by omega)]
          · have hf : (rN G j k).testBit j = false := by cases h : (rN G j k).testBit j with
              | true => exact absurd h c
              | false => rfl
            rw [if_pos (by rw [bN_f hf]; omega)]
            refine ⟨_, rfl, fun l hl => ?_, F3⟩
            rw [A3 l hl]
            by_cases e : l = k
            · subst e; rw [if_neg (by omega), if_pos (by omega), rN_s, if_neg c]
            · by_cases q : l < k
              · rw [if_pos q, if_pos (by omega)]
              · rw [if_neg q, if_neg (by omega)])
        (by
          rintro m3 ⟨A3, F3⟩
          dsimp only
          unfold bX6_inCyclesOf_34
          simp (disch := omega) only [nn_le]
          rw [if_pos (by omega)])
      rw [c1, bd1_e, nI_add]
      exact ⟨_, rfl, fun l hl => by rw [c2 l hl, if_pos hl], c3⟩)
    (by
      rintro m2 ⟨A, F⟩
      dsimp only
      unfold bX6_inCyclesOf_27
      simp (disch := omega) only [nn_le]
      rw [if_pos (by omega)])
  rw [b1, bd1_e]
  have h7 := lp_f (b := fun s14 : Int32 × Int32 => bX6_inCyclesOf_84 SX7 m2 8 (nI n) s14.1 s14.2) (N := fu) (r := nI (cyS G n)) (fun k => (nI (wB (fun l => rj (Ed G) n l l) (fun l => l) k), nI k)) n (by unfold fu; omega)
    (by
      intro k hk
      dsimp only
      unfold bX6_inCyclesOf_84
      simp (disch := omega) only [L0, L1, L2, L3, L4, L5, L6, L7, L8, L9, L10, L11, L12, L13, L14, L15, L16, L17, L18, L19, L20, L21, L22, L23, L24, L25, L26, L27, L28, L29, L30, L31, L32, L33, L34, L35, L36, L37, L38, L39, L40, L41, L42, L43, L44, L45, L46, L47, L48, L50, L57, L59, L60, L63, L64, L65, L70, L80, L90, L97, L100, L110, L120, L122, L128, L150, L200, L208, L216, L224, L232, L240, L248, L255, L256, L264, L272, L280, L288, L296, L297, L300, L336, L337, L500, L680, L700, L998, L999, L1000, L1024, L1999, L6403, L9999, L10000, L12345, L99999, L1000000, L214424576, L412560384, L509804544, L639025541, L642945024, L658545824, L1103515245, L2147483647, r7_8_1, nn_le, ldA_n s7_10, b2 k hk, bd1_e, sh1 k (by omega), nI_add]
      simp only [nI_and, nI_or, and_pow]
      rw [if_neg (by omega), wB_s, rN_t]
      by_cases c : rj (Ed G) n k k = true
      · rw [if_pos c, if_pos c]
      · rw [if_neg c, if_neg c, Nat.or_zero])
    (by
      dsimp only
      unfold bX6_inCyclesOf_84
      simp (disch := omega) only [nn_le]
      rw [if_pos (by omega)]
      rfl)
  have e : ((nI 0, nI 0) : Int32 × Int32) = (nI (wB (fun l => rj (Ed G) n l l) (fun l => l) 0), nI 0) := rfl
  rw [e, h7, bd1_e]
  exact ⟨_, rfl, b3⟩
/-- all waits or-ed -/
def orA (G : Nat → Nat) : Nat → Nat
  | 0 => 0
  | k + 1 => orA G k ||| G k
theorem orA_0 {G : Nat → Nat} {k : Nat} (h : orA G k = 0) : ∀ l, l < k → G l = 0 := by
  induction k with
  | zero => intro l hl; omega
  | succ k ih =>
    intro l hl
    have h' : orA G k ||| G k = 0 := h
    have h2 := Nat.or_eq_zero_iff.mp h'
    by_cases e : l = k
    · subst e; exact h2.2
    · exact ih h2.1 l (by omega)
theorem orA_lt {G : Nat → Nat} {k : Nat} (h : ∀ l, l < k → G l < 1024) : orA G k < 1024 := by
  induction k with
  | zero => show 0 < 1024; omega
  | succ k ih => exact or1024 (ih (fun l hl => h l (by omega))) (h k (by omega))
theorem e_inPause {m : Mm} {x p : Nat} {π : Pl} {X : Nat → Nat} (C : CF m x X) (P : PF m p π) (O : π.ok) (hJ : J π X) (hx : x = 19 ∨ x = 20) (hp : p = 21 ∨ p = 31) : ∃ m', fX6_inPauseCycles SX7 m 8 p x = some (nI (cyS (wP π X) π.nl), m') ∧ (∀ l, l < π.nl → m'.1 9 l = nI (wP π X l)) ∧ Fr (fun o => o = 9 ∨ o = 10) m m' := by
  have hnl := O.nl
  unfold fX6_inPauseCycles jX6_inPauseCycles_61
  simp only [L0, L1, L2, L3, L4, L5, L6, L7, L8, L9, L10, L11, L12, L13, L14, L15, L16, L17, L18, L19, L20, L21, L22, L23, L24, L25, L26, L27, L28, L29, L30, L31, L32, L33, L34, L35, L36, L37, L38, L39, L40, L41, L42, L43, L44, L45, L46, L47, L48, L50, L57, L59, L60, L63, L64, L65, L70, L80, L90, L97, L100, L110, L120, L122, L128, L150, L200, L208, L216, L224, L232, L240, L248, L255, L256, L264, L272, L280, L288, L296, L297, L300, L336, L337, L500, L680, L700, L998, L999, L1000, L1024, L1999, L6403, L9999, L10000, L12345, L99999, L1000000, L214424576, L412560384, L509804544, L639025541, L642945024, L658545824, L1103515245, L2147483647, g7_8, g7_p hp]
  obtain ⟨y, a1, a2, a3, a4⟩ := lp_n (b := fun s4 : Int32 × Int32 × Mm => bX6_inPauseCycles_5 SX7 8 p x s4.1 s4.2.1 s4.2.2) (N := fu) (s0 := (nI 0, nI 0, m))
    (fun k s => s.1 = nI (orA (wP π X) k) ∧ s.2.1 = nI k ∧ (∀ l, l < k → s.2.2.1 9 l = nI (wP π X l)) ∧ Fr (fun o => o = 9) m s.2.2)
    (fun y => y.1 = nI (orA (wP π X) π.nl) ∧ (∀ l, l < π.nl → y.2.1 9 l = nI (wP π X l)) ∧ Fr (fun o => o = 9) m y.2)
    π.nl ⟨rfl, rfl, fun l hl => by omega, Fr.rfl⟩ (by unfold fu; omega)
    (by
      rintro k ⟨w, i, m1⟩ hk ⟨e1, e2, A, F⟩
      dsimp only at e1 e2 A F ⊢
      subst e1 e2
      have C1 : CF m1 x X := C.fr F (fun o ho => by omega)
      have P1 : PF m1 p π := P.fr F (fun o ho => by omega)
      refine Or.inl ?_
      unfold bX6_inPauseCycles_5
      simp (disch := omega) only [L0, L1, L2, L3, L4, L5, L6, L7, L8, L9, L10, L11, L12, L13, L14, L15, L16, L17, L18, L19, L20, L21, L22, L23, L24, L25, L26, L27, L28, L29, L30, L31, L32, L33, L34, L35, L36, L37, L38, L39, L40, L41, L42, L43, L44, L45, L46, L47, L48, L50, L57, L59, L60, L63, L64, L65, L70, L80, L90, L97, L100, L110, L120, L122, L128, L150, L200, L208, L216, L224, L232, L240, L248, L255, L256, L264, L272, L280, L288, L296, L297, L300, L336, L337, L500, L680, L700, L998, L999, L1000, L1024, L1999, L6403, L9999, L10000, L12345, L99999, L1000000, L214424576, L412560384, L509804544, L639025541, L642945024, L658545824, L1103515245, L2147483647, r7_8_0, P1.nl, nn_le, e_waitsOf C1 P1 O hJ hx hp hk, bd1_e, stA_n s7_9, narA_0, ldA_n s7_9, u1_rs, nI_or, nI_add]
      rw [if_neg (by omega)]
      refine ⟨_, rfl, rfl, rfl, fun l hl => ?_, F.st rfl⟩
      by_cases e : l = k
      · subst e; rw [u1_rs]
      · rw [u1_rn (Or.inl e)]; exact A l (by omega))
    (by
      rintro ⟨w, i, m1⟩ ⟨e1, e2, A, F⟩
      dsimp only at e1 e2 A F ⊢
      subst e1 e2
      have P1 : PF m1 p π := P.fr F (fun o ho => by omega)
      unfold bX6_inPauseCycles_5
      simp (disch := omega) only [P1.nl, nn_le]
      rw [if_pos (by omega)]
      exact ⟨_, rfl, rfl, A, F⟩)
  have hlt := orA_lt (G := wP π X) (k := π.nl) (fun l _ => wP_lt O)
  have P1 : PF y.2 p π := P.fr a4 (fun o ho => by omega)
  rw [a1, bd1_e, a2]
  by_cases c : orA (wP π X) π.nl = 0
  · rw [if_neg (fun z => z (by rw [c])), cyS_0 (orA_0 c)]
    exact ⟨_, rfl, a3, a4.mono (fun o ho => Or.inl ho)⟩
  · rw [if_pos (fun z => c ((nn_eq (by omega) (by omega)).mp z)), P1.nl]
    obtain ⟨m3, b1, b2⟩ := e_inCyclesOf (m := y.2) (n := π.nl) (G := wP π X) hnl (fun l _ => wP_lt O) a3
    rw [b1, bd2_e]
    exact ⟨_, rfl, fun l hl => by rw [b2.2 9 (by omega)]; exact a3 l hl, (a4.mono (fun o ho => Or.inl ho)).trans (b2.mono (fun o ho => Or.inr ho))⟩
theorem e_inPossible {m : Mm} {p : Nat} {π : Pl} (P : PF m p π) (O : π.ok) (hp : p = 21 ∨ p = 31) : ∃ m', fX6_inPossibleCycles SX7 m 8 p = some (nI (cyS (wM' π) π.nl), m') ∧ Fr (fun o => o = 9 ∨ o = 10) m m' := by
  have hnl := O.nl
  have hnf := O.nf
  unfold fX6_inPossibleCycles
  simp only [L0, L1, L2, L3, L4, L5, L6, L7, L8, L9, L10, L11, L12, L13, L14, L15, L16, L17, L18, L19, L20, L21, L22, L23, L24, L25, L26, L27, L28, L29, L30, L31, L32, L33, L34, L35, L36, L37, L38, L39, L40, L41, L42, L43, L44, L45, L46, L47, L48, L50, L57, L59, L60, L63, L64, L65, L70, L80, L90, L97, L100, L110, L120, L122, L128, L150, L200, L208, L216, L224, L232, L240, L248, L255, L256, L264, L272, L280, L288, L296, L297, L300, L336, L337, L500, L680, L700, L998, L999, L1000, L1024, L1999, L6403, L9999, L10000, L12345, L99999, L1000000, L214424576, L412560384, L509804544, L639025541, L642945024, L658545824, L1103515245, L2147483647, g7_8, g7_p hp]
  obtain ⟨y, a1, a2, a3⟩ := lp_F (b := fun s7 : Int32 × Mm => bX6_inPossibleCycles_2 SX7 8 p s7.1 s7.2) (fun k m1 => (∀ l, l < k → m1.1 9 l = nI (wM' π l)) ∧ Fr (fun o => o = 9) m m1) π.nl (m := m) (by omega) ⟨fun l hl => by omega, Fr.rfl⟩
    (by
      rintro l m1 hl ⟨A, F⟩
      have P1 : PF m1 p π := P.fr F (fun o ho => by omega)
      dsimp only
      unfold bX6_inPossibleCycles_2
      simp (disch := omega) only [L0, L1, L2, L3, L4, L5, L6, L7, L8, L9, L10, L11, L12, L13, L14, L15, L16, L17, L18, L19, L20, L21, L22, L23, L24, L25, L26, L27, L28, L29, L30, L31, L32, L33, L34, L35, L36, L37, L38, L39, L40, L41, L42, L43, L44, L45, L46, L47, L48, L50, L57, L59, L60, L63, L64, L65, L70, L80, L90, L97, L100, L110, L120, L122, L128, L150, L200, L208, L216, L224, L232, L240, L248, L255, L256, L264, L272, L280, L288, L296, L297, L300, L336, L337, L500, L680, L700, L998, L999, L1000, L1024, L1999, L6403, L9999, L10000, L12345, L99999, L1000000, L214424576, L412560384, L509804544, L639025541, L642945024, L658545824, L1103515245, L2147483647, r7_8_0, P1.nl, nn_le, stA_n s7_9, narA_0, bd1_e]
      rw [if_neg (by omega)]
      obtain ⟨m3, c1, c2, c3, c4⟩ := lp_F (b := fun s5 : Int32 × Mm => bX6_inPossibleCycles_19 SX7 8 p (nI l) s5.1 s5.2) (fun k m3 => (∀ a, a < l → m3.1 9 a = nI (wM' π a)) ∧ m3.1 9 l = nI (wB (cM π l) (fun f => π.nx l f - 1) k) ∧ Fr (fun o => o = 9) m m3) π.nf (m := u1 m1 9 l (nI 0)) (by omega) ⟨fun a ha => by rw [u1_rn (Or.inl (by omega))]; exact A a ha, u1_rs, F.st rfl⟩
        (by
          rintro k m3 hk ⟨A3, B3, F3⟩
          have P3 : PF m3 p π := P.fr F3 (fun o ho => by omega)
          have hn := Pl.nx_lt O (l := l) (f := k) hk
          dsimp only
          unfold bX6_inPossibleCycles_19 jX6_inPossibleCycles_58
          simp (disch := omega) only [L0, L1, L2, L3, L4, L5, L6, L7, L8, L9, L10, L11, L12, L13, L14, L15, L16, L17, L18, L19, L20, L21, L22, L23, L24, L25, L26, L27, L28, L29, L30, L31, L32, L33, L34, L35, L36, L37, L38, L39, L40, L41, L42, L43, L44, L45, L46, L47, L48, L50, L57, L59, L60, L63, L64, L65, L70, L80, L90, L97, L100, L110, L120, L122, L128, L150, L200, L208, L216, L224, L232, L240, L248, L255, L256, L264, L272, L280, L288, L296, L297, L300, L336, L337, L500, L680, L700, L998, L999, L1000, L1024, L1999, L6403, L9999, L10000, L12345, L99999, L1000000, L214424576, L412560384, L509804544, L639025541, L642945024, L658545824, L1103515245, L2147483647, g7_p hp, r7_p_0 hp, r7_p_1 hp, r7_p_2 hp, r7_p_3 hp, r7_p_4 hp, r7_p_5 hp, r7_p_6 hp, r7_p_7 hp, r7_p_8 hp, r7_8_0, P3.nf, nn_le, nI_add, pk_mul, ldA_n (s7_p8 hp), P3.nx l k hl hk, nxI_lt, bd1_e, ldA_n s7_9, B3, stA_n s7_9, narA_0]
          rw [if_neg (by omega), wB_s]
          by_cases c : π.nx l k = 0
          · rw [if_pos c, if_neg (fun h => by have := of_decide_eq_true h; omega)]
            exact ⟨_, rfl, A3, B3, F3⟩
          · rw [if_neg c, nxI_p c, sh1 _ (by omega), nI_or, if_pos (show cM π l k = true from decide_eq_true c)]
            exact ⟨_, rfl, fun a ha => by rw [u1_rn (Or.inl (by omega))]; exact A3 a ha, u1_rs, F3.st rfl⟩)
        (by
          rintro m3 ⟨A3, B3, F3⟩
          have P3 : PF m3 p π := P.fr F3 (fun o ho => by omega)
          dsimp only
          unfold bX6_inPossibleCycles_19
          simp (disch := omega) only [P3.nf, nn_le]
          rw [if_pos (by omega)])
      rw [c1, bd1_e, nI_add]
      refine ⟨_, rfl, fun a ha => ?_, c4⟩
      by_cases e : a = l
      · subst e; exact c3
      · exact c2 a (by omega))
    (by
      rintro m1 ⟨A, F⟩
      have P1 : PF m1 p π := P.fr F (fun o ho => by omega)
      dsimp only
      unfold bX6_inPossibleCycles_2
      simp (disch := omega) only [P1.nl, nn_le]
      rw [if_pos (by omega)])
  have P1 : PF y p π := P.fr a3 (fun o ho => by omega)
  rw [a1, bd1_e, P1.nl]
  obtain ⟨m3, b1, b2⟩ := e_inCyclesOf (m := y) (n := π.nl) (G := wM' π) hnl (fun l _ => wM_lt O) a2
  rw [b1, bd2_e]
  exact ⟨_, rfl, (a3.mono (fun o ho => Or.inl ho)).trans (b2.mono (fun o ho => Or.inr ho))⟩
