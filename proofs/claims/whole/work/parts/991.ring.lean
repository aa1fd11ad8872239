/-! ===== the first cycle ===== -/
theorem ff_P {c : Nat → Bool} {n : Nat} : (ff c n ≠ 0 → c (ff c n - 1) = true ∧ ff c n ≤ n ∧ ∀ j, j < ff c n - 1 → c j = false) ∧ (ff c n = 0 → ∀ j, j < n → c j = false) := by
  induction n with
  | zero => exact ⟨fun h => absurd rfl h, fun _ j hj => by omega⟩
  | succ n ih =>
    rw [ff_s]
    by_cases h : ff c n = 0
    · rw [if_neg (fun z => z h)]
      cases hc : c n with
      | true =>
        rw [if_pos rfl]
        exact ⟨fun _ => ⟨hc, Nat.le_refl _, fun j hj => ih.2 h j (by omega)⟩, fun z => by omega⟩
      | false =>
        rw [if_neg (by decide)]
        refine ⟨fun z => absurd rfl z, fun _ j hj => ?_⟩
        by_cases e : j = n
        · subst e; exact hc
        · exact ih.2 h j (by omega)
    · rw [if_pos h]
      have := ih.1 h
      exact ⟨fun _ => ⟨this.1, by omega, this.2.2⟩, fun z => absurd z h⟩
theorem ff_ex {c : Nat → Bool} {n k : Nat} (hk : k < n) (hc : c k = true) : ff c n ≠ 0 := fun h => by
  have := ff_P.2 h k hk
  rw [hc] at this
  cases this
section RI
variable {E : Nat → Nat → Bool} {n t : Nat}
def rgC (E : Nat → Nat → Bool) (n t a d : Nat) : Nat → Bool := fun k => E a k && (decide (k ≠ t) && decide (ds E n t n k = d))
def rg (E : Nat → Nat → Bool) (n t : Nat) : Nat → Nat
  | 0 => t
  | i + 1 => ff (rgC E n t (rg E n t i) (ds E n t n t - i - 1)) n - 1
theorem rg_s {i : Nat} : rg E n t (i + 1) = ff (rgC E n t (rg E n t i) (ds E n t n t - i - 1)) n - 1 := rfl
/-- one step nearer -/
theorem ds_ge {a m : Nat} (ht : t < n) (hm : m < n) (he : E a m = true) (hne : m ≠ t) (h0 : ds E n t n m ≠ 0) (ha : ds E n t n a ≠ 0) : ds E n t n a ≤ ds E n t n m + 1 := by
  have h1 := ((ds_P ht m).1 h0).1
  by_cases q : ds E n t n m + 1 < ds E n t n a
  · exact absurd ⟨m, hm, he, h1⟩ (((ds_P ht a).1 ha).2 _ (by omega) q)
  · omega
theorem ds_next {a d : Nat} (ht : t < n) (ha : ds E n t n a = d + 1) (hd : 1 ≤ d) : (∃ k, k < n ∧ rgC E n t a d k = true) ∧ E a t = false := by
  obtain ⟨h1, h2⟩ := (ds_P (E := E) (m := n) ht a).1 (by omega)
  have hnt : E a t = false := by
    cases h : E a t with
    | false => rfl
    | true => exact absurd ((wk_1 ht).mpr h) (h2 1 (by omega) (by omega))
  refine ⟨?_, hnt⟩
  rw [ha] at h1
  obtain ⟨k, hk, he, hw⟩ := h1
  have hkt : k ≠ t := fun c => by rw [c, hnt] at he; cases he
  obtain ⟨v, hv⟩ : ∃ v, d = v + 1 := ⟨d - 1, by omega⟩
  have hw' : wk E n (v + 1) k t := by rw [← hv]; exact hw
  have hk0 := ds_all ht hk hw'
  have hle : ds E n t n k ≤ d := by
    by_cases q : d < ds E n t n k
    · exact absurd hw (((ds_P ht k).1 hk0).2 d hd q)
    · omega
  have hge := ds_ge ht hk he hkt hk0 (show ds E n t n a ≠ 0 by omega)
  refine ⟨k, hk, ?_⟩
  unfold rgC
  rw [he, decide_eq_true hkt, decide_eq_true (show ds E n t n k = d by omega)]
  rfl
theorem rg_P (ht : t < n) {i : Nat} (hi : i < ds E n t n t) : rg E n t i < n ∧ ds E n t n (rg E n t i) = ds E n t n t - i ∧ (i + 1 < ds E n t n t → rg E n t (i + 1) < n ∧ rgC E n t (rg E n t i) (ds E n t n t - i - 1) (rg E n t (i + 1)) = true ∧ (∀ k, k < rg E n t (i + 1) → rgC E n t (rg E n t i) (ds E n t n t - i - 1) k = false) ∧ E (rg E n t i) t = false) ∧ (i + 1 = ds E n t n t → E (rg E n t i) t = true) := by
  have step : ∀ i, rg E n t i < n → ds E n t n (rg E n t i) = ds E n t n t - i → i < ds E n t n t → (i + 1 < ds E n t n t → rg E n t (i + 1) < n ∧ rgC E n t (rg E n t i) (ds E n t n t - i - 1) (rg E n t (i + 1)) = true ∧ (∀ k, k < rg E n t (i + 1) → rgC E n t (rg E n t i) (ds E n t n t - i - 1) k = false) ∧ E (rg E n t i) t = false) ∧ (i + 1 = ds E n t n t → E (rg E n t i) t = true) := by
    intro i h1 h2 h3
    refine ⟨fun h4 => ?_, fun h4 => ?_⟩
    · obtain ⟨⟨k, hk, hc⟩, hnt⟩ := ds_next (E := E) (a := rg E n t i) (d := ds E n t n t - i - 1) ht (by omega) (by omega)
      have hne := ff_ex hk hc
      obtain ⟨q1, q2, q3⟩ := ff_P.1 hne
      rw [rg_s]
      exact ⟨by omega, q1, q3, hnt⟩
    · have h5 := ((ds_P (E := E) (m := n) ht (rg E n t i)).1 (by omega)).1
      rw [h2, show ds E n t n t - i = 1 by omega] at h5
      exact (wk_1 ht).mp h5
  induction i with
  | zero => exact ⟨ht, by rw [Nat.sub_zero]; rfl, step 0 ht (by rw [Nat.sub_zero]; rfl) hi⟩
  | succ i ih =>
    obtain ⟨a1, a2, a3, _⟩ := ih (by omega)
    obtain ⟨b1, b2, b3, b4⟩ := a3 hi
    have b5 : ds E n t n (rg E n t (i + 1)) = ds E n t n t - (i + 1) := by
      unfold rgC at b2
      rw [Bool.and_eq_true, Bool.and_eq_true] at b2
      have := of_decide_eq_true b2.2.2
      omega
    exact ⟨b1, b5, step (i + 1) b1 b5 hi⟩
/-- the nearest of the nexts, the least of several: one more, 0 if none -/
def nb (E : Nat → Nat → Bool) (v : Nat → Nat) (a : Nat) : Nat → Nat
  | 0 => 0
  | k + 1 => if E a k = true ∧ v k ≠ 0 ∧ (nb E v a k = 0 ∨ v k < v (nb E v a k - 1)) then k + 1 else nb E v a k
theorem nb_s {v : Nat → Nat} {a k : Nat} : nb E v a (k + 1) = if E a k = true ∧ v k ≠ 0 ∧ (nb E v a k = 0 ∨ v k < v (nb E v a k - 1)) then k + 1 else nb E v a k := rfl
theorem nb_P {v : Nat → Nat} {a k : Nat} : (nb E v a k = 0 → ∀ i, i < k → E a i = true → v i = 0) ∧ (nb E v a k ≠ 0 → nb E v a k ≤ k ∧ E a (nb E v a k - 1) = true ∧ v (nb E v a k - 1) ≠ 0 ∧ ∀ i, i < k → E a i = true → v i ≠ 0 → v (nb E v a k - 1) ≤ v i ∧ (i < nb E v a k - 1 → v (nb E v a k - 1) < v i)) := by
  induction k with
  | zero => exact ⟨fun _ i hi => by omega, fun h => absurd rfl h⟩
  | succ k ih =>
    rw [nb_s]
    by_cases c : E a k = true ∧ v k ≠ 0 ∧ (nb E v a k = 0 ∨ v k < v (nb E v a k - 1))
    · rw [if_pos c]
      refine ⟨fun h => by omega, fun _ => ⟨Nat.le_refl _, c.1, c.2.1, fun i hi h1 h2 => ?_⟩⟩
      show v k ≤ v i ∧ (i < k → v k < v i)
      by_cases e : i = k
      · subst e; exact ⟨Nat.le_refl _, fun z => by omega⟩
      · rcases c.2.2 with z | z
        · exact absurd (ih.1 z i (by omega) h1) h2
        · have z0 : nb E v a k ≠ 0 := fun y => by
            by_cases w : v k = 0
            · exact c.2.1 w
            · exact absurd (ih.1 y i (by omega) h1) h2
          have := (ih.2 z0).2.2.2 i (by omega) h1 h2
          omega
    · rw [if_neg c]
      refine ⟨fun h i hi h1 => ?_, fun h => ?_⟩
      · by_cases e : i = k
        · subst e
          by_cases w : v i = 0
          · exact w
          · exact absurd ⟨h1, w, Or.inl h⟩ c
        · exact ih.1 h i (by omega) h1
      · obtain ⟨q1, q2, q3, q4⟩ := ih.2 h
        refine ⟨by omega, q2, q3, fun i hi h1 h2 => ?_⟩
        by_cases e : i = k
        · subst e
          have : ¬ v i < v (nb E v a i - 1) := fun z => c ⟨h1, h2, Or.inr z⟩
          exact ⟨by omega, fun z => by omega⟩
        · exact q4 i (by omega) h1 h2
theorem nb_is {v : Nat → Nat} {a j : Nat} (hj : j < n) (h1 : E a j = true) (h2 : v j ≠ 0) (h3 : ∀ i, i < n → E a i = true → v i ≠ 0 → v j ≤ v i ∧ (i < j → v j < v i)) : nb E v a n = j + 1 := by
  have h0 : nb E v a n ≠ 0 := fun z => h2 (nb_P.1 z j hj h1)
  obtain ⟨q1, q2, q3, q4⟩ := nb_P.2 h0
  have a1 := q4 j hj h1 h2
  have a2 := h3 (nb E v a n - 1) (by omega) q2 q3
  by_cases c : nb E v a n - 1 < j
  · have := a2.2 c; omega
  · by_cases c2 : j < nb E v a n - 1
    · have := a1.2 c2; omega
    · omega
theorem nb_rg (ht : t < n) {i : Nat} (hi : i < ds E n t n t) : nb E (fs E n t (n - 1)) (rg E n t i) n = (if i + 1 < ds E n t n t then rg E n t (i + 1) else t) + 1 := by
  obtain ⟨h1, h2, h3, h4⟩ := rg_P ht hi
  by_cases c : i + 1 < ds E n t n t
  · rw [if_pos c]
    obtain ⟨b1, b2, b3, b4⟩ := h3 c
    have b2' := b2
    unfold rgC at b2'
    rw [Bool.and_eq_true, Bool.and_eq_true] at b2'
    have e1 := of_decide_eq_true b2'.2.1
    have e2 := of_decide_eq_true b2'.2.2
    have ef : fs E n t (n - 1) (rg E n t (i + 1)) = ds E n t n t - i - 1 + 1 := by rw [fs_ds ht b1 e1, e2, if_neg (by omega)]
    refine nb_is b1 b2'.1 (by omega) (fun m hm hE hv => ?_)
    have hmt : m ≠ t := fun z => by rw [z, b4] at hE; cases hE
    rw [fs_ds ht hm hmt] at hv ⊢
    have hm0 : ds E n t n m ≠ 0 := fun z => by rw [if_pos z] at hv; exact hv rfl
    rw [if_neg hm0, ef]
    have hge := ds_ge ht hm hE hmt hm0 (show ds E n t n (rg E n t i) ≠ 0 by omega)
    refine ⟨by omega, fun hlt => ?_⟩
    have hcf := b3 m hlt
    have : ds E n t n m ≠ ds E n t n t - i - 1 := fun z => by
      unfold rgC at hcf
      rw [hE, decide_eq_true hmt, decide_eq_true z] at hcf
      cases hcf
    omega
  · rw [if_neg c]
    have hE := h4 (by omega)
    refine nb_is ht hE (by rw [fs_to]; omega) (fun m hm hE2 hv => ?_)
    rw [fs_to]
    by_cases e : m = t
    · rw [e, fs_to]; exact ⟨Nat.le_refl _, fun z => by omega⟩
    · rw [fs_ds ht hm e] at hv ⊢
      have hm0 : ds E n t n m ≠ 0 := fun z => by rw [if_pos z] at hv; exact hv rfl
      rw [if_neg hm0]
      exact ⟨by omega, fun _ => by omega⟩
end RI
/-! the class finds it -/
theorem and_0 {a b : Nat} : a &&& b = 0 ↔ ∀ k, ¬ (a.testBit k = true ∧ b.testBit k = true) := by
  constructor
  · intro h k ⟨h1, h2⟩
    have : (a &&& b).testBit k = true := by rw [Nat.testBit_and, h1, h2]; rfl
    rw [h, Nat.zero_testBit] at this
    cases this
  · intro h
    apply Classical.byContradiction
    intro hc
    obtain ⟨i, hi⟩ := Nat.exists_testBit_of_ne_zero hc
    rw [Nat.testBit_and, Bool.and_eq_true] at hi
    exact h i hi
theorem e_leastOf {m : Mm} {v : Nat} (hv : v < 1024) (h0 : v ≠ 0) : fX6_leastOf SX7 m (nI v) = some (nI (ff (fun l => v.testBit l) 10 - 1)) := by
  have hex : ∃ i, i < 10 ∧ v.testBit i = true := by
    obtain ⟨i, hi⟩ := Nat.exists_testBit_of_ne_zero h0
    refine ⟨i, ?_, hi⟩
    by_cases c : i < 10
    · exact c
    · have hge := Nat.ge_two_pow_of_testBit hi
      have : 2 ^ 10 ≤ 2 ^ i := Nat.pow_le_pow_right (by decide) (by omega)
      omega
  unfold fX6_leastOf
  simp only [L0, L1, L2, L3, L4, L5, L6, L7, L8, L9, L10, L11, L12, L13, L14, L15, L16, L17, L18, L19, L20, L21, L22, L23, L24, L25, L26, L27, L28, L29, L30, L31, L32, L33, L34, L35, L36, L37, L38, L39, L40, L41, L42, L43, L44, L45, L46, L47, L48, L50, L57, L59, L60, L63, L64, L65, L70, L80, L90, L97, L100, L110, L120, L122, L128, L150, L200, L208, L216, L224, L232, L240, L248, L255, L256, L264, L272, L280, L288, L296, L297, L300, L336, L337, L500, L680, L700, L998, L999, L1000, L1024, L1999, L6403, L9999, L10000, L12345, L99999, L1000000, L214424576, L412560384, L509804544, L639025541, L642945024, L658545824, L1103515245, L2147483647]
  obtain ⟨r, h1, h2⟩ := lp_n (b := fun s1 : Int32 => bX6_leastOf_2 SX7 m (nI v) s1) (N := fu) (s0 := nI 0)
    (fun k s => s = nI k ∧ ∀ j, j < k → v.testBit j = false)
    (fun r => r = .inl (nI (ff (fun l => v.testBit l) 10 - 1)))
    10 ⟨rfl, fun j hj => by omega⟩ (by unfold fu; omega)
    (by
      rintro k s hk ⟨rfl, hno⟩
      have hbn := bN_le v k
      unfold bX6_leastOf_2
      simp (disch := omega) only [L0, L1, L2, L3, L4, L5, L6, L7, L8, L9, L10, L11, L12, L13, L14, L15, L16, L17, L18, L19, L20, L21, L22, L23, L24, L25, L26, L27, L28, L29, L30, L31, L32, L33, L34, L35, L36, L37, L38, L39, L40, L41, L42, L43, L44, L45, L46, L47, L48, L50, L57, L59, L60, L63, L64, L65, L70, L80, L90, L97, L100, L110, L120, L122, L128, L150, L200, L208, L216, L224, L232, L240, L248, L255, L256, L264, L272, L280, L288, L296, L297, L300, L336, L337, L500, L680, L700, L998, L999, L1000, L1024, L1999, L6403, L9999, L10000, L12345, L99999, L1000000, L214424576, L412560384, L509804544, L639025541, L642945024, L658545824, L1103515245, L2147483647, nn_le, bT hv hk, nn_eq, nI_add]
      rw [if_neg (by omega)]
      cases c : v.testBit k with
      | true =>
        rw [if_neg (fun z => z (bN_t c))]
        exact Or.inr ⟨_, rfl, by rw [ff_1 (E := fun l => v.testBit l) hno c hk]; rfl⟩
      | false =>
        rw [if_pos (by rw [bN_f c]; omega)]
        exact Or.inl ⟨_, rfl, rfl, fun j hj => by
          by_cases e : j = k
          · subst e; exact c
          · exact hno j (by omega)⟩)
    (by
      rintro s ⟨rfl, hno⟩
      obtain ⟨i, hi, hi2⟩ := hex
      rw [hno i hi] at hi2
      cases hi2)
  rw [h1, h2]
  rfl
theorem e_measure {m : Mm} {n t : Nat} {G : Nat → Nat} (hn : n ≤ 10) (ht : t < n) (hG : ∀ l, l < n → G l < 1024) (hGn : ∀ l k, l < n → (G l).testBit k = true → k < n) (h9 : ∀ l, l < n → m.1 9 l = nI (G l)) : ∃ m', fX6_measure SX7 m 8 (nI t) (nI n) = some m' ∧ (∀ l, l < n → m'.1 11 l = nxI (fs (Ed G) n t (n - 1) l)) ∧ Fr (fun o => o = 11) m m' := by
  unfold fX6_measure
  simp (disch := omega) only [L0, L1, L2, L3, L4, L5, L6, L7, L8, L9, L10, L11, L12, L13, L14, L15, L16, L17, L18, L19, L20, L21, L22, L23, L24, L25, L26, L27, L28, L29, L30, L31, L32, L33, L34, L35, L36, L37, L38, L39, L40, L41, L42, L43, L44, L45, L46, L47, L48, L50, L57, L59, L60, L63, L64, L65, L70, L80, L90, L97, L100, L110, L120, L122, L128, L150, L200, L208, L216, L224, L232, L240, L248, L255, L256, L264, L272, L280, L288, L296, L297, L300, L336, L337, L500, L680, L700, L998, L999, L1000, L1024, L1999, L6403, L9999, L10000, L12345, L99999, L1000000, L214424576, L412560384, L509804544, L639025541, L642945024, L658545824, L1103515245, L2147483647, g7_8, sh1 t (by omega)]
  obtain ⟨m1, a1, a2, a3⟩ := lp_F (b := fun s2 : Int32 × Mm => bX6_measure_2 SX7 8 (nI t) (nI n) s2.1 s2.2) (fun k m1 => (∀ l, l < k → m1.1 11 l = nxI (fs (Ed G) n t 0 l)) ∧ Fr (fun o => o = 11) m m1) n (m := m) (by omega) ⟨fun l hl => by omega, Fr.rfl⟩
    (by
      rintro k m1 hk ⟨A, F⟩
      dsimp only
      unfold bX6_measure_2 jX6_measure_22
      simp (disch := omega) only [L0, L1, L2, L3, L4, L5, L6, L7, L8, L9, L10, L11, L12, L13, L14, L15, L16, L17, L18, L19, L20, L21, L22, L23, L24, L25, L26, L27, L28, L29, L30, L31, L32, L33, L34, L35, L36, L37, L38, L39, L40, L41, L42, L43, L44, L45, L46, L47, L48, L50, L57, L59, L60, L63, L64, L65, L70, L80, L90, L97, L100, L110, L120, L122, L128, L150, L200, L208, L216, L224, L232, L240, L248, L255, L256, L264, L272, L280, L288, L296, L297, L300, L336, L337, L500, L680, L700, L998, L999, L1000, L1024, L1999, L6403, L9999, L10000, L12345, L99999, L1000000, L214424576, L412560384, L509804544, L639025541, L642945024, L658545824, L1103515245, L2147483647, r7_8_2, nn_le, nn_eq, stA_n s7_11, narA_0, bd1_e, nI_add]
      rw [if_neg (by omega)]
      have key : ∀ w, w = nxI (fs (Ed G) n t 0 k) → (∀ l, l < k + 1 → (u1 m1 11 k w).1 11 l = nxI (fs (Ed G) n t 0 l)) := by
        rintro w rfl l hl
        by_cases e : l = k
        · subst e; rw [u1_rs]
        · rw [u1_rn (Or.inl e)]; exact A l (by omega)
      by_cases c : k = t
      · rw [if_neg (fun z => z c)]
        exact ⟨_, rfl, key _ (by unfold fs; rw [if_pos c]; rfl), F.st rfl⟩
      · rw [if_pos c]
        exact ⟨_, rfl, key _ (by unfold fs; rw [if_neg c]; rfl), F.st rfl⟩)
    (by
      rintro m1 ⟨A, F⟩
      dsimp only
      unfold bX6_measure_2
      simp (disch := omega) only [nn_le]
      rw [if_pos (by omega)])
  rw [a1, bd1_e]
  obtain ⟨y, b1, b2, b3⟩ := lp_n (b := fun s9 : Int32 × Int32 × Mm => bX6_measure_36 SX7 8 (nI n) s9.1 s9.2.1 s9.2.2) (N := fu) (s0 := (nI (2 ^ t), nI 1, m1))
    (fun r s => s.2.1 = nI (r + 1) ∧ (∃ v, v < 1024 ∧ s.1 = nI v ∧ ∀ k, v.testBit k = true ↔ k < n ∧ fs (Ed G) n t r k ≠ 0) ∧ (∀ l, l < n → s.2.2.1 11 l = nxI (fs (Ed G) n t r l)) ∧ Fr (fun o => o = 11) m s.2.2)
    (fun y => (∀ l, l < n → y.1 11 l = nxI (fs (Ed G) n t (n - 1) l)) ∧ Fr (fun o => o = 11) m y)
    (n - 1) ⟨rfl, ⟨2 ^ t, pw1024 t (by omega), rfl, fun k => by
      rw [Nat.testBit_two_pow]
      unfold fs
      by_cases e : t = k
      · subst e; rw [decide_eq_true rfl, if_pos rfl]; exact ⟨fun _ => ⟨ht, by omega⟩, fun _ => rfl⟩
      · rw [decide_eq_false e, if_neg (fun z => e z.symm)]; exact ⟨fun z => (by cases z), fun z => absurd rfl z.2⟩⟩, a2, a3⟩ (by unfold fu; omega)
    (by
      rintro r ⟨w, i, m2⟩ hr ⟨e1, ⟨v, hv, e2, hvt⟩, A, F⟩
      dsimp only at e1 e2 A F ⊢
      subst e1 e2
      refine Or.inl ?_
      unfold bX6_measure_36
      simp (disch := omega) only [L0, L1, L2, L3, L4, L5, L6, L7, L8, L9, L10, L11, L12, L13, L14, L15, L16, L17, L18, L19, L20, L21, L22, L23, L24, L25, L26, L27, L28, L29, L30, L31, L32, L33, L34, L35, L36, L37, L38, L39, L40, L41, L42, L43, L44, L45, L46, L47, L48, L50, L57, L59, L60, L63, L64, L65, L70, L80, L90, L97, L100, L110, L120, L122, L128, L150, L200, L208, L216, L224, L232, L240, L248, L255, L256, L264, L272, L280, L288, L296, L297, L300, L336, L337, L500, L680, L700, L998, L999, L1000, L1024, L1999, L6403, L9999, L10000, L12345, L99999, L1000000, L214424576, L412560384, L509804544, L639025541, L642945024, L658545824, L1103515245, L2147483647, nn_le]
      rw [if_neg (by omega)]
      have hfs : ∀ l, fs (Ed G) n t r l ≤ r + 1 := fun l => fs_le
      obtain ⟨y, c1, ⟨u, u1', u2, u3⟩, c3, c4⟩ := lp_n (b := fun s7 : Int32 × Int32 × Mm => bX6_measure_48 SX7 8 (nI n) (nI v) (nI (r + 1)) s7.1 s7.2.1 s7.2.2) (N := fu) (s0 := (nI 0, nI 0, m2))
        (fun k s => s.2.1 = nI k ∧ (∃ u, u < 1024 ∧ s.1 = nI u ∧ ∀ j, u.testBit j = true ↔ j < k ∧ fs (Ed G) n t r j = 0 ∧ fs (Ed G) n t (r + 1) j ≠ 0) ∧ (∀ l, l < n → s.2.2.1 11 l = nxI (if l < k then fs (Ed G) n t (r + 1) l else fs (Ed G) n t r l)) ∧ Fr (fun o => o = 11) m s.2.2)
        (fun y => (∃ u, u < 1024 ∧ y.1 = nI u ∧ ∀ j, u.testBit j = true ↔ j < n ∧ fs (Ed G) n t r j = 0 ∧ fs (Ed G) n t (r + 1) j ≠ 0) ∧ (∀ l, l < n → y.2.1 11 l = nxI (fs (Ed G) n t (r + 1) l)) ∧ Fr (fun o => o = 11) m y.2)
        n ⟨rfl, ⟨0, by omega, rfl, fun j => by rw [Nat.zero_testBit]; exact ⟨fun z => (by cases z), fun z => by omega⟩⟩, fun l hl => by rw [if_neg (by omega)]; exact A l hl, F⟩ (by unfold fu; omega)
        (by
          rintro k ⟨w, i, m3⟩ hk ⟨e1, ⟨u, hu, e2, hut⟩, A3, F3⟩
          dsimp only at e1 e2 A3 F3 ⊢
          subst e1 e2
          have h11 := A3 k hk
          rw [if_neg (by omega)] at h11
          have h9k : m3.1 9 k = nI (G k) := by rw [F3.2 9 (by omega)]; exact h9 k hk
          have hgk := hG k hk
          have hfk := hfs k
          have hand : G k &&& v < 1024 := Nat.lt_of_le_of_lt Nat.and_le_left hgk
          have keep : fs (Ed G) n t (r + 1) k = fs (Ed G) n t r k → (∃ u', u' < 1024 ∧ nI u = nI u' ∧ ∀ j, u'.testBit j = true ↔ j < k + 1 ∧ fs (Ed G) n t r j = 0 ∧ fs (Ed G) n t (r + 1) j ≠ 0) ∧ (∀ l, l < n → m3.1 11 l = nxI (if l < k + 1 then fs (Ed G) n t (r + 1) l else fs (Ed G) n t r l)) := by
            intro hs
            refine ⟨⟨u, hu, rfl, fun j => ?_⟩, fun l hl => ?_⟩
            · rw [hut j]
              constructor
              · rintro ⟨q1, q2⟩; exact ⟨by omega, q2⟩
              · rintro ⟨q1, q2, q3⟩
                by_cases e : j = k
                · subst e; rw [hs] at q3; exact absurd q2 q3
                · exact ⟨by omega, q2, q3⟩
            · rw [A3 l hl]
              by_cases e : l = k
              · subst e; rw [if_neg (by omega), if_pos (by omega), hs]
              · by_cases q : l < k
                · rw [if_pos q, if_pos (by omega)]
                · rw [if_neg q, if_neg (by omega)]
          unfold bX6_measure_48 jX6_measure_95
          simp (disch := omega) only [L0, L1, L2, L3, L4, L5, L6, L7, L8, L9, L10, L11, L12, L13, L14, L15, L16, L17, L18, L19, L20, L21, L22, L23, L24, L25, L26, L27, L28, L29, L30, L31, L32, L33, L34, L35, L36, L37, L38, L39, L40, L41, L42, L43, L44, L45, L46, L47, L48, L50, L57, L59, L60, L63, L64, L65, L70, L80, L90, L97, L100, L110, L120, L122, L128, L150, L200, L208, L216, L224, L232, L240, L248, L255, L256, L264, L272, L280, L288, L296, L297, L300, L336, L337, L500, L680, L700, L998, L999, L1000, L1024, L1999, L6403, L9999, L10000, L12345, L99999, L1000000, L214424576, L412560384, L509804544, L639025541, L642945024, L658545824, L1103515245, L2147483647, r7_8_0, r7_8_2, nn_le, ldA_n s7_11, h11, bd1_e, ldA_n s7_9, h9k, nI_and, nn_eq, stA_n s7_11, narA_0, nI_add]
          rw [if_neg (by omega)]
          refine Or.inl ?_
          by_cases c0 : fs (Ed G) n t r k = 0
          · rw [if_neg (fun z => z (by rw [c0]; rfl))]
            have hany : anyB (fun j => Ed G k j && decide (fs (Ed G) n t r j ≠ 0)) n = true ↔ ¬ (G k &&& v = 0) := by
              rw [anyB_iff, and_0]
              constructor
              · rintro ⟨j, hj, hj2⟩ hz
                rw [Bool.and_eq_true] at hj2
                exact hz j ⟨hj2.1, (hvt j).mpr ⟨hj, of_decide_eq_true hj2.2⟩⟩
              · intro hz
                apply Classical.byContradiction
                intro hno
                apply hz
                rintro j ⟨q1, q2⟩
                have q3 := (hvt j).mp q2
                exact hno ⟨j, q3.1, by rw [show Ed G k j = true from q1, decide_eq_true q3.2]; rfl⟩
            by_cases c1 : G k &&& v = 0
            · rw [if_pos c1]
              have hs : fs (Ed G) n t (r + 1) k = fs (Ed G) n t r k := by rw [fs_s, if_neg (fun z => z c0), if_neg (fun z => hany.mp z c1), c0]
              obtain ⟨q1, q2⟩ := keep hs
              exact ⟨_, rfl, rfl, q1, q2, F3⟩
            · rw [if_neg c1]
              have hs : fs (Ed G) n t (r + 1) k = r + 2 := by rw [fs_s, if_neg (fun z => z c0), if_pos (hany.mpr c1)]
              have hsh := sh1 k (show k < 10 by omega)
              rw [nI_and] at hsh
              rw [hsh, nI_or]
              refine ⟨_, rfl, rfl, ⟨u ||| 2 ^ k, or1024 hu (pw1024 k (by omega)), rfl, fun j => ?_⟩, fun l hl => ?_, F3.st rfl⟩
              · rw [Nat.testBit_or, Nat.testBit_two_pow, Bool.or_eq_true, hut j]
                constructor
                · rintro (⟨q1, q2⟩ | q)
                  · exact ⟨by omega, q2⟩
                  · have e := of_decide_eq_true q
                    subst e
                    exact ⟨by omega, c0, by omega⟩
                · rintro ⟨q1, q2, q3⟩
                  by_cases e : j = k
                  · subst e; exact Or.inr (decide_eq_true rfl)
                  · exact Or.inl ⟨by omega, q2, q3⟩
              · by_cases e : l = k
                · subst e; rw [u1_rs, if_pos (by omega), hs]; rfl
                · rw [u1_rn (Or.inl e), A3 l hl]
                  by_cases q : l < k
                  · rw [if_pos q, if_pos (by omega)]
                  · rw [if_neg q, if_neg (by omega)]
          · rw [if_pos (by rw [nxI_p c0, nI_m1 (by omega)]; exact not_false)]
            obtain ⟨q1, q2⟩ := keep (by rw [fs_s, if_pos c0])
            exact ⟨_, rfl, rfl, q1, q2, F3⟩)
        (by
          rintro ⟨w, i, m3⟩ ⟨e1, ⟨u, hu, e2, hut⟩, A3, F3⟩
          dsimp only at e1 e2 A3 F3 ⊢
          subst e1 e2
          unfold bX6_measure_48
          simp (disch := omega) only [nn_le]
          rw [if_pos (by omega)]
          exact ⟨_, rfl, ⟨u, hu, rfl, hut⟩, fun l hl => by rw [A3 l hl, if_pos hl], F3⟩)
      rw [c1, bd1_e, u2, nI_or, nI_add]
      refine ⟨_, rfl, rfl, ⟨v ||| u, or1024 hv u1', rfl, fun k => ?_⟩, c3, c4⟩
      rw [Nat.testBit_or, Bool.or_eq_true, hvt k, u3 k]
      constructor
      · rintro (⟨q1, q2⟩ | ⟨q1, q2, q3⟩)
        · exact ⟨q1, by rw [fs_s, if_pos q2]; exact q2⟩
        · exact ⟨q1, q3⟩
      · rintro ⟨q1, q2⟩
        by_cases c : fs (Ed G) n t r k = 0
        · exact Or.inr ⟨q1, c, q2⟩
        · exact Or.inl ⟨q1, c⟩)
    (by
      rintro ⟨w, i, m2⟩ ⟨e1, _, A, F⟩
      dsimp only at e1 A F ⊢
      subst e1
      unfold bX6_measure_36
      simp (disch := omega) only [nn_le]
      rw [if_pos (by omega)]
      exact ⟨_, rfl, A, F⟩)
  rw [b1, bd1_e]
  exact ⟨_, rfl, b2, b3⟩
