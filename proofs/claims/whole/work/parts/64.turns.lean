/-! ===== the class's ticker: turns ===== -/
def TT (m0 m : Mm) (b n : Nat) (mv lf : Nat → Nat) : Prop := (m.2 = m0.2) ∧ (∀ o, o ≠ 5 → o ≠ 6 → m.1 o = m0.1 o) ∧ (∀ j, j < b ∨ b + n ≤ j → m.1 5 j = m0.1 5 j) ∧ (∀ g, g < n → m.1 5 (b + g) = nI (mv g)) ∧ (∀ g, g < n → m.1 6 g = nI (lf g))
theorem TT.mk {m0 m : Mm} {b n : Nat} {mv lf : Nat → Nat} (h_l : m.2 = m0.2) (h_o : ∀ o, o ≠ 5 → o ≠ 6 → m.1 o = m0.1 o) (h_out : ∀ j, j < b ∨ b + n ≤ j → m.1 5 j = m0.1 5 j) (h_mv : ∀ g, g < n → m.1 5 (b + g) = nI (mv g)) (h_lf : ∀ g, g < n → m.1 6 g = nI (lf g)) : TT m0 m b n mv lf := ⟨h_l, h_o, h_out, h_mv, h_lf⟩
theorem TT.l {m0 m : Mm} {b n : Nat} {mv lf : Nat → Nat} (h : TT m0 m b n mv lf) : m.2 = m0.2 := h.1
theorem TT.o {m0 m : Mm} {b n : Nat} {mv lf : Nat → Nat} (h : TT m0 m b n mv lf) : ∀ o, o ≠ 5 → o ≠ 6 → m.1 o = m0.1 o := h.2.1
theorem TT.out {m0 m : Mm} {b n : Nat} {mv lf : Nat → Nat} (h : TT m0 m b n mv lf) : ∀ j, j < b ∨ b + n ≤ j → m.1 5 j = m0.1 5 j := h.2.2.1
theorem TT.mv {m0 m : Mm} {b n : Nat} {mv lf : Nat → Nat} (h : TT m0 m b n mv lf) : ∀ g, g < n → m.1 5 (b + g) = nI (mv g) := h.2.2.2.1
theorem TT.lf {m0 m : Mm} {b n : Nat} {mv lf : Nat → Nat} (h : TT m0 m b n mv lf) : ∀ g, g < n → m.1 6 g = nI (lf g) := h.2.2.2.2
theorem TT.st {m0 m : Mm} {b n : Nat} {mv lf : Nat → Nat} (h : TT m0 m b n mv lf) {g v w : Nat} (hg : g < n) : TT m0 (u1 (u1 m 6 g (nI v)) 5 (b + g) (nI w)) b n (upN mv g w) (upN lf g v) := by
  refine TT.mk ?_ ?_ ?_ ?_ ?_
  · exact h.l
  · intro o h5 h6
    rw [u1_other h5, u1_other h6, h.o o h5 h6]
  · intro j hj
    rw [u1_rn (Or.inl (by omega)), u1_rn (Or.inr (by omega)), h.out j hj]
  · intro k hk
    by_cases e : k = g
    · subst e; rw [u1_rs, upN_s]
    · rw [u1_rn (Or.inl (by omega)), u1_rn (Or.inr (by omega)), upN_n e, h.mv k hk]
  · intro k hk
    by_cases e : k = g
    · subst e; rw [u1_rn (Or.inr (by omega)), u1_rs, upN_s]
    · rw [u1_rn (Or.inr (by omega)), u1_rn (Or.inl e), upN_n e, h.lf k hk]
theorem TT.congr {m0 m : Mm} {b n : Nat} {mv lf mv' lf' : Nat → Nat} (h : TT m0 m b n mv lf) (e1 : ∀ g, g < n → mv g = mv' g) (e2 : ∀ g, g < n → lf g = lf' g) : TT m0 m b n mv' lf' := TT.mk h.l h.o h.out (fun g hg => by rw [h.mv g hg, e1 g hg]) (fun g hg => by rw [h.lf g hg, e2 g hg])
/-- how many of the first have some -/
def cn (lf : Nat → Nat) (p : Nat) : Nat := sm p (fun g => if 0 < lf g then 1 else 0)
theorem cn_s (lf : Nat → Nat) (p : Nat) : cn lf (p + 1) = cn lf p + (if 0 < lf p then 1 else 0) := rfl
theorem cn_le (lf : Nat → Nat) (p : Nat) : cn lf p ≤ p := by
  induction p with
  | zero => exact Nat.le_refl 0
  | succ p ih => rw [cn_s]; split <;> omega
theorem cn_mono {lf : Nat → Nat} {p q : Nat} (h : p ≤ q) : cn lf p ≤ cn lf q := by
  induction q with
  | zero => have : p = 0 := by omega
            rw [this]; exact Nat.le_refl _
  | succ q ih =>
    by_cases e : p = q + 1
    · rw [e]; exact Nat.le_refl _
    · have := ih (by omega)
      rw [cn_s]; omega
theorem cn_eq0 {lf : Nat → Nat} {p q g : Nat} (h : cn lf q = cn lf p) (h1 : p ≤ g) (h2 : g < q) : lf g = 0 := by
  have a := cn_mono (lf := lf) h1
  have b := cn_mono (lf := lf) (show g + 1 ≤ q by omega)
  rw [cn_s] at b
  by_cases e : 0 < lf g
  · rw [if_pos e] at b; omega
  · omega
theorem e_giveEach {m0 m : Mm} {b n c G : Nat} {mv lf : Nat → Nat} (h : TT m0 m b n mv lf) (hn : n ≤ 8) (hb : b + n ≤ 80) (hc : ∀ g, g < n → 0 < lf g → c ≤ lf g) (hl : ∀ g, g < n → lf g < 2147483648) (hG : G < 2147483648) : ∃ m' p, fX5_giveEach SX7 m 4 (nI b) (nI n) (nI c) (nI G) = some (nI (cn lf p * c), m') ∧ p ≤ n ∧ (p = n ∨ cn lf p = G) ∧ cn lf p ≤ G ∧ TT m0 m' b n (fun g => if g < p ∧ 0 < lf g then mv g + c else mv g) (fun g => if g < p ∧ 0 < lf g then lf g - c else lf g) := by
  unfold fX5_giveEach
  simp only [L0, L1, L2, L3, L4, L5, L6, L7, L8, L9, L10, L11, L12, L13, L14, L15, L16, L17, L18, L19, L20, L21, L22, L23, L24, L25, L26, L27, L28, L29, L30, L31, L32, L33, L34, L35, L36, L37, L38, L39, L40, L41, L42, L43, L44, L45, L46, L47, L48, L50, L57, L59, L60, L63, L64, L65, L70, L80, L90, L97, L100, L110, L120, L122, L128, L150, L200, L208, L216, L224, L232, L240, L248, L255, L256, L264, L272, L280, L288, L296, L297, L300, L336, L337, L500, L680, L700, L998, L999, L1000, L1024, L1999, L6403, L9999, L10000, L12345, L99999, L1000000, L214424576, L412560384, L509804544, L639025541, L642945024, L658545824, L1103515245, L2147483647, g7_0, g7_1, g7_3, g7_4, g7_8, g7_13, g7_16, r7_0_0, r7_0_1, r7_0_2, r7_0_3, r7_0_4, r7_0_5, r7_0_6, r7_0_7, r7_1_0, r7_4_0, r7_4_1, r7_4_2, r7_8_0, r7_8_1, r7_8_2, r7_8_3, r7_13_0, r7_13_1, r7_16_0, r7_16_1]
  obtain ⟨r, h1, p, h2, h3, h4, h5, h6⟩ := lp_n (b := fun s6 : Int32 × Int32 × Mm => bX5_giveEach_6 SX7 4 (nI b) (nI n) (nI c) (nI G) s6.1 s6.2.1 s6.2.2) (N := fu) (s0 := (nI 0, nI 0, m))
    (fun k s => s.1 = nI (cn lf k) ∧ s.2.1 = nI k ∧ cn lf k ≤ G ∧ TT m0 s.2.2 b n (fun g => if g < k ∧ 0 < lf g then mv g + c else mv g) (fun g => if g < k ∧ 0 < lf g then lf g - c else lf g))
    (fun r => ∃ p, r.1 = nI (cn lf p) ∧ p ≤ n ∧ (p = n ∨ cn lf p = G) ∧ cn lf p ≤ G ∧ TT m0 r.2 b n (fun g => if g < p ∧ 0 < lf g then mv g + c else mv g) (fun g => if g < p ∧ 0 < lf g then lf g - c else lf g))
    n ⟨rfl, rfl, Nat.zero_le _, h.congr (fun g hg => by simp) (fun g hg => by simp)⟩ (by unfold fu; omega)
    (by
      rintro k ⟨c1, c2, m1⟩ hk ⟨e1, e2, hG1, T⟩
      dsimp only at e1 e2 T ⊢
      subst e1 e2
      have hcn := cn_le lf k
      unfold bX5_giveEach_6 jX5_giveEach_56
      rw [if_neg (by rw [nn_le (by omega) (by omega)]; omega)]
      by_cases hg : cn lf k = G
      · rw [if_pos (by rw [nn_le (by omega) (by omega)]; omega)]
        exact Or.inr ⟨_, rfl, k, rfl, by omega, Or.inr hg, hG1, T⟩
      · rw [if_neg (by rw [nn_le (by omega) (by omega)]; omega)]
        refine Or.inl ?_
        have hlk := T.lf k hk
        have hmk := T.mv k hk
        simp only [Nat.lt_irrefl, false_and, if_false] at hlk hmk
        have hl1 := hl k hk
        simp (disch := omega) only [L0, L1, L2, L3, L4, L5, L6, L7, L8, L9, L10, L11, L12, L13, L14, L15, L16, L17, L18, L19, L20, L21, L22, L23, L24, L25, L26, L27, L28, L29, L30, L31, L32, L33, L34, L35, L36, L37, L38, L39, L40, L41, L42, L43, L44, L45, L46, L47, L48, L50, L57, L59, L60, L63, L64, L65, L70, L80, L90, L97, L100, L110, L120, L122, L128, L150, L200, L208, L216, L224, L232, L240, L248, L255, L256, L264, L272, L280, L288, L296, L297, L300, L336, L337, L500, L680, L700, L998, L999, L1000, L1024, L1999, L6403, L9999, L10000, L12345, L99999, L1000000, L214424576, L412560384, L509804544, L639025541, L642945024, L658545824, L1103515245, L2147483647, g7_0, g7_1, g7_3, g7_4, g7_8, g7_13, g7_16, r7_0_0, r7_0_1, r7_0_2, r7_0_3, r7_0_4, r7_0_5, r7_0_6, r7_0_7, r7_1_0, r7_4_0, r7_4_1, r7_4_2, r7_8_0, r7_8_1, r7_8_2, r7_8_3, r7_13_0, r7_13_1, r7_16_0, r7_16_1, nI_add, pk_mul, narA_0, bd1_e, bd2_e, bdR_l, bdR_r, ldA_n s7_6, stA_n s7_6, ldA_n s7_5, stA_n s7_5, hlk, nn_le, u1_rn, hmk]
        by_cases e : lf k = 0
        · rw [if_pos (by omega)]
          refine ⟨_, rfl, ?_, rfl, ?_, T.congr (fun g hg => ?_) (fun g hg => ?_)⟩
          · dsimp only; rw [cn_s, if_neg (by omega), Nat.add_zero]
          · rw [cn_s, if_neg (by omega), Nat.add_zero]; exact hG1
          · by_cases eg : g = k
            · subst eg; simp [e]
            · simp only [show (g < k + 1) = (g < k) from propext (by omega)]
          · by_cases eg : g = k
            · subst eg; simp [e]
            · simp only [show (g < k + 1) = (g < k) from propext (by omega)]
        · rw [if_neg (by omega)]
          have hck := hc k hk (by omega)
          rw [pk_sub hck]
          refine ⟨_, rfl, ?_, rfl, ?_, (T.st (g := k) (v := lf k - c) (w := mv k + c) hk).congr (fun g hg => ?_) (fun g hg => ?_)⟩
          · dsimp only; rw [cn_s, if_pos (by omega)]
          · rw [cn_s, if_pos (by omega)]; omega
          · by_cases eg : g = k
            · subst eg; rw [upN_s, if_pos (by omega)]
            · rw [upN_n eg]; simp only [show (g < k + 1) = (g < k) from propext (by omega)]
          · by_cases eg : g = k
            · subst eg; rw [upN_s, if_pos (by omega)]
            · rw [upN_n eg]; simp only [show (g < k + 1) = (g < k) from propext (by omega)])
    (by
      rintro ⟨c1, c2, m1⟩ ⟨e1, e2, hG1, T⟩
      dsimp only at e1 e2 T ⊢
      subst e1 e2
      unfold bX5_giveEach_6
      rw [if_pos (by rw [nn_le (by omega) (by omega)]; omega)]
      exact ⟨_, rfl, n, rfl, by omega, Or.inl rfl, hG1, T⟩)
  rw [h1, bd1_e]
  unfold jX5_giveEach_62
  rw [h2, pk_mul]
  exact ⟨_, p, rfl, h3, h4, h5, h6⟩
/-- the least of what they have, and no more than wanted -/
def mnL (w : Nat) (lf : Nat → Nat) : Nat → Nat
  | 0 => w
  | n + 1 => if 0 < lf n ∧ lf n < mnL w lf n then lf n else mnL w lf n
theorem mnL_s (w : Nat) (lf : Nat → Nat) (n : Nat) : mnL w lf (n + 1) = if 0 < lf n ∧ lf n < mnL w lf n then lf n else mnL w lf n := rfl
theorem mnL_le (w : Nat) (lf : Nat → Nat) (n : Nat) : mnL w lf n ≤ w := by
  induction n with
  | zero => exact Nat.le_refl _
  | succ n ih => unfold mnL; split <;> omega
theorem mnL_lf {w : Nat} {lf : Nat → Nat} {n g : Nat} (hg : g < n) (h : 0 < lf g) : mnL w lf n ≤ lf g := by
  induction n with
  | zero => omega
  | succ n ih =>
    unfold mnL
    by_cases e : g = n
    · subst e; split <;> omega
    · have := ih (by omega)
      split <;> omega
theorem mnL_ex (w : Nat) (lf : Nat → Nat) (n : Nat) : mnL w lf n = w ∨ ∃ g, g < n ∧ 0 < lf g ∧ mnL w lf n = lf g := by
  induction n with
  | zero => exact Or.inl rfl
  | succ n ih =>
    unfold mnL
    split
    · rename_i h; exact Or.inr ⟨n, by omega, h.1, rfl⟩
    · rcases ih with e | ⟨g, a, b, c⟩
      · exact Or.inl e
      · exact Or.inr ⟨g, by omega, b, c⟩
theorem e_turn28 {m0 m : Mm} {b n w t : Nat} {mv lf : Nat → Nat} (h : TT m0 m b n mv lf) (hn : n ≤ 8) (hl : ∀ g, g < n → lf g < 2147483648) (hw : w < 2147483648) : lp (fun s3 : Int32 × Int32 × Int32 => bX5_takeTurns_28 SX7 m 4 (nI b) (nI n) (nI w) (nI t) s3.1 s3.2.1 s3.2.2) fu (nI 0, nI w, nI 0) = some (nI (cn lf n), nI (mnL w lf n)) := by
  refine lp_f (b := fun s3 : Int32 × Int32 × Int32 => bX5_takeTurns_28 SX7 m 4 (nI b) (nI n) (nI w) (nI t) s3.1 s3.2.1 s3.2.2) (fun k => (nI (cn lf k), nI (mnL w lf k), nI k)) n (by unfold fu; omega) ?_ ?_
  · intro k hk
    have h1 := hl k hk
    have h2 := mnL_le w lf k
    have h3 := h.lf k hk
    dsimp only
    unfold bX5_takeTurns_28 jX5_takeTurns_61
    simp (disch := omega) only [L0, L1, L2, L3, L4, L5, L6, L7, L8, L9, L10, L11, L12, L13, L14, L15, L16, L17, L18, L19, L20, L21, L22, L23, L24, L25, L26, L27, L28, L29, L30, L31, L32, L33, L34, L35, L36, L37, L38, L39, L40, L41, L42, L43, L44, L45, L46, L47, L48, L50, L57, L59, L60, L63, L64, L65, L70, L80, L90, L97, L100, L110, L120, L122, L128, L150, L200, L208, L216, L224, L232, L240, L248, L255, L256, L264, L272, L280, L288, L296, L297, L300, L336, L337, L500, L680, L700, L998, L999, L1000, L1024, L1999, L6403, L9999, L10000, L12345, L99999, L1000000, L214424576, L412560384, L509804544, L639025541, L642945024, L658545824, L1103515245, L2147483647, g7_0, g7_1, g7_3, g7_4, g7_8, g7_13, g7_16, r7_0_0, r7_0_1, r7_0_2, r7_0_3, r7_0_4, r7_0_5, r7_0_6, r7_0_7, r7_1_0, r7_4_0, r7_4_1, r7_4_2, r7_8_0, r7_8_1, r7_8_2, r7_8_3, r7_13_0, r7_13_1, r7_16_0, r7_16_1, nI_add, pk_mul, narA_0, bd1_e, bd2_e, bdR_l, bdR_r, ldA_n s7_6, h3, nn_le, nn_lt, ite_lt, ite_le, ite_eq]
    rw [if_neg (by omega), cn_s, mnL_s]
    by_cases e : lf k = 0
    · rw [if_pos (show lf k ≤ 0 by omega), if_neg (show ¬ 0 < lf k by omega), if_neg (show ¬ (0 < lf k ∧ lf k < mnL w lf k) by omega)]; rfl
    · rw [if_neg (show ¬ lf k ≤ 0 by omega), if_pos (show 0 < lf k by omega)]
      by_cases e2 : lf k < mnL w lf k
      · rw [if_pos e2, if_pos (show 0 < lf k ∧ lf k < mnL w lf k from ⟨by omega, e2⟩)]
      · rw [if_neg e2, if_neg (show ¬ (0 < lf k ∧ lf k < mnL w lf k) by omega)]
  · dsimp only
    unfold bX5_takeTurns_28
    rw [if_pos (by rw [nn_le (by omega) (by omega)]; omega)]

theorem sm_s (n : Nat) (f : Nat → Nat) : sm (n + 1) f = sm n f + f n := rfl
theorem sm_add {n : Nat} {f g : Nat → Nat} : sm n (fun k => f k + g k) = sm n f + sm n g := by
  induction n with
  | zero => rfl
  | succ n ih => rw [sm_s, sm_s, sm_s, ih]; omega
theorem sm_mul {n c : Nat} {f : Nat → Nat} : sm n (fun k => f k * c) = sm n f * c := by
  induction n with
  | zero => rw [show sm 0 (fun k => f k * c) = 0 from rfl, show sm 0 f = 0 from rfl, Nat.zero_mul]
  | succ n ih => unfold sm; rw [ih, Nat.add_mul]
theorem sm_mono {n : Nat} {f g : Nat → Nat} (h : ∀ k, k < n → f k ≤ g k) : sm n f ≤ sm n g := by
  induction n with
  | zero => exact Nat.le_refl _
  | succ n ih =>
    unfold sm
    have a := ih (fun k hk => h k (by omega))
    have b := h n (by omega)
    omega
theorem sm_eq {n : Nat} {f g : Nat → Nat} (h : ∀ k, k < n → f k ≤ g k) (e : sm n f = sm n g) : ∀ k, k < n → f k = g k := by
  induction n with
  | zero => intro k hk; omega
  | succ n ih =>
    unfold sm at e
    have a := sm_mono (n := n) (fun k hk => h k (by omega))
    have b := h n (by omega)
    intro k hk
    by_cases ek : k = n
    · subst ek; omega
    · exact ih (fun k hk => h k (by omega)) (by omega) k (by omega)
theorem sm_cut {n p : Nat} (f : Nat → Nat) (h : p ≤ n) : sm n (fun g => if g < p then f g else 0) = sm p f := by
  induction n with
  | zero => have : p = 0 := by omega
            subst this; rfl
  | succ n ih =>
    by_cases e : p = n + 1
    · subst e; exact sm_congr (fun k hk => if_pos hk)
    · rw [sm_s, ih (by omega), if_neg (by omega)]
      rfl
/-- how cells are given round by round -/
def dstE (can : Nat → Nat) (R p g : Nat) : Nat := min (can g) R + (if g < p ∧ R < can g then 1 else 0)
def dst (n : Nat) (can mv : Nat → Nat) : Prop := ∃ R p, ∀ g, g < n → mv g = dstE can R p g
theorem dstE_mono {can : Nat → Nat} {R p R' p' : Nat} (h : R < R' ∨ (R = R' ∧ p ≤ p')) (g : Nat) : dstE can R p g ≤ dstE can R' p' g := by
  unfold dstE
  rcases h with h | ⟨rfl, h⟩
  · by_cases c1 : g < p ∧ R < can g
    · rw [if_pos c1]; omega
    · rw [if_neg c1]; omega
  · by_cases c1 : g < p ∧ R < can g
    · rw [if_pos c1, if_pos ⟨by omega, c1.2⟩]; omega
    · rw [if_neg c1]; omega
theorem dst_one {n : Nat} {can mv mv' : Nat → Nat} (h : dst n can mv) (h' : dst n can mv') (e : sm n mv = sm n mv') : ∀ g, g < n → mv g = mv' g := by
  obtain ⟨R, p, h⟩ := h
  obtain ⟨R', p', h'⟩ := h'
  have e1 : sm n mv = sm n (dstE can R p) := sm_congr h
  have e2 : sm n mv' = sm n (dstE can R' p') := sm_congr h'
  have key : ∀ g, g < n → dstE can R p g = dstE can R' p' g := by
    by_cases c : R < R' ∨ (R = R' ∧ p ≤ p')
    · exact sm_eq (fun g _ => dstE_mono c g) (by omega)
    · have := sm_eq (n := n) (fun g _ => dstE_mono (can := can) (R := R') (p := p') (R' := R) (p' := p) (by omega) g) (by omega)
      exact fun g hg => (this g hg).symm
  intro g hg
  rw [h g hg, h' g hg, key g hg]
theorem W_add {n R c : Nat} {can : Nat → Nat} (h : ∀ g, g < n → R < can g → R + c ≤ can g) : sm n (fun g => min (can g) (R + c)) = sm n (fun g => min (can g) R) + cn (fun g => can g - R) n * c := by
  unfold cn
  rw [← sm_mul, ← sm_add]
  apply sm_congr
  intro g hg
  have := h g hg
  dsimp only
  by_cases e : R < can g
  · rw [if_pos (by omega), Nat.one_mul]; have := this e; omega
  · rw [if_neg (by omega), Nat.zero_mul]; omega
theorem W_dst {n R p : Nat} {can : Nat → Nat} (h : p ≤ n) : sm n (dstE can R p) = sm n (fun g => min (can g) R) + cn (fun g => can g - R) p := by
  have e : sm n (dstE can R p) = sm n (fun g => min (can g) R + (if g < p then (if 0 < can g - R then 1 else 0) else 0)) := by
    apply sm_congr
    intro g hg
    unfold dstE
    by_cases c : g < p
    · rw [if_pos c]
      by_cases c2 : R < can g
      · rw [if_pos ⟨c, c2⟩, if_pos (by omega)]
      · rw [if_neg (by omega), if_neg (by omega)]
    · rw [if_neg (by omega), if_neg c]
  rw [e, sm_add, sm_cut _ h]
  rfl
theorem cn_dec {lf lf' : Nat → Nat} {n g : Nat} (h : ∀ k, k < n → lf' k ≤ lf k) (hg : g < n) (h0 : 0 < lf g) (h1 : lf' g = 0) : cn lf' n + 1 ≤ cn lf n := by
  induction n with
  | zero => omega
  | succ n ih =>
    rw [cn_s, cn_s]
    have hn := h n (by omega)
    by_cases e : g = n
    · subst e
      have : cn lf' g ≤ cn lf g := sm_mono (fun k hk => by
        have := h k (by omega)
        by_cases c : 0 < lf' k
        · rw [if_pos c, if_pos (by omega)]; exact Nat.le_refl _
        · rw [if_neg c]; omega)
      rw [if_neg (by omega), if_pos h0]; omega
    · have := ih (fun k hk => h k (by omega)) (by omega)
      by_cases c : 0 < lf' n
      · rw [if_pos c, if_pos (by omega)]; omega
      · rw [if_neg c]; omega
def Rr (n : Nat) (can : Nat → Nat) (T : Nat) (mv : Nat → Nat) : Prop := dst n can mv ∧ sm n mv = T
theorem e_takeTurns {m : Mm} {b n T : Nat} {can mv0 : Nat → Nat} (h : TT m m b n mv0 can) (hz : ∀ g, g < n → mv0 g = 0) (hn : n ≤ 8) (hb : b + n ≤ 80) (hl : ∀ g, g < n → can g < 2147483648) (hT : T ≤ sm n can) (hT2 : T < 2147483648) : ∃ m' mv lf, fX5_takeTurns SX7 m 4 (nI b) (nI n) (nI T) = some m' ∧ TT m m' b n mv lf ∧ Rr n can T mv := by
  unfold fX5_takeTurns jX5_takeTurns_123
  simp only [L0, L1, L2, L3, L4, L5, L6, L7, L8, L9, L10, L11, L12, L13, L14, L15, L16, L17, L18, L19, L20, L21, L22, L23, L24, L25, L26, L27, L28, L29, L30, L31, L32, L33, L34, L35, L36, L37, L38, L39, L40, L41, L42, L43, L44, L45, L46, L47, L48, L50, L57, L59, L60, L63, L64, L65, L70, L80, L90, L97, L100, L110, L120, L122, L128, L150, L200, L208, L216, L224, L232, L240, L248, L255, L256, L264, L272, L280, L288, L296, L297, L300, L336, L337, L500, L680, L700, L998, L999, L1000, L1024, L1999, L6403, L9999, L10000, L12345, L99999, L1000000, L214424576, L412560384, L509804544, L639025541, L642945024, L658545824, L1103515245, L2147483647, g7_0, g7_1, g7_3, g7_4, g7_8, g7_13, g7_16, r7_0_0, r7_0_1, r7_0_2, r7_0_3, r7_0_4, r7_0_5, r7_0_6, r7_0_7, r7_1_0, r7_4_0, r7_4_1, r7_4_2, r7_8_0, r7_8_1, r7_8_2, r7_8_3, r7_13_0, r7_13_1, r7_16_0, r7_16_1]
  have h00 : TT m m b n (fun g => min (can g) 0) (fun g => can g - 0) := h.congr (fun g hg => by rw [hz g hg]; omega) (fun g hg => rfl)
  have hcn := cn_le (fun g => can g - 0) n
  obtain ⟨r, h1, m', h2, mv, lf, h3, h4⟩ := lp_n (b := fun s10 : Int32 × Int32 × Mm => bX5_takeTurns_6 SX7 4 (nI b) (nI n) s10.1 s10.2.1 s10.2.2) (N := fu) (s0 := (nI T, nI 0, m))
    (fun t s => s.2.1 = nI t ∧ ((∃ R, s.1 = nI (T - sm n (fun g => min (can g) R)) ∧ sm n (fun g => min (can g) R) ≤ T ∧ TT m s.2.2 b n (fun g => min (can g) R) (fun g => can g - R) ∧ (cn (fun g => can g - R) n + t ≤ 8 ∨ (T - sm n (fun g => min (can g) R) < cn (fun g => can g - R) n ∧ t ≤ 8))) ∨ (s.1 = nI 0 ∧ t ≤ 9 ∧ ∃ mv lf, TT m s.2.2 b n mv lf ∧ Rr n can T mv)))
    (fun r => ∃ m', (r = .inl m' ∨ r = .inr m') ∧ ∃ mv lf, TT m m' b n mv lf ∧ Rr n can T mv)
    10 ⟨rfl, Or.inl ⟨0, by rw [show sm n (fun g => min (can g) 0) = 0 from (sm_congr (fun k _ => Nat.min_zero _)).trans sm_zero]; rfl, by rw [show sm n (fun g => min (can g) 0) = 0 from (sm_congr (fun k _ => Nat.min_zero _)).trans sm_zero]; omega, h00, Or.inl (by omega)⟩⟩ (by unfold fu; omega)
    (by
      rintro t ⟨w, t1, m1⟩ ht ⟨e1, hI⟩
      dsimp only at e1 hI ⊢
      subst e1
      unfold bX5_takeTurns_6 jX5_takeTurns_114
      simp only [L0, L1, L2, L3, L4, L5, L6, L7, L8, L9, L10, L11, L12, L13, L14, L15, L16, L17, L18, L19, L20, L21, L22, L23, L24, L25, L26, L27, L28, L29, L30, L31, L32, L33, L34, L35, L36, L37, L38, L39, L40, L41, L42, L43, L44, L45, L46, L47, L48, L50, L57, L59, L60, L63, L64, L65, L70, L80, L90, L97, L100, L110, L120, L122, L128, L150, L200, L208, L216, L224, L232, L240, L248, L255, L256, L264, L272, L280, L288, L296, L297, L300, L336, L337, L500, L680, L700, L998, L999, L1000, L1024, L1999, L6403, L9999, L10000, L12345, L99999, L1000000, L214424576, L412560384, L509804544, L639025541, L642945024, L658545824, L1103515245, L2147483647]
      rw [if_neg (by rw [nn_le (by omega) (by omega)]; omega)]
      rcases hI with ⟨R, e2, hW, hTT, hph⟩ | ⟨e2, ht9, mv, lf, hTT, hR⟩
      · have hcl : ∀ g, g < n → can g - R < 2147483648 := fun g hg => by have := hl g hg; omega
        subst e2
        by_cases hw : T - sm n (fun g => min (can g) R) = 0
        · rw [if_pos (by rw [nn_le (by omega) (by omega)]; omega)]
          refine Or.inr ⟨_, rfl, m1, Or.inr rfl, _, _, hTT, ⟨R, 0, fun g hg => ?_⟩, by omega⟩
          unfold dstE
          rw [if_neg (by omega), Nat.add_zero]
        · rw [if_neg (by rw [nn_le (by omega) (by omega)]; omega), e_turn28 hTT hn hcl (by omega), bd1_e]
          have hcn2 := cn_le (fun g => can g - R) n
          dsimp only
          by_cases hG : cn (fun g => can g - R) n = 0
          · rw [if_neg (by rw [nn_eq (by omega) (by omega)]; omega)]
            have hall : ∀ g, g < n → can g - R = 0 := fun g hg => cn_eq0 (lf := fun g => can g - R) (p := 0) (q := n) hG (Nat.zero_le _) hg
            have eW : sm n (fun g => min (can g) R) = sm n can := sm_congr (fun g hg => by have := hall g hg; omega)
            refine Or.inr ⟨_, rfl, m1, Or.inl rfl, _, _, hTT, ⟨R, 0, fun g hg => ?_⟩, by omega⟩
            unfold dstE
            rw [if_neg (by omega), Nat.add_zero]
          · rw [if_pos (by rw [nn_eq (by omega) (by omega)]; omega)]
            generalize hwe : T - sm n (fun g => min (can g) R) = w at *
            generalize hGe : cn (fun g => can g - R) n = G at *
            have hmw := mnL_le w (fun g => can g - R) n
            have hml : ∀ g, g < n → 0 < can g - R → mnL w (fun g => can g - R) n ≤ can g - R := fun g hg h0 => mnL_lf (lf := fun g => can g - R) hg h0
            have hm0 : 0 < mnL w (fun g => can g - R) n := by
              rcases mnL_ex w (fun g => can g - R) n with e | ⟨g, a, b1, c⟩
              · omega
              · rw [c]; exact b1
            generalize hme : mnL w (fun g => can g - R) n = mn at *
            have hdl : w / G ≤ w := Nat.div_le_self _ _
            have hdm := Nat.div_add_mod w G
            have hmd := Nat.mod_lt w (show 0 < G by omega)
            simp (disch := omega) only [dvI_n, bd1_e, nn_lt, ite_lt, ite_le, ite_eq]
            have hrb : (if w / G < mn then w / G else mn) < 2147483648 := by split <;> omega
            by_cases hr : (if w / G < mn then w / G else mn) = 0
            · -- the last turn
              have hwG : w / G = 0 := by
                split at hr <;> omega
              have hlt : w < G := by
                rw [hwG] at hdm; omega
              rw [if_neg (fun c => c (by rw [hr]))]
              obtain ⟨m2, p, g1, g2, g3, g4, g5⟩ := e_giveEach (c := 1) (G := w) hTT hn hb (fun g _ h0 => h0) hcl (by omega)
              rw [g1, bd2_e]
              have hpw : cn (fun g => can g - R) p = w := by
                rcases g3 with e | e
                · rw [e, hGe] at g4; omega
                · exact e
              refine Or.inl ⟨_, rfl, by rw [nI_add], Or.inr ⟨?_, by omega, _, _, g5, ⟨R, p, fun g hg => ?_⟩, ?_⟩⟩
              · dsimp only
                rw [hpw, pk_sub (by omega), Nat.mul_one, Nat.sub_self]
              · unfold dstE
                dsimp only
                by_cases c : g < p ∧ R < can g
                · rw [if_pos c, if_pos ⟨c.1, by omega⟩]
                · rw [if_neg c, if_neg (by omega)]; rfl
              · have := W_dst (R := R) (can := can) g2
                rw [hpw] at this
                rw [show sm n (fun g => if g < p ∧ 0 < can g - R then min (can g) R + 1 else min (can g) R) = sm n (dstE can R p) from sm_congr (fun g hg => by
                  unfold dstE
                  by_cases c : g < p ∧ R < can g
                  · rw [if_pos c, if_pos ⟨c.1, by omega⟩]
                  · rw [if_neg c, if_neg (by omega)]; rfl)]
                omega
            · rw [if_pos (fun c => hr ((nn_eq hrb (by decide)).mp c))]
              generalize hce : (if w / G < mn then w / G else mn) = c at *
              have hcm : c ≤ mn := by rw [← hce]; split <;> omega
              have hcd : c ≤ w / G := by rw [← hce]; split <;> omega
              have hGc : G * c ≤ w := by
                have := Nat.mul_le_mul_left G hcd
                omega
              obtain ⟨m2, p, g1, g2, g3, g4, g5⟩ := e_giveEach (c := c) (G := G) hTT hn hb (fun g hg h0 => by have := hml g hg h0; omega) hcl (by omega)
              rw [g1, bd2_e]
              have hpG : cn (fun g => can g - R) p = G := by
                rcases g3 with e | e
                · rw [e, hGe]
                · exact e
              have hWc := W_add (n := n) (R := R) (c := c) (can := can) (fun g hg h0 => by have := hml g hg (by omega); omega)
              rw [hGe] at hWc
              have hp : ∀ g, g < n → 0 < can g - R → g < p := by
                intro g hg h0
                by_cases c : g < p
                · exact c
                · have := cn_eq0 (lf := fun g => can g - R) (p := p) (q := n) (g := g) (by rw [hGe, hpG]) (by omega) hg
                  omega
              refine Or.inl ⟨_, rfl, by rw [nI_add], Or.inl ⟨R + c, ?_, by omega, g5.congr (fun g hg => ?_) (fun g hg => ?_), ?_⟩⟩
              · dsimp only
                rw [hpG, pk_sub hGc, hWc]
                congr 1
                omega
              · by_cases c1 : 0 < can g - R
                · rw [if_pos ⟨hp g hg c1, c1⟩]
                  have := hml g hg c1
                  omega
                · rw [if_neg (by omega)]; omega
              · by_cases c1 : 0 < can g - R
                · rw [if_pos ⟨hp g hg c1, c1⟩]; omega
                · rw [if_neg (by omega)]; omega
              · rw [hWc]
                have hGw : G ≤ w := by
                  have := Nat.mul_le_mul_left G (show 1 ≤ w / G by omega)
                  omega
                have ht7 : t ≤ 7 := by omega
                by_cases hcase : w / G < mn
                · have hcq : c = w / G := by rw [← hce, if_pos hcase]
                  right
                  refine ⟨?_, by omega⟩
                  have e1 : cn (fun g => can g - (R + c)) n = G := by
                    rw [← hGe]
                    apply sm_congr
                    intro g hg
                    dsimp only
                    by_cases c1 : 0 < can g - R
                    · have := hml g hg c1
                      rw [if_pos c1, if_pos (by omega)]
                    · rw [if_neg c1, if_neg (by omega)]
                  rw [e1]
                  have : G * c + w % G = w := by rw [hcq]; exact hdm
                  omega
                · have hcq : c = mn := by rw [← hce, if_neg hcase]
                  rcases (show mn = w ∨ ∃ g, g < n ∧ 0 < can g - R ∧ mn = can g - R from hme ▸ mnL_ex w (fun g => can g - R) n) with e | ⟨g, a1, a2, a3⟩
                  · -- one giver gives all
                    have hG1 : G * c ≤ c := by omega
                    have hG2 : G = 1 := by
                      by_cases q : G = 1
                      · exact q
                      · have := Nat.mul_le_mul_right c (show 2 ≤ G by omega)
                        omega
                    have hWT : T - (sm n (fun g => min (can g) R) + G * c) = 0 := by
                      rw [hG2]; omega
                    rw [hWT]
                    by_cases q : cn (fun g => can g - (R + c)) n = 0
                    · left; omega
                    · right; omega
                  · left
                    have := cn_dec (lf := fun g => can g - R) (lf' := fun g => can g - (R + c)) (n := n) (g := g) (fun k _ => by omega) a1 a2 (by omega)
                    rcases hph with q | q
                    · omega
                    · omega
      · subst e2
        rw [if_pos (by rw [nn_le (by omega) (by omega)]; omega)]
        exact Or.inr ⟨_, rfl, m1, Or.inr rfl, mv, lf, hTT, hR⟩)
    (by
      rintro ⟨w, t1, m1⟩ ⟨e1, hI⟩
      dsimp only at e1 hI ⊢
      exfalso
      rcases hI with ⟨R, e2, hW, hTT, hph⟩ | ⟨e2, ht9, mv, lf, hTT, hR⟩ <;> omega)
  rw [h1]
  rcases h2 with rfl | rfl
  · exact ⟨m', mv, lf, rfl, h3, h4⟩
  · exact ⟨m', mv, lf, rfl, h3, h4⟩
