/-! ===== the class's ticker: carrying ===== -/
theorem hpF_le (path : Nat → Nat) (l n : Nat) : hpF path l n ≤ n := by
  induction n with
  | zero => exact Nat.le_refl _
  | succ n ih => unfold hpF; split <;> (try split) <;> omega
theorem hpF_at {path : Nat → Nat} {l n : Nat} (h : hpF path l n ≠ 0) : path (hpF path l n - 1) = l := by
  induction n with
  | zero => exact absurd rfl h
  | succ n ih =>
    unfold hpF at h ⊢
    split
    · rename_i h1; exact ih h1
    · rename_i h1
      rw [if_neg h1] at h
      split
      · rename_i h2; exact h2
      · rename_i h2; rw [if_neg h2] at h; exact absurd rfl h
theorem Pl.hp_le (π : Pl) (f l : Nat) : π.hp f l ≤ π.hops f := hpF_le _ _ _
theorem Pl.hp_at {π : Pl} {f l : Nat} (h : π.hp f l ≠ 0) : π.path f (π.hp f l - 1) = l := hpF_at h
theorem Pl.pv_lt {π : Pl} (O : π.ok) {l f : Nat} (hf : f < π.nf) : π.pv l f < π.nl + 2 := by
  unfold Pl.pv
  split
  · omega
  · split
    · omega
    · have h1 := π.hp_le f l
      have := O.path f (π.hp f l - 2) hf (by omega)
      omega
theorem Pl.nx_lt {π : Pl} (O : π.ok) {l f : Nat} (hf : f < π.nf) : π.nx l f < π.nl + 1 := by
  unfold Pl.nx
  split
  · omega
  · split
    · have := O.path f (π.hp f l) hf (by omega)
      omega
    · omega
def rdyV (v f : Nat) (X : Nat → Nat) : Nat := if v = 0 then 0 else if v = 1 then X (272 + f) / 16 else X (120 + (v - 2) * 8 + f)
def canA (π : Pl) (X : Nat → Nat) (l f : Nat) : Nat := if X (40 + l) / 2 ^ π.delay l % 2 = 0 then rdyV (π.pv l f) f X else 0
theorem e_ready {m : Mm} {x v f : Nat} {X : Nat → Nat} (C : CF m x X) (hx : x = 19 ∨ x = 20) (hf : f < 8) (hv : v < 12) (hc : X (272 + f) < 2147483648) : fX5_ready SX7 m x (pvI v) (nI f) = some (nI (rdyV v f X)) := by
  unfold fX5_ready jX5_ready_35 rdyV
  match v with
  | 0 => rfl
  | 1 =>
    simp (disch := omega) only [L0, L1, L2, L3, L4, L5, L6, L7, L8, L9, L10, L11, L12, L13, L14, L15, L16, L17, L18, L19, L20, L21, L22, L23, L24, L25, L26, L27, L28, L29, L30, L31, L32, L33, L34, L35, L36, L37, L38, L39, L40, L41, L42, L43, L44, L45, L46, L47, L48, L50, L57, L59, L60, L63, L64, L65, L70, L80, L90, L97, L100, L110, L120, L122, L128, L150, L200, L208, L216, L224, L232, L240, L248, L255, L256, L264, L272, L280, L288, L296, L297, L300, L336, L337, L500, L680, L700, L998, L999, L1000, L1024, L1999, L6403, L9999, L10000, L12345, L99999, L1000000, L214424576, L412560384, L509804544, L639025541, L642945024, L658545824, L1103515245, L2147483647, nI_add, pk_mul, narA_0, bd1_e, bd2_e, bdR_l, bdR_r, ldA_n (s7_x hx), C.row, dvI_n]
    rfl
  | v + 2 =>
    simp (disch := omega) only [L0, L1, L2, L3, L4, L5, L6, L7, L8, L9, L10, L11, L12, L13, L14, L15, L16, L17, L18, L19, L20, L21, L22, L23, L24, L25, L26, L27, L28, L29, L30, L31, L32, L33, L34, L35, L36, L37, L38, L39, L40, L41, L42, L43, L44, L45, L46, L47, L48, L50, L57, L59, L60, L63, L64, L65, L70, L80, L90, L97, L100, L110, L120, L122, L128, L150, L200, L208, L216, L224, L232, L240, L248, L255, L256, L264, L272, L280, L288, L296, L297, L300, L336, L337, L500, L680, L700, L998, L999, L1000, L1024, L1999, L6403, L9999, L10000, L12345, L99999, L1000000, L214424576, L412560384, L509804544, L639025541, L642945024, L658545824, L1103515245, L2147483647, pvI, nI_add, pk_mul, narA_0, bd1_e, bd2_e, bdR_l, bdR_r, ldA_n (s7_x hx), C.row, nn_lt]
    rw [if_neg (by omega), if_neg (by omega), if_neg (by omega)]
    rfl
def tkA (v f n : Nat) (X : Nat → Nat) : Nat → Nat := if v ≤ 1 then upN (upN (upN X (272 + f) (X (272 + f) - n * 16)) (232 + f) (X (232 + f) + n)) (380 + f) n else upN (upN X (120 + (v - 2) * 8 + f) (X (120 + (v - 2) * 8 + f) - n)) (30 + (v - 2)) (X (30 + (v - 2)) - n)
theorem e_takeOff {m : Mm} {x v f n : Nat} {X : Nat → Nat} (C : CF m x X) (hx : x = 19 ∨ x = 20) (hf : f < 8) (hv : v < 12) (h0 : 1 ≤ v) (h1 : v = 1 → n * 16 ≤ X (272 + f)) (h2 : 2 ≤ v → n ≤ X (120 + (v - 2) * 8 + f) ∧ n ≤ X (30 + (v - 2))) : ∃ m', fX5_takeOff SX7 m 4 x (pvI v) (nI f) (nI n) = some m' ∧ CF m' x (tkA v f n X) ∧ Fr (fun o => o = x ∨ o = 7) m m' := by
  unfold fX5_takeOff jX5_takeOff_69 tkA
  match v with
  | 0 => omega
  | 1 =>
    have h3 := h1 rfl
    rw [if_pos (show pvI 1 < 0 by decide), if_pos (Nat.le_refl 1)]
    simp (disch := omega) only [L0, L1, L2, L3, L4, L5, L6, L7, L8, L9, L10, L11, L12, L13, L14, L15, L16, L17, L18, L19, L20, L21, L22, L23, L24, L25, L26, L27, L28, L29, L30, L31, L32, L33, L34, L35, L36, L37, L38, L39, L40, L41, L42, L43, L44, L45, L46, L47, L48, L50, L57, L59, L60, L63, L64, L65, L70, L80, L90, L97, L100, L110, L120, L122, L128, L150, L200, L208, L216, L224, L232, L240, L248, L255, L256, L264, L272, L280, L288, L296, L297, L300, L336, L337, L500, L680, L700, L998, L999, L1000, L1024, L1999, L6403, L9999, L10000, L12345, L99999, L1000000, L214424576, L412560384, L509804544, L639025541, L642945024, L658545824, L1103515245, L2147483647, g7_0, g7_1, g7_3, g7_4, g7_8, g7_13, g7_16, r7_0_0, r7_0_1, r7_0_2, r7_0_3, r7_0_4, r7_0_5, r7_0_6, r7_0_7, r7_1_0, r7_4_0, r7_4_1, r7_4_2, r7_8_0, r7_8_1, r7_8_2, r7_8_3, r7_13_0, r7_13_1, r7_16_0, r7_16_1, nI_add, pk_mul, narA_0, bd1_e, bd2_e, bdR_l, bdR_r, ldA_n (s7_x hx), stA_n (s7_x hx), C.row, pk_sub, u1_rn, stA_n s7_7]
    refine ⟨_, rfl, ((C.st _ _ hx (by omega)).st _ _ hx (by omega)).sts _ _ hx hf, by (repeat (refine Fr.st ?_ (by first | exact rfl | omega))); exact Fr.rfl⟩
  | v + 2 =>
    have h3 := h2 (by omega)
    simp only [Nat.add_sub_cancel] at h3
    simp (disch := omega) only [L0, L1, L2, L3, L4, L5, L6, L7, L8, L9, L10, L11, L12, L13, L14, L15, L16, L17, L18, L19, L20, L21, L22, L23, L24, L25, L26, L27, L28, L29, L30, L31, L32, L33, L34, L35, L36, L37, L38, L39, L40, L41, L42, L43, L44, L45, L46, L47, L48, L50, L57, L59, L60, L63, L64, L65, L70, L80, L90, L97, L100, L110, L120, L122, L128, L150, L200, L208, L216, L224, L232, L240, L248, L255, L256, L264, L272, L280, L288, L296, L297, L300, L336, L337, L500, L680, L700, L998, L999, L1000, L1024, L1999, L6403, L9999, L10000, L12345, L99999, L1000000, L214424576, L412560384, L509804544, L639025541, L642945024, L658545824, L1103515245, L2147483647, g7_0, g7_1, g7_3, g7_4, g7_8, g7_13, g7_16, r7_0_0, r7_0_1, r7_0_2, r7_0_3, r7_0_4, r7_0_5, r7_0_6, r7_0_7, r7_1_0, r7_4_0, r7_4_1, r7_4_2, r7_8_0, r7_8_1, r7_8_2, r7_8_3, r7_13_0, r7_13_1, r7_16_0, r7_16_1, pvI, nI_add, pk_mul, narA_0, bd1_e, bd2_e, bdR_l, bdR_r, ldA_n (s7_x hx), stA_n (s7_x hx), C.row, pk_sub, u1_rn, nn_lt]
    rw [if_neg (by omega), if_neg (by omega)]
    refine ⟨_, rfl, (C.st _ _ hx (by omega)).st _ _ hx (by omega), by (repeat (refine Fr.st ?_ (by first | exact rfl | omega))); exact Fr.rfl⟩
def tkF (π : Pl) (l : Nat) (mv : Nat → Nat) (k : Nat) (X : Nat → Nat) : Nat → Nat := it k (fun f Y => if 0 < mv f then tkA (π.pv l f) f (mv f) Y else Y) X
theorem tkA_o {v f n i : Nat} {X : Nat → Nat} (h : i ≠ 272 + f ∧ i ≠ 232 + f ∧ i ≠ 380 + f ∧ i ≠ 120 + (v - 2) * 8 + f ∧ i ≠ 30 + (v - 2)) : tkA v f n X i = X i := by
  unfold tkA
  split
  · rw [upN_n (by omega), upN_n (by omega), upN_n (by omega)]
  · rw [upN_n (by omega), upN_n (by omega)]
theorem tkF_s (π : Pl) (l : Nat) (mv : Nat → Nat) (k : Nat) (X : Nat → Nat) : tkF π l mv (k + 1) X = if 0 < mv k then tkA (π.pv l k) k (mv k) (tkF π l mv k X) else tkF π l mv k X := rfl
theorem tkF_cell {π : Pl} (O : π.ok) {l k j f : Nat} {mv X : Nat → Nat} (hk : k ≤ π.nf) (hf : k ≤ f) (hf2 : f < 8) (hj : j < 10) : tkF π l mv k X (120 + j * 8 + f) = X (120 + j * 8 + f) ∧ tkF π l mv k X (272 + f) = X (272 + f) := by
  have hnl := O.nl
  induction k with
  | zero => exact ⟨rfl, rfl⟩
  | succ k ih =>
    have hv := Pl.pv_lt O (l := l) (f := k) (by omega)
    rw [tkF_s]
    split
    · rw [tkA_o (by omega), tkA_o (by omega)]
      exact ih (by omega) (by omega)
    · exact ih (by omega) (by omega)
theorem tkF_o {π : Pl} (O : π.ok) {l k i : Nat} {mv X : Nat → Nat} (hk : k ≤ π.nf) (h : i < 30 ∨ (40 ≤ i ∧ i < 120) ∨ (200 ≤ i ∧ i < 232) ∨ (240 ≤ i ∧ i < 272) ∨ (280 ≤ i ∧ i < 380)) : tkF π l mv k X i = X i := by
  have hnl := O.nl
  have hnf := O.nf
  induction k with
  | zero => rfl
  | succ k ih =>
    have hv := Pl.pv_lt O (l := l) (f := k) (by omega)
    rw [tkF_s]
    split
    · rw [tkA_o (by omega)]
      exact ih (by omega)
    · exact ih (by omega)
def fillOK (X : Nat → Nat) : Prop := ∀ k, k < 10 → X (30 + k) = sm 8 (fun g => X (120 + k * 8 + g))
theorem fillOK.tk {X : Nat → Nat} (h : fillOK X) {v f n : Nat} (hf : f < 8) (hv : v < 12) (h2 : 2 ≤ v → n ≤ X (120 + (v - 2) * 8 + f)) : fillOK (tkA v f n X) := by
  intro k hk
  unfold tkA
  split
  · rw [upN_n (by omega), upN_n (by omega), upN_n (by omega), h k hk]
    apply sm_congr
    intro g hg
    rw [upN_n (by omega), upN_n (by omega), upN_n (by omega)]
  · rename_i hv1
    by_cases e : k = v - 2
    · subst e
      rw [upN_s, h _ hk]
      have h3 := h2 (by omega)
      have := sm_upd (n := 8) (f := fun g => X (120 + (v - 2) * 8 + g)) (k := f) (v := X (120 + (v - 2) * 8 + f) - n) hf
      have e2 : sm 8 (fun g => upN (upN X (120 + (v - 2) * 8 + f) (X (120 + (v - 2) * 8 + f) - n)) (30 + (v - 2)) (sm 8 (fun g => X (120 + (v - 2) * 8 + g)) - n) (120 + (v - 2) * 8 + g)) = sm 8 (fun j => if j = f then X (120 + (v - 2) * 8 + f) - n else X (120 + (v - 2) * 8 + j)) := by
        apply sm_congr
        intro g hg
        rw [upN_n (by omega)]
        by_cases eg : g = f
        · subst eg; rw [upN_s, if_pos rfl]
        · rw [upN_n (by omega), if_neg eg]
      rw [e2]
      omega
    · rw [upN_n (by omega), upN_n (by omega), h k hk]
      apply sm_congr
      intro g hg
      rw [upN_n (by omega), upN_n (by omega)]
theorem fillOK.le {X : Nat → Nat} (h : fillOK X) {k g : Nat} (hk : k < 10) (hg : g < 8) : X (120 + k * 8 + g) ≤ X (30 + k) := by
  rw [h k hk]
  exact sm_le (f := fun g => X (120 + k * 8 + g)) hg
theorem dst_le {n : Nat} {can mv : Nat → Nat} (h : dst n can mv) {g : Nat} (hg : g < n) : mv g ≤ can g := by
  obtain ⟨R, p, h⟩ := h
  rw [h g hg]
  unfold dstE
  split <;> omega
theorem rdy0 {f : Nat} {X : Nat → Nat} : rdyV 0 f X = 0 := rfl
/-- moved cells of a link, and how many in all -/
def smv (l n : Nat) (mv : Nat → Nat) (T : Nat) (X : Nat → Nat) : Nat → Nat := fun i => if 300 + l * 8 ≤ i ∧ i < 300 + l * 8 + n then mv (i - (300 + l * 8)) else if i = 90 + l then T else X i
theorem smv_o {l n T i : Nat} {mv X : Nat → Nat} (h : i ≠ 90 + l) (h2 : i < 300 + l * 8 ∨ 300 + l * 8 + n ≤ i) : smv l n mv T X i = X i := by
  unfold smv
  rw [if_neg (by omega), if_neg h]
def carA (π : Pl) (l : Nat) (mv : Nat → Nat) (X : Nat → Nat) : Nat → Nat := tkF π l mv π.nf (smv l π.nf mv (sm π.nf mv) X)
theorem fillOK.tkF {π : Pl} (O : π.ok) {l k : Nat} {mv X : Nat → Nat} (h : fillOK X) (hk : k ≤ π.nf) (hm : ∀ f, f < π.nf → 2 ≤ π.pv l f → mv f ≤ X (120 + (π.pv l f - 2) * 8 + f)) : fillOK (tkF π l mv k X) := by
  have hnl := O.nl
  have hnf := O.nf
  induction k with
  | zero => exact h
  | succ k ih =>
    have hv := Pl.pv_lt O (l := l) (f := k) (by omega)
    rw [tkF_s]
    split
    · refine (ih (by omega)).tk (by omega) (by omega) (fun h2 => ?_)
      rw [(tkF_cell O (by omega) (Nat.le_refl k) (by omega) (by omega)).1]
      exact hm k (by omega) h2
    · exact ih (by omega)
theorem e_carry {m : Mm} {x p : Nat} {π : Pl} {X : Nat → Nat} {l : Nat} (C : CF m x X) (P : PF m p π) (O : π.ok) (hx : x = 19 ∨ x = 20) (hp : p = 21 ∨ p = 31) (hl : l < π.nl) (hb : X (40 + l) < 32) (hcr : ∀ f, f < 8 → X (272 + f) ≤ 1024) (hq : ∀ k f, k < 10 → f < 8 → X (120 + k * 8 + f) ≤ 1999) (hF : fillOK X) : ∃ m' mv, fX5_carry SX7 m 4 p x (nI l) = some m' ∧ Rr π.nf (canA π X l) (min (sm π.nf (canA π X l)) (π.cap l)) mv ∧ CF m' x (carA π l mv X) ∧ Fr (fun o => o = x ∨ o = 5 ∨ o = 6 ∨ o = 7) m m' := by
  have hnl := O.nl
  have hnf := O.nf
  have hcap := O.cap l hl
  have hpd : X (40 + l) / 2 ^ π.delay l % 2 < 2 := Nat.mod_lt _ (by decide)
  have hcan : ∀ f, f < π.nf → canA π X l f ≤ 1999 := by
    intro f hf
    have hv := Pl.pv_lt O (l := l) hf
    unfold canA rdyV
    split
    · split
      · omega
      · split
        · have := hcr f (by omega); omega
        · exact hq _ _ (by omega) (by omega)
    · omega
  have hsm : ∀ n, n ≤ π.nf → sm n (canA π X l) ≤ n * 1999 := by
    intro n
    induction n with
    | zero => intro _; exact Nat.le_refl _
    | succ n ih => intro h; rw [sm_s]; have := ih (by omega); have := hcan n (by omega); omega
  have hsm8 := hsm π.nf (Nat.le_refl _)
  unfold fX5_carry
  simp (disch := omega) only [L0, L1, L2, L3, L4, L5, L6, L7, L8, L9, L10, L11, L12, L13, L14, L15, L16, L17, L18, L19, L20, L21, L22, L23, L24, L25, L26, L27, L28, L29, L30, L31, L32, L33, L34, L35, L36, L37, L38, L39, L40, L41, L42, L43, L44, L45, L46, L47, L48, L50, L57, L59, L60, L63, L64, L65, L70, L80, L90, L97, L100, L110, L120, L122, L128, L150, L200, L208, L216, L224, L232, L240, L248, L255, L256, L264, L272, L280, L288, L296, L297, L300, L336, L337, L500, L680, L700, L998, L999, L1000, L1024, L1999, L6403, L9999, L10000, L12345, L99999, L1000000, L214424576, L412560384, L509804544, L639025541, L642945024, L658545824, L1103515245, L2147483647, g7_0, g7_1, g7_3, g7_4, g7_8, g7_13, g7_16, r7_0_0, r7_0_1, r7_0_2, r7_0_3, r7_0_4, r7_0_5, r7_0_6, r7_0_7, r7_1_0, r7_4_0, r7_4_1, r7_4_2, r7_8_0, r7_8_1, r7_8_2, r7_8_3, r7_13_0, r7_13_1, r7_16_0, r7_16_1, g7_p hp, r7_p_0 hp, r7_p_1 hp, r7_p_2 hp, r7_p_3 hp, r7_p_4 hp, r7_p_5 hp, r7_p_6 hp, r7_p_7 hp, r7_p_8 hp, e_isPaused C P O hx hp hl hb, nI_add, pk_mul, narA_0, bd1_e, bd2_e, bdR_l, bdR_r]
  -- what each flow has
  obtain ⟨r, h1, h2, h3, h4, h5⟩ := lp_n (b := fun s7 : Int32 × Int32 × Mm => bX5_carry_20 SX7 4 p x (nI l) (nI (l * 8)) (nI (X (40 + l) / 2 ^ π.delay l % 2)) s7.1 s7.2.1 s7.2.2) (N := fu) (s0 := (nI 0, nI 0, m))
    (fun k s => s.1 = nI (sm k (canA π X l)) ∧ s.2.1 = nI k ∧ CF s.2.2 x (smv l k (fun _ => 0) (X (90 + l)) X) ∧ (∀ g, g < k → s.2.2.1 6 g = nI (canA π X l g)) ∧ Fr (fun o => o = 5 ∨ o = 6) m s.2.2)
    (fun r => r.1 = nI (sm π.nf (canA π X l)) ∧ CF r.2 x (smv l π.nf (fun _ => 0) (X (90 + l)) X) ∧ (∀ g, g < π.nf → r.2.1 6 g = nI (canA π X l g)) ∧ Fr (fun o => o = 5 ∨ o = 6) m r.2)
    π.nf ⟨rfl, rfl, C.congr (fun i _ => by unfold smv; rw [if_neg (by omega)]; split <;> simp_all), fun g hg => by omega, Fr.rfl⟩ (by unfold fu; omega)
    (by
      rintro k ⟨a, c, m1⟩ hk ⟨e1, e2, C1, hL, F1⟩
      dsimp only at e1 e2 C1 hL F1 ⊢
      subst e1 e2
      have P1 : PF m1 p π := P.fr F1 (fun o ho => by omega)
      have hv := Pl.pv_lt O (l := l) (f := k) hk
      refine Or.inl ?_
      have hsmk := hsm k (by omega)
      have hcank := hcan k hk
      have F2 : Fr (fun o => o = 5 ∨ o = 6) m (u1 m1 5 (l * 8 + k) (nI 0)) := F1.st (Or.inl rfl)
      have P2 : PF (u1 m1 5 (l * 8 + k) (nI 0)) p π := P.fr F2 (fun o ho => by omega)
      have C2 := (C1.stm (l * 8 + k) 0 hx (by omega)).congr (Y := smv l (k + 1) (fun _ => 0) (X (90 + l)) X) (fun i hi => by
        by_cases c0 : i = 300 + (l * 8 + k)
        · rw [c0, upN_s]; unfold smv; rw [if_pos (by omega)]
        · rw [upN_n c0]
          unfold smv
          by_cases c : 300 + l * 8 ≤ i ∧ i < 300 + l * 8 + k
          · rw [if_pos c, if_pos (by omega)]
          · rw [if_neg c, if_neg (show ¬ (300 + l * 8 ≤ i ∧ i < 300 + l * 8 + (k + 1)) by omega)])
      have er : rdyV (π.pv l k) k (smv l (k + 1) (fun _ => 0) (X (90 + l)) X) = rdyV (π.pv l k) k X := by
        unfold rdyV
        split
        · rfl
        · split
          · rw [smv_o (by omega) (by omega)]
          · rw [smv_o (by omega) (by omega)]
      have hcr1 := hcr k (by omega)
      have hrd := e_ready (v := π.pv l k) (f := k) C2 hx (by omega) (by omega) (by rw [smv_o (by omega) (by omega)]; omega)
      rw [er] at hrd
      have key : ∃ m3, bX5_carry_20 SX7 4 p x (nI l) (nI (l * 8)) (nI (X (40 + l) / 2 ^ π.delay l % 2)) (nI (sm k (canA π X l))) (nI k) m1 = some (.inl (nI (sm k (canA π X l) + canA π X l k), nI (k + 1), m3)) ∧ m3 = u1 (u1 m1 5 (l * 8 + k) (nI 0)) 6 k (nI (canA π X l k)) := by
        unfold bX5_carry_20 jX5_carry_71
        simp (disch := omega) only [L0, L1, L2, L3, L4, L5, L6, L7, L8, L9, L10, L11, L12, L13, L14, L15, L16, L17, L18, L19, L20, L21, L22, L23, L24, L25, L26, L27, L28, L29, L30, L31, L32, L33, L34, L35, L36, L37, L38, L39, L40, L41, L42, L43, L44, L45, L46, L47, L48, L50, L57, L59, L60, L63, L64, L65, L70, L80, L90, L97, L100, L110, L120, L122, L128, L150, L200, L208, L216, L224, L232, L240, L248, L255, L256, L264, L272, L280, L288, L296, L297, L300, L336, L337, L500, L680, L700, L998, L999, L1000, L1024, L1999, L6403, L9999, L10000, L12345, L99999, L1000000, L214424576, L412560384, L509804544, L639025541, L642945024, L658545824, L1103515245, L2147483647, g7_0, g7_1, g7_3, g7_4, g7_8, g7_13, g7_16, r7_0_0, r7_0_1, r7_0_2, r7_0_3, r7_0_4, r7_0_5, r7_0_6, r7_0_7, r7_1_0, r7_4_0, r7_4_1, r7_4_2, r7_8_0, r7_8_1, r7_8_2, r7_8_3, r7_13_0, r7_13_1, r7_16_0, r7_16_1, g7_p hp, r7_p_0 hp, r7_p_1 hp, r7_p_2 hp, r7_p_3 hp, r7_p_4 hp, r7_p_5 hp, r7_p_6 hp, r7_p_7 hp, r7_p_8 hp, nI_add, pk_mul, narA_0, bd1_e, bd2_e, bdR_l, bdR_r, P1.nf, nn_le, stA_n s7_5, nn_eq, ldA_n (s7_p7 hp), P2.pv l k hl hk, hrd, stA_n s7_6, ldA_n s7_6, u1_rs]
        rw [if_neg (by omega)]
        unfold canA
        by_cases e : X (40 + l) / 2 ^ π.delay l % 2 = 0
        · rw [if_pos e, if_pos e]; exact ⟨_, rfl, rfl⟩
        · rw [if_neg e, if_neg e]; exact ⟨_, rfl, rfl⟩
      obtain ⟨m3, hk1, hk2⟩ := key
      refine ⟨_, hk1, rfl, rfl, ?_, ?_, ?_⟩
      · rw [hk2]
        exact C2.fr (P := fun o => o = 6) (Fr.u1 rfl) (fun o ho => by omega)
      · rw [hk2]
        intro g hg
        dsimp only
        by_cases e : g = k
        · subst e; rw [u1_rs]
        · rw [u1_rn (Or.inl e), u1_rn (Or.inr (by omega)), hL g (by omega)]
      · rw [hk2]
        exact F2.st (Or.inr rfl))
    (by
      rintro ⟨a, c, m1⟩ ⟨e1, e2, C1, hL, F1⟩
      dsimp only at e1 e2 C1 hL F1 ⊢
      subst e1 e2
      have P1 : PF m1 p π := P.fr F1 (fun o ho => by omega)
      unfold bX5_carry_20
      rw [if_pos (by rw [P1.nf, nn_le (by omega) (by omega)]; omega)]
      exact ⟨_, rfl, rfl, C1, hL, F1⟩)
  rw [h1, bd1_e, h2]
  have P1 : PF r.2 p π := P.fr h5 (fun o ho => by omega)
  have emin : (if π.cap l < sm π.nf (canA π X l) then π.cap l else sm π.nf (canA π X l)) = min (sm π.nf (canA π X l)) (π.cap l) := by split <;> omega
  simp (disch := omega) only [ldA_n (s7_p2 hp), P1.cap l hl, bd1_e, nn_lt, ite_lt, ite_le, ite_eq, stA_n (s7_x hx), narA_0, emin, nn_eq]
  generalize hT : min (sm π.nf (canA π X l)) (π.cap l) = T at *
  have hT1 : T ≤ 64 := by omega
  have C2 := (h3.st (90 + l) T hx (by omega)).congr (Y := smv l π.nf (fun _ => 0) T X) (fun i hi => by
    by_cases c0 : i = 90 + l
    · rw [c0, upN_s]; unfold smv; rw [if_neg (by omega), if_pos rfl]
    · rw [upN_n c0]; unfold smv; rw [if_neg c0, if_neg c0])
  have F2 : Fr (fun o => o = x ∨ o = 5 ∨ o = 6 ∨ o = 7) m (u1 r.2 x (90 + l) (nI T)) := (h5.mono (fun o ho => by omega)).st (Or.inl rfl)
  have P2 : PF (u1 r.2 x (90 + l) (nI T)) p π := P.fr F2 (fun o ho => by omega)
  by_cases h0 : sm π.nf (canA π X l) = 0
  · rw [if_neg (by omega)]
    have hT0 : T = 0 := by omega
    refine ⟨_, fun _ => 0, rfl, ⟨⟨0, 0, fun g hg => ?_⟩, by rw [sm_zero]; omega⟩, ?_, F2⟩
    · unfold dstE; rw [if_neg (by omega), Nat.min_zero]
    · refine C2.congr (fun i _ => ?_)
      unfold carA
      rw [sm_zero, hT0]
      have : ∀ k Y, tkF π l (fun _ => 0) k Y = Y := by
        intro k Y
        induction k with
        | zero => rfl
        | succ k ih => rw [tkF_s, if_neg (Nat.lt_irrefl 0), ih]
      rw [this]
  · rw [if_pos (by omega)]
    have eT : smv l π.nf (fun _ => 0) T X (90 + l) = T := by unfold smv; rw [if_neg (by omega), if_pos rfl]
    simp (disch := omega) only [ldA_n (s7_x hx), C2.row, eT, bd1_e, P2.nf]
    obtain ⟨m3, mv, lf, g1, g2, g3⟩ := e_takeTurns (m := u1 r.2 x (90 + l) (nI T)) (b := l * 8) (n := π.nf) (T := T) (can := canA π X l) (mv0 := fun _ => 0)
      (TT.mk rfl (fun _ _ _ => rfl) (fun _ _ => rfl) (fun g hg => by rw [C2.mv _ (by omega)]; unfold smv; rw [if_pos (by omega)]) (fun g hg => by rw [u1_rn (Or.inr (by omega)), h4 g hg]))
      (fun _ _ => rfl) hnf (by omega) (fun g hg => by have := hcan g hg; omega) (by omega) (by omega)
    rw [g1, bd1_e]
    have C3 : CF m3 x (smv l π.nf mv T X) := by
      refine CF.mk ?_ ?_ ?_
      · intro i hi
        have hn : ¬ (300 + l * 8 ≤ i ∧ i < 300 + l * 8 + π.nf) := by omega
        rw [g2.o x (by omega) (by omega), C2.row i hi]
        unfold smv
        rw [if_neg hn, if_neg hn]
      · intro j hj
        by_cases c : l * 8 ≤ j ∧ j < l * 8 + π.nf
        · have := g2.mv (j - l * 8) (by omega)
          rw [show l * 8 + (j - l * 8) = j by omega] at this
          rw [this]
          unfold smv
          rw [if_pos (by omega)]
          congr 2
          omega
        · have hn : ¬ (300 + l * 8 ≤ 300 + j ∧ 300 + j < 300 + l * 8 + π.nf) := by omega
          rw [g2.out j (by omega), C2.mv j hj]
          unfold smv
          rw [if_neg hn, if_neg hn]
      · intro j hj
        have hn : ¬ (300 + l * 8 ≤ 380 + j ∧ 380 + j < 300 + l * 8 + π.nf) := by omega
        rw [g2.o 7 (by omega) (by omega), C2.sn j hj]
        unfold smv
        rw [if_neg hn, if_neg hn]
    have F3 : Fr (fun o => o = x ∨ o = 5 ∨ o = 6 ∨ o = 7) m m3 := F2.trans ⟨g2.l, fun o ho => g2.o o (by omega) (by omega)⟩
    have hmc : ∀ g, g < π.nf → mv g ≤ canA π X l g := fun g hg => dst_le g3.1 hg
    have hsmv : ∀ i, i < 297 → i ≠ 90 + l → smv l π.nf mv T X i = X i := fun i hi hi2 => smv_o hi2 (by omega)
    have hF1 : fillOK (smv l π.nf mv T X) := by
      intro k hk
      rw [hsmv _ (by omega) (by omega), hF k hk]
      exact sm_congr (fun g hg => (hsmv _ (by omega) (by omega)).symm)
    have hpv : ∀ f, f < π.nf → 0 < mv f → 1 ≤ π.pv l f ∧ (π.pv l f = 1 → mv f * 16 ≤ X (272 + f)) ∧ (2 ≤ π.pv l f → mv f ≤ X (120 + (π.pv l f - 2) * 8 + f)) := by
      intro f hf h0
      have h1 := hmc f hf
      unfold canA at h1
      split at h1
      · unfold rdyV at h1
        refine ⟨?_, ?_, ?_⟩
        · by_cases c : π.pv l f = 0
          · rw [if_pos c] at h1; omega
          · omega
        · intro c
          rw [if_neg (by omega), if_pos c] at h1
          omega
        · intro c
          rw [if_neg (by omega), if_neg (by omega)] at h1
          exact h1
      · omega
    obtain ⟨r2, k1, k2, k3⟩ := lp_n (b := fun s17 : Int32 × Mm => bX5_carry_132 SX7 4 p x (nI (l * 8)) s17.1 s17.2) (N := fu) (s0 := (nI 0, m3))
      (fun k s => s.1 = nI k ∧ CF s.2 x (tkF π l mv k (smv l π.nf mv T X)) ∧ Fr (fun o => o = x ∨ o = 5 ∨ o = 6 ∨ o = 7) m s.2)
      (fun r => CF r x (tkF π l mv π.nf (smv l π.nf mv T X)) ∧ Fr (fun o => o = x ∨ o = 5 ∨ o = 6 ∨ o = 7) m r)
      π.nf ⟨rfl, C3, F3⟩ (by unfold fu; omega)
      (by
        rintro k ⟨c, m4⟩ hk ⟨e1, C4, F4⟩
        dsimp only at e1 C4 F4 ⊢
        subst e1
        refine Or.inl ?_
        have P4 : PF m4 p π := P.fr F4 (fun o ho => by omega)
        have hv := Pl.pv_lt O (l := l) (f := k) hk
        have em : tkF π l mv k (smv l π.nf mv T X) (300 + (l * 8 + k)) = mv k := by
          rw [tkF_o O (by omega) (by omega)]
          unfold smv
          rw [if_pos (by omega)]
          congr 1
          omega
        have hmk := hmc k hk
        have hck := hcan k hk
        unfold bX5_carry_132 jX5_carry_181
        simp (disch := omega) only [L0, L1, L2, L3, L4, L5, L6, L7, L8, L9, L10, L11, L12, L13, L14, L15, L16, L17, L18, L19, L20, L21, L22, L23, L24, L25, L26, L27, L28, L29, L30, L31, L32, L33, L34, L35, L36, L37, L38, L39, L40, L41, L42, L43, L44, L45, L46, L47, L48, L50, L57, L59, L60, L63, L64, L65, L70, L80, L90, L97, L100, L110, L120, L122, L128, L150, L200, L208, L216, L224, L232, L240, L248, L255, L256, L264, L272, L280, L288, L296, L297, L300, L336, L337, L500, L680, L700, L998, L999, L1000, L1024, L1999, L6403, L9999, L10000, L12345, L99999, L1000000, L214424576, L412560384, L509804544, L639025541, L642945024, L658545824, L1103515245, L2147483647, g7_0, g7_1, g7_3, g7_4, g7_8, g7_13, g7_16, r7_0_0, r7_0_1, r7_0_2, r7_0_3, r7_0_4, r7_0_5, r7_0_6, r7_0_7, r7_1_0, r7_4_0, r7_4_1, r7_4_2, r7_8_0, r7_8_1, r7_8_2, r7_8_3, r7_13_0, r7_13_1, r7_16_0, r7_16_1, g7_p hp, r7_p_0 hp, r7_p_1 hp, r7_p_2 hp, r7_p_3 hp, r7_p_4 hp, r7_p_5 hp, r7_p_6 hp, r7_p_7 hp, r7_p_8 hp, nI_add, pk_mul, narA_0, bd1_e, bd2_e, bdR_l, bdR_r, P4.nf, nn_le, ldA_n s7_5, C4.mv, em, ldA_n (s7_p7 hp), P4.pv l k hl hk]
        rw [if_neg (by omega), tkF_s]
        by_cases e : mv k = 0
        · rw [if_pos (by omega), if_neg (by omega)]
          exact ⟨_, rfl, rfl, C4, F4⟩
        · rw [if_neg (by omega), if_pos (by omega)]
          have hpk := hpv k hk (by omega)
          have ec := fun j hj => tkF_cell O (l := l) (k := k) (f := k) (j := j) (mv := mv) (X := smv l π.nf mv T X) (by omega) (Nat.le_refl k) (by omega) hj
          have hF4 : fillOK (tkF π l mv k (smv l π.nf mv T X)) := hF1.tkF O (by omega) (fun f hf h2 => by
            rw [hsmv _ (by have := Pl.pv_lt O (l := l) hf; omega) (by omega)]
            by_cases c : 0 < mv f
            · exact (hpv f hf c).2.2 h2
            · omega)
          obtain ⟨m5, j1, j2, j3⟩ := e_takeOff (v := π.pv l k) (f := k) (n := mv k) C4 hx (by omega) (by omega) hpk.1 (fun c => by rw [(ec 0 (by omega)).2, hsmv _ (by omega) (by omega)]; exact hpk.2.1 c)
            (fun c => by
              have a1 : mv k ≤ tkF π l mv k (smv l π.nf mv T X) (120 + (π.pv l k - 2) * 8 + k) := by
                rw [(ec (π.pv l k - 2) (by omega)).1, hsmv _ (by omega) (by omega)]; exact hpk.2.2 c
              exact ⟨a1, Nat.le_trans a1 (hF4.le (by omega) (by omega))⟩)
          rw [j1, bd1_e]
          exact ⟨_, rfl, rfl, j2, F4.trans (j3.mono (fun o ho => by omega))⟩)
      (by
        rintro ⟨c, m4⟩ ⟨e1, C4, F4⟩
        dsimp only at e1 C4 F4 ⊢
        subst e1
        have P4 : PF m4 p π := P.fr F4 (fun o ho => by omega)
        unfold bX5_carry_132
        rw [if_pos (by rw [P4.nf, nn_le (by omega) (by omega)]; omega)]
        exact ⟨_, rfl, C4, F4⟩)
    rw [k1, bd1_e]
    refine ⟨r2, mv, rfl, g3, ?_, k3⟩
    unfold carA
    rw [g3.2]
    exact k2
