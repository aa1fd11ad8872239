/-! ===== a tick of the class: what stays within bounds ===== -/
theorem it_o {n : Nat} {F : Nat → (Nat → Nat) → Nat → Nat} {X : Nat → Nat} {i : Nat} (h : ∀ k Y, k < n → F k Y i = Y i) : it n F X i = X i := by
  induction n with
  | zero => rfl
  | succ n ih => rw [it_s, h n _ (by omega)]; exact ih (fun k Y hk => h k Y (by omega))
theorem it_inv {α : Type} {n : Nat} {F : Nat → α → α} {X : α} (P : Nat → α → Prop) (h0 : P 0 X) (hs : ∀ k Y, k < n → P k Y → P (k + 1) (F k Y)) : P n (it n F X) := by
  induction n with
  | zero => exact h0
  | succ n ih => rw [it_s]; exact hs n _ (by omega) (ih (fun k Y hk => hs k Y (by omega)))
theorem it_congr {α : Type} {n : Nat} {F G : Nat → α → α} {X : α} (h : ∀ k Y, k < n → F k Y = G k Y) : it n F X = it n G X := by
  induction n with
  | zero => rfl
  | succ n ih => rw [it_s, it_s, ih (fun k Y hk => h k Y (by omega)), h n _ (by omega)]
def J (π : Pl) (X : Nat → Nat) : Prop := (∀ l, l < 10 → X (0 + l) ≤ 999) ∧ (∀ l, l < 10 → X (10 + l) ≤ 998) ∧ (∀ l, l < 10 → X (20 + l) ≤ 1999) ∧ (∀ l, l < 10 → X (30 + l) ≤ 1999) ∧ (∀ l, l < 10 → X (40 + l) < 32) ∧ (∀ l, l < 10 → X (60 + l) ≤ 1999) ∧ (∀ l, l < 10 → X (30 + l) ≤ X (60 + l)) ∧ (∀ l, l < 10 → X (110 + l) ≤ 1999) ∧ (∀ l, l < π.nl → X (100 + l) < π.each) ∧ (∀ f, f < 8 → X (200 + f) ≤ 1024) ∧ (∀ f, f < 8 → X (208 + f) ≤ 1024) ∧ (∀ f, f < 8 → X (264 + f) ≤ 1) ∧ (∀ f, f < 8 → X (272 + f) ≤ 1024) ∧ (∀ f, f < π.nf → X (280 + f) < π.cells) ∧ (∀ f, f < π.nf → X (288 + f) < π.ticks) ∧ (fillOK X)
theorem J.mk {π : Pl} {X : Nat → Nat} (h_xoff : ∀ l, l < 10 → X (0 + l) ≤ 999) (h_xon : ∀ l, l < 10 → X (10 + l) ≤ 998) (h_size : ∀ l, l < 10 → X (20 + l) ≤ 1999) (h_fill : ∀ l, l < 10 → X (30 + l) ≤ 1999) (h_asked : ∀ l, l < 10 → X (40 + l) < 32) (h_peak : ∀ l, l < 10 → X (60 + l) ≤ 1999) (h_fp : ∀ l, l < 10 → X (30 + l) ≤ X (60 + l)) (h_was : ∀ l, l < 10 → X (110 + l) ≤ 1999) (h_cnt : ∀ l, l < π.nl → X (100 + l) < π.each) (h_rate : ∀ f, f < 8 → X (200 + f) ≤ 1024) (h_target : ∀ f, f < 8 → X (208 + f) ≤ 1024) (h_on : ∀ f, f < 8 → X (264 + f) ≤ 1) (h_credit : ∀ f, f < 8 → X (272 + f) ≤ 1024) (h_byc : ∀ f, f < π.nf → X (280 + f) < π.cells) (h_byt : ∀ f, f < π.nf → X (288 + f) < π.ticks) (h_q : fillOK X) : J π X := ⟨h_xoff, h_xon, h_size, h_fill, h_asked, h_peak, h_fp, h_was, h_cnt, h_rate, h_target, h_on, h_credit, h_byc, h_byt, h_q⟩
theorem J.xoff {π : Pl} {X : Nat → Nat} (h : J π X) : ∀ l, l < 10 → X (0 + l) ≤ 999 := h.1
theorem J.xon {π : Pl} {X : Nat → Nat} (h : J π X) : ∀ l, l < 10 → X (10 + l) ≤ 998 := h.2.1
theorem J.size {π : Pl} {X : Nat → Nat} (h : J π X) : ∀ l, l < 10 → X (20 + l) ≤ 1999 := h.2.2.1
theorem J.fill {π : Pl} {X : Nat → Nat} (h : J π X) : ∀ l, l < 10 → X (30 + l) ≤ 1999 := h.2.2.2.1
theorem J.asked {π : Pl} {X : Nat → Nat} (h : J π X) : ∀ l, l < 10 → X (40 + l) < 32 := h.2.2.2.2.1
theorem J.peak {π : Pl} {X : Nat → Nat} (h : J π X) : ∀ l, l < 10 → X (60 + l) ≤ 1999 := h.2.2.2.2.2.1
theorem J.fp {π : Pl} {X : Nat → Nat} (h : J π X) : ∀ l, l < 10 → X (30 + l) ≤ X (60 + l) := h.2.2.2.2.2.2.1
theorem J.was {π : Pl} {X : Nat → Nat} (h : J π X) : ∀ l, l < 10 → X (110 + l) ≤ 1999 := h.2.2.2.2.2.2.2.1
theorem J.cnt {π : Pl} {X : Nat → Nat} (h : J π X) : ∀ l, l < π.nl → X (100 + l) < π.each := h.2.2.2.2.2.2.2.2.1
theorem J.rate {π : Pl} {X : Nat → Nat} (h : J π X) : ∀ f, f < 8 → X (200 + f) ≤ 1024 := h.2.2.2.2.2.2.2.2.2.1
theorem J.target {π : Pl} {X : Nat → Nat} (h : J π X) : ∀ f, f < 8 → X (208 + f) ≤ 1024 := h.2.2.2.2.2.2.2.2.2.2.1
theorem J.on {π : Pl} {X : Nat → Nat} (h : J π X) : ∀ f, f < 8 → X (264 + f) ≤ 1 := h.2.2.2.2.2.2.2.2.2.2.2.1
theorem J.credit {π : Pl} {X : Nat → Nat} (h : J π X) : ∀ f, f < 8 → X (272 + f) ≤ 1024 := h.2.2.2.2.2.2.2.2.2.2.2.2.1
theorem J.byc {π : Pl} {X : Nat → Nat} (h : J π X) : ∀ f, f < π.nf → X (280 + f) < π.cells := h.2.2.2.2.2.2.2.2.2.2.2.2.2.1
theorem J.byt {π : Pl} {X : Nat → Nat} (h : J π X) : ∀ f, f < π.nf → X (288 + f) < π.ticks := h.2.2.2.2.2.2.2.2.2.2.2.2.2.2.1
theorem J.q {π : Pl} {X : Nat → Nat} (h : J π X) : fillOK X := h.2.2.2.2.2.2.2.2.2.2.2.2.2.2.2
theorem fillOK.congr {X Y : Nat → Nat} (h : fillOK X) (e : ∀ i, (30 ≤ i ∧ i < 40) ∨ (120 ≤ i ∧ i < 200) → Y i = X i) : fillOK Y := by
  intro k hk
  rw [e _ (by omega), h k hk]
  exact sm_congr (fun g hg => (e _ (by omega)).symm)
theorem J.same {π : Pl} {X Y : Nat → Nat} (O : π.ok) (h : J π X) (e : ∀ i, i < 297 → ¬ (50 ≤ i ∧ i < 60) → ¬ (70 ≤ i ∧ i < 100) → ¬ (216 ≤ i ∧ i < 264) → i ≠ 296 → Y i = X i) : J π Y := by
  have hnl := O.nl
  have hnf := O.nf
  refine J.mk ?_ ?_ ?_ ?_ ?_ ?_ ?_ ?_ ?_ ?_ ?_ ?_ ?_ ?_ ?_ ?_
  · intro l hl; rw [e _ (by omega) (by omega) (by omega) (by omega) (by omega)]; exact h.xoff l hl
  · intro l hl; rw [e _ (by omega) (by omega) (by omega) (by omega) (by omega)]; exact h.xon l hl
  · intro l hl; rw [e _ (by omega) (by omega) (by omega) (by omega) (by omega)]; exact h.size l hl
  · intro l hl; rw [e _ (by omega) (by omega) (by omega) (by omega) (by omega)]; exact h.fill l hl
  · intro l hl; rw [e _ (by omega) (by omega) (by omega) (by omega) (by omega)]; exact h.asked l hl
  · intro l hl; rw [e _ (by omega) (by omega) (by omega) (by omega) (by omega)]; exact h.peak l hl
  · intro l hl; rw [e _ (by omega) (by omega) (by omega) (by omega) (by omega), e (60 + l) (by omega) (by omega) (by omega) (by omega) (by omega)]; exact h.fp l hl
  · intro l hl; rw [e _ (by omega) (by omega) (by omega) (by omega) (by omega)]; exact h.was l hl
  · intro l hl; rw [e _ (by omega) (by omega) (by omega) (by omega) (by omega)]; exact h.cnt l hl
  · intro l hl; rw [e _ (by omega) (by omega) (by omega) (by omega) (by omega)]; exact h.rate l hl
  · intro l hl; rw [e _ (by omega) (by omega) (by omega) (by omega) (by omega)]; exact h.target l hl
  · intro l hl; rw [e _ (by omega) (by omega) (by omega) (by omega) (by omega)]; exact h.on l hl
  · intro l hl; rw [e _ (by omega) (by omega) (by omega) (by omega) (by omega)]; exact h.credit l hl
  · intro l hl; rw [e _ (by omega) (by omega) (by omega) (by omega) (by omega)]; exact h.byc l hl
  · intro l hl; rw [e _ (by omega) (by omega) (by omega) (by omega) (by omega)]; exact h.byt l hl
  · exact h.q.congr (fun i hi => e i (by omega) (by omega) (by omega) (by omega) (by omega))
/-! credit -/
def crA (f : Nat) (X : Nat → Nat) : Nat → Nat := if X (264 + f) = 1 then upN (upN X (380 + f) 0) (272 + f) (min 1024 (X (272 + f) + X (200 + f))) else upN X (380 + f) 0
theorem crA_o {f i : Nat} {X : Nat → Nat} (h1 : i ≠ 380 + f) (h2 : i ≠ 272 + f) : crA f X i = X i := by
  unfold crA
  split
  · rw [upN_n h2, upN_n h1]
  · rw [upN_n h1]
theorem crA_c {f : Nat} {X : Nat → Nat} (h : X (272 + f) ≤ 1024) : crA f X (272 + f) ≤ 1024 := by
  unfold crA
  split
  · rw [upN_s]; omega
  · rw [upN_n (by omega)]; exact h
theorem crA_s {f : Nat} {X : Nat → Nat} : crA f X (380 + f) = 0 := by
  unfold crA
  split
  · rw [upN_n (by omega), upN_s]
  · rw [upN_s]
theorem J.cr {π : Pl} (O : π.ok) {X : Nat → Nat} (h : J π X) {f : Nat} (hf : f < 8) : J π (crA f X) := by
  have hnl := O.nl
  have hnf := O.nf
  have e : ∀ i, i < 297 → i ≠ 272 + f → crA f X i = X i := fun i hi h2 => crA_o (by omega) h2
  refine J.mk ?_ ?_ ?_ ?_ ?_ ?_ ?_ ?_ ?_ ?_ ?_ ?_ ?_ ?_ ?_ ?_
  · intro l hl; rw [e _ (by omega) (by omega)]; exact h.xoff l hl
  · intro l hl; rw [e _ (by omega) (by omega)]; exact h.xon l hl
  · intro l hl; rw [e _ (by omega) (by omega)]; exact h.size l hl
  · intro l hl; rw [e _ (by omega) (by omega)]; exact h.fill l hl
  · intro l hl; rw [e _ (by omega) (by omega)]; exact h.asked l hl
  · intro l hl; rw [e _ (by omega) (by omega)]; exact h.peak l hl
  · intro l hl; rw [e _ (by omega) (by omega), e (60 + l) (by omega) (by omega)]; exact h.fp l hl
  · intro l hl; rw [e _ (by omega) (by omega)]; exact h.was l hl
  · intro l hl; rw [e _ (by omega) (by omega)]; exact h.cnt l hl
  · intro l hl; rw [e _ (by omega) (by omega)]; exact h.rate l hl
  · intro l hl; rw [e _ (by omega) (by omega)]; exact h.target l hl
  · intro l hl; rw [e _ (by omega) (by omega)]; exact h.on l hl
  · intro l hl
    by_cases c : l = f
    · subst c; exact crA_c (h.credit l hl)
    · rw [e _ (by omega) (by omega)]; exact h.credit l hl
  · intro l hl; rw [e _ (by omega) (by omega)]; exact h.byc l hl
  · intro l hl; rw [e _ (by omega) (by omega)]; exact h.byt l hl
  · exact h.q.congr (fun i hi => e i (by omega) (by omega))
/-! carrying -/
noncomputable def mvF (n : Nat) (can : Nat → Nat) (T : Nat) : Nat → Nat := Classical.epsilon (fun mv => Rr n can T mv)
theorem mvF_R {n : Nat} {can : Nat → Nat} {T : Nat} {mv : Nat → Nat} (h : Rr n can T mv) : Rr n can T (mvF n can T) := Classical.epsilon_spec (p := fun mv => Rr n can T mv) ⟨mv, h⟩
theorem mvF_eq {n : Nat} {can : Nat → Nat} {T : Nat} {mv : Nat → Nat} (h : Rr n can T mv) {g : Nat} (hg : g < n) : mvF n can T g = mv g := by
  have h2 := mvF_R h
  exact dst_one h2.1 h.1 (by rw [h2.2, h.2]) g hg
theorem mvF_congr {n : Nat} {can can' : Nat → Nat} {T : Nat} (h : ∀ g, g < n → can g = can' g) : mvF n can T = mvF n can' T := by
  have e : ∀ mv, Rr n can T mv ↔ Rr n can' T mv := by
    intro mv
    unfold Rr dst
    constructor
    · rintro ⟨⟨R, p, a⟩, b⟩
      refine ⟨⟨R, p, fun g hg => ?_⟩, b⟩
      rw [a g hg]; unfold dstE; rw [h g hg]
    · rintro ⟨⟨R, p, a⟩, b⟩
      refine ⟨⟨R, p, fun g hg => ?_⟩, b⟩
      rw [a g hg]; unfold dstE; rw [h g hg]
  have e2 : Rr n can T = Rr n can' T := funext (fun mv => propext (e mv))
  unfold mvF
  exact congrArg Classical.epsilon e2
theorem tkF_congr {π : Pl} {l k : Nat} {mv mv' X : Nat → Nat} (h : ∀ g, g < k → mv g = mv' g) : tkF π l mv k X = tkF π l mv' k X := by
  induction k with
  | zero => rfl
  | succ k ih => rw [tkF_s, tkF_s, ih (fun g hg => h g (by omega)), h k (by omega)]
theorem smv_congr {l n T : Nat} {mv mv' X : Nat → Nat} (h : ∀ g, g < n → mv g = mv' g) : smv l n mv T X = smv l n mv' T X := by
  funext i
  unfold smv
  split
  · exact h _ (by omega)
  · rfl
theorem carA_congr {π : Pl} {l : Nat} {mv mv' X : Nat → Nat} (h : ∀ g, g < π.nf → mv g = mv' g) : carA π l mv X = carA π l mv' X := by
  unfold carA
  rw [sm_congr h, smv_congr h, tkF_congr h]
def capT (π : Pl) (l : Nat) (X : Nat → Nat) : Nat := min (sm π.nf (canA π X l)) (π.cap l)
noncomputable def mvB (π : Pl) (l : Nat) (X : Nat → Nat) : Nat → Nat := mvF π.nf (canA π X l) (capT π l X)
noncomputable def carB (π : Pl) (l : Nat) (X : Nat → Nat) : Nat → Nat := carA π l (mvB π l X) X
/-- round by round some can always be given, as many as there are -/
theorem dst_ex (n : Nat) (can : Nat → Nat) : ∀ T, T ≤ sm n can → ∃ mv, Rr n can T mv := by
  intro T
  induction T with
  | zero =>
    intro _
    refine ⟨fun _ => 0, ⟨0, 0, fun g hg => ?_⟩, sm_zero⟩
    unfold dstE; rw [if_neg (by omega), Nat.min_zero]
  | succ T ih =>
    intro hT
    obtain ⟨mv, ⟨R, p, h⟩, hs⟩ := ih (by omega)
    -- the next that has a cell left in this round, or the first of the next round
    have e1 : sm n mv = sm n (dstE can R p) := sm_congr h
    by_cases c : ∃ g, g < n ∧ p ≤ g ∧ R < can g
    · -- the least such
      have key : ∀ d, (∃ g, g < n ∧ p ≤ g ∧ R < can g ∧ g < p + d) → ∃ g, g < n ∧ p ≤ g ∧ R < can g ∧ ∀ j, p ≤ j → j < g → ¬ R < can j := by
        intro d
        induction d with
        | zero => rintro ⟨g, a, b, _, d⟩; omega
        | succ d ihd =>
          rintro ⟨g, a, b, cc, d1⟩
          by_cases q : ∃ g, g < n ∧ p ≤ g ∧ R < can g ∧ g < p + d
          · exact ihd q
          · exact ⟨g, a, b, cc, fun j h1 h2 h3 => q ⟨j, by omega, h1, h3, by omega⟩⟩
      obtain ⟨g0, a, b, cc⟩ := c
      obtain ⟨g, ga, gb, gc, gd⟩ := key (g0 - p + 1) ⟨g0, a, b, cc, by omega⟩
      refine ⟨dstE can R (g + 1), ⟨R, g + 1, fun _ _ => rfl⟩, ?_⟩
      have e2 : sm n (dstE can R (g + 1)) = sm n (fun j => if j = g then dstE can R p g + 1 else dstE can R p j) := by
        apply sm_congr
        intro j hj
        by_cases ej : j = g
        · subst ej
          rw [if_pos rfl]
          unfold dstE
          rw [if_pos ⟨by omega, gc⟩, if_neg (by omega)]
        · rw [if_neg ej]
          unfold dstE
          by_cases cj : j < p
          · by_cases cr : R < can j
            · rw [if_pos ⟨by omega, cr⟩, if_pos ⟨cj, cr⟩]
            · rw [if_neg (by omega), if_neg (by omega)]
          · have : ¬ (j < g + 1 ∧ R < can j) := fun ⟨q1, q2⟩ => gd j (by omega) (by omega) q2
            rw [if_neg this, if_neg (by omega)]
      have e3 := sm_upd (n := n) (f := dstE can R p) (k := g) (v := dstE can R p g + 1) ga
      omega
    · -- the next round
      have hall : ∀ g, g < n → p ≤ g → can g ≤ R := fun g h1 h2 => by
        by_cases q : R < can g
        · exact absurd ⟨g, h1, h2, q⟩ c
        · omega
      have eR : ∀ g, g < n → dstE can R p g = dstE can (R + 1) 0 g := by
        intro g hg
        unfold dstE
        rw [if_neg (show ¬ (g < 0 ∧ R + 1 < can g) by omega)]
        by_cases cg : g < p
        · by_cases cr : R < can g
          · rw [if_pos ⟨cg, cr⟩]; omega
          · rw [if_neg (by omega)]; omega
        · have := hall g hg (by omega)
          rw [if_neg (by omega)]; omega
      have e4 : sm n (dstE can (R + 1) 0) = T := by rw [← sm_congr eR, ← e1, hs]
      have hex : ∃ g, g < n ∧ R + 1 < can g := by
        apply Classical.byContradiction
        intro q
        have : sm n (dstE can (R + 1) 0) = sm n can := sm_congr (fun g hg => by
          have h9 : ¬ R + 1 < can g := fun x => q ⟨g, hg, x⟩
          unfold dstE
          rw [if_neg (by omega)]; omega)
        omega
      have key : ∀ d, (∃ g, g < n ∧ R + 1 < can g ∧ g < d) → ∃ g, g < n ∧ R + 1 < can g ∧ ∀ j, j < g → ¬ R + 1 < can j := by
        intro d
        induction d with
        | zero => rintro ⟨g, a, b, d⟩; omega
        | succ d ihd =>
          rintro ⟨g, a, cc, d1⟩
          by_cases q : ∃ g, g < n ∧ R + 1 < can g ∧ g < d
          · exact ihd q
          · exact ⟨g, a, cc, fun j h1 h2 => q ⟨j, by omega, h2, by omega⟩⟩
      obtain ⟨g0, a, b⟩ := hex
      obtain ⟨g, ga, gc, gd⟩ := key (g0 + 1) ⟨g0, a, b, by omega⟩
      refine ⟨dstE can (R + 1) (g + 1), ⟨R + 1, g + 1, fun _ _ => rfl⟩, ?_⟩
      have e2 : sm n (dstE can (R + 1) (g + 1)) = sm n (fun j => if j = g then dstE can (R + 1) 0 g + 1 else dstE can (R + 1) 0 j) := by
        apply sm_congr
        intro j hj
        by_cases ej : j = g
        · subst ej
          rw [if_pos rfl]
          unfold dstE
          rw [if_pos ⟨by omega, gc⟩, if_neg (by omega)]
        · rw [if_neg ej]
          unfold dstE
          have : ¬ (j < g + 1 ∧ R + 1 < can j) := fun ⟨q1, q2⟩ => gd j (by omega) q2
          rw [if_neg this, if_neg (by omega)]
      have e3 := sm_upd (n := n) (f := dstE can (R + 1) 0) (k := g) (v := dstE can (R + 1) 0 g + 1) ga
      omega
theorem mvB_R (π : Pl) (l : Nat) (X : Nat → Nat) : Rr π.nf (canA π X l) (capT π l X) (mvB π l X) := by
  obtain ⟨mv, h⟩ := dst_ex π.nf (canA π X l) (capT π l X) (Nat.min_le_left _ _)
  exact mvF_R h
theorem mvB_le {π : Pl} {l : Nat} {X : Nat → Nat} {g : Nat} (hg : g < π.nf) : mvB π l X g ≤ canA π X l g := dst_le (mvB_R π l X).1 hg
theorem mvB_cap {π : Pl} {l : Nat} {X : Nat → Nat} {g : Nat} (hg : g < π.nf) : mvB π l X g ≤ π.cap l := by
  have h := (mvB_R π l X).2
  have h2 := sm_le (f := mvB π l X) hg
  have h3 : capT π l X ≤ π.cap l := Nat.min_le_right _ _
  omega
