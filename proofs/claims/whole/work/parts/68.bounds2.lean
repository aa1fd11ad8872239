/-! ===== a tick of the class: carrying, arriving, asking, sampling, recovering keep the bounds ===== -/
theorem tkA_le {v f n i : Nat} {X : Nat → Nat} (hf : f < 8) (h : (30 ≤ i ∧ i < 40) ∨ (120 ≤ i ∧ i < 200) ∨ (272 ≤ i ∧ i < 280)) : tkA v f n X i ≤ X i := by
  unfold tkA
  split
  · rw [upN_n (by omega), upN_n (by omega)]
    by_cases e : i = 272 + f
    · subst e; rw [upN_s]; omega
    · rw [upN_n e]; exact Nat.le_refl _
  · by_cases e : i = 30 + (v - 2)
    · subst e; rw [upN_s]; omega
    · rw [upN_n e]
      by_cases e2 : i = 120 + (v - 2) * 8 + f
      · subst e2; rw [upN_s]; omega
      · rw [upN_n e2]; exact Nat.le_refl _
theorem tkF_le {π : Pl} {l k i : Nat} {mv X : Nat → Nat} (hk : k ≤ 8) (h : (30 ≤ i ∧ i < 40) ∨ (120 ≤ i ∧ i < 200) ∨ (272 ≤ i ∧ i < 280)) : tkF π l mv k X i ≤ X i := by
  induction k with
  | zero => exact Nat.le_refl _
  | succ k ih =>
    have := ih (by omega)
    rw [tkF_s]
    split
    · exact Nat.le_trans (tkA_le (by omega) h) this
    · exact this
theorem tkF_sn {π : Pl} (O : π.ok) {l k g : Nat} {mv X : Nat → Nat} (hk : k ≤ π.nf) (hg : g < 8) : tkF π l mv k X (380 + g) = if g < k ∧ 0 < mv g ∧ π.pv l g ≤ 1 then mv g else X (380 + g) := by
  have hnl := O.nl
  have hnf := O.nf
  induction k with
  | zero => rw [if_neg (by omega)]; rfl
  | succ k ih =>
    have hv := Pl.pv_lt O (l := l) (f := k) (by omega)
    have ih := ih (by omega)
    rw [tkF_s]
    by_cases c : 0 < mv k
    · rw [if_pos c]
      unfold tkA
      by_cases c2 : π.pv l k ≤ 1
      · rw [if_pos c2]
        by_cases e : g = k
        · subst e; rw [upN_s, if_pos ⟨by omega, c, c2⟩]
        · rw [upN_n (by omega), upN_n (by omega), upN_n (by omega), ih]
          by_cases q : g < k ∧ 0 < mv g ∧ π.pv l g ≤ 1
          · rw [if_pos q, if_pos ⟨by omega, q.2⟩]
          · rw [if_neg q, if_neg (fun z => q ⟨by omega, z.2⟩)]
      · rw [if_neg c2, upN_n (by omega), upN_n (by omega), ih]
        by_cases q : g < k ∧ 0 < mv g ∧ π.pv l g ≤ 1
        · rw [if_pos q, if_pos ⟨by omega, q.2⟩]
        · rw [if_neg q, if_neg (fun z => by
            by_cases e : g = k
            · subst e; exact c2 z.2.2
            · exact q ⟨by omega, z.2⟩)]
    · rw [if_neg c, ih]
      by_cases q : g < k ∧ 0 < mv g ∧ π.pv l g ≤ 1
      · rw [if_pos q, if_pos ⟨by omega, q.2⟩]
      · rw [if_neg q, if_neg (fun z => by
          by_cases e : g = k
          · subst e; exact c z.2.1
          · exact q ⟨by omega, z.2⟩)]
theorem carB_o {π : Pl} (O : π.ok) {l i : Nat} {X : Nat → Nat} (h : i < 30 ∨ (40 ≤ i ∧ i < 90) ∨ (90 ≤ i ∧ i < 100 ∧ i ≠ 90 + l) ∨ (100 ≤ i ∧ i < 120) ∨ (200 ≤ i ∧ i < 232) ∨ (240 ≤ i ∧ i < 272) ∨ (280 ≤ i ∧ i < 300) ∨ (300 ≤ i ∧ i < 380 ∧ (i < 300 + l * 8 ∨ 300 + l * 8 + 8 ≤ i))) (hl : l < 10) : carB π l X i = X i := by
  have hnf := O.nf
  unfold carB carA
  rw [tkF_o O (Nat.le_refl _) (by omega), smv_o (by omega) (by omega)]
theorem carB_mv {π : Pl} (O : π.ok) {l f : Nat} {X : Nat → Nat} (hl : l < 10) (hf : f < π.nf) : carB π l X (300 + (l * 8 + f)) = mvB π l X f := by
  have hnf := O.nf
  unfold carB carA
  rw [tkF_o O (Nat.le_refl _) (by omega)]
  unfold smv
  rw [if_pos (by omega)]
  congr 1
  omega
theorem carB_cd {π : Pl} (O : π.ok) {l : Nat} {X : Nat → Nat} (hl : l < 10) : carB π l X (90 + l) = capT π l X := by
  have hnf := O.nf
  unfold carB carA
  rw [tkF_o O (Nat.le_refl _) (by omega)]
  unfold smv
  rw [if_neg (by omega), if_pos rfl, (mvB_R π l X).2]
theorem carB_le {π : Pl} (O : π.ok) {l i : Nat} {X : Nat → Nat} (hl : l < 10) (h : (30 ≤ i ∧ i < 40) ∨ (120 ≤ i ∧ i < 200) ∨ (272 ≤ i ∧ i < 280)) : carB π l X i ≤ X i := by
  have hnf := O.nf
  unfold carB carA
  refine Nat.le_trans (tkF_le hnf h) ?_
  rw [smv_o (by omega) (by omega)]
  exact Nat.le_refl _
theorem canA_le {π : Pl} {l f : Nat} {X : Nat → Nat} : canA π X l f ≤ rdyV (π.pv l f) f X := by
  unfold canA
  split
  · exact Nat.le_refl _
  · exact Nat.zero_le _
theorem mvB_q {π : Pl} {l f : Nat} {X : Nat → Nat} (hf : f < π.nf) (h : 2 ≤ π.pv l f) : mvB π l X f ≤ X (120 + (π.pv l f - 2) * 8 + f) := by
  have h1 := mvB_le (π := π) (l := l) (X := X) hf
  have h2 := canA_le (π := π) (l := l) (f := f) (X := X)
  unfold rdyV at h2
  rw [if_neg (by omega), if_neg (by omega)] at h2
  omega
theorem fillOK.carB {π : Pl} (O : π.ok) {l : Nat} {X : Nat → Nat} (hl : l < 10) (h : fillOK X) : fillOK (carB π l X) := by
  have hnf := O.nf
  have hnl := O.nl
  unfold Jvm.Pilot.@@N@@.carB carA
  refine fillOK.tkF O (h.congr (fun i hi => smv_o (by omega) (by omega))) (Nat.le_refl _) (fun f hf h2 => ?_)
  have hv := Pl.pv_lt O (l := l) hf
  rw [smv_o (by omega) (by omega)]
  exact mvB_q hf h2
theorem J.car {π : Pl} (O : π.ok) {X : Nat → Nat} (h : J π X) {l : Nat} (hl : l < 10) : J π (carB π l X) := by
  have hnl := O.nl
  have hnf := O.nf
  refine J.mk ?_ ?_ ?_ ?_ ?_ ?_ ?_ ?_ ?_ ?_ ?_ ?_ ?_ ?_ ?_ ?_
  · intro a ha; rw [carB_o O (by omega) hl]; exact h.xoff a ha
  · intro a ha; rw [carB_o O (by omega) hl]; exact h.xon a ha
  · intro a ha; rw [carB_o O (by omega) hl]; exact h.size a ha
  · intro a ha; exact Nat.le_trans (carB_le O hl (by omega)) (h.fill a ha)
  · intro a ha; rw [carB_o O (by omega) hl]; exact h.asked a ha
  · intro a ha; rw [carB_o O (by omega) hl]; exact h.peak a ha
  · intro a ha; rw [carB_o (i := 60 + a) O (by omega) hl]; exact Nat.le_trans (carB_le O hl (by omega)) (h.fp a ha)
  · intro a ha; rw [carB_o O (by omega) hl]; exact h.was a ha
  · intro a ha; rw [carB_o O (by omega) hl]; exact h.cnt a ha
  · intro a ha; rw [carB_o O (by omega) hl]; exact h.rate a ha
  · intro a ha; rw [carB_o O (by omega) hl]; exact h.target a ha
  · intro a ha; rw [carB_o O (by omega) hl]; exact h.on a ha
  · intro a ha; exact Nat.le_trans (carB_le O hl (by omega)) (h.credit a ha)
  · intro a ha; rw [carB_o O (by omega) hl]; exact h.byc a ha
  · intro a ha; rw [carB_o O (by omega) hl]; exact h.byt a ha
  · exact h.q.carB O hl
def Mv (π : Pl) (k : Nat) (X : Nat → Nat) : Prop := ∀ l f, l < k → f < π.nf → X (300 + (l * 8 + f)) ≤ 64 ∧ (X (90 + l) = 0 → X (300 + (l * 8 + f)) = 0)
def Sn (π : Pl) (X : Nat → Nat) : Prop := ∀ f, f < π.nf → X (380 + f) ≤ 64
theorem Mv.car {π : Pl} (O : π.ok) {X : Nat → Nat} {l : Nat} (hl : l < π.nl) (h : Mv π l X) : Mv π (l + 1) (carB π l X) := by
  have hnl := O.nl
  have hnf := O.nf
  intro a f ha hf
  by_cases e : a = l
  · subst e
    rw [carB_mv O (by omega) hf, carB_cd O (by omega)]
    have h1 := mvB_cap (π := π) (l := a) (X := X) hf
    have h2 := (O.cap a hl).2
    refine ⟨by omega, fun h0 => ?_⟩
    have h3 := (mvB_R π a X).2
    have h4 := sm_le (f := mvB π a X) hf
    omega
  · have := h a f (by omega) hf
    rw [carB_o O (by omega) (by omega), carB_o O (by omega) (by omega)]
    exact this
theorem Sn.car {π : Pl} (O : π.ok) {X : Nat → Nat} {l : Nat} (hl : l < π.nl) (h : Sn π X) : Sn π (carB π l X) := by
  have hnl := O.nl
  have hnf := O.nf
  intro f hf
  unfold carB carA
  rw [tkF_sn O (Nat.le_refl _) (by omega)]
  split
  · have h1 := mvB_cap (π := π) (l := l) (X := X) hf
    have h2 := (O.cap l hl).2
    omega
  · rw [smv_o (by omega) (by omega)]; exact h f hf
/-! arriving -/
theorem fillOK.arr {π : Pl} {l f : Nat} {X : Nat → Nat} (hl : l < 10) (hf : f < 8) (h : fillOK X) : fillOK (arrF π l f X) := by
  intro k hk
  unfold arrF
  split
  · exact h k hk
  · split
    · rw [upN_n (by omega), upN_n (by omega), h k hk]
      exact sm_congr (fun g hg => by rw [upN_n (by omega), upN_n (by omega)])
    · rw [upN_n (by omega), upN_n (by omega), upN_n (by omega)]
      by_cases e : k = l
      · subst e
        rw [upN_s, h k hk]
        have h3 := sm_upd (n := 8) (f := fun g => X (120 + k * 8 + g)) (k := f) (v := X (120 + k * 8 + f) + inn k f X) hf
        have e2 : sm 8 (fun g => upN (upN (upN (upN (upN X (120 + k * 8 + f) (X (120 + k * 8 + f) + inn k f X)) (30 + k) (sm 8 (fun g => X (120 + k * 8 + g)) + inn k f X)) (50 + k) (X (50 + k) + (X (300 + (k * 8 + f)) - inn k f X))) (248 + f) (X (248 + f) + (X (300 + (k * 8 + f)) - inn k f X))) (300 + (k * 8 + f)) (inn k f X) (120 + k * 8 + g)) = sm 8 (fun j => if j = f then X (120 + k * 8 + f) + inn k f X else X (120 + k * 8 + j)) := by
          apply sm_congr
          intro g hg
          rw [upN_n (by omega), upN_n (by omega), upN_n (by omega), upN_n (by omega)]
          by_cases eg : g = f
          · subst eg; rw [upN_s, if_pos rfl]
          · rw [upN_n (by omega), if_neg eg]
        rw [e2]

        omega
      · rw [upN_n (by omega), upN_n (by omega), h k hk]
        exact sm_congr (fun g hg => by rw [upN_n (by omega), upN_n (by omega), upN_n (by omega), upN_n (by omega), upN_n (by omega)])
theorem arrI_o {π : Pl} {l k i : Nat} {X : Nat → Nat} (hk : k ≤ 8) (h : i < 30 ∨ (30 ≤ i ∧ i < 40 ∧ i ≠ 30 + l) ∨ (40 ≤ i ∧ i < 50) ∨ (50 ≤ i ∧ i < 60 ∧ i ≠ 50 + l) ∨ (60 ≤ i ∧ i < 120) ∨ (120 ≤ i ∧ i < 200 ∧ (i < 120 + l * 8 ∨ 120 + l * 8 + 8 ≤ i)) ∨ (200 ≤ i ∧ i < 240) ∨ (256 ≤ i ∧ i < 300) ∨ (300 ≤ i ∧ i < 380 ∧ (i < 300 + l * 8 ∨ 300 + l * 8 + 8 ≤ i)) ∨ 380 ≤ i) (hl : l < 10) : it k (arrF π l) X i = X i := it_o (fun j Y hj => arrF_o (by omega))
theorem arrA_o {π : Pl} (O : π.ok) {l i : Nat} {X : Nat → Nat} (h : i < 30 ∨ (30 ≤ i ∧ i < 40 ∧ i ≠ 30 + l) ∨ (40 ≤ i ∧ i < 50) ∨ (50 ≤ i ∧ i < 60 ∧ i ≠ 50 + l) ∨ (60 ≤ i ∧ i < 120 ∧ i ≠ 60 + l) ∨ (120 ≤ i ∧ i < 200 ∧ (i < 120 + l * 8 ∨ 120 + l * 8 + 8 ≤ i)) ∨ (200 ≤ i ∧ i < 240) ∨ (256 ≤ i ∧ i < 300) ∨ (300 ≤ i ∧ i < 380 ∧ (i < 300 + l * 8 ∨ 300 + l * 8 + 8 ≤ i)) ∨ 380 ≤ i) (hl : l < 10) : arrA π l X i = X i := by
  unfold arrA
  rw [upN_n (by omega)]
  exact arrI_o O.nf (by omega) hl
theorem J.arr {π : Pl} (O : π.ok) {X : Nat → Nat} (h : J π X) {l : Nat} (hl : l < 10) : J π (arrA π l X) := by
  have hnl := O.nl
  have hnf := O.nf
  obtain ⟨i1, i2, i3, _⟩ := arrI (π := π) hnf hl (h.fill l hl) (h.size l hl) π.nf (Nat.le_refl _)
  have hpk := h.peak l hl
  have e30 : arrA π l X (30 + l) = it π.nf (arrF π l) X (30 + l) := by unfold arrA; rw [upN_n (by omega)]
  have e60 : arrA π l X (60 + l) = max (it π.nf (arrF π l) X (60 + l)) (it π.nf (arrF π l) X (30 + l)) := by unfold arrA; rw [upN_s]
  refine J.mk ?_ ?_ ?_ ?_ ?_ ?_ ?_ ?_ ?_ ?_ ?_ ?_ ?_ ?_ ?_ ?_
  · intro a ha; rw [arrA_o O (by omega) hl]; exact h.xoff a ha
  · intro a ha; rw [arrA_o O (by omega) hl]; exact h.xon a ha
  · intro a ha; rw [arrA_o O (by omega) hl]; exact h.size a ha
  · intro a ha
    by_cases e : a = l
    · subst e; rw [e30]; exact i1
    · rw [arrA_o O (by omega) hl]; exact h.fill a ha
  · intro a ha; rw [arrA_o O (by omega) hl]; exact h.asked a ha
  · intro a ha
    by_cases e : a = l
    · subst e; rw [e60]; omega
    · rw [arrA_o O (by omega) hl]; exact h.peak a ha
  · intro a ha
    by_cases e : a = l
    · subst e; rw [e60, e30]; omega
    · rw [arrA_o O (by omega) hl, arrA_o (i := 60 + a) O (by omega) hl]; exact h.fp a ha
  · intro a ha; rw [arrA_o O (by omega) hl]; exact h.was a ha
  · intro a ha; rw [arrA_o O (by omega) hl]; exact h.cnt a ha
  · intro a ha; rw [arrA_o O (by omega) hl]; exact h.rate a ha
  · intro a ha; rw [arrA_o O (by omega) hl]; exact h.target a ha
  · intro a ha; rw [arrA_o O (by omega) hl]; exact h.on a ha
  · intro a ha; rw [arrA_o O (by omega) hl]; exact h.credit a ha
  · intro a ha; rw [arrA_o O (by omega) hl]; exact h.byc a ha
  · intro a ha; rw [arrA_o O (by omega) hl]; exact h.byt a ha
  · refine fillOK.congr (X := it π.nf (arrF π l) X) ?_ (fun i hi => by unfold arrA; rw [upN_n (by omega)])
    exact it_inv (P := fun _ Y => fillOK Y) h.q (fun k Y hk hY => hY.arr hl (by omega))
theorem arrF_mv {π : Pl} {l f a g : Nat} {X : Nat → Nat} (hl : l < 10) (hf : f < 8) (ha : a < 10) (hg : g < 8) : arrF π l f X (300 + (a * 8 + g)) ≤ X (300 + (a * 8 + g)) := by
  unfold arrF
  split
  · exact Nat.le_refl _
  · by_cases e : 300 + (a * 8 + g) = 300 + (l * 8 + f)
    · rw [e]
      split
      · rw [upN_s]; omega
      · rw [upN_s]; exact Nat.min_le_left _ _
    · split
      · rw [upN_n e, upN_n (by omega)]; exact Nat.le_refl _
      · rw [upN_n e, upN_n (by omega), upN_n (by omega), upN_n (by omega), upN_n (by omega)]; exact Nat.le_refl _
theorem arrA_mv {π : Pl} (O : π.ok) {l a g : Nat} {X : Nat → Nat} (hl : l < 10) (ha : a < 10) (hg : g < 8) : arrA π l X (300 + (a * 8 + g)) ≤ X (300 + (a * 8 + g)) := by
  have hnf := O.nf
  unfold arrA
  rw [upN_n (by omega)]
  exact it_inv (α := Nat → Nat) (P := fun _ Y => Y (300 + (a * 8 + g)) ≤ X (300 + (a * 8 + g))) (Nat.le_refl _) (fun k Y hk hY => Nat.le_trans (arrF_mv hl (by omega) ha hg) hY)
theorem Mv.arr {π : Pl} (O : π.ok) {X : Nat → Nat} {l : Nat} (hl : l < 10) (h : Mv π π.nl X) : Mv π π.nl (arrA π l X) := by
  have hnl := O.nl
  have hnf := O.nf
  intro a f ha hf
  have h1 := h a f ha hf
  have h2 := arrA_mv O (X := X) hl (show a < 10 by omega) (show f < 8 by omega)
  rw [arrA_o (i := 90 + a) O (by omega) hl]
  exact ⟨by omega, fun h0 => by have := h1.2 h0; omega⟩
theorem askV_lt (l : Nat) (X : Nat → Nat) : askV l X < 32 := Nat.mod_lt _ (by decide)
theorem askA_o {l i : Nat} {X : Nat → Nat} (h : i ≠ 40 + l) : askA l X i = X i := upN_n h
theorem J.ask {π : Pl} (O : π.ok) {X : Nat → Nat} (h : J π X) {l : Nat} (hl : l < 10) : J π (askA l X) := by
  have hnl := O.nl
  have hnf := O.nf
  refine J.mk ?_ ?_ ?_ ?_ ?_ ?_ ?_ ?_ ?_ ?_ ?_ ?_ ?_ ?_ ?_ ?_
  · intro a ha; rw [askA_o (by omega)]; exact h.xoff a ha
  · intro a ha; rw [askA_o (by omega)]; exact h.xon a ha
  · intro a ha; rw [askA_o (by omega)]; exact h.size a ha
  · intro a ha; rw [askA_o (by omega)]; exact h.fill a ha
  · intro a ha
    by_cases e : a = l
    · subst e; unfold askA; rw [upN_s]; exact askV_lt _ _
    · rw [askA_o (by omega)]; exact h.asked a ha
  · intro a ha; rw [askA_o (by omega)]; exact h.peak a ha
  · intro a ha; rw [askA_o (by omega), askA_o (i := 60 + a) (by omega)]; exact h.fp a ha
  · intro a ha; rw [askA_o (by omega)]; exact h.was a ha
  · intro a ha; rw [askA_o (by omega)]; exact h.cnt a ha
  · intro a ha; rw [askA_o (by omega)]; exact h.rate a ha
  · intro a ha; rw [askA_o (by omega)]; exact h.target a ha
  · intro a ha; rw [askA_o (by omega)]; exact h.on a ha
  · intro a ha; rw [askA_o (by omega)]; exact h.credit a ha
  · intro a ha; rw [askA_o (by omega)]; exact h.byc a ha
  · intro a ha; rw [askA_o (by omega)]; exact h.byt a ha
  · exact h.q.congr (fun i hi => askA_o (by omega))
theorem Mv.ask {π : Pl} (O : π.ok) {X : Nat → Nat} {l : Nat} (hl : l < 10) (h : Mv π π.nl X) : Mv π π.nl (askA l X) := by
  have hnl := O.nl
  have hnf := O.nf
  intro a f ha hf
  rw [askA_o (by omega), askA_o (by omega)]
  exact h a f ha hf
