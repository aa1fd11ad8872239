/-! ===== fair shares: filling up, once and for all ===== -/
def onL (π : Pl) (l f : Nat) : Bool := decide (π.pv l f ≠ 0)
def hsF (π : Pl) (H : Nat → Bool) (p : Nat → Nat) (l f : Nat) : Nat := if onL π l f = true ∧ H f = true then p f else 0
def grF (π : Pl) (H : Nat → Bool) (l f : Nat) : Nat := if onL π l f = true ∧ H f = false then 1 else 0
def hsL (π : Pl) (H : Nat → Bool) (p : Nat → Nat) (l : Nat) : Nat := sm π.nf (hsF π H p l)
def grL (π : Pl) (H : Nat → Bool) (l : Nat) : Nat := sm π.nf (grF π H l)
def cnH (π : Pl) (H : Nat → Bool) : Nat := sm π.nf (fun f => if H f = true then 1 else 0)
theorem grL_0 {π : Pl} {H : Nat → Bool} {l : Nat} (h : grL π H l = 0) : ∀ f, f < π.nf → onL π l f = true → H f = true := by
  intro f hf ho
  have := sm_le (f := grF π H l) hf
  unfold grL at h
  cases hH : H f with
  | true => rfl
  | false =>
    have e : grF π H l f = 1 := by unfold grF; rw [if_pos ⟨ho, hH⟩]
    rw [e] at this
    omega
def WL (π : Pl) (X : Nat → Nat) (D : Nat) (p : Nat → Nat) (H : Nat → Bool) (s : Nat) : Prop := (1 ≤ D) ∧ (D ≤ 2 ^ cnH π H) ∧ (∀ f, f < π.nf → X (264 + f) ≠ 1 → H f = true ∧ p f = 0) ∧ (∀ f, f < π.nf → H f = true → p f ≤ s) ∧ (∀ l, l < π.nl → hsL π H p l + grL π H l * s ≤ π.cap l * D) ∧ (∀ f, f < π.nf → X (264 + f) = 1 → H f = true → ∃ l, l < π.nl ∧ onL π l f = true ∧ grL π H l = 0 ∧ hsL π H p l = π.cap l * D ∧ ∀ g, g < π.nf → onL π l g = true → p g ≤ p f)
theorem WL.mk {π : Pl} {X : Nat → Nat} {D : Nat} {p : Nat → Nat} {H : Nat → Bool} {s : Nat} (h_d1 : 1 ≤ D) (h_d2 : D ≤ 2 ^ cnH π H) (h_off : ∀ f, f < π.nf → X (264 + f) ≠ 1 → H f = true ∧ p f = 0) (h_le : ∀ f, f < π.nf → H f = true → p f ≤ s) (h_fit : ∀ l, l < π.nl → hsL π H p l + grL π H l * s ≤ π.cap l * D) (h_bn : ∀ f, f < π.nf → X (264 + f) = 1 → H f = true → ∃ l, l < π.nl ∧ onL π l f = true ∧ grL π H l = 0 ∧ hsL π H p l = π.cap l * D ∧ ∀ g, g < π.nf → onL π l g = true → p g ≤ p f) : WL π X D p H s := ⟨h_d1, h_d2, h_off, h_le, h_fit, h_bn⟩
theorem WL.d1 {π : Pl} {X : Nat → Nat} {D : Nat} {p : Nat → Nat} {H : Nat → Bool} {s : Nat} (h : WL π X D p H s) : 1 ≤ D := h.1
theorem WL.d2 {π : Pl} {X : Nat → Nat} {D : Nat} {p : Nat → Nat} {H : Nat → Bool} {s : Nat} (h : WL π X D p H s) : D ≤ 2 ^ cnH π H := h.2.1
theorem WL.off {π : Pl} {X : Nat → Nat} {D : Nat} {p : Nat → Nat} {H : Nat → Bool} {s : Nat} (h : WL π X D p H s) : ∀ f, f < π.nf → X (264 + f) ≠ 1 → H f = true ∧ p f = 0 := h.2.2.1
theorem WL.le {π : Pl} {X : Nat → Nat} {D : Nat} {p : Nat → Nat} {H : Nat → Bool} {s : Nat} (h : WL π X D p H s) : ∀ f, f < π.nf → H f = true → p f ≤ s := h.2.2.2.1
theorem WL.fit {π : Pl} {X : Nat → Nat} {D : Nat} {p : Nat → Nat} {H : Nat → Bool} {s : Nat} (h : WL π X D p H s) : ∀ l, l < π.nl → hsL π H p l + grL π H l * s ≤ π.cap l * D := h.2.2.2.2.1
theorem WL.bn {π : Pl} {X : Nat → Nat} {D : Nat} {p : Nat → Nat} {H : Nat → Bool} {s : Nat} (h : WL π X D p H s) : ∀ f, f < π.nf → X (264 + f) = 1 → H f = true → ∃ l, l < π.nl ∧ onL π l f = true ∧ grL π H l = 0 ∧ hsL π H p l = π.cap l * D ∧ ∀ g, g < π.nf → onL π l g = true → p g ≤ p f := h.2.2.2.2.2
/-- a level up: the flows of one link, or of all that fill there -/
theorem WL.up {π : Pl} {X : Nat → Nat} {D s l0 : Nat} {p : Nat → Nat} {H H' : Nat → Bool} (h : WL π X D p H s) (hl0 : l0 < π.nl) (hg : 0 < grL π H l0)
    (hmin : ∀ l, l < π.nl → 0 < grL π H l → (π.cap l0 * D - hsL π H p l0) * grL π H l ≤ (π.cap l * D - hsL π H p l) * grL π H l0)
    (hH : ∀ f, f < π.nf → H f = true → H' f = true)
    (hl0' : ∀ f, f < π.nf → onL π l0 f = true → H' f = true)
    (hnew : ∀ f, f < π.nf → H f = false → H' f = true → ∃ l, l < π.nl ∧ onL π l f = true ∧ (π.cap l0 * D - hsL π H p l0) * grL π H l = (π.cap l * D - hsL π H p l) * grL π H l0 ∧ ∀ g, g < π.nf → onL π l g = true → H' g = true) :
    WL π X (D * grL π H l0) (fun f => if H f = true then p f * grL π H l0 else if H' f = true then π.cap l0 * D - hsL π H p l0 else 0) H' (π.cap l0 * D - hsL π H p l0) := by
  have hfit0 := h.fit l0 hl0
  generalize hge : grL π H l0 = g0 at *
  generalize hFe : π.cap l0 * D - hsL π H p l0 = F0 at *
  have hF0 : g0 * s ≤ F0 := by omega
  have hle' : ∀ f, f < π.nf → H f = true → p f * g0 ≤ F0 := fun f hf hHf => by
    have := Nat.mul_le_mul_right g0 (h.le f hf hHf)
    have e : s * g0 = g0 * s := Nat.mul_comm _ _
    omega
  -- sums of a link
  have hsum : ∀ l, l < π.nl → hsL π H' (fun f => if H f = true then p f * g0 else if H' f = true then F0 else 0) l + grL π H' l * F0 = hsL π H p l * g0 + grL π H l * F0 := by
    intro l hl
    unfold hsL grL
    rw [← sm_mul, ← sm_mul, ← sm_mul, ← sm_add, ← sm_add]
    apply sm_congr
    intro f hf
    unfold hsF grF
    cases ho : onL π l f with
    | false => simp
    | true =>
      cases hHf : H f with
      | true =>
        have := hH f hf hHf
        simp [hHf, this]
      | false =>
        cases hHf' : H' f with
        | true => simp [hHf, hHf']
        | false => simp [hHf, hHf']
  refine WL.mk ?_ ?_ ?_ ?_ ?_ ?_
  · have := Nat.mul_le_mul h.d1 (show 1 ≤ g0 by omega)
    omega
  · -- as many more are held
    have h1 : cnH π H + g0 ≤ cnH π H' := by
      rw [← hge]
      unfold cnH grL
      rw [← sm_add]
      apply sm_mono
      intro f hf
      unfold grF
      cases hHf : H f with
      | true => simp [hH f hf hHf]
      | false =>
        cases ho : onL π l0 f with
        | true => simp [hl0' f hf ho]
        | false => simp
    have h2 : g0 ≤ 2 ^ g0 := Nat.le_of_lt Nat.lt_two_pow_self
    have h3 := Nat.mul_le_mul h.d2 h2
    rw [← Nat.pow_add] at h3
    exact Nat.le_trans h3 (Nat.pow_le_pow_right (by decide) h1)
  · intro f hf hoff
    obtain ⟨q1, q2⟩ := h.off f hf hoff
    refine ⟨hH f hf q1, ?_⟩
    rw [if_pos q1, q2, Nat.zero_mul]
  · intro f hf hHf'
    split
    · rename_i q; exact hle' f hf q
    · exact Nat.le_refl _
  · intro l hl
    rw [hsum l hl]
    have q := h.fit l hl
    by_cases z : grL π H l = 0
    · rw [z, Nat.zero_mul, Nat.add_zero]
      rw [z, Nat.zero_mul, Nat.add_zero] at q
      have := Nat.mul_le_mul_right g0 q
      rw [Nat.mul_assoc] at this
      exact this
    · have q2 := hmin l hl (by omega)
      have q3 : hsL π H p l ≤ π.cap l * D := by omega
      have q4 : (π.cap l * D - hsL π H p l) * g0 = π.cap l * D * g0 - hsL π H p l * g0 := Nat.sub_mul _ _ _
      have q5 := Nat.mul_le_mul_right g0 q3
      rw [Nat.mul_comm F0] at q2
      rw [Nat.mul_assoc] at q4 q5
      rw [← Nat.mul_assoc] at q5 q4
      rw [← Nat.mul_assoc]
      omega
  · intro f hf hon hHf'
    cases hHf : H f with
    | true =>
      obtain ⟨l, q1, q2, q3, q4, q5⟩ := h.bn f hf hon hHf
      have hall := grL_0 q3
      refine ⟨l, q1, q2, ?_, ?_, ?_⟩
      · have : ∀ f, f < π.nf → grF π H' l f = 0 := fun f hf => by
          unfold grF
          rw [if_neg]
          rintro ⟨z1, z2⟩
          rw [hH f hf (hall f hf z1)] at z2
          cases z2
        unfold grL
        rw [sm_congr this]
        exact sm_zero
      · have e := hsum l q1
        have z : grL π H' l = 0 := by
          have : ∀ f, f < π.nf → grF π H' l f = 0 := fun f hf => by
            unfold grF
            rw [if_neg]
            rintro ⟨z1, z2⟩
            rw [hH f hf (hall f hf z1)] at z2
            cases z2
          unfold grL
          rw [sm_congr this]
          exact sm_zero
        rw [z, q3, q4] at e
        simp only [Nat.zero_mul, Nat.add_zero] at e
        rw [e, Nat.mul_assoc]
      · intro g hg ho
        rw [if_pos (hall g hg ho), if_pos rfl]
        exact Nat.mul_le_mul_right _ (q5 g hg ho)
    | false =>
      obtain ⟨l, q1, q2, q3, q4⟩ := hnew f hf hHf hHf'
      have z : grL π H' l = 0 := by
        have : ∀ f, f < π.nf → grF π H' l f = 0 := fun f hf => by
          unfold grF
          rw [if_neg]
          rintro ⟨z1, z2⟩
          rw [q4 f hf z1] at z2
          cases z2
        unfold grL
        rw [sm_congr this]
        exact sm_zero
      refine ⟨l, q1, q2, z, ?_, ?_⟩
      · have e := hsum l q1
        rw [z, Nat.zero_mul, Nat.add_zero] at e
        have q5 := h.fit l q1
        have q6 : hsL π H p l ≤ π.cap l * D := by omega
        have q7 : (π.cap l * D - hsL π H p l) * g0 = π.cap l * D * g0 - hsL π H p l * g0 := Nat.sub_mul _ _ _
        have q8 := Nat.mul_le_mul_right g0 q6
        rw [Nat.mul_comm F0] at q3
        rw [e, ← Nat.mul_assoc]
        omega
      · intro g hg ho
        rw [if_neg (show ¬ (false = true) by decide), if_pos hHf']
        cases hHg : H g with
        | true => rw [if_pos rfl]; exact hle' g hg hHg
        | false => rw [if_neg (by decide), if_pos (q4 g hg ho)]; exact Nat.le_refl _
/-- one filling alone -/
theorem fill_one {π : Pl} {X V W C : Nat → Nat} (hV0 : ∀ f, f < π.nf → X (264 + f) ≠ 1 → V f = 0 ∧ W f = 0)
    (hV : ∀ l, l < π.nl → sm π.nf (fun f => if onL π l f = true then V f else 0) ≤ C l)
    (hW : ∀ l, l < π.nl → sm π.nf (fun f => if onL π l f = true then W f else 0) ≤ C l)
    (bV : ∀ f, f < π.nf → X (264 + f) = 1 → ∃ l, l < π.nl ∧ onL π l f = true ∧ sm π.nf (fun f => if onL π l f = true then V f else 0) = C l ∧ ∀ g, g < π.nf → onL π l g = true → V g ≤ V f)
    (bW : ∀ f, f < π.nf → X (264 + f) = 1 → ∃ l, l < π.nl ∧ onL π l f = true ∧ sm π.nf (fun f => if onL π l f = true then W f else 0) = C l ∧ ∀ g, g < π.nf → onL π l g = true → W g ≤ W f) : ∀ f, f < π.nf → V f = W f := by
  have one : ∀ (V W : Nat → Nat) m f, (∀ l, l < π.nl → sm π.nf (fun f => if onL π l f = true then W f else 0) ≤ C l) → (∀ f, f < π.nf → X (264 + f) = 1 → ∃ l, l < π.nl ∧ onL π l f = true ∧ sm π.nf (fun f => if onL π l f = true then V f else 0) = C l ∧ ∀ g, g < π.nf → onL π l g = true → V g ≤ V f) → f < π.nf → X (264 + f) = 1 → V f = m → m < W f → (∀ g, g < π.nf → V g ≠ W g → m ≤ V g ∧ m ≤ W g) → False := by
    intro V W m f hW bV hf hon hVf hlt hmin
    obtain ⟨l, q1, q2, q3, q4⟩ := bV f hf hon
    have hle : ∀ g, g < π.nf → (if onL π l g = true then V g else 0) ≤ (if onL π l g = true then W g else 0) := by
      intro g hg
      by_cases c : onL π l g = true
      · rw [if_pos c, if_pos c]
        have z := q4 g hg c
        by_cases e : V g = W g
        · omega
        · have := hmin g hg e; omega
      · rw [if_neg c, if_neg c]; exact Nat.le_refl _
    have hlt2 : sm π.nf (fun f => if onL π l f = true then V f else 0) < sm π.nf (fun f => if onL π l f = true then W f else 0) := by
      have hm := sm_mono (n := π.nf) hle
      apply Nat.lt_of_le_of_ne hm
      intro e
      have := sm_eq (n := π.nf) hle e f hf
      rw [if_pos q2, if_pos q2] at this
      omega
    have := hW l q1
    omega
  have key : ∀ m f, f < π.nf → (V f = m ∨ W f = m) → V f = W f := by
    intro m
    induction m using Nat.strongRecOn with
    | _ m ih =>
      intro f hf hm
      apply Classical.byContradiction
      intro hne
      have hmin : ∀ g, g < π.nf → V g ≠ W g → m ≤ V g ∧ m ≤ W g := by
        intro g hg hgne
        refine ⟨?_, ?_⟩
        · by_cases c : m ≤ V g
          · exact c
          · exact absurd (ih (V g) (by omega) g hg (Or.inl rfl)) hgne
        · by_cases c : m ≤ W g
          · exact c
          · exact absurd (ih (W g) (by omega) g hg (Or.inr rfl)) hgne
      have hon : X (264 + f) = 1 := by
        apply Classical.byContradiction
        intro c
        have := hV0 f hf c
        omega
      have hm2 := hmin f hf hne
      rcases hm with hm | hm
      · exact one V W m f hW bV hf hon hm (by omega) hmin
      · exact one W V m f hV bW hf hon hm (by omega) (fun g hg hgne => (hmin g hg (fun z => hgne z.symm)).symm)
  exact fun f hf => key (V f) f hf (Or.inl rfl)
theorem WL.done {π : Pl} {X : Nat → Nat} {D s : Nat} {p : Nat → Nat} {H : Nat → Bool} (O : π.ok) (h : WL π X D p H s) (hd : ∀ l, l < π.nl → grL π H l = 0) : (∀ f, f < π.nf → H f = true) ∧ (∀ l, hsL π H p l = sm π.nf (fun f => if onL π l f = true then p f else 0)) := by
  have hall : ∀ f, f < π.nf → H f = true := by
    intro f hf
    have hh := O.hops f hf
    have hl := O.path f 0 hf (by omega)
    have := (Pl.pv_first O hf (l := π.path f 0)).mpr rfl
    exact grL_0 (hd _ hl) f hf (decide_eq_true (by omega))
  refine ⟨hall, fun l => sm_congr (fun f hf => ?_)⟩
  unfold hsF
  by_cases c : onL π l f = true
  · rw [if_pos c, if_pos ⟨c, hall f hf⟩]
  · rw [if_neg c, if_neg (fun z => c z.1)]
theorem WL.one {π : Pl} {X : Nat → Nat} {D D' s s' : Nat} {p p' : Nat → Nat} {H H' : Nat → Bool} (O : π.ok) (h : WL π X D p H s) (h' : WL π X D' p' H' s') (hd : ∀ l, l < π.nl → grL π H l = 0) (hd' : ∀ l, l < π.nl → grL π H' l = 0) : ∀ f, f < π.nf → p f * D' = p' f * D := by
  obtain ⟨a1, a2⟩ := h.done O hd
  obtain ⟨b1, b2⟩ := h'.done O hd'
  have sc : ∀ l (q : Nat → Nat) k, sm π.nf (fun f => if onL π l f = true then q f * k else 0) = sm π.nf (fun f => if onL π l f = true then q f else 0) * k := by
    intro l q k
    rw [← sm_mul]
    apply sm_congr
    intro f hf
    by_cases c : onL π l f = true
    · rw [if_pos c, if_pos c]
    · rw [if_neg c, if_neg c, Nat.zero_mul]
  refine fill_one (X := X) (V := fun f => p f * D') (W := fun f => p' f * D) (C := fun l => π.cap l * D * D') ?_ ?_ ?_ ?_ ?_
  · intro f hf hoff
    have q1 := (h.off f hf hoff).2
    have q2 := (h'.off f hf hoff).2
    simp [q1, q2]
  · intro l hl
    have := h.fit l hl
    rw [hd l hl, Nat.zero_mul, Nat.add_zero, a2] at this
    have q := sc l p D'
    rw [q]
    exact Nat.mul_le_mul_right _ this
  · intro l hl
    have := h'.fit l hl
    rw [hd' l hl, Nat.zero_mul, Nat.add_zero, b2] at this
    have q := sc l p' D
    rw [q, Nat.mul_assoc, Nat.mul_comm D D', ← Nat.mul_assoc]
    exact Nat.mul_le_mul_right _ this
  · intro f hf hon
    obtain ⟨l, q1, q2, _, q4, q5⟩ := h.bn f hf hon (a1 f hf)
    refine ⟨l, q1, q2, ?_, fun g hg ho => Nat.mul_le_mul_right _ (q5 g hg ho)⟩
    have q := sc l p D'
    rw [q, ← a2, q4]
  · intro f hf hon
    obtain ⟨l, q1, q2, _, q4, q5⟩ := h'.bn f hf hon (b1 f hf)
    refine ⟨l, q1, q2, ?_, fun g hg ho => Nat.mul_le_mul_right _ (q5 g hg ho)⟩
    have q := sc l p' D
    rw [q, ← b2, q4, Nat.mul_assoc, Nat.mul_comm D' D, ← Nat.mul_assoc]
theorem cnH_le (π : Pl) (H : Nat → Bool) : cnH π H ≤ π.nf := by
  have h1 := sm_b (n := π.nf) (b := 1) (X := fun f => if H f = true then 1 else 0) (fun g _ => by split <;> omega)
  unfold cnH
  omega
theorem WL.D {π : Pl} {X : Nat → Nat} {D s : Nat} {p : Nat → Nat} {H : Nat → Bool} (O : π.ok) (h : WL π X D p H s) : D ≤ 256 := by
  have h1 := cnH_le π H
  have h2 := O.nf
  have h3 : 2 ^ cnH π H ≤ 2 ^ 8 := Nat.pow_le_pow_right (by decide) (by omega)
  have := h.d2
  omega
theorem grL_le (π : Pl) (H : Nat → Bool) (l : Nat) : grL π H l ≤ π.nf := by
  have h1 := sm_b (n := π.nf) (b := 1) (X := grF π H l) (fun g _ => by unfold grF; split <;> omega)
  unfold grL
  omega
theorem WL.b {π : Pl} {X : Nat → Nat} {D s : Nat} {p : Nat → Nat} {H : Nat → Bool} (O : π.ok) (h : WL π X D p H s) {l : Nat} (hl : l < π.nl) : hsL π H p l ≤ π.cap l * D ∧ π.cap l * D ≤ 16384 := by
  have h1 := h.fit l hl
  have h2 := h.D O
  have h3 := (O.cap l hl).2
  have h4 := Nat.mul_le_mul h3 h2
  omega
/-- each flow's part is bounded by a link of it -/
theorem WL.p {π : Pl} {X : Nat → Nat} {D s : Nat} {p : Nat → Nat} {H : Nat → Bool} (O : π.ok) (h : WL π X D p H s) {f : Nat} (hf : f < π.nf) (hH : H f = true) : p f ≤ 16384 := by
  have hh := O.hops f hf
  have hl := O.path f 0 hf (by omega)
  have ho : onL π (π.path f 0) f = true := decide_eq_true (by have := (Pl.pv_first O hf (l := π.path f 0)).mpr rfl; omega)
  have h1 := h.b O hl
  have h2 := sm_le (f := hsF π H p (π.path f 0)) hf
  have e : hsF π H p (π.path f 0) f = p f := by unfold hsF; rw [if_pos ⟨ho, hH⟩]
  rw [e] at h2
  unfold hsL at h1
  omega
