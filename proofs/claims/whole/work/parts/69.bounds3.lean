/-! ===== a tick of the class: sampling and recovering keep the bounds; the tick ===== -/
theorem up1_o {i j : Nat} {X : Nat → Nat} (h : j ≠ i) : up1 i X j = X j := upN_n h
theorem up1_s {i : Nat} {X : Nat → Nat} : up1 i X i = X i + 1 := upN_s
theorem sampL_o {π : Pl} {l i : Nat} {X : Nat → Nat} (h : i ≠ 100 + l ∧ i ≠ 70 + l ∧ i ≠ 110 + l ∧ i ≠ 80 + l) : sampL π l X i = X i := by
  unfold sampL
  split
  · rw [upN_n (by omega)]
  · split
    · rw [upN_n (by omega), up1_o (by omega), upN_n (by omega)]
    · rw [up1_o (by omega), upN_n (by omega), up1_o (by omega), upN_n (by omega)]
theorem obA_o {f n i : Nat} {X : Nat → Nat} (h : i ≠ 256 + f ∧ i ≠ 208 + f ∧ i ≠ 200 + f ∧ i ≠ 216 + f ∧ i ≠ 224 + f ∧ i ≠ 280 + f ∧ i ≠ 288 + f) : obA f n X i = X i := by
  unfold obA
  rw [upN_n (by omega), upN_n (by omega), upN_n (by omega), upN_n (by omega), upN_n (by omega), upN_n (by omega), upN_n (by omega)]
theorem obA_b {f n : Nat} {X : Nat → Nat} (h : X (200 + f) ≤ 1024) : obA f n X (200 + f) ≤ 1024 ∧ obA f n X (208 + f) ≤ 1024 ∧ obA f n X (280 + f) = 0 ∧ obA f n X (288 + f) = 0 ∧ obA f n X (216 + f) = 0 ∧ obA f n X (224 + f) = 0 := by
  unfold obA
  refine ⟨?_, ?_, ?_, ?_, ?_, ?_⟩
  · rw [upN_n (by omega), upN_n (by omega), upN_n (by omega), upN_n (by omega), upN_s]
    split <;> omega
  · rw [upN_n (by omega), upN_n (by omega), upN_n (by omega), upN_n (by omega), upN_n (by omega), upN_s]; exact h
  · rw [upN_n (by omega), upN_s]
  · rw [upN_s]
  · rw [upN_n (by omega), upN_n (by omega), upN_n (by omega), upN_s]
  · rw [upN_n (by omega), upN_n (by omega), upN_s]
theorem sampA_o {π : Pl} (O : π.ok) {l i : Nat} {X : Nat → Nat} (hl : l < 10) (h : i < 70 ∨ (70 ≤ i ∧ i < 120 ∧ i ≠ 100 + l ∧ i ≠ 70 + l ∧ i ≠ 110 + l ∧ i ≠ 80 + l) ∨ (120 ≤ i ∧ i < 200) ∨ (232 ≤ i ∧ i < 256) ∨ (264 ≤ i ∧ i < 280) ∨ 296 ≤ i) : sampA π l X i = X i := by
  have hnf := O.nf
  have hle := smM_le π l X π.nf
  unfold sampA
  split
  · exact sampL_o (by omega)
  · rename_i hc
    have h0 : smM π l X π.nf ≠ 0 := by
      intro e
      apply hc
      unfold sampN
      rw [if_pos e]
    rw [obA_o (by omega), sampL_o (by omega)]
theorem smM_0 {π : Pl} {l : Nat} {X : Nat → Nat} (h0 : X (100 + l) < π.each) {k : Nat} (h : smM π l X k = 0) : smC l X k < π.each := by
  cases k with
  | zero => exact h0
  | succ k =>
    rw [smM_s] at h
    split at h
    · omega
    · split at h
      · omega
      · omega
theorem sampL_cnt {π : Pl} (O : π.ok) {l : Nat} {X : Nat → Nat} (h0 : X (100 + l) < π.each) : sampL π l X (100 + l) < π.each := by
  have he := O.each
  unfold sampL
  split
  · rename_i h
    rw [upN_s]; exact smM_0 h0 h
  · have hm := Nat.mod_lt (smC l X π.nf) (show 0 < π.each by omega)
    split
    · rw [upN_n (by omega), up1_o (by omega), upN_s]; exact hm
    · rw [up1_o (by omega), upN_n (by omega), up1_o (by omega), upN_s]; exact hm
theorem sampL_was {π : Pl} {l : Nat} {X : Nat → Nat} (h1 : X (110 + l) ≤ 1999) (h2 : X (30 + l) ≤ 1999) : sampL π l X (110 + l) ≤ 1999 := by
  unfold sampL
  split
  · rw [upN_n (by omega)]; exact h1
  · split
    · rw [upN_s]; exact h2
    · rw [up1_o (by omega), upN_s]; exact h2
theorem J.smL {π : Pl} (O : π.ok) {X : Nat → Nat} (h : J π X) {l : Nat} (hl : l < π.nl) : J π (sampL π l X) := by
  have hnl := O.nl
  have hnf := O.nf
  refine J.mk ?_ ?_ ?_ ?_ ?_ ?_ ?_ ?_ ?_ ?_ ?_ ?_ ?_ ?_ ?_ ?_
  · intro a ha; rw [sampL_o (by omega)]; exact h.xoff a ha
  · intro a ha; rw [sampL_o (by omega)]; exact h.xon a ha
  · intro a ha; rw [sampL_o (by omega)]; exact h.size a ha
  · intro a ha; rw [sampL_o (by omega)]; exact h.fill a ha
  · intro a ha; rw [sampL_o (by omega)]; exact h.asked a ha
  · intro a ha; rw [sampL_o (by omega)]; exact h.peak a ha
  · intro a ha; rw [sampL_o (by omega), sampL_o (i := 60 + a) (by omega)]; exact h.fp a ha
  · intro a ha
    by_cases e : a = l
    · subst e; exact sampL_was (h.was a ha) (h.fill a ha)
    · rw [sampL_o (by omega)]; exact h.was a ha
  · intro a ha
    by_cases e : a = l
    · subst e; exact sampL_cnt O (h.cnt a ha)
    · rw [sampL_o (by omega)]; exact h.cnt a ha
  · intro a ha; rw [sampL_o (by omega)]; exact h.rate a ha
  · intro a ha; rw [sampL_o (by omega)]; exact h.target a ha
  · intro a ha; rw [sampL_o (by omega)]; exact h.on a ha
  · intro a ha; rw [sampL_o (by omega)]; exact h.credit a ha
  · intro a ha; rw [sampL_o (by omega)]; exact h.byc a ha
  · intro a ha; rw [sampL_o (by omega)]; exact h.byt a ha
  · exact h.q.congr (fun i hi => sampL_o (by omega))
theorem J.ob {π : Pl} (O : π.ok) {X : Nat → Nat} (h : J π X) {f n : Nat} (hf : f < 8) : J π (obA f n X) := by
  have hnl := O.nl
  have hnf := O.nf
  have hc := O.cells
  have ht := O.ticks
  obtain ⟨b1, b2, b3, b4, _, _⟩ := obA_b (n := n) (h.rate f hf)
  refine J.mk ?_ ?_ ?_ ?_ ?_ ?_ ?_ ?_ ?_ ?_ ?_ ?_ ?_ ?_ ?_ ?_
  · intro a ha; rw [obA_o (by omega)]; exact h.xoff a ha
  · intro a ha; rw [obA_o (by omega)]; exact h.xon a ha
  · intro a ha; rw [obA_o (by omega)]; exact h.size a ha
  · intro a ha; rw [obA_o (by omega)]; exact h.fill a ha
  · intro a ha; rw [obA_o (by omega)]; exact h.asked a ha
  · intro a ha; rw [obA_o (by omega)]; exact h.peak a ha
  · intro a ha; rw [obA_o (by omega), obA_o (i := 60 + a) (by omega)]; exact h.fp a ha
  · intro a ha; rw [obA_o (by omega)]; exact h.was a ha
  · intro a ha; rw [obA_o (by omega)]; exact h.cnt a ha
  · intro a ha
    by_cases e : a = f
    · subst e; exact b1
    · rw [obA_o (by omega)]; exact h.rate a ha
  · intro a ha
    by_cases e : a = f
    · subst e; exact b2
    · rw [obA_o (by omega)]; exact h.target a ha
  · intro a ha; rw [obA_o (by omega)]; exact h.on a ha
  · intro a ha; rw [obA_o (by omega)]; exact h.credit a ha
  · intro a ha
    by_cases e : a = f
    · subst e; rw [b3]; omega
    · rw [obA_o (by omega)]; exact h.byc a ha
  · intro a ha
    by_cases e : a = f
    · subst e; rw [b4]; omega
    · rw [obA_o (by omega)]; exact h.byt a ha
  · exact h.q.congr (fun i hi => obA_o (by omega))
theorem J.smp {π : Pl} (O : π.ok) {X : Nat → Nat} (h : J π X) {l : Nat} (hl : l < π.nl) : J π (sampA π l X) := by
  have hnf := O.nf
  have hle := smM_le π l X π.nf
  unfold sampA
  split
  · exact h.smL O hl
  · rename_i hc
    have h0 : smM π l X π.nf ≠ 0 := by
      intro e
      apply hc
      unfold sampN
      rw [if_pos e]
    exact (h.smL O hl).ob O (by omega)
theorem Mv.smp {π : Pl} (O : π.ok) {X : Nat → Nat} {l : Nat} (hl : l < 10) (h : Mv π π.nl X) : Mv π π.nl (sampA π l X) := by
  have hnl := O.nl
  have hnf := O.nf
  intro a f ha hf
  rw [sampA_o O hl (by omega), sampA_o O hl (by omega)]
  exact h a f ha hf
/-- stages do not grow by sampling -/
theorem sampA_st {π : Pl} (O : π.ok) {X : Nat → Nat} {l g : Nat} (hl : l < 10) (hg : g < 8) : sampA π l X (216 + g) ≤ X (216 + g) ∧ sampA π l X (224 + g) ≤ X (224 + g) := by
  have hnf := O.nf
  have hle := smM_le π l X π.nf
  unfold sampA
  split
  · rw [sampL_o (by omega), sampL_o (by omega)]; omega
  · rename_i hc
    generalize hf : smM π l X π.nf - 1 = f
    by_cases e : g = f
    · subst e
      have h216 : ∀ n Y, obA g n Y (216 + g) = 0 ∧ obA g n Y (224 + g) = 0 := by
        intro n Y
        unfold obA
        refine ⟨?_, ?_⟩
        · rw [upN_n (by omega), upN_n (by omega), upN_n (by omega), upN_s]
        · rw [upN_n (by omega), upN_n (by omega), upN_s]
      rw [(h216 _ _).1, (h216 _ _).2]
      omega
    · rw [obA_o (by omega), obA_o (by omega), sampL_o (by omega), sampL_o (by omega)]; omega
/-! recovering -/
def rcC (π : Pl) (f : Nat) (X : Nat → Nat) : Nat := X (280 + f) + X (380 + f)
def rcB (π : Pl) (f : Nat) (X : Nat → Nat) : Nat → Nat := up1 (288 + f) (upN (clC π f (rcC π f X / π.cells) X) (280 + f) (rcC π f X % π.cells))
theorem recA_e {π : Pl} {f : Nat} {X : Nat → Nat} : recA π f X = if X (288 + f) + 1 = π.ticks then clA π f (up1 (224 + f) (upN (rcB π f X) (288 + f) 0)) else rcB π f X := by
  have e : rcB π f X (288 + f) = X (288 + f) + 1 := by
    unfold rcB
    rw [up1_s, upN_n (by omega), clC_o (by omega) (by omega) (by omega)]
  rw [← e]
  rfl
theorem rcB_o {π : Pl} {f i : Nat} {X : Nat → Nat} (h : i ≠ 208 + f ∧ i ≠ 200 + f ∧ i ≠ 216 + f ∧ i ≠ 280 + f ∧ i ≠ 288 + f) : rcB π f X i = X i := by
  unfold rcB
  rw [up1_o (by omega), upN_n (by omega), clC_o (by omega) (by omega) (by omega)]
theorem recA_o {π : Pl} {f i : Nat} {X : Nat → Nat} (h : i ≠ 208 + f ∧ i ≠ 200 + f ∧ i ≠ 216 + f ∧ i ≠ 224 + f ∧ i ≠ 280 + f ∧ i ≠ 288 + f) : recA π f X i = X i := by
  rw [recA_e]
  split
  · rw [clA_o (by omega) (by omega), up1_o (by omega), upN_n (by omega), rcB_o (by omega)]
  · exact rcB_o (by omega)
theorem recA_b {π : Pl} (O : π.ok) {f : Nat} {X : Nat → Nat} (hr : X (200 + f) ≤ 1024) (ht : X (208 + f) ≤ 1024) (hy : X (288 + f) < π.ticks) : recA π f X (200 + f) ≤ 1024 ∧ recA π f X (208 + f) ≤ 1024 ∧ recA π f X (280 + f) < π.cells ∧ recA π f X (288 + f) < π.ticks ∧ recA π f X (216 + f) ≤ X (216 + f) + rcC π f X / π.cells ∧ recA π f X (224 + f) ≤ X (224 + f) + 1 := by
  have hc := O.cells
  have hk := O.ticks
  have b1 := clC_b (π := π) (f := f) (k := rcC π f X / π.cells) hr ht
  have hm := Nat.mod_lt (rcC π f X) (show 0 < π.cells by omega)
  have r1 : rcB π f X (200 + f) ≤ 1024 := by unfold rcB; rw [up1_o (by omega), upN_n (by omega)]; exact b1.1
  have r2 : rcB π f X (208 + f) ≤ 1024 := by unfold rcB; rw [up1_o (by omega), upN_n (by omega)]; exact b1.2
  have r3 : rcB π f X (280 + f) = rcC π f X % π.cells := by unfold rcB; rw [up1_o (by omega), upN_s]
  have r4 : rcB π f X (288 + f) = X (288 + f) + 1 := by unfold rcB; rw [up1_s, upN_n (by omega), clC_o (by omega) (by omega) (by omega)]
  have r5 : rcB π f X (216 + f) = X (216 + f) + rcC π f X / π.cells := by unfold rcB; rw [up1_o (by omega), upN_n (by omega), clC_c]
  have r6 : rcB π f X (224 + f) = X (224 + f) := rcB_o (by omega)
  rw [recA_e]
  split
  · refine ⟨clA_r ?_, clA_t _ _ _, ?_, ?_, ?_, ?_⟩
    · rw [up1_o (by omega), upN_n (by omega)]; exact r1
    · rw [clA_o (by omega) (by omega), up1_o (by omega), upN_n (by omega), r3]; exact hm
    · rw [clA_o (by omega) (by omega), up1_o (by omega), upN_s]; omega
    · rw [clA_o (by omega) (by omega), up1_o (by omega), upN_n (by omega), r5]; exact Nat.le_refl _
    · rw [clA_o (by omega) (by omega), up1_s, upN_n (by omega), r6]; exact Nat.le_refl _
  · rw [r3, r4, r5, r6]
    exact ⟨r1, r2, hm, by omega, Nat.le_refl _, by omega⟩
theorem J.rcv {π : Pl} (O : π.ok) {X : Nat → Nat} (h : J π X) {f : Nat} (hf : f < π.nf) : J π (recA π f X) := by
  have hnl := O.nl
  have hnf := O.nf
  obtain ⟨b1, b2, b3, b4, _, _⟩ := recA_b O (h.rate f (by omega)) (h.target f (by omega)) (h.byt f hf)
  refine J.mk ?_ ?_ ?_ ?_ ?_ ?_ ?_ ?_ ?_ ?_ ?_ ?_ ?_ ?_ ?_ ?_
  · intro a ha; rw [recA_o (by omega)]; exact h.xoff a ha
  · intro a ha; rw [recA_o (by omega)]; exact h.xon a ha
  · intro a ha; rw [recA_o (by omega)]; exact h.size a ha
  · intro a ha; rw [recA_o (by omega)]; exact h.fill a ha
  · intro a ha; rw [recA_o (by omega)]; exact h.asked a ha
  · intro a ha; rw [recA_o (by omega)]; exact h.peak a ha
  · intro a ha; rw [recA_o (by omega), recA_o (i := 60 + a) (by omega)]; exact h.fp a ha
  · intro a ha; rw [recA_o (by omega)]; exact h.was a ha
  · intro a ha; rw [recA_o (by omega)]; exact h.cnt a ha
  · intro a ha
    by_cases e : a = f
    · subst e; exact b1
    · rw [recA_o (by omega)]; exact h.rate a ha
  · intro a ha
    by_cases e : a = f
    · subst e; exact b2
    · rw [recA_o (by omega)]; exact h.target a ha
  · intro a ha; rw [recA_o (by omega)]; exact h.on a ha
  · intro a ha; rw [recA_o (by omega)]; exact h.credit a ha
  · intro a ha
    by_cases e : a = f
    · subst e; exact b3
    · rw [recA_o (by omega)]; exact h.byc a ha
  · intro a ha
    by_cases e : a = f
    · subst e; exact b4
    · rw [recA_o (by omega)]; exact h.byt a ha
  · exact h.q.congr (fun i hi => recA_o (by omega))
