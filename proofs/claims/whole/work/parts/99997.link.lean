/-! ===== the line 'link' ===== -/
def Pl.lk (π : Pl) (w : Int32) (c d : Nat) : Pl := (π.nl + 1, π.nf, (fun l => if l = π.nl then w else π.lname l), (fun l => if l = π.nl then c else π.cap l), (fun l => if l = π.nl then d else π.delay l), π.2.2.2.2.2)
def lkX (X : Nat → Nat) (l x y z : Nat) : Nat → Nat := upN (upN (upN X l x) (10 + l) y) (20 + l) z
def s7L (sp l o j : Nat) : Prop := (o = 1 ∧ 3 ≤ j) ∨ (o = sp ∧ j = 9) ∨ (o = sp + 1 ∧ j = l) ∨ (o = sp + 2 ∧ j = l) ∨ (o = sp + 3 ∧ j = l) ∨ (o = 20 ∧ (j = l ∨ j = 10 + l ∨ j = 20 + l))
def s8L (l o j : Nat) : Prop := (o = 0 ∧ 18 ≤ j ∧ j ≤ 21) ∨ (o = 2 ∧ j = 9) ∨ (4 ≤ o ∧ o ≤ 9 ∧ j = 10 + l)
section LK
variable {mF mM : Mm} {B : Nat → Nat} {n a sp : Nat} {π : Pl} {X : Nat → Nat} {td pl : Nat}
theorem Pl.lk_ok (O : π.ok) {w : Int32} {c d : Nat} (hl : π.nl < 10) (hc : 1 ≤ c ∧ c ≤ 64) (hd : d ≤ 4) : (π.lk w c d).ok := by
  refine Pl.ok.mk ?_ O.nf ?_ ?_ O.hops ?_ O.inj O.each O.middle O.weight O.cells O.ticks O.more O.seed
  · show π.nl + 1 ≤ 10; omega
  · intro l hl
    have hl : l < π.nl + 1 := hl
    show 1 ≤ (if l = π.nl then c else π.cap l) ∧ (if l = π.nl then c else π.cap l) ≤ 64
    by_cases e : l = π.nl
    · rw [if_pos e]; exact hc
    · rw [if_neg e]; exact O.cap l (by omega)
  · intro l hl
    have hl : l < π.nl + 1 := hl
    show (if l = π.nl then d else π.delay l) ≤ 4
    by_cases e : l = π.nl
    · rw [if_pos e]; exact hd
    · rw [if_neg e]; exact O.delay l (by omega)
  · intro f i hf hi
    show π.path f i < π.nl + 1
    have := O.path f i hf hi
    omega
theorem QC.lk {m m' : Mm} (h : QC m sp π X td) (hsp : sp = 21 ∨ sp = 31) (O : π.ok) (hl : π.nl < 10) {w : Int32} {c d x y z : Nat} (W : PW (s7L sp π.nl) m m') (v0 : m'.1 sp 9 = nI (π.nl + 1)) (v1 : m'.1 (sp + 1) π.nl = w) (v2 : m'.1 (sp + 2) π.nl = nI c) (v3 : m'.1 (sp + 3) π.nl = nI d) (x1 : m'.1 20 π.nl = nI x) (x2 : m'.1 20 (10 + π.nl) = nI y) (x3 : m'.1 20 (20 + π.nl) = nI z) : QC m' sp (π.lk w c d) (lkX X π.nl x y z) td := by
  have hnf := O.nf
  have P := h.P
  have e : ∀ o, o ≠ 1 → o ≠ sp → o ≠ sp + 1 → o ≠ sp + 2 → o ≠ sp + 3 → o ≠ 20 → m'.1 o = m.1 o := fun o h1 h2 h3 h4 h5 h6 => funext (fun j => W o j (by unfold s7L; omega))
  have e9 : m'.1 (sp + 9) = m.1 (sp + 9) := e _ (by omega) (by omega) (by omega) (by omega) (by omega) (by omega)
  have pv : ∀ l f, l < 10 → f < 8 → m'.1 (sp + 7) (l * 8 + f) = pvI ((π.lk w c d).pv l f) := by
    rw [e (sp + 7) (by omega) (by omega) (by omega) (by omega) (by omega) (by omega)]; exact h.pv
  have nx : ∀ l f, l < 10 → f < 8 → m'.1 (sp + 8) (l * 8 + f) = nxI ((π.lk w c d).nx l f) := by
    rw [e (sp + 8) (by omega) (by omega) (by omega) (by omega) (by omega) (by omega)]; exact h.nx
  refine QC.mk (PF.mk v0 ?_ ?_ ?_ ?_ ?_ ?_ ?_ ?_ ?_ ?_ ?_ ?_ ?_ ?_ ?_ ?_) pv nx ?_ ?_ ?_ ?_
  · rw [W sp 10 (by unfold s7L; omega)]; exact P.nf
  · intro l hl
    have hl : l < π.nl + 1 := hl
    show m'.1 (sp + 1) l = if l = π.nl then w else π.lname l
    by_cases e : l = π.nl
    · rw [if_pos e, e]; exact v1
    · rw [if_neg e, W _ _ (by unfold s7L; omega)]; exact P.lname l (by omega)
  · intro l hl
    have hl : l < π.nl + 1 := hl
    show m'.1 (sp + 2) l = nI (if l = π.nl then c else π.cap l)
    by_cases e : l = π.nl
    · rw [if_pos e, e]; exact v2
    · rw [if_neg e, W _ _ (by unfold s7L; omega)]; exact P.cap l (by omega)
  · intro l hl
    have hl : l < π.nl + 1 := hl
    show m'.1 (sp + 3) l = nI (if l = π.nl then d else π.delay l)
    by_cases e : l = π.nl
    · rw [if_pos e, e]; exact v3
    · rw [if_neg e, W _ _ (by unfold s7L; omega)]; exact P.delay l (by omega)
  · rw [e (sp + 4) (by omega) (by omega) (by omega) (by omega) (by omega) (by omega)]; exact P.fname
  · rw [e (sp + 5) (by omega) (by omega) (by omega) (by omega) (by omega) (by omega)]; exact P.hops
  · rw [e (sp + 6) (by omega) (by omega) (by omega) (by omega) (by omega) (by omega)]; exact P.path
  · intro l f hl hf
    have hl : l < π.nl + 1 := hl
    have hf : f < π.nf := hf
    exact pv l f (by omega) (by omega)
  · intro l f hl hf
    have hl : l < π.nl + 1 := hl
    have hf : f < π.nf := hf
    exact nx l f (by omega) (by omega)
  · rw [e9]; exact P.each
  · rw [e9]; exact P.middle
  · rw [e9]; exact P.weight
  · rw [e9]; exact P.cells
  · rw [e9]; exact P.ticks
  · rw [e9]; exact P.more
  · rw [e9]; exact P.seed
  · intro i hi
    unfold lkX
    by_cases c1 : i = 20 + π.nl
    · rw [c1, upN_s]; exact x3
    · rw [upN_n c1]
      by_cases c2 : i = 10 + π.nl
      · rw [c2, upN_s]; exact x2
      · rw [upN_n c2]
        by_cases c3 : i = π.nl
        · rw [c3, upN_s]; exact x1
        · rw [upN_n c3, W 20 i (by unfold s7L; omega)]; exact h.row i hi
  · rw [e 3 (by omega) (by omega) (by omega) (by omega) (by omega) (by omega)]; exact h.code
  · rw [e 3 (by omega) (by omega) (by omega) (by omega) (by omega) (by omega)]; exact h.place
  · rw [e 3 (by omega) (by omega) (by omega) (by omega) (by omega) (by omega)]; exact h.td
theorem QM.lk {m m' : Mm} (h : QM m π X td) (O : π.ok) (hl : π.nl < 10) {w : Int32} {c d x y z : Nat} (W : PW (s8L π.nl) m m') (v0 : m'.1 2 9 = nI (π.nl + 1)) (v1 : m'.1 4 (10 + π.nl) = w) (v2 : m'.1 5 (10 + π.nl) = nI c) (v3 : m'.1 6 (10 + π.nl) = nI d) (x1 : m'.1 7 (10 + π.nl) = nI x) (x2 : m'.1 8 (10 + π.nl) = nI y) (x3 : m'.1 9 (10 + π.nl) = nI z) : QM m' (π.lk w c d) (lkX X π.nl x y z) td := by
  have hnf := O.nf
  have P := h.P
  have e : ∀ o, 10 ≤ o → m'.1 o = m.1 o := fun o h1 => funext (fun j => W o j (by unfold s8L; omega))
  have e3 : m'.1 3 = m.1 3 := funext (fun j => W 3 j (by unfold s8L; omega))
  have e2 : ∀ j, j ≠ 9 → m'.1 2 j = m.1 2 j := fun j hj => W 2 j (by unfold s8L; omega)
  have r : ∀ (o b : Nat) (v : Nat) (q : ∀ l, l < π.nl → m.1 o (10 + l) = nI (X (b + l))) (ho : 4 ≤ o ∧ o ≤ 9) (hv : m'.1 o (10 + π.nl) = nI v) (hb : b = 0 ∨ b = 10 ∨ b = 20) (hx : lkX X π.nl x y z (b + π.nl) = v), ∀ l, l < π.nl + 1 → m'.1 o (10 + l) = nI (lkX X π.nl x y z (b + l)) := by
    intro o b v q ho hv hb hx l hl
    by_cases e : l = π.nl
    · rw [e, hx]; exact hv
    · rw [W o (10 + l) (by unfold s8L; omega), q l (by omega)]
      unfold lkX
      rw [upN_n (by omega), upN_n (by omega), upN_n (by omega)]
  refine QM.mk (PM.mk v0 ?_ ?_ ?_ ?_ ?_ ?_ ?_ ?_ ?_ ?_ ?_ ?_ ?_ ?_) ?_ ?_ ?_ ?_ ?_ ?_ ?_ ?_ ?_
  · exact (e2 10 (by omega)).trans P.nf
  · intro l hl
    have hl : l < π.nl + 1 := hl
    show m'.1 4 (10 + l) = if l = π.nl then w else π.lname l
    by_cases e : l = π.nl
    · rw [if_pos e, e]; exact v1
    · rw [if_neg e, W _ _ (by unfold s8L; omega)]; exact P.lname l (by omega)
  · intro l hl
    have hl : l < π.nl + 1 := hl
    show m'.1 5 (10 + l) = nI (if l = π.nl then c else π.cap l)
    by_cases e : l = π.nl
    · rw [if_pos e, e]; exact v2
    · rw [if_neg e, W _ _ (by unfold s8L; omega)]; exact P.cap l (by omega)
  · intro l hl
    have hl : l < π.nl + 1 := hl
    show m'.1 6 (10 + l) = nI (if l = π.nl then d else π.delay l)
    by_cases e : l = π.nl
    · rw [if_pos e, e]; exact v3
    · rw [if_neg e, W _ _ (by unfold s8L; omega)]; exact P.delay l (by omega)
  · rw [shM_o (by omega) (e 10 (by omega)) (e 14 (by omega))]; exact P.fname
  · rw [shM_o (by omega) (e 13 (by omega)) (e 14 (by omega))]; exact P.hops
  · rw [shM_o (by omega) (e 14 (by omega)) (e 14 (by omega))]; exact P.path
  · exact (e2 11 (by omega)).trans P.each
  · exact (e2 12 (by omega)).trans P.middle
  · exact (e2 13 (by omega)).trans P.weight
  · exact (e2 14 (by omega)).trans P.cells
  · exact (e2 15 (by omega)).trans P.ticks
  · exact (e2 16 (by omega)).trans P.more
  · exact (e2 17 (by omega)).trans P.seed
  · have := r 7 0 x (fun l hl => by rw [Nat.zero_add]; exact h.xoff l hl) (by omega) x1 (by omega) (by unfold lkX; rw [Nat.zero_add, upN_n (by omega), upN_n (by omega), upN_s])
    intro l hl
    rw [this l hl, Nat.zero_add]
  · exact r 8 10 y h.xon (by omega) x2 (by omega) (by unfold lkX; rw [upN_n (by omega), upN_s])
  · exact r 9 20 z h.size (by omega) x3 (by omega) (by unfold lkX; rw [upN_s])
  · intro f hf
    have hf : f < π.nf := hf
    rw [e 11 (by omega)]
    unfold lkX
    rw [upN_n (by omega), upN_n (by omega), upN_n (by omega)]
    exact h.rate f hf
  · intro f hf
    have hf : f < π.nf := hf
    rw [e 12 (by omega)]
    unfold lkX
    rw [upN_n (by omega), upN_n (by omega), upN_n (by omega)]
    exact h.off f hf
  · rw [W 0 22 (by unfold s8L; omega)]; exact h.f0
  · rw [e3]; exact h.t2
  · rw [e3]; exact h.t3
  · rw [e3]; exact h.t5
theorem QP.lk (h : QP π X td) (hl : π.nl < 10) {w : Int32} {c d x y z : Nat} (hc : 1 ≤ c ∧ c ≤ 64) (hd : d ≤ 4) (hx : 1 ≤ x ∧ x ≤ 999) (hy : y ≤ x - 1) (hz : 1 ≤ z ∧ z ≤ 1999) : QP (π.lk w c d) (lkX X π.nl x y z) td := by
  have hnf := h.O.nf
  have e : ∀ i, i ≠ π.nl → i ≠ 10 + π.nl → i ≠ 20 + π.nl → lkX X π.nl x y z i = X i := fun i h1 h2 h3 => by unfold lkX; rw [upN_n h3, upN_n h2, upN_n h1]
  have a1 : lkX X π.nl x y z π.nl = x := by unfold lkX; rw [upN_n (by omega), upN_n (by omega), upN_s]
  have a2 : lkX X π.nl x y z (10 + π.nl) = y := by unfold lkX; rw [upN_n (by omega), upN_s]
  have a3 : lkX X π.nl x y z (20 + π.nl) = z := by unfold lkX; rw [upN_s]
  refine QP.mk (Pl.lk_ok h.O hl hc hd) h.td h.h0 ?_ ?_ ?_ ?_ ?_
  · intro l hl
    have hl : l < π.nl + 1 := hl
    by_cases c : l = π.nl
    · subst c; rw [a1, a2, a3]; omega
    · rw [e l (by omega) (by omega) (by omega), e (10 + l) (by omega) (by omega) (by omega), e (20 + l) (by omega) (by omega) (by omega)]; exact h.xo l (by omega)
  · intro f hf
    have hf : f < π.nf := hf
    rw [e (200 + f) (by omega) (by omega) (by omega), e (208 + f) (by omega) (by omega) (by omega), e (264 + f) (by omega) (by omega) (by omega)]; exact h.ra f hf
  · intro l h1 h2
    have h1 : π.nl + 1 ≤ l := h1
    rw [e l (by omega) (by omega) (by omega), e (10 + l) (by omega) (by omega) (by omega), e (20 + l) (by omega) (by omega) (by omega)]; exact h.z1 l (by omega) h2
  · intro f h1 h2
    have h1 : π.nf ≤ f := h1
    rw [e (200 + f) (by omega) (by omega) (by omega), e (208 + f) (by omega) (by omega) (by omega), e (264 + f) (by omega) (by omega) (by omega)]; exact h.z2 f h1 h2
  · intro i h1 h2
    rw [e i (by omega) (by omega) (by omega)]; exact h.z3 i h1 h2
end LK
