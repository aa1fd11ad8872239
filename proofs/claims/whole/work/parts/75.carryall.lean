/-! ===== carrying link by link, and all at once ===== -/
theorem Pl.pv_1 {π : Pl} {f l : Nat} (h : π.hp f l = 1) : π.pv l f = 1 := by
  unfold Pl.pv
  rw [h, if_neg (by omega), if_pos rfl]
theorem Pl.pv_0 {π : Pl} {f l : Nat} (h : π.hp f l = 0) : π.pv l f = 0 := by
  unfold Pl.pv
  rw [h, if_pos rfl]
theorem Pl.hp_of {π : Pl} {f l : Nat} : (π.pv l f = 0 ∧ π.hp f l = 0) ∨ (π.pv l f = 1 ∧ π.hp f l = 1) ∨ ∃ i, π.hp f l = i + 2 ∧ π.pv l f = π.path f i + 2 := by
  match h : π.hp f l with
  | 0 => exact Or.inl ⟨Pl.pv_0 h, rfl⟩
  | 1 => exact Or.inr (Or.inl ⟨Pl.pv_1 h, rfl⟩)
  | i + 2 => exact Or.inr (Or.inr ⟨i, rfl, Pl.pv_2 h⟩)
theorem Pl.pv_inj {π : Pl} (O : π.ok) {f l a : Nat} (hf : f < π.nf) (h0 : π.pv l f ≠ 0) (h : π.pv l f = π.pv a f) : l = a := by
  have hl := π.hp_le f l
  have ha := π.hp_le f a
  rcases Pl.hp_of (π := π) (f := f) (l := l) with ⟨e, _⟩ | ⟨e, e1⟩ | ⟨i, e1, e⟩
  · exact absurd e h0
  · rcases Pl.hp_of (π := π) (f := f) (l := a) with ⟨q, _⟩ | ⟨q, q1⟩ | ⟨j, q1, q⟩
    · omega
    · have a1 := π.hp_at (f := f) (l := l) (by omega)
      have a2 := π.hp_at (f := f) (l := a) (by omega)
      rw [e1] at a1
      rw [q1] at a2
      rw [← a1, ← a2]
    · omega
  · rcases Pl.hp_of (π := π) (f := f) (l := a) with ⟨q, _⟩ | ⟨q, q1⟩ | ⟨j, q1, q⟩
    · omega
    · omega
    · have ij : i = j := O.inj f i j hf (by omega) (by omega) (by omega)
      have a1 := π.hp_at (f := f) (l := l) (by omega)
      have a2 := π.hp_at (f := f) (l := a) (by omega)
      rw [e1] at a1
      rw [q1] at a2
      rw [← a1, ← a2, ij]
theorem rdyV_tk {v w f g n : Nat} {Y : Nat → Nat} (hf : f < 8) (hg : g < 8) (hv : v < 12) (hw : w < 12) (h0 : w ≠ 0) (h : g = f → v ≠ w) : rdyV v f (tkA w g n Y) = rdyV v f Y := by
  unfold rdyV
  by_cases c0 : v = 0
  · rw [if_pos c0, if_pos c0]
  · rw [if_neg c0, if_neg c0]
    by_cases c1 : v = 1
    · rw [if_pos c1, if_pos c1]
      unfold tkA
      split
      · rw [upN_n (by omega), upN_n (by omega), upN_n (by omega)]
      · rw [upN_n (by omega), upN_n (by omega)]
    · rw [if_neg c1, if_neg c1]
      unfold tkA
      split
      · rw [upN_n (by omega), upN_n (by omega), upN_n (by omega)]
      · rw [upN_n (by omega), upN_n (by omega)]
theorem tkF_inv {π : Pl} (O : π.ok) {f l a k : Nat} {mv Y : Nat → Nat} (hf : f < π.nf) (hl : l ≠ a) (hk : k ≤ π.nf) (hz : ∀ g, g < π.nf → π.pv a g = 0 → mv g = 0) : rdyV (π.pv l f) f (tkF π a mv k Y) = rdyV (π.pv l f) f Y := by
  have hnf := O.nf
  have hnl := O.nl
  induction k with
  | zero => rfl
  | succ k ih =>
    have ih := ih (by omega)
    have h1 := Pl.pv_lt O (l := l) hf
    have h2 := Pl.pv_lt O (l := a) (f := k) (by omega)
    rw [tkF_s]
    split
    · rename_i h3
      have h4 : π.pv a k ≠ 0 := fun c => by have := hz k (by omega) c; omega
      rw [rdyV_tk (by omega) (by omega) (by omega) (by omega) h4 (fun e c => hl ?_), ih]
      subst e
      exact Pl.pv_inj O (by omega) (by omega) c
    · exact ih
theorem rdyV_smv {v f l n T : Nat} {mv Y : Nat → Nat} (hf : f < 8) (hv : v < 12) (hl : l < 10) : rdyV v f (smv l n mv T Y) = rdyV v f Y := by
  unfold rdyV
  split
  · rfl
  · split
    · rw [smv_o (by omega) (by omega)]
    · rw [smv_o (by omega) (by omega)]
theorem upN_smv {l n T i v : Nat} {mv Y : Nat → Nat} (h : i ≠ 90 + l) (h2 : i < 300 + l * 8 ∨ 300 + l * 8 + n ≤ i) : upN (smv l n mv T Y) i v = smv l n mv T (upN Y i v) := by
  funext j
  by_cases e : j = i
  · subst e
    rw [upN_s, smv_o h h2, upN_s]
  · rw [upN_n e]
    unfold smv
    rw [upN_n e]
theorem tkA_smv {l n T w g q : Nat} {mv Y : Nat → Nat} (hl : l < 10) (hn : n ≤ 8) (hg : g < 8) (hw : w < 12) : tkA w g q (smv l n mv T Y) = smv l n mv T (tkA w g q Y) := by
  unfold tkA
  split
  · rw [smv_o (by omega) (by omega), smv_o (by omega) (by omega), upN_smv (by omega) (by omega), upN_smv (by omega) (by omega), upN_smv (by omega) (by omega)]
  · rw [smv_o (by omega) (by omega), smv_o (by omega) (by omega), upN_smv (by omega) (by omega), upN_smv (by omega) (by omega)]
theorem tkF_smv {π : Pl} (O : π.ok) {l n T a k : Nat} {mv mv' Y : Nat → Nat} (hl : l < 10) (hn : n ≤ 8) (hk : k ≤ π.nf) : tkF π a mv' k (smv l n mv T Y) = smv l n mv T (tkF π a mv' k Y) := by
  have hnf := O.nf
  have hnl := O.nl
  induction k with
  | zero => rfl
  | succ k ih =>
    have h2 := Pl.pv_lt O (l := a) (f := k) (by omega)
    rw [tkF_s, tkF_s, ih (by omega)]
    split
    · exact tkA_smv hl hn (by omega) (by omega)
    · rfl
/-- first all amounts, then all are taken off -/
noncomputable def smS (π : Pl) (X : Nat → Nat) (l : Nat) (Y : Nat → Nat) : Nat → Nat := smv l π.nf (mvB π l X) (capT π l X) Y
noncomputable def tkS (π : Pl) (X : Nat → Nat) (l : Nat) (Y : Nat → Nat) : Nat → Nat := tkF π l (mvB π l X) π.nf Y
theorem mvB_z {π : Pl} {l : Nat} {X : Nat → Nat} : ∀ g, g < π.nf → π.pv l g = 0 → mvB π l X g = 0 := by
  intro g hg h0
  have h1 := mvB_le (π := π) (l := l) (X := X) hg
  have h2 := canA_le (π := π) (l := l) (f := g) (X := X)
  rw [h0, rdy0] at h2
  omega
theorem tkS_inv {π : Pl} (O : π.ok) {f l n : Nat} {X Y : Nat → Nat} (hf : f < π.nf) (hl : n ≤ l) : rdyV (π.pv l f) f (it n (tkS π X) Y) = rdyV (π.pv l f) f Y := by
  induction n with
  | zero => rfl
  | succ n ih =>
    rw [it_s]
    unfold tkS
    rw [tkF_inv O hf (by omega) (Nat.le_refl _) mvB_z]
    exact ih (by omega)
theorem smS_inv {π : Pl} (O : π.ok) {f l n : Nat} {X Y : Nat → Nat} (hf : f < π.nf) (hn : n ≤ π.nl) : rdyV (π.pv l f) f (it n (smS π X) Y) = rdyV (π.pv l f) f Y := by
  have hnf := O.nf
  have hnl := O.nl
  have h1 := Pl.pv_lt O (l := l) hf
  induction n with
  | zero => rfl
  | succ n ih =>
    rw [it_s]
    unfold smS
    rw [rdyV_smv (by omega) (by omega) (by omega)]
    exact ih (by omega)
theorem tkS_o {π : Pl} (O : π.ok) {n i : Nat} {X Y : Nat → Nat} (h : i < 30 ∨ (40 ≤ i ∧ i < 120) ∨ (200 ≤ i ∧ i < 232) ∨ (240 ≤ i ∧ i < 272) ∨ (280 ≤ i ∧ i < 380)) : it n (tkS π X) Y i = Y i := it_o (fun k Z hk => by unfold tkS; exact tkF_o O (Nat.le_refl _) h)
theorem smS_o {π : Pl} (O : π.ok) {n i : Nat} {X Y : Nat → Nat} (hn : n ≤ 10) (h : i < 90 ∨ (100 ≤ i ∧ i < 300) ∨ 380 ≤ i) : it n (smS π X) Y i = Y i := by
  have hnf := O.nf
  exact it_o (fun k Z hk => by unfold smS; exact smv_o (by omega) (by omega))
theorem tkS_smv {π : Pl} (O : π.ok) {l T n : Nat} {mv X Y : Nat → Nat} (hl : l < 10) : it n (tkS π X) (smv l π.nf mv T Y) = smv l π.nf mv T (it n (tkS π X) Y) := by
  induction n with
  | zero => rfl
  | succ n ih =>
    rw [it_s, it_s, ih]
    unfold tkS
    exact tkF_smv O hl O.nf (Nat.le_refl _)
theorem canA_congr {π : Pl} {X Y : Nat → Nat} {l f : Nat} (h : X (40 + l) = Y (40 + l)) (h2 : rdyV (π.pv l f) f X = rdyV (π.pv l f) f Y) : canA π X l f = canA π Y l f := by
  unfold canA
  rw [h, h2]
theorem mvB_congr {π : Pl} {X Y : Nat → Nat} {l : Nat} (h : ∀ f, f < π.nf → canA π X l f = canA π Y l f) : mvB π l X = mvB π l Y ∧ capT π l X = capT π l Y := by
  have e : capT π l X = capT π l Y := by unfold capT; rw [sm_congr h]
  refine ⟨?_, e⟩
  unfold mvB
  rw [e, mvF_congr h]
theorem st2_e {π : Pl} (O : π.ok) {X : Nat → Nat} {n : Nat} (hn : n ≤ π.nl) : it n (carB π) X = it n (tkS π X) (it n (smS π X) X) := by
  have hnf := O.nf
  have hnl := O.nl
  induction n with
  | zero => rfl
  | succ n ih =>
    have ih := ih (by omega)
    rw [it_s, ih]
    generalize hY : it n (tkS π X) (it n (smS π X) X) = Y
    have hm : mvB π n Y = mvB π n X ∧ capT π n Y = capT π n X := by
      refine mvB_congr (fun f hf => canA_congr ?_ ?_)
      · rw [← hY, tkS_o O (by omega), smS_o O (by omega) (by omega)]
      · rw [← hY, tkS_inv O hf (Nat.le_refl _), smS_inv O hf (by omega)]
    unfold carB carA
    rw [(mvB_R π n Y).2, hm.1, hm.2, ← hY, ← tkS_smv O (by omega)]
    rw [it_s, it_s]
    rfl
