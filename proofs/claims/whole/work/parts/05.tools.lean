/-! decoding by a table; loops that may return -/
theorem dq {cc : ByteArray} {tb : List (Nat × Instr × Nat)} (h : (tb.all fun q => decide (decode cc q.1 = .ok q.2)) = true) (k : Nat) {pc : Nat} {i : Instr × Nat} (hk : tb[k]? = some (pc, i)) : decode cc pc = .ok i :=
  of_decide_eq_true (List.all_eq_true.mp h (pc, i) (List.mem_of_getElem? hk))
def bdR {α β γ : Type} (x : Option (α ⊕ β)) (g : α → Option γ) (f : β → Option γ) : Option γ := match x with
  | some (.inl a) => g a
  | some (.inr b) => f b
  | none => none
theorem x_loopR {σ α β γ : Type} {b : σ → Option (σ ⊕ (α ⊕ β))} {N : Nat} {s0 : σ} {g : α → Option γ} {f : β → Option γ} {r : γ} (P : σ → Prop) (h : bdR (lp b N s0) g f = some r) (hs : ∀ s x, b s = some x → (∀ s', x = .inl s' → P s') → (∀ a, x = .inr (.inl a) → g a = some r) → (∀ y, x = .inr (.inr y) → f y = some r) → P s) : P s0 := by
  induction N generalizing s0 with
  | zero => cases h
  | succ n ih =>
    unfold lp at h
    cases hb : b s0 with
    | none => rw [hb] at h; cases h
    | some x =>
      rw [hb] at h
      cases x with
      | inl s' => exact hs s0 _ hb (fun s2 e => by cases e; exact ih h) (fun y e => by cases e) (fun y e => by cases e)
      | inr y' =>
        cases y' with
        | inl a => exact hs s0 _ hb (fun s2 e => by cases e) (fun y e => by cases e; exact h) (fun y e => by cases e)
        | inr y => exact hs s0 _ hb (fun s2 e => by cases e) (fun y e => by cases e) (fun y e => by cases e; exact h)
theorem x_pc {G : Gt} {l : Launch} {E : Ev} {S : List Sh} {pc : Nat} (pc2 : Nat) {lv : List (Nat × Value)} {st : List Value} {mm : Mm} (h : pc = pc2) (k : WM G l E S pc2 lv st mm) : WM G l E S pc lv st mm := by
  subst h
  exact k
