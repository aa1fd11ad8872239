/-! memory by numbers of cells: what is an int (a boolean, a byte, a moving reference) and what is a long; shapes; the world of a shape and a memory -/
abbrev Mm : Type := (Nat → Nat → Int32) × (Nat → Nat → Int64)
abbrev Sh : Type := (Nat × Nat) ⊕ (Nat × List Nat)
abbrev Ev : Type := va_G × (Nat → ClassId) × (Nat → Nat)
def uA (mm : Mm) (o : Nat) (f : Nat → Int32) : Mm := (fun a => if a = o then f else mm.1 a, mm.2)
def uL (mm : Mm) (o : Nat) (f : Nat → Int64) : Mm := (mm.1, fun a => if a = o then f else mm.2 a)
def u1 (mm : Mm) (o i : Nat) (v : Int32) : Mm := uA mm o (upd (mm.1 o) i v)
def u2 (mm : Mm) (o i : Nat) (v : Int64) : Mm := uL mm o (vp_updL (mm.2 o) i v)
def kp : Nat → List Nat
  | 0 => [2, 2, 0, 0, 0]
  | 1 => [2, 2, 2, 2, 2, 2, 2, 2, 2, 0, 0]
  | 2 => [0, 0, 0]
  | 3 => [2, 2, 0, 0, 0]
  | 4 => [2, 0, 0, 0, 0, 0, 0]
  | 5 => [2, 2, 2]
  | 6 => [2, 2, 2, 2, 0]
  | 7 => [2, 2, 2, 2, 2, 2, 2, 2, 2, 2, 0, 0]
  | 8 => [0, 2, 0, 2, 2, 2, 2, 2, 2, 2, 2, 2, 2, 2, 2, 2, 0, 0, 0, 0, 0, 0, 0, 0, 0, 0, 2, 2, 2, 2, 2, 0, 0, 2, 2, 2, 2, 2, 0, 2, 2, 2, 0, 2, 2, 2, 1, 1, 0]
  | _ => []
def rf (S : List Sh) (mm : Mm) (o k : Nat) : Nat := match S[o]? with
  | some (.inr q) => (match q.2[k]? with
    | some (r + 1) => r
    | _ => (mm.1 o k).toNatClampNeg)
  | _ => 0
def fvl (E : Ev) (S : List Sh) (mm : Mm) (o k : Nat) : Nat → Value
  | 0 => .int (mm.1 o k)
  | 1 => .long (mm.2 o k)
  | _ => .ref (E.2.2 (rf S mm o k))
def cel (E : Ev) (S : List Sh) (mm : Mm) (o : Nat) : Sh → va_E
  | .inl q => if q.1 = 3 then .inl (E.2.1 3, q.2, .inr (.inl (mm.2 o))) else .inl (E.2.1 q.1, q.2, .inl (mm.1 o))
  | .inr q => .inr (q.1, (kp q.1).mapIdx (fun k t => fvl E S mm o k t))
def wd (E : Ev) (S : List Sh) (mm : Mm) : va_W := S.mapIdx (fun o sh => (E.2.2 o, cel E S mm o sh))
def tyE (E : Ev) : List (ClassId × FieldType) := [(E.2.1 0, .int), (E.2.1 1, .byte), (E.2.1 2, .boolean), (E.2.1 3, .long)]
theorem wd_at {E : Ev} {S : List Sh} {mm : Mm} {o : Nat} {sh : Sh} (h : S[o]? = some sh) : (wd E S mm)[o]? = some (E.2.2 o, cel E S mm o sh) := by
  simp [wd, List.getElem?_mapIdx, h]
theorem wd_set {E : Ev} {S : List Sh} {mm mm' : Mm} {o : Nat} {sh : Sh} {e : va_E} (hs : S[o]? = some sh) (hself : cel E S mm' o sh = e) (hoth : ∀ k sh', k ≠ o → cel E S mm' k sh' = cel E S mm k sh') : (wd E S mm).set o (E.2.2 o, e) = wd E S mm' := by
  have ho : o < S.length := (List.getElem?_eq_some_iff.mp hs).1
  apply List.ext_getElem?
  intro k
  by_cases hk : k = o
  · subst hk
    rw [List.getElem?_set_self (by simp [wd]; exact ho), wd_at hs, hself]
  · rw [List.getElem?_set_ne (Ne.symm hk)]
    simp only [wd, List.getElem?_mapIdx]
    cases hq : S[k]? with
    | none => rfl
    | some sh' => simp [hoth k sh' hk]
theorem rf_ne {S : List Sh} {mm : Mm} {o k j : Nat} {f : Nat → Int32} (h : k ≠ o) : rf S (uA mm o f) k j = rf S mm k j := by
  unfold rf
  simp [uA, h]
theorem rf_L {S : List Sh} {mm : Mm} {o k j : Nat} {f : Nat → Int64} : rf S (uL mm o f) k j = rf S mm k j := rfl
theorem fvl_ne {E : Ev} {S : List Sh} {mm : Mm} {o k j t : Nat} {f : Nat → Int32} (h : k ≠ o) : fvl E S (uA mm o f) k j t = fvl E S mm k j t := by
  match t with
  | 0 => simp [fvl, uA, h]
  | 1 => simp [fvl, uA]
  | t + 2 => simp [fvl, rf_ne h]
theorem fvl_Lne {E : Ev} {S : List Sh} {mm : Mm} {o k j t : Nat} {f : Nat → Int64} (h : k ≠ o) : fvl E S (uL mm o f) k j t = fvl E S mm k j t := by
  match t with
  | 0 => simp [fvl, uL]
  | 1 => simp [fvl, uL, h]
  | t + 2 => simp [fvl, rf_L]
theorem cel_ne {E : Ev} {S : List Sh} {mm : Mm} {o k : Nat} {f : Nat → Int32} (sh : Sh) (h : k ≠ o) : cel E S (uA mm o f) k sh = cel E S mm k sh := by
  cases sh with
  | inl q => simp [cel, uA, h]
  | inr q => simp only [cel, fvl_ne h]
theorem cel_Lne {E : Ev} {S : List Sh} {mm : Mm} {o k : Nat} {f : Nat → Int64} (sh : Sh) (h : k ≠ o) : cel E S (uL mm o f) k sh = cel E S mm k sh := by
  cases sh with
  | inl q => simp [cel, uL, h]
  | inr q => simp only [cel, fvl_Lne h]
theorem wd_uA {E : Ev} {S : List Sh} {mm : Mm} {o t n : Nat} {f : Nat → Int32} (hs : S[o]? = some (.inl (t, n))) (ht : t ≠ 3) : (wd E S mm).set o (E.2.2 o, .inl (E.2.1 t, n, .inl f)) = wd E S (uA mm o f) :=
  wd_set hs (by simp [cel, ht, uA]) (fun k sh' hk => cel_ne sh' hk)
theorem wd_uL {E : Ev} {S : List Sh} {mm : Mm} {o n : Nat} {f : Nat → Int64} (hs : S[o]? = some (.inl (3, n))) : (wd E S mm).set o (E.2.2 o, .inl (E.2.1 3, n, .inr (.inl f))) = wd E S (uL mm o f) :=
  wd_set hs (by simp [cel, uL]) (fun k sh' hk => cel_Lne sh' hk)
theorem u1_ne {mm : Mm} {o k j : Nat} {v : Int32} (h : j ≠ k) : (u1 mm o k v).1 o j = mm.1 o j := by
  show (if o = o then upd (mm.1 o) k v else mm.1 o) j = mm.1 o j
  rw [if_pos rfl]
  exact if_neg h
theorem u1_eq {mm : Mm} {o k : Nat} {v : Int32} : (u1 mm o k v).1 o k = v := by
  show (if o = o then upd (mm.1 o) k v else mm.1 o) k = v
  rw [if_pos rfl]
  exact if_pos rfl
theorem rf_u1 {S : List Sh} {mm : Mm} {o k j : Nat} {v : Int32} (h : j ≠ k) : rf S (u1 mm o k v) o j = rf S mm o j := by
  unfold rf
  rw [u1_ne h]
theorem rf_dyn {S : List Sh} {mm : Mm} {o ci k : Nat} {rs : List Nat} (hs : S[o]? = some (.inr (ci, rs))) (hr : rs[k]? = some 0) : rf S mm o k = (mm.1 o k).toNatClampNeg := by
  unfold rf
  rw [hs]
  show (match rs[k]? with
    | some (r + 1) => r
    | _ => (mm.1 o k).toNatClampNeg) = _
  rw [hr]
theorem u1_2 {mm : Mm} {o k : Nat} {v : Int32} : (u1 mm o k v).2 = mm.2 := rfl
theorem fvl_0 {E : Ev} {S : List Sh} {mm : Mm} {o j : Nat} : fvl E S mm o j 0 = .int (mm.1 o j) := rfl
theorem fvl_1 {E : Ev} {S : List Sh} {mm : Mm} {o j : Nat} : fvl E S mm o j 1 = .long (mm.2 o j) := rfl
theorem fvl_2 {E : Ev} {S : List Sh} {mm : Mm} {o j t : Nat} : fvl E S mm o j (t + 2) = .ref (E.2.2 (rf S mm o j)) := rfl
theorem fvl_u1 {E : Ev} {S : List Sh} {mm : Mm} {o k j : Nat} {v : Int32} (h : j ≠ k) (t : Nat) : fvl E S (u1 mm o k v) o j t = fvl E S mm o j t := by
  match t with
  | 0 => rw [fvl_0, fvl_0, u1_ne h]
  | 1 => rw [fvl_1, fvl_1, u1_2]
  | t + 2 => rw [fvl_2, fvl_2, rf_u1 h]
/-- an object's fields, one of them put -/
theorem wd_pI {E : Ev} {S : List Sh} {mm : Mm} {o ci k : Nat} {rs : List Nat} {v : Int32} (hs : S[o]? = some (.inr (ci, rs))) (hk : (kp ci)[k]? = some 0) : (wd E S mm).set o (E.2.2 o, .inr (ci, ((kp ci).mapIdx (fun j t => fvl E S mm o j t)).set k (.int v))) = wd E S (u1 mm o k v) := by
  refine wd_set hs ?_ (fun _ sh' hk => cel_ne sh' hk)
  refine congrArg (fun z => (Sum.inr (ci, z) : va_E)) ?_
  apply List.ext_getElem?
  intro j
  have hl : k < (kp ci).length := (List.getElem?_eq_some_iff.mp hk).1
  by_cases hj : j = k
  · subst hj
    rw [List.getElem?_set_self (by simpa using hl), List.getElem?_mapIdx, hk]
    show some (Value.int _) = some (Value.int _)
    rw [u1_eq]
  · rw [List.getElem?_set_ne (Ne.symm hj), List.getElem?_mapIdx, List.getElem?_mapIdx]
    simp only [fvl_u1 hj]
theorem wd_pL {E : Ev} {S : List Sh} {mm : Mm} {o ci k : Nat} {rs : List Nat} {v : Int64} (hs : S[o]? = some (.inr (ci, rs))) (hk : (kp ci)[k]? = some 1) : (wd E S mm).set o (E.2.2 o, .inr (ci, ((kp ci).mapIdx (fun j t => fvl E S mm o j t)).set k (.long v))) = wd E S (u2 mm o k v) := by
  refine wd_set hs ?_ (fun k sh' hk => cel_Lne sh' hk)
  show Sum.inr (ci, _) = Sum.inr (ci, _)
  congr 2
  apply List.ext_getElem?
  intro j
  have hl : k < (kp ci).length := (List.getElem?_eq_some_iff.mp hk).1
  by_cases hj : j = k
  · subst hj
    rw [List.getElem?_set_self (by simpa using hl), List.getElem?_mapIdx, hk]
    simp [fvl, u2, uL, vp_updL]
  · rw [List.getElem?_set_ne (Ne.symm hj), List.getElem?_mapIdx, List.getElem?_mapIdx]
    cases (kp ci)[j]? with
    | none => rfl
    | some t =>
      match t with
      | 0 => simp [fvl, u2, uL]
      | 1 => simp [fvl, u2, uL, vp_updL, hj]
      | t + 2 => simp [fvl, rf, u2, uL]
theorem wd_pR {E : Ev} {S : List Sh} {mm : Mm} {o ci k r : Nat} {rs : List Nat} (hs : S[o]? = some (.inr (ci, rs))) (hk : (kp ci)[k]? = some 2) (hr : rs[k]? = some 0) (hlt : r < 2 ^ 31) : (wd E S mm).set o (E.2.2 o, .inr (ci, ((kp ci).mapIdx (fun j t => fvl E S mm o j t)).set k (.ref (E.2.2 r)))) = wd E S (u1 mm o k (nI r)) := by
  refine wd_set hs ?_ (fun _ sh' hk => cel_ne sh' hk)
  refine congrArg (fun z => (Sum.inr (ci, z) : va_E)) ?_
  apply List.ext_getElem?
  intro j
  have hl : k < (kp ci).length := (List.getElem?_eq_some_iff.mp hk).1
  by_cases hj : j = k
  · subst hj
    rw [List.getElem?_set_self (by simpa using hl), List.getElem?_mapIdx, hk]
    show some (Value.ref _) = some (Value.ref _)
    rw [rf_dyn hs hr, u1_eq, nI_clamp hlt]
  · rw [List.getElem?_set_ne (Ne.symm hj), List.getElem?_mapIdx, List.getElem?_mapIdx]
    simp only [fvl_u1 hj]
/-! ===== the small steps of the pure programs ===== -/
def bd1 {α β : Type} (x : Option α) (f : α → Option β) : Option β := match x with
  | some v => f v
  | none => none
def bd2 {α β γ : Type} (x : Option (α × β)) (f : α → β → Option γ) : Option γ := match x with
  | some v => f v.1 v.2
  | none => none
theorem bd1_some {α β : Type} {x : Option α} {f : α → Option β} {r : β} (h : bd1 x f = some r) : ∃ v, x = some v ∧ f v = some r := by
  cases x with
  | none => cases h
  | some v => exact ⟨v, rfl, h⟩
theorem bd2_some {α β γ : Type} {x : Option (α × β)} {f : α → β → Option γ} {r : γ} (h : bd2 x f = some r) : ∃ v w, x = some (v, w) ∧ f v w = some r := by
  cases x with
  | none => cases h
  | some v => exact ⟨v.1, v.2, rfl, h⟩
def lp {σ ρ : Type} (b : σ → Option (σ ⊕ ρ)) : Nat → σ → Option ρ
  | 0, _ => none
  | n + 1, s => match b s with
    | some (.inl s') => lp b n s'
    | some (.inr r) => some r
    | none => none
def fu : Nat := 10000
theorem x_loop {σ ρ α : Type} {b : σ → Option (σ ⊕ ρ)} {N : Nat} {s0 : σ} {f : ρ → Option α} {r : α} (P : σ → Prop) (h : bd1 (lp b N s0) f = some r) (hs : ∀ s x, b s = some x → (∀ s', x = .inl s' → P s') → (∀ y, x = .inr y → f y = some r) → P s) : P s0 := by
  obtain ⟨y, hy, hf⟩ := bd1_some h
  clear h
  induction N generalizing s0 with
  | zero => cases hy
  | succ n ih =>
    unfold lp at hy
    cases hb : b s0 with
    | none => rw [hb] at hy; cases hy
    | some x =>
      rw [hb] at hy
      cases x with
      | inl s' => exact hs s0 _ hb (fun s2 e => by cases e; exact ih hy) (fun y e => by cases e)
      | inr y' =>
        cases hy
        exact hs s0 _ hb (fun s2 e => by cases e) (fun y2 e => by cases e; exact hf)
def isC (S : List Sh) (o ci : Nat) : Prop := ∃ rs, S[o]? = some (.inr (ci, rs))
def gd {α : Type} (S : List Sh) (o ci : Nat) (x : Option α) : Option α := match S[o]? with
  | some (.inr q) => if q.1 = ci then x else none
  | _ => none
theorem gd_some {α : Type} {S : List Sh} {o ci : Nat} {x : Option α} {r : α} (h : gd S o ci x = some r) : isC S o ci ∧ x = some r := by
  unfold gd at h
  split at h
  · rename_i q hq
    split at h
    · rename_i hc
      exact ⟨⟨q.2, by rw [hq, ← hc]⟩, h⟩
    · cases h
  · cases h
def ldA (S : List Sh) (t : Nat) (mm : Mm) (o : Nat) (i : Int32) : Option Int32 := match S[o]? with
  | some (.inl q) => if q.1 = t ∧ 0 ≤ i.toInt ∧ i.toInt < q.2 then some (mm.1 o i.toNatClampNeg) else none
  | _ => none
def ldL (S : List Sh) (mm : Mm) (o : Nat) (i : Int32) : Option Int64 := match S[o]? with
  | some (.inl q) => if q.1 = 3 ∧ 0 ≤ i.toInt ∧ i.toInt < q.2 then some (mm.2 o i.toNatClampNeg) else none
  | _ => none
def narA (t : Nat) (v : Int32) : Int32 := if t = 1 then vp_nar .byte v else if t = 2 then vp_nar .boolean v else v
def stA (S : List Sh) (t : Nat) (mm : Mm) (o : Nat) (i v : Int32) : Option Mm := match S[o]? with
  | some (.inl q) => if q.1 = t ∧ 0 ≤ i.toInt ∧ i.toInt < q.2 then some (u1 mm o i.toNatClampNeg (narA t v)) else none
  | _ => none
def stL (S : List Sh) (mm : Mm) (o : Nat) (i : Int32) (v : Int64) : Option Mm := match S[o]? with
  | some (.inl q) => if q.1 = 3 ∧ 0 ≤ i.toInt ∧ i.toInt < q.2 then some (u2 mm o i.toNatClampNeg v) else none
  | _ => none
def alA (S : List Sh) (o : Nat) : Option Int32 := match S[o]? with
  | some (.inl q) => if q.1 ≤ 3 then some (Int32.ofNat q.2) else none
  | _ => none
def cpA (S : List Sh) (mm : Mm) (o1 : Nat) (sp : Int32) (o2 : Nat) (dp n : Int32) : Option Mm := match S[o1]?, S[o2]? with
  | some (.inl q1), some (.inl q2) => if q1.1 = 0 ∧ q2.1 = 0 ∧ 0 ≤ sp.toInt ∧ 0 ≤ dp.toInt ∧ 0 ≤ n.toInt ∧ sp.toInt + n.toInt ≤ q1.2 ∧ dp.toInt + n.toInt ≤ q2.2 then some (uA mm o2 (va_cpy (mm.1 o1) (mm.1 o2) sp.toNatClampNeg dp.toNatClampNeg n.toNatClampNeg)) else none
  | _, _ => none
def pR (S : List Sh) (mm : Mm) (o k r : Nat) : Option Mm := match S[o]? with
  | some (.inr q) => if q.2[k]? = some 0 ∧ r < 2 ^ 31 then some (u1 mm o k (nI r)) else none
  | _ => none
def okZ (v : Int32) : Option Int32 := if v = 0 ∨ v = 1 then some v else none
def dvI (x y : Int32) : Option Int32 := if y = 0 then none else some (x / y)
def rmI (x y : Int32) : Option Int32 := if y = 0 then none else some (x - x / y * y)
def dvL (x y : Int64) : Option Int64 := if y = 0 then none else some (x / y)
def rmL (x y : Int64) : Option Int64 := if y = 0 then none else some (x - x / y * y)
theorem ldA_some {S : List Sh} {t : Nat} {mm : Mm} {o : Nat} {i v : Int32} (h : ldA S t mm o i = some v) : ∃ n, S[o]? = some (.inl (t, n)) ∧ vp_in i n ∧ v = mm.1 o i.toNatClampNeg := by
  unfold ldA at h
  split at h
  · rename_i q hq
    split at h
    · rename_i hc
      cases h
      exact ⟨q.2, by rw [hq, ← hc.1], vp_in_iff.mpr hc.2, rfl⟩
    · cases h
  · cases h
theorem ldL_some {S : List Sh} {mm : Mm} {o : Nat} {i : Int32} {v : Int64} (h : ldL S mm o i = some v) : ∃ n, S[o]? = some (.inl (3, n)) ∧ vp_in i n ∧ v = mm.2 o i.toNatClampNeg := by
  unfold ldL at h
  split at h
  · rename_i q hq
    split at h
    · rename_i hc
      cases h
      exact ⟨q.2, by rw [hq, ← hc.1], vp_in_iff.mpr hc.2, rfl⟩
    · cases h
  · cases h
theorem stA_some {S : List Sh} {t : Nat} {mm m1 : Mm} {o : Nat} {i v : Int32} (h : stA S t mm o i v = some m1) : ∃ n, S[o]? = some (.inl (t, n)) ∧ vp_in i n ∧ m1 = u1 mm o i.toNatClampNeg (narA t v) := by
  unfold stA at h
  split at h
  · rename_i q hq
    split at h
    · rename_i hc
      cases h
      exact ⟨q.2, by rw [hq, ← hc.1], vp_in_iff.mpr hc.2, rfl⟩
    · cases h
  · cases h
theorem stL_some {S : List Sh} {mm m1 : Mm} {o : Nat} {i : Int32} {v : Int64} (h : stL S mm o i v = some m1) : ∃ n, S[o]? = some (.inl (3, n)) ∧ vp_in i n ∧ m1 = u2 mm o i.toNatClampNeg v := by
  unfold stL at h
  split at h
  · rename_i q hq
    split at h
    · rename_i hc
      cases h
      exact ⟨q.2, by rw [hq, ← hc.1], vp_in_iff.mpr hc.2, rfl⟩
    · cases h
  · cases h
