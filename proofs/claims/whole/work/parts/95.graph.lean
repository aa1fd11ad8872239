/-! ===== ways in a small graph ===== -/
def wk (E : Nat → Nat → Bool) (n : Nat) : Nat → Nat → Nat → Prop
  | 0, l, t => l = t
  | k + 1, l, t => ∃ m, m < n ∧ E l m = true ∧ wk E n k m t
section GR
variable {E : Nat → Nat → Bool} {n : Nat}
theorem wk_s {k l t : Nat} : wk E n (k + 1) l t ↔ ∃ m, m < n ∧ E l m = true ∧ wk E n k m t := Iff.rfl
theorem wk_add {a b l m t : Nat} (h1 : wk E n a l m) (h2 : wk E n b m t) : wk E n (a + b) l t := by
  induction a generalizing l with
  | zero => cases h1; rw [Nat.zero_add]; exact h2
  | succ a ih =>
    obtain ⟨k, hk, he, hw⟩ := h1
    rw [Nat.succ_add]
    exact ⟨k, hk, he, ih hw⟩
theorem wk_1 {l t : Nat} (ht : t < n) : wk E n 1 l t ↔ E l t = true := by
  constructor
  · rintro ⟨m, hm, he, hw⟩
    cases hw
    exact he
  · intro h
    exact ⟨t, ht, h, rfl⟩
/-- reached by those below j -/
def rj (E : Nat → Nat → Bool) : Nat → Nat → Nat → Bool
  | 0, l, t => E l t
  | j + 1, l, t => rj E j l t || (rj E j l j && rj E j j t)
theorem rj_s {j l t : Nat} : rj E (j + 1) l t = (rj E j l t || (rj E j l j && rj E j j t)) := rfl
theorem rj_mono {i j l t : Nat} (hij : i ≤ j) (h : rj E i l t = true) : rj E j l t = true := by
  induction j with
  | zero => have : i = 0 := by omega
            rw [this] at h; exact h
  | succ j ih =>
    by_cases e : i = j + 1
    · rw [e] at h; exact h
    · rw [rj_s, ih (by omega)]; rfl
theorem rj_trans {j l m t : Nat} (hm : m < j) (h1 : rj E j l m = true) (h2 : rj E j m t = true) : rj E j l t = true := by
  induction j generalizing l m t with
  | zero => omega
  | succ j ih =>
    rw [rj_s, Bool.or_eq_true, Bool.and_eq_true] at h1 h2 ⊢
    by_cases e : m = j
    · subst e
      right
      refine ⟨?_, ?_⟩
      · rcases h1 with h | h
        · exact h
        · exact h.1
      · rcases h2 with h | h
        · exact h
        · exact h.2
    · have hm' : m < j := by omega
      rcases h1 with h1 | ⟨h1, h3⟩
      · rcases h2 with h2 | ⟨h2, h4⟩
        · exact Or.inl (ih hm' h1 h2)
        · exact Or.inr ⟨ih hm' h1 h2, h4⟩
      · rcases h2 with h2 | ⟨h2, h4⟩
        · exact Or.inr ⟨h1, ih hm' h3 h2⟩
        · exact Or.inr ⟨h1, h4⟩
theorem rj_wk {j l t : Nat} (hj : j ≤ n) (ht : t < n) (h : rj E j l t = true) : ∃ k, wk E n (k + 1) l t := by
  induction j generalizing l t with
  | zero => exact ⟨0, (wk_1 ht).mpr h⟩
  | succ j ih =>
    rw [rj_s, Bool.or_eq_true, Bool.and_eq_true] at h
    rcases h with h | ⟨h1, h2⟩
    · exact ih (by omega) ht h
    · obtain ⟨a, ha⟩ := ih (by omega) (show j < n by omega) h1
      obtain ⟨b, hb⟩ := ih (by omega) ht h2
      refine ⟨a + 1 + b, ?_⟩
      have := wk_add ha hb
      rw [show a + 1 + (b + 1) = a + 1 + b + 1 by omega] at this
      exact this
theorem wk_rj {k l t : Nat} (ht : t < n) (h : wk E n (k + 1) l t) : rj E n l t = true := by
  induction k generalizing l with
  | zero => exact rj_mono (i := 0) (Nat.zero_le _) ((wk_1 ht).mp h)
  | succ k ih =>
    obtain ⟨m, hm, he, hw⟩ := h
    exact rj_trans hm (rj_mono (i := 0) (Nat.zero_le _) he) (ih hw)
/-- whether one of the first has a thing -/
def anyB (c : Nat → Bool) : Nat → Bool
  | 0 => false
  | k + 1 => anyB c k || c k
theorem anyB_s {c : Nat → Bool} {k : Nat} : anyB c (k + 1) = (anyB c k || c k) := rfl
theorem anyB_iff {c : Nat → Bool} {k : Nat} : anyB c k = true ↔ ∃ i, i < k ∧ c i = true := by
  induction k with
  | zero => constructor
            · intro h; cases h
            · rintro ⟨i, hi, _⟩; omega
  | succ k ih =>
    rw [anyB_s, Bool.or_eq_true, ih]
    constructor
    · rintro (⟨i, hi, h⟩ | h)
      · exact ⟨i, by omega, h⟩
      · exact ⟨k, by omega, h⟩
    · rintro ⟨i, hi, h⟩
      by_cases e : i = k
      · subst e; exact Or.inr h
      · exact Or.inl ⟨i, by omega, h⟩
/-- how few steps, one or more, lead to a place: 0 if none do so far -/
def dsC (E : Nat → Nat → Bool) (n to m : Nat) (d : Nat → Nat) (l : Nat) : Bool := if m = 0 then E l to else anyB (fun k => E l k && (decide (k ≠ to) && decide (d k = m))) n
def ds (E : Nat → Nat → Bool) (n to : Nat) : Nat → Nat → Nat
  | 0, _ => 0
  | m + 1, l => if ds E n to m l ≠ 0 then ds E n to m l else if dsC E n to m (ds E n to m) l = true then m + 1 else 0
theorem ds_s {to m l : Nat} : ds E n to (m + 1) l = if ds E n to m l ≠ 0 then ds E n to m l else if dsC E n to m (ds E n to m) l = true then m + 1 else 0 := rfl
theorem ds_le {to m l : Nat} : ds E n to m l ≤ m := by
  induction m with
  | zero => exact Nat.le_refl _
  | succ m ih => rw [ds_s]; split <;> (try split) <;> omega
theorem ds_P {to m : Nat} (ht : to < n) : ∀ l, (ds E n to m l ≠ 0 → wk E n (ds E n to m l) l to ∧ ∀ u, 1 ≤ u → u < ds E n to m l → ¬ wk E n u l to) ∧ (ds E n to m l = 0 → ∀ u, 1 ≤ u → u ≤ m → ¬ wk E n u l to) := by
  induction m with
  | zero => intro l; exact ⟨fun h => absurd rfl h, fun _ u h1 h2 => by omega⟩
  | succ m ih =>
    intro l
    rw [ds_s]
    by_cases h0 : ds E n to m l = 0
    · rw [if_neg (fun c => c h0)]
      have hno := (ih l).2 h0
      by_cases hc : dsC E n to m (ds E n to m) l = true
      · rw [if_pos hc]
        refine ⟨fun _ => ⟨?_, fun u h1 h2 => hno u h1 (by omega)⟩, fun h => by omega⟩
        unfold dsC at hc
        by_cases e : m = 0
        · subst e
          rw [if_pos rfl] at hc
          exact (wk_1 ht).mpr hc
        · rw [if_neg e] at hc
          obtain ⟨k, hk, hk2⟩ := anyB_iff.mp hc
          rw [Bool.and_eq_true, Bool.and_eq_true] at hk2
          have hd := of_decide_eq_true hk2.2.2
          have := ((ih k).1 (by omega)).1
          rw [hd] at this
          exact ⟨k, hk, hk2.1, this⟩
      · rw [if_neg hc]
        refine ⟨fun h => absurd rfl h, fun _ u h1 h2 hw => ?_⟩
        by_cases eu : u = m + 1
        · subst eu
          apply hc
          unfold dsC
          by_cases e : m = 0
          · subst e
            rw [if_pos rfl]
            exact (wk_1 ht).mp hw
          · rw [if_neg e]
            obtain ⟨k, hk, he, hw2⟩ := hw
            refine anyB_iff.mpr ⟨k, hk, ?_⟩
            have hkt : k ≠ to := fun c => hno 1 (by omega) (by omega) ((wk_1 ht).mpr (c ▸ he))
            have hdk : ds E n to m k = m := by
              have hle := ds_le (E := E) (n := n) (to := to) (m := m) (l := k)
              by_cases z : ds E n to m k = 0
              · exact absurd hw2 ((ih k).2 z m (by omega) (Nat.le_refl _))
              · have h3 := (ih k).1 z
                by_cases q : ds E n to m k = m
                · exact q
                · exact absurd ⟨k, hk, he, h3.1⟩ (hno (ds E n to m k + 1) (by omega) (by omega))
            rw [Bool.and_eq_true, Bool.and_eq_true]
            exact ⟨he, decide_eq_true hkt, decide_eq_true hdk⟩
        · exact hno u h1 (by omega) hw
    · rw [if_pos h0]
      exact ⟨(ih l).1, fun h => absurd h h0⟩
/-- as many as there are rounds have been met, or none comes any more -/
theorem sm_cnt {d : Nat → Nat} {n : Nat} (h : n ≤ sm n (fun l => if d l ≠ 0 then 1 else 0)) : ∀ l, l < n → d l ≠ 0 := by
  intro l hl c
  have h1 := sm_eq (n := n) (f := fun l => if d l ≠ 0 then 1 else 0) (g := fun _ => 1) (fun k _ => by split <;> omega) (by
    have h2 : sm n (fun _ => 1) = n := by
      clear h hl
      induction n with
      | zero => rfl
      | succ n ih => rw [sm_s, ih]
    have h3 := sm_mono (n := n) (f := fun l => if d l ≠ 0 then 1 else 0) (g := fun _ => 1) (fun k _ => by split <;> omega)
    omega) l hl
  rw [if_neg (fun z => z c)] at h1
  omega
theorem sm_grow {d d' : Nat → Nat} {n l : Nat} (hl : l < n) (h : ∀ k, d k ≠ 0 → d' k ≠ 0) (h0 : d l = 0) (h1 : d' l ≠ 0) : sm n (fun k => if d k ≠ 0 then 1 else 0) + 1 ≤ sm n (fun k => if d' k ≠ 0 then 1 else 0) := by
  have key := sm_less (n := n) (f := l) (X := fun k => if d k ≠ 0 then 1 else 0) (Y := fun k => if d' k ≠ 0 then 1 else 0) hl (fun g _ => by
    by_cases c : d g ≠ 0
    · rw [if_pos c, if_pos (h g c)]; exact Nat.le_refl _
    · rw [if_neg c]; omega)
  rw [if_pos h1, if_neg (fun z => z h0)] at key
  omega
theorem ds_sat {to : Nat} (m : Nat) : m ≤ sm n (fun l => if ds E n to m l ≠ 0 then 1 else 0) ∨ (∀ q, ∀ l, l < n → ds E n to (m + q) l = ds E n to m l) := by
  induction m with
  | zero => left; omega
  | succ m ih =>
    rcases ih with ih | ih
    · by_cases c : ∃ l, l < n ∧ ds E n to m l = 0 ∧ ds E n to (m + 1) l ≠ 0
      · left
        obtain ⟨l, hl, h0, h1⟩ := c
        have := sm_grow (d := ds E n to m) (d' := ds E n to (m + 1)) hl (fun k hk => by rw [ds_s, if_pos hk]; exact hk) h0 h1
        omega
      · right
        have hno : ∀ l, l < n → ds E n to (m + 1) l ≠ m + 1 := by
          intro l hl h
          have hle := ds_le (E := E) (n := n) (to := to) (m := m) (l := l)
          have h0 : ds E n to m l = 0 := by
            by_cases z : ds E n to m l = 0
            · exact z
            · rw [ds_s, if_pos z] at h; omega
          exact c ⟨l, hl, h0, by omega⟩
        have key : ∀ q, (∀ l, l < n → ds E n to (m + 1 + q) l = ds E n to (m + 1) l) ∧ (∀ l, l < n → ds E n to (m + 1 + q) l ≠ m + 1 + q) := by
          intro q
          induction q with
          | zero => exact ⟨fun _ _ => rfl, hno⟩
          | succ q ihq =>
            have e : ∀ l, l < n → ds E n to (m + 1 + q + 1) l = ds E n to (m + 1 + q) l := by
              intro l hl
              rw [ds_s]
              by_cases z : ds E n to (m + 1 + q) l = 0
              · rw [if_neg (fun y => y z)]
                have hf : ¬ dsC E n to (m + 1 + q) (ds E n to (m + 1 + q)) l = true := by
                  intro h
                  unfold dsC at h
                  rw [if_neg (by omega)] at h
                  obtain ⟨k, hk, hk2⟩ := anyB_iff.mp h
                  rw [Bool.and_eq_true, Bool.and_eq_true] at hk2
                  exact ihq.2 k hk (of_decide_eq_true hk2.2.2)
                rw [if_neg hf, z]
              · rw [if_pos z]
            have hlt : ∀ l, l < n → ds E n to (m + 1 + q) l < m + 1 + q := fun l hl => by
              have := ds_le (E := E) (n := n) (to := to) (m := m + 1 + q) (l := l)
              have := ihq.2 l hl
              omega
            refine ⟨fun l hl => ?_, fun l hl => ?_⟩
            · show ds E n to (m + 1 + q + 1) l = _
              rw [e l hl]; exact ihq.1 l hl
            · show ds E n to (m + 1 + q + 1) l ≠ _
              rw [e l hl]; have := hlt l hl; omega
        exact fun q l hl => (key q).1 l hl
    · right
      intro q l hl
      have h1 := ih (1 + q) l hl
      have h2 := ih 1 l hl
      rw [show m + 1 + q = m + (1 + q) by omega, h1, h2]
theorem ds_all {to l : Nat} (ht : to < n) (hl : l < n) {k : Nat} (h : wk E n (k + 1) l to) : ds E n to n l ≠ 0 := by
  rcases ds_sat (E := E) (n := n) (to := to) n with h1 | h1
  · exact sm_cnt h1 l hl
  · intro c
    have h2 := h1 (k + 1) l hl
    rw [c] at h2
    exact (ds_P ht l).2 h2 (k + 1) (by omega) (by omega) h
theorem ds_rj {l : Nat} (hl : l < n) : ds E n l n l ≠ 0 ↔ rj E n l l = true := by
  constructor
  · intro h
    have h1 := ((ds_P hl l).1 h).1
    obtain ⟨v, hv⟩ : ∃ v, ds E n l n l = v + 1 := ⟨ds E n l n l - 1, by omega⟩
    rw [hv] at h1
    exact wk_rj hl h1
  · intro h
    obtain ⟨k, hk⟩ := rj_wk (Nat.le_refl _) hl h
    exact ds_all hl hl hk
/-- how few steps lead to a place: one more, 0 if none do so far -/
def fs (E : Nat → Nat → Bool) (n to : Nat) : Nat → Nat → Nat
  | 0, l => if l = to then 1 else 0
  | m + 1, l => if fs E n to m l ≠ 0 then fs E n to m l else if anyB (fun k => E l k && decide (fs E n to m k ≠ 0)) n = true then m + 2 else 0
theorem fs_s {to m l : Nat} : fs E n to (m + 1) l = if fs E n to m l ≠ 0 then fs E n to m l else if anyB (fun k => E l k && decide (fs E n to m k ≠ 0)) n = true then m + 2 else 0 := rfl
theorem fs_le {to m l : Nat} : fs E n to m l ≤ m + 1 := by
  induction m with
  | zero => unfold fs; split <;> omega
  | succ m ih => rw [fs_s]; split <;> (try split) <;> omega
theorem fs_P {to m : Nat} (ht : to < n) : ∀ l, (fs E n to m l ≠ 0 → wk E n (fs E n to m l - 1) l to ∧ ∀ u, u < fs E n to m l - 1 → ¬ wk E n u l to) ∧ (fs E n to m l = 0 → ∀ u, u ≤ m → ¬ wk E n u l to) := by
  induction m with
  | zero =>
    intro l
    unfold fs
    by_cases e : l = to
    · rw [if_pos e]
      exact ⟨fun _ => ⟨e, fun u hu => by omega⟩, fun h => by omega⟩
    · rw [if_neg e]
      refine ⟨fun h => absurd rfl h, fun _ u hu hw => ?_⟩
      have : u = 0 := by omega
      subst this
      exact e hw
  | succ m ih =>
    intro l
    rw [fs_s]
    by_cases h0 : fs E n to m l = 0
    · rw [if_neg (fun c => c h0)]
      have hno := (ih l).2 h0
      by_cases hc : anyB (fun k => E l k && decide (fs E n to m k ≠ 0)) n = true
      · rw [if_pos hc]
        refine ⟨fun _ => ⟨?_, fun u hu => hno u (by omega)⟩, fun h => by omega⟩
        obtain ⟨k, hk, hk2⟩ := anyB_iff.mp hc
        rw [Bool.and_eq_true] at hk2
        have hd := of_decide_eq_true hk2.2
        have h3 := ((ih k).1 hd).1
        have hle := fs_le (E := E) (n := n) (to := to) (m := m) (l := k)
        have hv : fs E n to m k - 1 = m := by
          by_cases z : fs E n to m k - 1 = m
          · exact z
          · exact absurd ⟨k, hk, hk2.1, h3⟩ (hno (fs E n to m k - 1 + 1) (by omega))
        rw [hv] at h3
        exact ⟨k, hk, hk2.1, h3⟩
      · rw [if_neg hc]
        refine ⟨fun h => absurd rfl h, fun _ u hu hw => ?_⟩
        by_cases eu : u = m + 1
        · subst eu
          obtain ⟨k, hk, he, hw2⟩ := hw
          apply hc
          refine anyB_iff.mpr ⟨k, hk, ?_⟩
          rw [Bool.and_eq_true]
          exact ⟨he, decide_eq_true (fun z => (ih k).2 z m (Nat.le_refl _) hw2)⟩
        · exact hno u (by omega) hw
    · rw [if_pos h0]
      exact ⟨(ih l).1, fun h => absurd h h0⟩
theorem fs_sat {to : Nat} (ht : to < n) (m : Nat) : m + 1 ≤ sm n (fun l => if fs E n to m l ≠ 0 then 1 else 0) ∨ (∀ q, ∀ l, l < n → fs E n to (m + q) l = fs E n to m l) := by
  induction m with
  | zero =>
    left
    have h1 := sm_le (n := n) (f := fun l => if fs E n to 0 l ≠ 0 then 1 else 0) ht
    rw [if_pos (by unfold fs; rw [if_pos rfl]; omega)] at h1
    omega
  | succ m ih =>
    rcases ih with ih | ih
    · by_cases c : ∃ l, l < n ∧ fs E n to m l = 0 ∧ fs E n to (m + 1) l ≠ 0
      · left
        obtain ⟨l, hl, h0, h1⟩ := c
        have := sm_grow (d := fs E n to m) (d' := fs E n to (m + 1)) hl (fun k hk => by rw [fs_s, if_pos hk]; exact hk) h0 h1
        omega
      · right
        have key : ∀ q, ∀ l, l < n → fs E n to (m + q) l = fs E n to m l := by
          intro q
          induction q with
          | zero => intro l _; rfl
          | succ q ihq =>
            intro l hl
            show fs E n to (m + q + 1) l = _
            rw [fs_s, ihq l hl]
            by_cases z : fs E n to m l = 0
            · rw [if_neg (fun y => y z)]
              have hf : ¬ anyB (fun k => E l k && decide (fs E n to (m + q) k ≠ 0)) n = true := by
                intro h
                apply c
                refine ⟨l, hl, z, ?_⟩
                rw [fs_s, if_neg (fun y => y z)]
                have : anyB (fun k => E l k && decide (fs E n to m k ≠ 0)) n = true := by
                  obtain ⟨k, hk, hk2⟩ := anyB_iff.mp h
                  exact anyB_iff.mpr ⟨k, hk, by rw [← ihq k hk]; exact hk2⟩
                rw [if_pos this]; omega
              rw [if_neg hf, z]
            · rw [if_pos z]
        intro q l hl
        rw [show m + 1 + q = m + (1 + q) by omega, key (1 + q) l hl, key 1 l hl]
    · right
      intro q l hl
      have h1 := ih (1 + q) l hl
      have h2 := ih 1 l hl
      rw [show m + 1 + q = m + (1 + q) by omega, h1, h2]
theorem fs_all {to l : Nat} (ht : to < n) (hl : l < n) {k : Nat} (h : wk E n k l to) : fs E n to (n - 1) l ≠ 0 := by
  rcases fs_sat (E := E) (n := n) ht (n - 1) with h1 | h1
  · exact sm_cnt (by omega) l hl
  · intro c
    have h2 := h1 k l hl
    rw [c] at h2
    exact (fs_P ht l).2 h2 k (by omega) h
/-- the two measures agree away from the place itself -/
theorem fs_ds {to l : Nat} (ht : to < n) (hl : l < n) (hne : l ≠ to) : fs E n to (n - 1) l = (if ds E n to n l = 0 then 0 else ds E n to n l + 1) := by
  by_cases h : ds E n to n l = 0
  · rw [if_pos h]
    by_cases z : fs E n to (n - 1) l = 0
    · exact z
    · have h1 := ((fs_P ht l).1 z).1
      obtain ⟨v, hv⟩ : ∃ v, fs E n to (n - 1) l - 1 = v := ⟨_, rfl⟩
      rw [hv] at h1
      cases v with
      | zero => exact absurd h1 hne
      | succ v => exact absurd h (ds_all ht hl h1)
  · rw [if_neg h]
    obtain ⟨h1, h2⟩ := (ds_P ht l).1 h
    have z := fs_all ht hl h1
    obtain ⟨h3, h4⟩ := (fs_P ht l).1 z
    have hge : ds E n to n l ≤ fs E n to (n - 1) l - 1 := by
      by_cases q : fs E n to (n - 1) l - 1 < ds E n to n l
      · by_cases q0 : fs E n to (n - 1) l - 1 = 0
        · rw [q0] at h3; exact absurd h3 hne
        · exact absurd h3 (h2 _ (by omega) q)
      · omega
    have hle : fs E n to (n - 1) l - 1 ≤ ds E n to n l := by
      by_cases q : ds E n to n l < fs E n to (n - 1) l - 1
      · exact absurd h1 (h4 _ q)
      · omega
    omega
theorem fs_to {to : Nat} (m : Nat) : fs E n to m to = 1 := by
  induction m with
  | zero => unfold fs; rw [if_pos rfl]
  | succ m ih => rw [fs_s, ih, if_pos (by omega)]
end GR
