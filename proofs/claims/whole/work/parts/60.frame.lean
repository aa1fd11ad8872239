/-! ===== the pure side: evaluating the programs ===== -/
theorem bd1_e {α β : Type} (v : α) (f : α → Option β) : bd1 (some v) f = f v := Eq.trans rfl rfl
theorem bd2_e {α β γ : Type} (v : α) (w : β) (f : α → β → Option γ) : bd2 (some (v, w)) f = f v w := Eq.trans rfl rfl
theorem bdR_l {α β γ : Type} (v : α) (g : α → Option γ) (f : β → Option γ) : bdR (some (.inl v)) g f = g v := Eq.trans rfl rfl
theorem bdR_r {α β γ : Type} (v : β) (g : α → Option γ) (f : β → Option γ) : bdR (some (.inr v)) g f = f v := Eq.trans rfl rfl
theorem L0 : (0 : Int32) = nI 0 := Eq.trans rfl rfl
theorem L1 : (1 : Int32) = nI 1 := Eq.trans rfl rfl
theorem L2 : (2 : Int32) = nI 2 := Eq.trans rfl rfl
theorem L3 : (3 : Int32) = nI 3 := Eq.trans rfl rfl
theorem L4 : (4 : Int32) = nI 4 := Eq.trans rfl rfl
theorem L5 : (5 : Int32) = nI 5 := Eq.trans rfl rfl
theorem L6 : (6 : Int32) = nI 6 := Eq.trans rfl rfl
theorem L7 : (7 : Int32) = nI 7 := Eq.trans rfl rfl
theorem L8 : (8 : Int32) = nI 8 := Eq.trans rfl rfl
theorem L9 : (9 : Int32) = nI 9 := Eq.trans rfl rfl
theorem L10 : (10 : Int32) = nI 10 := Eq.trans rfl rfl
theorem L11 : (11 : Int32) = nI 11 := Eq.trans rfl rfl
theorem L12 : (12 : Int32) = nI 12 := Eq.trans rfl rfl
theorem L13 : (13 : Int32) = nI 13 := Eq.trans rfl rfl
theorem L14 : (14 : Int32) = nI 14 := Eq.trans rfl rfl
theorem L15 : (15 : Int32) = nI 15 := Eq.trans rfl rfl
theorem L16 : (16 : Int32) = nI 16 := Eq.trans rfl rfl
theorem L17 : (17 : Int32) = nI 17 := Eq.trans rfl rfl
theorem L18 : (18 : Int32) = nI 18 := Eq.trans rfl rfl
theorem L19 : (19 : Int32) = nI 19 := Eq.trans rfl rfl
theorem L20 : (20 : Int32) = nI 20 := Eq.trans rfl rfl
theorem L21 : (21 : Int32) = nI 21 := Eq.trans rfl rfl
theorem L22 : (22 : Int32) = nI 22 := Eq.trans rfl rfl
theorem L23 : (23 : Int32) = nI 23 := Eq.trans rfl rfl
theorem L24 : (24 : Int32) = nI 24 := Eq.trans rfl rfl
theorem L25 : (25 : Int32) = nI 25 := Eq.trans rfl rfl
theorem L26 : (26 : Int32) = nI 26 := Eq.trans rfl rfl
theorem L27 : (27 : Int32) = nI 27 := Eq.trans rfl rfl
theorem L28 : (28 : Int32) = nI 28 := Eq.trans rfl rfl
theorem L29 : (29 : Int32) = nI 29 := Eq.trans rfl rfl
theorem L30 : (30 : Int32) = nI 30 := Eq.trans rfl rfl
theorem L31 : (31 : Int32) = nI 31 := Eq.trans rfl rfl
theorem L32 : (32 : Int32) = nI 32 := Eq.trans rfl rfl
theorem L33 : (33 : Int32) = nI 33 := Eq.trans rfl rfl
theorem L34 : (34 : Int32) = nI 34 := Eq.trans rfl rfl
theorem L35 : (35 : Int32) = nI 35 := Eq.trans rfl rfl
theorem L36 : (36 : Int32) = nI 36 := Eq.trans rfl rfl
theorem L37 : (37 : Int32) = nI 37 := Eq.trans rfl rfl
theorem L38 : (38 : Int32) = nI 38 := Eq.trans rfl rfl
theorem L39 : (39 : Int32) = nI 39 := Eq.trans rfl rfl
theorem L40 : (40 : Int32) = nI 40 := Eq.trans rfl rfl
theorem L41 : (41 : Int32) = nI 41 := Eq.trans rfl rfl
theorem L42 : (42 : Int32) = nI 42 := Eq.trans rfl rfl
theorem L43 : (43 : Int32) = nI 43 := Eq.trans rfl rfl
theorem L44 : (44 : Int32) = nI 44 := Eq.trans rfl rfl
theorem L45 : (45 : Int32) = nI 45 := Eq.trans rfl rfl
theorem L46 : (46 : Int32) = nI 46 := Eq.trans rfl rfl
theorem L47 : (47 : Int32) = nI 47 := Eq.trans rfl rfl
theorem L48 : (48 : Int32) = nI 48 := Eq.trans rfl rfl
theorem L50 : (50 : Int32) = nI 50 := Eq.trans rfl rfl
theorem L57 : (57 : Int32) = nI 57 := Eq.trans rfl rfl
theorem L59 : (59 : Int32) = nI 59 := Eq.trans rfl rfl
theorem L60 : (60 : Int32) = nI 60 := Eq.trans rfl rfl
theorem L63 : (63 : Int32) = nI 63 := Eq.trans rfl rfl
theorem L64 : (64 : Int32) = nI 64 := Eq.trans rfl rfl
theorem L65 : (65 : Int32) = nI 65 := Eq.trans rfl rfl
theorem L70 : (70 : Int32) = nI 70 := Eq.trans rfl rfl
theorem L80 : (80 : Int32) = nI 80 := Eq.trans rfl rfl
theorem L90 : (90 : Int32) = nI 90 := Eq.trans rfl rfl
theorem L97 : (97 : Int32) = nI 97 := Eq.trans rfl rfl
theorem L100 : (100 : Int32) = nI 100 := Eq.trans rfl rfl
theorem L110 : (110 : Int32) = nI 110 := Eq.trans rfl rfl
theorem L120 : (120 : Int32) = nI 120 := Eq.trans rfl rfl
theorem L122 : (122 : Int32) = nI 122 := Eq.trans rfl rfl
theorem L128 : (128 : Int32) = nI 128 := Eq.trans rfl rfl
theorem L150 : (150 : Int32) = nI 150 := Eq.trans rfl rfl
theorem L200 : (200 : Int32) = nI 200 := Eq.trans rfl rfl
theorem L208 : (208 : Int32) = nI 208 := Eq.trans rfl rfl
theorem L216 : (216 : Int32) = nI 216 := Eq.trans rfl rfl
theorem L224 : (224 : Int32) = nI 224 := Eq.trans rfl rfl
theorem L232 : (232 : Int32) = nI 232 := Eq.trans rfl rfl
theorem L240 : (240 : Int32) = nI 240 := Eq.trans rfl rfl
theorem L248 : (248 : Int32) = nI 248 := Eq.trans rfl rfl
theorem L255 : (255 : Int32) = nI 255 := Eq.trans rfl rfl
theorem L256 : (256 : Int32) = nI 256 := Eq.trans rfl rfl
theorem L264 : (264 : Int32) = nI 264 := Eq.trans rfl rfl
theorem L272 : (272 : Int32) = nI 272 := Eq.trans rfl rfl
theorem L280 : (280 : Int32) = nI 280 := Eq.trans rfl rfl
theorem L288 : (288 : Int32) = nI 288 := Eq.trans rfl rfl
theorem L296 : (296 : Int32) = nI 296 := Eq.trans rfl rfl
theorem L297 : (297 : Int32) = nI 297 := Eq.trans rfl rfl
theorem L300 : (300 : Int32) = nI 300 := Eq.trans rfl rfl
theorem L336 : (336 : Int32) = nI 336 := Eq.trans rfl rfl
theorem L337 : (337 : Int32) = nI 337 := Eq.trans rfl rfl
theorem L500 : (500 : Int32) = nI 500 := Eq.trans rfl rfl
theorem L680 : (680 : Int32) = nI 680 := Eq.trans rfl rfl
theorem L700 : (700 : Int32) = nI 700 := Eq.trans rfl rfl
theorem L998 : (998 : Int32) = nI 998 := Eq.trans rfl rfl
theorem L999 : (999 : Int32) = nI 999 := Eq.trans rfl rfl
theorem L1000 : (1000 : Int32) = nI 1000 := Eq.trans rfl rfl
theorem L1024 : (1024 : Int32) = nI 1024 := Eq.trans rfl rfl
theorem L1999 : (1999 : Int32) = nI 1999 := Eq.trans rfl rfl
theorem L6403 : (6403 : Int32) = nI 6403 := Eq.trans rfl rfl
theorem L9999 : (9999 : Int32) = nI 9999 := Eq.trans rfl rfl
theorem L10000 : (10000 : Int32) = nI 10000 := Eq.trans rfl rfl
theorem L12345 : (12345 : Int32) = nI 12345 := Eq.trans rfl rfl
theorem L99999 : (99999 : Int32) = nI 99999 := Eq.trans rfl rfl
theorem L1000000 : (1000000 : Int32) = nI 1000000 := Eq.trans rfl rfl
theorem L214424576 : (214424576 : Int32) = nI 214424576 := Eq.trans rfl rfl
theorem L412560384 : (412560384 : Int32) = nI 412560384 := Eq.trans rfl rfl
theorem L509804544 : (509804544 : Int32) = nI 509804544 := Eq.trans rfl rfl
theorem L639025541 : (639025541 : Int32) = nI 639025541 := Eq.trans rfl rfl
theorem L642945024 : (642945024 : Int32) = nI 642945024 := Eq.trans rfl rfl
theorem L658545824 : (658545824 : Int32) = nI 658545824 := Eq.trans rfl rfl
theorem L1103515245 : (1103515245 : Int32) = nI 1103515245 := Eq.trans rfl rfl
theorem L2147483647 : (2147483647 : Int32) = nI 2147483647 := Eq.trans rfl rfl
theorem nn_lt {a b : Nat} (ha : a < 2147483648) (hb : b < 2147483648) : (nI a < nI b) ↔ a < b := nI_ltI ha hb
theorem nn_le {a b : Nat} (ha : a < 2147483648) (hb : b < 2147483648) : (nI a ≤ nI b) ↔ a ≤ b := nI_leI ha hb
theorem nn_eq {a b : Nat} (ha : a < 2147483648) (hb : b < 2147483648) : (nI a = nI b) ↔ a = b := nI_eq ha hb
theorem nI_m1 {a : Nat} (ha : a < 2147483648) : (nI a = -nI 1) ↔ False := by
  constructor
  · intro h
    have := congrArg Int32.toInt h
    rw [nI_toInt ha] at this
    have h2 : (-nI 1 : Int32).toInt = -1 := by decide
    omega
  · exact False.elim
theorem nI_m2 {a : Nat} (ha : a < 2147483648) : (nI a = -nI 2) ↔ False := by
  constructor
  · intro h
    have := congrArg Int32.toInt h
    rw [nI_toInt ha] at this
    have h2 : (-nI 2 : Int32).toInt = -2 := by decide
    omega
  · exact False.elim

/-! loads and stores at a number -/
theorem ldA_n {S : List Sh} {t n : Nat} {mm : Mm} {o k : Nat} (h : S[o]? = some (.inl (t, n))) (hk : k < n) (hn : n < 2147483648) : ldA S t mm o (nI k) = some (mm.1 o k) := by
  have e : (nI k).toInt = (k : Int) := nI_toInt (by omega)
  unfold ldA
  rw [h]
  show (if t = t ∧ 0 ≤ (nI k).toInt ∧ (nI k).toInt < (n : Int) then some (mm.1 o (nI k).toNatClampNeg) else none) = _
  rw [if_pos ⟨rfl, by omega, by omega⟩, nI_clamp (by omega)]
theorem ldL_n {S : List Sh} {n : Nat} {mm : Mm} {o k : Nat} (h : S[o]? = some (.inl (3, n))) (hk : k < n) (hn : n < 2147483648) : ldL S mm o (nI k) = some (mm.2 o k) := by
  have e : (nI k).toInt = (k : Int) := nI_toInt (by omega)
  unfold ldL
  rw [h]
  show (if (3:Nat) = 3 ∧ 0 ≤ (nI k).toInt ∧ (nI k).toInt < (n : Int) then some (mm.2 o (nI k).toNatClampNeg) else none) = _
  rw [if_pos ⟨rfl, by omega, by omega⟩, nI_clamp (by omega)]
theorem stA_n {S : List Sh} {t n : Nat} {mm : Mm} {o k : Nat} {v : Int32} (h : S[o]? = some (.inl (t, n))) (hk : k < n) (hn : n < 2147483648) : stA S t mm o (nI k) v = some (u1 mm o k (narA t v)) := by
  have e : (nI k).toInt = (k : Int) := nI_toInt (by omega)
  unfold stA
  rw [h]
  show (if t = t ∧ 0 ≤ (nI k).toInt ∧ (nI k).toInt < (n : Int) then some (u1 mm o (nI k).toNatClampNeg (narA t v)) else none) = _
  rw [if_pos ⟨rfl, by omega, by omega⟩, nI_clamp (by omega)]
theorem stL_n {S : List Sh} {n : Nat} {mm : Mm} {o k : Nat} {v : Int64} (h : S[o]? = some (.inl (3, n))) (hk : k < n) (hn : n < 2147483648) : stL S mm o (nI k) v = some (u2 mm o k v) := by
  have e : (nI k).toInt = (k : Int) := nI_toInt (by omega)
  unfold stL
  rw [h]
  show (if (3:Nat) = 3 ∧ 0 ≤ (nI k).toInt ∧ (nI k).toInt < (n : Int) then some (u2 mm o (nI k).toNatClampNeg v) else none) = _
  rw [if_pos ⟨rfl, by omega, by omega⟩, nI_clamp (by omega)]
theorem narA_0 (v : Int32) : narA 0 v = v := Eq.trans rfl rfl
theorem dvI_n {a d : Nat} (ha : a < 2147483648) (h0 : 0 < d) (hd : d < 2147483648) : dvI (nI a) (nI d) = some (nI (a / d)) := by
  unfold dvI
  rw [if_neg (nI_ne0 h0 hd), pk_div ha h0 hd]
theorem rmI_n {a d : Nat} (ha : a < 2147483648) (h0 : 0 < d) (hd : d < 2147483648) : rmI (nI a) (nI d) = some (nI (a % d)) := by
  unfold rmI
  rw [if_neg (nI_ne0 h0 hd), pk_rem ha h0 hd]
theorem okZ_0 : okZ (nI 0) = some (nI 0) := Eq.trans rfl rfl
theorem okZ_1 : okZ (nI 1) = some (nI 1) := Eq.trans rfl rfl
/-! memories -/
theorem uA_same {mm : Mm} {o : Nat} {f : Nat → Int32} : (uA mm o f).1 o = f := if_pos rfl
theorem uA_other {mm : Mm} {o k : Nat} {f : Nat → Int32} (h : k ≠ o) : (uA mm o f).1 k = mm.1 k := if_neg h
theorem u1_same {mm : Mm} {o i : Nat} {v : Int32} : (u1 mm o i v).1 o = upd (mm.1 o) i v := if_pos rfl
theorem u1_other {mm : Mm} {o i k : Nat} {v : Int32} (h : k ≠ o) : (u1 mm o i v).1 k = mm.1 k := if_neg h
def Fr (P : Nat → Prop) (m m' : Mm) : Prop := m'.2 = m.2 ∧ ∀ o, ¬ P o → m'.1 o = m.1 o
theorem Fr.rfl {P : Nat → Prop} {m : Mm} : Fr P m m := ⟨Eq.refl _, fun _ _ => Eq.refl _⟩
theorem Fr.trans {P : Nat → Prop} {m m' m'' : Mm} (h : Fr P m m') (h2 : Fr P m' m'') : Fr P m m'' := ⟨h2.1.trans h.1, fun o ho => (h2.2 o ho).trans (h.2 o ho)⟩
theorem Fr.mono {P Q : Nat → Prop} {m m' : Mm} (h : Fr P m m') (hq : ∀ o, P o → Q o) : Fr Q m m' := ⟨h.1, fun o ho => h.2 o (fun c => ho (hq o c))⟩
theorem Fr.u1 {P : Nat → Prop} {m : Mm} {o i : Nat} {v : Int32} (h : P o) : Fr P m (u1 m o i v) := ⟨Eq.refl _, fun k hk => u1_other (fun e => hk (e ▸ h))⟩
theorem Fr.uA {P : Nat → Prop} {m : Mm} {o : Nat} {f : Nat → Int32} (h : P o) : Fr P m (uA m o f) := ⟨Eq.refl _, fun k hk => uA_other (fun e => hk (e ▸ h))⟩
/-! loops: an invariant that counts -/
theorem lp_n {σ ρ : Type} {b : σ → Option (σ ⊕ ρ)} {N : Nat} {s0 : σ} (I : Nat → σ → Prop) (Q : ρ → Prop) (n : Nat) (h0 : I 0 s0) (hN : n < N) (hs : ∀ k s, k < n → I k s → (∃ s', b s = some (.inl s') ∧ I (k + 1) s') ∨ (∃ r, b s = some (.inr r) ∧ Q r)) (he : ∀ s, I n s → ∃ r, b s = some (.inr r) ∧ Q r) : ∃ r, lp b N s0 = some r ∧ Q r := by
  have key : ∀ d k s M, k + d = n → d < M → I k s → ∃ r, lp b M s = some r ∧ Q r := by
    intro d
    induction d with
    | zero =>
      intro k s M hk hM hI
      have hk' : k = n := by omega
      subst hk'
      obtain ⟨r, hr, hq⟩ := he s hI
      cases M with
      | zero => omega
      | succ M => exact ⟨r, by unfold lp; rw [hr], hq⟩
    | succ d ih =>
      intro k s M hk hM hI
      cases M with
      | zero => omega
      | succ M =>
        rcases hs k s (by omega) hI with ⟨s', hb, hI'⟩ | ⟨r, hb, hq⟩
        · obtain ⟨r, hr, hq⟩ := ih (k + 1) s' M (by omega) (by omega) hI'
          exact ⟨r, by unfold lp; rw [hb]; exact hr, hq⟩
        · exact ⟨r, by unfold lp; rw [hb], hq⟩
  exact key n 0 s0 N (by omega) hN h0
/-- a counting loop without another way out, its states told -/
theorem lp_f {σ ρ : Type} {b : σ → Option (σ ⊕ ρ)} {N : Nat} (G : Nat → σ) (n : Nat) {r : ρ} (hN : n < N) (hs : ∀ k, k < n → b (G k) = some (.inl (G (k + 1)))) (he : b (G n) = some (.inr r)) : lp b N (G 0) = some r := by
  obtain ⟨r', h, hq⟩ := lp_n (b := b) (N := N) (s0 := G 0) (fun k s => s = G k) (fun x => x = r) n rfl hN (fun k s hk e => Or.inl ⟨G (k + 1), by rw [e]; exact hs k hk, rfl⟩) (fun s e => ⟨r, by rw [e]; exact he, rfl⟩)
  rw [h, hq]
/-- sums and rounds -/
def sm : Nat → (Nat → Nat) → Nat
  | 0, _ => 0
  | n + 1, f => sm n f + f n
def it {α : Type} : Nat → (Nat → α → α) → α → α
  | 0, _, a => a
  | n + 1, f, a => f n (it n f a)
theorem sm_congr {n : Nat} {f g : Nat → Nat} (h : ∀ k, k < n → f k = g k) : sm n f = sm n g := by
  induction n with
  | zero => rfl
  | succ n ih => unfold sm; rw [ih (fun k hk => h k (by omega)), h n (by omega)]
theorem sm_upd {n : Nat} {f : Nat → Nat} {k v : Nat} (hk : k < n) : sm n (fun j => if j = k then v else f j) + f k = sm n f + v := by
  induction n with
  | zero => omega
  | succ n ih =>
    unfold sm
    by_cases h : k = n
    · subst h
      have e : sm k (fun j => if j = k then v else f j) = sm k f := sm_congr (fun j hj => if_neg (by omega))
      rw [e]
      simp
      omega
    · have := ih (by omega)
      simp only [if_neg (show ¬ n = k by omega)]
      omega
theorem sm_le {n : Nat} {f : Nat → Nat} {k : Nat} (hk : k < n) : f k ≤ sm n f := by
  induction n with
  | zero => omega
  | succ n ih =>
    unfold sm
    by_cases h : k = n
    · subst h; omega
    · have := ih (by omega); omega
theorem sm_zero {n : Nat} : sm n (fun _ => 0) = 0 := by
  induction n with
  | zero => rfl
  | succ n ih => unfold sm; rw [ih]; rfl
