/-! ===== plans ===== -/
def Pl : Type := Nat × Nat × (Nat → Int32) × (Nat → Nat) × (Nat → Nat) × (Nat → Int32) × (Nat → Nat) × (Nat → Nat → Nat) × Nat × Nat × Nat × Nat × Nat × Nat × Nat
def Pl.nl (π : Pl) : Nat := π.1
def Pl.nf (π : Pl) : Nat := π.2.1
def Pl.lname (π : Pl) : Nat → Int32 := π.2.2.1
def Pl.cap (π : Pl) : Nat → Nat := π.2.2.2.1
def Pl.delay (π : Pl) : Nat → Nat := π.2.2.2.2.1
def Pl.fname (π : Pl) : Nat → Int32 := π.2.2.2.2.2.1
def Pl.hops (π : Pl) : Nat → Nat := π.2.2.2.2.2.2.1
def Pl.path (π : Pl) : Nat → Nat → Nat := π.2.2.2.2.2.2.2.1
def Pl.each (π : Pl) : Nat := π.2.2.2.2.2.2.2.2.1
def Pl.middle (π : Pl) : Nat := π.2.2.2.2.2.2.2.2.2.1
def Pl.weight (π : Pl) : Nat := π.2.2.2.2.2.2.2.2.2.2.1
def Pl.cells (π : Pl) : Nat := π.2.2.2.2.2.2.2.2.2.2.2.1
def Pl.ticks (π : Pl) : Nat := π.2.2.2.2.2.2.2.2.2.2.2.2.1
def Pl.more (π : Pl) : Nat := π.2.2.2.2.2.2.2.2.2.2.2.2.2.1
def Pl.seed (π : Pl) : Nat := π.2.2.2.2.2.2.2.2.2.2.2.2.2.2
/-- where a link lies on a way: its place and one more, 0 if it does not -/
def hpF (path : Nat → Nat) (l : Nat) : Nat → Nat
  | 0 => 0
  | n + 1 => if hpF path l n ≠ 0 then hpF path l n else if path n = l then n + 1 else 0
def Pl.hp (π : Pl) (f l : Nat) : Nat := hpF (π.path f) l (π.hops f)
def Pl.pv (π : Pl) (l f : Nat) : Nat := if π.hp f l = 0 then 0 else if π.hp f l = 1 then 1 else π.path f (π.hp f l - 2) + 2
def Pl.nx (π : Pl) (l f : Nat) : Nat := if π.hp f l = 0 then 0 else if π.hp f l < π.hops f then π.path f (π.hp f l) + 1 else 0
def pvI : Nat → Int32
  | 0 => -2
  | 1 => -1
  | k + 2 => nI k
def nxI : Nat → Int32
  | 0 => -1
  | k + 1 => nI k
def Pl.ok (π : Pl) : Prop := (π.nl ≤ 10) ∧ (π.nf ≤ 8) ∧ (∀ l, l < π.nl → 1 ≤ π.cap l ∧ π.cap l ≤ 64) ∧ (∀ l, l < π.nl → π.delay l ≤ 4) ∧ (∀ f, f < π.nf → 1 ≤ π.hops f ∧ π.hops f ≤ 5) ∧ (∀ f i, f < π.nf → i < π.hops f → π.path f i < π.nl) ∧ (∀ f i j, f < π.nf → i < π.hops f → j < π.hops f → π.path f i = π.path f j → i = j) ∧ (1 ≤ π.each ∧ π.each ≤ 999) ∧ (1 ≤ π.middle ∧ π.middle ≤ 500) ∧ (π.weight ≤ 4) ∧ (1 ≤ π.cells ∧ π.cells ≤ 999) ∧ (1 ≤ π.ticks ∧ π.ticks ≤ 99) ∧ (1 ≤ π.more ∧ π.more ≤ 99) ∧ (π.seed ≤ 99999)
theorem Pl.ok.mk {π : Pl} (h_nl : π.nl ≤ 10) (h_nf : π.nf ≤ 8) (h_cap : ∀ l, l < π.nl → 1 ≤ π.cap l ∧ π.cap l ≤ 64) (h_delay : ∀ l, l < π.nl → π.delay l ≤ 4) (h_hops : ∀ f, f < π.nf → 1 ≤ π.hops f ∧ π.hops f ≤ 5) (h_path : ∀ f i, f < π.nf → i < π.hops f → π.path f i < π.nl) (h_inj : ∀ f i j, f < π.nf → i < π.hops f → j < π.hops f → π.path f i = π.path f j → i = j) (h_each : 1 ≤ π.each ∧ π.each ≤ 999) (h_middle : 1 ≤ π.middle ∧ π.middle ≤ 500) (h_weight : π.weight ≤ 4) (h_cells : 1 ≤ π.cells ∧ π.cells ≤ 999) (h_ticks : 1 ≤ π.ticks ∧ π.ticks ≤ 99) (h_more : 1 ≤ π.more ∧ π.more ≤ 99) (h_seed : π.seed ≤ 99999) : Pl.ok π := ⟨h_nl, h_nf, h_cap, h_delay, h_hops, h_path, h_inj, h_each, h_middle, h_weight, h_cells, h_ticks, h_more, h_seed⟩
theorem Pl.ok.nl {π : Pl} (h : Pl.ok π) : π.nl ≤ 10 := h.1
theorem Pl.ok.nf {π : Pl} (h : Pl.ok π) : π.nf ≤ 8 := h.2.1
theorem Pl.ok.cap {π : Pl} (h : Pl.ok π) : ∀ l, l < π.nl → 1 ≤ π.cap l ∧ π.cap l ≤ 64 := h.2.2.1
theorem Pl.ok.delay {π : Pl} (h : Pl.ok π) : ∀ l, l < π.nl → π.delay l ≤ 4 := h.2.2.2.1
theorem Pl.ok.hops {π : Pl} (h : Pl.ok π) : ∀ f, f < π.nf → 1 ≤ π.hops f ∧ π.hops f ≤ 5 := h.2.2.2.2.1
theorem Pl.ok.path {π : Pl} (h : Pl.ok π) : ∀ f i, f < π.nf → i < π.hops f → π.path f i < π.nl := h.2.2.2.2.2.1
theorem Pl.ok.inj {π : Pl} (h : Pl.ok π) : ∀ f i j, f < π.nf → i < π.hops f → j < π.hops f → π.path f i = π.path f j → i = j := h.2.2.2.2.2.2.1
theorem Pl.ok.each {π : Pl} (h : Pl.ok π) : 1 ≤ π.each ∧ π.each ≤ 999 := h.2.2.2.2.2.2.2.1
theorem Pl.ok.middle {π : Pl} (h : Pl.ok π) : 1 ≤ π.middle ∧ π.middle ≤ 500 := h.2.2.2.2.2.2.2.2.1
theorem Pl.ok.weight {π : Pl} (h : Pl.ok π) : π.weight ≤ 4 := h.2.2.2.2.2.2.2.2.2.1
theorem Pl.ok.cells {π : Pl} (h : Pl.ok π) : 1 ≤ π.cells ∧ π.cells ≤ 999 := h.2.2.2.2.2.2.2.2.2.2.1
theorem Pl.ok.ticks {π : Pl} (h : Pl.ok π) : 1 ≤ π.ticks ∧ π.ticks ≤ 99 := h.2.2.2.2.2.2.2.2.2.2.2.1
theorem Pl.ok.more {π : Pl} (h : Pl.ok π) : 1 ≤ π.more ∧ π.more ≤ 99 := h.2.2.2.2.2.2.2.2.2.2.2.2.1
theorem Pl.ok.seed {π : Pl} (h : Pl.ok π) : π.seed ≤ 99999 := h.2.2.2.2.2.2.2.2.2.2.2.2.2
def PF (m : Mm) (p : Nat) (π : Pl) : Prop := (m.1 p 9 = nI π.nl) ∧ (m.1 p 10 = nI π.nf) ∧ (∀ l, l < π.nl → m.1 (p + 1) l = π.lname l) ∧ (∀ l, l < π.nl → m.1 (p + 2) l = nI (π.cap l)) ∧ (∀ l, l < π.nl → m.1 (p + 3) l = nI (π.delay l)) ∧ (∀ f, f < π.nf → m.1 (p + 4) f = π.fname f) ∧ (∀ f, f < π.nf → m.1 (p + 5) f = nI (π.hops f)) ∧ (∀ f i, f < π.nf → i < π.hops f → m.1 (p + 6) (f * 5 + i) = nI (π.path f i)) ∧ (∀ l f, l < π.nl → f < π.nf → m.1 (p + 7) (l * 8 + f) = pvI (π.pv l f)) ∧ (∀ l f, l < π.nl → f < π.nf → m.1 (p + 8) (l * 8 + f) = nxI (π.nx l f)) ∧ (m.1 (p + 9) 0 = nI π.each) ∧ (m.1 (p + 9) 1 = nI π.middle) ∧ (m.1 (p + 9) 2 = nI π.weight) ∧ (m.1 (p + 9) 3 = nI π.cells) ∧ (m.1 (p + 9) 4 = nI π.ticks) ∧ (m.1 (p + 9) 5 = nI π.more) ∧ (m.1 (p + 9) 6 = nI π.seed)
theorem PF.mk {m : Mm} {p : Nat} {π : Pl} (h_nl : m.1 p 9 = nI π.nl) (h_nf : m.1 p 10 = nI π.nf) (h_lname : ∀ l, l < π.nl → m.1 (p + 1) l = π.lname l) (h_cap : ∀ l, l < π.nl → m.1 (p + 2) l = nI (π.cap l)) (h_delay : ∀ l, l < π.nl → m.1 (p + 3) l = nI (π.delay l)) (h_fname : ∀ f, f < π.nf → m.1 (p + 4) f = π.fname f) (h_hops : ∀ f, f < π.nf → m.1 (p + 5) f = nI (π.hops f)) (h_path : ∀ f i, f < π.nf → i < π.hops f → m.1 (p + 6) (f * 5 + i) = nI (π.path f i)) (h_pv : ∀ l f, l < π.nl → f < π.nf → m.1 (p + 7) (l * 8 + f) = pvI (π.pv l f)) (h_nx : ∀ l f, l < π.nl → f < π.nf → m.1 (p + 8) (l * 8 + f) = nxI (π.nx l f)) (h_each : m.1 (p + 9) 0 = nI π.each) (h_middle : m.1 (p + 9) 1 = nI π.middle) (h_weight : m.1 (p + 9) 2 = nI π.weight) (h_cells : m.1 (p + 9) 3 = nI π.cells) (h_ticks : m.1 (p + 9) 4 = nI π.ticks) (h_more : m.1 (p + 9) 5 = nI π.more) (h_seed : m.1 (p + 9) 6 = nI π.seed) : PF m p π := ⟨h_nl, h_nf, h_lname, h_cap, h_delay, h_fname, h_hops, h_path, h_pv, h_nx, h_each, h_middle, h_weight, h_cells, h_ticks, h_more, h_seed⟩
theorem PF.nl {m : Mm} {p : Nat} {π : Pl} (h : PF m p π) : m.1 p 9 = nI π.nl := h.1
theorem PF.nf {m : Mm} {p : Nat} {π : Pl} (h : PF m p π) : m.1 p 10 = nI π.nf := h.2.1
theorem PF.lname {m : Mm} {p : Nat} {π : Pl} (h : PF m p π) : ∀ l, l < π.nl → m.1 (p + 1) l = π.lname l := h.2.2.1
theorem PF.cap {m : Mm} {p : Nat} {π : Pl} (h : PF m p π) : ∀ l, l < π.nl → m.1 (p + 2) l = nI (π.cap l) := h.2.2.2.1
theorem PF.delay {m : Mm} {p : Nat} {π : Pl} (h : PF m p π) : ∀ l, l < π.nl → m.1 (p + 3) l = nI (π.delay l) := h.2.2.2.2.1
theorem PF.fname {m : Mm} {p : Nat} {π : Pl} (h : PF m p π) : ∀ f, f < π.nf → m.1 (p + 4) f = π.fname f := h.2.2.2.2.2.1
theorem PF.hops {m : Mm} {p : Nat} {π : Pl} (h : PF m p π) : ∀ f, f < π.nf → m.1 (p + 5) f = nI (π.hops f) := h.2.2.2.2.2.2.1
theorem PF.path {m : Mm} {p : Nat} {π : Pl} (h : PF m p π) : ∀ f i, f < π.nf → i < π.hops f → m.1 (p + 6) (f * 5 + i) = nI (π.path f i) := h.2.2.2.2.2.2.2.1
theorem PF.pv {m : Mm} {p : Nat} {π : Pl} (h : PF m p π) : ∀ l f, l < π.nl → f < π.nf → m.1 (p + 7) (l * 8 + f) = pvI (π.pv l f) := h.2.2.2.2.2.2.2.2.1
theorem PF.nx {m : Mm} {p : Nat} {π : Pl} (h : PF m p π) : ∀ l f, l < π.nl → f < π.nf → m.1 (p + 8) (l * 8 + f) = nxI (π.nx l f) := h.2.2.2.2.2.2.2.2.2.1
theorem PF.each {m : Mm} {p : Nat} {π : Pl} (h : PF m p π) : m.1 (p + 9) 0 = nI π.each := h.2.2.2.2.2.2.2.2.2.2.1
theorem PF.middle {m : Mm} {p : Nat} {π : Pl} (h : PF m p π) : m.1 (p + 9) 1 = nI π.middle := h.2.2.2.2.2.2.2.2.2.2.2.1
theorem PF.weight {m : Mm} {p : Nat} {π : Pl} (h : PF m p π) : m.1 (p + 9) 2 = nI π.weight := h.2.2.2.2.2.2.2.2.2.2.2.2.1
theorem PF.cells {m : Mm} {p : Nat} {π : Pl} (h : PF m p π) : m.1 (p + 9) 3 = nI π.cells := h.2.2.2.2.2.2.2.2.2.2.2.2.2.1
theorem PF.ticks {m : Mm} {p : Nat} {π : Pl} (h : PF m p π) : m.1 (p + 9) 4 = nI π.ticks := h.2.2.2.2.2.2.2.2.2.2.2.2.2.2.1
theorem PF.more {m : Mm} {p : Nat} {π : Pl} (h : PF m p π) : m.1 (p + 9) 5 = nI π.more := h.2.2.2.2.2.2.2.2.2.2.2.2.2.2.2.1
theorem PF.seed {m : Mm} {p : Nat} {π : Pl} (h : PF m p π) : m.1 (p + 9) 6 = nI π.seed := h.2.2.2.2.2.2.2.2.2.2.2.2.2.2.2.2
def PM (m : Mm) (π : Pl) : Prop := (m.1 2 0 = nI π.nl) ∧ (m.1 2 1 = nI π.nf) ∧ (∀ l, l < π.nl → m.1 4 l = π.lname l) ∧ (∀ l, l < π.nl → m.1 5 l = nI (π.cap l)) ∧ (∀ l, l < π.nl → m.1 6 l = nI (π.delay l)) ∧ (∀ f, f < π.nf → m.1 10 f = π.fname f) ∧ (∀ f, f < π.nf → m.1 13 f = nI (π.hops f)) ∧ (∀ f i, f < π.nf → i < π.hops f → m.1 14 (5 * f + i) = nI (π.path f i)) ∧ (m.1 2 2 = nI π.each) ∧ (m.1 2 3 = nI π.middle) ∧ (m.1 2 4 = nI π.weight) ∧ (m.1 2 5 = nI π.cells) ∧ (m.1 2 6 = nI π.ticks) ∧ (m.1 2 7 = nI π.more) ∧ (m.1 2 8 = nI π.seed)
theorem PM.mk {m : Mm} {π : Pl} (h_nl : m.1 2 0 = nI π.nl) (h_nf : m.1 2 1 = nI π.nf) (h_lname : ∀ l, l < π.nl → m.1 4 l = π.lname l) (h_cap : ∀ l, l < π.nl → m.1 5 l = nI (π.cap l)) (h_delay : ∀ l, l < π.nl → m.1 6 l = nI (π.delay l)) (h_fname : ∀ f, f < π.nf → m.1 10 f = π.fname f) (h_hops : ∀ f, f < π.nf → m.1 13 f = nI (π.hops f)) (h_path : ∀ f i, f < π.nf → i < π.hops f → m.1 14 (5 * f + i) = nI (π.path f i)) (h_each : m.1 2 2 = nI π.each) (h_middle : m.1 2 3 = nI π.middle) (h_weight : m.1 2 4 = nI π.weight) (h_cells : m.1 2 5 = nI π.cells) (h_ticks : m.1 2 6 = nI π.ticks) (h_more : m.1 2 7 = nI π.more) (h_seed : m.1 2 8 = nI π.seed) : PM m π := ⟨h_nl, h_nf, h_lname, h_cap, h_delay, h_fname, h_hops, h_path, h_each, h_middle, h_weight, h_cells, h_ticks, h_more, h_seed⟩
theorem PM.nl {m : Mm} {π : Pl} (h : PM m π) : m.1 2 0 = nI π.nl := h.1
theorem PM.nf {m : Mm} {π : Pl} (h : PM m π) : m.1 2 1 = nI π.nf := h.2.1
theorem PM.lname {m : Mm} {π : Pl} (h : PM m π) : ∀ l, l < π.nl → m.1 4 l = π.lname l := h.2.2.1
theorem PM.cap {m : Mm} {π : Pl} (h : PM m π) : ∀ l, l < π.nl → m.1 5 l = nI (π.cap l) := h.2.2.2.1
theorem PM.delay {m : Mm} {π : Pl} (h : PM m π) : ∀ l, l < π.nl → m.1 6 l = nI (π.delay l) := h.2.2.2.2.1
theorem PM.fname {m : Mm} {π : Pl} (h : PM m π) : ∀ f, f < π.nf → m.1 10 f = π.fname f := h.2.2.2.2.2.1
theorem PM.hops {m : Mm} {π : Pl} (h : PM m π) : ∀ f, f < π.nf → m.1 13 f = nI (π.hops f) := h.2.2.2.2.2.2.1
theorem PM.path {m : Mm} {π : Pl} (h : PM m π) : ∀ f i, f < π.nf → i < π.hops f → m.1 14 (5 * f + i) = nI (π.path f i) := h.2.2.2.2.2.2.2.1
theorem PM.each {m : Mm} {π : Pl} (h : PM m π) : m.1 2 2 = nI π.each := h.2.2.2.2.2.2.2.2.1
theorem PM.middle {m : Mm} {π : Pl} (h : PM m π) : m.1 2 3 = nI π.middle := h.2.2.2.2.2.2.2.2.2.1
theorem PM.weight {m : Mm} {π : Pl} (h : PM m π) : m.1 2 4 = nI π.weight := h.2.2.2.2.2.2.2.2.2.2.1
theorem PM.cells {m : Mm} {π : Pl} (h : PM m π) : m.1 2 5 = nI π.cells := h.2.2.2.2.2.2.2.2.2.2.2.1
theorem PM.ticks {m : Mm} {π : Pl} (h : PM m π) : m.1 2 6 = nI π.ticks := h.2.2.2.2.2.2.2.2.2.2.2.2.1
theorem PM.more {m : Mm} {π : Pl} (h : PM m π) : m.1 2 7 = nI π.more := h.2.2.2.2.2.2.2.2.2.2.2.2.2.1
theorem PM.seed {m : Mm} {π : Pl} (h : PM m π) : m.1 2 8 = nI π.seed := h.2.2.2.2.2.2.2.2.2.2.2.2.2.2
theorem PF.fr {P : Nat → Prop} {m m' : Mm} {p : Nat} {π : Pl} (h : PF m p π) (hf : Fr P m m') (hp : ∀ o, P o → o < p ∨ p + 9 < o) : PF m' p π := by
  have e : ∀ k, k < 10 → m'.1 (p + k) = m.1 (p + k) := fun k hk => hf.2 _ (fun c => by have := hp _ c; omega)
  have e0 := e 0 (by omega)
  simp only [Nat.add_zero] at e0
  refine PF.mk ?_ ?_ ?_ ?_ ?_ ?_ ?_ ?_ ?_ ?_ ?_ ?_ ?_ ?_ ?_ ?_ ?_
  all_goals first
    | (rw [e0]; first | exact h.nl | exact h.nf)
    | (intros; rw [e 1 (by omega)]; apply h.lname; assumption)
    | (intros; rw [e 2 (by omega)]; apply h.cap; assumption)
    | (intros; rw [e 3 (by omega)]; apply h.delay; assumption)
    | (intros; rw [e 4 (by omega)]; apply h.fname; assumption)
    | (intros; rw [e 5 (by omega)]; apply h.hops; assumption)
    | (intros; rw [e 6 (by omega)]; apply h.path <;> assumption)
    | (intros; rw [e 7 (by omega)]; apply h.pv <;> assumption)
    | (intros; rw [e 8 (by omega)]; apply h.nx <;> assumption)
    | (rw [e 9 (by omega)]; first | exact h.each | exact h.middle | exact h.weight | exact h.cells | exact h.ticks | exact h.more | exact h.seed)
theorem PM.fr {P : Nat → Prop} {m m' : Mm} {π : Pl} (h : PM m π) (hf : Fr P m m') (hp : ∀ o, P o → o = 0 ∨ 15 ≤ o ∨ o = 1) : PM m' π := by
  have e : ∀ k, 2 ≤ k → k < 15 → m'.1 k = m.1 k := fun k hk hk2 => hf.2 _ (fun c => by have := hp _ c; omega)
  refine PM.mk ?_ ?_ ?_ ?_ ?_ ?_ ?_ ?_ ?_ ?_ ?_ ?_ ?_ ?_ ?_
  all_goals first
    | (rw [e 2 (by omega) (by omega)]; first | exact h.nl | exact h.nf | exact h.each | exact h.middle | exact h.weight | exact h.cells | exact h.ticks | exact h.more | exact h.seed)
    | (intros; rw [e 4 (by omega) (by omega)]; apply h.lname; assumption)
    | (intros; rw [e 5 (by omega) (by omega)]; apply h.cap; assumption)
    | (intros; rw [e 6 (by omega) (by omega)]; apply h.delay; assumption)
    | (intros; rw [e 10 (by omega) (by omega)]; apply h.fname; assumption)
    | (intros; rw [e 13 (by omega) (by omega)]; apply h.hops; assumption)
    | (intros; rw [e 14 (by omega) (by omega)]; apply h.path <;> assumption)
/-! shapes of the two -/
theorem g7_0 {α : Type} (y : Option α) : gd SX7 0 7 y = y := Eq.trans rfl rfl
theorem r7_0_0 (mm : Mm) : rf SX7 mm 0 0 = 1 := Eq.trans rfl rfl
theorem r7_0_1 (mm : Mm) : rf SX7 mm 0 1 = 3 := Eq.trans rfl rfl
theorem r7_0_2 (mm : Mm) : rf SX7 mm 0 2 = 4 := Eq.trans rfl rfl
theorem r7_0_3 (mm : Mm) : rf SX7 mm 0 3 = 8 := Eq.trans rfl rfl
theorem r7_0_4 (mm : Mm) : rf SX7 mm 0 4 = 13 := Eq.trans rfl rfl
theorem r7_0_5 (mm : Mm) : rf SX7 mm 0 5 = 16 := Eq.trans rfl rfl
theorem r7_0_6 (mm : Mm) : rf SX7 mm 0 6 = 19 := Eq.trans rfl rfl
theorem r7_0_7 (mm : Mm) : rf SX7 mm 0 7 = 20 := Eq.trans rfl rfl
theorem g7_1 {α : Type} (y : Option α) : gd SX7 1 4 y = y := Eq.trans rfl rfl
theorem r7_1_0 (mm : Mm) : rf SX7 mm 1 0 = 2 := Eq.trans rfl rfl
theorem g7_4 {α : Type} (y : Option α) : gd SX7 4 5 y = y := Eq.trans rfl rfl
theorem r7_4_0 (mm : Mm) : rf SX7 mm 4 0 = 5 := Eq.trans rfl rfl
theorem r7_4_1 (mm : Mm) : rf SX7 mm 4 1 = 6 := Eq.trans rfl rfl
theorem r7_4_2 (mm : Mm) : rf SX7 mm 4 2 = 7 := Eq.trans rfl rfl
theorem g7_8 {α : Type} (y : Option α) : gd SX7 8 6 y = y := Eq.trans rfl rfl
theorem r7_8_0 (mm : Mm) : rf SX7 mm 8 0 = 9 := Eq.trans rfl rfl
theorem r7_8_1 (mm : Mm) : rf SX7 mm 8 1 = 10 := Eq.trans rfl rfl
theorem r7_8_2 (mm : Mm) : rf SX7 mm 8 2 = 11 := Eq.trans rfl rfl
theorem r7_8_3 (mm : Mm) : rf SX7 mm 8 3 = 12 := Eq.trans rfl rfl
theorem g7_13 {α : Type} (y : Option α) : gd SX7 13 3 y = y := Eq.trans rfl rfl
theorem r7_13_0 (mm : Mm) : rf SX7 mm 13 0 = 14 := Eq.trans rfl rfl
theorem r7_13_1 (mm : Mm) : rf SX7 mm 13 1 = 15 := Eq.trans rfl rfl
theorem g7_16 {α : Type} (y : Option α) : gd SX7 16 0 y = y := Eq.trans rfl rfl
theorem r7_16_0 (mm : Mm) : rf SX7 mm 16 0 = 17 := Eq.trans rfl rfl
theorem r7_16_1 (mm : Mm) : rf SX7 mm 16 1 = 18 := Eq.trans rfl rfl
theorem g7_3 {α : Type} (y : Option α) : gd SX7 3 2 y = y := Eq.trans rfl rfl
theorem g7_p {α : Type} {p : Nat} (hp : p = 21 ∨ p = 31) (y : Option α) : gd SX7 p 1 y = y := by rcases hp with rfl | rfl <;> rfl
theorem r7_p_0 {p : Nat} (hp : p = 21 ∨ p = 31) (mm : Mm) : rf SX7 mm p 0 = p + 1 := by rcases hp with rfl | rfl <;> rfl
theorem r7_p_1 {p : Nat} (hp : p = 21 ∨ p = 31) (mm : Mm) : rf SX7 mm p 1 = p + 2 := by rcases hp with rfl | rfl <;> rfl
theorem r7_p_2 {p : Nat} (hp : p = 21 ∨ p = 31) (mm : Mm) : rf SX7 mm p 2 = p + 3 := by rcases hp with rfl | rfl <;> rfl
theorem r7_p_3 {p : Nat} (hp : p = 21 ∨ p = 31) (mm : Mm) : rf SX7 mm p 3 = p + 4 := by rcases hp with rfl | rfl <;> rfl
theorem r7_p_4 {p : Nat} (hp : p = 21 ∨ p = 31) (mm : Mm) : rf SX7 mm p 4 = p + 5 := by rcases hp with rfl | rfl <;> rfl
theorem r7_p_5 {p : Nat} (hp : p = 21 ∨ p = 31) (mm : Mm) : rf SX7 mm p 5 = p + 6 := by rcases hp with rfl | rfl <;> rfl
theorem r7_p_6 {p : Nat} (hp : p = 21 ∨ p = 31) (mm : Mm) : rf SX7 mm p 6 = p + 7 := by rcases hp with rfl | rfl <;> rfl
theorem r7_p_7 {p : Nat} (hp : p = 21 ∨ p = 31) (mm : Mm) : rf SX7 mm p 7 = p + 8 := by rcases hp with rfl | rfl <;> rfl
theorem r7_p_8 {p : Nat} (hp : p = 21 ∨ p = 31) (mm : Mm) : rf SX7 mm p 8 = p + 9 := by rcases hp with rfl | rfl <;> rfl
theorem g8_0 {α : Type} (y : Option α) : gd SX8 0 8 y = y := Eq.trans rfl rfl
theorem r8_1 (mm : Mm) : rf SX8 mm 0 1 = 1 := Eq.trans rfl rfl
theorem r8_3 (mm : Mm) : rf SX8 mm 0 3 = 2 := Eq.trans rfl rfl
theorem r8_4 (mm : Mm) : rf SX8 mm 0 4 = 3 := Eq.trans rfl rfl
theorem r8_5 (mm : Mm) : rf SX8 mm 0 5 = 4 := Eq.trans rfl rfl
theorem r8_6 (mm : Mm) : rf SX8 mm 0 6 = 5 := Eq.trans rfl rfl
theorem r8_7 (mm : Mm) : rf SX8 mm 0 7 = 6 := Eq.trans rfl rfl
theorem r8_8 (mm : Mm) : rf SX8 mm 0 8 = 7 := Eq.trans rfl rfl
theorem r8_9 (mm : Mm) : rf SX8 mm 0 9 = 8 := Eq.trans rfl rfl
theorem r8_10 (mm : Mm) : rf SX8 mm 0 10 = 9 := Eq.trans rfl rfl
theorem r8_11 (mm : Mm) : rf SX8 mm 0 11 = 10 := Eq.trans rfl rfl
theorem r8_12 (mm : Mm) : rf SX8 mm 0 12 = 11 := Eq.trans rfl rfl
theorem r8_13 (mm : Mm) : rf SX8 mm 0 13 = 12 := Eq.trans rfl rfl
theorem r8_14 (mm : Mm) : rf SX8 mm 0 14 = 13 := Eq.trans rfl rfl
theorem r8_15 (mm : Mm) : rf SX8 mm 0 15 = 14 := Eq.trans rfl rfl
theorem r8_26 (mm : Mm) : rf SX8 mm 0 26 = 15 := Eq.trans rfl rfl
theorem r8_27 (mm : Mm) : rf SX8 mm 0 27 = 16 := Eq.trans rfl rfl
theorem r8_28 (mm : Mm) : rf SX8 mm 0 28 = 17 := Eq.trans rfl rfl
theorem r8_29 (mm : Mm) : rf SX8 mm 0 29 = 18 := Eq.trans rfl rfl
theorem r8_30 (mm : Mm) : rf SX8 mm 0 30 = 19 := Eq.trans rfl rfl
theorem r8_33 (mm : Mm) : rf SX8 mm 0 33 = 20 := Eq.trans rfl rfl
theorem r8_34 (mm : Mm) : rf SX8 mm 0 34 = 21 := Eq.trans rfl rfl
theorem r8_35 (mm : Mm) : rf SX8 mm 0 35 = 22 := Eq.trans rfl rfl
theorem r8_36 (mm : Mm) : rf SX8 mm 0 36 = 23 := Eq.trans rfl rfl
theorem r8_37 (mm : Mm) : rf SX8 mm 0 37 = 24 := Eq.trans rfl rfl
theorem r8_39 (mm : Mm) : rf SX8 mm 0 39 = 25 := Eq.trans rfl rfl
theorem r8_40 (mm : Mm) : rf SX8 mm 0 40 = 26 := Eq.trans rfl rfl
theorem r8_41 (mm : Mm) : rf SX8 mm 0 41 = 27 := Eq.trans rfl rfl
theorem r8_43 (mm : Mm) : rf SX8 mm 0 43 = 28 := Eq.trans rfl rfl
theorem r8_44 (mm : Mm) : rf SX8 mm 0 44 = 29 := Eq.trans rfl rfl
theorem r8_45 (mm : Mm) : rf SX8 mm 0 45 = 30 := Eq.trans rfl rfl
theorem s7_2 : SX7[2]? = some (.inl (1, 700)) := rfl
theorem s7_5 : SX7[5]? = some (.inl (0, 80)) := rfl
theorem s7_6 : SX7[6]? = some (.inl (0, 8)) := rfl
theorem s7_7 : SX7[7]? = some (.inl (0, 8)) := rfl
theorem s7_9 : SX7[9]? = some (.inl (0, 10)) := rfl
theorem s7_10 : SX7[10]? = some (.inl (0, 10)) := rfl
theorem s7_11 : SX7[11]? = some (.inl (0, 10)) := rfl
theorem s7_12 : SX7[12]? = some (.inl (0, 10)) := rfl
theorem s7_14 : SX7[14]? = some (.inl (0, 8)) := rfl
theorem s7_15 : SX7[15]? = some (.inl (2, 8)) := rfl
theorem s7_17 : SX7[17]? = some (.inl (0, 5940)) := rfl
theorem s7_18 : SX7[18]? = some (.inl (0, 297)) := rfl
theorem s7_19 : SX7[19]? = some (.inl (0, 297)) := rfl
theorem s7_20 : SX7[20]? = some (.inl (0, 297)) := rfl
theorem s7_x {x : Nat} (hx : x = 19 ∨ x = 20) : SX7[x]? = some (.inl (0, 297)) := by rcases hx with rfl | rfl <;> rfl
theorem s7_p1 {p : Nat} (hp : p = 21 ∨ p = 31) : SX7[p + 1]? = some (.inl (0, 10)) := by rcases hp with rfl | rfl <;> rfl
theorem s7_p2 {p : Nat} (hp : p = 21 ∨ p = 31) : SX7[p + 2]? = some (.inl (0, 10)) := by rcases hp with rfl | rfl <;> rfl
theorem s7_p3 {p : Nat} (hp : p = 21 ∨ p = 31) : SX7[p + 3]? = some (.inl (0, 10)) := by rcases hp with rfl | rfl <;> rfl
theorem s7_p4 {p : Nat} (hp : p = 21 ∨ p = 31) : SX7[p + 4]? = some (.inl (0, 8)) := by rcases hp with rfl | rfl <;> rfl
theorem s7_p5 {p : Nat} (hp : p = 21 ∨ p = 31) : SX7[p + 5]? = some (.inl (0, 8)) := by rcases hp with rfl | rfl <;> rfl
theorem s7_p6 {p : Nat} (hp : p = 21 ∨ p = 31) : SX7[p + 6]? = some (.inl (0, 40)) := by rcases hp with rfl | rfl <;> rfl
theorem s7_p7 {p : Nat} (hp : p = 21 ∨ p = 31) : SX7[p + 7]? = some (.inl (0, 80)) := by rcases hp with rfl | rfl <;> rfl
theorem s7_p8 {p : Nat} (hp : p = 21 ∨ p = 31) : SX7[p + 8]? = some (.inl (0, 80)) := by rcases hp with rfl | rfl <;> rfl
theorem s7_p9 {p : Nat} (hp : p = 21 ∨ p = 31) : SX7[p + 9]? = some (.inl (0, 7)) := by rcases hp with rfl | rfl <;> rfl
theorem s8_1 : SX8[1]? = some (.inl (0, 700)) := rfl
theorem s8_2 : SX8[2]? = some (.inl (0, 18)) := rfl
theorem s8_3 : SX8[3]? = some (.inl (2, 6)) := rfl
theorem s8_4 : SX8[4]? = some (.inl (0, 20)) := rfl
theorem s8_5 : SX8[5]? = some (.inl (0, 20)) := rfl
theorem s8_6 : SX8[6]? = some (.inl (0, 20)) := rfl
theorem s8_7 : SX8[7]? = some (.inl (0, 20)) := rfl
theorem s8_8 : SX8[8]? = some (.inl (0, 20)) := rfl
theorem s8_9 : SX8[9]? = some (.inl (0, 20)) := rfl
theorem s8_10 : SX8[10]? = some (.inl (0, 16)) := rfl
theorem s8_11 : SX8[11]? = some (.inl (0, 16)) := rfl
theorem s8_12 : SX8[12]? = some (.inl (2, 16)) := rfl
theorem s8_13 : SX8[13]? = some (.inl (0, 16)) := rfl
theorem s8_14 : SX8[14]? = some (.inl (0, 80)) := rfl
theorem s8_15 : SX8[15]? = some (.inl (0, 337)) := rfl
theorem s8_16 : SX8[16]? = some (.inl (0, 337)) := rfl
theorem s8_17 : SX8[17]? = some (.inl (0, 337)) := rfl
theorem s8_18 : SX8[18]? = some (.inl (0, 337)) := rfl
theorem s8_19 : SX8[19]? = some (.inl (0, 6740)) := rfl
theorem s8_20 : SX8[20]? = some (.inl (0, 80)) := rfl
theorem s8_21 : SX8[21]? = some (.inl (0, 80)) := rfl
theorem s8_22 : SX8[22]? = some (.inl (0, 80)) := rfl
theorem s8_23 : SX8[23]? = some (.inl (0, 80)) := rfl
theorem s8_24 : SX8[24]? = some (.inl (0, 80)) := rfl
theorem s8_25 : SX8[25]? = some (.inl (0, 10)) := rfl
theorem s8_26 : SX8[26]? = some (.inl (0, 10)) := rfl
theorem s8_27 : SX8[27]? = some (.inl (0, 10)) := rfl
theorem s8_28 : SX8[28]? = some (.inl (3, 8)) := rfl
theorem s8_29 : SX8[29]? = some (.inl (3, 8)) := rfl
theorem s8_30 : SX8[30]? = some (.inl (2, 8)) := rfl
theorem u1_rs {m : Mm} {o i : Nat} {v : Int32} : (u1 m o i v).1 o i = v := u1_eq
theorem u1_rn {m : Mm} {o i k j : Nat} {v : Int32} (h : j ≠ i ∨ k ≠ o) : (u1 m o i v).1 k j = m.1 k j := by
  by_cases e : k = o
  · subst e
    exact u1_ne (by omega)
  · rw [u1_other e]
theorem ite_lt {x y a b : Nat} {i : Decidable (x < y)} : (@ite _ (x < y) i (nI a) (nI b)) = nI (if x < y then a else b) := by
  by_cases h : x < y
  · rw [if_pos h, if_pos h]
  · rw [if_neg h, if_neg h]
theorem ite_le {x y a b : Nat} {i : Decidable (x ≤ y)} : (@ite _ (x ≤ y) i (nI a) (nI b)) = nI (if x ≤ y then a else b) := by
  by_cases h : x ≤ y
  · rw [if_pos h, if_pos h]
  · rw [if_neg h, if_neg h]
theorem ite_eq {x y a b : Nat} {i : Decidable (x = y)} : (@ite _ (x = y) i (nI a) (nI b)) = nI (if x = y then a else b) := by
  by_cases h : x = y
  · rw [if_pos h, if_pos h]
  · rw [if_neg h, if_neg h]
/-- rows of numbers: the class's layout, behind it what the ticker holds (moved from 300, sent from 380) -/
def upN (X : Nat → Nat) (i v : Nat) : Nat → Nat := fun j => if j = i then v else X j
theorem upN_s {X : Nat → Nat} {i v : Nat} : upN X i v i = v := if_pos rfl
theorem upN_n {X : Nat → Nat} {i v j : Nat} (h : j ≠ i) : upN X i v j = X j := if_neg h
def CF (m : Mm) (x : Nat) (X : Nat → Nat) : Prop := (∀ i, i < 297 → m.1 x i = nI (X i)) ∧ (∀ j, j < 80 → m.1 5 j = nI (X (300 + j))) ∧ (∀ j, j < 8 → m.1 7 j = nI (X (380 + j)))
theorem CF.mk {m : Mm} {x : Nat} {X : Nat → Nat} (h_row : ∀ i, i < 297 → m.1 x i = nI (X i)) (h_mv : ∀ j, j < 80 → m.1 5 j = nI (X (300 + j))) (h_sn : ∀ j, j < 8 → m.1 7 j = nI (X (380 + j))) : CF m x X := ⟨h_row, h_mv, h_sn⟩
theorem CF.row {m : Mm} {x : Nat} {X : Nat → Nat} (h : CF m x X) : ∀ i, i < 297 → m.1 x i = nI (X i) := h.1
theorem CF.mv {m : Mm} {x : Nat} {X : Nat → Nat} (h : CF m x X) : ∀ j, j < 80 → m.1 5 j = nI (X (300 + j)) := h.2.1
theorem CF.sn {m : Mm} {x : Nat} {X : Nat → Nat} (h : CF m x X) : ∀ j, j < 8 → m.1 7 j = nI (X (380 + j)) := h.2.2
theorem CF.st {m : Mm} {x : Nat} {X : Nat → Nat} (h : CF m x X) (i v : Nat) (hx : x = 19 ∨ x = 20) (hi : i < 297) : CF (u1 m x i (nI v)) x (upN X i v) := by
  refine CF.mk ?_ ?_ ?_
  · intro j hj
    by_cases e : j = i
    · subst e; rw [u1_rs, upN_s]
    · rw [u1_rn (Or.inl e), upN_n e, h.row j hj]
  · intro j hj
    rw [u1_rn (Or.inr (by omega)), upN_n (by omega), h.mv j hj]
  · intro j hj
    rw [u1_rn (Or.inr (by omega)), upN_n (by omega), h.sn j hj]
theorem CF.stm {m : Mm} {x : Nat} {X : Nat → Nat} (h : CF m x X) (i v : Nat) (hx : x = 19 ∨ x = 20) (hi : i < 80) : CF (u1 m 5 i (nI v)) x (upN X (300 + i) v) := by
  refine CF.mk ?_ ?_ ?_
  · intro j hj
    rw [u1_rn (Or.inr (by omega)), upN_n (by omega), h.row j hj]
  · intro j hj
    by_cases e : j = i
    · subst e; rw [u1_rs, upN_s]
    · rw [u1_rn (Or.inl e), upN_n (by omega), h.mv j hj]
  · intro j hj
    rw [u1_rn (Or.inr (by omega)), upN_n (by omega), h.sn j hj]
theorem CF.sts {m : Mm} {x : Nat} {X : Nat → Nat} (h : CF m x X) (i v : Nat) (hx : x = 19 ∨ x = 20) (hi : i < 8) : CF (u1 m 7 i (nI v)) x (upN X (380 + i) v) := by
  refine CF.mk ?_ ?_ ?_
  · intro j hj
    rw [u1_rn (Or.inr (by omega)), upN_n (by omega), h.row j hj]
  · intro j hj
    rw [u1_rn (Or.inr (by omega)), upN_n (by omega), h.mv j hj]
  · intro j hj
    by_cases e : j = i
    · subst e; rw [u1_rs, upN_s]
    · rw [u1_rn (Or.inl e), upN_n (by omega), h.sn j hj]
theorem CF.congr {m : Mm} {x : Nat} {X Y : Nat → Nat} (h : CF m x X) (e : ∀ i, i < 388 → X i = Y i) : CF m x Y := CF.mk (fun i hi => (h.row i hi).trans (by rw [e i (by omega)])) (fun i hi => (h.mv i hi).trans (by rw [e _ (by omega)])) (fun i hi => (h.sn i hi).trans (by rw [e _ (by omega)]))
theorem CF.fr {P : Nat → Prop} {m m' : Mm} {x : Nat} {X : Nat → Nat} (h : CF m x X) (hf : Fr P m m') (hp : ∀ o, P o → o ≠ x ∧ o ≠ 5 ∧ o ≠ 7) : CF m' x X := CF.mk (fun i hi => by rw [hf.2 x (fun c => (hp _ c).1 rfl)]; exact h.row i hi) (fun i hi => by rw [hf.2 5 (fun c => (hp _ c).2.1 rfl)]; exact h.mv i hi) (fun i hi => by rw [hf.2 7 (fun c => (hp _ c).2.2 rfl)]; exact h.sn i hi)
def RM (m : Mm) (X : Nat → Nat) : Prop := (∀ l, l < 10 → m.1 15 (24 * l + 0) = nI (X (0 + l))) ∧ (∀ l, l < 10 → m.1 15 (24 * l + 1) = nI (X (10 + l))) ∧ (∀ l, l < 10 → m.1 15 (24 * l + 2) = nI (X (20 + l))) ∧ (∀ l, l < 10 → m.1 15 (24 * l + 3) = nI (X (50 + l))) ∧ (∀ l, l < 10 → m.1 15 (24 * l + 4) = nI (X (60 + l))) ∧ (∀ l, l < 10 → m.1 15 (24 * l + 5) = nI (X (70 + l))) ∧ (∀ l, l < 10 → m.1 15 (24 * l + 6) = nI (X (80 + l))) ∧ (∀ l, l < 10 → m.1 15 (24 * l + 7) = nI (X (90 + l))) ∧ (∀ l, l < 10 → m.1 15 (24 * l + 8) = nI (X (100 + l))) ∧ (∀ l, l < 10 → m.1 15 (24 * l + 9) = nI (X (110 + l))) ∧ (∀ l k, l < 10 → k < 5 → m.1 15 (24 * l + 10 + k) = nI (X (40 + l) / 2 ^ k % 2)) ∧ (∀ l f, l < 10 → f < 8 → m.1 15 (24 * l + 15 + f) = nI (X (120 + l * 8 + f))) ∧ (∀ f, f < 8 → m.1 15 (240 + 12 * f + 0) = nI (X (200 + f))) ∧ (∀ f, f < 8 → m.1 15 (240 + 12 * f + 1) = nI (X (208 + f))) ∧ (∀ f, f < 8 → m.1 15 (240 + 12 * f + 2) = nI (X (216 + f))) ∧ (∀ f, f < 8 → m.1 15 (240 + 12 * f + 2 + 1) = nI (X (224 + f))) ∧ (∀ f, f < 8 → m.1 15 (240 + 12 * f + 4) = nI (X (232 + f))) ∧ (∀ f, f < 8 → m.1 15 (240 + 12 * f + 5) = nI (X (240 + f))) ∧ (∀ f, f < 8 → m.1 15 (240 + 12 * f + 6) = nI (X (256 + f))) ∧ (∀ f, f < 8 → m.1 15 (240 + 12 * f + 7) = nI (X (264 + f))) ∧ (∀ f, f < 8 → m.1 15 (240 + 12 * f + 8) = nI (X (272 + f))) ∧ (∀ f, f < 8 → m.1 15 (240 + 12 * f + 9) = nI (X (280 + f))) ∧ (∀ f, f < 8 → m.1 15 (240 + 12 * f + 10) = nI (X (288 + f))) ∧ (∀ f, f < 8 → m.1 15 (240 + 12 * f + 11) = nI (X (248 + f))) ∧ (m.1 15 336 = nI (X 296))
theorem RM.mk {m : Mm} {X : Nat → Nat} (h_xoff : ∀ l, l < 10 → m.1 15 (24 * l + 0) = nI (X (0 + l))) (h_xon : ∀ l, l < 10 → m.1 15 (24 * l + 1) = nI (X (10 + l))) (h_size : ∀ l, l < 10 → m.1 15 (24 * l + 2) = nI (X (20 + l))) (h_lost : ∀ l, l < 10 → m.1 15 (24 * l + 3) = nI (X (50 + l))) (h_peak : ∀ l, l < 10 → m.1 15 (24 * l + 4) = nI (X (60 + l))) (h_samples : ∀ l, l < 10 → m.1 15 (24 * l + 5) = nI (X (70 + l))) (h_noted : ∀ l, l < 10 → m.1 15 (24 * l + 6) = nI (X (80 + l))) (h_carried : ∀ l, l < 10 → m.1 15 (24 * l + 7) = nI (X (90 + l))) (h_count : ∀ l, l < 10 → m.1 15 (24 * l + 8) = nI (X (100 + l))) (h_was : ∀ l, l < 10 → m.1 15 (24 * l + 9) = nI (X (110 + l))) (h_bits : ∀ l k, l < 10 → k < 5 → m.1 15 (24 * l + 10 + k) = nI (X (40 + l) / 2 ^ k % 2)) (h_q : ∀ l f, l < 10 → f < 8 → m.1 15 (24 * l + 15 + f) = nI (X (120 + l * 8 + f))) (h_rate : ∀ f, f < 8 → m.1 15 (240 + 12 * f + 0) = nI (X (200 + f))) (h_target : ∀ f, f < 8 → m.1 15 (240 + 12 * f + 1) = nI (X (208 + f))) (h_stc : ∀ f, f < 8 → m.1 15 (240 + 12 * f + 2) = nI (X (216 + f))) (h_stt : ∀ f, f < 8 → m.1 15 (240 + 12 * f + 2 + 1) = nI (X (224 + f))) (h_sent : ∀ f, f < 8 → m.1 15 (240 + 12 * f + 4) = nI (X (232 + f))) (h_deliv : ∀ f, f < 8 → m.1 15 (240 + 12 * f + 5) = nI (X (240 + f))) (h_notices : ∀ f, f < 8 → m.1 15 (240 + 12 * f + 6) = nI (X (256 + f))) (h_on : ∀ f, f < 8 → m.1 15 (240 + 12 * f + 7) = nI (X (264 + f))) (h_credit : ∀ f, f < 8 → m.1 15 (240 + 12 * f + 8) = nI (X (272 + f))) (h_byc : ∀ f, f < 8 → m.1 15 (240 + 12 * f + 9) = nI (X (280 + f))) (h_byt : ∀ f, f < 8 → m.1 15 (240 + 12 * f + 10) = nI (X (288 + f))) (h_flost : ∀ f, f < 8 → m.1 15 (240 + 12 * f + 11) = nI (X (248 + f))) (h_tick : m.1 15 336 = nI (X 296)) : RM m X := ⟨h_xoff, h_xon, h_size, h_lost, h_peak, h_samples, h_noted, h_carried, h_count, h_was, h_bits, h_q, h_rate, h_target, h_stc, h_stt, h_sent, h_deliv, h_notices, h_on, h_credit, h_byc, h_byt, h_flost, h_tick⟩
theorem RM.xoff {m : Mm} {X : Nat → Nat} (h : RM m X) : ∀ l, l < 10 → m.1 15 (24 * l + 0) = nI (X (0 + l)) := h.1
theorem RM.xon {m : Mm} {X : Nat → Nat} (h : RM m X) : ∀ l, l < 10 → m.1 15 (24 * l + 1) = nI (X (10 + l)) := h.2.1
theorem RM.size {m : Mm} {X : Nat → Nat} (h : RM m X) : ∀ l, l < 10 → m.1 15 (24 * l + 2) = nI (X (20 + l)) := h.2.2.1
theorem RM.lost {m : Mm} {X : Nat → Nat} (h : RM m X) : ∀ l, l < 10 → m.1 15 (24 * l + 3) = nI (X (50 + l)) := h.2.2.2.1
theorem RM.peak {m : Mm} {X : Nat → Nat} (h : RM m X) : ∀ l, l < 10 → m.1 15 (24 * l + 4) = nI (X (60 + l)) := h.2.2.2.2.1
theorem RM.samples {m : Mm} {X : Nat → Nat} (h : RM m X) : ∀ l, l < 10 → m.1 15 (24 * l + 5) = nI (X (70 + l)) := h.2.2.2.2.2.1
theorem RM.noted {m : Mm} {X : Nat → Nat} (h : RM m X) : ∀ l, l < 10 → m.1 15 (24 * l + 6) = nI (X (80 + l)) := h.2.2.2.2.2.2.1
theorem RM.carried {m : Mm} {X : Nat → Nat} (h : RM m X) : ∀ l, l < 10 → m.1 15 (24 * l + 7) = nI (X (90 + l)) := h.2.2.2.2.2.2.2.1
theorem RM.count {m : Mm} {X : Nat → Nat} (h : RM m X) : ∀ l, l < 10 → m.1 15 (24 * l + 8) = nI (X (100 + l)) := h.2.2.2.2.2.2.2.2.1
theorem RM.was {m : Mm} {X : Nat → Nat} (h : RM m X) : ∀ l, l < 10 → m.1 15 (24 * l + 9) = nI (X (110 + l)) := h.2.2.2.2.2.2.2.2.2.1
theorem RM.bits {m : Mm} {X : Nat → Nat} (h : RM m X) : ∀ l k, l < 10 → k < 5 → m.1 15 (24 * l + 10 + k) = nI (X (40 + l) / 2 ^ k % 2) := h.2.2.2.2.2.2.2.2.2.2.1
theorem RM.q {m : Mm} {X : Nat → Nat} (h : RM m X) : ∀ l f, l < 10 → f < 8 → m.1 15 (24 * l + 15 + f) = nI (X (120 + l * 8 + f)) := h.2.2.2.2.2.2.2.2.2.2.2.1
theorem RM.rate {m : Mm} {X : Nat → Nat} (h : RM m X) : ∀ f, f < 8 → m.1 15 (240 + 12 * f + 0) = nI (X (200 + f)) := h.2.2.2.2.2.2.2.2.2.2.2.2.1
theorem RM.target {m : Mm} {X : Nat → Nat} (h : RM m X) : ∀ f, f < 8 → m.1 15 (240 + 12 * f + 1) = nI (X (208 + f)) := h.2.2.2.2.2.2.2.2.2.2.2.2.2.1
theorem RM.stc {m : Mm} {X : Nat → Nat} (h : RM m X) : ∀ f, f < 8 → m.1 15 (240 + 12 * f + 2) = nI (X (216 + f)) := h.2.2.2.2.2.2.2.2.2.2.2.2.2.2.1
theorem RM.stt {m : Mm} {X : Nat → Nat} (h : RM m X) : ∀ f, f < 8 → m.1 15 (240 + 12 * f + 2 + 1) = nI (X (224 + f)) := h.2.2.2.2.2.2.2.2.2.2.2.2.2.2.2.1
theorem RM.sent {m : Mm} {X : Nat → Nat} (h : RM m X) : ∀ f, f < 8 → m.1 15 (240 + 12 * f + 4) = nI (X (232 + f)) := h.2.2.2.2.2.2.2.2.2.2.2.2.2.2.2.2.1
theorem RM.deliv {m : Mm} {X : Nat → Nat} (h : RM m X) : ∀ f, f < 8 → m.1 15 (240 + 12 * f + 5) = nI (X (240 + f)) := h.2.2.2.2.2.2.2.2.2.2.2.2.2.2.2.2.2.1
theorem RM.notices {m : Mm} {X : Nat → Nat} (h : RM m X) : ∀ f, f < 8 → m.1 15 (240 + 12 * f + 6) = nI (X (256 + f)) := h.2.2.2.2.2.2.2.2.2.2.2.2.2.2.2.2.2.2.1
theorem RM.on {m : Mm} {X : Nat → Nat} (h : RM m X) : ∀ f, f < 8 → m.1 15 (240 + 12 * f + 7) = nI (X (264 + f)) := h.2.2.2.2.2.2.2.2.2.2.2.2.2.2.2.2.2.2.2.1
theorem RM.credit {m : Mm} {X : Nat → Nat} (h : RM m X) : ∀ f, f < 8 → m.1 15 (240 + 12 * f + 8) = nI (X (272 + f)) := h.2.2.2.2.2.2.2.2.2.2.2.2.2.2.2.2.2.2.2.2.1
theorem RM.byc {m : Mm} {X : Nat → Nat} (h : RM m X) : ∀ f, f < 8 → m.1 15 (240 + 12 * f + 9) = nI (X (280 + f)) := h.2.2.2.2.2.2.2.2.2.2.2.2.2.2.2.2.2.2.2.2.2.1
theorem RM.byt {m : Mm} {X : Nat → Nat} (h : RM m X) : ∀ f, f < 8 → m.1 15 (240 + 12 * f + 10) = nI (X (288 + f)) := h.2.2.2.2.2.2.2.2.2.2.2.2.2.2.2.2.2.2.2.2.2.2.1
theorem RM.flost {m : Mm} {X : Nat → Nat} (h : RM m X) : ∀ f, f < 8 → m.1 15 (240 + 12 * f + 11) = nI (X (248 + f)) := h.2.2.2.2.2.2.2.2.2.2.2.2.2.2.2.2.2.2.2.2.2.2.2.1
theorem RM.tick {m : Mm} {X : Nat → Nat} (h : RM m X) : m.1 15 336 = nI (X 296) := h.2.2.2.2.2.2.2.2.2.2.2.2.2.2.2.2.2.2.2.2.2.2.2.2
theorem RM.fr {P : Nat → Prop} {m m' : Mm} {X : Nat → Nat} (h : RM m X) (hf : Fr P m m') (hp : ¬ P 15) : RM m' X := by
  have e := hf.2 15 hp
  refine RM.mk ?_ ?_ ?_ ?_ ?_ ?_ ?_ ?_ ?_ ?_ ?_ ?_ ?_ ?_ ?_ ?_ ?_ ?_ ?_ ?_ ?_ ?_ ?_ ?_ ?_
  · rw [e]; exact h.xoff
  · rw [e]; exact h.xon
  · rw [e]; exact h.size
  · rw [e]; exact h.lost
  · rw [e]; exact h.peak
  · rw [e]; exact h.samples
  · rw [e]; exact h.noted
  · rw [e]; exact h.carried
  · rw [e]; exact h.count
  · rw [e]; exact h.was
  · rw [e]; exact h.bits
  · rw [e]; exact h.q
  · rw [e]; exact h.rate
  · rw [e]; exact h.target
  · rw [e]; exact h.stc
  · rw [e]; exact h.stt
  · rw [e]; exact h.sent
  · rw [e]; exact h.deliv
  · rw [e]; exact h.notices
  · rw [e]; exact h.on
  · rw [e]; exact h.credit
  · rw [e]; exact h.byc
  · rw [e]; exact h.byt
  · rw [e]; exact h.flost
  · rw [e]; exact h.tick
theorem RM.congr {m : Mm} {X Y : Nat → Nat} (h : RM m X) (e : ∀ i, i < 297 → ¬ (30 ≤ i ∧ i < 40) → X i = Y i) : RM m Y := by
  refine RM.mk ?_ ?_ ?_ ?_ ?_ ?_ ?_ ?_ ?_ ?_ ?_ ?_ ?_ ?_ ?_ ?_ ?_ ?_ ?_ ?_ ?_ ?_ ?_ ?_ ?_
  · intro l hl; rw [h.xoff l hl, e _ (by omega) (by omega)]
  · intro l hl; rw [h.xon l hl, e _ (by omega) (by omega)]
  · intro l hl; rw [h.size l hl, e _ (by omega) (by omega)]
  · intro l hl; rw [h.lost l hl, e _ (by omega) (by omega)]
  · intro l hl; rw [h.peak l hl, e _ (by omega) (by omega)]
  · intro l hl; rw [h.samples l hl, e _ (by omega) (by omega)]
  · intro l hl; rw [h.noted l hl, e _ (by omega) (by omega)]
  · intro l hl; rw [h.carried l hl, e _ (by omega) (by omega)]
  · intro l hl; rw [h.count l hl, e _ (by omega) (by omega)]
  · intro l hl; rw [h.was l hl, e _ (by omega) (by omega)]
  · intro l k hl hk; rw [h.bits l k hl hk, e _ (by omega) (by omega)]
  · intro l f hl hf; rw [h.q l f hl hf, e _ (by omega) (by omega)]
  · intro f hf; rw [h.rate f hf, e _ (by omega) (by omega)]
  · intro f hf; rw [h.target f hf, e _ (by omega) (by omega)]
  · intro f hf; rw [h.stc f hf, e _ (by omega) (by omega)]
  · intro f hf; rw [h.stt f hf, e _ (by omega) (by omega)]
  · intro f hf; rw [h.sent f hf, e _ (by omega) (by omega)]
  · intro f hf; rw [h.deliv f hf, e _ (by omega) (by omega)]
  · intro f hf; rw [h.notices f hf, e _ (by omega) (by omega)]
  · intro f hf; rw [h.on f hf, e _ (by omega) (by omega)]
  · intro f hf; rw [h.credit f hf, e _ (by omega) (by omega)]
  · intro f hf; rw [h.byc f hf, e _ (by omega) (by omega)]
  · intro f hf; rw [h.byt f hf, e _ (by omega) (by omega)]
  · intro f hf; rw [h.flost f hf, e _ (by omega) (by omega)]
  · rw [h.tick, e _ (by omega) (by omega)]
theorem RM.st_xoff {m : Mm} {X : Nat → Nat} {l : Nat} (h : RM m X) (v : Nat) (hc : l < 10) : RM (u1 m 15 (24 * l + 0) (nI v)) (upN X (0 + l) v) := by
  refine RM.mk ?_ ?_ ?_ ?_ ?_ ?_ ?_ ?_ ?_ ?_ ?_ ?_ ?_ ?_ ?_ ?_ ?_ ?_ ?_ ?_ ?_ ?_ ?_ ?_ ?_
  · intro a ha; by_cases e : a = l
    · subst e; rw [u1_rs, upN_s]
    · rw [u1_rn (Or.inl (by omega)), upN_n (by omega)]; exact h.xoff a ha
  · intro a ha; rw [u1_rn (Or.inl (by omega)), upN_n (by omega)]; exact h.xon a ha
  · intro a ha; rw [u1_rn (Or.inl (by omega)), upN_n (by omega)]; exact h.size a ha
  · intro a ha; rw [u1_rn (Or.inl (by omega)), upN_n (by omega)]; exact h.lost a ha
  · intro a ha; rw [u1_rn (Or.inl (by omega)), upN_n (by omega)]; exact h.peak a ha
  · intro a ha; rw [u1_rn (Or.inl (by omega)), upN_n (by omega)]; exact h.samples a ha
  · intro a ha; rw [u1_rn (Or.inl (by omega)), upN_n (by omega)]; exact h.noted a ha
  · intro a ha; rw [u1_rn (Or.inl (by omega)), upN_n (by omega)]; exact h.carried a ha
  · intro a ha; rw [u1_rn (Or.inl (by omega)), upN_n (by omega)]; exact h.count a ha
  · intro a ha; rw [u1_rn (Or.inl (by omega)), upN_n (by omega)]; exact h.was a ha
  · intro a b ha hb; rw [u1_rn (Or.inl (by omega)), upN_n (by omega)]; exact h.bits a b ha hb
  · intro a b ha hb; rw [u1_rn (Or.inl (by omega)), upN_n (by omega)]; exact h.q a b ha hb
  · intro a ha; rw [u1_rn (Or.inl (by omega)), upN_n (by omega)]; exact h.rate a ha
  · intro a ha; rw [u1_rn (Or.inl (by omega)), upN_n (by omega)]; exact h.target a ha
  · intro a ha; rw [u1_rn (Or.inl (by omega)), upN_n (by omega)]; exact h.stc a ha
  · intro a ha; rw [u1_rn (Or.inl (by omega)), upN_n (by omega)]; exact h.stt a ha
  · intro a ha; rw [u1_rn (Or.inl (by omega)), upN_n (by omega)]; exact h.sent a ha
  · intro a ha; rw [u1_rn (Or.inl (by omega)), upN_n (by omega)]; exact h.deliv a ha
  · intro a ha; rw [u1_rn (Or.inl (by omega)), upN_n (by omega)]; exact h.notices a ha
  · intro a ha; rw [u1_rn (Or.inl (by omega)), upN_n (by omega)]; exact h.on a ha
  · intro a ha; rw [u1_rn (Or.inl (by omega)), upN_n (by omega)]; exact h.credit a ha
  · intro a ha; rw [u1_rn (Or.inl (by omega)), upN_n (by omega)]; exact h.byc a ha
  · intro a ha; rw [u1_rn (Or.inl (by omega)), upN_n (by omega)]; exact h.byt a ha
  · intro a ha; rw [u1_rn (Or.inl (by omega)), upN_n (by omega)]; exact h.flost a ha
  · skip; rw [u1_rn (Or.inl (by omega)), upN_n (by omega)]; exact h.tick
theorem RM.st_xon {m : Mm} {X : Nat → Nat} {l : Nat} (h : RM m X) (v : Nat) (hc : l < 10) : RM (u1 m 15 (24 * l + 1) (nI v)) (upN X (10 + l) v) := by
  refine RM.mk ?_ ?_ ?_ ?_ ?_ ?_ ?_ ?_ ?_ ?_ ?_ ?_ ?_ ?_ ?_ ?_ ?_ ?_ ?_ ?_ ?_ ?_ ?_ ?_ ?_
  · intro a ha; rw [u1_rn (Or.inl (by omega)), upN_n (by omega)]; exact h.xoff a ha
  · intro a ha; by_cases e : a = l
    · subst e; rw [u1_rs, upN_s]
    · rw [u1_rn (Or.inl (by omega)), upN_n (by omega)]; exact h.xon a ha
  · intro a ha; rw [u1_rn (Or.inl (by omega)), upN_n (by omega)]; exact h.size a ha
  · intro a ha; rw [u1_rn (Or.inl (by omega)), upN_n (by omega)]; exact h.lost a ha
  · intro a ha; rw [u1_rn (Or.inl (by omega)), upN_n (by omega)]; exact h.peak a ha
  · intro a ha; rw [u1_rn (Or.inl (by omega)), upN_n (by omega)]; exact h.samples a ha
  · intro a ha; rw [u1_rn (Or.inl (by omega)), upN_n (by omega)]; exact h.noted a ha
  · intro a ha; rw [u1_rn (Or.inl (by omega)), upN_n (by omega)]; exact h.carried a ha
  · intro a ha; rw [u1_rn (Or.inl (by omega)), upN_n (by omega)]; exact h.count a ha
  · intro a ha; rw [u1_rn (Or.inl (by omega)), upN_n (by omega)]; exact h.was a ha
  · intro a b ha hb; rw [u1_rn (Or.inl (by omega)), upN_n (by omega)]; exact h.bits a b ha hb
  · intro a b ha hb; rw [u1_rn (Or.inl (by omega)), upN_n (by omega)]; exact h.q a b ha hb
  · intro a ha; rw [u1_rn (Or.inl (by omega)), upN_n (by omega)]; exact h.rate a ha
  · intro a ha; rw [u1_rn (Or.inl (by omega)), upN_n (by omega)]; exact h.target a ha
  · intro a ha; rw [u1_rn (Or.inl (by omega)), upN_n (by omega)]; exact h.stc a ha
  · intro a ha; rw [u1_rn (Or.inl (by omega)), upN_n (by omega)]; exact h.stt a ha
  · intro a ha; rw [u1_rn (Or.inl (by omega)), upN_n (by omega)]; exact h.sent a ha
  · intro a ha; rw [u1_rn (Or.inl (by omega)), upN_n (by omega)]; exact h.deliv a ha
  · intro a ha; rw [u1_rn (Or.inl (by omega)), upN_n (by omega)]; exact h.notices a ha
  · intro a ha; rw [u1_rn (Or.inl (by omega)), upN_n (by omega)]; exact h.on a ha
  · intro a ha; rw [u1_rn (Or.inl (by omega)), upN_n (by omega)]; exact h.credit a ha
  · intro a ha; rw [u1_rn (Or.inl (by omega)), upN_n (by omega)]; exact h.byc a ha
  · intro a ha; rw [u1_rn (Or.inl (by omega)), upN_n (by omega)]; exact h.byt a ha
  · intro a ha; rw [u1_rn (Or.inl (by omega)), upN_n (by omega)]; exact h.flost a ha
  · skip; rw [u1_rn (Or.inl (by omega)), upN_n (by omega)]; exact h.tick
theorem RM.st_size {m : Mm} {X : Nat → Nat} {l : Nat} (h : RM m X) (v : Nat) (hc : l < 10) : RM (u1 m 15 (24 * l + 2) (nI v)) (upN X (20 + l) v) := by
  refine RM.mk ?_ ?_ ?_ ?_ ?_ ?_ ?_ ?_ ?_ ?_ ?_ ?_ ?_ ?_ ?_ ?_ ?_ ?_ ?_ ?_ ?_ ?_ ?_ ?_ ?_
  · intro a ha; rw [u1_rn (Or.inl (by omega)), upN_n (by omega)]; exact h.xoff a ha
  · intro a ha; rw [u1_rn (Or.inl (by omega)), upN_n (by omega)]; exact h.xon a ha
  · intro a ha; by_cases e : a = l
    · subst e; rw [u1_rs, upN_s]
    · rw [u1_rn (Or.inl (by omega)), upN_n (by omega)]; exact h.size a ha
  · intro a ha; rw [u1_rn (Or.inl (by omega)), upN_n (by omega)]; exact h.lost a ha
  · intro a ha; rw [u1_rn (Or.inl (by omega)), upN_n (by omega)]; exact h.peak a ha
  · intro a ha; rw [u1_rn (Or.inl (by omega)), upN_n (by omega)]; exact h.samples a ha
  · intro a ha; rw [u1_rn (Or.inl (by omega)), upN_n (by omega)]; exact h.noted a ha
  · intro a ha; rw [u1_rn (Or.inl (by omega)), upN_n (by omega)]; exact h.carried a ha
  · intro a ha; rw [u1_rn (Or.inl (by omega)), upN_n (by omega)]; exact h.count a ha
  · intro a ha; rw [u1_rn (Or.inl (by omega)), upN_n (by omega)]; exact h.was a ha
  · intro a b ha hb; rw [u1_rn (Or.inl (by omega)), upN_n (by omega)]; exact h.bits a b ha hb
  · intro a b ha hb; rw [u1_rn (Or.inl (by omega)), upN_n (by omega)]; exact h.q a b ha hb
  · intro a ha; rw [u1_rn (Or.inl (by omega)), upN_n (by omega)]; exact h.rate a ha
  · intro a ha; rw [u1_rn (Or.inl (by omega)), upN_n (by omega)]; exact h.target a ha
  · intro a ha; rw [u1_rn (Or.inl (by omega)), upN_n (by omega)]; exact h.stc a ha
  · intro a ha; rw [u1_rn (Or.inl (by omega)), upN_n (by omega)]; exact h.stt a ha
  · intro a ha; rw [u1_rn (Or.inl (by omega)), upN_n (by omega)]; exact h.sent a ha
  · intro a ha; rw [u1_rn (Or.inl (by omega)), upN_n (by omega)]; exact h.deliv a ha
  · intro a ha; rw [u1_rn (Or.inl (by omega)), upN_n (by omega)]; exact h.notices a ha
  · intro a ha; rw [u1_rn (Or.inl (by omega)), upN_n (by omega)]; exact h.on a ha
  · intro a ha; rw [u1_rn (Or.inl (by omega)), upN_n (by omega)]; exact h.credit a ha
  · intro a ha; rw [u1_rn (Or.inl (by omega)), upN_n (by omega)]; exact h.byc a ha
  · intro a ha; rw [u1_rn (Or.inl (by omega)), upN_n (by omega)]; exact h.byt a ha
  · intro a ha; rw [u1_rn (Or.inl (by omega)), upN_n (by omega)]; exact h.flost a ha
  · skip; rw [u1_rn (Or.inl (by omega)), upN_n (by omega)]; exact h.tick
theorem RM.st_lost {m : Mm} {X : Nat → Nat} {l : Nat} (h : RM m X) (v : Nat) (hc : l < 10) : RM (u1 m 15 (24 * l + 3) (nI v)) (upN X (50 + l) v) := by
  refine RM.mk ?_ ?_ ?_ ?_ ?_ ?_ ?_ ?_ ?_ ?_ ?_ ?_ ?_ ?_ ?_ ?_ ?_ ?_ ?_ ?_ ?_ ?_ ?_ ?_ ?_
  · intro a ha; rw [u1_rn (Or.inl (by omega)), upN_n (by omega)]; exact h.xoff a ha
  · intro a ha; rw [u1_rn (Or.inl (by omega)), upN_n (by omega)]; exact h.xon a ha
  · intro a ha; rw [u1_rn (Or.inl (by omega)), upN_n (by omega)]; exact h.size a ha
  · intro a ha; by_cases e : a = l
    · subst e; rw [u1_rs, upN_s]
    · rw [u1_rn (Or.inl (by omega)), upN_n (by omega)]; exact h.lost a ha
  · intro a ha; rw [u1_rn (Or.inl (by omega)), upN_n (by omega)]; exact h.peak a ha
  · intro a ha; rw [u1_rn (Or.inl (by omega)), upN_n (by omega)]; exact h.samples a ha
  · intro a ha; rw [u1_rn (Or.inl (by omega)), upN_n (by omega)]; exact h.noted a ha
  · intro a ha; rw [u1_rn (Or.inl (by omega)), upN_n (by omega)]; exact h.carried a ha
  · intro a ha; rw [u1_rn (Or.inl (by omega)), upN_n (by omega)]; exact h.count a ha
  · intro a ha; rw [u1_rn (Or.inl (by omega)), upN_n (by omega)]; exact h.was a ha
  · intro a b ha hb; rw [u1_rn (Or.inl (by omega)), upN_n (by omega)]; exact h.bits a b ha hb
  · intro a b ha hb; rw [u1_rn (Or.inl (by omega)), upN_n (by omega)]; exact h.q a b ha hb
  · intro a ha; rw [u1_rn (Or.inl (by omega)), upN_n (by omega)]; exact h.rate a ha
  · intro a ha; rw [u1_rn (Or.inl (by omega)), upN_n (by omega)]; exact h.target a ha
  · intro a ha; rw [u1_rn (Or.inl (by omega)), upN_n (by omega)]; exact h.stc a ha
  · intro a ha; rw [u1_rn (Or.inl (by omega)), upN_n (by omega)]; exact h.stt a ha
  · intro a ha; rw [u1_rn (Or.inl (by omega)), upN_n (by omega)]; exact h.sent a ha
  · intro a ha; rw [u1_rn (Or.inl (by omega)), upN_n (by omega)]; exact h.deliv a ha
  · intro a ha; rw [u1_rn (Or.inl (by omega)), upN_n (by omega)]; exact h.notices a ha
  · intro a ha; rw [u1_rn (Or.inl (by omega)), upN_n (by omega)]; exact h.on a ha
  · intro a ha; rw [u1_rn (Or.inl (by omega)), upN_n (by omega)]; exact h.credit a ha
  · intro a ha; rw [u1_rn (Or.inl (by omega)), upN_n (by omega)]; exact h.byc a ha
  · intro a ha; rw [u1_rn (Or.inl (by omega)), upN_n (by omega)]; exact h.byt a ha
  · intro a ha; rw [u1_rn (Or.inl (by omega)), upN_n (by omega)]; exact h.flost a ha
  · skip; rw [u1_rn (Or.inl (by omega)), upN_n (by omega)]; exact h.tick
theorem RM.st_peak {m : Mm} {X : Nat → Nat} {l : Nat} (h : RM m X) (v : Nat) (hc : l < 10) : RM (u1 m 15 (24 * l + 4) (nI v)) (upN X (60 + l) v) := by
  refine RM.mk ?_ ?_ ?_ ?_ ?_ ?_ ?_ ?_ ?_ ?_ ?_ ?_ ?_ ?_ ?_ ?_ ?_ ?_ ?_ ?_ ?_ ?_ ?_ ?_ ?_
  · intro a ha; rw [u1_rn (Or.inl (by omega)), upN_n (by omega)]; exact h.xoff a ha
  · intro a ha; rw [u1_rn (Or.inl (by omega)), upN_n (by omega)]; exact h.xon a ha
  · intro a ha; rw [u1_rn (Or.inl (by omega)), upN_n (by omega)]; exact h.size a ha
  · intro a ha; rw [u1_rn (Or.inl (by omega)), upN_n (by omega)]; exact h.lost a ha
  · intro a ha; by_cases e : a = l
    · subst e; rw [u1_rs, upN_s]
    · rw [u1_rn (Or.inl (by omega)), upN_n (by omega)]; exact h.peak a ha
  · intro a ha; rw [u1_rn (Or.inl (by omega)), upN_n (by omega)]; exact h.samples a ha
  · intro a ha; rw [u1_rn (Or.inl (by omega)), upN_n (by omega)]; exact h.noted a ha
  · intro a ha; rw [u1_rn (Or.inl (by omega)), upN_n (by omega)]; exact h.carried a ha
  · intro a ha; rw [u1_rn (Or.inl (by omega)), upN_n (by omega)]; exact h.count a ha
  · intro a ha; rw [u1_rn (Or.inl (by omega)), upN_n (by omega)]; exact h.was a ha
  · intro a b ha hb; rw [u1_rn (Or.inl (by omega)), upN_n (by omega)]; exact h.bits a b ha hb
  · intro a b ha hb; rw [u1_rn (Or.inl (by omega)), upN_n (by omega)]; exact h.q a b ha hb
  · intro a ha; rw [u1_rn (Or.inl (by omega)), upN_n (by omega)]; exact h.rate a ha
  · intro a ha; rw [u1_rn (Or.inl (by omega)), upN_n (by omega)]; exact h.target a ha
  · intro a ha; rw [u1_rn (Or.inl (by omega)), upN_n (by omega)]; exact h.stc a ha
  · intro a ha; rw [u1_rn (Or.inl (by omega)), upN_n (by omega)]; exact h.stt a ha
  · intro a ha; rw [u1_rn (Or.inl (by omega)), upN_n (by omega)]; exact h.sent a ha
  · intro a ha; rw [u1_rn (Or.inl (by omega)), upN_n (by omega)]; exact h.deliv a ha
  · intro a ha; rw [u1_rn (Or.inl (by omega)), upN_n (by omega)]; exact h.notices a ha
  · intro a ha; rw [u1_rn (Or.inl (by omega)), upN_n (by omega)]; exact h.on a ha
  · intro a ha; rw [u1_rn (Or.inl (by omega)), upN_n (by omega)]; exact h.credit a ha
  · intro a ha; rw [u1_rn (Or.inl (by omega)), upN_n (by omega)]; exact h.byc a ha
  · intro a ha; rw [u1_rn (Or.inl (by omega)), upN_n (by omega)]; exact h.byt a ha
  · intro a ha; rw [u1_rn (Or.inl (by omega)), upN_n (by omega)]; exact h.flost a ha
  · skip; rw [u1_rn (Or.inl (by omega)), upN_n (by omega)]; exact h.tick
theorem RM.st_samples {m : Mm} {X : Nat → Nat} {l : Nat} (h : RM m X) (v : Nat) (hc : l < 10) : RM (u1 m 15 (24 * l + 5) (nI v)) (upN X (70 + l) v) := by
  refine RM.mk ?_ ?_ ?_ ?_ ?_ ?_ ?_ ?_ ?_ ?_ ?_ ?_ ?_ ?_ ?_ ?_ ?_ ?_ ?_ ?_ ?_ ?_ ?_ ?_ ?_
  · intro a ha; rw [u1_rn (Or.inl (by omega)), upN_n (by omega)]; exact h.xoff a ha
  · intro a ha; rw [u1_rn (Or.inl (by omega)), upN_n (by omega)]; exact h.xon a ha
  · intro a ha; rw [u1_rn (Or.inl (by omega)), upN_n (by omega)]; exact h.size a ha
  · intro a ha; rw [u1_rn (Or.inl (by omega)), upN_n (by omega)]; exact h.lost a ha
  · intro a ha; rw [u1_rn (Or.inl (by omega)), upN_n (by omega)]; exact h.peak a ha
  · intro a ha; by_cases e : a = l
    · subst e; rw [u1_rs, upN_s]
    · rw [u1_rn (Or.inl (by omega)), upN_n (by omega)]; exact h.samples a ha
  · intro a ha; rw [u1_rn (Or.inl (by omega)), upN_n (by omega)]; exact h.noted a ha
  · intro a ha; rw [u1_rn (Or.inl (by omega)), upN_n (by omega)]; exact h.carried a ha
  · intro a ha; rw [u1_rn (Or.inl (by omega)), upN_n (by omega)]; exact h.count a ha
  · intro a ha; rw [u1_rn (Or.inl (by omega)), upN_n (by omega)]; exact h.was a ha
  · intro a b ha hb; rw [u1_rn (Or.inl (by omega)), upN_n (by omega)]; exact h.bits a b ha hb
  · intro a b ha hb; rw [u1_rn (Or.inl (by omega)), upN_n (by omega)]; exact h.q a b ha hb
  · intro a ha; rw [u1_rn (Or.inl (by omega)), upN_n (by omega)]; exact h.rate a ha
  · intro a ha; rw [u1_rn (Or.inl (by omega)), upN_n (by omega)]; exact h.target a ha
  · intro a ha; rw [u1_rn (Or.inl (by omega)), upN_n (by omega)]; exact h.stc a ha
  · intro a ha; rw [u1_rn (Or.inl (by omega)), upN_n (by omega)]; exact h.stt a ha
  · intro a ha; rw [u1_rn (Or.inl (by omega)), upN_n (by omega)]; exact h.sent a ha
  · intro a ha; rw [u1_rn (Or.inl (by omega)), upN_n (by omega)]; exact h.deliv a ha
  · intro a ha; rw [u1_rn (Or.inl (by omega)), upN_n (by omega)]; exact h.notices a ha
  · intro a ha; rw [u1_rn (Or.inl (by omega)), upN_n (by omega)]; exact h.on a ha
  · intro a ha; rw [u1_rn (Or.inl (by omega)), upN_n (by omega)]; exact h.credit a ha
  · intro a ha; rw [u1_rn (Or.inl (by omega)), upN_n (by omega)]; exact h.byc a ha
  · intro a ha; rw [u1_rn (Or.inl (by omega)), upN_n (by omega)]; exact h.byt a ha
  · intro a ha; rw [u1_rn (Or.inl (by omega)), upN_n (by omega)]; exact h.flost a ha
  · skip; rw [u1_rn (Or.inl (by omega)), upN_n (by omega)]; exact h.tick
theorem RM.st_noted {m : Mm} {X : Nat → Nat} {l : Nat} (h : RM m X) (v : Nat) (hc : l < 10) : RM (u1 m 15 (24 * l + 6) (nI v)) (upN X (80 + l) v) := by
  refine RM.mk ?_ ?_ ?_ ?_ ?_ ?_ ?_ ?_ ?_ ?_ ?_ ?_ ?_ ?_ ?_ ?_ ?_ ?_ ?_ ?_ ?_ ?_ ?_ ?_ ?_
  · intro a ha; rw [u1_rn (Or.inl (by omega)), upN_n (by omega)]; exact h.xoff a ha
  · intro a ha; rw [u1_rn (Or.inl (by omega)), upN_n (by omega)]; exact h.xon a ha
  · intro a ha; rw [u1_rn (Or.inl (by omega)), upN_n (by omega)]; exact h.size a ha
  · intro a ha; rw [u1_rn (Or.inl (by omega)), upN_n (by omega)]; exact h.lost a ha
  · intro a ha; rw [u1_rn (Or.inl (by omega)), upN_n (by omega)]; exact h.peak a ha
  · intro a ha; rw [u1_rn (Or.inl (by omega)), upN_n (by omega)]; exact h.samples a ha
  · intro a ha; by_cases e : a = l
    · subst e; rw [u1_rs, upN_s]
    · rw [u1_rn (Or.inl (by omega)), upN_n (by omega)]; exact h.noted a ha
  · intro a ha; rw [u1_rn (Or.inl (by omega)), upN_n (by omega)]; exact h.carried a ha
  · intro a ha; rw [u1_rn (Or.inl (by omega)), upN_n (by omega)]; exact h.count a ha
  · intro a ha; rw [u1_rn (Or.inl (by omega)), upN_n (by omega)]; exact h.was a ha
  · intro a b ha hb; rw [u1_rn (Or.inl (by omega)), upN_n (by omega)]; exact h.bits a b ha hb
  · intro a b ha hb; rw [u1_rn (Or.inl (by omega)), upN_n (by omega)]; exact h.q a b ha hb
  · intro a ha; rw [u1_rn (Or.inl (by omega)), upN_n (by omega)]; exact h.rate a ha
  · intro a ha; rw [u1_rn (Or.inl (by omega)), upN_n (by omega)]; exact h.target a ha
  · intro a ha; rw [u1_rn (Or.inl (by omega)), upN_n (by omega)]; exact h.stc a ha
  · intro a ha; rw [u1_rn (Or.inl (by omega)), upN_n (by omega)]; exact h.stt a ha
  · intro a ha; rw [u1_rn (Or.inl (by omega)), upN_n (by omega)]; exact h.sent a ha
  · intro a ha; rw [u1_rn (Or.inl (by omega)), upN_n (by omega)]; exact h.deliv a ha
  · intro a ha; rw [u1_rn (Or.inl (by omega)), upN_n (by omega)]; exact h.notices a ha
  · intro a ha; rw [u1_rn (Or.inl (by omega)), upN_n (by omega)]; exact h.on a ha
  · intro a ha; rw [u1_rn (Or.inl (by omega)), upN_n (by omega)]; exact h.credit a ha
  · intro a ha; rw [u1_rn (Or.inl (by omega)), upN_n (by omega)]; exact h.byc a ha
  · intro a ha; rw [u1_rn (Or.inl (by omega)), upN_n (by omega)]; exact h.byt a ha
  · intro a ha; rw [u1_rn (Or.inl (by omega)), upN_n (by omega)]; exact h.flost a ha
  · skip; rw [u1_rn (Or.inl (by omega)), upN_n (by omega)]; exact h.tick
theorem RM.st_carried {m : Mm} {X : Nat → Nat} {l : Nat} (h : RM m X) (v : Nat) (hc : l < 10) : RM (u1 m 15 (24 * l + 7) (nI v)) (upN X (90 + l) v) := by
  refine RM.mk ?_ ?_ ?_ ?_ ?_ ?_ ?_ ?_ ?_ ?_ ?_ ?_ ?_ ?_ ?_ ?_ ?_ ?_ ?_ ?_ ?_ ?_ ?_ ?_ ?_
  · intro a ha; rw [u1_rn (Or.inl (by omega)), upN_n (by omega)]; exact h.xoff a ha
  · intro a ha; rw [u1_rn (Or.inl (by omega)), upN_n (by omega)]; exact h.xon a ha
  · intro a ha; rw [u1_rn (Or.inl (by omega)), upN_n (by omega)]; exact h.size a ha
  · intro a ha; rw [u1_rn (Or.inl (by omega)), upN_n (by omega)]; exact h.lost a ha
  · intro a ha; rw [u1_rn (Or.inl (by omega)), upN_n (by omega)]; exact h.peak a ha
  · intro a ha; rw [u1_rn (Or.inl (by omega)), upN_n (by omega)]; exact h.samples a ha
  · intro a ha; rw [u1_rn (Or.inl (by omega)), upN_n (by omega)]; exact h.noted a ha
  · intro a ha; by_cases e : a = l
    · subst e; rw [u1_rs, upN_s]
    · rw [u1_rn (Or.inl (by omega)), upN_n (by omega)]; exact h.carried a ha
  · intro a ha; rw [u1_rn (Or.inl (by omega)), upN_n (by omega)]; exact h.count a ha
  · intro a ha; rw [u1_rn (Or.inl (by omega)), upN_n (by omega)]; exact h.was a ha
  · intro a b ha hb; rw [u1_rn (Or.inl (by omega)), upN_n (by omega)]; exact h.bits a b ha hb
  · intro a b ha hb; rw [u1_rn (Or.inl (by omega)), upN_n (by omega)]; exact h.q a b ha hb
  · intro a ha; rw [u1_rn (Or.inl (by omega)), upN_n (by omega)]; exact h.rate a ha
  · intro a ha; rw [u1_rn (Or.inl (by omega)), upN_n (by omega)]; exact h.target a ha
  · intro a ha; rw [u1_rn (Or.inl (by omega)), upN_n (by omega)]; exact h.stc a ha
  · intro a ha; rw [u1_rn (Or.inl (by omega)), upN_n (by omega)]; exact h.stt a ha
  · intro a ha; rw [u1_rn (Or.inl (by omega)), upN_n (by omega)]; exact h.sent a ha
  · intro a ha; rw [u1_rn (Or.inl (by omega)), upN_n (by omega)]; exact h.deliv a ha
  · intro a ha; rw [u1_rn (Or.inl (by omega)), upN_n (by omega)]; exact h.notices a ha
  · intro a ha; rw [u1_rn (Or.inl (by omega)), upN_n (by omega)]; exact h.on a ha
  · intro a ha; rw [u1_rn (Or.inl (by omega)), upN_n (by omega)]; exact h.credit a ha
  · intro a ha; rw [u1_rn (Or.inl (by omega)), upN_n (by omega)]; exact h.byc a ha
  · intro a ha; rw [u1_rn (Or.inl (by omega)), upN_n (by omega)]; exact h.byt a ha
  · intro a ha; rw [u1_rn (Or.inl (by omega)), upN_n (by omega)]; exact h.flost a ha
  · skip; rw [u1_rn (Or.inl (by omega)), upN_n (by omega)]; exact h.tick
theorem RM.st_count {m : Mm} {X : Nat → Nat} {l : Nat} (h : RM m X) (v : Nat) (hc : l < 10) : RM (u1 m 15 (24 * l + 8) (nI v)) (upN X (100 + l) v) := by
  refine RM.mk ?_ ?_ ?_ ?_ ?_ ?_ ?_ ?_ ?_ ?_ ?_ ?_ ?_ ?_ ?_ ?_ ?_ ?_ ?_ ?_ ?_ ?_ ?_ ?_ ?_
  · intro a ha; rw [u1_rn (Or.inl (by omega)), upN_n (by omega)]; exact h.xoff a ha
  · intro a ha; rw [u1_rn (Or.inl (by omega)), upN_n (by omega)]; exact h.xon a ha
  · intro a ha; rw [u1_rn (Or.inl (by omega)), upN_n (by omega)]; exact h.size a ha
  · intro a ha; rw [u1_rn (Or.inl (by omega)), upN_n (by omega)]; exact h.lost a ha
  · intro a ha; rw [u1_rn (Or.inl (by omega)), upN_n (by omega)]; exact h.peak a ha
  · intro a ha; rw [u1_rn (Or.inl (by omega)), upN_n (by omega)]; exact h.samples a ha
  · intro a ha; rw [u1_rn (Or.inl (by omega)), upN_n (by omega)]; exact h.noted a ha
  · intro a ha; rw [u1_rn (Or.inl (by omega)), upN_n (by omega)]; exact h.carried a ha
  · intro a ha; by_cases e : a = l
    · subst e; rw [u1_rs, upN_s]
    · rw [u1_rn (Or.inl (by omega)), upN_n (by omega)]; exact h.count a ha
  · intro a ha; rw [u1_rn (Or.inl (by omega)), upN_n (by omega)]; exact h.was a ha
  · intro a b ha hb; rw [u1_rn (Or.inl (by omega)), upN_n (by omega)]; exact h.bits a b ha hb
  · intro a b ha hb; rw [u1_rn (Or.inl (by omega)), upN_n (by omega)]; exact h.q a b ha hb
  · intro a ha; rw [u1_rn (Or.inl (by omega)), upN_n (by omega)]; exact h.rate a ha
  · intro a ha; rw [u1_rn (Or.inl (by omega)), upN_n (by omega)]; exact h.target a ha
  · intro a ha; rw [u1_rn (Or.inl (by omega)), upN_n (by omega)]; exact h.stc a ha
  · intro a ha; rw [u1_rn (Or.inl (by omega)), upN_n (by omega)]; exact h.stt a ha
  · intro a ha; rw [u1_rn (Or.inl (by omega)), upN_n (by omega)]; exact h.sent a ha
  · intro a ha; rw [u1_rn (Or.inl (by omega)), upN_n (by omega)]; exact h.deliv a ha
  · intro a ha; rw [u1_rn (Or.inl (by omega)), upN_n (by omega)]; exact h.notices a ha
  · intro a ha; rw [u1_rn (Or.inl (by omega)), upN_n (by omega)]; exact h.on a ha
  · intro a ha; rw [u1_rn (Or.inl (by omega)), upN_n (by omega)]; exact h.credit a ha
  · intro a ha; rw [u1_rn (Or.inl (by omega)), upN_n (by omega)]; exact h.byc a ha
  · intro a ha; rw [u1_rn (Or.inl (by omega)), upN_n (by omega)]; exact h.byt a ha
  · intro a ha; rw [u1_rn (Or.inl (by omega)), upN_n (by omega)]; exact h.flost a ha
  · skip; rw [u1_rn (Or.inl (by omega)), upN_n (by omega)]; exact h.tick
theorem RM.st_was {m : Mm} {X : Nat → Nat} {l : Nat} (h : RM m X) (v : Nat) (hc : l < 10) : RM (u1 m 15 (24 * l + 9) (nI v)) (upN X (110 + l) v) := by
  refine RM.mk ?_ ?_ ?_ ?_ ?_ ?_ ?_ ?_ ?_ ?_ ?_ ?_ ?_ ?_ ?_ ?_ ?_ ?_ ?_ ?_ ?_ ?_ ?_ ?_ ?_
  · intro a ha; rw [u1_rn (Or.inl (by omega)), upN_n (by omega)]; exact h.xoff a ha
  · intro a ha; rw [u1_rn (Or.inl (by omega)), upN_n (by omega)]; exact h.xon a ha
  · intro a ha; rw [u1_rn (Or.inl (by omega)), upN_n (by omega)]; exact h.size a ha
  · intro a ha; rw [u1_rn (Or.inl (by omega)), upN_n (by omega)]; exact h.lost a ha
  · intro a ha; rw [u1_rn (Or.inl (by omega)), upN_n (by omega)]; exact h.peak a ha
  · intro a ha; rw [u1_rn (Or.inl (by omega)), upN_n (by omega)]; exact h.samples a ha
  · intro a ha; rw [u1_rn (Or.inl (by omega)), upN_n (by omega)]; exact h.noted a ha
  · intro a ha; rw [u1_rn (Or.inl (by omega)), upN_n (by omega)]; exact h.carried a ha
  · intro a ha; rw [u1_rn (Or.inl (by omega)), upN_n (by omega)]; exact h.count a ha
  · intro a ha; by_cases e : a = l
    · subst e; rw [u1_rs, upN_s]
    · rw [u1_rn (Or.inl (by omega)), upN_n (by omega)]; exact h.was a ha
  · intro a b ha hb; rw [u1_rn (Or.inl (by omega)), upN_n (by omega)]; exact h.bits a b ha hb
  · intro a b ha hb; rw [u1_rn (Or.inl (by omega)), upN_n (by omega)]; exact h.q a b ha hb
  · intro a ha; rw [u1_rn (Or.inl (by omega)), upN_n (by omega)]; exact h.rate a ha
  · intro a ha; rw [u1_rn (Or.inl (by omega)), upN_n (by omega)]; exact h.target a ha
  · intro a ha; rw [u1_rn (Or.inl (by omega)), upN_n (by omega)]; exact h.stc a ha
  · intro a ha; rw [u1_rn (Or.inl (by omega)), upN_n (by omega)]; exact h.stt a ha
  · intro a ha; rw [u1_rn (Or.inl (by omega)), upN_n (by omega)]; exact h.sent a ha
  · intro a ha; rw [u1_rn (Or.inl (by omega)), upN_n (by omega)]; exact h.deliv a ha
  · intro a ha; rw [u1_rn (Or.inl (by omega)), upN_n (by omega)]; exact h.notices a ha
  · intro a ha; rw [u1_rn (Or.inl (by omega)), upN_n (by omega)]; exact h.on a ha
  · intro a ha; rw [u1_rn (Or.inl (by omega)), upN_n (by omega)]; exact h.credit a ha
  · intro a ha; rw [u1_rn (Or.inl (by omega)), upN_n (by omega)]; exact h.byc a ha
  · intro a ha; rw [u1_rn (Or.inl (by omega)), upN_n (by omega)]; exact h.byt a ha
  · intro a ha; rw [u1_rn (Or.inl (by omega)), upN_n (by omega)]; exact h.flost a ha
  · skip; rw [u1_rn (Or.inl (by omega)), upN_n (by omega)]; exact h.tick
theorem RM.st_q {m : Mm} {X : Nat → Nat} {l f : Nat} (h : RM m X) (v : Nat) (hc : l < 10 ∧ f < 8) : RM (u1 m 15 (24 * l + 15 + f) (nI v)) (upN X (120 + l * 8 + f) v) := by
  refine RM.mk ?_ ?_ ?_ ?_ ?_ ?_ ?_ ?_ ?_ ?_ ?_ ?_ ?_ ?_ ?_ ?_ ?_ ?_ ?_ ?_ ?_ ?_ ?_ ?_ ?_
  · intro a ha; rw [u1_rn (Or.inl (by omega)), upN_n (by omega)]; exact h.xoff a ha
  · intro a ha; rw [u1_rn (Or.inl (by omega)), upN_n (by omega)]; exact h.xon a ha
  · intro a ha; rw [u1_rn (Or.inl (by omega)), upN_n (by omega)]; exact h.size a ha
  · intro a ha; rw [u1_rn (Or.inl (by omega)), upN_n (by omega)]; exact h.lost a ha
  · intro a ha; rw [u1_rn (Or.inl (by omega)), upN_n (by omega)]; exact h.peak a ha
  · intro a ha; rw [u1_rn (Or.inl (by omega)), upN_n (by omega)]; exact h.samples a ha
  · intro a ha; rw [u1_rn (Or.inl (by omega)), upN_n (by omega)]; exact h.noted a ha
  · intro a ha; rw [u1_rn (Or.inl (by omega)), upN_n (by omega)]; exact h.carried a ha
  · intro a ha; rw [u1_rn (Or.inl (by omega)), upN_n (by omega)]; exact h.count a ha
  · intro a ha; rw [u1_rn (Or.inl (by omega)), upN_n (by omega)]; exact h.was a ha
  · intro a b ha hb; rw [u1_rn (Or.inl (by omega)), upN_n (by omega)]; exact h.bits a b ha hb
  · intro a b ha hb; by_cases e : a = l ∧ b = f
    · obtain ⟨rfl, rfl⟩ := e; rw [u1_rs, upN_s]
    · rw [u1_rn (Or.inl (by omega)), upN_n (by omega)]; exact h.q a b ha hb
  · intro a ha; rw [u1_rn (Or.inl (by omega)), upN_n (by omega)]; exact h.rate a ha
  · intro a ha; rw [u1_rn (Or.inl (by omega)), upN_n (by omega)]; exact h.target a ha
  · intro a ha; rw [u1_rn (Or.inl (by omega)), upN_n (by omega)]; exact h.stc a ha
  · intro a ha; rw [u1_rn (Or.inl (by omega)), upN_n (by omega)]; exact h.stt a ha
  · intro a ha; rw [u1_rn (Or.inl (by omega)), upN_n (by omega)]; exact h.sent a ha
  · intro a ha; rw [u1_rn (Or.inl (by omega)), upN_n (by omega)]; exact h.deliv a ha
  · intro a ha; rw [u1_rn (Or.inl (by omega)), upN_n (by omega)]; exact h.notices a ha
  · intro a ha; rw [u1_rn (Or.inl (by omega)), upN_n (by omega)]; exact h.on a ha
  · intro a ha; rw [u1_rn (Or.inl (by omega)), upN_n (by omega)]; exact h.credit a ha
  · intro a ha; rw [u1_rn (Or.inl (by omega)), upN_n (by omega)]; exact h.byc a ha
  · intro a ha; rw [u1_rn (Or.inl (by omega)), upN_n (by omega)]; exact h.byt a ha
  · intro a ha; rw [u1_rn (Or.inl (by omega)), upN_n (by omega)]; exact h.flost a ha
  · skip; rw [u1_rn (Or.inl (by omega)), upN_n (by omega)]; exact h.tick
theorem RM.st_rate {m : Mm} {X : Nat → Nat} {f : Nat} (h : RM m X) (v : Nat) (hc : f < 8) : RM (u1 m 15 (240 + 12 * f + 0) (nI v)) (upN X (200 + f) v) := by
  refine RM.mk ?_ ?_ ?_ ?_ ?_ ?_ ?_ ?_ ?_ ?_ ?_ ?_ ?_ ?_ ?_ ?_ ?_ ?_ ?_ ?_ ?_ ?_ ?_ ?_ ?_
  · intro a ha; rw [u1_rn (Or.inl (by omega)), upN_n (by omega)]; exact h.xoff a ha
  · intro a ha; rw [u1_rn (Or.inl (by omega)), upN_n (by omega)]; exact h.xon a ha
  · intro a ha; rw [u1_rn (Or.inl (by omega)), upN_n (by omega)]; exact h.size a ha
  · intro a ha; rw [u1_rn (Or.inl (by omega)), upN_n (by omega)]; exact h.lost a ha
  · intro a ha; rw [u1_rn (Or.inl (by omega)), upN_n (by omega)]; exact h.peak a ha
  · intro a ha; rw [u1_rn (Or.inl (by omega)), upN_n (by omega)]; exact h.samples a ha
  · intro a ha; rw [u1_rn (Or.inl (by omega)), upN_n (by omega)]; exact h.noted a ha
  · intro a ha; rw [u1_rn (Or.inl (by omega)), upN_n (by omega)]; exact h.carried a ha
  · intro a ha; rw [u1_rn (Or.inl (by omega)), upN_n (by omega)]; exact h.count a ha
  · intro a ha; rw [u1_rn (Or.inl (by omega)), upN_n (by omega)]; exact h.was a ha
  · intro a b ha hb; rw [u1_rn (Or.inl (by omega)), upN_n (by omega)]; exact h.bits a b ha hb
  · intro a b ha hb; rw [u1_rn (Or.inl (by omega)), upN_n (by omega)]; exact h.q a b ha hb
  · intro a ha; by_cases e : a = f
    · subst e; rw [u1_rs, upN_s]
    · rw [u1_rn (Or.inl (by omega)), upN_n (by omega)]; exact h.rate a ha
  · intro a ha; rw [u1_rn (Or.inl (by omega)), upN_n (by omega)]; exact h.target a ha
  · intro a ha; rw [u1_rn (Or.inl (by omega)), upN_n (by omega)]; exact h.stc a ha
  · intro a ha; rw [u1_rn (Or.inl (by omega)), upN_n (by omega)]; exact h.stt a ha
  · intro a ha; rw [u1_rn (Or.inl (by omega)), upN_n (by omega)]; exact h.sent a ha
  · intro a ha; rw [u1_rn (Or.inl (by omega)), upN_n (by omega)]; exact h.deliv a ha
  · intro a ha; rw [u1_rn (Or.inl (by omega)), upN_n (by omega)]; exact h.notices a ha
  · intro a ha; rw [u1_rn (Or.inl (by omega)), upN_n (by omega)]; exact h.on a ha
  · intro a ha; rw [u1_rn (Or.inl (by omega)), upN_n (by omega)]; exact h.credit a ha
  · intro a ha; rw [u1_rn (Or.inl (by omega)), upN_n (by omega)]; exact h.byc a ha
  · intro a ha; rw [u1_rn (Or.inl (by omega)), upN_n (by omega)]; exact h.byt a ha
  · intro a ha; rw [u1_rn (Or.inl (by omega)), upN_n (by omega)]; exact h.flost a ha
  · skip; rw [u1_rn (Or.inl (by omega)), upN_n (by omega)]; exact h.tick
theorem RM.st_target {m : Mm} {X : Nat → Nat} {f : Nat} (h : RM m X) (v : Nat) (hc : f < 8) : RM (u1 m 15 (240 + 12 * f + 1) (nI v)) (upN X (208 + f) v) := by
  refine RM.mk ?_ ?_ ?_ ?_ ?_ ?_ ?_ ?_ ?_ ?_ ?_ ?_ ?_ ?_ ?_ ?_ ?_ ?_ ?_ ?_ ?_ ?_ ?_ ?_ ?_
  · intro a ha; rw [u1_rn (Or.inl (by omega)), upN_n (by omega)]; exact h.xoff a ha
  · intro a ha; rw [u1_rn (Or.inl (by omega)), upN_n (by omega)]; exact h.xon a ha
  · intro a ha; rw [u1_rn (Or.inl (by omega)), upN_n (by omega)]; exact h.size a ha
  · intro a ha; rw [u1_rn (Or.inl (by omega)), upN_n (by omega)]; exact h.lost a ha
  · intro a ha; rw [u1_rn (Or.inl (by omega)), upN_n (by omega)]; exact h.peak a ha
  · intro a ha; rw [u1_rn (Or.inl (by omega)), upN_n (by omega)]; exact h.samples a ha
  · intro a ha; rw [u1_rn (Or.inl (by omega)), upN_n (by omega)]; exact h.noted a ha
  · intro a ha; rw [u1_rn (Or.inl (by omega)), upN_n (by omega)]; exact h.carried a ha
  · intro a ha; rw [u1_rn (Or.inl (by omega)), upN_n (by omega)]; exact h.count a ha
  · intro a ha; rw [u1_rn (Or.inl (by omega)), upN_n (by omega)]; exact h.was a ha
  · intro a b ha hb; rw [u1_rn (Or.inl (by omega)), upN_n (by omega)]; exact h.bits a b ha hb
  · intro a b ha hb; rw [u1_rn (Or.inl (by omega)), upN_n (by omega)]; exact h.q a b ha hb
  · intro a ha; rw [u1_rn (Or.inl (by omega)), upN_n (by omega)]; exact h.rate a ha
  · intro a ha; by_cases e : a = f
    · subst e; rw [u1_rs, upN_s]
    · rw [u1_rn (Or.inl (by omega)), upN_n (by omega)]; exact h.target a ha
  · intro a ha; rw [u1_rn (Or.inl (by omega)), upN_n (by omega)]; exact h.stc a ha
  · intro a ha; rw [u1_rn (Or.inl (by omega)), upN_n (by omega)]; exact h.stt a ha
  · intro a ha; rw [u1_rn (Or.inl (by omega)), upN_n (by omega)]; exact h.sent a ha
  · intro a ha; rw [u1_rn (Or.inl (by omega)), upN_n (by omega)]; exact h.deliv a ha
  · intro a ha; rw [u1_rn (Or.inl (by omega)), upN_n (by omega)]; exact h.notices a ha
  · intro a ha; rw [u1_rn (Or.inl (by omega)), upN_n (by omega)]; exact h.on a ha
  · intro a ha; rw [u1_rn (Or.inl (by omega)), upN_n (by omega)]; exact h.credit a ha
  · intro a ha; rw [u1_rn (Or.inl (by omega)), upN_n (by omega)]; exact h.byc a ha
  · intro a ha; rw [u1_rn (Or.inl (by omega)), upN_n (by omega)]; exact h.byt a ha
  · intro a ha; rw [u1_rn (Or.inl (by omega)), upN_n (by omega)]; exact h.flost a ha
  · skip; rw [u1_rn (Or.inl (by omega)), upN_n (by omega)]; exact h.tick
theorem RM.st_stc {m : Mm} {X : Nat → Nat} {f : Nat} (h : RM m X) (v : Nat) (hc : f < 8) : RM (u1 m 15 (240 + 12 * f + 2) (nI v)) (upN X (216 + f) v) := by
  refine RM.mk ?_ ?_ ?_ ?_ ?_ ?_ ?_ ?_ ?_ ?_ ?_ ?_ ?_ ?_ ?_ ?_ ?_ ?_ ?_ ?_ ?_ ?_ ?_ ?_ ?_
  · intro a ha; rw [u1_rn (Or.inl (by omega)), upN_n (by omega)]; exact h.xoff a ha
  · intro a ha; rw [u1_rn (Or.inl (by omega)), upN_n (by omega)]; exact h.xon a ha
  · intro a ha; rw [u1_rn (Or.inl (by omega)), upN_n (by omega)]; exact h.size a ha
  · intro a ha; rw [u1_rn (Or.inl (by omega)), upN_n (by omega)]; exact h.lost a ha
  · intro a ha; rw [u1_rn (Or.inl (by omega)), upN_n (by omega)]; exact h.peak a ha
  · intro a ha; rw [u1_rn (Or.inl (by omega)), upN_n (by omega)]; exact h.samples a ha
  · intro a ha; rw [u1_rn (Or.inl (by omega)), upN_n (by omega)]; exact h.noted a ha
  · intro a ha; rw [u1_rn (Or.inl (by omega)), upN_n (by omega)]; exact h.carried a ha
  · intro a ha; rw [u1_rn (Or.inl (by omega)), upN_n (by omega)]; exact h.count a ha
  · intro a ha; rw [u1_rn (Or.inl (by omega)), upN_n (by omega)]; exact h.was a ha
  · intro a b ha hb; rw [u1_rn (Or.inl (by omega)), upN_n (by omega)]; exact h.bits a b ha hb
  · intro a b ha hb; rw [u1_rn (Or.inl (by omega)), upN_n (by omega)]; exact h.q a b ha hb
  · intro a ha; rw [u1_rn (Or.inl (by omega)), upN_n (by omega)]; exact h.rate a ha
  · intro a ha; rw [u1_rn (Or.inl (by omega)), upN_n (by omega)]; exact h.target a ha
  · intro a ha; by_cases e : a = f
    · subst e; rw [u1_rs, upN_s]
    · rw [u1_rn (Or.inl (by omega)), upN_n (by omega)]; exact h.stc a ha
  · intro a ha; rw [u1_rn (Or.inl (by omega)), upN_n (by omega)]; exact h.stt a ha
  · intro a ha; rw [u1_rn (Or.inl (by omega)), upN_n (by omega)]; exact h.sent a ha
  · intro a ha; rw [u1_rn (Or.inl (by omega)), upN_n (by omega)]; exact h.deliv a ha
  · intro a ha; rw [u1_rn (Or.inl (by omega)), upN_n (by omega)]; exact h.notices a ha
  · intro a ha; rw [u1_rn (Or.inl (by omega)), upN_n (by omega)]; exact h.on a ha
  · intro a ha; rw [u1_rn (Or.inl (by omega)), upN_n (by omega)]; exact h.credit a ha
  · intro a ha; rw [u1_rn (Or.inl (by omega)), upN_n (by omega)]; exact h.byc a ha
  · intro a ha; rw [u1_rn (Or.inl (by omega)), upN_n (by omega)]; exact h.byt a ha
  · intro a ha; rw [u1_rn (Or.inl (by omega)), upN_n (by omega)]; exact h.flost a ha
  · skip; rw [u1_rn (Or.inl (by omega)), upN_n (by omega)]; exact h.tick
theorem RM.st_stt {m : Mm} {X : Nat → Nat} {f : Nat} (h : RM m X) (v : Nat) (hc : f < 8) : RM (u1 m 15 (240 + 12 * f + 2 + 1) (nI v)) (upN X (224 + f) v) := by
  refine RM.mk ?_ ?_ ?_ ?_ ?_ ?_ ?_ ?_ ?_ ?_ ?_ ?_ ?_ ?_ ?_ ?_ ?_ ?_ ?_ ?_ ?_ ?_ ?_ ?_ ?_
  · intro a ha; rw [u1_rn (Or.inl (by omega)), upN_n (by omega)]; exact h.xoff a ha
  · intro a ha; rw [u1_rn (Or.inl (by omega)), upN_n (by omega)]; exact h.xon a ha
  · intro a ha; rw [u1_rn (Or.inl (by omega)), upN_n (by omega)]; exact h.size a ha
  · intro a ha; rw [u1_rn (Or.inl (by omega)), upN_n (by omega)]; exact h.lost a ha
  · intro a ha; rw [u1_rn (Or.inl (by omega)), upN_n (by omega)]; exact h.peak a ha
  · intro a ha; rw [u1_rn (Or.inl (by omega)), upN_n (by omega)]; exact h.samples a ha
  · intro a ha; rw [u1_rn (Or.inl (by omega)), upN_n (by omega)]; exact h.noted a ha
  · intro a ha; rw [u1_rn (Or.inl (by omega)), upN_n (by omega)]; exact h.carried a ha
  · intro a ha; rw [u1_rn (Or.inl (by omega)), upN_n (by omega)]; exact h.count a ha
  · intro a ha; rw [u1_rn (Or.inl (by omega)), upN_n (by omega)]; exact h.was a ha
  · intro a b ha hb; rw [u1_rn (Or.inl (by omega)), upN_n (by omega)]; exact h.bits a b ha hb
  · intro a b ha hb; rw [u1_rn (Or.inl (by omega)), upN_n (by omega)]; exact h.q a b ha hb
  · intro a ha; rw [u1_rn (Or.inl (by omega)), upN_n (by omega)]; exact h.rate a ha
  · intro a ha; rw [u1_rn (Or.inl (by omega)), upN_n (by omega)]; exact h.target a ha
  · intro a ha; rw [u1_rn (Or.inl (by omega)), upN_n (by omega)]; exact h.stc a ha
  · intro a ha; by_cases e : a = f
    · subst e; rw [u1_rs, upN_s]
    · rw [u1_rn (Or.inl (by omega)), upN_n (by omega)]; exact h.stt a ha
  · intro a ha; rw [u1_rn (Or.inl (by omega)), upN_n (by omega)]; exact h.sent a ha
  · intro a ha; rw [u1_rn (Or.inl (by omega)), upN_n (by omega)]; exact h.deliv a ha
  · intro a ha; rw [u1_rn (Or.inl (by omega)), upN_n (by omega)]; exact h.notices a ha
  · intro a ha; rw [u1_rn (Or.inl (by omega)), upN_n (by omega)]; exact h.on a ha
  · intro a ha; rw [u1_rn (Or.inl (by omega)), upN_n (by omega)]; exact h.credit a ha
  · intro a ha; rw [u1_rn (Or.inl (by omega)), upN_n (by omega)]; exact h.byc a ha
  · intro a ha; rw [u1_rn (Or.inl (by omega)), upN_n (by omega)]; exact h.byt a ha
  · intro a ha; rw [u1_rn (Or.inl (by omega)), upN_n (by omega)]; exact h.flost a ha
  · skip; rw [u1_rn (Or.inl (by omega)), upN_n (by omega)]; exact h.tick
theorem RM.st_sent {m : Mm} {X : Nat → Nat} {f : Nat} (h : RM m X) (v : Nat) (hc : f < 8) : RM (u1 m 15 (240 + 12 * f + 4) (nI v)) (upN X (232 + f) v) := by
  refine RM.mk ?_ ?_ ?_ ?_ ?_ ?_ ?_ ?_ ?_ ?_ ?_ ?_ ?_ ?_ ?_ ?_ ?_ ?_ ?_ ?_ ?_ ?_ ?_ ?_ ?_
  · intro a ha; rw [u1_rn (Or.inl (by omega)), upN_n (by omega)]; exact h.xoff a ha
  · intro a ha; rw [u1_rn (Or.inl (by omega)), upN_n (by omega)]; exact h.xon a ha
  · intro a ha; rw [u1_rn (Or.inl (by omega)), upN_n (by omega)]; exact h.size a ha
  · intro a ha; rw [u1_rn (Or.inl (by omega)), upN_n (by omega)]; exact h.lost a ha
  · intro a ha; rw [u1_rn (Or.inl (by omega)), upN_n (by omega)]; exact h.peak a ha
  · intro a ha; rw [u1_rn (Or.inl (by omega)), upN_n (by omega)]; exact h.samples a ha
  · intro a ha; rw [u1_rn (Or.inl (by omega)), upN_n (by omega)]; exact h.noted a ha
  · intro a ha; rw [u1_rn (Or.inl (by omega)), upN_n (by omega)]; exact h.carried a ha
  · intro a ha; rw [u1_rn (Or.inl (by omega)), upN_n (by omega)]; exact h.count a ha
  · intro a ha; rw [u1_rn (Or.inl (by omega)), upN_n (by omega)]; exact h.was a ha
  · intro a b ha hb; rw [u1_rn (Or.inl (by omega)), upN_n (by omega)]; exact h.bits a b ha hb
  · intro a b ha hb; rw [u1_rn (Or.inl (by omega)), upN_n (by omega)]; exact h.q a b ha hb
  · intro a ha; rw [u1_rn (Or.inl (by omega)), upN_n (by omega)]; exact h.rate a ha
  · intro a ha; rw [u1_rn (Or.inl (by omega)), upN_n (by omega)]; exact h.target a ha
  · intro a ha; rw [u1_rn (Or.inl (by omega)), upN_n (by omega)]; exact h.stc a ha
  · intro a ha; rw [u1_rn (Or.inl (by omega)), upN_n (by omega)]; exact h.stt a ha
  · intro a ha; by_cases e : a = f
    · subst e; rw [u1_rs, upN_s]
    · rw [u1_rn (Or.inl (by omega)), upN_n (by omega)]; exact h.sent a ha
  · intro a ha; rw [u1_rn (Or.inl (by omega)), upN_n (by omega)]; exact h.deliv a ha
  · intro a ha; rw [u1_rn (Or.inl (by omega)), upN_n (by omega)]; exact h.notices a ha
  · intro a ha; rw [u1_rn (Or.inl (by omega)), upN_n (by omega)]; exact h.on a ha
  · intro a ha; rw [u1_rn (Or.inl (by omega)), upN_n (by omega)]; exact h.credit a ha
  · intro a ha; rw [u1_rn (Or.inl (by omega)), upN_n (by omega)]; exact h.byc a ha
  · intro a ha; rw [u1_rn (Or.inl (by omega)), upN_n (by omega)]; exact h.byt a ha
  · intro a ha; rw [u1_rn (Or.inl (by omega)), upN_n (by omega)]; exact h.flost a ha
  · skip; rw [u1_rn (Or.inl (by omega)), upN_n (by omega)]; exact h.tick
theorem RM.st_deliv {m : Mm} {X : Nat → Nat} {f : Nat} (h : RM m X) (v : Nat) (hc : f < 8) : RM (u1 m 15 (240 + 12 * f + 5) (nI v)) (upN X (240 + f) v) := by
  refine RM.mk ?_ ?_ ?_ ?_ ?_ ?_ ?_ ?_ ?_ ?_ ?_ ?_ ?_ ?_ ?_ ?_ ?_ ?_ ?_ ?_ ?_ ?_ ?_ ?_ ?_
  · intro a ha; rw [u1_rn (Or.inl (by omega)), upN_n (by omega)]; exact h.xoff a ha
  · intro a ha; rw [u1_rn (Or.inl (by omega)), upN_n (by omega)]; exact h.xon a ha
  · intro a ha; rw [u1_rn (Or.inl (by omega)), upN_n (by omega)]; exact h.size a ha
  · intro a ha; rw [u1_rn (Or.inl (by omega)), upN_n (by omega)]; exact h.lost a ha
  · intro a ha; rw [u1_rn (Or.inl (by omega)), upN_n (by omega)]; exact h.peak a ha
  · intro a ha; rw [u1_rn (Or.inl (by omega)), upN_n (by omega)]; exact h.samples a ha
  · intro a ha; rw [u1_rn (Or.inl (by omega)), upN_n (by omega)]; exact h.noted a ha
  · intro a ha; rw [u1_rn (Or.inl (by omega)), upN_n (by omega)]; exact h.carried a ha
  · intro a ha; rw [u1_rn (Or.inl (by omega)), upN_n (by omega)]; exact h.count a ha
  · intro a ha; rw [u1_rn (Or.inl (by omega)), upN_n (by omega)]; exact h.was a ha
  · intro a b ha hb; rw [u1_rn (Or.inl (by omega)), upN_n (by omega)]; exact h.bits a b ha hb
  · intro a b ha hb; rw [u1_rn (Or.inl (by omega)), upN_n (by omega)]; exact h.q a b ha hb
  · intro a ha; rw [u1_rn (Or.inl (by omega)), upN_n (by omega)]; exact h.rate a ha
  · intro a ha; rw [u1_rn (Or.inl (by omega)), upN_n (by omega)]; exact h.target a ha
  · intro a ha; rw [u1_rn (Or.inl (by omega)), upN_n (by omega)]; exact h.stc a ha
  · intro a ha; rw [u1_rn (Or.inl (by omega)), upN_n (by omega)]; exact h.stt a ha
  · intro a ha; rw [u1_rn (Or.inl (by omega)), upN_n (by omega)]; exact h.sent a ha
  · intro a ha; by_cases e : a = f
    · subst e; rw [u1_rs, upN_s]
    · rw [u1_rn (Or.inl (by omega)), upN_n (by omega)]; exact h.deliv a ha
  · intro a ha; rw [u1_rn (Or.inl (by omega)), upN_n (by omega)]; exact h.notices a ha
  · intro a ha; rw [u1_rn (Or.inl (by omega)), upN_n (by omega)]; exact h.on a ha
  · intro a ha; rw [u1_rn (Or.inl (by omega)), upN_n (by omega)]; exact h.credit a ha
  · intro a ha; rw [u1_rn (Or.inl (by omega)), upN_n (by omega)]; exact h.byc a ha
  · intro a ha; rw [u1_rn (Or.inl (by omega)), upN_n (by omega)]; exact h.byt a ha
  · intro a ha; rw [u1_rn (Or.inl (by omega)), upN_n (by omega)]; exact h.flost a ha
  · skip; rw [u1_rn (Or.inl (by omega)), upN_n (by omega)]; exact h.tick
theorem RM.st_notices {m : Mm} {X : Nat → Nat} {f : Nat} (h : RM m X) (v : Nat) (hc : f < 8) : RM (u1 m 15 (240 + 12 * f + 6) (nI v)) (upN X (256 + f) v) := by
  refine RM.mk ?_ ?_ ?_ ?_ ?_ ?_ ?_ ?_ ?_ ?_ ?_ ?_ ?_ ?_ ?_ ?_ ?_ ?_ ?_ ?_ ?_ ?_ ?_ ?_ ?_
  · intro a ha; rw [u1_rn (Or.inl (by omega)), upN_n (by omega)]; exact h.xoff a ha
  · intro a ha; rw [u1_rn (Or.inl (by omega)), upN_n (by omega)]; exact h.xon a ha
  · intro a ha; rw [u1_rn (Or.inl (by omega)), upN_n (by omega)]; exact h.size a ha
  · intro a ha; rw [u1_rn (Or.inl (by omega)), upN_n (by omega)]; exact h.lost a ha
  · intro a ha; rw [u1_rn (Or.inl (by omega)), upN_n (by omega)]; exact h.peak a ha
  · intro a ha; rw [u1_rn (Or.inl (by omega)), upN_n (by omega)]; exact h.samples a ha
  · intro a ha; rw [u1_rn (Or.inl (by omega)), upN_n (by omega)]; exact h.noted a ha
  · intro a ha; rw [u1_rn (Or.inl (by omega)), upN_n (by omega)]; exact h.carried a ha
  · intro a ha; rw [u1_rn (Or.inl (by omega)), upN_n (by omega)]; exact h.count a ha
  · intro a ha; rw [u1_rn (Or.inl (by omega)), upN_n (by omega)]; exact h.was a ha
  · intro a b ha hb; rw [u1_rn (Or.inl (by omega)), upN_n (by omega)]; exact h.bits a b ha hb
  · intro a b ha hb; rw [u1_rn (Or.inl (by omega)), upN_n (by omega)]; exact h.q a b ha hb
  · intro a ha; rw [u1_rn (Or.inl (by omega)), upN_n (by omega)]; exact h.rate a ha
  · intro a ha; rw [u1_rn (Or.inl (by omega)), upN_n (by omega)]; exact h.target a ha
  · intro a ha; rw [u1_rn (Or.inl (by omega)), upN_n (by omega)]; exact h.stc a ha
  · intro a ha; rw [u1_rn (Or.inl (by omega)), upN_n (by omega)]; exact h.stt a ha
  · intro a ha; rw [u1_rn (Or.inl (by omega)), upN_n (by omega)]; exact h.sent a ha
  · intro a ha; rw [u1_rn (Or.inl (by omega)), upN_n (by omega)]; exact h.deliv a ha
  · intro a ha; by_cases e : a = f
    · subst e; rw [u1_rs, upN_s]
    · rw [u1_rn (Or.inl (by omega)), upN_n (by omega)]; exact h.notices a ha
  · intro a ha; rw [u1_rn (Or.inl (by omega)), upN_n (by omega)]; exact h.on a ha
  · intro a ha; rw [u1_rn (Or.inl (by omega)), upN_n (by omega)]; exact h.credit a ha
  · intro a ha; rw [u1_rn (Or.inl (by omega)), upN_n (by omega)]; exact h.byc a ha
  · intro a ha; rw [u1_rn (Or.inl (by omega)), upN_n (by omega)]; exact h.byt a ha
  · intro a ha; rw [u1_rn (Or.inl (by omega)), upN_n (by omega)]; exact h.flost a ha
  · skip; rw [u1_rn (Or.inl (by omega)), upN_n (by omega)]; exact h.tick
theorem RM.st_on {m : Mm} {X : Nat → Nat} {f : Nat} (h : RM m X) (v : Nat) (hc : f < 8) : RM (u1 m 15 (240 + 12 * f + 7) (nI v)) (upN X (264 + f) v) := by
  refine RM.mk ?_ ?_ ?_ ?_ ?_ ?_ ?_ ?_ ?_ ?_ ?_ ?_ ?_ ?_ ?_ ?_ ?_ ?_ ?_ ?_ ?_ ?_ ?_ ?_ ?_
  · intro a ha; rw [u1_rn (Or.inl (by omega)), upN_n (by omega)]; exact h.xoff a ha
  · intro a ha; rw [u1_rn (Or.inl (by omega)), upN_n (by omega)]; exact h.xon a ha
  · intro a ha; rw [u1_rn (Or.inl (by omega)), upN_n (by omega)]; exact h.size a ha
  · intro a ha; rw [u1_rn (Or.inl (by omega)), upN_n (by omega)]; exact h.lost a ha
  · intro a ha; rw [u1_rn (Or.inl (by omega)), upN_n (by omega)]; exact h.peak a ha
  · intro a ha; rw [u1_rn (Or.inl (by omega)), upN_n (by omega)]; exact h.samples a ha
  · intro a ha; rw [u1_rn (Or.inl (by omega)), upN_n (by omega)]; exact h.noted a ha
  · intro a ha; rw [u1_rn (Or.inl (by omega)), upN_n (by omega)]; exact h.carried a ha
  · intro a ha; rw [u1_rn (Or.inl (by omega)), upN_n (by omega)]; exact h.count a ha
  · intro a ha; rw [u1_rn (Or.inl (by omega)), upN_n (by omega)]; exact h.was a ha
  · intro a b ha hb; rw [u1_rn (Or.inl (by omega)), upN_n (by omega)]; exact h.bits a b ha hb
  · intro a b ha hb; rw [u1_rn (Or.inl (by omega)), upN_n (by omega)]; exact h.q a b ha hb
  · intro a ha; rw [u1_rn (Or.inl (by omega)), upN_n (by omega)]; exact h.rate a ha
  · intro a ha; rw [u1_rn (Or.inl (by omega)), upN_n (by omega)]; exact h.target a ha
  · intro a ha; rw [u1_rn (Or.inl (by omega)), upN_n (by omega)]; exact h.stc a ha
  · intro a ha; rw [u1_rn (Or.inl (by omega)), upN_n (by omega)]; exact h.stt a ha
  · intro a ha; rw [u1_rn (Or.inl (by omega)), upN_n (by omega)]; exact h.sent a ha
  · intro a ha; rw [u1_rn (Or.inl (by omega)), upN_n (by omega)]; exact h.deliv a ha
  · intro a ha; rw [u1_rn (Or.inl (by omega)), upN_n (by omega)]; exact h.notices a ha
  · intro a ha; by_cases e : a = f
    · subst e; rw [u1_rs, upN_s]
    · rw [u1_rn (Or.inl (by omega)), upN_n (by omega)]; exact h.on a ha
  · intro a ha; rw [u1_rn (Or.inl (by omega)), upN_n (by omega)]; exact h.credit a ha
  · intro a ha; rw [u1_rn (Or.inl (by omega)), upN_n (by omega)]; exact h.byc a ha
  · intro a ha; rw [u1_rn (Or.inl (by omega)), upN_n (by omega)]; exact h.byt a ha
  · intro a ha; rw [u1_rn (Or.inl (by omega)), upN_n (by omega)]; exact h.flost a ha
  · skip; rw [u1_rn (Or.inl (by omega)), upN_n (by omega)]; exact h.tick
theorem RM.st_credit {m : Mm} {X : Nat → Nat} {f : Nat} (h : RM m X) (v : Nat) (hc : f < 8) : RM (u1 m 15 (240 + 12 * f + 8) (nI v)) (upN X (272 + f) v) := by
  refine RM.mk ?_ ?_ ?_ ?_ ?_ ?_ ?_ ?_ ?_ ?_ ?_ ?_ ?_ ?_ ?_ ?_ ?_ ?_ ?_ ?_ ?_ ?_ ?_ ?_ ?_
  · intro a ha; rw [u1_rn (Or.inl (by omega)), upN_n (by omega)]; exact h.xoff a ha
  · intro a ha; rw [u1_rn (Or.inl (by omega)), upN_n (by omega)]; exact h.xon a ha
  · intro a ha; rw [u1_rn (Or.inl (by omega)), upN_n (by omega)]; exact h.size a ha
  · intro a ha; rw [u1_rn (Or.inl (by omega)), upN_n (by omega)]; exact h.lost a ha
  · intro a ha; rw [u1_rn (Or.inl (by omega)), upN_n (by omega)]; exact h.peak a ha
  · intro a ha; rw [u1_rn (Or.inl (by omega)), upN_n (by omega)]; exact h.samples a ha
  · intro a ha; rw [u1_rn (Or.inl (by omega)), upN_n (by omega)]; exact h.noted a ha
  · intro a ha; rw [u1_rn (Or.inl (by omega)), upN_n (by omega)]; exact h.carried a ha
  · intro a ha; rw [u1_rn (Or.inl (by omega)), upN_n (by omega)]; exact h.count a ha
  · intro a ha; rw [u1_rn (Or.inl (by omega)), upN_n (by omega)]; exact h.was a ha
  · intro a b ha hb; rw [u1_rn (Or.inl (by omega)), upN_n (by omega)]; exact h.bits a b ha hb
  · intro a b ha hb; rw [u1_rn (Or.inl (by omega)), upN_n (by omega)]; exact h.q a b ha hb
  · intro a ha; rw [u1_rn (Or.inl (by omega)), upN_n (by omega)]; exact h.rate a ha
  · intro a ha; rw [u1_rn (Or.inl (by omega)), upN_n (by omega)]; exact h.target a ha
  · intro a ha; rw [u1_rn (Or.inl (by omega)), upN_n (by omega)]; exact h.stc a ha
  · intro a ha; rw [u1_rn (Or.inl (by omega)), upN_n (by omega)]; exact h.stt a ha
  · intro a ha; rw [u1_rn (Or.inl (by omega)), upN_n (by omega)]; exact h.sent a ha
  · intro a ha; rw [u1_rn (Or.inl (by omega)), upN_n (by omega)]; exact h.deliv a ha
  · intro a ha; rw [u1_rn (Or.inl (by omega)), upN_n (by omega)]; exact h.notices a ha
  · intro a ha; rw [u1_rn (Or.inl (by omega)), upN_n (by omega)]; exact h.on a ha
  · intro a ha; by_cases e : a = f
    · subst e; rw [u1_rs, upN_s]
    · rw [u1_rn (Or.inl (by omega)), upN_n (by omega)]; exact h.credit a ha
  · intro a ha; rw [u1_rn (Or.inl (by omega)), upN_n (by omega)]; exact h.byc a ha
  · intro a ha; rw [u1_rn (Or.inl (by omega)), upN_n (by omega)]; exact h.byt a ha
  · intro a ha; rw [u1_rn (Or.inl (by omega)), upN_n (by omega)]; exact h.flost a ha
  · skip; rw [u1_rn (Or.inl (by omega)), upN_n (by omega)]; exact h.tick
theorem RM.st_byc {m : Mm} {X : Nat → Nat} {f : Nat} (h : RM m X) (v : Nat) (hc : f < 8) : RM (u1 m 15 (240 + 12 * f + 9) (nI v)) (upN X (280 + f) v) := by
  refine RM.mk ?_ ?_ ?_ ?_ ?_ ?_ ?_ ?_ ?_ ?_ ?_ ?_ ?_ ?_ ?_ ?_ ?_ ?_ ?_ ?_ ?_ ?_ ?_ ?_ ?_
  · intro a ha; rw [u1_rn (Or.inl (by omega)), upN_n (by omega)]; exact h.xoff a ha
  · intro a ha; rw [u1_rn (Or.inl (by omega)), upN_n (by omega)]; exact h.xon a ha
  · intro a ha; rw [u1_rn (Or.inl (by omega)), upN_n (by omega)]; exact h.size a ha
  · intro a ha; rw [u1_rn (Or.inl (by omega)), upN_n (by omega)]; exact h.lost a ha
  · intro a ha; rw [u1_rn (Or.inl (by omega)), upN_n (by omega)]; exact h.peak a ha
  · intro a ha; rw [u1_rn (Or.inl (by omega)), upN_n (by omega)]; exact h.samples a ha
  · intro a ha; rw [u1_rn (Or.inl (by omega)), upN_n (by omega)]; exact h.noted a ha
  · intro a ha; rw [u1_rn (Or.inl (by omega)), upN_n (by omega)]; exact h.carried a ha
  · intro a ha; rw [u1_rn (Or.inl (by omega)), upN_n (by omega)]; exact h.count a ha
  · intro a ha; rw [u1_rn (Or.inl (by omega)), upN_n (by omega)]; exact h.was a ha
  · intro a b ha hb; rw [u1_rn (Or.inl (by omega)), upN_n (by omega)]; exact h.bits a b ha hb
  · intro a b ha hb; rw [u1_rn (Or.inl (by omega)), upN_n (by omega)]; exact h.q a b ha hb
  · intro a ha; rw [u1_rn (Or.inl (by omega)), upN_n (by omega)]; exact h.rate a ha
  · intro a ha; rw [u1_rn (Or.inl (by omega)), upN_n (by omega)]; exact h.target a ha
  · intro a ha; rw [u1_rn (Or.inl (by omega)), upN_n (by omega)]; exact h.stc a ha
  · intro a ha; rw [u1_rn (Or.inl (by omega)), upN_n (by omega)]; exact h.stt a ha
  · intro a ha; rw [u1_rn (Or.inl (by omega)), upN_n (by omega)]; exact h.sent a ha
  · intro a ha; rw [u1_rn (Or.inl (by omega)), upN_n (by omega)]; exact h.deliv a ha
  · intro a ha; rw [u1_rn (Or.inl (by omega)), upN_n (by omega)]; exact h.notices a ha
  · intro a ha; rw [u1_rn (Or.inl (by omega)), upN_n (by omega)]; exact h.on a ha
  · intro a ha; rw [u1_rn (Or.inl (by omega)), upN_n (by omega)]; exact h.credit a ha
  · intro a ha; by_cases e : a = f
    · subst e; rw [u1_rs, upN_s]
    · rw [u1_rn (Or.inl (by omega)), upN_n (by omega)]; exact h.byc a ha
  · intro a ha; rw [u1_rn (Or.inl (by omega)), upN_n (by omega)]; exact h.byt a ha
  · intro a ha; rw [u1_rn (Or.inl (by omega)), upN_n (by omega)]; exact h.flost a ha
  · skip; rw [u1_rn (Or.inl (by omega)), upN_n (by omega)]; exact h.tick
theorem RM.st_byt {m : Mm} {X : Nat → Nat} {f : Nat} (h : RM m X) (v : Nat) (hc : f < 8) : RM (u1 m 15 (240 + 12 * f + 10) (nI v)) (upN X (288 + f) v) := by
  refine RM.mk ?_ ?_ ?_ ?_ ?_ ?_ ?_ ?_ ?_ ?_ ?_ ?_ ?_ ?_ ?_ ?_ ?_ ?_ ?_ ?_ ?_ ?_ ?_ ?_ ?_
  · intro a ha; rw [u1_rn (Or.inl (by omega)), upN_n (by omega)]; exact h.xoff a ha
  · intro a ha; rw [u1_rn (Or.inl (by omega)), upN_n (by omega)]; exact h.xon a ha
  · intro a ha; rw [u1_rn (Or.inl (by omega)), upN_n (by omega)]; exact h.size a ha
  · intro a ha; rw [u1_rn (Or.inl (by omega)), upN_n (by omega)]; exact h.lost a ha
  · intro a ha; rw [u1_rn (Or.inl (by omega)), upN_n (by omega)]; exact h.peak a ha
  · intro a ha; rw [u1_rn (Or.inl (by omega)), upN_n (by omega)]; exact h.samples a ha
  · intro a ha; rw [u1_rn (Or.inl (by omega)), upN_n (by omega)]; exact h.noted a ha
  · intro a ha; rw [u1_rn (Or.inl (by omega)), upN_n (by omega)]; exact h.carried a ha
  · intro a ha; rw [u1_rn (Or.inl (by omega)), upN_n (by omega)]; exact h.count a ha
  · intro a ha; rw [u1_rn (Or.inl (by omega)), upN_n (by omega)]; exact h.was a ha
  · intro a b ha hb; rw [u1_rn (Or.inl (by omega)), upN_n (by omega)]; exact h.bits a b ha hb
  · intro a b ha hb; rw [u1_rn (Or.inl (by omega)), upN_n (by omega)]; exact h.q a b ha hb
  · intro a ha; rw [u1_rn (Or.inl (by omega)), upN_n (by omega)]; exact h.rate a ha
  · intro a ha; rw [u1_rn (Or.inl (by omega)), upN_n (by omega)]; exact h.target a ha
  · intro a ha; rw [u1_rn (Or.inl (by omega)), upN_n (by omega)]; exact h.stc a ha
  · intro a ha; rw [u1_rn (Or.inl (by omega)), upN_n (by omega)]; exact h.stt a ha
  · intro a ha; rw [u1_rn (Or.inl (by omega)), upN_n (by omega)]; exact h.sent a ha
  · intro a ha; rw [u1_rn (Or.inl (by omega)), upN_n (by omega)]; exact h.deliv a ha
  · intro a ha; rw [u1_rn (Or.inl (by omega)), upN_n (by omega)]; exact h.notices a ha
  · intro a ha; rw [u1_rn (Or.inl (by omega)), upN_n (by omega)]; exact h.on a ha
  · intro a ha; rw [u1_rn (Or.inl (by omega)), upN_n (by omega)]; exact h.credit a ha
  · intro a ha; rw [u1_rn (Or.inl (by omega)), upN_n (by omega)]; exact h.byc a ha
  · intro a ha; by_cases e : a = f
    · subst e; rw [u1_rs, upN_s]
    · rw [u1_rn (Or.inl (by omega)), upN_n (by omega)]; exact h.byt a ha
  · intro a ha; rw [u1_rn (Or.inl (by omega)), upN_n (by omega)]; exact h.flost a ha
  · skip; rw [u1_rn (Or.inl (by omega)), upN_n (by omega)]; exact h.tick
theorem RM.st_flost {m : Mm} {X : Nat → Nat} {f : Nat} (h : RM m X) (v : Nat) (hc : f < 8) : RM (u1 m 15 (240 + 12 * f + 11) (nI v)) (upN X (248 + f) v) := by
  refine RM.mk ?_ ?_ ?_ ?_ ?_ ?_ ?_ ?_ ?_ ?_ ?_ ?_ ?_ ?_ ?_ ?_ ?_ ?_ ?_ ?_ ?_ ?_ ?_ ?_ ?_
  · intro a ha; rw [u1_rn (Or.inl (by omega)), upN_n (by omega)]; exact h.xoff a ha
  · intro a ha; rw [u1_rn (Or.inl (by omega)), upN_n (by omega)]; exact h.xon a ha
  · intro a ha; rw [u1_rn (Or.inl (by omega)), upN_n (by omega)]; exact h.size a ha
  · intro a ha; rw [u1_rn (Or.inl (by omega)), upN_n (by omega)]; exact h.lost a ha
  · intro a ha; rw [u1_rn (Or.inl (by omega)), upN_n (by omega)]; exact h.peak a ha
  · intro a ha; rw [u1_rn (Or.inl (by omega)), upN_n (by omega)]; exact h.samples a ha
  · intro a ha; rw [u1_rn (Or.inl (by omega)), upN_n (by omega)]; exact h.noted a ha
  · intro a ha; rw [u1_rn (Or.inl (by omega)), upN_n (by omega)]; exact h.carried a ha
  · intro a ha; rw [u1_rn (Or.inl (by omega)), upN_n (by omega)]; exact h.count a ha
  · intro a ha; rw [u1_rn (Or.inl (by omega)), upN_n (by omega)]; exact h.was a ha
  · intro a b ha hb; rw [u1_rn (Or.inl (by omega)), upN_n (by omega)]; exact h.bits a b ha hb
  · intro a b ha hb; rw [u1_rn (Or.inl (by omega)), upN_n (by omega)]; exact h.q a b ha hb
  · intro a ha; rw [u1_rn (Or.inl (by omega)), upN_n (by omega)]; exact h.rate a ha
  · intro a ha; rw [u1_rn (Or.inl (by omega)), upN_n (by omega)]; exact h.target a ha
  · intro a ha; rw [u1_rn (Or.inl (by omega)), upN_n (by omega)]; exact h.stc a ha
  · intro a ha; rw [u1_rn (Or.inl (by omega)), upN_n (by omega)]; exact h.stt a ha
  · intro a ha; rw [u1_rn (Or.inl (by omega)), upN_n (by omega)]; exact h.sent a ha
  · intro a ha; rw [u1_rn (Or.inl (by omega)), upN_n (by omega)]; exact h.deliv a ha
  · intro a ha; rw [u1_rn (Or.inl (by omega)), upN_n (by omega)]; exact h.notices a ha
  · intro a ha; rw [u1_rn (Or.inl (by omega)), upN_n (by omega)]; exact h.on a ha
  · intro a ha; rw [u1_rn (Or.inl (by omega)), upN_n (by omega)]; exact h.credit a ha
  · intro a ha; rw [u1_rn (Or.inl (by omega)), upN_n (by omega)]; exact h.byc a ha
  · intro a ha; rw [u1_rn (Or.inl (by omega)), upN_n (by omega)]; exact h.byt a ha
  · intro a ha; by_cases e : a = f
    · subst e; rw [u1_rs, upN_s]
    · rw [u1_rn (Or.inl (by omega)), upN_n (by omega)]; exact h.flost a ha
  · skip; rw [u1_rn (Or.inl (by omega)), upN_n (by omega)]; exact h.tick
theorem RM.st_tick {m : Mm} {X : Nat → Nat} (h : RM m X) (v : Nat) (hc : True) : RM (u1 m 15 (336) (nI v)) (upN X (296) v) := by
  refine RM.mk ?_ ?_ ?_ ?_ ?_ ?_ ?_ ?_ ?_ ?_ ?_ ?_ ?_ ?_ ?_ ?_ ?_ ?_ ?_ ?_ ?_ ?_ ?_ ?_ ?_
  · intro a ha; rw [u1_rn (Or.inl (by omega)), upN_n (by omega)]; exact h.xoff a ha
  · intro a ha; rw [u1_rn (Or.inl (by omega)), upN_n (by omega)]; exact h.xon a ha
  · intro a ha; rw [u1_rn (Or.inl (by omega)), upN_n (by omega)]; exact h.size a ha
  · intro a ha; rw [u1_rn (Or.inl (by omega)), upN_n (by omega)]; exact h.lost a ha
  · intro a ha; rw [u1_rn (Or.inl (by omega)), upN_n (by omega)]; exact h.peak a ha
  · intro a ha; rw [u1_rn (Or.inl (by omega)), upN_n (by omega)]; exact h.samples a ha
  · intro a ha; rw [u1_rn (Or.inl (by omega)), upN_n (by omega)]; exact h.noted a ha
  · intro a ha; rw [u1_rn (Or.inl (by omega)), upN_n (by omega)]; exact h.carried a ha
  · intro a ha; rw [u1_rn (Or.inl (by omega)), upN_n (by omega)]; exact h.count a ha
  · intro a ha; rw [u1_rn (Or.inl (by omega)), upN_n (by omega)]; exact h.was a ha
  · intro a b ha hb; rw [u1_rn (Or.inl (by omega)), upN_n (by omega)]; exact h.bits a b ha hb
  · intro a b ha hb; rw [u1_rn (Or.inl (by omega)), upN_n (by omega)]; exact h.q a b ha hb
  · intro a ha; rw [u1_rn (Or.inl (by omega)), upN_n (by omega)]; exact h.rate a ha
  · intro a ha; rw [u1_rn (Or.inl (by omega)), upN_n (by omega)]; exact h.target a ha
  · intro a ha; rw [u1_rn (Or.inl (by omega)), upN_n (by omega)]; exact h.stc a ha
  · intro a ha; rw [u1_rn (Or.inl (by omega)), upN_n (by omega)]; exact h.stt a ha
  · intro a ha; rw [u1_rn (Or.inl (by omega)), upN_n (by omega)]; exact h.sent a ha
  · intro a ha; rw [u1_rn (Or.inl (by omega)), upN_n (by omega)]; exact h.deliv a ha
  · intro a ha; rw [u1_rn (Or.inl (by omega)), upN_n (by omega)]; exact h.notices a ha
  · intro a ha; rw [u1_rn (Or.inl (by omega)), upN_n (by omega)]; exact h.on a ha
  · intro a ha; rw [u1_rn (Or.inl (by omega)), upN_n (by omega)]; exact h.credit a ha
  · intro a ha; rw [u1_rn (Or.inl (by omega)), upN_n (by omega)]; exact h.byc a ha
  · intro a ha; rw [u1_rn (Or.inl (by omega)), upN_n (by omega)]; exact h.byt a ha
  · intro a ha; rw [u1_rn (Or.inl (by omega)), upN_n (by omega)]; exact h.flost a ha
  · rw [u1_rs, upN_s]
theorem Fr.st {P : Nat → Prop} {m m' : Mm} {o i : Nat} {v : Int32} (h : Fr P m m') (hp : P o) : Fr P m (Jvm.Pilot.@@N@@.u1 m' o i v) := h.trans (Fr.u1 hp)
