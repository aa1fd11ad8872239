/-! ===== numbers asked of both; the lines of settings ===== -/
theorem TC.o {m : Mm} {B : Nat → Nat} {n a o j : Nat} {v : Int32} (h : TC m B n a) (h1 : o ≠ 1) (h2 : o ≠ 2) : TC (u1 m o j v) B n a := TC.mk (by rw [u1_rn (Or.inr (by omega))]; exact h.e) (by rw [u1_rn (Or.inr (by omega))]; exact h.a) (fun i hi => by rw [u1_rn (Or.inr (by omega))]; exact h.b i hi)
theorem TM.o {m : Mm} {B : Nat → Nat} {n a o j : Nat} {v : Int32} (h : TM m B n a) (h1 : o ≠ 0) (h2 : o ≠ 1) : TM (u1 m o j v) B n a := TM.mk (by rw [u1_rn (Or.inr (by omega))]; exact h.e) (by rw [u1_rn (Or.inr (by omega))]; exact h.a) (fun i hi => by rw [u1_rn (Or.inr (by omega))]; exact h.b i hi)
theorem TV.o {m : Mm} {B : Nat → Nat} {n a o j : Nat} {v : Int32} (h : TV m B n a) (h1 : o ≠ 0) : TV (u1 m o j v) B n a := TV.mk (by rw [u1_rn (Or.inr (by omega))]; exact h.p) (by rw [u1_rn (Or.inr (by omega))]; exact h.s) (by rw [u1_rn (Or.inr (by omega))]; exact h.w) (by rw [u1_rn (Or.inr (by omega))]; exact h.k) (by rw [u1_rn (Or.inr (by omega))]; exact h.v)
/-- both at the same place: the class before a token, the model with it at hand -/
def NS (mF mM : Mm) (B : Nat → Nat) (n a : Nat) : Prop := (TC mF B n a) ∧ (TM mM B n (tzA B n a)) ∧ (TV mM B n a) ∧ (mM.1 0 22 = nI 0)
theorem NS.mk {mF mM : Mm} {B : Nat → Nat} {n a : Nat} (h_F : TC mF B n a) (h_M : TM mM B n (tzA B n a)) (h_V : TV mM B n a) (h_f0 : mM.1 0 22 = nI 0) : NS mF mM B n a := ⟨h_F, h_M, h_V, h_f0⟩
theorem NS.F {mF mM : Mm} {B : Nat → Nat} {n a : Nat} (h : NS mF mM B n a) : TC mF B n a := h.1
theorem NS.M {mF mM : Mm} {B : Nat → Nat} {n a : Nat} (h : NS mF mM B n a) : TM mM B n (tzA B n a) := h.2.1
theorem NS.V {mF mM : Mm} {B : Nat → Nat} {n a : Nat} (h : NS mF mM B n a) : TV mM B n a := h.2.2.1
theorem NS.f0 {mF mM : Mm} {B : Nat → Nat} {n a : Nat} (h : NS mF mM B n a) : mM.1 0 22 = nI 0 := h.2.2.2
theorem NS.o {mF mM : Mm} {B : Nat → Nat} {n a o j o' j' : Nat} {v v' : Int32} (h : NS mF mM B n a) (h1 : o ≠ 1) (h2 : o ≠ 2) (h3 : o' ≠ 0) (h4 : o' ≠ 1) : NS (u1 mF o j v) (u1 mM o' j' v') B n a := NS.mk (h.F.o h1 h2) (h.M.o h3 h4) (h.V.o h3) (by rw [u1_rn (Or.inr (by omega))]; exact h.f0)
theorem nmO_v {B : Nat → Nat} {n a lo hi : Nat} (h : nmO B n a lo hi = 0) : lo ≤ nmV B n a ∧ nmV B n a ≤ hi := by
  unfold nmO at h
  unfold nmV
  split at h
  · split at h
    · omega
    · omega
  · omega
theorem num2 {mF mM : Mm} {B : Nat → Nat} {n a : Nat} (h : NS mF mM B n a) (hn : n ≤ 700) (hB : ∀ j, j < n → B j < 256) (ha : a ≤ n) {lo hi x i k : Nat} (hx : SX7[x]? = some (.inl (0, k))) (hk : k < 1000) (hi2 : i < k) (hlo : lo ≤ 99999) (hhi : hi ≤ 99999) :
    (∃ v mF' mM', lo ≤ v ∧ v ≤ hi ∧ fX2_readNumber SX7 mF 3 1 (nI lo) (nI hi) x (nI i) = some (nI 1, u1 mF' x i (nI v)) ∧ fX8_numeral SX8 mM 0 (nI lo) (nI hi) = some (nI v, mM') ∧ NS mF' mM' B n (tzA B n a) ∧ FT mF mF' ∧ FM mM mM') ∨
    (∃ c pl mF', 0 < c ∧ c < 9 ∧ fX2_readNumber SX7 mF 3 1 (nI lo) (nI hi) x (nI i) = some (nI 0, fl7 mF' c pl) ∧ fX8_numeral SX8 mM 0 (nI lo) (nI hi) = some (nI lo, fl8 mM c pl) ∧ FT mF mF') := by
  rcases e_readNumber h.F hn hB ha hx hk hi2 hlo hhi with ⟨c1, m1, a1, a2, a3⟩ | ⟨c1, c2, m1, a1, a2⟩
  · rcases e8_numeral h.f0 h.M h.V hn hB ha (lo := lo) (hi := hi) (by omega) hhi with ⟨d1, m2, b1, b2, b3, b4⟩ | ⟨d1, d2, b1⟩
    · have hv := nmO_v c1
      exact Or.inl ⟨nmV B n a, m1, m2, hv.1, hv.2, a1, b1, NS.mk a2 b2 b4 (by rw [b3.2 22 (by omega)]; exact h.f0), a3, b3⟩
    · omega
  · rcases e8_numeral h.f0 h.M h.V hn hB ha (lo := lo) (hi := hi) (by omega) hhi with ⟨d1, m2, b1, b2, b3, b4⟩ | ⟨d1, d2, b1⟩
    · omega
    · exact Or.inr ⟨_, _, m1, c1, c2, a1, b1, a2⟩
def Pl.st (π : Pl) (e mi w c t mo s : Nat) : Pl := (π.1, π.2.1, π.2.2.1, π.2.2.2.1, π.2.2.2.2.1, π.2.2.2.2.2.1, π.2.2.2.2.2.2.1, π.2.2.2.2.2.2.2.1, e, mi, w, c, t, mo, s)
theorem Pl.st_ok {π : Pl} {e mi w c t mo s : Nat} (O : π.ok) (h1 : 1 ≤ e ∧ e ≤ 999) (h2 : 1 ≤ mi ∧ mi ≤ 500) (h3 : w ≤ 4) (h4 : 1 ≤ c ∧ c ≤ 999) (h5 : 1 ≤ t ∧ t ≤ 99) (h6 : 1 ≤ mo ∧ mo ≤ 99) (h7 : s ≤ 99999) : (π.st e mi w c t mo s).ok := Pl.ok.mk O.nl O.nf O.cap O.delay O.hops O.path O.inj h1 h2 h3 h4 h5 h6 h7
theorem QP.st {π : Pl} {X : Nat → Nat} {td td' : Nat} {e mi w c t mo s : Nat} (h : QP π X td) (O : (π.st e mi w c t mo s).ok) (htd : td' < 8) : QP (π.st e mi w c t mo s) X td' := QP.mk O htd h.h0 h.xo h.ra h.z1 h.z2 h.z3
theorem QC.st {m m' : Mm} {sp : Nat} {π : Pl} {X : Nat → Nat} {td td' : Nat} {e mi w c t mo s : Nat} (h : QC m sp π X td) (hsp : sp = 21 ∨ sp = 31) (f : ∀ o, o ≠ 1 → o ≠ 3 → o ≠ sp + 9 → m'.1 o = m.1 o) (c0 : m'.1 3 0 = nI 0) (c1 : m'.1 3 1 = -nI 1) (c2 : m'.1 3 2 = nI td') (s0 : m'.1 (sp + 9) 0 = nI e) (s1 : m'.1 (sp + 9) 1 = nI mi) (s2 : m'.1 (sp + 9) 2 = nI w) (s3 : m'.1 (sp + 9) 3 = nI c) (s4 : m'.1 (sp + 9) 4 = nI t) (s5 : m'.1 (sp + 9) 5 = nI mo) (s6 : m'.1 (sp + 9) 6 = nI s) : QC m' sp (π.st e mi w c t mo s) X td' := by
  have P := h.P
  have e0 := f sp (by omega) (by omega) (by omega)
  refine QC.mk (PF.mk (by rw [e0]; exact P.nl) (by rw [e0]; exact P.nf) ?_ ?_ ?_ ?_ ?_ ?_ ?_ ?_ s0 s1 s2 s3 s4 s5 s6) (by rw [f (sp + 7) (by omega) (by omega) (by omega)]; exact h.pv) (by rw [f (sp + 8) (by omega) (by omega) (by omega)]; exact h.nx) (by rw [f 20 (by omega) (by omega) (by omega)]; exact h.row) c0 c1 c2
  · rw [f (sp + 1) (by omega) (by omega) (by omega)]; exact P.lname
  · rw [f (sp + 2) (by omega) (by omega) (by omega)]; exact P.cap
  · rw [f (sp + 3) (by omega) (by omega) (by omega)]; exact P.delay
  · rw [f (sp + 4) (by omega) (by omega) (by omega)]; exact P.fname
  · rw [f (sp + 5) (by omega) (by omega) (by omega)]; exact P.hops
  · rw [f (sp + 6) (by omega) (by omega) (by omega)]; exact P.path
  · rw [f (sp + 7) (by omega) (by omega) (by omega)]; exact P.pv
  · rw [f (sp + 8) (by omega) (by omega) (by omega)]; exact P.nx
theorem shM_e {m : Mm} {o : Nat} : (shM m).1 o = fun j => if o = 2 then m.1 2 (9 + j) else if 4 ≤ o ∧ o ≤ 9 then m.1 o (10 + j) else if 10 ≤ o ∧ o ≤ 13 then m.1 o (8 + j) else if o = 14 then m.1 14 (40 + j) else m.1 o j := rfl
theorem shM_o {m m' : Mm} {o : Nat} (ho : o ≠ 2) (h : m'.1 o = m.1 o) (h14 : m'.1 14 = m.1 14) : (shM m').1 o = (shM m).1 o := by
  rw [shM_e, shM_e, h, h14]
  simp only [if_neg ho]
theorem shM_2 {m : Mm} {j : Nat} : (shM m).1 2 j = m.1 2 (9 + j) := rfl
theorem QM.st {m m' : Mm} {π : Pl} {X : Nat → Nat} {td td' : Nat} {e mi w c t mo s : Nat} (h : QM m π X td) (f : ∀ o, o ≠ 0 → o ≠ 2 → o ≠ 3 → m'.1 o = m.1 o) (n0 : m'.1 2 9 = m.1 2 9) (n1 : m'.1 2 10 = m.1 2 10) (f0 : m'.1 0 22 = nI 0) (t2 : m'.1 3 2 = nI (bN td' 0)) (t3 : m'.1 3 3 = nI (bN td' 1)) (t5 : m'.1 3 5 = nI (bN td' 2)) (s0 : m'.1 2 11 = nI e) (s1 : m'.1 2 12 = nI mi) (s2 : m'.1 2 13 = nI w) (s3 : m'.1 2 14 = nI c) (s4 : m'.1 2 15 = nI t) (s5 : m'.1 2 16 = nI mo) (s6 : m'.1 2 17 = nI s) : QM m' (π.st e mi w c t mo s) X td' := by
  have P := h.P
  have g : ∀ o, o ≠ 0 → o ≠ 2 → o ≠ 3 → (shM m').1 o = (shM m).1 o := fun o h1 h2 h3 => shM_o h2 (f o h1 h2 h3) (f 14 (by omega) (by omega) (by omega))
  refine QM.mk (PM.mk ?_ ?_ ?_ ?_ ?_ ?_ ?_ ?_ s0 s1 s2 s3 s4 s5 s6) (by rw [f 7 (by omega) (by omega) (by omega)]; exact h.xoff) (by rw [f 8 (by omega) (by omega) (by omega)]; exact h.xon) (by rw [f 9 (by omega) (by omega) (by omega)]; exact h.size) (by rw [f 11 (by omega) (by omega) (by omega)]; exact h.rate) (by rw [f 12 (by omega) (by omega) (by omega)]; exact h.off) f0 t2 t3 t5
  · exact n0.trans P.nl
  · exact n1.trans P.nf
  · rw [g 4 (by omega) (by omega) (by omega)]; exact P.lname
  · rw [g 5 (by omega) (by omega) (by omega)]; exact P.cap
  · rw [g 6 (by omega) (by omega) (by omega)]; exact P.delay
  · rw [g 10 (by omega) (by omega) (by omega)]; exact P.fname
  · rw [g 13 (by omega) (by omega) (by omega)]; exact P.hops
  · rw [g 14 (by omega) (by omega) (by omega)]; exact P.path
/-- what a line does to both -/
def OutX (B : Nat → Nat) (n sp a1 : Nat) (mF mM : Mm) (f7 : Option (Int32 × Mm)) (f8 : Option Mm) : Prop :=
  ∃ mM', f8 = some mM' ∧ LM mM mM' ∧
    ((∃ π X td a2 mF', a2 ≤ n ∧ a1 ≤ a2 ∧ QM mM' π X td ∧ QP π X td ∧ TM mM' B n (tzA B n a2) ∧ TV mM' B n a2 ∧ mM'.1 0 16 = mM.1 0 16 ∧ LC sp mF mF' ∧ ((tzK B n a2 = 4 ∧ f7 = some (nI 1, mF') ∧ TC mF' B n (tzA B n a2) ∧ QC mF' sp π X td) ∨ (tzK B n a2 ≠ 4 ∧ f7 = some (nI 0, mF') ∧ mF'.1 3 0 = nI 1 ∧ mF'.1 3 1 = nI (tzP B n a2)))) ∨
     (∃ c pl mF', 0 < c ∧ c < 9 ∧ mM'.1 0 22 = nI c ∧ mM'.1 0 23 = nI pl ∧ f7 = some (nI 0, mF') ∧ mF'.1 3 0 = nI c ∧ mF'.1 3 1 = nI pl ∧ LC sp mF mF'))
