/-! ===== what has been read so far, both sides ===== -/
/-- what stays as it was while a text is read -/
def lvC (sp o j : Nat) : Prop := (o = 1 ∧ j < 3) ∨ (o ≠ 1 ∧ o ≠ 3 ∧ o ≠ 20 ∧ (o < sp ∨ sp + 9 < o))
def lvM (o j : Nat) : Prop := (o = 0 ∧ (j < 16 ∨ 23 < j)) ∨ o = 1 ∨ (o = 2 ∧ j < 9) ∨ (4 ≤ o ∧ o ≤ 9 ∧ j < 10) ∨ (10 ≤ o ∧ o ≤ 13 ∧ j < 8) ∨ (o = 14 ∧ j < 40) ∨ 15 ≤ o
def LC (sp : Nat) (m m' : Mm) : Prop := ∀ o j, lvC sp o j → m'.1 o j = m.1 o j
def LM (m m' : Mm) : Prop := ∀ o j, lvM o j → m'.1 o j = m.1 o j
theorem LC.rfl {sp : Nat} {m : Mm} : LC sp m m := fun _ _ _ => Eq.refl _
theorem LM.rfl {m : Mm} : LM m m := fun _ _ _ => Eq.refl _
theorem LC.trans {sp : Nat} {m m' m'' : Mm} (h : LC sp m m') (h2 : LC sp m' m'') : LC sp m m'' := fun o j q => (h2 o j q).trans (h o j q)
theorem LM.trans {m m' m'' : Mm} (h : LM m m') (h2 : LM m' m'') : LM m m'' := fun o j q => (h2 o j q).trans (h o j q)
theorem FT.l {sp : Nat} {m m' : Mm} (h : FT m m') : LC sp m m' := fun o j q => by
  unfold lvC at q
  by_cases e : o = 1
  · subst e; exact h.2 j (by omega)
  · rw [h.1 o e]
theorem FM.l {m m' : Mm} (h : FM m m') : LM m m' := fun o j q => by
  unfold lvM at q
  by_cases e : o = 0
  · subst e; exact h.2 j (by omega)
  · rw [h.1 o e]
theorem LC.u {sp : Nat} {m m' : Mm} {o j : Nat} {v : Int32} (h : LC sp m m') (hj : ¬ lvC sp o j) : LC sp m (u1 m' o j v) := fun o' j' q => by
  rw [u1_rn ?_]
  · exact h o' j' q
  · by_cases e : o' = o
    · by_cases e2 : j' = j
      · subst e; subst e2; exact absurd q hj
      · exact Or.inl e2
    · exact Or.inr e
theorem LM.u {m m' : Mm} {o j : Nat} {v : Int32} (h : LM m m') (hj : ¬ lvM o j) : LM m (u1 m' o j v) := fun o' j' q => by
  rw [u1_rn ?_]
  · exact h o' j' q
  · by_cases e : o' = o
    · by_cases e2 : j' = j
      · subst e; subst e2; exact absurd q hj
      · exact Or.inl e2
    · exact Or.inr e
theorem LC.f {sp : Nat} {m m' : Mm} {c pl : Nat} (h : LC sp m m') : LC sp m (fl7 m' c pl) := (h.u (by unfold lvC; omega)).u (by unfold lvC; omega)
theorem LM.f {m m' : Mm} {c pl : Nat} (h : LM m m') : LM m (fl8 m' c pl) := (h.u (by unfold lvM; omega)).u (by unfold lvM; omega)
theorem fl8_23 {m : Mm} {c pl : Nat} : (fl8 m c pl).1 0 23 = nI pl := by unfold fl8; rw [u1_rs]
theorem fl7_0 {m : Mm} {c pl : Nat} : (fl7 m c pl).1 3 0 = nI c := by unfold fl7; rw [u1_rn (Or.inl (by omega)), u1_rs]
theorem fl7_1 {m : Mm} {c pl : Nat} : (fl7 m c pl).1 3 1 = nI pl := by unfold fl7; rw [u1_rs]
/-- the model's places for what is being read, as if taken -/
def shM (m : Mm) : Mm := (fun o j => if o = 2 then m.1 2 (9 + j) else if 4 ≤ o ∧ o ≤ 9 then m.1 o (10 + j) else if 10 ≤ o ∧ o ≤ 13 then m.1 o (8 + j) else if o = 14 then m.1 14 (40 + j) else m.1 o j, m.2)
def QC (m : Mm) (sp : Nat) (π : Pl) (X : Nat → Nat) (td : Nat) : Prop := (PF m sp π) ∧ (∀ l f, l < 10 → f < 8 → m.1 (sp + 7) (l * 8 + f) = pvI (π.pv l f)) ∧ (∀ l f, l < 10 → f < 8 → m.1 (sp + 8) (l * 8 + f) = nxI (π.nx l f)) ∧ (∀ i, i < 297 → m.1 20 i = nI (X i)) ∧ (m.1 3 0 = nI 0) ∧ (m.1 3 1 = -nI 1) ∧ (m.1 3 2 = nI td)
theorem QC.mk {m : Mm} {sp : Nat} {π : Pl} {X : Nat → Nat} {td : Nat} (h_P : PF m sp π) (h_pv : ∀ l f, l < 10 → f < 8 → m.1 (sp + 7) (l * 8 + f) = pvI (π.pv l f)) (h_nx : ∀ l f, l < 10 → f < 8 → m.1 (sp + 8) (l * 8 + f) = nxI (π.nx l f)) (h_row : ∀ i, i < 297 → m.1 20 i = nI (X i)) (h_code : m.1 3 0 = nI 0) (h_place : m.1 3 1 = -nI 1) (h_td : m.1 3 2 = nI td) : QC m sp π X td := ⟨h_P, h_pv, h_nx, h_row, h_code, h_place, h_td⟩
theorem QC.P {m : Mm} {sp : Nat} {π : Pl} {X : Nat → Nat} {td : Nat} (h : QC m sp π X td) : PF m sp π := h.1
theorem QC.pv {m : Mm} {sp : Nat} {π : Pl} {X : Nat → Nat} {td : Nat} (h : QC m sp π X td) : ∀ l f, l < 10 → f < 8 → m.1 (sp + 7) (l * 8 + f) = pvI (π.pv l f) := h.2.1
theorem QC.nx {m : Mm} {sp : Nat} {π : Pl} {X : Nat → Nat} {td : Nat} (h : QC m sp π X td) : ∀ l f, l < 10 → f < 8 → m.1 (sp + 8) (l * 8 + f) = nxI (π.nx l f) := h.2.2.1
theorem QC.row {m : Mm} {sp : Nat} {π : Pl} {X : Nat → Nat} {td : Nat} (h : QC m sp π X td) : ∀ i, i < 297 → m.1 20 i = nI (X i) := h.2.2.2.1
theorem QC.code {m : Mm} {sp : Nat} {π : Pl} {X : Nat → Nat} {td : Nat} (h : QC m sp π X td) : m.1 3 0 = nI 0 := h.2.2.2.2.1
theorem QC.place {m : Mm} {sp : Nat} {π : Pl} {X : Nat → Nat} {td : Nat} (h : QC m sp π X td) : m.1 3 1 = -nI 1 := h.2.2.2.2.2.1
theorem QC.td {m : Mm} {sp : Nat} {π : Pl} {X : Nat → Nat} {td : Nat} (h : QC m sp π X td) : m.1 3 2 = nI td := h.2.2.2.2.2.2
def QM (m : Mm) (π : Pl) (X : Nat → Nat) (td : Nat) : Prop := (PM (shM m) π) ∧ (∀ l, l < π.nl → m.1 7 (10 + l) = nI (X l)) ∧ (∀ l, l < π.nl → m.1 8 (10 + l) = nI (X (10 + l))) ∧ (∀ l, l < π.nl → m.1 9 (10 + l) = nI (X (20 + l))) ∧ (∀ f, f < π.nf → m.1 11 (8 + f) = nI (X (200 + f))) ∧ (∀ f, f < π.nf → m.1 12 (8 + f) = nI (1 - X (264 + f))) ∧ (m.1 0 22 = nI 0) ∧ (m.1 3 2 = nI (bN td 0)) ∧ (m.1 3 3 = nI (bN td 1)) ∧ (m.1 3 5 = nI (bN td 2))
theorem QM.mk {m : Mm} {π : Pl} {X : Nat → Nat} {td : Nat} (h_P : PM (shM m) π) (h_xoff : ∀ l, l < π.nl → m.1 7 (10 + l) = nI (X l)) (h_xon : ∀ l, l < π.nl → m.1 8 (10 + l) = nI (X (10 + l))) (h_size : ∀ l, l < π.nl → m.1 9 (10 + l) = nI (X (20 + l))) (h_rate : ∀ f, f < π.nf → m.1 11 (8 + f) = nI (X (200 + f))) (h_off : ∀ f, f < π.nf → m.1 12 (8 + f) = nI (1 - X (264 + f))) (h_f0 : m.1 0 22 = nI 0) (h_t2 : m.1 3 2 = nI (bN td 0)) (h_t3 : m.1 3 3 = nI (bN td 1)) (h_t5 : m.1 3 5 = nI (bN td 2)) : QM m π X td := ⟨h_P, h_xoff, h_xon, h_size, h_rate, h_off, h_f0, h_t2, h_t3, h_t5⟩
theorem QM.P {m : Mm} {π : Pl} {X : Nat → Nat} {td : Nat} (h : QM m π X td) : PM (shM m) π := h.1
theorem QM.xoff {m : Mm} {π : Pl} {X : Nat → Nat} {td : Nat} (h : QM m π X td) : ∀ l, l < π.nl → m.1 7 (10 + l) = nI (X l) := h.2.1
theorem QM.xon {m : Mm} {π : Pl} {X : Nat → Nat} {td : Nat} (h : QM m π X td) : ∀ l, l < π.nl → m.1 8 (10 + l) = nI (X (10 + l)) := h.2.2.1
theorem QM.size {m : Mm} {π : Pl} {X : Nat → Nat} {td : Nat} (h : QM m π X td) : ∀ l, l < π.nl → m.1 9 (10 + l) = nI (X (20 + l)) := h.2.2.2.1
theorem QM.rate {m : Mm} {π : Pl} {X : Nat → Nat} {td : Nat} (h : QM m π X td) : ∀ f, f < π.nf → m.1 11 (8 + f) = nI (X (200 + f)) := h.2.2.2.2.1
theorem QM.off {m : Mm} {π : Pl} {X : Nat → Nat} {td : Nat} (h : QM m π X td) : ∀ f, f < π.nf → m.1 12 (8 + f) = nI (1 - X (264 + f)) := h.2.2.2.2.2.1
theorem QM.f0 {m : Mm} {π : Pl} {X : Nat → Nat} {td : Nat} (h : QM m π X td) : m.1 0 22 = nI 0 := h.2.2.2.2.2.2.1
theorem QM.t2 {m : Mm} {π : Pl} {X : Nat → Nat} {td : Nat} (h : QM m π X td) : m.1 3 2 = nI (bN td 0) := h.2.2.2.2.2.2.2.1
theorem QM.t3 {m : Mm} {π : Pl} {X : Nat → Nat} {td : Nat} (h : QM m π X td) : m.1 3 3 = nI (bN td 1) := h.2.2.2.2.2.2.2.2.1
theorem QM.t5 {m : Mm} {π : Pl} {X : Nat → Nat} {td : Nat} (h : QM m π X td) : m.1 3 5 = nI (bN td 2) := h.2.2.2.2.2.2.2.2.2
/-- what a text so far may have told -/
def QP (π : Pl) (X : Nat → Nat) (td : Nat) : Prop := (π.ok) ∧ (td < 8) ∧ (∀ f, π.nf ≤ f → π.hops f = 0) ∧ (∀ l, l < π.nl → 1 ≤ X l ∧ X l ≤ 999 ∧ X (10 + l) < X l ∧ 1 ≤ X (20 + l) ∧ X (20 + l) ≤ 1999) ∧ (∀ f, f < π.nf → 1 ≤ X (200 + f) ∧ X (200 + f) ≤ 1024 ∧ X (208 + f) = X (200 + f) ∧ X (264 + f) ≤ 1) ∧ (∀ l, π.nl ≤ l → l < 10 → X l = 0 ∧ X (10 + l) = 0 ∧ X (20 + l) = 0) ∧ (∀ f, π.nf ≤ f → f < 8 → X (200 + f) = 0 ∧ X (208 + f) = 0 ∧ X (264 + f) = 0) ∧ (∀ i, i < 297 → (30 ≤ i ∧ i < 200) ∨ (216 ≤ i ∧ i < 264) ∨ 272 ≤ i → X i = 0)
theorem QP.mk {π : Pl} {X : Nat → Nat} {td : Nat} (h_O : π.ok) (h_td : td < 8) (h_h0 : ∀ f, π.nf ≤ f → π.hops f = 0) (h_xo : ∀ l, l < π.nl → 1 ≤ X l ∧ X l ≤ 999 ∧ X (10 + l) < X l ∧ 1 ≤ X (20 + l) ∧ X (20 + l) ≤ 1999) (h_ra : ∀ f, f < π.nf → 1 ≤ X (200 + f) ∧ X (200 + f) ≤ 1024 ∧ X (208 + f) = X (200 + f) ∧ X (264 + f) ≤ 1) (h_z1 : ∀ l, π.nl ≤ l → l < 10 → X l = 0 ∧ X (10 + l) = 0 ∧ X (20 + l) = 0) (h_z2 : ∀ f, π.nf ≤ f → f < 8 → X (200 + f) = 0 ∧ X (208 + f) = 0 ∧ X (264 + f) = 0) (h_z3 : ∀ i, i < 297 → (30 ≤ i ∧ i < 200) ∨ (216 ≤ i ∧ i < 264) ∨ 272 ≤ i → X i = 0) : QP π X td := ⟨h_O, h_td, h_h0, h_xo, h_ra, h_z1, h_z2, h_z3⟩
theorem QP.O {π : Pl} {X : Nat → Nat} {td : Nat} (h : QP π X td) : π.ok := h.1
theorem QP.td {π : Pl} {X : Nat → Nat} {td : Nat} (h : QP π X td) : td < 8 := h.2.1
theorem QP.h0 {π : Pl} {X : Nat → Nat} {td : Nat} (h : QP π X td) : ∀ f, π.nf ≤ f → π.hops f = 0 := h.2.2.1
theorem QP.xo {π : Pl} {X : Nat → Nat} {td : Nat} (h : QP π X td) : ∀ l, l < π.nl → 1 ≤ X l ∧ X l ≤ 999 ∧ X (10 + l) < X l ∧ 1 ≤ X (20 + l) ∧ X (20 + l) ≤ 1999 := h.2.2.2.1
theorem QP.ra {π : Pl} {X : Nat → Nat} {td : Nat} (h : QP π X td) : ∀ f, f < π.nf → 1 ≤ X (200 + f) ∧ X (200 + f) ≤ 1024 ∧ X (208 + f) = X (200 + f) ∧ X (264 + f) ≤ 1 := h.2.2.2.2.1
theorem QP.z1 {π : Pl} {X : Nat → Nat} {td : Nat} (h : QP π X td) : ∀ l, π.nl ≤ l → l < 10 → X l = 0 ∧ X (10 + l) = 0 ∧ X (20 + l) = 0 := h.2.2.2.2.2.1
theorem QP.z2 {π : Pl} {X : Nat → Nat} {td : Nat} (h : QP π X td) : ∀ f, π.nf ≤ f → f < 8 → X (200 + f) = 0 ∧ X (208 + f) = 0 ∧ X (264 + f) = 0 := h.2.2.2.2.2.2.1
theorem QP.z3 {π : Pl} {X : Nat → Nat} {td : Nat} (h : QP π X td) : ∀ i, i < 297 → (30 ≤ i ∧ i < 200) ∨ (216 ≤ i ∧ i < 264) ∨ 272 ≤ i → X i = 0 := h.2.2.2.2.2.2.2
theorem QC.ft {m m' : Mm} {sp : Nat} {π : Pl} {X : Nat → Nat} {td : Nat} (h : QC m sp π X td) (hsp : sp = 21 ∨ sp = 31) (f : FT m m') : QC m' sp π X td :=
  QC.mk (h.P.eq (fun o h1 h2 => f.1 o (by omega))) (by rw [f.1 (sp + 7) (by omega)]; exact h.pv) (by rw [f.1 (sp + 8) (by omega)]; exact h.nx) (by rw [f.1 20 (by omega)]; exact h.row) (by rw [f.1 3 (by omega)]; exact h.code) (by rw [f.1 3 (by omega)]; exact h.place) (by rw [f.1 3 (by omega)]; exact h.td)
theorem QM.fm {m m' : Mm} {π : Pl} {X : Nat → Nat} {td : Nat} (h : QM m π X td) (f : FM m m') : QM m' π X td :=
  QM.mk (h.P.eq (fun o h1 h2 h3 => by
    show (fun j => if o = 2 then m'.1 2 (9 + j) else if 4 ≤ o ∧ o ≤ 9 then m'.1 o (10 + j) else if 10 ≤ o ∧ o ≤ 13 then m'.1 o (8 + j) else if o = 14 then m'.1 14 (40 + j) else m'.1 o j) = (fun j => if o = 2 then m.1 2 (9 + j) else if 4 ≤ o ∧ o ≤ 9 then m.1 o (10 + j) else if 10 ≤ o ∧ o ≤ 13 then m.1 o (8 + j) else if o = 14 then m.1 14 (40 + j) else m.1 o j)
    rw [f.1 o (by omega), f.1 2 (by omega), f.1 14 (by omega)])) (by rw [f.1 7 (by omega)]; exact h.xoff) (by rw [f.1 8 (by omega)]; exact h.xon) (by rw [f.1 9 (by omega)]; exact h.size) (by rw [f.1 11 (by omega)]; exact h.rate) (by rw [f.1 12 (by omega)]; exact h.off) (by rw [f.2 22 (by omega)]; exact h.f0) (by rw [f.1 3 (by omega)]; exact h.t2) (by rw [f.1 3 (by omega)]; exact h.t3) (by rw [f.1 3 (by omega)]; exact h.t5)
/-! pieces -/
theorem e8_reads {m : Mm} {k : Nat} {v : Int32} (hk : k < 9) : fX8_reads SX8 m 0 (nI k) v = some (u1 m 2 (9 + k) v) := by
  unfold fX8_reads
  simp (disch := omega) only [L0, L1, L2, L3, L4, L5, L6, L7, L8, L9, L10, L11, L12, L13, L14, L15, L16, L17, L18, L19, L20, L21, L22, L23, L24, L25, L26, L27, L28, L29, L30, L31, L32, L33, L34, L35, L36, L37, L38, L39, L40, L41, L42, L43, L44, L45, L46, L47, L48, L50, L57, L59, L60, L63, L64, L65, L70, L80, L90, L97, L100, L110, L120, L122, L128, L150, L200, L208, L216, L224, L232, L240, L248, L255, L256, L264, L272, L280, L288, L296, L297, L300, L336, L337, L500, L680, L700, L998, L999, L1000, L1024, L1999, L6403, L9999, L10000, L12345, L99999, L1000000, L214424576, L412560384, L509804544, L639025541, L642945024, L658545824, L1103515245, L2147483647, g8_0, r8_1, r8_3, r8_4, r8_5, r8_6, r8_7, r8_8, r8_9, r8_10, r8_11, r8_12, r8_13, r8_14, r8_15, r8_26, r8_27, r8_28, r8_29, r8_30, r8_33, r8_34, r8_35, r8_36, r8_37, r8_39, r8_40, r8_41, r8_43, r8_44, r8_45, nI_add, stA_n s8_2, narA_0, bd1_e]
theorem e8_reading {m : Mm} {k : Nat} (hk : k < 9) : fX8_reading SX8 m 0 (nI k) = some (m.1 2 (9 + k)) := by
  unfold fX8_reading
  simp (disch := omega) only [L0, L1, L2, L3, L4, L5, L6, L7, L8, L9, L10, L11, L12, L13, L14, L15, L16, L17, L18, L19, L20, L21, L22, L23, L24, L25, L26, L27, L28, L29, L30, L31, L32, L33, L34, L35, L36, L37, L38, L39, L40, L41, L42, L43, L44, L45, L46, L47, L48, L50, L57, L59, L60, L63, L64, L65, L70, L80, L90, L97, L100, L110, L120, L122, L128, L150, L200, L208, L216, L224, L232, L240, L248, L255, L256, L264, L272, L280, L288, L296, L297, L300, L336, L337, L500, L680, L700, L998, L999, L1000, L1024, L1999, L6403, L9999, L10000, L12345, L99999, L1000000, L214424576, L412560384, L509804544, L639025541, L642945024, L658545824, L1103515245, L2147483647, g8_0, r8_1, r8_3, r8_4, r8_5, r8_6, r8_7, r8_8, r8_9, r8_10, r8_11, r8_12, r8_13, r8_14, r8_15, r8_26, r8_27, r8_28, r8_29, r8_30, r8_33, r8_34, r8_35, r8_36, r8_37, r8_39, r8_40, r8_41, r8_43, r8_44, r8_45, nI_add, ldA_n s8_2, bd1_e]
theorem td_1 : ∀ td, td < 8 → ∀ b, b < 3 → ((nI td &&& nI (2 ^ b) = nI 0) ↔ bN td b = 0) ∧ (nI td ||| nI (2 ^ b)) = nI (td ||| 2 ^ b) ∧ (td ||| 2 ^ b) < 8 ∧ bN (td ||| 2 ^ b) b = 1 := by decide
theorem td_2 : ∀ td, td < 8 → ∀ b, b < 3 → ∀ c, c < 3 → c ≠ b → bN (td ||| 2 ^ b) c = bN td c := by decide
theorem e_isFirst {m : Mm} {td b pl : Nat} (h : m.1 3 2 = nI td) (h5 : m.1 1 5 = nI pl) (htd : td < 8) (hb : b < 3) : (bN td b = 0 ∧ fX2_isFirst SX7 m 3 1 (nI (2 ^ b)) = some (nI 1, u1 m 3 2 (nI (td ||| 2 ^ b)))) ∨ (bN td b = 1 ∧ fX2_isFirst SX7 m 3 1 (nI (2 ^ b)) = some (nI 0, fl7 m 3 pl)) := by
  obtain ⟨q1, q2, q3, q4⟩ := td_1 td htd b hb
  have hle := bN_le td b
  unfold fX2_isFirst
  simp only [L0, L1, L2, L3, L4, L5, L6, L7, L8, L9, L10, L11, L12, L13, L14, L15, L16, L17, L18, L19, L20, L21, L22, L23, L24, L25, L26, L27, L28, L29, L30, L31, L32, L33, L34, L35, L36, L37, L38, L39, L40, L41, L42, L43, L44, L45, L46, L47, L48, L50, L57, L59, L60, L63, L64, L65, L70, L80, L90, L97, L100, L110, L120, L122, L128, L150, L200, L208, L216, L224, L232, L240, L248, L255, L256, L264, L272, L280, L288, L296, L297, L300, L336, L337, L500, L680, L700, L998, L999, L1000, L1024, L1999, L6403, L9999, L10000, L12345, L99999, L1000000, L214424576, L412560384, L509804544, L639025541, L642945024, L658545824, L1103515245, L2147483647, g7_0, g7_1, g7_3, g7_4, g7_8, g7_13, g7_16, r7_0_0, r7_0_1, r7_0_2, r7_0_3, r7_0_4, r7_0_5, r7_0_6, r7_0_7, r7_1_0, r7_4_0, r7_4_1, r7_4_2, r7_8_0, r7_8_1, r7_8_2, r7_8_3, r7_13_0, r7_13_1, r7_16_0, r7_16_1, h, q1, q2, e_failed (c := 3) h5, bd2_e, bd1_e, okZ_0, okZ_1]
  by_cases c : bN td b = 0
  · exact Or.inl ⟨c, by rw [if_pos c]⟩
  · exact Or.inr ⟨by omega, by rw [if_neg c]⟩
theorem e8_once {m : Mm} {B : Nat → Nat} {n a a0 k v pl : Nat} (hk : k < 6) (h : m.1 3 k = nI v) (hv : v ≤ 1) (h22 : m.1 0 22 = nI 0) (h19 : m.1 0 19 = nI pl) (T : TM m B n a) (hn : n ≤ 700) (hB : ∀ j, j < n → B j < 256) (ha : a ≤ n) : (v = 0 ∧ ∃ m', fX8_once SX8 m 0 (nI k) = some m' ∧ TM m' B n (tzA B n a) ∧ TV m' B n a ∧ FM (u1 m 3 k (nI 1)) m') ∨ (v = 1 ∧ fX8_once SX8 m 0 (nI k) = some (u1 (fl8 m 3 pl) 3 k (nI 1))) := by
  unfold fX8_once jX8_once_14
  simp (disch := omega) only [L0, L1, L2, L3, L4, L5, L6, L7, L8, L9, L10, L11, L12, L13, L14, L15, L16, L17, L18, L19, L20, L21, L22, L23, L24, L25, L26, L27, L28, L29, L30, L31, L32, L33, L34, L35, L36, L37, L38, L39, L40, L41, L42, L43, L44, L45, L46, L47, L48, L50, L57, L59, L60, L63, L64, L65, L70, L80, L90, L97, L100, L110, L120, L122, L128, L150, L200, L208, L216, L224, L232, L240, L248, L255, L256, L264, L272, L280, L288, L296, L297, L300, L336, L337, L500, L680, L700, L998, L999, L1000, L1024, L1999, L6403, L9999, L10000, L12345, L99999, L1000000, L214424576, L412560384, L509804544, L639025541, L642945024, L658545824, L1103515245, L2147483647, g8_0, r8_1, r8_3, r8_4, r8_5, r8_6, r8_7, r8_8, r8_9, r8_10, r8_11, r8_12, r8_13, r8_14, r8_15, r8_26, r8_27, r8_28, r8_29, r8_30, r8_33, r8_34, r8_35, r8_36, r8_37, r8_39, r8_40, r8_41, r8_43, r8_44, r8_45, ldA_n s8_3, h, bd1_e, nn_eq, stA_n s8_3, e8_wrong (c := 3) h22 h19]
  by_cases c : v = 0
  · rw [if_pos c, show narA 2 (nI 1) = nI 1 from narA_2 true]
    obtain ⟨m1, a1, a2, a3, a4⟩ := e8_goOn0 (m := u1 m 3 k (nI 1)) (B := B) (n := n) (a := a) (by rw [u1_rn (Or.inr (by omega))]; exact h22) (TM.mk (by rw [u1_rn (Or.inr (by omega))]; exact T.e) (by rw [u1_rn (Or.inr (by omega))]; exact T.a) (fun j hj => by rw [u1_rn (Or.inr (by omega))]; exact T.b j hj)) hn hB ha
    rw [a1, bd1_e]
    exact Or.inl ⟨c, m1, rfl, a2, a4, a3⟩
  · rw [if_neg c, show narA 2 (nI 1) = nI 1 from narA_2 true, e8_goOn1 (c := 3) (by omega) (by omega) (by rw [u1_rn (Or.inr (by omega))]; exact fl8_22), bd1_e]
    exact Or.inr ⟨by omega, rfl⟩
