/-! ===== places that may change; names asked of both; the line 'off' ===== -/
def PW (S : Nat → Nat → Prop) (m m' : Mm) : Prop := ∀ o j, ¬ S o j → m'.1 o j = m.1 o j
theorem PW.rfl {S : Nat → Nat → Prop} {m : Mm} : PW S m m := fun _ _ _ => Eq.refl _
theorem PW.u {S : Nat → Nat → Prop} {m m' : Mm} {o j : Nat} {v : Int32} (h : PW S m m') (hs : S o j) : PW S m (u1 m' o j v) := fun o' j' q => by
  rw [u1_rn ?_]
  · exact h o' j' q
  · by_cases e : o' = o
    · by_cases e2 : j' = j
      · subst e; subst e2; exact absurd hs q
      · exact Or.inl e2
    · exact Or.inr e
theorem PW.ft {S : Nat → Nat → Prop} {m m' m'' : Mm} (h : PW S m m') (f : FT m' m'') (hs : ∀ j, 3 ≤ j → S 1 j) : PW S m m'' := fun o j q => by
  by_cases e : o = 1
  · subst e
    by_cases c : 3 ≤ j
    · exact absurd (hs j c) q
    · rw [f.2 j (by omega)]; exact h _ _ q
  · rw [f.1 o e]; exact h o j q
theorem PW.fm {S : Nat → Nat → Prop} {m m' m'' : Mm} (h : PW S m m') (f : FM m' m'') (hs : ∀ j, 18 ≤ j → j ≤ 21 → S 0 j) : PW S m m'' := fun o j q => by
  by_cases e : o = 0
  · subst e
    by_cases c : 18 ≤ j ∧ j ≤ 21
    · exact absurd (hs j c.1 c.2) q
    · rw [f.2 j (by omega)]; exact h _ _ q
  · rw [f.1 o e]; exact h o j q
theorem NS.f {mF mM : Mm} {B : Nat → Nat} {n a o j : Nat} {v : Int32} (h : NS mF mM B n a) (h1 : o ≠ 1) (h2 : o ≠ 2) : NS (u1 mF o j v) mM B n a := NS.mk (h.F.o h1 h2) h.M h.V h.f0
theorem QM.nl {m : Mm} {π : Pl} {X : Nat → Nat} {td : Nat} (h : QM m π X td) : m.1 2 9 = nI π.nl := h.P.nl
theorem QM.nf {m : Mm} {π : Pl} {X : Nat → Nat} {td : Nat} (h : QM m π X td) : m.1 2 10 = nI π.nf := h.P.nf
theorem QM.lname {m : Mm} {π : Pl} {X : Nat → Nat} {td : Nat} (h : QM m π X td) : ∀ l, l < π.nl → m.1 4 (10 + l) = π.lname l := h.P.lname
theorem QM.cap {m : Mm} {π : Pl} {X : Nat → Nat} {td : Nat} (h : QM m π X td) : ∀ l, l < π.nl → m.1 5 (10 + l) = nI (π.cap l) := h.P.cap
theorem QM.delay {m : Mm} {π : Pl} {X : Nat → Nat} {td : Nat} (h : QM m π X td) : ∀ l, l < π.nl → m.1 6 (10 + l) = nI (π.delay l) := h.P.delay
theorem QM.fname {m : Mm} {π : Pl} {X : Nat → Nat} {td : Nat} (h : QM m π X td) : ∀ f, f < π.nf → m.1 10 (8 + f) = π.fname f := h.P.fname
theorem QM.hops {m : Mm} {π : Pl} {X : Nat → Nat} {td : Nat} (h : QM m π X td) : ∀ f, f < π.nf → m.1 13 (8 + f) = nI (π.hops f) := h.P.hops
theorem QM.path {m : Mm} {π : Pl} {X : Nat → Nat} {td : Nat} (h : QM m π X td) : ∀ f i, f < π.nf → i < π.hops f → m.1 14 (40 + (5 * f + i)) = nI (π.path f i) := h.P.path
section NM
variable {mF mM : Mm} {B : Nat → Nat} {n a sp : Nat} {π : Pl} {X : Nat → Nat} {td pl : Nat}
theorem name2 (h : LN mF mM B n a sp π X td pl) :
    (∃ F1 M1, fX2_readName SX7 mF 3 1 = some (nI 1, F1) ∧ fX8_goOn SX8 mM 0 = some M1 ∧ TC F1 B n (tzA B n a) ∧ FT mF F1 ∧ F1.1 1 5 = nI (tzP B n a) ∧ F1.1 1 6 = nI (tzW B n a) ∧ TM M1 B n (tzA B n a) ∧ FM mM M1 ∧ M1.1 0 19 = nI (tzP B n a) ∧ M1.1 0 20 = nI 1 ∧ M1.1 0 21 = nI (tzW B n a) ∧ M1.1 0 22 = nI 0) ∨
    (∃ F1 M1 s, fX2_readName SX7 mF 3 1 = some (nI 0, fl7 F1 1 (tzP B n a)) ∧ FT mF F1 ∧ fX8_goOn SX8 mM 0 = some M1 ∧ FM mM M1 ∧ M1.1 0 19 = nI (tzP B n a) ∧ M1.1 0 20 = nI s ∧ s ≠ 1 ∧ s < 6 ∧ M1.1 0 22 = nI 0) := by
  obtain ⟨M1, g1, g2, g3, g4⟩ := e8_goOn0 h.Q.f0 h.M h.hn h.hB h.ha
  have g22 : M1.1 0 22 = nI 0 := by rw [g3.2 22 (by omega)]; exact h.Q.f0
  obtain ⟨s1, s2, s3, s4, s5, s6⟩ := srt_eq (tzK B n a) (by have := tzK_le B n a; omega)
  rcases e_readName h.F h.hn h.hB h.ha with ⟨k, F1, a1, a2, a3, a4, a5⟩ | ⟨k, F1, a1, a2⟩
  · exact Or.inl ⟨F1, M1, a1, g1, a2, a3, a4, a5, g2, g3, g4.p, by rw [g4.s, s2.mpr k], g4.w k, g22⟩
  · exact Or.inr ⟨F1, M1, srt (tzK B n a), a1, a2, g1, g3, g4.p, g4.s, fun z => k (s2.mp z), s6, g22⟩
theorem nxI_m1 {k : Nat} (h : k < 2147483648) : (nxI k = -nI 1) ↔ k = 0 := by
  cases k with
  | zero => exact ⟨fun _ => rfl, fun _ => rfl⟩
  | succ k => exact (nI_m1 (a := k) (by omega)).trans ⟨False.elim, fun z => by omega⟩
/-- a new name asked for, the class's first step and the model's whole one -/
theorem newN (h : LN mF mM B n a sp π X td pl) {c b N k : Nat} {g : Nat → Int32} (hc : SX8[c]? = some (.inl (0, N))) (hN : b + k < N) (hN2 : N < 1000) (hc2 : 2 ≤ c) (hg : ∀ i, i < k → mM.1 c (b + i) = g i) :
    (∃ F1 M2, fX2_readName SX7 mF 3 1 = some (nI 1, F1) ∧ TC F1 B n (tzA B n a) ∧ FT mF F1 ∧ F1.1 1 5 = nI (tzP B n a) ∧ F1.1 1 6 = nI (tzW B n a) ∧ fnd g (nI (tzW B n a)) k = 0 ∧ fX8_newName SX8 mM 0 c (nI b) (nI k) = some M2 ∧ NS F1 M2 B n (tzA B n a) ∧ M2.1 c (b + k) = nI (tzW B n a) ∧ (∀ o j, ¬ (o = c ∧ j = b + k) → ¬ (o = 0 ∧ 18 ≤ j ∧ j ≤ 21) → M2.1 o j = mM.1 o j)) ∨
    (∃ F1 M1, fX2_readName SX7 mF 3 1 = some (nI 1, F1) ∧ FT mF F1 ∧ F1.1 1 5 = nI (tzP B n a) ∧ F1.1 1 6 = nI (tzW B n a) ∧ fnd g (nI (tzW B n a)) k ≠ 0 ∧ fX8_newName SX8 mM 0 c (nI b) (nI k) = some (fl8 M1 3 (tzP B n a)) ∧ FM mM M1) ∨
    (∃ F1 M1, fX2_readName SX7 mF 3 1 = some (nI 0, fl7 F1 1 (tzP B n a)) ∧ FT mF F1 ∧ fX8_newName SX8 mM 0 c (nI b) (nI k) = some (fl8 M1 1 (tzP B n a)) ∧ FM mM M1) := by
  have hA := tzA_le (B := B) h.ha
  rcases name2 h with ⟨F1, M1, q1, q2, q3, q4, q5, q6, q7, q8, q9, q10, q11, q12⟩ | ⟨F1, M1, s, q1, q2, q3, q4, q5, q6, q7, q8, q9⟩
  · have hf := e8_foundIn (m := M1) (v := nI (tzW B n a)) (g := g) (b := b) (n := k) hc (by omega) (by omega) (fun i hi => by rw [q8.1 c (by omega)]; exact hg i hi)
    have hle := fnd_le g (nI (tzW B n a)) k
    have e8 : fX8_newName SX8 mM 0 c (nI b) (nI k) = if fnd g (nI (tzW B n a)) k = 0 then jX8_newName_47 SX8 M1 0 c (nI b) (nI k) else some (fl8 M1 3 (tzP B n a)) := by
      unfold fX8_newName
      simp only [L0, L1, L2, L3, L4, L5, L6, L7, L8, L9, L10, L11, L12, L13, L14, L15, L16, L17, L18, L19, L20, L21, L22, L23, L24, L25, L26, L27, L28, L29, L30, L31, L32, L33, L34, L35, L36, L37, L38, L39, L40, L41, L42, L43, L44, L45, L46, L47, L48, L50, L57, L59, L60, L63, L64, L65, L70, L80, L90, L97, L100, L110, L120, L122, L128, L150, L200, L208, L216, L224, L232, L240, L248, L255, L256, L264, L272, L280, L288, L296, L297, L300, L336, L337, L500, L680, L700, L998, L999, L1000, L1024, L1999, L6403, L9999, L10000, L12345, L99999, L1000000, L214424576, L412560384, L509804544, L639025541, L642945024, L658545824, L1103515245, L2147483647, g8_0, r8_1, r8_3, r8_4, r8_5, r8_6, r8_7, r8_8, r8_9, r8_10, r8_11, r8_12, r8_13, r8_14, r8_15, r8_26, r8_27, r8_28, r8_29, r8_30, r8_33, r8_34, r8_35, r8_36, r8_37, r8_39, r8_40, r8_41, r8_43, r8_44, r8_45, q2, bd1_e, q10, q11, q12, hf, if_true]
      by_cases z : fnd g (nI (tzW B n a)) k = 0
      · rw [if_pos ((nxI_m1 (by omega)).mpr z), if_pos z]
      · rw [if_neg (fun y => z ((nxI_m1 (by omega)).mp y)), if_neg z, e8_wrong q12 q9, bd1_e]
        unfold jX8_newName_47
        simp only [L0, L1, L2, L3, L4, L5, L6, L7, L8, L9, L10, L11, L12, L13, L14, L15, L16, L17, L18, L19, L20, L21, L22, L23, L24, L25, L26, L27, L28, L29, L30, L31, L32, L33, L34, L35, L36, L37, L38, L39, L40, L41, L42, L43, L44, L45, L46, L47, L48, L50, L57, L59, L60, L63, L64, L65, L70, L80, L90, L97, L100, L110, L120, L122, L128, L150, L200, L208, L216, L224, L232, L240, L248, L255, L256, L264, L272, L280, L288, L296, L297, L300, L336, L337, L500, L680, L700, L998, L999, L1000, L1024, L1999, L6403, L9999, L10000, L12345, L99999, L1000000, L214424576, L412560384, L509804544, L639025541, L642945024, L658545824, L1103515245, L2147483647, fl8_22]
        rw [if_neg (by decide)]
    by_cases z : fnd g (nI (tzW B n a)) k = 0
    · rw [if_pos z] at e8
      unfold jX8_newName_47 at e8
      simp (disch := omega) only [L0, L1, L2, L3, L4, L5, L6, L7, L8, L9, L10, L11, L12, L13, L14, L15, L16, L17, L18, L19, L20, L21, L22, L23, L24, L25, L26, L27, L28, L29, L30, L31, L32, L33, L34, L35, L36, L37, L38, L39, L40, L41, L42, L43, L44, L45, L46, L47, L48, L50, L57, L59, L60, L63, L64, L65, L70, L80, L90, L97, L100, L110, L120, L122, L128, L150, L200, L208, L216, L224, L232, L240, L248, L255, L256, L264, L272, L280, L288, L296, L297, L300, L336, L337, L500, L680, L700, L998, L999, L1000, L1024, L1999, L6403, L9999, L10000, L12345, L99999, L1000000, L214424576, L412560384, L509804544, L639025541, L642945024, L658545824, L1103515245, L2147483647, q12, q11, nI_add, stA_n hc, narA_0, bd1_e] at e8
      rw [if_pos trivial] at e8
      obtain ⟨M2, t1, t2, t3, t4⟩ := e8_token (m := u1 M1 c (b + k) (nI (tzW B n a))) (q7.o (by omega) (by omega)) h.hn h.hB hA.2.1
      rw [t1, bd1_e] at e8
      refine Or.inl ⟨F1, M2, q1, q3, q4, q5, q6, z, e8, NS.mk q3 t2 t4 ?_, ?_, ?_⟩
      · rw [t3.2 22 (by omega)]; exact f22 q12 (by omega)
      · rw [t3.1 c (by omega), u1_rs]
      · intro o j h1 h2
        have w : PW (fun o j => (o = c ∧ j = b + k) ∨ (o = 0 ∧ 18 ≤ j ∧ j ≤ 21)) mM M2 := ((PW.rfl.fm q8 (fun j x y => Or.inr ⟨rfl, x, y⟩)).u (Or.inl ⟨rfl, rfl⟩)).fm t3 (fun j x y => Or.inr ⟨rfl, x, y⟩)
        exact w o j (fun y => y.elim h1 h2)
    · rw [if_neg z] at e8
      exact Or.inr (Or.inl ⟨F1, M1, q1, q4, q5, q6, z, e8, q8⟩)
  · refine Or.inr (Or.inr ⟨F1, M1, q1, q2, ?_, q4⟩)
    unfold fX8_newName jX8_newName_47
    simp (disch := omega) only [L0, L1, L2, L3, L4, L5, L6, L7, L8, L9, L10, L11, L12, L13, L14, L15, L16, L17, L18, L19, L20, L21, L22, L23, L24, L25, L26, L27, L28, L29, L30, L31, L32, L33, L34, L35, L36, L37, L38, L39, L40, L41, L42, L43, L44, L45, L46, L47, L48, L50, L57, L59, L60, L63, L64, L65, L70, L80, L90, L97, L100, L110, L120, L122, L128, L150, L200, L208, L216, L224, L232, L240, L248, L255, L256, L264, L272, L280, L288, L296, L297, L300, L336, L337, L500, L680, L700, L998, L999, L1000, L1024, L1999, L6403, L9999, L10000, L12345, L99999, L1000000, L214424576, L412560384, L509804544, L639025541, L642945024, L658545824, L1103515245, L2147483647, g8_0, r8_1, r8_3, r8_4, r8_5, r8_6, r8_7, r8_8, r8_9, r8_10, r8_11, r8_12, r8_13, r8_14, r8_15, r8_26, r8_27, r8_28, r8_29, r8_30, r8_33, r8_34, r8_35, r8_36, r8_37, r8_39, r8_40, r8_41, r8_43, r8_44, r8_45, q3, bd1_e, q6, q9, nn_eq, e8_wrong q9 q5, fl8_22]
    rw [if_pos trivial, if_neg q7, if_neg (by decide)]
/-- a flow is off -/
theorem QC.off {m m' : Mm} (h : QC m sp π X td) (hsp : sp = 21 ∨ sp = 31) {f : Nat} (hf : f < 8) (w : PW (fun o j => (o = 1 ∧ 3 ≤ j) ∨ (o = 20 ∧ j = 264 + f)) m m') (hv : m'.1 20 (264 + f) = nI 0) : QC m' sp π (upN X (264 + f) 0) td := by
  have e : ∀ o, o ≠ 1 → o ≠ 20 → m'.1 o = m.1 o := fun o h1 h2 => funext (fun j => w o j (by omega))
  refine QC.mk (h.P.eq (fun o h1 h2 => e o (by omega) (by omega))) ?_ ?_ ?_ ?_ ?_ ?_
  · rw [e (sp + 7) (by omega) (by omega)]; exact h.pv
  · rw [e (sp + 8) (by omega) (by omega)]; exact h.nx
  · intro i hi
    by_cases c : i = 264 + f
    · rw [c, upN_s]; exact hv
    · rw [upN_n c, w 20 i (by omega)]; exact h.row i hi
  · rw [e 3 (by omega) (by omega)]; exact h.code
  · rw [e 3 (by omega) (by omega)]; exact h.place
  · rw [e 3 (by omega) (by omega)]; exact h.td
theorem QM.off' {m m' : Mm} (h : QM m π X td) {f : Nat} (hf : f < 8) (w : PW (fun o j => (o = 0 ∧ 18 ≤ j ∧ j ≤ 21) ∨ (o = 12 ∧ j = 8 + f)) m m') (hv : m'.1 12 (8 + f) = nI 1) (O : π.ok) : QM m' π (upN X (264 + f) 0) td := by
  have hnl := O.nl
  have hnf := O.nf
  have e : ∀ o, o ≠ 0 → o ≠ 12 → m'.1 o = m.1 o := fun o h1 h2 => funext (fun j => w o j (by omega))
  have P := h.P
  refine QM.mk (PM.mk ?_ ?_ ?_ ?_ ?_ ?_ ?_ ?_ ?_ ?_ ?_ ?_ ?_ ?_ ?_) ?_ ?_ ?_ ?_ ?_ ?_ ?_ ?_ ?_
  · rw [shM_2, e 2 (by omega) (by omega)]; exact P.nl
  · rw [shM_2, e 2 (by omega) (by omega)]; exact P.nf
  · rw [shM_o (by omega) (e 4 (by omega) (by omega)) (e 14 (by omega) (by omega))]; exact P.lname
  · rw [shM_o (by omega) (e 5 (by omega) (by omega)) (e 14 (by omega) (by omega))]; exact P.cap
  · rw [shM_o (by omega) (e 6 (by omega) (by omega)) (e 14 (by omega) (by omega))]; exact P.delay
  · rw [shM_o (by omega) (e 10 (by omega) (by omega)) (e 14 (by omega) (by omega))]; exact P.fname
  · rw [shM_o (by omega) (e 13 (by omega) (by omega)) (e 14 (by omega) (by omega))]; exact P.hops
  · rw [shM_o (by omega) (e 14 (by omega) (by omega)) (e 14 (by omega) (by omega))]; exact P.path
  · rw [shM_2, e 2 (by omega) (by omega)]; exact P.each
  · rw [shM_2, e 2 (by omega) (by omega)]; exact P.middle
  · rw [shM_2, e 2 (by omega) (by omega)]; exact P.weight
  · rw [shM_2, e 2 (by omega) (by omega)]; exact P.cells
  · rw [shM_2, e 2 (by omega) (by omega)]; exact P.ticks
  · rw [shM_2, e 2 (by omega) (by omega)]; exact P.more
  · rw [shM_2, e 2 (by omega) (by omega)]; exact P.seed
  · intro l hl; rw [e 7 (by omega) (by omega), upN_n (by omega)]; exact h.xoff l hl
  · intro l hl; rw [e 8 (by omega) (by omega), upN_n (by omega)]; exact h.xon l hl
  · intro l hl; rw [e 9 (by omega) (by omega), upN_n (by omega)]; exact h.size l hl
  · intro g hg; rw [e 11 (by omega) (by omega), upN_n (by omega)]; exact h.rate g hg
  · intro g hg
    by_cases c : g = f
    · subst c; rw [upN_s]; exact hv
    · rw [upN_n (by omega), w 12 (8 + g) (by omega)]; exact h.off g hg
  · rw [w 0 22 (by omega)]; exact h.f0
  · rw [e 3 (by omega) (by omega)]; exact h.t2
  · rw [e 3 (by omega) (by omega)]; exact h.t3
  · rw [e 3 (by omega) (by omega)]; exact h.t5
theorem QP.off (h : QP π X td) {f : Nat} (hf : f < π.nf) : QP π (upN X (264 + f) 0) td := by
  have hnl := h.O.nl
  have hnf := h.O.nf
  refine QP.mk h.O h.td h.h0 ?_ ?_ ?_ ?_ ?_
  · intro l hl; rw [upN_n (by omega), upN_n (by omega), upN_n (by omega)]; exact h.xo l hl
  · intro g hg
    obtain ⟨r1, r2, r3, r4⟩ := h.ra g hg
    rw [upN_n (by omega), upN_n (by omega)]
    refine ⟨r1, r2, r3, ?_⟩
    by_cases c : g = f
    · subst c; rw [upN_s]; omega
    · rw [upN_n (by omega)]; exact r4
  · intro l h1 h2; rw [upN_n (by omega), upN_n (by omega), upN_n (by omega)]; exact h.z1 l h1 h2
  · intro g h1 h2; rw [upN_n (by omega), upN_n (by omega), upN_n (by omega)]; exact h.z2 g h1 h2
  · intro i h1 h2; rw [upN_n (by omega)]; exact h.z3 i h1 h2
theorem e8_off92 {m : Mm} {c : Nat} {x : Int32} (h0 : 0 < c) (hc : c < 9) (h22 : m.1 0 22 = nI c) : jX8_readOff_92 SX8 m 0 x = some m := by
  unfold jX8_readOff_92
  rw [h22]
  exact if_neg (fun z => by have := (nn_eq (a := c) (b := 0) (by omega) (by omega)).mp z; omega)
theorem e8_off92' {m : Mm} {x : Int32} (h22 : m.1 0 22 = nI 0) : jX8_readOff_92 SX8 m 0 x = bd1 (stA SX8 2 m 12 (nI 8 + x) (nI 1)) fun m2 => bd1 (fX8_token SX8 m2 0) fun m3 => some m3 := by
  unfold jX8_readOff_92
  rw [h22, r8_13, ← L8, ← L1]
  exact if_pos rfl
theorem e8_off54F {m : Mm} {c : Nat} (h0 : 0 < c) (hc : c < 9) (h22 : m.1 0 22 = nI c) : jX8_readOff_54 SX8 m 0 (nI 0) = some m := by
  unfold jX8_readOff_54
  rw [if_pos (by decide), h22, if_pos (fun z => by have := (nn_eq (a := c) (b := 0) (by omega) (by omega)).mp z; omega)]
  exact e8_off92 h0 hc h22
theorem e8_off54 {m : Mm} {k pl : Nat} (hk : k < 100) (h22 : m.1 0 22 = nI 0) (h19 : m.1 0 19 = nI pl) : jX8_readOff_54 SX8 m 0 (nxI k) = if k = 0 then some (fl8 m 4 pl) else (bd1 (ldA SX8 2 m 12 (nI 8 + nxI k)) fun a4 => if a4 = nI 0 then (bd1 (stA SX8 2 m 12 (nI 8 + nxI k) (nI 1)) fun m2 => bd1 (fX8_token SX8 m2 0) fun m3 => some m3) else some (fl8 m 3 pl)) := by
  unfold jX8_readOff_54
  simp only [L0, L1, L2, L3, L4, L5, L6, L7, L8, L9, L10, L11, L12, L13, L14, L15, L16, L17, L18, L19, L20, L21, L22, L23, L24, L25, L26, L27, L28, L29, L30, L31, L32, L33, L34, L35, L36, L37, L38, L39, L40, L41, L42, L43, L44, L45, L46, L47, L48, L50, L57, L59, L60, L63, L64, L65, L70, L80, L90, L97, L100, L110, L120, L122, L128, L150, L200, L208, L216, L224, L232, L240, L248, L255, L256, L264, L272, L280, L288, L296, L297, L300, L336, L337, L500, L680, L700, L998, L999, L1000, L1024, L1999, L6403, L9999, L10000, L12345, L99999, L1000000, L214424576, L412560384, L509804544, L639025541, L642945024, L658545824, L1103515245, L2147483647, r8_13, e8_wrong h22 h19, bd1_e, e8_off92' h22, e8_off92 (m := fl8 m 4 pl) (c := 4) (by omega) (by omega) fl8_22, e8_off92 (m := fl8 m 3 pl) (c := 3) (by omega) (by omega) fl8_22]
  by_cases c : k = 0
  · rw [if_pos c, if_neg (fun z => z ((nxI_m1 (by omega)).mpr c))]
  · rw [if_neg c, if_pos (fun z => c ((nxI_m1 (by omega)).mp z)), h22, if_neg (fun z => z rfl)]
theorem e8_off25F {m : Mm} {c : Nat} (h0 : 0 < c) (hc : c < 9) (h22 : m.1 0 22 = nI c) : jX8_readOff_25 SX8 m 0 = some m := by
  unfold jX8_readOff_25
  rw [h22, if_pos (fun z => by have := (nn_eq (a := c) (b := 0) (by omega) (by omega)).mp z; omega)]
  exact e8_off54F h0 hc h22
theorem x_off (h : LN mF mM B n a sp π X td pl) : OutX B n sp a mF mM (fX2_readOff SX7 mF 3 1 sp 20) (fX8_readOff SX8 mM 0) := by
  have hnf := h.P.O.nf
  have hs := h.hsp
  have hA := tzA_le (B := B) h.ha
  rcases name2 h with ⟨F1, M1, q1, q2, q3, q4, q5, q6, q7, q8, q9, q10, q11, q12⟩ | ⟨F1, M1, s, q1, q2, q3, q4, q5, q6, q7, q8, q9⟩
  · have C1 := h.C.ft hs q4
    have Q1 := h.Q.fm q8
    have e1 := e_flowOf (v := nI (tzW B n a)) C1.P h.P.O hs
    have e2 := e8_foundIn (m := M1) (v := nI (tzW B n a)) (g := π.fname) (b := 8) (n := π.nf) s8_10 (by omega) (by omega) Q1.fname
    have hle := fnd_le π.fname (nI (tzW B n a)) π.nf
    generalize hk : fnd π.fname (nI (tzW B n a)) π.nf = k at e1 e2 hle
    have e7 : fX2_readOff SX7 mF 3 1 sp 20 = if k = 0 then some (nI 0, fl7 F1 4 (tzP B n a)) else (bd1 (ldA SX7 0 F1 20 (nI 264 + nxI k)) fun a4 => if a4 = nI 0 then some (nI 0, fl7 F1 3 (tzP B n a)) else (bd1 (stA SX7 0 F1 20 (nI 264 + nxI k) (nI 0)) fun m5 => bd2 (fX2_readSemicolon SX7 m5 3 1) fun a6 m7 => bd1 (okZ a6) fun _ => some (a6, m7))) := by
      unfold fX2_readOff
      simp (disch := omega) only [L0, L1, L2, L3, L4, L5, L6, L7, L8, L9, L10, L11, L12, L13, L14, L15, L16, L17, L18, L19, L20, L21, L22, L23, L24, L25, L26, L27, L28, L29, L30, L31, L32, L33, L34, L35, L36, L37, L38, L39, L40, L41, L42, L43, L44, L45, L46, L47, L48, L50, L57, L59, L60, L63, L64, L65, L70, L80, L90, L97, L100, L110, L120, L122, L128, L150, L200, L208, L216, L224, L232, L240, L248, L255, L256, L264, L272, L280, L288, L296, L297, L300, L336, L337, L500, L680, L700, L998, L999, L1000, L1024, L1999, L6403, L9999, L10000, L12345, L99999, L1000000, L214424576, L412560384, L509804544, L639025541, L642945024, L658545824, L1103515245, L2147483647, g7_0, g7_1, g7_3, g7_4, g7_8, g7_13, g7_16, r7_0_0, r7_0_1, r7_0_2, r7_0_3, r7_0_4, r7_0_5, r7_0_6, r7_0_7, r7_1_0, r7_4_0, r7_4_1, r7_4_2, r7_8_0, r7_8_1, r7_8_2, r7_8_3, r7_13_0, r7_13_1, r7_16_0, r7_16_1, g7_p hs, q1, bd1_e, bd2_e, q6, e1, n1ne, nxI_m1, okZ_0, e_failed q5, ite_not, if_true, if_false, not_true_eq_false, not_false_eq_true]
    have e8 : fX8_readOff SX8 mM 0 = if k = 0 then some (fl8 M1 4 (tzP B n a)) else (bd1 (ldA SX8 2 M1 12 (nI 8 + nxI k)) fun a4 => if a4 = nI 0 then (bd1 (stA SX8 2 M1 12 (nI 8 + nxI k) (nI 1)) fun m2 => bd1 (fX8_token SX8 m2 0) fun m3 => some m3) else some (fl8 M1 3 (tzP B n a))) := by
      rw [← e8_off54 (by omega) q12 q9]
      unfold fX8_readOff jX8_readOff_25
      simp (disch := omega) only [L0, L1, L2, L3, L4, L5, L6, L7, L8, L9, L10, L11, L12, L13, L14, L15, L16, L17, L18, L19, L20, L21, L22, L23, L24, L25, L26, L27, L28, L29, L30, L31, L32, L33, L34, L35, L36, L37, L38, L39, L40, L41, L42, L43, L44, L45, L46, L47, L48, L50, L57, L59, L60, L63, L64, L65, L70, L80, L90, L97, L100, L110, L120, L122, L128, L150, L200, L208, L216, L224, L232, L240, L248, L255, L256, L264, L272, L280, L288, L296, L297, L300, L336, L337, L500, L680, L700, L998, L999, L1000, L1024, L1999, L6403, L9999, L10000, L12345, L99999, L1000000, L214424576, L412560384, L509804544, L639025541, L642945024, L658545824, L1103515245, L2147483647, g8_0, r8_1, r8_3, r8_4, r8_5, r8_6, r8_7, r8_8, r8_9, r8_10, r8_11, r8_12, r8_13, r8_14, r8_15, r8_26, r8_27, r8_28, r8_29, r8_30, r8_33, r8_34, r8_35, r8_36, r8_37, r8_39, r8_40, r8_41, r8_43, r8_44, r8_45, q2, bd1_e, q10, q11, q12, e8_reading, Q1.nf, e2]
      rw [if_pos trivial, if_pos trivial, if_neg (fun z => z trivial)]
    by_cases c : k = 0
    · rw [if_pos c] at e7 e8
      exact OutX.bad (c := 4) (by omega) (by omega) e7 q4.l e8 q8.l.f fl8_22 fl8_23
    · have hX := h.P.ra (k - 1) (by omega)
      have hO := Q1.off (k - 1) (by omega)
      have hR := C1.row (264 + (k - 1)) (by omega)
      rw [if_neg c, nxI_p c, nI_add, ldA_n s7_20 (by omega) (by omega), hR, bd1_e] at e7
      rw [if_neg c, nxI_p c, nI_add, ldA_n s8_12 (by omega) (by omega), hO, bd1_e] at e8
      by_cases y : X (264 + (k - 1)) = 0
      · rw [y, if_pos rfl] at e7
        rw [y, if_neg n1ne] at e8
        exact OutX.bad (c := 3) (by omega) (by omega) e7 q4.l e8 q8.l.f fl8_22 fl8_23
      · have y1 : X (264 + (k - 1)) = 1 := by omega
        rw [y1, if_neg n1ne, stA_n s7_20 (by omega) (by omega), narA_0, bd1_e] at e7
        obtain ⟨M2, t1, t2, t3, t4⟩ := e8_token (m := u1 M1 12 (8 + (k - 1)) (nI 1)) (q7.o (by omega) (by omega)) h.hn h.hB hA.2.1
        rw [y1, if_pos rfl, stA_n s8_12 (by omega) (by omega), show narA 2 (nI 1) = nI 1 from narA_2 true, bd1_e, t1, bd1_e] at e8
        have w8 : PW (fun o j => (o = 0 ∧ 18 ≤ j ∧ j ≤ 21) ∨ (o = 12 ∧ j = 8 + (k - 1))) mM M2 := ((PW.rfl.fm q8 (fun j x y => Or.inl ⟨rfl, x, y⟩)).u (Or.inr ⟨rfl, rfl⟩)).fm t3 (fun j x y => Or.inl ⟨rfl, x, y⟩)
        have w7 : PW (fun o j => (o = 1 ∧ 3 ≤ j) ∨ (o = 20 ∧ j = 264 + (k - 1))) mF (u1 F1 20 (264 + (k - 1)) (nI 0)) := (PW.rfl.ft q4 (fun j x => Or.inl ⟨rfl, x⟩)).u (Or.inr ⟨rfl, rfl⟩)
        refine OutX.good h.hn h.hB hs hA.2.1 (by omega) (a2 := tzA B n a) e7 ?_ ?_ e8 (NS.mk (q3.o (by omega) (by omega)) t2 t4 ?_) (q4.l.u (by unfold lvC; omega)) ((q8.l.u (by unfold lvM; omega)).trans t3.l) (h.C.off hs (by omega) w7 u1_rs) (h.Q.off' (by omega) w8 ?_ h.P.O) (h.P.off (by omega)) ?_
        · intro m; rw [okZ_0, bd1_e]
        · intro m; rw [okZ_1, bd1_e]
        · rw [t3.2 22 (by omega)]; exact f22 q12 (by omega)
        · rw [t3.1 12 (by omega), u1_rs]
        · rw [t3.2 16 (by omega), u1_rn (Or.inr (by omega)), q8.2 16 (by omega)]
  · refine OutX.bad (c := 1) (pl := tzP B n a) (mF' := F1) (mM' := fl8 M1 1 (tzP B n a)) (by omega) (by omega) ?_ q2.l ?_ q4.l.f fl8_22 fl8_23
    · unfold fX2_readOff
      simp only [L0, L1, L2, L3, L4, L5, L6, L7, L8, L9, L10, L11, L12, L13, L14, L15, L16, L17, L18, L19, L20, L21, L22, L23, L24, L25, L26, L27, L28, L29, L30, L31, L32, L33, L34, L35, L36, L37, L38, L39, L40, L41, L42, L43, L44, L45, L46, L47, L48, L50, L57, L59, L60, L63, L64, L65, L70, L80, L90, L97, L100, L110, L120, L122, L128, L150, L200, L208, L216, L224, L232, L240, L248, L255, L256, L264, L272, L280, L288, L296, L297, L300, L336, L337, L500, L680, L700, L998, L999, L1000, L1024, L1999, L6403, L9999, L10000, L12345, L99999, L1000000, L214424576, L412560384, L509804544, L639025541, L642945024, L658545824, L1103515245, L2147483647, g7_0, g7_1, g7_3, g7_4, g7_8, g7_13, g7_16, r7_0_0, r7_0_1, r7_0_2, r7_0_3, r7_0_4, r7_0_5, r7_0_6, r7_0_7, r7_1_0, r7_4_0, r7_4_1, r7_4_2, r7_8_0, r7_8_1, r7_8_2, r7_8_3, r7_13_0, r7_13_1, r7_16_0, r7_16_1, g7_p hs, q1, bd2_e, okZ_0, bd1_e, if_true, if_false, not_true_eq_false, not_false_eq_true]
    · have ns : ¬ nI s = nI 1 := fun z => q7 ((nn_eq (by omega) (by omega)).mp z)
      unfold fX8_readOff
      simp only [L0, L1, L2, L3, L4, L5, L6, L7, L8, L9, L10, L11, L12, L13, L14, L15, L16, L17, L18, L19, L20, L21, L22, L23, L24, L25, L26, L27, L28, L29, L30, L31, L32, L33, L34, L35, L36, L37, L38, L39, L40, L41, L42, L43, L44, L45, L46, L47, L48, L50, L57, L59, L60, L63, L64, L65, L70, L80, L90, L97, L100, L110, L120, L122, L128, L150, L200, L208, L216, L224, L232, L240, L248, L255, L256, L264, L272, L280, L288, L296, L297, L300, L336, L337, L500, L680, L700, L998, L999, L1000, L1024, L1999, L6403, L9999, L10000, L12345, L99999, L1000000, L214424576, L412560384, L509804544, L639025541, L642945024, L658545824, L1103515245, L2147483647, g8_0, r8_1, r8_3, r8_4, r8_5, r8_6, r8_7, r8_8, r8_9, r8_10, r8_11, r8_12, r8_13, r8_14, r8_15, r8_26, r8_27, r8_28, r8_29, r8_30, r8_33, r8_34, r8_35, r8_36, r8_37, r8_39, r8_40, r8_41, r8_43, r8_44, r8_45, q3, bd1_e, q6, q9, e8_wrong q9 q5, e8_off25F (m := fl8 M1 1 (tzP B n a)) (c := 1) (by omega) (by omega) fl8_22]
      rw [if_pos trivial, if_neg ns]
end NM
