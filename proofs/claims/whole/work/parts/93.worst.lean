/-! ===== which flow is best left out, the least size ===== -/
theorem stN_dl {π : Pl} (O : π.ok) {X : Nat → Nat} (h : K2 π X) {g : Nat} (hg : g < 8) (n : Nat) : X (240 + g) ≤ stN π X n (240 + g) := by
  induction n with
  | zero => exact Nat.le_refl _
  | succ n ih => rw [stN_s]; exact Nat.le_trans ih (stepA_dl O (h.N O n).1.1.1 hg).1
theorem sm_less {n f : Nat} {X Y : Nat → Nat} (hf : f < n) (h : ∀ g, g < n → X g ≤ Y g) : sm n X + Y f ≤ sm n Y + X f := by
  have h1 := sm_upd (n := n) (f := Y) (k := f) (v := X f) hf
  have h2 : sm n X ≤ sm n (fun j => if j = f then X f else Y j) := sm_mono (fun g hg => by
    by_cases e : g = f
    · rw [if_pos e, e]; exact Nat.le_refl _
    · rw [if_neg e]; exact h g hg)
  omega
/-- what the others deliver -/
noncomputable def dvW (π : Pl) (X : Nat → Nat) (n f : Nat) : Nat := sm π.nf (fun g => stN π (upN X (264 + f) 0) n (240 + g)) + X (240 + f) - sm π.nf (fun g => X (240 + g)) - stN π (upN X (264 + f) 0) n (240 + f)
theorem sm_b {n b : Nat} {X : Nat → Nat} (h : ∀ g, g < n → X g ≤ b) : sm n X ≤ n * b := by
  induction n with
  | zero => rw [Nat.zero_mul]; exact Nat.le_refl _
  | succ n ih => rw [sm_s, Nat.succ_mul]; have := ih (fun g hg => h g (by omega)); have := h n (by omega); omega
/-- bounds for what is summed -/
theorem dvW_b {π : Pl} (O : π.ok) {X : Nat → Nat} (h : K2 π X) (ht : X 296 ≤ 9999) {n f : Nat} (hf : f < π.nf) (hn : n ≤ 40) : sm π.nf (fun g => X (240 + g)) ≤ sm π.nf (fun g => stN π (upN X (264 + f) 0) n (240 + g)) ∧ X (240 + f) ≤ stN π (upN X (264 + f) 0) n (240 + f) ∧ sm π.nf (fun g => X (240 + g)) + stN π (upN X (264 + f) 0) n (240 + f) ≤ sm π.nf (fun g => stN π (upN X (264 + f) 0) n (240 + g)) + X (240 + f) ∧ sm π.nf (fun g => stN π (upN X (264 + f) 0) n (240 + g)) ≤ 60000000 ∧ X (240 + f) ≤ sm π.nf (fun g => X (240 + g)) ∧ stN π (upN X (264 + f) 0) n (240 + f) ≤ sm π.nf (fun g => stN π (upN X (264 + f) 0) n (240 + g)) := by
  have hnf := O.nf
  have hQ : K2 π (upN X (264 + f) 0) := h.set O (by omega)
  have hm : ∀ g, g < π.nf → X (240 + g) ≤ stN π (upN X (264 + f) 0) n (240 + g) := fun g hg => by
    have := stN_dl O hQ (g := g) (by omega) n
    rw [upN_n (by omega)] at this
    exact this
  have hKn := hQ.N O n
  rw [upN_n (by omega)] at hKn
  have hb : ∀ g, g < π.nf → stN π (upN X (264 + f) 0) n (240 + g) ≤ 7000000 := fun g hg => by
    have := (hKn.1.1.2 g (by omega)).2.2
    rw [hKn.2] at this
    omega
  have h8 := sm_b (n := π.nf) (b := 7000000) (X := fun g => stN π (upN X (264 + f) 0) n (240 + g)) hb
  have h9 : π.nf * 7000000 ≤ 8 * 7000000 := Nat.mul_le_mul_right _ hnf
  refine ⟨sm_mono hm, hm f hf, sm_less (X := fun g => X (240 + g)) (Y := fun g => stN π (upN X (264 + f) 0) n (240 + g)) hf hm, by omega, sm_le (f := fun g => X (240 + g)) hf, sm_le (f := fun g => stN π (upN X (264 + f) 0) n (240 + g)) hf⟩
theorem e_without {m0 m : Mm} {π : Pl} {X : Nat → Nat} {U : List (Nat → Nat)} {I : Option (Nat → Nat)} {p top tl : Nat} {B : Nat → Nat} {fc fp : Int32} {n f : Nat} (hF : SF m π X U I p top tl B fc fp) (hK : SK π X U I tl B) (hf : f < π.nf) (hn : n ≤ 40) (e : ∀ o, core p o → m.1 o = m0.1 o) : ∃ m', fX7_deliveredWithout SX7 m 0 (nI f) (nI n) = some (nI (dvW π X n f), m') ∧ ∀ o, core p o → m'.1 o = m0.1 o := by
  have O := hK.O
  have hnf := O.nf
  have hp := hF.hp
  have ht := hK.t
  obtain ⟨m1, a1, T1⟩ := e_start hF
  have hQ : K2 π (upN X (264 + f) 0) := hK.K.set O (by omega)
  have T2 := T1.st (Or.inr rfl) hp (i := 264 + f) (v := 0) (by omega)
  obtain ⟨m3, b1, b2⟩ := T2.run (n := n) O (Or.inr rfl) hp hQ (by rw [upN_n (by omega)]; omega) (by omega)
  obtain ⟨q1, q2, q3, q4, q5, q6⟩ := dvW_b O hK.K ht hf hn
  have e19 : ∀ i, i < 297 → m3.1 19 i = nI (X i) := fun i hi => by rw [b2.F.2 19 (by unfold PT; omega)]; exact hF.C.row i hi
  have s1 : fX7_sum SX7 m3 20 (nI 240) (nI π.nf) = some (nI (sm π.nf (fun i => stN π (upN X (264 + f) 0) n (240 + i)))) := e_sum (fun i hi => b2.C.row _ (by omega)) s7_20 (by omega) (by omega)
  have s2 : fX7_sum SX7 m3 19 (nI 240) (nI π.nf) = some (nI (sm π.nf (fun i => X (240 + i)))) := e_sum (fun i hi => e19 _ (by omega)) s7_19 (by omega) (by omega)
  unfold fX7_deliveredWithout fX7_grown
  simp (disch := omega) only [L0, L1, L2, L3, L4, L5, L6, L7, L8, L9, L10, L11, L12, L13, L14, L15, L16, L17, L18, L19, L20, L21, L22, L23, L24, L25, L26, L27, L28, L29, L30, L31, L32, L33, L34, L35, L36, L37, L38, L39, L40, L41, L42, L43, L44, L45, L46, L47, L48, L50, L57, L59, L60, L63, L64, L65, L70, L80, L90, L97, L100, L110, L120, L122, L128, L150, L200, L208, L216, L224, L232, L240, L248, L255, L256, L264, L272, L280, L288, L296, L297, L300, L336, L337, L500, L680, L700, L998, L999, L1000, L1024, L1999, L6403, L9999, L10000, L12345, L99999, L1000000, L214424576, L412560384, L509804544, L639025541, L642945024, L658545824, L1103515245, L2147483647, g7_0, r7_0_6, r7_0_7, a1, bd1_e, nI_add, stA_n s7_20, narA_0, b1, rf8 b2.pl hp, g7_p hp, b2.P.nf, s1, s2, ldA_n s7_20, b2.C.row, ldA_n s7_19, e19, pk_sub]
  refine ⟨m3, ?_, fun o ho => by rw [b2.cor hp o ho]; exact e o ho⟩
  have ed : sm π.nf (fun i => stN π (upN X (264 + f) 0) n (240 + i)) - sm π.nf (fun i => X (240 + i)) - (stN π (upN X (264 + f) 0) n (240 + f) - X (240 + f)) = dvW π X n f := by unfold dvW; omega
  rw [ed]
/-- the best of the first, and how much -/
noncomputable def wst (π : Pl) (X : Nat → Nat) (n : Nat) : Nat → Option (Nat × Nat)
  | 0 => none
  | k + 1 => if X (264 + k) = 1 then (match wst π X n k with
    | none => some (k, dvW π X n k)
    | some q => if dvW π X n k ≤ q.2 then some q else some (k, dvW π X n k)) else wst π X n k
def wF : Option (Nat × Nat) → Int32 × Int32
  | none => (-nI 2, -nI 1)
  | some q => (nI q.1, nI q.2)
def wM : Option (Nat × Nat) → Int32 × Int32
  | none => (-nI 2, nI 0)
  | some q => (nI q.1, nI q.2)
theorem wst_s (π : Pl) (X : Nat → Nat) (n k : Nat) : wst π X n (k + 1) = if X (264 + k) = 1 then (match wst π X n k with
    | none => some (k, dvW π X n k)
    | some q => if dvW π X n k ≤ q.2 then some q else some (k, dvW π X n k)) else wst π X n k := rfl
theorem wst_b {π : Pl} {X : Nat → Nat} {n : Nat} {k : Nat} (hb : ∀ f, f < k → dvW π X n f ≤ 100000000) {q : Nat × Nat} (h : wst π X n k = some q) : q.1 < k ∧ q.2 ≤ 100000000 := by
  induction k generalizing q with
  | zero => cases h
  | succ k ih =>
    have ih := fun {q} => ih (q := q) (fun f hf => hb f (by omega))
    rw [wst_s] at h
    by_cases c : X (264 + k) = 1
    · rw [if_pos c] at h
      cases hw : wst π X n k with
      | none =>
        rw [hw] at h
        cases h
        exact ⟨by show k < k + 1; omega, hb k (by omega)⟩
      | some r =>
        rw [hw] at h
        have := ih hw
        dsimp only at h
        by_cases c2 : dvW π X n k ≤ r.2
        · rw [if_pos c2] at h
          cases h
          exact ⟨by omega, this.2⟩
        · rw [if_neg c2] at h
          cases h
          exact ⟨by show k < k + 1; omega, hb k (by omega)⟩
    · rw [if_neg c] at h
      have := ih h
      exact ⟨by omega, this.2⟩
theorem neg1_le {d : Nat} (hd : d < 2147483648) : ¬ nI d ≤ -nI 1 := by
  intro c
  have c1 := Int32.le_iff_toInt_le.mp c
  have z : (-nI 1 : Int32).toInt = -1 := by decide
  have := nI_toInt (n := d) (by omega)
  omega
section AS2
variable {m m2 m3 : Mm} {π : Pl} {X Y : Nat → Nat} {U : List (Nat → Nat)} {I : Option (Nat → Nat)} {tl : Nat} {B : Nat → Nat} {fc fp : Int32}
theorem SM.aside {c : Nat} (h : SM m π X U I tl B fc fp) (hc : c = 16 ∨ c = 17) (e : fX8_copies SX8 m 15 (nI 0) c (nI 0) = some m2) : SM m2 π X U I tl B fc fp := by
  have hS : SX8[c]? = some (.inl (0, 337)) := by rcases hc with rfl | rfl <;> rfl
  obtain ⟨m', g1, g2, g3, g4⟩ := e8_copies (m := m) (a := 15) (i := 0) (b := c) (k := 0) s8_15 hS (by omega) (by omega) (by omega) (by omega) (by omega)
  rw [g1] at e
  cases e
  exact h.scr (fun o ho => g4.2 o (by unfold coreM at ho; omega)) (fun j _ => by rw [g4.2 0 (by omega)])
theorem SM.tx (h : SM m π X U I tl B fc fp) (T : TX m m3) (R : RM m3 Y) : SM m3 π Y U I tl B fc fp := by
  have e := T.1
  have e0 := T.2
  unfold coreJ at e0
  exact SM.mk (T.P h.P) R (by rw [e0 31 (by omega)]; exact h.und) (by rw [e 19 (by omega) (by omega) (by omega) (by omega)]; exact h.rows) (by rw [e0 32 (by omega)]; exact h.him) (by rw [e 18 (by omega) (by omega) (by omega) (by omega)]; exact h.im) (by rw [e0 2 (by omega)]; exact h.len) (by rw [e 1 (by omega) (by omega) (by omega) (by omega)]; exact h.by) (by rw [e0 24 (by omega)]; exact h.lf) (by rw [e0 25 (by omega)]; exact h.lp)
end AS2
/-- what lies behind the row has no part in what is delivered -/
theorem run_cg {m : Mm} {π : Pl} {X X' : Nat → Nat} {n : Nat} (R : RM m X) (R' : RM m X') (P : PM m π) (O : π.ok) (hK : K2 π X) (hK' : K2 π X') (ht : X 296 ≤ 9999) (ht' : X' 296 ≤ 9999) (hn : n ≤ 40) : ∀ g, g < 8 → stN π X n (240 + g) = stN π X' n (240 + g) := by
  intro g hg
  have hb : ∀ k m1, (fun s5 : Int32 × Mm => bX8_tick_43 SX8 0 (nI n) s5.1 s5.2) (nI k, m1) = if nI n ≤ nI k then some (.inr m1) else bd1 (fX8_tickGoes SX8 m1 0) fun m2 => some (.inl (nI k + nI 1, m2)) := fun k m1 => by dsimp only; unfold bX8_tick_43; simp only [L0, L1, L2, L3, L4, L5, L6, L7, L8, L9, L10, L11, L12, L13, L14, L15, L16, L17, L18, L19, L20, L21, L22, L23, L24, L25, L26, L27, L28, L29, L30, L31, L32, L33, L34, L35, L36, L37, L38, L39, L40, L41, L42, L43, L44, L45, L46, L47, L48, L50, L57, L59, L60, L63, L64, L65, L70, L80, L90, L97, L100, L110, L120, L122, L128, L150, L200, L208, L216, L224, L232, L240, L248, L255, L256, L264, L272, L280, L288, L296, L297, L300, L336, L337, L500, L680, L700, L998, L999, L1000, L1024, L1999, L6403, L9999, L10000, L12345, L99999, L1000000, L214424576, L412560384, L509804544, L639025541, L642945024, L658545824, L1103515245, L2147483647]
  obtain ⟨m1, a1, a2, _⟩ := e8_runs (b := fun s5 : Int32 × Mm => bX8_tick_43 SX8 0 (nI n) s5.1 s5.2) R P O hK (by omega) (show n ≤ 400 by omega) hb
  obtain ⟨m2, b1, b2, _⟩ := e8_runs (b := fun s5 : Int32 × Mm => bX8_tick_43 SX8 0 (nI n) s5.1 s5.2) R' P O hK' (by omega) (show n ≤ 400 by omega) hb
  rw [a1] at b1
  cases b1
  have h1 := a2.deliv g hg
  have h2 := b2.deliv g hg
  rw [h1] at h2
  have q1 := ((hK.N O n).1.1.2 g hg).2.2
  have q2 := ((hK'.N O n).1.1.2 g hg).2.2
  rw [(hK.N O n).2] at q1
  rw [(hK'.N O n).2] at q2
  exact (nn_eq (by omega) (by omega)).mp h2
theorem dvW_cg {m : Mm} {π : Pl} {X X' : Nat → Nat} {n f : Nat} (R : RM m X) (P : PM m π) (O : π.ok) (hK : K2 π X) (ht : X 296 ≤ 9999) (hn : n ≤ 40) (hf : f < π.nf) (e : ∀ i, i < 297 → X' i = X i) : dvW π X' n f = dvW π X n f := by
  have hnf := O.nf
  have hK' := hK.same O e
  have e2 : ∀ i, i < 297 → upN X (264 + f) 0 i = upN X' (264 + f) 0 i := fun i hi => by
    by_cases c : i = 264 + f
    · rw [c, upN_s, upN_s]
    · rw [upN_n c, upN_n c, e i hi]
  have R1 := R.st_on (f := f) 0 (by omega)
  have R2 := R1.congr (Y := upN X' (264 + f) 0) (fun i hi _ => e2 i hi)
  have P1 : PM (u1 m 15 (240 + 12 * f + 7) (nI 0)) π := P.fr (P := fun o => o = 15) (Fr.u1 rfl) (fun o ho => by omega)
  have key := run_cg (n := n) R2 R1 P1 O (hK'.set O (by omega)) (hK.set O (by omega)) (by rw [upN_n (by omega), e _ (by omega)]; exact ht) (by rw [upN_n (by omega)]; exact ht) hn
  unfold dvW
  rw [sm_congr (fun g hg => key g (by omega)), sm_congr (fun g hg => e (240 + g) (by omega)), key f (by omega), e _ (by omega)]
theorem sim_worst {mF mM : Mm} (S : Sim mF mM) (a : Int32) : SimC (fX7_worst SX7 mF 0 a) (fX8_worst SX8 mM 0 a) := by
  obtain ⟨π, X, U, I, p, top, tl, B, fc, fp, hF, hM0, hK⟩ := S
  have hM := hM0.thr (v := nI 0)
  have hp := hF.hp
  have ht := hK.t
  have hnf := hK.O.nf
  have O := hK.O
  have S' : Sim mF (u1 mM 0 0 (nI 0)) := ⟨π, X, U, I, p, top, tl, B, fc, fp, hF, hM, hK⟩
  unfold SimC fX7_worst jX7_worst_11 fX8_worst jX8_worst_16
  simp only [L0, L1, L2, L3, L4, L5, L6, L7, L8, L9, L10, L11, L12, L13, L14, L15, L16, L17, L18, L19, L20, L21, L22, L23, L24, L25, L26, L27, L28, L29, L30, L31, L32, L33, L34, L35, L36, L37, L38, L39, L40, L41, L42, L43, L44, L45, L46, L47, L48, L50, L57, L59, L60, L63, L64, L65, L70, L80, L90, L97, L100, L110, L120, L122, L128, L150, L200, L208, L216, L224, L232, L240, L248, L255, L256, L264, L272, L280, L288, L296, L297, L300, L336, L337, L500, L680, L700, L998, L999, L1000, L1024, L1999, L6403, L9999, L10000, L12345, L99999, L1000000, L214424576, L412560384, L509804544, L639025541, L642945024, L658545824, L1103515245, L2147483647, g8_0, r8_1, r8_3, r8_4, r8_5, r8_6, r8_7, r8_8, r8_9, r8_10, r8_11, r8_12, r8_13, r8_14, r8_15, r8_26, r8_27, r8_28, r8_29, r8_30, r8_33, r8_34, r8_35, r8_36, r8_37, r8_39, r8_40, r8_41, r8_43, r8_44, r8_45, g7_0, bd1_e]
  by_cases h1 : a < nI 1
  · simp only [if_pos h1]
    exact ⟨_, _, _, rfl, rfl, S'⟩
  · obtain ⟨n, rfl, hn1, hn2⟩ := ge1 h1
    simp only [if_neg h1]
    by_cases h2 : nI n ≤ nI 40
    · have hn3 := (nn_le hn2 (by omega)).mp h2
      simp only [if_pos h2]
      have hdb : ∀ f, f < π.nf → dvW π X n f ≤ 100000000 := fun f hf => by
        obtain ⟨_, _, _, q4, q5, _⟩ := dvW_b O hK.K ht hf hn3
        unfold dvW
        omega
      obtain ⟨y, c1, c2, c3⟩ := lp_n (b := fun s5 : Int32 × Int32 × Int32 × Mm => bX7_worst_21 SX7 0 (nI n) s5.1 s5.2.1 s5.2.2.1 s5.2.2.2) (N := fu) (s0 := (-nI 2, -nI 1, nI 0, mF))
        (fun k s => s.1 = (wF (wst π X n k)).1 ∧ s.2.1 = (wF (wst π X n k)).2 ∧ s.2.2.1 = nI k ∧ ∀ o, core p o → s.2.2.2.1 o = mF.1 o)
        (fun y => y.1 = (wF (wst π X n π.nf)).1 ∧ ∀ o, core p o → y.2.1 o = mF.1 o)
        π.nf ⟨rfl, rfl, rfl, fun _ _ => rfl⟩ (by unfold fu; omega)
        (by
          rintro k ⟨w, d, i, m1⟩ hk ⟨e1, e2, e3, hc⟩
          dsimp only at e1 e2 e3 hc ⊢
          subst e1 e2 e3
          obtain ⟨X', hX', C'⟩ := CF.ex hF.C (hc 19 (Or.inr (Or.inl (by omega))))
          have hF1 := hF.scr hc C'
          have hK1 := hK.cg hX'
          have hon := hK.K.1.1.on k (by omega)
          have ewd : dvW π X' n k = dvW π X n k := dvW_cg hM.R hM.P O hK.K ht hn3 hk hX'
          obtain ⟨m2, d1, d2⟩ := e_without hF1 hK1 hk hn3 hc
          rw [ewd] at d1
          have hdk := hdb k hk
          refine Or.inl ?_
          unfold bX7_worst_21 jX7_worst_69
          simp (disch := omega) only [L0, L1, L2, L3, L4, L5, L6, L7, L8, L9, L10, L11, L12, L13, L14, L15, L16, L17, L18, L19, L20, L21, L22, L23, L24, L25, L26, L27, L28, L29, L30, L31, L32, L33, L34, L35, L36, L37, L38, L39, L40, L41, L42, L43, L44, L45, L46, L47, L48, L50, L57, L59, L60, L63, L64, L65, L70, L80, L90, L97, L100, L110, L120, L122, L128, L150, L200, L208, L216, L224, L232, L240, L248, L255, L256, L264, L272, L280, L288, L296, L297, L300, L336, L337, L500, L680, L700, L998, L999, L1000, L1024, L1999, L6403, L9999, L10000, L12345, L99999, L1000000, L214424576, L412560384, L509804544, L639025541, L642945024, L658545824, L1103515245, L2147483647, r7_0_6, hF1.r8, g7_p hp, hF1.P.nf, nn_le, nI_add, ldA_n s7_19, hF1.C.row, hX', bd1_e, nn_eq, d1, bd2_e]
          rw [if_neg (by omega), wst_s]
          by_cases c : X (264 + k) = 1
          · rw [if_neg (fun z => z c), if_pos c]
            cases hw : wst π X n k with
            | none =>
              show ∃ s', (if nI (dvW π X n k) ≤ -nI 1 then _ else _) = _ ∧ _
              rw [if_neg (neg1_le (by omega))]
              exact ⟨_, rfl, rfl, rfl, rfl, d2⟩
            | some q =>
              have hq := wst_b (fun f hf => hdb f (by omega)) hw
              show ∃ s', (if nI (dvW π X n k) ≤ nI q.2 then _ else _) = _ ∧ _
              by_cases c2 : dvW π X n k ≤ q.2
              · rw [if_pos ((nn_le (by omega) (by omega)).mpr c2)]
                exact ⟨_, rfl, by simp only [if_pos c2], by simp only [if_pos c2], rfl, d2⟩
              · rw [if_neg (fun z => c2 ((nn_le (by omega) (by omega)).mp z))]
                exact ⟨_, rfl, by simp only [if_neg c2]; rfl, by simp only [if_neg c2]; rfl, rfl, d2⟩
          · rw [if_pos c, if_neg c]
            exact ⟨_, rfl, rfl, rfl, rfl, hc⟩)
        (by
          rintro ⟨w, d, i, m1⟩ ⟨e1, e2, e3, hc⟩
          dsimp only at e1 e2 e3 hc ⊢
          subst e1 e2 e3
          obtain ⟨X', hX', C'⟩ := CF.ex hF.C (hc 19 (Or.inr (Or.inl (by omega))))
          have hF1 := hF.scr hc C'
          unfold bX7_worst_21
          simp (disch := omega) only [hF1.r8, g7_p hp, hF1.P.nf, nn_le]
          rw [if_pos (by omega)]
          exact ⟨_, rfl, rfl, hc⟩)
      obtain ⟨m2, b1, b2, b3, b4⟩ := e8_aside 16 (Or.inl rfl) hM
      have hM2 := hM.aside (Or.inl rfl) b1
      obtain ⟨y8, d1, d2, d3, d4⟩ := lp_n (b := fun s17 : Int32 × Int32 × Int32 × Mm => bX8_worst_39 SX8 0 (nI n) s17.1 s17.2.1 s17.2.2.1 s17.2.2.2) (N := fu) (s0 := (-nI 2, nI 0, nI 0, m2))
        (fun k s => s.1 = (wM (wst π X n k)).1 ∧ s.2.1 = (wM (wst π X n k)).2 ∧ s.2.2.1 = nI k ∧ RM s.2.2.2 X ∧ TX m2 s.2.2.2)
        (fun y => y.1 = (wM (wst π X n π.nf)).1 ∧ RM y.2 X ∧ TX m2 y.2)
        π.nf ⟨rfl, rfl, rfl, b2, TX.rfl⟩ (by unfold fu; omega)
        (by
          rintro k ⟨w, d, i, m3⟩ hk ⟨e1, e2, e3, R, T⟩
          dsimp only at e1 e2 e3 R T ⊢
          subst e1 e2 e3
          have P3 := T.P b3
          have hk8 : k < 8 := by omega
          have hon := hK.K.1.1.on k hk8
          obtain ⟨q1, q2, q3, q4, q5, q6⟩ := dvW_b O hK.K ht hk hn3
          have hdk := hdb k hk
          have s1 := e8_sumOf (w := 5) (g := fun f => X (240 + f)) P3 O (by omega) (fun f hf => R.deliv f (by omega))
          have R4 := R.st_on (f := k) 0 hk8
          have T4 := T.u15 (i := 240 + 12 * k + 7) (v := nI 0)
          have hQ : K2 π (upN X (264 + k) 0) := hK.K.set O (by omega)
          obtain ⟨m5, r1, r2, r3⟩ := e8_runs (b := fun s11 : Int32 × Mm => bX8_worst_97 SX8 0 (nI n) (wM (wst π X n k)).1 (wM (wst π X n k)).2 (nI k) (nI (sm π.nf (fun f => X (240 + f)) - X (240 + k))) s11.1 s11.2) R4 (T4.P b3) O hQ (by rw [upN_n (by omega)]; omega) (show n ≤ 400 by omega) (fun k m1 => by dsimp only; unfold bX8_worst_97; simp only [L0, L1, L2, L3, L4, L5, L6, L7, L8, L9, L10, L11, L12, L13, L14, L15, L16, L17, L18, L19, L20, L21, L22, L23, L24, L25, L26, L27, L28, L29, L30, L31, L32, L33, L34, L35, L36, L37, L38, L39, L40, L41, L42, L43, L44, L45, L46, L47, L48, L50, L57, L59, L60, L63, L64, L65, L70, L80, L90, L97, L100, L110, L120, L122, L128, L150, L200, L208, L216, L224, L232, L240, L248, L255, L256, L264, L272, L280, L288, L296, L297, L300, L336, L337, L500, L680, L700, L998, L999, L1000, L1024, L1999, L6403, L9999, L10000, L12345, L99999, L1000000, L214424576, L412560384, L509804544, L639025541, L642945024, L658545824, L1103515245, L2147483647])
          have T5 := T4.trans r3.X
          have s2 := e8_sumOf (w := 5) (g := fun f => stN π (upN X (264 + k) 0) n (240 + f)) (T5.P b3) O (by omega) (fun f hf => r2.deliv f (by omega))
          obtain ⟨m6, k1, _, k3, k4⟩ := b4 m5 T5
          have ed : sm π.nf (fun f => stN π (upN X (264 + k) 0) n (240 + f)) - stN π (upN X (264 + k) 0) n (240 + k) - (sm π.nf (fun f => X (240 + f)) - X (240 + k)) = dvW π X n k := by unfold dvW; omega
          refine Or.inl ?_
          unfold bX8_worst_39 jX8_worst_164 jX8_worst_170
          simp (disch := omega) only [L0, L1, L2, L3, L4, L5, L6, L7, L8, L9, L10, L11, L12, L13, L14, L15, L16, L17, L18, L19, L20, L21, L22, L23, L24, L25, L26, L27, L28, L29, L30, L31, L32, L33, L34, L35, L36, L37, L38, L39, L40, L41, L42, L43, L44, L45, L46, L47, L48, L50, L57, L59, L60, L63, L64, L65, L70, L80, L90, L97, L100, L110, L120, L122, L128, L150, L200, L208, L216, L224, L232, L240, L248, L255, L256, L264, L272, L280, L288, L296, L297, L300, L336, L337, L500, L680, L700, L998, L999, L1000, L1024, L1999, L6403, L9999, L10000, L12345, L99999, L1000000, L214424576, L412560384, L509804544, L639025541, L642945024, L658545824, L1103515245, L2147483647, g8_0, r8_1, r8_3, r8_4, r8_5, r8_6, r8_7, r8_8, r8_9, r8_10, r8_11, r8_12, r8_13, r8_14, r8_15, r8_26, r8_27, r8_28, r8_29, r8_30, r8_33, r8_34, r8_35, r8_36, r8_37, r8_39, r8_40, r8_41, r8_43, r8_44, r8_45, e8_flows P3, bd1_e, nn_le, e8_isOn R hk8 hon, nn_eq, s1, e8_flowAt, nI_add, ldA_n s8_15, R.deliv k hk8, stA_n s8_15, narA_0, pk_sub, r1, s2, r2.deliv k hk8, k1, ed]
          rw [if_neg (by omega), wst_s]
          by_cases c : X (264 + k) = 1
          · rw [if_pos (by omega), if_pos c]
            cases hw : wst π X n k with
            | none =>
              show ∃ s', (if (-nI 2 : Int32) = -nI 2 then _ else _) = _ ∧ _
              rw [if_pos rfl]
              exact ⟨_, rfl, rfl, rfl, rfl, k3, k4⟩
            | some q =>
              have hq := wst_b (fun f hf => hdb f (by omega)) hw
              show ∃ s', (if nI q.1 = -nI 2 then _ else if nI q.2 < nI (dvW π X n k) then _ else _) = _ ∧ _
              rw [if_neg (by rw [nI_m2 (by omega)]; exact not_false)]
              by_cases c2 : dvW π X n k ≤ q.2
              · rw [if_neg (fun z => by have := (nn_lt (by omega) (by omega)).mp z; omega)]
                exact ⟨_, rfl, by simp only [if_pos c2], by simp only [if_pos c2], rfl, k3, k4⟩
              · rw [if_pos ((nn_lt (by omega) (by omega)).mpr (by omega))]
                exact ⟨_, rfl, by simp only [if_neg c2]; rfl, by simp only [if_neg c2]; rfl, rfl, k3, k4⟩
          · rw [if_neg (by omega), if_neg c]
            exact ⟨_, rfl, rfl, rfl, rfl, R, T⟩)
        (by
          rintro ⟨w, d, i, m3⟩ ⟨e1, e2, e3, R, T⟩
          dsimp only at e1 e2 e3 R T ⊢
          subst e1 e2 e3
          unfold bX8_worst_39
          simp (disch := omega) only [e8_flows (T.P b3), bd1_e, nn_le]
          rw [if_pos (by omega)]
          exact ⟨_, rfl, rfl, R, T⟩)
      have Sf : Sim y.2 y8.2 := Sim.of hF (hM2.tx d4 d3) hK c3 (fun _ _ => rfl) (fun _ _ => rfl)
      have ew : ∀ o, (wF o).1 = (wM o).1 := fun o => by cases o <;> rfl
      simp only [c1, b1, d1, bd1_e, c2, d2, ew]
      exact ⟨_, _, _, rfl, rfl, Sf⟩
    · simp only [if_neg h2]
      exact ⟨_, _, _, rfl, rfl, S'⟩
