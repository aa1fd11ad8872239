/-! ===== looking ahead ===== -/
noncomputable def stN (π : Pl) (X : Nat → Nat) (n : Nat) : Nat → Nat := it n (fun _ => stepA π) X
theorem stN_s (π : Pl) (X : Nat → Nat) (n : Nat) : stN π X (n + 1) = stepA π (stN π X n) := rfl
theorem K2.N {π : Pl} (O : π.ok) {X : Nat → Nat} (h : K2 π X) (n : Nat) : K2 π (stN π X n) ∧ stN π X n 296 = X 296 + n := by
  induction n with
  | zero => exact ⟨h, rfl⟩
  | succ n ih => rw [stN_s]; exact ⟨ih.1.step O, by rw [stepA_t O, ih.2]; rfl⟩
theorem rf8 {m : Mm} {p : Nat} (h : m.1 0 8 = nI p) (hp : p = 21 ∨ p = 31) : rf SX7 m 0 8 = p := by
  rw [rf_dyn (ci := 7) (rs := [2, 4, 5, 9, 14, 17, 20, 21, 0, 0, 0, 0]) rfl rfl, h, nI_clamp (by omega)]
/-- the class's run: its state between ticks -/
def TR (m0 m : Mm) (x : Nat) (p : Nat) (π : Pl) (Y : Nat → Nat) : Prop := (CF m x Y) ∧ (PF m p π) ∧ (m.1 0 8 = nI p) ∧ (Fr (PT x) m0 m)
theorem TR.mk {m0 m : Mm} {x : Nat} {p : Nat} {π : Pl} {Y : Nat → Nat} (h_C : CF m x Y) (h_P : PF m p π) (h_pl : m.1 0 8 = nI p) (h_F : Fr (PT x) m0 m) : TR m0 m x p π Y := ⟨h_C, h_P, h_pl, h_F⟩
theorem TR.C {m0 m : Mm} {x : Nat} {p : Nat} {π : Pl} {Y : Nat → Nat} (h : TR m0 m x p π Y) : CF m x Y := h.1
theorem TR.P {m0 m : Mm} {x : Nat} {p : Nat} {π : Pl} {Y : Nat → Nat} (h : TR m0 m x p π Y) : PF m p π := h.2.1
theorem TR.pl {m0 m : Mm} {x : Nat} {p : Nat} {π : Pl} {Y : Nat → Nat} (h : TR m0 m x p π Y) : m.1 0 8 = nI p := h.2.2.1
theorem TR.F {m0 m : Mm} {x : Nat} {p : Nat} {π : Pl} {Y : Nat → Nat} (h : TR m0 m x p π Y) : Fr (PT x) m0 m := h.2.2.2
theorem TR.step {m0 m : Mm} {x p : Nat} {π : Pl} {Y : Nat → Nat} (h : TR m0 m x p π Y) (O : π.ok) (hx : x = 19 ∨ x = 20) (hp : p = 21 ∨ p = 31) (hK : K2 π Y) (ht : Y 296 ≤ 14000) : ∃ m', fX5_step SX7 m 4 p x = some m' ∧ TR m0 m' x p π (stepA π Y) := by
  obtain ⟨m', a1, a2, a3⟩ := e_step h.C h.P O hx hp hK.1 ht
  exact ⟨m', a1, TR.mk a2 (h.P.fr a3 (fun o ho => by unfold PT at ho; omega)) (by rw [a3.2 0 (by unfold PT; omega)]; exact h.pl) (h.F.trans a3)⟩
theorem TR.st {m0 m : Mm} {x p : Nat} {π : Pl} {Y : Nat → Nat} (h : TR m0 m x p π Y) (hx : x = 19 ∨ x = 20) (hp : p = 21 ∨ p = 31) {i v : Nat} (hi : i < 297) : TR m0 (u1 m x i (nI v)) x p π (upN Y i v) :=
  TR.mk (h.C.st i v hx hi) (h.P.fr (P := fun o => o = x) (Fr.u1 rfl) (fun o ho => by omega)) (by rw [u1_other (by omega)]; exact h.pl) (h.F.st (Or.inl rfl))
theorem TR.run {m0 m : Mm} {x p : Nat} {π : Pl} {X : Nat → Nat} {n : Nat} (h : TR m0 m x p π X) (O : π.ok) (hx : x = 19 ∨ x = 20) (hp : p = 21 ∨ p = 31) (hK : K2 π X) (ht : X 296 + n ≤ 14000) (hn : n ≤ 400) : ∃ m', fX7_run SX7 m 0 x (nI n) = some m' ∧ TR m0 m' x p π (stN π X n) := by
  unfold fX7_run
  simp only [L0, L1, L2, L3, L4, L5, L6, L7, L8, L9, L10, L11, L12, L13, L14, L15, L16, L17, L18, L19, L20, L21, L22, L23, L24, L25, L26, L27, L28, L29, L30, L31, L32, L33, L34, L35, L36, L37, L38, L39, L40, L41, L42, L43, L44, L45, L46, L47, L48, L50, L57, L59, L60, L63, L64, L65, L70, L80, L90, L97, L100, L110, L120, L122, L128, L150, L200, L208, L216, L224, L232, L240, L248, L255, L256, L264, L272, L280, L288, L296, L297, L300, L336, L337, L500, L680, L700, L998, L999, L1000, L1024, L1999, L6403, L9999, L10000, L12345, L99999, L1000000, L214424576, L412560384, L509804544, L639025541, L642945024, L658545824, L1103515245, L2147483647, g7_0]
  obtain ⟨m', a1, a2⟩ := lp_F (b := fun s2 : Int32 × Mm => bX7_run_2 SX7 0 x (nI n) s2.1 s2.2) (fun k m1 => TR m0 m1 x p π (stN π X k)) n (m := m) (by omega) h
    (by
      intro k m1 hk T
      have hKk := hK.N O k
      obtain ⟨m2, b1, b2⟩ := T.step O hx hp hKk.1 (by omega)
      dsimp only
      unfold bX7_run_2
      simp (disch := omega) only [L0, L1, L2, L3, L4, L5, L6, L7, L8, L9, L10, L11, L12, L13, L14, L15, L16, L17, L18, L19, L20, L21, L22, L23, L24, L25, L26, L27, L28, L29, L30, L31, L32, L33, L34, L35, L36, L37, L38, L39, L40, L41, L42, L43, L44, L45, L46, L47, L48, L50, L57, L59, L60, L63, L64, L65, L70, L80, L90, L97, L100, L110, L120, L122, L128, L150, L200, L208, L216, L224, L232, L240, L248, L255, L256, L264, L272, L280, L288, L296, L297, L300, L336, L337, L500, L680, L700, L998, L999, L1000, L1024, L1999, L6403, L9999, L10000, L12345, L99999, L1000000, L214424576, L412560384, L509804544, L639025541, L642945024, L658545824, L1103515245, L2147483647, nn_le, r7_0_2, rf8 T.pl hp, b1, bd1_e, nI_add]
      rw [if_neg (by omega)]
      exact ⟨_, rfl, b2⟩)
    (by
      intro m1 T
      dsimp only
      unfold bX7_run_2
      simp (disch := omega) only [nn_le]
      rw [if_pos (by omega)])
  rw [a1, bd1_e]
  exact ⟨_, rfl, a2⟩
/-- a trial begins -/
theorem e_start {m : Mm} {π : Pl} {X : Nat → Nat} {U : List (Nat → Nat)} {I : Option (Nat → Nat)} {p top tl : Nat} {B : Nat → Nat} {fc fp : Int32} (hF : SF m π X U I p top tl B fc fp) : ∃ m', fX7_startTrial SX7 m 0 = some m' ∧ TR m m' 20 p π X := by
  have hp := hF.hp
  unfold fX7_startTrial
  simp (disch := omega) only [L0, L1, L2, L3, L4, L5, L6, L7, L8, L9, L10, L11, L12, L13, L14, L15, L16, L17, L18, L19, L20, L21, L22, L23, L24, L25, L26, L27, L28, L29, L30, L31, L32, L33, L34, L35, L36, L37, L38, L39, L40, L41, L42, L43, L44, L45, L46, L47, L48, L50, L57, L59, L60, L63, L64, L65, L70, L80, L90, L97, L100, L110, L120, L122, L128, L150, L200, L208, L216, L224, L232, L240, L248, L255, L256, L264, L272, L280, L288, L296, L297, L300, L336, L337, L500, L680, L700, L998, L999, L1000, L1024, L1999, L6403, L9999, L10000, L12345, L99999, L1000000, L214424576, L412560384, L509804544, L639025541, L642945024, L658545824, L1103515245, L2147483647, g7_0, g7_1, g7_3, g7_4, g7_8, g7_13, g7_16, r7_0_0, r7_0_1, r7_0_2, r7_0_3, r7_0_4, r7_0_5, r7_0_6, r7_0_7, r7_1_0, r7_4_0, r7_4_1, r7_4_2, r7_8_0, r7_8_1, r7_8_2, r7_8_3, r7_13_0, r7_13_1, r7_16_0, r7_16_1, cpA_n (n1 := 297) (n2 := 297) s7_19 s7_20, bd1_e]
  refine ⟨_, rfl, TR.mk (CF.mk ?_ ?_ ?_) ?_ ?_ ?_⟩
  · intro i hi
    rw [uA_same, pk_cpy_in (by omega) (by omega), show 0 + (i - 0) = i by omega]
    exact hF.C.row i hi
  · intro j hj; rw [uA_other (by omega)]; exact hF.C.mv j hj
  · intro j hj; rw [uA_other (by omega)]; exact hF.C.sn j hj
  · exact hF.P.eq (fun o h1 h2 => uA_other (by omega))
  · rw [uA_other (by omega)]; exact hF.pl
  · exact Fr.uA (Or.inl rfl)
theorem TR.cor {m0 m : Mm} {p : Nat} {π : Pl} {Y : Nat → Nat} (h : TR m0 m 20 p π Y) (hp : p = 21 ∨ p = 31) : ∀ o, core p o → m.1 o = m0.1 o := fun o ho => h.F.2 o (by unfold core at ho; unfold PT; omega)
/-! the model: a row aside, ticks, the row back -/
def TX (m m' : Mm) : Prop := (∀ o, 1 ≤ o → o ≤ 19 → o ≠ 3 → o ≠ 15 → m'.1 o = m.1 o) ∧ ∀ j, coreJ j → m'.1 0 j = m.1 0 j
theorem TX.rfl {m : Mm} : TX m m := ⟨fun _ _ _ _ _ => Eq.refl _, fun _ _ => Eq.refl _⟩
theorem TX.trans {m m' m'' : Mm} (h : TX m m') (h2 : TX m' m'') : TX m m'' := ⟨fun o a b c d => (h2.1 o a b c d).trans (h.1 o a b c d), fun j hj => (h2.2 j hj).trans (h.2 j hj)⟩
theorem TF.X {m m' : Mm} (h : TF m m') : TX m m' := ⟨fun o a b c d => h.2.1 o (by omega) (by omega) (by omega), fun j hj => h.2.2 j (by unfold coreJ at hj; omega)⟩
theorem TX.of {P : Nat → Prop} {m m' : Mm} (h : Fr P m m') (hp : ∀ o, P o → o = 15 ∨ 20 ≤ o) : TX m m' := ⟨fun o a b c d => h.2 o (fun q => by have := hp o q; omega), fun j _ => by rw [h.2 0 (fun q => by have := hp 0 q; omega)]⟩
theorem TX.P {m m' : Mm} {π : Pl} (h : TX m m') (P : PM m π) : PM m' π := P.eq (fun o a b c => h.1 o (by omega) (by omega) c (by omega))
theorem TX.u15 {m m' : Mm} {i : Nat} {v : Int32} (h : TX m m') : TX m (u1 m' 15 i v) := h.trans (TX.of (P := fun o => o = 15) (Fr.u1 (Eq.refl _)) (fun o ho => Or.inl ho))
theorem TX.u0 {m m' : Mm} {j : Nat} {v : Int32} (h : TX m m') (hj : ¬ coreJ j) : TX m (u1 m' 0 j v) := ⟨fun o a b c d => by rw [u1_other (by omega)]; exact h.1 o a b c d, fun i hi => by
    have hne : i ≠ j := fun e => hj (by rw [← e]; exact hi)
    rw [u1_rn (Or.inl hne)]; exact h.2 i hi⟩
section AS
variable {m : Mm} {π : Pl} {X : Nat → Nat} {U : List (Nat → Nat)} {I : Option (Nat → Nat)} {tl : Nat} {B : Nat → Nat} {fc fp : Int32}
theorem e8_aside (c : Nat) (hc : c = 16 ∨ c = 17) (h : SM m π X U I tl B fc fp) : ∃ m2, fX8_copies SX8 m 15 (nI 0) c (nI 0) = some m2 ∧ RM m2 X ∧ PM m2 π ∧ (∀ m3, TX m2 m3 → ∃ m', fX8_copies SX8 m3 c (nI 0) 15 (nI 0) = some m' ∧ SM m' π X U I tl B fc fp ∧ RM m' X ∧ TX m2 m') := by
  have hS : SX8[c]? = some (.inl (0, 337)) := by rcases hc with rfl | rfl <;> rfl
  obtain ⟨m2, g1, g2, g3, g4⟩ := e8_copies (m := m) (a := 15) (i := 0) (b := c) (k := 0) s8_15 hS (by omega) (by omega) (by omega) (by omega) (by omega)
  have hR2 : RM m2 X := h.R.fr g4 (by omega)
  refine ⟨m2, g1, hR2, h.P.eq (fun o h1 h2 h3 => g4.2 o (by omega)), fun m3 T => ?_⟩
  obtain ⟨m', k1, k2, k3, k4⟩ := e8_copies (m := m3) (a := c) (i := 0) (b := 15) (k := 0) hS s8_15 (by omega) (by omega) (by omega) (by omega) (by omega)
  have hR : RM m' X := by
    refine RG.m (h.R.g.eq (fun k hk => ?_))
    have a1 := k2 k hk
    have a2 := g2 k hk
    rw [Nat.zero_add] at a1 a2
    rw [a1, T.1 c (by omega) (by omega) (by omega) (by omega), a2]
  have e : ∀ o, 1 ≤ o → o ≤ 19 → o ≠ 3 → o ≠ 15 → o ≠ c → m'.1 o = m.1 o := fun o a1 a2 a3 a4 a5 => by rw [k4.2 o a4, T.1 o a1 a2 a3 a4, g4.2 o a5]
  have e0 : ∀ j, coreJ j → m'.1 0 j = m.1 0 j := fun j hj => by rw [k4.2 0 (by omega), T.2 j hj, g4.2 0 (by omega)]
  unfold coreJ at e0
  refine ⟨m', k1, ?_, hR, T.trans (TX.of k4 (fun o ho => Or.inl ho))⟩
  exact SM.mk (h.P.eq (fun o h1 h2 h3 => e o (by omega) (by omega) h3 (by omega) (by omega))) hR (by rw [e0 31 (by omega)]; exact h.und) (by rw [e 19 (by omega) (by omega) (by omega) (by omega) (by omega)]; exact h.rows) (by rw [e0 32 (by omega)]; exact h.him) (by rw [e 18 (by omega) (by omega) (by omega) (by omega) (by omega)]; exact h.im) (by rw [e0 2 (by omega)]; exact h.len) (by rw [e 1 (by omega) (by omega) (by omega) (by omega) (by omega)]; exact h.by) (by rw [e0 24 (by omega)]; exact h.lf) (by rw [e0 25 (by omega)]; exact h.lp)
end AS
/-- a loop of ticks of the model -/
theorem e8_runs {b : Int32 × Mm → Option ((Int32 × Mm) ⊕ Mm)} {m : Mm} {π : Pl} {X : Nat → Nat} {n : Nat} (R : RM m X) (P : PM m π) (O : π.ok) (hK : K2 π X) (ht : X 296 + n ≤ 14000) (hn : n ≤ 400) (hb : ∀ k m1, b (nI k, m1) = if nI n ≤ nI k then some (.inr m1) else bd1 (fX8_tickGoes SX8 m1 0) fun m2 => some (.inl (nI k + nI 1, m2))) : ∃ m', lp b fu (nI 0, m) = some m' ∧ RM m' (stN π X n) ∧ TF m m' := by
  exact lp_F (b := b) (fun k m1 => RM m1 (stN π X k) ∧ TF m m1) n (m := m) (by omega) ⟨R, TF.rfl⟩
    (by
      rintro k m1 hk ⟨R1, T1⟩
      have hKk := hK.N O k
      obtain ⟨m2, b1, b2, _, b4⟩ := e8_tick R1 (T1.P P) O hKk.1.1 (by omega)
      rw [hb, if_neg (by rw [nn_le (by omega) (by omega)]; omega), b1, bd1_e, nI_add]
      exact ⟨_, rfl, b2, T1.trans b4⟩)
    (by
      rintro m1 ⟨R1, T1⟩
      rw [hb, if_pos (by rw [nn_le (by omega) (by omega)]; omega)])
/-! ticks -/
theorem sim_tick {mF mM : Mm} (S : Sim mF mM) (a : Int32) : SimC (fX7_tick SX7 mF 0 a) (fX8_tick SX8 mM 0 a) := by
  obtain ⟨π, X, U, I, p, top, tl, B, fc, fp, hF, hM0, hK⟩ := S
  have hM := hM0.thr (v := nI 0)
  have hp := hF.hp
  have ht := hK.t
  have S' : Sim mF (u1 mM 0 0 (nI 0)) := ⟨π, X, U, I, p, top, tl, B, fc, fp, hF, hM, hK⟩
  unfold SimC fX7_tick jX7_tick_11 fX8_tick jX8_tick_16
  simp (disch := omega) only [L0, L1, L2, L3, L4, L5, L6, L7, L8, L9, L10, L11, L12, L13, L14, L15, L16, L17, L18, L19, L20, L21, L22, L23, L24, L25, L26, L27, L28, L29, L30, L31, L32, L33, L34, L35, L36, L37, L38, L39, L40, L41, L42, L43, L44, L45, L46, L47, L48, L50, L57, L59, L60, L63, L64, L65, L70, L80, L90, L97, L100, L110, L120, L122, L128, L150, L200, L208, L216, L224, L232, L240, L248, L255, L256, L264, L272, L280, L288, L296, L297, L300, L336, L337, L500, L680, L700, L998, L999, L1000, L1024, L1999, L6403, L9999, L10000, L12345, L99999, L1000000, L214424576, L412560384, L509804544, L639025541, L642945024, L658545824, L1103515245, L2147483647, g8_0, r8_1, r8_3, r8_4, r8_5, r8_6, r8_7, r8_8, r8_9, r8_10, r8_11, r8_12, r8_13, r8_14, r8_15, r8_26, r8_27, r8_28, r8_29, r8_30, r8_33, r8_34, r8_35, r8_36, r8_37, r8_39, r8_40, r8_41, r8_43, r8_44, r8_45, g7_0, r7_0_5, r7_0_6, bd1_e, ldA_n s7_19, hF.C.row, ldA_n s8_15, hM.R.tick]
  by_cases h1 : a < nI 1
  · simp only [if_pos h1]
    exact ⟨_, _, _, rfl, rfl, S'⟩
  · obtain ⟨n, rfl, hn1, hn2⟩ := ge1 h1
    simp only [if_neg h1]
    by_cases h2 : nI n ≤ nI 50
    · have hn3 := (nn_le hn2 (by omega)).mp h2
      simp only [if_pos h2]
      simp (disch := omega) only [nI_add, nn_le]
      by_cases h3 : X 296 + n ≤ 9999
      · simp only [if_pos h3]
        obtain ⟨m1, a1, a2, a3⟩ := e_push hF hK.ul
        obtain ⟨m2, b1, b2⟩ := e8_remembers hM hK.ul
        have T0 : TR m1 m1 19 p π X := TR.mk a2.C a2.P a2.pl Fr.rfl
        obtain ⟨m3, c1, c2⟩ := T0.run (n := n) hK.O (Or.inl rfl) hp hK.K (by omega) (by omega)
        obtain ⟨m4, d1, d2, d3⟩ := e8_runs (b := fun s5 : Int32 × Mm => bX8_tick_43 SX8 0 (nI n) s5.1 s5.2) b2.R b2.P hK.O hK.K (by omega) (show n ≤ 400 by omega) (fun k m1 => by dsimp only; unfold bX8_tick_43; simp only [L0, L1, L2, L3, L4, L5, L6, L7, L8, L9, L10, L11, L12, L13, L14, L15, L16, L17, L18, L19, L20, L21, L22, L23, L24, L25, L26, L27, L28, L29, L30, L31, L32, L33, L34, L35, L36, L37, L38, L39, L40, L41, L42, L43, L44, L45, L46, L47, L48, L50, L57, L59, L60, L63, L64, L65, L70, L80, L90, L97, L100, L110, L120, L122, L128, L150, L200, L208, L216, L224, L232, L240, L248, L255, L256, L264, L272, L280, L288, L296, L297, L300, L336, L337, L500, L680, L700, L998, L999, L1000, L1024, L1999, L6403, L9999, L10000, L12345, L99999, L1000000, L214424576, L412560384, L509804544, L639025541, L642945024, L658545824, L1103515245, L2147483647])
        have hKn := hK.K.N hK.O n
        simp (disch := omega) only [a1, b1, c1, d1, bd1_e, ldA_n s7_19, c2.C.row, ldA_n s8_15, d2.tick, hKn.2]
        refine ⟨_, _, _, rfl, rfl, π, stN π X n, (X :: U).take 20, I, p, tpS top, tl, B, fc, fp, ?_, ?_, ?_⟩
        · have eo : ∀ o, o ≠ 19 → o ≠ 5 → o ≠ 6 → o ≠ 7 → m3.1 o = m1.1 o := fun o h1 h2 h3 h4 => c2.F.2 o (by unfold PT; omega)
          have e0 := eo 0 (by omega) (by omega) (by omega) (by omega)
          have e16 := eo 16 (by omega) (by omega) (by omega) (by omega)
          exact SF.mk hp (by rw [e0]; exact a2.pl) (by rw [e0]; exact a2.sp) (by rw [e0]; exact a2.fc) (by rw [e0]; exact a2.fp) c2.P c2.C (by rw [e16]; exact a2.steps) (by rw [e16]; exact a2.top) a2.tlt (by rw [eo 17 (by omega) (by omega) (by omega) (by omega)]; exact a2.rows) (by rw [e16]; exact a2.him) (by rw [eo 18 (by omega) (by omega) (by omega) (by omega)]; exact a2.im) (by rw [eo 1 (by omega) (by omega) (by omega) (by omega)]; exact a2.len) (by rw [eo 2 (by omega) (by omega) (by omega) (by omega)]; exact a2.by)
        · have e : ∀ o, 1 ≤ o → o ≤ 19 → o ≠ 3 → o ≠ 15 → m4.1 o = m2.1 o := d3.X.1
          have e0 := d3.X.2
          unfold coreJ at e0
          exact SM.mk (d3.P b2.P) d2 (by rw [e0 31 (by omega)]; exact b2.und) (by rw [e 19 (by omega) (by omega) (by omega) (by omega)]; exact b2.rows) (by rw [e0 32 (by omega)]; exact b2.him) (by rw [e 18 (by omega) (by omega) (by omega) (by omega)]; exact b2.im) (by rw [e0 2 (by omega)]; exact b2.len) (by rw [e 1 (by omega) (by omega) (by omega) (by omega)]; exact b2.by) (by rw [e0 24 (by omega)]; exact b2.lf) (by rw [e0 25 (by omega)]; exact b2.lp)
        · have q := hK.push
          exact SK.mk hK.O hKn.1 (by rw [hKn.2]; exact h3) q.ul q.U q.I q.tl q.B
      · simp only [if_neg h3]
        exact ⟨_, _, _, rfl, rfl, S'⟩
    · simp only [if_neg h2]
      exact ⟨_, _, _, rfl, rfl, S'⟩
