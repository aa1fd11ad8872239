/-! ===== a tick of the class ===== -/
theorem lp_F {b : Int32 × Mm → Option ((Int32 × Mm) ⊕ Mm)} (R : Nat → Mm → Prop) (n : Nat) {m : Mm} (hn : n < 10000) (h0 : R 0 m) (hs : ∀ k m1, k < n → R k m1 → ∃ m2, b (nI k, m1) = some (.inl (nI (k + 1), m2)) ∧ R (k + 1) m2) (he : ∀ m1, R n m1 → b (nI n, m1) = some (.inr m1)) : ∃ m', lp b fu (nI 0, m) = some m' ∧ R n m' := by
  refine lp_n (b := b) (N := fu) (s0 := (nI 0, m)) (fun k s => s.1 = nI k ∧ R k s.2) (fun r => R n r) n ⟨rfl, h0⟩ (by unfold fu; omega) ?_ ?_
  · rintro k ⟨c, m1⟩ hk ⟨e1, hR⟩
    dsimp only at e1 hR
    subst e1
    obtain ⟨m2, h1, h2⟩ := hs k m1 hk hR
    exact Or.inl ⟨_, h1, rfl, h2⟩
  · rintro ⟨c, m1⟩ ⟨e1, hR⟩
    dsimp only at e1 hR
    subst e1
    exact ⟨m1, he m1 hR, hR⟩
def arsA (π : Pl) (l : Nat) (X : Nat → Nat) : Nat → Nat := askA l (if X (90 + l) = 0 then X else arrA π l X)
def smpA (π : Pl) (l : Nat) (X : Nat → Nat) : Nat → Nat := if X (90 + l) = 0 then X else sampA π l X
def rcvA (π : Pl) (f : Nat) (X : Nat → Nat) : Nat → Nat := if X (264 + f) = 1 then recA π f X else X
def st1 (π : Pl) (X : Nat → Nat) : Nat → Nat := it π.nf crA X
noncomputable def st2 (π : Pl) (X : Nat → Nat) : Nat → Nat := it π.nl (carB π) X
def st3 (π : Pl) (X : Nat → Nat) : Nat → Nat := it π.nl (arsA π) X
def st4 (π : Pl) (X : Nat → Nat) : Nat → Nat := it π.nl (smpA π) X
def st5 (π : Pl) (X : Nat → Nat) : Nat → Nat := it π.nf (rcvA π) X
noncomputable def stepA (π : Pl) (X : Nat → Nat) : Nat → Nat := up1 296 (st5 π (st4 π (st3 π (st2 π (st1 π X)))))
abbrev PT (x : Nat) : Nat → Prop := fun o => o = x ∨ o = 5 ∨ o = 6 ∨ o = 7
theorem e_st1 {m : Mm} {x p : Nat} {π : Pl} {X : Nat → Nat} (C : CF m x X) (P : PF m p π) (O : π.ok) (hx : x = 19 ∨ x = 20) (hp : p = 21 ∨ p = 31) (hJ : J π X) : ∃ m', lp (fun s6 : Int32 × Mm => bX5_step_2 SX7 4 p x s6.1 s6.2) fu (nI 0, m) = some m' ∧ CF m' x (st1 π X) ∧ Fr (PT x) m m' := by
  have hnf := O.nf
  obtain ⟨m', h1, h2, _, h4⟩ := lp_F (b := fun s6 : Int32 × Mm => bX5_step_2 SX7 4 p x s6.1 s6.2) (fun k m1 => CF m1 x (it k crA X) ∧ J π (it k crA X) ∧ Fr (PT x) m m1) π.nf (m := m) (by omega) ⟨C, hJ, Fr.rfl⟩
    (by
      rintro k m1 hk ⟨C1, J1, F1⟩
      have P1 : PF m1 p π := P.fr F1 (fun o ho => by unfold PT at ho; omega)
      rw [it_s]
      generalize it k crA X = Y at *
      have hon := J1.on k (by omega)
      have hcr := J1.credit k (by omega)
      have hra := J1.rate k (by omega)
      have emin : (if Y (272 + k) + Y (200 + k) < 1024 then Y (272 + k) + Y (200 + k) else 1024) = min 1024 (Y (272 + k) + Y (200 + k)) := by split <;> omega
      dsimp only
      unfold bX5_step_2 jX5_step_56
      simp (disch := omega) only [L0, L1, L2, L3, L4, L5, L6, L7, L8, L9, L10, L11, L12, L13, L14, L15, L16, L17, L18, L19, L20, L21, L22, L23, L24, L25, L26, L27, L28, L29, L30, L31, L32, L33, L34, L35, L36, L37, L38, L39, L40, L41, L42, L43, L44, L45, L46, L47, L48, L50, L57, L59, L60, L63, L64, L65, L70, L80, L90, L97, L100, L110, L120, L122, L128, L150, L200, L208, L216, L224, L232, L240, L248, L255, L256, L264, L272, L280, L288, L296, L297, L300, L336, L337, L500, L680, L700, L998, L999, L1000, L1024, L1999, L6403, L9999, L10000, L12345, L99999, L1000000, L214424576, L412560384, L509804544, L639025541, L642945024, L658545824, L1103515245, L2147483647, g7_0, g7_1, g7_3, g7_4, g7_8, g7_13, g7_16, r7_0_0, r7_0_1, r7_0_2, r7_0_3, r7_0_4, r7_0_5, r7_0_6, r7_0_7, r7_1_0, r7_4_0, r7_4_1, r7_4_2, r7_8_0, r7_8_1, r7_8_2, r7_8_3, r7_13_0, r7_13_1, r7_16_0, r7_16_1, g7_p hp, r7_p_0 hp, r7_p_1 hp, r7_p_2 hp, r7_p_3 hp, r7_p_4 hp, r7_p_5 hp, r7_p_6 hp, r7_p_7 hp, r7_p_8 hp, nI_add, pk_mul, narA_0, bd1_e, bd2_e, bdR_l, bdR_r, P1.nf, nn_le, stA_n s7_7, ldA_n (s7_x hx), stA_n (s7_x hx), u1_rn, C1.row, nn_eq, nn_lt, ite_lt, ite_le, ite_eq, emin]
      rw [if_neg (by omega)]
      have J2 := J1.cr O (f := k) (by omega)
      unfold crA at J2 ⊢
      by_cases e : Y (264 + k) = 1
      · rw [if_pos e] at J2
        rw [if_neg (fun c => c e), if_pos e]
        exact ⟨_, rfl, (C1.sts k 0 hx (by omega)).st _ _ hx (by omega), J2, (F1.st (Or.inr (Or.inr (Or.inr rfl)))).st (Or.inl rfl)⟩
      · rw [if_neg e] at J2
        rw [if_pos e, if_neg e]
        exact ⟨_, rfl, C1.sts k 0 hx (by omega), J2, F1.st (Or.inr (Or.inr (Or.inr rfl)))⟩)
    (by
      rintro m1 ⟨C1, J1, F1⟩
      have P1 : PF m1 p π := P.fr F1 (fun o ho => by unfold PT at ho; omega)
      dsimp only
      unfold bX5_step_2
      rw [if_pos (by rw [P1.nf, nn_le (by omega) (by omega)]; omega)])
  exact ⟨m', h1, h2, h4⟩
theorem e_st2 {m : Mm} {x p : Nat} {π : Pl} {X : Nat → Nat} (C : CF m x X) (P : PF m p π) (O : π.ok) (hx : x = 19 ∨ x = 20) (hp : p = 21 ∨ p = 31) (hJ : J π X) : ∃ m', lp (fun s6 : Int32 × Mm => bX5_step_64 SX7 4 p x s6.1 s6.2) fu (nI 0, m) = some m' ∧ CF m' x (st2 π X) ∧ Fr (PT x) m m' := by
  have hnl := O.nl
  obtain ⟨m', h1, h2, _, h4⟩ := lp_F (b := fun s6 : Int32 × Mm => bX5_step_64 SX7 4 p x s6.1 s6.2) (fun k m1 => CF m1 x (it k (carB π) X) ∧ J π (it k (carB π) X) ∧ Fr (PT x) m m1) π.nl (m := m) (by omega) ⟨C, hJ, Fr.rfl⟩
    (by
      rintro k m1 hk ⟨C1, J1, F1⟩
      have P1 : PF m1 p π := P.fr F1 (fun o ho => by unfold PT at ho; omega)
      rw [it_s]
      generalize it k (carB π) X = Y at *
      obtain ⟨m2, mv, h1, h2, h3, h4⟩ := e_carry C1 P1 O hx hp hk (J1.asked k (by omega)) J1.credit (fun a f ha hf => Nat.le_trans (J1.q.le ha hf) (J1.fill a ha)) J1.q
      have ec : carB π k Y = carA π k mv Y := carA_congr (fun g hg => mvF_eq h2 hg)
      dsimp only
      unfold bX5_step_64
      rw [if_neg (by rw [P1.nl, nn_le (by omega) (by omega)]; omega), h1, bd1_e, L1, nI_add]
      refine ⟨m2, rfl, ?_, J1.car O (by omega), F1.trans h4⟩
      rw [ec]; exact h3)
    (by
      rintro m1 ⟨C1, J1, F1⟩
      have P1 : PF m1 p π := P.fr F1 (fun o ho => by unfold PT at ho; omega)
      dsimp only
      unfold bX5_step_64
      rw [if_pos (by rw [P1.nl, nn_le (by omega) (by omega)]; omega)])
  exact ⟨m', h1, h2, h4⟩
theorem arsA_e0 {π : Pl} {l : Nat} {X : Nat → Nat} (h : X (90 + l) = 0) : arsA π l X = askA l X := by unfold arsA; rw [if_pos h]
theorem arsA_e1 {π : Pl} {l : Nat} {X : Nat → Nat} (h : ¬ X (90 + l) = 0) : arsA π l X = askA l (arrA π l X) := by unfold arsA; rw [if_neg h]
theorem J.ars {π : Pl} (O : π.ok) {X : Nat → Nat} (h : J π X) {l : Nat} (hl : l < 10) : J π (arsA π l X) := by
  by_cases e : X (90 + l) = 0
  · rw [arsA_e0 e]; exact h.ask O hl
  · rw [arsA_e1 e]; exact (h.arr O hl).ask O hl
theorem Mv.ars {π : Pl} (O : π.ok) {X : Nat → Nat} (h : Mv π π.nl X) {l : Nat} (hl : l < 10) : Mv π π.nl (arsA π l X) := by
  by_cases e : X (90 + l) = 0
  · rw [arsA_e0 e]; exact Mv.ask O hl h
  · rw [arsA_e1 e]; exact Mv.ask O hl (Mv.arr O hl h)
def Cp (π : Pl) (X : Nat → Nat) : Prop := ∀ l, l < π.nl → X (90 + l) ≤ 64
theorem e_st3 {m : Mm} {x p : Nat} {π : Pl} {X : Nat → Nat} (C : CF m x X) (P : PF m p π) (O : π.ok) (hx : x = 19 ∨ x = 20) (hp : p = 21 ∨ p = 31) (hJ : J π X) (hM : Mv π π.nl X) (hC : Cp π X) : ∃ m', lp (fun s6 : Int32 × Mm => bX5_step_87 SX7 4 p x s6.1 s6.2) fu (nI 0, m) = some m' ∧ CF m' x (st3 π X) ∧ Fr (PT x) m m' := by
  have hnl := O.nl
  have hnf := O.nf
  obtain ⟨m', h1, h2, _, _, _, h4⟩ := lp_F (b := fun s6 : Int32 × Mm => bX5_step_87 SX7 4 p x s6.1 s6.2) (fun k m1 => CF m1 x (it k (arsA π) X) ∧ J π (it k (arsA π) X) ∧ Mv π π.nl (it k (arsA π) X) ∧ Cp π (it k (arsA π) X) ∧ Fr (PT x) m m1) π.nl (m := m) (by omega) ⟨C, hJ, hM, hC, Fr.rfl⟩
    (by
      rintro k m1 hk ⟨C1, J1, M1, Q1, F1⟩
      have P1 : PF m1 p π := P.fr F1 (fun o ho => by unfold PT at ho; omega)
      rw [it_s]
      generalize it k (arsA π) X = Y at *
      have hq := Q1 k hk
      have J2 := J1.ars O (l := k) (by omega)
      have M2 := M1.ars O (l := k) (by omega)
      have Q2 : Cp π (arsA π k Y) := by
        intro a ha
        by_cases e : Y (90 + k) = 0
        · rw [arsA_e0 e, askA_o (by omega)]; exact Q1 a ha
        · rw [arsA_e1 e, askA_o (by omega), arrA_o O (by omega) (by omega)]; exact Q1 a ha
      dsimp only
      unfold bX5_step_87 jX5_step_111
      simp (disch := omega) only [L0, L1, L2, L3, L4, L5, L6, L7, L8, L9, L10, L11, L12, L13, L14, L15, L16, L17, L18, L19, L20, L21, L22, L23, L24, L25, L26, L27, L28, L29, L30, L31, L32, L33, L34, L35, L36, L37, L38, L39, L40, L41, L42, L43, L44, L45, L46, L47, L48, L50, L57, L59, L60, L63, L64, L65, L70, L80, L90, L97, L100, L110, L120, L122, L128, L150, L200, L208, L216, L224, L232, L240, L248, L255, L256, L264, L272, L280, L288, L296, L297, L300, L336, L337, L500, L680, L700, L998, L999, L1000, L1024, L1999, L6403, L9999, L10000, L12345, L99999, L1000000, L214424576, L412560384, L509804544, L639025541, L642945024, L658545824, L1103515245, L2147483647, nI_add, pk_mul, narA_0, bd1_e, bd2_e, bdR_l, bdR_r, P1.nl, nn_le, ldA_n (s7_x hx), C1.row]
      rw [if_neg (by omega)]
      by_cases e : Y (90 + k) = 0
      · have h30 := J1.fill k (by omega)
        have h0 := J1.xoff k (by omega)
        have h10 := J1.xon k (by omega)
        rw [if_pos (by omega), e_ask C1 hx (by omega) (by omega) (by omega) (by omega) (J1.asked k (by omega)), bd1_e]
        rw [arsA_e0 e] at J2 M2 Q2 ⊢
        exact ⟨_, rfl, C1.st _ _ hx (by omega), J2, M2, Q2, F1.st (Or.inl rfl)⟩
      · obtain ⟨m2, g1, g2, g3⟩ := e_arrive C1 P1 O hx hp hk (J1.fill k (by omega)) (J1.size k (by omega)) (J1.peak k (by omega)) (fun f hf => (M1 k f hk hf).1)
        have J3 := J1.arr O (l := k) (by omega)
        have h30 := J3.fill k (by omega)
        have h0 := J3.xoff k (by omega)
        have h10 := J3.xon k (by omega)
        rw [if_neg (by omega), g1, bd1_e, e_ask g2 hx (by omega) (by omega) (by omega) (by omega) (J3.asked k (by omega)), bd1_e]
        rw [arsA_e1 e] at J2 M2 Q2 ⊢
        exact ⟨_, rfl, g2.st _ _ hx (by omega), J2, M2, Q2, (F1.trans (g3.mono (fun o ho => by unfold PT; omega))).st (Or.inl rfl)⟩)
    (by
      rintro m1 ⟨C1, J1, M1, Q1, F1⟩
      have P1 : PF m1 p π := P.fr F1 (fun o ho => by unfold PT at ho; omega)
      dsimp only
      unfold bX5_step_87
      rw [if_pos (by rw [P1.nl, nn_le (by omega) (by omega)]; omega)])
  exact ⟨m', h1, h2, h4⟩
theorem smpA_e0 {π : Pl} {l : Nat} {X : Nat → Nat} (h : X (90 + l) = 0) : smpA π l X = X := by unfold smpA; rw [if_pos h]
theorem smpA_e1 {π : Pl} {l : Nat} {X : Nat → Nat} (h : ¬ X (90 + l) = 0) : smpA π l X = sampA π l X := by unfold smpA; rw [if_neg h]
theorem e_st4 {m : Mm} {x p : Nat} {π : Pl} {X : Nat → Nat} (C : CF m x X) (P : PF m p π) (O : π.ok) (hx : x = 19 ∨ x = 20) (hp : p = 21 ∨ p = 31) (hJ : J π X) (hM : Mv π π.nl X) (hC : Cp π X) : ∃ m', lp (fun s6 : Int32 × Mm => bX5_step_124 SX7 4 p x s6.1 s6.2) fu (nI 0, m) = some m' ∧ CF m' x (st4 π X) ∧ Fr (PT x) m m' := by
  have hnl := O.nl
  have hnf := O.nf
  have hea := O.each
  obtain ⟨m', h1, h2, _, _, _, h4⟩ := lp_F (b := fun s6 : Int32 × Mm => bX5_step_124 SX7 4 p x s6.1 s6.2) (fun k m1 => CF m1 x (it k (smpA π) X) ∧ J π (it k (smpA π) X) ∧ Mv π π.nl (it k (smpA π) X) ∧ Cp π (it k (smpA π) X) ∧ Fr (PT x) m m1) π.nl (m := m) (by omega) ⟨C, hJ, hM, hC, Fr.rfl⟩
    (by
      rintro k m1 hk ⟨C1, J1, M1, Q1, F1⟩
      have P1 : PF m1 p π := P.fr F1 (fun o ho => by unfold PT at ho; omega)
      rw [it_s]
      generalize it k (smpA π) X = Y at *
      have hq := Q1 k hk
      dsimp only
      unfold bX5_step_124 jX5_step_148
      simp (disch := omega) only [L0, L1, L2, L3, L4, L5, L6, L7, L8, L9, L10, L11, L12, L13, L14, L15, L16, L17, L18, L19, L20, L21, L22, L23, L24, L25, L26, L27, L28, L29, L30, L31, L32, L33, L34, L35, L36, L37, L38, L39, L40, L41, L42, L43, L44, L45, L46, L47, L48, L50, L57, L59, L60, L63, L64, L65, L70, L80, L90, L97, L100, L110, L120, L122, L128, L150, L200, L208, L216, L224, L232, L240, L248, L255, L256, L264, L272, L280, L288, L296, L297, L300, L336, L337, L500, L680, L700, L998, L999, L1000, L1024, L1999, L6403, L9999, L10000, L12345, L99999, L1000000, L214424576, L412560384, L509804544, L639025541, L642945024, L658545824, L1103515245, L2147483647, nI_add, pk_mul, narA_0, bd1_e, bd2_e, bdR_l, bdR_r, P1.nl, nn_le, ldA_n (s7_x hx), C1.row]
      rw [if_neg (by omega)]
      by_cases e : Y (90 + k) = 0
      · rw [if_pos (by omega), smpA_e0 e]
        exact ⟨_, rfl, C1, J1, M1, Q1, F1⟩
      · obtain ⟨m2, g1, g2, g3⟩ := e_sample C1 P1 O hx hp hk (by have := J1.cnt k hk; omega) J1.rate (fun f hf => (M1 k f hk hf).1)
        rw [if_neg (by omega), g1, bd1_e, smpA_e1 e]
        refine ⟨_, rfl, g2, J1.smp O hk, M1.smp O (by omega), ?_, F1.trans (g3.mono (fun o ho => by unfold PT; omega))⟩
        intro a ha
        rw [sampA_o O (by omega) (by omega)]; exact Q1 a ha)
    (by
      rintro m1 ⟨C1, J1, M1, Q1, F1⟩
      have P1 : PF m1 p π := P.fr F1 (fun o ho => by unfold PT at ho; omega)
      dsimp only
      unfold bX5_step_124
      rw [if_pos (by rw [P1.nl, nn_le (by omega) (by omega)]; omega)])
  exact ⟨m', h1, h2, h4⟩
def Sg (k : Nat) (X : Nat → Nat) : Prop := ∀ f, k ≤ f → f < 8 → X (216 + f) ≤ 900000 ∧ X (224 + f) ≤ 19000
theorem rcvA_e0 {π : Pl} {f : Nat} {X : Nat → Nat} (h : ¬ X (264 + f) = 1) : rcvA π f X = X := by unfold rcvA; rw [if_neg h]
theorem rcvA_e1 {π : Pl} {f : Nat} {X : Nat → Nat} (h : X (264 + f) = 1) : rcvA π f X = recA π f X := by unfold rcvA; rw [if_pos h]
theorem e_st5 {m : Mm} {x p : Nat} {π : Pl} {X : Nat → Nat} (C : CF m x X) (P : PF m p π) (O : π.ok) (hx : x = 19 ∨ x = 20) (hp : p = 21 ∨ p = 31) (hJ : J π X) (hS : Sn π X) (hG : Sg 0 X) : ∃ m', lp (fun s6 : Int32 × Mm => bX5_step_156 SX7 4 p x s6.1 s6.2) fu (nI 0, m) = some m' ∧ CF m' x (st5 π X) ∧ Fr (PT x) m m' := by
  have hnl := O.nl
  have hnf := O.nf
  have hce := O.cells
  have hti := O.ticks
  obtain ⟨m', h1, h2, _, _, _, h4⟩ := lp_F (b := fun s6 : Int32 × Mm => bX5_step_156 SX7 4 p x s6.1 s6.2) (fun k m1 => CF m1 x (it k (rcvA π) X) ∧ J π (it k (rcvA π) X) ∧ Sn π (it k (rcvA π) X) ∧ Sg k (it k (rcvA π) X) ∧ Fr (PT x) m m1) π.nf (m := m) (by omega) ⟨C, hJ, hS, hG, Fr.rfl⟩
    (by
      rintro k m1 hk ⟨C1, J1, S1, G1, F1⟩
      have P1 : PF m1 p π := P.fr F1 (fun o ho => by unfold PT at ho; omega)
      rw [it_s]
      generalize it k (rcvA π) X = Y at *
      have hon := J1.on k (by omega)
      have hg := G1 k (Nat.le_refl _) (by omega)
      dsimp only
      unfold bX5_step_156 jX5_step_182
      simp (disch := omega) only [L0, L1, L2, L3, L4, L5, L6, L7, L8, L9, L10, L11, L12, L13, L14, L15, L16, L17, L18, L19, L20, L21, L22, L23, L24, L25, L26, L27, L28, L29, L30, L31, L32, L33, L34, L35, L36, L37, L38, L39, L40, L41, L42, L43, L44, L45, L46, L47, L48, L50, L57, L59, L60, L63, L64, L65, L70, L80, L90, L97, L100, L110, L120, L122, L128, L150, L200, L208, L216, L224, L232, L240, L248, L255, L256, L264, L272, L280, L288, L296, L297, L300, L336, L337, L500, L680, L700, L998, L999, L1000, L1024, L1999, L6403, L9999, L10000, L12345, L99999, L1000000, L214424576, L412560384, L509804544, L639025541, L642945024, L658545824, L1103515245, L2147483647, nI_add, pk_mul, narA_0, bd1_e, bd2_e, bdR_l, bdR_r, P1.nf, nn_le, ldA_n (s7_x hx), C1.row, nn_eq]
      rw [if_neg (by omega)]
      by_cases e : Y (264 + k) = 1
      · obtain ⟨m2, g1, g2, g3⟩ := e_recover C1 P1 O hx hp (by omega) (J1.rate k (by omega)) (J1.target k (by omega)) (by omega) (by omega) (by have := J1.byc k hk; omega) (by have := S1 k hk; omega) (by have := J1.byt k hk; omega)
        rw [if_neg (fun c => c e), g1, bd1_e, rcvA_e1 e]
        refine ⟨_, rfl, g2, J1.rcv O hk, ?_, ?_, F1.trans (g3.mono (fun o ho => by unfold PT; omega))⟩
        · intro a ha
          rw [recA_o (by omega)]; exact S1 a ha
        · intro a ha ha2
          rw [recA_o (by omega), recA_o (by omega)]; exact G1 a (by omega) ha2
      · rw [if_pos e, rcvA_e0 e]
        exact ⟨_, rfl, C1, J1, S1, fun a ha ha2 => G1 a (by omega) ha2, F1⟩)
    (by
      rintro m1 ⟨C1, J1, S1, G1, F1⟩
      have P1 : PF m1 p π := P.fr F1 (fun o ho => by unfold PT at ho; omega)
      dsimp only
      unfold bX5_step_156
      rw [if_pos (by rw [P1.nf, nn_le (by omega) (by omega)]; omega)])
  exact ⟨m', h1, h2, h4⟩
