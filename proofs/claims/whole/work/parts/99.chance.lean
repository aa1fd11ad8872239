/-! ===== by chance ===== -/
def cN (v : Int32) : Nat := ((v * nI 1103515245) + nI 12345).toBitVec.toNat % 2 ^ 31
theorem cN_e (v : Int32) : (((v * nI 1103515245) + nI 12345) &&& nI 2147483647) = nI (cN v) := pk_and _ 31 (by decide)
theorem cN_lt (v : Int32) : cN v < 2147483648 := Nat.mod_lt _ (by decide)
theorem s16 : ((nI 16 &&& nI 31).toBitVec.smod 32).toNat = 16 := by decide
theorem cN_s (v : Int32) : nI (cN v) >>> (nI 16 &&& nI 31) = nI (cN v / 65536) := pk_shrN (cN_lt v) _ 16 s16
/-- before a tick: a draw, a flow turned or not -/
def chF (π : Pl) (v : Int32) : Nat := cN v / 65536 % π.nf
def chV (π : Pl) (v : Int32) : Int32 := if π.nf = 0 then v else nI (cN (nI (cN v)))
def chY (π : Pl) (q : Nat) (v : Int32) (Y : Nat → Nat) : Nat → Nat := if π.nf = 0 then Y else if q ≤ cN (nI (cN v)) / 65536 % 100 then Y else upN Y (264 + chF π v) (1 - Y (264 + chF π v))
noncomputable def chS (π : Pl) (X : Nat → Nat) (q : Nat) (v : Int32) : Nat → Int32 × (Nat → Nat) × Nat
  | 0 => (v, X, 0)
  | k + 1 => (chV π (chS π X q v k).1, stepA π (chY π q (chS π X q v k).1 (chS π X q v k).2.1), (chS π X q v k).2.2 + (if cyN π (stepA π (chY π q (chS π X q v k).1 (chS π X q v k).2.1)) = true then 1 else 0))
theorem chY_K {π : Pl} (O : π.ok) {Y : Nat → Nat} (h : K2 π Y) (q : Nat) (v : Int32) : K2 π (chY π q v Y) ∧ chY π q v Y 296 = Y 296 := by
  have hnf := O.nf
  unfold chY
  by_cases c : π.nf = 0
  · rw [if_pos c]; exact ⟨h, rfl⟩
  · rw [if_neg c]
    have hf : chF π v < π.nf := Nat.mod_lt _ (by omega)
    split
    · exact ⟨h, rfl⟩
    · exact ⟨h.set O (by omega), by rw [upN_n (by omega)]⟩
theorem chS_K {π : Pl} (O : π.ok) {X : Nat → Nat} (h : K2 π X) (q : Nat) (v : Int32) (k : Nat) : K2 π (chS π X q v k).2.1 ∧ (chS π X q v k).2.1 296 = X 296 + k := by
  induction k with
  | zero => exact ⟨h, rfl⟩
  | succ k ih =>
    have := chY_K O ih.1 q (chS π X q v k).1
    refine ⟨this.1.step O, ?_⟩
    show stepA π (chY π q (chS π X q v k).1 (chS π X q v k).2.1) 296 = _
    rw [stepA_t O, this.2, ih.2]; rfl
theorem e_chance {m0 m : Mm} {p : Nat} {π : Pl} {X : Nat → Nat} {n q : Nat} {v : Int32} (T0 : TW m0 m p π X) (O : π.ok) (hp : p = 21 ∨ p = 31) (hK : K2 π X) (ht : X 296 ≤ 9999) (hn : n ≤ 200) (hq : q ≤ 100) : ∃ y, lp (fun s12 : Int32 × Int32 × Int32 × Mm => bX7_runByChance_13 SX7 0 (nI n) (nI q) s12.1 s12.2.1 s12.2.2.1 s12.2.2.2) fu (nI 0, v, nI 0, m) = some y ∧ y.1 = nI (chS π X q v n).2.2 ∧ TW m0 y.2 p π (chS π X q v n).2.1 := by
  have hnf := O.nf
  have hnl := O.nl
  refine lp_n (b := fun s12 : Int32 × Int32 × Int32 × Mm => bX7_runByChance_13 SX7 0 (nI n) (nI q) s12.1 s12.2.1 s12.2.2.1 s12.2.2.2) (N := fu) (s0 := (nI 0, v, nI 0, m))
    (fun k s => s.1 = nI (chS π X q v k).2.2 ∧ s.2.1 = (chS π X q v k).1 ∧ s.2.2.1 = nI k ∧ TW m0 s.2.2.2 p π (chS π X q v k).2.1)
    (fun y => y.1 = nI (chS π X q v n).2.2 ∧ TW m0 y.2 p π (chS π X q v n).2.1)
    n ⟨rfl, rfl, rfl, T0⟩ (by unfold fu; omega) ?_ ?_
  · rintro k ⟨c, w, i, m1⟩ hk ⟨e1, e2, e3, T⟩
    dsimp only at e1 e2 e3 T ⊢
    subst e1 e2 e3
    have hKk := chS_K O hK q v k
    have hY := chY_K O hKk.1 q (chS π X q v k).1
    have es : chS π X q v (k + 1) = (chV π (chS π X q v k).1, stepA π (chY π q (chS π X q v k).1 (chS π X q v k).2.1), (chS π X q v k).2.2 + (if cyN π (stepA π (chY π q (chS π X q v k).1 (chS π X q v k).2.1)) = true then 1 else 0)) := rfl
    rw [es]
    generalize (chS π X q v k).1 = w at *
    generalize (chS π X q v k).2.1 = Y at *
    generalize (chS π X q v k).2.2 = c at *
    refine Or.inl ?_
    -- a tick and a look
    have fin : ∀ m2 w2, TW m0 m2 p π (chY π q w Y) → w2 = chV π w → ∃ s', jX7_runByChance_94 SX7 m2 0 (nI n) (nI q) (nI c) w2 (nI k) = some (.inl s') ∧ s'.1 = nI (c + (if cyN π (stepA π (chY π q w Y)) = true then 1 else 0)) ∧ s'.2.1 = chV π w ∧ s'.2.2.1 = nI (k + 1) ∧ TW m0 s'.2.2.2 p π (stepA π (chY π q w Y)) := by
      rintro m2 w2 T2 rfl
      obtain ⟨m3, a1, a2⟩ := T2.step O hp hY.1 (by rw [hY.2]; omega)
      obtain ⟨m4, b1, b2⟩ := a2.cyc O hp (hY.1.step O)
      have hlt := cyS_lt (G := wP π (stepA π (chY π q w Y))) hnl
      unfold jX7_runByChance_94 jX7_runByChance_130
      simp (disch := omega) only [L0, L1, L2, L3, L4, L5, L6, L7, L8, L9, L10, L11, L12, L13, L14, L15, L16, L17, L18, L19, L20, L21, L22, L23, L24, L25, L26, L27, L28, L29, L30, L31, L32, L33, L34, L35, L36, L37, L38, L39, L40, L41, L42, L43, L44, L45, L46, L47, L48, L50, L57, L59, L60, L63, L64, L65, L70, L80, L90, L97, L100, L110, L120, L122, L128, L150, L200, L208, L216, L224, L232, L240, L248, L255, L256, L264, L272, L280, L288, L296, L297, L300, L336, L337, L500, L680, L700, L998, L999, L1000, L1024, L1999, L6403, L9999, L10000, L12345, L99999, L1000000, L214424576, L412560384, L509804544, L639025541, L642945024, L658545824, L1103515245, L2147483647, r7_0_2, r7_0_3, r7_0_7, rf8 T2.pl hp, rf8 a2.pl hp, a1, bd1_e, b1, bd2_e, nn_eq, nI_add]
      unfold cyN
      by_cases z : cyS (wP π (stepA π (chY π q w Y))) π.nl = 0
      · rw [if_pos z, if_neg (by rw [decide_eq_false (fun y => y z)]; decide)]
        exact ⟨_, rfl, rfl, rfl, rfl, b2⟩
      · rw [if_neg z, if_pos (decide_eq_true z)]
        exact ⟨_, rfl, rfl, rfl, rfl, b2⟩
    have h9 : cN (nI (cN w)) / 65536 % 100 < 100 := Nat.mod_lt _ (by decide)
    have hc1 := cN_lt w
    have hc2 := cN_lt (nI (cN w))
    have hd1 : cN w / 65536 ≤ cN w := Nat.div_le_self _ _
    have hd2 : cN (nI (cN w)) / 65536 ≤ cN (nI (cN w)) := Nat.div_le_self _ _
    unfold bX7_runByChance_13 fX7_nextNumber
    simp (disch := omega) only [L0, L1, L2, L3, L4, L5, L6, L7, L8, L9, L10, L11, L12, L13, L14, L15, L16, L17, L18, L19, L20, L21, L22, L23, L24, L25, L26, L27, L28, L29, L30, L31, L32, L33, L34, L35, L36, L37, L38, L39, L40, L41, L42, L43, L44, L45, L46, L47, L48, L50, L57, L59, L60, L63, L64, L65, L70, L80, L90, L97, L100, L110, L120, L122, L128, L150, L200, L208, L216, L224, L232, L240, L248, L255, L256, L264, L272, L280, L288, L296, L297, L300, L336, L337, L500, L680, L700, L998, L999, L1000, L1024, L1999, L6403, L9999, L10000, L12345, L99999, L1000000, L214424576, L412560384, L509804544, L639025541, L642945024, L658545824, L1103515245, L2147483647, nn_le, r7_0_7, rf8 T.pl hp, g7_p hp, T.P.nf]
    rw [if_neg (by omega)]
    by_cases z : π.nf ≤ 0
    · rw [if_pos z]
      have z0 : π.nf = 0 := by omega
      have ey : chY π q w Y = Y := by unfold chY; rw [if_pos z0]
      exact fin m1 w (by rw [ey]; exact T) (by unfold chV; rw [if_pos z0])
    · rw [if_neg z]
      have z0 : ¬ π.nf = 0 := by omega
      have hf : chF π w < π.nf := Nat.mod_lt _ (by omega)
      have hon := hKk.1.1.1.on (chF π w) (by omega)
      have ev : nI (cN (nI (cN w))) = chV π w := by unfold chV; rw [if_neg z0]
      simp (disch := omega) only [bd1_e, cN_e, cN_s, rmI_n, nn_le]
      by_cases z2 : q ≤ cN (nI (cN w)) / 65536 % 100
      · rw [if_pos z2]
        have ey : chY π q w Y = Y := by unfold chY; rw [if_neg z0, if_pos z2]
        exact fin m1 _ (by rw [ey]; exact T) ev
      · rw [if_neg z2]
        have ey : chY π q w Y = upN Y (264 + chF π w) (1 - Y (264 + chF π w)) := by unfold chY; rw [if_neg z0, if_neg z2]
        have ef : cN w / 65536 % π.nf = chF π w := rfl
        simp (disch := omega) only [ef, nI_add, ldA_n s7_20, T.C.row, bd1_e, pk_sub, stA_n s7_20, narA_0]
        exact fin _ _ (by rw [ey]; exact T.st hp (by omega)) ev
  · rintro ⟨c, w, i, m1⟩ ⟨e1, e2, e3, T⟩
    dsimp only at e1 e2 e3 T ⊢
    subst e1 e2 e3
    unfold bX7_runByChance_13
    simp (disch := omega) only [nn_le]
    rw [if_pos (by omega)]
    exact ⟨_, rfl, rfl, T⟩
theorem e8_chanceL {m : Mm} {π : Pl} {X : Nat → Nat} {n q w : Nat} {v x5 : Int32} (R0 : RM m X) (P : PM m π) (O : π.ok) (h48 : m.1 0 48 = v) (hK : K2 π X) (ht : X 296 ≤ 9999) (hn : n ≤ 200) (hq : q ≤ 100) : ∃ y, lp (fun s19 : Int32 × Int32 × Mm => bX8_chance_115 SX8 0 (nI n) (nI q) (nI w) x5 s19.1 s19.2.1 s19.2.2) fu (nI 0, nI 0, m) = some y ∧ y.1 = nI (chS π X q v n).2.2 ∧ RM y.2 (chS π X q v n).2.1 ∧ TX m y.2 := by
  have hnf := O.nf
  have hnl := O.nl
  refine lp_n (b := fun s19 : Int32 × Int32 × Mm => bX8_chance_115 SX8 0 (nI n) (nI q) (nI w) x5 s19.1 s19.2.1 s19.2.2) (N := fu) (s0 := (nI 0, nI 0, m))
    (fun k s => s.1 = nI (chS π X q v k).2.2 ∧ s.2.1 = nI k ∧ s.2.2.1 0 48 = (chS π X q v k).1 ∧ RM s.2.2 (chS π X q v k).2.1 ∧ TX m s.2.2)
    (fun y => y.1 = nI (chS π X q v n).2.2 ∧ RM y.2 (chS π X q v n).2.1 ∧ TX m y.2)
    n ⟨rfl, rfl, h48, R0, TX.rfl⟩ (by unfold fu; omega) ?_ ?_
  · rintro k ⟨c, i, m1⟩ hk ⟨e1, e2, e3, R, T⟩
    dsimp only at e1 e2 e3 R T ⊢
    subst e1 e2
    have hKk := chS_K O hK q v k
    have hY := chY_K O hKk.1 q (chS π X q v k).1
    have es : chS π X q v (k + 1) = (chV π (chS π X q v k).1, stepA π (chY π q (chS π X q v k).1 (chS π X q v k).2.1), (chS π X q v k).2.2 + (if cyN π (stepA π (chY π q (chS π X q v k).1 (chS π X q v k).2.1)) = true then 1 else 0)) := rfl
    rw [es]
    generalize (chS π X q v k).1 = d at *
    generalize (chS π X q v k).2.1 = Y at *
    generalize (chS π X q v k).2.2 = c at *
    have P1 := T.P P
    refine Or.inl ?_
    have fin : ∀ m2, RM m2 (chY π q d Y) → TX m m2 → m2.1 0 48 = chV π d → ∃ s', jX8_chance_176 SX8 m2 0 (nI n) (nI q) (nI w) x5 (nI c) (nI k) = some (.inl s') ∧ s'.1 = nI (c + (if cyN π (stepA π (chY π q d Y)) = true then 1 else 0)) ∧ s'.2.1 = nI (k + 1) ∧ s'.2.2.1 0 48 = chV π d ∧ RM s'.2.2 (stepA π (chY π q d Y)) ∧ TX m s'.2.2 := by
      intro m2 R2 T2 h2
      obtain ⟨m3, a1, a2, _, a4⟩ := e8_tick R2 (T2.P P) O hY.1.1 (by rw [hY.2]; omega)
      have T3 := T2.trans a4.X
      obtain ⟨m4, b1, b2⟩ := e8_isStalled a2 (T3.P P) O (hY.1.step O).1.1
      have h4 : m4.1 0 48 = chV π d := by rw [b2.2 0 (by omega), a4.2.2 48 (by omega)]; exact h2
      unfold jX8_chance_176 jX8_chance_194
      simp only [L0, L1, L2, L3, L4, L5, L6, L7, L8, L9, L10, L11, L12, L13, L14, L15, L16, L17, L18, L19, L20, L21, L22, L23, L24, L25, L26, L27, L28, L29, L30, L31, L32, L33, L34, L35, L36, L37, L38, L39, L40, L41, L42, L43, L44, L45, L46, L47, L48, L50, L57, L59, L60, L63, L64, L65, L70, L80, L90, L97, L100, L110, L120, L122, L128, L150, L200, L208, L216, L224, L232, L240, L248, L255, L256, L264, L272, L280, L288, L296, L297, L300, L336, L337, L500, L680, L700, L998, L999, L1000, L1024, L1999, L6403, L9999, L10000, L12345, L99999, L1000000, L214424576, L412560384, L509804544, L639025541, L642945024, L658545824, L1103515245, L2147483647, a1, bd1_e, b1, bd2_e, nI_add]
      cases hz : cyN π (stepA π (chY π q d Y)) with
      | true => exact ⟨_, if_neg n10, rfl, rfl, h4, a2.fr b2 (by omega), T3.w b2⟩
      | false => exact ⟨_, if_pos rfl, rfl, rfl, h4, a2.fr b2 (by omega), T3.w b2⟩
    have h9 : cN (nI (cN d)) / 65536 % 100 < 100 := Nat.mod_lt _ (by decide)
    have hc1 := cN_lt d
    have hc2 := cN_lt (nI (cN d))
    have hd1 : cN d / 65536 ≤ cN d := Nat.div_le_self _ _
    have hd2 : cN (nI (cN d)) / 65536 ≤ cN (nI (cN d)) := Nat.div_le_self _ _
    unfold bX8_chance_115 fX8_draw
    simp (disch := omega) only [L0, L1, L2, L3, L4, L5, L6, L7, L8, L9, L10, L11, L12, L13, L14, L15, L16, L17, L18, L19, L20, L21, L22, L23, L24, L25, L26, L27, L28, L29, L30, L31, L32, L33, L34, L35, L36, L37, L38, L39, L40, L41, L42, L43, L44, L45, L46, L47, L48, L50, L57, L59, L60, L63, L64, L65, L70, L80, L90, L97, L100, L110, L120, L122, L128, L150, L200, L208, L216, L224, L232, L240, L248, L255, L256, L264, L272, L280, L288, L296, L297, L300, L336, L337, L500, L680, L700, L998, L999, L1000, L1024, L1999, L6403, L9999, L10000, L12345, L99999, L1000000, L214424576, L412560384, L509804544, L639025541, L642945024, L658545824, L1103515245, L2147483647, g8_0, r8_1, r8_3, r8_4, r8_5, r8_6, r8_7, r8_8, r8_9, r8_10, r8_11, r8_12, r8_13, r8_14, r8_15, r8_26, r8_27, r8_28, r8_29, r8_30, r8_33, r8_34, r8_35, r8_36, r8_37, r8_39, r8_40, r8_41, r8_43, r8_44, r8_45, nn_le, e8_flows P1, bd1_e]
    rw [if_neg (by omega)]
    by_cases z : π.nf ≤ 0
    · rw [if_pos z]
      have z0 : π.nf = 0 := by omega
      have ey : chY π q d Y = Y := by unfold chY; rw [if_pos z0]
      exact fin m1 (by rw [ey]; exact R) T (by unfold chV; rw [if_pos z0]; exact e3)
    · rw [if_neg z]
      have z0 : ¬ π.nf = 0 := by omega
      have hf : chF π d < π.nf := Nat.mod_lt _ (by omega)
      have hon := hKk.1.1.1.on (chF π d) (by omega)
      have ev : nI (cN (nI (cN d))) = chV π d := by unfold chV; rw [if_neg z0]
      simp (disch := omega) only [e3, cN_e, u1_rs, cN_s, rmI_n, bd1_e, bd2_e, nn_le]
      have hcj : ¬ coreJ 48 := by unfold coreJ; omega
      have T2 := (T.u0 (j := 48) (v := nI (cN d)) hcj).u0 (j := 48) (v := nI (cN (nI (cN d)))) hcj
      have R2 : RM (u1 (u1 m1 0 48 (nI (cN d))) 0 48 (nI (cN (nI (cN d))))) Y := R.fr (P := fun o => o = 0) (Fr.st (P := fun o => o = 0) (Fr.u1 rfl) rfl) (by omega)
      by_cases z2 : q ≤ cN (nI (cN d)) / 65536 % 100
      · rw [if_pos z2]
        have ey : chY π q d Y = Y := by unfold chY; rw [if_neg z0, if_pos z2]
        exact fin _ (by rw [ey]; exact R2) T2 (by rw [u1_rs, ev])
      · rw [if_neg z2]
        have ey : chY π q d Y = upN Y (264 + chF π d) (1 - Y (264 + chF π d)) := by unfold chY; rw [if_neg z0, if_neg z2]
        have ef : cN d / 65536 % π.nf = chF π d := rfl
        have hon2 := R2.on (chF π d) (by omega)
        simp (disch := omega) only [ef, e8_flowAt, nI_add, ldA_n s8_15, hon2, bd1_e, pk_sub, stA_n s8_15, narA_0]
        exact fin _ (by rw [ey]; exact R2.st_on _ (by omega)) T2.u15 (by rw [u1_other (by omega), u1_rs, ev])
  · rintro ⟨c, i, m1⟩ ⟨e1, e2, e3, R, T⟩
    dsimp only at e1 e2 e3 R T ⊢
    subst e1 e2
    unfold bX8_chance_115
    simp (disch := omega) only [nn_le]
    rw [if_pos (by omega)]
    exact ⟨_, rfl, rfl, R, T⟩
/-- a number within bounds, or beyond them on one side -/
theorem rng (a : Int32) (lo hi : Nat) (hh : hi < 2147483648) (hl : lo ≤ hi) : (∃ n, lo ≤ n ∧ n ≤ hi ∧ a = nI n ∧ ¬ a < nI lo ∧ ¬ nI hi < a) ∨ a < nI lo ∨ (¬ a < nI lo ∧ nI hi < a) := by
  by_cases h : a < nI lo
  · exact Or.inr (Or.inl h)
  · by_cases h2 : nI hi < a
    · exact Or.inr (Or.inr ⟨h, h2⟩)
    · left
      have z0 : (nI lo).toInt = lo := nI_toInt (by omega)
      have z1 : (nI hi).toInt = hi := nI_toInt (by omega)
      have c1 : ¬ a.toInt < (nI lo).toInt := fun c => h (Int32.lt_iff_toInt_lt.mpr c)
      have c2 : ¬ (nI hi).toInt < a.toInt := fun c => h2 (Int32.lt_iff_toInt_lt.mpr c)
      obtain ⟨j, hj, rfl⟩ := nI_of (x := a) (fun c => by
        have c3 := Int32.lt_iff_toInt_lt.mp c
        have z : (0 : Int32).toInt = 0 := rfl
        omega)
      have z2 : (nI j).toInt = j := nI_toInt (by omega)
      exact ⟨j, by omega, by omega, rfl, h, h2⟩
theorem sim_chance {mF mM : Mm} (S : Sim mF mM) (a b c d : Int32) : SimC (fX7_chance SX7 mF 0 a b c d) (fX8_chance SX8 mM 0 a b c d) := by
  obtain ⟨π, X, U, I, p, top, tl, B, fc, fp, hF, hM0, hK⟩ := S
  have hM := hM0.thr (v := nI 0)
  have hp := hF.hp
  have ht := hK.t
  have hnl := hK.O.nl
  have hnf := hK.O.nf
  have O := hK.O
  have S' : Sim mF (u1 mM 0 0 (nI 0)) := ⟨π, X, U, I, p, top, tl, B, fc, fp, hF, hM, hK⟩
  -- from a first number on
  have run : ∀ (v : Int32) (n q w : Nat), n ≤ 200 → q ≤ 100 → w ≤ 3 → SimC (jX7_chance_60 SX7 mF 0 (nI n) (nI q) (nI w) 0 v) (jX8_chance_62 SX8 (u1 mM 0 0 (nI 0)) 0 (nI n) (nI q) (nI w) 0 v) := by
    intro v n q w hn hq hw
    obtain ⟨m1, a1, T1⟩ := e_start hF
    obtain ⟨y, b1, b2, b3⟩ := e_chance (v := v) (n := n) (q := q) (T1.W hp) O hp hK.K ht hn hq
    have hM1 : SM (u1 (u1 mM 0 0 (nI 0)) 0 48 v) π X U I tl B fc fp := hM.scr (fun o ho => by unfold coreM at ho; rw [u1_other (by omega)]) (fun j hj => by unfold coreJ at hj; rw [u1_rn (Or.inl (by omega))])
    obtain ⟨m2, c1, c2, c3, c4⟩ := e8_aside 17 (Or.inr rfl) hM1
    have h48 : m2.1 0 48 = v := by
      obtain ⟨m3, g1, _, _, g4⟩ := e8_copies (m := u1 (u1 mM 0 0 (nI 0)) 0 48 v) (a := 15) (i := 0) (b := 17) (k := 0) s8_15 s8_17 (by omega) (by omega) (by omega) (by omega) (by omega)
      rw [c1] at g1
      cases g1
      rw [g4.2 0 (by omega), u1_rs]
    have hKn := chS_K O hK.K q v n
    have e19 : ∀ i, i < 297 → y.2.1 19 i = nI (X i) := fun i hi => by rw [b3.e 19 (Or.inr (Or.inl (by omega)))]; exact hF.C.row i hi
    have s7 : ∀ b n', b + n' ≤ 297 → fX7_grown SX7 y.2 0 (nI b) (nI n') = some (nI (sm n' (fun i => (chS π X q v n).2.1 (b + i))) - nI (sm n' (fun i => X (b + i)))) := fun b n' h => by
      unfold fX7_grown
      have s1 : fX7_sum SX7 y.2 20 (nI b) (nI n') = some (nI (sm n' (fun i => (chS π X q v n).2.1 (b + i)))) := e_sum (fun i hi => b3.C.row _ (by omega)) s7_20 (by omega) (by omega)
      have s2 : fX7_sum SX7 y.2 19 (nI b) (nI n') = some (nI (sm n' (fun i => X (b + i)))) := e_sum (fun i hi => e19 _ (by omega)) s7_19 (by omega) (by omega)
      simp only [g7_0, r7_0_6, r7_0_7, s1, s2, bd1_e]
    have s70 := s7 240 π.nf (by omega)
    have s71 := s7 50 π.nl (by omega)
    have s73 := s7 80 π.nl (by omega)
    have nb0 : sm π.nl (fun l => X (80 + l)) = sm π.nf (fun f => X (256 + f)) := hK.K.2
    have nb1 : sm π.nl (fun l => (chS π X q v n).2.1 (80 + l)) = sm π.nf (fun f => (chS π X q v n).2.1 (256 + f)) := hKn.1.2
    rw [nb0, nb1] at s73
    have t0 := e8_sumOf (w := 5) (g := fun f => X (240 + f)) c3 O (by omega) (fun f hf => c2.deliv f (by omega))
    have t1 := e8_lostAll c2 c3 O
    have t3 := e8_sumOf (w := 6) (g := fun f => X (256 + f)) c3 O (by omega) (fun f hf => c2.notices f (by omega))
    have Sf : ∀ m', SM m' π X U I tl B fc fp → Sim y.2 m' := fun m' k2 => Sim.of hF k2 hK b3.e (fun _ _ => rfl) (fun _ _ => rfl)
    have loop := fun x5 => e8_chanceL (v := v) (n := n) (q := q) (w := w) (x5 := x5) c2 c3 O h48 hK.K ht hn hq
    unfold SimC jX7_chance_60 fX7_runByChance jX8_chance_62 jX8_chance_104 jX8_chance_107 jX8_chance_240 jX8_chance_243 jX8_chance_246
    simp only [L0, L1, L2, L3, L4, L5, L6, L7, L8, L9, L10, L11, L12, L13, L14, L15, L16, L17, L18, L19, L20, L21, L22, L23, L24, L25, L26, L27, L28, L29, L30, L31, L32, L33, L34, L35, L36, L37, L38, L39, L40, L41, L42, L43, L44, L45, L46, L47, L48, L50, L57, L59, L60, L63, L64, L65, L70, L80, L90, L97, L100, L110, L120, L122, L128, L150, L200, L208, L216, L224, L232, L240, L248, L255, L256, L264, L272, L280, L288, L296, L297, L300, L336, L337, L500, L680, L700, L998, L999, L1000, L1024, L1999, L6403, L9999, L10000, L12345, L99999, L1000000, L214424576, L412560384, L509804544, L639025541, L642945024, L658545824, L1103515245, L2147483647, g8_0, r8_1, r8_3, r8_4, r8_5, r8_6, r8_7, r8_8, r8_9, r8_10, r8_11, r8_12, r8_13, r8_14, r8_15, r8_26, r8_27, r8_28, r8_29, r8_30, r8_33, r8_34, r8_35, r8_36, r8_37, r8_39, r8_40, r8_41, r8_43, r8_44, r8_45, g7_0, a1, b1, bd1_e, bd2_e, b2, rf8 b3.pl hp, g7_p hp, b3.P.nf, b3.P.nl, s70, s71, s73, c1, t0, t1, t3]
    have key : ∀ x5, ∃ y8 m', lp (fun s19 : Int32 × Int32 × Mm => bX8_chance_115 SX8 0 (nI n) (nI q) (nI w) x5 s19.1 s19.2.1 s19.2.2) fu (nI 0, nI 0, m2) = some y8 ∧ y8.1 = nI (chS π X q v n).2.2 ∧ fX8_sumOf SX8 y8.2 0 (nI 5) = some (nI (sm π.nf (fun f => (chS π X q v n).2.1 (240 + f)))) ∧ fX8_sumOf SX8 y8.2 0 (nI 6) = some (nI (sm π.nf (fun f => (chS π X q v n).2.1 (256 + f)))) ∧ fX8_lostAll SX8 y8.2 0 = some (nI (sm π.nl (fun l => (chS π X q v n).2.1 (50 + l)))) ∧ fX8_copies SX8 y8.2 17 (nI 0) 15 (nI 0) = some m' ∧ Sim y.2 m' := by
      intro x5
      obtain ⟨y8, d1, d2, d3, d4⟩ := loop x5
      obtain ⟨m', k1, k2, _⟩ := c4 y8.2 d4
      exact ⟨y8, m', d1, d2, e8_sumOf (w := 5) (g := fun f => (chS π X q v n).2.1 (240 + f)) (d4.P c3) O (by omega) (fun f hf => d3.deliv f (by omega)), e8_sumOf (w := 6) (g := fun f => (chS π X q v n).2.1 (256 + f)) (d4.P c3) O (by omega) (fun f hf => d3.notices f (by omega)), e8_lostAll d3 (d4.P c3) O, k1, Sf m' k2⟩
    match w, hw with
    | 0, _ =>
      obtain ⟨y8, m', d1, d2, d3, d4, d5, d6, d7⟩ := key (nI (sm π.nf (fun f => X (240 + f))))
      refine ⟨_, _, m', rfl, ?_, d7⟩
      show (bd1 (lp (fun s19 : Int32 × Int32 × Mm => bX8_chance_115 SX8 0 (nI n) (nI q) (nI 0) (nI (sm π.nf (fun f => X (240 + f)))) s19.1 s19.2.1 s19.2.2) fu (nI 0, nI 0, m2)) fun y20 => bd1 (fX8_sumOf SX8 y20.2 0 (nI 5)) fun a21 => bd1 (fX8_copies SX8 y20.2 17 (nI 0) 15 (nI 0)) fun m22 => some (a21 - nI (sm π.nf (fun f => X (240 + f))), m22)) = _
      rw [d1, bd1_e, d3, bd1_e, d6, bd1_e]
    | 1, _ =>
      obtain ⟨y8, m', d1, d2, d3, d4, d5, d6, d7⟩ := key (nI (sm π.nl (fun l => X (50 + l))))
      refine ⟨_, _, m', rfl, ?_, d7⟩
      show (bd1 (lp (fun s19 : Int32 × Int32 × Mm => bX8_chance_115 SX8 0 (nI n) (nI q) (nI 1) (nI (sm π.nl (fun l => X (50 + l)))) s19.1 s19.2.1 s19.2.2) fu (nI 0, nI 0, m2)) fun y20 => bd1 (fX8_lostAll SX8 y20.2 0) fun a21 => bd1 (fX8_copies SX8 y20.2 17 (nI 0) 15 (nI 0)) fun m22 => some (a21 - nI (sm π.nl (fun l => X (50 + l))), m22)) = _
      rw [d1, bd1_e, d5, bd1_e, d6, bd1_e]
    | 2, _ =>
      obtain ⟨y8, m', d1, d2, d3, d4, d5, d6, d7⟩ := key (nI (sm π.nf (fun f => X (240 + f))))
      refine ⟨_, _, m', rfl, ?_, d7⟩
      show (bd1 (lp (fun s19 : Int32 × Int32 × Mm => bX8_chance_115 SX8 0 (nI n) (nI q) (nI 2) (nI (sm π.nf (fun f => X (240 + f)))) s19.1 s19.2.1 s19.2.2) fu (nI 0, nI 0, m2)) fun y20 => bd1 (fX8_copies SX8 y20.2 17 (nI 0) 15 (nI 0)) fun m22 => some (y20.1, m22)) = _
      rw [d1, bd1_e, d6, bd1_e, d2]
    | 3, _ =>
      obtain ⟨y8, m', d1, d2, d3, d4, d5, d6, d7⟩ := key (nI (sm π.nf (fun f => X (256 + f))))
      refine ⟨_, _, m', rfl, ?_, d7⟩
      show (bd1 (lp (fun s19 : Int32 × Int32 × Mm => bX8_chance_115 SX8 0 (nI n) (nI q) (nI 3) (nI (sm π.nf (fun f => X (256 + f)))) s19.1 s19.2.1 s19.2.2) fu (nI 0, nI 0, m2)) fun y20 => bd1 (fX8_sumOf SX8 y20.2 0 (nI 6)) fun a21 => bd1 (fX8_copies SX8 y20.2 17 (nI 0) 15 (nI 0)) fun m22 => some (a21 - nI (sm π.nf (fun f => X (256 + f))), m22)) = _
      rw [d1, bd1_e, d4, bd1_e, d6, bd1_e]
  unfold SimC fX7_chance jX7_chance_38 fX8_chance jX8_chance_43
  have hs7 : ldA SX7 0 mF (p + 9) (nI 6) = some (nI π.seed) := by rw [ldA_n (s7_p9 hp) (by omega) (by omega), hF.P.seed]
  have hs8 : ldA SX8 0 (u1 mM 0 0 (nI 0)) 2 (nI 8) = some (nI π.seed) := by rw [ldA_n s8_2 (by omega) (by omega), hM.P.seed]
  simp only [L0, L1, L2, L3, L4, L5, L6, L7, L8, L9, L10, L11, L12, L13, L14, L15, L16, L17, L18, L19, L20, L21, L22, L23, L24, L25, L26, L27, L28, L29, L30, L31, L32, L33, L34, L35, L36, L37, L38, L39, L40, L41, L42, L43, L44, L45, L46, L47, L48, L50, L57, L59, L60, L63, L64, L65, L70, L80, L90, L97, L100, L110, L120, L122, L128, L150, L200, L208, L216, L224, L232, L240, L248, L255, L256, L264, L272, L280, L288, L296, L297, L300, L336, L337, L500, L680, L700, L998, L999, L1000, L1024, L1999, L6403, L9999, L10000, L12345, L99999, L1000000, L214424576, L412560384, L509804544, L639025541, L642945024, L658545824, L1103515245, L2147483647, g8_0, r8_1, r8_3, r8_4, r8_5, r8_6, r8_7, r8_8, r8_9, r8_10, r8_11, r8_12, r8_13, r8_14, r8_15, r8_26, r8_27, r8_28, r8_29, r8_30, r8_33, r8_34, r8_35, r8_36, r8_37, r8_39, r8_40, r8_41, r8_43, r8_44, r8_45, g7_p hp, r7_p_0 hp, r7_p_1 hp, r7_p_2 hp, r7_p_3 hp, r7_p_4 hp, r7_p_5 hp, r7_p_6 hp, r7_p_7 hp, r7_p_8 hp, g7_0, bd1_e, hF.r8, hs7, hs8]
  by_cases h1 : a < -nI 1
  · simp only [if_pos h1]
    exact ⟨_, _, _, rfl, rfl, S'⟩
  · simp only [if_neg h1]
    rcases rng b 1 200 (by omega) (by omega) with ⟨n, hn1, hn2, rfl, x1, x2⟩ | x1 | ⟨x1, x2⟩
    · simp only [if_neg x1, if_neg x2]
      rcases rng c 0 100 (by omega) (by omega) with ⟨q, hq1, hq2, rfl, y1, y2⟩ | y1 | ⟨y1, y2⟩
      · simp only [if_neg y1, if_neg y2]
        rcases i32_cases d 4 (by omega) with ⟨w, hw, rfl⟩ | h | ⟨h, h2⟩
        · simp (disch := omega) only [nn_lt, nn_le]
          simp only [if_neg (show ¬ w < 0 by omega), if_pos (show w ≤ 3 by omega)]
          by_cases h5 : a = -nI 1
          · simp only [if_neg (fun z : ¬ a = -nI 1 => z h5)]
            exact run (nI π.seed) n q w hn2 hq2 (by omega)
          · simp only [if_pos h5]
            exact run a n q w hn2 hq2 (by omega)
        · simp only [if_pos h]
          exact ⟨_, _, _, rfl, rfl, S'⟩
        · have h3 : ¬ d ≤ nI 3 := fun z => by
            have c1 := Int32.le_iff_toInt_le.mp z
            have c2 := Int32.le_iff_toInt_le.mp h2
            have z1 : (nI 3).toInt = 3 := rfl
            have z2 : (nI 4).toInt = 4 := rfl
            omega
          simp only [if_neg h, if_neg h3]
          exact ⟨_, _, _, rfl, rfl, S'⟩
      · simp only [if_pos y1]
        exact ⟨_, _, _, rfl, rfl, S'⟩
      · simp only [if_neg y1, if_pos y2]
        exact ⟨_, _, _, rfl, rfl, S'⟩
    · simp only [if_pos x1]
      exact ⟨_, _, _, rfl, rfl, S'⟩
    · simp only [if_neg x1, if_pos x2]
      exact ⟨_, _, _, rfl, rfl, S'⟩
