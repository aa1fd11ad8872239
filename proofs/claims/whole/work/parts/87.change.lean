/-! ===== calls that change the row ===== -/
theorem ge1 {a : Int32} (h : ¬ a < nI 1) : ∃ k, a = nI k ∧ 1 ≤ k ∧ k < 2147483648 := by
  obtain ⟨j, hj, rfl⟩ := nI_of (x := a) (fun c => h (by
    have c1 := Int32.lt_iff_toInt_lt.mp c
    refine Int32.lt_iff_toInt_lt.mpr ?_
    have z0 : (0 : Int32).toInt = 0 := rfl
    have z1 : (nI 1).toInt = 1 := rfl
    omega))
  exact ⟨j, rfl, by
    by_cases c : 1 ≤ j
    · exact c
    · exact absurd ((nn_lt hj (by omega)).mpr (by omega)) h, hj⟩
theorem sim_rate {mF mM : Mm} (S : Sim mF mM) (a b : Int32) : SimC (fX7_rate SX7 mF 0 a b) (fX8_rate SX8 mM 0 a b) := by
  obtain ⟨π, X, U, I, p, top, tl, B, fc, fp, hF, hM0, hK⟩ := S
  have hM := hM0.thr (v := nI 0)
  have hnf := hK.O.nf
  have hp := hF.hp
  have S' : Sim mF (u1 mM 0 0 (nI 0)) := ⟨π, X, U, I, p, top, tl, B, fc, fp, hF, hM, hK⟩
  unfold SimC fX7_rate jX7_rate_20 fX8_rate jX8_rate_25
  simp only [L0, L1, L2, L3, L4, L5, L6, L7, L8, L9, L10, L11, L12, L13, L14, L15, L16, L17, L18, L19, L20, L21, L22, L23, L24, L25, L26, L27, L28, L29, L30, L31, L32, L33, L34, L35, L36, L37, L38, L39, L40, L41, L42, L43, L44, L45, L46, L47, L48, L50, L57, L59, L60, L63, L64, L65, L70, L80, L90, L97, L100, L110, L120, L122, L128, L150, L200, L208, L216, L224, L232, L240, L248, L255, L256, L264, L272, L280, L288, L296, L297, L300, L336, L337, L500, L680, L700, L998, L999, L1000, L1024, L1999, L6403, L9999, L10000, L12345, L99999, L1000000, L214424576, L412560384, L509804544, L639025541, L642945024, L658545824, L1103515245, L2147483647, g8_0, r8_1, r8_3, r8_4, r8_5, r8_6, r8_7, r8_8, r8_9, r8_10, r8_11, r8_12, r8_13, r8_14, r8_15, r8_26, r8_27, r8_28, r8_29, r8_30, r8_33, r8_34, r8_35, r8_36, r8_37, r8_39, r8_40, r8_41, r8_43, r8_44, r8_45, g7_0, r7_0_5, r7_0_6, bd1_e]
  rcases i32_cases a π.nf (by omega) with ⟨k, hk, rfl⟩ | h
  · simp only [(fl_1 hF hM hK.O hk).1, (fl_1 hF hM hK.O hk).2, bd1_e, if_neg n10]
    by_cases h1 : b < nI 1
    · simp only [if_pos h1]
      exact ⟨_, _, _, rfl, rfl, S'⟩
    · obtain ⟨r, rfl, hr1, hr2⟩ := ge1 h1
      simp only [if_neg h1]
      by_cases h2 : nI r ≤ nI 1024
      · have hr3 := (nn_le hr2 (by omega)).mp h2
        simp only [if_pos h2]
        obtain ⟨m1, a1, a2, _⟩ := e_push hF hK.ul
        obtain ⟨m2, b1, b2⟩ := e8_remembers hM hK.ul
        have hk8 : k < 8 := by omega
        simp (disch := omega) only [a1, b1, bd1_e, e8_flowAt, nI_add, ldA_n s7_19, a2.C.row, stA_n s7_19, narA_0, ldA_n s8_15, b2.R.rate k hk8, stA_n s8_15]
        exact ⟨_, _, _, rfl, rfl, π, _, _, I, p, _, tl, B, fc, fp, (a2.st (by omega)).st (by omega), b2.row ((b2.R.st_rate r hk8).st_target r hk8) (Fr.st (P := fun o => o = 15) (Fr.u1 rfl) rfl), (hK.push.set (by omega)).set (by omega)⟩
      · simp only [if_neg h2]
        exact ⟨_, _, _, rfl, rfl, S'⟩
  · simp only [(fl_0 hF hM hK.O h).1, (fl_0 hF hM hK.O h).2, bd1_e]
    exact ⟨_, _, _, rfl, rfl, S'⟩
theorem sim_turn {mF mM : Mm} (S : Sim mF mM) (a : Int32) : SimC (fX7_turn SX7 mF 0 a) (fX8_turn SX8 mM 0 a) := by
  obtain ⟨π, X, U, I, p, top, tl, B, fc, fp, hF, hM0, hK⟩ := S
  have hM := hM0.thr (v := nI 0)
  have hnf := hK.O.nf
  have hp := hF.hp
  have S' : Sim mF (u1 mM 0 0 (nI 0)) := ⟨π, X, U, I, p, top, tl, B, fc, fp, hF, hM, hK⟩
  unfold SimC fX7_turn fX8_turn
  simp only [L0, L1, L2, L3, L4, L5, L6, L7, L8, L9, L10, L11, L12, L13, L14, L15, L16, L17, L18, L19, L20, L21, L22, L23, L24, L25, L26, L27, L28, L29, L30, L31, L32, L33, L34, L35, L36, L37, L38, L39, L40, L41, L42, L43, L44, L45, L46, L47, L48, L50, L57, L59, L60, L63, L64, L65, L70, L80, L90, L97, L100, L110, L120, L122, L128, L150, L200, L208, L216, L224, L232, L240, L248, L255, L256, L264, L272, L280, L288, L296, L297, L300, L336, L337, L500, L680, L700, L998, L999, L1000, L1024, L1999, L6403, L9999, L10000, L12345, L99999, L1000000, L214424576, L412560384, L509804544, L639025541, L642945024, L658545824, L1103515245, L2147483647, g8_0, r8_1, r8_3, r8_4, r8_5, r8_6, r8_7, r8_8, r8_9, r8_10, r8_11, r8_12, r8_13, r8_14, r8_15, r8_26, r8_27, r8_28, r8_29, r8_30, r8_33, r8_34, r8_35, r8_36, r8_37, r8_39, r8_40, r8_41, r8_43, r8_44, r8_45, g7_0, r7_0_5, r7_0_6, bd1_e]
  rcases i32_cases a π.nf (by omega) with ⟨k, hk, rfl⟩ | h
  · simp only [(fl_1 hF hM hK.O hk).1, (fl_1 hF hM hK.O hk).2, bd1_e]
    rw [if_pos n10, if_pos n10]
    obtain ⟨m1, a1, a2, _⟩ := e_push hF hK.ul
    obtain ⟨m2, b1, b2⟩ := e8_remembers hM hK.ul
    have hk8 : k < 8 := by omega
    have hon := hK.K.1.1.on k hk8
    simp (disch := omega) only [a1, b1, bd1_e, e8_flowAt, nI_add, ldA_n s7_19, a2.C.row, stA_n s7_19, narA_0, ldA_n s8_15, b2.R.on k hk8, stA_n s8_15, pk_sub, u1_rs]
    exact ⟨_, _, _, rfl, rfl, π, _, _, I, p, _, tl, B, fc, fp, a2.st (by omega), b2.row (b2.R.st_on _ hk8) (Fr.u1 rfl), hK.push.set (by omega)⟩
  · simp only [(fl_0 hF hM hK.O h).1, (fl_0 hF hM hK.O h).2, bd1_e]
    exact ⟨_, _, _, rfl, rfl, S'⟩
theorem sim_size {mF mM : Mm} (S : Sim mF mM) (a b : Int32) : SimC (fX7_size SX7 mF 0 a b) (fX8_size SX8 mM 0 a b) := by
  obtain ⟨π, X, U, I, p, top, tl, B, fc, fp, hF, hM0, hK⟩ := S
  have hM := hM0.thr (v := nI 0)
  have hnl := hK.O.nl
  have hp := hF.hp
  have S' : Sim mF (u1 mM 0 0 (nI 0)) := ⟨π, X, U, I, p, top, tl, B, fc, fp, hF, hM, hK⟩
  unfold SimC fX7_size jX7_size_20 fX8_size jX8_size_25
  simp only [L0, L1, L2, L3, L4, L5, L6, L7, L8, L9, L10, L11, L12, L13, L14, L15, L16, L17, L18, L19, L20, L21, L22, L23, L24, L25, L26, L27, L28, L29, L30, L31, L32, L33, L34, L35, L36, L37, L38, L39, L40, L41, L42, L43, L44, L45, L46, L47, L48, L50, L57, L59, L60, L63, L64, L65, L70, L80, L90, L97, L100, L110, L120, L122, L128, L150, L200, L208, L216, L224, L232, L240, L248, L255, L256, L264, L272, L280, L288, L296, L297, L300, L336, L337, L500, L680, L700, L998, L999, L1000, L1024, L1999, L6403, L9999, L10000, L12345, L99999, L1000000, L214424576, L412560384, L509804544, L639025541, L642945024, L658545824, L1103515245, L2147483647, g8_0, r8_1, r8_3, r8_4, r8_5, r8_6, r8_7, r8_8, r8_9, r8_10, r8_11, r8_12, r8_13, r8_14, r8_15, r8_26, r8_27, r8_28, r8_29, r8_30, r8_33, r8_34, r8_35, r8_36, r8_37, r8_39, r8_40, r8_41, r8_43, r8_44, r8_45, g7_0, r7_0_5, r7_0_6, bd1_e]
  rcases i32_cases a π.nl (by omega) with ⟨k, hk, rfl⟩ | h
  · simp only [(lk_1 hF hM hK.O hk).1, (lk_1 hF hM hK.O hk).2, bd1_e, if_neg n10]
    by_cases h1 : b < nI 1
    · simp only [if_pos h1]
      exact ⟨_, _, _, rfl, rfl, S'⟩
    · obtain ⟨r, rfl, hr1, hr2⟩ := ge1 h1
      simp only [if_neg h1]
      by_cases h2 : nI r ≤ nI 1999
      · have hr3 := (nn_le hr2 (by omega)).mp h2
        simp only [if_pos h2]
        obtain ⟨m1, a1, a2, _⟩ := e_push hF hK.ul
        obtain ⟨m2, b1, b2⟩ := e8_remembers hM hK.ul
        have hk10 : k < 10 := by omega
        simp (disch := omega) only [a1, b1, bd1_e, nI_add, pk_mul, ldA_n s7_19, a2.C.row, stA_n s7_19, narA_0, ldA_n s8_15, b2.R.size k hk10, stA_n s8_15]
        exact ⟨_, _, _, rfl, rfl, π, _, _, I, p, _, tl, B, fc, fp, a2.st (by omega), b2.row (b2.R.st_size _ hk10) (Fr.u1 rfl), hK.push.set (by omega)⟩
      · simp only [if_neg h2]
        exact ⟨_, _, _, rfl, rfl, S'⟩
  · simp only [(lk_0 hF hM hK.O h).1, (lk_0 hF hM hK.O h).2, bd1_e]
    exact ⟨_, _, _, rfl, rfl, S'⟩
theorem sim_bounds {mF mM : Mm} (S : Sim mF mM) (a b c : Int32) : SimC (fX7_bounds SX7 mF 0 a b c) (fX8_bounds SX8 mM 0 a b c) := by
  obtain ⟨π, X, U, I, p, top, tl, B, fc, fp, hF, hM0, hK⟩ := S
  have hM := hM0.thr (v := nI 0)
  have hnl := hK.O.nl
  have hp := hF.hp
  have S' : Sim mF (u1 mM 0 0 (nI 0)) := ⟨π, X, U, I, p, top, tl, B, fc, fp, hF, hM, hK⟩
  unfold SimC fX7_bounds jX7_bounds_36 fX8_bounds jX8_bounds_34
  simp only [L0, L1, L2, L3, L4, L5, L6, L7, L8, L9, L10, L11, L12, L13, L14, L15, L16, L17, L18, L19, L20, L21, L22, L23, L24, L25, L26, L27, L28, L29, L30, L31, L32, L33, L34, L35, L36, L37, L38, L39, L40, L41, L42, L43, L44, L45, L46, L47, L48, L50, L57, L59, L60, L63, L64, L65, L70, L80, L90, L97, L100, L110, L120, L122, L128, L150, L200, L208, L216, L224, L232, L240, L248, L255, L256, L264, L272, L280, L288, L296, L297, L300, L336, L337, L500, L680, L700, L998, L999, L1000, L1024, L1999, L6403, L9999, L10000, L12345, L99999, L1000000, L214424576, L412560384, L509804544, L639025541, L642945024, L658545824, L1103515245, L2147483647, g8_0, r8_1, r8_3, r8_4, r8_5, r8_6, r8_7, r8_8, r8_9, r8_10, r8_11, r8_12, r8_13, r8_14, r8_15, r8_26, r8_27, r8_28, r8_29, r8_30, r8_33, r8_34, r8_35, r8_36, r8_37, r8_39, r8_40, r8_41, r8_43, r8_44, r8_45, g7_0, r7_0_5, r7_0_6, bd1_e, okZ_0, okZ_1]
  rcases i32_cases a π.nl (by omega) with ⟨k, hk, rfl⟩ | h
  · simp only [(lk_1 hF hM hK.O hk).1, (lk_1 hF hM hK.O hk).2, bd1_e, if_neg n10]
    by_cases h1 : b < nI 1
    · simp only [if_pos h1]
      exact ⟨_, _, _, rfl, rfl, S'⟩
    · obtain ⟨r, rfl, hr1, hr2⟩ := ge1 h1
      simp only [if_neg h1]
      by_cases h2 : nI 999 < nI r
      · simp only [if_pos h2]
        exact ⟨_, _, _, rfl, rfl, S'⟩
      · have hr3 : r ≤ 999 := by
          by_cases q : r ≤ 999
          · exact q
          · exact absurd ((nn_lt (by omega) hr2).mpr (by omega)) h2
        simp only [if_neg h2]
        by_cases h3 : c < nI 0
        · simp only [if_pos h3]
          exact ⟨_, _, _, rfl, rfl, S'⟩
        · obtain ⟨w, hw, rfl⟩ := nI_of (x := c) h3
          simp only [if_neg h3]
          simp (disch := omega) only [nn_lt]
          by_cases h4 : w < r
          · simp only [if_pos h4, if_neg (show ¬ 998 < w by omega)]
            obtain ⟨m1, a1, a2, _⟩ := e_push hF hK.ul
            obtain ⟨m2, b1, b2⟩ := e8_remembers hM hK.ul
            have hk10 : k < 10 := by omega
            simp (disch := omega) only [a1, b1, bd1_e, nI_add, pk_mul, stA_n s7_19, narA_0, stA_n s8_15]
            exact ⟨_, _, _, rfl, rfl, π, _, _, I, p, _, tl, B, fc, fp, (a2.st (by omega)).st (by omega), b2.row ((b2.R.st_xoff r hk10).st_xon w hk10) (Fr.st (P := fun o => o = 15) (Fr.u1 rfl) rfl), (hK.push.set (by omega)).set (by omega)⟩
          · simp only [if_neg h4]
            refine ⟨_, _, _, ?_, rfl, S'⟩
            split <;> rfl
  · simp only [(lk_0 hF hM hK.O h).1, (lk_0 hF hM hK.O h).2, bd1_e]
    exact ⟨_, _, _, rfl, rfl, S'⟩
/-! undone, kept, brought back -/
theorem SM.thrU {m : Mm} {π : Pl} {X Y : Nat → Nat} {U : List (Nat → Nat)} {I : Option (Nat → Nat)} {tl : Nat} {B : Nat → Nat} {fc fp : Int32} (h : SM m π X (Y :: U) I tl B fc fp) : SM (u1 m 0 31 (nI U.length)) π X U I tl B fc fp := by
  refine h.past (Fr.u1 (Or.inl rfl)) (fun j hj => u1_rn (Or.inl hj)) u1_rs ?_
  intro j Z hj
  have hlt : j < U.length := (List.getElem?_eq_some_iff.mp hj).1
  refine (h.rows (j + 1) Z (by simpa using hj)).eq (fun k hk => ?_)
  rw [u1_other (by omega), List.length_cons, show U.length + 1 - 1 - (j + 1) = U.length - 1 - j by omega]
theorem RM.mx {m : Mm} {Y X : Nat → Nat} (h : RM m Y) : RM m (mxX Y X) := h.congr (fun i hi _ => (mxX_l hi).symm)
theorem sim_undo {mF mM : Mm} (S : Sim mF mM) : SimC (fX7_undo SX7 mF 0) (fX8_undo SX8 mM 0) := by
  obtain ⟨π, X, U, I, p, top, tl, B, fc, fp, hF, hM0, hK⟩ := S
  have hM := hM0.thr (v := nI 0)
  have hul := hK.ul
  have S' : Sim mF (u1 mM 0 0 (nI 0)) := ⟨π, X, U, I, p, top, tl, B, fc, fp, hF, hM, hK⟩
  unfold SimC fX7_undo fX8_undo
  simp (disch := omega) only [L0, L1, L2, L3, L4, L5, L6, L7, L8, L9, L10, L11, L12, L13, L14, L15, L16, L17, L18, L19, L20, L21, L22, L23, L24, L25, L26, L27, L28, L29, L30, L31, L32, L33, L34, L35, L36, L37, L38, L39, L40, L41, L42, L43, L44, L45, L46, L47, L48, L50, L57, L59, L60, L63, L64, L65, L70, L80, L90, L97, L100, L110, L120, L122, L128, L150, L200, L208, L216, L224, L232, L240, L248, L255, L256, L264, L272, L280, L288, L296, L297, L300, L336, L337, L500, L680, L700, L998, L999, L1000, L1024, L1999, L6403, L9999, L10000, L12345, L99999, L1000000, L214424576, L412560384, L509804544, L639025541, L642945024, L658545824, L1103515245, L2147483647, g8_0, r8_1, r8_3, r8_4, r8_5, r8_6, r8_7, r8_8, r8_9, r8_10, r8_11, r8_12, r8_13, r8_14, r8_15, r8_26, r8_27, r8_28, r8_29, r8_30, r8_33, r8_34, r8_35, r8_36, r8_37, r8_39, r8_40, r8_41, r8_43, r8_44, r8_45, g7_0, g7_1, g7_3, g7_4, g7_8, g7_13, g7_16, r7_0_0, r7_0_1, r7_0_2, r7_0_3, r7_0_4, r7_0_5, r7_0_6, r7_0_7, r7_1_0, r7_4_0, r7_4_1, r7_4_2, r7_8_0, r7_8_1, r7_8_2, r7_8_3, r7_13_0, r7_13_1, r7_16_0, r7_16_1, bd1_e, hF.steps, hM.und, nn_eq]
  cases U with
  | nil => exact ⟨_, _, _, rfl, rfl, S'⟩
  | cons Y U =>
    rw [List.length_cons] at hul ⊢
    rw [if_pos (by omega), if_pos (by omega)]
    obtain ⟨m1, a1, a2⟩ := e_pop hF (by omega)
    have hM2 := hM.thrU
    have e31 : (u1 (u1 mM 0 0 (nI 0)) 0 31 (nI U.length)).1 0 31 = nI U.length := u1_rs
    simp (disch := omega) only [pk_sub, Nat.add_sub_cancel, e31, pk_mul, a1, bd1_e, a2.steps]
    obtain ⟨m2, g1, g2, g3, g4⟩ := e8_copies (m := u1 (u1 mM 0 0 (nI 0)) 0 31 (nI U.length)) (a := 19) (i := 337 * U.length) (b := 15) (k := 0) s8_19 s8_15 (by omega) (by omega) (by omega) (by omega) (by omega)
    have e31' : m2.1 0 31 = nI U.length := by rw [g4.2 0 (by omega), e31]
    simp only [g1, bd1_e, e31']
    have hR : RM m2 Y := by
      refine RG.m ((hM.rows 0 Y rfl).eq (fun k hk => ?_))
      have := g2 k hk
      rw [Nat.zero_add] at this
      rw [this, u1_other (by omega), List.length_cons, show U.length + 1 - 1 - 0 = U.length by omega]
    have hKY := hK.U Y List.mem_cons_self
    refine ⟨_, _, _, rfl, rfl, π, mxX Y X, U, I, p, _, tl, B, fc, fp, a2, hM2.row hR.mx g4, ?_⟩
    exact SK.mk hK.O (hKY.1.same hK.O (fun i hi => mxX_l hi)) (by rw [mxX_l (by omega)]; exact hKY.2) (by omega) (fun Z hZ => hK.U Z (List.mem_cons_of_mem _ hZ)) hK.I hK.tl hK.B
theorem sim_keep {mF mM : Mm} (S : Sim mF mM) : SimC (fX7_keep SX7 mF 0) (fX8_keep SX8 mM 0) := by
  obtain ⟨π, X, U, I, p, top, tl, B, fc, fp, hF, hM0, hK⟩ := S
  have hM := hM0.thr (v := nI 0)
  have hp := hF.hp
  unfold SimC fX7_keep fX8_keep
  simp (disch := omega) only [L0, L1, L2, L3, L4, L5, L6, L7, L8, L9, L10, L11, L12, L13, L14, L15, L16, L17, L18, L19, L20, L21, L22, L23, L24, L25, L26, L27, L28, L29, L30, L31, L32, L33, L34, L35, L36, L37, L38, L39, L40, L41, L42, L43, L44, L45, L46, L47, L48, L50, L57, L59, L60, L63, L64, L65, L70, L80, L90, L97, L100, L110, L120, L122, L128, L150, L200, L208, L216, L224, L232, L240, L248, L255, L256, L264, L272, L280, L288, L296, L297, L300, L336, L337, L500, L680, L700, L998, L999, L1000, L1024, L1999, L6403, L9999, L10000, L12345, L99999, L1000000, L214424576, L412560384, L509804544, L639025541, L642945024, L658545824, L1103515245, L2147483647, g8_0, r8_1, r8_3, r8_4, r8_5, r8_6, r8_7, r8_8, r8_9, r8_10, r8_11, r8_12, r8_13, r8_14, r8_15, r8_26, r8_27, r8_28, r8_29, r8_30, r8_33, r8_34, r8_35, r8_36, r8_37, r8_39, r8_40, r8_41, r8_43, r8_44, r8_45, g7_0, g7_1, g7_3, g7_4, g7_8, g7_13, g7_16, r7_0_0, r7_0_1, r7_0_2, r7_0_3, r7_0_4, r7_0_5, r7_0_6, r7_0_7, r7_1_0, r7_4_0, r7_4_1, r7_4_2, r7_8_0, r7_8_1, r7_8_2, r7_8_3, r7_13_0, r7_13_1, r7_16_0, r7_16_1, bd1_e, cpA_n (n1 := 297) (n2 := 297) s7_19 s7_18]
  obtain ⟨m2, g1, g2, g3, g4⟩ := e8_copies (m := u1 mM 0 0 (nI 0)) (a := 15) (i := 0) (b := 18) (k := 0) s8_15 s8_18 (by omega) (by omega) (by omega) (by omega) (by omega)
  have eo : ∀ o, o ≠ 16 → o ≠ 18 → (u1 (uA mF 18 (va_cpy (mF.1 19) (mF.1 18) 0 0 297)) 16 2 (nI 1)).1 o = mF.1 o := fun o h1 h2 => by rw [u1_other h1, uA_other h2]
  have e0 := eo 0 (by omega) (by omega)
  have hF2 : SF (u1 (uA mF 18 (va_cpy (mF.1 19) (mF.1 18) 0 0 297)) 16 2 (nI 1)) π X U (some X) p top tl B fc fp := by
    refine SF.mk hF.hp (by rw [e0]; exact hF.pl) (by rw [e0]; exact hF.sp) (by rw [e0]; exact hF.fc) (by rw [e0]; exact hF.fp) (hF.P.eq (fun o h1 h2 => eo o (by omega) (by omega))) (CF.mk (by rw [eo 19 (by omega) (by omega)]; exact hF.C.row) (by rw [eo 5 (by omega) (by omega)]; exact hF.C.mv) (by rw [eo 7 (by omega) (by omega)]; exact hF.C.sn)) ?_ ?_ hF.tlt (by rw [eo 17 (by omega) (by omega)]; exact hF.rows) u1_rs ?_ (by rw [eo 1 (by omega) (by omega)]; exact hF.len) (by rw [eo 2 (by omega) (by omega)]; exact hF.by)
    · rw [u1_rn (Or.inl (by omega)), uA_other (by omega)]; exact hF.steps
    · rw [u1_rn (Or.inl (by omega)), uA_other (by omega)]; exact hF.top
    · intro Y hY i hi
      cases hY
      rw [u1_other (by omega), uA_same, pk_cpy_in (by omega) (by omega), show 0 + (i - 0) = i by omega]
      exact hF.C.row i hi
  have eo8 : ∀ o, o ≠ 0 → o ≠ 18 → (u1 m2 0 32 (nI 1)).1 o = (u1 mM 0 0 (nI 0)).1 o := fun o h1 h2 => by rw [u1_other h1, g4.2 o h2]
  have eo0 : ∀ j, j ≠ 32 → (u1 m2 0 32 (nI 1)).1 0 j = (u1 mM 0 0 (nI 0)).1 0 j := fun j hj => by rw [u1_rn (Or.inl hj), g4.2 0 (by omega)]
  have hM2 : SM (u1 m2 0 32 (nI 1)) π X U (some X) tl B fc fp := by
    refine SM.mk (hM.P.eq (fun o h1 h2 h3 => eo8 o (by omega) (by omega))) (RG.m (by rw [eo8 15 (by omega) (by omega)]; exact hM.R.g)) (by rw [eo0 31 (by omega)]; exact hM.und) (by rw [eo8 19 (by omega) (by omega)]; exact hM.rows) u1_rs ?_ (by rw [eo0 2 (by omega)]; exact hM.len) (by rw [eo8 1 (by omega) (by omega)]; exact hM.by) (by rw [eo0 24 (by omega)]; exact hM.lf) (by rw [eo0 25 (by omega)]; exact hM.lp)
    intro Y hY
    cases hY
    refine hM.R.g.eq (fun k hk => ?_)
    have := g2 k hk
    rw [Nat.zero_add] at this
    rw [u1_other (by omega), this]
  simp (disch := omega) only [g1, bd1_e, ldA_n s7_19, hF2.C.row, ldA_n s8_15, hM2.R.tick]
  exact ⟨_, _, _, rfl, rfl, π, X, U, some X, p, top, tl, B, fc, fp, hF2, hM2, SK.mk hK.O hK.K hK.t hK.ul hK.U (fun Y hY => by cases hY; exact ⟨hK.K, hK.t⟩) hK.tl hK.B⟩
theorem sim_back {mF mM : Mm} (S : Sim mF mM) : SimC (fX7_back SX7 mF 0) (fX8_back SX8 mM 0) := by
  obtain ⟨π, X, U, I, p, top, tl, B, fc, fp, hF, hM0, hK⟩ := S
  have hM := hM0.thr (v := nI 0)
  have hp := hF.hp
  have S' : Sim mF (u1 mM 0 0 (nI 0)) := ⟨π, X, U, I, p, top, tl, B, fc, fp, hF, hM, hK⟩
  unfold SimC fX7_back fX8_back
  simp (disch := omega) only [L0, L1, L2, L3, L4, L5, L6, L7, L8, L9, L10, L11, L12, L13, L14, L15, L16, L17, L18, L19, L20, L21, L22, L23, L24, L25, L26, L27, L28, L29, L30, L31, L32, L33, L34, L35, L36, L37, L38, L39, L40, L41, L42, L43, L44, L45, L46, L47, L48, L50, L57, L59, L60, L63, L64, L65, L70, L80, L90, L97, L100, L110, L120, L122, L128, L150, L200, L208, L216, L224, L232, L240, L248, L255, L256, L264, L272, L280, L288, L296, L297, L300, L336, L337, L500, L680, L700, L998, L999, L1000, L1024, L1999, L6403, L9999, L10000, L12345, L99999, L1000000, L214424576, L412560384, L509804544, L639025541, L642945024, L658545824, L1103515245, L2147483647, g8_0, r8_1, r8_3, r8_4, r8_5, r8_6, r8_7, r8_8, r8_9, r8_10, r8_11, r8_12, r8_13, r8_14, r8_15, r8_26, r8_27, r8_28, r8_29, r8_30, r8_33, r8_34, r8_35, r8_36, r8_37, r8_39, r8_40, r8_41, r8_43, r8_44, r8_45, g7_0, g7_1, g7_3, g7_4, g7_8, g7_13, g7_16, r7_0_0, r7_0_1, r7_0_2, r7_0_3, r7_0_4, r7_0_5, r7_0_6, r7_0_7, r7_1_0, r7_4_0, r7_4_1, r7_4_2, r7_8_0, r7_8_1, r7_8_2, r7_8_3, r7_13_0, r7_13_1, r7_16_0, r7_16_1, bd1_e, hF.him, hM.him, cpA_n (n1 := 297) (n2 := 297) s7_18 s7_19]
  cases I with
  | none => exact ⟨_, _, _, rfl, rfl, S'⟩
  | some Y =>
    rw [if_pos (show ¬ nI (iz (some Y)) = nI 0 from n10), if_pos (show ¬ nI (iz (some Y)) = nI 0 from n10)]
    have eo : ∀ o, o ≠ 19 → (uA mF 19 (va_cpy (mF.1 18) (mF.1 19) 0 0 297)).1 o = mF.1 o := fun o h2 => by rw [uA_other h2]
    have e0 := eo 0 (by omega)
    have e16 := eo 16 (by omega)
    have hF2 : SF (uA mF 19 (va_cpy (mF.1 18) (mF.1 19) 0 0 297)) π (mxX Y X) U (some Y) p top tl B fc fp := by
      refine SF.mk hF.hp (by rw [e0]; exact hF.pl) (by rw [e0]; exact hF.sp) (by rw [e0]; exact hF.fc) (by rw [e0]; exact hF.fp) (hF.P.eq (fun o h1 h2 => eo o (by omega))) (CF.mk ?_ ?_ ?_) (by rw [e16]; exact hF.steps) (by rw [e16]; exact hF.top) hF.tlt (by rw [eo 17 (by omega)]; exact hF.rows) (by rw [e16]; exact hF.him) (by rw [eo 18 (by omega)]; exact hF.im) (by rw [eo 1 (by omega)]; exact hF.len) (by rw [eo 2 (by omega)]; exact hF.by)
      · intro i hi
        rw [uA_same, pk_cpy_in (by omega) (by omega), mxX_l hi, show 0 + (i - 0) = i by omega]
        exact hF.im Y rfl i hi
      · intro j hj; rw [eo 5 (by omega), mxX_r (by omega)]; exact hF.C.mv j hj
      · intro j hj; rw [eo 7 (by omega), mxX_r (by omega)]; exact hF.C.sn j hj
    obtain ⟨m3, a1, a2⟩ := e_forget hF2
    obtain ⟨m2, g1, g2, g3, g4⟩ := e8_copies (m := u1 mM 0 0 (nI 0)) (a := 18) (i := 0) (b := 15) (k := 0) s8_18 s8_15 (by omega) (by omega) (by omega) (by omega) (by omega)
    have hR : RM m2 Y := by
      refine RG.m ((hM.im Y rfl).eq (fun k hk => ?_))
      have := g2 k hk
      rw [Nat.zero_add] at this
      exact this
    have hM2 := hM.row (hR.mx (X := X)) g4
    have hM3 : SM (u1 m2 0 31 (nI 0)) π (mxX Y X) [] (some Y) tl B fc fp := hM2.past (Fr.u1 (Or.inl rfl)) (fun j hj => u1_rn (Or.inl hj)) u1_rs (fun j Z hj => by cases hj)
    simp (disch := omega) only [g1, a1, bd1_e, ldA_n s7_19, a2.C.row, ldA_n s8_15, hM3.R.tick]
    have hKY := hK.I Y rfl
    exact ⟨_, _, _, rfl, rfl, π, mxX Y X, [], some Y, p, 0, tl, B, fc, fp, a2, hM3, SK.mk hK.O (hKY.1.same hK.O (fun i hi => mxX_l hi)) (by rw [mxX_l (by omega)]; exact hKY.2) (by simp) (fun Z hZ => by cases hZ) hK.I hK.tl hK.B⟩
