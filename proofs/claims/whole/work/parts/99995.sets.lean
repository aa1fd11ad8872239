/-! ===== the lines sample, stage, seed ===== -/
section SS
variable {mF mM : Mm} {B : Nat → Nat} {n a sp : Nat} {π : Pl} {X : Nat → Nat} {td pl : Nat}
/-- the word of a line that stands once, both sides -/
theorem first2 (h : LN mF mM B n a sp π X td pl) {b w : Nat} (hb : b < 3) (hw : w < 6) (ht : mM.1 3 w = nI (bN td b)) :
    (fX2_isFirst SX7 mF 3 1 (nI (2 ^ b)) = some (nI 1, u1 mF 3 2 (nI (td ||| 2 ^ b))) ∧ ∃ m2, fX8_once SX8 mM 0 (nI w) = some m2 ∧ NS (u1 mF 3 2 (nI (td ||| 2 ^ b))) m2 B n a ∧ FM (u1 mM 3 w (nI 1)) m2) ∨
    (fX2_isFirst SX7 mF 3 1 (nI (2 ^ b)) = some (nI 0, fl7 mF 3 pl) ∧ fX8_once SX8 mM 0 (nI w) = some (u1 (fl8 mM 3 pl) 3 w (nI 1))) := by
  rcases e_isFirst (b := b) h.C.td h.p7 h.P.td hb with ⟨z, e1⟩ | ⟨z, e1⟩
  · rcases e8_once (a0 := 0) (v := bN td b) hw ht (bN_le _ _) h.Q.f0 h.p8 h.M h.hn h.hB h.ha with ⟨y, m2, f1, f2, f3, f4⟩ | ⟨y, f1⟩
    · exact Or.inl ⟨e1, m2, f1, NS.mk (h.F.o (by omega) (by omega)) f2 f3 (by rw [f4.2 22 (by omega), u1_rn (Or.inr (by omega))]; exact h.Q.f0), f4⟩
    · omega
  · rcases e8_once (a0 := 0) (v := bN td b) hw ht (bN_le _ _) h.Q.f0 h.p8 h.M h.hn h.hB h.ha with ⟨y, m2, f1, f2, f3, f4⟩ | ⟨y, f1⟩
    · omega
    · exact Or.inr ⟨e1, f1⟩
theorem lvC3 {j : Nat} : ¬ lvC sp 3 j := by unfold lvC; omega
theorem x_sample (h : LN mF mM B n a sp π X td pl) : OutX B n sp a mF mM (fX2_readSample SX7 mF 3 1 (sp + 9)) (fX8_readSample SX8 mM 0) := by
  have e7 : fX2_readSample SX7 mF 3 1 (sp + 9) = bd2 (fX2_isFirst SX7 mF 3 1 (nI 1)) fun a1 m2 => if a1 = nI 0 then some (nI 0, m2) else k3C m2 (sp + 9) 1 999 1 500 0 4 0 1 2 := by
    unfold fX2_readSample jX2_readSample_61 jX2_readSample_62 k3C
    simp only [L0, L1, L2, L3, L4, L5, L6, L7, L8, L9, L10, L11, L12, L13, L14, L15, L16, L17, L18, L19, L20, L21, L22, L23, L24, L25, L26, L27, L28, L29, L30, L31, L32, L33, L34, L35, L36, L37, L38, L39, L40, L41, L42, L43, L44, L45, L46, L47, L48, L50, L57, L59, L60, L63, L64, L65, L70, L80, L90, L97, L100, L110, L120, L122, L128, L150, L200, L208, L216, L224, L232, L240, L248, L255, L256, L264, L272, L280, L288, L296, L297, L300, L336, L337, L500, L680, L700, L998, L999, L1000, L1024, L1999, L6403, L9999, L10000, L12345, L99999, L1000000, L214424576, L412560384, L509804544, L639025541, L642945024, L658545824, L1103515245, L2147483647, g7_0, g7_1, g7_3, g7_4, g7_8, g7_13, g7_16, r7_0_0, r7_0_1, r7_0_2, r7_0_3, r7_0_4, r7_0_5, r7_0_6, r7_0_7, r7_1_0, r7_4_0, r7_4_1, r7_4_2, r7_8_0, r7_8_1, r7_8_2, r7_8_3, r7_13_0, r7_13_1, r7_16_0, r7_16_1, okZ_0, okZ_1, bd1_e]
  have e8 : fX8_readSample SX8 mM 0 = bd1 (fX8_once SX8 mM 0 (nI 2)) fun m1 => k3M m1 1 999 1 500 0 4 2 3 4 := by
    unfold fX8_readSample k3M
    simp only [L0, L1, L2, L3, L4, L5, L6, L7, L8, L9, L10, L11, L12, L13, L14, L15, L16, L17, L18, L19, L20, L21, L22, L23, L24, L25, L26, L27, L28, L29, L30, L31, L32, L33, L34, L35, L36, L37, L38, L39, L40, L41, L42, L43, L44, L45, L46, L47, L48, L50, L57, L59, L60, L63, L64, L65, L70, L80, L90, L97, L100, L110, L120, L122, L128, L150, L200, L208, L216, L224, L232, L240, L248, L255, L256, L264, L272, L280, L288, L296, L297, L300, L336, L337, L500, L680, L700, L998, L999, L1000, L1024, L1999, L6403, L9999, L10000, L12345, L99999, L1000000, L214424576, L412560384, L509804544, L639025541, L642945024, L658545824, L1103515245, L2147483647, g8_0, r8_1, r8_3, r8_4, r8_5, r8_6, r8_7, r8_8, r8_9, r8_10, r8_11, r8_12, r8_13, r8_14, r8_15, r8_26, r8_27, r8_28, r8_29, r8_30, r8_33, r8_34, r8_35, r8_36, r8_37, r8_39, r8_40, r8_41, r8_43, r8_44, r8_45]
  obtain ⟨z1, z2, z3, z4⟩ := td_1 td h.P.td 0 (by omega)
  have z5 := td_2 td h.P.td 0 (by omega)
  rcases first2 h (b := 0) (w := 2) (by omega) (by omega) h.Q.t2 with ⟨f1, m2, f2, N, f4⟩ | ⟨f1, f2⟩
  · rw [show (2 : Nat) ^ 0 = 1 from rfl] at f1 N z3 z4 z5
    have l1 : LC sp mF (u1 mF 3 2 (nI (td ||| 1))) := LC.rfl.u lvC3
    have k1 : LM mM m2 := (LM.rfl.u lvM_3).trans f4.l
    have P := h.C.P
    have PQ := h.Q.P
    have O := h.P.O
    rcases three2 (l1 := 1) (h1 := 999) (l2 := 1) (h2 := 500) (l3 := 0) (h3 := 4) (i := 0) (j := 1) (k := 2) N h.hn h.hB h.ha h.hsp (by omega) (by omega) (by omega) (by omega) (by omega) (by omega) with ⟨c, pl', F', M', q1, q2, q3, q4, q5, q6, q7, q8⟩ | ⟨v1, v2, v3, a2, F1, M1, b1, b2, b3, q1, q2, q3, q4, q5, q6, q7, q8, q9, q10, q11, q12⟩
    · refine OutX.bad q1 q2 ?_ (l1.trans q4) ?_ (k1.trans q6) q7 q8
      · rw [e7, f1, bd2_e, if_neg n1ne]; exact q3
      · rw [e8, f2, bd1_e]; exact q5
    · have g7 : ∀ j, 3 ≤ j → F1.1 (sp + 9) j = mF.1 (sp + 9) j := fun j hj => by
        rw [q11, updN (by omega), updN (by omega), updN (by omega), u1_rn (Or.inr (by omega))]
      have m2e : ∀ o, o ≠ 0 → o ≠ 3 → m2.1 o = mM.1 o := fun o h1 h2 => by rw [f4.1 o h1, u1_other h2]
      have g8 : ∀ j, j ≠ 11 → j ≠ 12 → j ≠ 13 → M1.1 2 j = mM.1 2 j := fun j h1 h2 h3 => by
        rw [q12, updN (by omega), updN (by omega), updN (by omega), m2e 2 (by omega) (by omega)]
      have m33 : M1.1 3 = (u1 mM 3 2 (nI 1)).1 3 := by rw [q9 3 (by omega) (by omega), f4.1 3 (by omega)]
      have f33 : F1.1 3 = (u1 mF 3 2 (nI (td ||| 1))).1 3 := q8 3 (by omega) (by omega)
      refine OutX.good h.hn h.hB h.hsp q1 q2 ?_ (g := gSS) gS0 gS1 ?_ q5 (l1.trans q6) (k1.trans q7) (π := π.st v1 v2 v3 π.cells π.ticks π.more π.seed) (X := X) (td := td ||| 1) ?_ ?_ ?_ ?_
      · rw [e7, f1, bd2_e, if_neg n1ne]; exact q3
      · rw [e8, f2, bd1_e]; exact q4
      · refine h.C.st h.hsp (fun o h1 h2 h3 => by rw [q8 o h1 h3, u1_other h2]) ?_ ?_ ?_ ?_ ?_ ?_ ?_ ?_ ?_ ?_
        · rw [f33, u1_rn (Or.inl (by omega))]; exact h.C.code
        · rw [f33, u1_rn (Or.inl (by omega))]; exact h.C.place
        · rw [f33, u1_rs]
        · rw [q11, updN (by omega), updN (by omega), updS]
        · rw [q11, updN (by omega), updS]
        · rw [q11, updS]
        · rw [g7 3 (by omega)]; exact P.cells
        · rw [g7 4 (by omega)]; exact P.ticks
        · rw [g7 5 (by omega)]; exact P.more
        · rw [g7 6 (by omega)]; exact P.seed
      · refine h.Q.st (fun o h1 h2 h3 => by rw [q9 o h1 h2, m2e o h1 h3]) (g8 9 (by omega) (by omega) (by omega)) (g8 10 (by omega) (by omega) (by omega)) ?_ ?_ ?_ ?_ ?_ ?_ ?_ ?_ ?_ ?_ ?_
        · exact q5.f0
        · rw [m33, u1_rs, z4]
        · rw [m33, u1_rn (Or.inl (by omega)), z5 1 (by omega) (by omega)]; exact h.Q.t3
        · rw [m33, u1_rn (Or.inl (by omega)), z5 2 (by omega) (by omega)]; exact h.Q.t5
        · rw [q12, updN (by omega), updN (by omega)]; exact updS
        · rw [q12, updN (by omega)]; exact updS
        · rw [q12]; exact updS
        · rw [g8 14 (by omega) (by omega) (by omega)]; exact PQ.cells
        · rw [g8 15 (by omega) (by omega) (by omega)]; exact PQ.ticks
        · rw [g8 16 (by omega) (by omega) (by omega)]; exact PQ.more
        · rw [g8 17 (by omega) (by omega) (by omega)]; exact PQ.seed
      · exact h.P.st (Pl.st_ok O b1 b2 b3.2 O.cells O.ticks O.more O.seed) z3
      · rw [q10 16 (by omega), f4.2 16 (by omega), u1_rn (Or.inr (by omega))]
  · rw [show (2 : Nat) ^ 0 = 1 from rfl] at f1
    refine OutX.bad (c := 3) (pl := pl) (by omega) (by omega) (by rw [e7, f1, bd2_e, if_pos rfl]) LC.rfl (by rw [e8, f2, bd1_e]; exact e8_three1 (c := 3) (by omega) (by omega) (f22 fl8_22 (by omega)) _ _ _ _ _ _ (by omega) (by omega) (by omega)) ?_ ?_ ?_
    · exact (((LM.rfl.f.u lvM_3).u (lvM_2 (by omega))).u (lvM_2 (by omega))).u (lvM_2 (by omega))
    · exact f22 (f22 (f22 (f22 fl8_22 (by omega)) (by omega)) (by omega)) (by omega)
    · exact f23 (f23 (f23 (f23 fl8_23 (by omega)) (by omega)) (by omega)) (by omega)
theorem x_stage (h : LN mF mM B n a sp π X td pl) : OutX B n sp a mF mM (fX2_readStage SX7 mF 3 1 (sp + 9)) (fX8_readStage SX8 mM 0) := by
  have e7 : fX2_readStage SX7 mF 3 1 (sp + 9) = bd2 (fX2_isFirst SX7 mF 3 1 (nI 2)) fun a1 m2 => if a1 = nI 0 then some (nI 0, m2) else k3C m2 (sp + 9) 1 999 1 99 1 99 3 4 5 := by
    unfold fX2_readStage jX2_readStage_61 jX2_readStage_62 k3C
    simp only [L0, L1, L2, L3, L4, L5, L6, L7, L8, L9, L10, L11, L12, L13, L14, L15, L16, L17, L18, L19, L20, L21, L22, L23, L24, L25, L26, L27, L28, L29, L30, L31, L32, L33, L34, L35, L36, L37, L38, L39, L40, L41, L42, L43, L44, L45, L46, L47, L48, L50, L57, L59, L60, L63, L64, L65, L70, L80, L90, L97, L100, L110, L120, L122, L128, L150, L200, L208, L216, L224, L232, L240, L248, L255, L256, L264, L272, L280, L288, L296, L297, L300, L336, L337, L500, L680, L700, L998, L999, L1000, L1024, L1999, L6403, L9999, L10000, L12345, L99999, L1000000, L214424576, L412560384, L509804544, L639025541, L642945024, L658545824, L1103515245, L2147483647, L99, g7_0, g7_1, g7_3, g7_4, g7_8, g7_13, g7_16, r7_0_0, r7_0_1, r7_0_2, r7_0_3, r7_0_4, r7_0_5, r7_0_6, r7_0_7, r7_1_0, r7_4_0, r7_4_1, r7_4_2, r7_8_0, r7_8_1, r7_8_2, r7_8_3, r7_13_0, r7_13_1, r7_16_0, r7_16_1, okZ_0, okZ_1, bd1_e]
  have e8 : fX8_readStage SX8 mM 0 = bd1 (fX8_once SX8 mM 0 (nI 3)) fun m1 => k3M m1 1 999 1 99 1 99 5 6 7 := by
    unfold fX8_readStage k3M
    simp only [L0, L1, L2, L3, L4, L5, L6, L7, L8, L9, L10, L11, L12, L13, L14, L15, L16, L17, L18, L19, L20, L21, L22, L23, L24, L25, L26, L27, L28, L29, L30, L31, L32, L33, L34, L35, L36, L37, L38, L39, L40, L41, L42, L43, L44, L45, L46, L47, L48, L50, L57, L59, L60, L63, L64, L65, L70, L80, L90, L97, L100, L110, L120, L122, L128, L150, L200, L208, L216, L224, L232, L240, L248, L255, L256, L264, L272, L280, L288, L296, L297, L300, L336, L337, L500, L680, L700, L998, L999, L1000, L1024, L1999, L6403, L9999, L10000, L12345, L99999, L1000000, L214424576, L412560384, L509804544, L639025541, L642945024, L658545824, L1103515245, L2147483647, L99, g8_0, r8_1, r8_3, r8_4, r8_5, r8_6, r8_7, r8_8, r8_9, r8_10, r8_11, r8_12, r8_13, r8_14, r8_15, r8_26, r8_27, r8_28, r8_29, r8_30, r8_33, r8_34, r8_35, r8_36, r8_37, r8_39, r8_40, r8_41, r8_43, r8_44, r8_45]
  obtain ⟨z1, z2, z3, z4⟩ := td_1 td h.P.td 1 (by omega)
  have z5 := td_2 td h.P.td 1 (by omega)
  rcases first2 h (b := 1) (w := 3) (by omega) (by omega) h.Q.t3 with ⟨f1, m2, f2, N, f4⟩ | ⟨f1, f2⟩
  · rw [show (2 : Nat) ^ 1 = 2 from rfl] at f1 N z3 z4 z5
    have l1 : LC sp mF (u1 mF 3 2 (nI (td ||| 2))) := LC.rfl.u lvC3
    have k1 : LM mM m2 := (LM.rfl.u lvM_3).trans f4.l
    have P := h.C.P
    have PQ := h.Q.P
    have O := h.P.O
    rcases three2 (l1 := 1) (h1 := 999) (l2 := 1) (h2 := 99) (l3 := 1) (h3 := 99) (i := 3) (j := 4) (k := 5) N h.hn h.hB h.ha h.hsp (by omega) (by omega) (by omega) (by omega) (by omega) (by omega) with ⟨c, pl', F', M', q1, q2, q3, q4, q5, q6, q7, q8⟩ | ⟨v1, v2, v3, a2, F1, M1, b1, b2, b3, q1, q2, q3, q4, q5, q6, q7, q8, q9, q10, q11, q12⟩
    · refine OutX.bad q1 q2 ?_ (l1.trans q4) ?_ (k1.trans q6) q7 q8
      · rw [e7, f1, bd2_e, if_neg n1ne]; exact q3
      · rw [e8, f2, bd1_e]; exact q5
    · have g7 : ∀ j, j ≠ 3 → j ≠ 4 → j ≠ 5 → F1.1 (sp + 9) j = mF.1 (sp + 9) j := fun j h3 h4 h5 => by
        rw [q11, updN (by omega), updN (by omega), updN (by omega), u1_rn (Or.inr (by omega))]
      have m2e : ∀ o, o ≠ 0 → o ≠ 3 → m2.1 o = mM.1 o := fun o h1 h2 => by rw [f4.1 o h1, u1_other h2]
      have g8 : ∀ j, j ≠ 14 → j ≠ 15 → j ≠ 16 → M1.1 2 j = mM.1 2 j := fun j h1 h2 h3 => by
        rw [q12, updN (by omega), updN (by omega), updN (by omega), m2e 2 (by omega) (by omega)]
      have m33 : M1.1 3 = (u1 mM 3 3 (nI 1)).1 3 := by rw [q9 3 (by omega) (by omega), f4.1 3 (by omega)]
      have f33 : F1.1 3 = (u1 mF 3 2 (nI (td ||| 2))).1 3 := q8 3 (by omega) (by omega)
      refine OutX.good h.hn h.hB h.hsp q1 q2 ?_ (g := gSS) gS0 gS1 ?_ q5 (l1.trans q6) (k1.trans q7) (π := π.st π.each π.middle π.weight v1 v2 v3 π.seed) (X := X) (td := td ||| 2) ?_ ?_ ?_ ?_
      · rw [e7, f1, bd2_e, if_neg n1ne]; exact q3
      · rw [e8, f2, bd1_e]; exact q4
      · refine h.C.st h.hsp (fun o h1 h2 h3 => by rw [q8 o h1 h3, u1_other h2]) ?_ ?_ ?_ ?_ ?_ ?_ ?_ ?_ ?_ ?_
        · rw [f33, u1_rn (Or.inl (by omega))]; exact h.C.code
        · rw [f33, u1_rn (Or.inl (by omega))]; exact h.C.place
        · rw [f33, u1_rs]
        · rw [g7 0 (by omega) (by omega) (by omega)]; exact P.each
        · rw [g7 1 (by omega) (by omega) (by omega)]; exact P.middle
        · rw [g7 2 (by omega) (by omega) (by omega)]; exact P.weight
        · rw [q11, updN (by omega), updN (by omega), updS]
        · rw [q11, updN (by omega), updS]
        · rw [q11, updS]
        · rw [g7 6 (by omega) (by omega) (by omega)]; exact P.seed
      · refine h.Q.st (fun o h1 h2 h3 => by rw [q9 o h1 h2, m2e o h1 h3]) (g8 9 (by omega) (by omega) (by omega)) (g8 10 (by omega) (by omega) (by omega)) ?_ ?_ ?_ ?_ ?_ ?_ ?_ ?_ ?_ ?_ ?_
        · exact q5.f0
        · rw [m33, u1_rn (Or.inl (by omega)), z5 0 (by omega) (by omega)]; exact h.Q.t2
        · rw [m33, u1_rs, z4]
        · rw [m33, u1_rn (Or.inl (by omega)), z5 2 (by omega) (by omega)]; exact h.Q.t5
        · rw [g8 11 (by omega) (by omega) (by omega)]; exact PQ.each
        · rw [g8 12 (by omega) (by omega) (by omega)]; exact PQ.middle
        · rw [g8 13 (by omega) (by omega) (by omega)]; exact PQ.weight
        · rw [q12, updN (by omega), updN (by omega)]; exact updS
        · rw [q12, updN (by omega)]; exact updS
        · rw [q12]; exact updS
        · rw [g8 17 (by omega) (by omega) (by omega)]; exact PQ.seed
      · exact h.P.st (Pl.st_ok O O.each O.middle O.weight b1 b2 b3 O.seed) z3
      · rw [q10 16 (by omega), f4.2 16 (by omega), u1_rn (Or.inr (by omega))]
  · rw [show (2 : Nat) ^ 1 = 2 from rfl] at f1
    refine OutX.bad (c := 3) (pl := pl) (by omega) (by omega) (by rw [e7, f1, bd2_e, if_pos rfl]) LC.rfl (by rw [e8, f2, bd1_e]; exact e8_three1 (c := 3) (by omega) (by omega) (f22 fl8_22 (by omega)) _ _ _ _ _ _ (by omega) (by omega) (by omega)) ?_ ?_ ?_
    · exact (((LM.rfl.f.u lvM_3).u (lvM_2 (by omega))).u (lvM_2 (by omega))).u (lvM_2 (by omega))
    · exact f22 (f22 (f22 (f22 fl8_22 (by omega)) (by omega)) (by omega)) (by omega)
    · exact f23 (f23 (f23 (f23 fl8_23 (by omega)) (by omega)) (by omega)) (by omega)
theorem x_seed (h : LN mF mM B n a sp π X td pl) : OutX B n sp a mF mM (fX2_readSeed SX7 mF 3 1 (sp + 9)) (fX8_readSeed SX8 mM 0) := by
  have e7 : fX2_readSeed SX7 mF 3 1 (sp + 9) = bd2 (fX2_isFirst SX7 mF 3 1 (nI 4)) fun a1 m2 => if a1 = nI 0 then some (nI 0, m2) else bd2 (fX2_readNumber SX7 m2 3 1 (nI 0) (nI 99999) (sp + 9) (nI 6)) fun a3 m4 => if a3 = nI 0 then some (nI 0, m4) else bd2 (fX2_readSemicolon SX7 m4 3 1) fun a9 m10 => if a9 = nI 0 then some (nI 0, m10) else some (nI 1, m10) := by
    unfold fX2_readSeed jX2_readSeed_35 jX2_readSeed_36
    simp only [L0, L1, L2, L3, L4, L5, L6, L7, L8, L9, L10, L11, L12, L13, L14, L15, L16, L17, L18, L19, L20, L21, L22, L23, L24, L25, L26, L27, L28, L29, L30, L31, L32, L33, L34, L35, L36, L37, L38, L39, L40, L41, L42, L43, L44, L45, L46, L47, L48, L50, L57, L59, L60, L63, L64, L65, L70, L80, L90, L97, L100, L110, L120, L122, L128, L150, L200, L208, L216, L224, L232, L240, L248, L255, L256, L264, L272, L280, L288, L296, L297, L300, L336, L337, L500, L680, L700, L998, L999, L1000, L1024, L1999, L6403, L9999, L10000, L12345, L99999, L1000000, L214424576, L412560384, L509804544, L639025541, L642945024, L658545824, L1103515245, L2147483647, g7_0, g7_1, g7_3, g7_4, g7_8, g7_13, g7_16, r7_0_0, r7_0_1, r7_0_2, r7_0_3, r7_0_4, r7_0_5, r7_0_6, r7_0_7, r7_1_0, r7_4_0, r7_4_1, r7_4_2, r7_8_0, r7_8_1, r7_8_2, r7_8_3, r7_13_0, r7_13_1, r7_16_0, r7_16_1, okZ_0, okZ_1, bd1_e]
  have e8 : fX8_readSeed SX8 mM 0 = bd1 (fX8_once SX8 mM 0 (nI 5)) fun m1 => bd2 (fX8_numeral SX8 m1 0 (nI 0) (nI 99999)) fun a2 m3 => bd1 (fX8_reads SX8 m3 0 (nI 8) a2) fun m4 => some m4 := by
    unfold fX8_readSeed
    simp only [L0, L1, L2, L3, L4, L5, L6, L7, L8, L9, L10, L11, L12, L13, L14, L15, L16, L17, L18, L19, L20, L21, L22, L23, L24, L25, L26, L27, L28, L29, L30, L31, L32, L33, L34, L35, L36, L37, L38, L39, L40, L41, L42, L43, L44, L45, L46, L47, L48, L50, L57, L59, L60, L63, L64, L65, L70, L80, L90, L97, L100, L110, L120, L122, L128, L150, L200, L208, L216, L224, L232, L240, L248, L255, L256, L264, L272, L280, L288, L296, L297, L300, L336, L337, L500, L680, L700, L998, L999, L1000, L1024, L1999, L6403, L9999, L10000, L12345, L99999, L1000000, L214424576, L412560384, L509804544, L639025541, L642945024, L658545824, L1103515245, L2147483647, g8_0, r8_1, r8_3, r8_4, r8_5, r8_6, r8_7, r8_8, r8_9, r8_10, r8_11, r8_12, r8_13, r8_14, r8_15, r8_26, r8_27, r8_28, r8_29, r8_30, r8_33, r8_34, r8_35, r8_36, r8_37, r8_39, r8_40, r8_41, r8_43, r8_44, r8_45]
  obtain ⟨z1, z2, z3, z4⟩ := td_1 td h.P.td 2 (by omega)
  have z5 := td_2 td h.P.td 2 (by omega)
  have hx := s7_p9 h.hsp
  rcases first2 h (b := 2) (w := 5) (by omega) (by omega) h.Q.t5 with ⟨f1, m2, f2, N, f4⟩ | ⟨f1, f2⟩
  · rw [show (2 : Nat) ^ 2 = 4 from rfl] at f1 N z3 z4 z5
    have l1 : LC sp mF (u1 mF 3 2 (nI (td ||| 4))) := LC.rfl.u lvC3
    have k1 : LM mM m2 := (LM.rfl.u lvM_3).trans f4.l
    have l9 : ∀ j, ¬ lvC sp (sp + 9) j := fun j => by unfold lvC; have := h.hsp; omega
    have hs := h.hsp
    have hA1 := tzA_le (B := B) h.ha
    have P := h.C.P
    have PQ := h.Q.P
    have O := h.P.O
    rcases num2 N h.hn h.hB h.ha (lo := 0) (hi := 99999) hx (by omega) (show 6 < 7 by omega) (by omega) (by omega) with ⟨v1, F1, M1, p1, p2, p3, p4, p5, p6, p7⟩ | ⟨c, pl', F1, p1, p2, p3, p4, p5⟩
    · have m2e : ∀ o, o ≠ 0 → o ≠ 3 → m2.1 o = mM.1 o := fun o h1 h2 => by rw [f4.1 o h1, u1_other h2]
      have g7 : ∀ j, j ≠ 6 → (u1 F1 (sp + 9) 6 (nI v1)).1 (sp + 9) j = mF.1 (sp + 9) j := fun j hj => by
        rw [u1_rn (Or.inl hj), p6.1 (sp + 9) (by omega), u1_rn (Or.inr (by omega))]
      have g8 : ∀ j, j ≠ 17 → (u1 M1 2 (9 + 8) (nI v1)).1 2 j = mM.1 2 j := fun j hj => by
        rw [u1_rn (Or.inl (by omega)), p7.1 2 (by omega), m2e 2 (by omega) (by omega)]
      have m33 : (u1 M1 2 (9 + 8) (nI v1)).1 3 = (u1 mM 3 5 (nI 1)).1 3 := by rw [u1_other (by omega), p7.1 3 (by omega), f4.1 3 (by omega)]
      have f33 : (u1 F1 (sp + 9) 6 (nI v1)).1 3 = (u1 mF 3 2 (nI (td ||| 4))).1 3 := by rw [u1_other (by omega), p6.1 3 (by omega)]
      refine OutX.good h.hn h.hB h.hsp hA1.2.1 (by omega) (mF1 := u1 F1 (sp + 9) 6 (nI v1)) (mM' := u1 M1 2 (9 + 8) (nI v1)) (a2 := tzA B n a) ?_ (g := gSS) gS0 gS1 ?_ (p5.o (by omega) (by omega) (by omega) (by omega)) ((l1.trans p6.l).u (l9 _)) ((k1.trans p7.l).u (lvM_2 (by omega))) (π := π.st π.each π.middle π.weight π.cells π.ticks π.more v1) (X := X) (td := td ||| 4) ?_ ?_ ?_ ?_
      · rw [e7, f1, bd2_e, if_neg n1ne, p3, bd2_e, if_neg n1ne]; rfl
      · rw [e8, f2, bd1_e, p4, bd2_e, e8_reads (by omega), bd1_e]
      · refine h.C.st h.hsp (fun o h1 h2 h3 => by rw [u1_other h3, p6.1 o h1, u1_other h2]) ?_ ?_ ?_ ?_ ?_ ?_ ?_ ?_ ?_ ?_
        · rw [f33, u1_rn (Or.inl (by omega))]; exact h.C.code
        · rw [f33, u1_rn (Or.inl (by omega))]; exact h.C.place
        · rw [f33, u1_rs]
        · rw [g7 0 (by omega)]; exact P.each
        · rw [g7 1 (by omega)]; exact P.middle
        · rw [g7 2 (by omega)]; exact P.weight
        · rw [g7 3 (by omega)]; exact P.cells
        · rw [g7 4 (by omega)]; exact P.ticks
        · rw [g7 5 (by omega)]; exact P.more
        · rw [u1_rs]
      · refine h.Q.st (fun o h1 h2 h3 => by rw [u1_other h2, p7.1 o h1, m2e o h1 h3]) (g8 9 (by omega)) (g8 10 (by omega)) ?_ ?_ ?_ ?_ ?_ ?_ ?_ ?_ ?_ ?_ ?_
        · rw [u1_rn (Or.inr (by omega))]; exact p5.f0
        · rw [m33, u1_rn (Or.inl (by omega)), z5 0 (by omega) (by omega)]; exact h.Q.t2
        · rw [m33, u1_rn (Or.inl (by omega)), z5 1 (by omega) (by omega)]; exact h.Q.t3
        · rw [m33, u1_rs, z4]
        · rw [g8 11 (by omega)]; exact PQ.each
        · rw [g8 12 (by omega)]; exact PQ.middle
        · rw [g8 13 (by omega)]; exact PQ.weight
        · rw [g8 14 (by omega)]; exact PQ.cells
        · rw [g8 15 (by omega)]; exact PQ.ticks
        · rw [g8 16 (by omega)]; exact PQ.more
        · exact u1_rs
      · exact h.P.st (Pl.st_ok O O.each O.middle O.weight O.cells O.ticks O.more p2) z3
      · rw [u1_rn (Or.inr (by omega)), p7.2 16 (by omega), f4.2 16 (by omega), u1_rn (Or.inr (by omega))]
    · refine OutX.bad p1 p2 (mF' := F1) (mM' := u1 (fl8 m2 c pl') 2 (9 + 8) (nI 0)) ?_ (l1.trans p5.l) ?_ (k1.f.u (lvM_2 (by omega))) (f22 fl8_22 (by omega)) (f23 fl8_23 (by omega))
      · rw [e7, f1, bd2_e, if_neg n1ne, p3, bd2_e, if_pos rfl]
      · rw [e8, f2, bd1_e, p4, bd2_e, e8_reads (by omega), bd1_e]
  · rw [show (2 : Nat) ^ 2 = 4 from rfl] at f1
    refine OutX.bad (c := 3) (pl := pl) (by omega) (by omega) (by rw [e7, f1, bd2_e, if_pos rfl]) LC.rfl (by rw [e8, f2, bd1_e, e8_numeral1 (c := 3) (by omega) (by omega) (f22 fl8_22 (by omega)), bd2_e, e8_reads (by omega), bd1_e]) ?_ ?_ ?_
    · exact (LM.rfl.f.u lvM_3).u (lvM_2 (by omega))
    · exact f22 (f22 fl8_22 (by omega)) (by omega)
    · exact f23 (f23 fl8_23 (by omega)) (by omega)
end SS
