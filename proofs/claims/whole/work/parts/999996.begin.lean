/-! ===== a text begins; what was read is taken ===== -/
def pl0 : Pl := (0, 0, fun _ => nI 0, fun _ => 0, fun _ => 0, fun _ => nI 0, fun _ => 0, fun _ _ => 0, 20, 26, 2, 50, 10, 4, 0)
theorem pl0_ok : pl0.ok := Pl.ok.mk (by decide) (by decide) (fun l hl => absurd hl (by show ¬ l < 0; omega)) (fun l hl => absurd hl (by show ¬ l < 0; omega)) (fun l hl => absurd hl (by show ¬ l < 0; omega)) (fun l i hl => absurd hl (by show ¬ l < 0; omega)) (fun l i j hl => absurd hl (by show ¬ l < 0; omega)) (by decide) (by decide) (by decide) (by decide) (by decide) (by decide) (by decide)
theorem QP0 : QP pl0 (fun _ => 0) 0 := QP.mk pl0_ok (by decide) (fun _ _ => rfl) (fun l hl => absurd hl (by show ¬ l < 0; omega)) (fun l hl => absurd hl (by show ¬ l < 0; omega)) (fun _ _ _ => ⟨rfl, rfl, rfl⟩) (fun _ _ _ => ⟨rfl, rfl, rfl⟩) (fun _ _ _ => rfl)
def s0C (q o j : Nat) : Prop := (o = q ∧ (j = 9 ∨ j = 10)) ∨ ((o = q + 7 ∨ o = q + 8) ∧ j < 80) ∨ (o = q + 9 ∧ j < 7)
theorem e_clear {S : List Sh} {q : Nat} {m : Mm} (hg : ∀ y : Option Mm, gd S q 1 y = y) (r6 : ∀ m, rf S m q 6 = q + 7) (r7 : ∀ m, rf S m q 7 = q + 8) (r8 : ∀ m, rf S m q 8 = q + 9) (s7 : S[q + 7]? = some (.inl (0, 80))) (s8 : S[q + 8]? = some (.inl (0, 80))) (s9 : S[q + 9]? = some (.inl (0, 7))) :
    ∃ m', fX1_clear S m q = some m' ∧ PW (s0C q) m m' ∧ m'.1 q 9 = nI 0 ∧ m'.1 q 10 = nI 0 ∧ m'.1 (q + 9) 0 = nI 20 ∧ m'.1 (q + 9) 1 = nI 26 ∧ m'.1 (q + 9) 2 = nI 2 ∧ m'.1 (q + 9) 3 = nI 50 ∧ m'.1 (q + 9) 4 = nI 10 ∧ m'.1 (q + 9) 5 = nI 4 ∧ m'.1 (q + 9) 6 = nI 0 ∧ (∀ i, i < 80 → m'.1 (q + 7) i = -nI 2) ∧ (∀ i, i < 80 → m'.1 (q + 8) i = -nI 1) := by
  unfold fX1_clear
  simp (disch := omega) only [L0, L1, L2, L3, L4, L5, L6, L7, L8, L9, L10, L11, L12, L13, L14, L15, L16, L17, L18, L19, L20, L21, L22, L23, L24, L25, L26, L27, L28, L29, L30, L31, L32, L33, L34, L35, L36, L37, L38, L39, L40, L41, L42, L43, L44, L45, L46, L47, L48, L50, L57, L59, L60, L63, L64, L65, L70, L80, L90, L97, L100, L110, L120, L122, L128, L150, L200, L208, L216, L224, L232, L240, L248, L255, L256, L264, L272, L280, L288, L296, L297, L300, L336, L337, L500, L680, L700, L998, L999, L1000, L1024, L1999, L6403, L9999, L10000, L12345, L99999, L1000000, L214424576, L412560384, L509804544, L639025541, L642945024, L658545824, L1103515245, L2147483647, hg, r8, bd1_e, stA_n s9, narA_0]
  generalize hm9 : u1 (u1 (u1 (u1 (u1 (u1 (u1 (u1 (u1 m q 9 (nI 0)) q 10 (nI 0)) (q + 9) 0 (nI 20)) (q + 9) 1 (nI 26)) (q + 9) 2 (nI 2)) (q + 9) 3 (nI 50)) (q + 9) 4 (nI 10)) (q + 9) 5 (nI 4)) (q + 9) 6 (nI 0) = m9
  have W9 : PW (s0C q) m m9 := by
    rw [← hm9]
    exact ((((((((PW.rfl.u (by unfold s0C; omega)).u (by unfold s0C; omega)).u (by unfold s0C; omega)).u (by unfold s0C; omega)).u (by unfold s0C; omega)).u (by unfold s0C; omega)).u (by unfold s0C; omega)).u (by unfold s0C; omega)).u (by unfold s0C; omega)
  obtain ⟨m', a1, a2, a3, a4, a5⟩ := lp_F (b := fun s13 : Int32 × Mm => bX1_clear_66 S q s13.1 s13.2) (fun k m1 => PW (s0C q) m m1 ∧ (∀ o, o ≠ q + 7 → o ≠ q + 8 → m1.1 o = m9.1 o) ∧ (∀ i, i < k → m1.1 (q + 7) i = -nI 2) ∧ (∀ i, i < k → m1.1 (q + 8) i = -nI 1)) 80 (m := m9) (by omega) ⟨W9, fun _ _ _ => rfl, fun i hi => by omega, fun i hi => by omega⟩
    (by
      rintro k m1 hk ⟨W, e, f, g⟩
      dsimp only
      unfold bX1_clear_66
      simp (disch := omega) only [L0, L1, L2, L3, L4, L5, L6, L7, L8, L9, L10, L11, L12, L13, L14, L15, L16, L17, L18, L19, L20, L21, L22, L23, L24, L25, L26, L27, L28, L29, L30, L31, L32, L33, L34, L35, L36, L37, L38, L39, L40, L41, L42, L43, L44, L45, L46, L47, L48, L50, L57, L59, L60, L63, L64, L65, L70, L80, L90, L97, L100, L110, L120, L122, L128, L150, L200, L208, L216, L224, L232, L240, L248, L255, L256, L264, L272, L280, L288, L296, L297, L300, L336, L337, L500, L680, L700, L998, L999, L1000, L1024, L1999, L6403, L9999, L10000, L12345, L99999, L1000000, L214424576, L412560384, L509804544, L639025541, L642945024, L658545824, L1103515245, L2147483647, r6, r7, alA_n (t := 0) (by omega) s7, bd1_e, nn_le, stA_n s7, stA_n s8, narA_0, nI_add]
      rw [if_neg (by omega)]
      refine ⟨_, rfl, (W.u (by unfold s0C; omega)).u (by unfold s0C; omega), fun o h1 h2 => by rw [u1_other h2, u1_other h1]; exact e o h1 h2, fun i hi => ?_, fun i hi => ?_⟩
      · rw [u1_rn (Or.inr (by omega))]
        by_cases c : i = k
        · rw [c, u1_rs]
        · rw [u1_rn (Or.inl c)]; exact f i (by omega)
      · by_cases c : i = k
        · rw [c, u1_rs]
        · rw [u1_rn (Or.inl c), u1_rn (Or.inr (by omega))]; exact g i (by omega))
    (by
      rintro m1 _
      dsimp only
      unfold bX1_clear_66
      simp (disch := omega) only [r6, alA_n (t := 0) (by omega) s7, bd1_e, nn_le]
      rw [if_pos (by omega)])
  rw [a1, bd1_e]
  have e0 := a3 q (by omega) (by omega)
  have e9 := a3 (q + 9) (by omega) (by omega)
  refine ⟨m', rfl, a2, ?_, ?_, ?_, ?_, ?_, ?_, ?_, ?_, ?_, a4, a5⟩
  · rw [e0, ← hm9]; simp (disch := omega) only [u1_rn, u1_rs]
  · rw [e0, ← hm9]; simp (disch := omega) only [u1_rn, u1_rs]
  · rw [e9, ← hm9]; simp (disch := omega) only [u1_rn, u1_rs]
  · rw [e9, ← hm9]; simp (disch := omega) only [u1_rn, u1_rs]
  · rw [e9, ← hm9]; simp (disch := omega) only [u1_rn, u1_rs]
  · rw [e9, ← hm9]; simp (disch := omega) only [u1_rn, u1_rs]
  · rw [e9, ← hm9]; simp (disch := omega) only [u1_rn, u1_rs]
  · rw [e9, ← hm9]; simp (disch := omega) only [u1_rn, u1_rs]
  · rw [e9, ← hm9]; simp (disch := omega) only [u1_rn, u1_rs]
theorem pl0_pv {l f : Nat} : pl0.pv l f = 0 := rfl
theorem pl0_nx {l f : Nat} : pl0.nx l f = 0 := rfl
theorem e_begin {m : Mm} {sp : Nat} (hp : sp = 21 ∨ sp = 31) : ∃ m', fX2_begin SX7 m 3 sp 20 = some m' ∧ QC m' sp pl0 (fun _ => 0) 0 ∧ PW (fun o j => o = 3 ∨ o = 20 ∨ s0C sp o j) m m' := by
  obtain ⟨m4, a1, a2, b1, b2, b3, b4, b5, b6, b7, b8, b9, b10, b11⟩ := e_clear (S := SX7) (q := sp) (m := u1 (u1 (u1 m 3 0 (nI 0)) 3 1 (-nI 1)) 3 2 (nI 0)) (g7_p hp) (r7_p_6 hp) (r7_p_7 hp) (r7_p_8 hp) (s7_p7 hp) (s7_p8 hp) (s7_p9 hp)
  obtain ⟨m', c1, c2, c3⟩ := lp_F (b := fun s7 : Int32 × Mm => bX2_begin_21 SX7 3 sp 20 s7.1 s7.2) (fun k m1 => (∀ o, o ≠ 20 → m1.1 o = m4.1 o) ∧ (∀ i, i < k → m1.1 20 i = nI 0)) 297 (m := m4) (by omega) ⟨fun _ _ => rfl, fun i hi => by omega⟩
    (by
      rintro k m1 hk ⟨e, f⟩
      dsimp only
      unfold bX2_begin_21
      simp (disch := omega) only [L0, L1, L2, L3, L4, L5, L6, L7, L8, L9, L10, L11, L12, L13, L14, L15, L16, L17, L18, L19, L20, L21, L22, L23, L24, L25, L26, L27, L28, L29, L30, L31, L32, L33, L34, L35, L36, L37, L38, L39, L40, L41, L42, L43, L44, L45, L46, L47, L48, L50, L57, L59, L60, L63, L64, L65, L70, L80, L90, L97, L100, L110, L120, L122, L128, L150, L200, L208, L216, L224, L232, L240, L248, L255, L256, L264, L272, L280, L288, L296, L297, L300, L336, L337, L500, L680, L700, L998, L999, L1000, L1024, L1999, L6403, L9999, L10000, L12345, L99999, L1000000, L214424576, L412560384, L509804544, L639025541, L642945024, L658545824, L1103515245, L2147483647, alA_n (t := 0) (by omega) s7_20, bd1_e, nn_le, stA_n s7_20, narA_0, nI_add]
      rw [if_neg (by omega)]
      refine ⟨_, rfl, fun o ho => by rw [u1_other ho]; exact e o ho, fun i hi => ?_⟩
      by_cases c : i = k
      · rw [c, u1_rs]
      · rw [u1_rn (Or.inl c)]; exact f i (by omega))
    (by
      rintro m1 _
      dsimp only
      unfold bX2_begin_21
      simp (disch := omega) only [alA_n (t := 0) (by omega) s7_20, bd1_e, nn_le]
      rw [if_pos (by omega)])
  have W : PW (fun o j => o = 3 ∨ o = 20 ∨ s0C sp o j) m m' := by
    intro o j z
    by_cases h20 : o = 20
    · exact absurd (Or.inr (Or.inl h20)) z
    · rw [c2 o h20, a2 o j (fun y => z (Or.inr (Or.inr y)))]
      have h3 : o ≠ 3 := fun y => z (Or.inl y)
      rw [u1_other h3, u1_other h3, u1_other h3]
  have e3 : m'.1 3 = (u1 (u1 (u1 m 3 0 (nI 0)) 3 1 (-nI 1)) 3 2 (nI 0)).1 3 := by
    rw [c2 3 (by omega)]
    exact funext (fun j => a2 3 j (by unfold s0C; omega))
  refine ⟨m', ?_, ?_, W⟩
  · unfold fX2_begin
    simp only [L0, L1, L2, L3, L4, L5, L6, L7, L8, L9, L10, L11, L12, L13, L14, L15, L16, L17, L18, L19, L20, L21, L22, L23, L24, L25, L26, L27, L28, L29, L30, L31, L32, L33, L34, L35, L36, L37, L38, L39, L40, L41, L42, L43, L44, L45, L46, L47, L48, L50, L57, L59, L60, L63, L64, L65, L70, L80, L90, L97, L100, L110, L120, L122, L128, L150, L200, L208, L216, L224, L232, L240, L248, L255, L256, L264, L272, L280, L288, L296, L297, L300, L336, L337, L500, L680, L700, L998, L999, L1000, L1024, L1999, L6403, L9999, L10000, L12345, L99999, L1000000, L214424576, L412560384, L509804544, L639025541, L642945024, L658545824, L1103515245, L2147483647, g7_0, g7_1, g7_3, g7_4, g7_8, g7_13, g7_16, r7_0_0, r7_0_1, r7_0_2, r7_0_3, r7_0_4, r7_0_5, r7_0_6, r7_0_7, r7_1_0, r7_4_0, r7_4_1, r7_4_2, r7_8_0, r7_8_1, r7_8_2, r7_8_3, r7_13_0, r7_13_1, r7_16_0, r7_16_1, g7_p hp, bd1_e, a1, c1]
  · have n0 : ∀ l, l < pl0.nl → False := fun l hl => absurd hl (by show ¬ l < 0; omega)
    have n1 : ∀ l, l < pl0.nf → False := fun l hl => absurd hl (by show ¬ l < 0; omega)
    refine QC.mk (PF.mk (by rw [c2 sp (by omega)]; exact b1) (by rw [c2 sp (by omega)]; exact b2) (fun l hl => (n0 l hl).elim) (fun l hl => (n0 l hl).elim) (fun l hl => (n0 l hl).elim) (fun l hl => (n1 l hl).elim) (fun l hl => (n1 l hl).elim) (fun l i hl => (n1 l hl).elim) (fun l f hl => (n0 l hl).elim) (fun l f hl => (n0 l hl).elim) ?_ ?_ ?_ ?_ ?_ ?_ ?_) ?_ ?_ c3 ?_ ?_ ?_
    · rw [c2 (sp + 9) (by omega)]; exact b3
    · rw [c2 (sp + 9) (by omega)]; exact b4
    · rw [c2 (sp + 9) (by omega)]; exact b5
    · rw [c2 (sp + 9) (by omega)]; exact b6
    · rw [c2 (sp + 9) (by omega)]; exact b7
    · rw [c2 (sp + 9) (by omega)]; exact b8
    · rw [c2 (sp + 9) (by omega)]; exact b9
    · intro l f hl hf
      rw [c2 (sp + 7) (by omega), pl0_pv, b10 _ (by omega)]; rfl
    · intro l f hl hf
      rw [c2 (sp + 8) (by omega), pl0_nx, b11 _ (by omega)]; rfl
    · rw [e3, u1_rn (Or.inl (by omega)), u1_rn (Or.inl (by omega)), u1_rs]
    · rw [e3, u1_rn (Or.inl (by omega)), u1_rs]
    · rw [e3, u1_rs]
/-! the model's -/
def s0M (o j : Nat) : Prop := (o = 2 ∧ 9 ≤ j) ∨ o = 3
theorem e8_fresh {m : Mm} (h22 : m.1 0 22 = nI 0) : ∃ m', fX8_freshText SX8 m 0 = some m' ∧ PW s0M m m' ∧ QM m' pl0 (fun _ => 0) 0 := by
  obtain ⟨m1, a1, a2, a3⟩ := lp_F (b := fun s2 : Int32 × Mm => bX8_freshText_2 SX8 0 s2.1 s2.2) (fun k m1 => PW s0M m m1 ∧ (∀ i, i < k → m1.1 2 (9 + i) = nI 0)) 9 (m := m) (by omega) ⟨PW.rfl, fun i hi => by omega⟩
    (by
      rintro k m1 hk ⟨W, f⟩
      dsimp only
      unfold bX8_freshText_2
      simp (disch := omega) only [L0, L1, L2, L3, L4, L5, L6, L7, L8, L9, L10, L11, L12, L13, L14, L15, L16, L17, L18, L19, L20, L21, L22, L23, L24, L25, L26, L27, L28, L29, L30, L31, L32, L33, L34, L35, L36, L37, L38, L39, L40, L41, L42, L43, L44, L45, L46, L47, L48, L50, L57, L59, L60, L63, L64, L65, L70, L80, L90, L97, L100, L110, L120, L122, L128, L150, L200, L208, L216, L224, L232, L240, L248, L255, L256, L264, L272, L280, L288, L296, L297, L300, L336, L337, L500, L680, L700, L998, L999, L1000, L1024, L1999, L6403, L9999, L10000, L12345, L99999, L1000000, L214424576, L412560384, L509804544, L639025541, L642945024, L658545824, L1103515245, L2147483647, e8_reads hk, bd1_e, nn_le, nI_add]
      rw [if_neg (by omega)]
      refine ⟨_, rfl, W.u (by unfold s0M; omega), fun i hi => ?_⟩
      by_cases c : i = k
      · rw [c, u1_rs]
      · rw [u1_rn (Or.inl (by omega))]; exact f i (by omega))
    (by
      rintro m1 _
      dsimp only
      unfold bX8_freshText_2
      simp (disch := omega) only [L0, L1, L2, L3, L4, L5, L6, L7, L8, L9, L10, L11, L12, L13, L14, L15, L16, L17, L18, L19, L20, L21, L22, L23, L24, L25, L26, L27, L28, L29, L30, L31, L32, L33, L34, L35, L36, L37, L38, L39, L40, L41, L42, L43, L44, L45, L46, L47, L48, L50, L57, L59, L60, L63, L64, L65, L70, L80, L90, L97, L100, L110, L120, L122, L128, L150, L200, L208, L216, L224, L232, L240, L248, L255, L256, L264, L272, L280, L288, L296, L297, L300, L336, L337, L500, L680, L700, L998, L999, L1000, L1024, L1999, L6403, L9999, L10000, L12345, L99999, L1000000, L214424576, L412560384, L509804544, L639025541, L642945024, L658545824, L1103515245, L2147483647, nn_le]
      rw [if_pos (by omega)])
  generalize hm9 : u1 (u1 (u1 (u1 (u1 (u1 m1 2 (9 + 2) (nI 20)) 2 (9 + 3) (nI 26)) 2 (9 + 4) (nI 2)) 2 (9 + 5) (nI 50)) 2 (9 + 6) (nI 10)) 2 (9 + 7) (nI 4) = m9
  have W9 : PW s0M m m9 := by
    rw [← hm9]
    exact (((((a2.u (by unfold s0M; omega)).u (by unfold s0M; omega)).u (by unfold s0M; omega)).u (by unfold s0M; omega)).u (by unfold s0M; omega)).u (by unfold s0M; omega)
  obtain ⟨m', c1, c2, c3, c4⟩ := lp_F (b := fun s11 : Int32 × Mm => bX8_freshText_64 SX8 0 s11.1 s11.2) (fun k m1 => PW s0M m m1 ∧ (∀ o, o ≠ 3 → m1.1 o = m9.1 o) ∧ (∀ i, i < k → m1.1 3 i = nI 0)) 6 (m := m9) (by omega) ⟨W9, fun _ _ => rfl, fun i hi => by omega⟩
    (by
      rintro k m1 hk ⟨W, e, f⟩
      dsimp only
      unfold bX8_freshText_64
      simp (disch := omega) only [L0, L1, L2, L3, L4, L5, L6, L7, L8, L9, L10, L11, L12, L13, L14, L15, L16, L17, L18, L19, L20, L21, L22, L23, L24, L25, L26, L27, L28, L29, L30, L31, L32, L33, L34, L35, L36, L37, L38, L39, L40, L41, L42, L43, L44, L45, L46, L47, L48, L50, L57, L59, L60, L63, L64, L65, L70, L80, L90, L97, L100, L110, L120, L122, L128, L150, L200, L208, L216, L224, L232, L240, L248, L255, L256, L264, L272, L280, L288, L296, L297, L300, L336, L337, L500, L680, L700, L998, L999, L1000, L1024, L1999, L6403, L9999, L10000, L12345, L99999, L1000000, L214424576, L412560384, L509804544, L639025541, L642945024, L658545824, L1103515245, L2147483647, g8_0, r8_1, r8_3, r8_4, r8_5, r8_6, r8_7, r8_8, r8_9, r8_10, r8_11, r8_12, r8_13, r8_14, r8_15, r8_26, r8_27, r8_28, r8_29, r8_30, r8_33, r8_34, r8_35, r8_36, r8_37, r8_39, r8_40, r8_41, r8_43, r8_44, r8_45, stA_n s8_3, show narA 2 (nI 0) = nI 0 from narA_2 false, bd1_e, nn_le, nI_add]
      rw [if_neg (by omega)]
      refine ⟨_, rfl, W.u (by unfold s0M; omega), fun o ho => by rw [u1_other ho]; exact e o ho, fun i hi => ?_⟩
      by_cases c : i = k
      · rw [c, u1_rs]
      · rw [u1_rn (Or.inl c)]; exact f i (by omega))
    (by
      rintro m1 _
      dsimp only
      unfold bX8_freshText_64
      simp (disch := omega) only [L0, L1, L2, L3, L4, L5, L6, L7, L8, L9, L10, L11, L12, L13, L14, L15, L16, L17, L18, L19, L20, L21, L22, L23, L24, L25, L26, L27, L28, L29, L30, L31, L32, L33, L34, L35, L36, L37, L38, L39, L40, L41, L42, L43, L44, L45, L46, L47, L48, L50, L57, L59, L60, L63, L64, L65, L70, L80, L90, L97, L100, L110, L120, L122, L128, L150, L200, L208, L216, L224, L232, L240, L248, L255, L256, L264, L272, L280, L288, L296, L297, L300, L336, L337, L500, L680, L700, L998, L999, L1000, L1024, L1999, L6403, L9999, L10000, L12345, L99999, L1000000, L214424576, L412560384, L509804544, L639025541, L642945024, L658545824, L1103515245, L2147483647, nn_le]
      rw [if_pos (by omega)])
  refine ⟨m', ?_, c2, ?_⟩
  · unfold fX8_freshText
    simp (disch := omega) only [L0, L1, L2, L3, L4, L5, L6, L7, L8, L9, L10, L11, L12, L13, L14, L15, L16, L17, L18, L19, L20, L21, L22, L23, L24, L25, L26, L27, L28, L29, L30, L31, L32, L33, L34, L35, L36, L37, L38, L39, L40, L41, L42, L43, L44, L45, L46, L47, L48, L50, L57, L59, L60, L63, L64, L65, L70, L80, L90, L97, L100, L110, L120, L122, L128, L150, L200, L208, L216, L224, L232, L240, L248, L255, L256, L264, L272, L280, L288, L296, L297, L300, L336, L337, L500, L680, L700, L998, L999, L1000, L1024, L1999, L6403, L9999, L10000, L12345, L99999, L1000000, L214424576, L412560384, L509804544, L639025541, L642945024, L658545824, L1103515245, L2147483647, g8_0, r8_1, r8_3, r8_4, r8_5, r8_6, r8_7, r8_8, r8_9, r8_10, r8_11, r8_12, r8_13, r8_14, r8_15, r8_26, r8_27, r8_28, r8_29, r8_30, r8_33, r8_34, r8_35, r8_36, r8_37, r8_39, r8_40, r8_41, r8_43, r8_44, r8_45, a1, bd1_e, e8_reads, hm9, c1]
  · have n0 : ∀ l, l < pl0.nl → False := fun l hl => absurd hl (by show ¬ l < 0; omega)
    have n1 : ∀ l, l < pl0.nf → False := fun l hl => absurd hl (by show ¬ l < 0; omega)
    have e2 : m'.1 2 = m9.1 2 := c3 2 (by omega)
    refine QM.mk (PM.mk ?_ ?_ (fun l hl => (n0 l hl).elim) (fun l hl => (n0 l hl).elim) (fun l hl => (n0 l hl).elim) (fun l hl => (n1 l hl).elim) (fun l hl => (n1 l hl).elim) (fun l i hl => (n1 l hl).elim) ?_ ?_ ?_ ?_ ?_ ?_ ?_) (fun l hl => (n0 l hl).elim) (fun l hl => (n0 l hl).elim) (fun l hl => (n0 l hl).elim) (fun l hl => (n1 l hl).elim) (fun l hl => (n1 l hl).elim) ?_ ?_ ?_ ?_
    · show m'.1 2 (9 + 0) = nI 0
      rw [e2, ← hm9]; simp (disch := omega) only [u1_rn]; exact a3 0 (by omega)
    · show m'.1 2 (9 + 1) = nI 0
      rw [e2, ← hm9]; simp (disch := omega) only [u1_rn]; exact a3 1 (by omega)
    · show m'.1 2 (9 + 2) = nI 20
      rw [e2, ← hm9]; simp (disch := omega) only [u1_rn, u1_rs]
    · show m'.1 2 (9 + 3) = nI 26
      rw [e2, ← hm9]; simp (disch := omega) only [u1_rn, u1_rs]
    · show m'.1 2 (9 + 4) = nI 2
      rw [e2, ← hm9]; simp (disch := omega) only [u1_rn, u1_rs]
    · show m'.1 2 (9 + 5) = nI 50
      rw [e2, ← hm9]; simp (disch := omega) only [u1_rn, u1_rs]
    · show m'.1 2 (9 + 6) = nI 10
      rw [e2, ← hm9]; simp (disch := omega) only [u1_rn, u1_rs]
    · show m'.1 2 (9 + 7) = nI 4
      rw [e2, ← hm9]; simp (disch := omega) only [u1_rn, u1_rs]
    · show m'.1 2 (9 + 8) = nI 0
      rw [e2, ← hm9]; simp (disch := omega) only [u1_rn]; exact a3 8 (by omega)
    · rw [c2 0 22 (by unfold s0M; omega)]; exact h22
    · rw [c4 2 (by omega)]; rfl
    · rw [c4 3 (by omega)]; rfl
    · rw [c4 5 (by omega)]; rfl
