/-! ===== the model's tick: all that comes, all that is asked ===== -/
theorem e8_comesTo {m : Mm} {π : Pl} {Y : Nat → Nat} {l : Nat} (R : RM m Y) (P : PM m π) (O : π.ok) (hJ : J π Y) (hl : l < π.nl) (hM : ∀ f, f < π.nf → Y (300 + (l * 8 + f)) ≤ 64 ∧ (Y (300 + (l * 8 + f)) ≠ 0 → π.pv l f ≠ 0)) (h21 : ∀ f, f < π.nf → m.1 21 (8 * l + f) = nI (Y (300 + (l * 8 + f)))) (h22 : ∀ f, f < π.nf → m.1 22 (8 * l + f) = nI 0) : ∃ m', fX8_comesTo SX8 m 0 (nI l) = some m' ∧ RM m' (arrA π l Y) ∧ (∀ f, f < π.nf → m'.1 22 (8 * l + f) = nI (arrA π l Y (300 + (l * 8 + f)))) ∧ (∀ j, j < 8 * l ∨ 8 * l + π.nf ≤ j → m'.1 22 j = m.1 22 j) ∧ Fr (fun o => o = 15 ∨ o = 22) m m' := by
  have hnf := O.nf
  have hnl := O.nl
  have h30 := hJ.fill l (by omega)
  have h20 := hJ.size l (by omega)
  have h60 := hJ.peak l (by omega)
  unfold fX8_comesTo
  simp only [L0, L1, L2, L3, L4, L5, L6, L7, L8, L9, L10, L11, L12, L13, L14, L15, L16, L17, L18, L19, L20, L21, L22, L23, L24, L25, L26, L27, L28, L29, L30, L31, L32, L33, L34, L35, L36, L37, L38, L39, L40, L41, L42, L43, L44, L45, L46, L47, L48, L50, L57, L59, L60, L63, L64, L65, L70, L80, L90, L97, L100, L110, L120, L122, L128, L150, L200, L208, L216, L224, L232, L240, L248, L255, L256, L264, L272, L280, L288, L296, L297, L300, L336, L337, L500, L680, L700, L998, L999, L1000, L1024, L1999, L6403, L9999, L10000, L12345, L99999, L1000000, L214424576, L412560384, L509804544, L639025541, L642945024, L658545824, L1103515245, L2147483647, g8_0, r8_1, r8_3, r8_4, r8_5, r8_6, r8_7, r8_8, r8_9, r8_10, r8_11, r8_12, r8_13, r8_14, r8_15, r8_26, r8_27, r8_28, r8_29, r8_30, r8_33, r8_34, r8_35, r8_36, r8_37, r8_39, r8_40, r8_41, r8_43, r8_44, r8_45]
  obtain ⟨y, g1, g2, g3, g4, g5, g6⟩ := lp_F (b := fun s19 : Int32 × Mm => bX8_comesTo_2 SX8 0 (nI l) s19.1 s19.2) (fun k m1 => RM m1 (it k (arrF π l) Y) ∧ (∀ b, b < k → m1.1 22 (8 * l + b) = nI (it k (arrF π l) Y (300 + (l * 8 + b)))) ∧ (∀ b, k ≤ b → b < π.nf → m1.1 22 (8 * l + b) = nI 0) ∧ (∀ j, j < 8 * l ∨ 8 * l + π.nf ≤ j → m1.1 22 j = m.1 22 j) ∧ Fr (fun o => o = 15 ∨ o = 22) m m1) π.nf (m := m) (by omega) ⟨R, fun b hb => by omega, fun b _ hb => h22 b hb, fun _ _ => rfl, Fr.rfl⟩
    (by
      rintro k m1 hk ⟨R1, A1, B1, D1, F1⟩
      have P1 : PM m1 π := P.fr F1 (fun o ho => by omega)
      obtain ⟨i1, i2, i3, i4⟩ := arrI (π := π) hnf (by omega) h30 h20 k (by omega)
      have i4 := i4 k (Nat.le_refl k) (by omega)
      have hmk := hM k hk
      have hFk : fillOK (it k (arrF π l) Y) := it_inv (P := fun _ Z => fillOK Z) hJ.q (fun j Z hj hZ => hZ.arr (by omega) (by omega))
      have hc21 : m1.1 21 (8 * l + k) = nI (it k (arrF π l) Y (300 + (l * 8 + k))) := by rw [F1.2 21 (by omega), i4]; exact h21 k hk
      have hho := O.hops k hk
      have hle := π.hp_le k l
      rw [← i4] at hmk
      have hother : ∀ b, b < k → arrF π l k (it k (arrF π l) Y) (300 + (l * 8 + b)) = it k (arrF π l) Y (300 + (l * 8 + b)) := fun b hb => arrF_o (by omega)
      rw [it_s]
      generalize it k (arrF π l) Y = Z at *
      dsimp only
      unfold bX8_comesTo_2 jX8_comesTo_170
      simp (disch := omega) only [L0, L1, L2, L3, L4, L5, L6, L7, L8, L9, L10, L11, L12, L13, L14, L15, L16, L17, L18, L19, L20, L21, L22, L23, L24, L25, L26, L27, L28, L29, L30, L31, L32, L33, L34, L35, L36, L37, L38, L39, L40, L41, L42, L43, L44, L45, L46, L47, L48, L50, L57, L59, L60, L63, L64, L65, L70, L80, L90, L97, L100, L110, L120, L122, L128, L150, L200, L208, L216, L224, L232, L240, L248, L255, L256, L264, L272, L280, L288, L296, L297, L300, L336, L337, L500, L680, L700, L998, L999, L1000, L1024, L1999, L6403, L9999, L10000, L12345, L99999, L1000000, L214424576, L412560384, L509804544, L639025541, L642945024, L658545824, L1103515245, L2147483647, g8_0, r8_1, r8_3, r8_4, r8_5, r8_6, r8_7, r8_8, r8_9, r8_10, r8_11, r8_12, r8_13, r8_14, r8_15, r8_26, r8_27, r8_28, r8_29, r8_30, r8_33, r8_34, r8_35, r8_36, r8_37, r8_39, r8_40, r8_41, r8_43, r8_44, r8_45, nI_add, pk_mul, narA_0, bd1_e, bd2_e, bdR_l, bdR_r, e8_flows P1, nn_le, ldA_n s8_21, hc21, nn_eq, e8_hopOf P1 O hk (show l < 10 by omega), ldA_n s8_13, P1.hops k hk, pk_sub]
      rw [if_neg (by omega)]
      by_cases e : Z (300 + (l * 8 + k)) = 0
      · rw [if_neg (fun c => c e)]
        have ea : arrF π l k Z = Z := by unfold arrF; rw [if_pos e]
        rw [ea]
        refine ⟨_, rfl, R1, fun b hb => ?_, fun b hb hb2 => B1 b (by omega) hb2, D1, F1⟩
        by_cases eb : b = k
        · subst eb; rw [B1 b (Nat.le_refl _) hk, e]
        · exact A1 b (by omega)
      · rw [if_pos e]
        obtain ⟨q1, q2⟩ := Pl.nx_0 (hmk.2 e)
        have en : nxI (π.hp k l) = nI (π.hp k l - 1) := by
          obtain ⟨j, hj⟩ : ∃ j, π.hp k l = j + 1 := ⟨π.hp k l - 1, by omega⟩
          rw [hj]; rfl
        rw [en]
        by_cases c : π.nx l k = 0
        · rw [if_neg (fun c2 => c2 (by rw [q1.mp c]))]
          simp (disch := omega) only [e8_flowAt, nI_add, pk_mul, narA_0, bd1_e, bd2_e, bdR_l, bdR_r, ldA_n s8_15, R1.deliv k (by omega), stA_n s8_15]
          have ea : arrF π l k Z = upN (upN Z (240 + k) (Z (240 + k) + Z (300 + (l * 8 + k)))) (300 + (l * 8 + k)) 0 := by unfold arrF; rw [if_neg e, if_pos c]
          refine ⟨_, rfl, ?_, fun b hb => ?_, fun b hb hb2 => ?_, fun j hj => ?_, F1.st (Or.inl rfl)⟩
          · rw [ea]
            exact (R1.st_deliv _ (by omega)).congr (fun i hi _ => by rw [upN_n (i := 300 + (l * 8 + k)) (by omega)])
          · rw [u1_rn (Or.inr (by omega))]
            by_cases eb : b = k
            · subst eb; rw [B1 b (Nat.le_refl _) hk, ea, upN_s]
            · rw [hother b (by omega)]; exact A1 b (by omega)
          · rw [u1_rn (Or.inr (by omega))]; exact B1 b (by omega) hb2
          · rw [u1_rn (Or.inr (by omega))]; exact D1 j hj
        · rw [if_pos (fun c2 => c (q1.mpr (by have := (nn_eq (by omega) (by omega)).mp c2; omega)))]
          simp (disch := omega) only [ldA_n s8_15, R1.size l (by omega), e8_queueOf R1 hFk (show l < 10 by omega), bd1_e]
          obtain ⟨m2, k1, k2, k3, k4, k5⟩ := e8_comes96 R1 (show l < 10 by omega) (show k < 8 by omega) i2 i1 rfl hmk.1 F1
          have ea : arrF π l k Z = upN (upN (upN (upN (upN Z (120 + l * 8 + k) (Z (120 + l * 8 + k) + inn l k Z)) (30 + l) (Z (30 + l) + inn l k Z)) (50 + l) (Z (50 + l) + (Z (300 + (l * 8 + k)) - inn l k Z))) (248 + k) (Z (248 + k) + (Z (300 + (l * 8 + k)) - inn l k Z))) (300 + (l * 8 + k)) (inn l k Z) := by unfold arrF; rw [if_neg e, if_neg c]
          have fin : ∃ m2, jX8_comesTo_96 SX8 m1 0 (nI l) (nI k) (nI (Z (300 + (l * 8 + k)))) (nI (Z (300 + (l * 8 + k)))) (nI 0) (nI (Z (20 + l) - Z (30 + l))) = some (.inl (nI (k + 1), m2)) ∧ RM m2 (arrF π l k Z) ∧ (∀ b, b < k + 1 → m2.1 22 (8 * l + b) = nI (arrF π l k Z (300 + (l * 8 + b)))) ∧ (∀ b, k + 1 ≤ b → b < π.nf → m2.1 22 (8 * l + b) = nI 0) ∧ (∀ j, j < 8 * l ∨ 8 * l + π.nf ≤ j → m2.1 22 j = m.1 22 j) ∧ Fr (fun o => o = 15 ∨ o = 22) m m2 := by
            refine ⟨m2, k1, by rw [ea]; exact k2, fun b hb => ?_, fun b hb hb2 => ?_, fun j hj => ?_, k5⟩
            · by_cases eb : b = k
              · subst eb; rw [k3, ea, upN_s]
              · rw [k4 _ (by omega), hother b (by omega)]; exact A1 b (by omega)
            · rw [k4 _ (by omega)]; exact B1 b (by omega) hb2
            · rw [k4 _ (by omega)]; exact D1 j hj
          rcases roomJ (a := Z (20 + l)) (b := Z (30 + l)) (by omega) (by omega) with ⟨c1, c2⟩ | ⟨c1, c2⟩
          · rw [if_pos c1]
            rw [c2] at fin
            exact fin
          · rw [if_neg c1, c2]
            exact fin)
    (by
      rintro m1 ⟨R1, A1, B1, D1, F1⟩
      have P1 : PM m1 π := P.fr F1 (fun o ho => by omega)
      dsimp only
      unfold bX8_comesTo_2
      simp (disch := omega) only [L0, L1, L2, L3, L4, L5, L6, L7, L8, L9, L10, L11, L12, L13, L14, L15, L16, L17, L18, L19, L20, L21, L22, L23, L24, L25, L26, L27, L28, L29, L30, L31, L32, L33, L34, L35, L36, L37, L38, L39, L40, L41, L42, L43, L44, L45, L46, L47, L48, L50, L57, L59, L60, L63, L64, L65, L70, L80, L90, L97, L100, L110, L120, L122, L128, L150, L200, L208, L216, L224, L232, L240, L248, L255, L256, L264, L272, L280, L288, L296, L297, L300, L336, L337, L500, L680, L700, L998, L999, L1000, L1024, L1999, L6403, L9999, L10000, L12345, L99999, L1000000, L214424576, L412560384, L509804544, L639025541, L642945024, L658545824, L1103515245, L2147483647, nI_add, pk_mul, narA_0, bd1_e, bd2_e, bdR_l, bdR_r, e8_flows P1, nn_le]
      rw [if_pos (by omega)])
  rw [g1, bd1_e]
  obtain ⟨i1, i2, i3, i4⟩ := arrI (π := π) hnf (by omega) h30 h20 π.nf (Nat.le_refl _)
  have hFk : fillOK (it π.nf (arrF π l) Y) := it_inv (P := fun _ Z => fillOK Z) hJ.q (fun j Z hj hZ => hZ.arr (by omega) (by omega))
  have e22 : ∀ f, f < π.nf → arrA π l Y (300 + (l * 8 + f)) = it π.nf (arrF π l) Y (300 + (l * 8 + f)) := fun f hf => by unfold arrA; rw [upN_n (by omega)]
  have fin : ∀ v, v = max (it π.nf (arrF π l) Y (60 + l)) (it π.nf (arrF π l) Y (30 + l)) → ∃ m', bd1 (stA SX8 0 y 15 (nI (24 * l + 4)) (nI v)) (fun m24 => some m24) = some m' ∧ RM m' (arrA π l Y) ∧ (∀ f, f < π.nf → m'.1 22 (8 * l + f) = nI (arrA π l Y (300 + (l * 8 + f)))) ∧ (∀ j, j < 8 * l ∨ 8 * l + π.nf ≤ j → m'.1 22 j = m.1 22 j) ∧ Fr (fun o => o = 15 ∨ o = 22) m m' := by
    rintro v rfl
    simp (disch := omega) only [stA_n s8_15, nI_add, pk_mul, narA_0, bd1_e, bd2_e, bdR_l, bdR_r]
    refine ⟨_, rfl, g2.st_peak _ (by omega), fun f hf => ?_, fun j hj => ?_, g6.st (Or.inl rfl)⟩
    · rw [u1_rn (Or.inr (by omega)), e22 f hf]; exact g3 f hf
    · rw [u1_rn (Or.inr (by omega))]; exact g5 j hj
  unfold jX8_comesTo_222
  simp (disch := omega) only [e8_queueOf g2 hFk (show l < 10 by omega), nI_add, pk_mul, narA_0, bd1_e, bd2_e, bdR_l, bdR_r, ldA_n s8_15, g2.peak l (by omega), nn_le]
  by_cases c : it π.nf (arrF π l) Y (30 + l) ≤ it π.nf (arrF π l) Y (60 + l)
  · rw [if_pos c]; exact fin _ (by omega)
  · rw [if_neg c]; exact fin _ (by omega)
theorem e8_comesAll {m : Mm} {π : Pl} {X : Nat → Nat} (R : RM m X) (P : PM m π) (O : π.ok) (hJ : J π X) (hM : ∀ l f, l < π.nl → f < π.nf → X (300 + (l * 8 + f)) ≤ 64 ∧ (X (300 + (l * 8 + f)) ≠ 0 → π.pv l f ≠ 0)) (h21 : TBl m 21 π.nf π.nl 0 (fun l f => X (300 + (l * 8 + f)))) (h22 : TBl m 22 π.nf π.nl 0 (fun _ _ => 0)) : ∃ m', lp (fun s19 : Int32 × Mm => bX8_tickGoes_99 SX8 0 s19.1 s19.2) fu (nI 0, m) = some m' ∧ RM m' (it π.nl (arrA π) X) ∧ TBl m' 22 π.nf π.nl 0 (fun l f => it π.nl (arrA π) X (300 + (l * 8 + f))) ∧ Fr (fun o => o = 15 ∨ o = 22) m m' := by
  have hnf := O.nf
  have hnl := O.nl
  obtain ⟨m', h1, h2, _, h3, _, h4⟩ := lp_F (b := fun s19 : Int32 × Mm => bX8_tickGoes_99 SX8 0 s19.1 s19.2) (fun k m1 => RM m1 (it k (arrA π) X) ∧ J π (it k (arrA π) X) ∧ TBl m1 22 π.nf k 0 (fun l f => it k (arrA π) X (300 + (l * 8 + f))) ∧ (∀ a b, k ≤ a → a < π.nl → b < π.nf → m1.1 22 (8 * a + b) = nI 0) ∧ Fr (fun o => o = 15 ∨ o = 22) m m1) π.nl (m := m) (by omega) ⟨R, hJ, fun a b _ h => by omega, fun a b _ ha hb => h22 a b hb (Or.inl ha), Fr.rfl⟩
    (by
      rintro k m1 hk ⟨R1, J1, T1, Z1, F1⟩
      have P1 : PM m1 π := P.fr F1 (fun o ho => by omega)
      have e3 : ∀ a f, k ≤ a → a < 10 → f < π.nf → it k (arrA π) X (300 + (a * 8 + f)) = X (300 + (a * 8 + f)) := fun a f ha ha2 hf => it_o (fun j Z hj => arrA_o O (by omega) (by omega))
      obtain ⟨m2, g1, g2, g3, g4, g5⟩ := e8_comesTo R1 P1 O J1 hk (fun f hf => by rw [e3 k f (Nat.le_refl _) (by omega) hf]; exact hM k f hk hf) (fun f hf => by rw [F1.2 21 (by omega), e3 k f (Nat.le_refl _) (by omega) hf]; exact h21 k f hf (Or.inl hk)) (fun f hf => Z1 k f (Nat.le_refl _) hk hf)
      dsimp only
      unfold bX8_tickGoes_99
      simp (disch := omega) only [L0, L1, L2, L3, L4, L5, L6, L7, L8, L9, L10, L11, L12, L13, L14, L15, L16, L17, L18, L19, L20, L21, L22, L23, L24, L25, L26, L27, L28, L29, L30, L31, L32, L33, L34, L35, L36, L37, L38, L39, L40, L41, L42, L43, L44, L45, L46, L47, L48, L50, L57, L59, L60, L63, L64, L65, L70, L80, L90, L97, L100, L110, L120, L122, L128, L150, L200, L208, L216, L224, L232, L240, L248, L255, L256, L264, L272, L280, L288, L296, L297, L300, L336, L337, L500, L680, L700, L998, L999, L1000, L1024, L1999, L6403, L9999, L10000, L12345, L99999, L1000000, L214424576, L412560384, L509804544, L639025541, L642945024, L658545824, L1103515245, L2147483647, nI_add, pk_mul, narA_0, bd1_e, bd2_e, bdR_l, bdR_r, e8_links P1, nn_le, g1]
      rw [if_neg (by omega)]
      refine ⟨_, rfl, g2, J1.arr O (by omega), ?_, ?_, F1.trans g5⟩
      · intro a b hb hab
        dsimp only
        rw [it_s]
        by_cases e : a = k
        · subst e; exact g3 b hb
        · rw [g4 _ (by omega), arrA_o O (by omega) (by omega)]
          exact T1 a b hb (by omega)
      · intro a b ha ha2 hb
        rw [g4 _ (by omega)]
        exact Z1 a b (by omega) ha2 hb)
    (by
      rintro m1 ⟨R1, J1, T1, Z1, F1⟩
      have P1 : PM m1 π := P.fr F1 (fun o ho => by omega)
      dsimp only
      unfold bX8_tickGoes_99
      simp (disch := omega) only [L0, L1, L2, L3, L4, L5, L6, L7, L8, L9, L10, L11, L12, L13, L14, L15, L16, L17, L18, L19, L20, L21, L22, L23, L24, L25, L26, L27, L28, L29, L30, L31, L32, L33, L34, L35, L36, L37, L38, L39, L40, L41, L42, L43, L44, L45, L46, L47, L48, L50, L57, L59, L60, L63, L64, L65, L70, L80, L90, L97, L100, L110, L120, L122, L128, L150, L200, L208, L216, L224, L232, L240, L248, L255, L256, L264, L272, L280, L288, L296, L297, L300, L336, L337, L500, L680, L700, L998, L999, L1000, L1024, L1999, L6403, L9999, L10000, L12345, L99999, L1000000, L214424576, L412560384, L509804544, L639025541, L642945024, L658545824, L1103515245, L2147483647, nI_add, pk_mul, narA_0, bd1_e, bd2_e, bdR_l, bdR_r, e8_links P1, nn_le]
      rw [if_pos (by omega)])
  exact ⟨m', h1, h2, h3, h4⟩
theorem e8_asksAll {m : Mm} {π : Pl} {X : Nat → Nat} (R : RM m X) (P : PM m π) (O : π.ok) (hJ : J π X) : ∃ m', lp (fun s23 : Int32 × Mm => bX8_tickGoes_120 SX8 0 s23.1 s23.2) fu (nI 0, m) = some m' ∧ RM m' (it π.nl askA X) ∧ Fr (fun o => o = 15) m m' := by
  have hnf := O.nf
  have hnl := O.nl
  obtain ⟨m', h1, h2, _, h4⟩ := lp_F (b := fun s23 : Int32 × Mm => bX8_tickGoes_120 SX8 0 s23.1 s23.2) (fun k m1 => RM m1 (it k askA X) ∧ J π (it k askA X) ∧ Fr (fun o => o = 15) m m1) π.nl (m := m) (by omega) ⟨R, hJ, Fr.rfl⟩
    (by
      rintro k m1 hk ⟨R1, J1, F1⟩
      have P1 : PM m1 π := P.fr F1 (fun o ho => by omega)
      have h30 := J1.fill k (by omega)
      have h0 := J1.xoff k (by omega)
      have h10 := J1.xon k (by omega)
      obtain ⟨m2, g1, g2, g3⟩ := e8_asks R1 J1.q (show k < 10 by omega) (by omega) (by omega) (by omega) (J1.asked k (by omega))
      dsimp only
      unfold bX8_tickGoes_120
      simp (disch := omega) only [L0, L1, L2, L3, L4, L5, L6, L7, L8, L9, L10, L11, L12, L13, L14, L15, L16, L17, L18, L19, L20, L21, L22, L23, L24, L25, L26, L27, L28, L29, L30, L31, L32, L33, L34, L35, L36, L37, L38, L39, L40, L41, L42, L43, L44, L45, L46, L47, L48, L50, L57, L59, L60, L63, L64, L65, L70, L80, L90, L97, L100, L110, L120, L122, L128, L150, L200, L208, L216, L224, L232, L240, L248, L255, L256, L264, L272, L280, L288, L296, L297, L300, L336, L337, L500, L680, L700, L998, L999, L1000, L1024, L1999, L6403, L9999, L10000, L12345, L99999, L1000000, L214424576, L412560384, L509804544, L639025541, L642945024, L658545824, L1103515245, L2147483647, nI_add, pk_mul, narA_0, bd1_e, bd2_e, bdR_l, bdR_r, e8_links P1, nn_le, g1]
      rw [if_neg (by omega)]
      exact ⟨_, rfl, g2, J1.ask O (by omega), F1.trans g3⟩)
    (by
      rintro m1 ⟨R1, J1, F1⟩
      have P1 : PM m1 π := P.fr F1 (fun o ho => by omega)
      dsimp only
      unfold bX8_tickGoes_120
      simp (disch := omega) only [L0, L1, L2, L3, L4, L5, L6, L7, L8, L9, L10, L11, L12, L13, L14, L15, L16, L17, L18, L19, L20, L21, L22, L23, L24, L25, L26, L27, L28, L29, L30, L31, L32, L33, L34, L35, L36, L37, L38, L39, L40, L41, L42, L43, L44, L45, L46, L47, L48, L50, L57, L59, L60, L63, L64, L65, L70, L80, L90, L97, L100, L110, L120, L122, L128, L150, L200, L208, L216, L224, L232, L240, L248, L255, L256, L264, L272, L280, L288, L296, L297, L300, L336, L337, L500, L680, L700, L998, L999, L1000, L1024, L1999, L6403, L9999, L10000, L12345, L99999, L1000000, L214424576, L412560384, L509804544, L639025541, L642945024, L658545824, L1103515245, L2147483647, nI_add, pk_mul, narA_0, bd1_e, bd2_e, bdR_l, bdR_r, e8_links P1, nn_le]
      rw [if_pos (by omega)])
  exact ⟨m', h1, h2, h4⟩
/-! link by link, or all that comes first -/
theorem upN_comm {X : Nat → Nat} {i j v w : Nat} (h : i ≠ j) : upN (upN X i v) j w = upN (upN X j w) i v := by
  funext k
  unfold upN
  by_cases c1 : k = j
  · by_cases c2 : k = i
    · omega
    · rw [if_pos c1, if_neg c2, if_pos c1]
  · by_cases c2 : k = i
    · rw [if_neg c1, if_pos c2, if_pos c2]
    · rw [if_neg c1, if_neg c2, if_neg c2, if_neg c1]
theorem upN_id {X : Nat → Nat} {i v : Nat} (h : v = X i) : upN X i v = X := by
  funext k
  unfold upN
  split
  · rename_i e; rw [h, e]
  · rfl
theorem arrF_up {π : Pl} {l f i v : Nat} {Y : Nat → Nat} (hl : l < 10) (hf : f < 8) (hi : 40 ≤ i ∧ i < 50) : arrF π l f (upN Y i v) = upN (arrF π l f Y) i v := by
  have e : ∀ j, j ≠ i → upN Y i v j = Y j := fun j hj => upN_n hj
  have ei : inn l f (upN Y i v) = inn l f Y := by unfold inn; rw [e _ (by omega), e _ (by omega), e _ (by omega)]
  unfold arrF
  rw [ei, e (300 + (l * 8 + f)) (by omega), e (240 + f) (by omega), e (120 + l * 8 + f) (by omega), e (30 + l) (by omega), e (50 + l) (by omega), e (248 + f) (by omega)]
  split
  · rfl
  · split
    · rw [upN_comm (i := i) (by omega), upN_comm (i := i) (by omega)]
    · rw [upN_comm (i := i) (by omega), upN_comm (i := i) (by omega), upN_comm (i := i) (by omega), upN_comm (i := i) (by omega), upN_comm (i := i) (by omega)]
theorem arrA_up {π : Pl} (O : π.ok) {l i v : Nat} {Y : Nat → Nat} (hl : l < 10) (hi : 40 ≤ i ∧ i < 50) : arrA π l (upN Y i v) = upN (arrA π l Y) i v := by
  have hnf := O.nf
  have e : ∀ n, n ≤ π.nf → it n (arrF π l) (upN Y i v) = upN (it n (arrF π l) Y) i v := by
    intro n
    induction n with
    | zero => intro _; rfl
    | succ n ih => intro hn; rw [it_s, it_s, ih (by omega), arrF_up hl (by omega) hi]
  unfold arrA
  rw [e π.nf (Nat.le_refl _), upN_n (by omega), upN_n (by omega), upN_comm (i := i) (by omega)]
theorem askA_arr {π : Pl} (O : π.ok) {a l : Nat} {Y : Nat → Nat} (ha : a < 10) (hl : l < 10) (h : a ≠ l) : askA a (arrA π l Y) = arrA π l (askA a Y) := by
  unfold askA
  rw [arrA_up O hl (by omega)]
  congr 1
  unfold askV
  rw [arrA_o O (by omega) hl, arrA_o O (by omega) hl, arrA_o O (by omega) hl, arrA_o O (by omega) hl]
theorem askI_arr {π : Pl} (O : π.ok) {n l : Nat} {Y : Nat → Nat} (hl : l < 10) (h : n ≤ l) : it n askA (arrA π l Y) = arrA π l (it n askA Y) := by
  induction n with
  | zero => rfl
  | succ n ih => rw [it_s, it_s, ih (by omega), askA_arr O (by omega) hl (by omega)]
theorem arrA_id {π : Pl} {l : Nat} {Y : Nat → Nat} (h : ∀ f, f < π.nf → Y (300 + (l * 8 + f)) = 0) (h2 : Y (30 + l) ≤ Y (60 + l)) : arrA π l Y = Y := by
  have e : ∀ n, n ≤ π.nf → it n (arrF π l) Y = Y := by
    intro n
    induction n with
    | zero => intro _; rfl
    | succ n ih =>
      intro hn
      rw [it_s, ih (by omega)]
      unfold arrF
      rw [if_pos (h n (by omega))]
  unfold arrA
  rw [e π.nf (Nat.le_refl _)]
  exact upN_id (by omega)
theorem st3_e {π : Pl} (O : π.ok) {X : Nat → Nat} (h : Wz π X) : st3 π X = it π.nl askA (it π.nl (arrA π) X) := by
  have hnl := O.nl
  have key : ∀ n, n ≤ π.nl → it n (arsA π) X = it n askA (it n (arrA π) X) ∧ Wz π (it n (arsA π) X) := by
    intro n
    induction n with
    | zero => intro _; exact ⟨rfl, h⟩
    | succ n ih =>
      intro hn
      obtain ⟨e, hW⟩ := ih (by omega)
      refine ⟨?_, by rw [it_s]; exact hW.ars O (by omega)⟩
      have ea : arsA π n (it n (arsA π) X) = askA n (arrA π n (it n (arsA π) X)) := by
        generalize it n (arsA π) X = Y at *
        by_cases c : Y (90 + n) = 0
        · rw [arsA_e0 c, arrA_id (fun f hf => (hW.2.1 n f (by omega) hf).2 c) (hW.1.fp n (by omega))]
        · rw [arsA_e1 c]
      rw [it_s, ea, e, ← askI_arr O (by omega) (Nat.le_refl _)]
      rw [it_s, it_s]
  exact (key π.nl (Nat.le_refl _)).1
