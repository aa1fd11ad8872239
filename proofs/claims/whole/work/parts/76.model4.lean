/-! ===== the model's tick: credit, carrying, taking off ===== -/
theorem e8_st1 {m : Mm} {π : Pl} {X : Nat → Nat} (R : RM m X) (P : PM m π) (O : π.ok) (hJ : J π X) : ∃ m', lp (fun s8 : Int32 × Mm => bX8_tickGoes_2 SX8 0 s8.1 s8.2) fu (nI 0, m) = some m' ∧ RM m' (st1 π X) ∧ Fr (fun o => o = 15) m m' := by
  have hnf := O.nf
  obtain ⟨m', h1, h2, _, h4⟩ := lp_F (b := fun s8 : Int32 × Mm => bX8_tickGoes_2 SX8 0 s8.1 s8.2) (fun k m1 => RM m1 (it k crA X) ∧ J π (it k crA X) ∧ Fr (fun o => o = 15) m m1) π.nf (m := m) (by omega) ⟨R, hJ, Fr.rfl⟩
    (by
      rintro k m1 hk ⟨R1, J1, F1⟩
      have P1 : PM m1 π := P.fr F1 (fun o ho => by omega)
      rw [it_s]
      generalize it k crA X = Y at *
      have hon := J1.on k (by omega)
      have hcr := J1.credit k (by omega)
      have hra := J1.rate k (by omega)
      have emin : max 0 (min 1024 (Y (272 + k) + Y (200 + k))) = min 1024 (Y (272 + k) + Y (200 + k)) := by omega
      dsimp only
      unfold bX8_tickGoes_2 jX8_tickGoes_57
      simp (disch := omega) only [L0, L1, L2, L3, L4, L5, L6, L7, L8, L9, L10, L11, L12, L13, L14, L15, L16, L17, L18, L19, L20, L21, L22, L23, L24, L25, L26, L27, L28, L29, L30, L31, L32, L33, L34, L35, L36, L37, L38, L39, L40, L41, L42, L43, L44, L45, L46, L47, L48, L50, L57, L59, L60, L63, L64, L65, L70, L80, L90, L97, L100, L110, L120, L122, L128, L150, L200, L208, L216, L224, L232, L240, L248, L255, L256, L264, L272, L280, L288, L296, L297, L300, L336, L337, L500, L680, L700, L998, L999, L1000, L1024, L1999, L6403, L9999, L10000, L12345, L99999, L1000000, L214424576, L412560384, L509804544, L639025541, L642945024, L658545824, L1103515245, L2147483647, g8_0, r8_1, r8_3, r8_4, r8_5, r8_6, r8_7, r8_8, r8_9, r8_10, r8_11, r8_12, r8_13, r8_14, r8_15, r8_26, r8_27, r8_28, r8_29, r8_30, r8_33, r8_34, r8_35, r8_36, r8_37, r8_39, r8_40, r8_41, r8_43, r8_44, r8_45, nI_add, pk_mul, narA_0, bd1_e, bd2_e, bdR_l, bdR_r, e8_flows P1, nn_le, e8_flowAt, e8_isOn R1 (show k < 8 by omega) hon, nn_eq, ldA_n s8_15, R1.credit k (by omega), R1.rate k (by omega), e8_within, emin, stA_n s8_15]
      rw [if_neg (by omega)]
      have J2 := J1.cr O (f := k) (by omega)
      unfold crA at J2 ⊢
      by_cases e : Y (264 + k) = 1
      · rw [if_pos e] at J2
        rw [if_neg (by omega), if_pos e]
        refine ⟨_, rfl, (R1.st_credit _ (by omega)).congr (fun i hi _ => ?_), J2, F1.st rfl⟩
        by_cases ei : i = 272 + k
        · subst ei; rw [upN_s, upN_s]
        · rw [upN_n ei, upN_n ei, upN_n (by omega)]
      · rw [if_neg e] at J2
        rw [if_pos (by omega), if_neg e]
        exact ⟨_, rfl, R1.congr (fun i hi _ => by rw [upN_n (by omega)]), J2, F1⟩)
    (by
      rintro m1 ⟨R1, J1, F1⟩
      have P1 : PM m1 π := P.fr F1 (fun o ho => by omega)
      dsimp only
      unfold bX8_tickGoes_2
      simp (disch := omega) only [L0, L1, L2, L3, L4, L5, L6, L7, L8, L9, L10, L11, L12, L13, L14, L15, L16, L17, L18, L19, L20, L21, L22, L23, L24, L25, L26, L27, L28, L29, L30, L31, L32, L33, L34, L35, L36, L37, L38, L39, L40, L41, L42, L43, L44, L45, L46, L47, L48, L50, L57, L59, L60, L63, L64, L65, L70, L80, L90, L97, L100, L110, L120, L122, L128, L150, L200, L208, L216, L224, L232, L240, L248, L255, L256, L264, L272, L280, L288, L296, L297, L300, L336, L337, L500, L680, L700, L998, L999, L1000, L1024, L1999, L6403, L9999, L10000, L12345, L99999, L1000000, L214424576, L412560384, L509804544, L639025541, L642945024, L658545824, L1103515245, L2147483647, nI_add, pk_mul, narA_0, bd1_e, bd2_e, bdR_l, bdR_r, e8_flows P1, nn_le]
      rw [if_pos (by omega)])
  exact ⟨m', h1, h2, h4⟩
theorem rdyV_b {π : Pl} (O : π.ok) {X : Nat → Nat} (hJ : J π X) {l f : Nat} (hf : f < π.nf) : rdyV (π.pv l f) f X ≤ 1999 := by
  have hnf := O.nf
  have hnl := O.nl
  have hv := Pl.pv_lt O (l := l) hf
  unfold rdyV
  split
  · omega
  · split
    · have := hJ.credit f (by omega); omega
    · have h1 := hJ.q.le (k := π.pv l f - 2) (g := f) (by omega) (by omega)
      have h2 := hJ.fill (π.pv l f - 2) (by omega)
      omega
theorem e8_carryAll {m : Mm} {π : Pl} {X : Nat → Nat} (R : RM m X) (P : PM m π) (O : π.ok) (hJ : J π X) (hT : TBl m 20 π.nf π.nl 0 (fun l f => rdyV (π.pv l f) f X)) (h0 : TBl m 21 π.nf π.nl 0 (fun _ _ => 0)) : ∃ m', lp (fun s13 : Int32 × Mm => bX8_tickGoes_69 SX8 0 s13.1 s13.2) fu (nI 0, m) = some m' ∧ RM m' (it π.nl (smS π X) X) ∧ TBl m' 21 π.nf π.nl 0 (fun l f => mvB π l X f) ∧ Fr (fun o => o = 15 ∨ o = 21) m m' := by
  have hnf := O.nf
  have hnl := O.nl
  obtain ⟨m', h1, h2, h3, _, h4⟩ := lp_F (b := fun s13 : Int32 × Mm => bX8_tickGoes_69 SX8 0 s13.1 s13.2) (fun k m1 => RM m1 (it k (smS π X) X) ∧ TBl m1 21 π.nf k 0 (fun l f => mvB π l X f) ∧ (∀ a b, k ≤ a → a < π.nl → b < π.nf → m1.1 21 (8 * a + b) = nI 0) ∧ Fr (fun o => o = 15 ∨ o = 21) m m1) π.nl (m := m) (by omega) ⟨R, fun a b _ h => by omega, fun a b _ ha hb => h0 a b hb (Or.inl ha), Fr.rfl⟩
    (by
      rintro k m1 hk ⟨R1, T1, Z1, F1⟩
      have P1 : PM m1 π := P.fr F1 (fun o ho => by omega)
      obtain ⟨m2, g1, g2, g3, g4, g5⟩ := e8_carriesOf (X := X) R1 P1 O hk (smS_o O (by omega) (by omega)) (hJ.asked k (by omega)) (fun f hf => by rw [F1.2 20 (by omega)]; exact hT k f hf (Or.inl hk)) (fun f hf => by have := rdyV_b O hJ (l := k) hf; omega) (fun f hf => Z1 k f (Nat.le_refl _) hk hf)
      dsimp only
      unfold bX8_tickGoes_69
      simp (disch := omega) only [L0, L1, L2, L3, L4, L5, L6, L7, L8, L9, L10, L11, L12, L13, L14, L15, L16, L17, L18, L19, L20, L21, L22, L23, L24, L25, L26, L27, L28, L29, L30, L31, L32, L33, L34, L35, L36, L37, L38, L39, L40, L41, L42, L43, L44, L45, L46, L47, L48, L50, L57, L59, L60, L63, L64, L65, L70, L80, L90, L97, L100, L110, L120, L122, L128, L150, L200, L208, L216, L224, L232, L240, L248, L255, L256, L264, L272, L280, L288, L296, L297, L300, L336, L337, L500, L680, L700, L998, L999, L1000, L1024, L1999, L6403, L9999, L10000, L12345, L99999, L1000000, L214424576, L412560384, L509804544, L639025541, L642945024, L658545824, L1103515245, L2147483647, nI_add, pk_mul, narA_0, bd1_e, bd2_e, bdR_l, bdR_r, e8_links P1, nn_le, g1]
      rw [if_neg (by omega)]
      refine ⟨_, rfl, ?_, ?_, ?_, F1.trans g5⟩
      · refine g2.congr (fun i hi _ => ?_)
        rw [it_s]
        unfold smS smv
        rw [if_neg (by omega)]
        rfl
      · intro a b hb hab
        by_cases e : a = k
        · subst e; exact g3 b hb
        · rw [g4 _ (by omega)]
          exact T1 a b hb (by omega)
      · intro a b ha ha2 hb
        rw [g4 _ (by omega)]
        exact Z1 a b (by omega) ha2 hb)
    (by
      rintro m1 ⟨R1, T1, Z1, F1⟩
      have P1 : PM m1 π := P.fr F1 (fun o ho => by omega)
      dsimp only
      unfold bX8_tickGoes_69
      simp (disch := omega) only [L0, L1, L2, L3, L4, L5, L6, L7, L8, L9, L10, L11, L12, L13, L14, L15, L16, L17, L18, L19, L20, L21, L22, L23, L24, L25, L26, L27, L28, L29, L30, L31, L32, L33, L34, L35, L36, L37, L38, L39, L40, L41, L42, L43, L44, L45, L46, L47, L48, L50, L57, L59, L60, L63, L64, L65, L70, L80, L90, L97, L100, L110, L120, L122, L128, L150, L200, L208, L216, L224, L232, L240, L248, L255, L256, L264, L272, L280, L288, L296, L297, L300, L336, L337, L500, L680, L700, L998, L999, L1000, L1024, L1999, L6403, L9999, L10000, L12345, L99999, L1000000, L214424576, L412560384, L509804544, L639025541, L642945024, L658545824, L1103515245, L2147483647, nI_add, pk_mul, narA_0, bd1_e, bd2_e, bdR_l, bdR_r, e8_links P1, nn_le]
      rw [if_pos (by omega)])
  exact ⟨m', h1, h2, h3, h4⟩
/-- what is taken of a flow: bounds of the state in between -/
theorem tkS_b {π : Pl} (O : π.ok) {X : Nat → Nat} {l f : Nat} (hl : l < π.nl) (hf : f < π.nf) (h0 : 0 < mvB π l X f) : π.pv l f ≠ 0 ∧ (π.pv l f = 1 → mvB π l X f * 16 ≤ tkF π l (mvB π l X) f (it l (tkS π X) (it π.nl (smS π X) X)) (272 + f)) ∧ (2 ≤ π.pv l f → mvB π l X f ≤ tkF π l (mvB π l X) f (it l (tkS π X) (it π.nl (smS π X) X)) (120 + (π.pv l f - 2) * 8 + f)) := by
  have hnf := O.nf
  have hnl := O.nl
  have hv := Pl.pv_lt O (l := l) hf
  have h1 := mvB_le (π := π) (l := l) (X := X) hf
  have h2 := canA_le (π := π) (l := l) (f := f) (X := X)
  have e1 : rdyV (π.pv l f) f (it l (tkS π X) (it π.nl (smS π X) X)) = rdyV (π.pv l f) f X := by
    rw [tkS_inv O hf (Nat.le_refl _), smS_inv O hf (Nat.le_refl _)]
  rw [← e1] at h2
  generalize it l (tkS π X) (it π.nl (smS π X) X) = Y at *
  unfold rdyV at h2
  refine ⟨fun c => ?_, fun c => ?_, fun c => ?_⟩
  · rw [if_pos c] at h2; omega
  · rw [if_neg (by omega), if_pos c] at h2
    rw [(tkF_cell O (l := l) (k := f) (j := 0) (f := f) (by omega) (Nat.le_refl _) (by omega) (by omega)).2]
    omega
  · rw [if_neg (by omega), if_neg (by omega)] at h2
    rw [(tkF_cell O (l := l) (k := f) (j := π.pv l f - 2) (f := f) (by omega) (Nat.le_refl _) (by omega) (by omega)).1]
    omega
theorem e8_takesOff {m : Mm} {π : Pl} {X : Nat → Nat} (R : RM m (it π.nl (smS π X) X)) (P : PM m π) (O : π.ok) (hT : TBl m 21 π.nf π.nl 0 (fun l f => mvB π l X f)) : ∃ m', fX8_takesOff SX8 m 0 = some m' ∧ RM m' (st2 π X) ∧ Fr (fun o => o = 15) m m' := by
  have hnf := O.nf
  have hnl := O.nl
  have hst : st2 π X = it π.nl (tkS π X) (it π.nl (smS π X) X) := st2_e O (Nat.le_refl _)
  rw [hst]
  unfold fX8_takesOff
  simp only [L0, L1, L2, L3, L4, L5, L6, L7, L8, L9, L10, L11, L12, L13, L14, L15, L16, L17, L18, L19, L20, L21, L22, L23, L24, L25, L26, L27, L28, L29, L30, L31, L32, L33, L34, L35, L36, L37, L38, L39, L40, L41, L42, L43, L44, L45, L46, L47, L48, L50, L57, L59, L60, L63, L64, L65, L70, L80, L90, L97, L100, L110, L120, L122, L128, L150, L200, L208, L216, L224, L232, L240, L248, L255, L256, L264, L272, L280, L288, L296, L297, L300, L336, L337, L500, L680, L700, L998, L999, L1000, L1024, L1999, L6403, L9999, L10000, L12345, L99999, L1000000, L214424576, L412560384, L509804544, L639025541, L642945024, L658545824, L1103515245, L2147483647, g8_0, r8_1, r8_3, r8_4, r8_5, r8_6, r8_7, r8_8, r8_9, r8_10, r8_11, r8_12, r8_13, r8_14, r8_15, r8_26, r8_27, r8_28, r8_29, r8_30, r8_33, r8_34, r8_35, r8_36, r8_37, r8_39, r8_40, r8_41, r8_43, r8_44, r8_45]
  obtain ⟨m', h1, h2, h4⟩ := lp_F (b := fun s16 : Int32 × Mm => bX8_takesOff_2 SX8 0 s16.1 s16.2) (fun l m1 => RM m1 (it l (tkS π X) (it π.nl (smS π X) X)) ∧ Fr (fun o => o = 15) m m1) π.nl (m := m) (by omega) ⟨R, Fr.rfl⟩
    (by
      rintro l m1 hl ⟨R1, F1⟩
      have P1 : PM m1 π := P.fr F1 (fun o ho => by omega)
      have hcap := O.cap l hl
      dsimp only
      unfold bX8_takesOff_2
      simp (disch := omega) only [L0, L1, L2, L3, L4, L5, L6, L7, L8, L9, L10, L11, L12, L13, L14, L15, L16, L17, L18, L19, L20, L21, L22, L23, L24, L25, L26, L27, L28, L29, L30, L31, L32, L33, L34, L35, L36, L37, L38, L39, L40, L41, L42, L43, L44, L45, L46, L47, L48, L50, L57, L59, L60, L63, L64, L65, L70, L80, L90, L97, L100, L110, L120, L122, L128, L150, L200, L208, L216, L224, L232, L240, L248, L255, L256, L264, L272, L280, L288, L296, L297, L300, L336, L337, L500, L680, L700, L998, L999, L1000, L1024, L1999, L6403, L9999, L10000, L12345, L99999, L1000000, L214424576, L412560384, L509804544, L639025541, L642945024, L658545824, L1103515245, L2147483647, nI_add, pk_mul, narA_0, bd1_e, bd2_e, bdR_l, bdR_r, e8_links P1, nn_le]
      rw [if_neg (by omega), it_s]
      obtain ⟨m2, g1, g2, g3⟩ := lp_F (b := fun s14 : Int32 × Mm => bX8_takesOff_12 SX8 0 (nI l) s14.1 s14.2) (fun f m2 => RM m2 (tkF π l (mvB π l X) f (it l (tkS π X) (it π.nl (smS π X) X))) ∧ Fr (fun o => o = 15) m m2) π.nf (m := m1) (by omega) ⟨R1, F1⟩
        (by
          rintro f m2 hf ⟨R2, F2⟩
          have P2 : PM m2 π := P.fr F2 (fun o ho => by omega)
          have hB := tkS_b O (X := X) hl hf
          have hmc := mvB_cap (π := π) (l := l) (X := X) hf
          have ht : m2.1 21 (8 * l + f) = nI (mvB π l X f) := by rw [F2.2 21 (by omega)]; exact hT l f hf (Or.inl hl)
          rw [tkF_s]
          generalize tkF π l (mvB π l X) f (it l (tkS π X) (it π.nl (smS π X) X)) = Y at *
          generalize mvB π l X f = q at *
          dsimp only
          unfold bX8_takesOff_12 jX8_takesOff_119
          simp (disch := omega) only [L0, L1, L2, L3, L4, L5, L6, L7, L8, L9, L10, L11, L12, L13, L14, L15, L16, L17, L18, L19, L20, L21, L22, L23, L24, L25, L26, L27, L28, L29, L30, L31, L32, L33, L34, L35, L36, L37, L38, L39, L40, L41, L42, L43, L44, L45, L46, L47, L48, L50, L57, L59, L60, L63, L64, L65, L70, L80, L90, L97, L100, L110, L120, L122, L128, L150, L200, L208, L216, L224, L232, L240, L248, L255, L256, L264, L272, L280, L288, L296, L297, L300, L336, L337, L500, L680, L700, L998, L999, L1000, L1024, L1999, L6403, L9999, L10000, L12345, L99999, L1000000, L214424576, L412560384, L509804544, L639025541, L642945024, L658545824, L1103515245, L2147483647, g8_0, r8_1, r8_3, r8_4, r8_5, r8_6, r8_7, r8_8, r8_9, r8_10, r8_11, r8_12, r8_13, r8_14, r8_15, r8_26, r8_27, r8_28, r8_29, r8_30, r8_33, r8_34, r8_35, r8_36, r8_37, r8_39, r8_40, r8_41, r8_43, r8_44, r8_45, nI_add, pk_mul, narA_0, bd1_e, bd2_e, bdR_l, bdR_r, e8_flows P2, nn_le, ldA_n s8_21, ht, nn_eq, e8_hopOf P2 O hf (show l < 10 by omega)]
          rw [if_neg (by omega)]
          by_cases e : q = 0
          · rw [if_neg (fun c => c e), if_neg (show ¬ 0 < q by omega)]
            exact ⟨_, rfl, R2, F2⟩
          · rw [if_pos e, if_pos (show 0 < q by omega)]
            obtain ⟨b0, b1, b2⟩ := hB (by omega)
            have hle := π.hp_le f l
            have hho := O.hops f hf
            rcases Pl.hp_of (π := π) (f := f) (l := l) with ⟨c1, c2⟩ | ⟨c1, c2⟩ | ⟨i, c2, c1⟩
            · exact absurd c1 b0
            · rw [c2, if_pos (by rw [show nxI 1 = nI 0 from rfl, nn_le (by omega) (by omega)]; omega)]
              have b1 := b1 c1
              simp (disch := omega) only [e8_flowAt, nI_add, pk_mul, narA_0, bd1_e, bd2_e, bdR_l, bdR_r, ldA_n s8_15, R2.credit f (by omega), stA_n s8_15, pk_sub, u1_rn, R2.sent f (by omega), g8_0, r8_1, r8_3, r8_4, r8_5, r8_6, r8_7, r8_8, r8_9, r8_10, r8_11, r8_12, r8_13, r8_14, r8_15, r8_26, r8_27, r8_28, r8_29, r8_30, r8_33, r8_34, r8_35, r8_36, r8_37, r8_39, r8_40, r8_41, r8_43, r8_44, r8_45]
              refine ⟨_, rfl, ((R2.st_credit _ (by omega)).st_sent _ (by omega)).congr (fun i hi _ => ?_), (F2.st rfl).st rfl⟩
              unfold tkA
              rw [if_pos (by omega), upN_n (i := 380 + f) (by omega), Nat.mul_comm q 16]
            · have hpa := O.path f i hf (by omega)
              have ei : 5 * f + (i + 1) - 1 = 5 * f + i := by omega
              have b2 := b2 (by omega)
              rw [c1, Nat.add_sub_cancel] at b2
              rw [c2, show nxI (i + 2) = nI (i + 1) from rfl, if_neg (by rw [nn_le (by omega) (by omega)]; omega)]
              simp (disch := omega) only [nI_add, pk_mul, narA_0, bd1_e, bd2_e, bdR_l, bdR_r, pk_sub, ei, ldA_n s8_14, P2.path f i hf (by omega), ldA_n s8_15, R2.q (π.path f i) f (by omega) (by omega), stA_n s8_15, g8_0, r8_1, r8_3, r8_4, r8_5, r8_6, r8_7, r8_8, r8_9, r8_10, r8_11, r8_12, r8_13, r8_14, r8_15, r8_26, r8_27, r8_28, r8_29, r8_30, r8_33, r8_34, r8_35, r8_36, r8_37, r8_39, r8_40, r8_41, r8_43, r8_44, r8_45]
              refine ⟨_, rfl, (R2.st_q _ (by omega)).congr (fun j hj hj2 => ?_), F2.st rfl⟩
              unfold tkA
              rw [if_neg (by omega), c1, Nat.add_sub_cancel, upN_n (i := 30 + π.path f i) (by omega)])
        (by
          rintro m2 ⟨R2, F2⟩
          have P2 : PM m2 π := P.fr F2 (fun o ho => by omega)
          dsimp only
          unfold bX8_takesOff_12
          simp (disch := omega) only [L0, L1, L2, L3, L4, L5, L6, L7, L8, L9, L10, L11, L12, L13, L14, L15, L16, L17, L18, L19, L20, L21, L22, L23, L24, L25, L26, L27, L28, L29, L30, L31, L32, L33, L34, L35, L36, L37, L38, L39, L40, L41, L42, L43, L44, L45, L46, L47, L48, L50, L57, L59, L60, L63, L64, L65, L70, L80, L90, L97, L100, L110, L120, L122, L128, L150, L200, L208, L216, L224, L232, L240, L248, L255, L256, L264, L272, L280, L288, L296, L297, L300, L336, L337, L500, L680, L700, L998, L999, L1000, L1024, L1999, L6403, L9999, L10000, L12345, L99999, L1000000, L214424576, L412560384, L509804544, L639025541, L642945024, L658545824, L1103515245, L2147483647, nI_add, pk_mul, narA_0, bd1_e, bd2_e, bdR_l, bdR_r, e8_flows P2, nn_le]
          rw [if_pos (by omega)])
      rw [g1, bd1_e]
      exact ⟨_, rfl, g2, g3⟩)
    (by
      rintro m1 ⟨R1, F1⟩
      have P1 : PM m1 π := P.fr F1 (fun o ho => by omega)
      dsimp only
      unfold bX8_takesOff_2
      simp (disch := omega) only [L0, L1, L2, L3, L4, L5, L6, L7, L8, L9, L10, L11, L12, L13, L14, L15, L16, L17, L18, L19, L20, L21, L22, L23, L24, L25, L26, L27, L28, L29, L30, L31, L32, L33, L34, L35, L36, L37, L38, L39, L40, L41, L42, L43, L44, L45, L46, L47, L48, L50, L57, L59, L60, L63, L64, L65, L70, L80, L90, L97, L100, L110, L120, L122, L128, L150, L200, L208, L216, L224, L232, L240, L248, L255, L256, L264, L272, L280, L288, L296, L297, L300, L336, L337, L500, L680, L700, L998, L999, L1000, L1024, L1999, L6403, L9999, L10000, L12345, L99999, L1000000, L214424576, L412560384, L509804544, L639025541, L642945024, L658545824, L1103515245, L2147483647, nI_add, pk_mul, narA_0, bd1_e, bd2_e, bdR_l, bdR_r, e8_links P1, nn_le]
      rw [if_pos (by omega)])
  rw [h1, bd1_e]
  exact ⟨_, rfl, h2, h4⟩
