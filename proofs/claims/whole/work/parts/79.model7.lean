/-! ===== the model's tick: samples and notices ===== -/
def NT (m : Mm) (L : List (Nat × Nat)) : Prop := m.1 0 38 = nI L.length ∧ ∀ j q, L[j]? = some q → m.1 23 j = nI q.1 ∧ m.1 24 j = nI q.2
def TF (m m' : Mm) : Prop := m'.2 = m.2 ∧ (∀ o, o ≠ 0 → o ≠ 15 → ¬ (20 ≤ o ∧ o ≤ 24) → m'.1 o = m.1 o) ∧ ∀ j, j ≠ 38 → m'.1 0 j = m.1 0 j
theorem TF.rfl {m : Mm} : TF m m := ⟨Eq.refl _, fun _ _ _ _ => Eq.refl _, fun _ _ => Eq.refl _⟩
theorem TF.trans {m m' m'' : Mm} (h : TF m m') (h2 : TF m' m'') : TF m m'' := ⟨h2.1.trans h.1, fun o a b c => (h2.2.1 o a b c).trans (h.2.1 o a b c), fun j hj => (h2.2.2 j hj).trans (h.2.2 j hj)⟩
theorem TF.of {P : Nat → Prop} {m m' : Mm} (h : Fr P m m') (hp : ∀ o, P o → o = 15 ∨ (20 ≤ o ∧ o ≤ 24)) : TF m m' := ⟨h.1, fun o a b c => h.2 o (fun q => by have := hp o q; omega), fun j _ => by rw [h.2 0 (fun q => by have := hp 0 q; omega)]⟩
theorem TF.P {m m' : Mm} {π : Pl} (h : TF m m') (P : PM m π) : PM m' π := by
  have e : ∀ k, 2 ≤ k → k < 15 → m'.1 k = m.1 k := fun k h1 h2 => h.2.1 k (by omega) (by omega) (by omega)
  refine PM.mk ?_ ?_ ?_ ?_ ?_ ?_ ?_ ?_ ?_ ?_ ?_ ?_ ?_ ?_ ?_
  all_goals first
    | (rw [e 2 (by omega) (by omega)]; first | exact P.nl | exact P.nf | exact P.each | exact P.middle | exact P.weight | exact P.cells | exact P.ticks | exact P.more | exact P.seed)
    | (intros; rw [e 4 (by omega) (by omega)]; apply P.lname; assumption)
    | (intros; rw [e 5 (by omega) (by omega)]; apply P.cap; assumption)
    | (intros; rw [e 6 (by omega) (by omega)]; apply P.delay; assumption)
    | (intros; rw [e 10 (by omega) (by omega)]; apply P.fname; assumption)
    | (intros; rw [e 13 (by omega) (by omega)]; apply P.hops; assumption)
    | (intros; rw [e 14 (by omega) (by omega)]; apply P.path <;> assumption)
theorem TF.u15 {m m' : Mm} {i : Nat} {v : Int32} (h : TF m m') : TF m (u1 m' 15 i v) := h.trans (TF.of (P := fun o => o = 15) (Fr.u1 (Eq.refl _)) (fun o ho => Or.inl ho))
def ntA (π : Pl) (l : Nat) (Y : Nat → Nat) : List (Nat × Nat) := if sampN π l Y = 0 then [] else [(smM π l Y π.nf - 1, sampN π l Y)]
theorem e8_samples {m : Mm} {π : Pl} {Y : Nat → Nat} {l : Nat} {L : List (Nat × Nat)} (R : RM m Y) (P : PM m π) (O : π.ok) (hF : fillOK Y) (hN : NT m L) (hl : l < π.nl) (hL : L.length ≤ l) (hc : Y (100 + l) ≤ 999) (hmv : ∀ f, f < π.nf → Y (300 + (l * 8 + f)) ≤ 64) (h22 : ∀ f, f < π.nf → m.1 22 (8 * l + f) = nI (Y (300 + (l * 8 + f)))) : ∃ m', fX8_samples SX8 m 0 (nI l) = some m' ∧ RM m' (sampL π l Y) ∧ NT m' (L ++ ntA π l Y) ∧ m'.1 22 = m.1 22 ∧ m'.1 21 = m.1 21 ∧ TF m m' := by
  have hnl := O.nl
  have hnf := O.nf
  have hea := O.each
  have hl10 : l < 10 := by omega
  have hsc : ∀ k, k ≤ π.nf → smC l Y k ≤ 999 + k * 64 := by
    intro k
    induction k with
    | zero => intro _; unfold smC; exact hc
    | succ k ih => intro hk; rw [smC_s]; have := ih (by omega); have := hmv k (by omega); omega
  have hMle : ∀ k, smM π l Y k ≤ k := smM_le π l Y
  unfold fX8_samples
  simp only [L0, L1, L2, L3, L4, L5, L6, L7, L8, L9, L10, L11, L12, L13, L14, L15, L16, L17, L18, L19, L20, L21, L22, L23, L24, L25, L26, L27, L28, L29, L30, L31, L32, L33, L34, L35, L36, L37, L38, L39, L40, L41, L42, L43, L44, L45, L46, L47, L48, L50, L57, L59, L60, L63, L64, L65, L70, L80, L90, L97, L100, L110, L120, L122, L128, L150, L200, L208, L216, L224, L232, L240, L248, L255, L256, L264, L272, L280, L288, L296, L297, L300, L336, L337, L500, L680, L700, L998, L999, L1000, L1024, L1999, L6403, L9999, L10000, L12345, L99999, L1000000, L214424576, L412560384, L509804544, L639025541, L642945024, L658545824, L1103515245, L2147483647, g8_0, r8_1, r8_3, r8_4, r8_5, r8_6, r8_7, r8_8, r8_9, r8_10, r8_11, r8_12, r8_13, r8_14, r8_15, r8_26, r8_27, r8_28, r8_29, r8_30, r8_33, r8_34, r8_35, r8_36, r8_37, r8_39, r8_40, r8_41, r8_43, r8_44, r8_45, pk_mul, nI_add]
  obtain ⟨y, g1, g2, g3, g4⟩ := lp_n (b := fun s7 : Int32 × Int32 × Mm => bX8_samples_10 SX8 0 (nI l) (nI (24 * l)) s7.1 s7.2.1 s7.2.2) (N := fu) (s0 := (-nI 1, nI 0, m))
    (fun k s => s.1 = nxC (smM π l Y k) ∧ s.2.1 = nI k ∧ RM s.2.2 (upN Y (100 + l) (smC l Y k)) ∧ Fr (fun o => o = 15) m s.2.2)
    (fun y => y.1 = nxC (smM π l Y π.nf) ∧ RM y.2 (upN Y (100 + l) (smC l Y π.nf)) ∧ Fr (fun o => o = 15) m y.2)
    π.nf ⟨rfl, rfl, by rw [upN_id (show smC l Y 0 = Y (100 + l) from rfl)]; exact R, Fr.rfl⟩ (by unfold fu; omega)
    (by
      rintro k ⟨a, c, m1⟩ hk ⟨e1, e2, R1, F1⟩
      dsimp only at e1 e2 R1 F1 ⊢
      subst e1 e2
      have P1 : PM m1 π := P.fr F1 (fun o ho => by omega)
      have hct := R1.count l hl10
      rw [upN_s] at hct
      have hcm : m1.1 22 (8 * l + k) = nI (Y (300 + (l * 8 + k))) := by rw [F1.2 22 (by omega)]; exact h22 k hk
      have h1 := hsc k (by omega)
      have h2 := hmv k hk
      have h3 := hMle k
      have R2 := (R1.st_count (smC l Y k + Y (300 + (l * 8 + k))) hl10).congr (Y := upN Y (100 + l) (smC l Y (k + 1))) (fun i hi _ => by
        rw [smC_s]
        by_cases c : i = 100 + l
        · rw [c, upN_s, upN_s]
        · rw [upN_n c, upN_n c, upN_n c])
      unfold bX8_samples_10 jX8_samples_69
      simp (disch := omega) only [L0, L1, L2, L3, L4, L5, L6, L7, L8, L9, L10, L11, L12, L13, L14, L15, L16, L17, L18, L19, L20, L21, L22, L23, L24, L25, L26, L27, L28, L29, L30, L31, L32, L33, L34, L35, L36, L37, L38, L39, L40, L41, L42, L43, L44, L45, L46, L47, L48, L50, L57, L59, L60, L63, L64, L65, L70, L80, L90, L97, L100, L110, L120, L122, L128, L150, L200, L208, L216, L224, L232, L240, L248, L255, L256, L264, L272, L280, L288, L296, L297, L300, L336, L337, L500, L680, L700, L998, L999, L1000, L1024, L1999, L6403, L9999, L10000, L12345, L99999, L1000000, L214424576, L412560384, L509804544, L639025541, L642945024, L658545824, L1103515245, L2147483647, g8_0, r8_1, r8_3, r8_4, r8_5, r8_6, r8_7, r8_8, r8_9, r8_10, r8_11, r8_12, r8_13, r8_14, r8_15, r8_26, r8_27, r8_28, r8_29, r8_30, r8_33, r8_34, r8_35, r8_36, r8_37, r8_39, r8_40, r8_41, r8_43, r8_44, r8_45, nI_add, pk_mul, narA_0, bd1_e, bd2_e, bdR_l, bdR_r, e8_flows P1, nn_le, ldA_n s8_15, hct, ldA_n s8_22, hcm, stA_n s8_15, u1_rs, ldA_n s8_2, u1_rn, P1.each, nn_lt, nxC_0]
      rw [if_neg (by omega), smM_s, smC_s]
      rw [smC_s] at R2
      refine Or.inl ?_
      by_cases e : smM π l Y k = 0
      · have e' : ¬ ¬ smM π l Y k = 0 := fun c => c e
        rw [if_neg e', if_neg e']
        by_cases e2 : smC l Y k + Y (300 + (l * 8 + k)) < π.each
        · rw [if_pos e2, if_neg (show ¬ π.each ≤ smC l Y k + Y (300 + (l * 8 + k)) by omega), e]
          exact ⟨_, rfl, rfl, rfl, R2, F1.st rfl⟩
        · rw [if_neg e2, if_pos (show π.each ≤ smC l Y k + Y (300 + (l * 8 + k)) by omega)]
          exact ⟨_, rfl, rfl, rfl, R2, F1.st rfl⟩
      · rw [if_pos e, if_pos e]
        exact ⟨_, rfl, rfl, rfl, R2, F1.st rfl⟩)
    (by
      rintro ⟨a, c, m1⟩ ⟨e1, e2, R1, F1⟩
      dsimp only at e1 e2 R1 F1 ⊢
      subst e1 e2
      have P1 : PM m1 π := P.fr F1 (fun o ho => by omega)
      unfold bX8_samples_10
      simp (disch := omega) only [L0, L1, L2, L3, L4, L5, L6, L7, L8, L9, L10, L11, L12, L13, L14, L15, L16, L17, L18, L19, L20, L21, L22, L23, L24, L25, L26, L27, L28, L29, L30, L31, L32, L33, L34, L35, L36, L37, L38, L39, L40, L41, L42, L43, L44, L45, L46, L47, L48, L50, L57, L59, L60, L63, L64, L65, L70, L80, L90, L97, L100, L110, L120, L122, L128, L150, L200, L208, L216, L224, L232, L240, L248, L255, L256, L264, L272, L280, L288, L296, L297, L300, L336, L337, L500, L680, L700, L998, L999, L1000, L1024, L1999, L6403, L9999, L10000, L12345, L99999, L1000000, L214424576, L412560384, L509804544, L639025541, L642945024, L658545824, L1103515245, L2147483647, nI_add, pk_mul, narA_0, bd1_e, bd2_e, bdR_l, bdR_r, e8_flows P1, nn_le]
      rw [if_pos (by omega)]
      exact ⟨_, rfl, rfl, R1, F1⟩)
  rw [g1, bd1_e, g2]
  have hMn := hMle π.nf
  have hcn := hsc π.nf (Nat.le_refl _)
  have P1 : PM y.2 π := P.fr g4 (fun o ho => by omega)
  have T1 : TF m y.2 := TF.of g4 (fun o ho => Or.inl ho)
  simp (disch := omega) only [nxC_0]
  unfold ntA sampN sampL
  by_cases e : smM π l Y π.nf = 0
  · rw [if_neg (fun c => c e)]
    simp only [if_pos e, List.append_nil, if_true]
    refine ⟨_, rfl, g3, ?_, g4.2 22 (by omega), g4.2 21 (by omega), T1⟩
    exact ⟨by rw [g4.2 0 (by omega)]; exact hN.1, fun j q hj => by rw [g4.2 23 (by omega), g4.2 24 (by omega)]; exact hN.2 j q hj⟩
  · rw [if_pos e]
    simp only [if_neg e]
    have hct := g3.count l hl10
    rw [upN_s] at hct
    have hmod := Nat.mod_lt (smC l Y π.nf) (show 0 < π.each by omega)
    have R2 := (g3.st_count (smC l Y π.nf % π.each) hl10).congr (Y := upN Y (100 + l) (smC l Y π.nf % π.each)) (fun i hi _ => by
      by_cases c : i = 100 + l
      · rw [c, upN_s, upN_s]
      · rw [upN_n c, upN_n c, upN_n c])
    have T2 := T1.u15 (i := 24 * l + 8) (v := nI (smC l Y π.nf % π.each))
    have P2 := T2.P P
    have hF2 : fillOK (upN Y (100 + l) (smC l Y π.nf % π.each)) := hF.congr (fun i hi => upN_n (by omega))
    have hfb : fbk π l (upN Y (100 + l) (smC l Y π.nf % π.each)) = fbk π l Y := fbk_up (upN_n (by omega)) (upN_n (by omega))
    have hsa := R2.samples l hl10
    rw [upN_n (by omega)] at hsa
    have R3 := R2.st_samples (Y (70 + l) + 1) hl10
    have hF3 : fillOK (upN (upN Y (100 + l) (smC l Y π.nf % π.each)) (70 + l) (Y (70 + l) + 1)) := hF2.congr (fun i hi => upN_n (by omega))
    have e30 : upN (upN Y (100 + l) (smC l Y π.nf % π.each)) (70 + l) (Y (70 + l) + 1) (30 + l) = Y (30 + l) := by rw [upN_n (by omega), upN_n (by omega)]
    have hno := R3.noted l hl10
    rw [upN_n (by omega), upN_n (by omega)] at hno
    have R4 := R3.st_was (Y (30 + l)) hl10
    have T4 := (T2.u15 (i := 24 * l + 5) (v := nI (Y (70 + l) + 1))).u15 (i := 24 * l + 9) (v := nI (Y (30 + l)))
    have eu : up1 (70 + l) (upN Y (100 + l) (smC l Y π.nf % π.each)) = upN (upN Y (100 + l) (smC l Y π.nf % π.each)) (70 + l) (Y (70 + l) + 1) := by unfold up1; rw [upN_n (by omega)]
    have hle := ntc_le π (fbk π l Y)
    simp (disch := omega) only [ldA_n s8_15, hct, ldA_n s8_2, P1.each, rmI_n, nI_add, pk_mul, narA_0, bd1_e, bd2_e, bdR_l, bdR_r, stA_n s8_15, e8_feedbackOf R2 P2 hF2 hl10, hfb, e8_noticeOf P2 O, hsa, e8_queueOf R3 hF3 hl10, e30, nn_eq]
    rw [eu]
    by_cases e2 : ntc π (fbk π l Y) = 0
    · rw [if_neg (fun c => c e2), if_pos e2, if_pos e2, List.append_nil]
      refine ⟨_, rfl, R4, ?_, ?_, ?_, T4⟩
      · refine ⟨?_, fun j q hj => ?_⟩
        · rw [u1_other (by omega), u1_other (by omega), u1_other (by omega), g4.2 0 (by omega)]; exact hN.1
        · rw [u1_other (by omega), u1_other (by omega), u1_other (by omega), u1_other (by omega), u1_other (by omega), u1_other (by omega), g4.2 23 (by omega), g4.2 24 (by omega)]; exact hN.2 j q hj
      · rw [u1_other (by omega), u1_other (by omega), u1_other (by omega), g4.2 22 (by omega)]
      · rw [u1_other (by omega), u1_other (by omega), u1_other (by omega), g4.2 21 (by omega)]
    · rw [if_pos e2, if_neg e2, if_neg e2]
      have e4 : nxC (smM π l Y π.nf) = nI (smM π l Y π.nf - 1) := by
        obtain ⟨j, hj⟩ : ∃ j, smM π l Y π.nf = j + 1 := ⟨smM π l Y π.nf - 1, by omega⟩
        rw [hj]; rfl
      have hn0 : y.2.1 0 38 = nI L.length := by rw [g4.2 0 (by omega)]; exact hN.1
      have R5 := R4.st_noted (Y (80 + l) + 1) hl10
      have eu2 : up1 (80 + l) (upN (upN (upN Y (100 + l) (smC l Y π.nf % π.each)) (70 + l) (Y (70 + l) + 1)) (110 + l) (Y (30 + l))) = upN (upN (upN (upN Y (100 + l) (smC l Y π.nf % π.each)) (70 + l) (Y (70 + l) + 1)) (110 + l) (Y (30 + l))) (80 + l) (Y (80 + l) + 1) := by unfold up1; rw [upN_n (by omega), upN_n (by omega), upN_n (by omega)]
      have hno4 : ∀ a, (u1 (u1 (u1 y.2 15 (24 * l + 8) (nI (smC l Y π.nf % π.each))) 15 (24 * l + 5) (nI (Y (70 + l) + 1))) 15 (24 * l + 9) a).1 15 (24 * l + 6) = nI (Y (80 + l)) := fun a => by rw [u1_rn (Or.inl (by omega))]; exact hno
      rw [e4, eu2]
      simp (disch := omega) only [ldA_n s8_15, hno4, nI_add, pk_mul, narA_0, bd1_e, bd2_e, bdR_l, bdR_r, stA_n s8_15, u1_rn, hn0, stA_n s8_23, stA_n s8_24]
      have T5 := T4.u15 (i := 24 * l + 6) (v := nI (Y (80 + l) + 1))
      refine ⟨_, rfl, ?_, ?_, ?_, ?_, ?_⟩
      · refine RM.fr (P := fun o => o = 0 ∨ o = 23 ∨ o = 24) R5 ?_ (by omega)
        exact ((Fr.u1 (Or.inr (Or.inl rfl))).st (Or.inr (Or.inr rfl))).st (Or.inl rfl)
      · refine ⟨?_, fun j q hj => ?_⟩
        · rw [u1_rs, List.length_append]; rfl
        · rw [u1_other (show (23 : Nat) ≠ 0 by omega), u1_other (show (24 : Nat) ≠ 0 by omega), u1_other (show (23 : Nat) ≠ 24 by omega)]
          by_cases c : j = L.length
          · subst c
            rw [List.getElem?_append_right (Nat.le_refl _), Nat.sub_self] at hj
            cases hj
            refine ⟨u1_rs, ?_⟩
            exact u1_rs
          · have hj2 : j < L.length := by
              have h9 := (List.getElem?_eq_some_iff.mp hj).1
              rw [List.length_append] at h9
              have : ([(smM π l Y π.nf - 1, ntc π (fbk π l Y))] : List (Nat × Nat)).length = 1 := rfl
              omega
            rw [List.getElem?_append_left hj2] at hj
            rw [u1_rn (Or.inl c), u1_rn (Or.inl c)]
            rw [u1_rn (Or.inr (by omega)), u1_rn (Or.inr (by omega)), u1_rn (Or.inr (by omega)), u1_rn (Or.inr (by omega)), u1_rn (Or.inr (by omega)), u1_rn (Or.inr (by omega)), u1_rn (Or.inr (by omega)), u1_rn (Or.inr (by omega)), u1_rn (Or.inr (by omega)), g4.2 23 (by omega), g4.2 24 (by omega)]
            exact hN.2 j q hj
      · rw [u1_other (by omega), u1_other (by omega), u1_other (by omega), u1_other (by omega), u1_other (by omega), u1_other (by omega), u1_other (by omega), g4.2 22 (by omega)]
      · rw [u1_other (by omega), u1_other (by omega), u1_other (by omega), u1_other (by omega), u1_other (by omega), u1_other (by omega), u1_other (by omega), g4.2 21 (by omega)]
      · have T6 := T5.trans (TF.of (m' := u1 (u1 (u1 (u1 (u1 (u1 y.2 15 (24 * l + 8) (nI (smC l Y π.nf % π.each))) 15 (24 * l + 5) (nI (Y (70 + l) + 1))) 15 (24 * l + 9) (nI (Y (30 + l)))) 15 (24 * l + 6) (nI (Y (80 + l) + 1))) 23 L.length (nI (smM π l Y π.nf - 1))) 24 L.length (nI (ntc π (fbk π l Y)))) (P := fun o => o = 23 ∨ o = 24) ((Fr.u1 (Or.inl rfl)).st (Or.inr rfl)) (fun o ho => by omega))
        exact ⟨T6.1, fun o a b c => by rw [u1_other a]; exact T6.2.1 o a b c, fun j hj => by rw [u1_rn (Or.inl hj)]; exact T6.2.2 j hj⟩
