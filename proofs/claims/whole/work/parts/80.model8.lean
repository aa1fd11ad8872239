/-! ===== the model's tick: notices, recovering, the tick ===== -/
def ntL (π : Pl) (X : Nat → Nat) : Nat → List (Nat × Nat)
  | 0 => []
  | k + 1 => ntL π X k ++ ntA π k X
theorem ntL_s (π : Pl) (X : Nat → Nat) (k : Nat) : ntL π X (k + 1) = ntL π X k ++ ntA π k X := rfl
theorem ntA_len (π : Pl) (l : Nat) (X : Nat → Nat) : (ntA π l X).length ≤ 1 := by
  unfold ntA
  split
  · exact Nat.zero_le _
  · exact Nat.le_refl _
theorem ntL_len (π : Pl) (X : Nat → Nat) (k : Nat) : (ntL π X k).length ≤ k := by
  induction k with
  | zero => exact Nat.le_refl _
  | succ k ih => rw [ntL_s, List.length_append]; have := ntA_len π k X; omega
theorem ntA_b {π : Pl} {l : Nat} {X : Nat → Nat} {q : Nat × Nat} (h : q ∈ ntA π l X) : (1 ≤ π.nf ∧ q.1 < π.nf) ∧ q.2 ≤ 63 := by
  have h1 := smM_le π l X π.nf
  unfold ntA at h
  split at h
  · cases h
  · rename_i hs
    have e : q = (smM π l X π.nf - 1, sampN π l X) := by
      cases h with
      | head => rfl
      | tail _ h => cases h
    have h0 : smM π l X π.nf ≠ 0 := fun c => hs (by unfold sampN; rw [if_pos c])
    have h2 : sampN π l X ≤ 63 := by unfold sampN; rw [if_neg h0]; exact ntc_le _ _
    subst e
    exact ⟨⟨by omega, by show smM π l X π.nf - 1 < π.nf; omega⟩, h2⟩
theorem ntL_b {π : Pl} {X : Nat → Nat} {k : Nat} {q : Nat × Nat} (h : q ∈ ntL π X k) : (1 ≤ π.nf ∧ q.1 < π.nf) ∧ q.2 ≤ 63 := by
  induction k with
  | zero => cases h
  | succ k ih =>
    rw [ntL_s] at h
    rcases List.mem_append.mp h with h | h
    · exact ih h
    · exact ntA_b h
theorem smM_congr {π : Pl} {l : Nat} {X Y : Nat → Nat} (h1 : Y (100 + l) = X (100 + l)) {k : Nat} (h2 : ∀ f, f < k → Y (300 + (l * 8 + f)) = X (300 + (l * 8 + f))) : smC l Y k = smC l X k ∧ smM π l Y k = smM π l X k := by
  induction k with
  | zero => exact ⟨by unfold smC; rw [h1]; rfl, rfl⟩
  | succ k ih =>
    obtain ⟨a, b⟩ := ih (fun f hf => h2 f (by omega))
    have c : smC l Y (k + 1) = smC l X (k + 1) := by rw [smC_s, smC_s, a, h2 k (by omega)]
    exact ⟨c, by rw [smM_s, smM_s, b, c]⟩
theorem samp_congr {π : Pl} {l : Nat} {X Y : Nat → Nat} (h1 : Y (100 + l) = X (100 + l)) (h2 : ∀ f, f < π.nf → Y (300 + (l * 8 + f)) = X (300 + (l * 8 + f))) (h3 : Y (30 + l) = X (30 + l)) (h4 : Y (110 + l) = X (110 + l)) : sampN π l Y = sampN π l X ∧ ntA π l Y = ntA π l X := by
  obtain ⟨a, b⟩ := smM_congr (π := π) h1 h2
  have c : sampN π l Y = sampN π l X := by unfold sampN; rw [b, fbk_up h3 h4]
  exact ⟨c, by unfold ntA; rw [c, b]⟩
theorem e8_samplesAll {m : Mm} {π : Pl} {X : Nat → Nat} (R : RM m X) (P : PM m π) (O : π.ok) (hJ : J π X) (hM : Mv π π.nl X) (hN : NT m []) (h22 : TBl m 22 π.nf π.nl 0 (fun l f => X (300 + (l * 8 + f)))) : ∃ m', lp (fun s27 : Int32 × Mm => bX8_tickGoes_141 SX8 0 s27.1 s27.2) fu (nI 0, m) = some m' ∧ RM m' (it π.nl (sampL π) X) ∧ NT m' (ntL π X π.nl) ∧ m'.1 22 = m.1 22 ∧ m'.1 21 = m.1 21 ∧ TF m m' := by
  have hnl := O.nl
  have hnf := O.nf
  have hea := O.each
  exact lp_F (b := fun s27 : Int32 × Mm => bX8_tickGoes_141 SX8 0 s27.1 s27.2) (fun k m1 => RM m1 (it k (sampL π) X) ∧ NT m1 (ntL π X k) ∧ m1.1 22 = m.1 22 ∧ m1.1 21 = m.1 21 ∧ TF m m1) π.nl (m := m) (by omega) ⟨R, hN, rfl, rfl, TF.rfl⟩
    (by
      rintro k m1 hk ⟨R1, N1, A1, B1, T1⟩
      have P1 := T1.P P
      have eo : ∀ i, (i < 70 ∨ i = 100 + k ∨ i = 110 + k ∨ (120 ≤ i ∧ i < 400)) → it k (sampL π) X i = X i := fun i hi => it_o (fun j Z hj => sampL_o (by omega))
      have e100 := eo (100 + k) (by omega)
      have e110 := eo (110 + k) (by omega)
      have e30 := eo (30 + k) (by omega)
      have e3 : ∀ f, f < π.nf → it k (sampL π) X (300 + (k * 8 + f)) = X (300 + (k * 8 + f)) := fun f hf => eo _ (by omega)
      have hF1 : fillOK (it k (sampL π) X) := hJ.q.congr (fun i hi => eo i (by omega))
      have hcnt := hJ.cnt k hk
      obtain ⟨m2, g1, g2, g3, g4, g5, g6⟩ := e8_samples R1 P1 O hF1 N1 hk (ntL_len π X k) (by rw [e100]; omega) (fun f hf => by rw [e3 f hf]; exact (hM k f hk hf).1) (fun f hf => by rw [A1, e3 f hf]; exact h22 k f hf (Or.inl hk))
      rw [(samp_congr e100 e3 e30 e110).2] at g3
      dsimp only
      unfold bX8_tickGoes_141
      simp (disch := omega) only [L0, L1, L2, L3, L4, L5, L6, L7, L8, L9, L10, L11, L12, L13, L14, L15, L16, L17, L18, L19, L20, L21, L22, L23, L24, L25, L26, L27, L28, L29, L30, L31, L32, L33, L34, L35, L36, L37, L38, L39, L40, L41, L42, L43, L44, L45, L46, L47, L48, L50, L57, L59, L60, L63, L64, L65, L70, L80, L90, L97, L100, L110, L120, L122, L128, L150, L200, L208, L216, L224, L232, L240, L248, L255, L256, L264, L272, L280, L288, L296, L297, L300, L336, L337, L500, L680, L700, L998, L999, L1000, L1024, L1999, L6403, L9999, L10000, L12345, L99999, L1000000, L214424576, L412560384, L509804544, L639025541, L642945024, L658545824, L1103515245, L2147483647, nI_add, pk_mul, narA_0, bd1_e, bd2_e, bdR_l, bdR_r, e8_links P1, nn_le, g1]
      rw [if_neg (by omega)]
      exact ⟨_, rfl, g2, g3, g4.trans A1, g5.trans B1, T1.trans g6⟩)
    (by
      rintro m1 ⟨R1, N1, A1, B1, T1⟩
      have P1 := T1.P P
      dsimp only
      unfold bX8_tickGoes_141
      simp (disch := omega) only [L0, L1, L2, L3, L4, L5, L6, L7, L8, L9, L10, L11, L12, L13, L14, L15, L16, L17, L18, L19, L20, L21, L22, L23, L24, L25, L26, L27, L28, L29, L30, L31, L32, L33, L34, L35, L36, L37, L38, L39, L40, L41, L42, L43, L44, L45, L46, L47, L48, L50, L57, L59, L60, L63, L64, L65, L70, L80, L90, L97, L100, L110, L120, L122, L128, L150, L200, L208, L216, L224, L232, L240, L248, L255, L256, L264, L272, L280, L288, L296, L297, L300, L336, L337, L500, L680, L700, L998, L999, L1000, L1024, L1999, L6403, L9999, L10000, L12345, L99999, L1000000, L214424576, L412560384, L509804544, L639025541, L642945024, L658545824, L1103515245, L2147483647, nI_add, pk_mul, narA_0, bd1_e, bd2_e, bdR_l, bdR_r, e8_links P1, nn_le]
      rw [if_pos (by omega)])
def obs (L : List (Nat × Nat)) (Y : Nat → Nat) : Nat → Nat := L.foldl (fun Z q => obA q.1 q.2 Z) Y
theorem obs_app (L M : List (Nat × Nat)) (Y : Nat → Nat) : obs (L ++ M) Y = obs M (obs L Y) := by unfold obs; rw [List.foldl_append]
theorem e8_obey {m : Mm} {X : Nat → Nat} {f n j : Nat} (R : RM m X) (hf : f < 8) (hn : n ≤ 63) (hr : X (200 + f) ≤ 1024) (h23 : m.1 23 j = nI f) (h24 : m.1 24 j = nI n) (hj : j < 80) (h38 : ∃ k, m.1 0 38 = nI k ∧ j < k ∧ k < 80) : ∃ m', bX8_takesNotices_2 SX8 0 (nI j) m = some (.inl (nI (j + 1), m')) ∧ RM m' (obA f n X) ∧ Fr (fun o => o = 15) m m' := by
  obtain ⟨k, hk, hk2, hk3⟩ := h38
  have h1 : X (200 + f) * n ≤ 1024 * 63 := Nat.mul_le_mul hr hn
  have h2 : X (200 + f) * n / 128 ≤ X (200 + f) := by
    apply Nat.div_le_of_le_mul
    have := Nat.mul_le_mul_left (X (200 + f)) (show n ≤ 128 by omega)
    omega
  unfold bX8_takesNotices_2 jX8_takesNotices_95
  simp (disch := omega) only [L0, L1, L2, L3, L4, L5, L6, L7, L8, L9, L10, L11, L12, L13, L14, L15, L16, L17, L18, L19, L20, L21, L22, L23, L24, L25, L26, L27, L28, L29, L30, L31, L32, L33, L34, L35, L36, L37, L38, L39, L40, L41, L42, L43, L44, L45, L46, L47, L48, L50, L57, L59, L60, L63, L64, L65, L70, L80, L90, L97, L100, L110, L120, L122, L128, L150, L200, L208, L216, L224, L232, L240, L248, L255, L256, L264, L272, L280, L288, L296, L297, L300, L336, L337, L500, L680, L700, L998, L999, L1000, L1024, L1999, L6403, L9999, L10000, L12345, L99999, L1000000, L214424576, L412560384, L509804544, L639025541, L642945024, L658545824, L1103515245, L2147483647, g8_0, r8_1, r8_3, r8_4, r8_5, r8_6, r8_7, r8_8, r8_9, r8_10, r8_11, r8_12, r8_13, r8_14, r8_15, r8_26, r8_27, r8_28, r8_29, r8_30, r8_33, r8_34, r8_35, r8_36, r8_37, r8_39, r8_40, r8_41, r8_43, r8_44, r8_45, nI_add, pk_mul, narA_0, bd1_e, bd2_e, bdR_l, bdR_r, hk, nn_le, ldA_n s8_23, h23, e8_flowAt, ldA_n s8_15, R.notices f hf, stA_n s8_15, u1_rn, R.rate f hf, ldA_n s8_24, h24, dvI_n, pk_sub]
  rw [if_neg (by omega)]
  have key : ∀ v, v = (if 1 < X (200 + f) - X (200 + f) * n / 128 then X (200 + f) - X (200 + f) * n / 128 else 1) → RM (u1 (u1 (u1 (u1 (u1 (u1 (u1 m 15 (240 + 12 * f + 6) (nI (X (256 + f) + 1))) 15 (240 + 12 * f + 1) (nI (X (200 + f)))) 15 (240 + 12 * f + 0) (nI v)) 15 (240 + 12 * f + 2) (nI 0)) 15 (240 + 12 * f + 2 + 1) (nI 0)) 15 (240 + 12 * f + 9) (nI 0)) 15 (240 + 12 * f + 10) (nI 0)) (obA f n X) ∧ Fr (fun o => o = 15) m (u1 (u1 (u1 (u1 (u1 (u1 (u1 m 15 (240 + 12 * f + 6) (nI (X (256 + f) + 1))) 15 (240 + 12 * f + 1) (nI (X (200 + f)))) 15 (240 + 12 * f + 0) (nI v)) 15 (240 + 12 * f + 2) (nI 0)) 15 (240 + 12 * f + 2 + 1) (nI 0)) 15 (240 + 12 * f + 9) (nI 0)) 15 (240 + 12 * f + 10) (nI 0)) := by
    rintro v rfl
    refine ⟨?_, by (repeat (refine Fr.st ?_ (by first | exact rfl | omega))); exact Fr.rfl⟩
    exact ((((((R.st_notices _ hf).st_target _ hf).st_rate _ hf).st_stc 0 hf).st_stt 0 hf).st_byc 0 hf).st_byt 0 hf
  by_cases c : 1 ≤ X (200 + f) - X (200 + f) * n / 128
  · rw [if_pos c]
    exact ⟨_, rfl, key _ (by split <;> omega)⟩
  · rw [if_neg c]
    exact ⟨_, rfl, key _ (by split <;> omega)⟩
theorem e8_notices {m : Mm} {π : Pl} {X : Nat → Nat} {L : List (Nat × Nat)} (R : RM m X) (O : π.ok) (hJ : J π X) (hN : NT m L) (hL : L.length < 80) (hb : ∀ q ∈ L, q.1 < π.nf ∧ q.2 ≤ 63) : ∃ m', fX8_takesNotices SX8 m 0 = some m' ∧ RM m' (obs L X) ∧ Fr (fun o => o = 15) m m' := by
  have hnf := O.nf
  unfold fX8_takesNotices
  simp only [L0, L1, L2, L3, L4, L5, L6, L7, L8, L9, L10, L11, L12, L13, L14, L15, L16, L17, L18, L19, L20, L21, L22, L23, L24, L25, L26, L27, L28, L29, L30, L31, L32, L33, L34, L35, L36, L37, L38, L39, L40, L41, L42, L43, L44, L45, L46, L47, L48, L50, L57, L59, L60, L63, L64, L65, L70, L80, L90, L97, L100, L110, L120, L122, L128, L150, L200, L208, L216, L224, L232, L240, L248, L255, L256, L264, L272, L280, L288, L296, L297, L300, L336, L337, L500, L680, L700, L998, L999, L1000, L1024, L1999, L6403, L9999, L10000, L12345, L99999, L1000000, L214424576, L412560384, L509804544, L639025541, L642945024, L658545824, L1103515245, L2147483647, g8_0, r8_1, r8_3, r8_4, r8_5, r8_6, r8_7, r8_8, r8_9, r8_10, r8_11, r8_12, r8_13, r8_14, r8_15, r8_26, r8_27, r8_28, r8_29, r8_30, r8_33, r8_34, r8_35, r8_36, r8_37, r8_39, r8_40, r8_41, r8_43, r8_44, r8_45]
  obtain ⟨m', h1, h2, _, h4⟩ := lp_F (b := fun s16 : Int32 × Mm => bX8_takesNotices_2 SX8 0 s16.1 s16.2) (fun k m1 => RM m1 (obs (L.take k) X) ∧ J π (obs (L.take k) X) ∧ Fr (fun o => o = 15) m m1) L.length (m := m) (by omega) ⟨R, hJ, Fr.rfl⟩
    (by
      rintro k m1 hk ⟨R1, J1, F1⟩
      have hq : L[k]? = some L[k] := List.getElem?_eq_getElem hk
      have hbq := hb L[k] (List.getElem_mem hk)
      have hNk := hN.2 k _ hq
      obtain ⟨m2, g1, g2, g3⟩ := e8_obey (f := L[k].1) (n := L[k].2) (j := k) R1 (by omega) hbq.2 (J1.rate _ (by omega)) (by rw [F1.2 23 (by omega)]; exact hNk.1) (by rw [F1.2 24 (by omega)]; exact hNk.2) (by omega) ⟨L.length, by rw [F1.2 0 (by omega)]; exact hN.1, hk, hL⟩
      have et : obs (L.take (k + 1)) X = obA L[k].1 L[k].2 (obs (L.take k) X) := by
        rw [List.take_succ, hq, Option.toList_some, obs_app]
        rfl
      rw [et]
      exact ⟨m2, g1, g2, J1.ob O (by omega), F1.trans g3⟩)
    (by
      rintro m1 ⟨R1, J1, F1⟩
      have hn0 : m1.1 0 38 = nI L.length := by rw [F1.2 0 (by omega)]; exact hN.1
      dsimp only
      unfold bX8_takesNotices_2
      rw [hn0, if_pos (by rw [nn_le (by omega) (by omega)]; omega)])
  rw [h1, bd1_e]
  rw [List.take_length] at h2
  exact ⟨_, rfl, h2, h4⟩
/-! samples link by link with their notices, or all notices behind -/
theorem sampL_cg {π : Pl} {l i : Nat} {X Y : Nat → Nat} (h1 : Y (100 + l) = X (100 + l)) (h2 : ∀ f, f < π.nf → Y (300 + (l * 8 + f)) = X (300 + (l * 8 + f))) (h3 : Y (30 + l) = X (30 + l)) (h4 : Y (110 + l) = X (110 + l)) (h5 : Y (70 + l) = X (70 + l)) (h6 : Y (80 + l) = X (80 + l)) (hi : Y i = X i) : sampL π l Y i = sampL π l X i := by
  obtain ⟨a, b⟩ := smM_congr (π := π) h1 h2
  unfold sampL
  rw [a, b, fbk_up h3 h4]
  unfold up1 upN
  split
  · simp only [hi]
  · split <;> simp only [h1, h3, h5, h6, hi]
theorem obA_cg {f n i : Nat} {X Y : Nat → Nat} (h1 : Y (200 + f) = X (200 + f)) (h2 : Y (256 + f) = X (256 + f)) (hi : Y i = X i) : obA f n Y i = obA f n X i := by
  unfold obA upN
  simp only [h1, h2, hi]
theorem sampL_ob {π : Pl} (O : π.ok) {l f n : Nat} {Y : Nat → Nat} (hl : l < 10) (hf : f < 8) : sampL π l (obA f n Y) = obA f n (sampL π l Y) := by
  have hnf := O.nf
  funext i
  by_cases c : i = 100 + l ∨ i = 70 + l ∨ i = 110 + l ∨ i = 80 + l
  · rw [obA_o (i := i) (by omega)]
    exact sampL_cg (obA_o (by omega)) (fun g hg => obA_o (by omega)) (obA_o (by omega)) (obA_o (by omega)) (obA_o (by omega)) (obA_o (by omega)) (obA_o (by omega))
  · rw [sampL_o (i := i) (by omega)]
    exact obA_cg (sampL_o (by omega)).symm (sampL_o (by omega)).symm (sampL_o (by omega)).symm
theorem sampL_obs {π : Pl} (O : π.ok) {l : Nat} {L : List (Nat × Nat)} {Y : Nat → Nat} (hl : l < 10) (hb : ∀ q ∈ L, q.1 < 8) : sampL π l (obs L Y) = obs L (sampL π l Y) := by
  induction L generalizing Y with
  | nil => rfl
  | cons q L ih =>
    show sampL π l (obs L (obA q.1 q.2 Y)) = obs L (obA q.1 q.2 (sampL π l Y))
    rw [ih (fun x hx => hb x (List.mem_cons_of_mem _ hx)), sampL_ob O hl (hb q List.mem_cons_self)]
theorem obs_o {L : List (Nat × Nat)} {Y : Nat → Nat} {i : Nat} (hb : ∀ q ∈ L, q.1 < 8) (h : i < 200 ∨ (232 ≤ i ∧ i < 256) ∨ (264 ≤ i ∧ i < 280) ∨ 296 ≤ i) : obs L Y i = Y i := by
  induction L generalizing Y with
  | nil => rfl
  | cons q L ih =>
    show obs L (obA q.1 q.2 Y) i = Y i
    have := hb q List.mem_cons_self
    rw [ih (fun x hx => hb x (List.mem_cons_of_mem _ hx)), obA_o (by omega)]
theorem sampL_id {π : Pl} {l : Nat} {Y : Nat → Nat} (h1 : Y (100 + l) < π.each) (h2 : ∀ f, f < π.nf → Y (300 + (l * 8 + f)) = 0) : sampL π l Y = Y ∧ ntA π l Y = [] := by
  have hc : ∀ k, k ≤ π.nf → smC l Y k = Y (100 + l) ∧ smM π l Y k = 0 := by
    intro k
    induction k with
    | zero => intro _; exact ⟨rfl, rfl⟩
    | succ k ih =>
      intro hk
      obtain ⟨a, b⟩ := ih (by omega)
      have c : smC l Y (k + 1) = Y (100 + l) := by rw [smC_s, a, h2 k (by omega)]; rfl
      refine ⟨c, ?_⟩
      rw [smM_s, b, if_neg (fun z => z rfl), c, if_neg (by omega)]
  obtain ⟨a, b⟩ := hc π.nf (Nat.le_refl _)
  refine ⟨?_, ?_⟩
  · unfold sampL; rw [if_pos b, a]; exact upN_id rfl
  · unfold ntA sampN; rw [if_pos (by rw [if_pos b])]
theorem st4_e {π : Pl} (O : π.ok) {X : Nat → Nat} (h : Wz π X) : st4 π X = obs (ntL π X π.nl) (it π.nl (sampL π) X) := by
  have hnl := O.nl
  have hnf := O.nf
  have hb : ∀ k, ∀ q ∈ ntL π X k, q.1 < 8 := fun k q hq => by have := ntL_b hq; omega
  have key : ∀ n, n ≤ π.nl → it n (smpA π) X = obs (ntL π X n) (it n (sampL π) X) ∧ Wz π (it n (smpA π) X) := by
    intro n
    induction n with
    | zero => intro _; exact ⟨rfl, h⟩
    | succ n ih =>
      intro hn
      obtain ⟨e, hW⟩ := ih (by omega)
      refine ⟨?_, by rw [it_s]; exact hW.smp O (by omega)⟩
      have eo : ∀ i, (i < 70 ∨ i = 100 + n ∨ i = 110 + n ∨ (300 ≤ i ∧ i < 380)) → it n (smpA π) X i = X i := by
        intro i hi
        rw [e, obs_o (hb n) (by omega)]
        exact it_o (fun j Z hj => sampL_o (by omega))
      have hs := samp_congr (π := π) (l := n) (X := X) (Y := it n (smpA π) X) (eo _ (by omega)) (fun f hf => eo _ (by omega)) (eo _ (by omega)) (eo _ (by omega))
      have ea : smpA π n (it n (smpA π) X) = obs (ntA π n X) (sampL π n (it n (smpA π) X)) := by
        rw [← hs.2]
        generalize it n (smpA π) X = Y at *
        by_cases c : Y (90 + n) = 0
        · have q := sampL_id (π := π) (l := n) (Y := Y) (hW.1.cnt n (by omega)) (fun f hf => (hW.2.1 n f (by omega) hf).2 c)
          rw [smpA_e0 c, q.1, q.2]; rfl
        · rw [smpA_e1 c]
          unfold sampA ntA
          by_cases z : sampN π n Y = 0
          · rw [if_pos z, if_pos z]; rfl
          · rw [if_neg z, if_neg z]; rfl
      rw [it_s, ea, e, sampL_obs O (by omega) (hb n), ntL_s, obs_app, it_s]
  exact (key π.nl (Nat.le_refl _)).1
