/-! ===== sums, links ===== -/
theorem sim_count {mF mM : Mm} (S : Sim mF mM) (a : Int32) : SimG mF mM (fX7_count SX7 mF 0 a) (fX8_count SX8 mM 0 a) := by
  obtain ⟨π, X, U, I, p, top, tl, B, fc, fp, hF, hM0, hK⟩ := S
  have hM := hM0.thr (v := nI 0)
  have hnf := hK.O.nf
  have hnl := hK.O.nl
  have hp := hF.hp
  have S' : Sim mF (u1 mM 0 0 (nI 0)) := ⟨π, X, U, I, p, top, tl, B, fc, fp, hF, hM, hK⟩
  have s7 : ∀ b n, b + n ≤ 297 → fX7_sum SX7 mF 19 (nI b) (nI n) = some (nI (sm n (fun i => X (b + i)))) := fun b n h => e_sum (fun i hi => hF.C.row _ (by omega)) s7_19 h (by omega)
  have a3 := s7 232 π.nf (by omega)
  have a4 := s7 240 π.nf (by omega)
  have a5 := s7 50 π.nl (by omega)
  have a6 := s7 80 π.nl (by omega)
  have a7 := s7 264 π.nf (by omega)
  have a8 := e_askedPause hF.C hF.P hK.O hp hF.r8 hK.K.1.1
  have a2 : ldA SX7 0 mF 19 (nI 296) = some (nI (X 296)) := by rw [ldA_n s7_19 (by omega) (by omega), hF.C.row _ (by omega)]
  have b2 : ldA SX8 0 (u1 mM 0 0 (nI 0)) 15 (nI 336) = some (nI (X 296)) := by rw [ldA_n s8_15 (by omega) (by omega), hM.R.tick]
  have b3 := e8_sumOf (w := 4) (g := fun f => X (232 + f)) hM.P hK.O (by omega) (fun f hf => hM.R.sent f (by omega))
  have b4 := e8_sumOf (w := 5) (g := fun f => X (240 + f)) hM.P hK.O (by omega) (fun f hf => hM.R.deliv f (by omega))
  have b5 := e8_lostAll hM.R hM.P hK.O
  have b6 := e8_sumOf (w := 6) (g := fun f => X (256 + f)) hM.P hK.O (by omega) (fun f hf => hM.R.notices f (by omega))
  have b7 := e8_sumOf (w := 7) (g := fun f => X (264 + f)) hM.P hK.O (by omega) (fun f hf => hM.R.on f (by omega))
  have b8 := e8_askedMany hM.R hM.P hK.O
  have hnb : sm π.nl (fun l => X (80 + l)) = sm π.nf (fun f => X (256 + f)) := hK.K.2
  rw [← hnb] at b6
  unfold SimG fX7_count fX8_count
  simp only [L0, L1, L2, L3, L4, L5, L6, L7, L8, L9, L10, L11, L12, L13, L14, L15, L16, L17, L18, L19, L20, L21, L22, L23, L24, L25, L26, L27, L28, L29, L30, L31, L32, L33, L34, L35, L36, L37, L38, L39, L40, L41, L42, L43, L44, L45, L46, L47, L48, L50, L57, L59, L60, L63, L64, L65, L70, L80, L90, L97, L100, L110, L120, L122, L128, L150, L200, L208, L216, L224, L232, L240, L248, L255, L256, L264, L272, L280, L288, L296, L297, L300, L336, L337, L500, L680, L700, L998, L999, L1000, L1024, L1999, L6403, L9999, L10000, L12345, L99999, L1000000, L214424576, L412560384, L509804544, L639025541, L642945024, L658545824, L1103515245, L2147483647, g8_0, r8_1, r8_3, r8_4, r8_5, r8_6, r8_7, r8_8, r8_9, r8_10, r8_11, r8_12, r8_13, r8_14, r8_15, r8_26, r8_27, r8_28, r8_29, r8_30, r8_33, r8_34, r8_35, r8_36, r8_37, r8_39, r8_40, r8_41, r8_43, r8_44, r8_45, g7_0, g7_1, g7_3, g7_4, g7_8, g7_13, g7_16, r7_0_0, r7_0_1, r7_0_2, r7_0_3, r7_0_4, r7_0_5, r7_0_6, r7_0_7, r7_1_0, r7_4_0, r7_4_1, r7_4_2, r7_8_0, r7_8_1, r7_8_2, r7_8_3, r7_13_0, r7_13_1, r7_16_0, r7_16_1, hF.r8, g7_p hp, hF.P.nl, hF.P.nf, bd1_e, a2, a3, a4, a5, a6, a7, a8, hF.steps, hF.len, e8_links hM.P, e8_flows hM.P, b2, b3, b4, b5, b6, b7, b8, hM.und, hM.len]
  rcases i32_cases a 12 (by omega) with ⟨w, hw, rfl⟩ | h
  · match w, hw with
    | 0, _ => exact ⟨_, _, rfl, rfl, S'⟩
    | 1, _ => exact ⟨_, _, rfl, rfl, S'⟩
    | 2, _ => exact ⟨_, _, rfl, rfl, S'⟩
    | 3, _ => exact ⟨_, _, rfl, rfl, S'⟩
    | 4, _ => exact ⟨_, _, rfl, rfl, S'⟩
    | 5, _ => exact ⟨_, _, rfl, rfl, S'⟩
    | 6, _ => exact ⟨_, _, rfl, rfl, S'⟩
    | 7, _ => exact ⟨_, _, rfl, rfl, S'⟩
    | 8, _ => exact ⟨_, _, rfl, rfl, S'⟩
    | 9, _ => exact ⟨_, _, rfl, rfl, S'⟩
    | 10, _ => exact ⟨_, _, rfl, rfl, S'⟩
    | 11, _ => exact ⟨_, _, rfl, rfl, S'⟩
  · have hne := i32_12 h
    simp only [if_neg (hne 0 (by omega)), if_neg (hne 1 (by omega)), if_neg (hne 2 (by omega)), if_neg (hne 3 (by omega)), if_neg (hne 4 (by omega)), if_neg (hne 5 (by omega)), if_neg (hne 6 (by omega)), if_neg (hne 7 (by omega)), if_neg (hne 8 (by omega)), if_neg (hne 9 (by omega)), if_neg (hne 10 (by omega))]
    exact ⟨_, _, rfl, rfl, S'⟩
/-- link: it throws, or answers -/
def SimL (mF mM : Mm) (a b : Int32) : Prop :=
  (fX7_isLink SX7 mF 0 a = some (nI 0) ∧ ∃ mM', fX8_link SX8 mM 0 a b = some (nI 0, mM') ∧ mM'.1 0 0 = nI 1 ∧ Sim mF mM') ∨
  (fX7_isLink SX7 mF 0 a = some (nI 1) ∧ (b < nI 0 ∨ nI 13 < b) ∧ ∃ mM', fX8_link SX8 mM 0 a b = some (nI 0, mM') ∧ mM'.1 0 0 = nI 2 ∧ Sim mF mM') ∨
  (∃ v mM', fX7_link SX7 mF 0 a b = some v ∧ fX8_link SX8 mM 0 a b = some (v, mM') ∧ mM'.1 0 0 = nI 0 ∧ Sim mF mM')
theorem i32_14 {a : Int32} (h : a < nI 0 ∨ (¬ a < nI 0 ∧ nI 14 ≤ a)) : (∀ c, c < 14 → ¬ a = nI c) ∧ (a < nI 0 ∨ nI 13 < a) := by
  refine ⟨?_, ?_⟩
  · rintro c hc rfl
    rcases h with h | ⟨_, h⟩
    · exact absurd ((nn_lt (by omega) (by omega)).mp h) (by omega)
    · exact absurd ((nn_le (by omega) (by omega)).mp h) (by omega)
  · rcases h with h | ⟨_, h⟩
    · exact Or.inl h
    · right
      have c2 := Int32.le_iff_toInt_le.mp h
      refine Int32.lt_iff_toInt_lt.mpr ?_
      have z1 : (nI 13).toInt = 13 := rfl
      have z2 : (nI 14).toInt = 14 := rfl
      omega
theorem sim_link {mF mM : Mm} (S : Sim mF mM) (a b : Int32) : SimL mF mM a b := by
  obtain ⟨π, X, U, I, p, top, tl, B, fc, fp, hF, hM0, hK⟩ := S
  have hM := hM0.thr (v := nI 0)
  have hnf := hK.O.nf
  have hnl := hK.O.nl
  have hp := hF.hp
  have S' : Sim mF (u1 mM 0 0 (nI 0)) := ⟨π, X, U, I, p, top, tl, B, fc, fp, hF, hM, hK⟩
  have Sv : ∀ v, Sim mF (u1 (u1 mM 0 0 (nI 0)) 0 0 v) := fun v => ⟨π, X, U, I, p, top, tl, B, fc, fp, hF, hM.thr, hK⟩
  unfold SimL fX7_link jX7_link_195 fX8_link
  simp only [L0, L1, L2, L3, L4, L5, L6, L7, L8, L9, L10, L11, L12, L13, L14, L15, L16, L17, L18, L19, L20, L21, L22, L23, L24, L25, L26, L27, L28, L29, L30, L31, L32, L33, L34, L35, L36, L37, L38, L39, L40, L41, L42, L43, L44, L45, L46, L47, L48, L50, L57, L59, L60, L63, L64, L65, L70, L80, L90, L97, L100, L110, L120, L122, L128, L150, L200, L208, L216, L224, L232, L240, L248, L255, L256, L264, L272, L280, L288, L296, L297, L300, L336, L337, L500, L680, L700, L998, L999, L1000, L1024, L1999, L6403, L9999, L10000, L12345, L99999, L1000000, L214424576, L412560384, L509804544, L639025541, L642945024, L658545824, L1103515245, L2147483647, g8_0, r8_1, r8_3, r8_4, r8_5, r8_6, r8_7, r8_8, r8_9, r8_10, r8_11, r8_12, r8_13, r8_14, r8_15, r8_26, r8_27, r8_28, r8_29, r8_30, r8_33, r8_34, r8_35, r8_36, r8_37, r8_39, r8_40, r8_41, r8_43, r8_44, r8_45, g7_0, g7_1, g7_3, g7_4, g7_8, g7_13, g7_16, r7_0_0, r7_0_1, r7_0_2, r7_0_3, r7_0_4, r7_0_5, r7_0_6, r7_0_7, r7_1_0, r7_4_0, r7_4_1, r7_4_2, r7_8_0, r7_8_1, r7_8_2, r7_8_3, r7_13_0, r7_13_1, r7_16_0, r7_16_1, g7_p hp, r7_p_0 hp, r7_p_1 hp, r7_p_2 hp, r7_p_3 hp, r7_p_4 hp, r7_p_5 hp, r7_p_6 hp, r7_p_7 hp, r7_p_8 hp, bd1_e, hF.r8]
  rcases i32_cases a π.nl (by omega) with ⟨k, hk, rfl⟩ | h
  · have hk10 : k < 10 := by omega
    simp only [(lk_1 hF hM hK.O hk).1, (lk_1 hF hM hK.O hk).2, bd1_e]
    simp only [if_pos n10]
    rcases i32_cases b 14 (by omega) with ⟨w, hw, rfl⟩ | h
    · right; right
      have hL : ∀ c, c < 287 → ldA SX7 0 mF 19 (nI (c + k)) = some (nI (X (c + k))) := fun c hc => by rw [ldA_n s7_19 (by omega) (by omega), hF.C.row _ (by omega)]
      have h1 : ldA SX7 0 mF (p + 2) (nI k) = some (nI (π.cap k)) := by rw [ldA_n (s7_p2 hp) (by omega) (by omega), hF.P.cap k hk]
      have h2 : ldA SX7 0 mF (p + 3) (nI k) = some (nI (π.delay k)) := by rw [ldA_n (s7_p3 hp) (by omega) (by omega), hF.P.delay k hk]
      have h3 : ldA SX8 0 (u1 mM 0 0 (nI 0)) 5 (nI k) = some (nI (π.cap k)) := by rw [ldA_n s8_5 (by omega) (by omega), hM.P.cap k hk]
      have h4 : ldA SX8 0 (u1 mM 0 0 (nI 0)) 6 (nI k) = some (nI (π.delay k)) := by rw [ldA_n s8_6 (by omega) (by omega), hM.P.delay k hk]
      have hd := hK.O.delay k hk
      have hR : ∀ j, j < 24 → ldA SX8 0 (u1 mM 0 0 (nI 0)) 15 (nI (24 * k + j)) = some ((u1 mM 0 0 (nI 0)).1 15 (24 * k + j)) := fun j hj => ldA_n s8_15 (by omega) (by omega)
      have hb := hM.R.bits k (π.delay k) hk10 (by omega)
      have hb2 : ldA SX8 0 (u1 mM 0 0 (nI 0)) 15 (nI (24 * k + 10 + π.delay k)) = some (nI (X (40 + k) / 2 ^ π.delay k % 2)) := by rw [ldA_n s8_15 (by omega) (by omega), hb]
      have hb0 := hM.R.bits k 0 hk10 (by omega)
      rw [Nat.pow_zero, Nat.div_one, Nat.add_zero] at hb0
      have e6 : nI (X (40 + k)) &&& nI 1 = nI (X (40 + k) % 2) := bitJ _ (hK.K.1.1.asked k hk10)
      have e7 := e_isPaused hF.C hF.P hK.O (Or.inl rfl) hp hk (hK.K.1.1.asked k hk10)
      have e7' : ∀ z, z < 2 → (if nI z = nI 0 then some (nI 0) else some (nI 1)) = some (nI z) := by decide
      have hmod : X (40 + k) / 2 ^ π.delay k % 2 < 2 := Nat.mod_lt _ (by decide)
      simp only [nI_add, pk_mul, bd1_e, h1, h2, h3, h4, hL 0 (by omega), hL 10 (by omega), hL 20 (by omega), hL 30 (by omega), hL 40 (by omega), hL 50 (by omega), hL 60 (by omega), hL 70 (by omega), hL 80 (by omega), hL 90 (by omega), hL 100 (by omega), e6, e7, e7' _ hmod, hR 0 (by omega), hR 1 (by omega), hR 2 (by omega), hR 3 (by omega), hR 4 (by omega), hR 5 (by omega), hR 6 (by omega), hR 7 (by omega), hR 8 (by omega), hR 10 (by omega), hb2, hb0, e8_queueOf hM.R hK.K.1.1.q hk10]
      match w, hw with
      | 0, _ => exact ⟨_, _, rfl, rfl, u1_rs, S'⟩
      | 1, _ => exact ⟨_, _, rfl, rfl, u1_rs, S'⟩
      | 2, _ => exact ⟨_, _, rfl, congrArg (fun z => some (z, u1 mM 0 0 (nI 0))) (hM.R.xoff k hk10), u1_rs, S'⟩
      | 3, _ => exact ⟨_, _, rfl, congrArg (fun z => some (z, u1 mM 0 0 (nI 0))) (hM.R.xon k hk10), u1_rs, S'⟩
      | 4, _ => exact ⟨_, _, rfl, congrArg (fun z => some (z, u1 mM 0 0 (nI 0))) (hM.R.size k hk10), u1_rs, S'⟩
      | 5, _ => exact ⟨_, _, rfl, rfl, u1_rs, S'⟩
      | 6, _ => exact ⟨_, _, rfl, rfl, u1_rs, S'⟩
      | 7, _ => exact ⟨_, _, rfl, rfl, u1_rs, S'⟩
      | 8, _ => exact ⟨_, _, rfl, congrArg (fun z => some (z, u1 mM 0 0 (nI 0))) (hM.R.lost k hk10), u1_rs, S'⟩
      | 9, _ => exact ⟨_, _, rfl, congrArg (fun z => some (z, u1 mM 0 0 (nI 0))) (hM.R.peak k hk10), u1_rs, S'⟩
      | 10, _ => exact ⟨_, _, rfl, congrArg (fun z => some (z, u1 mM 0 0 (nI 0))) (hM.R.samples k hk10), u1_rs, S'⟩
      | 11, _ => exact ⟨_, _, rfl, congrArg (fun z => some (z, u1 mM 0 0 (nI 0))) (hM.R.noted k hk10), u1_rs, S'⟩
      | 12, _ => exact ⟨_, _, rfl, congrArg (fun z => some (z, u1 mM 0 0 (nI 0))) (hM.R.carried k hk10), u1_rs, S'⟩
      | 13, _ => exact ⟨_, _, rfl, congrArg (fun z => some (z, u1 mM 0 0 (nI 0))) (hM.R.count k hk10), u1_rs, S'⟩
    · obtain ⟨hne, h2⟩ := i32_14 h
      right; left
      simp only [if_neg (hne 0 (by omega)), if_neg (hne 1 (by omega)), if_neg (hne 2 (by omega)), if_neg (hne 3 (by omega)), if_neg (hne 4 (by omega)), if_neg (hne 5 (by omega)), if_neg (hne 6 (by omega)), if_neg (hne 7 (by omega)), if_neg (hne 8 (by omega)), if_neg (hne 9 (by omega)), if_neg (hne 10 (by omega)), if_neg (hne 11 (by omega)), if_neg (hne 12 (by omega)), if_neg (hne 13 (by omega))]
      exact ⟨trivial, h2, _, rfl, u1_rs, Sv _⟩
  · left
    simp only [(lk_0 hF hM hK.O h).1, (lk_0 hF hM hK.O h).2, bd1_e]
    exact ⟨trivial, _, rfl, u1_rs, Sv _⟩
