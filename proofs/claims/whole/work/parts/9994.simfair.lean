/-! ===== fair shares: the same answers ===== -/
def SimF (f7 f8 : Option (Int64 × Mm)) : Prop := ∃ v mF' mM', f7 = some (v, mF') ∧ f8 = some (v, mM') ∧ Sim mF' mM'
theorem cSh_core {p o : Nat} (hp : p = 21 ∨ p = 31) (h : core p o) : ¬ cSh o := by
  unfold core at h
  unfold cSh
  omega
theorem sim_fair {mF mM : Mm} (S : Sim mF mM) (a b : Int32) : SimF (fX7_fair SX7 mF 0 a b) (fX8_fair SX8 mM 0 a b) := by
  obtain ⟨π, X, U, I, p, top, tl, B, fc, fp, hF, hM0, hK⟩ := S
  have hM := hM0.thr (v := nI 0)
  have O := hK.O
  have hnf := hK.O.nf
  have hp := hF.hp
  have S' : Sim mF (u1 mM 0 0 (nI 0)) := ⟨π, X, U, I, p, top, tl, B, fc, fp, hF, hM, hK⟩
  unfold SimF fX7_fair jX7_fair_52 fX8_fair jX8_fair_40
  simp only [L0, L1, L2, L3, L4, L5, L6, L7, L8, L9, L10, L11, L12, L13, L14, L15, L16, L17, L18, L19, L20, L21, L22, L23, L24, L25, L26, L27, L28, L29, L30, L31, L32, L33, L34, L35, L36, L37, L38, L39, L40, L41, L42, L43, L44, L45, L46, L47, L48, L50, L57, L59, L60, L63, L64, L65, L70, L80, L90, L97, L100, L110, L120, L122, L128, L150, L200, L208, L216, L224, L232, L240, L248, L255, L256, L264, L272, L280, L288, L296, L297, L300, L336, L337, L500, L680, L700, L998, L999, L1000, L1024, L1999, L6403, L9999, L10000, L12345, L99999, L1000000, L214424576, L412560384, L509804544, L639025541, L642945024, L658545824, L1103515245, L2147483647, g8_0, r8_1, r8_3, r8_4, r8_5, r8_6, r8_7, r8_8, r8_9, r8_10, r8_11, r8_12, r8_13, r8_14, r8_15, r8_26, r8_27, r8_28, r8_29, r8_30, r8_33, r8_34, r8_35, r8_36, r8_37, r8_39, r8_40, r8_41, r8_43, r8_44, r8_45, g7_0, r7_0_4, r7_0_6, bd1_e, hF.r8]
  rcases i32_cases a π.nf (by omega) with ⟨k, hk, rfl⟩ | h
  · obtain ⟨m1, D, q, H, t, a1, a2, a3, a4, a5⟩ := e_share hp hF.P O hF.C hK.K.1.1.on
    obtain ⟨m2, D', q', H', t', b1, b2, b3, b4, b5⟩ := e8_laysFair hM.P hM.R O hK.K.1.1.on
    have hH := (a3.done O a4).1 k hk
    have hH' := (b3.done O b4).1 k hk
    have hd := a3.d1
    have hd' := b3.d1
    have hD := a3.D O
    have hq := a3.p O hk hH
    obtain ⟨e1, e2⟩ := rd_eq (a := q k) (b := D) (c := q' k) (d := D') (by omega) (by omega) (a3.one O b3 a4 b4 k hk)
    have l1 := rdU_le (q k) D
    have l2 := rdL_le (q k) D
    have S2 : Sim m1 m2 := Sim.of hF hM hK (fun o ho => a5.2 o (cSh_core hp ho)) (fun o ho => b5 o (by unfold coreM at ho; omega)) (fun j _ => by rw [b5 0 (by omega)])
    simp (disch := omega) only [(fl_1 hF hM hK.O hk).1, (fl_1 hF hM hK.O hk).2, bd1_e, a1, b1, e_upper a2 a3 O hk hH, e_lower a2 a3 O hk hH, ldL_n s8_28, ldL_n s8_29, b2.up k hk hH', b2.lo k hk hH', nI_L, ← e1, ← e2]
    rw [if_pos n10, if_pos n10]
    by_cases c : b = nI 0
    · rw [if_pos c, if_pos c]; exact ⟨_, _, _, rfl, rfl, S2⟩
    · rw [if_neg c, if_neg c]; exact ⟨_, _, _, rfl, rfl, S2⟩
  · simp only [(fl_0 hF hM hK.O h).1, (fl_0 hF hM hK.O h).2, bd1_e]
    exact ⟨_, _, _, rfl, rfl, S'⟩
theorem fr_same {π : Pl} {X : Nat → Nat} {D D' s s' : Nat} {q q' : Nat → Nat} {H H' : Nat → Bool} (O : π.ok) (h : WL π X D q H s) (h' : WL π X D' q' H' s') (hd : ∀ l, l < π.nl → grL π H l = 0) (hd' : ∀ l, l < π.nl → grL π H' l = 0) {l : Nat} (hl : l < π.nl) : frL π D q H l = 0 ↔ frL π D' q' H' l = 0 := by
  have a2 := (h.done O hd).2 l
  have b2 := (h'.done O hd').2 l
  have e : hsL π H q l * D' = hsL π H' q' l * D := by
    rw [a2, b2, ← sm_mul, ← sm_mul]
    apply sm_congr
    intro f hf
    have := h.one O h' hd hd' f hf
    by_cases c : onL π l f = true
    · rw [if_pos c, if_pos c]; exact this
    · rw [if_neg c, if_neg c, Nat.zero_mul, Nat.zero_mul]
  have x1 := (h.b O hl).1
  have x2 := (h'.b O hl).1
  have p1 := h.d1
  have p2 := h'.d1
  have y : π.cap l * D * D' = π.cap l * D' * D := Nat.mul_right_comm _ _ _
  unfold frL
  constructor
  · intro z
    have z1 : hsL π H q l = π.cap l * D := by omega
    rw [z1, y] at e
    have := Nat.eq_of_mul_eq_mul_right (show 0 < D by omega) e
    omega
  · intro z
    have z1 : hsL π H' q' l = π.cap l * D' := by omega
    rw [z1, ← y] at e
    have := Nat.eq_of_mul_eq_mul_right (show 0 < D' by omega) e
    omega
theorem sim_full {mF mM : Mm} (S : Sim mF mM) : SimC (fX7_full SX7 mF 0) (fX8_full SX8 mM 0) := by
  obtain ⟨π, X, U, I, p, top, tl, B, fc, fp, hF, hM0, hK⟩ := S
  have hM := hM0.thr (v := nI 0)
  have O := hK.O
  have hnf := hK.O.nf
  have hnl := hK.O.nl
  have hp := hF.hp
  unfold SimC fX7_full fX8_full
  simp only [L0, L1, L2, L3, L4, L5, L6, L7, L8, L9, L10, L11, L12, L13, L14, L15, L16, L17, L18, L19, L20, L21, L22, L23, L24, L25, L26, L27, L28, L29, L30, L31, L32, L33, L34, L35, L36, L37, L38, L39, L40, L41, L42, L43, L44, L45, L46, L47, L48, L50, L57, L59, L60, L63, L64, L65, L70, L80, L90, L97, L100, L110, L120, L122, L128, L150, L200, L208, L216, L224, L232, L240, L248, L255, L256, L264, L272, L280, L288, L296, L297, L300, L336, L337, L500, L680, L700, L998, L999, L1000, L1024, L1999, L6403, L9999, L10000, L12345, L99999, L1000000, L214424576, L412560384, L509804544, L639025541, L642945024, L658545824, L1103515245, L2147483647, g8_0, r8_1, r8_3, r8_4, r8_5, r8_6, r8_7, r8_8, r8_9, r8_10, r8_11, r8_12, r8_13, r8_14, r8_15, r8_26, r8_27, r8_28, r8_29, r8_30, r8_33, r8_34, r8_35, r8_36, r8_37, r8_39, r8_40, r8_41, r8_43, r8_44, r8_45, g7_0, r7_0_4, r7_0_6, bd1_e, hF.r8]
  obtain ⟨m1, D, q, H, t, a1, a2, a3, a4, a5⟩ := e_share hp hF.P O hF.C hK.K.1.1.on
  obtain ⟨m2, D', q', H', t', b1, b2, b3, b4, b5⟩ := e8_laysFair hM.P hM.R O hK.K.1.1.on
  rw [a1, b1, bd1_e, bd1_e]
  have hon : ∀ f, f < 8 → X (264 + f) ≤ 1 := hK.K.1.1.on
  obtain ⟨r, c1, c2, c3⟩ := lp_n (b := fun s5 : Int32 × Int32 × Mm => bX7_full_19 SX7 0 s5.1 s5.2.1 s5.2.2) (N := fu) (s0 := (nI 0, nI 0, m1))
    (fun k s => s.2.1 = nI k ∧ s.1 = nI (wB (fun l => decide (frL π D q H l = 0)) (fun l => l) k) ∧ HS s.2.2 π D q H ∧ Fr cSh mF s.2.2)
    (fun r => r.1 = nI (wB (fun l => decide (frL π D q H l = 0)) (fun l => l) π.nl) ∧ Fr cSh mF r.2) π.nl
    ⟨rfl, rfl, a2, a5⟩ (by unfold fu; omega)
    (by
      rintro k ⟨x1, x2, m3⟩ hk ⟨e2, e1, h3, F3⟩
      dsimp only at e2 e1 h3 F3 ⊢
      subst e2 e1
      have P3 := hF.P.sh hp F3
      have e8 : rf SX7 m3 0 8 = p := rf8 (by rw [F3.2 0 (by unfold cSh; omega)]; exact hF.pl) hp
      obtain ⟨m4, d1, d2, d3⟩ := e_fills hp P3 h3 a3 O hk
      refine Or.inl ?_
      unfold bX7_full_19 jX7_full_51
      simp (disch := omega) only [L0, L1, L2, L3, L4, L5, L6, L7, L8, L9, L10, L11, L12, L13, L14, L15, L16, L17, L18, L19, L20, L21, L22, L23, L24, L25, L26, L27, L28, L29, L30, L31, L32, L33, L34, L35, L36, L37, L38, L39, L40, L41, L42, L43, L44, L45, L46, L47, L48, L50, L57, L59, L60, L63, L64, L65, L70, L80, L90, L97, L100, L110, L120, L122, L128, L150, L200, L208, L216, L224, L232, L240, L248, L255, L256, L264, L272, L280, L288, L296, L297, L300, L336, L337, L500, L680, L700, L998, L999, L1000, L1024, L1999, L6403, L9999, L10000, L12345, L99999, L1000000, L214424576, L412560384, L509804544, L639025541, L642945024, L658545824, L1103515245, L2147483647, g7_0, r7_0_4, e8, g7_p hp, P3.nl, nn_le, d1, bd2_e, nI_add, sh1 k (by omega), nI_or]
      rw [if_neg (by omega)]
      by_cases c : frL π D q H k = 0
      · rw [if_pos c, if_neg n10]
        refine ⟨_, rfl, rfl, ?_, d2, F3.trans d3⟩
        dsimp only
        rw [wB_s, if_pos (decide_eq_true c)]
      · rw [if_neg c, if_pos rfl]
        refine ⟨_, rfl, rfl, ?_, d2, F3.trans d3⟩
        dsimp only
        rw [wB_s, if_neg (fun z => c (of_decide_eq_true z))])
    (by
      rintro ⟨x1, x2, m3⟩ ⟨e2, e1, h3, F3⟩
      dsimp only at e2 e1 h3 F3 ⊢
      subst e2 e1
      have P3 := hF.P.sh hp F3
      have e8 : rf SX7 m3 0 8 = p := rf8 (by rw [F3.2 0 (by unfold cSh; omega)]; exact hF.pl) hp
      unfold bX7_full_19
      simp (disch := omega) only [L0, L1, L2, L3, L4, L5, L6, L7, L8, L9, L10, L11, L12, L13, L14, L15, L16, L17, L18, L19, L20, L21, L22, L23, L24, L25, L26, L27, L28, L29, L30, L31, L32, L33, L34, L35, L36, L37, L38, L39, L40, L41, L42, L43, L44, L45, L46, L47, L48, L50, L57, L59, L60, L63, L64, L65, L70, L80, L90, L97, L100, L110, L120, L122, L128, L150, L200, L208, L216, L224, L232, L240, L248, L255, L256, L264, L272, L280, L288, L296, L297, L300, L336, L337, L500, L680, L700, L998, L999, L1000, L1024, L1999, L6403, L9999, L10000, L12345, L99999, L1000000, L214424576, L412560384, L509804544, L639025541, L642945024, L658545824, L1103515245, L2147483647, e8, g7_p hp, P3.nl, nn_le]
      rw [if_pos (by omega)]
      exact ⟨_, rfl, rfl, F3⟩)
  obtain ⟨r8, f1, f2, f3⟩ := lp_n (b := fun s6 : Int32 × Int32 × Mm => bX8_full_13 SX8 0 s6.1 s6.2.1 s6.2.2) (N := fu) (s0 := (nI 0, nI 0, m2))
    (fun k s => s.2.1 = nI k ∧ s.1 = nI (wB (fun l => decide (frL π D' q' H' l = 0)) (fun l => l) k) ∧ HM s.2.2 π D' q' H' ∧ FS (u1 mM 0 0 (nI 0)) s.2.2)
    (fun r => r.1 = nI (wB (fun l => decide (frL π D' q' H' l = 0)) (fun l => l) π.nl) ∧ FS (u1 mM 0 0 (nI 0)) r.2) π.nl
    ⟨rfl, rfl, b2, b5⟩ (by unfold fu; omega)
    (by
      rintro k ⟨x1, x2, m3⟩ hk ⟨e2, e1, h3, F3⟩
      dsimp only at e2 e1 h3 F3 ⊢
      subst e2 e1
      have P3 := hM.P.fs F3
      have R3 := hM.R.fs F3
      obtain ⟨m4, d1, d2, d3, d4⟩ := e8_leftOf P3 R3 O hon h3 b3 hk
      have hd' := b3.d1
      have hfk : frL π D' q' H' k ≤ 16384 := by have := b3.b O hk; unfold frL; omega
      have hle := rdU_le (frL π D' q' H' k) D'
      have h0 := rdU_0 (a := frL π D' q' H' k) (b := D') (by omega)
      refine Or.inl ?_
      unfold bX8_full_13 jX8_full_42
      simp (disch := omega) only [L0, L1, L2, L3, L4, L5, L6, L7, L8, L9, L10, L11, L12, L13, L14, L15, L16, L17, L18, L19, L20, L21, L22, L23, L24, L25, L26, L27, L28, L29, L30, L31, L32, L33, L34, L35, L36, L37, L38, L39, L40, L41, L42, L43, L44, L45, L46, L47, L48, L50, L57, L59, L60, L63, L64, L65, L70, L80, L90, L97, L100, L110, L120, L122, L128, L150, L200, L208, L216, L224, L232, L240, L248, L255, L256, L264, L272, L280, L288, L296, L297, L300, L336, L337, L500, L680, L700, L998, L999, L1000, L1024, L1999, L6403, L9999, L10000, L12345, L99999, L1000000, L214424576, L412560384, L509804544, L639025541, L642945024, L658545824, L1103515245, L2147483647, LL0, e8_links P3, bd1_e, nn_le, d1, bd2_e, d2, lc_eq, lI_eq, h0, nI_add, sh1 k (by omega), nI_or]
      rw [if_neg (by omega)]
      by_cases c : frL π D' q' H' k = 0
      · rw [if_neg (fun z => z c)]
        refine ⟨_, rfl, rfl, ?_, h3.fl d4, F3.trans d4.s⟩
        dsimp only
        rw [wB_s, if_pos (decide_eq_true c)]
      · rw [if_pos c]
        refine ⟨_, rfl, rfl, ?_, h3.fl d4, F3.trans d4.s⟩
        dsimp only
        rw [wB_s, if_neg (fun z => c (of_decide_eq_true z))])
    (by
      rintro ⟨x1, x2, m3⟩ ⟨e2, e1, h3, F3⟩
      dsimp only at e2 e1 h3 F3 ⊢
      subst e2 e1
      have P3 := hM.P.fs F3
      unfold bX8_full_13
      simp (disch := omega) only [L0, L1, L2, L3, L4, L5, L6, L7, L8, L9, L10, L11, L12, L13, L14, L15, L16, L17, L18, L19, L20, L21, L22, L23, L24, L25, L26, L27, L28, L29, L30, L31, L32, L33, L34, L35, L36, L37, L38, L39, L40, L41, L42, L43, L44, L45, L46, L47, L48, L50, L57, L59, L60, L63, L64, L65, L70, L80, L90, L97, L100, L110, L120, L122, L128, L150, L200, L208, L216, L224, L232, L240, L248, L255, L256, L264, L272, L280, L288, L296, L297, L300, L336, L337, L500, L680, L700, L998, L999, L1000, L1024, L1999, L6403, L9999, L10000, L12345, L99999, L1000000, L214424576, L412560384, L509804544, L639025541, L642945024, L658545824, L1103515245, L2147483647, e8_links P3, bd1_e, nn_le]
      rw [if_pos (by omega)]
      exact ⟨_, rfl, rfl, F3⟩)
  rw [c1, f1, bd1_e, bd1_e, c2, f2]
  refine ⟨nI (wB (fun l => decide (frL π D q H l = 0)) (fun l => l) π.nl), r.2, r8.2, rfl, ?_, Sim.of hF hM hK (fun o ho => c3.2 o (cSh_core hp ho)) (fun o ho => f3 o (by unfold coreM at ho; omega)) (fun j _ => by rw [f3 0 (by omega)])⟩
  rw [wB_congr (c := fun l => decide (frL π D' q' H' l = 0)) (c' := fun l => decide (frL π D q H l = 0)) (fun l hl => decide_eq_decide.mpr (fr_same O a3 b3 a4 b4 hl).symm)]
