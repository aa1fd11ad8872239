/-! ===== waits, cycles, when it stalls, by chance ===== -/
theorem sim_waits {mF mM : Mm} (S : Sim mF mM) (a : Int32) : SimG mF mM (fX7_waits SX7 mF 0 a) (fX8_waits SX8 mM 0 a) := by
  obtain ⟨π, X, U, I, p, top, tl, B, fc, fp, hF, hM0, hK⟩ := S
  have hM := hM0.thr (v := nI 0)
  have O := hK.O
  have hnl := hK.O.nl
  have S' : Sim mF (u1 mM 0 0 (nI 0)) := ⟨π, X, U, I, p, top, tl, B, fc, fp, hF, hM, hK⟩
  unfold SimG fX7_waits jX7_waits_28 fX8_waits
  simp only [L0, L1, L2, L3, L4, L5, L6, L7, L8, L9, L10, L11, L12, L13, L14, L15, L16, L17, L18, L19, L20, L21, L22, L23, L24, L25, L26, L27, L28, L29, L30, L31, L32, L33, L34, L35, L36, L37, L38, L39, L40, L41, L42, L43, L44, L45, L46, L47, L48, L50, L57, L59, L60, L63, L64, L65, L70, L80, L90, L97, L100, L110, L120, L122, L128, L150, L200, L208, L216, L224, L232, L240, L248, L255, L256, L264, L272, L280, L288, L296, L297, L300, L336, L337, L500, L680, L700, L998, L999, L1000, L1024, L1999, L6403, L9999, L10000, L12345, L99999, L1000000, L214424576, L412560384, L509804544, L639025541, L642945024, L658545824, L1103515245, L2147483647, g8_0, r8_1, r8_3, r8_4, r8_5, r8_6, r8_7, r8_8, r8_9, r8_10, r8_11, r8_12, r8_13, r8_14, r8_15, r8_26, r8_27, r8_28, r8_29, r8_30, r8_33, r8_34, r8_35, r8_36, r8_37, r8_39, r8_40, r8_41, r8_43, r8_44, r8_45, g7_0, r7_0_3, r7_0_6, bd1_e, hF.r8]
  rcases i32_cases a π.nl (by omega) with ⟨k, hk, rfl⟩ | h
  · obtain ⟨m1, a1, a2, a3⟩ := e8_laysWaits hM.R hM.P O hK.K.1.1 false
    have a1' : fX8_laysWaits SX8 (u1 mM 0 0 (nI 0)) 0 (nI 0) = some m1 := a1
    simp (disch := omega) only [(lk_1 hF hM hK.O hk).1, (lk_1 hF hM hK.O hk).2, bd1_e, if_neg n10, e_waitsOf hF.C hF.P O hK.K.1.1 (Or.inl rfl) hF.hp hk, a1', ldA_n s8_25, a2 k hk, wW_f]
    exact ⟨_, _, rfl, if_pos n10, Sim.of hF hM hK (fun _ _ => rfl) (fun o ho => a3.2 o (by unfold coreM at ho; omega)) (fun j _ => by rw [a3.2 0 (by omega)])⟩
  · simp only [(lk_0 hF hM hK.O h).1, (lk_0 hF hM hK.O h).2, bd1_e]
    exact ⟨_, _, rfl, rfl, S'⟩
theorem sim_inCycles {mF mM : Mm} (S : Sim mF mM) (a : Int32) : SimC (fX7_inCycles SX7 mF 0 a) (fX8_inCycles SX8 mM 0 a) := by
  obtain ⟨π, X, U, I, p, top, tl, B, fc, fp, hF, hM0, hK⟩ := S
  have hM := hM0.thr (v := nI 0)
  have O := hK.O
  have hnl := hK.O.nl
  have hp := hF.hp
  have S' : Sim mF (u1 mM 0 0 (nI 0)) := ⟨π, X, U, I, p, top, tl, B, fc, fp, hF, hM, hK⟩
  unfold SimC fX7_inCycles jX7_inCycles_40 fX8_inCycles jX8_inCycles_14 jX8_inCycles_27
  simp only [L0, L1, L2, L3, L4, L5, L6, L7, L8, L9, L10, L11, L12, L13, L14, L15, L16, L17, L18, L19, L20, L21, L22, L23, L24, L25, L26, L27, L28, L29, L30, L31, L32, L33, L34, L35, L36, L37, L38, L39, L40, L41, L42, L43, L44, L45, L46, L47, L48, L50, L57, L59, L60, L63, L64, L65, L70, L80, L90, L97, L100, L110, L120, L122, L128, L150, L200, L208, L216, L224, L232, L240, L248, L255, L256, L264, L272, L280, L288, L296, L297, L300, L336, L337, L500, L680, L700, L998, L999, L1000, L1024, L1999, L6403, L9999, L10000, L12345, L99999, L1000000, L214424576, L412560384, L509804544, L639025541, L642945024, L658545824, L1103515245, L2147483647, g8_0, r8_1, r8_3, r8_4, r8_5, r8_6, r8_7, r8_8, r8_9, r8_10, r8_11, r8_12, r8_13, r8_14, r8_15, r8_26, r8_27, r8_28, r8_29, r8_30, r8_33, r8_34, r8_35, r8_36, r8_37, r8_39, r8_40, r8_41, r8_43, r8_44, r8_45, g7_0, r7_0_3, r7_0_6, bd1_e, hF.r8]
  rcases i32_cases a 2 (by omega) with ⟨w, hw, rfl⟩ | h
  · match w, hw with
    | 0, _ =>
      obtain ⟨m1, a1, _, a3⟩ := e_inPause hF.C hF.P O hK.K.1.1 (Or.inl rfl) hp
      obtain ⟨m2, b1, b2, b3⟩ := e8_laysWaits hM.R hM.P O hK.K.1.1 false
      have b1' : fX8_laysWaits SX8 (u1 mM 0 0 (nI 0)) 0 (nI 0) = some m2 := b1
      obtain ⟨m3, c1, c2⟩ := e8_inCyclesNow (G := wP π X) (hM.P.fr b3 (fun o ho => by omega)) O (fun l _ => wP_lt O) (fun l hl => by rw [b2 l hl, wW_f])
      refine ⟨nI (cyS (wP π X) π.nl), m1, m3, ?_, ?_, Sim.of hF hM hK (fun o ho => a3.2 o (by unfold core at ho; omega)) (fun o ho => by rw [c2.2 o (by unfold coreM at ho; omega), b3.2 o (by unfold coreM at ho; omega)]) (fun j _ => by rw [c2.2 0 (by omega), b3.2 0 (by omega)])⟩
      · rw [if_neg (fun z => z rfl), a1, bd2_e]
      · rw [if_neg (by decide), if_pos (by decide), if_pos (by decide), b1', bd1_e, c1, bd2_e]
    | 1, _ =>
      obtain ⟨m1, a1, a3⟩ := e_inPossible hF.P O hp
      obtain ⟨m2, b1, b2, b3⟩ := e8_laysWaits hM.R hM.P O hK.K.1.1 true
      have b1' : fX8_laysWaits SX8 (u1 mM 0 0 (nI 0)) 0 (nI 1) = some m2 := b1
      obtain ⟨m3, c1, c2⟩ := e8_inCyclesNow (G := wM' π) (hM.P.fr b3 (fun o ho => by omega)) O (fun l _ => wM_lt O) (fun l hl => by rw [b2 l hl, wW_t])
      refine ⟨nI (cyS (wM' π) π.nl), m1, m3, ?_, ?_, Sim.of hF hM hK (fun o ho => a3.2 o (by unfold core at ho; omega)) (fun o ho => by rw [c2.2 o (by unfold coreM at ho; omega), b3.2 o (by unfold coreM at ho; omega)]) (fun j _ => by rw [c2.2 0 (by omega), b3.2 0 (by omega)])⟩
      · rw [if_pos (by decide), if_neg (fun z => z rfl), a1, bd2_e]
      · rw [if_neg (by decide), if_pos (by decide), if_neg (fun z => z rfl), b1', bd1_e, c1, bd2_e]
  · have h0 : ¬ a = nI 0 := by
      rintro rfl
      rcases h with h | ⟨_, h⟩
      · exact absurd h (by decide)
      · exact absurd h (by decide)
    have h1 : ¬ a = nI 1 := by
      rintro rfl
      rcases h with h | ⟨_, h⟩
      · exact absurd h (by decide)
      · exact absurd h (by decide)
    simp only [if_pos h0, if_pos h1]
    rcases h with h | ⟨h2, h3⟩
    · simp only [if_pos h]
      exact ⟨_, _, _, rfl, rfl, S'⟩
    · have h4 : ¬ a ≤ nI 1 := fun c => by
        have c1 := Int32.le_iff_toInt_le.mp c
        have c2 := Int32.le_iff_toInt_le.mp h3
        have z1 : (nI 1).toInt = 1 := rfl
        have z2 : (nI 2).toInt = 2 := rfl
        omega
      simp only [if_neg h2, if_neg h4]
      exact ⟨_, _, _, rfl, rfl, S'⟩
/-! ticks with looks at the cycles -/
def cyN (π : Pl) (Y : Nat → Nat) : Bool := decide (cyS (wP π Y) π.nl ≠ 0)
def TW (m0 m : Mm) (p : Nat) (π : Pl) (Y : Nat → Nat) : Prop := (CF m 20 Y) ∧ (PF m p π) ∧ (m.1 0 8 = nI p) ∧ (∀ o, core p o → m.1 o = m0.1 o)
theorem TW.mk {m0 m : Mm} {p : Nat} {π : Pl} {Y : Nat → Nat} (h_C : CF m 20 Y) (h_P : PF m p π) (h_pl : m.1 0 8 = nI p) (h_e : ∀ o, core p o → m.1 o = m0.1 o) : TW m0 m p π Y := ⟨h_C, h_P, h_pl, h_e⟩
theorem TW.C {m0 m : Mm} {p : Nat} {π : Pl} {Y : Nat → Nat} (h : TW m0 m p π Y) : CF m 20 Y := h.1
theorem TW.P {m0 m : Mm} {p : Nat} {π : Pl} {Y : Nat → Nat} (h : TW m0 m p π Y) : PF m p π := h.2.1
theorem TW.pl {m0 m : Mm} {p : Nat} {π : Pl} {Y : Nat → Nat} (h : TW m0 m p π Y) : m.1 0 8 = nI p := h.2.2.1
theorem TW.e {m0 m : Mm} {p : Nat} {π : Pl} {Y : Nat → Nat} (h : TW m0 m p π Y) : ∀ o, core p o → m.1 o = m0.1 o := h.2.2.2
theorem TR.W {m0 m : Mm} {p : Nat} {π : Pl} {Y : Nat → Nat} (h : TR m0 m 20 p π Y) (hp : p = 21 ∨ p = 31) : TW m0 m p π Y := TW.mk h.C h.P h.pl (h.cor hp)
theorem TW.step {m0 m : Mm} {p : Nat} {π : Pl} {Y : Nat → Nat} (h : TW m0 m p π Y) (O : π.ok) (hp : p = 21 ∨ p = 31) (hK : K2 π Y) (ht : Y 296 ≤ 14000) : ∃ m', fX5_step SX7 m 4 p 20 = some m' ∧ TW m0 m' p π (stepA π Y) := by
  obtain ⟨m', a1, a2, a3⟩ := e_step h.C h.P O (Or.inr rfl) hp hK.1 ht
  exact ⟨m', a1, TW.mk a2 (h.P.fr a3 (fun o ho => by unfold PT at ho; omega)) (by rw [a3.2 0 (by unfold PT; omega)]; exact h.pl) (fun o ho => by rw [a3.2 o (by unfold core at ho; unfold PT; omega)]; exact h.e o ho)⟩
theorem TW.cyc {m0 m : Mm} {p : Nat} {π : Pl} {Y : Nat → Nat} (h : TW m0 m p π Y) (O : π.ok) (hp : p = 21 ∨ p = 31) (hK : K2 π Y) : ∃ m', fX6_inPauseCycles SX7 m 8 p 20 = some (nI (cyS (wP π Y) π.nl), m') ∧ TW m0 m' p π Y := by
  obtain ⟨m', a1, _, a3⟩ := e_inPause h.C h.P O hK.1.1 (Or.inr rfl) hp
  exact ⟨m', a1, TW.mk (h.C.fr a3 (fun o ho => by omega)) (h.P.fr a3 (fun o ho => by omega)) (by rw [a3.2 0 (by omega)]; exact h.pl) (fun o ho => by rw [a3.2 o (by unfold core at ho; omega)]; exact h.e o ho)⟩
theorem TW.st {m0 m : Mm} {p : Nat} {π : Pl} {Y : Nat → Nat} (h : TW m0 m p π Y) (hp : p = 21 ∨ p = 31) {i v : Nat} (hi : i < 297) : TW m0 (u1 m 20 i (nI v)) p π (upN Y i v) :=
  TW.mk (h.C.st i v (Or.inr rfl) hi) (h.P.fr (P := fun o => o = 20) (Fr.u1 rfl) (fun o ho => by omega)) (by rw [u1_other (by omega)]; exact h.pl) (fun o ho => by rw [u1_other (by unfold core at ho; omega)]; exact h.e o ho)
theorem e8_isStalled {m : Mm} {π : Pl} {Y : Nat → Nat} (R : RM m Y) (P : PM m π) (O : π.ok) (hJ : J π Y) : ∃ m', fX8_isStalled SX8 m 0 = some (nI (if cyN π Y = true then 1 else 0), m') ∧ Fr (fun o => o = 25 ∨ o = 26) m m' := by
  have hnl := O.nl
  obtain ⟨m2, b1, b2, b3⟩ := e8_laysWaits R P O hJ false
  have b1' : fX8_laysWaits SX8 m 0 (nI 0) = some m2 := b1
  obtain ⟨m3, c1, c2⟩ := e8_inCyclesNow (G := wP π Y) (P.fr b3 (fun o ho => by omega)) O (fun l _ => wP_lt O) (fun l hl => by rw [b2 l hl, wW_f])
  have hlt := cyS_lt (G := wP π Y) hnl
  unfold fX8_isStalled jX8_isStalled_17
  simp (disch := omega) only [L0, L1, L2, L3, L4, L5, L6, L7, L8, L9, L10, L11, L12, L13, L14, L15, L16, L17, L18, L19, L20, L21, L22, L23, L24, L25, L26, L27, L28, L29, L30, L31, L32, L33, L34, L35, L36, L37, L38, L39, L40, L41, L42, L43, L44, L45, L46, L47, L48, L50, L57, L59, L60, L63, L64, L65, L70, L80, L90, L97, L100, L110, L120, L122, L128, L150, L200, L208, L216, L224, L232, L240, L248, L255, L256, L264, L272, L280, L288, L296, L297, L300, L336, L337, L500, L680, L700, L998, L999, L1000, L1024, L1999, L6403, L9999, L10000, L12345, L99999, L1000000, L214424576, L412560384, L509804544, L639025541, L642945024, L658545824, L1103515245, L2147483647, g8_0, r8_1, r8_3, r8_4, r8_5, r8_6, r8_7, r8_8, r8_9, r8_10, r8_11, r8_12, r8_13, r8_14, r8_15, r8_26, r8_27, r8_28, r8_29, r8_30, r8_33, r8_34, r8_35, r8_36, r8_37, r8_39, r8_40, r8_41, r8_43, r8_44, r8_45, b1', bd1_e, c1, bd2_e, nn_eq, okZ_0, okZ_1]
  refine ⟨m3, ?_, (b3.mono (fun o ho => Or.inl ho)).trans (c2.mono (fun o ho => Or.inr ho))⟩
  unfold cyN
  by_cases c : cyS (wP π Y) π.nl = 0
  · rw [if_pos c, if_neg (by rw [decide_eq_false (fun z => z c)]; decide)]
  · rw [if_neg c, if_pos (decide_eq_true c)]
theorem TX.w {m m' m2 : Mm} (h : TX m m') (F : Fr (fun o => o = 25 ∨ o = 26) m' m2) : TX m m2 := h.trans (TX.of F (fun o ho => by omega))
theorem sim_stalls {mF mM : Mm} (S : Sim mF mM) : SimC (fX7_stalls SX7 mF 0) (fX8_stalls SX8 mM 0) := by
  obtain ⟨π, X, U, I, p, top, tl, B, fc, fp, hF, hM0, hK⟩ := S
  have hM := hM0.thr (v := nI 0)
  have hp := hF.hp
  have ht := hK.t
  have hnl := hK.O.nl
  have O := hK.O
  obtain ⟨m1, a1, T1⟩ := e_start hF
  obtain ⟨m2, b1, b2, b3, b4⟩ := e8_aside 16 (Or.inl rfl) hM
  let E : Nat → Bool := fun k => cyN π (stN π X k)
  obtain ⟨m5, f1, f2⟩ := lpE7 (b := fun s5 : Int32 × Mm => bX7_stalls_6 SX7 0 s5.1 s5.2) (E := E) (m := m1) (fun k m5 => TW mF m5 p π (stN π X k)) (fun m5 => ∀ o, core p o → m5.1 o = mF.1 o) (T1.W hp)
    (by
      intro k m5 hk T
      have hKk := hK.K.N O k
      obtain ⟨m6, q1, q2⟩ := T.cyc O hp hKk.1
      obtain ⟨m7, q3, q4⟩ := q2.step O hp hKk.1 (by omega)
      have hlt := cyS_lt (G := wP π (stN π X k)) hnl
      dsimp only
      unfold bX7_stalls_6
      simp (disch := omega) only [L0, L1, L2, L3, L4, L5, L6, L7, L8, L9, L10, L11, L12, L13, L14, L15, L16, L17, L18, L19, L20, L21, L22, L23, L24, L25, L26, L27, L28, L29, L30, L31, L32, L33, L34, L35, L36, L37, L38, L39, L40, L41, L42, L43, L44, L45, L46, L47, L48, L50, L57, L59, L60, L63, L64, L65, L70, L80, L90, L97, L100, L110, L120, L122, L128, L150, L200, L208, L216, L224, L232, L240, L248, L255, L256, L264, L272, L280, L288, L296, L297, L300, L336, L337, L500, L680, L700, L998, L999, L1000, L1024, L1999, L6403, L9999, L10000, L12345, L99999, L1000000, L214424576, L412560384, L509804544, L639025541, L642945024, L658545824, L1103515245, L2147483647, nn_lt, r7_0_2, r7_0_3, r7_0_7, rf8 T.pl hp, rf8 q2.pl hp, q1, bd2_e, nn_eq, q3, bd1_e, nI_add]
      rw [if_neg (by omega)]
      refine ⟨fun hE => ?_, fun hE => ?_⟩
      · rw [if_neg (of_decide_eq_true hE)]
        exact ⟨_, rfl, q2.e⟩
      · rw [if_pos (Classical.byContradiction (fun z => (of_decide_eq_false hE) z))]
        exact ⟨_, rfl, q4⟩)
    (by
      intro m5 T
      refine ⟨?_, T.e⟩
      dsimp only
      unfold bX7_stalls_6
      simp (disch := omega) only [L0, L1, L2, L3, L4, L5, L6, L7, L8, L9, L10, L11, L12, L13, L14, L15, L16, L17, L18, L19, L20, L21, L22, L23, L24, L25, L26, L27, L28, L29, L30, L31, L32, L33, L34, L35, L36, L37, L38, L39, L40, L41, L42, L43, L44, L45, L46, L47, L48, L50, L57, L59, L60, L63, L64, L65, L70, L80, L90, L97, L100, L110, L120, L122, L128, L150, L200, L208, L216, L224, L232, L240, L248, L255, L256, L264, L272, L280, L288, L296, L297, L300, L336, L337, L500, L680, L700, L998, L999, L1000, L1024, L1999, L6403, L9999, L10000, L12345, L99999, L1000000, L214424576, L412560384, L509804544, L639025541, L642945024, L658545824, L1103515245, L2147483647, nn_lt]
      rw [if_pos (by omega)])
  obtain ⟨k, m6, g1, ⟨g2, g3⟩, g4, g5⟩ := lpE8 (b := fun s6 : Int32 × Mm => bX8_stalls_20 SX8 0 s6.1 s6.2) (E := E) (m := m2) (fun k m6 => RM m6 (stN π X k) ∧ TX m2 m6) ⟨b2, TX.rfl⟩
    (by
      rintro k m6 hk ⟨R, T⟩
      have hKk := hK.K.N O k
      obtain ⟨m7, q1, q2⟩ := e8_isStalled R (T.P b3) O hKk.1.1.1
      have T7 := T.w q2
      have R7 : RM m7 (stN π X k) := R.fr q2 (by omega)
      obtain ⟨m8, q3, q4, _, q5⟩ := e8_tick R7 (T7.P b3) O hKk.1.1 (by omega)
      dsimp only
      unfold bX8_stalls_20
      simp (disch := omega) only [L0, L1, L2, L3, L4, L5, L6, L7, L8, L9, L10, L11, L12, L13, L14, L15, L16, L17, L18, L19, L20, L21, L22, L23, L24, L25, L26, L27, L28, L29, L30, L31, L32, L33, L34, L35, L36, L37, L38, L39, L40, L41, L42, L43, L44, L45, L46, L47, L48, L50, L57, L59, L60, L63, L64, L65, L70, L80, L90, L97, L100, L110, L120, L122, L128, L150, L200, L208, L216, L224, L232, L240, L248, L255, L256, L264, L272, L280, L288, L296, L297, L300, L336, L337, L500, L680, L700, L998, L999, L1000, L1024, L1999, L6403, L9999, L10000, L12345, L99999, L1000000, L214424576, L412560384, L509804544, L639025541, L642945024, L658545824, L1103515245, L2147483647, nn_le, q1, bd2_e, q3, bd1_e, nI_add]
      rw [if_neg (by omega)]
      refine ⟨fun hE => ?_, fun hE => ?_⟩
      · rw [show cyN π (stN π X k) = true from hE, if_pos (by decide)]
        exact ⟨_, rfl, R7, T7⟩
      · rw [show cyN π (stN π X k) = false from hE, if_neg (by decide)]
        exact ⟨_, rfl, q4, T7.trans q5.X⟩)
    (by
      rintro m6 ⟨R, T⟩
      dsimp only
      unfold bX8_stalls_20
      simp (disch := omega) only [L0, L1, L2, L3, L4, L5, L6, L7, L8, L9, L10, L11, L12, L13, L14, L15, L16, L17, L18, L19, L20, L21, L22, L23, L24, L25, L26, L27, L28, L29, L30, L31, L32, L33, L34, L35, L36, L37, L38, L39, L40, L41, L42, L43, L44, L45, L46, L47, L48, L50, L57, L59, L60, L63, L64, L65, L70, L80, L90, L97, L100, L110, L120, L122, L128, L150, L200, L208, L216, L224, L232, L240, L248, L255, L256, L264, L272, L280, L288, L296, L297, L300, L336, L337, L500, L680, L700, L998, L999, L1000, L1024, L1999, L6403, L9999, L10000, L12345, L99999, L1000000, L214424576, L412560384, L509804544, L639025541, L642945024, L658545824, L1103515245, L2147483647, nn_le]
      rw [if_pos (by omega)])
  have hKk := hK.K.N O k
  obtain ⟨m7, q1, q2⟩ := e8_isStalled g2 (g3.P b3) O hKk.1.1.1
  obtain ⟨m', k1, k2, _⟩ := b4 m7 (g3.w q2)
  have Sf : Sim m5 m' := Sim.of hF k2 hK f2 (fun _ _ => rfl) (fun _ _ => rfl)
  unfold SimC fX7_stalls fX8_stalls jX8_stalls_44 jX8_stalls_72
  simp only [L0, L1, L2, L3, L4, L5, L6, L7, L8, L9, L10, L11, L12, L13, L14, L15, L16, L17, L18, L19, L20, L21, L22, L23, L24, L25, L26, L27, L28, L29, L30, L31, L32, L33, L34, L35, L36, L37, L38, L39, L40, L41, L42, L43, L44, L45, L46, L47, L48, L50, L57, L59, L60, L63, L64, L65, L70, L80, L90, L97, L100, L110, L120, L122, L128, L150, L200, L208, L216, L224, L232, L240, L248, L255, L256, L264, L272, L280, L288, L296, L297, L300, L336, L337, L500, L680, L700, L998, L999, L1000, L1024, L1999, L6403, L9999, L10000, L12345, L99999, L1000000, L214424576, L412560384, L509804544, L639025541, L642945024, L658545824, L1103515245, L2147483647, g8_0, r8_1, r8_3, r8_4, r8_5, r8_6, r8_7, r8_8, r8_9, r8_10, r8_11, r8_12, r8_13, r8_14, r8_15, r8_26, r8_27, r8_28, r8_29, r8_30, r8_33, r8_34, r8_35, r8_36, r8_37, r8_39, r8_40, r8_41, r8_43, r8_44, r8_45, g7_0, a1, b1, bd1_e, f1, g1, q1, bd2_e, k1, g5]
  cases hE : cyN π (stN π X k) with
  | true =>
    rw [if_pos (show E k = true from hE)]
    exact ⟨_, _, _, rfl, rfl, Sf⟩
  | false =>
    rw [if_neg (by rw [show E k = false from hE]; decide)]
    exact ⟨_, _, _, rfl, rfl, Sf⟩
