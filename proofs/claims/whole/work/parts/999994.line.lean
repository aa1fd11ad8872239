/-! ===== a whole line, both sides ===== -/
theorem rf9 {m : Mm} {p : Nat} (h : m.1 0 9 = nI p) (hp : p = 21 ∨ p = 31) : rf SX7 m 0 9 = p := by
  rw [rf_dyn (ci := 7) (rs := [2, 4, 5, 9, 14, 17, 20, 21, 0, 0, 0, 0]) rfl rfl, h, nI_clamp (by omega)]
theorem QM.e0 {m m' : Mm} {π : Pl} {X : Nat → Nat} {td : Nat} (h : QM m π X td) (f : ∀ o, o ≠ 0 → m'.1 o = m.1 o) (f0 : m'.1 0 22 = nI 0) : QM m' π X td :=
  QM.mk (h.P.eq (fun o h1 h2 h3 => by
    show (fun j => if o = 2 then m'.1 2 (9 + j) else if 4 ≤ o ∧ o ≤ 9 then m'.1 o (10 + j) else if 10 ≤ o ∧ o ≤ 13 then m'.1 o (8 + j) else if o = 14 then m'.1 14 (40 + j) else m'.1 o j) = (fun j => if o = 2 then m.1 2 (9 + j) else if 4 ≤ o ∧ o ≤ 9 then m.1 o (10 + j) else if 10 ≤ o ∧ o ≤ 13 then m.1 o (8 + j) else if o = 14 then m.1 14 (40 + j) else m.1 o j)
    rw [f o (by omega), f 2 (by omega), f 14 (by omega)])) (by rw [f 7 (by omega)]; exact h.xoff) (by rw [f 8 (by omega)]; exact h.xon) (by rw [f 9 (by omega)]; exact h.size) (by rw [f 11 (by omega)]; exact h.rate) (by rw [f 12 (by omega)]; exact h.off) f0 (by rw [f 3 (by omega)]; exact h.t2) (by rw [f 3 (by omega)]; exact h.t3) (by rw [f 3 (by omega)]; exact h.t5)
def OutL (B : Nat → Nat) (n sp a : Nat) (mF mM : Mm) (g7 : Option (Int32 × Mm)) (g8 : Option Mm) : Prop :=
  (∃ π X td a2 mF' mM', a2 ≤ n ∧ a ≤ a2 ∧ tzK B n a2 = 4 ∧ g7 = some (nI 1, mF') ∧ g8 = some mM' ∧ TC mF' B n (tzA B n a2) ∧ TM mM' B n (tzA B n (tzA B n a2)) ∧ TV mM' B n (tzA B n a2) ∧ QC mF' sp π X td ∧ QM mM' π X td ∧ QP π X td ∧ LC sp mF mF' ∧ LM mM mM' ∧ mM'.1 0 16 = mM.1 0 16 + nI 1) ∨
  (∃ c pl mF' mM', 0 < c ∧ c < 9 ∧ g7 = some (nI 0, mF') ∧ mF'.1 3 0 = nI c ∧ mF'.1 3 1 = nI pl ∧ LC sp mF mF' ∧ g8 = some mM' ∧ mM'.1 0 22 = nI c ∧ mM'.1 0 23 = nI pl ∧ LM mM mM')
section LL
variable {mF mM : Mm} {B : Nat → Nat} {n a sp : Nat} {π : Pl} {X : Nat → Nat} {td pl : Nat}
theorem e8_113F {m : Mm} {c : Nat} (h0 : 0 < c) (hc : c < 9) (h22 : m.1 0 22 = nI c) : jX8_readLine_113 SX8 m 0 = some (u1 m 0 16 (m.1 0 16 + nI 1)) := by
  unfold jX8_readLine_113
  rw [e8_goOn1 h0 hc h22, bd1_e, bd1_e, L1]
theorem e8_93F {m : Mm} {c : Nat} (h0 : 0 < c) (hc : c < 9) (h22 : m.1 0 22 = nI c) : jX8_readLine_93 SX8 m 0 = some (u1 m 0 16 (m.1 0 16 + nI 1)) := by
  unfold jX8_readLine_93
  rw [h22, if_pos (fun z => by have := (nn_eq (a := c) (b := 0) (by omega) (by omega)).mp z; omega)]
  exact e8_113F h0 hc h22
theorem e8_93W {m : Mm} {s pl : Nat} (hs : s < 6) (hs3 : s ≠ 3) (h22 : m.1 0 22 = nI 0) (h20 : m.1 0 20 = nI s) (h19 : m.1 0 19 = nI pl) : jX8_readLine_93 SX8 m 0 = some (u1 (fl8 m 1 pl) 0 16 ((fl8 m 1 pl).1 0 16 + nI 1)) := by
  unfold jX8_readLine_93
  simp (disch := omega) only [L0, L1, L2, L3, L4, L5, L6, L7, L8, L9, L10, L11, L12, L13, L14, L15, L16, L17, L18, L19, L20, L21, L22, L23, L24, L25, L26, L27, L28, L29, L30, L31, L32, L33, L34, L35, L36, L37, L38, L39, L40, L41, L42, L43, L44, L45, L46, L47, L48, L50, L57, L59, L60, L63, L64, L65, L70, L80, L90, L97, L100, L110, L120, L122, L128, L150, L200, L208, L216, L224, L232, L240, L248, L255, L256, L264, L272, L280, L288, L296, L297, L300, L336, L337, L500, L680, L700, L998, L999, L1000, L1024, L1999, L6403, L9999, L10000, L12345, L99999, L1000000, L214424576, L412560384, L509804544, L639025541, L642945024, L658545824, L1103515245, L2147483647, h22, h20, nn_eq, e8_wrong h22 h19, bd1_e, e8_113F (m := fl8 m 1 pl) (c := 1) (by omega) (by omega) fl8_22]
  rw [if_neg (fun z => z trivial), if_neg hs3]
theorem OutX.line {f7 : Option (Int32 × Mm)} {f8 : Option Mm} (hn : n ≤ 700) (hB : ∀ j, j < n → B j < 256) (h : OutX B n sp a mF mM f7 f8) : OutL B n sp a mF mM (bd2 f7 fun a1 m2 => bd1 (okZ a1) fun _ => some (a1, m2)) (bd1 f8 fun m1 => jX8_readLine_93 SX8 m1 0) := by
  obtain ⟨mM', e8, L, h⟩ := h
  rw [e8, bd1_e]
  have l16 : ¬ lvM 0 16 := by unfold lvM; omega
  rcases h with ⟨π, X, td, a2, mF', h1, h2, Q, P, T, V, h16, L7, ⟨k, e7, T7, C⟩ | ⟨k, e7, c0, c1⟩⟩ | ⟨c, pl, mF', h1, h2, h3, h4, e7, h5, h6, L7⟩
  · have hA := tzA_le (B := B) h1
    obtain ⟨s1, s2, s3, s4, s5, s6⟩ := srt_eq (tzK B n a2) (by omega)
    obtain ⟨m3, g1, g2, g3, g4⟩ := e8_goOn0 Q.f0 T hn hB hA.2.1
    rw [e7, bd2_e, okZ_1, bd1_e]
    have e93 : jX8_readLine_93 SX8 mM' 0 = some (u1 m3 0 16 (m3.1 0 16 + nI 1)) := by
      unfold jX8_readLine_93 jX8_readLine_113
      simp (disch := omega) only [L0, L1, L2, L3, L4, L5, L6, L7, L8, L9, L10, L11, L12, L13, L14, L15, L16, L17, L18, L19, L20, L21, L22, L23, L24, L25, L26, L27, L28, L29, L30, L31, L32, L33, L34, L35, L36, L37, L38, L39, L40, L41, L42, L43, L44, L45, L46, L47, L48, L50, L57, L59, L60, L63, L64, L65, L70, L80, L90, L97, L100, L110, L120, L122, L128, L150, L200, L208, L216, L224, L232, L240, L248, L255, L256, L264, L272, L280, L288, L296, L297, L300, L336, L337, L500, L680, L700, L998, L999, L1000, L1024, L1999, L6403, L9999, L10000, L12345, L99999, L1000000, L214424576, L412560384, L509804544, L639025541, L642945024, L658545824, L1103515245, L2147483647, Q.f0, V.s, s4.mpr k, nn_eq, g1, bd1_e]
      rw [if_neg (fun z => z trivial), if_pos trivial]
    refine Or.inl ⟨π, X, td, a2, mF', _, h1, h2, k, rfl, e93, T7, ?_, ?_, C, ?_, P, L7, (L.trans g3.l).u l16, ?_⟩
    · exact TM.mk (by rw [u1_rn (Or.inl (by omega))]; exact g2.e) (by rw [u1_rn (Or.inl (by omega))]; exact g2.a) (fun j hj => by rw [u1_rn (Or.inr (by omega))]; exact g2.b j hj)
    · exact TV.mk (by rw [u1_rn (Or.inl (by omega))]; exact g4.p) (by rw [u1_rn (Or.inl (by omega))]; exact g4.s) (by rw [u1_rn (Or.inl (by omega))]; exact g4.w) (by rw [u1_rn (Or.inl (by omega))]; exact g4.k) (by rw [u1_rn (Or.inl (by omega))]; exact g4.v)
    · exact (Q.fm g3).e0 (fun o ho => u1_other ho) (by rw [u1_rn (Or.inl (by omega)), g3.2 22 (by omega)]; exact Q.f0)
    · rw [u1_rs, g3.2 16 (by omega), h16]
  · obtain ⟨s1, s2, s3, s4, s5, s6⟩ := srt_eq (tzK B n a2) (by have := tzK_le B n a2; omega)
    rw [e7, bd2_e, okZ_0, bd1_e, e8_93W s6 (fun z => k (s4.mp z)) Q.f0 V.s V.p]
    exact Or.inr ⟨1, tzP B n a2, mF', _, by omega, by omega, rfl, c0, c1, L7, rfl, by rw [u1_rn (Or.inl (by omega))]; exact fl8_22, by rw [u1_rn (Or.inl (by omega))]; exact fl8_23, L.f.u l16⟩
  · rw [e7, bd2_e, okZ_0, bd1_e, e8_93F h1 h2 h3]
    exact Or.inr ⟨c, pl, mF', _, h1, h2, rfl, h5, h6, L7, rfl, by rw [u1_rn (Or.inl (by omega))]; exact h3, by rw [u1_rn (Or.inl (by omega))]; exact h4, L.u l16⟩
theorem kW8_c : ∀ w, w < 6 → kW8 w < 1073741824 ∧ (kW8 w = 214424576 ↔ w = 1) ∧ (kW8 w = 412560384 ↔ w = 0) ∧ (kW8 w = 509804544 ↔ w = 4) ∧ (kW8 w = 639025541 ↔ w = 2) ∧ (kW8 w = 658545824 ↔ w = 3) := by decide
theorem x_line {a0 : Nat} (h : LN mF mM B n (tzA B n a0) sp π X td (tzP B n a0)) (ha0 : a0 ≤ n) (k7 : mF.1 1 4 = nI (tzK B n a0)) (w7 : tzK B n a0 = 1 ∨ tzK B n a0 = 2 → mF.1 1 6 = nI (tzW B n a0)) (V : TV mM B n a0) : OutL B n sp (tzA B n a0) mF mM (fX2_readLine SX7 mF 3 1 sp 20) (fX8_readLine SX8 mM 0) := by
  have hp := h.hsp
  have hK := tzK_le B n a0
  obtain ⟨s1, s2, s3, s4, s5, s6⟩ := srt_eq (tzK B n a0) (by omega)
  have l16 : ¬ lvM 0 16 := by unfold lvM; omega
  by_cases c : tzK B n a0 = 2
  · obtain ⟨w, hw, v1, v2⟩ := V.k c
    obtain ⟨b0, b1, b2, b3, b4, b5⟩ := kW8_c w hw
    have w6 := w7 (Or.inr c)
    rw [v2] at w6
    have e7 : fX2_readLine SX7 mF 3 1 sp 20 = if w = 1 then (bd2 (fX2_readFlow SX7 mF 3 1 sp 20) fun a1 m2 => bd1 (okZ a1) fun _ => some (a1, m2)) else if w = 0 then (bd2 (fX2_readLink SX7 mF 3 1 sp 20) fun a1 m2 => bd1 (okZ a1) fun _ => some (a1, m2)) else if w = 4 then (bd2 (fX2_readOff SX7 mF 3 1 sp 20) fun a1 m2 => bd1 (okZ a1) fun _ => some (a1, m2)) else if w = 2 then (bd2 (fX2_readSample SX7 mF 3 1 (sp + 9)) fun a1 m2 => bd1 (okZ a1) fun _ => some (a1, m2)) else if w = 3 then (bd2 (fX2_readStage SX7 mF 3 1 (sp + 9)) fun a1 m2 => bd1 (okZ a1) fun _ => some (a1, m2)) else (bd2 (fX2_readSeed SX7 mF 3 1 (sp + 9)) fun a1 m2 => bd1 (okZ a1) fun _ => some (a1, m2)) := by
      unfold fX2_readLine
      simp (disch := omega) only [L0, L1, L2, L3, L4, L5, L6, L7, L8, L9, L10, L11, L12, L13, L14, L15, L16, L17, L18, L19, L20, L21, L22, L23, L24, L25, L26, L27, L28, L29, L30, L31, L32, L33, L34, L35, L36, L37, L38, L39, L40, L41, L42, L43, L44, L45, L46, L47, L48, L50, L57, L59, L60, L63, L64, L65, L70, L80, L90, L97, L100, L110, L120, L122, L128, L150, L200, L208, L216, L224, L232, L240, L248, L255, L256, L264, L272, L280, L288, L296, L297, L300, L336, L337, L500, L680, L700, L998, L999, L1000, L1024, L1999, L6403, L9999, L10000, L12345, L99999, L1000000, L214424576, L412560384, L509804544, L639025541, L642945024, L658545824, L1103515245, L2147483647, g7_0, g7_1, g7_3, g7_4, g7_8, g7_13, g7_16, r7_0_0, r7_0_1, r7_0_2, r7_0_3, r7_0_4, r7_0_5, r7_0_6, r7_0_7, r7_1_0, r7_4_0, r7_4_1, r7_4_2, r7_8_0, r7_8_1, r7_8_2, r7_8_3, r7_13_0, r7_13_1, r7_16_0, r7_16_1, g7_p hp, r7_p_0 hp, r7_p_1 hp, r7_p_2 hp, r7_p_3 hp, r7_p_4 hp, r7_p_5 hp, r7_p_6 hp, r7_p_7 hp, r7_p_8 hp, k7, c, w6, nn_eq, b1, b2, b3, b4, b5]
      rw [if_pos trivial]
    have e8 : fX8_readLine SX8 mM 0 = if ¬ w = 0 then (if ¬ w = 1 then (if ¬ w = 2 then (if ¬ w = 3 then (if ¬ w = 4 then (bd1 (fX8_readSeed SX8 mM 0) fun m1 => jX8_readLine_93 SX8 m1 0) else (bd1 (fX8_readOff SX8 mM 0) fun m1 => jX8_readLine_93 SX8 m1 0)) else (bd1 (fX8_readStage SX8 mM 0) fun m1 => jX8_readLine_93 SX8 m1 0)) else (bd1 (fX8_readSample SX8 mM 0) fun m1 => jX8_readLine_93 SX8 m1 0)) else (bd1 (fX8_readFlow SX8 mM 0) fun m1 => jX8_readLine_93 SX8 m1 0)) else (bd1 (fX8_readLink SX8 mM 0) fun m1 => jX8_readLine_93 SX8 m1 0) := by
      unfold fX8_readLine
      simp (disch := omega) only [L0, L1, L2, L3, L4, L5, L6, L7, L8, L9, L10, L11, L12, L13, L14, L15, L16, L17, L18, L19, L20, L21, L22, L23, L24, L25, L26, L27, L28, L29, L30, L31, L32, L33, L34, L35, L36, L37, L38, L39, L40, L41, L42, L43, L44, L45, L46, L47, L48, L50, L57, L59, L60, L63, L64, L65, L70, L80, L90, L97, L100, L110, L120, L122, L128, L150, L200, L208, L216, L224, L232, L240, L248, L255, L256, L264, L272, L280, L288, L296, L297, L300, L336, L337, L500, L680, L700, L998, L999, L1000, L1024, L1999, L6403, L9999, L10000, L12345, L99999, L1000000, L214424576, L412560384, L509804544, L639025541, L642945024, L658545824, L1103515245, L2147483647, g8_0, r8_1, r8_3, r8_4, r8_5, r8_6, r8_7, r8_8, r8_9, r8_10, r8_11, r8_12, r8_13, r8_14, r8_15, r8_26, r8_27, r8_28, r8_29, r8_30, r8_33, r8_34, r8_35, r8_36, r8_37, r8_39, r8_40, r8_41, r8_43, r8_44, r8_45, V.s, s3.mpr c, v1, nn_eq]
      rw [if_pos trivial]
    rw [e7, e8]
    match w, hw with
    | 0, _ => exact OutX.line h.hn h.hB (x_link h)
    | 1, _ => exact OutX.line h.hn h.hB (x_flow h)
    | 2, _ => exact OutX.line h.hn h.hB (x_sample h)
    | 3, _ => exact OutX.line h.hn h.hB (x_stage h)
    | 4, _ => exact OutX.line h.hn h.hB (x_off h)
    | 5, _ => exact OutX.line h.hn h.hB (x_seed h)
  · have e7 : fX2_readLine SX7 mF 3 1 sp 20 = some (nI 0, fl7 mF 1 (tzP B n a0)) := by
      unfold fX2_readLine
      simp (disch := omega) only [L0, L1, L2, L3, L4, L5, L6, L7, L8, L9, L10, L11, L12, L13, L14, L15, L16, L17, L18, L19, L20, L21, L22, L23, L24, L25, L26, L27, L28, L29, L30, L31, L32, L33, L34, L35, L36, L37, L38, L39, L40, L41, L42, L43, L44, L45, L46, L47, L48, L50, L57, L59, L60, L63, L64, L65, L70, L80, L90, L97, L100, L110, L120, L122, L128, L150, L200, L208, L216, L224, L232, L240, L248, L255, L256, L264, L272, L280, L288, L296, L297, L300, L336, L337, L500, L680, L700, L998, L999, L1000, L1024, L1999, L6403, L9999, L10000, L12345, L99999, L1000000, L214424576, L412560384, L509804544, L639025541, L642945024, L658545824, L1103515245, L2147483647, g7_0, g7_1, g7_3, g7_4, g7_8, g7_13, g7_16, r7_0_0, r7_0_1, r7_0_2, r7_0_3, r7_0_4, r7_0_5, r7_0_6, r7_0_7, r7_1_0, r7_4_0, r7_4_1, r7_4_2, r7_8_0, r7_8_1, r7_8_2, r7_8_3, r7_13_0, r7_13_1, r7_16_0, r7_16_1, g7_p hp, r7_p_0 hp, r7_p_1 hp, r7_p_2 hp, r7_p_3 hp, r7_p_4 hp, r7_p_5 hp, r7_p_6 hp, r7_p_7 hp, r7_p_8 hp, k7, nn_eq, e_failed (c := 1) h.p7, bd2_e, okZ_0, bd1_e]
      rw [if_neg c]
    have e8 : fX8_readLine SX8 mM 0 = some (u1 (fl8 mM 1 (tzP B n a0)) 0 16 ((fl8 mM 1 (tzP B n a0)).1 0 16 + nI 1)) := by
      unfold fX8_readLine
      simp (disch := omega) only [L0, L1, L2, L3, L4, L5, L6, L7, L8, L9, L10, L11, L12, L13, L14, L15, L16, L17, L18, L19, L20, L21, L22, L23, L24, L25, L26, L27, L28, L29, L30, L31, L32, L33, L34, L35, L36, L37, L38, L39, L40, L41, L42, L43, L44, L45, L46, L47, L48, L50, L57, L59, L60, L63, L64, L65, L70, L80, L90, L97, L100, L110, L120, L122, L128, L150, L200, L208, L216, L224, L232, L240, L248, L255, L256, L264, L272, L280, L288, L296, L297, L300, L336, L337, L500, L680, L700, L998, L999, L1000, L1024, L1999, L6403, L9999, L10000, L12345, L99999, L1000000, L214424576, L412560384, L509804544, L639025541, L642945024, L658545824, L1103515245, L2147483647, g8_0, r8_1, r8_3, r8_4, r8_5, r8_6, r8_7, r8_8, r8_9, r8_10, r8_11, r8_12, r8_13, r8_14, r8_15, r8_26, r8_27, r8_28, r8_29, r8_30, r8_33, r8_34, r8_35, r8_36, r8_37, r8_39, r8_40, r8_41, r8_43, r8_44, r8_45, V.s, nn_eq, e8_wrong h.Q.f0 V.p, bd1_e, e8_93F (m := fl8 mM 1 (tzP B n a0)) (c := 1) (by omega) (by omega) fl8_22]
      rw [if_neg (fun z => c (s3.mp z))]
    exact Or.inr ⟨1, tzP B n a0, _, _, by omega, by omega, e7, fl7_0, fl7_1, LC.rfl.f, e8, by rw [u1_rn (Or.inl (by omega))]; exact fl8_22, by rw [u1_rn (Or.inl (by omega))]; exact fl8_23, LM.rfl.f.u l16⟩
end LL
