/-! ===== the line 'link', read ===== -/
theorem e8_lkF {m : Mm} {c : Nat} {x1 x2 x3 x4 p1 p2 : Int32} (h0 : 0 < c) (hc : c < 9) (h22 : m.1 0 22 = nI c) : jX8_readLink_82 SX8 m 0 x1 x2 x3 x4 0 p1 p2 = some m := by
  unfold jX8_readLink_82
  rw [e8_numeral1 h0 hc h22, bd2_e, e8_numeral1 h0 hc h22, bd2_e]
  simp (disch := omega) only [L0, L1, L2, L3, L4, L5, L6, L7, L8, L9, L10, L11, L12, L13, L14, L15, L16, L17, L18, L19, L20, L21, L22, L23, L24, L25, L26, L27, L28, L29, L30, L31, L32, L33, L34, L35, L36, L37, L38, L39, L40, L41, L42, L43, L44, L45, L46, L47, L48, L50, L57, L59, L60, L63, L64, L65, L70, L80, L90, L97, L100, L110, L120, L122, L128, L150, L200, L208, L216, L224, L232, L240, L248, L255, L256, L264, L272, L280, L288, L296, L297, L300, L336, L337, L500, L680, L700, L998, L999, L1000, L1024, L1999, L6403, L9999, L10000, L12345, L99999, L1000000, L214424576, L412560384, L509804544, L639025541, L642945024, L658545824, L1103515245, L2147483647, h22, nn_eq]
  rw [if_neg (by omega)]
theorem e8_lk82 {m : Mm} {x1 x2 x3 x4 p1 p2 : Int32} : jX8_readLink_82 SX8 m 0 x1 x2 x3 x4 0 p1 p2 = bd2 (fX8_numeral SX8 m 0 p1 p2) fun a10 m11 => bd2 (fX8_numeral SX8 m11 0 (nI 1) (nI 1999)) fun a12 m13 => if m13.1 0 22 = nI 0 then (bd1 (stA SX8 0 m13 5 x1 x2) fun m14 => bd1 (stA SX8 0 m14 6 x1 x3) fun m15 => bd1 (stA SX8 0 m15 7 x1 x4) fun m16 => bd1 (stA SX8 0 m16 8 x1 a10) fun m17 => bd1 (stA SX8 0 m17 9 x1 a12) fun m18 => bd1 (fX8_reading SX8 m18 0 (nI 0)) fun a19 => bd1 (fX8_reads SX8 m18 0 (nI 0) (a19 + nI 1)) fun m20 => some m20) else (some m13) := by
  unfold jX8_readLink_82
  simp only [L0, L1, L2, L3, L4, L5, L6, L7, L8, L9, L10, L11, L12, L13, L14, L15, L16, L17, L18, L19, L20, L21, L22, L23, L24, L25, L26, L27, L28, L29, L30, L31, L32, L33, L34, L35, L36, L37, L38, L39, L40, L41, L42, L43, L44, L45, L46, L47, L48, L50, L57, L59, L60, L63, L64, L65, L70, L80, L90, L97, L100, L110, L120, L122, L128, L150, L200, L208, L216, L224, L232, L240, L248, L255, L256, L264, L272, L280, L288, L296, L297, L300, L336, L337, L500, L680, L700, L998, L999, L1000, L1024, L1999, L6403, L9999, L10000, L12345, L99999, L1000000, L214424576, L412560384, L509804544, L639025541, L642945024, L658545824, L1103515245, L2147483647, g8_0, r8_1, r8_3, r8_4, r8_5, r8_6, r8_7, r8_8, r8_9, r8_10, r8_11, r8_12, r8_13, r8_14, r8_15, r8_26, r8_27, r8_28, r8_29, r8_30, r8_33, r8_34, r8_35, r8_36, r8_37, r8_39, r8_40, r8_41, r8_43, r8_44, r8_45]
theorem NS.m {mF mM : Mm} {B : Nat → Nat} {n a o j : Nat} {v : Int32} (h : NS mF mM B n a) (h1 : o ≠ 0) (h2 : o ≠ 1) : NS mF (u1 mM o j v) B n a := NS.mk h.F (h.M.o h1 h2) (h.V.o h1) (by rw [u1_rn (Or.inr (by omega))]; exact h.f0)
theorem hi4 {v : Nat} (h1 : 1 ≤ v) (h2 : v ≤ 999) : (if nI v - nI 1 < nI 998 then nI v - nI 1 else nI 998) = nI (v - 1) := by
  rw [pk_sub h1]
  by_cases c : v - 1 < 998
  · rw [if_pos ((nn_lt (by omega) (by omega)).mpr c)]
  · rw [if_neg (fun z => c ((nn_lt (by omega) (by omega)).mp z)), show v - 1 = 998 by omega]
theorem hi4' {α : Type} {v : Nat} {g : Int32 → α} (h1 : 1 ≤ v) (h2 : v ≤ 999) : (if nI 998 ≤ nI v - nI 1 then g (nI 998) else g (nI v - nI 1)) = g (nI (v - 1)) := by
  rw [pk_sub h1]
  by_cases c : 998 ≤ v - 1
  · rw [if_pos ((nn_le (by omega) (by omega)).mpr c), show v - 1 = 998 by omega]
  · rw [if_neg (fun z => c ((nn_le (by omega) (by omega)).mp z))]
section LR
variable {mF mM : Mm} {B : Nat → Nat} {n a sp : Nat} {π : Pl} {X : Nat → Nat} {td pl : Nat}
theorem e_rdLink (P : PF mF sp π) (hp : sp = 21 ∨ sp = 31) (hnl : π.nl ≤ 10) (cl : π.nl < 10) : fX2_readLink SX7 mF 3 1 sp 20 = bd2 (fX2_readName SX7 mF 3 1) fun a1 m2 => if ¬ a1 = nI 0 then (bd1 (fX1_linkOf SX7 m2 sp (m2.1 1 6)) fun a3 => if a3 = -nI 1 then (bd2 (fX2_readNumber SX7 (u1 (u1 m2 (sp + 1) π.nl (m2.1 1 6)) sp 9 (nI (π.nl + 1))) 3 1 (nI 1) (nI 64) (sp + 2) (nI π.nl)) fun a6 m7 => if a6 = nI 0 then some (nI 0, m7) else (bd2 (fX2_readNumber SX7 m7 3 1 (nI 0) (nI 4) (sp + 3) (nI π.nl)) fun a8 m9 => if a8 = nI 0 then some (nI 0, m9) else (bd2 (fX2_readNumber SX7 m9 3 1 (nI 1) (nI 999) 20 (nI (0 + π.nl))) fun a10 m11 => if a10 = nI 0 then some (nI 0, m11) else (bd2 (fX2_readNumber SX7 m11 3 1 (nI 0) (if m11.1 20 (0 + π.nl) - nI 1 < nI 998 then m11.1 20 (0 + π.nl) - nI 1 else nI 998) 20 (nI (10 + π.nl))) fun a13 m14 => if a13 = nI 0 then some (nI 0, m14) else (bd2 (fX2_readNumber SX7 m14 3 1 (nI 1) (nI 1999) 20 (nI (20 + π.nl))) fun a15 m16 => if a15 = nI 0 then some (nI 0, m16) else (bd2 (fX2_readSemicolon SX7 m16 3 1) fun a9 m10 => if a9 = nI 0 then some (nI 0, m10) else some (nI 1, m10))))))) else (bd2 (fX2_failed SX7 m2 3 1 (nI 3)) fun a19 m20 => bd1 (okZ a19) fun _ => some (a19, m20))) else some (nI 0, m2) := by
  unfold fX2_readLink jX2_readLink_177 jX2_readLink_178
  simp (disch := omega) only [L0, L1, L2, L3, L4, L5, L6, L7, L8, L9, L10, L11, L12, L13, L14, L15, L16, L17, L18, L19, L20, L21, L22, L23, L24, L25, L26, L27, L28, L29, L30, L31, L32, L33, L34, L35, L36, L37, L38, L39, L40, L41, L42, L43, L44, L45, L46, L47, L48, L50, L57, L59, L60, L63, L64, L65, L70, L80, L90, L97, L100, L110, L120, L122, L128, L150, L200, L208, L216, L224, L232, L240, L248, L255, L256, L264, L272, L280, L288, L296, L297, L300, L336, L337, L500, L680, L700, L998, L999, L1000, L1024, L1999, L6403, L9999, L10000, L12345, L99999, L1000000, L214424576, L412560384, L509804544, L639025541, L642945024, L658545824, L1103515245, L2147483647, g7_0, g7_1, g7_3, g7_4, g7_8, g7_13, g7_16, r7_0_0, r7_0_1, r7_0_2, r7_0_3, r7_0_4, r7_0_5, r7_0_6, r7_0_7, r7_1_0, r7_4_0, r7_4_1, r7_4_2, r7_8_0, r7_8_1, r7_8_2, r7_8_3, r7_13_0, r7_13_1, r7_16_0, r7_16_1, g7_p hp, r7_p_0 hp, r7_p_1 hp, r7_p_2 hp, r7_p_3 hp, r7_p_4 hp, r7_p_5 hp, r7_p_6 hp, r7_p_7 hp, r7_p_8 hp, okZ_0, okZ_1, bd1_e, P.nl, nn_lt, nI_add, stA_n (s7_p1 hp), narA_0, ldA_n s7_20]
  rw [if_pos cl]
theorem e8_rdLink (h : QM mM π X td) (hnl : π.nl ≤ 10) (cl : π.nl < 10) : fX8_readLink SX8 mM 0 = bd1 (fX8_newName SX8 mM 0 4 (nI 10) (nI π.nl)) fun m3 => bd2 (fX8_numeral SX8 m3 0 (nI 1) (nI 64)) fun a4 m5 => bd2 (fX8_numeral SX8 m5 0 (nI 0) (nI 4)) fun a6 m7 => bd2 (fX8_numeral SX8 m7 0 (nI 1) (nI 999)) fun a8 m9 => if nI 998 ≤ (a8 - nI 1) then (jX8_readLink_82 SX8 m9 0 (nI (10 + π.nl)) a4 a6 a8 0 (nI 0) (nI 998)) else (jX8_readLink_82 SX8 m9 0 (nI (10 + π.nl)) a4 a6 a8 0 (nI 0) (a8 - nI 1)) := by
  unfold fX8_readLink jX8_readLink_20
  simp (disch := omega) only [L0, L1, L2, L3, L4, L5, L6, L7, L8, L9, L10, L11, L12, L13, L14, L15, L16, L17, L18, L19, L20, L21, L22, L23, L24, L25, L26, L27, L28, L29, L30, L31, L32, L33, L34, L35, L36, L37, L38, L39, L40, L41, L42, L43, L44, L45, L46, L47, L48, L50, L57, L59, L60, L63, L64, L65, L70, L80, L90, L97, L100, L110, L120, L122, L128, L150, L200, L208, L216, L224, L232, L240, L248, L255, L256, L264, L272, L280, L288, L296, L297, L300, L336, L337, L500, L680, L700, L998, L999, L1000, L1024, L1999, L6403, L9999, L10000, L12345, L99999, L1000000, L214424576, L412560384, L509804544, L639025541, L642945024, L658545824, L1103515245, L2147483647, g8_0, r8_1, r8_3, r8_4, r8_5, r8_6, r8_7, r8_8, r8_9, r8_10, r8_11, r8_12, r8_13, r8_14, r8_15, r8_26, r8_27, r8_28, r8_29, r8_30, r8_33, r8_34, r8_35, r8_36, r8_37, r8_39, r8_40, r8_41, r8_43, r8_44, r8_45, e8_reading, Nat.add_zero, h.nl, bd1_e, nI_add, nn_eq]
  rw [if_pos (by omega)]
theorem x_link (h : LN mF mM B n a sp π X td pl) : OutX B n sp a mF mM (fX2_readLink SX7 mF 3 1 sp 20) (fX8_readLink SX8 mM 0) := by
  have hnl := h.P.O.nl
  have hp := h.hsp
  have hA := tzA_le (B := B) h.ha
  have hA1 := tzA_le (B := B) hA.2.1
  have hA2 := tzA_le (B := B) hA1.2.1
  have hA3 := tzA_le (B := B) hA2.2.1
  have hA4 := tzA_le (B := B) hA3.2.1
  have hA5 := tzA_le (B := B) hA4.2.1
  have P := h.C.P
  by_cases cl : π.nl < 10
  · -- a link more may come
    have e7 := e_rdLink P hp hnl cl
    have e8 := e8_rdLink h.Q hnl cl
    have ft : ∀ j, 3 ≤ j → s7L sp π.nl 1 j := fun j x => Or.inl ⟨rfl, x⟩
    have fm : ∀ j, 18 ≤ j → j ≤ 21 → s8L π.nl 0 j := fun j x y => Or.inl ⟨rfl, x, y⟩
    have lc : ∀ m, PW (s7L sp π.nl) mF m → LC sp mF m := fun m w o j z => w o j (by unfold lvC at z; unfold s7L; omega)
    have lm : ∀ m, PW (s8L π.nl) mM m → LM mM m := fun m w o j z => w o j (by unfold lvM at z; unfold s8L; omega)
    rcases newN h (c := 4) (b := 10) (k := π.nl) s8_4 (by omega) (by omega) (by omega) h.Q.lname with ⟨F1, M2, q1, q2, q3, q4, q5, q6, q7, q8, q9, q10⟩ | ⟨F1, M1, q1, q2, q3, q4, q5, q6, q7⟩ | ⟨F1, M1, q1, q2, q3, q4⟩
    · have C1 := h.C.ft hp q3
      have el := e_linkOf (v := nI (tzW B n a)) C1.P h.P.O hp
      rw [q6] at el
      have w1 : PW (s7L sp π.nl) mF (u1 (u1 F1 (sp + 1) π.nl (nI (tzW B n a))) sp 9 (nI (π.nl + 1))) := ((PW.rfl.ft q3 ft).u (by unfold s7L; omega)).u (by unfold s7L; omega)
      have W2 : PW (s8L π.nl) mM M2 := fun o j z => q10 o j (fun y => z (by unfold s8L; omega)) (fun y => z (by unfold s8L; omega))
      have N1 : NS (u1 (u1 F1 (sp + 1) π.nl (nI (tzW B n a))) sp 9 (nI (π.nl + 1))) M2 B n (tzA B n a) := (q8.f (by omega) (by omega)).f (by omega) (by omega)
      rw [q1, bd2_e, if_pos n1ne, q5, el, bd1_e, if_pos ((nxI_m1 (k := 0) (by omega)).mpr rfl)] at e7
      rw [q7, bd1_e] at e8
      rcases num2 N1 h.hn h.hB hA.2.1 (lo := 1) (hi := 64) (s7_p2 hp) (by omega) cl (by omega) (by omega) with ⟨v1, G1, K1, a1, a2, a3, a4, a5, a6, a7⟩ | ⟨c, pl', G1, a1, a2, a3, a4, a5⟩
      · have w2 : PW (s7L sp π.nl) mF (u1 G1 (sp + 2) π.nl (nI v1)) := (w1.ft a6 ft).u (by unfold s7L; omega)
        have W3 := W2.fm a7 fm
        have N2 : NS (u1 G1 (sp + 2) π.nl (nI v1)) K1 B n _ := a5.f (by omega) (by omega)
        rw [a3, bd2_e, if_neg n1ne] at e7
        rw [a4, bd2_e] at e8
        rcases num2 N2 h.hn h.hB hA1.2.1 (lo := 0) (hi := 4) (s7_p3 hp) (by omega) cl (by omega) (by omega) with ⟨v2, G2, K2, b1, b2, b3, b4, b5, b6, b7⟩ | ⟨c, pl', G2, b1, b2, b3, b4, b5⟩
        · have w3 : PW (s7L sp π.nl) mF (u1 G2 (sp + 3) π.nl (nI v2)) := (w2.ft b6 ft).u (by unfold s7L; omega)
          have W4 := W3.fm b7 fm
          have N3 : NS (u1 G2 (sp + 3) π.nl (nI v2)) K2 B n _ := b5.f (by omega) (by omega)
          rw [b3, bd2_e, if_neg n1ne] at e7
          rw [b4, bd2_e] at e8
          rcases num2 N3 h.hn h.hB hA2.2.1 (lo := 1) (hi := 999) s7_20 (by omega) (show 0 + π.nl < 297 by omega) (by omega) (by omega) with ⟨v3, G3, K3, c1, c2, c3, c4, c5, c6, c7⟩ | ⟨c, pl', G3, c1, c2, c3, c4, c5⟩
          · have w4 : PW (s7L sp π.nl) mF (u1 G3 20 (0 + π.nl) (nI v3)) := (w3.ft c6 ft).u (by unfold s7L; omega)
            have W5 := W4.fm c7 fm
            have N4 : NS (u1 G3 20 (0 + π.nl) (nI v3)) K3 B n _ := c5.f (by omega) (by omega)
            rw [c3, bd2_e, if_neg n1ne, u1_rs, hi4 c1 c2] at e7
            rw [c4, bd2_e, hi4' (g := fun y => jX8_readLink_82 SX8 K3 0 (nI (10 + π.nl)) (nI v1) (nI v2) (nI v3) 0 (nI 0) y) c1 c2, e8_lk82] at e8
            rcases num2 N4 h.hn h.hB hA3.2.1 (lo := 0) (hi := v3 - 1) s7_20 (by omega) (show 10 + π.nl < 297 by omega) (by omega) (by omega) with ⟨v4, G4, K4, d1, d2, d3, d4, d5, d6, d7⟩ | ⟨c, pl', G4, d1, d2, d3, d4, d5⟩
            · have w5 : PW (s7L sp π.nl) mF (u1 G4 20 (10 + π.nl) (nI v4)) := (w4.ft d6 ft).u (by unfold s7L; omega)
              have W6 := W5.fm d7 fm
              have N5 : NS (u1 G4 20 (10 + π.nl) (nI v4)) K4 B n _ := d5.f (by omega) (by omega)
              rw [d3, bd2_e, if_neg n1ne] at e7
              rw [d4, bd2_e] at e8
              rcases num2 N5 h.hn h.hB hA4.2.1 (lo := 1) (hi := 1999) s7_20 (by omega) (show 20 + π.nl < 297 by omega) (by omega) (by omega) with ⟨v5, G5, K5, f1, f2, f3, f4, f5, f6, f7⟩ | ⟨c, pl', G5, f1, f2, f3, f4, f5⟩
              · have w6 : PW (s7L sp π.nl) mF (u1 G5 20 (20 + π.nl) (nI v5)) := (w5.ft f6 ft).u (by unfold s7L; omega)
                have W7 := W6.fm f7 fm
                have k9 : K5.1 2 9 = nI π.nl := by rw [f7.1 2 (by omega), d7.1 2 (by omega), c7.1 2 (by omega), b7.1 2 (by omega), a7.1 2 (by omega), q10 2 9 (by omega) (by omega)]; exact h.Q.nl
                have k4 : K5.1 4 (10 + π.nl) = nI (tzW B n a) := by rw [f7.1 4 (by omega), d7.1 4 (by omega), c7.1 4 (by omega), b7.1 4 (by omega), a7.1 4 (by omega)]; exact q9
                rw [f3, bd2_e, if_neg n1ne] at e7
                rw [f4, bd2_e, f5.f0, if_pos rfl] at e8
                simp (disch := omega) only [stA_n s8_5, stA_n s8_6, stA_n s8_7, stA_n s8_8, stA_n s8_9, narA_0, bd1_e, e8_reading, e8_reads, Nat.add_zero, u1_rn, k9, nI_add] at e8
                refine OutX.good h.hn h.hB hp hA5.2.1 (by omega) e7 (g := gSS) gS0 gS1 e8 (((((((f5.f (by omega) (by omega)).m (by omega) (by omega)).m (by omega) (by omega)).m (by omega) (by omega)).m (by omega) (by omega)).m (by omega) (by omega)).m (by omega) (by omega)) (lc _ w6) (lm _ ((((((W7.u (by unfold s8L; omega)).u (by unfold s8L; omega)).u (by unfold s8L; omega)).u (by unfold s8L; omega)).u (by unfold s8L; omega)).u (by unfold s8L; omega))) (h.C.lk (w := nI (tzW B n a)) (c := v1) (d := v2) (x := v3) (y := v4) (z := v5) hp h.P.O cl w6 ?_ ?_ ?_ ?_ ?_ ?_ u1_rs) (h.Q.lk h.P.O cl ((((((W7.u (by unfold s8L; omega)).u (by unfold s8L; omega)).u (by unfold s8L; omega)).u (by unfold s8L; omega)).u (by unfold s8L; omega)).u (by unfold s8L; omega)) u1_rs ?_ ?_ ?_ ?_ ?_ ?_) (h.P.lk cl ⟨a1, a2⟩ b2 ⟨c1, c2⟩ d2 ⟨f1, f2⟩) ?_
                · simp (disch := omega) only [u1_rs, u1_rn, f6.1, d6.1, c6.1, b6.1, a6.1]
                · simp (disch := omega) only [u1_rs, u1_rn, f6.1, d6.1, c6.1, b6.1, a6.1]
                · simp (disch := omega) only [u1_rs, u1_rn, f6.1, d6.1, c6.1, b6.1]
                · simp (disch := omega) only [u1_rs, u1_rn, f6.1, d6.1, c6.1]
                · rw [u1_rn (Or.inl (by omega)), f6.1 20 (by omega), u1_rn (Or.inl (by omega)), d6.1 20 (by omega), Nat.zero_add, u1_rs]
                · rw [u1_rn (Or.inl (by omega)), f6.1 20 (by omega), u1_rs]
                · simp (disch := omega) only [u1_rn]; exact k4
                · simp (disch := omega) only [u1_rn]; rw [u1_rs]
                · simp (disch := omega) only [u1_rn]; rw [u1_rs]
                · simp (disch := omega) only [u1_rn]; rw [u1_rs]
                · simp (disch := omega) only [u1_rn]; rw [u1_rs]
                · simp (disch := omega) only [u1_rn]; rw [u1_rs]
                · simp (disch := omega) only [u1_rn]; exact W7 0 16 (by unfold s8L; omega)
              · rw [f3, bd2_e, if_pos rfl] at e7
                rw [f4, bd2_e, fl8_22, if_neg (fun z => by have := (nn_eq (a := c) (b := 0) (by omega) (by omega)).mp z; omega)] at e8
                exact OutX.bad f1 f2 e7 (lc _ (w5.ft f5 ft)) e8 (lm _ W6).f fl8_22 fl8_23
            · rw [d3, bd2_e, if_pos rfl] at e7
              rw [d4, bd2_e, e8_numeral1 d1 d2 fl8_22, bd2_e, fl8_22, if_neg (fun z => by have := (nn_eq (a := c) (b := 0) (by omega) (by omega)).mp z; omega)] at e8
              exact OutX.bad d1 d2 e7 (lc _ (w4.ft d5 ft)) e8 (lm _ W5).f fl8_22 fl8_23
          · rw [c3, bd2_e, if_pos rfl] at e7
            rw [c4, bd2_e, hi4' (v := 1) (g := fun y => jX8_readLink_82 SX8 (fl8 K2 c pl') 0 (nI (10 + π.nl)) (nI v1) (nI v2) (nI 1) 0 (nI 0) y) (by omega) (by omega), e8_lkF c1 c2 fl8_22] at e8
            exact OutX.bad c1 c2 e7 (lc _ (w3.ft c5 ft)) e8 (lm _ W4).f fl8_22 fl8_23
        · rw [b3, bd2_e, if_pos rfl] at e7
          rw [b4, bd2_e, e8_numeral1 b1 b2 fl8_22, bd2_e, hi4' (v := 1) (g := fun y => jX8_readLink_82 SX8 (fl8 K1 c pl') 0 (nI (10 + π.nl)) (nI v1) (nI 0) (nI 1) 0 (nI 0) y) (by omega) (by omega), e8_lkF b1 b2 fl8_22] at e8
          exact OutX.bad b1 b2 e7 (lc _ (w2.ft b5 ft)) e8 (lm _ W3).f fl8_22 fl8_23
      · rw [a3, bd2_e, if_pos rfl] at e7
        rw [a4, bd2_e, e8_numeral1 a1 a2 fl8_22, bd2_e, e8_numeral1 a1 a2 fl8_22, bd2_e, hi4' (v := 1) (g := fun y => jX8_readLink_82 SX8 (fl8 M2 c pl') 0 (nI (10 + π.nl)) (nI 1) (nI 0) (nI 1) 0 (nI 0) y) (by omega) (by omega), e8_lkF a1 a2 fl8_22] at e8
        exact OutX.bad a1 a2 e7 (lc _ (w1.ft a5 ft)) e8 (lm _ W2).f fl8_22 fl8_23
    · have C1 := h.C.ft hp q2
      have el := e_linkOf (v := nI (tzW B n a)) C1.P h.P.O hp
      have hle := fnd_le π.lname (nI (tzW B n a)) π.nl
      rw [q1, bd2_e, if_pos n1ne, q4, el, bd1_e, if_neg (fun z => q5 ((nxI_m1 (by omega)).mp z)), e_failed (c := 3) q3, bd2_e, okZ_0, bd1_e] at e7
      rw [q6, bd1_e, e8_numeral1 (c := 3) (by omega) (by omega) fl8_22, bd2_e, e8_numeral1 (c := 3) (by omega) (by omega) fl8_22, bd2_e, e8_numeral1 (c := 3) (by omega) (by omega) fl8_22, bd2_e, hi4' (v := 1) (g := fun y => jX8_readLink_82 SX8 (fl8 M1 3 (tzP B n a)) 0 (nI (10 + π.nl)) (nI 1) (nI 0) (nI 1) 0 (nI 0) y) (by omega) (by omega), e8_lkF (c := 3) (by omega) (by omega) fl8_22] at e8
      exact OutX.bad (c := 3) (by omega) (by omega) e7 q2.l e8 q7.l.f fl8_22 fl8_23
    · rw [q1, bd2_e, if_neg (fun z => z rfl)] at e7
      rw [q3, bd1_e, e8_numeral1 (c := 1) (by omega) (by omega) fl8_22, bd2_e, e8_numeral1 (c := 1) (by omega) (by omega) fl8_22, bd2_e, e8_numeral1 (c := 1) (by omega) (by omega) fl8_22, bd2_e, hi4' (v := 1) (g := fun y => jX8_readLink_82 SX8 (fl8 M1 1 (tzP B n a)) 0 (nI (10 + π.nl)) (nI 1) (nI 0) (nI 1) 0 (nI 0) y) (by omega) (by omega), e8_lkF (c := 1) (by omega) (by omega) fl8_22] at e8
      exact OutX.bad (c := 1) (by omega) (by omega) e7 q2.l e8 q4.l.f fl8_22 fl8_23
  · have e10 : π.nl = 10 := by omega
    refine OutX.bad (c := 2) (pl := pl) (mF' := mF) (mM' := fl8 mM 2 pl) (by omega) (by omega) ?_ LC.rfl ?_ LM.rfl.f fl8_22 fl8_23
    · unfold fX2_readLink
      simp (disch := omega) only [L0, L1, L2, L3, L4, L5, L6, L7, L8, L9, L10, L11, L12, L13, L14, L15, L16, L17, L18, L19, L20, L21, L22, L23, L24, L25, L26, L27, L28, L29, L30, L31, L32, L33, L34, L35, L36, L37, L38, L39, L40, L41, L42, L43, L44, L45, L46, L47, L48, L50, L57, L59, L60, L63, L64, L65, L70, L80, L90, L97, L100, L110, L120, L122, L128, L150, L200, L208, L216, L224, L232, L240, L248, L255, L256, L264, L272, L280, L288, L296, L297, L300, L336, L337, L500, L680, L700, L998, L999, L1000, L1024, L1999, L6403, L9999, L10000, L12345, L99999, L1000000, L214424576, L412560384, L509804544, L639025541, L642945024, L658545824, L1103515245, L2147483647, g7_0, g7_1, g7_3, g7_4, g7_8, g7_13, g7_16, r7_0_0, r7_0_1, r7_0_2, r7_0_3, r7_0_4, r7_0_5, r7_0_6, r7_0_7, r7_1_0, r7_4_0, r7_4_1, r7_4_2, r7_8_0, r7_8_1, r7_8_2, r7_8_3, r7_13_0, r7_13_1, r7_16_0, r7_16_1, g7_p hp, r7_p_0 hp, r7_p_1 hp, r7_p_2 hp, r7_p_3 hp, r7_p_4 hp, r7_p_5 hp, r7_p_6 hp, r7_p_7 hp, r7_p_8 hp, P.nl, nn_lt, e_failed (c := 2) h.p7, bd2_e, okZ_0, bd1_e]
      rw [if_neg cl]
    · unfold fX8_readLink jX8_readLink_20 fX8_newName
      simp (disch := omega) only [L0, L1, L2, L3, L4, L5, L6, L7, L8, L9, L10, L11, L12, L13, L14, L15, L16, L17, L18, L19, L20, L21, L22, L23, L24, L25, L26, L27, L28, L29, L30, L31, L32, L33, L34, L35, L36, L37, L38, L39, L40, L41, L42, L43, L44, L45, L46, L47, L48, L50, L57, L59, L60, L63, L64, L65, L70, L80, L90, L97, L100, L110, L120, L122, L128, L150, L200, L208, L216, L224, L232, L240, L248, L255, L256, L264, L272, L280, L288, L296, L297, L300, L336, L337, L500, L680, L700, L998, L999, L1000, L1024, L1999, L6403, L9999, L10000, L12345, L99999, L1000000, L214424576, L412560384, L509804544, L639025541, L642945024, L658545824, L1103515245, L2147483647, g8_0, r8_1, r8_3, r8_4, r8_5, r8_6, r8_7, r8_8, r8_9, r8_10, r8_11, r8_12, r8_13, r8_14, r8_15, r8_26, r8_27, r8_28, r8_29, r8_30, r8_33, r8_34, r8_35, r8_36, r8_37, r8_39, r8_40, r8_41, r8_43, r8_44, r8_45, e8_reading, Nat.add_zero, h.Q.nl, bd1_e, nI_add, nn_eq, e8_wrong (c := 2) h.Q.f0 h.p8]
      rw [if_neg (by omega), e8_goOn1 (c := 2) (by omega) (by omega) fl8_22, bd1_e, fl8_22, if_neg (by decide), bd1_e, e8_numeral1 (c := 2) (by omega) (by omega) fl8_22, bd2_e, e8_numeral1 (c := 2) (by omega) (by omega) fl8_22, bd2_e, e8_numeral1 (c := 2) (by omega) (by omega) fl8_22, bd2_e, hi4' (v := 1) (g := fun y => jX8_readLink_82 SX8 (fl8 mM 2 pl) 0 (nI (10 + π.nl)) (nI 1) (nI 0) (nI 1) 0 (nI 0) y) (by omega) (by omega), e8_lkF (c := 2) (by omega) (by omega) fl8_22]
end LR
