/-! ===== the line 'flow': its ways, both sides ===== -/
section HU
variable {mF mM : Mm} {B : Nat → Nat} {n sp : Nat} {π : Pl} {X : Nat → Nat} {td pl : Nat} {w : Int32} {r : Nat}
theorem e_path3 {m7 m1 : Mm} {f h k : Nat} (hh : h ≤ 5) (hk : k ≤ 5) (h1 : fX4_next SX7 m7 1 = some m1) (h4 : m1.1 1 4 = nI k) : bX2_readPath_3 SX7 3 1 sp (nI f) (nI h) m7 = if h ≠ 0 ∧ k = 4 then some (.inr (.inl (nI 1, m1))) else jX2_readPath_28 SX7 m1 3 1 sp (nI f) (nI h) := by
  unfold bX2_readPath_3
  simp (disch := omega) only [L0, L1, L2, L3, L4, L5, L6, L7, L8, L9, L10, L11, L12, L13, L14, L15, L16, L17, L18, L19, L20, L21, L22, L23, L24, L25, L26, L27, L28, L29, L30, L31, L32, L33, L34, L35, L36, L37, L38, L39, L40, L41, L42, L43, L44, L45, L46, L47, L48, L50, L57, L59, L60, L63, L64, L65, L70, L80, L90, L97, L100, L110, L120, L122, L128, L150, L200, L208, L216, L224, L232, L240, L248, L255, L256, L264, L272, L280, L288, L296, L297, L300, L336, L337, L500, L680, L700, L998, L999, L1000, L1024, L1999, L6403, L9999, L10000, L12345, L99999, L1000000, L214424576, L412560384, L509804544, L639025541, L642945024, L658545824, L1103515245, L2147483647, g7_0, g7_1, g7_3, g7_4, g7_8, g7_13, g7_16, r7_0_0, r7_0_1, r7_0_2, r7_0_3, r7_0_4, r7_0_5, r7_0_6, r7_0_7, r7_1_0, r7_4_0, r7_4_1, r7_4_2, r7_8_0, r7_8_1, r7_8_2, r7_8_3, r7_13_0, r7_13_1, r7_16_0, r7_16_1, h1, bd1_e, h4, nn_lt, nn_le, nn_eq, okZ_1]
  rw [if_neg (by omega)]
  by_cases c : h ≤ 0
  · rw [if_pos c, if_neg (fun z => z.1 (by omega))]
  · rw [if_neg c]
    by_cases c2 : k = 4
    · rw [if_neg (fun z => z c2), if_pos ⟨by omega, c2⟩]
    · rw [if_pos c2, if_neg (fun z => c2 z.2)]
theorem e8_flow78 {m : Mm} {x : Int32} {s : Nat} (hs : s < 6) (h22 : m.1 0 22 = nI 0) (h20 : m.1 0 20 = nI s) : bX8_readFlow_78 SX8 0 x m = if s = 3 then some (.inr m) else bd1 (fX8_readHop SX8 m 0 x) fun m10 => some (.inl m10) := by
  unfold bX8_readFlow_78
  simp (disch := omega) only [L0, L1, L2, L3, L4, L5, L6, L7, L8, L9, L10, L11, L12, L13, L14, L15, L16, L17, L18, L19, L20, L21, L22, L23, L24, L25, L26, L27, L28, L29, L30, L31, L32, L33, L34, L35, L36, L37, L38, L39, L40, L41, L42, L43, L44, L45, L46, L47, L48, L50, L57, L59, L60, L63, L64, L65, L70, L80, L90, L97, L100, L110, L120, L122, L128, L150, L200, L208, L216, L224, L232, L240, L248, L255, L256, L264, L272, L280, L288, L296, L297, L300, L336, L337, L500, L680, L700, L998, L999, L1000, L1024, L1999, L6403, L9999, L10000, L12345, L99999, L1000000, L214424576, L412560384, L509804544, L639025541, L642945024, L658545824, L1103515245, L2147483647, h22, h20, nn_eq]
  rw [if_neg (fun z => z trivial)]
theorem e8_flow78F {m : Mm} {x : Int32} {c : Nat} (h0 : 0 < c) (hc : c < 9) (h22 : m.1 0 22 = nI c) : bX8_readFlow_78 SX8 0 x m = some (.inr m) := by
  unfold bX8_readFlow_78
  rw [h22]
  exact if_pos (fun z => by have := (nn_eq (a := c) (b := 0) (by omega) (by omega)).mp z; omega)
theorem loop2 (hn : n ≤ 700) (hB : ∀ j, j < n → B j < 256) (hp : sp = 21 ∨ sp = 31) (O : π.ok) (hf : π.nf < 8) (P : PF mF sp π) (Q : QM mM π X td) : ∀ d h p m7 m8 a N7 N8, h + d = 5 → h ≠ 0 → a ≤ n → d < N7 → d + 1 < N8 → NS m7 m8 B n a → HC mF m7 sp π w r h p → HMf mM m8 π w r h p → HP π h p →
    (∃ a2 h' p' F M, a2 ≤ n ∧ a ≤ a2 ∧ tzK B n a2 = 4 ∧ h' ≠ 0 ∧ lp (fun s13 : Int32 × Mm => bX2_readPath_3 SX7 3 1 sp (nI π.nf) s13.1 s13.2) N7 (nI h, m7) = some (.inl (nI 1, F)) ∧ lp (fun s11 : Mm => bX8_readFlow_78 SX8 0 (nI (8 + π.nf)) s11) N8 m8 = some M ∧ HC mF F sp π w r h' p' ∧ HMf mM M π w r h' p' ∧ HP π h' p' ∧ TC F B n (tzA B n a2) ∧ TM M B n (tzA B n a2) ∧ TV M B n a2) ∨
    (∃ c pl F M, 0 < c ∧ c < 9 ∧ lp (fun s13 : Int32 × Mm => bX2_readPath_3 SX7 3 1 sp (nI π.nf) s13.1 s13.2) N7 (nI h, m7) = some (.inl (nI 0, fl7 F c pl)) ∧ PW (s7F sp π.nf) mF F ∧ lp (fun s11 : Mm => bX8_readFlow_78 SX8 0 (nI (8 + π.nf)) s11) N8 m8 = some (fl8 M c pl) ∧ PW (s8F π.nf) mM M) := by
  intro d
  induction d using Nat.strongRecOn with
  | ind d ih =>
    intro h p m7 m8 a N7 N8 hd h0 ha hN7 hN8 N H7 H8 HH
    have hA := tzA_le (B := B) ha
    have hK := tzK_le B n a
    obtain ⟨s1, s2, s3, s4, s5, s6⟩ := srt_eq (tzK B n a) (by omega)
    obtain ⟨m1, a1, a2, a3, a4, a5⟩ := hop2 N hn hB ha hp O hf P Q H7 H8 HH
    have e7 := e_path3 (sp := sp) (f := π.nf) (show h ≤ 5 by omega) hK a1 a2
    have e8 := e8_flow78 (x := nI (8 + π.nf)) s6 N.f0 N.V.s
    obtain ⟨K7, rfl⟩ : ∃ K, N7 = K + 1 := ⟨N7 - 1, by omega⟩
    obtain ⟨K8, rfl⟩ : ∃ K, N8 = K + 2 := ⟨N8 - 2, by omega⟩
    by_cases c : tzK B n a = 4
    · rw [if_pos ⟨h0, c⟩] at e7
      rw [if_pos (s4.mpr c)] at e8
      exact Or.inl ⟨a, h, p, m1, m8, ha, by omega, c, h0, lp_r e7, lp_r e8, a4, H8, HH, a3, N.M, N.V⟩
    · rw [if_neg (fun z => c z.2)] at e7
      rw [if_neg (fun z => c (s4.mp z))] at e8
      rcases a5 with ⟨F', M', l, b1, b2, b3, b4, b5, b6, b7⟩ | ⟨c', b1, b2, b3, b4⟩
      · rw [b2] at e7
        rw [b3, bd1_e] at e8
        have g7 := lp_l (b := fun s13 : Int32 × Mm => bX2_readPath_3 SX7 3 1 sp (nI π.nf) s13.1 s13.2) (M := K7) (s := (nI h, m7)) e7
        have g8 := lp_l (b := fun s11 : Mm => bX8_readFlow_78 SX8 0 (nI (8 + π.nf)) s11) (M := K8 + 1) (s := m8) e8
        rw [g7, g8]
        rcases ih (d - 1) (by omega) (h + 1) (upN p h l) F' M' (tzA B n a) K7 (K8 + 1) (by omega) (by omega) hA.2.1 (by omega) (by omega) b4 b5 b6 b7 with ⟨x1, x2, x3, x4, x5, y1, y2, y3⟩ | z
        · exact Or.inl ⟨x1, x2, x3, x4, x5, y1, by omega, y3⟩
        · exact Or.inr z
      · rw [b3] at e7
        rw [b4, bd1_e] at e8
        have g8 := lp_l (b := fun s11 : Mm => bX8_readFlow_78 SX8 0 (nI (8 + π.nf)) s11) (M := K8 + 1) (s := m8) e8
        refine Or.inr ⟨c', tzP B n a, m1, m8, b1, b2, lp_r e7, a4.W, ?_, H8.W⟩
        rw [g8]
        exact lp_r (e8_flow78F b1 b2 fl8_22)
theorem e_rdFlow (P : PF mF sp π) (hp : sp = 21 ∨ sp = 31) (hnf : π.nf ≤ 8) (cl : π.nf < 8) : fX2_readFlow SX7 mF 3 1 sp 20 = bd2 (fX2_readName SX7 mF 3 1) fun a1 m2 => if ¬ a1 = nI 0 then (bd1 (fX1_flowOf SX7 m2 sp (m2.1 1 6)) fun a3 => if a3 = -nI 1 then (bd2 (fX2_readNumber SX7 (u1 (u1 m2 (sp + 4) π.nf (m2.1 1 6)) sp 10 (nI (π.nf + 1))) 3 1 (nI 1) (nI 1024) 20 (nI (200 + π.nf))) fun a6 m7 => if ¬ a6 = nI 0 then (bd2 (fX2_readPath SX7 (u1 (u1 m7 20 (208 + π.nf) (m7.1 20 (200 + π.nf))) 20 (264 + π.nf) (nI 1)) 3 1 sp (nI π.nf)) fun a11 m12 => bd1 (okZ a11) fun _ => some (a11, m12)) else some (nI 0, m7)) else (bd2 (fX2_failed SX7 m2 3 1 (nI 3)) fun a19 m20 => bd1 (okZ a19) fun _ => some (a19, m20))) else some (nI 0, m2) := by
  unfold fX2_readFlow
  simp (disch := omega) only [L0, L1, L2, L3, L4, L5, L6, L7, L8, L9, L10, L11, L12, L13, L14, L15, L16, L17, L18, L19, L20, L21, L22, L23, L24, L25, L26, L27, L28, L29, L30, L31, L32, L33, L34, L35, L36, L37, L38, L39, L40, L41, L42, L43, L44, L45, L46, L47, L48, L50, L57, L59, L60, L63, L64, L65, L70, L80, L90, L97, L100, L110, L120, L122, L128, L150, L200, L208, L216, L224, L232, L240, L248, L255, L256, L264, L272, L280, L288, L296, L297, L300, L336, L337, L500, L680, L700, L998, L999, L1000, L1024, L1999, L6403, L9999, L10000, L12345, L99999, L1000000, L214424576, L412560384, L509804544, L639025541, L642945024, L658545824, L1103515245, L2147483647, g7_0, g7_1, g7_3, g7_4, g7_8, g7_13, g7_16, r7_0_0, r7_0_1, r7_0_2, r7_0_3, r7_0_4, r7_0_5, r7_0_6, r7_0_7, r7_1_0, r7_4_0, r7_4_1, r7_4_2, r7_8_0, r7_8_1, r7_8_2, r7_8_3, r7_13_0, r7_13_1, r7_16_0, r7_16_1, g7_p hp, r7_p_0 hp, r7_p_1 hp, r7_p_2 hp, r7_p_3 hp, r7_p_4 hp, r7_p_5 hp, r7_p_6 hp, r7_p_7 hp, r7_p_8 hp, okZ_0, okZ_1, bd1_e, P.nf, nn_lt, nI_add, stA_n (s7_p4 hp), narA_0, ldA_n s7_20, stA_n s7_20]
  rw [if_pos cl]
theorem e8_rdFlow (h : QM mM π X td) (hnf : π.nf ≤ 8) (cl : π.nf < 8) : fX8_readFlow SX8 mM 0 = bd1 (fX8_newName SX8 mM 0 10 (nI 8) (nI π.nf)) fun m3 => bd2 (fX8_numeral SX8 m3 0 (nI 1) (nI 1024)) fun a4 m5 => if m5.1 0 22 = nI 0 then (bd1 (fX8_readHop SX8 (u1 (u1 (u1 m5 11 (8 + π.nf) a4) 12 (8 + π.nf) (nI 0)) 13 (8 + π.nf) (nI 0)) 0 (nI (8 + π.nf))) fun m9 => bd1 (lp (fun s11 => bX8_readFlow_78 SX8 0 (nI (8 + π.nf)) s11) fu m9) fun y12 => jX8_readFlow_101 SX8 y12 0) else some m5 := by
  unfold fX8_readFlow jX8_readFlow_20
  simp (disch := omega) only [L0, L1, L2, L3, L4, L5, L6, L7, L8, L9, L10, L11, L12, L13, L14, L15, L16, L17, L18, L19, L20, L21, L22, L23, L24, L25, L26, L27, L28, L29, L30, L31, L32, L33, L34, L35, L36, L37, L38, L39, L40, L41, L42, L43, L44, L45, L46, L47, L48, L50, L57, L59, L60, L63, L64, L65, L70, L80, L90, L97, L100, L110, L120, L122, L128, L150, L200, L208, L216, L224, L232, L240, L248, L255, L256, L264, L272, L280, L288, L296, L297, L300, L336, L337, L500, L680, L700, L998, L999, L1000, L1024, L1999, L6403, L9999, L10000, L12345, L99999, L1000000, L214424576, L412560384, L509804544, L639025541, L642945024, L658545824, L1103515245, L2147483647, g8_0, r8_1, r8_3, r8_4, r8_5, r8_6, r8_7, r8_8, r8_9, r8_10, r8_11, r8_12, r8_13, r8_14, r8_15, r8_26, r8_27, r8_28, r8_29, r8_30, r8_33, r8_34, r8_35, r8_36, r8_37, r8_39, r8_40, r8_41, r8_43, r8_44, r8_45, e8_reading, show 9 + 1 = 10 from rfl, h.nf, bd1_e, nI_add, nn_eq, stA_n s8_11, stA_n s8_12, stA_n s8_13, narA_0, show narA 2 (nI 0) = nI 0 from narA_2 false]
  rw [if_pos (by omega)]
theorem e8_flow101 {m : Mm} {f : Nat} (h : m.1 2 10 = nI f) : jX8_readFlow_101 SX8 m 0 = some (u1 m 2 10 (nI (f + 1))) := by
  unfold jX8_readFlow_101
  simp (disch := omega) only [L0, L1, L2, L3, L4, L5, L6, L7, L8, L9, L10, L11, L12, L13, L14, L15, L16, L17, L18, L19, L20, L21, L22, L23, L24, L25, L26, L27, L28, L29, L30, L31, L32, L33, L34, L35, L36, L37, L38, L39, L40, L41, L42, L43, L44, L45, L46, L47, L48, L50, L57, L59, L60, L63, L64, L65, L70, L80, L90, L97, L100, L110, L120, L122, L128, L150, L200, L208, L216, L224, L232, L240, L248, L255, L256, L264, L272, L280, L288, L296, L297, L300, L336, L337, L500, L680, L700, L998, L999, L1000, L1024, L1999, L6403, L9999, L10000, L12345, L99999, L1000000, L214424576, L412560384, L509804544, L639025541, L642945024, L658545824, L1103515245, L2147483647, e8_reading, e8_reads, show 9 + 1 = 10 from rfl, h, bd1_e, nI_add]
theorem x_flow {a : Nat} (h : LN mF mM B n a sp π X td pl) : OutX B n sp a mF mM (fX2_readFlow SX7 mF 3 1 sp 20) (fX8_readFlow SX8 mM 0) := by
  have hnf := h.P.O.nf
  have hnl := h.P.O.nl
  have hp := h.hsp
  have hA := tzA_le (B := B) h.ha
  have hA1 := tzA_le (B := B) hA.2.1
  have hA2 := tzA_le (B := B) hA1.2.1
  have P := h.C.P
  by_cases cl : π.nf < 8
  · have e7 := e_rdFlow P hp hnf cl
    have e8 := e8_rdFlow h.Q hnf cl
    have ft : ∀ j, 3 ≤ j → s7F sp π.nf 1 j := fun j x => Or.inl ⟨rfl, x⟩
    have fm : ∀ j, 18 ≤ j → j ≤ 21 → s8F π.nf 0 j := fun j x y => Or.inl ⟨rfl, x, y⟩
    have lc : ∀ m, PW (s7F sp π.nf) mF m → LC sp mF m := fun m w o j z => w o j (by unfold lvC at z; unfold s7F; omega)
    have lm : ∀ m, PW (s8F π.nf) mM m → LM mM m := fun m w o j z => w o j (by unfold lvM at z; unfold s8F; omega)
    have l210 : ¬ lvM 2 10 := lvM_2 (by omega)
    rcases newN h (c := 10) (b := 8) (k := π.nf) s8_10 (by omega) (by omega) (by omega) h.Q.fname with ⟨F1, M2, q1, q2, q3, q4, q5, q6, q7, q8, q9, q10⟩ | ⟨F1, M1, q1, q2, q3, q4, q5, q6, q7⟩ | ⟨F1, M1, q1, q2, q3, q4⟩
    · have C1 := h.C.ft hp q3
      have el := e_flowOf (v := nI (tzW B n a)) C1.P h.P.O hp
      rw [q6] at el
      have w1 : PW (s7F sp π.nf) mF (u1 (u1 F1 (sp + 4) π.nf (nI (tzW B n a))) sp 10 (nI (π.nf + 1))) := ((PW.rfl.ft q3 ft).u (by unfold s7F; omega)).u (by unfold s7F; omega)
      have W2 : PW (s8F π.nf) mM M2 := fun o j z => q10 o j (fun y => z (by unfold s8F; omega)) (fun y => z (by unfold s8F; omega))
      have N1 : NS (u1 (u1 F1 (sp + 4) π.nf (nI (tzW B n a))) sp 10 (nI (π.nf + 1))) M2 B n (tzA B n a) := (q8.f (by omega) (by omega)).f (by omega) (by omega)
      rw [q1, bd2_e, if_pos n1ne, q5, el, bd1_e, if_pos ((nxI_m1 (k := 0) (by omega)).mpr rfl)] at e7
      rw [q7, bd1_e] at e8
      rcases num2 N1 h.hn h.hB hA.2.1 (lo := 1) (hi := 1024) s7_20 (by omega) (show 200 + π.nf < 297 by omega) (by omega) (by omega) with ⟨v1, G1, K1, a1, a2, a3, a4, a5, a6, a7⟩ | ⟨c, pl', G1, a1, a2, a3, a4, a5⟩
      · rw [a3, bd2_e, if_pos n1ne, u1_rs] at e7
        rw [a4, bd2_e, a5.f0, if_pos rfl] at e8
        have w2 : PW (s7F sp π.nf) mF (u1 (u1 (u1 G1 20 (200 + π.nf) (nI v1)) 20 (208 + π.nf) (nI v1)) 20 (264 + π.nf) (nI 1)) := (((w1.ft a6 ft).u (by unfold s7F; omega)).u (by unfold s7F; omega)).u (by unfold s7F; omega)
        have W3 : PW (s8F π.nf) mM (u1 (u1 (u1 K1 11 (8 + π.nf) (nI v1)) 12 (8 + π.nf) (nI 0)) 13 (8 + π.nf) (nI 0)) := (((W2.fm a7 fm).u (by unfold s8F; omega)).u (by unfold s8F; omega)).u (by unfold s8F; omega)
        have NN : NS (u1 (u1 (u1 G1 20 (200 + π.nf) (nI v1)) 20 (208 + π.nf) (nI v1)) 20 (264 + π.nf) (nI 1)) (u1 (u1 (u1 K1 11 (8 + π.nf) (nI v1)) 12 (8 + π.nf) (nI 0)) 13 (8 + π.nf) (nI 0)) B n (tzA B n (tzA B n a)) := ((a5.o (by omega) (by omega) (by omega) (by omega)).o (by omega) (by omega) (by omega) (by omega)).o (by omega) (by omega) (by omega) (by omega)
        have z0 : π.hops π.nf = 0 := h.P.h0 π.nf (by omega)
        have H7 : HC mF (u1 (u1 (u1 G1 20 (200 + π.nf) (nI v1)) 20 (208 + π.nf) (nI v1)) 20 (264 + π.nf) (nI 1)) sp π (nI (tzW B n a)) v1 0 (fun _ => 0) := by
          refine HC.mk w2 ?_ ?_ (fun z => absurd rfl z) (fun i hi => by omega) ?_ ?_ ?_ ?_ u1_rs
          · simp (disch := omega) only [u1_rs, u1_rn, a6.1]
          · simp (disch := omega) only [u1_rs, u1_rn, a6.1]
          · intro l hl
            simp (disch := omega) only [u1_rn, a6.1, q3.1]
            rw [h.C.pv l π.nf hl cl]
            unfold Pl.pv Pl.hp
            rw [z0]; rfl
          · intro l hl
            simp (disch := omega) only [u1_rn, a6.1, q3.1]
            rw [h.C.nx l π.nf hl cl]
            unfold Pl.nx Pl.hp
            rw [z0]; rfl
          · rw [u1_rn (Or.inl (by omega)), u1_rn (Or.inl (by omega)), u1_rs]
          · rw [u1_rn (Or.inl (by omega)), u1_rs]
        have H8 : HMf mM (u1 (u1 (u1 K1 11 (8 + π.nf) (nI v1)) 12 (8 + π.nf) (nI 0)) 13 (8 + π.nf) (nI 0)) π (nI (tzW B n a)) v1 0 (fun _ => 0) := by
          refine HMf.mk W3 ?_ ?_ ?_ u1_rs (fun i hi => by omega)
          · rw [u1_rn (Or.inr (by omega)), u1_rn (Or.inr (by omega)), u1_rn (Or.inr (by omega)), a7.1 10 (by omega)]; exact q9
          · rw [u1_rn (Or.inr (by omega)), u1_rn (Or.inr (by omega)), u1_rs]
          · rw [u1_rn (Or.inr (by omega)), u1_rs]
        have HH : HP π 0 (fun _ => 0) := HP.mk (by omega) (fun i hi => by omega) (fun i j hi => by omega)
        generalize hm7 : u1 (u1 (u1 G1 20 (200 + π.nf) (nI v1)) 20 (208 + π.nf) (nI v1)) 20 (264 + π.nf) (nI 1) = m7 at e7 NN H7
        generalize hm8 : u1 (u1 (u1 K1 11 (8 + π.nf) (nI v1)) 12 (8 + π.nf) (nI 0)) 13 (8 + π.nf) (nI 0) = m8 at e8 NN H8
        have ep : ∀ v F, lp (fun s13 : Int32 × Mm => bX2_readPath_3 SX7 3 1 sp (nI π.nf) s13.1 s13.2) fu (nI 0, m7) = some (.inl (v, F)) → fX2_readPath SX7 m7 3 1 sp (nI π.nf) = some (v, F) := by
          intro v F z
          unfold fX2_readPath
          simp only [L0, L1, L2, L3, L4, L5, L6, L7, L8, L9, L10, L11, L12, L13, L14, L15, L16, L17, L18, L19, L20, L21, L22, L23, L24, L25, L26, L27, L28, L29, L30, L31, L32, L33, L34, L35, L36, L37, L38, L39, L40, L41, L42, L43, L44, L45, L46, L47, L48, L50, L57, L59, L60, L63, L64, L65, L70, L80, L90, L97, L100, L110, L120, L122, L128, L150, L200, L208, L216, L224, L232, L240, L248, L255, L256, L264, L272, L280, L288, L296, L297, L300, L336, L337, L500, L680, L700, L998, L999, L1000, L1024, L1999, L6403, L9999, L10000, L12345, L99999, L1000000, L214424576, L412560384, L509804544, L639025541, L642945024, L658545824, L1103515245, L2147483647, g7_0, g7_1, g7_3, g7_4, g7_8, g7_13, g7_16, r7_0_0, r7_0_1, r7_0_2, r7_0_3, r7_0_4, r7_0_5, r7_0_6, r7_0_7, r7_1_0, r7_4_0, r7_4_1, r7_4_2, r7_8_0, r7_8_1, r7_8_2, r7_8_3, r7_13_0, r7_13_1, r7_16_0, r7_16_1, g7_p hp, z, bdR_l]
        have k210 : ∀ m, PW (s8F π.nf) mM m → m.1 2 10 = nI π.nf := fun m z => by rw [z 2 10 (by unfold s8F; omega)]; exact h.Q.nf
        have k16 : ∀ m, PW (s8F π.nf) mM m → m.1 0 16 = mM.1 0 16 := fun m z => z 0 16 (by unfold s8F; omega)
        obtain ⟨m1, b1, b2, b3, b4, b5⟩ := hop2 NN h.hn h.hB hA1.2.1 hp h.P.O cl P h.Q H7 H8 HH
        have s7 := e_path3 (sp := sp) (f := π.nf) (h := 0) (by omega) (tzK_le B n _) b1 b2
        rw [if_neg (fun z => z.1 rfl)] at s7
        rcases b5 with ⟨F', M', l, c1, c2, c3, c4, c5, c6, c7⟩ | ⟨c', c1, c2, c3, c4⟩
        · rw [c2] at s7
          rw [c3, bd1_e] at e8
          have g7 := lp_l (b := fun s13 : Int32 × Mm => bX2_readPath_3 SX7 3 1 sp (nI π.nf) s13.1 s13.2) (M := 9999) (s := (nI 0, m7)) s7
          rcases loop2 h.hn h.hB hp h.P.O cl P h.Q 4 (0 + 1) _ F' M' _ 9999 fu (by omega) (by omega) hA2.2.1 (by omega) (by unfold fu; omega) c4 c5 c6 c7 with ⟨x2, h', p', F, M, y1, y2, y3, y4, y5, y6, y7, y8, y9, y10, y11, y12⟩ | ⟨c, pl', F, M, y1, y2, y3, y4, y5, y6⟩
          · rw [ep _ _ (g7.trans y5), bd2_e, okZ_1, bd1_e] at e7
            rw [y6, bd1_e, e8_flow101 (k210 _ y8.W)] at e8
            refine ⟨_, e8, ?_, Or.inl ⟨_, _, _, x2, F, y1, by omega, h.Q.fl h.P.O cl y8, h.P.fl cl y9 y4 ⟨a1, a2⟩, y11.o (by omega) (by omega), y12.o (by omega), ?_, lc _ y7.W, Or.inl ⟨y3, e7, y10, h.C.fl hp h.P.O cl y7 y4⟩⟩⟩
            · exact (lm _ y8.W).u l210
            · rw [u1_rn (Or.inr (by omega))]; exact k16 _ y8.W
          · rw [ep _ _ (g7.trans y3), bd2_e, okZ_0, bd1_e] at e7
            rw [y5, bd1_e, e8_flow101 (f := π.nf) (by unfold fl8; rw [u1_rn (Or.inr (by omega)), u1_rn (Or.inr (by omega))]; exact k210 _ y6)] at e8
            exact OutX.bad y1 y2 e7 (lc _ y4) e8 ((lm _ y6).f.u l210) (f22 fl8_22 (by omega)) (f23 fl8_23 (by omega))
        · rw [c3] at s7
          have g7 := lp_r (b := fun s13 : Int32 × Mm => bX2_readPath_3 SX7 3 1 sp (nI π.nf) s13.1 s13.2) (M := 9999) (s := (nI 0, m7)) s7
          have g8 := lp_r (b := fun s11 : Mm => bX8_readFlow_78 SX8 0 (nI (8 + π.nf)) s11) (M := 9999) (s := fl8 m8 c' (tzP B n (tzA B n (tzA B n a)))) (e8_flow78F c1 c2 fl8_22)
          rw [ep _ _ g7, bd2_e, okZ_0, bd1_e] at e7
          rw [c4, bd1_e, show fu = 9999 + 1 from rfl, g8, bd1_e, e8_flow101 (f := π.nf) (by unfold fl8; rw [u1_rn (Or.inr (by omega)), u1_rn (Or.inr (by omega))]; exact k210 _ H8.W)] at e8
          exact OutX.bad c1 c2 e7 (lc _ b4.W) e8 ((lm _ H8.W).f.u l210) (f22 fl8_22 (by omega)) (f23 fl8_23 (by omega))
      · rw [a3, bd2_e, if_neg (fun z => z rfl)] at e7
        rw [a4, bd2_e, fl8_22, if_neg (fun z => by have := (nn_eq (a := c) (b := 0) (by omega) (by omega)).mp z; omega)] at e8
        exact OutX.bad a1 a2 e7 (lc _ (w1.ft a5 ft)) e8 (lm _ W2).f fl8_22 fl8_23
    · have C1 := h.C.ft hp q2
      have el := e_flowOf (v := nI (tzW B n a)) C1.P h.P.O hp
      have hle := fnd_le π.fname (nI (tzW B n a)) π.nf
      rw [q1, bd2_e, if_pos n1ne, q4, el, bd1_e, if_neg (fun z => q5 ((nxI_m1 (by omega)).mp z)), e_failed (c := 3) q3, bd2_e, okZ_0, bd1_e] at e7
      rw [q6, bd1_e, e8_numeral1 (c := 3) (by omega) (by omega) fl8_22, bd2_e, fl8_22, if_neg (by decide)] at e8
      exact OutX.bad (c := 3) (by omega) (by omega) e7 q2.l e8 q7.l.f fl8_22 fl8_23
    · rw [q1, bd2_e, if_neg (fun z => z rfl)] at e7
      rw [q3, bd1_e, e8_numeral1 (c := 1) (by omega) (by omega) fl8_22, bd2_e, fl8_22, if_neg (by decide)] at e8
      exact OutX.bad (c := 1) (by omega) (by omega) e7 q2.l e8 q4.l.f fl8_22 fl8_23
  · have e10 : π.nf = 8 := by omega
    refine OutX.bad (c := 2) (pl := pl) (mF' := mF) (mM' := fl8 mM 2 pl) (by omega) (by omega) ?_ LC.rfl ?_ LM.rfl.f fl8_22 fl8_23
    · unfold fX2_readFlow
      simp (disch := omega) only [L0, L1, L2, L3, L4, L5, L6, L7, L8, L9, L10, L11, L12, L13, L14, L15, L16, L17, L18, L19, L20, L21, L22, L23, L24, L25, L26, L27, L28, L29, L30, L31, L32, L33, L34, L35, L36, L37, L38, L39, L40, L41, L42, L43, L44, L45, L46, L47, L48, L50, L57, L59, L60, L63, L64, L65, L70, L80, L90, L97, L100, L110, L120, L122, L128, L150, L200, L208, L216, L224, L232, L240, L248, L255, L256, L264, L272, L280, L288, L296, L297, L300, L336, L337, L500, L680, L700, L998, L999, L1000, L1024, L1999, L6403, L9999, L10000, L12345, L99999, L1000000, L214424576, L412560384, L509804544, L639025541, L642945024, L658545824, L1103515245, L2147483647, g7_0, g7_1, g7_3, g7_4, g7_8, g7_13, g7_16, r7_0_0, r7_0_1, r7_0_2, r7_0_3, r7_0_4, r7_0_5, r7_0_6, r7_0_7, r7_1_0, r7_4_0, r7_4_1, r7_4_2, r7_8_0, r7_8_1, r7_8_2, r7_8_3, r7_13_0, r7_13_1, r7_16_0, r7_16_1, g7_p hp, r7_p_0 hp, r7_p_1 hp, r7_p_2 hp, r7_p_3 hp, r7_p_4 hp, r7_p_5 hp, r7_p_6 hp, r7_p_7 hp, r7_p_8 hp, P.nf, nn_lt, e_failed (c := 2) h.p7, bd2_e, okZ_0, bd1_e]
      rw [if_neg cl]
    · unfold fX8_readFlow jX8_readFlow_20 fX8_newName
      simp (disch := omega) only [L0, L1, L2, L3, L4, L5, L6, L7, L8, L9, L10, L11, L12, L13, L14, L15, L16, L17, L18, L19, L20, L21, L22, L23, L24, L25, L26, L27, L28, L29, L30, L31, L32, L33, L34, L35, L36, L37, L38, L39, L40, L41, L42, L43, L44, L45, L46, L47, L48, L50, L57, L59, L60, L63, L64, L65, L70, L80, L90, L97, L100, L110, L120, L122, L128, L150, L200, L208, L216, L224, L232, L240, L248, L255, L256, L264, L272, L280, L288, L296, L297, L300, L336, L337, L500, L680, L700, L998, L999, L1000, L1024, L1999, L6403, L9999, L10000, L12345, L99999, L1000000, L214424576, L412560384, L509804544, L639025541, L642945024, L658545824, L1103515245, L2147483647, g8_0, r8_1, r8_3, r8_4, r8_5, r8_6, r8_7, r8_8, r8_9, r8_10, r8_11, r8_12, r8_13, r8_14, r8_15, r8_26, r8_27, r8_28, r8_29, r8_30, r8_33, r8_34, r8_35, r8_36, r8_37, r8_39, r8_40, r8_41, r8_43, r8_44, r8_45, e8_reading, show 9 + 1 = 10 from rfl, h.Q.nf, bd1_e, nI_add, nn_eq, e8_wrong (c := 2) h.Q.f0 h.p8]
      rw [if_neg (by omega), e8_goOn1 (c := 2) (by omega) (by omega) fl8_22, bd1_e, fl8_22, if_neg (by decide), bd1_e, e8_numeral1 (c := 2) (by omega) (by omega) fl8_22, bd2_e, fl8_22, if_neg (by decide)]
end HU
