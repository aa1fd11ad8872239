/-! ===== the line 'flow': a link asked of both ===== -/
section HT
variable {mF mM m7 m8 : Mm} {B : Nat → Nat} {n a sp : Nat} {π : Pl} {X : Nat → Nat} {td pl : Nat} {w : Int32} {r h : Nat} {p : Nat → Nat}
theorem pvH_0 {l : Nat} : pvH p h l = 0 ↔ hpF p l h = 0 := by
  unfold pvH
  by_cases c : hpF p l h = 0
  · rw [if_pos c]; exact ⟨fun _ => c, fun _ => rfl⟩
  · rw [if_neg c]
    by_cases c2 : hpF p l h = 1
    · rw [if_pos c2]; omega
    · rw [if_neg c2]; omega
theorem pvH_lt {l : Nat} (hb : ∀ i, i < h → p i < 10) : pvH p h l < 100 := by
  have hle := hpF_le p l h
  unfold pvH
  by_cases c : hpF p l h = 0
  · rw [if_pos c]; omega
  · rw [if_neg c]
    by_cases c2 : hpF p l h = 1
    · rw [if_pos c2]; omega
    · rw [if_neg c2]
      have := hb (hpF p l h - 2) (by omega)
      omega
theorem e8_hop38 {k pl f8 : Nat} {v : Int32} (h22 : m8.1 0 22 = nI 0) (h19 : m8.1 0 19 = nI pl) (h21 : m8.1 0 21 = v) (hk : k < 100) (h29 : m8.1 2 9 = nI n) (hfo : fX8_foundIn SX8 m8 4 (nI 10) (nI n) v = some (nxI k)) : jX8_readHop_38 SX8 m8 0 (nI f8) = if k = 0 then some (fl8 m8 4 pl) else bd1 (fX8_isOnPath SX8 m8 0 (nI f8) (nI (k - 1))) fun a4 => if a4 = nI 0 then jX8_readHop_92 SX8 m8 0 (nI f8) (nI (k - 1)) else some (fl8 m8 3 pl) := by
  unfold jX8_readHop_38
  simp (disch := omega) only [L0, L1, L2, L3, L4, L5, L6, L7, L8, L9, L10, L11, L12, L13, L14, L15, L16, L17, L18, L19, L20, L21, L22, L23, L24, L25, L26, L27, L28, L29, L30, L31, L32, L33, L34, L35, L36, L37, L38, L39, L40, L41, L42, L43, L44, L45, L46, L47, L48, L50, L57, L59, L60, L63, L64, L65, L70, L80, L90, L97, L100, L110, L120, L122, L128, L150, L200, L208, L216, L224, L232, L240, L248, L255, L256, L264, L272, L280, L288, L296, L297, L300, L336, L337, L500, L680, L700, L998, L999, L1000, L1024, L1999, L6403, L9999, L10000, L12345, L99999, L1000000, L214424576, L412560384, L509804544, L639025541, L642945024, L658545824, L1103515245, L2147483647, g8_0, r8_1, r8_3, r8_4, r8_5, r8_6, r8_7, r8_8, r8_9, r8_10, r8_11, r8_12, r8_13, r8_14, r8_15, r8_26, r8_27, r8_28, r8_29, r8_30, r8_33, r8_34, r8_35, r8_36, r8_37, r8_39, r8_40, r8_41, r8_43, r8_44, r8_45, h22, e8_reading, Nat.add_zero, h29, bd1_e, h21, hfo, e8_wrong h22 h19, e8_hop92F (m := fl8 m8 4 pl) (c := 4) (by omega) (by omega) fl8_22, e8_hop92F (m := fl8 m8 3 pl) (c := 3) (by omega) (by omega) fl8_22]
  rw [if_pos trivial]
  by_cases c : k = 0
  · rw [if_pos c, if_neg (fun z => z ((nxI_m1 (by omega)).mpr c))]
  · rw [if_neg c, if_pos (fun z => c ((nxI_m1 (by omega)).mp z)), nxI_p c]
theorem e8_hop92 {f8 l : Nat} (h22 : m8.1 0 22 = nI 0) (h13 : m8.1 13 f8 = nI h) (hf : f8 < 16) (hh : h < 5) : jX8_readHop_92 SX8 m8 0 (nI f8) (nI l) = bd1 (fX8_token SX8 (u1 (u1 m8 14 (5 * f8 + h) (nI l)) 13 f8 (nI (h + 1))) 0) fun m9 => some m9 := by
  unfold jX8_readHop_92
  simp (disch := omega) only [L0, L1, L2, L3, L4, L5, L6, L7, L8, L9, L10, L11, L12, L13, L14, L15, L16, L17, L18, L19, L20, L21, L22, L23, L24, L25, L26, L27, L28, L29, L30, L31, L32, L33, L34, L35, L36, L37, L38, L39, L40, L41, L42, L43, L44, L45, L46, L47, L48, L50, L57, L59, L60, L63, L64, L65, L70, L80, L90, L97, L100, L110, L120, L122, L128, L150, L200, L208, L216, L224, L232, L240, L248, L255, L256, L264, L272, L280, L288, L296, L297, L300, L336, L337, L500, L680, L700, L998, L999, L1000, L1024, L1999, L6403, L9999, L10000, L12345, L99999, L1000000, L214424576, L412560384, L509804544, L639025541, L642945024, L658545824, L1103515245, L2147483647, g8_0, r8_1, r8_3, r8_4, r8_5, r8_6, r8_7, r8_8, r8_9, r8_10, r8_11, r8_12, r8_13, r8_14, r8_15, r8_26, r8_27, r8_28, r8_29, r8_30, r8_33, r8_34, r8_35, r8_36, r8_37, r8_39, r8_40, r8_41, r8_43, r8_44, r8_45, h22, ldA_n s8_13, h13, bd1_e, pk_mul, nI_add, stA_n s8_14, stA_n s8_13, narA_0, u1_rn]
  rw [if_pos trivial]
theorem hop2 (N : NS m7 m8 B n a) (hn : n ≤ 700) (hB : ∀ j, j < n → B j < 256) (ha : a ≤ n) (hp : sp = 21 ∨ sp = 31) (O : π.ok) (hf : π.nf < 8) (P : PF mF sp π) (Q : QM mM π X td) (H7 : HC mF m7 sp π w r h p) (H8 : HMf mM m8 π w r h p) (HH : HP π h p) :
    ∃ m1, fX4_next SX7 m7 1 = some m1 ∧ m1.1 1 4 = nI (tzK B n a) ∧ TC m1 B n (tzA B n a) ∧ HC mF m1 sp π w r h p ∧
      ((∃ F' M' l, h < 5 ∧ jX2_readPath_28 SX7 m1 3 1 sp (nI π.nf) (nI h) = some (.inl (nI (h + 1), F')) ∧ fX8_readHop SX8 m8 0 (nI (8 + π.nf)) = some M' ∧ NS F' M' B n (tzA B n a) ∧ HC mF F' sp π w r (h + 1) (upN p h l) ∧ HMf mM M' π w r (h + 1) (upN p h l) ∧ HP π (h + 1) (upN p h l)) ∨
       (∃ c, 0 < c ∧ c < 9 ∧ jX2_readPath_28 SX7 m1 3 1 sp (nI π.nf) (nI h) = some (.inr (.inl (nI 0, fl7 m1 c (tzP B n a)))) ∧ fX8_readHop SX8 m8 0 (nI (8 + π.nf)) = some (fl8 m8 c (tzP B n a)))) := by
  have hnl := O.nl
  have hle5 := HH.le
  have hA := tzA_le (B := B) ha
  obtain ⟨m1, a1, a2, a3, a4, a5, a6, a7⟩ := e_next N.F hn hB ha
  have H1 := H7.ft hp a3
  have hK := tzK_le B n a
  obtain ⟨s1, s2, s3, s4, s5, s6⟩ := srt_eq (tzK B n a) (by omega)
  refine ⟨m1, a1, a5, a2, H1, ?_⟩
  by_cases c : tzK B n a = 1
  · have h6 := a6 (Or.inl c)
    have h21 := N.V.w c
    have h20 : m8.1 0 20 = nI 1 := by rw [N.V.s, s2.mpr c]
    by_cases c5 : h = 5
    · refine Or.inr ⟨2, by omega, by omega, ?_, ?_⟩
      · unfold jX2_readPath_28
        simp (disch := omega) only [L0, L1, L2, L3, L4, L5, L6, L7, L8, L9, L10, L11, L12, L13, L14, L15, L16, L17, L18, L19, L20, L21, L22, L23, L24, L25, L26, L27, L28, L29, L30, L31, L32, L33, L34, L35, L36, L37, L38, L39, L40, L41, L42, L43, L44, L45, L46, L47, L48, L50, L57, L59, L60, L63, L64, L65, L70, L80, L90, L97, L100, L110, L120, L122, L128, L150, L200, L208, L216, L224, L232, L240, L248, L255, L256, L264, L272, L280, L288, L296, L297, L300, L336, L337, L500, L680, L700, L998, L999, L1000, L1024, L1999, L6403, L9999, L10000, L12345, L99999, L1000000, L214424576, L412560384, L509804544, L639025541, L642945024, L658545824, L1103515245, L2147483647, g7_p hp, r7_p_0 hp, r7_p_1 hp, r7_p_2 hp, r7_p_3 hp, r7_p_4 hp, r7_p_5 hp, r7_p_6 hp, r7_p_7 hp, r7_p_8 hp, a5, c, e_failed (c := 2) a4, bd2_e, okZ_0, bd1_e, nn_eq]
        rw [if_pos trivial, if_neg (fun z => z c5)]
      · unfold fX8_readHop
        simp (disch := omega) only [L0, L1, L2, L3, L4, L5, L6, L7, L8, L9, L10, L11, L12, L13, L14, L15, L16, L17, L18, L19, L20, L21, L22, L23, L24, L25, L26, L27, L28, L29, L30, L31, L32, L33, L34, L35, L36, L37, L38, L39, L40, L41, L42, L43, L44, L45, L46, L47, L48, L50, L57, L59, L60, L63, L64, L65, L70, L80, L90, L97, L100, L110, L120, L122, L128, L150, L200, L208, L216, L224, L232, L240, L248, L255, L256, L264, L272, L280, L288, L296, L297, L300, L336, L337, L500, L680, L700, L998, L999, L1000, L1024, L1999, L6403, L9999, L10000, L12345, L99999, L1000000, L214424576, L412560384, L509804544, L639025541, L642945024, L658545824, L1103515245, L2147483647, g8_0, r8_1, r8_3, r8_4, r8_5, r8_6, r8_7, r8_8, r8_9, r8_10, r8_11, r8_12, r8_13, r8_14, r8_15, r8_26, r8_27, r8_28, r8_29, r8_30, r8_33, r8_34, r8_35, r8_36, r8_37, r8_39, r8_40, r8_41, r8_43, r8_44, r8_45, h20, ldA_n s8_13, H8.hop, bd1_e, nn_eq, e8_wrong N.f0 N.V.p, e8_hop38F (m := fl8 m8 2 (tzP B n a)) (c := 2) (by omega) (by omega) fl8_22]
        rw [if_neg (by omega), if_pos trivial, if_neg (fun z => z c5)]
    · have el := e_linkOf2 (m := m1) (v := nI (tzW B n a)) (g := π.lname) hp hnl (by rw [H1.W sp 9 (by unfold s7F; omega)]; exact P.nl) (fun l hl => by rw [H1.W (sp + 1) l (by unfold s7F; omega)]; exact P.lname l hl)
      have e29 : m8.1 2 9 = nI π.nl := by rw [H8.W 2 9 (by unfold s8F; omega)]; exact Q.nl
      have ef := e8_foundIn (m := m8) (v := nI (tzW B n a)) (g := π.lname) (b := 10) (n := π.nl) s8_4 (by omega) (by omega) (fun l hl => by rw [H8.W 4 (10 + l) (by unfold s8F; omega)]; exact Q.lname l hl)
      have hle := fnd_le π.lname (nI (tzW B n a)) π.nl
      generalize hk : fnd π.lname (nI (tzW B n a)) π.nl = k at el ef hle
      have e38 := e8_hop38 (f8 := 8 + π.nf) N.f0 N.V.p h21 (show k < 100 by omega) e29 ef
      have e8 : fX8_readHop SX8 m8 0 (nI (8 + π.nf)) = jX8_readHop_38 SX8 m8 0 (nI (8 + π.nf)) := by
        unfold fX8_readHop
        simp (disch := omega) only [L0, L1, L2, L3, L4, L5, L6, L7, L8, L9, L10, L11, L12, L13, L14, L15, L16, L17, L18, L19, L20, L21, L22, L23, L24, L25, L26, L27, L28, L29, L30, L31, L32, L33, L34, L35, L36, L37, L38, L39, L40, L41, L42, L43, L44, L45, L46, L47, L48, L50, L57, L59, L60, L63, L64, L65, L70, L80, L90, L97, L100, L110, L120, L122, L128, L150, L200, L208, L216, L224, L232, L240, L248, L255, L256, L264, L272, L280, L288, L296, L297, L300, L336, L337, L500, L680, L700, L998, L999, L1000, L1024, L1999, L6403, L9999, L10000, L12345, L99999, L1000000, L214424576, L412560384, L509804544, L639025541, L642945024, L658545824, L1103515245, L2147483647, g8_0, r8_1, r8_3, r8_4, r8_5, r8_6, r8_7, r8_8, r8_9, r8_10, r8_11, r8_12, r8_13, r8_14, r8_15, r8_26, r8_27, r8_28, r8_29, r8_30, r8_33, r8_34, r8_35, r8_36, r8_37, r8_39, r8_40, r8_41, r8_43, r8_44, r8_45, h20, ldA_n s8_13, H8.hop, bd1_e, nn_eq]
        rw [if_neg (by omega), if_pos trivial, if_pos c5]
      have e7 : jX2_readPath_28 SX7 m1 3 1 sp (nI π.nf) (nI h) = if k = 0 then some (.inr (.inl (nI 0, fl7 m1 4 (tzP B n a)))) else (bd1 (ldA SX7 0 m1 (sp + 7) ((nI (k - 1) * nI 8) + nI π.nf)) fun a3 => if a3 = -nI 2 then (bd1 (fX1_goOn SX7 m1 sp (nI π.nf) (nI h) (nI (k - 1))) fun m4 => some (.inl (nI h + nI 1, m4))) else some (.inr (.inl (nI 0, fl7 m1 3 (tzP B n a))))) := by
        unfold jX2_readPath_28
        simp (disch := omega) only [L0, L1, L2, L3, L4, L5, L6, L7, L8, L9, L10, L11, L12, L13, L14, L15, L16, L17, L18, L19, L20, L21, L22, L23, L24, L25, L26, L27, L28, L29, L30, L31, L32, L33, L34, L35, L36, L37, L38, L39, L40, L41, L42, L43, L44, L45, L46, L47, L48, L50, L57, L59, L60, L63, L64, L65, L70, L80, L90, L97, L100, L110, L120, L122, L128, L150, L200, L208, L216, L224, L232, L240, L248, L255, L256, L264, L272, L280, L288, L296, L297, L300, L336, L337, L500, L680, L700, L998, L999, L1000, L1024, L1999, L6403, L9999, L10000, L12345, L99999, L1000000, L214424576, L412560384, L509804544, L639025541, L642945024, L658545824, L1103515245, L2147483647, g7_p hp, r7_p_0 hp, r7_p_1 hp, r7_p_2 hp, r7_p_3 hp, r7_p_4 hp, r7_p_5 hp, r7_p_6 hp, r7_p_7 hp, r7_p_8 hp, a5, c, e_failed a4, bd2_e, okZ_0, bd1_e, nn_eq, h6, el]
        rw [if_pos trivial, if_pos c5]
        by_cases z : k = 0
        · rw [if_pos z, if_neg (fun y => y ((nxI_m1 (by omega)).mpr z))]
        · rw [if_neg z, if_pos (fun y => z ((nxI_m1 (by omega)).mp y)), nxI_p z]
      rw [e8, e38, e7]
      by_cases z : k = 0
      · exact Or.inr ⟨4, by omega, by omega, by rw [if_pos z], by rw [if_pos z]⟩
      · have hb10 : ∀ i, i < h → p i < 10 := fun i hi => by have := HH.b i hi; omega
        have ep := H1.pv (k - 1) (by omega)
        have eo := e8_isOnPath (m := m8) (f := 8 + π.nf) (h := h) (l := k - 1) (p := p) (by omega) (by omega) (by omega) H8.hop H8.pth (fun i hi => by have := hb10 i hi; omega)
        have ep2 := pvI_2 (pvH_lt (h := h) (l := k - 1) hb10)
        rw [if_neg z, if_neg z, pk_mul, nI_add, ldA_n (s7_p7 hp) (by omega) (by omega), ep, bd1_e, eo, bd1_e]
        by_cases y : hpF p (k - 1) h = 0
        · obtain ⟨m', g1, g2, g3⟩ := H1.go HH hp hnl hf (by omega) (show k - 1 < π.nl by omega) y
          rw [if_pos (ep2.mpr (pvH_0.mpr y)), g1, bd1_e, if_pos y, if_pos rfl, e8_hop92 N.f0 H8.hop (by omega) (by omega), nI_add]
          obtain ⟨M2, t1, t2, t3, t4⟩ := e8_token (m := u1 (u1 m8 14 (5 * (8 + π.nf) + h) (nI (k - 1))) 13 (8 + π.nf) (nI (h + 1))) ((N.M.o (by omega) (by omega)).o (by omega) (by omega)) hn hB hA.2.1
          refine Or.inl ⟨m', M2, k - 1, by omega, rfl, by rw [t1, bd1_e], NS.mk (TC.mk ?_ ?_ ?_) t2 t4 ?_, g2, HMf.fm ?_ t3, HH.go (by omega) (by omega) y⟩
          · rw [g3 1 (Or.inl rfl)]; exact a2.e
          · rw [g3 1 (Or.inl rfl)]; exact a2.a
          · rw [g3 2 (Or.inr rfl)]; exact a2.b
          · rw [t3.2 22 (by omega), u1_rn (Or.inr (by omega)), u1_rn (Or.inr (by omega))]; exact N.f0
          · refine HMf.mk ((H8.W.u (by unfold s8F; omega)).u (by unfold s8F; omega)) ?_ ?_ ?_ u1_rs ?_
            · rw [u1_rn (Or.inr (by omega)), u1_rn (Or.inr (by omega))]; exact H8.nm
            · rw [u1_rn (Or.inr (by omega)), u1_rn (Or.inr (by omega))]; exact H8.rt
            · rw [u1_rn (Or.inr (by omega)), u1_rn (Or.inr (by omega))]; exact H8.of
            · intro i hi
              rw [u1_rn (Or.inr (by omega))]
              by_cases e : i = h
              · rw [e, u1_rs, upN_s]
              · rw [u1_rn (Or.inl (by omega)), upN_n e]; exact H8.pth i (by omega)
        · refine Or.inr ⟨3, by omega, by omega, ?_, ?_⟩
          · rw [if_neg (fun q => y (pvH_0.mp (ep2.mp q)))]
          · rw [if_neg y, if_neg n1ne]
  · refine Or.inr ⟨1, by omega, by omega, ?_, ?_⟩
    · unfold jX2_readPath_28
      simp (disch := omega) only [L0, L1, L2, L3, L4, L5, L6, L7, L8, L9, L10, L11, L12, L13, L14, L15, L16, L17, L18, L19, L20, L21, L22, L23, L24, L25, L26, L27, L28, L29, L30, L31, L32, L33, L34, L35, L36, L37, L38, L39, L40, L41, L42, L43, L44, L45, L46, L47, L48, L50, L57, L59, L60, L63, L64, L65, L70, L80, L90, L97, L100, L110, L120, L122, L128, L150, L200, L208, L216, L224, L232, L240, L248, L255, L256, L264, L272, L280, L288, L296, L297, L300, L336, L337, L500, L680, L700, L998, L999, L1000, L1024, L1999, L6403, L9999, L10000, L12345, L99999, L1000000, L214424576, L412560384, L509804544, L639025541, L642945024, L658545824, L1103515245, L2147483647, g7_p hp, r7_p_0 hp, r7_p_1 hp, r7_p_2 hp, r7_p_3 hp, r7_p_4 hp, r7_p_5 hp, r7_p_6 hp, r7_p_7 hp, r7_p_8 hp, a5, e_failed (c := 1) a4, bd2_e, okZ_0, bd1_e, nn_eq]
      rw [if_neg c]
    · unfold fX8_readHop
      simp (disch := omega) only [L0, L1, L2, L3, L4, L5, L6, L7, L8, L9, L10, L11, L12, L13, L14, L15, L16, L17, L18, L19, L20, L21, L22, L23, L24, L25, L26, L27, L28, L29, L30, L31, L32, L33, L34, L35, L36, L37, L38, L39, L40, L41, L42, L43, L44, L45, L46, L47, L48, L50, L57, L59, L60, L63, L64, L65, L70, L80, L90, L97, L100, L110, L120, L122, L128, L150, L200, L208, L216, L224, L232, L240, L248, L255, L256, L264, L272, L280, L288, L296, L297, L300, L336, L337, L500, L680, L700, L998, L999, L1000, L1024, L1999, L6403, L9999, L10000, L12345, L99999, L1000000, L214424576, L412560384, L509804544, L639025541, L642945024, L658545824, L1103515245, L2147483647, g8_0, r8_1, r8_3, r8_4, r8_5, r8_6, r8_7, r8_8, r8_9, r8_10, r8_11, r8_12, r8_13, r8_14, r8_15, r8_26, r8_27, r8_28, r8_29, r8_30, r8_33, r8_34, r8_35, r8_36, r8_37, r8_39, r8_40, r8_41, r8_43, r8_44, r8_45, N.V.s, nn_eq, e8_hop15 N.f0 N.V.p]
      by_cases z : srt (tzK B n a) = 0
      · rw [if_pos z]
      · rw [if_neg z, if_neg (fun y => c (s2.mp y))]
end HT
