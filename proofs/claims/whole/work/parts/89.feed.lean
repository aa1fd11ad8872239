/-! ===== feeding ===== -/
theorem and255 (x : Int32) : ∃ n, n < 256 ∧ x &&& nI 255 = nI n := by
  refine ⟨(x &&& nI 255).toBitVec.toNat, ?_, ?_⟩
  · have : (x &&& nI 255).toBitVec.toNat = x.toBitVec.toNat &&& 255 := by
      rw [Int32.toBitVec_and, BitVec.toNat_and]; rfl
    rw [this]
    exact Nat.lt_of_le_of_lt Nat.and_le_right (by decide)
  · apply Int32.toBitVec_inj.mp
    simp [nI]
noncomputable def byN (v : Int32) (s : Int32) : Nat := Classical.choose (and255 (v >>> s))
theorem byN_lt (v s : Int32) : byN v s < 256 := (Classical.choose_spec (and255 (v >>> s))).1
theorem byN_e (v s : Int32) : (v >>> s) &&& nI 255 = nI (byN v s) := (Classical.choose_spec (and255 (v >>> s))).2
theorem fa_byte_low (x : Int32) : (x &&& 255).toInt8 = x.toInt8 := by
  apply Int8.toBitVec_inj.1
  apply BitVec.eq_of_getLsbD_eq
  intro i hi
  have h2 : (255 : Int32).toBitVec.getLsbD i = true := by
    have : ∀ j : Fin 8, (255 : Int32).toBitVec.getLsbD j.val = true := by decide +kernel
    exact this ⟨i, hi⟩
  have h4 : (x &&& 255).toBitVec.getLsbD i = x.toBitVec.getLsbD i := by
    show (x.toBitVec &&& (255 : Int32).toBitVec).getLsbD i = _
    rw [BitVec.getLsbD_and, h2, Bool.and_true]
  have h3 : i < 32 := by omega
  first
    | (show (((x &&& 255).toBitVec).signExtend 8).getLsbD i = (x.toBitVec.signExtend 8).getLsbD i; rw [BitVec.getLsbD_signExtend, BitVec.getLsbD_signExtend, if_pos h3, if_pos h3, h4])
    | (show (((x &&& 255).toBitVec).setWidth 8).getLsbD i = (x.toBitVec.setWidth 8).getLsbD i; rw [BitVec.getLsbD_setWidth, BitVec.getLsbD_setWidth, h4])
    | (simp [hi, h3, h4]; done)
theorem byN_8 (v s : Int32) : (v >>> s).toInt8.toInt32 = b8 (byN v s) := by
  unfold b8
  rw [← byN_e]
  exact congrArg Int8.toInt32 (fa_byte_low (v >>> s)).symm
theorem stA_b {S : List Sh} {n : Nat} {mm : Mm} {o k : Nat} {v : Int32} (h : S[o]? = some (.inl (1, n))) (hk : k < n) (hn : n < 2147483648) : stA S 1 mm o (nI k) v.toInt8.toInt32 = some (u1 mm o k v.toInt8.toInt32) := by
  rw [stA_n h hk hn]
  show some (u1 mm o k (vp_nar .byte v.toInt8.toInt32)) = _
  rw [pk_vb]
/-- the bytes of a number, the highest first -/
noncomputable def b4 (v : Int32) (k : Nat) : Nat := byN v (nI (24 - 8 * k) &&& nI 31)
noncomputable def apB (B : Nat → Nat) (t : Nat) (v : Int32) : Nat → Nat := fun j => if t ≤ j ∧ j < t + 4 then b4 v (j - t) else B j
def TP (m0 m : Mm) (t : Nat) (B : Nat → Nat) : Prop := (m.2 = m0.2) ∧ (∀ o, o ≠ 1 → o ≠ 2 → m.1 o = m0.1 o) ∧ (∀ j, j ≠ 1 → m.1 1 j = m0.1 1 j) ∧ (m.1 1 1 = nI t) ∧ (∀ j, j < t → m.1 2 j = b8 (B j))
theorem TP.mk {m0 m : Mm} {t : Nat} {B : Nat → Nat} (h_l : m.2 = m0.2) (h_o : ∀ o, o ≠ 1 → o ≠ 2 → m.1 o = m0.1 o) (h_j : ∀ j, j ≠ 1 → m.1 1 j = m0.1 1 j) (h_len : m.1 1 1 = nI t) (h_by : ∀ j, j < t → m.1 2 j = b8 (B j)) : TP m0 m t B := ⟨h_l, h_o, h_j, h_len, h_by⟩
theorem TP.l {m0 m : Mm} {t : Nat} {B : Nat → Nat} (h : TP m0 m t B) : m.2 = m0.2 := h.1
theorem TP.o {m0 m : Mm} {t : Nat} {B : Nat → Nat} (h : TP m0 m t B) : ∀ o, o ≠ 1 → o ≠ 2 → m.1 o = m0.1 o := h.2.1
theorem TP.j {m0 m : Mm} {t : Nat} {B : Nat → Nat} (h : TP m0 m t B) : ∀ j, j ≠ 1 → m.1 1 j = m0.1 1 j := h.2.2.1
theorem TP.len {m0 m : Mm} {t : Nat} {B : Nat → Nat} (h : TP m0 m t B) : m.1 1 1 = nI t := h.2.2.2.1
theorem TP.by {m0 m : Mm} {t : Nat} {B : Nat → Nat} (h : TP m0 m t B) : ∀ j, j < t → m.1 2 j = b8 (B j) := h.2.2.2.2
theorem nI_m8 {a : Nat} (h : 8 ≤ a) : nI a + -nI 8 = nI (a - 8) := by rw [← Int32.sub_eq_add_neg, pk_sub h]
theorem L_m8 : (-8 : Int32) = -nI 8 := rfl
theorem nI0_m8 : (nI 0 + -nI 8 : Int32) < nI 0 := by decide
theorem e_append {m0 m : Mm} {t : Nat} {B : Nat → Nat} (v : Int32) (h : TP m0 m t B) (ht : t + 4 ≤ 700) : ∃ m', fX4_append SX7 m 1 v = some m' ∧ TP m0 m' (t + 4) (apB B t v) := by
  unfold fX4_append jX4_append_48
  simp only [L0, L1, L2, L3, L4, L5, L6, L7, L8, L9, L10, L11, L12, L13, L14, L15, L16, L17, L18, L19, L20, L21, L22, L23, L24, L25, L26, L27, L28, L29, L30, L31, L32, L33, L34, L35, L36, L37, L38, L39, L40, L41, L42, L43, L44, L45, L46, L47, L48, L50, L57, L59, L60, L63, L64, L65, L70, L80, L90, L97, L100, L110, L120, L122, L128, L150, L200, L208, L216, L224, L232, L240, L248, L255, L256, L264, L272, L280, L288, L296, L297, L300, L336, L337, L500, L680, L700, L998, L999, L1000, L1024, L1999, L6403, L9999, L10000, L12345, L99999, L1000000, L214424576, L412560384, L509804544, L639025541, L642945024, L658545824, L1103515245, L2147483647, g7_0, g7_1, g7_3, g7_4, g7_8, g7_13, g7_16, r7_0_0, r7_0_1, r7_0_2, r7_0_3, r7_0_4, r7_0_5, r7_0_6, r7_0_7, r7_1_0, r7_4_0, r7_4_1, r7_4_2, r7_8_0, r7_8_1, r7_8_2, r7_8_3, r7_13_0, r7_13_1, r7_16_0, r7_16_1]
  have hal : alA SX7 2 = some (nI 700) := rfl
  obtain ⟨y, g1, g2⟩ := lp_n (b := fun s4 : Int32 × Mm => bX4_append_3 SX7 1 v s4.1 s4.2) (N := fu) (s0 := (nI 24, m))
    (fun k s => (s.1 = if k < 4 then nI (24 - 8 * k) else nI 0 + -nI 8) ∧ TP m0 s.2 (t + k) (apB B t v))
    (fun y => TP m0 y (t + 4) (apB B t v))
    4 ⟨rfl, TP.mk h.l h.o h.j h.len (fun j hj => by unfold apB; rw [if_neg (by omega)]; exact h.by j hj)⟩ (by unfold fu; omega)
    (by
      rintro k ⟨c, m1⟩ hk ⟨e1, T1⟩
      dsimp only at e1 T1 ⊢
      rw [if_pos hk] at e1
      subst e1
      refine Or.inl ?_
      unfold bX4_append_3
      simp only [L0, L1, L2, L3, L4, L5, L6, L7, L8, L9, L10, L11, L12, L13, L14, L15, L16, L17, L18, L19, L20, L21, L22, L23, L24, L25, L26, L27, L28, L29, L30, L31, L32, L33, L34, L35, L36, L37, L38, L39, L40, L41, L42, L43, L44, L45, L46, L47, L48, L50, L57, L59, L60, L63, L64, L65, L70, L80, L90, L97, L100, L110, L120, L122, L128, L150, L200, L208, L216, L224, L232, L240, L248, L255, L256, L264, L272, L280, L288, L296, L297, L300, L336, L337, L500, L680, L700, L998, L999, L1000, L1024, L1999, L6403, L9999, L10000, L12345, L99999, L1000000, L214424576, L412560384, L509804544, L639025541, L642945024, L658545824, L1103515245, L2147483647, g7_0, g7_1, g7_3, g7_4, g7_8, g7_13, g7_16, r7_0_0, r7_0_1, r7_0_2, r7_0_3, r7_0_4, r7_0_5, r7_0_6, r7_0_7, r7_1_0, r7_4_0, r7_4_1, r7_4_2, r7_8_0, r7_8_1, r7_8_2, r7_8_3, r7_13_0, r7_13_1, r7_16_0, r7_16_1]
      rw [if_neg (by rw [nn_lt (by omega) (by omega)]; omega), hal, bd1_e, T1.len, if_neg (by rw [nn_le (by omega) (by omega)]; omega), stA_b s7_2 (by omega) (by omega), bd1_e]
      simp only [bd1_e]
      have el : (u1 m1 2 (t + k) ((v >>> (nI (24 - 8 * k) &&& nI 31)).toInt8.toInt32)).1 1 1 = nI (t + k) := by rw [u1_rn (Or.inr (by omega))]; exact T1.len
      rw [el, nI_add]
      refine ⟨_, rfl, ?_, ?_⟩
      · dsimp only
        by_cases c : k + 1 < 4
        · rw [if_pos c, nI_m8 (by omega)]
          congr 1
        · rw [if_neg c, show k = 3 by omega]
      · refine TP.mk T1.l ?_ ?_ (by rw [u1_rs]; rfl) ?_
        · intro o h1 h2; rw [u1_other h1, u1_other h2]; exact T1.o o h1 h2
        · intro j hj; rw [u1_rn (Or.inl hj), u1_rn (Or.inr (by omega))]; exact T1.j j hj
        · intro j hj
          rw [u1_rn (Or.inr (by omega))]
          by_cases e : j = t + k
          · subst e
            rw [u1_rs, byN_8]
            unfold apB b4
            rw [if_pos (by omega), show t + k - t = k by omega]
          · rw [u1_rn (Or.inl e)]; exact T1.by j (by omega))
    (by
      rintro ⟨c, m1⟩ ⟨e1, T1⟩
      dsimp only at e1 T1 ⊢
      rw [if_neg (by omega)] at e1
      subst e1
      unfold bX4_append_3
      simp only [L0, L1, L2, L3, L4, L5, L6, L7, L8, L9, L10, L11, L12, L13, L14, L15, L16, L17, L18, L19, L20, L21, L22, L23, L24, L25, L26, L27, L28, L29, L30, L31, L32, L33, L34, L35, L36, L37, L38, L39, L40, L41, L42, L43, L44, L45, L46, L47, L48, L50, L57, L59, L60, L63, L64, L65, L70, L80, L90, L97, L100, L110, L120, L122, L128, L150, L200, L208, L216, L224, L232, L240, L248, L255, L256, L264, L272, L280, L288, L296, L297, L300, L336, L337, L500, L680, L700, L998, L999, L1000, L1024, L1999, L6403, L9999, L10000, L12345, L99999, L1000000, L214424576, L412560384, L509804544, L639025541, L642945024, L658545824, L1103515245, L2147483647]
      rw [if_pos nI0_m8]
      exact ⟨_, rfl, T1⟩)
  rw [g1, bd1_e]
  exact ⟨_, rfl, g2⟩
noncomputable def apA (B : Nat → Nat) (t : Nat) (a b c d e : Int32) : Nat → Nat := apB (apB (apB (apB (apB B t a) (t + 4) b) (t + 8) c) (t + 12) d) (t + 16) e
theorem apB_v {B : Nat → Nat} {t j : Nat} {v : Int32} : apB B t v j = if t ≤ j ∧ j < t + 4 then b4 v (j - t) else B j := rfl
theorem fd73 {m : Mm} {a b c d e v : Int32} {t k : Nat} (hm : m.1 0 2 = nI t) (ht : t + 20 ≤ 700) (hk : k < 20) : jX8_feed_73 SX8 m 0 a b c d e (nI k) v = some (.inl (nI (k + 1), u1 m 1 (t + k) (nI (b4 v (k % 4))))) := by
  have h4 : k % 4 < 4 := Nat.mod_lt _ (by decide)
  unfold jX8_feed_73
  simp (disch := omega) only [L0, L1, L2, L3, L4, L5, L6, L7, L8, L9, L10, L11, L12, L13, L14, L15, L16, L17, L18, L19, L20, L21, L22, L23, L24, L25, L26, L27, L28, L29, L30, L31, L32, L33, L34, L35, L36, L37, L38, L39, L40, L41, L42, L43, L44, L45, L46, L47, L48, L50, L57, L59, L60, L63, L64, L65, L70, L80, L90, L97, L100, L110, L120, L122, L128, L150, L200, L208, L216, L224, L232, L240, L248, L255, L256, L264, L272, L280, L288, L296, L297, L300, L336, L337, L500, L680, L700, L998, L999, L1000, L1024, L1999, L6403, L9999, L10000, L12345, L99999, L1000000, L214424576, L412560384, L509804544, L639025541, L642945024, L658545824, L1103515245, L2147483647, g8_0, r8_1, r8_3, r8_4, r8_5, r8_6, r8_7, r8_8, r8_9, r8_10, r8_11, r8_12, r8_13, r8_14, r8_15, r8_26, r8_27, r8_28, r8_29, r8_30, r8_33, r8_34, r8_35, r8_36, r8_37, r8_39, r8_40, r8_41, r8_43, r8_44, r8_45, rmI_n, bd1_e, hm, nI_add, pk_mul, pk_sub, stA_n s8_1, narA_0, byN_e]
  rfl
theorem sim_feed {mF mM : Mm} (S : Sim mF mM) (a b c d e : Int32) : SimC (fX7_feed SX7 mF 0 a b c d e) (fX8_feed SX8 mM 0 a b c d e) := by
  obtain ⟨π, X, U, I, p, top, tl, B, fc, fp, hF, hM0, hK⟩ := S
  have hM := hM0.thr (v := nI 0)
  have hp := hF.hp
  have htl := hK.tl
  have S' : Sim mF (u1 mM 0 0 (nI 0)) := ⟨π, X, U, I, p, top, tl, B, fc, fp, hF, hM, hK⟩
  unfold SimC fX7_feed fX8_feed
  simp (disch := omega) only [L0, L1, L2, L3, L4, L5, L6, L7, L8, L9, L10, L11, L12, L13, L14, L15, L16, L17, L18, L19, L20, L21, L22, L23, L24, L25, L26, L27, L28, L29, L30, L31, L32, L33, L34, L35, L36, L37, L38, L39, L40, L41, L42, L43, L44, L45, L46, L47, L48, L50, L57, L59, L60, L63, L64, L65, L70, L80, L90, L97, L100, L110, L120, L122, L128, L150, L200, L208, L216, L224, L232, L240, L248, L255, L256, L264, L272, L280, L288, L296, L297, L300, L336, L337, L500, L680, L700, L998, L999, L1000, L1024, L1999, L6403, L9999, L10000, L12345, L99999, L1000000, L214424576, L412560384, L509804544, L639025541, L642945024, L658545824, L1103515245, L2147483647, g8_0, r8_1, r8_3, r8_4, r8_5, r8_6, r8_7, r8_8, r8_9, r8_10, r8_11, r8_12, r8_13, r8_14, r8_15, r8_26, r8_27, r8_28, r8_29, r8_30, r8_33, r8_34, r8_35, r8_36, r8_37, r8_39, r8_40, r8_41, r8_43, r8_44, r8_45, g7_0, g7_1, g7_3, g7_4, g7_8, g7_13, g7_16, r7_0_0, r7_0_1, r7_0_2, r7_0_3, r7_0_4, r7_0_5, r7_0_6, r7_0_7, r7_1_0, r7_4_0, r7_4_1, r7_4_2, r7_8_0, r7_8_1, r7_8_2, r7_8_3, r7_13_0, r7_13_1, r7_16_0, r7_16_1, bd1_e, hF.len, hM.len, nI_add, nn_le]
  by_cases h : tl ≤ 680
  · rw [if_pos (by omega), if_pos h]
    have T0 : TP mF mF tl B := TP.mk rfl (fun _ _ _ => rfl) (fun _ _ => rfl) hF.len hF.by
    obtain ⟨m1, a1, T1⟩ := e_append a T0 (by omega)
    obtain ⟨m2, a2, T2⟩ := e_append b T1 (by omega)
    obtain ⟨m3, a3, T3⟩ := e_append c T2 (by omega)
    obtain ⟨m4, a4, T4⟩ := e_append d T3 (by omega)
    obtain ⟨m5, a5, T5⟩ := e_append e T4 (by omega)
    simp only [a1, a2, a3, a4, a5, bd1_e, T5.len]
    obtain ⟨y, g1, g2, g3⟩ := lp_F (b := fun s4 : Int32 × Mm => bX8_feed_20 SX8 0 a b c d e s4.1 s4.2) (fun q m1 => (∀ j, j < tl + q → m1.1 1 j = nI (apA B tl a b c d e j)) ∧ Fr (fun o => o = 1) (u1 mM 0 0 (nI 0)) m1) 20 (m := u1 mM 0 0 (nI 0)) (by omega)
      ⟨fun j hj => by
        unfold apA
        rw [apB_v, if_neg (by omega), apB_v, if_neg (by omega), apB_v, if_neg (by omega), apB_v, if_neg (by omega), apB_v, if_neg (by omega)]
        exact hM.by j (by omega), Fr.rfl⟩
      (by
        rintro q m1 hq ⟨A, F⟩
        have hl : m1.1 0 2 = nI tl := by rw [F.2 0 (by omega)]; exact hM.len
        have key : ∀ v, b4 v (q % 4) = apA B tl a b c d e (tl + q) → ∃ m2, jX8_feed_73 SX8 m1 0 a b c d e (nI q) v = some (.inl (nI (q + 1), m2)) ∧ (∀ j, j < tl + (q + 1) → m2.1 1 j = nI (apA B tl a b c d e j)) ∧ Fr (fun o => o = 1) (u1 mM 0 0 (nI 0)) m2 := by
          intro v hv
          refine ⟨_, fd73 hl (by omega) hq, fun j hj => ?_, F.st rfl⟩
          by_cases e : j = tl + q
          · subst e; rw [u1_rs, hv]
          · rw [u1_rn (Or.inl e)]; exact A j (by omega)
        dsimp only
        unfold bX8_feed_20
        simp (disch := omega) only [L0, L1, L2, L3, L4, L5, L6, L7, L8, L9, L10, L11, L12, L13, L14, L15, L16, L17, L18, L19, L20, L21, L22, L23, L24, L25, L26, L27, L28, L29, L30, L31, L32, L33, L34, L35, L36, L37, L38, L39, L40, L41, L42, L43, L44, L45, L46, L47, L48, L50, L57, L59, L60, L63, L64, L65, L70, L80, L90, L97, L100, L110, L120, L122, L128, L150, L200, L208, L216, L224, L232, L240, L248, L255, L256, L264, L272, L280, L288, L296, L297, L300, L336, L337, L500, L680, L700, L998, L999, L1000, L1024, L1999, L6403, L9999, L10000, L12345, L99999, L1000000, L214424576, L412560384, L509804544, L639025541, L642945024, L658545824, L1103515245, L2147483647, nn_le]
        rw [if_neg (by omega)]
        unfold apA at key
        by_cases c1 : 4 ≤ q
        · rw [if_pos c1]
          by_cases c2 : 8 ≤ q
          · rw [if_pos c2]
            by_cases c3 : 12 ≤ q
            · rw [if_pos c3]
              by_cases c4 : 16 ≤ q
              · rw [if_pos c4]
                exact key _ (by rw [apB_v, if_pos (by omega)]; congr 1; omega)
              · rw [if_neg c4]
                exact key _ (by rw [apB_v, if_neg (by omega), apB_v, if_pos (by omega)]; congr 1; omega)
            · rw [if_neg c3]
              exact key _ (by rw [apB_v, if_neg (by omega), apB_v, if_neg (by omega), apB_v, if_pos (by omega)]; congr 1; omega)
          · rw [if_neg c2]
            exact key _ (by rw [apB_v, if_neg (by omega), apB_v, if_neg (by omega), apB_v, if_neg (by omega), apB_v, if_pos (by omega)]; congr 1; omega)
        · rw [if_neg c1]
          exact key _ (by rw [apB_v, if_neg (by omega), apB_v, if_neg (by omega), apB_v, if_neg (by omega), apB_v, if_neg (by omega), apB_v, if_pos (by omega)]; congr 1; omega))
      (by
        rintro m1 ⟨A, F⟩
        dsimp only
        unfold bX8_feed_20
        simp (disch := omega) only [L0, L1, L2, L3, L4, L5, L6, L7, L8, L9, L10, L11, L12, L13, L14, L15, L16, L17, L18, L19, L20, L21, L22, L23, L24, L25, L26, L27, L28, L29, L30, L31, L32, L33, L34, L35, L36, L37, L38, L39, L40, L41, L42, L43, L44, L45, L46, L47, L48, L50, L57, L59, L60, L63, L64, L65, L70, L80, L90, L97, L100, L110, L120, L122, L128, L150, L200, L208, L216, L224, L232, L240, L248, L255, L256, L264, L272, L280, L288, L296, L297, L300, L336, L337, L500, L680, L700, L998, L999, L1000, L1024, L1999, L6403, L9999, L10000, L12345, L99999, L1000000, L214424576, L412560384, L509804544, L639025541, L642945024, L658545824, L1103515245, L2147483647, nn_le]
        rw [if_pos (by omega)])
    have hl : y.1 0 2 = nI tl := by rw [g3.2 0 (by omega)]; exact hM.len
    have hl2 : (u1 y 0 2 (nI (tl + 20))).1 0 2 = nI (tl + 20) := u1_rs
    simp only [g1, bd1_e, hl, nI_add, hl2]
    have eo : ∀ o, o ≠ 1 → o ≠ 2 → m5.1 o = mF.1 o := T5.o
    have e0 := eo 0 (by omega) (by omega)
    have e16 := eo 16 (by omega) (by omega)
    refine ⟨_, _, _, rfl, rfl, π, X, U, I, p, top, tl + 20, apA B tl a b c d e, fc, fp, ?_, ?_, ?_⟩
    · exact SF.mk hF.hp (by rw [e0]; exact hF.pl) (by rw [e0]; exact hF.sp) (by rw [e0]; exact hF.fc) (by rw [e0]; exact hF.fp) (hF.P.eq (fun o h1 h2 => eo o (by omega) (by omega))) (CF.mk (by rw [eo 19 (by omega) (by omega)]; exact hF.C.row) (by rw [eo 5 (by omega) (by omega)]; exact hF.C.mv) (by rw [eo 7 (by omega) (by omega)]; exact hF.C.sn)) (by rw [e16]; exact hF.steps) (by rw [e16]; exact hF.top) hF.tlt (by rw [eo 17 (by omega) (by omega)]; exact hF.rows) (by rw [e16]; exact hF.him) (by rw [eo 18 (by omega) (by omega)]; exact hF.im) T5.len T5.by
    · have eo8 : ∀ o, o ≠ 0 → o ≠ 1 → (u1 y 0 2 (nI (tl + 20))).1 o = (u1 mM 0 0 (nI 0)).1 o := fun o h1 h2 => by rw [u1_other h1, g3.2 o h2]
      have eo0 : ∀ j, j ≠ 2 → (u1 y 0 2 (nI (tl + 20))).1 0 j = (u1 mM 0 0 (nI 0)).1 0 j := fun j hj => by rw [u1_rn (Or.inl hj), g3.2 0 (by omega)]
      exact SM.mk (hM.P.eq (fun o h1 h2 h3 => eo8 o (by omega) (by omega))) (RG.m (by rw [eo8 15 (by omega) (by omega)]; exact hM.R.g)) (by rw [eo0 31 (by omega)]; exact hM.und) (by rw [eo8 19 (by omega) (by omega)]; exact hM.rows) (by rw [eo0 32 (by omega)]; exact hM.him) (by rw [eo8 18 (by omega) (by omega)]; exact hM.im) u1_rs (by rw [u1_other (by omega)]; exact g2) (by rw [eo0 24 (by omega)]; exact hM.lf) (by rw [eo0 25 (by omega)]; exact hM.lp)
    · refine SK.mk hK.O hK.K hK.t hK.ul hK.U hK.I (by omega) (fun j hj => ?_)
      have hb : ∀ (Q : Nat → Nat) t v, (∀ j, j < tl + 20 → j < t → Q j < 256) → ∀ j, j < tl + 20 → j < t + 4 → apB Q t v j < 256 := by
        intro Q t v hQ j h1 h2
        rw [apB_v]
        split
        · exact byN_lt _ _
        · exact hQ j h1 (by omega)
      unfold apA
      exact hb _ _ _ (hb _ _ _ (hb _ _ _ (hb _ _ _ (hb _ _ _ (fun j _ h2 => hK.B j h2))))) j hj (by omega)
  · rw [if_neg (by omega), if_neg h]
    exact ⟨_, _, _, rfl, rfl, S'⟩
