/-! ===== fair shares: the model's stops, and all of it ===== -/
section ST
variable {m : Mm} {π : Pl} {X : Nat → Nat} {D s : Nat} {q : Nat → Nat} {H : Nat → Bool}
theorem bN_w {T : Nat → Bool} {n l : Nat} (hl : l < n) : bN (wB T (fun l => l) n) l = bO (T l) := by
  cases h : T l with
  | true => exact bN_t (wB_t.mpr ⟨l, hl, h, rfl⟩)
  | false =>
    apply bN_f
    cases hb : (wB T (fun l => l) n).testBit l with
    | false => rfl
    | true =>
      obtain ⟨f, hf, h1, h2⟩ := wB_t.mp hb
      subst h2
      rw [h] at h1; cases h1
theorem e8_stops81 (P : PM m π) (O : π.ok) {T : Nat → Bool} {f : Nat} (hf : f < π.nf) (a b : Int64) : lp (fun s9 : Int32 × Int32 => bX8_stops_81 SX8 m 0 a b (nI (wB T (fun l => l) π.nl)) (nI f) s9.1 s9.2) fu (nI 0, nI 0) = some (nI (bO (anyB (fun i => T (π.path f i)) (π.hops f)))) := by
  have hnl := O.nl
  have hnf := O.nf
  have hh := O.hops f hf
  have hw : wB T (fun l => l) π.nl < 1024 := wB_lt (fun l hl _ => by omega)
  obtain ⟨r, a1, a2⟩ := lp_n (b := fun s9 : Int32 × Int32 => bX8_stops_81 SX8 m 0 a b (nI (wB T (fun l => l) π.nl)) (nI f) s9.1 s9.2) (N := fu) (s0 := (nI 0, nI 0))
    (fun k s => s.2 = nI k ∧ s.1 = nI (bO (anyB (fun i => T (π.path f i)) k)))
    (fun r => r = nI (bO (anyB (fun i => T (π.path f i)) (π.hops f)))) (π.hops f)
    ⟨rfl, rfl⟩ (by unfold fu; omega)
    (by
      rintro k ⟨x7, x8⟩ hk ⟨e8, e7⟩
      dsimp only at e8 e7 ⊢
      subst e8 e7
      have hp := O.path f k hf hk
      refine Or.inl ?_
      unfold bX8_stops_81 jX8_stops_119 jX8_stops_124
      simp (disch := omega) only [L0, L1, L2, L3, L4, L5, L6, L7, L8, L9, L10, L11, L12, L13, L14, L15, L16, L17, L18, L19, L20, L21, L22, L23, L24, L25, L26, L27, L28, L29, L30, L31, L32, L33, L34, L35, L36, L37, L38, L39, L40, L41, L42, L43, L44, L45, L46, L47, L48, L50, L57, L59, L60, L63, L64, L65, L70, L80, L90, L97, L100, L110, L120, L122, L128, L150, L200, L208, L216, L224, L232, L240, L248, L255, L256, L264, L272, L280, L288, L296, L297, L300, L336, L337, L500, L680, L700, L998, L999, L1000, L1024, L1999, L6403, L9999, L10000, L12345, L99999, L1000000, L214424576, L412560384, L509804544, L639025541, L642945024, L658545824, L1103515245, L2147483647, g8_0, r8_1, r8_3, r8_4, r8_5, r8_6, r8_7, r8_8, r8_9, r8_10, r8_11, r8_12, r8_13, r8_14, r8_15, r8_26, r8_27, r8_28, r8_29, r8_30, r8_33, r8_34, r8_35, r8_36, r8_37, r8_39, r8_40, r8_41, r8_43, r8_44, r8_45, ldA_n s8_13, P.hops f hf, bd1_e, nn_le, pk_mul, nI_add, ldA_n s8_14, P.path f k hf hk, bT hw, bN_w hp]
      rw [if_neg (by omega)]
      rw [anyB_s]
      cases hA : anyB (fun i => T (π.path f i)) k with
      | true => rw [if_pos (show ¬ nI (bO true) = nI 0 by decide)]; exact ⟨_, rfl, rfl, rfl⟩
      | false =>
        rw [if_neg (fun z => z (show nI (bO false) = nI 0 from rfl))]
        cases hT : T (π.path f k) with
        | true => rw [if_neg (fun z => z (show nI (bO true) = nI 1 from rfl))]; exact ⟨_, rfl, rfl, rfl⟩
        | false => rw [if_pos (show ¬ nI (bO false) = nI 1 by decide)]; exact ⟨_, rfl, rfl, rfl⟩)
    (by
      rintro ⟨x7, x8⟩ ⟨e8, e7⟩
      dsimp only at e8 e7 ⊢
      subst e8 e7
      unfold bX8_stops_81
      simp (disch := omega) only [L0, L1, L2, L3, L4, L5, L6, L7, L8, L9, L10, L11, L12, L13, L14, L15, L16, L17, L18, L19, L20, L21, L22, L23, L24, L25, L26, L27, L28, L29, L30, L31, L32, L33, L34, L35, L36, L37, L38, L39, L40, L41, L42, L43, L44, L45, L46, L47, L48, L50, L57, L59, L60, L63, L64, L65, L70, L80, L90, L97, L100, L110, L120, L122, L128, L150, L200, L208, L216, L224, L232, L240, L248, L255, L256, L264, L272, L280, L288, L296, L297, L300, L336, L337, L500, L680, L700, L998, L999, L1000, L1024, L1999, L6403, L9999, L10000, L12345, L99999, L1000000, L214424576, L412560384, L509804544, L639025541, L642945024, L658545824, L1103515245, L2147483647, g8_0, r8_1, r8_3, r8_4, r8_5, r8_6, r8_7, r8_8, r8_9, r8_10, r8_11, r8_12, r8_13, r8_14, r8_15, r8_26, r8_27, r8_28, r8_29, r8_30, r8_33, r8_34, r8_35, r8_36, r8_37, r8_39, r8_40, r8_41, r8_43, r8_44, r8_45, ldA_n s8_13, P.hops f hf, bd1_e, nn_le]
      rw [if_pos (by omega)]
      exact ⟨_, rfl, rfl⟩)
  rw [a1, a2]
def tiH (π : Pl) (D : Nat) (q : Nat → Nat) (H : Nat → Bool) (l0 : Nat) : Nat → Bool := fun f => H f || anyB (fun i => tiT π D q H l0 (π.path f i)) (π.hops f)
def tiQ (π : Pl) (D : Nat) (q : Nat → Nat) (H : Nat → Bool) (l0 : Nat) : Nat → Nat := fun f => if H f = true then q f * grL π H l0 else if tiH π D q H l0 f = true then frL π D q H l0 else 0
theorem e8_stops (P : PM m π) (R : RM m X) (O : π.ok) (hon : ∀ f, f < 8 → X (264 + f) ≤ 1) (h : HM m π D q H) (w : WL π X D q H s) {l0 : Nat} (hl0 : l0 < π.nl) (hg0 : 0 < grL π H l0) : ∃ m', fX8_stops SX8 m 0 (lI (rdU (frL π D q H l0) (D * grL π H l0))) (lI (rdL (frL π D q H l0) (D * grL π H l0))) = some m' ∧ HM m' π (D * grL π H l0) (tiQ π D q H l0) (tiH π D q H l0) ∧ FS m m' := by
  have hnl := O.nl
  have hnf := O.nf
  have hd1 := w.d1
  obtain ⟨m0, z1, z2⟩ := e8_stops6 P R O hon h w hl0 hg0
  have h0 := h.fl z2
  unfold fX8_stops
  simp only [L0, L1, L2, L3, L4, L5, L6, L7, L8, L9, L10, L11, L12, L13, L14, L15, L16, L17, L18, L19, L20, L21, L22, L23, L24, L25, L26, L27, L28, L29, L30, L31, L32, L33, L34, L35, L36, L37, L38, L39, L40, L41, L42, L43, L44, L45, L46, L47, L48, L50, L57, L59, L60, L63, L64, L65, L70, L80, L90, L97, L100, L110, L120, L122, L128, L150, L200, L208, L216, L224, L232, L240, L248, L255, L256, L264, L272, L280, L288, L296, L297, L300, L336, L337, L500, L680, L700, L998, L999, L1000, L1024, L1999, L6403, L9999, L10000, L12345, L99999, L1000000, L214424576, L412560384, L509804544, L639025541, L642945024, L658545824, L1103515245, L2147483647, g8_0, r8_1, r8_3, r8_4, r8_5, r8_6, r8_7, r8_8, r8_9, r8_10, r8_11, r8_12, r8_13, r8_14, r8_15, r8_26, r8_27, r8_28, r8_29, r8_30, r8_33, r8_34, r8_35, r8_36, r8_37, r8_39, r8_40, r8_41, r8_43, r8_44, r8_45, z1, bd1_e]
  generalize hU : rdU (frL π D q H l0) (D * grL π H l0) = U at *
  generalize hL : rdL (frL π D q H l0) (D * grL π H l0) = L at *
  obtain ⟨y, a1, a2, a3, a4⟩ := lp_F (b := fun s15 : Int32 × Mm => bX8_stops_66 SX8 0 (lI U) (lI L) (nI (wB (tiT π D q H l0) (fun l => l) π.nl)) s15.1 s15.2)
    (fun k m1 => (∀ f, f < π.nf → (f < k → tiH π D q H l0 f = true → m1.2 28 f = lI (rdU (tiQ π D q H l0 f) (D * grL π H l0)) ∧ m1.2 29 f = lI (rdL (tiQ π D q H l0 f) (D * grL π H l0))) ∧ (k ≤ f → H f = true → m1.2 28 f = lI (rdU (q f) D) ∧ m1.2 29 f = lI (rdL (q f) D))) ∧ (∀ f, f < π.nf → m1.1 30 f = nI (bO (if f < k then tiH π D q H l0 f else H f))) ∧ FS m m1) π.nf (m := m0) (by omega)
    ⟨fun f hf => ⟨fun z => by omega, fun _ hH => ⟨h0.up f hf hH, h0.lo f hf hH⟩⟩, fun f hf => by rw [if_neg (by omega)]; exact h0.dn f hf, z2.s⟩
    (by
      rintro k m1 hk ⟨A, B, F1⟩
      have P1 := P.fs F1
      have hk30 := B k hk
      rw [if_neg (by omega)] at hk30
      dsimp only
      unfold bX8_stops_66 jX8_stops_174
      simp (disch := omega) only [L0, L1, L2, L3, L4, L5, L6, L7, L8, L9, L10, L11, L12, L13, L14, L15, L16, L17, L18, L19, L20, L21, L22, L23, L24, L25, L26, L27, L28, L29, L30, L31, L32, L33, L34, L35, L36, L37, L38, L39, L40, L41, L42, L43, L44, L45, L46, L47, L48, L50, L57, L59, L60, L63, L64, L65, L70, L80, L90, L97, L100, L110, L120, L122, L128, L150, L200, L208, L216, L224, L232, L240, L248, L255, L256, L264, L272, L280, L288, L296, L297, L300, L336, L337, L500, L680, L700, L998, L999, L1000, L1024, L1999, L6403, L9999, L10000, L12345, L99999, L1000000, L214424576, L412560384, L509804544, L639025541, L642945024, L658545824, L1103515245, L2147483647, g8_0, r8_1, r8_3, r8_4, r8_5, r8_6, r8_7, r8_8, r8_9, r8_10, r8_11, r8_12, r8_13, r8_14, r8_15, r8_26, r8_27, r8_28, r8_29, r8_30, r8_33, r8_34, r8_35, r8_36, r8_37, r8_39, r8_40, r8_41, r8_43, r8_44, r8_45, e8_flows P1, bd1_e, nn_le, e8_stops81 P1 O hk, ldA_n s8_30, hk30, stA_n s8_30, stL_n s8_28, stL_n s8_29, nI_add]
      rw [if_neg (by omega)]
      cases hH : H k with
      | true =>
        rw [if_pos (show ¬ nI (bO true) = nI 0 by decide)]
        have hh : tiH π D q H l0 k = true := by unfold tiH; rw [hH]; rfl
        have hq : tiQ π D q H l0 k = q k * grL π H l0 := by unfold tiQ; rw [if_pos hH]
        refine ⟨m1, rfl, fun f hf => ⟨fun y1 y2 => ?_, fun y1 y2 => (A f hf).2 (by omega) y2⟩, fun f hf => ?_, F1⟩
        · by_cases e : f = k
          · subst e
            have := (A f hf).2 (Nat.le_refl _) hH
            obtain ⟨r1, r2⟩ := rd_up (a := q f) (D := D) (g := grL π H l0) (by omega) hg0
            rw [hq, r1, r2]; exact this
          · exact (A f hf).1 (by omega) y2
        · rw [B f hf]
          by_cases e : f = k
          · subst e; rw [if_neg (by omega), if_pos (by omega), hH, hh]
          · by_cases e2 : f < k
            · rw [if_pos e2, if_pos (by omega)]
            · rw [if_neg e2, if_neg (by omega)]
      | false =>
        rw [if_neg (fun z => z (show nI (bO false) = nI 0 from rfl))]
        cases hA : anyB (fun i => tiT π D q H l0 (π.path k i)) (π.hops k) with
        | false =>
          rw [if_neg (fun z => z (show nI (bO false) = nI 0 from rfl))]
          have hh : tiH π D q H l0 k = false := by unfold tiH; rw [hH, hA]; rfl
          refine ⟨m1, rfl, fun f hf => ⟨fun y1 y2 => ?_, fun y1 y2 => (A f hf).2 (by omega) y2⟩, fun f hf => ?_, F1⟩
          · by_cases e : f = k
            · subst e; rw [hh] at y2; cases y2
            · exact (A f hf).1 (by omega) y2
          · rw [B f hf]
            by_cases e : f = k
            · subst e; rw [if_neg (by omega), if_pos (by omega), hH, hh]
            · by_cases e2 : f < k
              · rw [if_pos e2, if_pos (by omega)]
              · rw [if_neg e2, if_neg (by omega)]
        | true =>
          rw [if_pos (show ¬ nI (bO true) = nI 0 by decide), show narA 2 (nI 1) = nI (bO true) from rfl]
          have hh : tiH π D q H l0 k = true := by unfold tiH; rw [hH, hA]; rfl
          have hq : tiQ π D q H l0 k = frL π D q H l0 := by unfold tiQ; rw [if_neg (by rw [hH]; decide), if_pos hh]
          refine ⟨_, rfl, fun f hf => ⟨fun y1 y2 => ?_, fun y1 y2 => ?_⟩, fun f hf => ?_, ?_⟩
          · by_cases e : f = k
            · subst e
              rw [u2_rn (Or.inr (by omega)), u2_rs, u2_rs, hq, hU, hL]
              exact ⟨rfl, rfl⟩
            · rw [u2_rn (Or.inr (by omega)), u2_rn (Or.inl e), u2_rn (Or.inl e), u2_rn (Or.inr (by omega))]
              exact (A f hf).1 (by omega) y2
          · rw [u2_rn (Or.inr (by omega)), u2_rn (Or.inl (by omega)), u2_rn (Or.inl (by omega)), u2_rn (Or.inr (by omega))]
            exact (A f hf).2 (by omega) y2
          · rw [u2_1, u2_1]
            by_cases e : f = k
            · subst e
              rw [u1_rs, if_pos (by omega), hh]
            · rw [u1_rn (Or.inl e), B f hf]
              by_cases e2 : f < k
              · rw [if_pos e2, if_pos (by omega)]
              · rw [if_neg e2, if_neg (by omega)]
          · intro o ho
            rw [u2_1, u2_1, u1_other ho]
            exact F1 o ho)
    (by
      rintro m1 ⟨A, B, F1⟩
      have P1 := P.fs F1
      dsimp only
      unfold bX8_stops_66
      simp (disch := omega) only [L0, L1, L2, L3, L4, L5, L6, L7, L8, L9, L10, L11, L12, L13, L14, L15, L16, L17, L18, L19, L20, L21, L22, L23, L24, L25, L26, L27, L28, L29, L30, L31, L32, L33, L34, L35, L36, L37, L38, L39, L40, L41, L42, L43, L44, L45, L46, L47, L48, L50, L57, L59, L60, L63, L64, L65, L70, L80, L90, L97, L100, L110, L120, L122, L128, L150, L200, L208, L216, L224, L232, L240, L248, L255, L256, L264, L272, L280, L288, L296, L297, L300, L336, L337, L500, L680, L700, L998, L999, L1000, L1024, L1999, L6403, L9999, L10000, L12345, L99999, L1000000, L214424576, L412560384, L509804544, L639025541, L642945024, L658545824, L1103515245, L2147483647, e8_flows P1, bd1_e, nn_le]
      rw [if_pos (by omega)])
  rw [a1, bd1_e]
  exact ⟨y, rfl, HM.mk (fun f hf hH => ((a2 f hf).1 hf hH).1) (fun f hf hH => ((a2 f hf).1 hf hH).2) (fun f hf => by rw [a3 f hf, if_pos hf]), a4⟩
theorem e8_laysFair (P : PM m π) (R : RM m X) (O : π.ok) (hon : ∀ f, f < 8 → X (264 + f) ≤ 1) : ∃ m' D q H t, fX8_laysFair SX8 m 0 = some m' ∧ HM m' π D q H ∧ WL π X D q H t ∧ (∀ l, l < π.nl → grL π H l = 0) ∧ FS m m' := by
  have hnl := O.nl
  have hnf := O.nf
  unfold fX8_laysFair
  simp only [L0, L1, L2, L3, L4, L5, L6, L7, L8, L9, L10, L11, L12, L13, L14, L15, L16, L17, L18, L19, L20, L21, L22, L23, L24, L25, L26, L27, L28, L29, L30, L31, L32, L33, L34, L35, L36, L37, L38, L39, L40, L41, L42, L43, L44, L45, L46, L47, L48, L50, L57, L59, L60, L63, L64, L65, L70, L80, L90, L97, L100, L110, L120, L122, L128, L150, L200, L208, L216, L224, L232, L240, L248, L255, L256, L264, L272, L280, L288, L296, L297, L300, L336, L337, L500, L680, L700, L998, L999, L1000, L1024, L1999, L6403, L9999, L10000, L12345, L99999, L1000000, L214424576, L412560384, L509804544, L639025541, L642945024, L658545824, L1103515245, L2147483647, g8_0, r8_1, r8_3, r8_4, r8_5, r8_6, r8_7, r8_8, r8_9, r8_10, r8_11, r8_12, r8_13, r8_14, r8_15, r8_26, r8_27, r8_28, r8_29, r8_30, r8_33, r8_34, r8_35, r8_36, r8_37, r8_39, r8_40, r8_41, r8_43, r8_44, r8_45]
  obtain ⟨y, a1, a2, a3, a4, a5⟩ := lp_F (b := fun s6 : Int32 × Mm => bX8_laysFair_2 SX8 0 s6.1 s6.2) (fun k m1 => (∀ f, f < k → m1.2 28 f = lI 0) ∧ (∀ f, f < k → m1.2 29 f = lI 1) ∧ (∀ f, f < k → m1.1 30 f = nI (bO (decide (X (264 + f) = 0)))) ∧ FS m m1) π.nf (m := m) (by omega)
    ⟨fun f hf => by omega, fun f hf => by omega, fun f hf => by omega, fun o _ => rfl⟩
    (by
      rintro k m1 hk ⟨b1, b2, b3, F1⟩
      have P1 := P.fs F1
      have R1 := R.fs F1
      have hx := hon k (by omega)
      have R2 : RM (u2 (u2 m1 28 k (lI 0)) 29 k (lI 1)) X := RG.m R1.g
      dsimp only
      unfold bX8_laysFair_2 jX8_laysFair_42
      simp (disch := omega) only [L0, L1, L2, L3, L4, L5, L6, L7, L8, L9, L10, L11, L12, L13, L14, L15, L16, L17, L18, L19, L20, L21, L22, L23, L24, L25, L26, L27, L28, L29, L30, L31, L32, L33, L34, L35, L36, L37, L38, L39, L40, L41, L42, L43, L44, L45, L46, L47, L48, L50, L57, L59, L60, L63, L64, L65, L70, L80, L90, L97, L100, L110, L120, L122, L128, L150, L200, L208, L216, L224, L232, L240, L248, L255, L256, L264, L272, L280, L288, L296, L297, L300, L336, L337, L500, L680, L700, L998, L999, L1000, L1024, L1999, L6403, L9999, L10000, L12345, L99999, L1000000, L214424576, L412560384, L509804544, L639025541, L642945024, L658545824, L1103515245, L2147483647, g8_0, r8_1, r8_3, r8_4, r8_5, r8_6, r8_7, r8_8, r8_9, r8_10, r8_11, r8_12, r8_13, r8_14, r8_15, r8_26, r8_27, r8_28, r8_29, r8_30, r8_33, r8_34, r8_35, r8_36, r8_37, r8_39, r8_40, r8_41, r8_43, r8_44, r8_45, LL0, LL1, e8_flows P1, bd1_e, nn_le, stL_n s8_28, stL_n s8_29, e8_isOn R2, nn_eq, stA_n s8_30, nI_add]
      rw [if_neg (by omega)]
      have fin : ∀ v b, narA 2 v = nI (bO b) → b = decide (X (264 + k) = 0) → ∃ m2, some (Sum.inl (nI (k + 1), u1 (u2 (u2 m1 28 k (lI 0)) 29 k (lI 1)) 30 k (narA 2 v))) = some (Sum.inl (nI (k + 1), m2) : (Int32 × Mm) ⊕ Mm) ∧ (∀ f, f < k + 1 → m2.2 28 f = lI 0) ∧ (∀ f, f < k + 1 → m2.2 29 f = lI 1) ∧ (∀ f, f < k + 1 → m2.1 30 f = nI (bO (decide (X (264 + f) = 0)))) ∧ FS m m2 := by
        intro v b hv hb
        refine ⟨_, rfl, fun f hf => ?_, fun f hf => ?_, fun f hf => ?_, fun o ho => ?_⟩
        · show (u2 (u2 m1 28 k (lI 0)) 29 k (lI 1)).2 28 f = lI 0
          rw [u2_rn (Or.inr (by omega))]
          by_cases e : f = k
          · subst e; rw [u2_rs]
          · rw [u2_rn (Or.inl e)]; exact b1 f (by omega)
        · show (u2 (u2 m1 28 k (lI 0)) 29 k (lI 1)).2 29 f = lI 1
          by_cases e : f = k
          · subst e; rw [u2_rs]
          · rw [u2_rn (Or.inl e), u2_rn (Or.inr (by omega))]; exact b2 f (by omega)
        · by_cases e : f = k
          · subst e; rw [u1_rs, hv, hb]
          · rw [u1_rn (Or.inl e), u2_1, u2_1]; exact b3 f (by omega)
        · rw [u1_other ho, u2_1, u2_1]; exact F1 o ho
      by_cases c : X (264 + k) = 0
      · rw [if_neg (fun z => z c)]
        exact fin (nI 1) true rfl (decide_eq_true c).symm
      · rw [if_pos c]
        exact fin (nI 0) false rfl (decide_eq_false c).symm)
    (by
      rintro m1 ⟨b1, b2, b3, F1⟩
      have P1 := P.fs F1
      dsimp only
      unfold bX8_laysFair_2
      simp (disch := omega) only [L0, L1, L2, L3, L4, L5, L6, L7, L8, L9, L10, L11, L12, L13, L14, L15, L16, L17, L18, L19, L20, L21, L22, L23, L24, L25, L26, L27, L28, L29, L30, L31, L32, L33, L34, L35, L36, L37, L38, L39, L40, L41, L42, L43, L44, L45, L46, L47, L48, L50, L57, L59, L60, L63, L64, L65, L70, L80, L90, L97, L100, L110, L120, L122, L128, L150, L200, L208, L216, L224, L232, L240, L248, L255, L256, L264, L272, L280, L288, L296, L297, L300, L336, L337, L500, L680, L700, L998, L999, L1000, L1024, L1999, L6403, L9999, L10000, L12345, L99999, L1000000, L214424576, L412560384, L509804544, L639025541, L642945024, L658545824, L1103515245, L2147483647, e8_flows P1, bd1_e, nn_le]
      rw [if_pos (by omega)])
  rw [a1, bd1_e]
  obtain ⟨r, d1, D, q, H, t, d3, d4, d5, d6⟩ := lp_n (b := fun s15 : Int32 × Mm => bX8_laysFair_51 SX8 0 s15.1 s15.2) (N := fu) (s0 := (nI 1, y))
    (fun k s => ∃ D q H t, HM s.2 π D q H ∧ WL π X D q H t ∧ FS m s.2 ∧ ((s.1 = nI 1 ∧ k ≤ cnH π H) ∨ (s.1 = nI 0 ∧ ∀ l, l < π.nl → grL π H l = 0)))
    (fun r => ∃ D q H t, HM r π D q H ∧ WL π X D q H t ∧ (∀ l, l < π.nl → grL π H l = 0) ∧ FS m r) 10
    ⟨1, _, _, 0, HM.mk (fun f hf _ => by rw [a2 f hf]; rfl) (fun f hf _ => by rw [a3 f hf]; rfl) a4, WL.ini (fun f hf => hon f (by omega)), a5, Or.inl ⟨rfl, Nat.zero_le _⟩⟩ (by unfold fu; omega)
    (by
      rintro k ⟨x1, m1⟩ hk ⟨D, q, H, t, b1, b2, F1, hc⟩
      dsimp only at b1 F1 hc ⊢
      rcases hc with ⟨z1, z2⟩ | ⟨z1, z2⟩
      · subst z1
        have P1 := P.fs F1
        have R1 := R.fs F1
        obtain ⟨x1, x2, x4, m2, c1, c2, c3⟩ := e8_least P1 R1 O hon b1 b2
        refine Or.inl ?_
        unfold bX8_laysFair_51 jX8_laysFair_160
        simp only [L0, L1, L2, L3, L4, L5, L6, L7, L8, L9, L10, L11, L12, L13, L14, L15, L16, L17, L18, L19, L20, L21, L22, L23, L24, L25, L26, L27, L28, L29, L30, L31, L32, L33, L34, L35, L36, L37, L38, L39, L40, L41, L42, L43, L44, L45, L46, L47, L48, L50, L57, L59, L60, L63, L64, L65, L70, L80, L90, L97, L100, L110, L120, L122, L128, L150, L200, L208, L216, L224, L232, L240, L248, L255, L256, L264, L272, L280, L288, L296, L297, L300, L336, L337, L500, L680, L700, L998, L999, L1000, L1024, L1999, L6403, L9999, L10000, L12345, L99999, L1000000, L214424576, L412560384, L509804544, L639025541, L642945024, L658545824, L1103515245, L2147483647, LL0, LL1, c1, bd1_e]
        rw [if_neg n10]
        rcases c3 with ⟨y1, y2⟩ | ⟨y1, l0, y2, y3, y4, y5, y6⟩
        · rw [if_pos y1]
          exact ⟨_, rfl, D, q, H, t, b1.fl c2, b2, F1.trans c2.s, Or.inr ⟨y1, y2⟩⟩
        · obtain ⟨m3, k1, k2, k3⟩ := e8_stops (P1.fl c2) (R1.fl c2) O hon (b1.fl c2) b2 y2 y3
          rw [y1, if_neg n10, y4, y5, k1, bd1_e]
          have hH : ∀ f, f < π.nf → H f = true → tiH π D q H l0 f = true := fun f _ hHf => by unfold tiH; rw [hHf]; rfl
          have hT : ∀ l, l < π.nl → tiT π D q H l0 l = true → ∀ f, f < π.nf → onL π l f = true → tiH π D q H l0 f = true := by
            intro l _ ht f hf ho
            obtain ⟨i, hi, hp⟩ := onL_ex.mp ho
            unfold tiH
            rw [anyB_iff.mpr ⟨i, hi, by rw [hp]; exact ht⟩, Bool.or_true]
          have hO := hT l0 y2 (decide_eq_true ⟨y3, rfl⟩)
          refine ⟨_, rfl, _, _, _, _, k2, b2.up y2 y3 y6 hH hO (fun f hf h1 h2 => ?_), (F1.trans c2.s).trans k3, Or.inl ⟨rfl, ?_⟩⟩
          · unfold tiH at h2
            rw [h1, Bool.false_or] at h2
            obtain ⟨i, hi, ht⟩ := anyB_iff.mp h2
            have hl := O.path f i hf hi
            exact ⟨π.path f i, hl, onL_ex.mpr ⟨i, hi, rfl⟩, (of_decide_eq_true ht).2, hT _ hl ht⟩
          · have := cnH_up hH hO
            omega
      · subst z1
        unfold bX8_laysFair_51
        simp only [L0, L1, L2, L3, L4, L5, L6, L7, L8, L9, L10, L11, L12, L13, L14, L15, L16, L17, L18, L19, L20, L21, L22, L23, L24, L25, L26, L27, L28, L29, L30, L31, L32, L33, L34, L35, L36, L37, L38, L39, L40, L41, L42, L43, L44, L45, L46, L47, L48, L50, L57, L59, L60, L63, L64, L65, L70, L80, L90, L97, L100, L110, L120, L122, L128, L150, L200, L208, L216, L224, L232, L240, L248, L255, L256, L264, L272, L280, L288, L296, L297, L300, L336, L337, L500, L680, L700, L998, L999, L1000, L1024, L1999, L6403, L9999, L10000, L12345, L99999, L1000000, L214424576, L412560384, L509804544, L639025541, L642945024, L658545824, L1103515245, L2147483647]
        rw [if_pos trivial]
        exact Or.inr ⟨_, rfl, D, q, H, t, b1, b2, z2, F1⟩)
    (by
      rintro ⟨x1, m1⟩ ⟨D, q, H, t, b1, b2, F1, hc⟩
      dsimp only at b1 F1 hc ⊢
      have hcl := cnH_le π H
      rcases hc with ⟨z1, z2⟩ | ⟨z1, z2⟩
      · omega
      · subst z1
        unfold bX8_laysFair_51
        simp only [L0, L1, L2, L3, L4, L5, L6, L7, L8, L9, L10, L11, L12, L13, L14, L15, L16, L17, L18, L19, L20, L21, L22, L23, L24, L25, L26, L27, L28, L29, L30, L31, L32, L33, L34, L35, L36, L37, L38, L39, L40, L41, L42, L43, L44, L45, L46, L47, L48, L50, L57, L59, L60, L63, L64, L65, L70, L80, L90, L97, L100, L110, L120, L122, L128, L150, L200, L208, L216, L224, L232, L240, L248, L255, L256, L264, L272, L280, L288, L296, L297, L300, L336, L337, L500, L680, L700, L998, L999, L1000, L1024, L1999, L6403, L9999, L10000, L12345, L99999, L1000000, L214424576, L412560384, L509804544, L639025541, L642945024, L658545824, L1103515245, L2147483647]
        rw [if_pos trivial]
        exact ⟨_, rfl, D, q, H, t, b1, b2, z2, F1⟩)
  rw [d1, bd1_e]
  exact ⟨r, D, q, H, t, rfl, d3, d4, d5, d6⟩
end ST
