/-! ===== fair shares: the model's least link, and who stops there ===== -/
def FS (m m' : Mm) : Prop := ∀ o, o ≠ 30 → m'.1 o = m.1 o
theorem FS.trans {m m' m'' : Mm} (h : FS m m') (h2 : FS m' m'') : FS m m'' := fun o ho => (h2 o ho).trans (h o ho)
theorem FL.s {m m' : Mm} (h : FL m m') : FS m m' := fun o _ => by rw [h.1]
theorem PM.fs {m m' : Mm} {π : Pl} (h : PM m π) (f : FS m m') : PM m' π := h.eq (fun o h1 h2 _ => f o (by omega))
theorem RM.fs {m m' : Mm} {X : Nat → Nat} (h : RM m X) (f : FS m m') : RM m' X := RG.m (by rw [f 15 (by omega)]; exact h.g)
section LS
variable {m : Mm} {π : Pl} {X : Nat → Nat} {D s : Nat} {q : Nat → Nat} {H : Nat → Bool}
theorem e8_least (P : PM m π) (R : RM m X) (O : π.ok) (hon : ∀ f, f < 8 → X (264 + f) ≤ 1) (h : HM m π D q H) (w : WL π X D q H s) : ∃ x1 x2 x4 m', lp (fun s12 : Int32 × Int64 × Int64 × Int32 × Mm => bX8_laysFair_65 SX8 0 s12.1 s12.2.1 s12.2.2.1 s12.2.2.2.1 s12.2.2.2.2) fu (nI 0, lI 0, lI 1, nI 0, m) = some (x1, x2, x4, m') ∧ FL m m' ∧ ((x1 = nI 0 ∧ ∀ l, l < π.nl → grL π H l = 0) ∨ (x1 = nI 1 ∧ ∃ l0, l0 < π.nl ∧ 0 < grL π H l0 ∧ x2 = lI (rdU (frL π D q H l0) (D * grL π H l0)) ∧ x4 = lI (rdL (frL π D q H l0) (D * grL π H l0)) ∧ ∀ l, l < π.nl → 0 < grL π H l → frL π D q H l0 * grL π H l ≤ frL π D q H l * grL π H l0)) := by
  have hnl := O.nl
  have hnf := O.nf
  have hD := w.D O
  have hd1 := w.d1
  obtain ⟨r, a1, a2, a3⟩ := lp_n (b := fun s12 : Int32 × Int64 × Int64 × Int32 × Mm => bX8_laysFair_65 SX8 0 s12.1 s12.2.1 s12.2.2.1 s12.2.2.2.1 s12.2.2.2.2) (N := fu) (s0 := (nI 0, lI 0, lI 1, nI 0, m))
    (fun k s => s.2.2.2.1 = nI k ∧ FL m s.2.2.2.2 ∧ ((s.1 = nI 0 ∧ ∀ l, l < k → grL π H l = 0) ∨ (s.1 = nI 1 ∧ ∃ l0, l0 < k ∧ 0 < grL π H l0 ∧ s.2.1 = lI (rdU (frL π D q H l0) (D * grL π H l0)) ∧ s.2.2.1 = lI (rdL (frL π D q H l0) (D * grL π H l0)) ∧ ∀ l, l < k → 0 < grL π H l → frL π D q H l0 * grL π H l ≤ frL π D q H l * grL π H l0)))
    (fun r => FL m r.2.2.2 ∧ ((r.1 = nI 0 ∧ ∀ l, l < π.nl → grL π H l = 0) ∨ (r.1 = nI 1 ∧ ∃ l0, l0 < π.nl ∧ 0 < grL π H l0 ∧ r.2.1 = lI (rdU (frL π D q H l0) (D * grL π H l0)) ∧ r.2.2.1 = lI (rdL (frL π D q H l0) (D * grL π H l0)) ∧ ∀ l, l < π.nl → 0 < grL π H l → frL π D q H l0 * grL π H l ≤ frL π D q H l * grL π H l0))) π.nl
    ⟨rfl, FL.rfl, Or.inl ⟨rfl, fun l hl => by omega⟩⟩ (by unfold fu; omega)
    (by
      rintro k ⟨x1, x2, x4, x6, m1⟩ hk ⟨e6, F1, hc⟩
      dsimp only at e6 F1 hc ⊢
      subst e6
      have P1 := P.fl F1
      obtain ⟨m2, c1, c2, c3, c4⟩ := e8_leftOf P1 (R.fl F1) O hon (h.fl F1) w hk
      have hg := grL_le π H k
      have hfk : frL π D q H k ≤ 16384 := by have := w.b O hk; unfold frL; omega
      have u1 := rdU_le (frL π D q H k) D
      have u2' := rdL_le (frL π D q H k) D
      have u3 := rdL_0 (a := frL π D q H k) (b := D) (by omega)
      have v1 := mul_b (show rdL (frL π D q H k) D ≤ 256 by omega) (show grL π H k ≤ 8 by omega)
      refine Or.inl ?_
      unfold bX8_laysFair_65 jX8_laysFair_130 jX8_laysFair_143
      simp (disch := omega) only [L0, L1, L2, L3, L4, L5, L6, L7, L8, L9, L10, L11, L12, L13, L14, L15, L16, L17, L18, L19, L20, L21, L22, L23, L24, L25, L26, L27, L28, L29, L30, L31, L32, L33, L34, L35, L36, L37, L38, L39, L40, L41, L42, L43, L44, L45, L46, L47, L48, L50, L57, L59, L60, L63, L64, L65, L70, L80, L90, L97, L100, L110, L120, L122, L128, L150, L200, L208, L216, L224, L232, L240, L248, L255, L256, L264, L272, L280, L288, L296, L297, L300, L336, L337, L500, L680, L700, L998, L999, L1000, L1024, L1999, L6403, L9999, L10000, L12345, L99999, L1000000, L214424576, L412560384, L509804544, L639025541, L642945024, L658545824, L1103515245, L2147483647, e8_links P1, bd1_e, nn_le, c1, bd2_e, nn_eq, c2, c3, nI_L, lI_mul, nI_add]
      rw [if_neg (by omega)]
      by_cases g0 : grL π H k = 0
      · rw [if_neg (fun z => z g0)]
        refine ⟨_, rfl, rfl, F1.trans c4, ?_⟩
        dsimp only
        rcases hc with ⟨z1, z2⟩ | ⟨z0, l0, z1, z5, z3, z4, z6⟩
        · refine Or.inl ⟨z1, fun l hl => ?_⟩
          by_cases e : l = k
          · subst e; exact g0
          · exact z2 l (by omega)
        · refine Or.inr ⟨z0, l0, by omega, z5, z3, z4, fun l hl hgl => ?_⟩
          by_cases e : l = k
          · subst e; omega
          · exact z6 l (by omega) hgl
      · rw [if_pos g0]
        have v2 := Nat.mul_pos u3 (show 0 < grL π H k by omega)
        obtain ⟨y1, y2⟩ := rd_by (F := frL π D q H k) (D := D) (g := grL π H k) (by omega) (by omega)
        simp (disch := omega) only [e8_tells, bd1_e, y1, y2, u2_rs, u2_rn]
        rcases hc with ⟨z1, z2⟩ | ⟨z0, l0, z1, z5, z3, z4, z6⟩
        · rw [if_pos z1]
          refine ⟨_, rfl, rfl, (F1.trans c4).trans FL.t, Or.inr ⟨rfl, k, by omega, by omega, rfl, rfl, fun l hl hgl => ?_⟩⟩
          by_cases e : l = k
          · subst e; exact Nat.le_refl _
          · have := z2 l (by omega); omega
        · have hg0 := grL_le π H l0
          have hf0 : frL π D q H l0 ≤ 16384 := by have := w.b O (show l0 < π.nl by omega); unfold frL; omega
          have w0 := mul_b (show D ≤ 256 by omega) (show grL π H l0 ≤ 8 by omega)
          have w1 := mul_b (show D ≤ 256 by omega) (show grL π H k ≤ 8 by omega)
          have w2 := rdU_le (frL π D q H l0) (D * grL π H l0)
          have w3 := rdL_le (frL π D q H l0) (D * grL π H l0)
          have w4 := rdU_le (frL π D q H k) (D * grL π H k)
          have w5 := rdL_le (frL π D q H k) (D * grL π H k)
          have w6 := mul_b (show rdU (frL π D q H k) (D * grL π H k) ≤ 16384 by omega) (show rdL (frL π D q H l0) (D * grL π H l0) ≤ 2048 by omega)
          have w7 := mul_b (show rdU (frL π D q H l0) (D * grL π H l0) ≤ 16384 by omega) (show rdL (frL π D q H k) (D * grL π H k) ≤ 2048 by omega)
          have hlt := rd_lt (a := frL π D q H k) (b := D * grL π H k) (c := frL π D q H l0) (d := D * grL π H l0) (Nat.mul_pos (by omega) (by omega)) (Nat.mul_pos (by omega) z5)
          have hcmp : frL π D q H k * (D * grL π H l0) < frL π D q H l0 * (D * grL π H k) ↔ frL π D q H k * grL π H l0 < frL π D q H l0 * grL π H k := by
            rw [Nat.mul_left_comm, Nat.mul_left_comm (frL π D q H l0)]
            exact Nat.mul_lt_mul_left (show 0 < D by omega)
          rw [z0, if_neg n10, z3, z4, lI_mul, lI_mul]
          have hlc : (lg_cmp (lI (rdU (frL π D q H k) (D * grL π H k) * rdL (frL π D q H l0) (D * grL π H l0))) (lI (rdU (frL π D q H l0) (D * grL π H l0) * rdL (frL π D q H k) (D * grL π H k))) < nI 0) ↔ frL π D q H k * grL π H l0 < frL π D q H l0 * grL π H k := by
            rw [lc_lt, lI_lt (by omega) (by omega), hlt, hcmp]
          by_cases cc : frL π D q H k * grL π H l0 < frL π D q H l0 * grL π H k
          · rw [if_pos (hlc.mpr cc)]
            refine ⟨_, rfl, rfl, (F1.trans c4).trans FL.t, Or.inr ⟨rfl, k, by omega, by omega, rfl, rfl, fun l hl hgl => ?_⟩⟩
            by_cases e : l = k
            · subst e; exact Nat.le_refl _
            · exact frac_le z5 (z6 l (by omega) hgl) cc
          · rw [if_neg (fun z => cc (hlc.mp z))]
            refine ⟨_, rfl, rfl, (F1.trans c4).trans FL.t, Or.inr ⟨rfl, l0, by omega, z5, rfl, rfl, fun l hl hgl => ?_⟩⟩
            by_cases e : l = k
            · subst e; omega
            · exact z6 l (by omega) hgl)
    (by
      rintro ⟨x1, x2, x4, x6, m1⟩ ⟨e6, F1, hc⟩
      dsimp only at e6 F1 hc ⊢
      subst e6
      have P1 := P.fl F1
      unfold bX8_laysFair_65
      simp (disch := omega) only [L0, L1, L2, L3, L4, L5, L6, L7, L8, L9, L10, L11, L12, L13, L14, L15, L16, L17, L18, L19, L20, L21, L22, L23, L24, L25, L26, L27, L28, L29, L30, L31, L32, L33, L34, L35, L36, L37, L38, L39, L40, L41, L42, L43, L44, L45, L46, L47, L48, L50, L57, L59, L60, L63, L64, L65, L70, L80, L90, L97, L100, L110, L120, L122, L128, L150, L200, L208, L216, L224, L232, L240, L248, L255, L256, L264, L272, L280, L288, L296, L297, L300, L336, L337, L500, L680, L700, L998, L999, L1000, L1024, L1999, L6403, L9999, L10000, L12345, L99999, L1000000, L214424576, L412560384, L509804544, L639025541, L642945024, L658545824, L1103515245, L2147483647, e8_links P1, bd1_e, nn_le]
      rw [if_pos (by omega)]
      exact ⟨_, rfl, F1, hc⟩)
  exact ⟨r.1, r.2.1, r.2.2.1, r.2.2.2, a1, a2, a3⟩
/-- the links that fill with one of them -/
def tiT (π : Pl) (D : Nat) (q : Nat → Nat) (H : Nat → Bool) (l0 l : Nat) : Bool := decide (0 < grL π H l ∧ frL π D q H l0 * grL π H l = frL π D q H l * grL π H l0)
theorem e8_stops6 (P : PM m π) (R : RM m X) (O : π.ok) (hon : ∀ f, f < 8 → X (264 + f) ≤ 1) (h : HM m π D q H) (w : WL π X D q H s) {l0 : Nat} (hl0 : l0 < π.nl) (hg0 : 0 < grL π H l0) : ∃ m', lp (fun s4 : Int32 × Int32 × Mm => bX8_stops_6 SX8 0 (lI (rdU (frL π D q H l0) (D * grL π H l0))) (lI (rdL (frL π D q H l0) (D * grL π H l0))) s4.1 s4.2.1 s4.2.2) fu (nI 0, nI 0, m) = some (nI (wB (tiT π D q H l0) (fun l => l) π.nl), m') ∧ FL m m' := by
  have hnl := O.nl
  have hnf := O.nf
  have hD := w.D O
  have hd1 := w.d1
  obtain ⟨r, a1, a2, a3⟩ := lp_n (b := fun s4 : Int32 × Int32 × Mm => bX8_stops_6 SX8 0 (lI (rdU (frL π D q H l0) (D * grL π H l0))) (lI (rdL (frL π D q H l0) (D * grL π H l0))) s4.1 s4.2.1 s4.2.2) (N := fu) (s0 := (nI 0, nI 0, m))
    (fun k s => s.2.1 = nI k ∧ s.1 = nI (wB (tiT π D q H l0) (fun l => l) k) ∧ FL m s.2.2)
    (fun r => r.1 = nI (wB (tiT π D q H l0) (fun l => l) π.nl) ∧ FL m r.2) π.nl
    ⟨rfl, rfl, FL.rfl⟩ (by unfold fu; omega)
    (by
      rintro k ⟨x5, x6, m1⟩ hk ⟨e6, e5, F1⟩
      dsimp only at e6 e5 F1 ⊢
      subst e6 e5
      have P1 := P.fl F1
      obtain ⟨m2, c1, c2, c3, c4⟩ := e8_leftOf P1 (R.fl F1) O hon (h.fl F1) w hk
      have hg := grL_le π H k
      have hgl0 := grL_le π H l0
      have hfk : frL π D q H k ≤ 16384 := by have := w.b O hk; unfold frL; omega
      have hf0 : frL π D q H l0 ≤ 16384 := by have := w.b O hl0; unfold frL; omega
      have u1 := rdU_le (frL π D q H k) D
      have u2' := rdL_le (frL π D q H k) D
      have w0 := mul_b (show D ≤ 256 by omega) (show grL π H l0 ≤ 8 by omega)
      have w2 := rdU_le (frL π D q H l0) (D * grL π H l0)
      have w3 := rdL_le (frL π D q H l0) (D * grL π H l0)
      have v1 := mul_b (show rdU (frL π D q H k) D ≤ 16384 by omega) (show rdL (frL π D q H l0) (D * grL π H l0) ≤ 2048 by omega)
      have v2 := mul_b (mul_b (show rdU (frL π D q H l0) (D * grL π H l0) ≤ 16384 by omega) (show rdL (frL π D q H k) D ≤ 256 by omega)) (show grL π H k ≤ 8 by omega)
      refine Or.inl ?_
      unfold bX8_stops_6 jX8_stops_57
      simp (disch := omega) only [L0, L1, L2, L3, L4, L5, L6, L7, L8, L9, L10, L11, L12, L13, L14, L15, L16, L17, L18, L19, L20, L21, L22, L23, L24, L25, L26, L27, L28, L29, L30, L31, L32, L33, L34, L35, L36, L37, L38, L39, L40, L41, L42, L43, L44, L45, L46, L47, L48, L50, L57, L59, L60, L63, L64, L65, L70, L80, L90, L97, L100, L110, L120, L122, L128, L150, L200, L208, L216, L224, L232, L240, L248, L255, L256, L264, L272, L280, L288, L296, L297, L300, L336, L337, L500, L680, L700, L998, L999, L1000, L1024, L1999, L6403, L9999, L10000, L12345, L99999, L1000000, L214424576, L412560384, L509804544, L639025541, L642945024, L658545824, L1103515245, L2147483647, e8_links P1, bd1_e, nn_le, c1, bd2_e, c2, c3, nI_L, lI_mul, lc_eq, lI_eq, nI_add, sh1 k (by omega), nI_or]
      rw [if_neg (by omega)]
      have htie := rd_tie (a := frL π D q H k) (b := D) (c := frL π D q H l0) (d := D * grL π H l0) (g := grL π H k) (by omega) (Nat.mul_pos (by omega) hg0)
      have hcmp : frL π D q H k * (D * grL π H l0) = frL π D q H l0 * D * grL π H k ↔ frL π D q H l0 * grL π H k = frL π D q H k * grL π H l0 := by
        rw [Nat.mul_left_comm, Nat.mul_comm (frL π D q H l0) D, Nat.mul_assoc D]
        exact ⟨fun z => (Nat.eq_of_mul_eq_mul_left (show 0 < D by omega) z).symm, fun z => by rw [z]⟩
      by_cases g0 : grL π H k ≤ 0
      · rw [if_pos g0]
        refine ⟨_, rfl, rfl, ?_, F1.trans c4⟩
        dsimp only
        rw [wB_s, if_neg (fun z => by have := (of_decide_eq_true z).1; omega)]
      · rw [if_neg g0]
        by_cases cc : rdU (frL π D q H k) D * rdL (frL π D q H l0) (D * grL π H l0) = rdU (frL π D q H l0) (D * grL π H l0) * rdL (frL π D q H k) D * grL π H k
        · rw [if_neg (fun z => z cc)]
          refine ⟨_, rfl, rfl, ?_, F1.trans c4⟩
          dsimp only
          rw [wB_s, if_pos (show tiT π D q H l0 k = true from decide_eq_true ⟨by omega, hcmp.mp (htie.mp cc)⟩)]
        · rw [if_pos cc]
          refine ⟨_, rfl, rfl, ?_, F1.trans c4⟩
          dsimp only
          rw [wB_s, if_neg (fun z => cc (htie.mpr (hcmp.mpr (of_decide_eq_true z).2)))])
    (by
      rintro ⟨x5, x6, m1⟩ ⟨e6, e5, F1⟩
      dsimp only at e6 e5 F1 ⊢
      subst e6 e5
      have P1 := P.fl F1
      unfold bX8_stops_6
      simp (disch := omega) only [L0, L1, L2, L3, L4, L5, L6, L7, L8, L9, L10, L11, L12, L13, L14, L15, L16, L17, L18, L19, L20, L21, L22, L23, L24, L25, L26, L27, L28, L29, L30, L31, L32, L33, L34, L35, L36, L37, L38, L39, L40, L41, L42, L43, L44, L45, L46, L47, L48, L50, L57, L59, L60, L63, L64, L65, L70, L80, L90, L97, L100, L110, L120, L122, L128, L150, L200, L208, L216, L224, L232, L240, L248, L255, L256, L264, L272, L280, L288, L296, L297, L300, L336, L337, L500, L680, L700, L998, L999, L1000, L1024, L1999, L6403, L9999, L10000, L12345, L99999, L1000000, L214424576, L412560384, L509804544, L639025541, L642945024, L658545824, L1103515245, L2147483647, e8_links P1, bd1_e, nn_le]
      rw [if_pos (by omega)]
      exact ⟨_, rfl, rfl, F1⟩)
  exact ⟨r.2, by rw [a1, ← a2], a3⟩
end LS
