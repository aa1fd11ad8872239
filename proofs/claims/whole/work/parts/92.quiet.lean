/-! ===== first times ===== -/
def ff (E : Nat → Bool) : Nat → Nat
  | 0 => 0
  | n + 1 => if ff E n ≠ 0 then ff E n else if E n = true then n + 1 else 0
theorem ff_s (E : Nat → Bool) (n : Nat) : ff E (n + 1) = if ff E n ≠ 0 then ff E n else if E n = true then n + 1 else 0 := rfl
theorem ff_stay {E : Nat → Bool} {k n : Nat} (h : ff E k ≠ 0) (hk : k ≤ n) : ff E n = ff E k := by
  induction n with
  | zero => have : k = 0 := by omega
            rw [this]
  | succ n ih =>
    by_cases e : k = n + 1
    · rw [e]
    · have := ih (by omega)
      rw [ff_s, this, if_pos h]
theorem ff_0 {E : Nat → Bool} {n : Nat} (h : ∀ j, j < n → E j = false) : ff E n = 0 := by
  induction n with
  | zero => rfl
  | succ n ih => rw [ff_s, ih (fun j hj => h j (by omega)), if_neg (fun c => c rfl), h n (by omega)]; rfl
theorem ff_1 {E : Nat → Bool} {k n : Nat} (h : ∀ j, j < k → E j = false) (hk : E k = true) (hn : k < n) : ff E n = k + 1 := by
  have e : ff E (k + 1) = k + 1 := by rw [ff_s, ff_0 h, if_neg (fun c => c rfl), if_pos hk]
  rw [ff_stay (k := k + 1) (by rw [e]; omega) (by omega), e]
def n2I : Nat → Int32
  | 0 => -nI 2
  | k + 1 => nI k
theorem lpE7 {b : Int32 × Mm → Option ((Int32 × Mm) ⊕ ((Int32 × Mm) ⊕ Mm))} {E : Nat → Bool} {m : Mm} (R : Nat → Mm → Prop) (Q : Mm → Prop) (h0 : R 0 m) (hs : ∀ k m1, k ≤ 300 → R k m1 → (E k = true → ∃ m2, b (nI k, m1) = some (.inr (.inl (nI k, m2))) ∧ Q m2) ∧ (E k = false → ∃ m2, b (nI k, m1) = some (.inl (nI (k + 1), m2)) ∧ R (k + 1) m2)) (he : ∀ m1, R 301 m1 → b (nI 301, m1) = some (.inr (.inr m1)) ∧ Q m1) : ∃ m', bdR (lp b fu (nI 0, m)) (fun a => some a) (fun y => some (-nI 2, y)) = some (n2I (ff E 301), m') ∧ Q m' := by
  obtain ⟨r, h1, h2⟩ := lp_n (b := b) (N := fu) (s0 := (nI 0, m)) (fun k s => s.1 = nI k ∧ R k s.2 ∧ ∀ j, j < k → E j = false)
    (fun r => (∃ k m', r = .inl (nI k, m') ∧ ff E 301 = k + 1 ∧ Q m') ∨ (∃ m', r = .inr m' ∧ ff E 301 = 0 ∧ Q m'))
    301 ⟨rfl, h0, fun j hj => by omega⟩ (by unfold fu; omega)
    (by
      rintro k ⟨c, m1⟩ hk ⟨e1, hR, hE⟩
      dsimp only at e1 hR
      subst e1
      obtain ⟨a1, a2⟩ := hs k m1 (by omega) hR
      cases hEk : E k with
      | true =>
        obtain ⟨m2, q1, q2⟩ := a1 hEk
        exact Or.inr ⟨_, q1, Or.inl ⟨k, m2, rfl, ff_1 hE hEk hk, q2⟩⟩
      | false =>
        obtain ⟨m2, q1, q2⟩ := a2 hEk
        exact Or.inl ⟨_, q1, rfl, q2, fun j hj => by
          by_cases e : j = k
          · subst e; exact hEk
          · exact hE j (by omega)⟩)
    (by
      rintro ⟨c, m1⟩ ⟨e1, hR, hE⟩
      dsimp only at e1 hR
      subst e1
      obtain ⟨q1, q2⟩ := he m1 hR
      exact ⟨_, q1, Or.inr ⟨m1, rfl, ff_0 hE, q2⟩⟩)
  rw [h1]
  rcases h2 with ⟨k, m', rfl, h3, h4⟩ | ⟨m', rfl, h3, h4⟩
  · rw [h3]; exact ⟨m', rfl, h4⟩
  · rw [h3]; exact ⟨m', rfl, h4⟩
theorem lpE8 {b : Int32 × Mm → Option ((Int32 × Mm) ⊕ (Int32 × Mm))} {E : Nat → Bool} {m : Mm} (R : Nat → Mm → Prop) (h0 : R 0 m) (hs : ∀ k m1, k < 300 → R k m1 → (E k = true → ∃ m2, b (nI k, m1) = some (.inr (nI k, m2)) ∧ R k m2) ∧ (E k = false → ∃ m2, b (nI k, m1) = some (.inl (nI (k + 1), m2)) ∧ R (k + 1) m2)) (he : ∀ m1, R 300 m1 → b (nI 300, m1) = some (.inr (nI 300, m1))) : ∃ k m', lp b fu (nI 0, m) = some (nI k, m') ∧ R k m' ∧ k ≤ 300 ∧ ff E 301 = (if E k = true then k + 1 else 0) := by
  obtain ⟨r, h1, k, m', h2, h3, h4, h5⟩ := lp_n (b := b) (N := fu) (s0 := (nI 0, m)) (fun k s => s.1 = nI k ∧ R k s.2 ∧ ∀ j, j < k → E j = false)
    (fun r => ∃ k m', r = (nI k, m') ∧ R k m' ∧ k ≤ 300 ∧ ff E 301 = (if E k = true then k + 1 else 0))
    300 ⟨rfl, h0, fun j hj => by omega⟩ (by unfold fu; omega)
    (by
      rintro k ⟨c, m1⟩ hk ⟨e1, hR, hE⟩
      dsimp only at e1 hR
      subst e1
      obtain ⟨a1, a2⟩ := hs k m1 hk hR
      cases hEk : E k with
      | true =>
        obtain ⟨m2, q1, q2⟩ := a1 hEk
        exact Or.inr ⟨_, q1, k, m2, rfl, q2, by omega, by rw [if_pos hEk]; exact ff_1 hE hEk (by omega)⟩
      | false =>
        obtain ⟨m2, q1, q2⟩ := a2 hEk
        exact Or.inl ⟨_, q1, rfl, q2, fun j hj => by
          by_cases e : j = k
          · subst e; exact hEk
          · exact hE j (by omega)⟩)
    (by
      rintro ⟨c, m1⟩ ⟨e1, hR, hE⟩
      dsimp only at e1 hR
      subst e1
      refine ⟨_, he m1 hR, 300, m1, rfl, hR, by omega, ?_⟩
      cases hEk : E 300 with
      | true => rw [if_pos rfl]; exact ff_1 hE hEk (by omega)
      | false =>
        rw [if_neg (by decide)]
        exact ff_0 (fun j hj => by
          by_cases e : j = 300
          · subst e; exact hEk
          · exact hE j (by omega)))
  subst h2
  exact ⟨k, m', h1, h3, h4, h5⟩
/-! when it is quiet -/
def offX (n : Nat) (X : Nat → Nat) : Nat → Nat := it n (fun f Y => upN Y (264 + f) 0) X
theorem offX_K {π : Pl} (O : π.ok) {X : Nat → Nat} (h : K2 π X) {n : Nat} (hn : n ≤ 8) : K2 π (offX n X) ∧ offX n X 296 = X 296 := by
  induction n with
  | zero => exact ⟨h, rfl⟩
  | succ n ih =>
    obtain ⟨a, b⟩ := ih (by omega)
    refine ⟨a.set O (by omega), ?_⟩
    show upN (offX n X) (264 + n) 0 296 = X 296
    rw [upN_n (by omega)]; exact b
def qE (π : Pl) (Y : Nat → Nat) : Bool := decide (sm π.nl (fun l => Y (30 + l)) = 0)
theorem e8_isEmpty {m : Mm} {π : Pl} {Y : Nat → Nat} (R : RM m Y) (P : PM m π) (O : π.ok) (hJ : J π Y) : fX8_isEmpty SX8 m 0 = some (nI (if qE π Y = true then 1 else 0)) := by
  have hnl := O.nl
  unfold fX8_isEmpty
  simp only [L0, L1, L2, L3, L4, L5, L6, L7, L8, L9, L10, L11, L12, L13, L14, L15, L16, L17, L18, L19, L20, L21, L22, L23, L24, L25, L26, L27, L28, L29, L30, L31, L32, L33, L34, L35, L36, L37, L38, L39, L40, L41, L42, L43, L44, L45, L46, L47, L48, L50, L57, L59, L60, L63, L64, L65, L70, L80, L90, L97, L100, L110, L120, L122, L128, L150, L200, L208, L216, L224, L232, L240, L248, L255, L256, L264, L272, L280, L288, L296, L297, L300, L336, L337, L500, L680, L700, L998, L999, L1000, L1024, L1999, L6403, L9999, L10000, L12345, L99999, L1000000, L214424576, L412560384, L509804544, L639025541, L642945024, L658545824, L1103515245, L2147483647, g8_0, okZ_1, bd1_e]
  obtain ⟨r, h1, h2⟩ := lp_n (b := fun s3 : Int32 => bX8_isEmpty_2 SX8 m 0 s3) (N := fu) (s0 := nI 0)
    (fun k s => s = nI k ∧ sm k (fun l => Y (30 + l)) = 0)
    (fun r => (r = .inr () ∧ qE π Y = true) ∨ (r = .inl (nI 0) ∧ qE π Y = false))
    π.nl ⟨rfl, rfl⟩ (by unfold fu; omega)
    (by
      rintro k s hk ⟨rfl, h0⟩
      have hf := hJ.fill k (by omega)
      unfold bX8_isEmpty_2
      simp (disch := omega) only [L0, L1, L2, L3, L4, L5, L6, L7, L8, L9, L10, L11, L12, L13, L14, L15, L16, L17, L18, L19, L20, L21, L22, L23, L24, L25, L26, L27, L28, L29, L30, L31, L32, L33, L34, L35, L36, L37, L38, L39, L40, L41, L42, L43, L44, L45, L46, L47, L48, L50, L57, L59, L60, L63, L64, L65, L70, L80, L90, L97, L100, L110, L120, L122, L128, L150, L200, L208, L216, L224, L232, L240, L248, L255, L256, L264, L272, L280, L288, L296, L297, L300, L336, L337, L500, L680, L700, L998, L999, L1000, L1024, L1999, L6403, L9999, L10000, L12345, L99999, L1000000, L214424576, L412560384, L509804544, L639025541, L642945024, L658545824, L1103515245, L2147483647, e8_links P, bd1_e, nn_le, e8_queueOf R hJ.q (show k < 10 by omega), okZ_0, nI_add]
      rw [if_neg (by omega)]
      by_cases c : Y (30 + k) ≤ 0
      · rw [if_pos c]
        exact Or.inl ⟨_, rfl, rfl, by rw [sm_s, h0]; omega⟩
      · rw [if_neg c]
        refine Or.inr ⟨_, rfl, Or.inr ⟨rfl, decide_eq_false ?_⟩⟩
        have := sm_le (f := fun l => Y (30 + l)) hk
        intro z
        omega)
    (by
      rintro s ⟨rfl, h0⟩
      unfold bX8_isEmpty_2
      simp (disch := omega) only [e8_links P, bd1_e, nn_le]
      rw [if_pos (by omega)]
      exact ⟨_, rfl, Or.inl ⟨rfl, decide_eq_true h0⟩⟩)
  rw [h1]
  rcases h2 with ⟨rfl, h3⟩ | ⟨rfl, h3⟩
  · rw [h3]; rfl
  · rw [h3]; rfl
theorem sim_quiet {mF mM : Mm} (S : Sim mF mM) : SimC (fX7_quiet SX7 mF 0) (fX8_quiet SX8 mM 0) := by
  obtain ⟨π, X, U, I, p, top, tl, B, fc, fp, hF, hM0, hK⟩ := S
  have hM := hM0.thr (v := nI 0)
  have hp := hF.hp
  have ht := hK.t
  have hnf := hK.O.nf
  have hnl := hK.O.nl
  have O := hK.O
  obtain ⟨m1, a1, T1⟩ := e_start hF
  obtain ⟨m2, b1, b2, b3, b4⟩ := e8_aside 16 (Or.inl rfl) hM
  have hQ := offX_K O hK.K hnf
  -- all flows off
  obtain ⟨m3, c1, c2⟩ := lp_F (b := fun s4 : Int32 × Mm => bX7_quiet_6 SX7 0 s4.1 s4.2) (fun k m3 => TR mF m3 20 p π (offX k X)) π.nf (m := m1) (by omega) T1
    (by
      intro k m3 hk T
      dsimp only
      unfold bX7_quiet_6
      simp (disch := omega) only [L0, L1, L2, L3, L4, L5, L6, L7, L8, L9, L10, L11, L12, L13, L14, L15, L16, L17, L18, L19, L20, L21, L22, L23, L24, L25, L26, L27, L28, L29, L30, L31, L32, L33, L34, L35, L36, L37, L38, L39, L40, L41, L42, L43, L44, L45, L46, L47, L48, L50, L57, L59, L60, L63, L64, L65, L70, L80, L90, L97, L100, L110, L120, L122, L128, L150, L200, L208, L216, L224, L232, L240, L248, L255, L256, L264, L272, L280, L288, L296, L297, L300, L336, L337, L500, L680, L700, L998, L999, L1000, L1024, L1999, L6403, L9999, L10000, L12345, L99999, L1000000, L214424576, L412560384, L509804544, L639025541, L642945024, L658545824, L1103515245, L2147483647, r7_0_7, rf8 T.pl hp, g7_p hp, T.P.nf, nn_le, nI_add, stA_n s7_20, narA_0, bd1_e]
      rw [if_neg (by omega)]
      exact ⟨_, rfl, T.st (Or.inr rfl) hp (by omega)⟩)
    (by
      intro m3 T
      dsimp only
      unfold bX7_quiet_6
      simp (disch := omega) only [rf8 T.pl hp, g7_p hp, T.P.nf, nn_le]
      rw [if_pos (by omega)])
  obtain ⟨m4, d1, d2, d3⟩ := lp_F (b := fun s6 : Int32 × Mm => bX8_quiet_20 SX8 0 s6.1 s6.2) (fun k m4 => RM m4 (offX k X) ∧ TX m2 m4) π.nf (m := m2) (by omega) ⟨b2, TX.rfl⟩
    (by
      rintro k m4 hk ⟨R, T⟩
      dsimp only
      unfold bX8_quiet_20
      simp (disch := omega) only [L0, L1, L2, L3, L4, L5, L6, L7, L8, L9, L10, L11, L12, L13, L14, L15, L16, L17, L18, L19, L20, L21, L22, L23, L24, L25, L26, L27, L28, L29, L30, L31, L32, L33, L34, L35, L36, L37, L38, L39, L40, L41, L42, L43, L44, L45, L46, L47, L48, L50, L57, L59, L60, L63, L64, L65, L70, L80, L90, L97, L100, L110, L120, L122, L128, L150, L200, L208, L216, L224, L232, L240, L248, L255, L256, L264, L272, L280, L288, L296, L297, L300, L336, L337, L500, L680, L700, L998, L999, L1000, L1024, L1999, L6403, L9999, L10000, L12345, L99999, L1000000, L214424576, L412560384, L509804544, L639025541, L642945024, L658545824, L1103515245, L2147483647, g8_0, r8_1, r8_3, r8_4, r8_5, r8_6, r8_7, r8_8, r8_9, r8_10, r8_11, r8_12, r8_13, r8_14, r8_15, r8_26, r8_27, r8_28, r8_29, r8_30, r8_33, r8_34, r8_35, r8_36, r8_37, r8_39, r8_40, r8_41, r8_43, r8_44, r8_45, e8_flows (T.P b3), bd1_e, nn_le, e8_flowAt, nI_add, stA_n s8_15, narA_0]
      rw [if_neg (by omega)]
      exact ⟨_, rfl, R.st_on 0 (by omega), T.u15⟩)
    (by
      rintro m4 ⟨R, T⟩
      dsimp only
      unfold bX8_quiet_20
      simp (disch := omega) only [e8_flows (T.P b3), bd1_e, nn_le]
      rw [if_pos (by omega)])
  let E : Nat → Bool := fun k => qE π (stN π (offX π.nf X) k)
  obtain ⟨m5, f1, f2⟩ := lpE7 (b := fun s9 : Int32 × Mm => bX7_quiet_36 SX7 0 s9.1 s9.2) (E := E) (m := m3) (fun k m5 => TR mF m5 20 p π (stN π (offX π.nf X) k)) (fun m5 => ∀ o, core p o → m5.1 o = mF.1 o) c2
    (by
      intro k m5 hk T
      have hKk := hQ.1.N O k
      have hsum : fX7_sum SX7 m5 20 (nI 30) (nI π.nl) = some (nI (sm π.nl (fun i => stN π (offX π.nf X) k (30 + i)))) := e_sum (fun i hi => T.C.row _ (by omega)) s7_20 (by omega) (by omega)
      have hsb : ∀ n, n ≤ π.nl → sm n (fun i => stN π (offX π.nf X) k (30 + i)) ≤ n * 1999 := by
        intro n
        induction n with
        | zero => intro _; exact Nat.le_refl _
        | succ n ih => intro h; rw [sm_s]; have := ih (by omega); have := hKk.1.1.1.fill n (by omega); omega
      have hsb := hsb π.nl (Nat.le_refl _)
      obtain ⟨m6, q1, q2⟩ := T.step O (Or.inr rfl) hp hKk.1 (by omega)
      dsimp only
      unfold bX7_quiet_36
      simp (disch := omega) only [L0, L1, L2, L3, L4, L5, L6, L7, L8, L9, L10, L11, L12, L13, L14, L15, L16, L17, L18, L19, L20, L21, L22, L23, L24, L25, L26, L27, L28, L29, L30, L31, L32, L33, L34, L35, L36, L37, L38, L39, L40, L41, L42, L43, L44, L45, L46, L47, L48, L50, L57, L59, L60, L63, L64, L65, L70, L80, L90, L97, L100, L110, L120, L122, L128, L150, L200, L208, L216, L224, L232, L240, L248, L255, L256, L264, L272, L280, L288, L296, L297, L300, L336, L337, L500, L680, L700, L998, L999, L1000, L1024, L1999, L6403, L9999, L10000, L12345, L99999, L1000000, L214424576, L412560384, L509804544, L639025541, L642945024, L658545824, L1103515245, L2147483647, nn_lt, r7_0_2, r7_0_7, rf8 T.pl hp, g7_p hp, T.P.nl, hsum, bd1_e, nn_eq, q1, nI_add]
      rw [if_neg (by omega)]
      refine ⟨fun hE => ?_, fun hE => ?_⟩
      · rw [if_neg (fun c => c (of_decide_eq_true hE))]
        exact ⟨_, rfl, T.cor hp⟩
      · rw [if_pos (of_decide_eq_false hE)]
        exact ⟨_, rfl, q2⟩)
    (by
      intro m5 T
      refine ⟨?_, T.cor hp⟩
      dsimp only
      unfold bX7_quiet_36
      simp (disch := omega) only [L0, L1, L2, L3, L4, L5, L6, L7, L8, L9, L10, L11, L12, L13, L14, L15, L16, L17, L18, L19, L20, L21, L22, L23, L24, L25, L26, L27, L28, L29, L30, L31, L32, L33, L34, L35, L36, L37, L38, L39, L40, L41, L42, L43, L44, L45, L46, L47, L48, L50, L57, L59, L60, L63, L64, L65, L70, L80, L90, L97, L100, L110, L120, L122, L128, L150, L200, L208, L216, L224, L232, L240, L248, L255, L256, L264, L272, L280, L288, L296, L297, L300, L336, L337, L500, L680, L700, L998, L999, L1000, L1024, L1999, L6403, L9999, L10000, L12345, L99999, L1000000, L214424576, L412560384, L509804544, L639025541, L642945024, L658545824, L1103515245, L2147483647, nn_lt]
      rw [if_pos (by omega)])
  obtain ⟨k, m6, g1, ⟨g2, g3⟩, g4, g5⟩ := lpE8 (b := fun s10 : Int32 × Mm => bX8_quiet_49 SX8 0 s10.1 s10.2) (E := E) (m := m4) (fun k m6 => RM m6 (stN π (offX π.nf X) k) ∧ TX m2 m6) ⟨d2, d3⟩
    (by
      rintro k m6 hk ⟨R, T⟩
      have hKk := hQ.1.N O k
      obtain ⟨m7, q1, q2, _, q4⟩ := e8_tick R (T.P b3) O hKk.1.1 (by omega)
      dsimp only
      unfold bX8_quiet_49
      simp (disch := omega) only [L0, L1, L2, L3, L4, L5, L6, L7, L8, L9, L10, L11, L12, L13, L14, L15, L16, L17, L18, L19, L20, L21, L22, L23, L24, L25, L26, L27, L28, L29, L30, L31, L32, L33, L34, L35, L36, L37, L38, L39, L40, L41, L42, L43, L44, L45, L46, L47, L48, L50, L57, L59, L60, L63, L64, L65, L70, L80, L90, L97, L100, L110, L120, L122, L128, L150, L200, L208, L216, L224, L232, L240, L248, L255, L256, L264, L272, L280, L288, L296, L297, L300, L336, L337, L500, L680, L700, L998, L999, L1000, L1024, L1999, L6403, L9999, L10000, L12345, L99999, L1000000, L214424576, L412560384, L509804544, L639025541, L642945024, L658545824, L1103515245, L2147483647, nn_le, e8_isEmpty R (T.P b3) O hKk.1.1.1, bd1_e, q1, nI_add]
      rw [if_neg (by omega)]
      refine ⟨fun hE => ?_, fun hE => ?_⟩
      · rw [show qE π (stN π (offX π.nf X) k) = true from hE, if_pos (by decide)]
        exact ⟨_, rfl, R, T⟩
      · rw [show qE π (stN π (offX π.nf X) k) = false from hE, if_neg (by decide)]
        exact ⟨_, rfl, q2, T.trans q4.X⟩)
    (by
      rintro m6 ⟨R, T⟩
      dsimp only
      unfold bX8_quiet_49
      simp (disch := omega) only [L0, L1, L2, L3, L4, L5, L6, L7, L8, L9, L10, L11, L12, L13, L14, L15, L16, L17, L18, L19, L20, L21, L22, L23, L24, L25, L26, L27, L28, L29, L30, L31, L32, L33, L34, L35, L36, L37, L38, L39, L40, L41, L42, L43, L44, L45, L46, L47, L48, L50, L57, L59, L60, L63, L64, L65, L70, L80, L90, L97, L100, L110, L120, L122, L128, L150, L200, L208, L216, L224, L232, L240, L248, L255, L256, L264, L272, L280, L288, L296, L297, L300, L336, L337, L500, L680, L700, L998, L999, L1000, L1024, L1999, L6403, L9999, L10000, L12345, L99999, L1000000, L214424576, L412560384, L509804544, L639025541, L642945024, L658545824, L1103515245, L2147483647, nn_le]
      rw [if_pos (by omega)])
  obtain ⟨m', k1, k2, _⟩ := b4 m6 g3
  have hKk := hQ.1.N O k
  have Sf : Sim m5 m' := Sim.of hF k2 hK f2 (fun _ _ => rfl) (fun _ _ => rfl)
  unfold SimC fX7_quiet fX8_quiet jX8_quiet_73 jX8_quiet_101
  simp only [L0, L1, L2, L3, L4, L5, L6, L7, L8, L9, L10, L11, L12, L13, L14, L15, L16, L17, L18, L19, L20, L21, L22, L23, L24, L25, L26, L27, L28, L29, L30, L31, L32, L33, L34, L35, L36, L37, L38, L39, L40, L41, L42, L43, L44, L45, L46, L47, L48, L50, L57, L59, L60, L63, L64, L65, L70, L80, L90, L97, L100, L110, L120, L122, L128, L150, L200, L208, L216, L224, L232, L240, L248, L255, L256, L264, L272, L280, L288, L296, L297, L300, L336, L337, L500, L680, L700, L998, L999, L1000, L1024, L1999, L6403, L9999, L10000, L12345, L99999, L1000000, L214424576, L412560384, L509804544, L639025541, L642945024, L658545824, L1103515245, L2147483647, g8_0, r8_1, r8_3, r8_4, r8_5, r8_6, r8_7, r8_8, r8_9, r8_10, r8_11, r8_12, r8_13, r8_14, r8_15, r8_26, r8_27, r8_28, r8_29, r8_30, r8_33, r8_34, r8_35, r8_36, r8_37, r8_39, r8_40, r8_41, r8_43, r8_44, r8_45, g7_0, a1, b1, bd1_e, c1, d1, f1, g1, e8_isEmpty g2 (g3.P b3) O hKk.1.1.1, k1, g5]
  cases hE : qE π (stN π (offX π.nf X) k) with
  | true =>
    rw [if_pos (show E k = true from hE)]
    exact ⟨_, _, _, rfl, rfl, Sf⟩
  | false =>
    rw [if_neg (by rw [show E k = false from hE]; decide)]
    exact ⟨_, _, _, rfl, rfl, Sf⟩
