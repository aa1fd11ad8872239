/-! ===== fair shares: the class's sharing out ===== -/
theorem cnH_up {π : Pl} {H H' : Nat → Bool} {l : Nat} (hH : ∀ f, f < π.nf → H f = true → H' f = true) (hl : ∀ f, f < π.nf → onL π l f = true → H' f = true) : cnH π H + grL π H l ≤ cnH π H' := by
  unfold cnH grL
  rw [← sm_add]
  apply sm_mono
  intro f hf
  unfold grF
  cases hHf : H f with
  | true => simp [hH f hf hHf]
  | false =>
    cases ho : onL π l f with
    | true => simp [hl f hf ho]
    | false => simp
theorem cnH_all {π : Pl} {H : Nat → Bool} (h : π.nf ≤ cnH π H) : ∀ f, f < π.nf → H f = true := by
  have e : sm π.nf (fun _ => 1) = π.nf := by
    generalize π.nf = n
    induction n with
    | zero => rfl
    | succ n ih => rw [sm_s, ih]
  have hle : ∀ f, f < π.nf → (if H f = true then 1 else 0) ≤ 1 := fun f _ => by split <;> omega
  have hm := sm_mono (n := π.nf) (g := fun _ => 1) hle
  have := sm_eq (n := π.nf) (g := fun _ => 1) hle (by unfold cnH at h; omega)
  intro f hf
  have q := this f hf
  by_cases c : H f = true
  · exact c
  · rw [if_neg c] at q; omega
theorem WL.ini {π : Pl} {X : Nat → Nat} (hon : ∀ f, f < π.nf → X (264 + f) ≤ 1) : WL π X 1 (fun _ => 0) (fun f => decide (X (264 + f) = 0)) 0 := by
  have hz : ∀ l, hsL π (fun f => decide (X (264 + f) = 0)) (fun _ => 0) l = 0 := fun l => by
    have : ∀ f, f < π.nf → hsF π (fun f => decide (X (264 + f) = 0)) (fun _ => 0) l f = 0 := fun f _ => by unfold hsF; split <;> rfl
    unfold hsL
    rw [sm_congr this]
    exact sm_zero
  refine WL.mk (Nat.le_refl _) Nat.one_le_two_pow ?_ ?_ ?_ ?_
  · intro f hf hne
    have := hon f hf
    exact ⟨decide_eq_true (by omega), rfl⟩
  · intro f hf _; exact Nat.le_refl _
  · intro l hl
    rw [hz, Nat.mul_zero]
    omega
  · intro f hf h1 h2
    have := of_decide_eq_true h2
    omega
theorem e_share {m : Mm} {p : Nat} {π : Pl} {X : Nat → Nat} (hp : p = 21 ∨ p = 31) (P : PF m p π) (O : π.ok) (C : CF m 19 X) (hon : ∀ f, f < 8 → X (264 + f) ≤ 1) : ∃ m' D q H s, fX3_share SX7 m 13 p 19 = some m' ∧ HS m' π D q H ∧ WL π X D q H s ∧ (∀ l, l < π.nl → grL π H l = 0) ∧ Fr cSh m m' := by
  have hnl := O.nl
  have hnf := O.nf
  unfold fX3_share
  simp only [L0, L1, L2, L3, L4, L5, L6, L7, L8, L9, L10, L11, L12, L13, L14, L15, L16, L17, L18, L19, L20, L21, L22, L23, L24, L25, L26, L27, L28, L29, L30, L31, L32, L33, L34, L35, L36, L37, L38, L39, L40, L41, L42, L43, L44, L45, L46, L47, L48, L50, L57, L59, L60, L63, L64, L65, L70, L80, L90, L97, L100, L110, L120, L122, L128, L150, L200, L208, L216, L224, L232, L240, L248, L255, L256, L264, L272, L280, L288, L296, L297, L300, L336, L337, L500, L680, L700, L998, L999, L1000, L1024, L1999, L6403, L9999, L10000, L12345, L99999, L1000000, L214424576, L412560384, L509804544, L639025541, L642945024, L658545824, L1103515245, L2147483647, g7_0, g7_1, g7_3, g7_4, g7_8, g7_13, g7_16, r7_0_0, r7_0_1, r7_0_2, r7_0_3, r7_0_4, r7_0_5, r7_0_6, r7_0_7, r7_1_0, r7_4_0, r7_4_1, r7_4_2, r7_8_0, r7_8_1, r7_8_2, r7_8_3, r7_13_0, r7_13_1, r7_16_0, r7_16_1, g7_p hp, r7_p_0 hp, r7_p_1 hp, r7_p_2 hp, r7_p_3 hp, r7_p_4 hp, r7_p_5 hp, r7_p_6 hp, r7_p_7 hp, r7_p_8 hp, bd1_e]
  obtain ⟨y, a1, a2, a3, a4, a5⟩ := lp_F (b := fun s5 : Int32 × Mm => bX3_share_7 SX7 13 p 19 s5.1 s5.2) (fun k m1 => m1.1 13 2 = nI 1 ∧ (∀ f, f < k → m1.1 14 f = nI 0) ∧ (∀ f, f < k → m1.1 15 f = nI (bO (decide (X (264 + f) = 0)))) ∧ Fr cSh m m1) π.nf (m := u1 m 13 2 (nI 1)) (by omega)
    ⟨u1_rs, fun f hf => by omega, fun f hf => by omega, Fr.u1 (Or.inl rfl)⟩
    (by
      rintro k m1 hk ⟨b1, b2, b3, F1⟩
      have P1 := P.sh hp F1
      have e19 : m1.1 19 = m.1 19 := F1.2 19 (by unfold cSh; omega)
      have hx := hon k (by omega)
      have hr : (u1 m1 14 k (nI 0)).1 19 (264 + k) = nI (X (264 + k)) := by rw [u1_rn (Or.inr (by omega)), e19]; exact C.row _ (by omega)
      dsimp only
      unfold bX3_share_7 jX3_share_42
      simp (disch := omega) only [L0, L1, L2, L3, L4, L5, L6, L7, L8, L9, L10, L11, L12, L13, L14, L15, L16, L17, L18, L19, L20, L21, L22, L23, L24, L25, L26, L27, L28, L29, L30, L31, L32, L33, L34, L35, L36, L37, L38, L39, L40, L41, L42, L43, L44, L45, L46, L47, L48, L50, L57, L59, L60, L63, L64, L65, L70, L80, L90, L97, L100, L110, L120, L122, L128, L150, L200, L208, L216, L224, L232, L240, L248, L255, L256, L264, L272, L280, L288, L296, L297, L300, L336, L337, L500, L680, L700, L998, L999, L1000, L1024, L1999, L6403, L9999, L10000, L12345, L99999, L1000000, L214424576, L412560384, L509804544, L639025541, L642945024, L658545824, L1103515245, L2147483647, g7_0, g7_1, g7_3, g7_4, g7_8, g7_13, g7_16, r7_0_0, r7_0_1, r7_0_2, r7_0_3, r7_0_4, r7_0_5, r7_0_6, r7_0_7, r7_1_0, r7_4_0, r7_4_1, r7_4_2, r7_8_0, r7_8_1, r7_8_2, r7_8_3, r7_13_0, r7_13_1, r7_16_0, r7_16_1, nI_add, pk_mul, narA_0, bd1_e, bd2_e, bdR_l, bdR_r, P1.nf, nn_le, stA_n s7_14, narA_0, ldA_n s7_19, hr, nn_eq, stA_n s7_15, bd1_e]
      rw [if_neg (by omega)]
      by_cases c : X (264 + k) = 0
      · rw [if_neg (fun z => z c), show narA 2 (nI 1) = nI (bO true) from rfl]
        refine ⟨_, rfl, ?_, fun f hf => ?_, fun f hf => ?_, (F1.trans (Fr.u1 (Or.inr (Or.inl rfl)))).trans (Fr.u1 (Or.inr (Or.inr rfl)))⟩
        · rw [u1_rn (Or.inr (by omega)), u1_rn (Or.inr (by omega))]; exact b1
        · rw [u1_rn (Or.inr (by omega))]
          by_cases e : f = k
          · subst e; rw [u1_rs]
          · rw [u1_rn (Or.inl e)]; exact b2 f (by omega)
        · by_cases e : f = k
          · subst e; rw [u1_rs, decide_eq_true c]
          · rw [u1_rn (Or.inl e), u1_rn (Or.inr (by omega))]; exact b3 f (by omega)
      · rw [if_pos c, show narA 2 (nI 0) = nI (bO false) from rfl]
        refine ⟨_, rfl, ?_, fun f hf => ?_, fun f hf => ?_, (F1.trans (Fr.u1 (Or.inr (Or.inl rfl)))).trans (Fr.u1 (Or.inr (Or.inr rfl)))⟩
        · rw [u1_rn (Or.inr (by omega)), u1_rn (Or.inr (by omega))]; exact b1
        · rw [u1_rn (Or.inr (by omega))]
          by_cases e : f = k
          · subst e; rw [u1_rs]
          · rw [u1_rn (Or.inl e)]; exact b2 f (by omega)
        · by_cases e : f = k
          · subst e; rw [u1_rs, decide_eq_false c]
          · rw [u1_rn (Or.inl e), u1_rn (Or.inr (by omega))]; exact b3 f (by omega))
    (by
      rintro m1 ⟨b1, b2, b3, F1⟩
      have P1 := P.sh hp F1
      dsimp only
      unfold bX3_share_7
      simp (disch := omega) only [L0, L1, L2, L3, L4, L5, L6, L7, L8, L9, L10, L11, L12, L13, L14, L15, L16, L17, L18, L19, L20, L21, L22, L23, L24, L25, L26, L27, L28, L29, L30, L31, L32, L33, L34, L35, L36, L37, L38, L39, L40, L41, L42, L43, L44, L45, L46, L47, L48, L50, L57, L59, L60, L63, L64, L65, L70, L80, L90, L97, L100, L110, L120, L122, L128, L150, L200, L208, L216, L224, L232, L240, L248, L255, L256, L264, L272, L280, L288, L296, L297, L300, L336, L337, L500, L680, L700, L998, L999, L1000, L1024, L1999, L6403, L9999, L10000, L12345, L99999, L1000000, L214424576, L412560384, L509804544, L639025541, L642945024, L658545824, L1103515245, L2147483647, P1.nf, nn_le]
      rw [if_pos (by omega)])
  rw [a1, bd1_e]
  obtain ⟨r, d1, m', d2, D, q, H, s, d3, d4, d5, d6⟩ := lp_n (b := fun s10 : Int32 × Mm => bX3_share_51 SX7 13 p s10.1 s10.2) (N := fu) (s0 := (nI 0, y))
    (fun k s => s.1 = nI k ∧ ∃ D q H t, HS s.2 π D q H ∧ WL π X D q H t ∧ k ≤ cnH π H ∧ Fr cSh m s.2)
    (fun r => ∃ m', (r = .inl m' ∨ r = .inr m') ∧ ∃ D q H t, HS m' π D q H ∧ WL π X D q H t ∧ (∀ l, l < π.nl → grL π H l = 0) ∧ Fr cSh m m') 8
    ⟨rfl, 1, _, _, 0, HS.mk a2 (fun f hf _ => a3 f hf) (fun f hf => a4 f hf), WL.ini (fun f hf => hon f (by omega)), Nat.zero_le _, a5⟩ (by unfold fu; omega)
    (by
      rintro k ⟨x3, m1⟩ hk ⟨e3, D, q, H, t, b1, b2, b3, F1⟩
      dsimp only at e3 b1 F1 ⊢
      subst e3
      have P1 := P.sh hp F1
      obtain ⟨v, m2, c1, c2, c3, c4⟩ := e_first hp P1 O b1 (fun l hl => b2.b O hl)
      unfold bX3_share_51
      simp (disch := omega) only [L0, L1, L2, L3, L4, L5, L6, L7, L8, L9, L10, L11, L12, L13, L14, L15, L16, L17, L18, L19, L20, L21, L22, L23, L24, L25, L26, L27, L28, L29, L30, L31, L32, L33, L34, L35, L36, L37, L38, L39, L40, L41, L42, L43, L44, L45, L46, L47, L48, L50, L57, L59, L60, L63, L64, L65, L70, L80, L90, L97, L100, L110, L120, L122, L128, L150, L200, L208, L216, L224, L232, L240, L248, L255, L256, L264, L272, L280, L288, L296, L297, L300, L336, L337, L500, L680, L700, L998, L999, L1000, L1024, L1999, L6403, L9999, L10000, L12345, L99999, L1000000, L214424576, L412560384, L509804544, L639025541, L642945024, L658545824, L1103515245, L2147483647, nn_le, c1, bd2_e]
      rw [if_neg (by omega)]
      rcases c4 with ⟨z1, z2⟩ | ⟨l0, z1, z2, z3, z4⟩
      · rw [if_neg (fun z => z z1)]
        exact Or.inr ⟨_, rfl, m2, Or.inl rfl, D, q, H, t, c2, b2, z2, F1.trans c3⟩
      · have P2 := P1.sh hp c3
        obtain ⟨m3, k1, k2, k3⟩ := e_hold hp P2 O c2 z1 (b2.b O z1).1
        subst z2
        rw [if_pos (by rw [nI_m1 (by omega)]; exact not_false), k1, bd1_e, nI_add]
        have hH : ∀ f, f < π.nf → H f = true → hdH π H l0 f = true := fun f _ hHf => by unfold hdH; rw [hHf]; rfl
        have hO : ∀ f, f < π.nf → onL π l0 f = true → hdH π H l0 f = true := fun f _ ho => by unfold hdH; rw [ho, Bool.or_true]
        refine Or.inl ⟨_, rfl, rfl, _, _, _, _, k2, b2.up z1 z3 z4 hH hO (fun f hf h1 h2 => ?_), ?_, (F1.trans c3).trans k3⟩
        · refine ⟨l0, z1, ?_, rfl, hO⟩
          unfold hdH at h2
          rw [h1, Bool.false_or] at h2
          exact h2
        · have := cnH_up hH hO
          omega)
    (by
      rintro ⟨x3, m1⟩ ⟨e3, D, q, H, t, b1, b2, b3, F1⟩
      dsimp only at e3 b1 F1 ⊢
      subst e3
      unfold bX3_share_51
      simp (disch := omega) only [L0, L1, L2, L3, L4, L5, L6, L7, L8, L9, L10, L11, L12, L13, L14, L15, L16, L17, L18, L19, L20, L21, L22, L23, L24, L25, L26, L27, L28, L29, L30, L31, L32, L33, L34, L35, L36, L37, L38, L39, L40, L41, L42, L43, L44, L45, L46, L47, L48, L50, L57, L59, L60, L63, L64, L65, L70, L80, L90, L97, L100, L110, L120, L122, L128, L150, L200, L208, L216, L224, L232, L240, L248, L255, L256, L264, L272, L280, L288, L296, L297, L300, L336, L337, L500, L680, L700, L998, L999, L1000, L1024, L1999, L6403, L9999, L10000, L12345, L99999, L1000000, L214424576, L412560384, L509804544, L639025541, L642945024, L658545824, L1103515245, L2147483647, nn_le]
      rw [if_pos (by omega)]
      have hall := cnH_all (π := π) (H := H) (by omega)
      refine ⟨_, rfl, m1, Or.inr rfl, D, q, H, t, b1, b2, fun l hl => ?_, F1⟩
      have : ∀ f, f < π.nf → grF π H l f = 0 := fun f hf => by
        unfold grF
        rw [if_neg (by rw [hall f hf]; simp)]
      unfold grL
      rw [sm_congr this]
      exact sm_zero)
  rw [d1]
  rcases d2 with e | e
  · subst e; rw [bdR_l]; exact ⟨m', D, q, H, s, rfl, d3, d4, d5, d6⟩
  · subst e; rw [bdR_r]; exact ⟨m', D, q, H, s, rfl, d3, d4, d5, d6⟩
