/-! ===== the model's tick ===== -/
theorem Pl.pv_first {π : Pl} (O : π.ok) {f l : Nat} (hf : f < π.nf) : π.pv l f = 1 ↔ l = π.path f 0 := by
  have hh := O.hops f hf
  constructor
  · intro h
    rcases Pl.hp_of (π := π) (f := f) (l := l) with ⟨e, _⟩ | ⟨e, e1⟩ | ⟨i, e1, e⟩
    · omega
    · have a1 := π.hp_at (f := f) (l := l) (by omega)
      rw [e1] at a1
      exact a1.symm
    · omega
  · intro h
    apply Pl.pv_1
    have e1 : hpF (π.path f) l 1 = 1 := by
      rw [hpF_s, if_neg (fun c => c rfl), if_pos h.symm]
    unfold Pl.hp
    rw [hpF_stay (k := 1) (by rw [e1]; omega) (by omega), e1]
theorem st2_sn {π : Pl} (O : π.ok) {X : Nat → Nat} {f : Nat} (hf : f < π.nf) (h0 : X (380 + f) = 0) : st2 π X (380 + f) = mvB π (π.path f 0) X f := by
  have hnf := O.nf
  have hnl := O.nl
  have hpl := O.path f 0 hf (by have := O.hops f hf; omega)
  have key : ∀ n Y, n ≤ π.nl → Y (380 + f) = 0 → it n (tkS π X) Y (380 + f) = if π.path f 0 < n then mvB π (π.path f 0) X f else 0 := by
    intro n Y
    induction n with
    | zero => intro _ h; rw [if_neg (by omega)]; exact h
    | succ n ih =>
      intro hn hY
      rw [it_s]
      unfold tkS
      rw [tkF_sn O (Nat.le_refl _) (by omega)]
      have ih := ih (by omega) hY
      unfold tkS at ih
      by_cases c : f < π.nf ∧ 0 < mvB π n X f ∧ π.pv n f ≤ 1
      · rw [if_pos c]
        have h1 : π.pv n f ≠ 0 := fun z => by have := mvB_z (X := X) f hf z; omega
        have h2 := (Pl.pv_first O hf).mp (show π.pv n f = 1 by omega)
        rw [if_pos (by omega), h2]
      · rw [if_neg c, ih]
        by_cases e : π.path f 0 = n
        · have h1 := (Pl.pv_first O hf).mpr e.symm
          have h2 : mvB π n X f = 0 := by
            by_cases z : 0 < mvB π n X f
            · exact absurd ⟨hf, z, by omega⟩ c
            · omega
          rw [if_neg (by omega), if_pos (by omega), e, h2]
        · by_cases c2 : π.path f 0 < n
          · rw [if_pos c2, if_pos (by omega)]
          · rw [if_neg c2, if_neg (by omega)]
  unfold st2
  rw [st2_e O (Nat.le_refl _), key π.nl _ (Nat.le_refl _) (by rw [smS_o O (by omega) (by omega)]; exact h0), if_pos hpl]
theorem st2_mv {π : Pl} (O : π.ok) {X : Nat → Nat} {l f : Nat} (hl : l < π.nl) (hf : f < π.nf) : st2 π X (300 + (l * 8 + f)) = mvB π l X f := by
  have hnf := O.nf
  have hnl := O.nl
  unfold st2
  rw [st2_e O (Nat.le_refl _), tkS_o O (by omega)]
  have key : ∀ n, n ≤ π.nl → l < n → it n (smS π X) X (300 + (l * 8 + f)) = mvB π l X f := by
    intro n
    induction n with
    | zero => intro _ h; omega
    | succ n ih =>
      intro hn hln
      rw [it_s]
      unfold smS
      by_cases e : l = n
      · subst e
        unfold smv
        rw [if_pos (by omega)]
        congr 1
        omega
      · rw [smv_o (by omega) (by omega)]
        exact ih (by omega) (by omega)
  exact key π.nl (Nat.le_refl _) hl
theorem e8_recAll {m : Mm} {π : Pl} {X : Nat → Nat} (R : RM m X) (P : PM m π) (O : π.ok) (hJ : J π X) (hS : Sn π X) (hG : Sg 0 X) (h21 : ∀ f, f < π.nf → m.1 21 (8 * π.path f 0 + f) = nI (X (380 + f))) : ∃ m', lp (fun s33 : Int32 × Mm => bX8_tickGoes_166 SX8 0 s33.1 s33.2) fu (nI 0, m) = some m' ∧ RM m' (st5 π X) ∧ Fr (fun o => o = 15) m m' := by
  have hnl := O.nl
  have hnf := O.nf
  have hce := O.cells
  have hti := O.ticks
  obtain ⟨m', h1, h2, _, _, _, h4⟩ := lp_F (b := fun s33 : Int32 × Mm => bX8_tickGoes_166 SX8 0 s33.1 s33.2) (fun k m1 => RM m1 (it k (rcvA π) X) ∧ J π (it k (rcvA π) X) ∧ Sn π (it k (rcvA π) X) ∧ Sg k (it k (rcvA π) X) ∧ Fr (fun o => o = 15) m m1) π.nf (m := m) (by omega) ⟨R, hJ, hS, hG, Fr.rfl⟩
    (by
      rintro k m1 hk ⟨R1, J1, S1, G1, F1⟩
      have P1 : PM m1 π := P.fr F1 (fun o ho => by omega)
      have e380 : it k (rcvA π) X (380 + k) = X (380 + k) := it_o (fun j Z hj => rcvA_o (by omega) (by omega))
      have hc : m1.1 21 (8 * π.path k 0 + k) = nI (it k (rcvA π) X (380 + k)) := by rw [F1.2 21 (by omega), e380]; exact h21 k hk
      rw [it_s]
      generalize it k (rcvA π) X = Y at *
      have hon := J1.on k (by omega)
      have hg := G1 k (Nat.le_refl _) (by omega)
      dsimp only
      unfold bX8_tickGoes_166 jX8_tickGoes_187
      simp (disch := omega) only [L0, L1, L2, L3, L4, L5, L6, L7, L8, L9, L10, L11, L12, L13, L14, L15, L16, L17, L18, L19, L20, L21, L22, L23, L24, L25, L26, L27, L28, L29, L30, L31, L32, L33, L34, L35, L36, L37, L38, L39, L40, L41, L42, L43, L44, L45, L46, L47, L48, L50, L57, L59, L60, L63, L64, L65, L70, L80, L90, L97, L100, L110, L120, L122, L128, L150, L200, L208, L216, L224, L232, L240, L248, L255, L256, L264, L272, L280, L288, L296, L297, L300, L336, L337, L500, L680, L700, L998, L999, L1000, L1024, L1999, L6403, L9999, L10000, L12345, L99999, L1000000, L214424576, L412560384, L509804544, L639025541, L642945024, L658545824, L1103515245, L2147483647, nI_add, pk_mul, narA_0, bd1_e, bd2_e, bdR_l, bdR_r, e8_flows P1, nn_le, e8_isOn R1 (show k < 8 by omega) hon, nn_eq]
      rw [if_neg (by omega)]
      by_cases e : Y (264 + k) = 1
      · obtain ⟨m2, g1, g2, g3⟩ := e8_recovers R1 P1 O hk hc (J1.rate k (by omega)) (J1.target k (by omega)) (by omega) (by omega) (by have := J1.byc k hk; omega) (by have := S1 k hk; omega) (J1.byt k hk)
        rw [if_neg (by omega), g1, bd1_e, rcvA_e1 e]
        refine ⟨_, rfl, g2, J1.rcv O hk, ?_, ?_, F1.trans g3⟩
        · intro a ha
          rw [recA_o (by omega)]; exact S1 a ha
        · intro a ha ha2
          rw [recA_o (by omega), recA_o (by omega)]; exact G1 a (by omega) ha2
      · rw [if_pos (by omega), rcvA_e0 e]
        exact ⟨_, rfl, R1, J1, S1, fun a ha ha2 => G1 a (by omega) ha2, F1⟩)
    (by
      rintro m1 ⟨R1, J1, S1, G1, F1⟩
      have P1 : PM m1 π := P.fr F1 (fun o ho => by omega)
      dsimp only
      unfold bX8_tickGoes_166
      simp (disch := omega) only [L0, L1, L2, L3, L4, L5, L6, L7, L8, L9, L10, L11, L12, L13, L14, L15, L16, L17, L18, L19, L20, L21, L22, L23, L24, L25, L26, L27, L28, L29, L30, L31, L32, L33, L34, L35, L36, L37, L38, L39, L40, L41, L42, L43, L44, L45, L46, L47, L48, L50, L57, L59, L60, L63, L64, L65, L70, L80, L90, L97, L100, L110, L120, L122, L128, L150, L200, L208, L216, L224, L232, L240, L248, L255, L256, L264, L272, L280, L288, L296, L297, L300, L336, L337, L500, L680, L700, L998, L999, L1000, L1024, L1999, L6403, L9999, L10000, L12345, L99999, L1000000, L214424576, L412560384, L509804544, L639025541, L642945024, L658545824, L1103515245, L2147483647, nI_add, pk_mul, narA_0, bd1_e, bd2_e, bdR_l, bdR_r, e8_flows P1, nn_le]
      rw [if_pos (by omega)])
  exact ⟨m', h1, h2, h4⟩
theorem e8_tick {m : Mm} {π : Pl} {X : Nat → Nat} (R : RM m X) (P : PM m π) (O : π.ok) (hK : K π X) (ht : X 296 ≤ 14000) : ∃ m', fX8_tickGoes SX8 m 0 = some m' ∧ RM m' (stepA π X) ∧ TBl m' 22 π.nf π.nl 0 (fun l f => stepA π X (300 + (l * 8 + f))) ∧ TF m m' := by
  have hnl := O.nl
  have hnf := O.nf
  have h1 := st1_J O hK.1
  have h2 := st2_W O h1.1 h1.2
  have h3 := st3_W O h2
  have h4 := st4_W O h3.1
  have hG : Sg 0 (st4 π (st3 π (st2 π (st1 π X)))) := by
    intro f _ hf
    have a := hK.2 f hf
    have d := h4.2 f hf
    rw [st3_o O (by omega), st2_o O (by omega), st1_o O (by omega), st3_o O (by omega), st2_o O (by omega), st1_o O (by omega)] at d
    omega
  obtain ⟨m1, a1, R1, F1⟩ := e8_st1 R P O hK.1
  have T1 : TF m m1 := TF.of F1 (fun o ho => Or.inl ho)
  obtain ⟨m2, a2, A2, B2, C2, F2⟩ := e8_can R1 (T1.P P) O (fun f hf => h1.1.credit f hf)
  have T2 := T1.trans (TF.of F2 (fun o ho => by omega))
  obtain ⟨m3, a3, R3, B3, F3⟩ := e8_carryAll (R1.fr F2 (by omega)) (T2.P P) O h1.1 A2 B2
  have T3 := T2.trans (TF.of F3 (fun o ho => by omega))
  have C3 : TBl m3 22 π.nf π.nl 0 (fun _ _ => 0) := C2.fr (F3.2 22 (by omega))
  obtain ⟨m4, a4, R4, F4⟩ := e8_takesOff R3 (T3.P P) O B3
  have T4 := T3.trans (TF.of F4 (fun o ho => Or.inl ho))
  have C4 : TBl m4 22 π.nf π.nl 0 (fun _ _ => 0) := C3.fr (F4.2 22 (by omega))
  have B4 : TBl m4 21 π.nf π.nl 0 (fun l f => mvB π l (st1 π X) f) := B3.fr (F4.2 21 (by omega))
  -- no notices yet
  have T5 : TF m (u1 m4 0 38 (nI 0)) := ⟨T4.1, fun o a b c => by rw [u1_other a]; exact T4.2.1 o a b c, fun j hj => by rw [u1_rn (Or.inl hj)]; exact T4.2.2 j hj⟩
  have R5 : RM (u1 m4 0 38 (nI 0)) (st2 π (st1 π X)) := R4.fr (P := fun o => o = 0) (Fr.u1 rfl) (by omega)
  have C5 : TBl (u1 m4 0 38 (nI 0)) 22 π.nf π.nl 0 (fun _ _ => 0) := C4.fr (u1_other (by omega))
  have B5 : TBl (u1 m4 0 38 (nI 0)) 21 π.nf π.nl 0 (fun l f => mvB π l (st1 π X) f) := B4.fr (u1_other (by omega))
  have N5 : NT (u1 m4 0 38 (nI 0)) [] := ⟨u1_rs, fun j q hj => by cases hj⟩
  generalize hm5 : u1 m4 0 38 (nI 0) = m5 at *
  have hM5 : ∀ l f, l < π.nl → f < π.nf → st2 π (st1 π X) (300 + (l * 8 + f)) ≤ 64 ∧ (st2 π (st1 π X) (300 + (l * 8 + f)) ≠ 0 → π.pv l f ≠ 0) := by
    intro l f hl hf
    refine ⟨(h2.2.1 l f hl hf).1, fun hz c => hz ?_⟩
    rw [st2_mv O hl hf]
    exact mvB_z f hf c
  obtain ⟨m6, a6, R6, C6, F6⟩ := e8_comesAll R5 (T5.P P) O h2.1 hM5 (fun a b hb hab => by dsimp only; rw [st2_mv O (by omega) hb]; exact B5 a b hb hab) C5
  have T6 := T5.trans (TF.of F6 (fun o ho => by omega))
  have B6 : TBl m6 21 π.nf π.nl 0 (fun l f => mvB π l (st1 π X) f) := B5.fr (F6.2 21 (by omega))
  have N6 : NT m6 [] := ⟨by rw [F6.2 0 (by omega)]; exact N5.1, fun j q hj => by cases hj⟩
  have J6 : J π (it π.nl (arrA π) (st2 π (st1 π X))) := it_inv (P := fun _ Y => J π Y) h2.1 (fun k Y hk hY => hY.arr O (by omega))
  obtain ⟨m7, a7, R7, F7⟩ := e8_asksAll R6 (T6.P P) O J6
  have T7 := T6.trans (TF.of F7 (fun o ho => Or.inl ho))
  rw [← st3_e O h2] at R7
  have C7 : TBl m7 22 π.nf π.nl 0 (fun l f => st3 π (st2 π (st1 π X)) (300 + (l * 8 + f))) := by
    intro a b hb hab
    dsimp only
    rw [F7.2 22 (by omega), st3_e O h2, it_o (F := askA) (i := 300 + (a * 8 + b)) (fun k Y hk => askA_o (by omega))]
    exact C6 a b hb hab
  have B7 : TBl m7 21 π.nf π.nl 0 (fun l f => mvB π l (st1 π X) f) := B6.fr (F7.2 21 (by omega))
  have N7 : NT m7 [] := ⟨by rw [F7.2 0 (by omega)]; exact N6.1, fun j q hj => by cases hj⟩
  obtain ⟨m8, a8, R8, N8, C8, B8, T8'⟩ := e8_samplesAll R7 (T7.P P) O h3.1.1 h3.1.2.1 N7 C7
  have T8 := T7.trans T8'
  have J8 : J π (it π.nl (sampL π) (st3 π (st2 π (st1 π X)))) := it_inv (P := fun _ Y => J π Y) h3.1.1 (fun k Y hk hY => hY.smL O hk)
  have hlen := ntL_len π (st3 π (st2 π (st1 π X))) π.nl
  obtain ⟨m9, a9, R9, F9⟩ := e8_notices R8 O J8 N8 (by omega) (fun q hq => ⟨(ntL_b hq).1.2, (ntL_b hq).2⟩)
  have T9 := T8.trans (TF.of F9 (fun o ho => Or.inl ho))
  rw [← st4_e O h3.1] at R9
  have hz : ∀ f, f < π.nf → st1 π X (380 + f) = 0 := by
    have := it_inv (n := π.nf) (F := crA) (X := X) (P := fun k Y => ∀ f, f < k → Y (380 + f) = 0) (fun f hf => by omega) (fun k Y hk hY f hf => by
      by_cases e : f = k
      · subst e; exact crA_s
      · rw [crA_o (by omega) (by omega)]; exact hY f (by omega))
    exact this
  obtain ⟨m10, a10, R10, F10⟩ := e8_recAll R9 (T9.P P) O h4.1.1 h4.1.2.2.2 hG (fun f hf => by
    have hpl := O.path f 0 hf (by have := O.hops f hf; omega)
    rw [F9.2 21 (by omega), B8, st4_o O (by omega), st3_o O (by omega), st2_sn O hf (hz f hf)]
    exact B7 (π.path f 0) f hf (Or.inl hpl))
  have T10 := T9.trans (TF.of F10 (fun o ho => Or.inl ho))
  unfold fX8_tickGoes
  simp only [L0, L1, L2, L3, L4, L5, L6, L7, L8, L9, L10, L11, L12, L13, L14, L15, L16, L17, L18, L19, L20, L21, L22, L23, L24, L25, L26, L27, L28, L29, L30, L31, L32, L33, L34, L35, L36, L37, L38, L39, L40, L41, L42, L43, L44, L45, L46, L47, L48, L50, L57, L59, L60, L63, L64, L65, L70, L80, L90, L97, L100, L110, L120, L122, L128, L150, L200, L208, L216, L224, L232, L240, L248, L255, L256, L264, L272, L280, L288, L296, L297, L300, L336, L337, L500, L680, L700, L998, L999, L1000, L1024, L1999, L6403, L9999, L10000, L12345, L99999, L1000000, L214424576, L412560384, L509804544, L639025541, L642945024, L658545824, L1103515245, L2147483647, g8_0, r8_1, r8_3, r8_4, r8_5, r8_6, r8_7, r8_8, r8_9, r8_10, r8_11, r8_12, r8_13, r8_14, r8_15, r8_26, r8_27, r8_28, r8_29, r8_30, r8_33, r8_34, r8_35, r8_36, r8_37, r8_39, r8_40, r8_41, r8_43, r8_44, r8_45, a1, a2, a3, a4, bd1_e, hm5, a6, a7, a8, a9, a10]
  simp (disch := omega) only [ldA_n s8_15, stA_n s8_15, R10.tick, nI_add, pk_mul, narA_0, bd1_e, bd2_e, bdR_l, bdR_r]
  refine ⟨_, rfl, R10.st_tick _ trivial, ?_, T10.u15⟩
  intro a b hb hab
  dsimp only
  have e1 : stepA π X (300 + (a * 8 + b)) = st3 π (st2 π (st1 π X)) (300 + (a * 8 + b)) := by
    unfold stepA
    rw [up1_o (by omega), st5_o O (by omega), st4_o O (by omega)]
  rw [e1, u1_other (by omega), F10.2 22 (by omega), F9.2 22 (by omega), C8]
  exact C7 a b hb hab
