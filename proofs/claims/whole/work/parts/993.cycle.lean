/-! ===== the first cycle and its witnesses: calls ===== -/
theorem ge0 {a : Int32} (h : ¬ nI 0 ≤ a) : a < nI 0 := by
  apply Int32.lt_iff_toInt_lt.mpr
  have c : ¬ (nI 0).toInt ≤ a.toInt := fun c => h (Int32.le_iff_toInt_le.mpr c)
  omega
theorem of_ge0 {a : Int32} (h : nI 0 ≤ a) : ∃ j, j < 2147483648 ∧ a = nI j := nI_of (x := a) (fun c => by
  have c1 := Int32.lt_iff_toInt_lt.mp c
  have c2 := Int32.le_iff_toInt_le.mp h
  have z : (0 : Int32).toInt = 0 := rfl
  have z2 : (nI 0).toInt = 0 := rfl
  omega)
theorem cyL_le {G : Nat → Nat} {n : Nat} : cyL G n ≤ n := by
  unfold cyL
  split
  · omega
  · exact ds_le
/-- both have the cycle -/
theorem cy_both {mF mM : Mm} {π : Pl} {X : Nat → Nat} {U : List (Nat → Nat)} {I : Option (Nat → Nat)} {p top tl : Nat} {B : Nat → Nat} {fc fp : Int32} (hF : SF mF π X U I p top tl B fc fp) (hM : SM mM π X U I tl B fc fp) (hK : SK π X U I tl B) : ∃ m1 m2, fX6_findFirst SX7 mF 8 p 19 = some m1 ∧ fX8_laysCycle SX8 mM 0 = some m2 ∧ Sim m1 m2 ∧ m1.1 8 4 = nI (cyL (wP π X) π.nl) ∧ m2.1 0 42 = nI (cyL (wP π X) π.nl) ∧ (∀ i, i < cyL (wP π X) π.nl → m1.1 12 i = nI (cyR (wP π X) π.nl i) ∧ m2.1 27 i = nI (cyR (wP π X) π.nl i)) ∧ PF m1 p π ∧ (∀ i, i < 297 → m1.1 19 i = nI (X i)) ∧ m1.1 0 8 = nI p ∧ PM m2 π ∧ RM m2 X := by
  have O := hK.O
  have hp := hF.hp
  obtain ⟨m1, a1, a2, a3, a4⟩ := e_findFirst hF.C hF.P O hK.K.1.1 (Or.inl rfl) hp
  obtain ⟨m2, b1, b2, b3, b4, b5⟩ := e8_laysCycle hM.R hM.P O hK.K.1.1
  refine ⟨m1, m2, a1, b1, ?_, a2, b2, fun i hi => ⟨a3 i hi, b3 i hi⟩, hF.P.fr a4 (fun o ho => by omega), fun i hi => by rw [a4.2 19 (by omega)]; exact hF.C.row i hi, by rw [a4.2 0 (by omega)]; exact hF.pl, hM.P.eq (fun o h1 h2 h3 => b4 o (by omega) (by omega)), RG.m (by rw [b4 15 (by omega) (by omega)]; exact hM.R.g)⟩
  exact Sim.of hF hM hK (fun o ho => a4.2 o (by unfold core at ho; omega)) (fun o ho => b4 o (by unfold coreM at ho; omega) (by unfold coreM at ho; omega)) (fun j hj => b5 j (by unfold coreJ at hj; omega))
theorem sim_cycle {mF mM : Mm} (S : Sim mF mM) (a : Int32) : SimC (fX7_cycle SX7 mF 0 a) (fX8_cycle SX8 mM 0 a) := by
  obtain ⟨π, X, U, I, p, top, tl, B, fc, fp, hF, hM0, hK⟩ := S
  have hM := hM0.thr (v := nI 0)
  have O := hK.O
  have hnl := hK.O.nl
  have hp := hF.hp
  have S' : Sim mF (u1 mM 0 0 (nI 0)) := ⟨π, X, U, I, p, top, tl, B, fc, fp, hF, hM, hK⟩
  unfold SimC fX7_cycle jX7_cycle_46 fX8_cycle jX8_cycle_34
  simp only [L0, L1, L2, L3, L4, L5, L6, L7, L8, L9, L10, L11, L12, L13, L14, L15, L16, L17, L18, L19, L20, L21, L22, L23, L24, L25, L26, L27, L28, L29, L30, L31, L32, L33, L34, L35, L36, L37, L38, L39, L40, L41, L42, L43, L44, L45, L46, L47, L48, L50, L57, L59, L60, L63, L64, L65, L70, L80, L90, L97, L100, L110, L120, L122, L128, L150, L200, L208, L216, L224, L232, L240, L248, L255, L256, L264, L272, L280, L288, L296, L297, L300, L336, L337, L500, L680, L700, L998, L999, L1000, L1024, L1999, L6403, L9999, L10000, L12345, L99999, L1000000, L214424576, L412560384, L509804544, L639025541, L642945024, L658545824, L1103515245, L2147483647, g8_0, r8_1, r8_3, r8_4, r8_5, r8_6, r8_7, r8_8, r8_9, r8_10, r8_11, r8_12, r8_13, r8_14, r8_15, r8_26, r8_27, r8_28, r8_29, r8_30, r8_33, r8_34, r8_35, r8_36, r8_37, r8_39, r8_40, r8_41, r8_43, r8_44, r8_45, g7_0, r7_0_3, r7_0_6, g7_8, r7_8_3, bd1_e, hF.r8]
  by_cases h : nI 0 ≤ a
  · obtain ⟨i, hi, rfl⟩ := of_ge0 h
    simp only [if_pos h]
    obtain ⟨m1, m2, a1, a2, a3, a4, a5, a6, _⟩ := cy_both hF hM hK
    have hL := cyL_le (G := wP π X) (n := π.nl)
    simp (disch := omega) only [a1, a2, bd1_e, a4, a5, nn_le]
    by_cases c : cyL (wP π X) π.nl ≤ i
    · rw [if_pos c, if_pos c]
      exact ⟨_, _, _, rfl, rfl, a3⟩
    · rw [if_neg c, if_neg c]
      simp (disch := omega) only [ldA_n s7_12, (a6 i (by omega)).1, ldA_n s8_27, (a6 i (by omega)).2, bd1_e]
      exact ⟨_, _, _, rfl, rfl, a3⟩
  · simp only [if_neg h]
    exact ⟨_, _, _, rfl, rfl, S'⟩
theorem sim_witness {mF mM : Mm} (S : Sim mF mM) (a : Int32) : SimC (fX7_witness SX7 mF 0 a) (fX8_witness SX8 mM 0 a) := by
  obtain ⟨π, X, U, I, p, top, tl, B, fc, fp, hF, hM0, hK⟩ := S
  have hM := hM0.thr (v := nI 0)
  have O := hK.O
  have hnl := hK.O.nl
  have hnf := hK.O.nf
  have hp := hF.hp
  have S' : Sim mF (u1 mM 0 0 (nI 0)) := ⟨π, X, U, I, p, top, tl, B, fc, fp, hF, hM, hK⟩
  unfold SimC fX7_witness jX7_witness_53 fX8_witness
  simp only [L0, L1, L2, L3, L4, L5, L6, L7, L8, L9, L10, L11, L12, L13, L14, L15, L16, L17, L18, L19, L20, L21, L22, L23, L24, L25, L26, L27, L28, L29, L30, L31, L32, L33, L34, L35, L36, L37, L38, L39, L40, L41, L42, L43, L44, L45, L46, L47, L48, L50, L57, L59, L60, L63, L64, L65, L70, L80, L90, L97, L100, L110, L120, L122, L128, L150, L200, L208, L216, L224, L232, L240, L248, L255, L256, L264, L272, L280, L288, L296, L297, L300, L336, L337, L500, L680, L700, L998, L999, L1000, L1024, L1999, L6403, L9999, L10000, L12345, L99999, L1000000, L214424576, L412560384, L509804544, L639025541, L642945024, L658545824, L1103515245, L2147483647, g8_0, r8_1, r8_3, r8_4, r8_5, r8_6, r8_7, r8_8, r8_9, r8_10, r8_11, r8_12, r8_13, r8_14, r8_15, r8_26, r8_27, r8_28, r8_29, r8_30, r8_33, r8_34, r8_35, r8_36, r8_37, r8_39, r8_40, r8_41, r8_43, r8_44, r8_45, g7_0, r7_0_3, r7_0_6, g7_8, bd1_e, hF.r8]
  by_cases h : nI 0 ≤ a
  · obtain ⟨i, hi, rfl⟩ := of_ge0 h
    simp only [if_pos h]
    obtain ⟨m1, m2, a1, a2, a3, a4, a5, a6, P1, a7, a8, P2, R2⟩ := cy_both hF hM hK
    have hL := cyL_le (G := wP π X) (n := π.nl)
    simp (disch := omega) only [a1, a2, bd1_e, a4, a5, nn_le, nn_lt]
    by_cases c : cyL (wP π X) π.nl ≤ i
    · rw [if_pos c, if_neg (by omega)]
      exact ⟨_, _, _, rfl, rfl, a3⟩
    · rw [if_neg c, if_pos (by omega)]
      -- there is a cycle
      have hc : cyS (wP π X) π.nl ≠ 0 := fun z => by unfold cyL at c; rw [if_pos z] at c; omega
      have eL : cyL (wP π X) π.nl = ds (Ed (wP π X)) π.nl (cyF (wP π X) π.nl) π.nl (cyF (wP π X) π.nl) := by unfold cyL; rw [if_neg hc]
      obtain ⟨f1, f2⟩ := cyF_P hnl hc
      obtain ⟨r1, r2, r3, r4⟩ := rg_P (E := Ed (wP π X)) (t := cyF (wP π X) π.nl) f1 (i := i) (by omega)
      have hnx : ∃ nx, nx < π.nl ∧ Ed (wP π X) (cyR (wP π X) π.nl i) nx = true ∧ (if i + 1 < cyL (wP π X) π.nl then cyR (wP π X) π.nl (i + 1) else cyR (wP π X) π.nl 0) = nx := by
        by_cases z : i + 1 < cyL (wP π X) π.nl
        · obtain ⟨z1, z2, _, _⟩ := r3 (by omega)
          unfold rgC at z2
          rw [Bool.and_eq_true] at z2
          exact ⟨_, z1, z2.1, by rw [if_pos z]; rfl⟩
        · exact ⟨cyF (wP π X) π.nl, f1, r4 (by omega), by rw [if_neg z]; rfl⟩
      obtain ⟨nx, n1, n2, n3⟩ := hnx
      have r1' : cyR (wP π X) π.nl i < π.nl := r1
      generalize hl : cyR (wP π X) π.nl i = l at *
      have hedge := wB_t.mp (show (wP π X l).testBit nx = true from n2)
      obtain ⟨f0, g1, g2, g3⟩ := hedge
      have g4 := of_decide_eq_true g2
      -- the least flow of them
      let q : Nat → Bool := fun f => decide (π.nx l f = nx + 1) && decide (0 < X (120 + l * 8 + f))
      have hq0 : q f0 = true := by
        show (decide (π.nx l f0 = nx + 1) && decide (0 < X (120 + l * 8 + f0))) = true
        rw [decide_eq_true (show π.nx l f0 = nx + 1 by have : π.nx l f0 - 1 = nx := g3; omega), decide_eq_true g4.2.2.1]; rfl
      have hne := ff_ex g1 hq0
      obtain ⟨k1, k2, k3⟩ := ff_P.1 hne
      have hasn : X (40 + nx) % 2 = 1 := by have := g4.2.2.2; rw [show π.nx l f0 - 1 = nx from g3] at this; exact this
      have hasl : X (40 + l) % 2 = 1 := g4.1
      have hq : ∀ f, f < π.nf → X (120 + l * 8 + f) ≤ 1999 := fun f hf => Nat.le_trans (hK.K.1.1.q.le (k := l) (g := f) (by omega) (by omega)) (hK.K.1.1.fill l (by omega))
      have hr : ldA SX7 0 m1 12 (nI i) = some (nI l) := by rw [ldA_n s7_12 (by omega) (by omega), (a6 i (by omega)).1, hl]
      have hn7 : ∀ j, j < cyL (wP π X) π.nl → ldA SX7 0 m1 12 (nI j) = some (nI (cyR (wP π X) π.nl j)) := fun j hj => by rw [ldA_n s7_12 (by omega) (by omega), (a6 j hj).1]
      have hn8 : ∀ j, j < cyL (wP π X) π.nl → ldA SX8 0 m2 27 (nI j) = some (nI (cyR (wP π X) π.nl j)) := fun j hj => by rw [ldA_n s8_27 (by omega) (by omega), (a6 j hj).2]
      have h7 : fX6_witnessOf SX7 m1 8 p 19 (nI i) = some (nI (ff q π.nf - 1)) := by
        have tail : bdR (lp (fun s5 : Int32 => bX6_witnessOf_35 SX7 m1 8 p 19 (nI l) (nI nx) s5) fu (nI 0)) (fun a7 => some a7) (fun _ => some (-nI 2)) = some (nI (ff q π.nf - 1)) := by
          obtain ⟨r, w1, w2⟩ := lp_n (b := fun s5 : Int32 => bX6_witnessOf_35 SX7 m1 8 p 19 (nI l) (nI nx) s5) (N := fu) (s0 := nI 0)
            (fun k s => s = nI k)
            (fun r => r = .inl (nI (ff q π.nf - 1)))
            (ff q π.nf - 1) rfl (by unfold fu; omega)
            (by
              rintro k s hk rfl
              have hkf : k < π.nf := by omega
              have hn := Pl.nx_lt O (l := l) (f := k) hkf
              have hqk := hq k hkf
              have hf : (decide (π.nx l k = nx + 1) && decide (0 < X (120 + l * 8 + k))) = false := k3 k hk
              refine Or.inl ⟨_, ?_, rfl⟩
              unfold bX6_witnessOf_35 jX6_witnessOf_81
              simp (disch := omega) only [L0, L1, L2, L3, L4, L5, L6, L7, L8, L9, L10, L11, L12, L13, L14, L15, L16, L17, L18, L19, L20, L21, L22, L23, L24, L25, L26, L27, L28, L29, L30, L31, L32, L33, L34, L35, L36, L37, L38, L39, L40, L41, L42, L43, L44, L45, L46, L47, L48, L50, L57, L59, L60, L63, L64, L65, L70, L80, L90, L97, L100, L110, L120, L122, L128, L150, L200, L208, L216, L224, L232, L240, L248, L255, L256, L264, L272, L280, L288, L296, L297, L300, L336, L337, L500, L680, L700, L998, L999, L1000, L1024, L1999, L6403, L9999, L10000, L12345, L99999, L1000000, L214424576, L412560384, L509804544, L639025541, L642945024, L658545824, L1103515245, L2147483647, g7_p hp, r7_p_0 hp, r7_p_1 hp, r7_p_2 hp, r7_p_3 hp, r7_p_4 hp, r7_p_5 hp, r7_p_6 hp, r7_p_7 hp, r7_p_8 hp, P1.nf, nn_le, nI_add, pk_mul, ldA_n (s7_p8 hp), P1.nx l k r1' hkf, bd1_e, ldA_n s7_19, a7]
              rw [if_neg (by omega)]
              by_cases z : π.nx l k = nx + 1
              · rw [if_neg (fun y => y (by rw [z]; rfl)), if_pos]
                rw [decide_eq_true z, Bool.true_and] at hf
                have := of_decide_eq_false hf
                omega
              · rw [if_pos]
                intro y
                by_cases z0 : π.nx l k = 0
                · rw [z0] at y
                  exact (nI_m1 (a := nx) (by omega)).mp y.symm
                · rw [nxI_p z0] at y
                  have := (nn_eq (by omega) (by omega)).mp y
                  omega)
            (by
              rintro s rfl
              have hkf : ff q π.nf - 1 < π.nf := by omega
              have hk1 : (decide (π.nx l (ff q π.nf - 1) = nx + 1) && decide (0 < X (120 + l * 8 + (ff q π.nf - 1)))) = true := k1
              rw [Bool.and_eq_true] at hk1
              have z1 := of_decide_eq_true hk1.1
              have z2 := of_decide_eq_true hk1.2
              have hqk := hq _ hkf
              unfold bX6_witnessOf_35
              simp (disch := omega) only [L0, L1, L2, L3, L4, L5, L6, L7, L8, L9, L10, L11, L12, L13, L14, L15, L16, L17, L18, L19, L20, L21, L22, L23, L24, L25, L26, L27, L28, L29, L30, L31, L32, L33, L34, L35, L36, L37, L38, L39, L40, L41, L42, L43, L44, L45, L46, L47, L48, L50, L57, L59, L60, L63, L64, L65, L70, L80, L90, L97, L100, L110, L120, L122, L128, L150, L200, L208, L216, L224, L232, L240, L248, L255, L256, L264, L272, L280, L288, L296, L297, L300, L336, L337, L500, L680, L700, L998, L999, L1000, L1024, L1999, L6403, L9999, L10000, L12345, L99999, L1000000, L214424576, L412560384, L509804544, L639025541, L642945024, L658545824, L1103515245, L2147483647, g7_p hp, r7_p_0 hp, r7_p_1 hp, r7_p_2 hp, r7_p_3 hp, r7_p_4 hp, r7_p_5 hp, r7_p_6 hp, r7_p_7 hp, r7_p_8 hp, P1.nf, nn_le, nI_add, pk_mul, ldA_n (s7_p8 hp), P1.nx l _ r1' hkf, bd1_e, ldA_n s7_19, a7]
              rw [if_neg (by omega), if_neg (fun y => y (by rw [z1]; rfl)), if_neg (by omega)]
              exact ⟨_, rfl, rfl⟩)
          rw [w1, w2]; rfl
        unfold fX6_witnessOf jX6_witnessOf_29
        simp (disch := omega) only [L0, L1, L2, L3, L4, L5, L6, L7, L8, L9, L10, L11, L12, L13, L14, L15, L16, L17, L18, L19, L20, L21, L22, L23, L24, L25, L26, L27, L28, L29, L30, L31, L32, L33, L34, L35, L36, L37, L38, L39, L40, L41, L42, L43, L44, L45, L46, L47, L48, L50, L57, L59, L60, L63, L64, L65, L70, L80, L90, L97, L100, L110, L120, L122, L128, L150, L200, L208, L216, L224, L232, L240, L248, L255, L256, L264, L272, L280, L288, L296, L297, L300, L336, L337, L500, L680, L700, L998, L999, L1000, L1024, L1999, L6403, L9999, L10000, L12345, L99999, L1000000, L214424576, L412560384, L509804544, L639025541, L642945024, L658545824, L1103515245, L2147483647, g7_8, r7_8_3, g7_p hp, hr, bd1_e, a4, nI_add, nn_le]
        by_cases z : i + 1 < cyL (wP π X) π.nl
        · rw [if_pos z] at n3
          rw [if_neg (by omega), hn7 (i + 1) z, bd1_e, n3]
          exact tail
        · rw [if_neg z] at n3
          rw [if_pos (by omega), hn7 0 (by omega), bd1_e, n3]
          exact tail
      have h8 : lp (fun s7 : Int32 => bX8_witness_42 SX8 m2 0 (nI i) (nI nx) s7) fu (nI 0) = some (nI (ff q π.nf - 1)) := by
        obtain ⟨r, w1, w2⟩ := lp_n (b := fun s7 : Int32 => bX8_witness_42 SX8 m2 0 (nI i) (nI nx) s7) (N := fu) (s0 := nI 0)
          (fun k s => s = nI k)
          (fun r => r = nI (ff q π.nf - 1))
          (ff q π.nf - 1) rfl (by unfold fu; omega)
          (by
            rintro k s hk rfl
            have hkf : k < π.nf := by omega
            have hf : (decide (π.nx l k = nx + 1) && decide (0 < X (120 + l * 8 + k))) = false := k3 k hk
            refine Or.inl ⟨_, ?_, rfl⟩
            unfold bX8_witness_42
            simp only [L0, L1, L2, L3, L4, L5, L6, L7, L8, L9, L10, L11, L12, L13, L14, L15, L16, L17, L18, L19, L20, L21, L22, L23, L24, L25, L26, L27, L28, L29, L30, L31, L32, L33, L34, L35, L36, L37, L38, L39, L40, L41, L42, L43, L44, L45, L46, L47, L48, L50, L57, L59, L60, L63, L64, L65, L70, L80, L90, L97, L100, L110, L120, L122, L128, L150, L200, L208, L216, L224, L232, L240, L248, L255, L256, L264, L272, L280, L288, L296, L297, L300, L336, L337, L500, L680, L700, L998, L999, L1000, L1024, L1999, L6403, L9999, L10000, L12345, L99999, L1000000, L214424576, L412560384, L509804544, L639025541, L642945024, L658545824, L1103515245, L2147483647, g8_0, r8_1, r8_3, r8_4, r8_5, r8_6, r8_7, r8_8, r8_9, r8_10, r8_11, r8_12, r8_13, r8_14, r8_15, r8_26, r8_27, r8_28, r8_29, r8_30, r8_33, r8_34, r8_35, r8_36, r8_37, r8_39, r8_40, r8_41, r8_43, r8_44, r8_45, hn8 i (by omega), hl, bd1_e, e8_isWaiting R2 P2 O hK.K.1.1 hkf (show l < 10 by omega) (show nx < 10 by omega), nI_add]
            rw [if_neg]
            · intro y
              apply y
              rw [if_neg]
              rintro ⟨y1, y2, y3, y4⟩
              rw [decide_eq_true y3, decide_eq_true y2] at hf
              cases hf)
          (by
            rintro s rfl
            have hkf : ff q π.nf - 1 < π.nf := by omega
            have hk1 : (decide (π.nx l (ff q π.nf - 1) = nx + 1) && decide (0 < X (120 + l * 8 + (ff q π.nf - 1)))) = true := k1
            rw [Bool.and_eq_true] at hk1
            unfold bX8_witness_42
            simp only [L0, L1, L2, L3, L4, L5, L6, L7, L8, L9, L10, L11, L12, L13, L14, L15, L16, L17, L18, L19, L20, L21, L22, L23, L24, L25, L26, L27, L28, L29, L30, L31, L32, L33, L34, L35, L36, L37, L38, L39, L40, L41, L42, L43, L44, L45, L46, L47, L48, L50, L57, L59, L60, L63, L64, L65, L70, L80, L90, L97, L100, L110, L120, L122, L128, L150, L200, L208, L216, L224, L232, L240, L248, L255, L256, L264, L272, L280, L288, L296, L297, L300, L336, L337, L500, L680, L700, L998, L999, L1000, L1024, L1999, L6403, L9999, L10000, L12345, L99999, L1000000, L214424576, L412560384, L509804544, L639025541, L642945024, L658545824, L1103515245, L2147483647, g8_0, r8_1, r8_3, r8_4, r8_5, r8_6, r8_7, r8_8, r8_9, r8_10, r8_11, r8_12, r8_13, r8_14, r8_15, r8_26, r8_27, r8_28, r8_29, r8_30, r8_33, r8_34, r8_35, r8_36, r8_37, r8_39, r8_40, r8_41, r8_43, r8_44, r8_45, hn8 i (by omega), hl, bd1_e, e8_isWaiting R2 P2 O hK.K.1.1 hkf (show l < 10 by omega) (show nx < 10 by omega)]
            rw [if_pos (⟨hasl, of_decide_eq_true hk1.2, of_decide_eq_true hk1.1, hasn⟩ : X (40 + l) % 2 = 1 ∧ 0 < X (120 + l * 8 + (ff q π.nf - 1)) ∧ π.nx l (ff q π.nf - 1) = nx + 1 ∧ X (40 + nx) % 2 = 1), if_pos n10]
            exact ⟨_, rfl, rfl⟩)
        rw [w1, w2]
      simp only [rf8 a8 hp, h7, bd1_e]
      have hmod : (i + 1) % cyL (wP π X) π.nl = if i + 1 < cyL (wP π X) π.nl then i + 1 else 0 := by
        by_cases z : i + 1 < cyL (wP π X) π.nl
        · rw [if_pos z]; exact Nat.mod_eq_of_lt z
        · rw [if_neg z, show i + 1 = cyL (wP π X) π.nl by omega, Nat.mod_self]
      simp (disch := omega) only [nI_add, rmI_n, bd1_e, hmod]
      have hthen : ldA SX8 0 m2 27 (nI (if i + 1 < cyL (wP π X) π.nl then i + 1 else 0)) = some (nI nx) := by
        by_cases z : i + 1 < cyL (wP π X) π.nl
        · rw [if_pos z] at n3 ⊢
          rw [hn8 _ z, n3]
        · rw [if_neg z] at n3 ⊢
          rw [hn8 0 (by omega), n3]
      rw [hthen, bd1_e, h8, bd1_e]
      exact ⟨_, _, _, rfl, rfl, a3⟩
  · simp only [if_neg h]
    exact ⟨_, _, _, rfl, rfl, S'⟩
