/-! ===== the model: recovering, what can be carried ===== -/
theorem clA_cg {π : Pl} {f i : Nat} {X Y : Nat → Nat} (h : ∀ j, j ≠ 280 + f → X j = Y j) (hi : i ≠ 280 + f) : clA π f X i = clA π f Y i := by
  have h1 := h (208 + f) (by omega)
  have h2 := h (200 + f) (by omega)
  have h3 := h (216 + f) (by omega)
  have h4 := h (224 + f) (by omega)
  have h5 := h i hi
  unfold clA clT upN
  simp only [h1, h2, h3, h4, h5]
theorem clC_s (π : Pl) (f k : Nat) (X : Nat → Nat) : clC π f (k + 1) X = clA π f (up1 (216 + f) (clC π f k X)) := rfl
theorem e8_recovers {m : Mm} {π : Pl} {X : Nat → Nat} {f : Nat} (R : RM m X) (P : PM m π) (O : π.ok) (hf : f < π.nf) (hcar : m.1 21 (8 * π.path f 0 + f) = nI (X (380 + f))) (hr : X (200 + f) ≤ 1024) (ht : X (208 + f) ≤ 1024) (hc : X (216 + f) ≤ 1000000) (hk : X (224 + f) < 20000) (hb : X (280 + f) ≤ 999) (hs : X (380 + f) ≤ 1000) (hy : X (288 + f) < π.ticks) : ∃ m', fX8_recovers SX8 m 0 (nI f) = some m' ∧ RM m' (recA π f X) ∧ Fr (fun o => o = 15) m m' := by
  have hnf := O.nf
  have hnl := O.nl
  have h1 := O.cells
  have h2 := O.ticks
  have hf8 : f < 8 := by omega
  have hp0 : m.1 14 (5 * f) = nI (π.path f 0) := P.path f 0 hf (by have := O.hops f hf; omega)
  have hpl := O.path f 0 hf (by have := O.hops f hf; omega)
  have hd : (X (280 + f) + X (380 + f)) / π.cells ≤ X (280 + f) + X (380 + f) := Nat.div_le_self _ _
  have hdm := Nat.div_add_mod (X (280 + f) + X (380 + f)) π.cells
  have hml := Nat.mod_lt (X (280 + f) + X (380 + f)) (show 0 < π.cells by omega)
  unfold fX8_recovers
  simp (disch := omega) only [L0, L1, L2, L3, L4, L5, L6, L7, L8, L9, L10, L11, L12, L13, L14, L15, L16, L17, L18, L19, L20, L21, L22, L23, L24, L25, L26, L27, L28, L29, L30, L31, L32, L33, L34, L35, L36, L37, L38, L39, L40, L41, L42, L43, L44, L45, L46, L47, L48, L50, L57, L59, L60, L63, L64, L65, L70, L80, L90, L97, L100, L110, L120, L122, L128, L150, L200, L208, L216, L224, L232, L240, L248, L255, L256, L264, L272, L280, L288, L296, L297, L300, L336, L337, L500, L680, L700, L998, L999, L1000, L1024, L1999, L6403, L9999, L10000, L12345, L99999, L1000000, L214424576, L412560384, L509804544, L639025541, L642945024, L658545824, L1103515245, L2147483647, g8_0, r8_1, r8_3, r8_4, r8_5, r8_6, r8_7, r8_8, r8_9, r8_10, r8_11, r8_12, r8_13, r8_14, r8_15, r8_26, r8_27, r8_28, r8_29, r8_30, r8_33, r8_34, r8_35, r8_36, r8_37, r8_39, r8_40, r8_41, r8_43, r8_44, r8_45, nI_add, pk_mul, narA_0, bd1_e, bd2_e, bdR_l, bdR_r, e8_flowAt, ldA_n s8_15, R.byc f hf8, ldA_n s8_14, hp0, ldA_n s8_21, hcar, stA_n s8_15]
  obtain ⟨y, g1, g2, g3⟩ := lp_n (b := fun s14 : Mm => bX8_recovers_35 SX8 0 (nI f) (nI (240 + 12 * f)) s14) (N := fu) (s0 := u1 m 15 (240 + 12 * f + 9) (nI (X (280 + f) + X (380 + f))))
    (fun k s => RM s (upN (clC π f k X) (280 + f) (X (280 + f) + X (380 + f) - k * π.cells)) ∧ Fr (fun o => o = 15) m s)
    (fun y => RM y (upN (clC π f ((X (280 + f) + X (380 + f)) / π.cells) X) (280 + f) ((X (280 + f) + X (380 + f)) % π.cells)) ∧ Fr (fun o => o = 15) m y)
    ((X (280 + f) + X (380 + f)) / π.cells) ⟨by rw [Nat.zero_mul]; exact R.st_byc _ hf8, Fr.u1 rfl⟩ (by unfold fu; omega)
    (by
      rintro k m1 hk1 ⟨R1, F1⟩
      have hm : (k + 1) * π.cells ≤ X (280 + f) + X (380 + f) := by
        have := Nat.mul_le_mul_right π.cells (show k + 1 ≤ (X (280 + f) + X (380 + f)) / π.cells by omega)
        have := Nat.div_mul_le_self (X (280 + f) + X (380 + f)) π.cells
        omega
      rw [Nat.add_mul, Nat.one_mul] at hm
      have hb1 := clC_b (π := π) (k := k) hr ht
      have hcc := clC_c (π := π) (f := f) (k := k) (X := X)
      have hct := clC_o (π := π) (f := f) (k := k) (X := X) (j := 224 + f) (by omega) (by omega) (by omega)
      have b1 := R1.byc f hf8
      rw [upN_s] at b1
      have b2 := R1.stc f hf8
      rw [upN_n (by omega)] at b2
      refine Or.inl ?_
      unfold bX8_recovers_35
      simp (disch := omega) only [L0, L1, L2, L3, L4, L5, L6, L7, L8, L9, L10, L11, L12, L13, L14, L15, L16, L17, L18, L19, L20, L21, L22, L23, L24, L25, L26, L27, L28, L29, L30, L31, L32, L33, L34, L35, L36, L37, L38, L39, L40, L41, L42, L43, L44, L45, L46, L47, L48, L50, L57, L59, L60, L63, L64, L65, L70, L80, L90, L97, L100, L110, L120, L122, L128, L150, L200, L208, L216, L224, L232, L240, L248, L255, L256, L264, L272, L280, L288, L296, L297, L300, L336, L337, L500, L680, L700, L998, L999, L1000, L1024, L1999, L6403, L9999, L10000, L12345, L99999, L1000000, L214424576, L412560384, L509804544, L639025541, L642945024, L658545824, L1103515245, L2147483647, g8_0, r8_1, r8_3, r8_4, r8_5, r8_6, r8_7, r8_8, r8_9, r8_10, r8_11, r8_12, r8_13, r8_14, r8_15, r8_26, r8_27, r8_28, r8_29, r8_30, r8_33, r8_34, r8_35, r8_36, r8_37, r8_39, r8_40, r8_41, r8_43, r8_44, r8_45, nI_add, pk_mul, narA_0, bd1_e, bd2_e, bdR_l, bdR_r, ldA_n s8_15, b1, ldA_n s8_2, (P.fr F1 (fun o ho => by omega)).cells, nn_lt, stA_n s8_15, pk_sub, u1_rn, b2]
      rw [if_neg (by omega)]
      have R3 := (R1.st_byc (X (280 + f) + X (380 + f) - k * π.cells - π.cells) hf8).st_stc (clC π f k X (216 + f) + 1) hf8
      have F3 : Fr (fun o => o = 15) m (u1 (u1 m1 15 (240 + 12 * f + 9) (nI (X (280 + f) + X (380 + f) - k * π.cells - π.cells))) 15 (240 + 12 * f + 2) (nI (clC π f k X (216 + f) + 1))) := (F1.st rfl).st rfl
      obtain ⟨m2, h3, R4, F4⟩ := e8_climbs (π := π) R3 (P.fr F3 (fun o ho => by omega)) O hf8 (by rw [upN_n (by omega), upN_n (by omega), upN_n (by omega)]; exact hb1.1) (by rw [upN_n (by omega), upN_n (by omega), upN_n (by omega)]; exact hb1.2) (by rw [upN_s]; omega) (by rw [upN_n (by omega), upN_n (by omega), upN_n (by omega)]; omega)
      rw [h3, bd1_e]
      refine ⟨_, rfl, R4.congr (fun i hi _ => ?_), F3.trans F4⟩
      by_cases e : i = 280 + f
      · subst e
        rw [clA_o (by omega) (by omega), upN_n (by omega), upN_s, upN_s, Nat.add_mul, Nat.one_mul, Nat.sub_sub]
      · rw [upN_n e, clC_s]
        refine clA_cg (fun j hj => ?_) e
        by_cases ej : j = 216 + f
        · subst ej; rw [upN_s, up1_s]
        · rw [upN_n ej, upN_n hj, upN_n hj, up1_o ej])
    (by
      rintro m1 ⟨R1, F1⟩
      have e : X (280 + f) + X (380 + f) - (X (280 + f) + X (380 + f)) / π.cells * π.cells = (X (280 + f) + X (380 + f)) % π.cells := by
        rw [Nat.mul_comm] at hdm
        omega
      rw [e] at R1
      have b1 := R1.byc f hf8
      rw [upN_s] at b1
      unfold bX8_recovers_35
      simp (disch := omega) only [L0, L1, L2, L3, L4, L5, L6, L7, L8, L9, L10, L11, L12, L13, L14, L15, L16, L17, L18, L19, L20, L21, L22, L23, L24, L25, L26, L27, L28, L29, L30, L31, L32, L33, L34, L35, L36, L37, L38, L39, L40, L41, L42, L43, L44, L45, L46, L47, L48, L50, L57, L59, L60, L63, L64, L65, L70, L80, L90, L97, L100, L110, L120, L122, L128, L150, L200, L208, L216, L224, L232, L240, L248, L255, L256, L264, L272, L280, L288, L296, L297, L300, L336, L337, L500, L680, L700, L998, L999, L1000, L1024, L1999, L6403, L9999, L10000, L12345, L99999, L1000000, L214424576, L412560384, L509804544, L639025541, L642945024, L658545824, L1103515245, L2147483647, g8_0, r8_1, r8_3, r8_4, r8_5, r8_6, r8_7, r8_8, r8_9, r8_10, r8_11, r8_12, r8_13, r8_14, r8_15, r8_26, r8_27, r8_28, r8_29, r8_30, r8_33, r8_34, r8_35, r8_36, r8_37, r8_39, r8_40, r8_41, r8_43, r8_44, r8_45, nI_add, pk_mul, narA_0, bd1_e, bd2_e, bdR_l, bdR_r, ldA_n s8_15, b1, ldA_n s8_2, (P.fr F1 (fun o ho => by omega)).cells, nn_lt]
      rw [if_pos hml]
      exact ⟨_, rfl, R1, F1⟩)
  rw [g1, bd1_e]
  have hbC := clC_b (π := π) (f := f) (k := (X (280 + f) + X (380 + f)) / π.cells) hr ht
  have hcC := clC_c (π := π) (f := f) (k := (X (280 + f) + X (380 + f)) / π.cells) (X := X)
  have b1 := g2.byt f hf8
  rw [upN_n (by omega), clC_o (by omega) (by omega) (by omega)] at b1
  have b2 := g2.stt f hf8
  rw [upN_n (by omega), clC_o (by omega) (by omega) (by omega)] at b2
  simp (disch := omega) only [ldA_n s8_15, stA_n s8_15, b1, nI_add, pk_mul, narA_0, bd1_e, bd2_e, bdR_l, bdR_r, u1_rs, ldA_n s8_2, u1_rn, (P.fr g3 (fun o ho => by omega)).ticks, nn_le, b2]
  have Rb : RM (u1 y 15 (240 + 12 * f + 10) (nI (X (288 + f) + 1))) (rcB π f X) := by
    have := g2.st_byt (X (288 + f) + 1) hf8
    have e : rcB π f X = upN (upN (clC π f ((X (280 + f) + X (380 + f)) / π.cells) X) (280 + f) ((X (280 + f) + X (380 + f)) % π.cells)) (288 + f) (X (288 + f) + 1) := by
      unfold rcB up1
      rw [upN_n (by omega), clC_o (by omega) (by omega) (by omega)]
      rfl
    rw [e]; exact this
  rw [recA_e]
  by_cases e : X (288 + f) + 1 = π.ticks
  · rw [if_pos (by omega), if_pos e]
    have e2 : rcB π f X (224 + f) = X (224 + f) := rcB_o (by omega)
    have R5 := (Rb.st_byt 0 hf8).st_stt (X (224 + f) + 1) hf8
    have e3 : up1 (224 + f) (upN (rcB π f X) (288 + f) 0) = upN (upN (rcB π f X) (288 + f) 0) (224 + f) (X (224 + f) + 1) := by
      unfold up1
      rw [upN_n (by omega), e2]
    rw [e3]
    have F5 : Fr (fun o => o = 15) m (u1 (u1 (u1 y 15 (240 + 12 * f + 10) (nI (X (288 + f) + 1))) 15 (240 + 12 * f + 10) (nI 0)) 15 (240 + 12 * f + 2 + 1) (nI (X (224 + f) + 1))) := ((g3.st rfl).st rfl).st rfl
    have r1 : rcB π f X (200 + f) ≤ 1024 := by unfold rcB; rw [up1_o (by omega), upN_n (by omega)]; exact hbC.1
    have r2 : rcB π f X (208 + f) ≤ 1024 := by unfold rcB; rw [up1_o (by omega), upN_n (by omega)]; exact hbC.2
    have r5 : rcB π f X (216 + f) ≤ 2000000 := by unfold rcB; rw [up1_o (by omega), upN_n (by omega)]; unfold rcC; omega
    obtain ⟨m2, h3, R6, F6⟩ := e8_climbs (π := π) R5 (P.fr F5 (fun o ho => by omega)) O hf8 (by rw [upN_n (by omega), upN_n (by omega)]; exact r1) (by rw [upN_n (by omega), upN_n (by omega)]; exact r2) (by rw [upN_n (by omega), upN_n (by omega)]; omega) (by rw [upN_s]; omega)
    rw [h3, bd1_e]
    exact ⟨_, rfl, R6, F5.trans F6⟩
  · rw [if_neg (by omega), if_neg e]
    exact ⟨_, rfl, Rb, g3.st rfl⟩
/-! tables by links and flows, filled one after the other -/
def TBl (m : Mm) (c : Nat) (n L F : Nat) (g : Nat → Nat → Nat) : Prop := ∀ a b, b < n → (a < L ∨ (a = L ∧ b < F)) → m.1 c (8 * a + b) = nI (g a b)
theorem TBl.st {m : Mm} {c n L F : Nat} {g : Nat → Nat → Nat} (h : TBl m c n L F g) (hn : n ≤ 8) (hF : F < n) (v : Nat) (hv : v = g L F) : TBl (u1 m c (8 * L + F) (nI v)) c n L (F + 1) g := by
  intro a b hb hab
  by_cases e : a = L ∧ b = F
  · obtain ⟨rfl, rfl⟩ := e
    rw [u1_rs, hv]
  · rw [u1_rn (Or.inl (by omega))]
    exact h a b hb (by omega)
theorem TBl.nx {m : Mm} {c n L : Nat} {g : Nat → Nat → Nat} (h : TBl m c n L n g) : TBl m c n (L + 1) 0 g := by
  intro a b hb hab
  exact h a b hb (by omega)
theorem TBl.fr {m m' : Mm} {c n L F : Nat} {g : Nat → Nat → Nat} (h : TBl m c n L F g) (e : m'.1 c = m.1 c) : TBl m' c n L F g := by
  intro a b hb hab
  rw [e]; exact h a b hb hab
theorem Pl.pv_2 {π : Pl} {f l i : Nat} (h : π.hp f l = i + 2) : π.pv l f = π.path f i + 2 := by
  unfold Pl.pv
  rw [h, if_neg (by omega), if_neg (by omega)]
  rfl
theorem e8_can {m : Mm} {π : Pl} {X : Nat → Nat} (R : RM m X) (P : PM m π) (O : π.ok) (hc : ∀ f, f < 8 → X (272 + f) ≤ 1024) : ∃ m', fX8_laysCan SX8 m 0 = some m' ∧ TBl m' 20 π.nf π.nl 0 (fun l f => rdyV (π.pv l f) f X) ∧ TBl m' 21 π.nf π.nl 0 (fun _ _ => 0) ∧ TBl m' 22 π.nf π.nl 0 (fun _ _ => 0) ∧ Fr (fun o => o = 20 ∨ o = 21 ∨ o = 22) m m' := by
  have hnf := O.nf
  have hnl := O.nl
  unfold fX8_laysCan
  simp only [L0, L1, L2, L3, L4, L5, L6, L7, L8, L9, L10, L11, L12, L13, L14, L15, L16, L17, L18, L19, L20, L21, L22, L23, L24, L25, L26, L27, L28, L29, L30, L31, L32, L33, L34, L35, L36, L37, L38, L39, L40, L41, L42, L43, L44, L45, L46, L47, L48, L50, L57, L59, L60, L63, L64, L65, L70, L80, L90, L97, L100, L110, L120, L122, L128, L150, L200, L208, L216, L224, L232, L240, L248, L255, L256, L264, L272, L280, L288, L296, L297, L300, L336, L337, L500, L680, L700, L998, L999, L1000, L1024, L1999, L6403, L9999, L10000, L12345, L99999, L1000000, L214424576, L412560384, L509804544, L639025541, L642945024, L658545824, L1103515245, L2147483647, g8_0, r8_1, r8_3, r8_4, r8_5, r8_6, r8_7, r8_8, r8_9, r8_10, r8_11, r8_12, r8_13, r8_14, r8_15, r8_26, r8_27, r8_28, r8_29, r8_30, r8_33, r8_34, r8_35, r8_36, r8_37, r8_39, r8_40, r8_41, r8_43, r8_44, r8_45]
  obtain ⟨m', h1, h2, h3, h4, h5⟩ := lp_F (b := fun s14 : Int32 × Mm => bX8_laysCan_2 SX8 0 s14.1 s14.2) (fun l m1 => TBl m1 20 π.nf l 0 (fun l f => rdyV (π.pv l f) f X) ∧ TBl m1 21 π.nf l 0 (fun _ _ => 0) ∧ TBl m1 22 π.nf l 0 (fun _ _ => 0) ∧ Fr (fun o => o = 20 ∨ o = 21 ∨ o = 22) m m1) π.nl (m := m) (by omega) ⟨fun a b _ h => by omega, fun a b _ h => by omega, fun a b _ h => by omega, Fr.rfl⟩
    (by
      rintro l m1 hl ⟨A1, B1, C1, F1⟩
      have P1 : PM m1 π := P.fr F1 (fun o ho => by omega)
      dsimp only
      unfold bX8_laysCan_2
      simp (disch := omega) only [L0, L1, L2, L3, L4, L5, L6, L7, L8, L9, L10, L11, L12, L13, L14, L15, L16, L17, L18, L19, L20, L21, L22, L23, L24, L25, L26, L27, L28, L29, L30, L31, L32, L33, L34, L35, L36, L37, L38, L39, L40, L41, L42, L43, L44, L45, L46, L47, L48, L50, L57, L59, L60, L63, L64, L65, L70, L80, L90, L97, L100, L110, L120, L122, L128, L150, L200, L208, L216, L224, L232, L240, L248, L255, L256, L264, L272, L280, L288, L296, L297, L300, L336, L337, L500, L680, L700, L998, L999, L1000, L1024, L1999, L6403, L9999, L10000, L12345, L99999, L1000000, L214424576, L412560384, L509804544, L639025541, L642945024, L658545824, L1103515245, L2147483647, e8_links P1, nI_add, pk_mul, narA_0, bd1_e, bd2_e, bdR_l, bdR_r, nn_le]
      rw [if_neg (by omega)]
      obtain ⟨m2, g1, g2, g3, g4, g5⟩ := lp_F (b := fun s12 : Int32 × Mm => bX8_laysCan_12 SX8 0 (nI l) s12.1 s12.2) (fun f m2 => TBl m2 20 π.nf l f (fun l f => rdyV (π.pv l f) f X) ∧ TBl m2 21 π.nf l f (fun _ _ => 0) ∧ TBl m2 22 π.nf l f (fun _ _ => 0) ∧ Fr (fun o => o = 20 ∨ o = 21 ∨ o = 22) m m2) π.nf (m := m1) (by omega) ⟨A1, B1, C1, F1⟩
        (by
          rintro f m2 hf ⟨A2, B2, C2, F2⟩
          have P2 : PM m2 π := P.fr F2 (fun o ho => by omega)
          have R2 : RM m2 X := R.fr F2 (by omega)
          have hcr := hc f (by omega)
          have hle := π.hp_le f l
          have hho := O.hops f hf
          dsimp only
          unfold bX8_laysCan_12 jX8_laysCan_97
          simp (disch := omega) only [L0, L1, L2, L3, L4, L5, L6, L7, L8, L9, L10, L11, L12, L13, L14, L15, L16, L17, L18, L19, L20, L21, L22, L23, L24, L25, L26, L27, L28, L29, L30, L31, L32, L33, L34, L35, L36, L37, L38, L39, L40, L41, L42, L43, L44, L45, L46, L47, L48, L50, L57, L59, L60, L63, L64, L65, L70, L80, L90, L97, L100, L110, L120, L122, L128, L150, L200, L208, L216, L224, L232, L240, L248, L255, L256, L264, L272, L280, L288, L296, L297, L300, L336, L337, L500, L680, L700, L998, L999, L1000, L1024, L1999, L6403, L9999, L10000, L12345, L99999, L1000000, L214424576, L412560384, L509804544, L639025541, L642945024, L658545824, L1103515245, L2147483647, e8_flows P2, nI_add, pk_mul, narA_0, bd1_e, bd2_e, bdR_l, bdR_r, nn_le, e8_hopOf P2 O hf (show l < 10 by omega), g8_0, r8_1, r8_3, r8_4, r8_5, r8_6, r8_7, r8_8, r8_9, r8_10, r8_11, r8_12, r8_13, r8_14, r8_15, r8_26, r8_27, r8_28, r8_29, r8_30, r8_33, r8_34, r8_35, r8_36, r8_37, r8_39, r8_40, r8_41, r8_43, r8_44, r8_45]
          rw [if_neg (by omega)]
          have key : ∀ v, v = rdyV (π.pv l f) f X → TBl (u1 (u1 (u1 m2 20 (8 * l + f) (nI v)) 21 (8 * l + f) (nI 0)) 22 (8 * l + f) (nI 0)) 20 π.nf l (f + 1) (fun l f => rdyV (π.pv l f) f X) ∧ TBl (u1 (u1 (u1 m2 20 (8 * l + f) (nI v)) 21 (8 * l + f) (nI 0)) 22 (8 * l + f) (nI 0)) 21 π.nf l (f + 1) (fun _ _ => 0) ∧ TBl (u1 (u1 (u1 m2 20 (8 * l + f) (nI v)) 21 (8 * l + f) (nI 0)) 22 (8 * l + f) (nI 0)) 22 π.nf l (f + 1) (fun _ _ => 0) ∧ Fr (fun o => o = 20 ∨ o = 21 ∨ o = 22) m (u1 (u1 (u1 m2 20 (8 * l + f) (nI v)) 21 (8 * l + f) (nI 0)) 22 (8 * l + f) (nI 0)) := by
            intro v hv
            refine ⟨?_, ?_, ?_, ?_⟩
            · exact (A2.st hnf hf v hv).fr (by rw [u1_other (by omega), u1_other (by omega)])
            · exact TBl.fr (TBl.st (m := u1 m2 20 (8 * l + f) (nI v)) (B2.fr (u1_other (by omega))) hnf hf 0 rfl) (u1_other (by omega))
            · exact TBl.st (C2.fr (by rw [u1_other (by omega), u1_other (by omega)])) hnf hf 0 rfl
            · exact ((F2.st (Or.inl rfl)).st (Or.inr (Or.inl rfl))).st (Or.inr (Or.inr rfl))
          match hh : π.hp f l with
          | 0 =>
            rw [if_neg (fun c => c rfl)]
            simp (disch := omega) only [stA_n s8_20, nI_add, pk_mul, narA_0, bd1_e, bd2_e, bdR_l, bdR_r, stA_n s8_21, stA_n s8_22, g8_0, r8_1, r8_3, r8_4, r8_5, r8_6, r8_7, r8_8, r8_9, r8_10, r8_11, r8_12, r8_13, r8_14, r8_15, r8_26, r8_27, r8_28, r8_29, r8_30, r8_33, r8_34, r8_35, r8_36, r8_37, r8_39, r8_40, r8_41, r8_43, r8_44, r8_45]
            exact ⟨_, rfl, key 0 (by unfold Pl.pv; rw [hh]; rfl)⟩
          | 1 =>
            rw [if_pos (by decide), if_neg (fun c => c rfl)]
            simp (disch := omega) only [stA_n s8_20, nI_add, pk_mul, narA_0, bd1_e, bd2_e, bdR_l, bdR_r, stA_n s8_21, stA_n s8_22, g8_0, r8_1, r8_3, r8_4, r8_5, r8_6, r8_7, r8_8, r8_9, r8_10, r8_11, r8_12, r8_13, r8_14, r8_15, r8_26, r8_27, r8_28, r8_29, r8_30, r8_33, r8_34, r8_35, r8_36, r8_37, r8_39, r8_40, r8_41, r8_43, r8_44, r8_45, e8_flowAt, ldA_n s8_15, R2.credit f (by omega), dvI_n]
            exact ⟨_, rfl, key _ (by unfold Pl.pv; rw [hh]; rfl)⟩
          | i + 2 =>
            have hpa := O.path f i hf (by omega)
            have ei : 5 * f + (i + 1) - 1 = 5 * f + i := by omega
            rw [show nxI (i + 2) = nI (i + 1) from rfl, if_pos (by rw [nI_m1 (by omega)]; exact not_false), if_pos (by rw [nn_eq (by omega) (by omega)]; omega)]
            simp (disch := omega) only [stA_n s8_20, nI_add, pk_mul, narA_0, bd1_e, bd2_e, bdR_l, bdR_r, stA_n s8_21, stA_n s8_22, g8_0, r8_1, r8_3, r8_4, r8_5, r8_6, r8_7, r8_8, r8_9, r8_10, r8_11, r8_12, r8_13, r8_14, r8_15, r8_26, r8_27, r8_28, r8_29, r8_30, r8_33, r8_34, r8_35, r8_36, r8_37, r8_39, r8_40, r8_41, r8_43, r8_44, r8_45, pk_sub, ei, ldA_n s8_14, P2.path f i hf (by omega), ldA_n s8_15, R2.q (π.path f i) f (by omega) (by omega)]
            exact ⟨_, rfl, key _ (by rw [Pl.pv_2 hh]; rfl)⟩)
        (by
          rintro m2 ⟨A2, B2, C2, F2⟩
          have P2 : PM m2 π := P.fr F2 (fun o ho => by omega)
          dsimp only
          unfold bX8_laysCan_12
          simp (disch := omega) only [L0, L1, L2, L3, L4, L5, L6, L7, L8, L9, L10, L11, L12, L13, L14, L15, L16, L17, L18, L19, L20, L21, L22, L23, L24, L25, L26, L27, L28, L29, L30, L31, L32, L33, L34, L35, L36, L37, L38, L39, L40, L41, L42, L43, L44, L45, L46, L47, L48, L50, L57, L59, L60, L63, L64, L65, L70, L80, L90, L97, L100, L110, L120, L122, L128, L150, L200, L208, L216, L224, L232, L240, L248, L255, L256, L264, L272, L280, L288, L296, L297, L300, L336, L337, L500, L680, L700, L998, L999, L1000, L1024, L1999, L6403, L9999, L10000, L12345, L99999, L1000000, L214424576, L412560384, L509804544, L639025541, L642945024, L658545824, L1103515245, L2147483647, e8_flows P2, nI_add, pk_mul, narA_0, bd1_e, bd2_e, bdR_l, bdR_r, nn_le]
          rw [if_pos (by omega)])
      rw [g1, bd1_e]
      exact ⟨_, rfl, g2.nx, g3.nx, g4.nx, g5⟩)
    (by
      rintro m1 ⟨A1, B1, C1, F1⟩
      have P1 : PM m1 π := P.fr F1 (fun o ho => by omega)
      dsimp only
      unfold bX8_laysCan_2
      simp (disch := omega) only [L0, L1, L2, L3, L4, L5, L6, L7, L8, L9, L10, L11, L12, L13, L14, L15, L16, L17, L18, L19, L20, L21, L22, L23, L24, L25, L26, L27, L28, L29, L30, L31, L32, L33, L34, L35, L36, L37, L38, L39, L40, L41, L42, L43, L44, L45, L46, L47, L48, L50, L57, L59, L60, L63, L64, L65, L70, L80, L90, L97, L100, L110, L120, L122, L128, L150, L200, L208, L216, L224, L232, L240, L248, L255, L256, L264, L272, L280, L288, L296, L297, L300, L336, L337, L500, L680, L700, L998, L999, L1000, L1024, L1999, L6403, L9999, L10000, L12345, L99999, L1000000, L214424576, L412560384, L509804544, L639025541, L642945024, L658545824, L1103515245, L2147483647, e8_links P1, nI_add, pk_mul, narA_0, bd1_e, bd2_e, bdR_l, bdR_r, nn_le]
      rw [if_pos (by omega)])
  rw [h1, bd1_e]
  exact ⟨_, rfl, h2, h3, h4, h5⟩
