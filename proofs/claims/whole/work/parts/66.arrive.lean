/-! ===== the class's ticker: arriving, sampling ===== -/
theorem roomI {a b : Nat} (ha : a < 1073741824) (hb : b < 1073741824) : (if nI 0 < nI a - nI b then nI a - nI b else nI 0) = nI (a - b) := by
  by_cases h : b < a
  · rw [pk_sub (by omega)]
    rw [if_pos ((nn_lt (by omega) (by omega)).mpr (by omega))]
  · by_cases e : a = b
    · subst e
      rw [pk_sub (by omega), Nat.sub_self, if_neg (by rw [nn_lt (by omega) (by omega)]; omega)]
    · have h1 := pk_sneg (a := a) (b := b) hb (by omega)
      rw [if_neg (fun c => by
        have c1 := Int32.lt_iff_toInt_lt.mp c
        have c2 := Int32.lt_iff_toInt_lt.mp h1
        have z : (nI 0).toInt = 0 := rfl
        have z' : (0 : Int32).toInt = 0 := rfl
        omega), show a - b = 0 by omega]
theorem minI {a b : Nat} (ha : a < 2147483648) (hb : b < 2147483648) : (if nI a < nI b then nI a else nI b) = nI (min b a) := by
  by_cases h : a < b
  · rw [if_pos ((nn_lt ha hb).mpr h), Nat.min_eq_right (by omega)]
  · rw [if_neg (fun c => h ((nn_lt ha hb).mp c)), Nat.min_eq_left (by omega)]
theorem maxI {a b : Nat} (ha : a < 2147483648) (hb : b < 2147483648) : (if nI a < nI b then nI b else nI a) = nI (max a b) := by
  by_cases h : a < b
  · rw [if_pos ((nn_lt ha hb).mpr h), Nat.max_eq_right (by omega)]
  · rw [if_neg (fun c => h ((nn_lt ha hb).mp c)), Nat.max_eq_left (by omega)]
def inn (l f : Nat) (X : Nat → Nat) : Nat := min (X (300 + (l * 8 + f))) (X (20 + l) - X (30 + l))
def arrF (π : Pl) (l f : Nat) (X : Nat → Nat) : Nat → Nat :=
  if X (300 + (l * 8 + f)) = 0 then X
  else if π.nx l f = 0 then upN (upN X (240 + f) (X (240 + f) + X (300 + (l * 8 + f)))) (300 + (l * 8 + f)) 0
  else upN (upN (upN (upN (upN X (120 + l * 8 + f) (X (120 + l * 8 + f) + inn l f X)) (30 + l) (X (30 + l) + inn l f X)) (50 + l) (X (50 + l) + (X (300 + (l * 8 + f)) - inn l f X))) (248 + f) (X (248 + f) + (X (300 + (l * 8 + f)) - inn l f X))) (300 + (l * 8 + f)) (inn l f X)
def arrA (π : Pl) (l : Nat) (X : Nat → Nat) : Nat → Nat := upN (it π.nf (arrF π l) X) (60 + l) (max (it π.nf (arrF π l) X (60 + l)) (it π.nf (arrF π l) X (30 + l)))
theorem arrF_o {π : Pl} {l f i : Nat} {X : Nat → Nat} (h : i ≠ 240 + f ∧ i ≠ 300 + (l * 8 + f) ∧ i ≠ 120 + l * 8 + f ∧ i ≠ 30 + l ∧ i ≠ 50 + l ∧ i ≠ 248 + f) : arrF π l f X i = X i := by
  unfold arrF
  split
  · rfl
  · split
    · rw [upN_n (by omega), upN_n (by omega)]
    · rw [upN_n (by omega), upN_n (by omega), upN_n (by omega), upN_n (by omega), upN_n (by omega)]
theorem arrF_fill {π : Pl} {l f : Nat} {X : Nat → Nat} (hl : l < 10) (hf : f < 8) (h : X (30 + l) ≤ 1999) (hs : X (20 + l) ≤ 1999) : arrF π l f X (30 + l) ≤ 1999 ∧ X (30 + l) ≤ arrF π l f X (30 + l) := by
  unfold arrF
  split
  · omega
  · split
    · rw [upN_n (by omega), upN_n (by omega)]; omega
    · rw [upN_n (by omega), upN_n (by omega), upN_n (by omega), upN_s]
      unfold inn
      omega
theorem it_s {α : Type} (n : Nat) (f : Nat → α → α) (a : α) : it (n + 1) f a = f n (it n f a) := rfl
theorem arrI {π : Pl} {l : Nat} {X : Nat → Nat} (hnf : π.nf ≤ 8) (hl : l < 10) (h : X (30 + l) ≤ 1999) (hs : X (20 + l) ≤ 1999) (k : Nat) (hk : k ≤ π.nf) : it k (arrF π l) X (30 + l) ≤ 1999 ∧ it k (arrF π l) X (20 + l) ≤ 1999 ∧ it k (arrF π l) X (60 + l) = X (60 + l) ∧ ∀ f, k ≤ f → f < 8 → it k (arrF π l) X (300 + (l * 8 + f)) = X (300 + (l * 8 + f)) := by
  induction k with
  | zero => exact ⟨h, hs, rfl, fun _ _ _ => rfl⟩
  | succ k ih =>
    obtain ⟨a, b, c, d⟩ := ih (by omega)
    rw [it_s]
    refine ⟨(arrF_fill hl (by omega) a b).1, ?_, ?_, ?_⟩
    · rw [arrF_o (by omega)]; exact b
    · rw [arrF_o (by omega)]; exact c
    · intro f h1 h2
      rw [arrF_o (by omega)]; exact d f (by omega) h2
theorem e_arrive {m : Mm} {x p : Nat} {π : Pl} {X : Nat → Nat} {l : Nat} (C : CF m x X) (P : PF m p π) (O : π.ok) (hx : x = 19 ∨ x = 20) (hp : p = 21 ∨ p = 31) (hl : l < π.nl) (h30 : X (30 + l) ≤ 1999) (h20 : X (20 + l) ≤ 1999) (h60 : X (60 + l) ≤ 1999) (hmv : ∀ f, f < π.nf → X (300 + (l * 8 + f)) ≤ 64) : ∃ m', fX5_arrive SX7 m 4 p x (nI l) = some m' ∧ CF m' x (arrA π l X) ∧ Fr (fun o => o = x ∨ o = 5) m m' := by
  have hnl := O.nl
  have hnf := O.nf
  unfold fX5_arrive
  simp (disch := omega) only [L0, L1, L2, L3, L4, L5, L6, L7, L8, L9, L10, L11, L12, L13, L14, L15, L16, L17, L18, L19, L20, L21, L22, L23, L24, L25, L26, L27, L28, L29, L30, L31, L32, L33, L34, L35, L36, L37, L38, L39, L40, L41, L42, L43, L44, L45, L46, L47, L48, L50, L57, L59, L60, L63, L64, L65, L70, L80, L90, L97, L100, L110, L120, L122, L128, L150, L200, L208, L216, L224, L232, L240, L248, L255, L256, L264, L272, L280, L288, L296, L297, L300, L336, L337, L500, L680, L700, L998, L999, L1000, L1024, L1999, L6403, L9999, L10000, L12345, L99999, L1000000, L214424576, L412560384, L509804544, L639025541, L642945024, L658545824, L1103515245, L2147483647, g7_0, g7_1, g7_3, g7_4, g7_8, g7_13, g7_16, r7_0_0, r7_0_1, r7_0_2, r7_0_3, r7_0_4, r7_0_5, r7_0_6, r7_0_7, r7_1_0, r7_4_0, r7_4_1, r7_4_2, r7_8_0, r7_8_1, r7_8_2, r7_8_3, r7_13_0, r7_13_1, r7_16_0, r7_16_1, g7_p hp, r7_p_0 hp, r7_p_1 hp, r7_p_2 hp, r7_p_3 hp, r7_p_4 hp, r7_p_5 hp, r7_p_6 hp, r7_p_7 hp, r7_p_8 hp, nI_add, pk_mul, narA_0, bd1_e, bd2_e, bdR_l, bdR_r]
  obtain ⟨r, h1, h2, h3⟩ := lp_n (b := fun s17 : Int32 × Mm => bX5_arrive_9 SX7 4 p x (nI l) (nI (l * 8)) s17.1 s17.2) (N := fu) (s0 := (nI 0, m))
    (fun k s => s.1 = nI k ∧ CF s.2 x (it k (arrF π l) X) ∧ Fr (fun o => o = x ∨ o = 5) m s.2)
    (fun r => CF r x (it π.nf (arrF π l) X) ∧ Fr (fun o => o = x ∨ o = 5) m r)
    π.nf ⟨rfl, C, Fr.rfl⟩ (by unfold fu; omega)
    (by
      rintro k ⟨c, m1⟩ hk ⟨e1, C1, F1⟩
      dsimp only at e1 C1 F1 ⊢
      subst e1
      refine Or.inl ?_
      have P1 : PF m1 p π := P.fr F1 (fun o ho => by omega)
      obtain ⟨i1, i2, i3, i4⟩ := arrI (π := π) hnf (by omega) h30 h20 k (by omega)
      have i4 := i4 k (Nat.le_refl k) (by omega)
      have hmk := hmv k hk
      rw [it_s]
      generalize it k (arrF π l) X = Y at *
      have hnx := Pl.nx_lt O (l := l) (f := k) hk
      unfold bX5_arrive_9 jX5_arrive_76 jX5_arrive_177
      simp (disch := omega) only [L0, L1, L2, L3, L4, L5, L6, L7, L8, L9, L10, L11, L12, L13, L14, L15, L16, L17, L18, L19, L20, L21, L22, L23, L24, L25, L26, L27, L28, L29, L30, L31, L32, L33, L34, L35, L36, L37, L38, L39, L40, L41, L42, L43, L44, L45, L46, L47, L48, L50, L57, L59, L60, L63, L64, L65, L70, L80, L90, L97, L100, L110, L120, L122, L128, L150, L200, L208, L216, L224, L232, L240, L248, L255, L256, L264, L272, L280, L288, L296, L297, L300, L336, L337, L500, L680, L700, L998, L999, L1000, L1024, L1999, L6403, L9999, L10000, L12345, L99999, L1000000, L214424576, L412560384, L509804544, L639025541, L642945024, L658545824, L1103515245, L2147483647, g7_0, g7_1, g7_3, g7_4, g7_8, g7_13, g7_16, r7_0_0, r7_0_1, r7_0_2, r7_0_3, r7_0_4, r7_0_5, r7_0_6, r7_0_7, r7_1_0, r7_4_0, r7_4_1, r7_4_2, r7_8_0, r7_8_1, r7_8_2, r7_8_3, r7_13_0, r7_13_1, r7_16_0, r7_16_1, g7_p hp, r7_p_0 hp, r7_p_1 hp, r7_p_2 hp, r7_p_3 hp, r7_p_4 hp, r7_p_5 hp, r7_p_6 hp, r7_p_7 hp, r7_p_8 hp, nI_add, pk_mul, narA_0, bd1_e, bd2_e, bdR_l, bdR_r, P1.nf, nn_le, ldA_n s7_5, C1.mv, ldA_n (s7_p8 hp), P1.nx l k hl hk, stA_n s7_5, ldA_n (s7_x hx), stA_n (s7_x hx), C1.row, roomI, u1_rn]
      rw [if_neg (by omega)]
      unfold arrF
      by_cases e : Y (300 + (l * 8 + k)) = 0
      · have e' : Y (300 + (l * 8 + k)) ≤ 0 := by omega
        rw [if_pos e', if_pos e', if_pos e]
        exact ⟨_, rfl, rfl, C1, F1⟩
      · have e' : ¬ Y (300 + (l * 8 + k)) ≤ 0 := by omega
        rw [if_neg e', if_neg e', if_neg e]
        by_cases e2 : π.nx l k = 0
        · rw [if_neg (fun c => c (by rw [e2]; rfl)), if_pos e2]
          exact ⟨_, rfl, rfl, (C1.st _ _ hx (by omega)).stm _ 0 hx (by omega), by (repeat (refine Fr.st ?_ (by first | exact rfl | omega))); exact F1⟩
        · have e3 : nxI (π.nx l k) = nI (π.nx l k - 1) := by
            obtain ⟨j, hj⟩ : ∃ j, π.nx l k = j + 1 := ⟨π.nx l k - 1, by omega⟩
            rw [hj]; rfl
          rw [if_pos (by rw [e3, nI_m1 (by omega)]; exact not_false), if_neg e2]
          simp (disch := omega) only [minI, pk_sub, nI_add]
          refine ⟨_, rfl, rfl, ?_, by (repeat (refine Fr.st ?_ (by first | exact rfl | omega))); exact F1⟩
          exact ((((C1.st _ _ hx (by omega)).st _ _ hx (by omega)).st _ _ hx (by omega)).st _ _ hx (by omega)).stm _ _ hx (by omega))
    (by
      rintro ⟨c, m1⟩ ⟨e1, C1, F1⟩
      dsimp only at e1 C1 F1 ⊢
      subst e1
      have P1 : PF m1 p π := P.fr F1 (fun o ho => by omega)
      unfold bX5_arrive_9
      rw [if_pos (by rw [P1.nf, nn_le (by omega) (by omega)]; omega)]
      exact ⟨_, rfl, C1, F1⟩)
  rw [h1, bd1_e]
  obtain ⟨i1, i2, i3, i4⟩ := arrI (π := π) hnf (by omega) h30 h20 π.nf (Nat.le_refl _)
  simp (disch := omega) only [nI_add, pk_mul, narA_0, bd1_e, bd2_e, bdR_l, bdR_r, ldA_n (s7_x hx), stA_n (s7_x hx), h2.row, maxI]
  exact ⟨_, rfl, h2.st _ _ hx (by omega), h3.st (Or.inl rfl)⟩
/-! sampling -/
def smC (l : Nat) (X : Nat → Nat) (k : Nat) : Nat := X (100 + l) + sm k (fun f => X (300 + (l * 8 + f)))
def smM (π : Pl) (l : Nat) (X : Nat → Nat) : Nat → Nat
  | 0 => 0
  | k + 1 => if smM π l X k ≠ 0 then smM π l X k else if π.each ≤ smC l X (k + 1) then k + 1 else 0
theorem smM_s (π : Pl) (l : Nat) (X : Nat → Nat) (k : Nat) : smM π l X (k + 1) = if smM π l X k ≠ 0 then smM π l X k else if π.each ≤ smC l X (k + 1) then k + 1 else 0 := rfl
theorem smM_le (π : Pl) (l : Nat) (X : Nat → Nat) (k : Nat) : smM π l X k ≤ k := by
  induction k with
  | zero => exact Nat.le_refl _
  | succ k ih => rw [smM_s]; split <;> (try split) <;> omega
theorem smC_s (l : Nat) (X : Nat → Nat) (k : Nat) : smC l X (k + 1) = smC l X k + X (300 + (l * 8 + k)) := by
  unfold smC
  rw [sm_s]
  omega
/-- what sampling makes of a link -/
def sampL (π : Pl) (l : Nat) (X : Nat → Nat) : Nat → Nat :=
  if smM π l X π.nf = 0 then upN X (100 + l) (smC l X π.nf)
  else if ntc π (fbk π l X) = 0 then upN (up1 (70 + l) (upN X (100 + l) (smC l X π.nf % π.each))) (110 + l) (X (30 + l))
  else up1 (80 + l) (upN (up1 (70 + l) (upN X (100 + l) (smC l X π.nf % π.each))) (110 + l) (X (30 + l)))
/-- the notice that goes out: the flow and one more, and its number -/
def sampN (π : Pl) (l : Nat) (X : Nat → Nat) : Nat := if smM π l X π.nf = 0 then 0 else ntc π (fbk π l X)
def sampA (π : Pl) (l : Nat) (X : Nat → Nat) : Nat → Nat := if sampN π l X = 0 then sampL π l X else obA (smM π l X π.nf - 1) (sampN π l X) (sampL π l X)
def nxC : Nat → Int32
  | 0 => -nI 1
  | k + 1 => nI k
theorem nxC_0 {k : Nat} (h : k < 100) : (nxC k = -nI 1) ↔ k = 0 := by
  match k with
  | 0 => exact ⟨fun _ => rfl, fun _ => rfl⟩
  | k + 1 => exact ⟨fun c => absurd c (by unfold nxC; rw [nI_m1 (by omega)]; exact not_false), fun c => by omega⟩
theorem fbk_up {π : Pl} {l : Nat} {X Y : Nat → Nat} (h1 : Y (30 + l) = X (30 + l)) (h2 : Y (110 + l) = X (110 + l)) : fbk π l Y = fbk π l X := by
  unfold fbk
  rw [h1, h2]
theorem e_sample {m : Mm} {x p : Nat} {π : Pl} {X : Nat → Nat} {l : Nat} (C : CF m x X) (P : PF m p π) (O : π.ok) (hx : x = 19 ∨ x = 20) (hp : p = 21 ∨ p = 31) (hl : l < π.nl) (hc : X (100 + l) ≤ 999) (hr : ∀ f, f < 8 → X (200 + f) ≤ 1024) (hmv : ∀ f, f < π.nf → X (300 + (l * 8 + f)) ≤ 64) : ∃ m', fX5_sample SX7 m 4 p x (nI l) = some m' ∧ CF m' x (sampA π l X) ∧ Fr (fun o => o = x) m m' := by
  have hnl := O.nl
  have hnf := O.nf
  have hea := O.each
  have hsc : ∀ k, k ≤ π.nf → smC l X k ≤ 999 + k * 64 := by
    intro k
    induction k with
    | zero => intro _; unfold smC; exact hc
    | succ k ih => intro hk; rw [smC_s]; have := ih (by omega); have := hmv k (by omega); omega
  have hMle : ∀ k, smM π l X k ≤ k := smM_le π l X
  unfold fX5_sample
  simp (disch := omega) only [L0, L1, L2, L3, L4, L5, L6, L7, L8, L9, L10, L11, L12, L13, L14, L15, L16, L17, L18, L19, L20, L21, L22, L23, L24, L25, L26, L27, L28, L29, L30, L31, L32, L33, L34, L35, L36, L37, L38, L39, L40, L41, L42, L43, L44, L45, L46, L47, L48, L50, L57, L59, L60, L63, L64, L65, L70, L80, L90, L97, L100, L110, L120, L122, L128, L150, L200, L208, L216, L224, L232, L240, L248, L255, L256, L264, L272, L280, L288, L296, L297, L300, L336, L337, L500, L680, L700, L998, L999, L1000, L1024, L1999, L6403, L9999, L10000, L12345, L99999, L1000000, L214424576, L412560384, L509804544, L639025541, L642945024, L658545824, L1103515245, L2147483647, g7_0, g7_1, g7_3, g7_4, g7_8, g7_13, g7_16, r7_0_0, r7_0_1, r7_0_2, r7_0_3, r7_0_4, r7_0_5, r7_0_6, r7_0_7, r7_1_0, r7_4_0, r7_4_1, r7_4_2, r7_8_0, r7_8_1, r7_8_2, r7_8_3, r7_13_0, r7_13_1, r7_16_0, r7_16_1, g7_p hp, r7_p_0 hp, r7_p_1 hp, r7_p_2 hp, r7_p_3 hp, r7_p_4 hp, r7_p_5 hp, r7_p_6 hp, r7_p_7 hp, r7_p_8 hp, nI_add, pk_mul, narA_0, bd1_e, bd2_e, bdR_l, bdR_r, ldA_n (s7_p9 hp), ldA_n (s7_x hx), C.row, P.each]
  have hlp : lp (fun s4 : Int32 × Int32 × Int32 => bX5_sample_28 SX7 m 4 p x (nI l) (nI (l * 8)) (nI π.each) s4.1 s4.2.1 s4.2.2) fu (-nI 1, nI (X (100 + l)), nI 0) = some (nxC (smM π l X π.nf), nI (smC l X π.nf)) := by
    refine lp_f (b := fun s4 : Int32 × Int32 × Int32 => bX5_sample_28 SX7 m 4 p x (nI l) (nI (l * 8)) (nI π.each) s4.1 s4.2.1 s4.2.2) (fun k => (nxC (smM π l X k), nI (smC l X k), nI k)) π.nf (by unfold fu; omega) ?_ ?_
    · intro k hk
      have h1 := hsc k (by omega)
      have h2 := hmv k hk
      have h3 := hMle k
      dsimp only
      unfold bX5_sample_28 jX5_sample_69
      simp (disch := omega) only [L0, L1, L2, L3, L4, L5, L6, L7, L8, L9, L10, L11, L12, L13, L14, L15, L16, L17, L18, L19, L20, L21, L22, L23, L24, L25, L26, L27, L28, L29, L30, L31, L32, L33, L34, L35, L36, L37, L38, L39, L40, L41, L42, L43, L44, L45, L46, L47, L48, L50, L57, L59, L60, L63, L64, L65, L70, L80, L90, L97, L100, L110, L120, L122, L128, L150, L200, L208, L216, L224, L232, L240, L248, L255, L256, L264, L272, L280, L288, L296, L297, L300, L336, L337, L500, L680, L700, L998, L999, L1000, L1024, L1999, L6403, L9999, L10000, L12345, L99999, L1000000, L214424576, L412560384, L509804544, L639025541, L642945024, L658545824, L1103515245, L2147483647, g7_0, g7_1, g7_3, g7_4, g7_8, g7_13, g7_16, r7_0_0, r7_0_1, r7_0_2, r7_0_3, r7_0_4, r7_0_5, r7_0_6, r7_0_7, r7_1_0, r7_4_0, r7_4_1, r7_4_2, r7_8_0, r7_8_1, r7_8_2, r7_8_3, r7_13_0, r7_13_1, r7_16_0, r7_16_1, nI_add, pk_mul, narA_0, bd1_e, bd2_e, bdR_l, bdR_r, ldA_n s7_5, C.mv, P.nf, nn_le, nn_lt, nxC_0]
      rw [if_neg (by omega), smC_s, smM_s, smC_s]
      by_cases e : smM π l X k = 0
      · have e' : ¬ ¬ smM π l X k = 0 := fun c => c e
        rw [if_neg e', if_neg e']
        by_cases e2 : smC l X k + X (300 + (l * 8 + k)) < π.each
        · rw [if_pos e2, if_neg (by omega), e]
        · rw [if_neg e2, if_pos (show π.each ≤ smC l X k + X (300 + (l * 8 + k)) by omega)]
          rfl
      · rw [if_pos e, if_pos e]
    · dsimp only
      unfold bX5_sample_28
      rw [if_pos (by rw [P.nf, nn_le (by omega) (by omega)]; omega)]
  rw [hlp, bd1_e]
  have hcn := hsc π.nf (Nat.le_refl _)
  have hMn := hMle π.nf
  have C6 := C.st (100 + l) (smC l X π.nf) hx (by omega)
  simp (disch := omega) only [stA_n (s7_x hx), nI_add, pk_mul, narA_0, bd1_e, bd2_e, bdR_l, bdR_r, nn_lt, nxC_0]
  unfold sampA sampN sampL
  by_cases e : smM π l X π.nf = 0
  · rw [if_pos e]
    simp only [if_pos e]
    unfold jX5_sample_94
    exact ⟨_, rfl, C6, Fr.u1 rfl⟩
  · rw [if_neg e, if_pos (by omega)]
    simp only [if_neg e]
    have C8 := C6.st (100 + l) (smC l X π.nf % π.each) hx (by omega)
    have hmod := Nat.mod_lt (smC l X π.nf) (show 0 < π.each by omega)
    have C8' := C8.congr (Y := upN X (100 + l) (smC l X π.nf % π.each)) (fun i _ => by
      unfold upN
      by_cases c : i = 100 + l
      · rw [if_pos c, if_pos c]
      · rw [if_neg c, if_neg c, if_neg c])
    clear C8
    have C10 := C8'.up1 (i := 70 + l) hx (by omega)
    have F10 : Fr (fun o => o = x) m (u1 (u1 (u1 m x (100 + l) (nI (smC l X π.nf))) x (100 + l) (nI (smC l X π.nf % π.each))) x (70 + l) (nI (upN X (100 + l) (smC l X π.nf % π.each) (70 + l) + 1))) := by (repeat (refine Fr.st ?_ (by first | exact rfl | omega))); exact Fr.rfl
    have P10 := P.frx F10 hx hp
    have hfb : fbk π l (up1 (70 + l) (upN X (100 + l) (smC l X π.nf % π.each))) = fbk π l X := fbk_up (by unfold up1; rw [upN_n (by omega), upN_n (by omega)]) (by unfold up1; rw [upN_n (by omega), upN_n (by omega)])
    have h30 : up1 (70 + l) (upN X (100 + l) (smC l X π.nf % π.each)) (30 + l) = X (30 + l) := by unfold up1; rw [upN_n (by omega), upN_n (by omega)]
    have C14 := C10.st (110 + l) (X (30 + l)) hx (by omega)
    have hle := ntc_le π (fbk π l X)
    simp (disch := omega) only [rmI_n, nI_add, pk_mul, narA_0, bd1_e, bd2_e, bdR_l, bdR_r, stA_n (s7_x hx), ldA_n (s7_x hx), C8'.row, e_feedbackOf C10 P10 hx hp (show l < 10 by omega), hfb, e_noticeOf P10 O hp, C10.row, h30, nn_le, C14.row]
    by_cases e2 : ntc π (fbk π l X) = 0
    · rw [if_pos (by omega), if_pos e2, if_pos e2]
      unfold jX5_sample_163
      exact ⟨_, rfl, C14, F10.st rfl⟩
    · rw [if_neg (by omega), if_neg e2, if_neg e2]
      have C16 := C14.up1 (i := 80 + l) hx (by omega)
      have e4 : nxC (smM π l X π.nf) = nI (smM π l X π.nf - 1) := by
        obtain ⟨j, hj⟩ : ∃ j, smM π l X π.nf = j + 1 := ⟨smM π l X π.nf - 1, by omega⟩
        rw [hj]; rfl
      rw [e4]
      obtain ⟨m2, g1, g2, g3⟩ := e_obey (f := smM π l X π.nf - 1) (n := ntc π (fbk π l X)) C16 hx (by omega) hle (by
        unfold up1
        rw [upN_n (by omega), upN_n (by omega), upN_n (by omega), upN_n (by omega)]
        exact hr _ (by omega))
      rw [g1, bd1_e]
      unfold jX5_sample_163
      exact ⟨_, rfl, g2, ((F10.st rfl).st rfl).trans g3⟩
