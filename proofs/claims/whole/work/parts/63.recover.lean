/-! ===== the class's ticker: recovering ===== -/
theorem PF.frx {m m' : Mm} {x p : Nat} {π : Pl} (P : PF m p π) (hf : Fr (fun o => o = x) m m') (hx : x = 19 ∨ x = 20) (hp : p = 21 ∨ p = 31) : PF m' p π := P.fr hf (fun o ho => by omega)
def up1 (i : Nat) (X : Nat → Nat) : Nat → Nat := upN X i (X i + 1)
def clC (π : Pl) (f k : Nat) (X : Nat → Nat) : Nat → Nat := it k (fun _ Y => clA π f (up1 (216 + f) Y)) X
def recA (π : Pl) (f : Nat) (X : Nat → Nat) : Nat → Nat :=
  if up1 (288 + f) (upN (clC π f ((X (280 + f) + X (380 + f)) / π.cells) X) (280 + f) ((X (280 + f) + X (380 + f)) % π.cells)) (288 + f) = π.ticks then
    clA π f (up1 (224 + f) (upN (up1 (288 + f) (upN (clC π f ((X (280 + f) + X (380 + f)) / π.cells) X) (280 + f) ((X (280 + f) + X (380 + f)) % π.cells))) (288 + f) 0))
  else up1 (288 + f) (upN (clC π f ((X (280 + f) + X (380 + f)) / π.cells) X) (280 + f) ((X (280 + f) + X (380 + f)) % π.cells))
theorem clT_le (π : Pl) (f : Nat) (X : Nat → Nat) : clT π f X ≤ 1024 := Nat.min_le_left _ _
theorem clA_o {π : Pl} {f j : Nat} {X : Nat → Nat} (h1 : j ≠ 208 + f) (h2 : j ≠ 200 + f) : clA π f X j = X j := by
  unfold clA
  rw [upN_n h2, upN_n h1]
theorem clA_t (π : Pl) (f : Nat) (X : Nat → Nat) : clA π f X (208 + f) ≤ 1024 := by
  unfold clA
  rw [upN_n (by omega), upN_s]
  exact clT_le π f X
theorem clA_r {π : Pl} {f : Nat} {X : Nat → Nat} (h : X (200 + f) ≤ 1024) : clA π f X (200 + f) ≤ 1024 := by
  unfold clA
  rw [upN_s]
  have := clT_le π f X
  omega
theorem clC_o {π : Pl} {f k j : Nat} {X : Nat → Nat} (h1 : j ≠ 208 + f) (h2 : j ≠ 200 + f) (h3 : j ≠ 216 + f) : clC π f k X j = X j := by
  induction k with
  | zero => rfl
  | succ k ih =>
    show clA π f (up1 (216 + f) (clC π f k X)) j = X j
    rw [clA_o h1 h2]
    unfold up1
    rw [upN_n h3, ih]
theorem clC_c {π : Pl} {f k : Nat} {X : Nat → Nat} : clC π f k X (216 + f) = X (216 + f) + k := by
  induction k with
  | zero => rfl
  | succ k ih =>
    show clA π f (up1 (216 + f) (clC π f k X)) (216 + f) = _
    rw [clA_o (by omega) (by omega)]
    unfold up1
    rw [upN_s, ih]
    omega
theorem clC_b {π : Pl} {f k : Nat} {X : Nat → Nat} (hr : X (200 + f) ≤ 1024) (ht : X (208 + f) ≤ 1024) : clC π f k X (200 + f) ≤ 1024 ∧ clC π f k X (208 + f) ≤ 1024 := by
  induction k with
  | zero => exact ⟨hr, ht⟩
  | succ k ih =>
    refine ⟨?_, clA_t _ _ _⟩
    apply clA_r
    unfold up1
    rw [upN_n (by omega)]
    exact ih.1
theorem CF.up1 {m : Mm} {x : Nat} {X : Nat → Nat} (h : CF m x X) {i : Nat} (hx : x = 19 ∨ x = 20) (hi : i < 297) : CF (u1 m x i (nI (X i + 1))) x (up1 i X) := h.st _ _ hx hi
theorem e_recover {m : Mm} {x p : Nat} {π : Pl} {X : Nat → Nat} {f : Nat} (C : CF m x X) (P : PF m p π) (O : π.ok) (hx : x = 19 ∨ x = 20) (hp : p = 21 ∨ p = 31) (hf : f < 8) (hr : X (200 + f) ≤ 1024) (ht : X (208 + f) ≤ 1024) (hc : X (216 + f) ≤ 1000000) (hk : X (224 + f) < 20000) (hb : X (280 + f) ≤ 999) (hs : X (380 + f) ≤ 1000) (hy : X (288 + f) ≤ 99) : ∃ m', fX5_recover SX7 m 4 p x (nI f) = some m' ∧ CF m' x (recA π f X) ∧ Fr (fun o => o = x) m m' := by
  have h1 := O.cells
  have h2 := O.ticks
  have hd : (X (280 + f) + X (380 + f)) / π.cells ≤ X (280 + f) + X (380 + f) := Nat.div_le_self _ _
  unfold fX5_recover
  simp (disch := omega) only [L0, L1, L2, L3, L4, L5, L6, L7, L8, L9, L10, L11, L12, L13, L14, L15, L16, L17, L18, L19, L20, L21, L22, L23, L24, L25, L26, L27, L28, L29, L30, L31, L32, L33, L34, L35, L36, L37, L38, L39, L40, L41, L42, L43, L44, L45, L46, L47, L48, L50, L57, L59, L60, L63, L64, L65, L70, L80, L90, L97, L100, L110, L120, L122, L128, L150, L200, L208, L216, L224, L232, L240, L248, L255, L256, L264, L272, L280, L288, L296, L297, L300, L336, L337, L500, L680, L700, L998, L999, L1000, L1024, L1999, L6403, L9999, L10000, L12345, L99999, L1000000, L214424576, L412560384, L509804544, L639025541, L642945024, L658545824, L1103515245, L2147483647, g7_0, g7_1, g7_3, g7_4, g7_8, g7_13, g7_16, r7_0_0, r7_0_1, r7_0_2, r7_0_3, r7_0_4, r7_0_5, r7_0_6, r7_0_7, r7_1_0, r7_4_0, r7_4_1, r7_4_2, r7_8_0, r7_8_1, r7_8_2, r7_8_3, r7_13_0, r7_13_1, r7_16_0, r7_16_1, g7_p hp, r7_p_0 hp, r7_p_1 hp, r7_p_2 hp, r7_p_3 hp, r7_p_4 hp, r7_p_5 hp, r7_p_6 hp, r7_p_7 hp, r7_p_8 hp, nI_add, pk_mul, narA_0, bd1_e, bd2_e, bdR_l, bdR_r, ldA_n (s7_x hx), ldA_n (s7_p9 hp), ldA_n s7_7, C.row, C.sn, P.cells]
  obtain ⟨r, hr1, hr2, hr3, hr4⟩ := lp_n (b := fun s7 : Int32 × Mm => bX5_recover_24 SX7 4 p x (nI f) (nI π.cells) s7.1 s7.2) (N := fu) (s0 := (nI (X (280 + f) + X (380 + f)), m))
    (fun k s => s.1 = nI (X (280 + f) + X (380 + f) - k * π.cells) ∧ CF s.2 x (clC π f k X) ∧ Fr (fun o => o = x) m s.2)
    (fun r => r.1 = nI ((X (280 + f) + X (380 + f)) % π.cells) ∧ CF r.2 x (clC π f ((X (280 + f) + X (380 + f)) / π.cells) X) ∧ Fr (fun o => o = x) m r.2)
    ((X (280 + f) + X (380 + f)) / π.cells) ⟨by rw [Nat.zero_mul]; rfl, C, Fr.rfl⟩ (by unfold fu; omega)
    (by
      rintro k ⟨c, m1⟩ hk1 ⟨e1, C1, F1⟩
      dsimp only at e1 C1 F1 ⊢
      have hm : (k + 1) * π.cells ≤ X (280 + f) + X (380 + f) := by
        have := Nat.mul_le_mul_right π.cells (show k + 1 ≤ (X (280 + f) + X (380 + f)) / π.cells by omega)
        have := Nat.div_mul_le_self (X (280 + f) + X (380 + f)) π.cells
        omega
      rw [Nat.add_mul, Nat.one_mul] at hm
      have hb1 := clC_b (π := π) (k := k) hr ht
      have hcc := clC_c (π := π) (f := f) (k := k) (X := X)
      have hct := clC_o (π := π) (f := f) (k := k) (X := X) (j := 224 + f) (by omega) (by omega) (by omega)
      refine Or.inl ?_
      subst e1
      unfold bX5_recover_24
      simp (disch := omega) only [L0, L1, L2, L3, L4, L5, L6, L7, L8, L9, L10, L11, L12, L13, L14, L15, L16, L17, L18, L19, L20, L21, L22, L23, L24, L25, L26, L27, L28, L29, L30, L31, L32, L33, L34, L35, L36, L37, L38, L39, L40, L41, L42, L43, L44, L45, L46, L47, L48, L50, L57, L59, L60, L63, L64, L65, L70, L80, L90, L97, L100, L110, L120, L122, L128, L150, L200, L208, L216, L224, L232, L240, L248, L255, L256, L264, L272, L280, L288, L296, L297, L300, L336, L337, L500, L680, L700, L998, L999, L1000, L1024, L1999, L6403, L9999, L10000, L12345, L99999, L1000000, L214424576, L412560384, L509804544, L639025541, L642945024, L658545824, L1103515245, L2147483647, nI_add, pk_mul, narA_0, bd1_e, bd2_e, bdR_l, bdR_r, ldA_n (s7_x hx), stA_n (s7_x hx), C1.row, nn_le, nn_lt]
      rw [if_neg (by omega), if_neg (by omega)]
      obtain ⟨m2, h3, C2, F2⟩ := e_climb (π := π) (C1.up1 (i := 216 + f) hx (by omega)) ((P.frx F1 hx hp).frx (Fr.u1 rfl) hx hp) O hx hp hf (by unfold up1; rw [upN_n (by omega)]; exact hb1.1) (by unfold up1; rw [upN_n (by omega)]; exact hb1.2) (by unfold up1; rw [upN_s]; omega) (by unfold up1; rw [upN_n (by omega)]; omega)
      rw [h3, bd1_e]
      refine ⟨_, rfl, ?_, C2, (F1.st rfl).trans F2⟩
      dsimp only
      rw [pk_sub (by omega), Nat.add_mul, Nat.one_mul, Nat.sub_sub])
    (by
      rintro ⟨c, m1⟩ ⟨e1, C1, F1⟩
      dsimp only at e1 C1 F1 ⊢
      have e2 : X (280 + f) + X (380 + f) - (X (280 + f) + X (380 + f)) / π.cells * π.cells = (X (280 + f) + X (380 + f)) % π.cells := by
        have := Nat.div_add_mod' (X (280 + f) + X (380 + f)) π.cells
        omega
      have e3 := Nat.mod_lt (X (280 + f) + X (380 + f)) (show 0 < π.cells by omega)
      rw [e2] at e1
      subst e1
      unfold bX5_recover_24
      simp (disch := omega) only [L0, L1, L2, L3, L4, L5, L6, L7, L8, L9, L10, L11, L12, L13, L14, L15, L16, L17, L18, L19, L20, L21, L22, L23, L24, L25, L26, L27, L28, L29, L30, L31, L32, L33, L34, L35, L36, L37, L38, L39, L40, L41, L42, L43, L44, L45, L46, L47, L48, L50, L57, L59, L60, L63, L64, L65, L70, L80, L90, L97, L100, L110, L120, L122, L128, L150, L200, L208, L216, L224, L232, L240, L248, L255, L256, L264, L272, L280, L288, L296, L297, L300, L336, L337, L500, L680, L700, L998, L999, L1000, L1024, L1999, L6403, L9999, L10000, L12345, L99999, L1000000, L214424576, L412560384, L509804544, L639025541, L642945024, L658545824, L1103515245, L2147483647, nn_le, nn_lt]
      rw [if_neg (by omega), if_pos e3]
      exact ⟨_, rfl, rfl, C1, F1⟩)
  rw [hr1, bd1_e]
  unfold jX5_recover_63 jX5_recover_124
  rw [hr2]
  have P1 := P.frx hr4 hx hp
  have hb1 := clC_b (π := π) (k := (X (280 + f) + X (380 + f)) / π.cells) hr ht
  have hcc := clC_c (π := π) (f := f) (k := (X (280 + f) + X (380 + f)) / π.cells) (X := X)
  have hct := clC_o (π := π) (f := f) (k := (X (280 + f) + X (380 + f)) / π.cells) (X := X) (j := 224 + f) (by omega) (by omega) (by omega)
  have hcy := clC_o (π := π) (f := f) (k := (X (280 + f) + X (380 + f)) / π.cells) (X := X) (j := 288 + f) (by omega) (by omega) (by omega)
  unfold recA
  generalize hY : clC π f ((X (280 + f) + X (380 + f)) / π.cells) X = Y at *
  generalize hC : (X (280 + f) + X (380 + f)) % π.cells = c at *
  have C2 := hr3.st (280 + f) c hx (by omega)
  have hz : upN Y (280 + f) c (288 + f) = Y (288 + f) := upN_n (by omega)
  have C3 := C2.up1 (i := 288 + f) hx (by omega)
  have F3 : Fr (fun o => o = x) m (u1 (u1 r.2 x (280 + f) (nI c)) x (288 + f) (nI (upN Y (280 + f) c (288 + f) + 1))) := (hr4.st rfl).st rfl
  have P3 := P.frx F3 hx hp
  have e9 : up1 (288 + f) (upN Y (280 + f) c) (288 + f) = Y (288 + f) + 1 := by unfold up1; rw [upN_s, hz]
  simp (disch := omega) only [L0, L1, L2, L3, L4, L5, L6, L7, L8, L9, L10, L11, L12, L13, L14, L15, L16, L17, L18, L19, L20, L21, L22, L23, L24, L25, L26, L27, L28, L29, L30, L31, L32, L33, L34, L35, L36, L37, L38, L39, L40, L41, L42, L43, L44, L45, L46, L47, L48, L50, L57, L59, L60, L63, L64, L65, L70, L80, L90, L97, L100, L110, L120, L122, L128, L150, L200, L208, L216, L224, L232, L240, L248, L255, L256, L264, L272, L280, L288, L296, L297, L300, L336, L337, L500, L680, L700, L998, L999, L1000, L1024, L1999, L6403, L9999, L10000, L12345, L99999, L1000000, L214424576, L412560384, L509804544, L639025541, L642945024, L658545824, L1103515245, L2147483647, g7_p hp, r7_p_0 hp, r7_p_1 hp, r7_p_2 hp, r7_p_3 hp, r7_p_4 hp, r7_p_5 hp, r7_p_6 hp, r7_p_7 hp, r7_p_8 hp, nI_add, pk_mul, narA_0, bd1_e, bd2_e, bdR_l, bdR_r, ldA_n (s7_x hx), stA_n (s7_x hx), ldA_n (s7_p9 hp), C2.row, C3.row, P3.ticks, e9, nn_eq]
  by_cases e : Y (288 + f) + 1 = π.ticks
  · rw [if_neg (by omega), if_pos e]
    have C4 := C3.st (288 + f) 0 hx (by omega)
    have C5 := C4.up1 (i := 224 + f) hx (by omega)
    simp (disch := omega) only [ldA_n (s7_x hx), C4.row, bd1_e, nI_add, stA_n (s7_x hx)]
    have ez : ∀ j, j ≠ 224 + f → j ≠ 288 + f → j ≠ 280 + f → up1 (224 + f) (upN (up1 (288 + f) (upN Y (280 + f) c)) (288 + f) 0) j = Y j := by
      intro j a1 a2 a3
      unfold up1
      rw [upN_n a1, upN_n a2, upN_n a2, upN_n a3]
    have ez2 : up1 (224 + f) (upN (up1 (288 + f) (upN Y (280 + f) c)) (288 + f) 0) (224 + f) = Y (224 + f) + 1 := by
      unfold up1
      rw [upN_s, upN_n (by omega), upN_n (by omega), upN_n (by omega)]
    obtain ⟨m2, h3, C6, F6⟩ := e_climb (π := π) C5 (P.frx ((F3.st rfl).st rfl) hx hp) O hx hp hf (by rw [ez _ (by omega) (by omega) (by omega)]; exact hb1.1) (by rw [ez _ (by omega) (by omega) (by omega)]; exact hb1.2) (by rw [ez _ (by omega) (by omega) (by omega)]; omega) (by rw [ez2]; omega)
    exact ⟨m2, by rw [h3, bd1_e], C6, ((F3.st rfl).st rfl).trans F6⟩
  · rw [if_pos e, if_neg e]
    exact ⟨_, rfl, C3, F3⟩
