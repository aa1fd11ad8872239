/-! ===== the class's ticker ===== -/
theorem bitI : ∀ b, b < 32 → ∀ d, d < 5 → ((nI b >>> (nI d &&& nI 31)) &&& nI 1) = nI (b / 2 ^ d % 2) := by decide +kernel
theorem bitJ : ∀ b, b < 32 → (nI b &&& nI 1) = nI (b % 2) := by decide +kernel
theorem bitK : ∀ b, b < 32 → ∀ a, a < 2 → (((nI b <<< (nI 1 &&& nI 31)) ||| nI a) &&& nI 31) = nI ((b * 2 + a) % 32) := by decide +kernel
def askV (l : Nat) (X : Nat → Nat) : Nat := (X (40 + l) * 2 + (if X (30 + l) < X (0 + l) then (if X (10 + l) < X (30 + l) then X (40 + l) % 2 else 0) else 1)) % 32
def askA (l : Nat) (X : Nat → Nat) : Nat → Nat := upN X (40 + l) (askV l X)
theorem e_isPaused {m : Mm} {x p : Nat} {π : Pl} {X : Nat → Nat} {l : Nat} (C : CF m x X) (P : PF m p π) (O : π.ok) (hx : x = 19 ∨ x = 20) (hp : p = 21 ∨ p = 31) (hl : l < π.nl) (hb : X (40 + l) < 32) : fX1_isPaused SX7 m p x (nI l) = some (nI (X (40 + l) / 2 ^ π.delay l % 2)) := by
  have hnl := O.nl
  have hd := O.delay l hl
  have h2 : X (40 + l) / 2 ^ π.delay l % 2 < 2 := Nat.mod_lt _ (by decide)
  unfold fX1_isPaused jX1_isPaused_24
  simp (disch := omega) only [L0, L1, L2, L3, L4, L5, L6, L7, L8, L9, L10, L11, L12, L13, L14, L15, L16, L17, L18, L19, L20, L21, L22, L23, L24, L25, L26, L27, L28, L29, L30, L31, L32, L33, L34, L35, L36, L37, L38, L39, L40, L41, L42, L43, L44, L45, L46, L47, L48, L50, L57, L59, L60, L63, L64, L65, L70, L80, L90, L97, L100, L110, L120, L122, L128, L150, L200, L208, L216, L224, L232, L240, L248, L255, L256, L264, L272, L280, L288, L296, L297, L300, L336, L337, L500, L680, L700, L998, L999, L1000, L1024, L1999, L6403, L9999, L10000, L12345, L99999, L1000000, L214424576, L412560384, L509804544, L639025541, L642945024, L658545824, L1103515245, L2147483647, g7_p hp, r7_p_0 hp, r7_p_1 hp, r7_p_2 hp, r7_p_3 hp, r7_p_4 hp, r7_p_5 hp, r7_p_6 hp, r7_p_7 hp, r7_p_8 hp, nI_add, pk_mul, narA_0, bd1_e, bd2_e, bdR_l, bdR_r, ldA_n (s7_x hx), ldA_n (s7_p3 hp), C.row, P.delay l hl, bitI _ hb (π.delay l) (by omega), nn_eq]
  by_cases e : X (40 + l) / 2 ^ π.delay l % 2 = 1
  · rw [e]; rfl
  · have e0 : X (40 + l) / 2 ^ π.delay l % 2 = 0 := by omega
    rw [e0]; rfl
theorem e_ask {m : Mm} {x : Nat} {X : Nat → Nat} {l : Nat} (C : CF m x X) (hx : x = 19 ∨ x = 20) (hl : l < 10) (h1 : X (30 + l) < 2147483648) (h2 : X (0 + l) < 2147483648) (h3 : X (10 + l) < 2147483648) (h4 : X (40 + l) < 32) : fX5_ask SX7 m x (nI l) = some (u1 m x (40 + l) (nI (askV l X))) := by
  have h5 : X (40 + l) % 2 < 2 := Nat.mod_lt _ (by decide)
  unfold fX5_ask jX5_ask_45
  simp (disch := omega) only [L0, L1, L2, L3, L4, L5, L6, L7, L8, L9, L10, L11, L12, L13, L14, L15, L16, L17, L18, L19, L20, L21, L22, L23, L24, L25, L26, L27, L28, L29, L30, L31, L32, L33, L34, L35, L36, L37, L38, L39, L40, L41, L42, L43, L44, L45, L46, L47, L48, L50, L57, L59, L60, L63, L64, L65, L70, L80, L90, L97, L100, L110, L120, L122, L128, L150, L200, L208, L216, L224, L232, L240, L248, L255, L256, L264, L272, L280, L288, L296, L297, L300, L336, L337, L500, L680, L700, L998, L999, L1000, L1024, L1999, L6403, L9999, L10000, L12345, L99999, L1000000, L214424576, L412560384, L509804544, L639025541, L642945024, L658545824, L1103515245, L2147483647, nI_add, pk_mul, narA_0, bd1_e, bd2_e, bdR_l, bdR_r, ldA_n (s7_x hx), stA_n (s7_x hx), C.row, nn_lt, bitJ _ h4, bitK _ h4 _ h5, bitK _ h4 0 (by omega), bitK _ h4 1 (by omega)]
  unfold askV
  split
  · split <;> rfl
  · rfl
/-! notices -/
def fbk (π : Pl) (l : Nat) (X : Nat → Nat) : Int32 := (nI (X (30 + l)) - nI π.middle) + (nI π.weight * (nI (X (30 + l)) - nI (X (110 + l))))
def ntc (π : Pl) (v : Int32) : Nat := if v ≤ nI 0 then 0 else if v * nI 64 / nI (π.middle * (1 + 2 * π.weight)) < nI 1 then 1 else if nI 63 < v * nI 64 / nI (π.middle * (1 + 2 * π.weight)) then 63 else (v * nI 64 / nI (π.middle * (1 + 2 * π.weight))).toNatClampNeg
theorem i32_small {v : Int32} (h1 : ¬ v < nI 1) (h2 : ¬ nI 63 < v) : v = nI v.toNatClampNeg ∧ 1 ≤ v.toNatClampNeg ∧ v.toNatClampNeg ≤ 63 := by
  obtain ⟨j, hj, e⟩ := nI_of (x := v) (fun h => h1 (by rw [Int32.lt_iff_toInt_lt] at h ⊢; have a : (0 : Int32).toInt = 0 := rfl; have b : (nI 1).toInt = 1 := rfl; omega))
  subst e
  rw [nI_clamp hj]
  refine ⟨rfl, ?_, ?_⟩
  · by_cases c : 1 ≤ j
    · exact c
    · exact absurd ((nn_lt hj (by decide)).mpr (by omega)) h1
  · by_cases c : j ≤ 63
    · exact c
    · exact absurd ((nn_lt (by decide) hj).mpr (by omega)) h2
theorem ntc_le (π : Pl) (v : Int32) : ntc π v ≤ 63 := by
  unfold ntc
  split
  · omega
  · split
    · omega
    · split
      · omega
      · rename_i a b
        exact (i32_small a b).2.2
theorem ntc_pos (π : Pl) (v : Int32) (h : ¬ v ≤ nI 0) : 1 ≤ ntc π v := by
  unfold ntc
  rw [if_neg h]
  split
  · omega
  · split
    · omega
    · rename_i a b
      exact (i32_small a b).2.1
theorem e_feedbackOf {m : Mm} {x p : Nat} {π : Pl} {X : Nat → Nat} {l : Nat} (C : CF m x X) (P : PF m p π) (hx : x = 19 ∨ x = 20) (hp : p = 21 ∨ p = 31) (hl : l < 10) : fX1_feedbackOf SX7 m p x (nI l) = some (fbk π l X) := by
  unfold fX1_feedbackOf
  simp (disch := omega) only [L0, L1, L2, L3, L4, L5, L6, L7, L8, L9, L10, L11, L12, L13, L14, L15, L16, L17, L18, L19, L20, L21, L22, L23, L24, L25, L26, L27, L28, L29, L30, L31, L32, L33, L34, L35, L36, L37, L38, L39, L40, L41, L42, L43, L44, L45, L46, L47, L48, L50, L57, L59, L60, L63, L64, L65, L70, L80, L90, L97, L100, L110, L120, L122, L128, L150, L200, L208, L216, L224, L232, L240, L248, L255, L256, L264, L272, L280, L288, L296, L297, L300, L336, L337, L500, L680, L700, L998, L999, L1000, L1024, L1999, L6403, L9999, L10000, L12345, L99999, L1000000, L214424576, L412560384, L509804544, L639025541, L642945024, L658545824, L1103515245, L2147483647, g7_p hp, r7_p_0 hp, r7_p_1 hp, r7_p_2 hp, r7_p_3 hp, r7_p_4 hp, r7_p_5 hp, r7_p_6 hp, r7_p_7 hp, r7_p_8 hp, nI_add, pk_mul, narA_0, bd1_e, bd2_e, bdR_l, bdR_r, ldA_n (s7_x hx), ldA_n (s7_p9 hp), C.row, P.middle, P.weight]
  rfl
theorem span_pos {π : Pl} (O : π.ok) : 0 < π.middle * (1 + 2 * π.weight) ∧ π.middle * (1 + 2 * π.weight) < 2147483648 := by
  have h1 := O.middle
  have h2 := O.weight
  have h3 : 1 * 1 ≤ π.middle * (1 + 2 * π.weight) := Nat.mul_le_mul (by omega) (by omega)
  have h4 : π.middle * (1 + 2 * π.weight) ≤ 500 * 9 := Nat.mul_le_mul (by omega) (by omega)
  omega
theorem t63 : (nI 63).toInt = 63 := rfl
theorem t1 : (nI 1).toInt = 1 := rfl
theorem mm63 (a : Int32) : (if nI 1 < (if a < nI 63 then a else nI 63) then (if a < nI 63 then a else nI 63) else nI 1) = nI (if a < nI 1 then 1 else if nI 63 < a then 63 else a.toNatClampNeg) := by
  have t63 := t63
  have t1 := t1
  by_cases h1 : a < nI 1
  · have h1' := Int32.lt_iff_toInt_lt.mp h1
    rw [if_pos (show a < nI 63 from Int32.lt_iff_toInt_lt.mpr (by omega)), if_pos h1, if_neg (fun c => by have := Int32.lt_iff_toInt_lt.mp c; omega)]
  · rw [if_neg h1]
    by_cases h2 : nI 63 < a
    · have h2' := Int32.lt_iff_toInt_lt.mp h2
      rw [if_pos h2, if_neg (show ¬ a < nI 63 from fun c => by have := Int32.lt_iff_toInt_lt.mp c; omega)]
      rfl
    · rw [if_neg h2]
      have h3 := i32_small h1 h2
      by_cases h4 : a < nI 63
      · rw [if_pos h4, ← h3.1]
        by_cases h5 : nI 1 < a
        · rw [if_pos h5]
        · rw [if_neg h5]
          apply Int32.toInt_inj.mp
          have h1' : ¬ a.toInt < 1 := fun c => h1 (Int32.lt_iff_toInt_lt.mpr (by omega))
          have h5' : ¬ 1 < a.toInt := fun c => h5 (Int32.lt_iff_toInt_lt.mpr (by omega))
          omega
      · rw [if_neg h4, ← h3.1]
        have e : a = nI 63 := by
          apply Int32.toInt_inj.mp
          have h2' : ¬ 63 < a.toInt := fun c => h2 (Int32.lt_iff_toInt_lt.mpr (by omega))
          have h4' : ¬ a.toInt < 63 := fun c => h4 (Int32.lt_iff_toInt_lt.mpr (by omega))
          omega
        rw [e]; rfl
theorem e_noticeOf {m : Mm} {p : Nat} {π : Pl} {v : Int32} (P : PF m p π) (O : π.ok) (hp : p = 21 ∨ p = 31) : fX1_noticeOf SX7 m p v = some (nI (ntc π v)) := by
  have hs := span_pos O
  unfold fX1_noticeOf jX1_noticeOf_26
  simp (disch := omega) only [L0, L1, L2, L3, L4, L5, L6, L7, L8, L9, L10, L11, L12, L13, L14, L15, L16, L17, L18, L19, L20, L21, L22, L23, L24, L25, L26, L27, L28, L29, L30, L31, L32, L33, L34, L35, L36, L37, L38, L39, L40, L41, L42, L43, L44, L45, L46, L47, L48, L50, L57, L59, L60, L63, L64, L65, L70, L80, L90, L97, L100, L110, L120, L122, L128, L150, L200, L208, L216, L224, L232, L240, L248, L255, L256, L264, L272, L280, L288, L296, L297, L300, L336, L337, L500, L680, L700, L998, L999, L1000, L1024, L1999, L6403, L9999, L10000, L12345, L99999, L1000000, L214424576, L412560384, L509804544, L639025541, L642945024, L658545824, L1103515245, L2147483647, g7_p hp, r7_p_0 hp, r7_p_1 hp, r7_p_2 hp, r7_p_3 hp, r7_p_4 hp, r7_p_5 hp, r7_p_6 hp, r7_p_7 hp, r7_p_8 hp, nI_add, pk_mul, narA_0, bd1_e, bd2_e, bdR_l, bdR_r, ldA_n (s7_p9 hp), P.middle, P.weight, nn_lt]
  rw [if_pos hs.1]
  unfold dvI ntc
  rw [if_neg (nI_ne0 hs.1 hs.2), bd1_e]
  split
  · rfl
  · exact congrArg some (mm63 _)
def obA (f n : Nat) (X : Nat → Nat) : Nat → Nat := upN (upN (upN (upN (upN (upN (upN X (256 + f) (X (256 + f) + 1)) (208 + f) (X (200 + f))) (200 + f) (if 1 < X (200 + f) - X (200 + f) * n / 128 then X (200 + f) - X (200 + f) * n / 128 else 1)) (216 + f) 0) (224 + f) 0) (280 + f) 0) (288 + f) 0
theorem e_obey {m : Mm} {x : Nat} {X : Nat → Nat} {f n : Nat} (C : CF m x X) (hx : x = 19 ∨ x = 20) (hf : f < 8) (hn : n ≤ 63) (hr : X (200 + f) ≤ 1024) : ∃ m', fX5_obey SX7 m x (nI f) (nI n) = some m' ∧ CF m' x (obA f n X) ∧ Fr (fun o => o = x) m m' := by
  have h1 : X (200 + f) * n ≤ 1024 * 63 := Nat.mul_le_mul hr hn
  have h2 : X (200 + f) * n / 128 ≤ X (200 + f) := by
    apply Nat.div_le_of_le_mul
    have := Nat.mul_le_mul_left (X (200 + f)) (show n ≤ 128 by omega)
    omega
  unfold fX5_obey
  simp (disch := omega) only [L0, L1, L2, L3, L4, L5, L6, L7, L8, L9, L10, L11, L12, L13, L14, L15, L16, L17, L18, L19, L20, L21, L22, L23, L24, L25, L26, L27, L28, L29, L30, L31, L32, L33, L34, L35, L36, L37, L38, L39, L40, L41, L42, L43, L44, L45, L46, L47, L48, L50, L57, L59, L60, L63, L64, L65, L70, L80, L90, L97, L100, L110, L120, L122, L128, L150, L200, L208, L216, L224, L232, L240, L248, L255, L256, L264, L272, L280, L288, L296, L297, L300, L336, L337, L500, L680, L700, L998, L999, L1000, L1024, L1999, L6403, L9999, L10000, L12345, L99999, L1000000, L214424576, L412560384, L509804544, L639025541, L642945024, L658545824, L1103515245, L2147483647, nI_add, pk_mul, narA_0, bd1_e, bd2_e, bdR_l, bdR_r, ldA_n (s7_x hx), stA_n (s7_x hx), C.row, dvI_n, pk_sub, nn_lt, u1_rn, ite_lt, ite_le, ite_eq]
  refine ⟨_, rfl, ?_, ?_⟩
  · exact ((((((C.st _ _ hx (by omega)).st _ _ hx (by omega)).st _ _ hx (by omega)).st _ 0 hx (by omega)).st _ 0 hx (by omega)).st _ 0 hx (by omega)).st _ 0 hx (by omega)
  · (repeat (refine Fr.st ?_ (by first | exact rfl | omega))); exact Fr.rfl

/-! climbing -/
def clT (π : Pl) (f : Nat) (X : Nat → Nat) : Nat := min 1024 (X (208 + f) + (if (if X (224 + f) < X (216 + f) then X (224 + f) else X (216 + f)) ≤ 5 then (if (if X (216 + f) < X (224 + f) then X (224 + f) else X (216 + f)) ≤ 5 then 0 else π.more) else π.more * 2 * ((if X (224 + f) < X (216 + f) then X (224 + f) else X (216 + f)) - 5)))
def clA (π : Pl) (f : Nat) (X : Nat → Nat) : Nat → Nat := upN (upN X (208 + f) (clT π f X)) (200 + f) ((X (200 + f) + clT π f X) / 2)
theorem e_climb88 {m : Mm} {x p : Nat} {X : Nat → Nat} {f t : Nat} (C : CF m x X) (hx : x = 19 ∨ x = 20) (hf : f < 8) (ht : t < 2147483648) (hr : X (200 + f) ≤ 1024) : ∃ m', jX5_climb_88 SX7 m p x (nI f) (nI t) = some m' ∧ CF m' x (upN (upN X (208 + f) (min 1024 t)) (200 + f) ((X (200 + f) + min 1024 t) / 2)) ∧ Fr (fun o => o = x) m m' := by
  have e : (if t < 1024 then t else 1024) = min 1024 t := by split <;> omega
  unfold jX5_climb_88
  simp (disch := omega) only [L0, L1, L2, L3, L4, L5, L6, L7, L8, L9, L10, L11, L12, L13, L14, L15, L16, L17, L18, L19, L20, L21, L22, L23, L24, L25, L26, L27, L28, L29, L30, L31, L32, L33, L34, L35, L36, L37, L38, L39, L40, L41, L42, L43, L44, L45, L46, L47, L48, L50, L57, L59, L60, L63, L64, L65, L70, L80, L90, L97, L100, L110, L120, L122, L128, L150, L200, L208, L216, L224, L232, L240, L248, L255, L256, L264, L272, L280, L288, L296, L297, L300, L336, L337, L500, L680, L700, L998, L999, L1000, L1024, L1999, L6403, L9999, L10000, L12345, L99999, L1000000, L214424576, L412560384, L509804544, L639025541, L642945024, L658545824, L1103515245, L2147483647, nI_add, pk_mul, narA_0, bd1_e, bd2_e, bdR_l, bdR_r, ldA_n (s7_x hx), stA_n (s7_x hx), C.row, nn_lt, u1_rn, u1_rs, ite_lt, ite_le, ite_eq, e, dvI_n]
  refine ⟨_, rfl, ?_, ?_⟩
  · exact (C.st _ _ hx (by omega)).st _ _ hx (by omega)
  · (repeat (refine Fr.st ?_ (by first | exact rfl | omega))); exact Fr.rfl
theorem e_climb {m : Mm} {x p : Nat} {π : Pl} {X : Nat → Nat} {f : Nat} (C : CF m x X) (P : PF m p π) (O : π.ok) (hx : x = 19 ∨ x = 20) (hp : p = 21 ∨ p = 31) (hf : f < 8) (hr : X (200 + f) ≤ 1024) (ht : X (208 + f) ≤ 1024) (hc : X (216 + f) < 2147483648) (hk : X (224 + f) ≤ 20000) : ∃ m', fX5_climb SX7 m p x (nI f) = some m' ∧ CF m' x (clA π f X) ∧ Fr (fun o => o = x) m m' := by
  have hm := O.more
  unfold fX5_climb
  simp (disch := omega) only [L0, L1, L2, L3, L4, L5, L6, L7, L8, L9, L10, L11, L12, L13, L14, L15, L16, L17, L18, L19, L20, L21, L22, L23, L24, L25, L26, L27, L28, L29, L30, L31, L32, L33, L34, L35, L36, L37, L38, L39, L40, L41, L42, L43, L44, L45, L46, L47, L48, L50, L57, L59, L60, L63, L64, L65, L70, L80, L90, L97, L100, L110, L120, L122, L128, L150, L200, L208, L216, L224, L232, L240, L248, L255, L256, L264, L272, L280, L288, L296, L297, L300, L336, L337, L500, L680, L700, L998, L999, L1000, L1024, L1999, L6403, L9999, L10000, L12345, L99999, L1000000, L214424576, L412560384, L509804544, L639025541, L642945024, L658545824, L1103515245, L2147483647, g7_p hp, r7_p_0 hp, r7_p_1 hp, r7_p_2 hp, r7_p_3 hp, r7_p_4 hp, r7_p_5 hp, r7_p_6 hp, r7_p_7 hp, r7_p_8 hp, nI_add, pk_mul, narA_0, bd1_e, bd2_e, bdR_l, bdR_r, ldA_n (s7_x hx), ldA_n (s7_p9 hp), C.row, P.more, nn_lt, ite_lt, ite_le, ite_eq]
  have hl : (if X (224 + f) < X (216 + f) then X (224 + f) else X (216 + f)) ≤ 20000 := by split <;> omega
  have hg : (if X (216 + f) < X (224 + f) then X (224 + f) else X (216 + f)) < 2147483648 := by split <;> omega
  have hq : π.more * 2 * ((if X (224 + f) < X (216 + f) then X (224 + f) else X (216 + f)) - 5) ≤ 198 * 20000 := Nat.mul_le_mul (by omega) (by omega)
  unfold clA clT
  generalize (if X (224 + f) < X (216 + f) then X (224 + f) else X (216 + f)) = a at *
  generalize (if X (216 + f) < X (224 + f) then X (224 + f) else X (216 + f)) = b at *
  simp (disch := omega) only [nn_le]
  by_cases h1 : a ≤ 5
  · rw [if_pos h1, if_pos h1]
    by_cases h2 : b ≤ 5
    · rw [if_pos h2, if_pos h2]
      exact e_climb88 C hx hf (by omega) hr
    · rw [if_neg h2, if_neg h2]
      exact e_climb88 C hx hf (by omega) hr
  · rw [if_neg h1, if_neg h1]
    simp (disch := omega) only [pk_sub, nI_add, pk_mul, narA_0, bd1_e, bd2_e, bdR_l, bdR_r]
    exact e_climb88 C hx hf (by omega) hr
