/-! ===== rows kept: the class ===== -/
theorem cpA_n {S : List Sh} {n1 n2 : Nat} {mm : Mm} {o1 o2 sp dp n : Nat} (h1 : S[o1]? = some (.inl (0, n1))) (h2 : S[o2]? = some (.inl (0, n2))) (hs : sp + n ≤ n1) (hd : dp + n ≤ n2) (b1 : n1 < 2147483648) (b2 : n2 < 2147483648) : cpA S mm o1 (nI sp) o2 (nI dp) (nI n) = some (uA mm o2 (va_cpy (mm.1 o1) (mm.1 o2) sp dp n)) := by
  have e1 : (nI sp).toInt = (sp : Int) := nI_toInt (by omega)
  have e2 : (nI dp).toInt = (dp : Int) := nI_toInt (by omega)
  have e3 : (nI n).toInt = (n : Int) := nI_toInt (by omega)
  unfold cpA
  rw [h1, h2]
  show (if (0 : Nat) = 0 ∧ (0 : Nat) = 0 ∧ 0 ≤ (nI sp).toInt ∧ 0 ≤ (nI dp).toInt ∧ 0 ≤ (nI n).toInt ∧ (nI sp).toInt + (nI n).toInt ≤ (n1 : Int) ∧ (nI dp).toInt + (nI n).toInt ≤ (n2 : Int) then some (uA mm o2 (va_cpy (mm.1 o1) (mm.1 o2) (nI sp).toNatClampNeg (nI dp).toNatClampNeg (nI n).toNatClampNeg)) else none) = _
  rw [if_pos ⟨rfl, rfl, by omega, by omega, by omega, by omega, by omega⟩, nI_clamp (by omega), nI_clamp (by omega), nI_clamp (by omega)]
def tpS (top : Nat) : Nat := if top + 1 < 20 then top + 1 else 0
section PU
variable {m : Mm} {π : Pl} {X : Nat → Nat} {U : List (Nat → Nat)} {I : Option (Nat → Nat)} {p top tl : Nat} {B : Nat → Nat} {fc fp : Int32}
theorem take20 {X : Nat → Nat} {U : List (Nat → Nat)} {j : Nat} {Y : Nat → Nat} (h : ((X :: U).take 20)[j]? = some Y) : j < 20 ∧ ((j = 0 ∧ Y = X) ∨ (∃ i, j = i + 1 ∧ U[i]? = some Y)) := by
  have hj : j < 20 := by
    have h9 := (List.getElem?_eq_some_iff.mp h).1
    rw [List.length_take] at h9
    omega
  refine ⟨hj, ?_⟩
  rw [List.getElem?_take_of_lt hj] at h
  cases j with
  | zero => left; simp at h; exact ⟨rfl, h.symm⟩
  | succ i => right; simp at h; exact ⟨i, rfl, h⟩
theorem take20_len {X : Nat → Nat} {U : List (Nat → Nat)} : ((X :: U).take 20).length = min 20 (U.length + 1) := by
  rw [List.length_take, List.length_cons]
theorem e_push (hF : SF m π X U I p top tl B fc fp) (hu : U.length ≤ 20) : ∃ m', fX0_push SX7 m 16 19 = some m' ∧ SF m' π X ((X :: U).take 20) I p (tpS top) tl B fc fp ∧ rf SX7 m' 0 8 = p := by
  have ht := hF.tlt
  have hpp := hF.hp
  unfold fX0_push jX0_push_42
  simp (disch := omega) only [L0, L1, L2, L3, L4, L5, L6, L7, L8, L9, L10, L11, L12, L13, L14, L15, L16, L17, L18, L19, L20, L21, L22, L23, L24, L25, L26, L27, L28, L29, L30, L31, L32, L33, L34, L35, L36, L37, L38, L39, L40, L41, L42, L43, L44, L45, L46, L47, L48, L50, L57, L59, L60, L63, L64, L65, L70, L80, L90, L97, L100, L110, L120, L122, L128, L150, L200, L208, L216, L224, L232, L240, L248, L255, L256, L264, L272, L280, L288, L296, L297, L300, L336, L337, L500, L680, L700, L998, L999, L1000, L1024, L1999, L6403, L9999, L10000, L12345, L99999, L1000000, L214424576, L412560384, L509804544, L639025541, L642945024, L658545824, L1103515245, L2147483647, g7_0, g7_1, g7_3, g7_4, g7_8, g7_13, g7_16, r7_0_0, r7_0_1, r7_0_2, r7_0_3, r7_0_4, r7_0_5, r7_0_6, r7_0_7, r7_1_0, r7_4_0, r7_4_1, r7_4_2, r7_8_0, r7_8_1, r7_8_2, r7_8_3, r7_13_0, r7_13_1, r7_16_0, r7_16_1, hF.top, pk_mul, cpA_n (n1 := 297) (n2 := 5940) s7_19 s7_17, bd1_e]
  -- the row in its place
  have e4 : (uA m 17 (va_cpy (m.1 19) (m.1 17) 0 (top * 297) 297)).1 16 4 = nI top := by rw [uA_other (by omega)]; exact hF.top
  simp (disch := omega) only [e4, nI_add, nn_le]
  have e3 : ∀ v, (u1 (uA m 17 (va_cpy (m.1 19) (m.1 17) 0 (top * 297) 297)) 16 4 v).1 16 3 = nI U.length := fun v => by rw [u1_rn (Or.inl (by omega)), uA_other (by omega)]; exact hF.steps
  have key : ∀ t, t = tpS top → ∃ m', (if nI U.length + nI 1 < nI 20 then some (u1 (u1 (uA m 17 (va_cpy (m.1 19) (m.1 17) 0 (top * 297) 297)) 16 4 (nI t)) 16 3 (nI U.length + nI 1)) else some (u1 (u1 (uA m 17 (va_cpy (m.1 19) (m.1 17) 0 (top * 297) 297)) 16 4 (nI t)) 16 3 (nI 20))) = some m' ∧ SF m' π X ((X :: U).take 20) I p (tpS top) tl B fc fp ∧ rf SX7 m' 0 8 = p := by
    rintro t rfl
    have h9 : ∀ n, n = ((X :: U).take 20).length → SF (u1 (u1 (uA m 17 (va_cpy (m.1 19) (m.1 17) 0 (top * 297) 297)) 16 4 (nI (tpS top))) 16 3 (nI n)) π X ((X :: U).take 20) I p (tpS top) tl B fc fp := by
      rintro n rfl
      have eo : ∀ o, o ≠ 16 → o ≠ 17 → (u1 (u1 (uA m 17 (va_cpy (m.1 19) (m.1 17) 0 (top * 297) 297)) 16 4 (nI (tpS top))) 16 3 (nI ((X :: U).take 20).length)).1 o = m.1 o := fun o h1 h2 => by rw [u1_other h1, u1_other h1, uA_other h2]
      have e0 := eo 0 (by omega) (by omega)
      have e17 : (u1 (u1 (uA m 17 (va_cpy (m.1 19) (m.1 17) 0 (top * 297) 297)) 16 4 (nI (tpS top))) 16 3 (nI ((X :: U).take 20).length)).1 17 = va_cpy (m.1 19) (m.1 17) 0 (top * 297) 297 := by rw [u1_other (by omega), u1_other (by omega), uA_same]
      refine SF.mk hF.hp (by rw [e0]; exact hF.pl) (by rw [e0]; exact hF.sp) (by rw [e0]; exact hF.fc) (by rw [e0]; exact hF.fp) (hF.P.eq (fun o h1 h2 => eo o (by omega) (by omega))) ?_ u1_rs ?_ ?_ ?_ ?_ ?_ ?_ ?_
      · exact CF.mk (by rw [eo 19 (by omega) (by omega)]; exact hF.C.row) (by rw [eo 5 (by omega) (by omega)]; exact hF.C.mv) (by rw [eo 7 (by omega) (by omega)]; exact hF.C.sn)
      · rw [u1_rn (Or.inl (by omega)), u1_rs]
      · unfold tpS; split <;> omega
      · intro j Y hj i hi
        rw [e17]
        obtain ⟨hj20, h⟩ := take20 hj
        rcases h with ⟨rfl, rfl⟩ | ⟨k, rfl, hk⟩
        · have es : (tpS top + 19 - 0) % 20 = top := by unfold tpS; split <;> omega
          rw [es, pk_cpy_in (by omega) (by omega), show 0 + (top * 297 + i - top * 297) = i by omega]
          exact hF.C.row i hi
        · have es : (tpS top + 19 - (k + 1)) % 20 = (top + 19 - k) % 20 := by unfold tpS; split <;> omega
          have hne : (top + 19 - k) % 20 ≠ top := by omega
          have hlt : (top + 19 - k) % 20 < 20 := Nat.mod_lt _ (by decide)
          rw [es, pk_cpy_out (by omega)]
          exact hF.rows k Y hk i hi
      · rw [u1_rn (Or.inl (by omega)), u1_rn (Or.inl (by omega)), uA_other (by omega)]; exact hF.him
      · rw [eo 18 (by omega) (by omega)]; exact hF.im
      · rw [eo 1 (by omega) (by omega)]; exact hF.len
      · rw [eo 2 (by omega) (by omega)]; exact hF.by
    rw [nI_add]
    by_cases c : U.length + 1 < 20
    · rw [if_pos ((nn_lt (by omega) (by omega)).mpr c)]
      have h8 := h9 (U.length + 1) (by rw [take20_len]; omega)
      exact ⟨_, rfl, h8, h8.r8⟩
    · rw [if_neg (fun z => c ((nn_lt (by omega) (by omega)).mp z))]
      have h8 := h9 20 (by rw [take20_len]; omega)
      exact ⟨_, rfl, h8, h8.r8⟩
  by_cases c : 20 ≤ top + 1
  · rw [if_pos c]
    obtain ⟨m', k1, k2⟩ := key 0 (by unfold tpS; rw [if_neg (by omega)])
    refine ⟨m', ?_, k2⟩
    rw [← k1]
    simp only [e3]
    split <;> rfl
  · rw [if_neg c]
    obtain ⟨m', k1, k2⟩ := key (top + 1) (by unfold tpS; rw [if_pos (by omega)])
    refine ⟨m', ?_, k2⟩
    rw [← k1]
    simp only [e3]
    split <;> rfl
theorem SF.st (hF : SF m π X U I p top tl B fc fp) {i v : Nat} (hi : i < 297) : SF (u1 m 19 i (nI v)) π (upN X i v) U I p top tl B fc fp := by
  have hpp := hF.hp
  have eo : ∀ o, o ≠ 19 → (u1 m 19 i (nI v)).1 o = m.1 o := fun o h => u1_other h
  have e0 := eo 0 (by omega)
  have e16 := eo 16 (by omega)
  exact SF.mk hF.hp (by rw [e0]; exact hF.pl) (by rw [e0]; exact hF.sp) (by rw [e0]; exact hF.fc) (by rw [e0]; exact hF.fp) (hF.P.eq (fun o h1 h2 => eo o (by omega))) (hF.C.st i v (Or.inl rfl) hi) (by rw [e16]; exact hF.steps) (by rw [e16]; exact hF.top) hF.tlt (by rw [eo 17 (by omega)]; exact hF.rows) (by rw [e16]; exact hF.him) (by rw [eo 18 (by omega)]; exact hF.im) (by rw [eo 1 (by omega)]; exact hF.len) (by rw [eo 2 (by omega)]; exact hF.by)
def mxX (Y X : Nat → Nat) : Nat → Nat := fun i => if i < 297 then Y i else X i
theorem mxX_l {Y X : Nat → Nat} {i : Nat} (h : i < 297) : mxX Y X i = Y i := if_pos h
theorem mxX_r {Y X : Nat → Nat} {i : Nat} (h : ¬ i < 297) : mxX Y X i = X i := if_neg h
def tpP (top : Nat) : Nat := if 0 < top then top - 1 else 19
theorem e_pop {Y : Nat → Nat} (hF : SF m π X (Y :: U) I p top tl B fc fp) (hu : U.length < 20) : ∃ m', fX0_pop SX7 m 16 19 = some m' ∧ SF m' π (mxX Y X) U I p (tpP top) tl B fc fp := by
  have ht := hF.tlt
  have hpp := hF.hp
  have hst := hF.steps
  rw [List.length_cons] at hst
  have htp : tpP top < 20 := by unfold tpP; split <;> omega
  have key : ∀ t, t = tpP top → ∃ m', bd1 (some (u1 m 16 4 (nI t))) (fun m2 => bd1 (some (u1 m2 16 3 (if (nI 0) < ((m2.1 16 3) - nI 1) then ((m2.1 16 3) - nI 1) else nI 0))) fun m3 => bd1 (cpA SX7 m3 17 ((m3.1 16 4) * nI 297) 19 (nI 0) (nI 297)) fun m4 => some m4) = some m' ∧ SF m' π (mxX Y X) U I p (tpP top) tl B fc fp := by
    rintro t rfl
    have e3 : (u1 m 16 4 (nI (tpP top))).1 16 3 = nI (U.length + 1) := by rw [u1_rn (Or.inl (by omega))]; exact hst
    have es : (if (nI 0) < (nI (U.length + 1) - nI 1) then (nI (U.length + 1) - nI 1) else nI 0) = nI U.length := by
      rw [pk_sub (by omega), Nat.add_sub_cancel]
      by_cases c : 0 < U.length
      · rw [if_pos ((nn_lt (by omega) (by omega)).mpr c)]
      · rw [if_neg (fun z => c ((nn_lt (by omega) (by omega)).mp z)), show U.length = 0 by omega]
    have e4 : ∀ v, (u1 (u1 m 16 4 (nI (tpP top))) 16 3 v).1 16 4 = nI (tpP top) := fun v => by rw [u1_rn (Or.inl (by omega)), u1_rs]
    simp (disch := omega) only [bd1_e, e3, es, e4, pk_mul, cpA_n (n1 := 5940) (n2 := 297) s7_17 s7_19]
    refine ⟨_, rfl, ?_⟩
    have eo : ∀ o, o ≠ 16 → o ≠ 19 → (uA (u1 (u1 m 16 4 (nI (tpP top))) 16 3 (nI U.length)) 19 (va_cpy ((u1 (u1 m 16 4 (nI (tpP top))) 16 3 (nI U.length)).1 17) ((u1 (u1 m 16 4 (nI (tpP top))) 16 3 (nI U.length)).1 19) (tpP top * 297) 0 297)).1 o = m.1 o := fun o h1 h2 => by rw [uA_other h2, u1_other h1, u1_other h1]
    have e16 : (uA (u1 (u1 m 16 4 (nI (tpP top))) 16 3 (nI U.length)) 19 (va_cpy ((u1 (u1 m 16 4 (nI (tpP top))) 16 3 (nI U.length)).1 17) ((u1 (u1 m 16 4 (nI (tpP top))) 16 3 (nI U.length)).1 19) (tpP top * 297) 0 297)).1 16 = (u1 (u1 m 16 4 (nI (tpP top))) 16 3 (nI U.length)).1 16 := uA_other (by omega)
    have e0 := eo 0 (by omega) (by omega)
    refine SF.mk hF.hp (by rw [e0]; exact hF.pl) (by rw [e0]; exact hF.sp) (by rw [e0]; exact hF.fc) (by rw [e0]; exact hF.fp) (hF.P.eq (fun o h1 h2 => eo o (by omega) (by omega))) ?_ ?_ ?_ htp ?_ ?_ ?_ ?_ ?_
    · refine CF.mk ?_ ?_ ?_
      · intro i hi
        rw [uA_same, pk_cpy_in (by omega) (by omega), mxX_l hi, u1_other (by omega), u1_other (by omega)]
        have := hF.rows 0 Y rfl i hi
        have es2 : (top + 19 - 0) % 20 = tpP top := by unfold tpP; split <;> omega
        rw [es2] at this
        exact this
      · intro j hj; rw [eo 5 (by omega) (by omega), mxX_r (by omega)]; exact hF.C.mv j hj
      · intro j hj; rw [eo 7 (by omega) (by omega), mxX_r (by omega)]; exact hF.C.sn j hj
    · rw [e16, u1_rs]
    · rw [e16, u1_rn (Or.inl (by omega)), u1_rs]
    · intro j Z hj i hi
      rw [eo 17 (by omega) (by omega)]
      have hj2 : j < U.length := (List.getElem?_eq_some_iff.mp hj).1
      have := hF.rows (j + 1) Z (by simpa using hj) i hi
      have es2 : (top + 19 - (j + 1)) % 20 = (tpP top + 19 - j) % 20 := by unfold tpP; split <;> omega
      rw [es2] at this
      exact this
    · rw [e16, u1_rn (Or.inl (by omega)), u1_rn (Or.inl (by omega))]; exact hF.him
    · rw [eo 18 (by omega) (by omega)]; exact hF.im
    · rw [eo 1 (by omega) (by omega)]; exact hF.len
    · rw [eo 2 (by omega) (by omega)]; exact hF.by
  unfold fX0_pop jX0_pop_19
  simp (disch := omega) only [L0, L1, L2, L3, L4, L5, L6, L7, L8, L9, L10, L11, L12, L13, L14, L15, L16, L17, L18, L19, L20, L21, L22, L23, L24, L25, L26, L27, L28, L29, L30, L31, L32, L33, L34, L35, L36, L37, L38, L39, L40, L41, L42, L43, L44, L45, L46, L47, L48, L50, L57, L59, L60, L63, L64, L65, L70, L80, L90, L97, L100, L110, L120, L122, L128, L150, L200, L208, L216, L224, L232, L240, L248, L255, L256, L264, L272, L280, L288, L296, L297, L300, L336, L337, L500, L680, L700, L998, L999, L1000, L1024, L1999, L6403, L9999, L10000, L12345, L99999, L1000000, L214424576, L412560384, L509804544, L639025541, L642945024, L658545824, L1103515245, L2147483647, g7_0, g7_1, g7_3, g7_4, g7_8, g7_13, g7_16, r7_0_0, r7_0_1, r7_0_2, r7_0_3, r7_0_4, r7_0_5, r7_0_6, r7_0_7, r7_1_0, r7_4_0, r7_4_1, r7_4_2, r7_8_0, r7_8_1, r7_8_2, r7_8_3, r7_13_0, r7_13_1, r7_16_0, r7_16_1, hF.top, nn_le]
  by_cases c : top ≤ 0
  · rw [if_pos c]
    exact key 19 (by unfold tpP; rw [if_neg (by omega)])
  · rw [if_neg c, pk_sub (by omega)]
    exact key (top - 1) (by unfold tpP; rw [if_pos (by omega)])
theorem e_forget (hF : SF m π X U I p top tl B fc fp) : ∃ m', fX0_forgetSteps SX7 m 16 = some m' ∧ SF m' π X [] I p 0 tl B fc fp := by
  have hpp := hF.hp
  unfold fX0_forgetSteps
  simp only [L0, L1, L2, L3, L4, L5, L6, L7, L8, L9, L10, L11, L12, L13, L14, L15, L16, L17, L18, L19, L20, L21, L22, L23, L24, L25, L26, L27, L28, L29, L30, L31, L32, L33, L34, L35, L36, L37, L38, L39, L40, L41, L42, L43, L44, L45, L46, L47, L48, L50, L57, L59, L60, L63, L64, L65, L70, L80, L90, L97, L100, L110, L120, L122, L128, L150, L200, L208, L216, L224, L232, L240, L248, L255, L256, L264, L272, L280, L288, L296, L297, L300, L336, L337, L500, L680, L700, L998, L999, L1000, L1024, L1999, L6403, L9999, L10000, L12345, L99999, L1000000, L214424576, L412560384, L509804544, L639025541, L642945024, L658545824, L1103515245, L2147483647, g7_0, g7_1, g7_3, g7_4, g7_8, g7_13, g7_16, r7_0_0, r7_0_1, r7_0_2, r7_0_3, r7_0_4, r7_0_5, r7_0_6, r7_0_7, r7_1_0, r7_4_0, r7_4_1, r7_4_2, r7_8_0, r7_8_1, r7_8_2, r7_8_3, r7_13_0, r7_13_1, r7_16_0, r7_16_1, bd1_e]
  refine ⟨_, rfl, ?_⟩
  have eo : ∀ o, o ≠ 16 → (u1 (u1 m 16 3 (nI 0)) 16 4 (nI 0)).1 o = m.1 o := fun o h1 => by rw [u1_other h1, u1_other h1]
  have e0 := eo 0 (by omega)
  exact SF.mk hF.hp (by rw [e0]; exact hF.pl) (by rw [e0]; exact hF.sp) (by rw [e0]; exact hF.fc) (by rw [e0]; exact hF.fp) (hF.P.eq (fun o h1 h2 => eo o (by omega))) (CF.mk (by rw [eo 19 (by omega)]; exact hF.C.row) (by rw [eo 5 (by omega)]; exact hF.C.mv) (by rw [eo 7 (by omega)]; exact hF.C.sn)) (by rw [u1_rn (Or.inl (by omega)), u1_rs]; rfl) u1_rs (by omega) (fun j Y hj => by cases hj) (by rw [u1_rn (Or.inl (by omega)), u1_rn (Or.inl (by omega))]; exact hF.him) (by rw [eo 18 (by omega)]; exact hF.im) (by rw [eo 1 (by omega)]; exact hF.len) (by rw [eo 2 (by omega)]; exact hF.by)
end PU
