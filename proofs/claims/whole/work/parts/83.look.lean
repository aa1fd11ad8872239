/-! ===== calls that only look ===== -/
theorem SF.r8 {m : Mm} {π : Pl} {X : Nat → Nat} {U : List (Nat → Nat)} {I : Option (Nat → Nat)} {p top tl : Nat} {B : Nat → Nat} {fc fp : Int32} (h : SF m π X U I p top tl B fc fp) : rf SX7 m 0 8 = p := by
  have hp := h.hp
  rw [rf_dyn (ci := 7) (rs := [2, 4, 5, 9, 14, 17, 20, 21, 0, 0, 0, 0]) rfl rfl, h.pl, nI_clamp (by omega)]
theorem SF.r9 {m : Mm} {π : Pl} {X : Nat → Nat} {U : List (Nat → Nat)} {I : Option (Nat → Nat)} {p top tl : Nat} {B : Nat → Nat} {fc fp : Int32} (h : SF m π X U I p top tl B fc fp) : rf SX7 m 0 9 = 52 - p := by
  have hp := h.hp
  rw [rf_dyn (ci := 7) (rs := [2, 4, 5, 9, 14, 17, 20, 21, 0, 0, 0, 0]) rfl rfl, h.sp, nI_clamp (by omega)]
theorem SM.thr {m : Mm} {π : Pl} {X : Nat → Nat} {U : List (Nat → Nat)} {I : Option (Nat → Nat)} {tl : Nat} {B : Nat → Nat} {fc fp : Int32} {v : Int32} (h : SM m π X U I tl B fc fp) : SM (u1 m 0 0 v) π X U I tl B fc fp := h.scr (fun o ho => by unfold coreM at ho; rw [u1_other (by omega)]) (fun j hj => by unfold coreJ at hj; rw [u1_rn (Or.inl (by omega))])
theorem i32_cases (a : Int32) (n : Nat) (hn : n < 2147483648) : (∃ k, k < n ∧ a = nI k) ∨ a < nI 0 ∨ (¬ a < nI 0 ∧ nI n ≤ a) := by
  by_cases h : a < nI 0
  · exact Or.inr (Or.inl h)
  · obtain ⟨j, hj, rfl⟩ := nI_of (x := a) h
    by_cases c : j < n
    · exact Or.inl ⟨j, c, rfl⟩
    · exact Or.inr (Or.inr ⟨h, (nn_le hn hj).mpr (by omega)⟩)
section LK
variable {mF mM : Mm} {π : Pl} {X : Nat → Nat} {U : List (Nat → Nat)} {I : Option (Nat → Nat)} {p top tl : Nat} {B : Nat → Nat} {fc fp : Int32}
theorem lk_1 (hF : SF mF π X U I p top tl B fc fp) (hM : SM mM π X U I tl B fc fp) (O : π.ok) {k : Nat} (hk : k < π.nl) : fX7_isLink SX7 mF 0 (nI k) = some (nI 1) ∧ fX8_isLink SX8 mM 0 (nI k) = some (nI 1) := by
  have hnl := O.nl
  unfold fX7_isLink jX7_isLink_20 fX8_isLink jX8_isLink_17
  simp (disch := omega) only [L0, L1, L2, L3, L4, L5, L6, L7, L8, L9, L10, L11, L12, L13, L14, L15, L16, L17, L18, L19, L20, L21, L22, L23, L24, L25, L26, L27, L28, L29, L30, L31, L32, L33, L34, L35, L36, L37, L38, L39, L40, L41, L42, L43, L44, L45, L46, L47, L48, L50, L57, L59, L60, L63, L64, L65, L70, L80, L90, L97, L100, L110, L120, L122, L128, L150, L200, L208, L216, L224, L232, L240, L248, L255, L256, L264, L272, L280, L288, L296, L297, L300, L336, L337, L500, L680, L700, L998, L999, L1000, L1024, L1999, L6403, L9999, L10000, L12345, L99999, L1000000, L214424576, L412560384, L509804544, L639025541, L642945024, L658545824, L1103515245, L2147483647, g7_0, g8_0, hF.r8, g7_p hF.hp, hF.P.nl, e8_links hM.P, bd1_e, nn_lt, nn_le, okZ_1]
  simp only [if_neg (show ¬ k < 0 by omega), if_neg (show ¬ π.nl ≤ k by omega), and_self]
theorem lk_0 (hF : SF mF π X U I p top tl B fc fp) (hM : SM mM π X U I tl B fc fp) (O : π.ok) {a : Int32} (h : a < nI 0 ∨ (¬ a < nI 0 ∧ nI π.nl ≤ a)) : fX7_isLink SX7 mF 0 a = some (nI 0) ∧ fX8_isLink SX8 mM 0 a = some (nI 0) := by
  unfold fX7_isLink jX7_isLink_19 jX7_isLink_20 fX8_isLink jX8_isLink_16 jX8_isLink_17
  simp only [L0, L1, L2, L3, L4, L5, L6, L7, L8, L9, L10, L11, L12, L13, L14, L15, L16, L17, L18, L19, L20, L21, L22, L23, L24, L25, L26, L27, L28, L29, L30, L31, L32, L33, L34, L35, L36, L37, L38, L39, L40, L41, L42, L43, L44, L45, L46, L47, L48, L50, L57, L59, L60, L63, L64, L65, L70, L80, L90, L97, L100, L110, L120, L122, L128, L150, L200, L208, L216, L224, L232, L240, L248, L255, L256, L264, L272, L280, L288, L296, L297, L300, L336, L337, L500, L680, L700, L998, L999, L1000, L1024, L1999, L6403, L9999, L10000, L12345, L99999, L1000000, L214424576, L412560384, L509804544, L639025541, L642945024, L658545824, L1103515245, L2147483647, g7_0, g8_0, hF.r8, g7_p hF.hp, hF.P.nl, e8_links hM.P, bd1_e, okZ_1, okZ_0]
  rcases h with h | ⟨h1, h2⟩
  · rw [if_pos h]; exact ⟨rfl, rfl⟩
  · rw [if_neg h1, if_pos h2]; exact ⟨rfl, rfl⟩
theorem fl_1 (hF : SF mF π X U I p top tl B fc fp) (hM : SM mM π X U I tl B fc fp) (O : π.ok) {k : Nat} (hk : k < π.nf) : fX7_isFlow SX7 mF 0 (nI k) = some (nI 1) ∧ fX8_isFlow SX8 mM 0 (nI k) = some (nI 1) := by
  have hnf := O.nf
  unfold fX7_isFlow jX7_isFlow_20 fX8_isFlow jX8_isFlow_17
  simp (disch := omega) only [L0, L1, L2, L3, L4, L5, L6, L7, L8, L9, L10, L11, L12, L13, L14, L15, L16, L17, L18, L19, L20, L21, L22, L23, L24, L25, L26, L27, L28, L29, L30, L31, L32, L33, L34, L35, L36, L37, L38, L39, L40, L41, L42, L43, L44, L45, L46, L47, L48, L50, L57, L59, L60, L63, L64, L65, L70, L80, L90, L97, L100, L110, L120, L122, L128, L150, L200, L208, L216, L224, L232, L240, L248, L255, L256, L264, L272, L280, L288, L296, L297, L300, L336, L337, L500, L680, L700, L998, L999, L1000, L1024, L1999, L6403, L9999, L10000, L12345, L99999, L1000000, L214424576, L412560384, L509804544, L639025541, L642945024, L658545824, L1103515245, L2147483647, g7_0, g8_0, hF.r8, g7_p hF.hp, hF.P.nf, e8_flows hM.P, bd1_e, nn_lt, nn_le, okZ_1]
  simp only [if_neg (show ¬ k < 0 by omega), if_neg (show ¬ π.nf ≤ k by omega), and_self]
theorem fl_0 (hF : SF mF π X U I p top tl B fc fp) (hM : SM mM π X U I tl B fc fp) (O : π.ok) {a : Int32} (h : a < nI 0 ∨ (¬ a < nI 0 ∧ nI π.nf ≤ a)) : fX7_isFlow SX7 mF 0 a = some (nI 0) ∧ fX8_isFlow SX8 mM 0 a = some (nI 0) := by
  unfold fX7_isFlow jX7_isFlow_19 jX7_isFlow_20 fX8_isFlow jX8_isFlow_16 jX8_isFlow_17
  simp only [L0, L1, L2, L3, L4, L5, L6, L7, L8, L9, L10, L11, L12, L13, L14, L15, L16, L17, L18, L19, L20, L21, L22, L23, L24, L25, L26, L27, L28, L29, L30, L31, L32, L33, L34, L35, L36, L37, L38, L39, L40, L41, L42, L43, L44, L45, L46, L47, L48, L50, L57, L59, L60, L63, L64, L65, L70, L80, L90, L97, L100, L110, L120, L122, L128, L150, L200, L208, L216, L224, L232, L240, L248, L255, L256, L264, L272, L280, L288, L296, L297, L300, L336, L337, L500, L680, L700, L998, L999, L1000, L1024, L1999, L6403, L9999, L10000, L12345, L99999, L1000000, L214424576, L412560384, L509804544, L639025541, L642945024, L658545824, L1103515245, L2147483647, g7_0, g8_0, hF.r8, g7_p hF.hp, hF.P.nf, e8_flows hM.P, bd1_e, okZ_1, okZ_0]
  rcases h with h | ⟨h1, h2⟩
  · rw [if_pos h]; exact ⟨rfl, rfl⟩
  · rw [if_neg h1, if_pos h2]; exact ⟨rfl, rfl⟩
end LK
theorem n10 : ¬ nI 1 = nI 0 := by decide
theorem sim_fault {mF mM : Mm} (S : Sim mF mM) (a : Int32) : ∃ v mM', fX7_fault SX7 mF 0 a = some v ∧ fX8_fault SX8 mM 0 a = some (v, mM') ∧ Sim mF mM' := by
  obtain ⟨π, X, U, I, p, top, tl, B, fc, fp, hF, hM0, hK⟩ := S
  have hM := hM0.thr (v := nI 0)
  unfold fX7_fault jX7_fault_22 fX8_fault jX8_fault_29
  simp only [L0, L1, L2, L3, L4, L5, L6, L7, L8, L9, L10, L11, L12, L13, L14, L15, L16, L17, L18, L19, L20, L21, L22, L23, L24, L25, L26, L27, L28, L29, L30, L31, L32, L33, L34, L35, L36, L37, L38, L39, L40, L41, L42, L43, L44, L45, L46, L47, L48, L50, L57, L59, L60, L63, L64, L65, L70, L80, L90, L97, L100, L110, L120, L122, L128, L150, L200, L208, L216, L224, L232, L240, L248, L255, L256, L264, L272, L280, L288, L296, L297, L300, L336, L337, L500, L680, L700, L998, L999, L1000, L1024, L1999, L6403, L9999, L10000, L12345, L99999, L1000000, L214424576, L412560384, L509804544, L639025541, L642945024, L658545824, L1103515245, L2147483647, g7_0, g8_0, bd1_e, hF.fc, hF.fp, hM.lf, hM.lp]
  by_cases h0 : a = nI 0
  · rw [if_neg (fun c => c h0), if_neg (fun c => c h0)]
    exact ⟨_, _, rfl, rfl, ⟨π, X, U, I, p, top, tl, B, fc, fp, hF, hM, hK⟩⟩
  · rw [if_pos h0, if_pos h0]
    by_cases h1 : a = nI 1
    · rw [if_neg (fun c => c h1), if_neg (fun c => c h1)]
      exact ⟨_, _, rfl, rfl, ⟨π, X, U, I, p, top, tl, B, fc, fp, hF, hM, hK⟩⟩
    · rw [if_pos h1, if_pos h1]
      exact ⟨_, _, rfl, rfl, ⟨π, X, U, I, p, top, tl, B, fc, fp, hF, hM, hK⟩⟩
/-! names -/
def fnd (g : Nat → Int32) (v : Int32) : Nat → Nat
  | 0 => 0
  | n + 1 => if fnd g v n ≠ 0 then fnd g v n else if g n = v then n + 1 else 0
theorem fnd_s (g : Nat → Int32) (v : Int32) (n : Nat) : fnd g v (n + 1) = if fnd g v n ≠ 0 then fnd g v n else if g n = v then n + 1 else 0 := rfl
theorem fnd_stay {g : Nat → Int32} {v : Int32} {k n : Nat} (h : fnd g v k ≠ 0) (hk : k ≤ n) : fnd g v n = fnd g v k := by
  induction n with
  | zero => have : k = 0 := by omega
            rw [this]
  | succ n ih =>
    by_cases e : k = n + 1
    · rw [e]
    · have := ih (by omega)
      rw [fnd_s, this, if_pos h]
theorem fnd_le (g : Nat → Int32) (v : Int32) (n : Nat) : fnd g v n ≤ n := by
  induction n with
  | zero => exact Nat.le_refl _
  | succ n ih => rw [fnd_s]; split <;> (try split) <;> omega
theorem fnd_congr {g g' : Nat → Int32} {v : Int32} {n : Nat} (h : ∀ k, k < n → g k = g' k) : fnd g v n = fnd g' v n := by
  induction n with
  | zero => rfl
  | succ n ih => rw [fnd_s, fnd_s, ih (fun k hk => h k (by omega)), h n (by omega)]
theorem lp_fnd {b : Int32 → Option (Int32 ⊕ (Int32 ⊕ Unit))} {g : Nat → Int32} {v : Int32} {n : Nat} (hn : n < 10000) (hs : ∀ k, k < n → b (nI k) = if ¬ g k = v then some (.inl (nI k + nI 1)) else some (.inr (.inl (nI k)))) (he : b (nI n) = some (.inr (.inr ()))) : bdR (lp b fu (nI 0)) (fun a => some a) (fun _ => some (-nI 1)) = some (nxI (fnd g v n)) := by
  obtain ⟨r, h1, h2⟩ := lp_n (b := b) (N := fu) (s0 := nI 0)
    (fun k s => s = nI k ∧ fnd g v k = 0)
    (fun r => (r = .inr () ∧ fnd g v n = 0) ∨ ∃ k, r = .inl (nI k) ∧ fnd g v n = k + 1)
    n ⟨rfl, rfl⟩ (by unfold fu; omega)
    (by
      rintro k s hk ⟨rfl, h0⟩
      rw [hs k hk]
      by_cases e : g k = v
      · rw [if_neg (fun c => c e)]
        refine Or.inr ⟨_, rfl, Or.inr ⟨k, rfl, ?_⟩⟩
        have e1 : fnd g v (k + 1) = k + 1 := by rw [fnd_s, if_neg (fun c => c h0), if_pos e]
        rw [fnd_stay (k := k + 1) (by rw [e1]; omega) (by omega), e1]
      · rw [if_pos e, nI_add]
        exact Or.inl ⟨_, rfl, rfl, by rw [fnd_s, if_neg (fun c => c h0), if_neg e]⟩)
    (by
      rintro s ⟨rfl, h0⟩
      exact ⟨_, he, Or.inl ⟨rfl, h0⟩⟩)
  rw [h1]
  rcases h2 with ⟨rfl, h3⟩ | ⟨k, rfl, h3⟩
  · rw [h3]; rfl
  · rw [h3]; rfl
theorem e_linkOf {m : Mm} {p : Nat} {π : Pl} {v : Int32} (P : PF m p π) (O : π.ok) (hp : p = 21 ∨ p = 31) : fX1_linkOf SX7 m p v = some (nxI (fnd π.lname v π.nl)) := by
  have hnl := O.nl
  unfold fX1_linkOf
  simp only [L0, L1, L2, L3, L4, L5, L6, L7, L8, L9, L10, L11, L12, L13, L14, L15, L16, L17, L18, L19, L20, L21, L22, L23, L24, L25, L26, L27, L28, L29, L30, L31, L32, L33, L34, L35, L36, L37, L38, L39, L40, L41, L42, L43, L44, L45, L46, L47, L48, L50, L57, L59, L60, L63, L64, L65, L70, L80, L90, L97, L100, L110, L120, L122, L128, L150, L200, L208, L216, L224, L232, L240, L248, L255, L256, L264, L272, L280, L288, L296, L297, L300, L336, L337, L500, L680, L700, L998, L999, L1000, L1024, L1999, L6403, L9999, L10000, L12345, L99999, L1000000, L214424576, L412560384, L509804544, L639025541, L642945024, L658545824, L1103515245, L2147483647, g7_p hp]
  refine lp_fnd (by omega) (fun k hk => ?_) ?_
  · unfold bX1_linkOf_2
    simp (disch := omega) only [L0, L1, L2, L3, L4, L5, L6, L7, L8, L9, L10, L11, L12, L13, L14, L15, L16, L17, L18, L19, L20, L21, L22, L23, L24, L25, L26, L27, L28, L29, L30, L31, L32, L33, L34, L35, L36, L37, L38, L39, L40, L41, L42, L43, L44, L45, L46, L47, L48, L50, L57, L59, L60, L63, L64, L65, L70, L80, L90, L97, L100, L110, L120, L122, L128, L150, L200, L208, L216, L224, L232, L240, L248, L255, L256, L264, L272, L280, L288, L296, L297, L300, L336, L337, L500, L680, L700, L998, L999, L1000, L1024, L1999, L6403, L9999, L10000, L12345, L99999, L1000000, L214424576, L412560384, L509804544, L639025541, L642945024, L658545824, L1103515245, L2147483647, g7_p hp, r7_p_0 hp, r7_p_1 hp, r7_p_2 hp, r7_p_3 hp, r7_p_4 hp, r7_p_5 hp, r7_p_6 hp, r7_p_7 hp, r7_p_8 hp, P.nl, nn_le, ldA_n (s7_p1 hp), P.lname k hk, bd1_e]
    rw [if_neg (by omega)]
  · unfold bX1_linkOf_2
    simp (disch := omega) only [P.nl, nn_le]
    rw [if_pos (by omega)]
theorem e_flowOf {m : Mm} {p : Nat} {π : Pl} {v : Int32} (P : PF m p π) (O : π.ok) (hp : p = 21 ∨ p = 31) : fX1_flowOf SX7 m p v = some (nxI (fnd π.fname v π.nf)) := by
  have hnf := O.nf
  unfold fX1_flowOf
  simp only [L0, L1, L2, L3, L4, L5, L6, L7, L8, L9, L10, L11, L12, L13, L14, L15, L16, L17, L18, L19, L20, L21, L22, L23, L24, L25, L26, L27, L28, L29, L30, L31, L32, L33, L34, L35, L36, L37, L38, L39, L40, L41, L42, L43, L44, L45, L46, L47, L48, L50, L57, L59, L60, L63, L64, L65, L70, L80, L90, L97, L100, L110, L120, L122, L128, L150, L200, L208, L216, L224, L232, L240, L248, L255, L256, L264, L272, L280, L288, L296, L297, L300, L336, L337, L500, L680, L700, L998, L999, L1000, L1024, L1999, L6403, L9999, L10000, L12345, L99999, L1000000, L214424576, L412560384, L509804544, L639025541, L642945024, L658545824, L1103515245, L2147483647, g7_p hp]
  refine lp_fnd (by omega) (fun k hk => ?_) ?_
  · unfold bX1_flowOf_2
    simp (disch := omega) only [L0, L1, L2, L3, L4, L5, L6, L7, L8, L9, L10, L11, L12, L13, L14, L15, L16, L17, L18, L19, L20, L21, L22, L23, L24, L25, L26, L27, L28, L29, L30, L31, L32, L33, L34, L35, L36, L37, L38, L39, L40, L41, L42, L43, L44, L45, L46, L47, L48, L50, L57, L59, L60, L63, L64, L65, L70, L80, L90, L97, L100, L110, L120, L122, L128, L150, L200, L208, L216, L224, L232, L240, L248, L255, L256, L264, L272, L280, L288, L296, L297, L300, L336, L337, L500, L680, L700, L998, L999, L1000, L1024, L1999, L6403, L9999, L10000, L12345, L99999, L1000000, L214424576, L412560384, L509804544, L639025541, L642945024, L658545824, L1103515245, L2147483647, g7_p hp, r7_p_0 hp, r7_p_1 hp, r7_p_2 hp, r7_p_3 hp, r7_p_4 hp, r7_p_5 hp, r7_p_6 hp, r7_p_7 hp, r7_p_8 hp, P.nf, nn_le, ldA_n (s7_p4 hp), P.fname k hk, bd1_e]
    rw [if_neg (by omega)]
  · unfold bX1_flowOf_2
    simp (disch := omega) only [P.nf, nn_le]
    rw [if_pos (by omega)]
theorem e8_foundIn {m : Mm} {c b n N : Nat} {v : Int32} {g : Nat → Int32} (hS : SX8[c]? = some (.inl (0, N))) (hN : b + n ≤ N) (hN2 : N < 10000) (h : ∀ k, k < n → m.1 c (b + k) = g k) : fX8_foundIn SX8 m c (nI b) (nI n) v = some (nxI (fnd g v n)) := by
  unfold fX8_foundIn
  simp only [L0, L1, L2, L3, L4, L5, L6, L7, L8, L9, L10, L11, L12, L13, L14, L15, L16, L17, L18, L19, L20, L21, L22, L23, L24, L25, L26, L27, L28, L29, L30, L31, L32, L33, L34, L35, L36, L37, L38, L39, L40, L41, L42, L43, L44, L45, L46, L47, L48, L50, L57, L59, L60, L63, L64, L65, L70, L80, L90, L97, L100, L110, L120, L122, L128, L150, L200, L208, L216, L224, L232, L240, L248, L255, L256, L264, L272, L280, L288, L296, L297, L300, L336, L337, L500, L680, L700, L998, L999, L1000, L1024, L1999, L6403, L9999, L10000, L12345, L99999, L1000000, L214424576, L412560384, L509804544, L639025541, L642945024, L658545824, L1103515245, L2147483647]
  refine lp_fnd (by omega) (fun k hk => ?_) ?_
  · unfold bX8_foundIn_3
    simp (disch := omega) only [L0, L1, L2, L3, L4, L5, L6, L7, L8, L9, L10, L11, L12, L13, L14, L15, L16, L17, L18, L19, L20, L21, L22, L23, L24, L25, L26, L27, L28, L29, L30, L31, L32, L33, L34, L35, L36, L37, L38, L39, L40, L41, L42, L43, L44, L45, L46, L47, L48, L50, L57, L59, L60, L63, L64, L65, L70, L80, L90, L97, L100, L110, L120, L122, L128, L150, L200, L208, L216, L224, L232, L240, L248, L255, L256, L264, L272, L280, L288, L296, L297, L300, L336, L337, L500, L680, L700, L998, L999, L1000, L1024, L1999, L6403, L9999, L10000, L12345, L99999, L1000000, L214424576, L412560384, L509804544, L639025541, L642945024, L658545824, L1103515245, L2147483647, nn_le, ldA_n hS, h k hk, bd1_e, nI_add]
    rw [if_neg (by omega)]
  · unfold bX8_foundIn_3
    simp (disch := omega) only [nn_le]
    rw [if_pos (by omega)]
theorem sim_named {mF mM : Mm} (S : Sim mF mM) (a b : Int32) : ∃ v mM', fX7_named SX7 mF 0 a b = some v ∧ fX8_named SX8 mM 0 a b = some (v, mM') ∧ Sim mF mM' := by
  obtain ⟨π, X, U, I, p, top, tl, B, fc, fp, hF, hM0, hK⟩ := S
  have hM := hM0.thr (v := nI 0)
  have hnl := hK.O.nl
  have hnf := hK.O.nf
  have S' : Sim mF (u1 mM 0 0 (nI 0)) := ⟨π, X, U, I, p, top, tl, B, fc, fp, hF, hM, hK⟩
  have hl : ∀ v, fX8_foundIn SX8 (u1 mM 0 0 (nI 0)) 4 (nI 0) (nI π.nl) v = some (nxI (fnd π.lname v π.nl)) := fun v => e8_foundIn s8_4 (by omega) (by omega) (fun k hk => by rw [Nat.zero_add]; exact hM.P.lname k hk)
  have hf : ∀ v, fX8_foundIn SX8 (u1 mM 0 0 (nI 0)) 10 (nI 0) (nI π.nf) v = some (nxI (fnd π.fname v π.nf)) := fun v => e8_foundIn s8_10 (by omega) (by omega) (fun k hk => by rw [Nat.zero_add]; exact hM.P.fname k hk)
  unfold fX7_named jX7_named_30 fX8_named jX8_named_47
  simp only [L0, L1, L2, L3, L4, L5, L6, L7, L8, L9, L10, L11, L12, L13, L14, L15, L16, L17, L18, L19, L20, L21, L22, L23, L24, L25, L26, L27, L28, L29, L30, L31, L32, L33, L34, L35, L36, L37, L38, L39, L40, L41, L42, L43, L44, L45, L46, L47, L48, L50, L57, L59, L60, L63, L64, L65, L70, L80, L90, L97, L100, L110, L120, L122, L128, L150, L200, L208, L216, L224, L232, L240, L248, L255, L256, L264, L272, L280, L288, L296, L297, L300, L336, L337, L500, L680, L700, L998, L999, L1000, L1024, L1999, L6403, L9999, L10000, L12345, L99999, L1000000, L214424576, L412560384, L509804544, L639025541, L642945024, L658545824, L1103515245, L2147483647, g8_0, r8_1, r8_3, r8_4, r8_5, r8_6, r8_7, r8_8, r8_9, r8_10, r8_11, r8_12, r8_13, r8_14, r8_15, r8_26, r8_27, r8_28, r8_29, r8_30, r8_33, r8_34, r8_35, r8_36, r8_37, r8_39, r8_40, r8_41, r8_43, r8_44, r8_45, g7_0, bd1_e, hF.r8, e_linkOf hF.P hK.O hF.hp, e_flowOf hF.P hK.O hF.hp, e8_links hM.P, e8_flows hM.P, hl, hf]
  by_cases h0 : a = nI 0
  · rw [if_neg (fun c => c h0), if_neg (fun c => c h0)]
    exact ⟨_, _, rfl, rfl, S'⟩
  · rw [if_pos h0, if_pos h0]
    by_cases h1 : a = nI 1
    · rw [if_neg (fun c => c h1), if_neg (fun c => c h1)]
      exact ⟨_, _, rfl, rfl, S'⟩
    · rw [if_pos h1, if_pos h1]
      exact ⟨_, _, rfl, rfl, S'⟩
theorem sim_queue {mF mM : Mm} (S : Sim mF mM) (a b : Int32) : ∃ v mM', fX7_queue SX7 mF 0 a b = some v ∧ fX8_queue SX8 mM 0 a b = some (v, mM') ∧ Sim mF mM' := by
  obtain ⟨π, X, U, I, p, top, tl, B, fc, fp, hF, hM0, hK⟩ := S
  have hM := hM0.thr (v := nI 0)
  have hnl := hK.O.nl
  have hnf := hK.O.nf
  have S' : Sim mF (u1 mM 0 0 (nI 0)) := ⟨π, X, U, I, p, top, tl, B, fc, fp, hF, hM, hK⟩
  unfold fX7_queue jX7_queue_16 fX8_queue jX8_queue_38 jX8_queue_39
  simp only [L0, L1, L2, L3, L4, L5, L6, L7, L8, L9, L10, L11, L12, L13, L14, L15, L16, L17, L18, L19, L20, L21, L22, L23, L24, L25, L26, L27, L28, L29, L30, L31, L32, L33, L34, L35, L36, L37, L38, L39, L40, L41, L42, L43, L44, L45, L46, L47, L48, L50, L57, L59, L60, L63, L64, L65, L70, L80, L90, L97, L100, L110, L120, L122, L128, L150, L200, L208, L216, L224, L232, L240, L248, L255, L256, L264, L272, L280, L288, L296, L297, L300, L336, L337, L500, L680, L700, L998, L999, L1000, L1024, L1999, L6403, L9999, L10000, L12345, L99999, L1000000, L214424576, L412560384, L509804544, L639025541, L642945024, L658545824, L1103515245, L2147483647, g8_0, r8_1, r8_3, r8_4, r8_5, r8_6, r8_7, r8_8, r8_9, r8_10, r8_11, r8_12, r8_13, r8_14, r8_15, r8_26, r8_27, r8_28, r8_29, r8_30, r8_33, r8_34, r8_35, r8_36, r8_37, r8_39, r8_40, r8_41, r8_43, r8_44, r8_45, g7_0, r7_0_6, bd1_e]
  rcases i32_cases a π.nl (by omega) with ⟨k, hk, rfl⟩ | h
  · simp only [(lk_1 hF hM hK.O hk).1, (lk_1 hF hM hK.O hk).2, bd1_e, if_neg n10]
    rcases i32_cases b π.nf (by omega) with ⟨f, hf, rfl⟩ | h
    · simp (disch := omega) only [(fl_1 hF hM hK.O hf).1, (fl_1 hF hM hK.O hf).2, bd1_e, if_neg n10, nI_add, pk_mul, ldA_n s7_19, hF.C.row, ldA_n s8_15, hM.R.q k f (by omega) (by omega)]
      exact ⟨_, _, if_pos n10, rfl, S'⟩
    · simp only [(fl_0 hF hM hK.O h).1, (fl_0 hF hM hK.O h).2, bd1_e]
      exact ⟨_, _, rfl, rfl, S'⟩
  · simp only [(lk_0 hF hM hK.O h).1, (lk_0 hF hM hK.O h).2, bd1_e]
    exact ⟨_, _, rfl, rfl, S'⟩
theorem sim_path {mF mM : Mm} (S : Sim mF mM) (a b : Int32) : ∃ v mM', fX7_path SX7 mF 0 a b = some v ∧ fX8_path SX8 mM 0 a b = some (v, mM') ∧ Sim mF mM' := by
  obtain ⟨π, X, U, I, p, top, tl, B, fc, fp, hF, hM0, hK⟩ := S
  have hM := hM0.thr (v := nI 0)
  have hnl := hK.O.nl
  have hnf := hK.O.nf
  have hp := hF.hp
  have S' : Sim mF (u1 mM 0 0 (nI 0)) := ⟨π, X, U, I, p, top, tl, B, fc, fp, hF, hM, hK⟩
  unfold fX7_path jX7_path_25 fX8_path jX8_path_40 jX8_path_41
  simp only [L0, L1, L2, L3, L4, L5, L6, L7, L8, L9, L10, L11, L12, L13, L14, L15, L16, L17, L18, L19, L20, L21, L22, L23, L24, L25, L26, L27, L28, L29, L30, L31, L32, L33, L34, L35, L36, L37, L38, L39, L40, L41, L42, L43, L44, L45, L46, L47, L48, L50, L57, L59, L60, L63, L64, L65, L70, L80, L90, L97, L100, L110, L120, L122, L128, L150, L200, L208, L216, L224, L232, L240, L248, L255, L256, L264, L272, L280, L288, L296, L297, L300, L336, L337, L500, L680, L700, L998, L999, L1000, L1024, L1999, L6403, L9999, L10000, L12345, L99999, L1000000, L214424576, L412560384, L509804544, L639025541, L642945024, L658545824, L1103515245, L2147483647, g8_0, r8_1, r8_3, r8_4, r8_5, r8_6, r8_7, r8_8, r8_9, r8_10, r8_11, r8_12, r8_13, r8_14, r8_15, r8_26, r8_27, r8_28, r8_29, r8_30, r8_33, r8_34, r8_35, r8_36, r8_37, r8_39, r8_40, r8_41, r8_43, r8_44, r8_45, g7_p hp, r7_p_0 hp, r7_p_1 hp, r7_p_2 hp, r7_p_3 hp, r7_p_4 hp, r7_p_5 hp, r7_p_6 hp, r7_p_7 hp, r7_p_8 hp, g7_0, hF.r8, bd1_e]
  rcases i32_cases a π.nf (by omega) with ⟨f, hf, rfl⟩ | h
  · have hho := hK.O.hops f hf
    simp (disch := omega) only [(fl_1 hF hM hK.O hf).1, (fl_1 hF hM hK.O hf).2, bd1_e, if_neg n10, ldA_n (s7_p5 hp), hF.P.hops f hf, ldA_n s8_13, hM.P.hops f hf]
    rcases i32_cases b (π.hops f) (by omega) with ⟨i, hi, rfl⟩ | h | ⟨h, h2⟩
    · simp (disch := omega) only [nn_lt, nn_le, nI_add, pk_mul, ldA_n (s7_p6 hp), hF.P.path f i hf hi, ldA_n s8_14, hM.P.path f i hf hi, bd1_e]
      rw [if_neg (by omega), if_pos hi, if_neg (by omega), if_neg (by omega)]
      exact ⟨_, _, rfl, rfl, S'⟩
    · rw [if_pos h, if_pos h]
      exact ⟨_, _, rfl, rfl, S'⟩
    · have h3 : ¬ b < nI (π.hops f) := fun c => by
        have c1 := Int32.lt_iff_toInt_lt.mp c
        have c2 := Int32.le_iff_toInt_le.mp h2
        omega
      rw [if_neg h, if_neg h3, if_neg h, if_pos h2]
      exact ⟨_, _, rfl, rfl, S'⟩
  · simp only [(fl_0 hF hM hK.O h).1, (fl_0 hF hM hK.O h).2, bd1_e]
    exact ⟨_, _, rfl, rfl, S'⟩
