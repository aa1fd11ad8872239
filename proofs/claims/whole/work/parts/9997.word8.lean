/-! ===== tokens: the model ===== -/
def wC8 (k : Nat) : Nat := [108, 105, 110, 107, 32, 102, 108, 111, 119, 32, 115, 97, 109, 112, 108, 101, 32, 115, 116, 97, 103, 101, 32, 111, 102, 102, 32, 115, 101, 101, 100, 32].getD k 0
def wS8 (w : Nat) : Nat := [0, 5, 10, 17, 23, 27, 32].getD w 0
def wL8 (w : Nat) : Nat := [4, 4, 6, 5, 3, 4].getD w 0
def kW8 (w : Nat) : Nat := [412560384, 214424576, 639025541, 658545824, 509804544, 642945024].getD w 0
theorem chW_n : ∀ k, k < 32 → chW (nI k) = some (nI (wC8 k)) := by decide +kernel
theorem wC8_b : ∀ k, k < 32 → wC8 k < 128 := by decide
theorem w_1 : ∀ w, w < 6 → wS8 w + wL8 w + 1 = wS8 (w + 1) ∧ wS8 w + wL8 w < 32 ∧ wC8 (wS8 w + wL8 w) = 32 ∧ wL8 w ≤ 6 ∧ 1 ≤ wL8 w := by decide
theorem w_2 : ∀ w, w < 6 → ∀ i, i < 6 → i < wL8 w → wC8 (wS8 w + i) ≠ 32 := by decide
def mtW (B : Nat → Nat) (p len w : Nat) : Prop := len = wL8 w ∧ ∀ i, i < wL8 w → B (p + i) = wC8 (wS8 w + i)
def FM (m m' : Mm) : Prop := (∀ o, o ≠ 0 → m'.1 o = m.1 o) ∧ (∀ j, j < 18 ∨ 21 < j → m'.1 0 j = m.1 0 j)
theorem FM.rfl {m : Mm} : FM m m := ⟨fun _ _ => Eq.refl _, fun _ _ => Eq.refl _⟩
theorem FM.trans {m m' m'' : Mm} (h : FM m m') (h2 : FM m' m'') : FM m m'' := ⟨fun o ho => (h2.1 o ho).trans (h.1 o ho), fun j hj => (h2.2 j hj).trans (h.2 j hj)⟩
theorem FM.u {m m' : Mm} {j : Nat} {v : Int32} (h : FM m m') (hj : 18 ≤ j ∧ j ≤ 21) : FM m (u1 m' 0 j v) := h.trans ⟨fun o ho => u1_other ho, fun i hi => u1_rn (Or.inl (by omega))⟩
def TM (m : Mm) (B : Nat → Nat) (n a : Nat) : Prop := (m.1 0 17 = nI n) ∧ (m.1 0 18 = nI a) ∧ (∀ j, j < n → m.1 1 j = nI (B j))
theorem TM.mk {m : Mm} {B : Nat → Nat} {n a : Nat} (h_e : m.1 0 17 = nI n) (h_a : m.1 0 18 = nI a) (h_b : ∀ j, j < n → m.1 1 j = nI (B j)) : TM m B n a := ⟨h_e, h_a, h_b⟩
theorem TM.e {m : Mm} {B : Nat → Nat} {n a : Nat} (h : TM m B n a) : m.1 0 17 = nI n := h.1
theorem TM.a {m : Mm} {B : Nat → Nat} {n a : Nat} (h : TM m B n a) : m.1 0 18 = nI a := h.2.1
theorem TM.b {m : Mm} {B : Nat → Nat} {n a : Nat} (h : TM m B n a) : ∀ j, j < n → m.1 1 j = nI (B j) := h.2.2
theorem TM.fm {m m' : Mm} {B : Nat → Nat} {n a a' : Nat} (h : TM m B n a) (f : FM m m') (ha : m'.1 0 18 = nI a') : TM m' B n a' := TM.mk (by rw [f.2 17 (by omega)]; exact h.e) ha (by rw [f.1 1 (by omega)]; exact h.b)
section MX
variable {m : Mm} {B : Nat → Nat} {n a : Nat}
theorem e8_here (h : TM m B n a) (hn : n ≤ 700) (ha : a ≤ n) : fX8_here SX8 m 0 = some (if a < n then nI (B a) else -nI 1) := by
  unfold fX8_here jX8_here_24
  simp (disch := omega) only [L0, L1, L2, L3, L4, L5, L6, L7, L8, L9, L10, L11, L12, L13, L14, L15, L16, L17, L18, L19, L20, L21, L22, L23, L24, L25, L26, L27, L28, L29, L30, L31, L32, L33, L34, L35, L36, L37, L38, L39, L40, L41, L42, L43, L44, L45, L46, L47, L48, L50, L57, L59, L60, L63, L64, L65, L70, L80, L90, L97, L100, L110, L120, L122, L128, L150, L200, L208, L216, L224, L232, L240, L248, L255, L256, L264, L272, L280, L288, L296, L297, L300, L336, L337, L500, L680, L700, L998, L999, L1000, L1024, L1999, L6403, L9999, L10000, L12345, L99999, L1000000, L214424576, L412560384, L509804544, L639025541, L642945024, L658545824, L1103515245, L2147483647, g8_0, r8_1, r8_3, r8_4, r8_5, r8_6, r8_7, r8_8, r8_9, r8_10, r8_11, r8_12, r8_13, r8_14, r8_15, r8_26, r8_27, r8_28, r8_29, r8_30, r8_33, r8_34, r8_35, r8_36, r8_37, r8_39, r8_40, r8_41, r8_43, r8_44, r8_45, h.e, h.a, nn_le]
  by_cases c : n ≤ a
  · rw [if_pos c, if_neg (by omega)]
  · rw [if_neg c, if_pos (by omega), ldA_n s8_1 (by omega) (by omega), h.b a (by omega), bd1_e]
theorem e8_isSmall {k : Nat} (h : k < 256) : fX8_isSmall SX8 m (nI k) = some (nI (bO (isL k))) := by
  unfold fX8_isSmall jX8_isSmall_16 jX8_isSmall_17
  simp (disch := omega) only [L0, L1, L2, L3, L4, L5, L6, L7, L8, L9, L10, L11, L12, L13, L14, L15, L16, L17, L18, L19, L20, L21, L22, L23, L24, L25, L26, L27, L28, L29, L30, L31, L32, L33, L34, L35, L36, L37, L38, L39, L40, L41, L42, L43, L44, L45, L46, L47, L48, L50, L57, L59, L60, L63, L64, L65, L70, L80, L90, L97, L100, L110, L120, L122, L128, L150, L200, L208, L216, L224, L232, L240, L248, L255, L256, L264, L272, L280, L288, L296, L297, L300, L336, L337, L500, L680, L700, L998, L999, L1000, L1024, L1999, L6403, L9999, L10000, L12345, L99999, L1000000, L214424576, L412560384, L509804544, L639025541, L642945024, L658545824, L1103515245, L2147483647, nn_lt, okZ_0, okZ_1, bd1_e]
  by_cases c : k < 97
  · rw [if_pos c, show isL k = false from decide_eq_false (by omega)]; rfl
  · rw [if_neg c]
    by_cases c2 : 122 < k
    · rw [if_pos c2, show isL k = false from decide_eq_false (by omega)]; rfl
    · rw [if_neg c2, show isL k = true from decide_eq_true (by omega)]; rfl
theorem e8_isDigit {k : Nat} (h : k < 256) : fX8_isDigit SX8 m (nI k) = some (nI (bO (isD k))) := by
  unfold fX8_isDigit jX8_isDigit_16 jX8_isDigit_17
  simp (disch := omega) only [L0, L1, L2, L3, L4, L5, L6, L7, L8, L9, L10, L11, L12, L13, L14, L15, L16, L17, L18, L19, L20, L21, L22, L23, L24, L25, L26, L27, L28, L29, L30, L31, L32, L33, L34, L35, L36, L37, L38, L39, L40, L41, L42, L43, L44, L45, L46, L47, L48, L50, L57, L59, L60, L63, L64, L65, L70, L80, L90, L97, L100, L110, L120, L122, L128, L150, L200, L208, L216, L224, L232, L240, L248, L255, L256, L264, L272, L280, L288, L296, L297, L300, L336, L337, L500, L680, L700, L998, L999, L1000, L1024, L1999, L6403, L9999, L10000, L12345, L99999, L1000000, L214424576, L412560384, L509804544, L639025541, L642945024, L658545824, L1103515245, L2147483647, nn_lt, okZ_0, okZ_1, bd1_e]
  by_cases c : k < 48
  · rw [if_pos c, show isD k = false from decide_eq_false (by omega)]; rfl
  · rw [if_neg c]
    by_cases c2 : 57 < k
    · rw [if_pos c2, show isD k = false from decide_eq_false (by omega)]; rfl
    · rw [if_neg c2, show isD k = true from decide_eq_true (by omega)]; rfl
theorem e8_isSmall1 : fX8_isSmall SX8 m (-nI 1) = some (nI 0) := by
  unfold fX8_isSmall jX8_isSmall_16 jX8_isSmall_17
  simp only [L0, L1, L2, L3, L4, L5, L6, L7, L8, L9, L10, L11, L12, L13, L14, L15, L16, L17, L18, L19, L20, L21, L22, L23, L24, L25, L26, L27, L28, L29, L30, L31, L32, L33, L34, L35, L36, L37, L38, L39, L40, L41, L42, L43, L44, L45, L46, L47, L48, L50, L57, L59, L60, L63, L64, L65, L70, L80, L90, L97, L100, L110, L120, L122, L128, L150, L200, L208, L216, L224, L232, L240, L248, L255, L256, L264, L272, L280, L288, L296, L297, L300, L336, L337, L500, L680, L700, L998, L999, L1000, L1024, L1999, L6403, L9999, L10000, L12345, L99999, L1000000, L214424576, L412560384, L509804544, L639025541, L642945024, L658545824, L1103515245, L2147483647, okZ_0, bd1_e]
  rw [if_pos (by decide)]
theorem e8_isDigit1 : fX8_isDigit SX8 m (-nI 1) = some (nI 0) := by
  unfold fX8_isDigit jX8_isDigit_16 jX8_isDigit_17
  simp only [L0, L1, L2, L3, L4, L5, L6, L7, L8, L9, L10, L11, L12, L13, L14, L15, L16, L17, L18, L19, L20, L21, L22, L23, L24, L25, L26, L27, L28, L29, L30, L31, L32, L33, L34, L35, L36, L37, L38, L39, L40, L41, L42, L43, L44, L45, L46, L47, L48, L50, L57, L59, L60, L63, L64, L65, L70, L80, L90, L97, L100, L110, L120, L122, L128, L150, L200, L208, L216, L224, L232, L240, L248, L255, L256, L264, L272, L280, L288, L296, L297, L300, L336, L337, L500, L680, L700, L998, L999, L1000, L1024, L1999, L6403, L9999, L10000, L12345, L99999, L1000000, L214424576, L412560384, L509804544, L639025541, L642945024, L658545824, L1103515245, L2147483647, okZ_0, bd1_e]
  rw [if_pos (by decide)]
/-! a word at hand -/
theorem e8_word {p q w : Nat} (h18 : m.1 0 18 = nI q) (h19 : m.1 0 19 = nI p) (hb : ∀ j, j < n → m.1 1 j = nI (B j)) (hB : ∀ j, j < n → B j < 256) (hn : n ≤ 700) (hq : q ≤ n) (hp : p ≤ q) (hw : w < 6) :
    (mtW B p (q - p) w ∧ bX8_wordHere_4 SX8 m 0 (nI w) (nI (wS8 w)) = some (.inr (.inl (nI w)))) ∨ (¬ mtW B p (q - p) w ∧ bX8_wordHere_4 SX8 m 0 (nI w) (nI (wS8 w)) = some (.inl (nI (w + 1), nI (wS8 (w + 1))))) := by
  obtain ⟨f1, f2, f3, f4, f5⟩ := w_1 w hw
  -- as many letters as agree
  obtain ⟨r, a1, i0, rfl, a2, a3, a4, a5⟩ := lp_n (b := fun s4 : Int32 => bX8_wordHere_15 SX8 m 0 (nI w) (nI (wS8 w)) s4) (N := fu) (s0 := nI 0) (fun i s => s = nI i ∧ i ≤ wL8 w ∧ p + i ≤ q ∧ ∀ j, j < i → B (p + j) = wC8 (wS8 w + j))
    (fun r => ∃ i, r = nI i ∧ i ≤ wL8 w ∧ p + i ≤ q ∧ (∀ j, j < i → B (p + j) = wC8 (wS8 w + j)) ∧ (i = wL8 w ∨ p + i = q ∨ B (p + i) ≠ wC8 (wS8 w + i))) 7 ⟨rfl, by omega, by omega, fun j hj => by omega⟩ (by unfold fu; omega)
    (by
      rintro i s hi ⟨rfl, b1, b2, b3⟩
      unfold bX8_wordHere_15
      simp (disch := omega) only [L0, L1, L2, L3, L4, L5, L6, L7, L8, L9, L10, L11, L12, L13, L14, L15, L16, L17, L18, L19, L20, L21, L22, L23, L24, L25, L26, L27, L28, L29, L30, L31, L32, L33, L34, L35, L36, L37, L38, L39, L40, L41, L42, L43, L44, L45, L46, L47, L48, L50, L57, L59, L60, L63, L64, L65, L70, L80, L90, L97, L100, L110, L120, L122, L128, L150, L200, L208, L216, L224, L232, L240, L248, L255, L256, L264, L272, L280, L288, L296, L297, L300, L336, L337, L500, L680, L700, L998, L999, L1000, L1024, L1999, L6403, L9999, L10000, L12345, L99999, L1000000, L214424576, L412560384, L509804544, L639025541, L642945024, L658545824, L1103515245, L2147483647, g8_0, r8_1, r8_3, r8_4, r8_5, r8_6, r8_7, r8_8, r8_9, r8_10, r8_11, r8_12, r8_13, r8_14, r8_15, r8_26, r8_27, r8_28, r8_29, r8_30, r8_33, r8_34, r8_35, r8_36, r8_37, r8_39, r8_40, r8_41, r8_43, r8_44, r8_45, nI_add, chW_n, bd1_e, h18, h19, nn_le]
      have hc := wC8_b (wS8 w + i) (by omega)
      simp (disch := omega) only [nn_eq]
      by_cases c1 : wC8 (wS8 w + i) = 32
      · rw [if_pos c1]
        refine Or.inr ⟨_, rfl, i, rfl, b1, b2, b3, Or.inl ?_⟩
        by_cases e : i < wL8 w
        · exact absurd c1 (w_2 w hw i (by omega) e)
        · omega
      · have hlt : i < wL8 w := by
          by_cases e : i = wL8 w
          · subst e; exact absurd f3 c1
          · omega
        rw [if_neg c1]
        by_cases c2 : q ≤ p + i
        · rw [if_pos c2]
          exact Or.inr ⟨_, rfl, i, rfl, b1, b2, b3, Or.inr (Or.inl (by omega))⟩
        · rw [if_neg c2]
          have hBi := hB (p + i) (by omega)
          simp (disch := omega) only [ldA_n s8_1, hb (p + i) (by omega), bd1_e, nn_eq]
          by_cases c3 : B (p + i) = wC8 (wS8 w + i)
          · rw [if_neg (fun z => z c3)]
            refine Or.inl ⟨_, rfl, rfl, by omega, by omega, fun j hj => ?_⟩
            by_cases e : j = i
            · subst e; exact c3
            · exact b3 j (by omega)
          · rw [if_pos c3]
            exact Or.inr ⟨_, rfl, i, rfl, b1, b2, b3, Or.inr (Or.inr c3)⟩)
    (by rintro s ⟨rfl, b1, _⟩; omega)
  -- on to the next word
  obtain ⟨r2, d1, rfl⟩ := lp_n (b := fun s8 : Int32 => bX8_wordHere_97 SX8 m 0 (nI w) s8) (N := fu) (s0 := nI (wS8 w)) (fun i s => s = nI (wS8 w + i) ∧ i ≤ wL8 w) (fun r => r = nI (wS8 w + wL8 w)) 7 ⟨rfl, by omega⟩ (by unfold fu; omega)
    (by
      rintro i s hi ⟨rfl, b1⟩
      unfold bX8_wordHere_97
      simp (disch := omega) only [L0, L1, L2, L3, L4, L5, L6, L7, L8, L9, L10, L11, L12, L13, L14, L15, L16, L17, L18, L19, L20, L21, L22, L23, L24, L25, L26, L27, L28, L29, L30, L31, L32, L33, L34, L35, L36, L37, L38, L39, L40, L41, L42, L43, L44, L45, L46, L47, L48, L50, L57, L59, L60, L63, L64, L65, L70, L80, L90, L97, L100, L110, L120, L122, L128, L150, L200, L208, L216, L224, L232, L240, L248, L255, L256, L264, L272, L280, L288, L296, L297, L300, L336, L337, L500, L680, L700, L998, L999, L1000, L1024, L1999, L6403, L9999, L10000, L12345, L99999, L1000000, L214424576, L412560384, L509804544, L639025541, L642945024, L658545824, L1103515245, L2147483647, chW_n, bd1_e, nI_add]
      have hc := wC8_b (wS8 w + i) (by omega)
      simp (disch := omega) only [nn_eq]
      by_cases c1 : wC8 (wS8 w + i) = 32
      · rw [if_pos c1]
        refine Or.inr ⟨_, rfl, ?_⟩
        by_cases e : i < wL8 w
        · exact absurd c1 (w_2 w hw i (by omega) e)
        · rw [show i = wL8 w by omega]
      · rw [if_neg c1]
        refine Or.inl ⟨_, rfl, by rw [Nat.add_assoc], ?_⟩
        by_cases e : i = wL8 w
        · subst e; exact absurd f3 c1
        · omega)
    (by rintro s ⟨rfl, b1⟩; omega)
  unfold bX8_wordHere_4 jX8_wordHere_69
  have h32 : ¬ nI 32 ≤ nI (wS8 w) := by rw [nn_le (by omega) (by omega)]; omega
  have hc := wC8_b (wS8 w + i0) (by omega)
  simp (disch := omega) only [L0, L1, L2, L3, L4, L5, L6, L7, L8, L9, L10, L11, L12, L13, L14, L15, L16, L17, L18, L19, L20, L21, L22, L23, L24, L25, L26, L27, L28, L29, L30, L31, L32, L33, L34, L35, L36, L37, L38, L39, L40, L41, L42, L43, L44, L45, L46, L47, L48, L50, L57, L59, L60, L63, L64, L65, L70, L80, L90, L97, L100, L110, L120, L122, L128, L150, L200, L208, L216, L224, L232, L240, L248, L255, L256, L264, L272, L280, L288, L296, L297, L300, L336, L337, L500, L680, L700, L998, L999, L1000, L1024, L1999, L6403, L9999, L10000, L12345, L99999, L1000000, L214424576, L412560384, L509804544, L639025541, L642945024, L658545824, L1103515245, L2147483647, if_neg h32, a1, d1, bd1_e, nI_add, chW_n, h18, h19, nn_eq, f1]
  by_cases c1 : wC8 (wS8 w + i0) = 32
  · have e0 : i0 = wL8 w := by
      by_cases e : i0 < wL8 w
      · exact absurd c1 (w_2 w hw i0 (by omega) e)
      · omega
    rw [if_neg (fun z => z c1)]
    by_cases c2 : p + i0 = q
    · rw [if_neg (fun z => z c2)]
      exact Or.inl ⟨⟨by omega, fun i hi => a4 i (by omega)⟩, rfl⟩
    · rw [if_pos c2]
      exact Or.inr ⟨fun z => c2 (by have := z.1; omega), rfl⟩
  · have e0 : i0 ≠ wL8 w := fun e => c1 (by rw [e]; exact f3)
    rw [if_pos c1]
    refine Or.inr ⟨fun z => ?_, rfl⟩
    rcases a5 with y | y | y
    · exact e0 y
    · have := z.1; omega
    · exact y (z.2 i0 (by omega))
theorem e8_wordHere {p q : Nat} (h18 : m.1 0 18 = nI q) (h19 : m.1 0 19 = nI p) (hb : ∀ j, j < n → m.1 1 j = nI (B j)) (hB : ∀ j, j < n → B j < 256) (hn : n ≤ 700) (hq : q ≤ n) (hp : p ≤ q) :
    (∃ w, w < 6 ∧ mtW B p (q - p) w ∧ fX8_wordHere SX8 m 0 = some (nI w)) ∨ ((∀ w, w < 6 → ¬ mtW B p (q - p) w) ∧ fX8_wordHere SX8 m 0 = some (-nI 1)) := by
  obtain ⟨r, a1, a2⟩ := lp_n (b := fun s12 : Int32 × Int32 => bX8_wordHere_4 SX8 m 0 s12.1 s12.2) (N := fu) (s0 := (nI 0, nI 0)) (fun k s => s = (nI k, nI (wS8 k)) ∧ ∀ w, w < k → ¬ mtW B p (q - p) w) (fun r => (∃ w, w < 6 ∧ mtW B p (q - p) w ∧ r = .inl (nI w)) ∨ ((∀ w, w < 6 → ¬ mtW B p (q - p) w) ∧ r = .inr ())) 6 ⟨rfl, fun w hw => by omega⟩ (by unfold fu; omega)
    (by
      rintro k s hk ⟨rfl, b1⟩
      rcases e8_word h18 h19 hb hB hn hq hp hk with ⟨c1, c2⟩ | ⟨c1, c2⟩
      · exact Or.inr ⟨_, c2, Or.inl ⟨k, hk, c1, rfl⟩⟩
      · refine Or.inl ⟨_, c2, rfl, fun w hw => ?_⟩
        by_cases e : w = k
        · subst e; exact c1
        · exact b1 w (by omega))
    (by
      rintro s ⟨rfl, b1⟩
      refine ⟨.inr (), ?_, Or.inr ⟨b1, rfl⟩⟩
      dsimp only
      unfold bX8_wordHere_4
      simp only [L0, L1, L2, L3, L4, L5, L6, L7, L8, L9, L10, L11, L12, L13, L14, L15, L16, L17, L18, L19, L20, L21, L22, L23, L24, L25, L26, L27, L28, L29, L30, L31, L32, L33, L34, L35, L36, L37, L38, L39, L40, L41, L42, L43, L44, L45, L46, L47, L48, L50, L57, L59, L60, L63, L64, L65, L70, L80, L90, L97, L100, L110, L120, L122, L128, L150, L200, L208, L216, L224, L232, L240, L248, L255, L256, L264, L272, L280, L288, L296, L297, L300, L336, L337, L500, L680, L700, L998, L999, L1000, L1024, L1999, L6403, L9999, L10000, L12345, L99999, L1000000, L214424576, L412560384, L509804544, L639025541, L642945024, L658545824, L1103515245, L2147483647]
      exact if_pos (by decide))
  unfold fX8_wordHere
  simp only [L0, L1, L2, L3, L4, L5, L6, L7, L8, L9, L10, L11, L12, L13, L14, L15, L16, L17, L18, L19, L20, L21, L22, L23, L24, L25, L26, L27, L28, L29, L30, L31, L32, L33, L34, L35, L36, L37, L38, L39, L40, L41, L42, L43, L44, L45, L46, L47, L48, L50, L57, L59, L60, L63, L64, L65, L70, L80, L90, L97, L100, L110, L120, L122, L128, L150, L200, L208, L216, L224, L232, L240, L248, L255, L256, L264, L272, L280, L288, L296, L297, L300, L336, L337, L500, L680, L700, L998, L999, L1000, L1024, L1999, L6403, L9999, L10000, L12345, L99999, L1000000, L214424576, L412560384, L509804544, L639025541, L642945024, L658545824, L1103515245, L2147483647, g8_0, r8_1, r8_3, r8_4, r8_5, r8_6, r8_7, r8_8, r8_9, r8_10, r8_11, r8_12, r8_13, r8_14, r8_15, r8_26, r8_27, r8_28, r8_29, r8_30, r8_33, r8_34, r8_35, r8_36, r8_37, r8_39, r8_40, r8_41, r8_43, r8_44, r8_45, a1]
  rcases a2 with ⟨w, h1, h2, rfl⟩ | ⟨h1, rfl⟩
  · exact Or.inl ⟨w, h1, h2, rfl⟩
  · exact Or.inr ⟨h1, rfl⟩
end MX
