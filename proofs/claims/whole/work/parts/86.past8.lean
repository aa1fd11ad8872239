/-! ===== rows kept: the model ===== -/
theorem e8_copies {m : Mm} {a i b k na nb : Nat} (ha : SX8[a]? = some (.inl (0, na))) (hb : SX8[b]? = some (.inl (0, nb))) (hi : i + 337 ≤ na) (hk : k + 337 ≤ nb) (h1 : na < 10000) (h2 : nb < 10000) (hab : a ≠ b) : ∃ m', fX8_copies SX8 m a (nI i) b (nI k) = some m' ∧ (∀ n, n < 337 → m'.1 b (k + n) = m.1 a (i + n)) ∧ (∀ j, j < k ∨ k + 337 ≤ j → m'.1 b j = m.1 b j) ∧ Fr (fun o => o = b) m m' := by
  unfold fX8_copies
  simp only [L0, L1, L2, L3, L4, L5, L6, L7, L8, L9, L10, L11, L12, L13, L14, L15, L16, L17, L18, L19, L20, L21, L22, L23, L24, L25, L26, L27, L28, L29, L30, L31, L32, L33, L34, L35, L36, L37, L38, L39, L40, L41, L42, L43, L44, L45, L46, L47, L48, L50, L57, L59, L60, L63, L64, L65, L70, L80, L90, L97, L100, L110, L120, L122, L128, L150, L200, L208, L216, L224, L232, L240, L248, L255, L256, L264, L272, L280, L288, L296, L297, L300, L336, L337, L500, L680, L700, L998, L999, L1000, L1024, L1999, L6403, L9999, L10000, L12345, L99999, L1000000, L214424576, L412560384, L509804544, L639025541, L642945024, L658545824, L1103515245, L2147483647]
  obtain ⟨m', g1, g2, g3, g4⟩ := lp_F (b := fun s3 : Int32 × Mm => bX8_copies_3 SX8 a (nI i) b (nI k) s3.1 s3.2) (fun q m1 => (∀ n, n < q → m1.1 b (k + n) = m.1 a (i + n)) ∧ (∀ j, j < k ∨ k + q ≤ j → m1.1 b j = m.1 b j) ∧ Fr (fun o => o = b) m m1) 337 (m := m) (by omega) ⟨fun n hn => by omega, fun j _ => rfl, Fr.rfl⟩
    (by
      rintro q m1 hq ⟨A, D, F⟩
      dsimp only
      unfold bX8_copies_3
      simp (disch := omega) only [L0, L1, L2, L3, L4, L5, L6, L7, L8, L9, L10, L11, L12, L13, L14, L15, L16, L17, L18, L19, L20, L21, L22, L23, L24, L25, L26, L27, L28, L29, L30, L31, L32, L33, L34, L35, L36, L37, L38, L39, L40, L41, L42, L43, L44, L45, L46, L47, L48, L50, L57, L59, L60, L63, L64, L65, L70, L80, L90, L97, L100, L110, L120, L122, L128, L150, L200, L208, L216, L224, L232, L240, L248, L255, L256, L264, L272, L280, L288, L296, L297, L300, L336, L337, L500, L680, L700, L998, L999, L1000, L1024, L1999, L6403, L9999, L10000, L12345, L99999, L1000000, L214424576, L412560384, L509804544, L639025541, L642945024, L658545824, L1103515245, L2147483647, nn_le, nI_add, ldA_n ha, stA_n hb, narA_0, bd1_e]
      rw [if_neg (by omega)]
      refine ⟨_, rfl, fun n hn => ?_, fun j hj => ?_, F.st rfl⟩
      · by_cases e : n = q
        · subst e; rw [u1_rs, F.2 a hab]
        · rw [u1_rn (Or.inl (by omega))]; exact A n (by omega)
      · rw [u1_rn (Or.inl (by omega))]; exact D j (by omega))
    (by
      rintro m1 ⟨A, D, F⟩
      dsimp only
      unfold bX8_copies_3
      simp (disch := omega) only [L0, L1, L2, L3, L4, L5, L6, L7, L8, L9, L10, L11, L12, L13, L14, L15, L16, L17, L18, L19, L20, L21, L22, L23, L24, L25, L26, L27, L28, L29, L30, L31, L32, L33, L34, L35, L36, L37, L38, L39, L40, L41, L42, L43, L44, L45, L46, L47, L48, L50, L57, L59, L60, L63, L64, L65, L70, L80, L90, L97, L100, L110, L120, L122, L128, L150, L200, L208, L216, L224, L232, L240, L248, L255, L256, L264, L272, L280, L288, L296, L297, L300, L336, L337, L500, L680, L700, L998, L999, L1000, L1024, L1999, L6403, L9999, L10000, L12345, L99999, L1000000, L214424576, L412560384, L509804544, L639025541, L642945024, L658545824, L1103515245, L2147483647, nn_le]
      rw [if_pos (by omega)])
  rw [g1, bd1_e]
  exact ⟨_, rfl, g2, g3, g4⟩
section RE
variable {m : Mm} {π : Pl} {X : Nat → Nat} {U : List (Nat → Nat)} {I : Option (Nat → Nat)} {tl : Nat} {B : Nat → Nat} {fc fp : Int32}
/-- another row in the model's first place -/
theorem SM.row {m' : Mm} {Y : Nat → Nat} (h : SM m π X U I tl B fc fp) (hR : RM m' Y) (hf : Fr (fun o => o = 15) m m') : SM m' π Y U I tl B fc fp := by
  have e : ∀ o, o ≠ 15 → m'.1 o = m.1 o := fun o ho => hf.2 o ho
  exact SM.mk (h.P.eq (fun o h1 h2 h3 => e o (by omega))) hR (by rw [e 0 (by omega)]; exact h.und) (by rw [e 19 (by omega)]; exact h.rows) (by rw [e 0 (by omega)]; exact h.him) (by rw [e 18 (by omega)]; exact h.im) (by rw [e 0 (by omega)]; exact h.len) (by rw [e 1 (by omega)]; exact h.by) (by rw [e 0 (by omega)]; exact h.lf) (by rw [e 0 (by omega)]; exact h.lp)
/-- other rows to go back to -/
theorem SM.past {m' : Mm} {V : List (Nat → Nat)} (h : SM m π X U I tl B fc fp) (hf : Fr (fun o => o = 0 ∨ o = 19) m m') (h0 : ∀ j, j ≠ 31 → m'.1 0 j = m.1 0 j) (hu : m'.1 0 31 = nI V.length) (hr : ∀ j Y, V[j]? = some Y → RG (fun k => m'.1 19 (337 * (V.length - 1 - j) + k)) Y) : SM m' π X V I tl B fc fp := by
  have e : ∀ o, o ≠ 0 → o ≠ 19 → m'.1 o = m.1 o := fun o ho ho2 => hf.2 o (by omega)
  exact SM.mk (h.P.eq (fun o h1 h2 h3 => e o (by omega) (by omega))) (RG.m (by rw [e 15 (by omega) (by omega)]; exact h.R.g)) hu hr (by rw [h0 32 (by omega)]; exact h.him) (by rw [e 18 (by omega) (by omega)]; exact h.im) (by rw [h0 2 (by omega)]; exact h.len) (by rw [e 1 (by omega) (by omega)]; exact h.by) (by rw [h0 24 (by omega)]; exact h.lf) (by rw [h0 25 (by omega)]; exact h.lp)
/-- the row goes behind the others -/
theorem e8_rem50 {V : List (Nat → Nat)} (h : SM m π X V I tl B fc fp) (hV : V.length < 20) : ∃ m', jX8_remembers_50 SX8 m 0 = some m' ∧ SM m' π X (X :: V) I tl B fc fp ∧ ∀ j, j ≠ 31 → m'.1 0 j = m.1 0 j := by
  unfold jX8_remembers_50
  simp only [L0, L1, L2, L3, L4, L5, L6, L7, L8, L9, L10, L11, L12, L13, L14, L15, L16, L17, L18, L19, L20, L21, L22, L23, L24, L25, L26, L27, L28, L29, L30, L31, L32, L33, L34, L35, L36, L37, L38, L39, L40, L41, L42, L43, L44, L45, L46, L47, L48, L50, L57, L59, L60, L63, L64, L65, L70, L80, L90, L97, L100, L110, L120, L122, L128, L150, L200, L208, L216, L224, L232, L240, L248, L255, L256, L264, L272, L280, L288, L296, L297, L300, L336, L337, L500, L680, L700, L998, L999, L1000, L1024, L1999, L6403, L9999, L10000, L12345, L99999, L1000000, L214424576, L412560384, L509804544, L639025541, L642945024, L658545824, L1103515245, L2147483647, g8_0, r8_1, r8_3, r8_4, r8_5, r8_6, r8_7, r8_8, r8_9, r8_10, r8_11, r8_12, r8_13, r8_14, r8_15, r8_26, r8_27, r8_28, r8_29, r8_30, r8_33, r8_34, r8_35, r8_36, r8_37, r8_39, r8_40, r8_41, r8_43, r8_44, r8_45, h.und, pk_mul]
  obtain ⟨m1, g1, g2, g3, g4⟩ := e8_copies (m := m) (a := 15) (i := 0) (b := 19) (k := 337 * V.length) s8_15 s8_19 (by omega) (by omega) (by omega) (by omega) (by omega)
  have e31 : m1.1 0 31 = nI V.length := by rw [g4.2 0 (by omega)]; exact h.und
  simp only [g1, bd1_e, e31, nI_add]
  refine ⟨_, rfl, ?_, fun j hj => by rw [u1_rn (Or.inl hj), g4.2 0 (by omega)]⟩
  refine h.past (Fr.st (g4.mono (fun o ho => Or.inr ho)) (Or.inl rfl)) (fun j hj => by rw [u1_rn (Or.inl hj), g4.2 0 (by omega)]) u1_rs ?_
  intro j Y hj
  rw [List.length_cons]
  cases j with
  | zero =>
    simp at hj
    subst hj
    refine h.R.g.eq (fun k hk => ?_)
    rw [u1_other (by omega), show 337 * (V.length + 1 - 1 - 0) + k = 337 * V.length + k by omega, g2 k hk, Nat.zero_add]
  | succ j =>
    have hj' : V[j]? = some Y := by simpa using hj
    have hlt : j < V.length := (List.getElem?_eq_some_iff.mp hj').1
    refine (h.rows j Y hj').eq (fun k hk => ?_)
    rw [u1_other (by omega), show V.length + 1 - 1 - (j + 1) = V.length - 1 - j by omega, g3 _ (by omega)]
theorem e8_remembers (h : SM m π X U I tl B fc fp) (hU : U.length ≤ 20) : ∃ m', fX8_remembers SX8 m 0 = some m' ∧ SM m' π X ((X :: U).take 20) I tl B fc fp := by
  unfold fX8_remembers
  simp (disch := omega) only [L0, L1, L2, L3, L4, L5, L6, L7, L8, L9, L10, L11, L12, L13, L14, L15, L16, L17, L18, L19, L20, L21, L22, L23, L24, L25, L26, L27, L28, L29, L30, L31, L32, L33, L34, L35, L36, L37, L38, L39, L40, L41, L42, L43, L44, L45, L46, L47, L48, L50, L57, L59, L60, L63, L64, L65, L70, L80, L90, L97, L100, L110, L120, L122, L128, L150, L200, L208, L216, L224, L232, L240, L248, L255, L256, L264, L272, L280, L288, L296, L297, L300, L336, L337, L500, L680, L700, L998, L999, L1000, L1024, L1999, L6403, L9999, L10000, L12345, L99999, L1000000, L214424576, L412560384, L509804544, L639025541, L642945024, L658545824, L1103515245, L2147483647, g8_0, r8_1, r8_3, r8_4, r8_5, r8_6, r8_7, r8_8, r8_9, r8_10, r8_11, r8_12, r8_13, r8_14, r8_15, r8_26, r8_27, r8_28, r8_29, r8_30, r8_33, r8_34, r8_35, r8_36, r8_37, r8_39, r8_40, r8_41, r8_43, r8_44, r8_45, h.und, nn_eq]
  by_cases c : U.length = 20
  · rw [if_neg (fun z => z c)]
    obtain ⟨m1, g1, g2, g3, g4⟩ := lp_F (b := fun s5 : Int32 × Mm => bX8_remembers_11 SX8 0 s5.1 s5.2) (fun q m1 => (∀ n, n < q → m1.1 19 n = m.1 19 (337 + n)) ∧ (∀ j, q ≤ j → m1.1 19 j = m.1 19 j) ∧ Fr (fun o => o = 19) m m1) 6403 (m := m) (by omega) ⟨fun n hn => by omega, fun j _ => rfl, Fr.rfl⟩
      (by
        rintro q m1 hq ⟨A, D, F⟩
        dsimp only
        unfold bX8_remembers_11
        simp (disch := omega) only [L0, L1, L2, L3, L4, L5, L6, L7, L8, L9, L10, L11, L12, L13, L14, L15, L16, L17, L18, L19, L20, L21, L22, L23, L24, L25, L26, L27, L28, L29, L30, L31, L32, L33, L34, L35, L36, L37, L38, L39, L40, L41, L42, L43, L44, L45, L46, L47, L48, L50, L57, L59, L60, L63, L64, L65, L70, L80, L90, L97, L100, L110, L120, L122, L128, L150, L200, L208, L216, L224, L232, L240, L248, L255, L256, L264, L272, L280, L288, L296, L297, L300, L336, L337, L500, L680, L700, L998, L999, L1000, L1024, L1999, L6403, L9999, L10000, L12345, L99999, L1000000, L214424576, L412560384, L509804544, L639025541, L642945024, L658545824, L1103515245, L2147483647, g8_0, r8_1, r8_3, r8_4, r8_5, r8_6, r8_7, r8_8, r8_9, r8_10, r8_11, r8_12, r8_13, r8_14, r8_15, r8_26, r8_27, r8_28, r8_29, r8_30, r8_33, r8_34, r8_35, r8_36, r8_37, r8_39, r8_40, r8_41, r8_43, r8_44, r8_45, nn_le, nI_add, ldA_n s8_19, stA_n s8_19, narA_0, bd1_e]
        rw [if_neg (by omega)]
        refine ⟨_, rfl, fun n hn => ?_, fun j hj => ?_, F.st rfl⟩
        · by_cases e : n = q
          · subst e; rw [u1_rs, D _ (by omega)]
          · rw [u1_rn (Or.inl (by omega))]; exact A n (by omega)
        · rw [u1_rn (Or.inl (by omega))]; exact D j (by omega))
      (by
        rintro m1 ⟨A, D, F⟩
        dsimp only
        unfold bX8_remembers_11
        simp (disch := omega) only [L0, L1, L2, L3, L4, L5, L6, L7, L8, L9, L10, L11, L12, L13, L14, L15, L16, L17, L18, L19, L20, L21, L22, L23, L24, L25, L26, L27, L28, L29, L30, L31, L32, L33, L34, L35, L36, L37, L38, L39, L40, L41, L42, L43, L44, L45, L46, L47, L48, L50, L57, L59, L60, L63, L64, L65, L70, L80, L90, L97, L100, L110, L120, L122, L128, L150, L200, L208, L216, L224, L232, L240, L248, L255, L256, L264, L272, L280, L288, L296, L297, L300, L336, L337, L500, L680, L700, L998, L999, L1000, L1024, L1999, L6403, L9999, L10000, L12345, L99999, L1000000, L214424576, L412560384, L509804544, L639025541, L642945024, L658545824, L1103515245, L2147483647, nn_le]
        rw [if_pos (by omega)])
    have e31 : m1.1 0 31 = nI 20 := by rw [g4.2 0 (by omega), h.und, c]
    simp (disch := omega) only [g1, bd1_e, e31, pk_sub]
    have hl : (U.take 19).length = 19 := by rw [List.length_take]; omega
    have h2 : SM (u1 m1 0 31 (nI (20 - 1))) π X (U.take 19) I tl B fc fp := by
      refine h.past (Fr.st (g4.mono (fun o ho => Or.inr ho)) (Or.inl rfl)) (fun j hj => by rw [u1_rn (Or.inl hj), g4.2 0 (by omega)]) (by rw [u1_rs, hl]) ?_
      intro j Y hj
      have hj19 : j < 19 := by have := (List.getElem?_eq_some_iff.mp hj).1; omega
      rw [List.getElem?_take_of_lt hj19] at hj
      refine (h.rows j Y hj).eq (fun k hk => ?_)
      rw [hl, c, u1_other (by omega), g2 _ (by omega), show 337 + (337 * (19 - 1 - j) + k) = 337 * (20 - 1 - j) + k by omega]
    obtain ⟨m2, k1, k2, _⟩ := e8_rem50 h2 (by omega)
    refine ⟨m2, k1, ?_⟩
    rw [show (X :: U).take 20 = X :: U.take 19 from rfl]
    exact k2
  · rw [if_pos c]
    obtain ⟨m2, k1, k2, _⟩ := e8_rem50 h (by omega)
    refine ⟨m2, k1, ?_⟩
    rw [show (X :: U).take 20 = X :: U from List.take_of_length_le (by rw [List.length_cons]; omega)]
    exact k2
end RE
theorem SK.push {π : Pl} {X : Nat → Nat} {U : List (Nat → Nat)} {I : Option (Nat → Nat)} {tl : Nat} {B : Nat → Nat} (h : SK π X U I tl B) : SK π X ((X :: U).take 20) I tl B := by
  refine SK.mk h.O h.K h.t (by rw [take20_len]; omega) (fun Y hY => ?_) h.I h.tl h.B
  rcases List.mem_cons.mp (List.mem_of_mem_take hY) with rfl | hY
  · exact ⟨h.K, h.t⟩
  · exact h.U Y hY
/-- what the two answer where the state may change -/
def SimC (f7 f8 : Option (Int32 × Mm)) : Prop := ∃ v mF' mM', f7 = some (v, mF') ∧ f8 = some (v, mM') ∧ Sim mF' mM'
theorem J.set {π : Pl} {X : Nat → Nat} (O : π.ok) (h : J π X) {i v : Nat} (hi : (i < 10 ∧ v ≤ 999) ∨ (10 ≤ i ∧ i < 20 ∧ v ≤ 998) ∨ (20 ≤ i ∧ i < 30 ∧ v ≤ 1999) ∨ (200 ≤ i ∧ i < 216 ∧ v ≤ 1024) ∨ (264 ≤ i ∧ i < 272 ∧ v ≤ 1)) : J π (upN X i v) := by
  have hnl := O.nl
  have hnf := O.nf
  have key : ∀ j b, X j ≤ b → (j = i → v ≤ b) → upN X i v j ≤ b := by
    intro j b h1 h2
    by_cases e : j = i
    · subst e; rw [upN_s]; exact h2 rfl
    · rw [upN_n e]; exact h1
  refine J.mk ?_ ?_ ?_ ?_ ?_ ?_ ?_ ?_ ?_ ?_ ?_ ?_ ?_ ?_ ?_ ?_
  · intro l hl; exact key _ _ (h.xoff l hl) (by omega)
  · intro l hl; exact key _ _ (h.xon l hl) (by omega)
  · intro l hl; exact key _ _ (h.size l hl) (by omega)
  · intro l hl; exact key _ _ (h.fill l hl) (by omega)
  · intro l hl; rw [upN_n (by omega)]; exact h.asked l hl
  · intro l hl; exact key _ _ (h.peak l hl) (by omega)
  · intro l hl; rw [upN_n (by omega), upN_n (by omega)]; exact h.fp l hl
  · intro l hl; exact key _ _ (h.was l hl) (by omega)
  · intro l hl; rw [upN_n (by omega)]; exact h.cnt l hl
  · intro l hl; exact key _ _ (h.rate l hl) (by omega)
  · intro l hl; exact key _ _ (h.target l hl) (by omega)
  · intro l hl; exact key _ _ (h.on l hl) (by omega)
  · intro l hl; exact key _ _ (h.credit l hl) (by omega)
  · intro l hl; rw [upN_n (by omega)]; exact h.byc l hl
  · intro l hl; rw [upN_n (by omega)]; exact h.byt l hl
  · exact h.q.congr (fun j hj => upN_n (by omega))
theorem K2.set {π : Pl} {X : Nat → Nat} (O : π.ok) (h : K2 π X) {i v : Nat} (hi : (i < 10 ∧ v ≤ 999) ∨ (10 ≤ i ∧ i < 20 ∧ v ≤ 998) ∨ (20 ≤ i ∧ i < 30 ∧ v ≤ 1999) ∨ (200 ≤ i ∧ i < 216 ∧ v ≤ 1024) ∨ (264 ≤ i ∧ i < 272 ∧ v ≤ 1)) : K2 π (upN X i v) := by
  refine ⟨⟨h.1.1.set O hi, fun f hf => ?_⟩, h.2.same O (fun j hj => upN_n (by omega))⟩
  rw [upN_n (by omega), upN_n (by omega), upN_n (by omega), upN_n (by omega)]
  exact h.1.2 f hf
theorem SK.set {π : Pl} {X : Nat → Nat} {U : List (Nat → Nat)} {I : Option (Nat → Nat)} {tl : Nat} {B : Nat → Nat} (h : SK π X U I tl B) {i v : Nat} (hi : (i < 10 ∧ v ≤ 999) ∨ (10 ≤ i ∧ i < 20 ∧ v ≤ 998) ∨ (20 ≤ i ∧ i < 30 ∧ v ≤ 1999) ∨ (200 ≤ i ∧ i < 216 ∧ v ≤ 1024) ∨ (264 ≤ i ∧ i < 272 ∧ v ≤ 1)) : SK π (upN X i v) U I tl B := SK.mk h.O (h.K.set h.O hi) (by rw [upN_n (by omega)]; exact h.t) h.ul h.U h.I h.tl h.B
