/-! ===== the model's waits ===== -/
theorem e8_nextOf {m : Mm} {π : Pl} (P : PM m π) (O : π.ok) {f l : Nat} (hf : f < π.nf) (hl : l < 10) : fX8_nextOf SX8 m 0 (nI f) (nI l) = some (nxI (π.nx l f)) := by
  have hnl := O.nl
  have hnf := O.nf
  have hh := O.hops f hf
  have hle := π.hp_le f l
  unfold fX8_nextOf jX8_nextOf_24 jX8_nextOf_40
  simp (disch := omega) only [L0, L1, L2, L3, L4, L5, L6, L7, L8, L9, L10, L11, L12, L13, L14, L15, L16, L17, L18, L19, L20, L21, L22, L23, L24, L25, L26, L27, L28, L29, L30, L31, L32, L33, L34, L35, L36, L37, L38, L39, L40, L41, L42, L43, L44, L45, L46, L47, L48, L50, L57, L59, L60, L63, L64, L65, L70, L80, L90, L97, L100, L110, L120, L122, L128, L150, L200, L208, L216, L224, L232, L240, L248, L255, L256, L264, L272, L280, L288, L296, L297, L300, L336, L337, L500, L680, L700, L998, L999, L1000, L1024, L1999, L6403, L9999, L10000, L12345, L99999, L1000000, L214424576, L412560384, L509804544, L639025541, L642945024, L658545824, L1103515245, L2147483647, g8_0, r8_1, r8_3, r8_4, r8_5, r8_6, r8_7, r8_8, r8_9, r8_10, r8_11, r8_12, r8_13, r8_14, r8_15, r8_26, r8_27, r8_28, r8_29, r8_30, r8_33, r8_34, r8_35, r8_36, r8_37, r8_39, r8_40, r8_41, r8_43, r8_44, r8_45, e8_hopOf P O hf hl, bd1_e, ldA_n s8_13, P.hops f hf, pk_sub]
  unfold Pl.nx
  by_cases c : π.hp f l = 0
  · rw [c, if_pos (show nxI 0 = -nI 1 from rfl), if_pos rfl]; rfl
  · rw [nxI_p c, if_neg (by rw [nI_m1 (by omega)]; exact not_false), if_neg c]
    by_cases c2 : π.hp f l < π.hops f
    · rw [if_pos (by rw [nn_eq (by omega) (by omega)]; omega), if_pos c2]
      have ei : 5 * f + (π.hp f l - 1) + 1 = 5 * f + π.hp f l := by omega
      simp (disch := omega) only [nI_add, pk_mul, ei, ldA_n s8_14, P.path f (π.hp f l) hf c2, bd1_e]
      rfl
    · rw [if_neg (fun z => z (by rw [show π.hp f l = π.hops f by omega])), if_neg c2]; rfl
theorem e8_isWaiting {m : Mm} {π : Pl} {X : Nat → Nat} (R : RM m X) (P : PM m π) (O : π.ok) (hJ : J π X) {f l n : Nat} (hf : f < π.nf) (hl : l < 10) (hn : n < 10) : fX8_isWaiting SX8 m 0 (nI l) (nI f) (nI n) = some (nI (if X (40 + l) % 2 = 1 ∧ 0 < X (120 + l * 8 + f) ∧ π.nx l f = n + 1 ∧ X (40 + n) % 2 = 1 then 1 else 0)) := by
  have hnf := O.nf
  have hnl := O.nl
  have h2 : X (40 + l) % 2 < 2 := Nat.mod_lt _ (by decide)
  have h3 : X (40 + n) % 2 < 2 := Nat.mod_lt _ (by decide)
  have hq := Nat.le_trans (hJ.q.le (k := l) (g := f) hl (by omega)) (hJ.fill l hl)
  have hnx := Pl.nx_lt O (l := l) hf
  unfold fX8_isWaiting jX8_isWaiting_47 jX8_isWaiting_48
  simp (disch := omega) only [L0, L1, L2, L3, L4, L5, L6, L7, L8, L9, L10, L11, L12, L13, L14, L15, L16, L17, L18, L19, L20, L21, L22, L23, L24, L25, L26, L27, L28, L29, L30, L31, L32, L33, L34, L35, L36, L37, L38, L39, L40, L41, L42, L43, L44, L45, L46, L47, L48, L50, L57, L59, L60, L63, L64, L65, L70, L80, L90, L97, L100, L110, L120, L122, L128, L150, L200, L208, L216, L224, L232, L240, L248, L255, L256, L264, L272, L280, L288, L296, L297, L300, L336, L337, L500, L680, L700, L998, L999, L1000, L1024, L1999, L6403, L9999, L10000, L12345, L99999, L1000000, L214424576, L412560384, L509804544, L639025541, L642945024, L658545824, L1103515245, L2147483647, g8_0, r8_1, r8_3, r8_4, r8_5, r8_6, r8_7, r8_8, r8_9, r8_10, r8_11, r8_12, r8_13, r8_14, r8_15, r8_26, r8_27, r8_28, r8_29, r8_30, r8_33, r8_34, r8_35, r8_36, r8_37, r8_39, r8_40, r8_41, r8_43, r8_44, r8_45, e8_asked R hl, e8_asked R hn, bd1_e, nn_eq, nI_add, pk_mul, ldA_n s8_15, R.q l f hl (by omega), nn_le, e8_nextOf P O hf hl, okZ_0, okZ_1]
  by_cases c1 : X (40 + l) % 2 = 0
  · rw [if_pos c1, if_neg (by omega)]
  · rw [if_neg c1]
    by_cases c2 : X (120 + l * 8 + f) ≤ 0
    · rw [if_pos c2, if_neg (by omega)]
    · rw [if_neg c2]
      by_cases c3 : π.nx l f = n + 1
      · rw [c3, if_neg (fun z => z rfl)]
        by_cases c4 : X (40 + n) % 2 = 0
        · rw [if_pos c4, if_neg (by omega)]
        · rw [if_neg c4, if_pos (by omega)]
      · rw [if_pos ?_, if_neg (by omega)]
        intro z
        by_cases c5 : π.nx l f = 0
        · rw [c5] at z
          have := (nI_m1 (a := n) (by omega)).mp z.symm
          exact this
        · rw [nxI_p c5] at z
          have := (nn_eq (by omega) (by omega)).mp z
          omega
def cW (π : Pl) (X : Nat → Nat) (may : Bool) (l f : Nat) : Bool := if may = true then cM π l f else cP π X l f
def wW (π : Pl) (X : Nat → Nat) (may : Bool) (l : Nat) : Nat := wB (cW π X may l) (fun f => π.nx l f - 1) π.nf
theorem wW_t (π : Pl) (X : Nat → Nat) (l : Nat) : wW π X true l = wM' π l := wB_congr (fun f _ => rfl)
theorem wW_f (π : Pl) (X : Nat → Nat) (l : Nat) : wW π X false l = wP π X l := wB_congr (fun f _ => rfl)
theorem e8_laysWaits {m : Mm} {π : Pl} {X : Nat → Nat} (R : RM m X) (P : PM m π) (O : π.ok) (hJ : J π X) (may : Bool) : ∃ m', fX8_laysWaits SX8 m 0 (nI (if may = true then 1 else 0)) = some m' ∧ (∀ l, l < π.nl → m'.1 25 l = nI (wW π X may l)) ∧ Fr (fun o => o = 25) m m' := by
  have hnl := O.nl
  have hnf := O.nf
  unfold fX8_laysWaits
  simp only [L0, L1, L2, L3, L4, L5, L6, L7, L8, L9, L10, L11, L12, L13, L14, L15, L16, L17, L18, L19, L20, L21, L22, L23, L24, L25, L26, L27, L28, L29, L30, L31, L32, L33, L34, L35, L36, L37, L38, L39, L40, L41, L42, L43, L44, L45, L46, L47, L48, L50, L57, L59, L60, L63, L64, L65, L70, L80, L90, L97, L100, L110, L120, L122, L128, L150, L200, L208, L216, L224, L232, L240, L248, L255, L256, L264, L272, L280, L288, L296, L297, L300, L336, L337, L500, L680, L700, L998, L999, L1000, L1024, L1999, L6403, L9999, L10000, L12345, L99999, L1000000, L214424576, L412560384, L509804544, L639025541, L642945024, L658545824, L1103515245, L2147483647, g8_0, r8_1, r8_3, r8_4, r8_5, r8_6, r8_7, r8_8, r8_9, r8_10, r8_11, r8_12, r8_13, r8_14, r8_15, r8_26, r8_27, r8_28, r8_29, r8_30, r8_33, r8_34, r8_35, r8_36, r8_37, r8_39, r8_40, r8_41, r8_43, r8_44, r8_45]
  obtain ⟨y, a1, a2, a3⟩ := lp_F (b := fun s10 : Int32 × Mm => bX8_laysWaits_2 SX8 0 (nI (if may = true then 1 else 0)) s10.1 s10.2) (fun k m1 => (∀ l, l < k → m1.1 25 l = nI (wW π X may l)) ∧ Fr (fun o => o = 25) m m1) π.nl (m := m) (by omega) ⟨fun l hl => by omega, Fr.rfl⟩
    (by
      rintro l m1 hl ⟨A, F⟩
      have P1 : PM m1 π := P.fr F (fun o ho => by omega)
      dsimp only
      unfold bX8_laysWaits_2
      simp (disch := omega) only [L0, L1, L2, L3, L4, L5, L6, L7, L8, L9, L10, L11, L12, L13, L14, L15, L16, L17, L18, L19, L20, L21, L22, L23, L24, L25, L26, L27, L28, L29, L30, L31, L32, L33, L34, L35, L36, L37, L38, L39, L40, L41, L42, L43, L44, L45, L46, L47, L48, L50, L57, L59, L60, L63, L64, L65, L70, L80, L90, L97, L100, L110, L120, L122, L128, L150, L200, L208, L216, L224, L232, L240, L248, L255, L256, L264, L272, L280, L288, L296, L297, L300, L336, L337, L500, L680, L700, L998, L999, L1000, L1024, L1999, L6403, L9999, L10000, L12345, L99999, L1000000, L214424576, L412560384, L509804544, L639025541, L642945024, L658545824, L1103515245, L2147483647, g8_0, r8_1, r8_3, r8_4, r8_5, r8_6, r8_7, r8_8, r8_9, r8_10, r8_11, r8_12, r8_13, r8_14, r8_15, r8_26, r8_27, r8_28, r8_29, r8_30, r8_33, r8_34, r8_35, r8_36, r8_37, r8_39, r8_40, r8_41, r8_43, r8_44, r8_45, e8_links P1, bd1_e, nn_le, stA_n s8_25, narA_0]
      rw [if_neg (by omega)]
      obtain ⟨m3, c1, c2, c3, c4⟩ := lp_F (b := fun s8 : Int32 × Mm => bX8_laysWaits_19 SX8 0 (nI (if may = true then 1 else 0)) (nI l) s8.1 s8.2) (fun k m3 => (∀ a, a < l → m3.1 25 a = nI (wW π X may a)) ∧ m3.1 25 l = nI (wB (cW π X may l) (fun f => π.nx l f - 1) k) ∧ Fr (fun o => o = 25) m m3) π.nf (m := u1 m1 25 l (nI 0)) (by omega) ⟨fun a ha => by rw [u1_rn (Or.inl (by omega))]; exact A a ha, u1_rs, F.st rfl⟩
        (by
          rintro k m3 hk ⟨A3, B3, F3⟩
          have P3 : PM m3 π := P.fr F3 (fun o ho => by omega)
          have R3 : RM m3 X := R.fr F3 (by omega)
          have hn := Pl.nx_lt O (l := l) (f := k) hk
          have yes : ∀ n, π.nx l k = n + 1 → cW π X may l k = true → ∃ m4, jX8_laysWaits_56 SX8 m3 0 (nI (if may = true then 1 else 0)) (nI l) (nI k) (nI n) = some (.inl (nI (k + 1), m4)) ∧ (∀ a, a < l → m4.1 25 a = nI (wW π X may a)) ∧ m4.1 25 l = nI (wB (cW π X may l) (fun f => π.nx l f - 1) (k + 1)) ∧ Fr (fun o => o = 25) m m4 := by
            intro n hnx hcw
            unfold jX8_laysWaits_56 jX8_laysWaits_69
            simp (disch := omega) only [L0, L1, L2, L3, L4, L5, L6, L7, L8, L9, L10, L11, L12, L13, L14, L15, L16, L17, L18, L19, L20, L21, L22, L23, L24, L25, L26, L27, L28, L29, L30, L31, L32, L33, L34, L35, L36, L37, L38, L39, L40, L41, L42, L43, L44, L45, L46, L47, L48, L50, L57, L59, L60, L63, L64, L65, L70, L80, L90, L97, L100, L110, L120, L122, L128, L150, L200, L208, L216, L224, L232, L240, L248, L255, L256, L264, L272, L280, L288, L296, L297, L300, L336, L337, L500, L680, L700, L998, L999, L1000, L1024, L1999, L6403, L9999, L10000, L12345, L99999, L1000000, L214424576, L412560384, L509804544, L639025541, L642945024, L658545824, L1103515245, L2147483647, g8_0, r8_1, r8_3, r8_4, r8_5, r8_6, r8_7, r8_8, r8_9, r8_10, r8_11, r8_12, r8_13, r8_14, r8_15, r8_26, r8_27, r8_28, r8_29, r8_30, r8_33, r8_34, r8_35, r8_36, r8_37, r8_39, r8_40, r8_41, r8_43, r8_44, r8_45, ldA_n s8_25, B3, bd1_e, sh1 n (by omega), nI_or, stA_n s8_25, narA_0, nI_add]
            refine ⟨_, rfl, fun a ha => by rw [u1_rn (Or.inl (by omega))]; exact A3 a ha, ?_, F3.st rfl⟩
            rw [u1_rs, wB_s, if_pos hcw, hnx, Nat.add_sub_cancel]
          have no : cW π X may l k = false → ∃ m4, jX8_laysWaits_69 SX8 m3 0 (nI (if may = true then 1 else 0)) (nI l) (nI k) = some (.inl (nI (k + 1), m4)) ∧ (∀ a, a < l → m4.1 25 a = nI (wW π X may a)) ∧ m4.1 25 l = nI (wB (cW π X may l) (fun f => π.nx l f - 1) (k + 1)) ∧ Fr (fun o => o = 25) m m4 := by
            intro hcw
            unfold jX8_laysWaits_69
            simp only [L0, L1, L2, L3, L4, L5, L6, L7, L8, L9, L10, L11, L12, L13, L14, L15, L16, L17, L18, L19, L20, L21, L22, L23, L24, L25, L26, L27, L28, L29, L30, L31, L32, L33, L34, L35, L36, L37, L38, L39, L40, L41, L42, L43, L44, L45, L46, L47, L48, L50, L57, L59, L60, L63, L64, L65, L70, L80, L90, L97, L100, L110, L120, L122, L128, L150, L200, L208, L216, L224, L232, L240, L248, L255, L256, L264, L272, L280, L288, L296, L297, L300, L336, L337, L500, L680, L700, L998, L999, L1000, L1024, L1999, L6403, L9999, L10000, L12345, L99999, L1000000, L214424576, L412560384, L509804544, L639025541, L642945024, L658545824, L1103515245, L2147483647, nI_add]
            refine ⟨_, rfl, A3, ?_, F3⟩
            rw [wB_s, if_neg (by rw [hcw]; decide)]; exact B3
          dsimp only
          unfold bX8_laysWaits_19
          simp (disch := omega) only [L0, L1, L2, L3, L4, L5, L6, L7, L8, L9, L10, L11, L12, L13, L14, L15, L16, L17, L18, L19, L20, L21, L22, L23, L24, L25, L26, L27, L28, L29, L30, L31, L32, L33, L34, L35, L36, L37, L38, L39, L40, L41, L42, L43, L44, L45, L46, L47, L48, L50, L57, L59, L60, L63, L64, L65, L70, L80, L90, L97, L100, L110, L120, L122, L128, L150, L200, L208, L216, L224, L232, L240, L248, L255, L256, L264, L272, L280, L288, L296, L297, L300, L336, L337, L500, L680, L700, L998, L999, L1000, L1024, L1999, L6403, L9999, L10000, L12345, L99999, L1000000, L214424576, L412560384, L509804544, L639025541, L642945024, L658545824, L1103515245, L2147483647, e8_flows P3, bd1_e, nn_le, e8_nextOf P3 O hk (show l < 10 by omega)]
          rw [if_neg (by omega)]
          by_cases c : π.nx l k = 0
          · rw [c, if_pos (show nxI 0 = -nI 1 from rfl)]
            refine no ?_
            unfold cW cM cP
            cases may with
            | true => exact decide_eq_false (fun z => z c)
            | false => exact decide_eq_false (fun z => z.2.1 c)
          · obtain ⟨n, hnx⟩ : ∃ n, π.nx l k = n + 1 := ⟨π.nx l k - 1, by omega⟩
            rw [hnx, show nxI (n + 1) = nI n from rfl, if_neg (by rw [nI_m1 (by omega)]; exact not_false)]
            cases may with
            | true =>
              rw [if_pos (by decide)]
              exact yes n hnx (decide_eq_true c)
            | false =>
              rw [if_neg (by decide), e8_isWaiting R3 P3 O hJ hk (by omega) (by omega), bd1_e]
              by_cases z : X (40 + l) % 2 = 1 ∧ 0 < X (120 + l * 8 + k) ∧ π.nx l k = n + 1 ∧ X (40 + n) % 2 = 1
              · rw [if_pos z, if_neg n10]
                refine yes n hnx (decide_eq_true ⟨z.1, c, z.2.1, ?_⟩)
                rw [hnx, Nat.add_sub_cancel]; exact z.2.2.2
              · rw [if_neg z, if_pos rfl]
                refine no (decide_eq_false (fun y => z ⟨y.1, y.2.2.1, hnx, ?_⟩))
                have := y.2.2.2
                rw [hnx, Nat.add_sub_cancel] at this
                exact this)
        (by
          rintro m3 ⟨A3, B3, F3⟩
          have P3 : PM m3 π := P.fr F3 (fun o ho => by omega)
          dsimp only
          unfold bX8_laysWaits_19
          simp (disch := omega) only [L0, L1, L2, L3, L4, L5, L6, L7, L8, L9, L10, L11, L12, L13, L14, L15, L16, L17, L18, L19, L20, L21, L22, L23, L24, L25, L26, L27, L28, L29, L30, L31, L32, L33, L34, L35, L36, L37, L38, L39, L40, L41, L42, L43, L44, L45, L46, L47, L48, L50, L57, L59, L60, L63, L64, L65, L70, L80, L90, L97, L100, L110, L120, L122, L128, L150, L200, L208, L216, L224, L232, L240, L248, L255, L256, L264, L272, L280, L288, L296, L297, L300, L336, L337, L500, L680, L700, L998, L999, L1000, L1024, L1999, L6403, L9999, L10000, L12345, L99999, L1000000, L214424576, L412560384, L509804544, L639025541, L642945024, L658545824, L1103515245, L2147483647, e8_flows P3, bd1_e, nn_le]
          rw [if_pos (by omega)])
      rw [c1, bd1_e, nI_add]
      refine ⟨_, rfl, fun a ha => ?_, c4⟩
      by_cases e : a = l
      · subst e; exact c3
      · exact c2 a (by omega))
    (by
      rintro m1 ⟨A, F⟩
      have P1 : PM m1 π := P.fr F (fun o ho => by omega)
      dsimp only
      unfold bX8_laysWaits_2
      simp (disch := omega) only [L0, L1, L2, L3, L4, L5, L6, L7, L8, L9, L10, L11, L12, L13, L14, L15, L16, L17, L18, L19, L20, L21, L22, L23, L24, L25, L26, L27, L28, L29, L30, L31, L32, L33, L34, L35, L36, L37, L38, L39, L40, L41, L42, L43, L44, L45, L46, L47, L48, L50, L57, L59, L60, L63, L64, L65, L70, L80, L90, L97, L100, L110, L120, L122, L128, L150, L200, L208, L216, L224, L232, L240, L248, L255, L256, L264, L272, L280, L288, L296, L297, L300, L336, L337, L500, L680, L700, L998, L999, L1000, L1024, L1999, L6403, L9999, L10000, L12345, L99999, L1000000, L214424576, L412560384, L509804544, L639025541, L642945024, L658545824, L1103515245, L2147483647, e8_links P1, bd1_e, nn_le]
      rw [if_pos (by omega)])
  rw [a1, bd1_e]
  exact ⟨_, rfl, a2, a3⟩
/-! steps -/
def sI (v : Nat) : Int32 := if v = 0 then -nI 1 else nI v
theorem sI_0 {v : Nat} (h : v < 1000) : (sI v = -nI 1) ↔ v = 0 := by
  unfold sI
  by_cases c : v = 0
  · rw [if_pos c]; exact ⟨fun _ => c, fun _ => rfl⟩
  · rw [if_neg c, nI_m1 (by omega)]; exact ⟨False.elim, fun z => absurd z c⟩
theorem sI_eq {v k : Nat} (h : v < 1000) (hk : 1 ≤ k) (hk2 : k < 1000) : (sI v = nI k) ↔ v = k := by
  unfold sI
  by_cases c : v = 0
  · rw [if_pos c]
    constructor
    · intro z; exact absurd z.symm (by rw [nI_m1 (by omega)]; exact not_false)
    · intro z; omega
  · rw [if_neg c, nn_eq (by omega) (by omega)]
/-- round m + 1 at a link: whether a way of so many steps is found -/
theorem e8_steps85 {m : Mm} {π : Pl} {G : Nat → Nat} {to l r : Nat} {d : Nat → Nat} {i0 : Nat} (P : PM m π) (O : π.ok) (hG : ∀ l, l < π.nl → G l < 1024) (h25 : ∀ l, l < π.nl → m.1 25 l = nI (G l)) (h26 : ∀ l, l < π.nl → m.1 26 l = sI (d l)) (hd : ∀ l, l < π.nl → d l < 1000) (hto : to < π.nl) (hl : l < π.nl) (hr : r < 1000) (h1 : r = 0 → i0 ≤ 1) (h0 : r ≠ 0 → i0 = 0) : lp (fun s11 : Int32 × Int32 => bX8_laysSteps_85 SX8 m 0 (nI to) (nI (r + 1)) (nI l) s11.1 s11.2) fu (nI i0, nI 0) = some (nI (if r = 0 then i0 else if anyB (fun k => Ed G l k && (decide (k ≠ to) && decide (d k = r))) π.nl = true then 1 else 0)) := by
  have hnl := O.nl
  by_cases hr0 : r = 0
  · rw [if_pos hr0]
    subst hr0
    refine lp_f (b := fun s11 : Int32 × Int32 => bX8_laysSteps_85 SX8 m 0 (nI to) (nI (0 + 1)) (nI l) s11.1 s11.2) (fun k => (nI i0, nI 0)) 0 (by unfold fu; omega) (fun k hk => by omega) ?_
    dsimp only
    unfold bX8_laysSteps_85
    simp (disch := omega) only [L0, L1, L2, L3, L4, L5, L6, L7, L8, L9, L10, L11, L12, L13, L14, L15, L16, L17, L18, L19, L20, L21, L22, L23, L24, L25, L26, L27, L28, L29, L30, L31, L32, L33, L34, L35, L36, L37, L38, L39, L40, L41, L42, L43, L44, L45, L46, L47, L48, L50, L57, L59, L60, L63, L64, L65, L70, L80, L90, L97, L100, L110, L120, L122, L128, L150, L200, L208, L216, L224, L232, L240, L248, L255, L256, L264, L272, L280, L288, L296, L297, L300, L336, L337, L500, L680, L700, L998, L999, L1000, L1024, L1999, L6403, L9999, L10000, L12345, L99999, L1000000, L214424576, L412560384, L509804544, L639025541, L642945024, L658545824, L1103515245, L2147483647, e8_links P, bd1_e, nn_le]
    rw [if_neg (by omega), if_pos (by omega)]
  · rw [if_neg hr0, h0 hr0]
    have h7 := lp_f (b := fun s11 : Int32 × Int32 => bX8_laysSteps_85 SX8 m 0 (nI to) (nI (r + 1)) (nI l) s11.1 s11.2) (N := fu) (r := nI (if anyB (fun k => Ed G l k && (decide (k ≠ to) && decide (d k = r))) π.nl = true then 1 else 0)) (fun j => (nI (if anyB (fun k => Ed G l k && (decide (k ≠ to) && decide (d k = r))) j = true then 1 else 0), nI j)) π.nl (by unfold fu; omega)
      (by
        intro j hj
        have hGl := hG l hl
        have hdj := hd j hj
        have hbn := bN_le (G l) j
        dsimp only
        unfold bX8_laysSteps_85 jX8_laysSteps_138 jX8_laysSteps_142 jX8_laysSteps_143
        simp (disch := omega) only [L0, L1, L2, L3, L4, L5, L6, L7, L8, L9, L10, L11, L12, L13, L14, L15, L16, L17, L18, L19, L20, L21, L22, L23, L24, L25, L26, L27, L28, L29, L30, L31, L32, L33, L34, L35, L36, L37, L38, L39, L40, L41, L42, L43, L44, L45, L46, L47, L48, L50, L57, L59, L60, L63, L64, L65, L70, L80, L90, L97, L100, L110, L120, L122, L128, L150, L200, L208, L216, L224, L232, L240, L248, L255, L256, L264, L272, L280, L288, L296, L297, L300, L336, L337, L500, L680, L700, L998, L999, L1000, L1024, L1999, L6403, L9999, L10000, L12345, L99999, L1000000, L214424576, L412560384, L509804544, L639025541, L642945024, L658545824, L1103515245, L2147483647, g8_0, r8_1, r8_3, r8_4, r8_5, r8_6, r8_7, r8_8, r8_9, r8_10, r8_11, r8_12, r8_13, r8_14, r8_15, r8_26, r8_27, r8_28, r8_29, r8_30, r8_33, r8_34, r8_35, r8_36, r8_37, r8_39, r8_40, r8_41, r8_43, r8_44, r8_45, e8_links P, bd1_e, nn_le, ldA_n s8_25, h25 l hl, bT hGl (show j < 10 by omega), nn_eq, ldA_n s8_26, h26 j hj, nI_add, pk_sub, Nat.add_sub_cancel]
        rw [if_neg (by omega), if_neg (by omega)]
        by_cases c : anyB (fun k => Ed G l k && (decide (k ≠ to) && decide (d k = r))) j = true
        · have e : anyB (fun k => Ed G l k && (decide (k ≠ to) && decide (d k = r))) (j + 1) = true := by rw [anyB_s, c]; rfl
          rw [if_pos c, if_pos (by decide), if_pos e]
        · have cf : anyB (fun k => Ed G l k && (decide (k ≠ to) && decide (d k = r))) j = false := by cases h : anyB (fun k => Ed G l k && (decide (k ≠ to) && decide (d k = r))) j with
            | true => exact absurd h c
            | false => rfl
          rw [if_neg c, if_neg (by decide), anyB_s, cf, Bool.false_or]
          by_cases c1 : (G l).testBit j = true
          · rw [if_neg (fun z => z (bN_t c1))]
            by_cases c2 : j = to
            · rw [if_pos c2, if_neg]
              rw [decide_eq_false (fun z => z c2), Bool.false_and, Bool.and_false]; decide
            · rw [if_neg c2]
              by_cases c3 : d j = r
              · rw [if_neg (fun z => z ((sI_eq hdj (by omega) (by omega)).mpr c3)), if_pos]
                rw [show Ed G l j = true from c1, decide_eq_true c2, decide_eq_true c3]; rfl
              · rw [if_pos (fun z => c3 ((sI_eq hdj (by omega) (by omega)).mp z)), if_neg]
                rw [decide_eq_false c3, Bool.and_false, Bool.and_false]; decide
          · have hf : (G l).testBit j = false := by cases h : (G l).testBit j with
              | true => exact absurd h c1
              | false => rfl
            rw [if_pos (by rw [bN_f hf]; omega), if_neg]
            rw [show Ed G l j = false from hf, Bool.false_and]; decide)
      (by
        dsimp only
        unfold bX8_laysSteps_85
        simp (disch := omega) only [L0, L1, L2, L3, L4, L5, L6, L7, L8, L9, L10, L11, L12, L13, L14, L15, L16, L17, L18, L19, L20, L21, L22, L23, L24, L25, L26, L27, L28, L29, L30, L31, L32, L33, L34, L35, L36, L37, L38, L39, L40, L41, L42, L43, L44, L45, L46, L47, L48, L50, L57, L59, L60, L63, L64, L65, L70, L80, L90, L97, L100, L110, L120, L122, L128, L150, L200, L208, L216, L224, L232, L240, L248, L255, L256, L264, L272, L280, L288, L296, L297, L300, L336, L337, L500, L680, L700, L998, L999, L1000, L1024, L1999, L6403, L9999, L10000, L12345, L99999, L1000000, L214424576, L412560384, L509804544, L639025541, L642945024, L658545824, L1103515245, L2147483647, e8_links P, bd1_e, nn_le]
        rw [if_pos (by omega)])
    exact h7
theorem e8_laysSteps {m : Mm} {π : Pl} {G : Nat → Nat} {to : Nat} (P : PM m π) (O : π.ok) (hG : ∀ l, l < π.nl → G l < 1024) (h25 : ∀ l, l < π.nl → m.1 25 l = nI (G l)) (hto : to < π.nl) : ∃ m', fX8_laysSteps SX8 m 0 (nI to) = some m' ∧ (∀ l, l < π.nl → m'.1 26 l = sI (ds (Ed G) π.nl to π.nl l)) ∧ Fr (fun o => o = 26) m m' := by
  have hnl := O.nl
  unfold fX8_laysSteps
  simp only [L0, L1, L2, L3, L4, L5, L6, L7, L8, L9, L10, L11, L12, L13, L14, L15, L16, L17, L18, L19, L20, L21, L22, L23, L24, L25, L26, L27, L28, L29, L30, L31, L32, L33, L34, L35, L36, L37, L38, L39, L40, L41, L42, L43, L44, L45, L46, L47, L48, L50, L57, L59, L60, L63, L64, L65, L70, L80, L90, L97, L100, L110, L120, L122, L128, L150, L200, L208, L216, L224, L232, L240, L248, L255, L256, L264, L272, L280, L288, L296, L297, L300, L336, L337, L500, L680, L700, L998, L999, L1000, L1024, L1999, L6403, L9999, L10000, L12345, L99999, L1000000, L214424576, L412560384, L509804544, L639025541, L642945024, L658545824, L1103515245, L2147483647, g8_0, r8_1, r8_3, r8_4, r8_5, r8_6, r8_7, r8_8, r8_9, r8_10, r8_11, r8_12, r8_13, r8_14, r8_15, r8_26, r8_27, r8_28, r8_29, r8_30, r8_33, r8_34, r8_35, r8_36, r8_37, r8_39, r8_40, r8_41, r8_43, r8_44, r8_45]
  obtain ⟨m1, a1, a2, a3⟩ := lp_F (b := fun s3 : Int32 × Mm => bX8_laysSteps_2 SX8 0 (nI to) s3.1 s3.2) (fun k m1 => (∀ l, l < k → m1.1 26 l = sI 0) ∧ Fr (fun o => o = 26) m m1) π.nl (m := m) (by omega) ⟨fun l hl => by omega, Fr.rfl⟩
    (by
      rintro k m1 hk ⟨A, F⟩
      have P1 : PM m1 π := P.fr F (fun o ho => by omega)
      dsimp only
      unfold bX8_laysSteps_2
      simp (disch := omega) only [L0, L1, L2, L3, L4, L5, L6, L7, L8, L9, L10, L11, L12, L13, L14, L15, L16, L17, L18, L19, L20, L21, L22, L23, L24, L25, L26, L27, L28, L29, L30, L31, L32, L33, L34, L35, L36, L37, L38, L39, L40, L41, L42, L43, L44, L45, L46, L47, L48, L50, L57, L59, L60, L63, L64, L65, L70, L80, L90, L97, L100, L110, L120, L122, L128, L150, L200, L208, L216, L224, L232, L240, L248, L255, L256, L264, L272, L280, L288, L296, L297, L300, L336, L337, L500, L680, L700, L998, L999, L1000, L1024, L1999, L6403, L9999, L10000, L12345, L99999, L1000000, L214424576, L412560384, L509804544, L639025541, L642945024, L658545824, L1103515245, L2147483647, g8_0, r8_1, r8_3, r8_4, r8_5, r8_6, r8_7, r8_8, r8_9, r8_10, r8_11, r8_12, r8_13, r8_14, r8_15, r8_26, r8_27, r8_28, r8_29, r8_30, r8_33, r8_34, r8_35, r8_36, r8_37, r8_39, r8_40, r8_41, r8_43, r8_44, r8_45, e8_links P1, bd1_e, nn_le, stA_n s8_26, narA_0, nI_add]
      rw [if_neg (by omega)]
      refine ⟨_, rfl, fun l hl => ?_, F.st rfl⟩
      by_cases e : l = k
      · subst e; rw [u1_rs]; rfl
      · rw [u1_rn (Or.inl e)]; exact A l (by omega))
    (by
      rintro m1 ⟨A, F⟩
      have P1 : PM m1 π := P.fr F (fun o ho => by omega)
      dsimp only
      unfold bX8_laysSteps_2
      simp (disch := omega) only [L0, L1, L2, L3, L4, L5, L6, L7, L8, L9, L10, L11, L12, L13, L14, L15, L16, L17, L18, L19, L20, L21, L22, L23, L24, L25, L26, L27, L28, L29, L30, L31, L32, L33, L34, L35, L36, L37, L38, L39, L40, L41, L42, L43, L44, L45, L46, L47, L48, L50, L57, L59, L60, L63, L64, L65, L70, L80, L90, L97, L100, L110, L120, L122, L128, L150, L200, L208, L216, L224, L232, L240, L248, L255, L256, L264, L272, L280, L288, L296, L297, L300, L336, L337, L500, L680, L700, L998, L999, L1000, L1024, L1999, L6403, L9999, L10000, L12345, L99999, L1000000, L214424576, L412560384, L509804544, L639025541, L642945024, L658545824, L1103515245, L2147483647, e8_links P1, bd1_e, nn_le]
      rw [if_pos (by omega)])
  rw [a1, bd1_e]
  obtain ⟨y, b1, b2, b3⟩ := lp_n (b := fun s17 : Int32 × Mm => bX8_laysSteps_25 SX8 0 (nI to) s17.1 s17.2) (N := fu) (s0 := (nI 1, m1))
    (fun r s => s.1 = nI (r + 1) ∧ (∀ l, l < π.nl → s.2.1 26 l = sI (ds (Ed G) π.nl to r l)) ∧ Fr (fun o => o = 26) m s.2)
    (fun y => (∀ l, l < π.nl → y.1 26 l = sI (ds (Ed G) π.nl to π.nl l)) ∧ Fr (fun o => o = 26) m y)
    π.nl ⟨rfl, a2, a3⟩ (by unfold fu; omega)
    (by
      rintro r ⟨i, m2⟩ hr ⟨e1, A, F⟩
      dsimp only at e1 A F ⊢
      subst e1
      have P2 : PM m2 π := P.fr F (fun o ho => by omega)
      refine Or.inl ?_
      unfold bX8_laysSteps_25
      simp (disch := omega) only [L0, L1, L2, L3, L4, L5, L6, L7, L8, L9, L10, L11, L12, L13, L14, L15, L16, L17, L18, L19, L20, L21, L22, L23, L24, L25, L26, L27, L28, L29, L30, L31, L32, L33, L34, L35, L36, L37, L38, L39, L40, L41, L42, L43, L44, L45, L46, L47, L48, L50, L57, L59, L60, L63, L64, L65, L70, L80, L90, L97, L100, L110, L120, L122, L128, L150, L200, L208, L216, L224, L232, L240, L248, L255, L256, L264, L272, L280, L288, L296, L297, L300, L336, L337, L500, L680, L700, L998, L999, L1000, L1024, L1999, L6403, L9999, L10000, L12345, L99999, L1000000, L214424576, L412560384, L509804544, L639025541, L642945024, L658545824, L1103515245, L2147483647, e8_links P2, bd1_e, nn_lt]
      rw [if_neg (by omega)]
      obtain ⟨m3, c1, c2, c3⟩ := lp_F (b := fun s15 : Int32 × Mm => bX8_laysSteps_35 SX8 0 (nI to) (nI (r + 1)) s15.1 s15.2) (fun k m3 => (∀ l, l < π.nl → m3.1 26 l = sI (if l < k then ds (Ed G) π.nl to (r + 1) l else ds (Ed G) π.nl to r l)) ∧ Fr (fun o => o = 26) m m3) π.nl (m := m2) (by omega) ⟨fun l hl => by rw [if_neg (by omega)]; exact A l hl, F⟩
        (by
          rintro k m3 hk ⟨A3, F3⟩
          have P3 : PM m3 π := P.fr F3 (fun o ho => by omega)
          have h25' : ∀ l, l < π.nl → m3.1 25 l = nI (G l) := fun l hl => by rw [F3.2 25 (by omega)]; exact h25 l hl
          have hk1 := A3 k hk
          rw [if_neg (by omega)] at hk1
          have hb1 := fun l => ds_le (E := Ed G) (n := π.nl) (to := to) (m := r) (l := l)
          have hb2 := fun l => ds_le (E := Ed G) (n := π.nl) (to := to) (m := r + 1) (l := l)
          have hdk := hb1 k
          have hGk := hG k hk
          have hbn := bN_le (G k) to
          -- one more in its place, or as it was
          have fin : ∀ (m4 : Mm) (v : Nat), (∀ l, l < π.nl → l ≠ k → m4.1 26 l = m3.1 26 l) → m4.1 26 k = sI v → v = ds (Ed G) π.nl to (r + 1) k → (∀ l, l < π.nl → m4.1 26 l = sI (if l < k + 1 then ds (Ed G) π.nl to (r + 1) l else ds (Ed G) π.nl to r l)) := by
            intro m4 v h1 h2 h3 l hl
            by_cases e : l = k
            · subst e; rw [h2, h3, if_pos (by omega)]
            · rw [h1 l hl e, A3 l hl]
              by_cases q : l < k
              · rw [if_pos q, if_pos (by omega)]
              · rw [if_neg q, if_neg (by omega)]
          dsimp only
          unfold bX8_laysSteps_35 jX8_laysSteps_79 jX8_laysSteps_80 jX8_laysSteps_151 jX8_laysSteps_163
          simp (disch := omega) only [L0, L1, L2, L3, L4, L5, L6, L7, L8, L9, L10, L11, L12, L13, L14, L15, L16, L17, L18, L19, L20, L21, L22, L23, L24, L25, L26, L27, L28, L29, L30, L31, L32, L33, L34, L35, L36, L37, L38, L39, L40, L41, L42, L43, L44, L45, L46, L47, L48, L50, L57, L59, L60, L63, L64, L65, L70, L80, L90, L97, L100, L110, L120, L122, L128, L150, L200, L208, L216, L224, L232, L240, L248, L255, L256, L264, L272, L280, L288, L296, L297, L300, L336, L337, L500, L680, L700, L998, L999, L1000, L1024, L1999, L6403, L9999, L10000, L12345, L99999, L1000000, L214424576, L412560384, L509804544, L639025541, L642945024, L658545824, L1103515245, L2147483647, g8_0, r8_1, r8_3, r8_4, r8_5, r8_6, r8_7, r8_8, r8_9, r8_10, r8_11, r8_12, r8_13, r8_14, r8_15, r8_26, r8_27, r8_28, r8_29, r8_30, r8_33, r8_34, r8_35, r8_36, r8_37, r8_39, r8_40, r8_41, r8_43, r8_44, r8_45, e8_links P3, bd1_e, nn_le, ldA_n s8_26, hk1, sI_0, nn_eq, ldA_n s8_25, h25' k hk, bT hGk (show to < 10 by omega), nI_add]
          rw [if_neg (by omega)]
          by_cases c0 : ds (Ed G) π.nl to r k = 0
          · rw [if_pos c0]
            have hd : ∀ l, l < π.nl → (if l < k then ds (Ed G) π.nl to (r + 1) l else ds (Ed G) π.nl to r l) < 1000 := fun l hl => by
              have := hb1 l
              have := hb2 l
              split <;> omega
            have eC : r ≠ 0 → anyB (fun j => Ed G k j && (decide (j ≠ to) && decide ((if j < k then ds (Ed G) π.nl to (r + 1) j else ds (Ed G) π.nl to r j) = r))) π.nl = dsC (Ed G) π.nl to r (ds (Ed G) π.nl to r) k := by
              intro hr0
              unfold dsC
              rw [if_neg hr0]
              congr 1
              funext j
              have : (if j < k then ds (Ed G) π.nl to (r + 1) j else ds (Ed G) π.nl to r j) = r ↔ ds (Ed G) π.nl to r j = r := by
                by_cases q : j < k
                · rw [if_pos q, ds_s]
                  by_cases z : ds (Ed G) π.nl to r j = 0
                  · rw [if_neg (fun y => y z), z]
                    constructor
                    · intro h; split at h <;> omega
                    · intro h; omega
                  · rw [if_pos z]
                · rw [if_neg q]
              rw [decide_eq_decide.mpr this]
            have run := fun i0 h1 h0 => e8_steps85 (i0 := i0) (r := r) P3 O hG h25' A3 hd hto hk (by omega) h1 h0
            have last : ∀ b : Bool, b = dsC (Ed G) π.nl to r (ds (Ed G) π.nl to r) k → ∃ m4, ((if nI (if b = true then 1 else 0) = nI 0 then some (Sum.inl (nI (k + 1), m3)) else bd1 (stA SX8 0 m3 26 (nI k) (nI (r + 1))) fun m13 => some (Sum.inl (nI (k + 1), m13))) : Option ((Int32 × Mm) ⊕ Mm)) = some (Sum.inl (nI (k + 1), m4)) ∧ (∀ l, l < π.nl → m4.1 26 l = sI (if l < k + 1 then ds (Ed G) π.nl to (r + 1) l else ds (Ed G) π.nl to r l)) ∧ Fr (fun o => o = 26) m m4 := by
              intro b hb
              cases b with
              | true =>
                rw [if_pos rfl, if_neg n10, stA_n s8_26 (by omega) (by omega), bd1_e]
                refine ⟨_, rfl, fin _ (r + 1) (fun l hl hne => u1_rn (Or.inl hne)) ?_ ?_, F3.st rfl⟩
                · rw [u1_rs, narA_0]; unfold sI; rw [if_neg (by omega)]
                · rw [ds_s, if_neg (fun y => y c0), if_pos hb.symm]
              | false =>
                rw [if_pos (show nI (if false = true then 1 else 0) = nI 0 by decide)]
                refine ⟨_, rfl, fin m3 _ (fun _ _ _ => rfl) hk1 ?_, F3⟩
                rw [ds_s, if_neg (fun y => y c0), ← hb, c0]; rfl
            by_cases hr0 : r = 0
            · rw [if_neg (fun z => z (by omega))]
              by_cases c1 : (G k).testBit to = true
              · rw [if_neg (fun z => z (bN_t c1)), run 1 (fun _ => Nat.le_refl _) (fun z => absurd hr0 z), bd1_e, if_pos hr0]
                exact last true (by unfold dsC; rw [if_pos hr0]; exact c1.symm)
              · have hf : (G k).testBit to = false := by cases h : (G k).testBit to with
                  | true => exact absurd h c1
                  | false => rfl
                rw [if_pos (by rw [bN_f hf]; omega), run 0 (fun _ => by omega) (fun _ => rfl), bd1_e, if_pos hr0]
                exact last false (by unfold dsC; rw [if_pos hr0]; exact hf.symm)
            · rw [if_pos (by omega), run 0 (fun _ => by omega) (fun _ => rfl), bd1_e, if_neg hr0, eC hr0]
              exact last _ rfl
          · rw [if_neg c0]
            refine ⟨_, rfl, fin m3 _ (fun _ _ _ => rfl) hk1 ?_, F3⟩
            rw [ds_s, if_pos c0])
        (by
          rintro m3 ⟨A3, F3⟩
          have P3 : PM m3 π := P.fr F3 (fun o ho => by omega)
          dsimp only
          unfold bX8_laysSteps_35
          simp (disch := omega) only [L0, L1, L2, L3, L4, L5, L6, L7, L8, L9, L10, L11, L12, L13, L14, L15, L16, L17, L18, L19, L20, L21, L22, L23, L24, L25, L26, L27, L28, L29, L30, L31, L32, L33, L34, L35, L36, L37, L38, L39, L40, L41, L42, L43, L44, L45, L46, L47, L48, L50, L57, L59, L60, L63, L64, L65, L70, L80, L90, L97, L100, L110, L120, L122, L128, L150, L200, L208, L216, L224, L232, L240, L248, L255, L256, L264, L272, L280, L288, L296, L297, L300, L336, L337, L500, L680, L700, L998, L999, L1000, L1024, L1999, L6403, L9999, L10000, L12345, L99999, L1000000, L214424576, L412560384, L509804544, L639025541, L642945024, L658545824, L1103515245, L2147483647, e8_links P3, bd1_e, nn_le]
          rw [if_pos (by omega)])
      rw [c1, bd1_e, nI_add]
      exact ⟨_, rfl, rfl, fun l hl => by rw [c2 l hl, if_pos hl], c3⟩)
    (by
      rintro ⟨i, m2⟩ ⟨e1, A, F⟩
      dsimp only at e1 A F ⊢
      subst e1
      have P2 : PM m2 π := P.fr F (fun o ho => by omega)
      unfold bX8_laysSteps_25
      simp (disch := omega) only [L0, L1, L2, L3, L4, L5, L6, L7, L8, L9, L10, L11, L12, L13, L14, L15, L16, L17, L18, L19, L20, L21, L22, L23, L24, L25, L26, L27, L28, L29, L30, L31, L32, L33, L34, L35, L36, L37, L38, L39, L40, L41, L42, L43, L44, L45, L46, L47, L48, L50, L57, L59, L60, L63, L64, L65, L70, L80, L90, L97, L100, L110, L120, L122, L128, L150, L200, L208, L216, L224, L232, L240, L248, L255, L256, L264, L272, L280, L288, L296, L297, L300, L336, L337, L500, L680, L700, L998, L999, L1000, L1024, L1999, L6403, L9999, L10000, L12345, L99999, L1000000, L214424576, L412560384, L509804544, L639025541, L642945024, L658545824, L1103515245, L2147483647, e8_links P2, bd1_e, nn_lt]
      rw [if_pos (by omega)]
      exact ⟨_, rfl, A, F⟩)
  rw [b1, bd1_e]
  exact ⟨_, rfl, b2, b3⟩
theorem e8_inCyclesNow {m : Mm} {π : Pl} {G : Nat → Nat} (P : PM m π) (O : π.ok) (hG : ∀ l, l < π.nl → G l < 1024) (h25 : ∀ l, l < π.nl → m.1 25 l = nI (G l)) : ∃ m', fX8_inCyclesNow SX8 m 0 = some (nI (cyS G π.nl), m') ∧ Fr (fun o => o = 26) m m' := by
  have hnl := O.nl
  unfold fX8_inCyclesNow
  simp only [L0, L1, L2, L3, L4, L5, L6, L7, L8, L9, L10, L11, L12, L13, L14, L15, L16, L17, L18, L19, L20, L21, L22, L23, L24, L25, L26, L27, L28, L29, L30, L31, L32, L33, L34, L35, L36, L37, L38, L39, L40, L41, L42, L43, L44, L45, L46, L47, L48, L50, L57, L59, L60, L63, L64, L65, L70, L80, L90, L97, L100, L110, L120, L122, L128, L150, L200, L208, L216, L224, L232, L240, L248, L255, L256, L264, L272, L280, L288, L296, L297, L300, L336, L337, L500, L680, L700, L998, L999, L1000, L1024, L1999, L6403, L9999, L10000, L12345, L99999, L1000000, L214424576, L412560384, L509804544, L639025541, L642945024, L658545824, L1103515245, L2147483647, g8_0, r8_1, r8_3, r8_4, r8_5, r8_6, r8_7, r8_8, r8_9, r8_10, r8_11, r8_12, r8_13, r8_14, r8_15, r8_26, r8_27, r8_28, r8_29, r8_30, r8_33, r8_34, r8_35, r8_36, r8_37, r8_39, r8_40, r8_41, r8_43, r8_44, r8_45]
  obtain ⟨y, a1, a2, a3⟩ := lp_n (b := fun s4 : Int32 × Int32 × Mm => bX8_inCyclesNow_4 SX8 0 s4.1 s4.2.1 s4.2.2) (N := fu) (s0 := (nI 0, nI 0, m))
    (fun k s => s.1 = nI (wB (fun l => rj (Ed G) π.nl l l) (fun l => l) k) ∧ s.2.1 = nI k ∧ Fr (fun o => o = 26) m s.2.2)
    (fun y => y.1 = nI (cyS G π.nl) ∧ Fr (fun o => o = 26) m y.2)
    π.nl ⟨rfl, rfl, Fr.rfl⟩ (by unfold fu; omega)
    (by
      rintro k ⟨w, i, m1⟩ hk ⟨e1, e2, F⟩
      dsimp only at e1 e2 F ⊢
      subst e1 e2
      have P1 : PM m1 π := P.fr F (fun o ho => by omega)
      obtain ⟨m2, b1, b2, b3⟩ := e8_laysSteps (G := G) (to := k) P1 O hG (fun l hl => by rw [F.2 25 (by omega)]; exact h25 l hl) hk
      have hle := ds_le (E := Ed G) (n := π.nl) (to := k) (m := π.nl) (l := k)
      refine Or.inl ?_
      unfold bX8_inCyclesNow_4 jX8_inCyclesNow_33
      simp (disch := omega) only [L0, L1, L2, L3, L4, L5, L6, L7, L8, L9, L10, L11, L12, L13, L14, L15, L16, L17, L18, L19, L20, L21, L22, L23, L24, L25, L26, L27, L28, L29, L30, L31, L32, L33, L34, L35, L36, L37, L38, L39, L40, L41, L42, L43, L44, L45, L46, L47, L48, L50, L57, L59, L60, L63, L64, L65, L70, L80, L90, L97, L100, L110, L120, L122, L128, L150, L200, L208, L216, L224, L232, L240, L248, L255, L256, L264, L272, L280, L288, L296, L297, L300, L336, L337, L500, L680, L700, L998, L999, L1000, L1024, L1999, L6403, L9999, L10000, L12345, L99999, L1000000, L214424576, L412560384, L509804544, L639025541, L642945024, L658545824, L1103515245, L2147483647, g8_0, r8_1, r8_3, r8_4, r8_5, r8_6, r8_7, r8_8, r8_9, r8_10, r8_11, r8_12, r8_13, r8_14, r8_15, r8_26, r8_27, r8_28, r8_29, r8_30, r8_33, r8_34, r8_35, r8_36, r8_37, r8_39, r8_40, r8_41, r8_43, r8_44, r8_45, e8_links P1, bd1_e, nn_le, b1, ldA_n s8_26, b2 k hk, sI_0, sh1 k (by omega), nI_or, nI_add]
      rw [if_neg (by omega), wB_s]
      by_cases c : ds (Ed G) π.nl k π.nl k = 0
      · rw [if_pos c, if_neg (fun z => (ds_rj hk).mpr z c)]
        exact ⟨_, rfl, rfl, rfl, F.trans b3⟩
      · rw [if_neg c, if_pos ((ds_rj hk).mp c)]
        exact ⟨_, rfl, rfl, rfl, F.trans b3⟩)
    (by
      rintro ⟨w, i, m1⟩ ⟨e1, e2, F⟩
      dsimp only at e1 e2 F ⊢
      subst e1 e2
      have P1 : PM m1 π := P.fr F (fun o ho => by omega)
      unfold bX8_inCyclesNow_4
      simp (disch := omega) only [L0, L1, L2, L3, L4, L5, L6, L7, L8, L9, L10, L11, L12, L13, L14, L15, L16, L17, L18, L19, L20, L21, L22, L23, L24, L25, L26, L27, L28, L29, L30, L31, L32, L33, L34, L35, L36, L37, L38, L39, L40, L41, L42, L43, L44, L45, L46, L47, L48, L50, L57, L59, L60, L63, L64, L65, L70, L80, L90, L97, L100, L110, L120, L122, L128, L150, L200, L208, L216, L224, L232, L240, L248, L255, L256, L264, L272, L280, L288, L296, L297, L300, L336, L337, L500, L680, L700, L998, L999, L1000, L1024, L1999, L6403, L9999, L10000, L12345, L99999, L1000000, L214424576, L412560384, L509804544, L639025541, L642945024, L658545824, L1103515245, L2147483647, e8_links P1, bd1_e, nn_le]
      rw [if_pos (by omega)]
      exact ⟨_, rfl, rfl, F⟩)
  rw [a1, bd1_e]
  exact ⟨_, by rw [a2], a3⟩
