/-! ===== what was read is taken: the model ===== -/
/-- row o's first n taken from b on, as v does with them -/
def tkR (v : Int32 → Int32) (m m1 : Mm) (o b k : Nat) : Prop := (∀ j, j < k → m1.1 o j = v (m.1 o (b + j))) ∧ ∀ j, k ≤ j → m1.1 o j = m.1 o j
theorem tkR.z {v : Int32 → Int32} {m m1 : Mm} {o b : Nat} (h : m1.1 o = m.1 o) : tkR v m m1 o b 0 := ⟨fun j hj => by omega, fun j _ => by rw [h]⟩
theorem tkR.s {v : Int32 → Int32} {m m1 m2 : Mm} {o b k : Nat} (h : tkR v m m1 o b k) (e : m2.1 o = (u1 m1 o k (v (m1.1 o (b + k)))).1 o) (hb : k < b) : tkR v m m2 o b (k + 1) := by
  refine ⟨fun j hj => ?_, fun j hj => ?_⟩
  · rw [e]
    by_cases c : j = k
    · rw [c, u1_rs, h.2 (b + k) (by omega)]
    · rw [u1_rn (Or.inl c)]; exact h.1 j (by omega)
  · rw [e, u1_rn (Or.inl (by omega))]; exact h.2 j (by omega)
theorem tkR.e {v : Int32 → Int32} {m m1 m2 : Mm} {o b k : Nat} (h : tkR v m m1 o b k) (e : m2.1 o = m1.1 o) : tkR v m m2 o b k := ⟨fun j hj => by rw [e]; exact h.1 j hj, fun j hj => by rw [e]; exact h.2 j hj⟩
theorem e8_take {m : Mm} : ∃ m', fX8_takeText SX8 m 0 = some m' ∧ (∀ j, j < 9 → m'.1 2 j = m.1 2 (9 + j)) ∧ (∀ o, 4 ≤ o → o ≤ 9 → ∀ j, j < 10 → m'.1 o j = m.1 o (10 + j)) ∧ (∀ o, o = 10 ∨ o = 11 ∨ o = 13 → ∀ j, j < 8 → m'.1 o j = m.1 o (8 + j)) ∧ (∀ j, j < 8 → m'.1 12 j = narA 2 (m.1 12 (8 + j))) ∧ (∀ j, j < 40 → m'.1 14 j = m.1 14 (40 + j)) ∧ (∀ o, o < 2 ∨ o = 3 ∨ 14 < o → m'.1 o = m.1 o) := by
  obtain ⟨m1, a1, a2, a3⟩ := lp_F (b := fun s3 : Int32 × Mm => bX8_takeText_2 SX8 0 s3.1 s3.2) (fun k m1 => tkR id m m1 2 9 k ∧ ∀ o, o ≠ 2 → m1.1 o = m.1 o) 9 (m := m) (by omega) ⟨tkR.z rfl, fun _ _ => rfl⟩
    (by
      rintro k m1 hk ⟨T, e⟩
      dsimp only
      unfold bX8_takeText_2
      simp (disch := omega) only [L0, L1, L2, L3, L4, L5, L6, L7, L8, L9, L10, L11, L12, L13, L14, L15, L16, L17, L18, L19, L20, L21, L22, L23, L24, L25, L26, L27, L28, L29, L30, L31, L32, L33, L34, L35, L36, L37, L38, L39, L40, L41, L42, L43, L44, L45, L46, L47, L48, L50, L57, L59, L60, L63, L64, L65, L70, L80, L90, L97, L100, L110, L120, L122, L128, L150, L200, L208, L216, L224, L232, L240, L248, L255, L256, L264, L272, L280, L288, L296, L297, L300, L336, L337, L500, L680, L700, L998, L999, L1000, L1024, L1999, L6403, L9999, L10000, L12345, L99999, L1000000, L214424576, L412560384, L509804544, L639025541, L642945024, L658545824, L1103515245, L2147483647, g8_0, r8_1, r8_3, r8_4, r8_5, r8_6, r8_7, r8_8, r8_9, r8_10, r8_11, r8_12, r8_13, r8_14, r8_15, r8_26, r8_27, r8_28, r8_29, r8_30, r8_33, r8_34, r8_35, r8_36, r8_37, r8_39, r8_40, r8_41, r8_43, r8_44, r8_45, e8_reading hk, stA_n s8_2, narA_0, bd1_e, nn_le, nI_add]
      rw [if_neg (by omega)]
      exact ⟨_, rfl, T.s rfl hk, fun o ho => by rw [u1_other ho]; exact e o ho⟩)
    (by
      rintro m1 _
      dsimp only
      unfold bX8_takeText_2
      simp (disch := omega) only [L0, L1, L2, L3, L4, L5, L6, L7, L8, L9, L10, L11, L12, L13, L14, L15, L16, L17, L18, L19, L20, L21, L22, L23, L24, L25, L26, L27, L28, L29, L30, L31, L32, L33, L34, L35, L36, L37, L38, L39, L40, L41, L42, L43, L44, L45, L46, L47, L48, L50, L57, L59, L60, L63, L64, L65, L70, L80, L90, L97, L100, L110, L120, L122, L128, L150, L200, L208, L216, L224, L232, L240, L248, L255, L256, L264, L272, L280, L288, L296, L297, L300, L336, L337, L500, L680, L700, L998, L999, L1000, L1024, L1999, L6403, L9999, L10000, L12345, L99999, L1000000, L214424576, L412560384, L509804544, L639025541, L642945024, L658545824, L1103515245, L2147483647, nn_le]
      rw [if_pos (by omega)])
  obtain ⟨m2, b1, b2, b3⟩ := lp_F (b := fun s17 : Int32 × Mm => bX8_takeText_27 SX8 0 s17.1 s17.2) (fun k m2 => (∀ o, 4 ≤ o → o ≤ 9 → tkR id m1 m2 o 10 k) ∧ ∀ o, o < 4 ∨ 9 < o → m2.1 o = m1.1 o) 10 (m := m1) (by omega) ⟨fun _ _ _ => tkR.z rfl, fun _ _ => rfl⟩
    (by
      rintro k m2 hk ⟨T, e⟩
      dsimp only
      unfold bX8_takeText_27
      simp (disch := omega) only [L0, L1, L2, L3, L4, L5, L6, L7, L8, L9, L10, L11, L12, L13, L14, L15, L16, L17, L18, L19, L20, L21, L22, L23, L24, L25, L26, L27, L28, L29, L30, L31, L32, L33, L34, L35, L36, L37, L38, L39, L40, L41, L42, L43, L44, L45, L46, L47, L48, L50, L57, L59, L60, L63, L64, L65, L70, L80, L90, L97, L100, L110, L120, L122, L128, L150, L200, L208, L216, L224, L232, L240, L248, L255, L256, L264, L272, L280, L288, L296, L297, L300, L336, L337, L500, L680, L700, L998, L999, L1000, L1024, L1999, L6403, L9999, L10000, L12345, L99999, L1000000, L214424576, L412560384, L509804544, L639025541, L642945024, L658545824, L1103515245, L2147483647, g8_0, r8_1, r8_3, r8_4, r8_5, r8_6, r8_7, r8_8, r8_9, r8_10, r8_11, r8_12, r8_13, r8_14, r8_15, r8_26, r8_27, r8_28, r8_29, r8_30, r8_33, r8_34, r8_35, r8_36, r8_37, r8_39, r8_40, r8_41, r8_43, r8_44, r8_45, nI_add, ldA_n s8_4, ldA_n s8_5, ldA_n s8_6, ldA_n s8_7, ldA_n s8_8, ldA_n s8_9, stA_n s8_4, stA_n s8_5, stA_n s8_6, stA_n s8_7, stA_n s8_8, stA_n s8_9, narA_0, bd1_e, nn_le, u1_rn]
      rw [if_neg (by omega)]
      refine ⟨_, rfl, fun o h1 h2 => ?_, fun o ho => ?_⟩
      · have T4 := T 4 (by omega) (by omega)
        rcases (show o = 4 ∨ o = 5 ∨ o = 6 ∨ o = 7 ∨ o = 8 ∨ o = 9 by omega) with rfl | rfl | rfl | rfl | rfl | rfl
        · exact (T 4 h1 h2).s (by simp (disch := omega) only [u1_other, u1_same]; rfl) hk
        · exact (T 5 h1 h2).s (by simp (disch := omega) only [u1_other, u1_same]; rfl) hk
        · exact (T 6 h1 h2).s (by simp (disch := omega) only [u1_other, u1_same]; rfl) hk
        · exact (T 7 h1 h2).s (by simp (disch := omega) only [u1_other, u1_same]; rfl) hk
        · exact (T 8 h1 h2).s (by simp (disch := omega) only [u1_other, u1_same]; rfl) hk
        · exact (T 9 h1 h2).s (by simp (disch := omega) only [u1_other, u1_same]; rfl) hk
      · rw [u1_other (by omega), u1_other (by omega), u1_other (by omega), u1_other (by omega), u1_other (by omega), u1_other (by omega)]; exact e o ho)
    (by
      rintro m1 _
      dsimp only
      unfold bX8_takeText_27
      simp (disch := omega) only [L0, L1, L2, L3, L4, L5, L6, L7, L8, L9, L10, L11, L12, L13, L14, L15, L16, L17, L18, L19, L20, L21, L22, L23, L24, L25, L26, L27, L28, L29, L30, L31, L32, L33, L34, L35, L36, L37, L38, L39, L40, L41, L42, L43, L44, L45, L46, L47, L48, L50, L57, L59, L60, L63, L64, L65, L70, L80, L90, L97, L100, L110, L120, L122, L128, L150, L200, L208, L216, L224, L232, L240, L248, L255, L256, L264, L272, L280, L288, L296, L297, L300, L336, L337, L500, L680, L700, L998, L999, L1000, L1024, L1999, L6403, L9999, L10000, L12345, L99999, L1000000, L214424576, L412560384, L509804544, L639025541, L642945024, L658545824, L1103515245, L2147483647, nn_le]
      rw [if_pos (by omega)])
  obtain ⟨m3, c1, c2, c3, c4⟩ := lp_F (b := fun s27 : Int32 × Mm => bX8_takeText_131 SX8 0 s27.1 s27.2) (fun k m3 => (∀ o, o = 10 ∨ o = 11 ∨ o = 13 → tkR id m2 m3 o 8 k) ∧ tkR (narA 2) m2 m3 12 8 k ∧ ∀ o, o < 10 ∨ 13 < o → m3.1 o = m2.1 o) 8 (m := m2) (by omega) ⟨fun _ _ => tkR.z rfl, tkR.z rfl, fun _ _ => rfl⟩
    (by
      rintro k m3 hk ⟨T, T2, e⟩
      dsimp only
      unfold bX8_takeText_131
      simp (disch := omega) only [L0, L1, L2, L3, L4, L5, L6, L7, L8, L9, L10, L11, L12, L13, L14, L15, L16, L17, L18, L19, L20, L21, L22, L23, L24, L25, L26, L27, L28, L29, L30, L31, L32, L33, L34, L35, L36, L37, L38, L39, L40, L41, L42, L43, L44, L45, L46, L47, L48, L50, L57, L59, L60, L63, L64, L65, L70, L80, L90, L97, L100, L110, L120, L122, L128, L150, L200, L208, L216, L224, L232, L240, L248, L255, L256, L264, L272, L280, L288, L296, L297, L300, L336, L337, L500, L680, L700, L998, L999, L1000, L1024, L1999, L6403, L9999, L10000, L12345, L99999, L1000000, L214424576, L412560384, L509804544, L639025541, L642945024, L658545824, L1103515245, L2147483647, g8_0, r8_1, r8_3, r8_4, r8_5, r8_6, r8_7, r8_8, r8_9, r8_10, r8_11, r8_12, r8_13, r8_14, r8_15, r8_26, r8_27, r8_28, r8_29, r8_30, r8_33, r8_34, r8_35, r8_36, r8_37, r8_39, r8_40, r8_41, r8_43, r8_44, r8_45, nI_add, ldA_n s8_10, ldA_n s8_11, ldA_n s8_12, ldA_n s8_13, stA_n s8_10, stA_n s8_11, stA_n s8_12, stA_n s8_13, narA_0, bd1_e, nn_le, u1_rn]
      rw [if_neg (by omega)]
      refine ⟨_, rfl, fun o h1 => ?_, T2.s (by simp (disch := omega) only [u1_other, u1_same]) hk, fun o ho => ?_⟩
      · rcases h1 with rfl | rfl | rfl
        · exact (T 10 (by omega)).s (by simp (disch := omega) only [u1_other, u1_same]; rfl) hk
        · exact (T 11 (by omega)).s (by simp (disch := omega) only [u1_other, u1_same]; rfl) hk
        · exact (T 13 (by omega)).s (by simp (disch := omega) only [u1_other, u1_same]; rfl) hk
      · rw [u1_other (by omega), u1_other (by omega), u1_other (by omega), u1_other (by omega)]; exact e o ho)
    (by
      rintro m1 _
      dsimp only
      unfold bX8_takeText_131
      simp (disch := omega) only [L0, L1, L2, L3, L4, L5, L6, L7, L8, L9, L10, L11, L12, L13, L14, L15, L16, L17, L18, L19, L20, L21, L22, L23, L24, L25, L26, L27, L28, L29, L30, L31, L32, L33, L34, L35, L36, L37, L38, L39, L40, L41, L42, L43, L44, L45, L46, L47, L48, L50, L57, L59, L60, L63, L64, L65, L70, L80, L90, L97, L100, L110, L120, L122, L128, L150, L200, L208, L216, L224, L232, L240, L248, L255, L256, L264, L272, L280, L288, L296, L297, L300, L336, L337, L500, L680, L700, L998, L999, L1000, L1024, L1999, L6403, L9999, L10000, L12345, L99999, L1000000, L214424576, L412560384, L509804544, L639025541, L642945024, L658545824, L1103515245, L2147483647, nn_le]
      rw [if_pos (by omega)])
  obtain ⟨m4, d1, d2, d3⟩ := lp_F (b := fun s31 : Int32 × Mm => bX8_takeText_205 SX8 0 s31.1 s31.2) (fun k m4 => tkR id m3 m4 14 40 k ∧ ∀ o, o ≠ 14 → m4.1 o = m3.1 o) 40 (m := m3) (by omega) ⟨tkR.z rfl, fun _ _ => rfl⟩
    (by
      rintro k m4 hk ⟨T, e⟩
      dsimp only
      unfold bX8_takeText_205
      simp (disch := omega) only [L0, L1, L2, L3, L4, L5, L6, L7, L8, L9, L10, L11, L12, L13, L14, L15, L16, L17, L18, L19, L20, L21, L22, L23, L24, L25, L26, L27, L28, L29, L30, L31, L32, L33, L34, L35, L36, L37, L38, L39, L40, L41, L42, L43, L44, L45, L46, L47, L48, L50, L57, L59, L60, L63, L64, L65, L70, L80, L90, L97, L100, L110, L120, L122, L128, L150, L200, L208, L216, L224, L232, L240, L248, L255, L256, L264, L272, L280, L288, L296, L297, L300, L336, L337, L500, L680, L700, L998, L999, L1000, L1024, L1999, L6403, L9999, L10000, L12345, L99999, L1000000, L214424576, L412560384, L509804544, L639025541, L642945024, L658545824, L1103515245, L2147483647, g8_0, r8_1, r8_3, r8_4, r8_5, r8_6, r8_7, r8_8, r8_9, r8_10, r8_11, r8_12, r8_13, r8_14, r8_15, r8_26, r8_27, r8_28, r8_29, r8_30, r8_33, r8_34, r8_35, r8_36, r8_37, r8_39, r8_40, r8_41, r8_43, r8_44, r8_45, nI_add, ldA_n s8_14, stA_n s8_14, narA_0, bd1_e, nn_le]
      rw [if_neg (by omega)]
      exact ⟨_, rfl, T.s rfl hk, fun o ho => by rw [u1_other ho]; exact e o ho⟩)
    (by
      rintro m1 _
      dsimp only
      unfold bX8_takeText_205
      simp (disch := omega) only [L0, L1, L2, L3, L4, L5, L6, L7, L8, L9, L10, L11, L12, L13, L14, L15, L16, L17, L18, L19, L20, L21, L22, L23, L24, L25, L26, L27, L28, L29, L30, L31, L32, L33, L34, L35, L36, L37, L38, L39, L40, L41, L42, L43, L44, L45, L46, L47, L48, L50, L57, L59, L60, L63, L64, L65, L70, L80, L90, L97, L100, L110, L120, L122, L128, L150, L200, L208, L216, L224, L232, L240, L248, L255, L256, L264, L272, L280, L288, L296, L297, L300, L336, L337, L500, L680, L700, L998, L999, L1000, L1024, L1999, L6403, L9999, L10000, L12345, L99999, L1000000, L214424576, L412560384, L509804544, L639025541, L642945024, L658545824, L1103515245, L2147483647, nn_le]
      rw [if_pos (by omega)])
  refine ⟨m4, ?_, ?_, ?_, ?_, ?_, ?_, ?_⟩
  · unfold fX8_takeText
    simp only [L0, L1, L2, L3, L4, L5, L6, L7, L8, L9, L10, L11, L12, L13, L14, L15, L16, L17, L18, L19, L20, L21, L22, L23, L24, L25, L26, L27, L28, L29, L30, L31, L32, L33, L34, L35, L36, L37, L38, L39, L40, L41, L42, L43, L44, L45, L46, L47, L48, L50, L57, L59, L60, L63, L64, L65, L70, L80, L90, L97, L100, L110, L120, L122, L128, L150, L200, L208, L216, L224, L232, L240, L248, L255, L256, L264, L272, L280, L288, L296, L297, L300, L336, L337, L500, L680, L700, L998, L999, L1000, L1024, L1999, L6403, L9999, L10000, L12345, L99999, L1000000, L214424576, L412560384, L509804544, L639025541, L642945024, L658545824, L1103515245, L2147483647, g8_0, r8_1, r8_3, r8_4, r8_5, r8_6, r8_7, r8_8, r8_9, r8_10, r8_11, r8_12, r8_13, r8_14, r8_15, r8_26, r8_27, r8_28, r8_29, r8_30, r8_33, r8_34, r8_35, r8_36, r8_37, r8_39, r8_40, r8_41, r8_43, r8_44, r8_45, a1, b1, c1, d1, bd1_e]
  · intro j hj
    rw [d3 2 (by omega), c4 2 (by omega), b3 2 (by omega)]; exact a2.1 j hj
  · intro o h1 h2 j hj
    rw [d3 o (by omega), c4 o (by omega), (b2 o h1 h2).1 j hj, a3 o (by omega)]; rfl
  · intro o h1 j hj
    rw [d3 o (by omega), (c2 o h1).1 j hj, b3 o (by omega), a3 o (by omega)]; rfl
  · intro j hj
    rw [d3 12 (by omega), c3.1 j hj, b3 12 (by omega), a3 12 (by omega)]
  · intro j hj
    rw [d2.1 j hj, c4 14 (by omega), b3 14 (by omega), a3 14 (by omega)]; rfl
  · intro o ho
    rw [d3 o (by omega), c4 o (by omega), b3 o (by omega), a3 o (by omega)]
theorem e8_begins {m : Mm} {π : Pl} {X : Nat → Nat} {td : Nat} (O : π.ok) (nl : m.1 2 0 = nI π.nl) (nf : m.1 2 1 = nI π.nf) (h7 : ∀ l, l < π.nl → m.1 7 l = nI (X l)) (h8 : ∀ l, l < π.nl → m.1 8 l = nI (X (10 + l))) (h9 : ∀ l, l < π.nl → m.1 9 l = nI (X (20 + l))) (h11 : ∀ f, f < π.nf → m.1 11 f = nI (X (200 + f))) (h12 : ∀ f, f < π.nf → m.1 12 f = nI (1 - X (264 + f))) (hP : QP π X td) : ∃ m', fX8_begins SX8 m 0 = some m' ∧ (∀ o, o ≠ 15 → m'.1 o = m.1 o) ∧ RM m' X := by
  have hnl := O.nl
  have hnf := O.nf
  obtain ⟨m1, a1, a2, a3⟩ := lp_F (b := fun s2 : Int32 × Mm => bX8_begins_2 SX8 0 s2.1 s2.2) (fun k m1 => (∀ j, j < k → m1.1 15 j = nI 0) ∧ ∀ o, o ≠ 15 → m1.1 o = m.1 o) 337 (m := m) (by omega) ⟨fun j hj => by omega, fun _ _ => rfl⟩
    (by
      rintro k m1 hk ⟨T, e⟩
      dsimp only
      unfold bX8_begins_2
      simp (disch := omega) only [L0, L1, L2, L3, L4, L5, L6, L7, L8, L9, L10, L11, L12, L13, L14, L15, L16, L17, L18, L19, L20, L21, L22, L23, L24, L25, L26, L27, L28, L29, L30, L31, L32, L33, L34, L35, L36, L37, L38, L39, L40, L41, L42, L43, L44, L45, L46, L47, L48, L50, L57, L59, L60, L63, L64, L65, L70, L80, L90, L97, L100, L110, L120, L122, L128, L150, L200, L208, L216, L224, L232, L240, L248, L255, L256, L264, L272, L280, L288, L296, L297, L300, L336, L337, L500, L680, L700, L998, L999, L1000, L1024, L1999, L6403, L9999, L10000, L12345, L99999, L1000000, L214424576, L412560384, L509804544, L639025541, L642945024, L658545824, L1103515245, L2147483647, g8_0, r8_1, r8_3, r8_4, r8_5, r8_6, r8_7, r8_8, r8_9, r8_10, r8_11, r8_12, r8_13, r8_14, r8_15, r8_26, r8_27, r8_28, r8_29, r8_30, r8_33, r8_34, r8_35, r8_36, r8_37, r8_39, r8_40, r8_41, r8_43, r8_44, r8_45, stA_n s8_15, narA_0, bd1_e, nn_le, nI_add]
      rw [if_neg (by omega)]
      refine ⟨_, rfl, fun j hj => ?_, fun o ho => by rw [u1_other ho]; exact e o ho⟩
      by_cases c : j = k
      · rw [c, u1_rs]
      · rw [u1_rn (Or.inl c)]; exact T j (by omega))
    (by
      rintro m1 _
      dsimp only
      unfold bX8_begins_2
      simp (disch := omega) only [L0, L1, L2, L3, L4, L5, L6, L7, L8, L9, L10, L11, L12, L13, L14, L15, L16, L17, L18, L19, L20, L21, L22, L23, L24, L25, L26, L27, L28, L29, L30, L31, L32, L33, L34, L35, L36, L37, L38, L39, L40, L41, L42, L43, L44, L45, L46, L47, L48, L50, L57, L59, L60, L63, L64, L65, L70, L80, L90, L97, L100, L110, L120, L122, L128, L150, L200, L208, L216, L224, L232, L240, L248, L255, L256, L264, L272, L280, L288, L296, L297, L300, L336, L337, L500, L680, L700, L998, L999, L1000, L1024, L1999, L6403, L9999, L10000, L12345, L99999, L1000000, L214424576, L412560384, L509804544, L639025541, L642945024, L658545824, L1103515245, L2147483647, nn_le]
      rw [if_pos (by omega)])
  obtain ⟨m2, b1, b2, b3, b4⟩ := lp_F (b := fun s11 : Int32 × Mm => bX8_begins_24 SX8 0 s11.1 s11.2) (fun k m2 => (∀ l, l < k → m2.1 15 (24 * l + 0) = nI (X (0 + l)) ∧ m2.1 15 (24 * l + 1) = nI (X (10 + l)) ∧ m2.1 15 (24 * l + 2) = nI (X (20 + l))) ∧ (∀ j, j < 337 → (∀ l, l < k → j ≠ 24 * l ∧ j ≠ 24 * l + 1 ∧ j ≠ 24 * l + 2) → m2.1 15 j = nI 0) ∧ ∀ o, o ≠ 15 → m2.1 o = m.1 o) π.nl (m := m1) (by omega) ⟨fun j hj => by omega, fun j hj _ => a2 j hj, a3⟩
    (by
      rintro k m2 hk ⟨T, T2, e⟩
      have e2 : fX8_links SX8 m2 0 = some (nI π.nl) := by
        unfold fX8_links
        simp (disch := omega) only [L0, L1, L2, L3, L4, L5, L6, L7, L8, L9, L10, L11, L12, L13, L14, L15, L16, L17, L18, L19, L20, L21, L22, L23, L24, L25, L26, L27, L28, L29, L30, L31, L32, L33, L34, L35, L36, L37, L38, L39, L40, L41, L42, L43, L44, L45, L46, L47, L48, L50, L57, L59, L60, L63, L64, L65, L70, L80, L90, L97, L100, L110, L120, L122, L128, L150, L200, L208, L216, L224, L232, L240, L248, L255, L256, L264, L272, L280, L288, L296, L297, L300, L336, L337, L500, L680, L700, L998, L999, L1000, L1024, L1999, L6403, L9999, L10000, L12345, L99999, L1000000, L214424576, L412560384, L509804544, L639025541, L642945024, L658545824, L1103515245, L2147483647, g8_0, r8_1, r8_3, r8_4, r8_5, r8_6, r8_7, r8_8, r8_9, r8_10, r8_11, r8_12, r8_13, r8_14, r8_15, r8_26, r8_27, r8_28, r8_29, r8_30, r8_33, r8_34, r8_35, r8_36, r8_37, r8_39, r8_40, r8_41, r8_43, r8_44, r8_45, ldA_n s8_2, bd1_e]
        rw [e 2 (by omega), nl]
      have g7 : m2.1 7 k = nI (X k) := by rw [e 7 (by omega)]; exact h7 k hk
      have g8 : m2.1 8 k = nI (X (10 + k)) := by rw [e 8 (by omega)]; exact h8 k hk
      have g9 : m2.1 9 k = nI (X (20 + k)) := by rw [e 9 (by omega)]; exact h9 k hk
      dsimp only
      unfold bX8_begins_24
      simp (disch := omega) only [L0, L1, L2, L3, L4, L5, L6, L7, L8, L9, L10, L11, L12, L13, L14, L15, L16, L17, L18, L19, L20, L21, L22, L23, L24, L25, L26, L27, L28, L29, L30, L31, L32, L33, L34, L35, L36, L37, L38, L39, L40, L41, L42, L43, L44, L45, L46, L47, L48, L50, L57, L59, L60, L63, L64, L65, L70, L80, L90, L97, L100, L110, L120, L122, L128, L150, L200, L208, L216, L224, L232, L240, L248, L255, L256, L264, L272, L280, L288, L296, L297, L300, L336, L337, L500, L680, L700, L998, L999, L1000, L1024, L1999, L6403, L9999, L10000, L12345, L99999, L1000000, L214424576, L412560384, L509804544, L639025541, L642945024, L658545824, L1103515245, L2147483647, g8_0, r8_1, r8_3, r8_4, r8_5, r8_6, r8_7, r8_8, r8_9, r8_10, r8_11, r8_12, r8_13, r8_14, r8_15, r8_26, r8_27, r8_28, r8_29, r8_30, r8_33, r8_34, r8_35, r8_36, r8_37, r8_39, r8_40, r8_41, r8_43, r8_44, r8_45, e2, nI_add, pk_mul, ldA_n s8_7, ldA_n s8_8, ldA_n s8_9, stA_n s8_15, narA_0, bd1_e, nn_le, u1_rn, g7, g8, g9]
      rw [if_neg (by omega)]
      refine ⟨_, rfl, fun l hl => ?_, fun j hj hn => ?_, fun o ho => by rw [u1_other ho, u1_other ho, u1_other ho]; exact e o ho⟩
      · by_cases c : l = k
        · subst c
          refine ⟨?_, ?_, u1_rs⟩
          · rw [u1_rn (Or.inl (by omega)), u1_rn (Or.inl (by omega)), u1_rs, Nat.zero_add]
          · rw [u1_rn (Or.inl (by omega)), u1_rs]
        · obtain ⟨t1, t2, t3⟩ := T l (by omega)
          refine ⟨?_, ?_, ?_⟩
          · rw [u1_rn (Or.inl (by omega)), u1_rn (Or.inl (by omega)), u1_rn (Or.inl (by omega))]; exact t1
          · rw [u1_rn (Or.inl (by omega)), u1_rn (Or.inl (by omega)), u1_rn (Or.inl (by omega))]; exact t2
          · rw [u1_rn (Or.inl (by omega)), u1_rn (Or.inl (by omega)), u1_rn (Or.inl (by omega))]; exact t3
      · obtain ⟨n1, n2, n3⟩ := hn k (by omega)
        rw [u1_rn (Or.inl (by omega)), u1_rn (Or.inl (by omega)), u1_rn (Or.inl (by omega))]; exact T2 j hj (fun l hl => hn l (by omega)))
    (by
      rintro m2 ⟨_, _, e⟩
      have e2 : fX8_links SX8 m2 0 = some (nI π.nl) := by
        unfold fX8_links
        simp (disch := omega) only [L0, L1, L2, L3, L4, L5, L6, L7, L8, L9, L10, L11, L12, L13, L14, L15, L16, L17, L18, L19, L20, L21, L22, L23, L24, L25, L26, L27, L28, L29, L30, L31, L32, L33, L34, L35, L36, L37, L38, L39, L40, L41, L42, L43, L44, L45, L46, L47, L48, L50, L57, L59, L60, L63, L64, L65, L70, L80, L90, L97, L100, L110, L120, L122, L128, L150, L200, L208, L216, L224, L232, L240, L248, L255, L256, L264, L272, L280, L288, L296, L297, L300, L336, L337, L500, L680, L700, L998, L999, L1000, L1024, L1999, L6403, L9999, L10000, L12345, L99999, L1000000, L214424576, L412560384, L509804544, L639025541, L642945024, L658545824, L1103515245, L2147483647, g8_0, r8_1, r8_3, r8_4, r8_5, r8_6, r8_7, r8_8, r8_9, r8_10, r8_11, r8_12, r8_13, r8_14, r8_15, r8_26, r8_27, r8_28, r8_29, r8_30, r8_33, r8_34, r8_35, r8_36, r8_37, r8_39, r8_40, r8_41, r8_43, r8_44, r8_45, ldA_n s8_2, bd1_e]
        rw [e 2 (by omega), nl]
      dsimp only
      unfold bX8_begins_24
      simp (disch := omega) only [L0, L1, L2, L3, L4, L5, L6, L7, L8, L9, L10, L11, L12, L13, L14, L15, L16, L17, L18, L19, L20, L21, L22, L23, L24, L25, L26, L27, L28, L29, L30, L31, L32, L33, L34, L35, L36, L37, L38, L39, L40, L41, L42, L43, L44, L45, L46, L47, L48, L50, L57, L59, L60, L63, L64, L65, L70, L80, L90, L97, L100, L110, L120, L122, L128, L150, L200, L208, L216, L224, L232, L240, L248, L255, L256, L264, L272, L280, L288, L296, L297, L300, L336, L337, L500, L680, L700, L998, L999, L1000, L1024, L1999, L6403, L9999, L10000, L12345, L99999, L1000000, L214424576, L412560384, L509804544, L639025541, L642945024, L658545824, L1103515245, L2147483647, e2, bd1_e, nn_le]
      rw [if_pos (by omega)])
  obtain ⟨m3, c1, c2, c3, c4⟩ := lp_F (b := fun s20 : Int32 × Mm => bX8_begins_91 SX8 0 s20.1 s20.2) (fun k m3 => (∀ f, f < k → m3.1 15 (240 + 12 * f + 0) = nI (X (200 + f)) ∧ m3.1 15 (240 + 12 * f + 1) = nI (X (208 + f)) ∧ m3.1 15 (240 + 12 * f + 7) = nI (X (264 + f))) ∧ (∀ j, (∀ f, f < k → j ≠ 240 + 12 * f ∧ j ≠ 240 + 12 * f + 1 ∧ j ≠ 240 + 12 * f + 7) → m3.1 15 j = m2.1 15 j) ∧ ∀ o, o ≠ 15 → m3.1 o = m.1 o) π.nf (m := m2) (by omega) ⟨fun j hj => by omega, fun j _ => rfl, b4⟩
    (by
      rintro k m3 hk ⟨T, T2, e⟩
      have e2 : fX8_flows SX8 m3 0 = some (nI π.nf) := by
        unfold fX8_flows
        simp (disch := omega) only [L0, L1, L2, L3, L4, L5, L6, L7, L8, L9, L10, L11, L12, L13, L14, L15, L16, L17, L18, L19, L20, L21, L22, L23, L24, L25, L26, L27, L28, L29, L30, L31, L32, L33, L34, L35, L36, L37, L38, L39, L40, L41, L42, L43, L44, L45, L46, L47, L48, L50, L57, L59, L60, L63, L64, L65, L70, L80, L90, L97, L100, L110, L120, L122, L128, L150, L200, L208, L216, L224, L232, L240, L248, L255, L256, L264, L272, L280, L288, L296, L297, L300, L336, L337, L500, L680, L700, L998, L999, L1000, L1024, L1999, L6403, L9999, L10000, L12345, L99999, L1000000, L214424576, L412560384, L509804544, L639025541, L642945024, L658545824, L1103515245, L2147483647, g8_0, r8_1, r8_3, r8_4, r8_5, r8_6, r8_7, r8_8, r8_9, r8_10, r8_11, r8_12, r8_13, r8_14, r8_15, r8_26, r8_27, r8_28, r8_29, r8_30, r8_33, r8_34, r8_35, r8_36, r8_37, r8_39, r8_40, r8_41, r8_43, r8_44, r8_45, ldA_n s8_2, bd1_e]
        rw [e 2 (by omega), nf]
      obtain ⟨r1, r2, r3, r4⟩ := hP.ra k hk
      have g11 : m3.1 11 k = nI (X (200 + k)) := by rw [e 11 (by omega)]; exact h11 k hk
      have g12 : m3.1 12 k = nI (1 - X (264 + k)) := by rw [e 12 (by omega)]; exact h12 k hk
      have key : ∃ v, v = X (264 + k) ∧ bX8_begins_91 SX8 0 (nI k) m3 = some (.inl (nI (k + 1), u1 (u1 (u1 m3 15 (240 + 12 * k + 0) (nI (X (200 + k)))) 15 (240 + 12 * k + 1) (nI (X (200 + k)))) 15 (240 + 12 * k + 7) (nI v))) := by
        unfold bX8_begins_91 jX8_begins_158
        simp (disch := omega) only [L0, L1, L2, L3, L4, L5, L6, L7, L8, L9, L10, L11, L12, L13, L14, L15, L16, L17, L18, L19, L20, L21, L22, L23, L24, L25, L26, L27, L28, L29, L30, L31, L32, L33, L34, L35, L36, L37, L38, L39, L40, L41, L42, L43, L44, L45, L46, L47, L48, L50, L57, L59, L60, L63, L64, L65, L70, L80, L90, L97, L100, L110, L120, L122, L128, L150, L200, L208, L216, L224, L232, L240, L248, L255, L256, L264, L272, L280, L288, L296, L297, L300, L336, L337, L500, L680, L700, L998, L999, L1000, L1024, L1999, L6403, L9999, L10000, L12345, L99999, L1000000, L214424576, L412560384, L509804544, L639025541, L642945024, L658545824, L1103515245, L2147483647, g8_0, r8_1, r8_3, r8_4, r8_5, r8_6, r8_7, r8_8, r8_9, r8_10, r8_11, r8_12, r8_13, r8_14, r8_15, r8_26, r8_27, r8_28, r8_29, r8_30, r8_33, r8_34, r8_35, r8_36, r8_37, r8_39, r8_40, r8_41, r8_43, r8_44, r8_45, e2, nI_add, pk_mul, ldA_n s8_11, ldA_n s8_12, stA_n s8_15, narA_0, bd1_e, nn_le, u1_rn, g11, g12, nn_eq]
        rw [if_neg (by omega)]
        by_cases c : X (264 + k) = 0
        · rw [if_neg (by omega)]; exact ⟨0, c.symm, rfl⟩
        · rw [if_pos (by omega)]; exact ⟨1, by omega, rfl⟩
      obtain ⟨v, rfl, key⟩ := key
      refine ⟨_, key, fun l hl => ?_, fun j hn => ?_, fun o ho => by rw [u1_other ho, u1_other ho, u1_other ho]; exact e o ho⟩
      · by_cases c : l = k
        · subst c
          refine ⟨?_, ?_, u1_rs⟩
          · rw [u1_rn (Or.inl (by omega)), u1_rn (Or.inl (by omega)), u1_rs]
          · rw [u1_rn (Or.inl (by omega)), u1_rs, r3]
        · obtain ⟨t1, t2, t3⟩ := T l (by omega)
          refine ⟨?_, ?_, ?_⟩
          · rw [u1_rn (Or.inl (by omega)), u1_rn (Or.inl (by omega)), u1_rn (Or.inl (by omega))]; exact t1
          · rw [u1_rn (Or.inl (by omega)), u1_rn (Or.inl (by omega)), u1_rn (Or.inl (by omega))]; exact t2
          · rw [u1_rn (Or.inl (by omega)), u1_rn (Or.inl (by omega)), u1_rn (Or.inl (by omega))]; exact t3
      · obtain ⟨n1, n2, n3⟩ := hn k (by omega)
        rw [u1_rn (Or.inl (by omega)), u1_rn (Or.inl (by omega)), u1_rn (Or.inl (by omega))]; exact T2 j (fun l hl => hn l (by omega)))
    (by
      rintro m3 ⟨_, _, e⟩
      have e2 : fX8_flows SX8 m3 0 = some (nI π.nf) := by
        unfold fX8_flows
        simp (disch := omega) only [L0, L1, L2, L3, L4, L5, L6, L7, L8, L9, L10, L11, L12, L13, L14, L15, L16, L17, L18, L19, L20, L21, L22, L23, L24, L25, L26, L27, L28, L29, L30, L31, L32, L33, L34, L35, L36, L37, L38, L39, L40, L41, L42, L43, L44, L45, L46, L47, L48, L50, L57, L59, L60, L63, L64, L65, L70, L80, L90, L97, L100, L110, L120, L122, L128, L150, L200, L208, L216, L224, L232, L240, L248, L255, L256, L264, L272, L280, L288, L296, L297, L300, L336, L337, L500, L680, L700, L998, L999, L1000, L1024, L1999, L6403, L9999, L10000, L12345, L99999, L1000000, L214424576, L412560384, L509804544, L639025541, L642945024, L658545824, L1103515245, L2147483647, g8_0, r8_1, r8_3, r8_4, r8_5, r8_6, r8_7, r8_8, r8_9, r8_10, r8_11, r8_12, r8_13, r8_14, r8_15, r8_26, r8_27, r8_28, r8_29, r8_30, r8_33, r8_34, r8_35, r8_36, r8_37, r8_39, r8_40, r8_41, r8_43, r8_44, r8_45, ldA_n s8_2, bd1_e]
        rw [e 2 (by omega), nf]
      dsimp only
      unfold bX8_begins_91
      simp (disch := omega) only [L0, L1, L2, L3, L4, L5, L6, L7, L8, L9, L10, L11, L12, L13, L14, L15, L16, L17, L18, L19, L20, L21, L22, L23, L24, L25, L26, L27, L28, L29, L30, L31, L32, L33, L34, L35, L36, L37, L38, L39, L40, L41, L42, L43, L44, L45, L46, L47, L48, L50, L57, L59, L60, L63, L64, L65, L70, L80, L90, L97, L100, L110, L120, L122, L128, L150, L200, L208, L216, L224, L232, L240, L248, L255, L256, L264, L272, L280, L288, L296, L297, L300, L336, L337, L500, L680, L700, L998, L999, L1000, L1024, L1999, L6403, L9999, L10000, L12345, L99999, L1000000, L214424576, L412560384, L509804544, L639025541, L642945024, L658545824, L1103515245, L2147483647, e2, bd1_e, nn_le]
      rw [if_pos (by omega)])
  refine ⟨m3, ?_, c4, ?_⟩
  · unfold fX8_begins
    simp only [L0, L1, L2, L3, L4, L5, L6, L7, L8, L9, L10, L11, L12, L13, L14, L15, L16, L17, L18, L19, L20, L21, L22, L23, L24, L25, L26, L27, L28, L29, L30, L31, L32, L33, L34, L35, L36, L37, L38, L39, L40, L41, L42, L43, L44, L45, L46, L47, L48, L50, L57, L59, L60, L63, L64, L65, L70, L80, L90, L97, L100, L110, L120, L122, L128, L150, L200, L208, L216, L224, L232, L240, L248, L255, L256, L264, L272, L280, L288, L296, L297, L300, L336, L337, L500, L680, L700, L998, L999, L1000, L1024, L1999, L6403, L9999, L10000, L12345, L99999, L1000000, L214424576, L412560384, L509804544, L639025541, L642945024, L658545824, L1103515245, L2147483647, g8_0, r8_1, r8_3, r8_4, r8_5, r8_6, r8_7, r8_8, r8_9, r8_10, r8_11, r8_12, r8_13, r8_14, r8_15, r8_26, r8_27, r8_28, r8_29, r8_30, r8_33, r8_34, r8_35, r8_36, r8_37, r8_39, r8_40, r8_41, r8_43, r8_44, r8_45, a1, b1, c1, bd1_e]
  · -- a place of a link: not of a flow
    have pl : ∀ j, j < 240 → m3.1 15 j = m2.1 15 j := fun j hj => c3 j (fun f hf => by omega)
    have zl : ∀ l c, l < 10 → 3 ≤ c → c < 24 → m3.1 15 (24 * l + c) = nI 0 := fun l c hl h1 h2 => by
      rw [pl _ (by omega)]; exact b3 _ (by omega) (fun l' hl' => by omega)
    have zf : ∀ f c, f < 8 → 2 ≤ c → c < 12 → c ≠ 7 → m3.1 15 (240 + 12 * f + c) = nI 0 := fun f c hf h1 h2 h3 => by
      rw [c3 _ (fun f' hf' => by omega)]; exact b3 _ (by omega) (fun l' hl' => by omega)
    have ll : ∀ l c b, l < 10 → (c = 0 ∧ b = 0) ∨ (c = 1 ∧ b = 10) ∨ (c = 2 ∧ b = 20) → m3.1 15 (24 * l + c) = nI (X (b + l)) := fun l c b hl hc => by
      rw [pl _ (by omega)]
      by_cases e : l < π.nl
      · obtain ⟨t1, t2, t3⟩ := b2 l e
        rcases hc with ⟨rfl, rfl⟩ | ⟨rfl, rfl⟩ | ⟨rfl, rfl⟩
        · exact t1
        · exact t2
        · exact t3
      · obtain ⟨z1, z2, z3⟩ := hP.z1 l (by omega) hl
        rw [b3 _ (by omega) (fun l' hl' => by omega)]
        rcases hc with ⟨rfl, rfl⟩ | ⟨rfl, rfl⟩ | ⟨rfl, rfl⟩
        · rw [Nat.zero_add, z1]
        · rw [z2]
        · rw [z3]
    have lf : ∀ f c b, f < 8 → (c = 0 ∧ b = 200) ∨ (c = 1 ∧ b = 208) ∨ (c = 7 ∧ b = 264) → m3.1 15 (240 + 12 * f + c) = nI (X (b + f)) := fun f c b hf hc => by
      by_cases e : f < π.nf
      · obtain ⟨t1, t2, t3⟩ := c2 f e
        rcases hc with ⟨rfl, rfl⟩ | ⟨rfl, rfl⟩ | ⟨rfl, rfl⟩
        · exact t1
        · exact t2
        · exact t3
      · obtain ⟨z1, z2, z3⟩ := hP.z2 f (by omega) hf
        rw [c3 _ (fun f' hf' => by omega), b3 _ (by omega) (fun l' hl' => by omega)]
        rcases hc with ⟨rfl, rfl⟩ | ⟨rfl, rfl⟩ | ⟨rfl, rfl⟩
        · rw [z1]
        · rw [z2]
        · rw [z3]
    refine RM.mk ?_ ?_ ?_ ?_ ?_ ?_ ?_ ?_ ?_ ?_ ?_ ?_ ?_ ?_ ?_ ?_ ?_ ?_ ?_ ?_ ?_ ?_ ?_ ?_ ?_
    · exact fun l hl => ll l 0 0 hl (by omega)
    · exact fun l hl => ll l 1 10 hl (by omega)
    · exact fun l hl => ll l 2 20 hl (by omega)
    · exact fun l hl => by rw [zl l 3 hl (by omega) (by omega), hP.z3 _ (by omega) (by omega)]
    · exact fun l hl => by rw [zl l 4 hl (by omega) (by omega), hP.z3 _ (by omega) (by omega)]
    · exact fun l hl => by rw [zl l 5 hl (by omega) (by omega), hP.z3 _ (by omega) (by omega)]
    · exact fun l hl => by rw [zl l 6 hl (by omega) (by omega), hP.z3 _ (by omega) (by omega)]
    · exact fun l hl => by rw [zl l 7 hl (by omega) (by omega), hP.z3 _ (by omega) (by omega)]
    · exact fun l hl => by rw [zl l 8 hl (by omega) (by omega), hP.z3 _ (by omega) (by omega)]
    · exact fun l hl => by rw [zl l 9 hl (by omega) (by omega), hP.z3 _ (by omega) (by omega)]
    · exact fun l k hl hk => by rw [Nat.add_assoc, zl l (10 + k) hl (by omega) (by omega), hP.z3 _ (by omega) (by omega), Nat.zero_div, Nat.zero_mod]
    · exact fun l f hl hf => by rw [Nat.add_assoc (24 * l), zl l (15 + f) hl (by omega) (by omega), hP.z3 _ (by omega) (by omega)]
    · exact fun f hf => lf f 0 200 hf (by omega)
    · exact fun f hf => lf f 1 208 hf (by omega)
    · exact fun f hf => by rw [zf f 2 hf (by omega) (by omega) (by omega), hP.z3 _ (by omega) (by omega)]
    · exact fun f hf => by rw [Nat.add_assoc (240 + 12 * f), zf f (2 + 1) hf (by omega) (by omega) (by omega), hP.z3 _ (by omega) (by omega)]
    · exact fun f hf => by rw [zf f 4 hf (by omega) (by omega) (by omega), hP.z3 _ (by omega) (by omega)]
    · exact fun f hf => by rw [zf f 5 hf (by omega) (by omega) (by omega), hP.z3 _ (by omega) (by omega)]
    · exact fun f hf => by rw [zf f 6 hf (by omega) (by omega) (by omega), hP.z3 _ (by omega) (by omega)]
    · exact fun f hf => lf f 7 264 hf (by omega)
    · exact fun f hf => by rw [zf f 8 hf (by omega) (by omega) (by omega), hP.z3 _ (by omega) (by omega)]
    · exact fun f hf => by rw [zf f 9 hf (by omega) (by omega) (by omega), hP.z3 _ (by omega) (by omega)]
    · exact fun f hf => by rw [zf f 10 hf (by omega) (by omega) (by omega), hP.z3 _ (by omega) (by omega)]
    · exact fun f hf => by rw [zf f 11 hf (by omega) (by omega) (by omega), hP.z3 _ (by omega) (by omega)]
    · rw [c3 336 (fun f hf => by omega), b3 336 (by omega) (fun l hl => by omega), hP.z3 _ (by omega) (by omega)]
/-- both together -/
theorem e8_taken {m : Mm} {π : Pl} {X : Nat → Nat} {td : Nat} (Q : QM m π X td) (P : QP π X td) : ∃ m1 m2, fX8_takeText SX8 m 0 = some m1 ∧ fX8_begins SX8 m1 0 = some m2 ∧ PM m2 π ∧ RM m2 X ∧ (∀ o, o < 2 ∨ 15 < o → m2.1 o = m.1 o) := by
  have hnl := P.O.nl
  have hnf := P.O.nf
  obtain ⟨m1, a1, a2, a3, a4, a5, a6, a7⟩ := e8_take (m := m)
  have QP0 := Q.P
  obtain ⟨m2, b1, b2, b3⟩ := e8_begins (m := m1) (X := X) (td := td) P.O (by rw [a2 0 (by omega)]; exact QP0.nl) (by rw [a2 1 (by omega)]; exact QP0.nf) (fun l hl => by rw [a3 7 (by omega) (by omega) l (by omega)]; exact Q.xoff l hl) (fun l hl => by rw [a3 8 (by omega) (by omega) l (by omega)]; exact Q.xon l hl) (fun l hl => by rw [a3 9 (by omega) (by omega) l (by omega)]; exact Q.size l hl) (fun f hf => by rw [a4 11 (by omega) f (by omega)]; exact Q.rate f hf)
    (fun f hf => by
      rw [a5 f (by omega), Q.off f hf]
      obtain ⟨_, _, _, r4⟩ := P.ra f hf
      by_cases c : X (264 + f) = 0
      · rw [c]; exact narA_2 true
      · rw [show X (264 + f) = 1 by omega]; exact narA_2 false) P
  refine ⟨m1, m2, a1, b1, PM.mk ?_ ?_ ?_ ?_ ?_ ?_ ?_ ?_ ?_ ?_ ?_ ?_ ?_ ?_ ?_, b3, fun o ho => by rw [b2 o (by omega), a7 o (by omega)]⟩
  · rw [b2 2 (by omega), a2 0 (by omega)]; exact QP0.nl
  · rw [b2 2 (by omega), a2 1 (by omega)]; exact QP0.nf
  · intro l hl; rw [b2 4 (by omega), a3 4 (by omega) (by omega) l (by omega)]; exact Q.lname l hl
  · intro l hl; rw [b2 5 (by omega), a3 5 (by omega) (by omega) l (by omega)]; exact Q.cap l hl
  · intro l hl; rw [b2 6 (by omega), a3 6 (by omega) (by omega) l (by omega)]; exact Q.delay l hl
  · intro f hf; rw [b2 10 (by omega), a4 10 (by omega) f (by omega)]; exact Q.fname f hf
  · intro f hf; rw [b2 13 (by omega), a4 13 (by omega) f (by omega)]; exact Q.hops f hf
  · intro f i hf hi
    have := P.O.hops f hf
    rw [b2 14 (by omega), a6 (5 * f + i) (by omega)]; exact Q.path f i hf hi
  · rw [b2 2 (by omega), a2 2 (by omega)]; exact QP0.each
  · rw [b2 2 (by omega), a2 3 (by omega)]; exact QP0.middle
  · rw [b2 2 (by omega), a2 4 (by omega)]; exact QP0.weight
  · rw [b2 2 (by omega), a2 5 (by omega)]; exact QP0.cells
  · rw [b2 2 (by omega), a2 6 (by omega)]; exact QP0.ticks
  · rw [b2 2 (by omega), a2 7 (by omega)]; exact QP0.more
  · rw [b2 2 (by omega), a2 8 (by omega)]; exact QP0.seed
