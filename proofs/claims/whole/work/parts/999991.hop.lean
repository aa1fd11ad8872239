/-! ===== the line 'flow': one link more ===== -/
theorem e_linkOf2 {m : Mm} {p nl : Nat} {g : Nat → Int32} {v : Int32} (hp : p = 21 ∨ p = 31) (hnl : nl ≤ 10) (h9 : m.1 p 9 = nI nl) (hg : ∀ l, l < nl → m.1 (p + 1) l = g l) : fX1_linkOf SX7 m p v = some (nxI (fnd g v nl)) := by
  unfold fX1_linkOf
  simp only [L0, L1, L2, L3, L4, L5, L6, L7, L8, L9, L10, L11, L12, L13, L14, L15, L16, L17, L18, L19, L20, L21, L22, L23, L24, L25, L26, L27, L28, L29, L30, L31, L32, L33, L34, L35, L36, L37, L38, L39, L40, L41, L42, L43, L44, L45, L46, L47, L48, L50, L57, L59, L60, L63, L64, L65, L70, L80, L90, L97, L100, L110, L120, L122, L128, L150, L200, L208, L216, L224, L232, L240, L248, L255, L256, L264, L272, L280, L288, L296, L297, L300, L336, L337, L500, L680, L700, L998, L999, L1000, L1024, L1999, L6403, L9999, L10000, L12345, L99999, L1000000, L214424576, L412560384, L509804544, L639025541, L642945024, L658545824, L1103515245, L2147483647, g7_p hp]
  refine lp_fnd (by omega) (fun k hk => ?_) ?_
  · unfold bX1_linkOf_2
    simp (disch := omega) only [L0, L1, L2, L3, L4, L5, L6, L7, L8, L9, L10, L11, L12, L13, L14, L15, L16, L17, L18, L19, L20, L21, L22, L23, L24, L25, L26, L27, L28, L29, L30, L31, L32, L33, L34, L35, L36, L37, L38, L39, L40, L41, L42, L43, L44, L45, L46, L47, L48, L50, L57, L59, L60, L63, L64, L65, L70, L80, L90, L97, L100, L110, L120, L122, L128, L150, L200, L208, L216, L224, L232, L240, L248, L255, L256, L264, L272, L280, L288, L296, L297, L300, L336, L337, L500, L680, L700, L998, L999, L1000, L1024, L1999, L6403, L9999, L10000, L12345, L99999, L1000000, L214424576, L412560384, L509804544, L639025541, L642945024, L658545824, L1103515245, L2147483647, g7_p hp, r7_p_0 hp, r7_p_1 hp, r7_p_2 hp, r7_p_3 hp, r7_p_4 hp, r7_p_5 hp, r7_p_6 hp, r7_p_7 hp, r7_p_8 hp, h9, nn_le, ldA_n (s7_p1 hp), hg k hk, bd1_e]
    rw [if_neg (by omega)]
  · unfold bX1_linkOf_2
    simp (disch := omega) only [h9, nn_le]
    rw [if_pos (by omega)]
theorem e8_isOnPath {m : Mm} {f h l : Nat} {p : Nat → Nat} (hf : f < 16) (hh : h ≤ 5) (hl : l < 100) (h13 : m.1 13 f = nI h) (h14 : ∀ i, i < h → m.1 14 (5 * f + i) = nI (p i)) (hb : ∀ i, i < h → p i < 100) : fX8_isOnPath SX8 m 0 (nI f) (nI l) = some (nI (if hpF p l h = 0 then 0 else 1)) := by
  obtain ⟨r, h1, h2⟩ := lp_n (b := fun s3 : Int32 => bX8_isOnPath_2 SX8 m 0 (nI f) (nI l) s3) (N := fu) (s0 := nI 0)
    (fun k s => s = nI k ∧ hpF p l k = 0)
    (fun r => (r = .inr () ∧ hpF p l h = 0) ∨ (r = .inl (nI 1) ∧ hpF p l h ≠ 0))
    h ⟨rfl, rfl⟩ (by unfold fu; omega)
    (by
      rintro k s hk ⟨rfl, h0⟩
      have hpk := hb k hk
      unfold bX8_isOnPath_2
      simp (disch := omega) only [L0, L1, L2, L3, L4, L5, L6, L7, L8, L9, L10, L11, L12, L13, L14, L15, L16, L17, L18, L19, L20, L21, L22, L23, L24, L25, L26, L27, L28, L29, L30, L31, L32, L33, L34, L35, L36, L37, L38, L39, L40, L41, L42, L43, L44, L45, L46, L47, L48, L50, L57, L59, L60, L63, L64, L65, L70, L80, L90, L97, L100, L110, L120, L122, L128, L150, L200, L208, L216, L224, L232, L240, L248, L255, L256, L264, L272, L280, L288, L296, L297, L300, L336, L337, L500, L680, L700, L998, L999, L1000, L1024, L1999, L6403, L9999, L10000, L12345, L99999, L1000000, L214424576, L412560384, L509804544, L639025541, L642945024, L658545824, L1103515245, L2147483647, g8_0, r8_1, r8_3, r8_4, r8_5, r8_6, r8_7, r8_8, r8_9, r8_10, r8_11, r8_12, r8_13, r8_14, r8_15, r8_26, r8_27, r8_28, r8_29, r8_30, r8_33, r8_34, r8_35, r8_36, r8_37, r8_39, r8_40, r8_41, r8_43, r8_44, r8_45, nI_add, pk_mul, narA_0, bd1_e, bd2_e, bdR_l, bdR_r, ldA_n s8_13, h13, nn_le, ldA_n s8_14, h14 k hk, nn_eq, okZ_1]
      rw [if_neg (by omega)]
      by_cases e : p k = l
      · rw [if_neg (fun c => c e)]
        refine Or.inr ⟨_, rfl, Or.inr ⟨rfl, hpF_ex.mpr ⟨k, hk, e⟩⟩⟩
      · rw [if_pos e]
        refine Or.inl ⟨_, rfl, rfl, ?_⟩
        rw [hpF_s, if_neg (fun c => c h0), if_neg e])
    (by
      rintro s ⟨rfl, h0⟩
      refine ⟨.inr (), ?_, Or.inl ⟨rfl, h0⟩⟩
      unfold bX8_isOnPath_2
      simp (disch := omega) only [L0, L1, L2, L3, L4, L5, L6, L7, L8, L9, L10, L11, L12, L13, L14, L15, L16, L17, L18, L19, L20, L21, L22, L23, L24, L25, L26, L27, L28, L29, L30, L31, L32, L33, L34, L35, L36, L37, L38, L39, L40, L41, L42, L43, L44, L45, L46, L47, L48, L50, L57, L59, L60, L63, L64, L65, L70, L80, L90, L97, L100, L110, L120, L122, L128, L150, L200, L208, L216, L224, L232, L240, L248, L255, L256, L264, L272, L280, L288, L296, L297, L300, L336, L337, L500, L680, L700, L998, L999, L1000, L1024, L1999, L6403, L9999, L10000, L12345, L99999, L1000000, L214424576, L412560384, L509804544, L639025541, L642945024, L658545824, L1103515245, L2147483647, g8_0, r8_1, r8_3, r8_4, r8_5, r8_6, r8_7, r8_8, r8_9, r8_10, r8_11, r8_12, r8_13, r8_14, r8_15, r8_26, r8_27, r8_28, r8_29, r8_30, r8_33, r8_34, r8_35, r8_36, r8_37, r8_39, r8_40, r8_41, r8_43, r8_44, r8_45, bd1_e, ldA_n s8_13, h13, nn_le]
      rw [if_pos (by omega)])
  unfold fX8_isOnPath
  simp only [L0, L1, L2, L3, L4, L5, L6, L7, L8, L9, L10, L11, L12, L13, L14, L15, L16, L17, L18, L19, L20, L21, L22, L23, L24, L25, L26, L27, L28, L29, L30, L31, L32, L33, L34, L35, L36, L37, L38, L39, L40, L41, L42, L43, L44, L45, L46, L47, L48, L50, L57, L59, L60, L63, L64, L65, L70, L80, L90, L97, L100, L110, L120, L122, L128, L150, L200, L208, L216, L224, L232, L240, L248, L255, L256, L264, L272, L280, L288, L296, L297, L300, L336, L337, L500, L680, L700, L998, L999, L1000, L1024, L1999, L6403, L9999, L10000, L12345, L99999, L1000000, L214424576, L412560384, L509804544, L639025541, L642945024, L658545824, L1103515245, L2147483647, g8_0, r8_1, r8_3, r8_4, r8_5, r8_6, r8_7, r8_8, r8_9, r8_10, r8_11, r8_12, r8_13, r8_14, r8_15, r8_26, r8_27, r8_28, r8_29, r8_30, r8_33, r8_34, r8_35, r8_36, r8_37, r8_39, r8_40, r8_41, r8_43, r8_44, r8_45, h1]
  rcases h2 with ⟨rfl, h3⟩ | ⟨rfl, h3⟩
  · rw [if_pos h3, bdR_r, okZ_0, bd1_e]
  · rw [if_neg h3, bdR_l]
theorem e_goOn {m : Mm} {sp f h l : Nat} {p : Nat → Nat} (hp : sp = 21 ∨ sp = 31) (hf : f < 8) (hh : h < 5) (hl : l < 10) (hq : ∀ i, i < h → m.1 (sp + 6) (f * 5 + i) = nI (p i)) (hb : ∀ i, i < h → p i < 10) :
    fX1_goOn SX7 m sp (nI f) (nI h) (nI l) = some (u1 (u1 (u1 (if h = 0 then m else u1 m (sp + 8) (p (h - 1) * 8 + f) (nI l)) (sp + 7) (l * 8 + f) (if h = 0 then -nI 1 else nI (p (h - 1)))) (sp + 6) (f * 5 + h) (nI l)) (sp + 5) f (nI (h + 1))) := by
  have e50 : ∀ (m : Mm) (v : Int32), jX1_goOn_50 SX7 m sp (nI f) (nI h) (nI l) v = some (u1 (u1 (u1 m (sp + 7) (l * 8 + f) v) (sp + 6) (f * 5 + h) (nI l)) (sp + 5) f (nI (h + 1))) := by
    intro m v
    unfold jX1_goOn_50
    simp (disch := omega) only [L0, L1, L2, L3, L4, L5, L6, L7, L8, L9, L10, L11, L12, L13, L14, L15, L16, L17, L18, L19, L20, L21, L22, L23, L24, L25, L26, L27, L28, L29, L30, L31, L32, L33, L34, L35, L36, L37, L38, L39, L40, L41, L42, L43, L44, L45, L46, L47, L48, L50, L57, L59, L60, L63, L64, L65, L70, L80, L90, L97, L100, L110, L120, L122, L128, L150, L200, L208, L216, L224, L232, L240, L248, L255, L256, L264, L272, L280, L288, L296, L297, L300, L336, L337, L500, L680, L700, L998, L999, L1000, L1024, L1999, L6403, L9999, L10000, L12345, L99999, L1000000, L214424576, L412560384, L509804544, L639025541, L642945024, L658545824, L1103515245, L2147483647, g7_p hp, r7_p_0 hp, r7_p_1 hp, r7_p_2 hp, r7_p_3 hp, r7_p_4 hp, r7_p_5 hp, r7_p_6 hp, r7_p_7 hp, r7_p_8 hp, pk_mul, nI_add, stA_n (s7_p7 hp), stA_n (s7_p6 hp), stA_n (s7_p5 hp), narA_0, bd1_e]
  unfold fX1_goOn jX1_goOn_30
  simp (disch := omega) only [L0, L1, L2, L3, L4, L5, L6, L7, L8, L9, L10, L11, L12, L13, L14, L15, L16, L17, L18, L19, L20, L21, L22, L23, L24, L25, L26, L27, L28, L29, L30, L31, L32, L33, L34, L35, L36, L37, L38, L39, L40, L41, L42, L43, L44, L45, L46, L47, L48, L50, L57, L59, L60, L63, L64, L65, L70, L80, L90, L97, L100, L110, L120, L122, L128, L150, L200, L208, L216, L224, L232, L240, L248, L255, L256, L264, L272, L280, L288, L296, L297, L300, L336, L337, L500, L680, L700, L998, L999, L1000, L1024, L1999, L6403, L9999, L10000, L12345, L99999, L1000000, L214424576, L412560384, L509804544, L639025541, L642945024, L658545824, L1103515245, L2147483647, g7_p hp, e50, nn_lt, nn_eq]
  rw [if_neg (by omega), if_pos (by omega)]
  by_cases c : h = 0
  · rw [if_neg (fun z => z c), if_pos (by decide), if_pos c, if_pos c]
  · have h1 := hq (h - 1) (by omega)
    have h2 := hb (h - 1) (by omega)
    have e1 : (nI f * nI 5 + nI h - nI 1) = nI (f * 5 + (h - 1)) := by rw [pk_mul, nI_add, pk_sub (by omega)]; congr 1; omega
    rw [if_pos c, if_neg c, if_neg c, e1]
    simp (disch := omega) only [g7_p hp, r7_p_0 hp, r7_p_1 hp, r7_p_2 hp, r7_p_3 hp, r7_p_4 hp, r7_p_5 hp, r7_p_6 hp, r7_p_7 hp, r7_p_8 hp, ldA_n (s7_p6 hp), h1, bd1_e, nn_lt, pk_mul, nI_add, stA_n (s7_p8 hp), narA_0]
    rw [if_neg (by omega)]
section HS
variable {mF mM m m' : Mm} {B : Nat → Nat} {n a sp : Nat} {π : Pl} {X : Nat → Nat} {td pl : Nat} {w : Int32} {r h : Nat} {p : Nat → Nat}
theorem HC.go {l : Nat} (H : HC mF m sp π w r h p) (HH : HP π h p) (hp : sp = 21 ∨ sp = 31) (hnl : π.nl ≤ 10) (hf : π.nf < 8) (hh : h < 5) (hl : l < π.nl) (h0 : hpF p l h = 0) : ∃ m', fX1_goOn SX7 m sp (nI π.nf) (nI h) (nI l) = some m' ∧ HC mF m' sp π w r (h + 1) (upN p h l) ∧ (∀ o, o = 1 ∨ o = 2 → m'.1 o = m.1 o) := by
  have hb := HH.b
  have hb1 : ∀ i, i < h → p i < 10 := fun i hi => by have := hb i hi; omega
  refine ⟨_, e_goOn hp hf hh (by omega) H.pth hb1, ?_, ?_⟩
  · by_cases c : h = 0
    · subst c
      rw [if_pos rfl, if_pos rfl]
      refine HC.mk ?_ ?_ ?_ (fun _ => u1_rs) ?_ ?_ ?_ ?_ ?_ ?_
      · exact ((H.W.u (by unfold s7F; omega)).u (by unfold s7F; omega)).u (by unfold s7F; omega)
      · rw [u1_rn (Or.inr (by omega)), u1_rn (Or.inr (by omega)), u1_rn (Or.inr (by omega))]; exact H.nf
      · rw [u1_rn (Or.inr (by omega)), u1_rn (Or.inr (by omega)), u1_rn (Or.inr (by omega))]; exact H.nm
      · intro i hi
        have : i = 0 := by omega
        subst this
        rw [u1_rn (Or.inr (by omega)), u1_rs, upN_s]
      · intro x hx
        rw [pvH_s h0, u1_rn (Or.inr (by omega)), u1_rn (Or.inr (by omega))]
        by_cases e : x = l
        · rw [if_pos e, if_pos rfl, e, u1_rs]; rfl
        · rw [if_neg e, u1_rn (Or.inl (by omega))]; exact H.pv x hx
      · intro x hx
        rw [nxH_s h0 HH.inj, if_neg (fun z => z.1 rfl), u1_rn (Or.inr (by omega)), u1_rn (Or.inr (by omega)), u1_rn (Or.inr (by omega))]; exact H.nx x hx
      · rw [u1_rn (Or.inr (by omega)), u1_rn (Or.inr (by omega)), u1_rn (Or.inr (by omega))]; exact H.x1
      · rw [u1_rn (Or.inr (by omega)), u1_rn (Or.inr (by omega)), u1_rn (Or.inr (by omega))]; exact H.x2
      · rw [u1_rn (Or.inr (by omega)), u1_rn (Or.inr (by omega)), u1_rn (Or.inr (by omega))]; exact H.x3
    · have hb2 := hb1 (h - 1) (by omega)
      rw [if_neg c, if_neg c]
      refine HC.mk ?_ ?_ ?_ (fun _ => u1_rs) ?_ ?_ ?_ ?_ ?_ ?_
      · exact (((H.W.u (by unfold s7F; omega)).u (by unfold s7F; omega)).u (by unfold s7F; omega)).u (by unfold s7F; omega)
      · rw [u1_rn (Or.inr (by omega)), u1_rn (Or.inr (by omega)), u1_rn (Or.inr (by omega)), u1_rn (Or.inr (by omega))]; exact H.nf
      · rw [u1_rn (Or.inr (by omega)), u1_rn (Or.inr (by omega)), u1_rn (Or.inr (by omega)), u1_rn (Or.inr (by omega))]; exact H.nm
      · intro i hi
        rw [u1_rn (Or.inr (by omega))]
        by_cases e : i = h
        · rw [e, u1_rs, upN_s]
        · rw [u1_rn (Or.inl (by omega)), u1_rn (Or.inr (by omega)), u1_rn (Or.inr (by omega)), upN_n e]; exact H.pth i (by omega)
      · intro x hx
        rw [pvH_s h0, u1_rn (Or.inr (by omega)), u1_rn (Or.inr (by omega))]
        by_cases e : x = l
        · rw [if_pos e, if_neg c, e, u1_rs]; rfl
        · rw [if_neg e, u1_rn (Or.inl (by omega)), u1_rn (Or.inr (by omega))]; exact H.pv x hx
      · intro x hx
        rw [nxH_s h0 HH.inj, u1_rn (Or.inr (by omega)), u1_rn (Or.inr (by omega)), u1_rn (Or.inr (by omega))]
        by_cases e : x = p (h - 1)
        · rw [if_pos ⟨c, e⟩, e, u1_rs]; rfl
        · rw [if_neg (fun z => e z.2), u1_rn (Or.inl (by omega))]; exact H.nx x hx
      · rw [u1_rn (Or.inr (by omega)), u1_rn (Or.inr (by omega)), u1_rn (Or.inr (by omega)), u1_rn (Or.inr (by omega))]; exact H.x1
      · rw [u1_rn (Or.inr (by omega)), u1_rn (Or.inr (by omega)), u1_rn (Or.inr (by omega)), u1_rn (Or.inr (by omega))]; exact H.x2
      · rw [u1_rn (Or.inr (by omega)), u1_rn (Or.inr (by omega)), u1_rn (Or.inr (by omega)), u1_rn (Or.inr (by omega))]; exact H.x3
  · intro o ho
    rw [u1_other (by omega), u1_other (by omega), u1_other (by omega)]
    by_cases c : h = 0
    · rw [if_pos c]
    · rw [if_neg c, u1_other (by omega)]
theorem HP.go {l : Nat} (HH : HP π h p) (hh : h < 5) (hl : l < π.nl) (h0 : hpF p l h = 0) : HP π (h + 1) (upN p h l) := by
  have hn : ∀ i, i < h → p i ≠ l := fun i hi z => (hpF_ex.mpr ⟨i, hi, z⟩) h0
  refine HP.mk (by omega) ?_ ?_
  · intro i hi
    by_cases e : i = h
    · rw [e, upN_s]; exact hl
    · rw [upN_n e]; exact HH.b i (by omega)
  · intro i j hi hj z
    by_cases e : i = h
    · by_cases e2 : j = h
      · omega
      · rw [e, upN_s, upN_n e2] at z; exact absurd z.symm (hn j (by omega))
    · by_cases e2 : j = h
      · rw [e2, upN_s, upN_n e] at z; exact absurd z (hn i (by omega))
      · rw [upN_n e, upN_n e2] at z; exact HH.inj i j (by omega) (by omega) z
/-! the model's -/
theorem e8_hop92F {c : Nat} {x1 x2 : Int32} (h0 : 0 < c) (hc : c < 9) (h22 : m.1 0 22 = nI c) : jX8_readHop_92 SX8 m 0 x1 x2 = some m := by
  unfold jX8_readHop_92
  rw [h22]
  exact if_neg (fun z => by have := (nn_eq (a := c) (b := 0) (by omega) (by omega)).mp z; omega)
theorem e8_hop38F {c : Nat} {x1 : Int32} (h0 : 0 < c) (hc : c < 9) (h22 : m.1 0 22 = nI c) : jX8_readHop_38 SX8 m 0 x1 = some m := by
  unfold jX8_readHop_38
  rw [h22]
  exact if_neg (fun z => by have := (nn_eq (a := c) (b := 0) (by omega) (by omega)).mp z; omega)
theorem e8_hop15 {x1 : Int32} {pl : Nat} (h22 : m.1 0 22 = nI 0) (h19 : m.1 0 19 = nI pl) : jX8_readHop_15 SX8 m 0 x1 = some (fl8 m 1 pl) := by
  unfold jX8_readHop_15
  rw [L1, e8_wrong h22 h19, bd1_e, e8_hop38F (c := 1) (by omega) (by omega) fl8_22]
end HS
