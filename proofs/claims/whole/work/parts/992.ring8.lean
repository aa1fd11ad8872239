/-! ===== the first cycle: told by both ===== -/
theorem e_nearest {m : Mm} {n a : Nat} {G v : Nat → Nat} (hn : n ≤ 10) (ha : a < n) (hG : ∀ l, l < n → G l < 1024) (h9 : ∀ l, l < n → m.1 9 l = nI (G l)) (h11 : ∀ l, l < n → m.1 11 l = nxI (v l)) (hv : ∀ l, l < n → v l < 100) : fX6_nearestNext SX7 m 8 (nI a) (nI n) = some (nxI (nb (Ed G) v a n)) := by
  unfold fX6_nearestNext
  simp only [L0, L1, L2, L3, L4, L5, L6, L7, L8, L9, L10, L11, L12, L13, L14, L15, L16, L17, L18, L19, L20, L21, L22, L23, L24, L25, L26, L27, L28, L29, L30, L31, L32, L33, L34, L35, L36, L37, L38, L39, L40, L41, L42, L43, L44, L45, L46, L47, L48, L50, L57, L59, L60, L63, L64, L65, L70, L80, L90, L97, L100, L110, L120, L122, L128, L150, L200, L208, L216, L224, L232, L240, L248, L255, L256, L264, L272, L280, L288, L296, L297, L300, L336, L337, L500, L680, L700, L998, L999, L1000, L1024, L1999, L6403, L9999, L10000, L12345, L99999, L1000000, L214424576, L412560384, L509804544, L639025541, L642945024, L658545824, L1103515245, L2147483647, g7_8]
  have hle : ∀ k, nb (Ed G) v a k ≤ k := by
    intro k
    induction k with
    | zero => exact Nat.le_refl _
    | succ k ih => rw [nb_s]; split <;> omega
  have h7 := lp_f (b := fun s5 : Int32 × Int32 => bX6_nearestNext_5 SX7 m 8 (nI a) (nI n) s5.1 s5.2) (N := fu) (r := nxI (nb (Ed G) v a n)) (fun k => (nxI (nb (Ed G) v a k), nI k)) n (by unfold fu; omega)
    (by
      intro k hk
      have hga := hG a ha
      have hbn := bN_le (G a) k
      have hvk := hv k hk
      have hlk := hle k
      dsimp only
      unfold bX6_nearestNext_5 jX6_nearestNext_58 jX6_nearestNext_61
      simp (disch := omega) only [L0, L1, L2, L3, L4, L5, L6, L7, L8, L9, L10, L11, L12, L13, L14, L15, L16, L17, L18, L19, L20, L21, L22, L23, L24, L25, L26, L27, L28, L29, L30, L31, L32, L33, L34, L35, L36, L37, L38, L39, L40, L41, L42, L43, L44, L45, L46, L47, L48, L50, L57, L59, L60, L63, L64, L65, L70, L80, L90, L97, L100, L110, L120, L122, L128, L150, L200, L208, L216, L224, L232, L240, L248, L255, L256, L264, L272, L280, L288, L296, L297, L300, L336, L337, L500, L680, L700, L998, L999, L1000, L1024, L1999, L6403, L9999, L10000, L12345, L99999, L1000000, L214424576, L412560384, L509804544, L639025541, L642945024, L658545824, L1103515245, L2147483647, r7_8_0, r7_8_2, nn_le, ldA_n s7_9, h9 a ha, bd1_e, bT hga (show k < 10 by omega), nn_eq, ldA_n s7_11, h11 k hk, nI_add]
      rw [if_neg (by omega), nb_s]
      cases c : (G a).testBit k with
      | false =>
        rw [if_pos (by rw [bN_f c]; omega), if_neg (fun z => by have := z.1; rw [show Ed G a k = false from c] at this; cases this)]
      | true =>
        rw [if_neg (fun z => z (bN_t c))]
        by_cases c1 : v k = 0
        · rw [if_pos (by rw [c1]; rfl), if_neg (fun z => z.2.1 c1)]
        · rw [if_neg (by rw [nxI_p c1, nI_m1 (by omega)]; exact not_false)]
          by_cases c2 : nb (Ed G) v a k = 0
          · rw [if_pos (by rw [c2]; rfl), if_pos ⟨c, c1, Or.inl c2⟩]
            rfl
          · have h11' := h11 (nb (Ed G) v a k - 1) (by omega)
            have hv' := hv (nb (Ed G) v a k - 1) (by omega)
            have hne' := (nb_P (E := Ed G) (v := v) (a := a) (k := k)).2 c2
            rw [nxI_p c2, if_neg (by rw [nI_m1 (by omega)]; exact not_false)]
            simp (disch := omega) only [ldA_n s7_11, h11', bd1_e]
            rw [nxI_p c1, nxI_p hne'.2.2.1]
            by_cases c3 : v k < v (nb (Ed G) v a k - 1)
            · rw [if_neg (by rw [nn_le (by omega) (by omega)]; omega), if_pos ⟨c, c1, Or.inr c3⟩]
              rfl
            · rw [if_pos (by rw [nn_le (by omega) (by omega)]; omega), if_neg (fun z => by rcases z.2.2 with y | y; exact c2 y; exact c3 y), nxI_p c2])
    (by
      dsimp only
      unfold bX6_nearestNext_5
      simp (disch := omega) only [nn_le]
      rw [if_pos (by omega)])
  rw [show ((-nI 1, nI 0) : Int32 × Int32) = (nxI (nb (Ed G) v a 0), nI 0) from rfl, h7, bd1_e]
/-- the first link of the first cycle, and how long that is -/
def cyF (G : Nat → Nat) (n : Nat) : Nat := ff (fun l => (cyS G n).testBit l) 10 - 1
def cyL (G : Nat → Nat) (n : Nat) : Nat := if cyS G n = 0 then 0 else ds (Ed G) n (cyF G n) n (cyF G n)
def cyR (G : Nat → Nat) (n i : Nat) : Nat := rg (Ed G) n (cyF G n) i
theorem cyF_P {G : Nat → Nat} {n : Nat} (hn : n ≤ 10) (h : cyS G n ≠ 0) : cyF G n < n ∧ ds (Ed G) n (cyF G n) n (cyF G n) ≠ 0 := by
  have hlt := cyS_lt (G := G) hn
  obtain ⟨i, hi⟩ := Nat.exists_testBit_of_ne_zero h
  obtain ⟨f, hf, hc, hg⟩ := wB_t.mp hi
  have hne := ff_ex (c := fun l => (cyS G n).testBit l) (n := 10) (k := f) (by omega) (by rw [hg]; exact hi)
  obtain ⟨q1, q2, q3⟩ := ff_P.1 hne
  obtain ⟨g, hg1, hg2, hg3⟩ := wB_t.mp q1
  have e : cyF G n = g := hg3.symm
  rw [e]
  exact ⟨hg1, (ds_rj hg1).mpr hg2⟩
theorem e_findFirst {m : Mm} {x p : Nat} {π : Pl} {X : Nat → Nat} (C : CF m x X) (P : PF m p π) (O : π.ok) (hJ : J π X) (hx : x = 19 ∨ x = 20) (hp : p = 21 ∨ p = 31) : ∃ m', fX6_findFirst SX7 m 8 p x = some m' ∧ m'.1 8 4 = nI (cyL (wP π X) π.nl) ∧ (∀ i, i < cyL (wP π X) π.nl → m'.1 12 i = nI (cyR (wP π X) π.nl i)) ∧ Fr (fun o => 8 ≤ o ∧ o ≤ 12) m m' := by
  have hnl := O.nl
  have F0 : Fr (fun o => 8 ≤ o ∧ o ≤ 12) m (u1 m 8 4 (nI 0)) := Fr.u1 (by omega)
  have C0 : CF (u1 m 8 4 (nI 0)) x X := C.fr F0 (fun o ho => by omega)
  have P0 : PF (u1 m 8 4 (nI 0)) p π := P.fr F0 (fun o ho => by omega)
  obtain ⟨m1, a1, a2, a3⟩ := e_inPause C0 P0 O hJ hx hp
  have hlt := cyS_lt (G := wP π X) hnl
  have F1 : Fr (fun o => 8 ≤ o ∧ o ≤ 12) m m1 := F0.trans (a3.mono (fun o ho => by omega))
  have P1 : PF m1 p π := P.fr F1 (fun o ho => by omega)
  unfold fX6_findFirst jX6_findFirst_98
  simp (disch := omega) only [L0, L1, L2, L3, L4, L5, L6, L7, L8, L9, L10, L11, L12, L13, L14, L15, L16, L17, L18, L19, L20, L21, L22, L23, L24, L25, L26, L27, L28, L29, L30, L31, L32, L33, L34, L35, L36, L37, L38, L39, L40, L41, L42, L43, L44, L45, L46, L47, L48, L50, L57, L59, L60, L63, L64, L65, L70, L80, L90, L97, L100, L110, L120, L122, L128, L150, L200, L208, L216, L224, L232, L240, L248, L255, L256, L264, L272, L280, L288, L296, L297, L300, L336, L337, L500, L680, L700, L998, L999, L1000, L1024, L1999, L6403, L9999, L10000, L12345, L99999, L1000000, L214424576, L412560384, L509804544, L639025541, L642945024, L658545824, L1103515245, L2147483647, g7_8, g7_p hp, bd1_e, a1, bd2_e, nn_eq]
  unfold cyL
  by_cases c : cyS (wP π X) π.nl = 0
  · rw [if_neg (fun z => z c), if_pos c]
    refine ⟨_, rfl, ?_, fun i hi => by omega, F1⟩
    rw [a3.2 8 (by omega), u1_rs]
  · rw [if_pos c, if_neg c]
    obtain ⟨f1, f2⟩ := cyF_P hnl c
    have hG : ∀ l, l < π.nl → wP π X l < 1024 := fun l _ => wP_lt O
    have hGn : ∀ l k, l < π.nl → (wP π X l).testBit k = true → k < π.nl := by
      intro l k hl hk
      obtain ⟨f, hf, hc, hg⟩ := wB_t.mp hk
      have := Pl.nx_lt O (l := l) hf
      have h3 := of_decide_eq_true hc
      omega
    rw [e_leastOf hlt c, bd1_e, P1.nl, show ff (fun l => (cyS (wP π X) π.nl).testBit l) 10 - 1 = cyF (wP π X) π.nl from rfl]
    obtain ⟨m2, b1, b2, b3⟩ := e_measure (t := cyF (wP π X) π.nl) hnl f1 hG hGn a2
    rw [b1, bd1_e]
    have F2 : Fr (fun o => 8 ≤ o ∧ o ≤ 12) m m2 := F1.trans (b3.mono (fun o ho => by omega))
    have h9 : ∀ l, l < π.nl → m2.1 9 l = nI (wP π X l) := fun l hl => by rw [b3.2 9 (by omega)]; exact a2 l hl
    have hL : ds (Ed (wP π X)) π.nl (cyF (wP π X) π.nl) π.nl (cyF (wP π X) π.nl) ≤ π.nl := ds_le
    obtain ⟨r, c1, m3, c2, c3, c4, c5⟩ := lp_n (b := fun s9 : Int32 × Int32 × Mm => bX6_findFirst_40 SX7 8 p (nI (cyF (wP π X) π.nl)) s9.1 s9.2.1 s9.2.2) (N := fu) (s0 := (nI (cyF (wP π X) π.nl), nI 0, m2))
      (fun i s => i < ds (Ed (wP π X)) π.nl (cyF (wP π X) π.nl) π.nl (cyF (wP π X) π.nl) ∧ s.1 = nI (cyR (wP π X) π.nl i) ∧ s.2.1 = nI i ∧ (∀ j, j < i → s.2.2.1 12 j = nI (cyR (wP π X) π.nl j)) ∧ Fr (fun o => o = 8 ∨ o = 12) m2 s.2.2)
      (fun r => ∃ m3, r = .inl m3 ∧ m3.1 8 4 = nI (ds (Ed (wP π X)) π.nl (cyF (wP π X) π.nl) π.nl (cyF (wP π X) π.nl)) ∧ (∀ j, j < ds (Ed (wP π X)) π.nl (cyF (wP π X) π.nl) π.nl (cyF (wP π X) π.nl) → m3.1 12 j = nI (cyR (wP π X) π.nl j)) ∧ Fr (fun o => o = 8 ∨ o = 12) m2 m3)
      (ds (Ed (wP π X)) π.nl (cyF (wP π X) π.nl) π.nl (cyF (wP π X) π.nl)) ⟨by omega, rfl, rfl, fun j hj => by omega, Fr.rfl⟩ (by unfold fu; omega)
      (by
        rintro i ⟨w, i', m3⟩ hi ⟨_, e1, e2, A, F⟩
        dsimp only at e1 e2 A F ⊢
        subst e1 e2
        obtain ⟨r1, r2, r3, r4⟩ := rg_P (E := Ed (wP π X)) f1 hi
        have r1' : cyR (wP π X) π.nl i < π.nl := r1
        have P3 : PF m3 p π := P.fr (F2.trans (F.mono (fun o ho => by omega))) (fun o ho => by omega)
        have hM : Fr (fun o => o = 8 ∨ o = 12) m2 (u1 (u1 m3 12 i (nI (cyR (wP π X) π.nl i))) 8 4 (nI (i + 1))) := (F.st (Or.inr rfl)).st (Or.inl rfl)
        have hnn := e_nearest (m := u1 (u1 m3 12 i (nI (cyR (wP π X) π.nl i))) 8 4 (nI (i + 1))) (n := π.nl) (a := cyR (wP π X) π.nl i) (G := wP π X) (v := fs (Ed (wP π X)) π.nl (cyF (wP π X) π.nl) (π.nl - 1)) hnl r1' hG (fun l hl => by rw [hM.2 9 (by omega)]; exact h9 l hl) (fun l hl => by rw [hM.2 11 (by omega)]; exact b2 l hl) (fun l hl => by have := fs_le (E := Ed (wP π X)) (n := π.nl) (to := cyF (wP π X) π.nl) (m := π.nl - 1) (l := l); omega)
        rw [show nb (Ed (wP π X)) (fs (Ed (wP π X)) π.nl (cyF (wP π X) π.nl) (π.nl - 1)) (cyR (wP π X) π.nl i) π.nl = _ from nb_rg f1 hi] at hnn
        have P4 : PF (u1 (u1 m3 12 i (nI (cyR (wP π X) π.nl i))) 8 4 (nI (i + 1))) p π := P.fr (F2.trans (hM.mono (fun o ho => by omega))) (fun o ho => by omega)
        have A4 : ∀ j, j < i + 1 → (u1 (u1 m3 12 i (nI (cyR (wP π X) π.nl i))) 8 4 (nI (i + 1))).1 12 j = nI (cyR (wP π X) π.nl j) := fun j hj => by
          rw [u1_other (by omega)]
          by_cases e : j = i
          · subst e; rw [u1_rs]
          · rw [u1_rn (Or.inl e)]; exact A j (by omega)
        have hm1 : ¬ nI (cyR (wP π X) π.nl i) = -nI 1 := by rw [nI_m1 (by omega)]; exact not_false
        unfold bX6_findFirst_40
        simp (disch := omega) only [L0, L1, L2, L3, L4, L5, L6, L7, L8, L9, L10, L11, L12, L13, L14, L15, L16, L17, L18, L19, L20, L21, L22, L23, L24, L25, L26, L27, L28, L29, L30, L31, L32, L33, L34, L35, L36, L37, L38, L39, L40, L41, L42, L43, L44, L45, L46, L47, L48, L50, L57, L59, L60, L63, L64, L65, L70, L80, L90, L97, L100, L110, L120, L122, L128, L150, L200, L208, L216, L224, L232, L240, L248, L255, L256, L264, L272, L280, L288, L296, L297, L300, L336, L337, L500, L680, L700, L998, L999, L1000, L1024, L1999, L6403, L9999, L10000, L12345, L99999, L1000000, L214424576, L412560384, L509804544, L639025541, L642945024, L658545824, L1103515245, L2147483647, r7_8_3, P3.nl, nn_le, stA_n s7_12, narA_0, bd1_e, nI_add, P4.nl, hnn]
        rw [if_neg (by omega), if_neg hm1]
        by_cases z : i + 1 < ds (Ed (wP π X)) π.nl (cyF (wP π X) π.nl) π.nl (cyF (wP π X) π.nl)
        · obtain ⟨z1, z2, z3, z4⟩ := r3 z
          have z5 : rg (Ed (wP π X)) π.nl (cyF (wP π X) π.nl) (i + 1) ≠ cyF (wP π X) π.nl := by
            unfold rgC at z2
            rw [Bool.and_eq_true, Bool.and_eq_true] at z2
            exact of_decide_eq_true z2.2.1
          rw [if_pos z]
          rw [if_pos (show ¬ nxI (rg (Ed (wP π X)) π.nl (cyF (wP π X) π.nl) (i + 1) + 1) = nI (cyF (wP π X) π.nl) from fun q => z5 ((nn_eq (by omega) (by omega)).mp q))]
          exact Or.inl ⟨_, rfl, z, rfl, rfl, A4, hM⟩
        · rw [if_neg z, if_neg (fun q => q rfl)]
          have ei : i + 1 = ds (Ed (wP π X)) π.nl (cyF (wP π X) π.nl) π.nl (cyF (wP π X) π.nl) := by omega
          exact Or.inr ⟨_, rfl, _, rfl, by rw [← ei]; exact u1_rs, by rw [← ei]; exact A4, hM⟩)
      (by
        rintro s ⟨h, _⟩
        omega)
    rw [c1, c2]
    exact ⟨m3, rfl, c3, c4, F2.trans (c5.mono (fun o ho => by omega))⟩
theorem e8_laysCycle {m : Mm} {π : Pl} {X : Nat → Nat} (R : RM m X) (P : PM m π) (O : π.ok) (hJ : J π X) : ∃ m', fX8_laysCycle SX8 m 0 = some m' ∧ m'.1 0 42 = nI (cyL (wP π X) π.nl) ∧ (∀ i, i < cyL (wP π X) π.nl → m'.1 27 i = nI (cyR (wP π X) π.nl i)) ∧ (∀ o, o ≠ 0 → ¬ (25 ≤ o ∧ o ≤ 27) → m'.1 o = m.1 o) ∧ (∀ j, j ≠ 42 → m'.1 0 j = m.1 0 j) := by
  have hnl := O.nl
  obtain ⟨m1, a1, a2, a3⟩ := e8_laysWaits R P O hJ false
  have a1' : fX8_laysWaits SX8 m 0 (nI 0) = some m1 := a1
  have hG : ∀ l, l < π.nl → wP π X l < 1024 := fun l _ => wP_lt O
  have P2 : PM (u1 m1 0 42 (nI 0)) π := (P.fr a3 (fun o ho => by omega)).fr (P := fun o => o = 0) (Fr.u1 rfl) (fun o ho => by omega)
  have h25 : ∀ l, l < π.nl → (u1 m1 0 42 (nI 0)).1 25 l = nI (wP π X l) := fun l hl => by rw [u1_other (by omega), a2 l hl, wW_f]
  obtain ⟨m3, b1, b2⟩ := e8_inCyclesNow (G := wP π X) P2 O hG h25
  have hlt := cyS_lt (G := wP π X) hnl
  have P3 : PM m3 π := P2.fr b2 (fun o ho => by omega)
  have eo : ∀ o, o ≠ 0 → ¬ (25 ≤ o ∧ o ≤ 27) → m3.1 o = m.1 o := fun o h1 h2 => by rw [b2.2 o (by omega), u1_other h1, a3.2 o (by omega)]
  have e0 : ∀ j, j ≠ 42 → m3.1 0 j = m.1 0 j := fun j hj => by rw [b2.2 0 (by omega), u1_rn (Or.inl hj), a3.2 0 (by omega)]
  have h25' : ∀ l, l < π.nl → m3.1 25 l = nI (wP π X l) := fun l hl => by rw [b2.2 25 (by omega)]; exact h25 l hl
  unfold fX8_laysCycle
  simp (disch := omega) only [L0, L1, L2, L3, L4, L5, L6, L7, L8, L9, L10, L11, L12, L13, L14, L15, L16, L17, L18, L19, L20, L21, L22, L23, L24, L25, L26, L27, L28, L29, L30, L31, L32, L33, L34, L35, L36, L37, L38, L39, L40, L41, L42, L43, L44, L45, L46, L47, L48, L50, L57, L59, L60, L63, L64, L65, L70, L80, L90, L97, L100, L110, L120, L122, L128, L150, L200, L208, L216, L224, L232, L240, L248, L255, L256, L264, L272, L280, L288, L296, L297, L300, L336, L337, L500, L680, L700, L998, L999, L1000, L1024, L1999, L6403, L9999, L10000, L12345, L99999, L1000000, L214424576, L412560384, L509804544, L639025541, L642945024, L658545824, L1103515245, L2147483647, g8_0, r8_1, r8_3, r8_4, r8_5, r8_6, r8_7, r8_8, r8_9, r8_10, r8_11, r8_12, r8_13, r8_14, r8_15, r8_26, r8_27, r8_28, r8_29, r8_30, r8_33, r8_34, r8_35, r8_36, r8_37, r8_39, r8_40, r8_41, r8_43, r8_44, r8_45, a1', bd1_e, b1, bd2_e, nn_eq]
  unfold cyL
  by_cases c : cyS (wP π X) π.nl = 0
  · rw [if_neg (fun z => z c), if_pos c]
    exact ⟨_, rfl, by rw [b2.2 0 (by omega), u1_rs], fun i hi => by omega, eo, e0⟩
  · rw [if_pos c, if_neg c]
    obtain ⟨f1, f2⟩ := cyF_P hnl c
    -- the least of them
    have hfirst : lp (fun s5 : Int32 => bX8_laysCycle_22 SX8 m3 0 (nI (cyS (wP π X) π.nl)) s5) fu (nI 0) = some (nI (cyF (wP π X) π.nl)) := by
      have hex : ∃ i, i < 10 ∧ (cyS (wP π X) π.nl).testBit i = true := by
        obtain ⟨i, hi⟩ := Nat.exists_testBit_of_ne_zero c
        obtain ⟨f, hf, hc, hg⟩ := wB_t.mp hi
        exact ⟨f, by omega, by rw [show f = i from hg]; exact hi⟩
      obtain ⟨r, h1, h2⟩ := lp_n (b := fun s5 : Int32 => bX8_laysCycle_22 SX8 m3 0 (nI (cyS (wP π X) π.nl)) s5) (N := fu) (s0 := nI 0)
        (fun k s => s = nI k ∧ ∀ j, j < k → (cyS (wP π X) π.nl).testBit j = false)
        (fun r => r = nI (cyF (wP π X) π.nl))
        10 ⟨rfl, fun j hj => by omega⟩ (by unfold fu; omega)
        (by
          rintro k s hk ⟨rfl, hno⟩
          have hbn := bN_le (cyS (wP π X) π.nl) k
          unfold bX8_laysCycle_22
          simp (disch := omega) only [L0, L1, L2, L3, L4, L5, L6, L7, L8, L9, L10, L11, L12, L13, L14, L15, L16, L17, L18, L19, L20, L21, L22, L23, L24, L25, L26, L27, L28, L29, L30, L31, L32, L33, L34, L35, L36, L37, L38, L39, L40, L41, L42, L43, L44, L45, L46, L47, L48, L50, L57, L59, L60, L63, L64, L65, L70, L80, L90, L97, L100, L110, L120, L122, L128, L150, L200, L208, L216, L224, L232, L240, L248, L255, L256, L264, L272, L280, L288, L296, L297, L300, L336, L337, L500, L680, L700, L998, L999, L1000, L1024, L1999, L6403, L9999, L10000, L12345, L99999, L1000000, L214424576, L412560384, L509804544, L639025541, L642945024, L658545824, L1103515245, L2147483647, bT hlt hk, nn_eq, nI_add]
          cases q : (cyS (wP π X) π.nl).testBit k with
          | true =>
            rw [if_pos (by rw [bN_t q]; omega)]
            exact Or.inr ⟨_, rfl, by unfold cyF; rw [ff_1 (E := fun l => (cyS (wP π X) π.nl).testBit l) hno q hk]; rfl⟩
          | false =>
            rw [if_neg (by rw [bN_f q]; omega)]
            exact Or.inl ⟨_, rfl, rfl, fun j hj => by
              by_cases e : j = k
              · subst e; exact q
              · exact hno j (by omega)⟩)
        (by
          rintro s ⟨rfl, hno⟩
          obtain ⟨i, hi, hi2⟩ := hex
          rw [hno i hi] at hi2
          cases hi2)
      rw [h1, h2]
    rw [hfirst, bd1_e]
    obtain ⟨m4, c1, c2, c3⟩ := e8_laysSteps (G := wP π X) (to := cyF (wP π X) π.nl) P3 O hG h25' f1
    have hL : ds (Ed (wP π X)) π.nl (cyF (wP π X) π.nl) π.nl (cyF (wP π X) π.nl) ≤ π.nl := ds_le
    have hs : sI (ds (Ed (wP π X)) π.nl (cyF (wP π X) π.nl) π.nl (cyF (wP π X) π.nl)) = nI (ds (Ed (wP π X)) π.nl (cyF (wP π X) π.nl) π.nl (cyF (wP π X) π.nl)) := by unfold sI; rw [if_neg f2]
    simp (disch := omega) only [c1, bd1_e, ldA_n s8_26, c2 _ f1, hs]
    generalize hLe : ds (Ed (wP π X)) π.nl (cyF (wP π X) π.nl) π.nl (cyF (wP π X) π.nl) = L at *
    obtain ⟨y, d1, d2, d3⟩ := lp_n (b := fun s15 : Int32 × Int32 × Mm => bX8_laysCycle_56 SX8 0 (nI (cyF (wP π X) π.nl)) s15.1 s15.2.1 s15.2.2) (N := fu) (s0 := (nI (cyF (wP π X) π.nl), nI 0, u1 m4 0 42 (nI L)))
      (fun i s => (i < L → s.1 = nI (cyR (wP π X) π.nl i)) ∧ s.2.1 = nI i ∧ (∀ j, j < i → s.2.2.1 27 j = nI (cyR (wP π X) π.nl j)) ∧ Fr (fun o => o = 27) (u1 m4 0 42 (nI L)) s.2.2)
      (fun y => (∀ j, j < L → y.1 27 j = nI (cyR (wP π X) π.nl j)) ∧ Fr (fun o => o = 27) (u1 m4 0 42 (nI L)) y)
      L ⟨fun _ => rfl, rfl, fun j hj => by omega, Fr.rfl⟩ (by unfold fu; omega)
      (by
        rintro i ⟨w, i', m5⟩ hi ⟨e1, e2, A, F⟩
        dsimp only at e1 e2 A F ⊢
        have e1 := e1 hi
        subst e1 e2
        obtain ⟨r1, r2, r3, r4⟩ := rg_P (E := Ed (wP π X)) (t := cyF (wP π X) π.nl) f1 (i := i) (by rw [hLe]; exact hi)
        rw [hLe] at r2 r3 r4
        have r1' : cyR (wP π X) π.nl i < π.nl := r1
        have h42 : m5.1 0 42 = nI L := by rw [F.2 0 (by omega), u1_rs]
        have h42' : (u1 m5 27 i (nI (cyR (wP π X) π.nl i))).1 0 42 = nI L := by rw [u1_other (by omega)]; exact h42
        refine Or.inl ?_
        unfold bX8_laysCycle_56 jX8_laysCycle_132
        simp (disch := omega) only [L0, L1, L2, L3, L4, L5, L6, L7, L8, L9, L10, L11, L12, L13, L14, L15, L16, L17, L18, L19, L20, L21, L22, L23, L24, L25, L26, L27, L28, L29, L30, L31, L32, L33, L34, L35, L36, L37, L38, L39, L40, L41, L42, L43, L44, L45, L46, L47, L48, L50, L57, L59, L60, L63, L64, L65, L70, L80, L90, L97, L100, L110, L120, L122, L128, L150, L200, L208, L216, L224, L232, L240, L248, L255, L256, L264, L272, L280, L288, L296, L297, L300, L336, L337, L500, L680, L700, L998, L999, L1000, L1024, L1999, L6403, L9999, L10000, L12345, L99999, L1000000, L214424576, L412560384, L509804544, L639025541, L642945024, L658545824, L1103515245, L2147483647, g8_0, r8_1, r8_3, r8_4, r8_5, r8_6, r8_7, r8_8, r8_9, r8_10, r8_11, r8_12, r8_13, r8_14, r8_15, r8_26, r8_27, r8_28, r8_29, r8_30, r8_33, r8_34, r8_35, r8_36, r8_37, r8_39, r8_40, r8_41, r8_43, r8_44, r8_45, h42, nn_le, stA_n s8_27, narA_0, bd1_e]
        rw [if_neg (by omega)]
        have inner : ∃ w, lp (fun s13 : Int32 => bX8_laysCycle_76 SX8 (u1 m5 27 i (nI (cyR (wP π X) π.nl i))) 0 (nI (cyF (wP π X) π.nl)) (nI (cyR (wP π X) π.nl i)) (nI i) s13) fu (nI 0) = some w ∧ (i + 1 < L → w = nI (cyR (wP π X) π.nl (i + 1))) := by
          by_cases z : i + 1 < L
          · obtain ⟨z1, z2, z3, z4⟩ := r3 z
            have h25'' : (u1 m5 27 i (nI (cyR (wP π X) π.nl i))).1 25 (cyR (wP π X) π.nl i) = nI (wP π X (cyR (wP π X) π.nl i)) := by rw [u1_other (by omega), F.2 25 (by omega), u1_other (by omega), c3.2 25 (by omega)]; exact h25' _ r1'
            have h26'' : ∀ l, l < π.nl → (u1 m5 27 i (nI (cyR (wP π X) π.nl i))).1 26 l = sI (ds (Ed (wP π X)) π.nl (cyF (wP π X) π.nl) π.nl l) := fun l hl => by rw [u1_other (by omega), F.2 26 (by omega), u1_other (by omega)]; exact c2 l hl
            have hg := hG _ r1'
            obtain ⟨w, q1, q2⟩ := lp_n (b := fun s13 : Int32 => bX8_laysCycle_76 SX8 (u1 m5 27 i (nI (cyR (wP π X) π.nl i))) 0 (nI (cyF (wP π X) π.nl)) (nI (cyR (wP π X) π.nl i)) (nI i) s13) (N := fu) (s0 := nI 0)
              (fun k s => s = nI k)
              (fun r => r = nI (cyR (wP π X) π.nl (i + 1)))
              (cyR (wP π X) π.nl (i + 1)) rfl (by have : cyR (wP π X) π.nl (i + 1) < π.nl := z1; unfold fu; omega)
              (by
                rintro k s hk rfl
                have hk' : k < π.nl := Nat.lt_trans hk z1
                have hdl := ds_le (E := Ed (wP π X)) (n := π.nl) (to := cyF (wP π X) π.nl) (m := π.nl) (l := k)
                have hbn := bN_le (wP π X (cyR (wP π X) π.nl i)) k
                have hf := z3 k hk
                refine Or.inl ⟨_, ?_, rfl⟩
                unfold bX8_laysCycle_76 jX8_laysCycle_126
                simp (disch := omega) only [L0, L1, L2, L3, L4, L5, L6, L7, L8, L9, L10, L11, L12, L13, L14, L15, L16, L17, L18, L19, L20, L21, L22, L23, L24, L25, L26, L27, L28, L29, L30, L31, L32, L33, L34, L35, L36, L37, L38, L39, L40, L41, L42, L43, L44, L45, L46, L47, L48, L50, L57, L59, L60, L63, L64, L65, L70, L80, L90, L97, L100, L110, L120, L122, L128, L150, L200, L208, L216, L224, L232, L240, L248, L255, L256, L264, L272, L280, L288, L296, L297, L300, L336, L337, L500, L680, L700, L998, L999, L1000, L1024, L1999, L6403, L9999, L10000, L12345, L99999, L1000000, L214424576, L412560384, L509804544, L639025541, L642945024, L658545824, L1103515245, L2147483647, g8_0, r8_1, r8_3, r8_4, r8_5, r8_6, r8_7, r8_8, r8_9, r8_10, r8_11, r8_12, r8_13, r8_14, r8_15, r8_26, r8_27, r8_28, r8_29, r8_30, r8_33, r8_34, r8_35, r8_36, r8_37, r8_39, r8_40, r8_41, r8_43, r8_44, r8_45, h42', nI_add, nn_le, ldA_n s8_25, h25'', bd1_e, bT hg (show k < 10 by omega), nn_eq, ldA_n s8_26, h26'' k hk', pk_sub]
                rw [if_neg (by omega)]
                cases q : (wP π X (cyR (wP π X) π.nl i)).testBit k with
                | false => rw [if_pos (bN_f q)]
                | true =>
                  rw [if_neg (by rw [bN_t q]; omega)]
                  by_cases q2 : k = cyF (wP π X) π.nl
                  · rw [if_pos q2]
                  · rw [if_neg q2, if_neg]
                    intro q3
                    have q4 := (sI_eq (by omega) (by omega) (by omega)).mp q3
                    unfold rgC at hf
                    rw [show Ed (wP π X) (rg (Ed (wP π X)) π.nl (cyF (wP π X) π.nl) i) k = true from q, decide_eq_true q2, decide_eq_true q4] at hf
                    cases hf)
              (by
                rintro s rfl
                have hk' : cyR (wP π X) π.nl (i + 1) < π.nl := z1
                have z2' : rgC (Ed (wP π X)) π.nl (cyF (wP π X) π.nl) (cyR (wP π X) π.nl i) (L - i - 1) (cyR (wP π X) π.nl (i + 1)) = true := z2
                unfold rgC at z2'
                rw [Bool.and_eq_true, Bool.and_eq_true] at z2'
                have q1 : (wP π X (cyR (wP π X) π.nl i)).testBit (cyR (wP π X) π.nl (i + 1)) = true := z2'.1
                have q2 := of_decide_eq_true z2'.2.1
                have q3 := of_decide_eq_true z2'.2.2
                have hbn := bN_le (wP π X (cyR (wP π X) π.nl i)) (cyR (wP π X) π.nl (i + 1))
                unfold bX8_laysCycle_76
                simp (disch := omega) only [L0, L1, L2, L3, L4, L5, L6, L7, L8, L9, L10, L11, L12, L13, L14, L15, L16, L17, L18, L19, L20, L21, L22, L23, L24, L25, L26, L27, L28, L29, L30, L31, L32, L33, L34, L35, L36, L37, L38, L39, L40, L41, L42, L43, L44, L45, L46, L47, L48, L50, L57, L59, L60, L63, L64, L65, L70, L80, L90, L97, L100, L110, L120, L122, L128, L150, L200, L208, L216, L224, L232, L240, L248, L255, L256, L264, L272, L280, L288, L296, L297, L300, L336, L337, L500, L680, L700, L998, L999, L1000, L1024, L1999, L6403, L9999, L10000, L12345, L99999, L1000000, L214424576, L412560384, L509804544, L639025541, L642945024, L658545824, L1103515245, L2147483647, g8_0, r8_1, r8_3, r8_4, r8_5, r8_6, r8_7, r8_8, r8_9, r8_10, r8_11, r8_12, r8_13, r8_14, r8_15, r8_26, r8_27, r8_28, r8_29, r8_30, r8_33, r8_34, r8_35, r8_36, r8_37, r8_39, r8_40, r8_41, r8_43, r8_44, r8_45, h42', nI_add, nn_le, ldA_n s8_25, h25'', bd1_e, bT hg (show cyR (wP π X) π.nl (i + 1) < 10 by omega), nn_eq, ldA_n s8_26, h26'' _ hk', pk_sub]
                rw [if_neg (by omega), if_neg (by rw [bN_t q1]; omega), if_neg q2, if_pos ((sI_eq (by omega) (by omega) (by omega)).mpr q3)]
                exact ⟨_, rfl, rfl⟩)
            exact ⟨w, q1, fun _ => q2⟩
          · refine ⟨nI 0, ?_, fun y => absurd y z⟩
            refine lp_f (b := fun s13 : Int32 => bX8_laysCycle_76 SX8 (u1 m5 27 i (nI (cyR (wP π X) π.nl i))) 0 (nI (cyF (wP π X) π.nl)) (nI (cyR (wP π X) π.nl i)) (nI i) s13) (fun _ => nI 0) 0 (by unfold fu; omega) (fun k hk => by omega) ?_
            unfold bX8_laysCycle_76
            simp (disch := omega) only [L0, L1, L2, L3, L4, L5, L6, L7, L8, L9, L10, L11, L12, L13, L14, L15, L16, L17, L18, L19, L20, L21, L22, L23, L24, L25, L26, L27, L28, L29, L30, L31, L32, L33, L34, L35, L36, L37, L38, L39, L40, L41, L42, L43, L44, L45, L46, L47, L48, L50, L57, L59, L60, L63, L64, L65, L70, L80, L90, L97, L100, L110, L120, L122, L128, L150, L200, L208, L216, L224, L232, L240, L248, L255, L256, L264, L272, L280, L288, L296, L297, L300, L336, L337, L500, L680, L700, L998, L999, L1000, L1024, L1999, L6403, L9999, L10000, L12345, L99999, L1000000, L214424576, L412560384, L509804544, L639025541, L642945024, L658545824, L1103515245, L2147483647, h42', nI_add, nn_le]
            rw [if_pos (by omega)]
        obtain ⟨w, q1, q2⟩ := inner
        rw [q1, bd1_e, nI_add]
        refine ⟨_, rfl, q2, rfl, fun j hj => ?_, F.st rfl⟩
        by_cases e : j = i
        · subst e; rw [u1_rs]
        · rw [u1_rn (Or.inl e)]; exact A j (by omega))
      (by
        rintro ⟨w, i', m5⟩ ⟨e1, e2, A, F⟩
        dsimp only at e1 e2 A F ⊢
        subst e2
        have h42 : m5.1 0 42 = nI L := by rw [F.2 0 (by omega), u1_rs]
        unfold bX8_laysCycle_56
        simp (disch := omega) only [L0, L1, L2, L3, L4, L5, L6, L7, L8, L9, L10, L11, L12, L13, L14, L15, L16, L17, L18, L19, L20, L21, L22, L23, L24, L25, L26, L27, L28, L29, L30, L31, L32, L33, L34, L35, L36, L37, L38, L39, L40, L41, L42, L43, L44, L45, L46, L47, L48, L50, L57, L59, L60, L63, L64, L65, L70, L80, L90, L97, L100, L110, L120, L122, L128, L150, L200, L208, L216, L224, L232, L240, L248, L255, L256, L264, L272, L280, L288, L296, L297, L300, L336, L337, L500, L680, L700, L998, L999, L1000, L1024, L1999, L6403, L9999, L10000, L12345, L99999, L1000000, L214424576, L412560384, L509804544, L639025541, L642945024, L658545824, L1103515245, L2147483647, h42, nn_le]
        rw [if_pos (by omega)]
        exact ⟨_, rfl, A, F⟩)
    rw [d1, bd1_e]
    refine ⟨_, rfl, ?_, d2, fun o h1 h2 => ?_, fun j hj => ?_⟩
    · rw [d3.2 0 (by omega), u1_rs]
    · rw [d3.2 o (by omega), u1_other h1, c3.2 o (by omega)]; exact eo o h1 h2
    · rw [d3.2 0 (by omega), u1_rn (Or.inl hj), c3.2 0 (by omega)]; exact e0 j hj
