/-! ===== the model's tick: arriving and asking ===== -/
theorem RM.st_bits {m m' : Mm} {X : Nat → Nat} {l v : Nat} (h : RM m X) (hl : l < 10) (e : ∀ i, i < 24 * l + 10 ∨ 24 * l + 15 ≤ i → m'.1 15 i = m.1 15 i) (hb : ∀ k, k < 5 → m'.1 15 (24 * l + 10 + k) = nI (v / 2 ^ k % 2)) : RM m' (upN X (40 + l) v) := by
  refine RM.mk ?_ ?_ ?_ ?_ ?_ ?_ ?_ ?_ ?_ ?_ ?_ ?_ ?_ ?_ ?_ ?_ ?_ ?_ ?_ ?_ ?_ ?_ ?_ ?_ ?_
  · intro a ha; rw [e _ (by omega), upN_n (by omega)]; exact h.xoff a ha
  · intro a ha; rw [e _ (by omega), upN_n (by omega)]; exact h.xon a ha
  · intro a ha; rw [e _ (by omega), upN_n (by omega)]; exact h.size a ha
  · intro a ha; rw [e _ (by omega), upN_n (by omega)]; exact h.lost a ha
  · intro a ha; rw [e _ (by omega), upN_n (by omega)]; exact h.peak a ha
  · intro a ha; rw [e _ (by omega), upN_n (by omega)]; exact h.samples a ha
  · intro a ha; rw [e _ (by omega), upN_n (by omega)]; exact h.noted a ha
  · intro a ha; rw [e _ (by omega), upN_n (by omega)]; exact h.carried a ha
  · intro a ha; rw [e _ (by omega), upN_n (by omega)]; exact h.count a ha
  · intro a ha; rw [e _ (by omega), upN_n (by omega)]; exact h.was a ha
  · intro a k ha hk; by_cases c : a = l
    · subst c; rw [upN_s]; exact hb k hk
    · rw [e _ (by omega), upN_n (by omega)]; exact h.bits a k ha hk
  · intro a b ha hb2; rw [e _ (by omega), upN_n (by omega)]; exact h.q a b ha hb2
  · intro a ha; rw [e _ (by omega), upN_n (by omega)]; exact h.rate a ha
  · intro a ha; rw [e _ (by omega), upN_n (by omega)]; exact h.target a ha
  · intro a ha; rw [e _ (by omega), upN_n (by omega)]; exact h.stc a ha
  · intro a ha; rw [e _ (by omega), upN_n (by omega)]; exact h.stt a ha
  · intro a ha; rw [e _ (by omega), upN_n (by omega)]; exact h.sent a ha
  · intro a ha; rw [e _ (by omega), upN_n (by omega)]; exact h.deliv a ha
  · intro a ha; rw [e _ (by omega), upN_n (by omega)]; exact h.notices a ha
  · intro a ha; rw [e _ (by omega), upN_n (by omega)]; exact h.on a ha
  · intro a ha; rw [e _ (by omega), upN_n (by omega)]; exact h.credit a ha
  · intro a ha; rw [e _ (by omega), upN_n (by omega)]; exact h.byc a ha
  · intro a ha; rw [e _ (by omega), upN_n (by omega)]; exact h.byt a ha
  · intro a ha; rw [e _ (by omega), upN_n (by omega)]; exact h.flost a ha
  · rw [e _ (by omega), upN_n (by omega)]; exact h.tick
theorem askB : ∀ x, x < 32 → ∀ b, b < 2 → (x * 2 + b) % 32 / 2 ^ 0 % 2 = b ∧ (∀ k, k < 4 → (x * 2 + b) % 32 / 2 ^ (k + 1) % 2 = x / 2 ^ k % 2) := by decide +kernel
def askW (l : Nat) (X : Nat → Nat) : Nat := if X (30 + l) < X (0 + l) then (if X (10 + l) < X (30 + l) then X (40 + l) % 2 else 0) else 1
theorem askW_lt (l : Nat) (X : Nat → Nat) : askW l X < 2 := by
  unfold askW
  split
  · split
    · exact Nat.mod_lt _ (by decide)
    · omega
  · omega
theorem e8_asks {m : Mm} {X : Nat → Nat} {l : Nat} (R : RM m X) (hF : fillOK X) (hl : l < 10) (h1 : X (30 + l) < 2147483648) (h2 : X (0 + l) < 2147483648) (h3 : X (10 + l) < 2147483648) (h4 : X (40 + l) < 32) : ∃ m', fX8_asks SX8 m 0 (nI l) = some m' ∧ RM m' (askA l X) ∧ Fr (fun o => o = 15) m m' := by
  have hb0 := R.bits l 0 hl (by omega)
  rw [Nat.pow_zero, Nat.div_one, Nat.add_zero] at hb0
  unfold fX8_asks
  simp (disch := omega) only [L0, L1, L2, L3, L4, L5, L6, L7, L8, L9, L10, L11, L12, L13, L14, L15, L16, L17, L18, L19, L20, L21, L22, L23, L24, L25, L26, L27, L28, L29, L30, L31, L32, L33, L34, L35, L36, L37, L38, L39, L40, L41, L42, L43, L44, L45, L46, L47, L48, L50, L57, L59, L60, L63, L64, L65, L70, L80, L90, L97, L100, L110, L120, L122, L128, L150, L200, L208, L216, L224, L232, L240, L248, L255, L256, L264, L272, L280, L288, L296, L297, L300, L336, L337, L500, L680, L700, L998, L999, L1000, L1024, L1999, L6403, L9999, L10000, L12345, L99999, L1000000, L214424576, L412560384, L509804544, L639025541, L642945024, L658545824, L1103515245, L2147483647, g8_0, r8_1, r8_3, r8_4, r8_5, r8_6, r8_7, r8_8, r8_9, r8_10, r8_11, r8_12, r8_13, r8_14, r8_15, r8_26, r8_27, r8_28, r8_29, r8_30, r8_33, r8_34, r8_35, r8_36, r8_37, r8_39, r8_40, r8_41, r8_43, r8_44, r8_45, nI_add, pk_mul, narA_0, bd1_e, bd2_e, bdR_l, bdR_r, e8_queueOf R hF hl, ldA_n s8_15, hb0]
  obtain ⟨y, g1, g2, g3, g4⟩ := lp_n (b := fun s5 : Int32 × Mm => bX8_asks_22 SX8 0 (nI l) (nI (X (30 + l))) (nI (X (40 + l) % 2)) s5.1 s5.2) (N := fu) (s0 := (nI 4, m))
    (fun k s => s.1 = nI (4 - k) ∧ Fr (fun o => o = 15) m s.2 ∧ (∀ i, i < 24 * l + 15 - k ∨ 24 * l + 15 ≤ i → s.2.1 15 i = m.1 15 i) ∧ (∀ j, j ≤ 4 → 4 - k < j → s.2.1 15 (24 * l + 10 + j) = nI (X (40 + l) / 2 ^ (j - 1) % 2)))
    (fun y => Fr (fun o => o = 15) m y ∧ (∀ i, i < 24 * l + 11 ∨ 24 * l + 15 ≤ i → y.1 15 i = m.1 15 i) ∧ (∀ j, j ≤ 4 → 0 < j → y.1 15 (24 * l + 10 + j) = nI (X (40 + l) / 2 ^ (j - 1) % 2)))
    4 ⟨rfl, Fr.rfl, fun i _ => rfl, fun j hj hj2 => by omega⟩ (by unfold fu; omega)
    (by
      rintro k ⟨c, m1⟩ hk ⟨e1, F1, A1, B1⟩
      dsimp only at e1 F1 A1 B1 ⊢
      subst e1
      have ei : 24 * l + 10 + (4 - k) - 1 = 24 * l + 10 + (3 - k) := by omega
      have hv : m1.1 15 (24 * l + 10 + (3 - k)) = nI (X (40 + l) / 2 ^ (3 - k) % 2) := by
        rw [A1 _ (by omega)]; exact R.bits l (3 - k) hl (by omega)
      unfold bX8_asks_22
      simp (disch := omega) only [L0, L1, L2, L3, L4, L5, L6, L7, L8, L9, L10, L11, L12, L13, L14, L15, L16, L17, L18, L19, L20, L21, L22, L23, L24, L25, L26, L27, L28, L29, L30, L31, L32, L33, L34, L35, L36, L37, L38, L39, L40, L41, L42, L43, L44, L45, L46, L47, L48, L50, L57, L59, L60, L63, L64, L65, L70, L80, L90, L97, L100, L110, L120, L122, L128, L150, L200, L208, L216, L224, L232, L240, L248, L255, L256, L264, L272, L280, L288, L296, L297, L300, L336, L337, L500, L680, L700, L998, L999, L1000, L1024, L1999, L6403, L9999, L10000, L12345, L99999, L1000000, L214424576, L412560384, L509804544, L639025541, L642945024, L658545824, L1103515245, L2147483647, g8_0, r8_1, r8_3, r8_4, r8_5, r8_6, r8_7, r8_8, r8_9, r8_10, r8_11, r8_12, r8_13, r8_14, r8_15, r8_26, r8_27, r8_28, r8_29, r8_30, r8_33, r8_34, r8_35, r8_36, r8_37, r8_39, r8_40, r8_41, r8_43, r8_44, r8_45, nI_add, pk_mul, narA_0, bd1_e, bd2_e, bdR_l, bdR_r, nn_le, pk_sub, ei, ldA_n s8_15, hv, stA_n s8_15, nI_dec]
      rw [if_neg (by omega)]
      refine Or.inl ⟨_, rfl, by dsimp only; congr 1, F1.st rfl, ?_, ?_⟩
      · intro i hi
        rw [u1_rn (Or.inl (by omega))]
        exact A1 i (by omega)
      · intro j hj hj2
        by_cases e : j = 4 - k
        · subst e; rw [u1_rs, show 4 - k - 1 = 3 - k by omega]
        · rw [u1_rn (Or.inl (by omega))]
          exact B1 j hj (by omega))
    (by
      rintro ⟨c, m1⟩ ⟨e1, F1, A1, B1⟩
      dsimp only at e1 F1 A1 B1 ⊢
      subst e1
      unfold bX8_asks_22
      simp (disch := omega) only [L0, L1, L2, L3, L4, L5, L6, L7, L8, L9, L10, L11, L12, L13, L14, L15, L16, L17, L18, L19, L20, L21, L22, L23, L24, L25, L26, L27, L28, L29, L30, L31, L32, L33, L34, L35, L36, L37, L38, L39, L40, L41, L42, L43, L44, L45, L46, L47, L48, L50, L57, L59, L60, L63, L64, L65, L70, L80, L90, L97, L100, L110, L120, L122, L128, L150, L200, L208, L216, L224, L232, L240, L248, L255, L256, L264, L272, L280, L288, L296, L297, L300, L336, L337, L500, L680, L700, L998, L999, L1000, L1024, L1999, L6403, L9999, L10000, L12345, L99999, L1000000, L214424576, L412560384, L509804544, L639025541, L642945024, L658545824, L1103515245, L2147483647, nn_le]
      rw [if_pos (by omega)]
      exact ⟨_, rfl, F1, fun i hi => A1 i (by omega), fun j hj hj2 => B1 j hj (by omega)⟩)
  rw [g1, bd1_e]
  have hx : y.1 15 (24 * l + 0) = nI (X (0 + l)) := by rw [g3 _ (by omega)]; exact R.xoff l hl
  have hn : y.1 15 (24 * l + 1) = nI (X (10 + l)) := by rw [g3 _ (by omega)]; exact R.xon l hl
  have hB := askB _ h4 _ (askW_lt l X)
  have key : ∀ b, b = askW l X → ∃ m', bd1 (stA SX8 0 y 15 (nI (24 * l + 10)) (nI b)) (fun m9 => some m9) = some m' ∧ RM m' (askA l X) ∧ Fr (fun o => o = 15) m m' := by
    rintro b rfl
    simp (disch := omega) only [stA_n s8_15, nI_add, pk_mul, narA_0, bd1_e, bd2_e, bdR_l, bdR_r]
    refine ⟨_, rfl, R.st_bits (v := askV l X) hl ?_ ?_, g2.st rfl⟩
    · intro i hi
      rw [u1_rn (Or.inl (by omega))]
      exact g3 i (by omega)
    · intro k hk
      have ev : askV l X = (X (40 + l) * 2 + askW l X) % 32 := rfl
      rw [ev]
      cases k with
      | zero =>
        rw [Nat.add_zero, u1_rs, hB.1]
      | succ k =>
        rw [u1_rn (Or.inl (by omega)), g4 (k + 1) (by omega) (by omega), hB.2 k (by omega), Nat.add_sub_cancel]
  unfold jX8_asks_115
  simp (disch := omega) only [ldA_n s8_15, hx, hn, bd1_e, nn_lt]
  unfold askW at key
  by_cases c1 : X (30 + l) < X (0 + l)
  · rw [if_pos c1]
    rw [if_pos c1] at key
    by_cases c2 : X (10 + l) < X (30 + l)
    · rw [if_pos c2]
      rw [if_pos c2] at key
      exact key _ rfl
    · rw [if_neg c2]
      rw [if_neg c2] at key
      exact key _ rfl
  · rw [if_neg c1]
    rw [if_neg c1] at key
    exact key _ rfl
/-! what comes to a link -/
theorem roomJ {a b : Nat} (ha : a < 1073741824) (hb : b < 1073741824) : (nI a - nI b ≤ nI 0 ∧ a - b = 0) ∨ (¬ nI a - nI b ≤ nI 0 ∧ nI a - nI b = nI (a - b)) := by
  by_cases h : b < a
  · right
    rw [pk_sub (by omega), nn_le (by omega) (by omega)]
    exact ⟨by omega, rfl⟩
  · left
    by_cases e : a = b
    · subst e
      rw [pk_sub (by omega), Nat.sub_self]
      exact ⟨(nn_le (by omega) (by omega)).mpr (by omega), rfl⟩
    · have h1 := pk_sneg (a := a) (b := b) hb (by omega)
      refine ⟨Int32.le_iff_toInt_le.mpr ?_, by omega⟩
      have c2 := Int32.lt_iff_toInt_lt.mp h1
      have z : (nI 0).toInt = 0 := rfl
      have z' : (0 : Int32).toInt = 0 := rfl
      omega
theorem e8_comes96 {m m0 : Mm} {Z : Nat → Nat} {l f n : Nat} (R : RM m Z) (hl : l < 10) (hf : f < 8) (h20 : Z (20 + l) ≤ 1999) (h30 : Z (30 + l) ≤ 1999) (hn : n = Z (300 + (l * 8 + f))) (hn2 : n ≤ 64) (F : Fr (fun o => o = 15 ∨ o = 22) m0 m) : ∃ m', jX8_comesTo_96 SX8 m 0 (nI l) (nI f) (nI n) (nI n) (nI 0) (nI (Z (20 + l) - Z (30 + l))) = some (.inl (nI (f + 1), m')) ∧ RM m' (upN (upN (upN (upN (upN Z (120 + l * 8 + f) (Z (120 + l * 8 + f) + inn l f Z)) (30 + l) (Z (30 + l) + inn l f Z)) (50 + l) (Z (50 + l) + (Z (300 + (l * 8 + f)) - inn l f Z))) (248 + f) (Z (248 + f) + (Z (300 + (l * 8 + f)) - inn l f Z))) (300 + (l * 8 + f)) (inn l f Z)) ∧ m'.1 22 (8 * l + f) = nI (inn l f Z) ∧ (∀ j, j ≠ 8 * l + f → m'.1 22 j = m.1 22 j) ∧ Fr (fun o => o = 15 ∨ o = 22) m0 m' := by
  subst hn
  have ei : max 0 (min (Z (20 + l) - Z (30 + l)) (Z (300 + (l * 8 + f)))) = inn l f Z := by unfold inn; omega
  have hin : inn l f Z ≤ Z (300 + (l * 8 + f)) := by unfold inn; omega
  unfold jX8_comesTo_96 jX8_comesTo_170
  simp (disch := omega) only [L0, L1, L2, L3, L4, L5, L6, L7, L8, L9, L10, L11, L12, L13, L14, L15, L16, L17, L18, L19, L20, L21, L22, L23, L24, L25, L26, L27, L28, L29, L30, L31, L32, L33, L34, L35, L36, L37, L38, L39, L40, L41, L42, L43, L44, L45, L46, L47, L48, L50, L57, L59, L60, L63, L64, L65, L70, L80, L90, L97, L100, L110, L120, L122, L128, L150, L200, L208, L216, L224, L232, L240, L248, L255, L256, L264, L272, L280, L288, L296, L297, L300, L336, L337, L500, L680, L700, L998, L999, L1000, L1024, L1999, L6403, L9999, L10000, L12345, L99999, L1000000, L214424576, L412560384, L509804544, L639025541, L642945024, L658545824, L1103515245, L2147483647, g8_0, r8_1, r8_3, r8_4, r8_5, r8_6, r8_7, r8_8, r8_9, r8_10, r8_11, r8_12, r8_13, r8_14, r8_15, r8_26, r8_27, r8_28, r8_29, r8_30, r8_33, r8_34, r8_35, r8_36, r8_37, r8_39, r8_40, r8_41, r8_43, r8_44, r8_45, nI_add, pk_mul, narA_0, bd1_e, bd2_e, bdR_l, bdR_r, e8_within, ei, ldA_n s8_15, R.q l f hl hf, stA_n s8_15, stA_n s8_22, u1_rn, R.lost l hl, pk_sub, e8_flowAt, R.flost f hf]
  refine ⟨_, rfl, ?_, ?_, ?_, (((F.st (Or.inl rfl)).st (Or.inr rfl)).st (Or.inl rfl)).st (Or.inl rfl)⟩
  · have R2 := (((R.st_q (Z (120 + l * 8 + f) + inn l f Z) ⟨hl, hf⟩).fr (m' := u1 (u1 m 15 (24 * l + 15 + f) (nI (Z (120 + l * 8 + f) + inn l f Z))) 22 (8 * l + f) (nI (inn l f Z))) (P := fun o => o = 22) (Fr.u1 rfl) (by omega)).st_lost (Z (50 + l) + (Z (300 + (l * 8 + f)) - inn l f Z)) hl).st_flost (Z (248 + f) + (Z (300 + (l * 8 + f)) - inn l f Z)) hf
    refine R2.congr (fun i hi hi2 => ?_)
    rw [upN_n (i := 300 + (l * 8 + f)) (by omega)]
    by_cases c1 : i = 248 + f
    · rw [c1, upN_s, upN_s]
    · rw [upN_n c1, upN_n c1]
      by_cases c2 : i = 50 + l
      · rw [c2, upN_s, upN_s]
      · rw [upN_n c2, upN_n c2, upN_n (i := 30 + l) (by omega)]
  · rw [u1_rn (Or.inr (by omega)), u1_rn (Or.inr (by omega)), u1_rs]
  · intro j hj
    rw [u1_rn (Or.inr (by omega)), u1_rn (Or.inr (by omega)), u1_rn (Or.inl hj), u1_rn (Or.inr (by omega))]
theorem Pl.nx_0 {π : Pl} {f l : Nat} (h0 : π.pv l f ≠ 0) : (π.nx l f = 0 ↔ π.hp f l = π.hops f) ∧ π.hp f l ≠ 0 := by
  have hle := π.hp_le f l
  have hp : π.hp f l ≠ 0 := fun c => h0 (Pl.pv_0 c)
  refine ⟨?_, hp⟩
  unfold Pl.nx
  rw [if_neg hp]
  by_cases c : π.hp f l < π.hops f
  · rw [if_pos c]; constructor <;> intro h <;> omega
  · rw [if_neg c]; constructor <;> intro h <;> omega
