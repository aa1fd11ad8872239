/-! ===== a tick: bounds over it ===== -/
def Wz (π : Pl) (X : Nat → Nat) : Prop := J π X ∧ Mv π π.nl X ∧ Cp π X ∧ Sn π X
theorem st1_J {π : Pl} (O : π.ok) {X : Nat → Nat} (h : J π X) : J π (st1 π X) ∧ Sn π (st1 π X) := by
  have hnf := O.nf
  have := it_inv (n := π.nf) (F := crA) (X := X) (P := fun k Y => J π Y ∧ ∀ f, f < k → Y (380 + f) = 0) ⟨h, fun f hf => by omega⟩ (fun k Y hk hY => ⟨hY.1.cr O (by omega), fun f hf => by
    by_cases e : f = k
    · subst e; exact crA_s
    · rw [crA_o (by omega) (by omega)]; exact hY.2 f (by omega)⟩)
  exact ⟨this.1, fun f hf => by rw [show st1 π X (380 + f) = 0 from this.2 f hf]; omega⟩
theorem st1_o {π : Pl} (O : π.ok) {X : Nat → Nat} {i : Nat} (h : i < 272 ∨ (280 ≤ i ∧ i < 380)) : st1 π X i = X i := by
  have hnf := O.nf
  exact it_o (fun k Y hk => crA_o (by omega) (by omega))
theorem st2_W {π : Pl} (O : π.ok) {X : Nat → Nat} (h : J π X) (hS : Sn π X) : Wz π (st2 π X) := by
  have hnl := O.nl
  have := it_inv (n := π.nl) (F := carB π) (X := X) (P := fun k Y => J π Y ∧ Mv π k Y ∧ (∀ l, l < k → Y (90 + l) ≤ 64) ∧ Sn π Y) ⟨h, fun l f hl => by omega, fun l hl => by omega, hS⟩ (fun k Y hk hY => ⟨hY.1.car O (by omega), Mv.car O hk hY.2.1, fun l hl => by
    by_cases e : l = k
    · subst e
      rw [carB_cd O (by omega)]
      have h1 := (O.cap l hk).2
      have h2 : capT π l Y ≤ π.cap l := Nat.min_le_right _ _
      omega
    · rw [carB_o O (by omega) (by omega)]; exact hY.2.2.1 l (by omega), Sn.car O hk hY.2.2.2⟩)
  exact this
theorem st2_o {π : Pl} (O : π.ok) {X : Nat → Nat} {i : Nat} (h : i < 30 ∨ (40 ≤ i ∧ i < 90) ∨ (100 ≤ i ∧ i < 120) ∨ (200 ≤ i ∧ i < 232) ∨ (240 ≤ i ∧ i < 272) ∨ (280 ≤ i ∧ i < 300)) : st2 π X i = X i := by
  have hnl := O.nl
  exact it_o (fun k Y hk => carB_o O (by omega) (by omega))
theorem arsA_o {π : Pl} (O : π.ok) {l i : Nat} {X : Nat → Nat} (h : i < 30 ∨ (90 ≤ i ∧ i < 120) ∨ (200 ≤ i ∧ i < 240) ∨ (256 ≤ i ∧ i < 300) ∨ 380 ≤ i) (hl : l < 10) : arsA π l X i = X i := by
  unfold arsA
  rw [askA_o (by omega)]
  split
  · rfl
  · exact arrA_o O (by omega) hl
theorem arrF_dl {π : Pl} {l f g : Nat} {X : Nat → Nat} (hl : l < 10) (hf : f < 8) (hg : g < 8) : X (240 + g) ≤ arrF π l f X (240 + g) ∧ arrF π l f X (240 + g) ≤ X (240 + g) + (if g = f then X (300 + (l * 8 + f)) else 0) := by
  unfold arrF
  split
  · split <;> omega
  · split
    · rw [upN_n (by omega)]
      by_cases e : g = f
      · subst e; rw [upN_s, if_pos rfl]; omega
      · rw [upN_n (by omega)]; omega
    · rw [upN_n (by omega), upN_n (by omega), upN_n (by omega), upN_n (by omega), upN_n (by omega)]; split <;> omega
theorem arrA_dl {π : Pl} (O : π.ok) {l g : Nat} {X : Nat → Nat} (hl : l < 10) (hg : g < 8) (hm : ∀ f, f < π.nf → X (300 + (l * 8 + f)) ≤ 64) : X (240 + g) ≤ arrA π l X (240 + g) ∧ arrA π l X (240 + g) ≤ X (240 + g) + 64 := by
  have hnf := O.nf
  unfold arrA
  rw [upN_n (by omega)]
  have := it_inv (n := π.nf) (F := arrF π l) (X := X) (P := fun k Y => X (240 + g) ≤ Y (240 + g) ∧ Y (240 + g) ≤ X (240 + g) + (if g < k then 64 else 0) ∧ ∀ f, f < π.nf → Y (300 + (l * 8 + f)) ≤ 64) ⟨Nat.le_refl _, by rw [if_neg (by omega)]; omega, hm⟩ (fun k Y hk hY => by
    have h1 := arrF_dl (π := π) (X := Y) hl (show k < 8 by omega) hg
    have h2 := hY.2.2 k hk
    refine ⟨by omega, ?_, fun f hf => Nat.le_trans (arrF_mv hl (by omega) hl (by omega)) (hY.2.2 f hf)⟩
    by_cases e : g = k
    · subst e
      have h3 := hY.2.1
      rw [if_neg (by omega)] at h3
      rw [if_pos rfl] at h1
      rw [if_pos (by omega)]
      omega
    · have h3 := hY.2.1
      rw [if_neg e] at h1
      by_cases c : g < k
      · rw [if_pos c] at h3; rw [if_pos (by omega)]; omega
      · rw [if_neg c] at h3; rw [if_neg (by omega)]; omega)
  refine ⟨this.1, Nat.le_trans this.2.1 ?_⟩
  split <;> omega
theorem arsA_dl {π : Pl} (O : π.ok) {l g : Nat} {X : Nat → Nat} (hl : l < 10) (hg : g < 8) (hm : ∀ f, f < π.nf → X (300 + (l * 8 + f)) ≤ 64) : X (240 + g) ≤ arsA π l X (240 + g) ∧ arsA π l X (240 + g) ≤ X (240 + g) + 64 := by
  unfold arsA
  rw [askA_o (by omega)]
  split
  · omega
  · exact arrA_dl O hl hg hm
theorem Wz.ars {π : Pl} (O : π.ok) {X : Nat → Nat} (h : Wz π X) {l : Nat} (hl : l < 10) : Wz π (arsA π l X) := by
  have hnl := O.nl
  have hnf := O.nf
  exact ⟨h.1.ars O hl, h.2.1.ars O hl, fun a ha => by rw [arsA_o O (by omega) hl]; exact h.2.2.1 a ha, fun f hf => by rw [arsA_o O (by omega) hl]; exact h.2.2.2 f hf⟩
theorem st3_W {π : Pl} (O : π.ok) {X : Nat → Nat} (h : Wz π X) : Wz π (st3 π X) ∧ ∀ g, g < 8 → X (240 + g) ≤ st3 π X (240 + g) ∧ st3 π X (240 + g) ≤ X (240 + g) + 640 := by
  have hnl := O.nl
  have := it_inv (n := π.nl) (F := arsA π) (X := X) (P := fun k Y => Wz π Y ∧ ∀ g, g < 8 → X (240 + g) ≤ Y (240 + g) ∧ Y (240 + g) ≤ X (240 + g) + 64 * k) ⟨h, fun g hg => by omega⟩ (fun k Y hk hY => ⟨hY.1.ars O (by omega), fun g hg => by
    have h1 := arsA_dl O (X := Y) (show k < 10 by omega) hg (fun f hf => (hY.1.2.1 k f hk hf).1)
    have h2 := hY.2 g hg
    omega⟩)
  refine ⟨this.1, fun g hg => ?_⟩
  have h2 := this.2 g hg
  unfold st3
  omega
theorem st3_o {π : Pl} (O : π.ok) {X : Nat → Nat} {i : Nat} (h : i < 30 ∨ (90 ≤ i ∧ i < 120) ∨ (200 ≤ i ∧ i < 240) ∨ (256 ≤ i ∧ i < 300) ∨ 380 ≤ i) : st3 π X i = X i := by
  have hnl := O.nl
  exact it_o (fun k Y hk => arsA_o O h (by omega))
theorem smpA_o {π : Pl} (O : π.ok) {l i : Nat} {X : Nat → Nat} (hl : l < 10) (h : i < 70 ∨ (90 ≤ i ∧ i < 100) ∨ (120 ≤ i ∧ i < 200) ∨ (232 ≤ i ∧ i < 256) ∨ (264 ≤ i ∧ i < 280) ∨ 296 ≤ i) : smpA π l X i = X i := by
  unfold smpA
  split
  · rfl
  · exact sampA_o O hl (by omega)
theorem Wz.smp {π : Pl} (O : π.ok) {X : Nat → Nat} (h : Wz π X) {l : Nat} (hl : l < π.nl) : Wz π (smpA π l X) := by
  have hnl := O.nl
  have hnf := O.nf
  by_cases e : X (90 + l) = 0
  · rw [smpA_e0 e]; exact h
  · rw [smpA_e1 e]
    exact ⟨h.1.smp O hl, h.2.1.smp O (by omega), fun a ha => by rw [sampA_o O (by omega) (by omega)]; exact h.2.2.1 a ha, fun f hf => by rw [sampA_o O (by omega) (by omega)]; exact h.2.2.2 f hf⟩
theorem smpA_st {π : Pl} (O : π.ok) {X : Nat → Nat} {l g : Nat} (hl : l < 10) (hg : g < 8) : smpA π l X (216 + g) ≤ X (216 + g) ∧ smpA π l X (224 + g) ≤ X (224 + g) := by
  unfold smpA
  split
  · omega
  · exact sampA_st O hl hg
theorem st4_W {π : Pl} (O : π.ok) {X : Nat → Nat} (h : Wz π X) : Wz π (st4 π X) ∧ ∀ g, g < 8 → st4 π X (216 + g) ≤ X (216 + g) ∧ st4 π X (224 + g) ≤ X (224 + g) := by
  have hnl := O.nl
  exact it_inv (n := π.nl) (F := smpA π) (X := X) (P := fun k Y => Wz π Y ∧ ∀ g, g < 8 → Y (216 + g) ≤ X (216 + g) ∧ Y (224 + g) ≤ X (224 + g)) ⟨h, fun g hg => by omega⟩ (fun k Y hk hY => ⟨hY.1.smp O hk, fun g hg => by
    have h1 := smpA_st O (X := Y) (show k < 10 by omega) hg
    have h2 := hY.2 g hg
    omega⟩)
theorem st4_o {π : Pl} (O : π.ok) {X : Nat → Nat} {i : Nat} (h : i < 70 ∨ (90 ≤ i ∧ i < 100) ∨ (120 ≤ i ∧ i < 200) ∨ (232 ≤ i ∧ i < 256) ∨ (264 ≤ i ∧ i < 280) ∨ 296 ≤ i) : st4 π X i = X i := by
  have hnl := O.nl
  exact it_o (fun k Y hk => smpA_o O (by omega) h)
theorem rcvA_o {π : Pl} {f i : Nat} {X : Nat → Nat} (hf : f < 8) (h : i < 200 ∨ (232 ≤ i ∧ i < 280) ∨ 296 ≤ i) : rcvA π f X i = X i := by
  unfold rcvA
  split
  · exact recA_o (by omega)
  · rfl
theorem rcvA_n {π : Pl} {f g i : Nat} {X : Nat → Nat} (hf : f < 8) (hg : g < 8) (hn : g ≠ f) (h : i = 200 + g ∨ i = 208 + g ∨ i = 216 + g ∨ i = 224 + g ∨ i = 280 + g ∨ i = 288 + g) : rcvA π f X i = X i := by
  unfold rcvA
  split
  · exact recA_o (by omega)
  · rfl
theorem rc_div {π : Pl} (O : π.ok) {f : Nat} {X : Nat → Nat} (h1 : X (280 + f) < π.cells) (h2 : X (380 + f) ≤ 64) : rcC π f X / π.cells ≤ 64 := by
  have hc := O.cells
  apply Nat.le_of_lt_succ
  apply Nat.div_lt_of_lt_mul
  unfold rcC
  have : π.cells * 1 ≤ π.cells := by omega
  have h3 : π.cells * 65 = π.cells + π.cells * 64 := by omega
  have h4 : 1 * 64 ≤ π.cells * 64 := Nat.mul_le_mul_right _ (by omega)
  omega
theorem st5_J {π : Pl} (O : π.ok) {X : Nat → Nat} (h : J π X) (hS : Sn π X) : J π (st5 π X) ∧ ∀ g, g < 8 → st5 π X (216 + g) ≤ X (216 + g) + 64 ∧ st5 π X (224 + g) ≤ X (224 + g) + 1 := by
  have hnf := O.nf
  have := it_inv (n := π.nf) (F := rcvA π) (X := X) (P := fun k Y => J π Y ∧ Sn π Y ∧ ∀ g, g < 8 → Y (216 + g) ≤ X (216 + g) + (if g < k then 64 else 0) ∧ Y (224 + g) ≤ X (224 + g) + (if g < k then 1 else 0)) ⟨h, hS, fun g hg => by rw [if_neg (by omega), if_neg (by omega)]; omega⟩ (fun k Y hk hY => by
    refine ⟨?_, fun f hf => by rw [rcvA_o (by omega) (by omega)]; exact hY.2.1 f hf, fun g hg => ?_⟩
    · by_cases e : Y (264 + k) = 1
      · rw [rcvA_e1 e]; exact hY.1.rcv O hk
      · rw [rcvA_e0 e]; exact hY.1
    · have h2 := hY.2.2 g hg
      by_cases eg : g = k
      · subst eg
        rw [if_neg (by omega), if_neg (by omega)] at h2
        rw [if_pos (by omega), if_pos (by omega)]
        by_cases e : Y (264 + g) = 1
        · rw [rcvA_e1 e]
          obtain ⟨_, _, _, _, b5, b6⟩ := recA_b O (hY.1.rate g (by omega)) (hY.1.target g (by omega)) (hY.1.byt g hk)
          have b7 := rc_div O (hY.1.byc g hk) (hY.2.1 g hk)
          omega
        · rw [rcvA_e0 e]; omega
      · rw [rcvA_n (by omega) hg eg (by omega), rcvA_n (by omega) hg eg (by omega)]
        by_cases c : g < k
        · rw [if_pos c, if_pos c] at h2
          rw [if_pos (by omega), if_pos (by omega)]; exact h2
        · rw [if_neg c, if_neg c] at h2
          rw [if_neg (by omega), if_neg (by omega)]; exact h2)
  refine ⟨this.1, fun g hg => ?_⟩
  have h2 := this.2.2 g hg
  unfold st5
  refine ⟨Nat.le_trans h2.1 ?_, Nat.le_trans h2.2 ?_⟩ <;> split <;> omega
theorem st5_o {π : Pl} (O : π.ok) {X : Nat → Nat} {i : Nat} (h : i < 200 ∨ (232 ≤ i ∧ i < 280) ∨ 296 ≤ i) : st5 π X i = X i := by
  have hnf := O.nf
  exact it_o (fun k Y hk => rcvA_o (by omega) h)
def K (π : Pl) (X : Nat → Nat) : Prop := J π X ∧ ∀ f, f < 8 → X (216 + f) ≤ 64 * X 296 ∧ X (224 + f) ≤ X 296 ∧ X (240 + f) ≤ 640 * X 296
theorem stepA_t {π : Pl} (O : π.ok) {X : Nat → Nat} : stepA π X 296 = X 296 + 1 := by
  unfold stepA
  rw [up1_s, st5_o O (by omega), st4_o O (by omega), st3_o O (by omega), st2_o O (by omega), st1_o O (by omega)]
theorem stepA_dl {π : Pl} (O : π.ok) {X : Nat → Nat} (h : J π X) {g : Nat} (hg : g < 8) : X (240 + g) ≤ stepA π X (240 + g) ∧ stepA π X (240 + g) ≤ X (240 + g) + 640 := by
  have h1 := st1_J O h
  have h2 := st2_W O h1.1 h1.2
  have h3 := (st3_W O h2).2 g hg
  unfold stepA
  rw [up1_o (by omega), st5_o O (by omega), st4_o O (by omega)]
  rw [st2_o O (by omega), st1_o O (by omega)] at h3
  exact h3
theorem K.step {π : Pl} (O : π.ok) {X : Nat → Nat} (h : K π X) : K π (stepA π X) := by
  have h1 := st1_J O h.1
  have h2 := st2_W O h1.1 h1.2
  have h3 := st3_W O h2
  have h4 := st4_W O h3.1
  have h5 := st5_J O h4.1.1 h4.1.2.2.2
  refine ⟨h5.1.same O (fun i _ _ _ _ hi => up1_o hi), fun f hf => ?_⟩
  have a := h.2 f hf
  have b := stepA_dl O h.1 hf
  have c := h5.2 f hf
  have d := h4.2 f hf
  rw [stepA_t O]
  have e1 : stepA π X (216 + f) = st5 π (st4 π (st3 π (st2 π (st1 π X)))) (216 + f) := up1_o (by omega)
  have e2 : stepA π X (224 + f) = st5 π (st4 π (st3 π (st2 π (st1 π X)))) (224 + f) := up1_o (by omega)
  rw [e1, e2]
  rw [st3_o O (by omega), st2_o O (by omega), st1_o O (by omega), st3_o O (by omega), st2_o O (by omega), st1_o O (by omega)] at d
  omega
theorem e_step {m : Mm} {x p : Nat} {π : Pl} {X : Nat → Nat} (C : CF m x X) (P : PF m p π) (O : π.ok) (hx : x = 19 ∨ x = 20) (hp : p = 21 ∨ p = 31) (hK : K π X) (ht : X 296 ≤ 14000) : ∃ m', fX5_step SX7 m 4 p x = some m' ∧ CF m' x (stepA π X) ∧ Fr (PT x) m m' := by
  have h1 := st1_J O hK.1
  have h2 := st2_W O h1.1 h1.2
  have h3 := st3_W O h2
  have h4 := st4_W O h3.1
  have hG : Sg 0 (st4 π (st3 π (st2 π (st1 π X)))) := by
    intro f _ hf
    have a := hK.2 f hf
    have d := h4.2 f hf
    rw [st3_o O (by omega), st2_o O (by omega), st1_o O (by omega), st3_o O (by omega), st2_o O (by omega), st1_o O (by omega)] at d
    omega
  have pf : ∀ {m'}, Fr (PT x) m m' → PF m' p π := fun F => P.fr F (fun o ho => by unfold PT at ho; omega)
  obtain ⟨m1, a1, C1, F1⟩ := e_st1 C P O hx hp hK.1
  obtain ⟨m2, a2, C2, F2⟩ := e_st2 C1 (pf F1) O hx hp h1.1
  have F2' := F1.trans F2
  obtain ⟨m3, a3, C3, F3⟩ := e_st3 C2 (pf F2') O hx hp h2.1 h2.2.1 h2.2.2.1
  have F3' := F2'.trans F3
  obtain ⟨m4, a4, C4, F4⟩ := e_st4 C3 (pf F3') O hx hp h3.1.1 h3.1.2.1 h3.1.2.2.1
  have F4' := F3'.trans F4
  obtain ⟨m5, a5, C5, F5⟩ := e_st5 C4 (pf F4') O hx hp h4.1.1 h4.1.2.2.2 hG
  have F5' := F4'.trans F5
  unfold fX5_step
  simp only [L0, L1, L2, L3, L4, L5, L6, L7, L8, L9, L10, L11, L12, L13, L14, L15, L16, L17, L18, L19, L20, L21, L22, L23, L24, L25, L26, L27, L28, L29, L30, L31, L32, L33, L34, L35, L36, L37, L38, L39, L40, L41, L42, L43, L44, L45, L46, L47, L48, L50, L57, L59, L60, L63, L64, L65, L70, L80, L90, L97, L100, L110, L120, L122, L128, L150, L200, L208, L216, L224, L232, L240, L248, L255, L256, L264, L272, L280, L288, L296, L297, L300, L336, L337, L500, L680, L700, L998, L999, L1000, L1024, L1999, L6403, L9999, L10000, L12345, L99999, L1000000, L214424576, L412560384, L509804544, L639025541, L642945024, L658545824, L1103515245, L2147483647, g7_0, g7_1, g7_3, g7_4, g7_8, g7_13, g7_16, r7_0_0, r7_0_1, r7_0_2, r7_0_3, r7_0_4, r7_0_5, r7_0_6, r7_0_7, r7_1_0, r7_4_0, r7_4_1, r7_4_2, r7_8_0, r7_8_1, r7_8_2, r7_8_3, r7_13_0, r7_13_1, r7_16_0, r7_16_1, g7_p hp, a1, a2, a3, a4, a5, bd1_e]
  simp (disch := omega) only [ldA_n (s7_x hx), stA_n (s7_x hx), C5.row, nI_add, pk_mul, narA_0, bd1_e, bd2_e, bdR_l, bdR_r]
  exact ⟨_, rfl, C5.up1 hx (by omega), F5'.st (Or.inl rfl)⟩
