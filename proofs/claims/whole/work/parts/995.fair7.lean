/-! ===== fair shares: the class ===== -/
def bO : Bool → Nat
  | true => 1
  | false => 0
theorem bO_le (b : Bool) : bO b ≤ 1 := by cases b <;> decide
theorem narA_2 (b : Bool) : narA 2 (nI (bO b)) = nI (bO b) := by cases b <;> rfl
theorem pvI_2 {v : Nat} (h : v < 100) : (pvI v = -nI 2) ↔ v = 0 := by
  match v, h with
  | 0, _ => exact ⟨fun _ => rfl, fun _ => rfl⟩
  | 1, _ => exact ⟨fun z => absurd z (by decide), fun z => by omega⟩
  | k + 2, h =>
    constructor
    · intro z
      exact ((nI_m2 (a := k) (by omega)).mp z).elim
    · intro z; omega
theorem onL_lt {π : Pl} (O : π.ok) {l f : Nat} (hf : f < π.nf) : π.pv l f < 100 := by
  have hnl := O.nl
  have hle := π.hp_le f l
  unfold Pl.pv
  split
  · omega
  · split
    · omega
    · have := O.path f (π.hp f l - 2) hf (by omega)
      omega
theorem sm_pre {f : Nat → Nat} {k n : Nat} (h : k ≤ n) : sm k f ≤ sm n f := by
  induction n with
  | zero => have : k = 0 := by omega
            subst this; exact Nat.le_refl _
  | succ n ih =>
    by_cases c : k = n + 1
    · subst c; exact Nat.le_refl _
    · have := ih (by omega)
      rw [sm_s]; omega
def HS (m : Mm) (π : Pl) (D : Nat) (q : Nat → Nat) (H : Nat → Bool) : Prop := (m.1 13 2 = nI D) ∧ (∀ f, f < π.nf → H f = true → m.1 14 f = nI (q f)) ∧ (∀ f, f < π.nf → m.1 15 f = nI (bO (H f)))
theorem HS.mk {m : Mm} {π : Pl} {D : Nat} {q : Nat → Nat} {H : Nat → Bool} (h_d : m.1 13 2 = nI D) (h_q : ∀ f, f < π.nf → H f = true → m.1 14 f = nI (q f)) (h_h : ∀ f, f < π.nf → m.1 15 f = nI (bO (H f))) : HS m π D q H := ⟨h_d, h_q, h_h⟩
theorem HS.d {m : Mm} {π : Pl} {D : Nat} {q : Nat → Nat} {H : Nat → Bool} (h : HS m π D q H) : m.1 13 2 = nI D := h.1
theorem HS.q {m : Mm} {π : Pl} {D : Nat} {q : Nat → Nat} {H : Nat → Bool} (h : HS m π D q H) : ∀ f, f < π.nf → H f = true → m.1 14 f = nI (q f) := h.2.1
theorem HS.h {m : Mm} {π : Pl} {D : Nat} {q : Nat → Nat} {H : Nat → Bool} (h : HS m π D q H) : ∀ f, f < π.nf → m.1 15 f = nI (bO (H f)) := h.2.2
def cSh (o : Nat) : Prop := o = 13 ∨ o = 14 ∨ o = 15
theorem PF.sh {m m' : Mm} {p : Nat} {π : Pl} (h : PF m p π) (hp : p = 21 ∨ p = 31) (hf : Fr cSh m m') : PF m' p π := h.fr hf (fun o ho => by unfold cSh at ho; omega)
theorem e_lookAt {m : Mm} {p : Nat} {π : Pl} {D l : Nat} {q : Nat → Nat} {H : Nat → Bool} (hp : p = 21 ∨ p = 31) (P : PF m p π) (O : π.ok) (h : HS m π D q H) (hl : l < π.nl) (hb : hsL π H q l ≤ π.cap l * D) : ∃ m', fX3_lookAt SX7 m 13 p (nI l) = some m' ∧ HS m' π D q H ∧ m'.1 13 3 = nI (π.cap l * D - hsL π H q l) ∧ m'.1 13 4 = nI (grL π H l) ∧ Fr cSh m m' := by
  have hnl := O.nl
  have hnf := O.nf
  unfold fX3_lookAt
  simp (disch := omega) only [L0, L1, L2, L3, L4, L5, L6, L7, L8, L9, L10, L11, L12, L13, L14, L15, L16, L17, L18, L19, L20, L21, L22, L23, L24, L25, L26, L27, L28, L29, L30, L31, L32, L33, L34, L35, L36, L37, L38, L39, L40, L41, L42, L43, L44, L45, L46, L47, L48, L50, L57, L59, L60, L63, L64, L65, L70, L80, L90, L97, L100, L110, L120, L122, L128, L150, L200, L208, L216, L224, L232, L240, L248, L255, L256, L264, L272, L280, L288, L296, L297, L300, L336, L337, L500, L680, L700, L998, L999, L1000, L1024, L1999, L6403, L9999, L10000, L12345, L99999, L1000000, L214424576, L412560384, L509804544, L639025541, L642945024, L658545824, L1103515245, L2147483647, g7_0, g7_1, g7_3, g7_4, g7_8, g7_13, g7_16, r7_0_0, r7_0_1, r7_0_2, r7_0_3, r7_0_4, r7_0_5, r7_0_6, r7_0_7, r7_1_0, r7_4_0, r7_4_1, r7_4_2, r7_8_0, r7_8_1, r7_8_2, r7_8_3, r7_13_0, r7_13_1, r7_16_0, r7_16_1, g7_p hp, r7_p_0 hp, r7_p_1 hp, r7_p_2 hp, r7_p_3 hp, r7_p_4 hp, r7_p_5 hp, r7_p_6 hp, r7_p_7 hp, r7_p_8 hp, ldA_n (s7_p2 hp), P.cap l hl, bd1_e, h.d, pk_mul]
  obtain ⟨y, a1, a2, a3, a4, a5⟩ := lp_F (b := fun s9 : Int32 × Mm => bX3_lookAt_22 SX7 13 p (nI l) s9.1 s9.2) (fun k m1 => HS m1 π D q H ∧ m1.1 13 3 = nI (π.cap l * D - sm k (hsF π H q l)) ∧ m1.1 13 4 = nI (sm k (grF π H l)) ∧ Fr cSh m m1) π.nf (m := u1 (u1 m 13 3 (nI (π.cap l * D))) 13 4 (nI 0)) (by omega)
    ⟨HS.mk (by rw [u1_rn (Or.inl (by omega)), u1_rn (Or.inl (by omega))]; exact h.d) (by intro f hf hH; rw [u1_rn (Or.inr (by omega)), u1_rn (Or.inr (by omega))]; exact h.q f hf hH) (by intro f hf; rw [u1_rn (Or.inr (by omega)), u1_rn (Or.inr (by omega))]; exact h.h f hf), by rw [u1_rn (Or.inl (by omega)), u1_rs]; rfl, u1_rs, (Fr.u1 (Or.inl rfl)).trans (Fr.u1 (Or.inl rfl))⟩
    (by
      rintro k m1 hk ⟨h1, b1, b2, F1⟩
      have P1 := P.sh hp F1
      have hpre := sm_pre (f := hsF π H q l) (show k + 1 ≤ π.nf by omega)
      rw [sm_s] at hpre
      unfold hsL at hb
      dsimp only
      unfold bX3_lookAt_22 jX3_lookAt_86
      simp (disch := omega) only [L0, L1, L2, L3, L4, L5, L6, L7, L8, L9, L10, L11, L12, L13, L14, L15, L16, L17, L18, L19, L20, L21, L22, L23, L24, L25, L26, L27, L28, L29, L30, L31, L32, L33, L34, L35, L36, L37, L38, L39, L40, L41, L42, L43, L44, L45, L46, L47, L48, L50, L57, L59, L60, L63, L64, L65, L70, L80, L90, L97, L100, L110, L120, L122, L128, L150, L200, L208, L216, L224, L232, L240, L248, L255, L256, L264, L272, L280, L288, L296, L297, L300, L336, L337, L500, L680, L700, L998, L999, L1000, L1024, L1999, L6403, L9999, L10000, L12345, L99999, L1000000, L214424576, L412560384, L509804544, L639025541, L642945024, L658545824, L1103515245, L2147483647, g7_0, g7_1, g7_3, g7_4, g7_8, g7_13, g7_16, r7_0_0, r7_0_1, r7_0_2, r7_0_3, r7_0_4, r7_0_5, r7_0_6, r7_0_7, r7_1_0, r7_4_0, r7_4_1, r7_4_2, r7_8_0, r7_8_1, r7_8_2, r7_8_3, r7_13_0, r7_13_1, r7_16_0, r7_16_1, g7_p hp, r7_p_0 hp, r7_p_1 hp, r7_p_2 hp, r7_p_3 hp, r7_p_4 hp, r7_p_5 hp, r7_p_6 hp, r7_p_7 hp, r7_p_8 hp, nI_add, pk_mul, narA_0, bd1_e, bd2_e, bdR_l, bdR_r, P1.nf, nn_le, ldA_n (s7_p7 hp), P1.pv l k hl hk, bd1_e, pvI_2 (onL_lt O hk), ldA_n s7_15, h1.h k hk, ldA_n s7_14, b1, b2]
      rw [if_neg (by omega)]
      by_cases c : π.pv l k = 0
      · rw [if_neg (fun z => z c)]
        have ho : onL π l k = false := decide_eq_false (fun z => z c)
        have e1 : hsF π H q l k = 0 := by unfold hsF; rw [if_neg (by rw [ho]; simp)]
        have e2 : grF π H l k = 0 := by unfold grF; rw [if_neg (by rw [ho]; simp)]
        refine ⟨m1, rfl, h1, ?_, ?_, F1⟩
        · rw [sm_s, e1, Nat.add_zero]; exact b1
        · rw [sm_s, e2, Nat.add_zero]; exact b2
      · rw [if_pos c]
        have ho : onL π l k = true := decide_eq_true c
        cases hH : H k with
        | false =>
          have e1 : hsF π H q l k = 0 := by unfold hsF; rw [if_neg (by rw [hH]; simp)]
          have e2 : grF π H l k = 1 := by unfold grF; rw [if_pos ⟨ho, hH⟩]
          rw [if_pos (show nI (bO false) = nI 0 from rfl)]
          refine ⟨_, rfl, HS.mk (by rw [u1_rn (Or.inl (by omega))]; exact h1.d) (by intro f hf hH; rw [u1_rn (Or.inr (by omega))]; exact h1.q f hf hH) (by intro f hf; rw [u1_rn (Or.inr (by omega))]; exact h1.h f hf), ?_, ?_, F1.trans (Fr.u1 (Or.inl rfl))⟩
          · rw [u1_rn (Or.inl (by omega)), sm_s, e1, Nat.add_zero]; exact b1
          · rw [u1_rs, sm_s, e2]
        | true =>
          have e1 : hsF π H q l k = q k := by unfold hsF; rw [if_pos ⟨ho, hH⟩]
          have e2 : grF π H l k = 0 := by unfold grF; rw [if_neg (by rw [hH]; simp)]
          rw [if_neg (show ¬ nI (bO true) = nI 0 by decide), h1.q k hk hH]
          rw [e1] at hpre
          refine ⟨_, rfl, HS.mk (by rw [u1_rn (Or.inl (by omega))]; exact h1.d) (by intro f hf hH; rw [u1_rn (Or.inr (by omega))]; exact h1.q f hf hH) (by intro f hf; rw [u1_rn (Or.inr (by omega))]; exact h1.h f hf), ?_, ?_, F1.trans (Fr.u1 (Or.inl rfl))⟩
          · rw [u1_rs, pk_sub (by omega), sm_s, e1, Nat.sub_sub]
          · rw [u1_rn (Or.inl (by omega)), sm_s, e2, Nat.add_zero]; exact b2)
    (by
      rintro m1 ⟨h1, b1, b2, F1⟩
      have P1 := P.sh hp F1
      dsimp only
      unfold bX3_lookAt_22
      simp (disch := omega) only [L0, L1, L2, L3, L4, L5, L6, L7, L8, L9, L10, L11, L12, L13, L14, L15, L16, L17, L18, L19, L20, L21, L22, L23, L24, L25, L26, L27, L28, L29, L30, L31, L32, L33, L34, L35, L36, L37, L38, L39, L40, L41, L42, L43, L44, L45, L46, L47, L48, L50, L57, L59, L60, L63, L64, L65, L70, L80, L90, L97, L100, L110, L120, L122, L128, L150, L200, L208, L216, L224, L232, L240, L248, L255, L256, L264, L272, L280, L288, L296, L297, L300, L336, L337, L500, L680, L700, L998, L999, L1000, L1024, L1999, L6403, L9999, L10000, L12345, L99999, L1000000, L214424576, L412560384, L509804544, L639025541, L642945024, L658545824, L1103515245, L2147483647, P1.nf, nn_le]
      rw [if_pos (by omega)])
  rw [a1, bd1_e]
  exact ⟨y, rfl, a2, a3, a4, a5⟩
