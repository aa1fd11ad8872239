/-! ===== the lines of a text, both sides ===== -/
theorem tzK_4 {B : Nat → Nat} {n a : Nat} (h : tzK B n a = 4) : tzA B n a = tzP B n a + 1 := by
  unfold tzK at h
  by_cases c1 : n ≤ tzP B n a
  · rw [if_pos c1] at h; omega
  · rw [if_neg c1] at h
    by_cases c2 : isL (B (tzP B n a)) = true
    · rw [if_pos c2] at h
      split at h
      · omega
      · split at h <;> omega
    · rw [if_neg c2] at h
      by_cases c3 : isD (B (tzP B n a)) = true
      · rw [if_pos c3] at h; omega
      · unfold tzA
        rw [if_neg c1, if_neg c2, if_neg c3]
theorem tzK_0 {B : Nat → Nat} {n a : Nat} (h : tzK B n a ≠ 0) : tzP B n a < n := by
  unfold tzK at h
  by_cases c1 : n ≤ tzP B n a
  · rw [if_pos c1] at h; exact absurd rfl h
  · omega
section LP
variable {mF mM : Mm} {B : Nat → Nat} {n sp : Nat}
/-- both before a line -/
def LH (mF mM m7 m8 : Mm) (B : Nat → Nat) (n sp a0 k : Nat) (π : Pl) (X : Nat → Nat) (td : Nat) : Prop := (TC m7 B n (tzA B n a0)) ∧ (m7.1 1 4 = nI (tzK B n a0)) ∧ (m7.1 1 5 = nI (tzP B n a0)) ∧ (tzK B n a0 = 1 ∨ tzK B n a0 = 2 → m7.1 1 6 = nI (tzW B n a0)) ∧ (TM m8 B n (tzA B n a0)) ∧ (TV m8 B n a0) ∧ (QC m7 sp π X td) ∧ (QM m8 π X td) ∧ (QP π X td) ∧ (LC sp mF m7) ∧ (LM mM m8) ∧ (m8.1 0 16 = nI k) ∧ (k ≤ a0)
theorem LH.mk {mF mM m7 m8 : Mm} {B : Nat → Nat} {n sp a0 k : Nat} {π : Pl} {X : Nat → Nat} {td : Nat} (h_F : TC m7 B n (tzA B n a0)) (h_k7 : m7.1 1 4 = nI (tzK B n a0)) (h_p7 : m7.1 1 5 = nI (tzP B n a0)) (h_w7 : tzK B n a0 = 1 ∨ tzK B n a0 = 2 → m7.1 1 6 = nI (tzW B n a0)) (h_M : TM m8 B n (tzA B n a0)) (h_V : TV m8 B n a0) (h_C : QC m7 sp π X td) (h_Q : QM m8 π X td) (h_P : QP π X td) (h_L7 : LC sp mF m7) (h_L8 : LM mM m8) (h_l16 : m8.1 0 16 = nI k) (h_ka : k ≤ a0) : LH mF mM m7 m8 B n sp a0 k π X td := ⟨h_F, h_k7, h_p7, h_w7, h_M, h_V, h_C, h_Q, h_P, h_L7, h_L8, h_l16, h_ka⟩
theorem LH.F {mF mM m7 m8 : Mm} {B : Nat → Nat} {n sp a0 k : Nat} {π : Pl} {X : Nat → Nat} {td : Nat} (hS : LH mF mM m7 m8 B n sp a0 k π X td) : TC m7 B n (tzA B n a0) := hS.1
theorem LH.k7 {mF mM m7 m8 : Mm} {B : Nat → Nat} {n sp a0 k : Nat} {π : Pl} {X : Nat → Nat} {td : Nat} (hS : LH mF mM m7 m8 B n sp a0 k π X td) : m7.1 1 4 = nI (tzK B n a0) := hS.2.1
theorem LH.p7 {mF mM m7 m8 : Mm} {B : Nat → Nat} {n sp a0 k : Nat} {π : Pl} {X : Nat → Nat} {td : Nat} (hS : LH mF mM m7 m8 B n sp a0 k π X td) : m7.1 1 5 = nI (tzP B n a0) := hS.2.2.1
theorem LH.w7 {mF mM m7 m8 : Mm} {B : Nat → Nat} {n sp a0 k : Nat} {π : Pl} {X : Nat → Nat} {td : Nat} (hS : LH mF mM m7 m8 B n sp a0 k π X td) : tzK B n a0 = 1 ∨ tzK B n a0 = 2 → m7.1 1 6 = nI (tzW B n a0) := hS.2.2.2.1
theorem LH.M {mF mM m7 m8 : Mm} {B : Nat → Nat} {n sp a0 k : Nat} {π : Pl} {X : Nat → Nat} {td : Nat} (hS : LH mF mM m7 m8 B n sp a0 k π X td) : TM m8 B n (tzA B n a0) := hS.2.2.2.2.1
theorem LH.V {mF mM m7 m8 : Mm} {B : Nat → Nat} {n sp a0 k : Nat} {π : Pl} {X : Nat → Nat} {td : Nat} (hS : LH mF mM m7 m8 B n sp a0 k π X td) : TV m8 B n a0 := hS.2.2.2.2.2.1
theorem LH.C {mF mM m7 m8 : Mm} {B : Nat → Nat} {n sp a0 k : Nat} {π : Pl} {X : Nat → Nat} {td : Nat} (hS : LH mF mM m7 m8 B n sp a0 k π X td) : QC m7 sp π X td := hS.2.2.2.2.2.2.1
theorem LH.Q {mF mM m7 m8 : Mm} {B : Nat → Nat} {n sp a0 k : Nat} {π : Pl} {X : Nat → Nat} {td : Nat} (hS : LH mF mM m7 m8 B n sp a0 k π X td) : QM m8 π X td := hS.2.2.2.2.2.2.2.1
theorem LH.P {mF mM m7 m8 : Mm} {B : Nat → Nat} {n sp a0 k : Nat} {π : Pl} {X : Nat → Nat} {td : Nat} (hS : LH mF mM m7 m8 B n sp a0 k π X td) : QP π X td := hS.2.2.2.2.2.2.2.2.1
theorem LH.L7 {mF mM m7 m8 : Mm} {B : Nat → Nat} {n sp a0 k : Nat} {π : Pl} {X : Nat → Nat} {td : Nat} (hS : LH mF mM m7 m8 B n sp a0 k π X td) : LC sp mF m7 := hS.2.2.2.2.2.2.2.2.2.1
theorem LH.L8 {mF mM m7 m8 : Mm} {B : Nat → Nat} {n sp a0 k : Nat} {π : Pl} {X : Nat → Nat} {td : Nat} (hS : LH mF mM m7 m8 B n sp a0 k π X td) : LM mM m8 := hS.2.2.2.2.2.2.2.2.2.2.1
theorem LH.l16 {mF mM m7 m8 : Mm} {B : Nat → Nat} {n sp a0 k : Nat} {π : Pl} {X : Nat → Nat} {td : Nat} (hS : LH mF mM m7 m8 B n sp a0 k π X td) : m8.1 0 16 = nI k := hS.2.2.2.2.2.2.2.2.2.2.2.1
theorem LH.ka {mF mM m7 m8 : Mm} {B : Nat → Nat} {n sp a0 k : Nat} {π : Pl} {X : Nat → Nat} {td : Nat} (hS : LH mF mM m7 m8 B n sp a0 k π X td) : k ≤ a0 := hS.2.2.2.2.2.2.2.2.2.2.2.2
theorem e_text50 {m : Mm} {k s : Nat} (hk : k < 700) (hs : s < 6) (h4 : m.1 1 4 = nI s) (h9 : m.1 0 9 = nI sp) (hp : sp = 21 ∨ sp = 31) : bX7_text_50 SX7 0 (nI k) m = if s = 0 then some (.inr (nI k, m)) else (bd2 (fX2_readLine SX7 m 3 1 sp 20) fun a6 m7 => if a6 = nI 0 then some (.inr (nI k, m7)) else (bd1 (fX4_next SX7 m7 1) fun m8 => some (.inl (nI (k + 1), m8)))) := by
  unfold bX7_text_50
  simp (disch := omega) only [L0, L1, L2, L3, L4, L5, L6, L7, L8, L9, L10, L11, L12, L13, L14, L15, L16, L17, L18, L19, L20, L21, L22, L23, L24, L25, L26, L27, L28, L29, L30, L31, L32, L33, L34, L35, L36, L37, L38, L39, L40, L41, L42, L43, L44, L45, L46, L47, L48, L50, L57, L59, L60, L63, L64, L65, L70, L80, L90, L97, L100, L110, L120, L122, L128, L150, L200, L208, L216, L224, L232, L240, L248, L255, L256, L264, L272, L280, L288, L296, L297, L300, L336, L337, L500, L680, L700, L998, L999, L1000, L1024, L1999, L6403, L9999, L10000, L12345, L99999, L1000000, L214424576, L412560384, L509804544, L639025541, L642945024, L658545824, L1103515245, L2147483647, g7_0, g7_1, g7_3, g7_4, g7_8, g7_13, g7_16, r7_0_0, r7_0_1, r7_0_2, r7_0_3, r7_0_4, r7_0_5, r7_0_6, r7_0_7, r7_1_0, r7_4_0, r7_4_1, r7_4_2, r7_8_0, r7_8_1, r7_8_2, r7_8_3, r7_13_0, r7_13_1, r7_16_0, r7_16_1, rf9 h9 hp, h4, nn_le, nn_eq, nI_add]
  rw [if_neg (by omega)]
theorem e8_text28 {m : Mm} {s : Nat} (hs : s < 6) (h22 : m.1 0 22 = nI 0) (h20 : m.1 0 20 = nI s) : bX8_readText_28 SX8 0 m = if s = 4 then some (.inr m) else bd1 (fX8_readLine SX8 m 0) fun m7 => some (.inl m7) := by
  unfold bX8_readText_28
  simp (disch := omega) only [L0, L1, L2, L3, L4, L5, L6, L7, L8, L9, L10, L11, L12, L13, L14, L15, L16, L17, L18, L19, L20, L21, L22, L23, L24, L25, L26, L27, L28, L29, L30, L31, L32, L33, L34, L35, L36, L37, L38, L39, L40, L41, L42, L43, L44, L45, L46, L47, L48, L50, L57, L59, L60, L63, L64, L65, L70, L80, L90, L97, L100, L110, L120, L122, L128, L150, L200, L208, L216, L224, L232, L240, L248, L255, L256, L264, L272, L280, L288, L296, L297, L300, L336, L337, L500, L680, L700, L998, L999, L1000, L1024, L1999, L6403, L9999, L10000, L12345, L99999, L1000000, L214424576, L412560384, L509804544, L639025541, L642945024, L658545824, L1103515245, L2147483647, h22, h20, nn_eq]
  rw [if_neg (fun z => z trivial)]
theorem e8_text28F {m : Mm} {c : Nat} (h0 : 0 < c) (hc : c < 9) (h22 : m.1 0 22 = nI c) : bX8_readText_28 SX8 0 m = some (.inr m) := by
  unfold bX8_readText_28
  rw [h22]
  exact if_pos (fun z => by have := (nn_eq (a := c) (b := 0) (by omega) (by omega)).mp z; omega)
theorem lines2 (hn : n ≤ 700) (hB : ∀ j, j < n → B j < 256) (hp : sp = 21 ∨ sp = 31) (h9 : mF.1 0 9 = nI sp) : ∀ d a0 k π X td m7 m8 N7 N8, n - a0 = d → a0 ≤ n → d < N7 → d + 1 < N8 → LH mF mM m7 m8 B n sp a0 k π X td →
    (∃ k' F M π' X' td', lp (fun s9 : Int32 × Mm => bX7_text_50 SX7 0 s9.1 s9.2) N7 (nI k, m7) = some (nI k', F) ∧ lp (fun s8 : Mm => bX8_readText_28 SX8 0 s8) N8 m8 = some M ∧ QC F sp π' X' td' ∧ QM M π' X' td' ∧ QP π' X' td' ∧ LC sp mF F ∧ LM mM M ∧ M.1 0 16 = nI k') ∨
    (∃ c pl k' F M, 0 < c ∧ c < 9 ∧ lp (fun s9 : Int32 × Mm => bX7_text_50 SX7 0 s9.1 s9.2) N7 (nI k, m7) = some (nI k', F) ∧ F.1 3 0 = nI c ∧ F.1 3 1 = nI pl ∧ LC sp mF F ∧ lp (fun s8 : Mm => bX8_readText_28 SX8 0 s8) N8 m8 = some M ∧ M.1 0 22 = nI c ∧ M.1 0 23 = nI pl ∧ LM mM M) := by
  intro d
  induction d using Nat.strongRecOn with
  | ind d ih =>
    intro a0 k π X td m7 m8 N7 N8 hd ha0 hN7 hN8 H
    have hA := tzA_le (B := B) ha0
    have hK := tzK_le B n a0
    have hka := H.ka
    obtain ⟨s1, s2, s3, s4, s5, s6⟩ := srt_eq (tzK B n a0) (by omega)
    obtain ⟨K7, rfl⟩ : ∃ K, N7 = K + 1 := ⟨N7 - 1, by omega⟩
    obtain ⟨K8, rfl⟩ : ∃ K, N8 = K + 2 := ⟨N8 - 2, by omega⟩
    have h97 : m7.1 0 9 = nI sp := by rw [H.L7 0 9 (by unfold lvC; omega)]; exact h9
    have e8 := e8_text28 s6 H.Q.f0 H.V.s
    by_cases c : tzK B n a0 = 0
    · rw [if_pos (s5.mpr c)] at e8
      have e7 : bX7_text_50 SX7 0 (nI k) m7 = some (.inr (nI k, m7)) := by
        unfold bX7_text_50
        simp (disch := omega) only [L0, L1, L2, L3, L4, L5, L6, L7, L8, L9, L10, L11, L12, L13, L14, L15, L16, L17, L18, L19, L20, L21, L22, L23, L24, L25, L26, L27, L28, L29, L30, L31, L32, L33, L34, L35, L36, L37, L38, L39, L40, L41, L42, L43, L44, L45, L46, L47, L48, L50, L57, L59, L60, L63, L64, L65, L70, L80, L90, L97, L100, L110, L120, L122, L128, L150, L200, L208, L216, L224, L232, L240, L248, L255, L256, L264, L272, L280, L288, L296, L297, L300, L336, L337, L500, L680, L700, L998, L999, L1000, L1024, L1999, L6403, L9999, L10000, L12345, L99999, L1000000, L214424576, L412560384, L509804544, L639025541, L642945024, L658545824, L1103515245, L2147483647, g7_0, g7_1, g7_3, g7_4, g7_8, g7_13, g7_16, r7_0_0, r7_0_1, r7_0_2, r7_0_3, r7_0_4, r7_0_5, r7_0_6, r7_0_7, r7_1_0, r7_4_0, r7_4_1, r7_4_2, r7_8_0, r7_8_1, r7_8_2, r7_8_3, r7_13_0, r7_13_1, r7_16_0, r7_16_1, H.k7, c, nn_eq]
        rw [if_pos trivial]
        split <;> rfl
      exact Or.inl ⟨k, m7, m8, π, X, td, lp_r e7, lp_r e8, H.C, H.Q, H.P, H.L7, H.L8, H.l16⟩
    · have hP := tzK_0 c
      rw [if_neg (fun z => c (s5.mp z))] at e8
      have e7 := e_text50 (show k < 700 by omega) (show tzK B n a0 < 6 by omega) H.k7 h97 hp
      rw [if_neg c] at e7
      have hl : LN m7 m8 B n (tzA B n a0) sp π X td (tzP B n a0) := LN.mk hn hB hA.2.1 hp H.F H.M H.p7 H.V.p H.C H.Q H.P
      rcases x_line hl ha0 H.k7 H.w7 H.V with ⟨π', X', td', a2, F, M, b1, b2, b3, b4, b5, b6, b7, b8, b9, b10, b11, b12, b13, b14⟩ | ⟨c', pl, F, M, b1, b2, b3, b4, b5, b6, b7, b8, b9, b10⟩
      · have hA2 := tzA_le (B := B) b1
        have e4 := tzK_4 b3
        obtain ⟨m1, d1, d2, d3, d4, d5, d6, d7⟩ := e_next b6 hn hB hA2.2.1
        rw [b4, bd2_e, if_neg n1ne, d1, bd1_e] at e7
        rw [b5, bd1_e] at e8
        have g7 := lp_l (b := fun s9 : Int32 × Mm => bX7_text_50 SX7 0 s9.1 s9.2) (M := K7) (s := (nI k, m7)) e7
        have g8 := lp_l (b := fun s8 : Mm => bX8_readText_28 SX8 0 s8) (M := K8 + 1) (s := m8) e8
        rw [g7, g8]
        exact ih (n - tzA B n a2) (by omega) (tzA B n a2) (k + 1) π' X' td' m1 M K7 (K8 + 1) rfl hA2.2.1 (by omega) (by omega) (LH.mk d2 d5 d4 d6 b7 b8 (b9.ft hp d3) b10 b11 (H.L7.trans (b12.trans d3.l)) (H.L8.trans b13) (by rw [b14, H.l16, nI_add]) (by omega))
      · rw [b3, bd2_e, if_pos rfl] at e7
        rw [b7, bd1_e] at e8
        have g8 := lp_l (b := fun s8 : Mm => bX8_readText_28 SX8 0 s8) (M := K8 + 1) (s := m8) e8
        refine Or.inr ⟨c', pl, k, F, M, b1, b2, lp_r e7, b4, b5, H.L7.trans b6, ?_, b8, b9, H.L8.trans b10⟩
        rw [g8]
        exact lp_r (e8_text28F b1 b2 b8)
end LP
