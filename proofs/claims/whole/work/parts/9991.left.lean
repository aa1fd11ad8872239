/-! ===== fair shares: what is left of a link, in the model ===== -/
def HM (m : Mm) (π : Pl) (D : Nat) (q : Nat → Nat) (H : Nat → Bool) : Prop := (∀ f, f < π.nf → H f = true → m.2 28 f = lI (rdU (q f) D)) ∧ (∀ f, f < π.nf → H f = true → m.2 29 f = lI (rdL (q f) D)) ∧ (∀ f, f < π.nf → m.1 30 f = nI (bO (H f)))
theorem HM.mk {m : Mm} {π : Pl} {D : Nat} {q : Nat → Nat} {H : Nat → Bool} (h_up : ∀ f, f < π.nf → H f = true → m.2 28 f = lI (rdU (q f) D)) (h_lo : ∀ f, f < π.nf → H f = true → m.2 29 f = lI (rdL (q f) D)) (h_dn : ∀ f, f < π.nf → m.1 30 f = nI (bO (H f))) : HM m π D q H := ⟨h_up, h_lo, h_dn⟩
theorem HM.up {m : Mm} {π : Pl} {D : Nat} {q : Nat → Nat} {H : Nat → Bool} (h : HM m π D q H) : ∀ f, f < π.nf → H f = true → m.2 28 f = lI (rdU (q f) D) := h.1
theorem HM.lo {m : Mm} {π : Pl} {D : Nat} {q : Nat → Nat} {H : Nat → Bool} (h : HM m π D q H) : ∀ f, f < π.nf → H f = true → m.2 29 f = lI (rdL (q f) D) := h.2.1
theorem HM.dn {m : Mm} {π : Pl} {D : Nat} {q : Nat → Nat} {H : Nat → Bool} (h : HM m π D q H) : ∀ f, f < π.nf → m.1 30 f = nI (bO (H f)) := h.2.2
def FL (m m' : Mm) : Prop := m'.1 = m.1 ∧ ∀ o, o ≠ 0 → m'.2 o = m.2 o
theorem FL.rfl {m : Mm} : FL m m := ⟨Eq.refl _, fun _ _ => Eq.refl _⟩
theorem FL.trans {m m' m'' : Mm} (h : FL m m') (h2 : FL m' m'') : FL m m'' := ⟨h2.1.trans h.1, fun o ho => (h2.2 o ho).trans (h.2 o ho)⟩
theorem FL.t {m : Mm} {a b : Int64} : FL m (u2 (u2 m 0 46 a) 0 47 b) := ⟨Eq.refl _, fun o ho => by rw [u2_other ho, u2_other ho]⟩
theorem HM.fl {m m' : Mm} {π : Pl} {D : Nat} {q : Nat → Nat} {H : Nat → Bool} (h : HM m π D q H) (f : FL m m') : HM m' π D q H := HM.mk (by rw [f.2 28 (by omega)]; exact h.up) (by rw [f.2 29 (by omega)]; exact h.lo) (by rw [f.1]; exact h.dn)
theorem PM.fl {m m' : Mm} {π : Pl} (h : PM m π) (f : FL m m') : PM m' π := h.eq (fun o _ _ _ => by rw [f.1])
theorem RM.fl {m m' : Mm} {X : Nat → Nat} (h : RM m X) (f : FL m m') : RM m' X := RG.m (by rw [f.1]; exact h.g)
theorem onL_hp {π : Pl} {l f : Nat} : onL π l f = true ↔ π.hp f l ≠ 0 := by
  unfold onL
  rcases Pl.hp_of (π := π) (f := f) (l := l) with ⟨h1, h2⟩ | ⟨h1, h2⟩ | ⟨i, h1, h2⟩
  · simp [h1, h2]
  · simp [h1, h2]
  · simp [h1, h2]
theorem hpF_ex {path : Nat → Nat} {l n : Nat} : hpF path l n ≠ 0 ↔ ∃ i, i < n ∧ path i = l := by
  induction n with
  | zero => exact ⟨fun h => absurd rfl h, fun ⟨i, hi, _⟩ => by omega⟩
  | succ n ih =>
    rw [hpF_s]
    by_cases c : hpF path l n = 0
    · rw [if_neg (fun z => z c)]
      have hno : ¬ ∃ i, i < n ∧ path i = l := fun z => ih.mpr z c
      by_cases e : path n = l
      · rw [if_pos e]
        exact ⟨fun _ => ⟨n, by omega, e⟩, fun _ => by omega⟩
      · rw [if_neg e]
        refine ⟨fun z => absurd rfl z, fun ⟨i, hi, hp⟩ => ?_⟩
        by_cases e2 : i = n
        · subst e2; exact absurd hp e
        · exact absurd ⟨i, by omega, hp⟩ hno
    · rw [if_pos c]
      refine ⟨fun _ => ?_, fun _ => c⟩
      obtain ⟨i, hi, hp⟩ := ih.mp c
      exact ⟨i, by omega, hp⟩
theorem onL_ex {π : Pl} {l f : Nat} : onL π l f = true ↔ ∃ i, i < π.hops f ∧ π.path f i = l := onL_hp.trans hpF_ex
section LF
variable {m : Mm} {π : Pl} {X : Nat → Nat} {D s : Nat} {q : Nat → Nat} {H : Nat → Bool}
theorem e8_leftOf (P : PM m π) (R : RM m X) (O : π.ok) (hon : ∀ f, f < 8 → X (264 + f) ≤ 1) (h : HM m π D q H) (w : WL π X D q H s) {l : Nat} (hl : l < π.nl) : ∃ m', fX8_leftOf SX8 m 0 (nI l) = some (nI (grL π H l), m') ∧ m'.2 0 46 = lI (rdU (frL π D q H l) D) ∧ m'.2 0 47 = lI (rdL (frL π D q H l) D) ∧ FL m m' := by
  have hnl := O.nl
  have hnf := O.nf
  have hb := w.b O hl
  have hD := w.D O
  have hd1 := w.d1
  have hc := (O.cap l hl)
  unfold fX8_leftOf
  simp (disch := omega) only [L0, L1, L2, L3, L4, L5, L6, L7, L8, L9, L10, L11, L12, L13, L14, L15, L16, L17, L18, L19, L20, L21, L22, L23, L24, L25, L26, L27, L28, L29, L30, L31, L32, L33, L34, L35, L36, L37, L38, L39, L40, L41, L42, L43, L44, L45, L46, L47, L48, L50, L57, L59, L60, L63, L64, L65, L70, L80, L90, L97, L100, L110, L120, L122, L128, L150, L200, L208, L216, L224, L232, L240, L248, L255, L256, L264, L272, L280, L288, L296, L297, L300, L336, L337, L500, L680, L700, L998, L999, L1000, L1024, L1999, L6403, L9999, L10000, L12345, L99999, L1000000, L214424576, L412560384, L509804544, L639025541, L642945024, L658545824, L1103515245, L2147483647, g8_0, r8_1, r8_3, r8_4, r8_5, r8_6, r8_7, r8_8, r8_9, r8_10, r8_11, r8_12, r8_13, r8_14, r8_15, r8_26, r8_27, r8_28, r8_29, r8_30, r8_33, r8_34, r8_35, r8_36, r8_37, r8_39, r8_40, r8_41, r8_43, r8_44, r8_45, ldA_n s8_5, P.cap l hl, bd1_e, nI_L, LL1, e8_tells]
  obtain ⟨r, a1, a2, a3, a4, a5⟩ := lp_n (b := fun s11 : Int32 × Int32 × Mm => bX8_leftOf_16 SX8 0 (nI l) s11.1 s11.2.1 s11.2.2) (N := fu) (s0 := (nI 0, nI 0, u2 (u2 m 0 46 (lI (rdU (π.cap l) 1))) 0 47 (lI (rdL (π.cap l) 1))))
    (fun k s => s.2.1 = nI k ∧ s.1 = nI (sm k (grF π H l)) ∧ s.2.2.2 0 46 = lI (rdU (π.cap l * D - sm k (hsF π H q l)) D) ∧ s.2.2.2 0 47 = lI (rdL (π.cap l * D - sm k (hsF π H q l)) D) ∧ FL m s.2.2)
    (fun r => r.1 = nI (grL π H l) ∧ r.2.2 0 46 = lI (rdU (frL π D q H l) D) ∧ r.2.2 0 47 = lI (rdL (frL π D q H l) D) ∧ FL m r.2) π.nf
    ⟨rfl, rfl, by
      have e := rd_eq (a := π.cap l) (b := 1) (c := π.cap l * D) (d := D) (by omega) (by omega) (by omega)
      rw [u2_rn (Or.inl (by omega)), u2_rs, e.1]; rfl, by
      have e := rd_eq (a := π.cap l) (b := 1) (c := π.cap l * D) (d := D) (by omega) (by omega) (by omega)
      rw [u2_rs, e.2]; rfl, FL.t⟩ (by unfold fu; omega)
    (by
      rintro k ⟨x2, x3, m1⟩ hk ⟨e3, e2, b1, b2, F1⟩
      dsimp only at e3 e2 b1 b2 F1 ⊢
      subst e3 e2
      have P1 := P.fl F1
      have R1 := R.fl F1
      have h1 := h.fl F1
      have hpre := sm_pre (f := hsF π H q l) (show k + 1 ≤ π.nf by omega)
      rw [sm_s] at hpre
      have hb1 := hb.1
      unfold hsL at hb1
      have hon' := hon k (by omega)
      refine Or.inl ?_
      unfold bX8_leftOf_16 jX8_leftOf_98
      simp (disch := omega) only [L0, L1, L2, L3, L4, L5, L6, L7, L8, L9, L10, L11, L12, L13, L14, L15, L16, L17, L18, L19, L20, L21, L22, L23, L24, L25, L26, L27, L28, L29, L30, L31, L32, L33, L34, L35, L36, L37, L38, L39, L40, L41, L42, L43, L44, L45, L46, L47, L48, L50, L57, L59, L60, L63, L64, L65, L70, L80, L90, L97, L100, L110, L120, L122, L128, L150, L200, L208, L216, L224, L232, L240, L248, L255, L256, L264, L272, L280, L288, L296, L297, L300, L336, L337, L500, L680, L700, L998, L999, L1000, L1024, L1999, L6403, L9999, L10000, L12345, L99999, L1000000, L214424576, L412560384, L509804544, L639025541, L642945024, L658545824, L1103515245, L2147483647, g8_0, r8_1, r8_3, r8_4, r8_5, r8_6, r8_7, r8_8, r8_9, r8_10, r8_11, r8_12, r8_13, r8_14, r8_15, r8_26, r8_27, r8_28, r8_29, r8_30, r8_33, r8_34, r8_35, r8_36, r8_37, r8_39, r8_40, r8_41, r8_43, r8_44, r8_45, e8_flows P1, bd1_e, nn_le, e8_isOn R1, nn_eq, e8_hopOf P1 O hk (show l < 10 by omega), ldA_n s8_30, h1.dn k hk, nI_add, ldL_n s8_28, ldL_n s8_29, b1, b2]
      rw [if_neg (by omega)]
      have skip : hsF π H q l k = 0 → grF π H l k = 0 → ∃ s', some (Sum.inl (nI (sm k (grF π H l)), nI (k + 1), m1)) = some (Sum.inl s' : (Int32 × Int32 × Mm) ⊕ (Int32 × Mm)) ∧ s'.2.1 = nI (k + 1) ∧ s'.1 = nI (sm (k + 1) (grF π H l)) ∧ s'.2.2.2 0 46 = lI (rdU (π.cap l * D - sm (k + 1) (hsF π H q l)) D) ∧ s'.2.2.2 0 47 = lI (rdL (π.cap l * D - sm (k + 1) (hsF π H q l)) D) ∧ FL m s'.2.2 := by
        intro z1 z2
        refine ⟨_, rfl, rfl, ?_, ?_, ?_, F1⟩
        · rw [sm_s, z2]; rfl
        · rw [sm_s, z1, Nat.add_zero]; exact b1
        · rw [sm_s, z1, Nat.add_zero]; exact b2
      by_cases c1 : X (264 + k) = 0
      · rw [if_pos c1]
        obtain ⟨z1, z2⟩ := w.off k hk (by omega)
        refine skip ?_ ?_
        · unfold hsF; split <;> omega
        · unfold grF; rw [if_neg (by rw [z1]; simp)]
      · rw [if_neg c1]
        by_cases c2 : π.hp k l = 0
        · rw [c2, if_neg (fun z => z (show nxI 0 = -nI 1 from rfl))]
          have ho : ¬ onL π l k = true := fun z => onL_hp.mp z c2
          refine skip ?_ ?_
          · unfold hsF; rw [if_neg (fun z => ho z.1)]
          · unfold grF; rw [if_neg (fun z => ho z.1)]
        · have hle := π.hp_le k l
          have hh := O.hops k hk
          rw [nxI_p c2, if_pos (by rw [nI_m1 (by omega)]; exact not_false)]
          have ho : onL π l k = true := onL_hp.mpr c2
          cases hH : H k with
          | false =>
            have z1 : hsF π H q l k = 0 := by unfold hsF; rw [if_neg (by rw [hH]; simp)]
            have z2 : grF π H l k = 1 := by unfold grF; rw [if_pos ⟨ho, hH⟩]
            rw [if_pos (show nI (bO false) = nI 0 from rfl)]
            refine ⟨_, rfl, rfl, ?_, ?_, ?_, F1⟩
            · rw [sm_s, z2]
            · rw [sm_s, z1, Nat.add_zero]; exact b1
            · rw [sm_s, z1, Nat.add_zero]; exact b2
          | true =>
            have z1 : hsF π H q l k = q k := by unfold hsF; rw [if_pos ⟨ho, hH⟩]
            have z2 : grF π H l k = 0 := by unfold grF; rw [if_neg (by rw [hH]; simp)]
            rw [if_neg (show ¬ nI (bO true) = nI 0 by decide), h1.up k hk hH, h1.lo k hk hH]
            rw [z1] at hpre
            generalize hFk : π.cap l * D - sm k (hsF π H q l) = F at *
            have hqF : q k ≤ F := by omega
            have hF : F ≤ 16384 := by omega
            obtain ⟨s1, s2, s3⟩ := rd_sub (F := F) (q := q k) (D := D) (by omega) hqF
            have u1 := rdU_le F D
            have u2' := rdL_le F D
            have u3 := rdU_le (q k) D
            have u4 := rdL_le (q k) D
            have u5 := rdL_0 (a := F) (b := D) (by omega)
            have u6 := rdL_0 (a := q k) (b := D) (by omega)
            have v1 := mul_b (show rdU F D ≤ 16384 by omega) (show rdL (q k) D ≤ 256 by omega)
            have v2 := mul_b (show rdL F D ≤ 256 by omega) (show rdL (q k) D ≤ 256 by omega)
            have v3 := Nat.mul_pos u5 u6
            rw [lI_mul, lI_mul, lI_mul, lI_sub s1, e8_tells (by omega) v3 (by omega), bd1_e, s2, s3]
            refine ⟨_, rfl, rfl, ?_, ?_, ?_, F1.trans FL.t⟩
            · rw [sm_s, z2]; rfl
            · dsimp only; rw [u2_rn (Or.inl (by omega)), u2_rs, sm_s, z1, ← Nat.sub_sub, hFk]
            · dsimp only; rw [u2_rs, sm_s, z1, ← Nat.sub_sub, hFk])
    (by
      rintro ⟨x2, x3, m1⟩ ⟨e3, e2, b1, b2, F1⟩
      dsimp only at e3 e2 b1 b2 F1 ⊢
      subst e3 e2
      have P1 := P.fl F1
      unfold bX8_leftOf_16
      simp (disch := omega) only [L0, L1, L2, L3, L4, L5, L6, L7, L8, L9, L10, L11, L12, L13, L14, L15, L16, L17, L18, L19, L20, L21, L22, L23, L24, L25, L26, L27, L28, L29, L30, L31, L32, L33, L34, L35, L36, L37, L38, L39, L40, L41, L42, L43, L44, L45, L46, L47, L48, L50, L57, L59, L60, L63, L64, L65, L70, L80, L90, L97, L100, L110, L120, L122, L128, L150, L200, L208, L216, L224, L232, L240, L248, L255, L256, L264, L272, L280, L288, L296, L297, L300, L336, L337, L500, L680, L700, L998, L999, L1000, L1024, L1999, L6403, L9999, L10000, L12345, L99999, L1000000, L214424576, L412560384, L509804544, L639025541, L642945024, L658545824, L1103515245, L2147483647, e8_flows P1, bd1_e, nn_le]
      rw [if_pos (by omega)]
      exact ⟨_, rfl, rfl, b1, b2, F1⟩)
  rw [a1, bd1_e]
  exact ⟨r.2, by rw [a2], a3, a4, a5⟩
end LF
