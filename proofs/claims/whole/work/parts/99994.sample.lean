/-! ===== one line: how it ends; the lines of settings ===== -/
theorem f22 {m : Mm} {o j c : Nat} {v : Int32} (h : m.1 0 22 = nI c) (ho : o ≠ 0) : (u1 m o j v).1 0 22 = nI c := by rw [u1_rn (Or.inr (by omega))]; exact h
theorem f23 {m : Mm} {o j c : Nat} {v : Int32} (h : m.1 0 23 = nI c) (ho : o ≠ 0) : (u1 m o j v).1 0 23 = nI c := by rw [u1_rn (Or.inr (by omega))]; exact h
theorem lvM_2 {k : Nat} (h : 9 ≤ k) : ¬ lvM 2 k := by unfold lvM; omega
theorem lvM_3 {k : Nat} : ¬ lvM 3 k := by unfold lvM; omega
theorem updS {f : Nat → Int32} {k : Nat} {v : Int32} : upd f k v k = v := if_pos rfl
theorem updN {f : Nat → Int32} {k j : Nat} {v : Int32} (h : j ≠ k) : upd f k v j = f j := if_neg h
theorem n1ne : ¬ nI 1 = nI 0 := by decide
/-- both at the beginning of a line, behind its word -/
def LN (mF mM : Mm) (B : Nat → Nat) (n a sp : Nat) (π : Pl) (X : Nat → Nat) (td pl : Nat) : Prop := (n ≤ 700) ∧ (∀ j, j < n → B j < 256) ∧ (a ≤ n) ∧ (sp = 21 ∨ sp = 31) ∧ (TC mF B n a) ∧ (TM mM B n a) ∧ (mF.1 1 5 = nI pl) ∧ (mM.1 0 19 = nI pl) ∧ (QC mF sp π X td) ∧ (QM mM π X td) ∧ (QP π X td)
theorem LN.mk {mF mM : Mm} {B : Nat → Nat} {n a sp : Nat} {π : Pl} {X : Nat → Nat} {td pl : Nat} (h_hn : n ≤ 700) (h_hB : ∀ j, j < n → B j < 256) (h_ha : a ≤ n) (h_hsp : sp = 21 ∨ sp = 31) (h_F : TC mF B n a) (h_M : TM mM B n a) (h_p7 : mF.1 1 5 = nI pl) (h_p8 : mM.1 0 19 = nI pl) (h_C : QC mF sp π X td) (h_Q : QM mM π X td) (h_P : QP π X td) : LN mF mM B n a sp π X td pl := ⟨h_hn, h_hB, h_ha, h_hsp, h_F, h_M, h_p7, h_p8, h_C, h_Q, h_P⟩
theorem LN.hn {mF mM : Mm} {B : Nat → Nat} {n a sp : Nat} {π : Pl} {X : Nat → Nat} {td pl : Nat} (h : LN mF mM B n a sp π X td pl) : n ≤ 700 := h.1
theorem LN.hB {mF mM : Mm} {B : Nat → Nat} {n a sp : Nat} {π : Pl} {X : Nat → Nat} {td pl : Nat} (h : LN mF mM B n a sp π X td pl) : ∀ j, j < n → B j < 256 := h.2.1
theorem LN.ha {mF mM : Mm} {B : Nat → Nat} {n a sp : Nat} {π : Pl} {X : Nat → Nat} {td pl : Nat} (h : LN mF mM B n a sp π X td pl) : a ≤ n := h.2.2.1
theorem LN.hsp {mF mM : Mm} {B : Nat → Nat} {n a sp : Nat} {π : Pl} {X : Nat → Nat} {td pl : Nat} (h : LN mF mM B n a sp π X td pl) : sp = 21 ∨ sp = 31 := h.2.2.2.1
theorem LN.F {mF mM : Mm} {B : Nat → Nat} {n a sp : Nat} {π : Pl} {X : Nat → Nat} {td pl : Nat} (h : LN mF mM B n a sp π X td pl) : TC mF B n a := h.2.2.2.2.1
theorem LN.M {mF mM : Mm} {B : Nat → Nat} {n a sp : Nat} {π : Pl} {X : Nat → Nat} {td pl : Nat} (h : LN mF mM B n a sp π X td pl) : TM mM B n a := h.2.2.2.2.2.1
theorem LN.p7 {mF mM : Mm} {B : Nat → Nat} {n a sp : Nat} {π : Pl} {X : Nat → Nat} {td pl : Nat} (h : LN mF mM B n a sp π X td pl) : mF.1 1 5 = nI pl := h.2.2.2.2.2.2.1
theorem LN.p8 {mF mM : Mm} {B : Nat → Nat} {n a sp : Nat} {π : Pl} {X : Nat → Nat} {td pl : Nat} (h : LN mF mM B n a sp π X td pl) : mM.1 0 19 = nI pl := h.2.2.2.2.2.2.2.1
theorem LN.C {mF mM : Mm} {B : Nat → Nat} {n a sp : Nat} {π : Pl} {X : Nat → Nat} {td pl : Nat} (h : LN mF mM B n a sp π X td pl) : QC mF sp π X td := h.2.2.2.2.2.2.2.2.1
theorem LN.Q {mF mM : Mm} {B : Nat → Nat} {n a sp : Nat} {π : Pl} {X : Nat → Nat} {td pl : Nat} (h : LN mF mM B n a sp π X td pl) : QM mM π X td := h.2.2.2.2.2.2.2.2.2.1
theorem LN.P {mF mM : Mm} {B : Nat → Nat} {n a sp : Nat} {π : Pl} {X : Nat → Nat} {td pl : Nat} (h : LN mF mM B n a sp π X td pl) : QP π X td := h.2.2.2.2.2.2.2.2.2.2
theorem OutX.bad {B : Nat → Nat} {n sp a1 : Nat} {mF mM : Mm} {f7 : Option (Int32 × Mm)} {f8 : Option Mm} {c pl : Nat} {mF' mM' : Mm} (h0 : 0 < c) (hc : c < 9) (h7 : f7 = some (nI 0, fl7 mF' c pl)) (L7 : LC sp mF mF') (h8 : f8 = some mM') (L : LM mM mM') (h22 : mM'.1 0 22 = nI c) (h23 : mM'.1 0 23 = nI pl) : OutX B n sp a1 mF mM f7 f8 :=
  ⟨mM', h8, L, Or.inr ⟨c, pl, _, h0, hc, h22, h23, h7, fl7_0, fl7_1, L7.f⟩⟩
theorem OutX.good {B : Nat → Nat} {n sp a1 a2 : Nat} {mF mM : Mm} {f7 : Option (Int32 × Mm)} {f8 : Option Mm} {mF1 mM' : Mm} {π : Pl} {X : Nat → Nat} {td : Nat} {g : Int32 → Mm → Option (Int32 × Mm)} (hn : n ≤ 700) (hB : ∀ j, j < n → B j < 256) (hsp : sp = 21 ∨ sp = 31) (ha2 : a2 ≤ n) (h12 : a1 ≤ a2) (h7 : f7 = bd2 (fX2_readSemicolon SX7 mF1 3 1) g) (g0 : ∀ m, g (nI 0) m = some (nI 0, m)) (g1 : ∀ m, g (nI 1) m = some (nI 1, m)) (h8 : f8 = some mM') (N : NS mF1 mM' B n a2) (L7 : LC sp mF mF1) (L : LM mM mM') (C : QC mF1 sp π X td) (Q : QM mM' π X td) (P : QP π X td) (h16 : mM'.1 0 16 = mM.1 0 16) : OutX B n sp a1 mF mM f7 f8 := by
  rcases e_readSemicolon N.F hn hB ha2 with ⟨k, m1, b1, b2, b3⟩ | ⟨k, m1, b1, b2⟩
  · refine ⟨mM', h8, L, Or.inl ⟨π, X, td, a2, m1, ha2, h12, Q, P, N.M, N.V, h16, L7.trans b3.l, Or.inl ⟨k, ?_, b2, C.ft hsp b3⟩⟩⟩
    rw [h7, b1, bd2_e, g1]
  · refine ⟨mM', h8, L, Or.inl ⟨π, X, td, a2, fl7 m1 1 (tzP B n a2), ha2, h12, Q, P, N.M, N.V, h16, (L7.trans b2.l).f, Or.inr ⟨k, ?_, fl7_0, fl7_1⟩⟩⟩
    rw [h7, b1, bd2_e, g0]
/-- the model's reading of three settings once it has failed -/
theorem e8_three1 {m : Mm} {c : Nat} (h0 : 0 < c) (hc : c < 9) (h22 : m.1 0 22 = nI c) (l1 h1 l2 h2 l3 h3 : Int32) {i j k : Nat} (hi : i < 9) (hj : j < 9) (hk : k < 9) :
    (bd2 (fX8_numeral SX8 m 0 l1 h1) fun a2 m3 => bd1 (fX8_reads SX8 m3 0 (nI i) a2) fun m4 => bd2 (fX8_numeral SX8 m4 0 l2 h2) fun a5 m6 => bd1 (fX8_reads SX8 m6 0 (nI j) a5) fun m7 => bd2 (fX8_numeral SX8 m7 0 l3 h3) fun a8 m9 => bd1 (fX8_reads SX8 m9 0 (nI k) a8) fun m10 => some m10) = some (u1 (u1 (u1 m 2 (9 + i) l1) 2 (9 + j) l2) 2 (9 + k) l3) := by
  rw [e8_numeral1 h0 hc h22, bd2_e, e8_reads hi, bd1_e, e8_numeral1 h0 hc (f22 h22 (by omega)), bd2_e, e8_reads hj, bd1_e, e8_numeral1 h0 hc (f22 (f22 h22 (by omega)) (by omega)), bd2_e, e8_reads hk, bd1_e]
def k3C (m : Mm) (x l1 h1 l2 h2 l3 h3 i j k : Nat) : Option (Int32 × Mm) := bd2 (fX2_readNumber SX7 m 3 1 (nI l1) (nI h1) x (nI i)) fun a3 m4 => if a3 = nI 0 then some (nI 0, m4) else bd2 (fX2_readNumber SX7 m4 3 1 (nI l2) (nI h2) x (nI j)) fun a5 m6 => if a5 = nI 0 then some (nI 0, m6) else bd2 (fX2_readNumber SX7 m6 3 1 (nI l3) (nI h3) x (nI k)) fun a7 m8 => if a7 = nI 0 then some (nI 0, m8) else bd2 (fX2_readSemicolon SX7 m8 3 1) fun a9 m10 => if a9 = nI 0 then some (nI 0, m10) else some (nI 1, m10)
def k3M (m : Mm) (l1 h1 l2 h2 l3 h3 i j k : Nat) : Option Mm := bd2 (fX8_numeral SX8 m 0 (nI l1) (nI h1)) fun a2 m3 => bd1 (fX8_reads SX8 m3 0 (nI i) a2) fun m4 => bd2 (fX8_numeral SX8 m4 0 (nI l2) (nI h2)) fun a5 m6 => bd1 (fX8_reads SX8 m6 0 (nI j) a5) fun m7 => bd2 (fX8_numeral SX8 m7 0 (nI l3) (nI h3)) fun a8 m9 => bd1 (fX8_reads SX8 m9 0 (nI k) a8) fun m10 => some m10
theorem three2 {mF mM : Mm} {B : Nat → Nat} {n a sp : Nat} {l1 h1 l2 h2 l3 h3 i j k : Nat} (N : NS mF mM B n a) (hn : n ≤ 700) (hB : ∀ j, j < n → B j < 256) (ha : a ≤ n) (hsp : sp = 21 ∨ sp = 31) (hi : i < 7) (hj : j < 7) (hk : k < 7) (w1 : l1 ≤ 99999 ∧ h1 ≤ 99999) (w2 : l2 ≤ 99999 ∧ h2 ≤ 99999) (w3 : l3 ≤ 99999 ∧ h3 ≤ 99999) :
    (∃ c pl mF' mM', 0 < c ∧ c < 9 ∧ k3C mF (sp + 9) l1 h1 l2 h2 l3 h3 i j k = some (nI 0, fl7 mF' c pl) ∧ LC sp mF mF' ∧ k3M mM l1 h1 l2 h2 l3 h3 (i + 2) (j + 2) (k + 2) = some mM' ∧ LM mM mM' ∧ mM'.1 0 22 = nI c ∧ mM'.1 0 23 = nI pl) ∨
    (∃ v1 v2 v3 a2 mF1 mM1, (l1 ≤ v1 ∧ v1 ≤ h1) ∧ (l2 ≤ v2 ∧ v2 ≤ h2) ∧ (l3 ≤ v3 ∧ v3 ≤ h3) ∧ a2 ≤ n ∧ a ≤ a2 ∧ k3C mF (sp + 9) l1 h1 l2 h2 l3 h3 i j k = bd2 (fX2_readSemicolon SX7 mF1 3 1) (fun a9 m10 => if a9 = nI 0 then some (nI 0, m10) else some (nI 1, m10)) ∧ k3M mM l1 h1 l2 h2 l3 h3 (i + 2) (j + 2) (k + 2) = some mM1 ∧ NS mF1 mM1 B n a2 ∧ LC sp mF mF1 ∧ LM mM mM1 ∧ (∀ o, o ≠ 1 → o ≠ sp + 9 → mF1.1 o = mF.1 o) ∧ (∀ o, o ≠ 0 → o ≠ 2 → mM1.1 o = mM.1 o) ∧ (∀ j, j < 18 ∨ 21 < j → mM1.1 0 j = mM.1 0 j) ∧ mF1.1 (sp + 9) = upd (upd (upd (mF.1 (sp + 9)) i (nI v1)) j (nI v2)) k (nI v3) ∧ mM1.1 2 = upd (upd (upd (mM.1 2) (9 + (i + 2)) (nI v1)) (9 + (j + 2)) (nI v2)) (9 + (k + 2)) (nI v3)) := by
  have hx := s7_p9 hsp
  have hA1 := tzA_le (B := B) ha
  have hA2 := tzA_le (B := B) hA1.2.1
  have hA3 := tzA_le (B := B) hA2.2.1
  have l9 : ∀ j, ¬ lvC sp (sp + 9) j := fun j => by unfold lvC; omega
  unfold k3C k3M
  rcases num2 N hn hB ha (lo := l1) (hi := h1) hx (by omega) hi w1.1 w1.2 with ⟨v1, F1, M1, p1, p2, p3, p4, p5, p6, p7⟩ | ⟨c, pl, F1, p1, p2, p3, p4, p5⟩
  · have N1 : NS (u1 F1 (sp + 9) i (nI v1)) (u1 M1 2 (9 + (i + 2)) (nI v1)) B n (tzA B n a) := p5.o (by omega) (by omega) (by omega) (by omega)
    have L1 : LC sp mF (u1 F1 (sp + 9) i (nI v1)) := p6.l.u (l9 _)
    have K1 : LM mM (u1 M1 2 (9 + (i + 2)) (nI v1)) := p7.l.u (lvM_2 (by omega))
    rw [p3, p4, bd2_e, bd2_e, e8_reads (by omega), bd1_e, if_neg n1ne]
    rcases num2 N1 hn hB hA1.2.1 (lo := l2) (hi := h2) hx (by omega) hj w2.1 w2.2 with ⟨v2, F2, M2, q1, q2, q3, q4, q5, q6, q7⟩ | ⟨c, pl, F2, q1, q2, q3, q4, q5⟩
    · have N2 : NS (u1 F2 (sp + 9) j (nI v2)) (u1 M2 2 (9 + (j + 2)) (nI v2)) B n (tzA B n (tzA B n a)) := q5.o (by omega) (by omega) (by omega) (by omega)
      have L2 : LC sp mF (u1 F2 (sp + 9) j (nI v2)) := (L1.trans q6.l).u (l9 _)
      have K2 : LM mM (u1 M2 2 (9 + (j + 2)) (nI v2)) := (K1.trans q7.l).u (lvM_2 (by omega))
      rw [q3, q4, bd2_e, bd2_e, e8_reads (by omega), bd1_e, if_neg n1ne]
      rcases num2 N2 hn hB hA2.2.1 (lo := l3) (hi := h3) hx (by omega) hk w3.1 w3.2 with ⟨v3, F3, M3, r1, r2, r3, r4, r5, r6, r7⟩ | ⟨c, pl, F3, r1, r2, r3, r4, r5⟩
      · have N3 : NS (u1 F3 (sp + 9) k (nI v3)) (u1 M3 2 (9 + (k + 2)) (nI v3)) B n (tzA B n (tzA B n (tzA B n a))) := r5.o (by omega) (by omega) (by omega) (by omega)
        rw [r3, r4, bd2_e, bd2_e, e8_reads (by omega), bd1_e, if_neg n1ne]
        refine Or.inr ⟨v1, v2, v3, _, _, _, ⟨p1, p2⟩, ⟨q1, q2⟩, ⟨r1, r2⟩, hA3.2.1, by omega, rfl, rfl, N3, (L2.trans r6.l).u (l9 _), (K2.trans r7.l).u (lvM_2 (by omega)), ?_, ?_, ?_, ?_, ?_⟩
        · intro o ho ho2
          rw [u1_other ho2, r6.1 o ho, u1_other ho2, q6.1 o ho, u1_other ho2, p6.1 o ho]
        · intro o ho ho2
          rw [u1_other ho2, r7.1 o ho, u1_other ho2, q7.1 o ho, u1_other ho2, p7.1 o ho]
        · intro j hj
          rw [u1_other (by omega), r7.2 j hj, u1_other (by omega), q7.2 j hj, u1_other (by omega), p7.2 j hj]
        · rw [u1_same, r6.1 (sp + 9) (by omega), u1_same, q6.1 (sp + 9) (by omega), u1_same, p6.1 (sp + 9) (by omega)]
        · rw [u1_same, r7.1 2 (by omega), u1_same, q7.1 2 (by omega), u1_same, p7.1 2 (by omega)]
      · rw [r3, r4, bd2_e, bd2_e, e8_reads (by omega), bd1_e, if_pos rfl]
        exact Or.inl ⟨c, pl, F3, _, r1, r2, rfl, L2.trans r5.l, rfl, (K2.f).u (lvM_2 (by omega)), f22 fl8_22 (by omega), f23 fl8_23 (by omega)⟩
    · rw [q3, q4, bd2_e, bd2_e, e8_reads (by omega), bd1_e, if_pos rfl, e8_numeral1 q1 q2 (f22 fl8_22 (by omega)), bd2_e, e8_reads (by omega), bd1_e]
      exact Or.inl ⟨c, pl, F2, _, q1, q2, rfl, L1.trans q5.l, rfl, (K1.f.u (lvM_2 (by omega))).u (lvM_2 (by omega)), f22 (f22 fl8_22 (by omega)) (by omega), f23 (f23 fl8_23 (by omega)) (by omega)⟩
  · rw [p3, p4, bd2_e, bd2_e, e8_reads (by omega), bd1_e, if_pos rfl, e8_numeral1 p1 p2 (f22 fl8_22 (by omega)), bd2_e, e8_reads (by omega), bd1_e, e8_numeral1 p1 p2 (f22 (f22 fl8_22 (by omega)) (by omega)), bd2_e, e8_reads (by omega), bd1_e]
    exact Or.inl ⟨c, pl, F1, _, p1, p2, rfl, p5.l, rfl, ((LM.rfl.f.u (lvM_2 (by omega))).u (lvM_2 (by omega))).u (lvM_2 (by omega)), f22 (f22 (f22 fl8_22 (by omega)) (by omega)) (by omega), f23 (f23 (f23 fl8_23 (by omega)) (by omega)) (by omega)⟩
def gSS (a9 : Int32) (m10 : Mm) : Option (Int32 × Mm) := if a9 = nI 0 then some (nI 0, m10) else some (nI 1, m10)
theorem gS0 : ∀ m : Mm, gSS (nI 0) m = some (nI 0, m) := fun _ => if_pos rfl
theorem gS1 : ∀ m : Mm, gSS (nI 1) m = some (nI 1, m) := fun _ => if_neg n1ne
theorem L99 : (99 : Int32) = nI 99 := Eq.trans rfl rfl
