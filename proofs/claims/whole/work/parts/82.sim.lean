/-! ===== the two states side by side ===== -/
def NB (π : Pl) (X : Nat → Nat) : Prop := sm π.nl (fun l => X (80 + l)) = sm π.nf (fun f => X (256 + f))
def K2 (π : Pl) (X : Nat → Nat) : Prop := K π X ∧ NB π X
theorem NB.same {π : Pl} {X Y : Nat → Nat} (O : π.ok) (h : NB π X) (e : ∀ i, (80 ≤ i ∧ i < 90) ∨ (256 ≤ i ∧ i < 264) → Y i = X i) : NB π Y := by
  have hnl := O.nl
  have hnf := O.nf
  unfold NB at *
  rw [sm_congr (fun l hl => e (80 + l) (by omega)), sm_congr (fun f hf => e (256 + f) (by omega))]
  exact h
theorem sm_up1 {n b k : Nat} {X : Nat → Nat} (hk : k < n) : sm n (fun j => up1 (b + k) X (b + j)) = sm n (fun j => X (b + j)) + 1 := by
  have h := sm_upd (n := n) (f := fun j => X (b + j)) (k := k) (v := X (b + k) + 1) hk
  have e : sm n (fun j => up1 (b + k) X (b + j)) = sm n (fun j => if j = k then X (b + k) + 1 else X (b + j)) := by
    apply sm_congr
    intro j hj
    by_cases c : j = k
    · subst c; rw [up1_s, if_pos rfl]
    · rw [up1_o (by omega), if_neg c]
  omega
theorem NB.smp {π : Pl} (O : π.ok) {X : Nat → Nat} (h : NB π X) {l : Nat} (hl : l < π.nl) : NB π (sampA π l X) := by
  have hnl := O.nl
  have hnf := O.nf
  have hle := smM_le π l X π.nf
  unfold sampA
  split
  · rename_i hz
    refine h.same O (fun i hi => ?_)
    by_cases c : i = 80 + l
    · subst c
      unfold sampL
      by_cases e : smM π l X π.nf = 0
      · rw [if_pos e, upN_n (by omega)]
      · rw [if_neg e]
        have e2 : ntc π (fbk π l X) = 0 := by unfold sampN at hz; rw [if_neg e] at hz; exact hz
        rw [if_pos e2, upN_n (by omega), up1_o (by omega), upN_n (by omega)]
    · exact sampL_o (by omega)
  · rename_i hz
    have h0 : smM π l X π.nf ≠ 0 := fun c => hz (by unfold sampN; rw [if_pos c])
    have e2 : ¬ ntc π (fbk π l X) = 0 := by unfold sampN at hz; rw [if_neg h0] at hz; exact hz
    have eL : sampL π l X (80 + l) = X (80 + l) + 1 := by
      unfold sampL
      rw [if_neg h0, if_neg e2, up1_s, upN_n (by omega), up1_o (by omega), upN_n (by omega)]
    generalize hf : smM π l X π.nf - 1 = f
    have hfn : f < π.nf := by omega
    unfold NB at *
    have a1 : sm π.nl (fun j => obA f (sampN π l X) (sampL π l X) (80 + j)) = sm π.nl (fun j => up1 (80 + l) X (80 + j)) := by
      apply sm_congr
      intro j hj
      rw [obA_o (by omega)]
      by_cases c : j = l
      · subst c; rw [eL, up1_s]
      · rw [sampL_o (by omega), up1_o (by omega)]
    have a2 : sm π.nf (fun j => obA f (sampN π l X) (sampL π l X) (256 + j)) = sm π.nf (fun j => up1 (256 + f) X (256 + j)) := by
      apply sm_congr
      intro j hj
      by_cases c : j = f
      · subst c
        rw [up1_s]
        unfold obA
        rw [upN_n (by omega), upN_n (by omega), upN_n (by omega), upN_n (by omega), upN_n (by omega), upN_n (by omega), upN_s, sampL_o (by omega)]
      · rw [obA_o (by omega), sampL_o (by omega), up1_o (by omega)]
    rw [a1, a2, sm_up1 hl, sm_up1 hfn, h]
theorem K2.step {π : Pl} (O : π.ok) {X : Nat → Nat} (h : K2 π X) : K2 π (stepA π X) := by
  have hnl := O.nl
  have hnf := O.nf
  refine ⟨h.1.step O, ?_⟩
  have h3 : NB π (st3 π (st2 π (st1 π X))) := by
    refine h.2.same O (fun i hi => ?_)
    have e3 : ∀ Y, st3 π Y i = Y i := fun Y => it_o (fun k Z hk => by
      unfold arsA
      rw [askA_o (by omega)]
      split
      · rfl
      · exact arrA_o O (by omega) (by omega))
    rw [e3, st2_o O (by omega), st1_o O (by omega)]
  have h4 : NB π (st4 π (st3 π (st2 π (st1 π X)))) := it_inv (P := fun _ Y => NB π Y) h3 (fun k Y hk hY => by
    by_cases c : Y (90 + k) = 0
    · rw [smpA_e0 c]; exact hY
    · rw [smpA_e1 c]; exact hY.smp O hk)
  refine h4.same O (fun i hi => ?_)
  unfold stepA
  rw [up1_o (by omega), st5_o O (by omega)]
theorem K.same {π : Pl} {X Y : Nat → Nat} (O : π.ok) (h : K π X) (e : ∀ i, i < 297 → Y i = X i) : K π Y :=
  ⟨h.1.same O (fun i hi _ _ _ _ => e i hi), fun f hf => by rw [e _ (by omega), e _ (by omega), e _ (by omega), e _ (by omega)]; exact h.2 f hf⟩
theorem K2.same {π : Pl} {X Y : Nat → Nat} (O : π.ok) (h : K2 π X) (e : ∀ i, i < 297 → Y i = X i) : K2 π Y := ⟨h.1.same O e, h.2.same O (fun i hi => e i (by omega))⟩
/-- a row of the model, wherever it lies -/
def RG (g : Nat → Int32) (Y : Nat → Nat) : Prop := RM ((fun _ => g), (fun _ _ => 0)) Y
theorem RM.g {m : Mm} {Y : Nat → Nat} (h : RM m Y) : RG (m.1 15) Y := h
theorem RG.m {m : Mm} {Y : Nat → Nat} (h : RG (m.1 15) Y) : RM m Y := h
theorem RG.eq {g g' : Nat → Int32} {Y : Nat → Nat} (h : RG g Y) (e : ∀ k, k < 337 → g' k = g k) : RG g' Y := by
  unfold RG at *
  refine RM.mk ?_ ?_ ?_ ?_ ?_ ?_ ?_ ?_ ?_ ?_ ?_ ?_ ?_ ?_ ?_ ?_ ?_ ?_ ?_ ?_ ?_ ?_ ?_ ?_ ?_
  · intro a ha; exact (e _ (by omega)).trans (h.xoff a ha)
  · intro a ha; exact (e _ (by omega)).trans (h.xon a ha)
  · intro a ha; exact (e _ (by omega)).trans (h.size a ha)
  · intro a ha; exact (e _ (by omega)).trans (h.lost a ha)
  · intro a ha; exact (e _ (by omega)).trans (h.peak a ha)
  · intro a ha; exact (e _ (by omega)).trans (h.samples a ha)
  · intro a ha; exact (e _ (by omega)).trans (h.noted a ha)
  · intro a ha; exact (e _ (by omega)).trans (h.carried a ha)
  · intro a ha; exact (e _ (by omega)).trans (h.count a ha)
  · intro a ha; exact (e _ (by omega)).trans (h.was a ha)
  · intro a b ha hb; exact (e _ (by omega)).trans (h.bits a b ha hb)
  · intro a b ha hb; exact (e _ (by omega)).trans (h.q a b ha hb)
  · intro a ha; exact (e _ (by omega)).trans (h.rate a ha)
  · intro a ha; exact (e _ (by omega)).trans (h.target a ha)
  · intro a ha; exact (e _ (by omega)).trans (h.stc a ha)
  · intro a ha; exact (e _ (by omega)).trans (h.stt a ha)
  · intro a ha; exact (e _ (by omega)).trans (h.sent a ha)
  · intro a ha; exact (e _ (by omega)).trans (h.deliv a ha)
  · intro a ha; exact (e _ (by omega)).trans (h.notices a ha)
  · intro a ha; exact (e _ (by omega)).trans (h.on a ha)
  · intro a ha; exact (e _ (by omega)).trans (h.credit a ha)
  · intro a ha; exact (e _ (by omega)).trans (h.byc a ha)
  · intro a ha; exact (e _ (by omega)).trans (h.byt a ha)
  · intro a ha; exact (e _ (by omega)).trans (h.flost a ha)
  · exact (e _ (by omega)).trans h.tick
def iz : Option (Nat → Nat) → Nat
  | none => 0
  | some _ => 1
def b8 (k : Nat) : Int32 := (nI k).toInt8.toInt32
def SF (m : Mm) (π : Pl) (X : Nat → Nat) (U : List (Nat → Nat)) (I : Option (Nat → Nat)) (p : Nat) (top : Nat) (tl : Nat) (B : Nat → Nat) (fc : Int32) (fp : Int32) : Prop := (p = 21 ∨ p = 31) ∧ (m.1 0 8 = nI p) ∧ (m.1 0 9 = nI (52 - p)) ∧ (m.1 0 10 = fc) ∧ (m.1 0 11 = fp) ∧ (PF m p π) ∧ (CF m 19 X) ∧ (m.1 16 3 = nI U.length) ∧ (m.1 16 4 = nI top) ∧ (top < 20) ∧ (∀ j Y, U[j]? = some Y → ∀ i, i < 297 → m.1 17 ((top + 19 - j) % 20 * 297 + i) = nI (Y i)) ∧ (m.1 16 2 = nI (iz I)) ∧ (∀ Y, I = some Y → ∀ i, i < 297 → m.1 18 i = nI (Y i)) ∧ (m.1 1 1 = nI tl) ∧ (∀ j, j < tl → m.1 2 j = b8 (B j))
theorem SF.mk {m : Mm} {π : Pl} {X : Nat → Nat} {U : List (Nat → Nat)} {I : Option (Nat → Nat)} {p : Nat} {top : Nat} {tl : Nat} {B : Nat → Nat} {fc : Int32} {fp : Int32} (h_hp : p = 21 ∨ p = 31) (h_pl : m.1 0 8 = nI p) (h_sp : m.1 0 9 = nI (52 - p)) (h_fc : m.1 0 10 = fc) (h_fp : m.1 0 11 = fp) (h_P : PF m p π) (h_C : CF m 19 X) (h_steps : m.1 16 3 = nI U.length) (h_top : m.1 16 4 = nI top) (h_tlt : top < 20) (h_rows : ∀ j Y, U[j]? = some Y → ∀ i, i < 297 → m.1 17 ((top + 19 - j) % 20 * 297 + i) = nI (Y i)) (h_him : m.1 16 2 = nI (iz I)) (h_im : ∀ Y, I = some Y → ∀ i, i < 297 → m.1 18 i = nI (Y i)) (h_len : m.1 1 1 = nI tl) (h_by : ∀ j, j < tl → m.1 2 j = b8 (B j)) : SF m π X U I p top tl B fc fp := ⟨h_hp, h_pl, h_sp, h_fc, h_fp, h_P, h_C, h_steps, h_top, h_tlt, h_rows, h_him, h_im, h_len, h_by⟩
theorem SF.hp {m : Mm} {π : Pl} {X : Nat → Nat} {U : List (Nat → Nat)} {I : Option (Nat → Nat)} {p : Nat} {top : Nat} {tl : Nat} {B : Nat → Nat} {fc : Int32} {fp : Int32} (h : SF m π X U I p top tl B fc fp) : p = 21 ∨ p = 31 := h.1
theorem SF.pl {m : Mm} {π : Pl} {X : Nat → Nat} {U : List (Nat → Nat)} {I : Option (Nat → Nat)} {p : Nat} {top : Nat} {tl : Nat} {B : Nat → Nat} {fc : Int32} {fp : Int32} (h : SF m π X U I p top tl B fc fp) : m.1 0 8 = nI p := h.2.1
theorem SF.sp {m : Mm} {π : Pl} {X : Nat → Nat} {U : List (Nat → Nat)} {I : Option (Nat → Nat)} {p : Nat} {top : Nat} {tl : Nat} {B : Nat → Nat} {fc : Int32} {fp : Int32} (h : SF m π X U I p top tl B fc fp) : m.1 0 9 = nI (52 - p) := h.2.2.1
theorem SF.fc {m : Mm} {π : Pl} {X : Nat → Nat} {U : List (Nat → Nat)} {I : Option (Nat → Nat)} {p : Nat} {top : Nat} {tl : Nat} {B : Nat → Nat} {fc : Int32} {fp : Int32} (h : SF m π X U I p top tl B fc fp) : m.1 0 10 = fc := h.2.2.2.1
theorem SF.fp {m : Mm} {π : Pl} {X : Nat → Nat} {U : List (Nat → Nat)} {I : Option (Nat → Nat)} {p : Nat} {top : Nat} {tl : Nat} {B : Nat → Nat} {fc : Int32} {fp : Int32} (h : SF m π X U I p top tl B fc fp) : m.1 0 11 = fp := h.2.2.2.2.1
theorem SF.P {m : Mm} {π : Pl} {X : Nat → Nat} {U : List (Nat → Nat)} {I : Option (Nat → Nat)} {p : Nat} {top : Nat} {tl : Nat} {B : Nat → Nat} {fc : Int32} {fp : Int32} (h : SF m π X U I p top tl B fc fp) : PF m p π := h.2.2.2.2.2.1
theorem SF.C {m : Mm} {π : Pl} {X : Nat → Nat} {U : List (Nat → Nat)} {I : Option (Nat → Nat)} {p : Nat} {top : Nat} {tl : Nat} {B : Nat → Nat} {fc : Int32} {fp : Int32} (h : SF m π X U I p top tl B fc fp) : CF m 19 X := h.2.2.2.2.2.2.1
theorem SF.steps {m : Mm} {π : Pl} {X : Nat → Nat} {U : List (Nat → Nat)} {I : Option (Nat → Nat)} {p : Nat} {top : Nat} {tl : Nat} {B : Nat → Nat} {fc : Int32} {fp : Int32} (h : SF m π X U I p top tl B fc fp) : m.1 16 3 = nI U.length := h.2.2.2.2.2.2.2.1
theorem SF.top {m : Mm} {π : Pl} {X : Nat → Nat} {U : List (Nat → Nat)} {I : Option (Nat → Nat)} {p : Nat} {top : Nat} {tl : Nat} {B : Nat → Nat} {fc : Int32} {fp : Int32} (h : SF m π X U I p top tl B fc fp) : m.1 16 4 = nI top := h.2.2.2.2.2.2.2.2.1
theorem SF.tlt {m : Mm} {π : Pl} {X : Nat → Nat} {U : List (Nat → Nat)} {I : Option (Nat → Nat)} {p : Nat} {top : Nat} {tl : Nat} {B : Nat → Nat} {fc : Int32} {fp : Int32} (h : SF m π X U I p top tl B fc fp) : top < 20 := h.2.2.2.2.2.2.2.2.2.1
theorem SF.rows {m : Mm} {π : Pl} {X : Nat → Nat} {U : List (Nat → Nat)} {I : Option (Nat → Nat)} {p : Nat} {top : Nat} {tl : Nat} {B : Nat → Nat} {fc : Int32} {fp : Int32} (h : SF m π X U I p top tl B fc fp) : ∀ j Y, U[j]? = some Y → ∀ i, i < 297 → m.1 17 ((top + 19 - j) % 20 * 297 + i) = nI (Y i) := h.2.2.2.2.2.2.2.2.2.2.1
theorem SF.him {m : Mm} {π : Pl} {X : Nat → Nat} {U : List (Nat → Nat)} {I : Option (Nat → Nat)} {p : Nat} {top : Nat} {tl : Nat} {B : Nat → Nat} {fc : Int32} {fp : Int32} (h : SF m π X U I p top tl B fc fp) : m.1 16 2 = nI (iz I) := h.2.2.2.2.2.2.2.2.2.2.2.1
theorem SF.im {m : Mm} {π : Pl} {X : Nat → Nat} {U : List (Nat → Nat)} {I : Option (Nat → Nat)} {p : Nat} {top : Nat} {tl : Nat} {B : Nat → Nat} {fc : Int32} {fp : Int32} (h : SF m π X U I p top tl B fc fp) : ∀ Y, I = some Y → ∀ i, i < 297 → m.1 18 i = nI (Y i) := h.2.2.2.2.2.2.2.2.2.2.2.2.1
theorem SF.len {m : Mm} {π : Pl} {X : Nat → Nat} {U : List (Nat → Nat)} {I : Option (Nat → Nat)} {p : Nat} {top : Nat} {tl : Nat} {B : Nat → Nat} {fc : Int32} {fp : Int32} (h : SF m π X U I p top tl B fc fp) : m.1 1 1 = nI tl := h.2.2.2.2.2.2.2.2.2.2.2.2.2.1
theorem SF.by {m : Mm} {π : Pl} {X : Nat → Nat} {U : List (Nat → Nat)} {I : Option (Nat → Nat)} {p : Nat} {top : Nat} {tl : Nat} {B : Nat → Nat} {fc : Int32} {fp : Int32} (h : SF m π X U I p top tl B fc fp) : ∀ j, j < tl → m.1 2 j = b8 (B j) := h.2.2.2.2.2.2.2.2.2.2.2.2.2.2
def SM (m : Mm) (π : Pl) (X : Nat → Nat) (U : List (Nat → Nat)) (I : Option (Nat → Nat)) (tl : Nat) (B : Nat → Nat) (fc : Int32) (fp : Int32) : Prop := (PM m π) ∧ (RM m X) ∧ (m.1 0 31 = nI U.length) ∧ (∀ j Y, U[j]? = some Y → RG (fun k => m.1 19 (337 * (U.length - 1 - j) + k)) Y) ∧ (m.1 0 32 = nI (iz I)) ∧ (∀ Y, I = some Y → RG (m.1 18) Y) ∧ (m.1 0 2 = nI tl) ∧ (∀ j, j < tl → m.1 1 j = nI (B j)) ∧ (m.1 0 24 = fc) ∧ (m.1 0 25 = fp)
theorem SM.mk {m : Mm} {π : Pl} {X : Nat → Nat} {U : List (Nat → Nat)} {I : Option (Nat → Nat)} {tl : Nat} {B : Nat → Nat} {fc : Int32} {fp : Int32} (h_P : PM m π) (h_R : RM m X) (h_und : m.1 0 31 = nI U.length) (h_rows : ∀ j Y, U[j]? = some Y → RG (fun k => m.1 19 (337 * (U.length - 1 - j) + k)) Y) (h_him : m.1 0 32 = nI (iz I)) (h_im : ∀ Y, I = some Y → RG (m.1 18) Y) (h_len : m.1 0 2 = nI tl) (h_by : ∀ j, j < tl → m.1 1 j = nI (B j)) (h_lf : m.1 0 24 = fc) (h_lp : m.1 0 25 = fp) : SM m π X U I tl B fc fp := ⟨h_P, h_R, h_und, h_rows, h_him, h_im, h_len, h_by, h_lf, h_lp⟩
theorem SM.P {m : Mm} {π : Pl} {X : Nat → Nat} {U : List (Nat → Nat)} {I : Option (Nat → Nat)} {tl : Nat} {B : Nat → Nat} {fc : Int32} {fp : Int32} (h : SM m π X U I tl B fc fp) : PM m π := h.1
theorem SM.R {m : Mm} {π : Pl} {X : Nat → Nat} {U : List (Nat → Nat)} {I : Option (Nat → Nat)} {tl : Nat} {B : Nat → Nat} {fc : Int32} {fp : Int32} (h : SM m π X U I tl B fc fp) : RM m X := h.2.1
theorem SM.und {m : Mm} {π : Pl} {X : Nat → Nat} {U : List (Nat → Nat)} {I : Option (Nat → Nat)} {tl : Nat} {B : Nat → Nat} {fc : Int32} {fp : Int32} (h : SM m π X U I tl B fc fp) : m.1 0 31 = nI U.length := h.2.2.1
theorem SM.rows {m : Mm} {π : Pl} {X : Nat → Nat} {U : List (Nat → Nat)} {I : Option (Nat → Nat)} {tl : Nat} {B : Nat → Nat} {fc : Int32} {fp : Int32} (h : SM m π X U I tl B fc fp) : ∀ j Y, U[j]? = some Y → RG (fun k => m.1 19 (337 * (U.length - 1 - j) + k)) Y := h.2.2.2.1
theorem SM.him {m : Mm} {π : Pl} {X : Nat → Nat} {U : List (Nat → Nat)} {I : Option (Nat → Nat)} {tl : Nat} {B : Nat → Nat} {fc : Int32} {fp : Int32} (h : SM m π X U I tl B fc fp) : m.1 0 32 = nI (iz I) := h.2.2.2.2.1
theorem SM.im {m : Mm} {π : Pl} {X : Nat → Nat} {U : List (Nat → Nat)} {I : Option (Nat → Nat)} {tl : Nat} {B : Nat → Nat} {fc : Int32} {fp : Int32} (h : SM m π X U I tl B fc fp) : ∀ Y, I = some Y → RG (m.1 18) Y := h.2.2.2.2.2.1
theorem SM.len {m : Mm} {π : Pl} {X : Nat → Nat} {U : List (Nat → Nat)} {I : Option (Nat → Nat)} {tl : Nat} {B : Nat → Nat} {fc : Int32} {fp : Int32} (h : SM m π X U I tl B fc fp) : m.1 0 2 = nI tl := h.2.2.2.2.2.2.1
theorem SM.by {m : Mm} {π : Pl} {X : Nat → Nat} {U : List (Nat → Nat)} {I : Option (Nat → Nat)} {tl : Nat} {B : Nat → Nat} {fc : Int32} {fp : Int32} (h : SM m π X U I tl B fc fp) : ∀ j, j < tl → m.1 1 j = nI (B j) := h.2.2.2.2.2.2.2.1
theorem SM.lf {m : Mm} {π : Pl} {X : Nat → Nat} {U : List (Nat → Nat)} {I : Option (Nat → Nat)} {tl : Nat} {B : Nat → Nat} {fc : Int32} {fp : Int32} (h : SM m π X U I tl B fc fp) : m.1 0 24 = fc := h.2.2.2.2.2.2.2.2.1
theorem SM.lp {m : Mm} {π : Pl} {X : Nat → Nat} {U : List (Nat → Nat)} {I : Option (Nat → Nat)} {tl : Nat} {B : Nat → Nat} {fc : Int32} {fp : Int32} (h : SM m π X U I tl B fc fp) : m.1 0 25 = fp := h.2.2.2.2.2.2.2.2.2
def SK (π : Pl) (X : Nat → Nat) (U : List (Nat → Nat)) (I : Option (Nat → Nat)) (tl : Nat) (B : Nat → Nat) : Prop := (π.ok) ∧ (K2 π X) ∧ (X 296 ≤ 9999) ∧ (U.length ≤ 20) ∧ (∀ Y ∈ U, K2 π Y ∧ Y 296 ≤ 9999) ∧ (∀ Y, I = some Y → K2 π Y ∧ Y 296 ≤ 9999) ∧ (tl ≤ 700) ∧ (∀ j, j < tl → B j < 256)
theorem SK.mk {π : Pl} {X : Nat → Nat} {U : List (Nat → Nat)} {I : Option (Nat → Nat)} {tl : Nat} {B : Nat → Nat} (h_O : π.ok) (h_K : K2 π X) (h_t : X 296 ≤ 9999) (h_ul : U.length ≤ 20) (h_U : ∀ Y ∈ U, K2 π Y ∧ Y 296 ≤ 9999) (h_I : ∀ Y, I = some Y → K2 π Y ∧ Y 296 ≤ 9999) (h_tl : tl ≤ 700) (h_B : ∀ j, j < tl → B j < 256) : SK π X U I tl B := ⟨h_O, h_K, h_t, h_ul, h_U, h_I, h_tl, h_B⟩
theorem SK.O {π : Pl} {X : Nat → Nat} {U : List (Nat → Nat)} {I : Option (Nat → Nat)} {tl : Nat} {B : Nat → Nat} (h : SK π X U I tl B) : π.ok := h.1
theorem SK.K {π : Pl} {X : Nat → Nat} {U : List (Nat → Nat)} {I : Option (Nat → Nat)} {tl : Nat} {B : Nat → Nat} (h : SK π X U I tl B) : K2 π X := h.2.1
theorem SK.t {π : Pl} {X : Nat → Nat} {U : List (Nat → Nat)} {I : Option (Nat → Nat)} {tl : Nat} {B : Nat → Nat} (h : SK π X U I tl B) : X 296 ≤ 9999 := h.2.2.1
theorem SK.ul {π : Pl} {X : Nat → Nat} {U : List (Nat → Nat)} {I : Option (Nat → Nat)} {tl : Nat} {B : Nat → Nat} (h : SK π X U I tl B) : U.length ≤ 20 := h.2.2.2.1
theorem SK.U {π : Pl} {X : Nat → Nat} {U : List (Nat → Nat)} {I : Option (Nat → Nat)} {tl : Nat} {B : Nat → Nat} (h : SK π X U I tl B) : ∀ Y ∈ U, K2 π Y ∧ Y 296 ≤ 9999 := h.2.2.2.2.1
theorem SK.I {π : Pl} {X : Nat → Nat} {U : List (Nat → Nat)} {I : Option (Nat → Nat)} {tl : Nat} {B : Nat → Nat} (h : SK π X U I tl B) : ∀ Y, I = some Y → K2 π Y ∧ Y 296 ≤ 9999 := h.2.2.2.2.2.1
theorem SK.tl {π : Pl} {X : Nat → Nat} {U : List (Nat → Nat)} {I : Option (Nat → Nat)} {tl : Nat} {B : Nat → Nat} (h : SK π X U I tl B) : tl ≤ 700 := h.2.2.2.2.2.2.1
theorem SK.B {π : Pl} {X : Nat → Nat} {U : List (Nat → Nat)} {I : Option (Nat → Nat)} {tl : Nat} {B : Nat → Nat} (h : SK π X U I tl B) : ∀ j, j < tl → B j < 256 := h.2.2.2.2.2.2.2
def Sim (mF mM : Mm) : Prop := ∃ π X U I p top tl B fc fp, SF mF π X U I p top tl B fc fp ∧ SM mM π X U I tl B fc fp ∧ SK π X U I tl B
/-! what lies aside may change -/
theorem nI_ex (v : Int32) : ∃ k, v = nI k := ⟨v.toBitVec.toNat, by
  apply Int32.toBitVec_inj.mp
  simp [nI]⟩
theorem CF.ex {m m' : Mm} {X : Nat → Nat} (C : CF m 19 X) (e : m'.1 19 = m.1 19) : ∃ X', (∀ i, i < 297 → X' i = X i) ∧ CF m' 19 X' := by
  refine ⟨fun i => if i < 300 then X i else if i < 380 then Classical.choose (nI_ex (m'.1 5 (i - 300))) else Classical.choose (nI_ex (m'.1 7 (i - 380))), fun i hi => if_pos (by omega), CF.mk ?_ ?_ ?_⟩
  · intro i hi
    rw [e, C.row i hi, if_pos (show i < 300 by omega)]
  · intro j hj
    rw [if_neg (show ¬ 300 + j < 300 by omega), if_pos (show 300 + j < 380 by omega), Nat.add_sub_cancel_left]
    exact Classical.choose_spec (nI_ex (m'.1 5 j))
  · intro j hj
    rw [if_neg (show ¬ 380 + j < 300 by omega), if_neg (show ¬ 380 + j < 380 by omega), Nat.add_sub_cancel_left]
    exact Classical.choose_spec (nI_ex (m'.1 7 j))
theorem PF.eq {m m' : Mm} {p : Nat} {π : Pl} (h : PF m p π) (e : ∀ o, p ≤ o → o ≤ p + 9 → m'.1 o = m.1 o) : PF m' p π := by
  have e0 : m'.1 p = m.1 p := e p (by omega) (by omega)
  refine PF.mk ?_ ?_ ?_ ?_ ?_ ?_ ?_ ?_ ?_ ?_ ?_ ?_ ?_ ?_ ?_ ?_ ?_
  all_goals first
    | (rw [e0]; first | exact h.nl | exact h.nf)
    | (intros; rw [e (p + 1) (by omega) (by omega)]; apply h.lname; assumption)
    | (intros; rw [e (p + 2) (by omega) (by omega)]; apply h.cap; assumption)
    | (intros; rw [e (p + 3) (by omega) (by omega)]; apply h.delay; assumption)
    | (intros; rw [e (p + 4) (by omega) (by omega)]; apply h.fname; assumption)
    | (intros; rw [e (p + 5) (by omega) (by omega)]; apply h.hops; assumption)
    | (intros; rw [e (p + 6) (by omega) (by omega)]; apply h.path <;> assumption)
    | (intros; rw [e (p + 7) (by omega) (by omega)]; apply h.pv <;> assumption)
    | (intros; rw [e (p + 8) (by omega) (by omega)]; apply h.nx <;> assumption)
    | (rw [e (p + 9) (by omega) (by omega)]; first | exact h.each | exact h.middle | exact h.weight | exact h.cells | exact h.ticks | exact h.more | exact h.seed)
def core (p o : Nat) : Prop := o ≤ 2 ∨ (16 ≤ o ∧ o ≤ 19) ∨ (p ≤ o ∧ o ≤ p + 9)
theorem SF.scr {m m' : Mm} {π : Pl} {X X' : Nat → Nat} {U : List (Nat → Nat)} {I : Option (Nat → Nat)} {p top tl : Nat} {B : Nat → Nat} {fc fp : Int32} (h : SF m π X U I p top tl B fc fp) (e : ∀ o, core p o → m'.1 o = m.1 o) (C : CF m' 19 X') : SF m' π X' U I p top tl B fc fp := by
  have e0 := e 0 (Or.inl (by omega))
  have e1 := e 1 (Or.inl (by omega))
  have e2 := e 2 (Or.inl (by omega))
  have e16 := e 16 (Or.inr (Or.inl (by omega)))
  have e17 := e 17 (Or.inr (Or.inl (by omega)))
  have e18 := e 18 (Or.inr (Or.inl (by omega)))
  exact SF.mk h.hp (by rw [e0]; exact h.pl) (by rw [e0]; exact h.sp) (by rw [e0]; exact h.fc) (by rw [e0]; exact h.fp) (h.P.eq (fun o h1 h2 => e o (Or.inr (Or.inr ⟨h1, h2⟩)))) C (by rw [e16]; exact h.steps) (by rw [e16]; exact h.top) h.tlt (by rw [e17]; exact h.rows) (by rw [e16]; exact h.him) (by rw [e18]; exact h.im) (by rw [e1]; exact h.len) (by rw [e2]; exact h.by)
def coreM (o : Nat) : Prop := 1 ≤ o ∧ o ≤ 19 ∧ o ≠ 3 ∧ o ≠ 16 ∧ o ≠ 17
def coreJ (j : Nat) : Prop := j = 2 ∨ j = 24 ∨ j = 25 ∨ j = 31 ∨ j = 32
theorem PM.eq {m m' : Mm} {π : Pl} (h : PM m π) (e : ∀ o, 2 ≤ o → o ≤ 14 → o ≠ 3 → m'.1 o = m.1 o) : PM m' π := by
  refine PM.mk ?_ ?_ ?_ ?_ ?_ ?_ ?_ ?_ ?_ ?_ ?_ ?_ ?_ ?_ ?_
  all_goals first
    | (rw [e 2 (by omega) (by omega) (by omega)]; first | exact h.nl | exact h.nf | exact h.each | exact h.middle | exact h.weight | exact h.cells | exact h.ticks | exact h.more | exact h.seed)
    | (intros; rw [e 4 (by omega) (by omega) (by omega)]; apply h.lname; assumption)
    | (intros; rw [e 5 (by omega) (by omega) (by omega)]; apply h.cap; assumption)
    | (intros; rw [e 6 (by omega) (by omega) (by omega)]; apply h.delay; assumption)
    | (intros; rw [e 10 (by omega) (by omega) (by omega)]; apply h.fname; assumption)
    | (intros; rw [e 13 (by omega) (by omega) (by omega)]; apply h.hops; assumption)
    | (intros; rw [e 14 (by omega) (by omega) (by omega)]; apply h.path <;> assumption)
theorem SM.scr {m m' : Mm} {π : Pl} {X : Nat → Nat} {U : List (Nat → Nat)} {I : Option (Nat → Nat)} {tl : Nat} {B : Nat → Nat} {fc fp : Int32} (h : SM m π X U I tl B fc fp) (e : ∀ o, coreM o → m'.1 o = m.1 o) (e0 : ∀ j, coreJ j → m'.1 0 j = m.1 0 j) : SM m' π X U I tl B fc fp := by
  unfold coreM at e
  unfold coreJ at e0
  exact SM.mk (h.P.eq (fun o h1 h2 h3 => e o (by omega))) (RG.m (by rw [e 15 (by omega)]; exact h.R.g)) (by rw [e0 31 (by omega)]; exact h.und) (by rw [e 19 (by omega)]; exact h.rows) (by rw [e0 32 (by omega)]; exact h.him) (by rw [e 18 (by omega)]; exact h.im) (by rw [e0 2 (by omega)]; exact h.len) (by rw [e 1 (by omega)]; exact h.by) (by rw [e0 24 (by omega)]; exact h.lf) (by rw [e0 25 (by omega)]; exact h.lp)
theorem SM.cg {m : Mm} {π : Pl} {X X' : Nat → Nat} {U : List (Nat → Nat)} {I : Option (Nat → Nat)} {tl : Nat} {B : Nat → Nat} {fc fp : Int32} (h : SM m π X U I tl B fc fp) (e : ∀ i, i < 297 → X' i = X i) : SM m π X' U I tl B fc fp := SM.mk h.P (h.R.congr (fun i hi _ => (e i hi).symm)) h.und h.rows h.him h.im h.len h.by h.lf h.lp
theorem SK.cg {π : Pl} {X X' : Nat → Nat} {U : List (Nat → Nat)} {I : Option (Nat → Nat)} {tl : Nat} {B : Nat → Nat} (h : SK π X U I tl B) (e : ∀ i, i < 297 → X' i = X i) : SK π X' U I tl B := SK.mk h.O (h.K.same h.O e) (by rw [e _ (by omega)]; exact h.t) h.ul h.U h.I h.tl h.B
theorem Sim.of {mF mF' mM mM' : Mm} {π : Pl} {X : Nat → Nat} {U : List (Nat → Nat)} {I : Option (Nat → Nat)} {p top tl : Nat} {B : Nat → Nat} {fc fp : Int32} (hF : SF mF π X U I p top tl B fc fp) (hM : SM mM π X U I tl B fc fp) (hK : SK π X U I tl B) (e : ∀ o, core p o → mF'.1 o = mF.1 o) (e1 : ∀ o, coreM o → mM'.1 o = mM.1 o) (e2 : ∀ j, coreJ j → mM'.1 0 j = mM.1 0 j) : Sim mF' mM' := by
  obtain ⟨X', h1, h2⟩ := CF.ex hF.C (e 19 (Or.inr (Or.inl (by omega))))
  exact ⟨π, X', U, I, p, top, tl, B, fc, fp, hF.scr e h2, (hM.scr e1 e2).cg h1, hK.cg h1⟩
