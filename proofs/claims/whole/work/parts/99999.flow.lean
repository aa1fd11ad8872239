/-! ===== the line 'flow': ways that grow ===== -/
def pvH (p : Nat → Nat) (h l : Nat) : Nat := if hpF p l h = 0 then 0 else if hpF p l h = 1 then 1 else p (hpF p l h - 2) + 2
def nxH (p : Nat → Nat) (h l : Nat) : Nat := if hpF p l h = 0 then 0 else if hpF p l h < h then p (hpF p l h) + 1 else 0
def Pl.fl (π : Pl) (w : Int32) (h : Nat) (p : Nat → Nat) : Pl := (π.nl, π.nf + 1, π.lname, π.cap, π.delay, (fun f => if f = π.nf then w else π.fname f), (fun f => if f = π.nf then h else π.hops f), (fun f => if f = π.nf then p else π.path f), π.2.2.2.2.2.2.2.2)
theorem hpF_cg {p q : Nat → Nat} {l : Nat} : ∀ n, (∀ i, i < n → p i = q i) → hpF p l n = hpF q l n := by
  intro n
  induction n with
  | zero => intro _; rfl
  | succ n ih =>
    intro h
    rw [hpF_s, hpF_s, ih (fun i hi => h i (by omega)), h n (by omega)]
section WY
variable {p : Nat → Nat} {h l : Nat}
theorem hpF_up {x : Nat} (h0 : hpF p l h = 0) : hpF (upN p h l) x (h + 1) = if x = l then h + 1 else hpF p x h := by
  have e : hpF (upN p h l) x h = hpF p x h := hpF_cg h (fun i hi => upN_n (by omega))
  rw [hpF_s, e, upN_s]
  by_cases c : x = l
  · subst c; rw [h0, if_neg (fun z => z rfl), if_pos rfl]
  · rw [if_neg c]
    by_cases c2 : hpF p x h = 0
    · rw [c2, if_neg (fun z => z rfl), if_neg (fun z => c z.symm)]
    · rw [if_pos c2]
theorem pvH_s {x : Nat} (h0 : hpF p l h = 0) : pvH (upN p h l) (h + 1) x = if x = l then (if h = 0 then 1 else p (h - 1) + 2) else pvH p h x := by
  have hle := hpF_le p x h
  unfold pvH
  rw [hpF_up h0]
  by_cases c : x = l
  · rw [if_pos c, if_pos c, if_neg (by omega)]
    by_cases c2 : h = 0
    · rw [if_pos c2, if_pos (by omega)]
    · rw [if_neg c2, if_neg (by omega), upN_n (by omega), show h + 1 - 2 = h - 1 by omega]
  · rw [if_neg c, if_neg c]
    by_cases c1 : hpF p x h = 0
    · rw [if_pos c1, if_pos c1]
    · rw [if_neg c1, if_neg c1]
      by_cases c2 : hpF p x h = 1
      · rw [if_pos c2, if_pos c2]
      · rw [if_neg c2, if_neg c2, upN_n (by omega)]
theorem hpF_last (hi : ∀ i j, i < h → j < h → p i = p j → i = j) (h1 : h ≠ 0) : hpF p (p (h - 1)) h = h := by
  have c : hpF p (p (h - 1)) h ≠ 0 := hpF_ex.mpr ⟨h - 1, by omega, rfl⟩
  have e := hpF_at c
  have hle := hpF_le p (p (h - 1)) h
  have := hi _ _ (by omega) (by omega) e
  omega
theorem nxH_s {x : Nat} (h0 : hpF p l h = 0) (hi : ∀ i j, i < h → j < h → p i = p j → i = j) : nxH (upN p h l) (h + 1) x = if h ≠ 0 ∧ x = p (h - 1) then l + 1 else nxH p h x := by
  have hle := hpF_le p x h
  unfold nxH
  rw [hpF_up h0]
  by_cases c : h ≠ 0 ∧ x = p (h - 1)
  · have e := hpF_last hi c.1
    rw [← c.2] at e
    have hx : x ≠ l := fun z => by rw [z, h0] at e; omega
    rw [if_pos c, if_neg hx, e, if_neg c.1, if_pos (by omega), upN_s]
  · rw [if_neg c]
    by_cases c1 : x = l
    · subst c1; rw [if_pos rfl, if_neg (by omega), if_neg (by omega), h0, if_pos rfl]
    · rw [if_neg c1]
      by_cases c2 : hpF p x h = 0
      · rw [if_pos c2, if_pos c2]
      · have e := hpF_at c2
        have ne : hpF p x h ≠ h := fun z => c ⟨by omega, by rw [z] at e; exact e.symm⟩
        rw [if_neg c2, if_neg c2, if_pos (by omega), if_pos (by omega), upN_n ne]
end WY
section FLO
variable {π : Pl} {w : Int32} {h : Nat} {p : Nat → Nat}
theorem Pl.fl_pvn {l : Nat} : (π.fl w h p).pv l π.nf = pvH p h l := by
  have e1 : (π.fl w h p).path π.nf = p := if_pos rfl
  have e2 : (π.fl w h p).hops π.nf = h := if_pos rfl
  unfold Pl.pv Pl.hp pvH
  rw [e1, e2]
theorem Pl.fl_nxn {l : Nat} : (π.fl w h p).nx l π.nf = nxH p h l := by
  have e1 : (π.fl w h p).path π.nf = p := if_pos rfl
  have e2 : (π.fl w h p).hops π.nf = h := if_pos rfl
  unfold Pl.nx Pl.hp nxH
  rw [e1, e2]
theorem Pl.fl_pv {l f : Nat} (hf : f ≠ π.nf) : (π.fl w h p).pv l f = π.pv l f := by
  have e1 : (π.fl w h p).path f = π.path f := if_neg hf
  have e2 : (π.fl w h p).hops f = π.hops f := if_neg hf
  unfold Pl.pv Pl.hp
  rw [e1, e2]
theorem Pl.fl_nx {l f : Nat} (hf : f ≠ π.nf) : (π.fl w h p).nx l f = π.nx l f := by
  have e1 : (π.fl w h p).path f = π.path f := if_neg hf
  have e2 : (π.fl w h p).hops f = π.hops f := if_neg hf
  unfold Pl.nx Pl.hp
  rw [e1, e2]
theorem Pl.fl_ok (O : π.ok) (hf : π.nf < 8) (h1 : 1 ≤ h ∧ h ≤ 5) (hb : ∀ i, i < h → p i < π.nl) (hi : ∀ i j, i < h → j < h → p i = p j → i = j) : (π.fl w h p).ok := by
  have eh : ∀ f, (π.fl w h p).hops f = if f = π.nf then h else π.hops f := fun f => rfl
  have ep : ∀ f, (π.fl w h p).path f = if f = π.nf then p else π.path f := fun f => rfl
  have en : (π.fl w h p).nf = π.nf + 1 := rfl
  refine Pl.ok.mk O.nl (by rw [en]; omega) O.cap O.delay ?_ ?_ ?_ O.each O.middle O.weight O.cells O.ticks O.more O.seed
  · intro f hf
    rw [en] at hf
    rw [eh]
    by_cases e : f = π.nf
    · rw [if_pos e]; exact h1
    · rw [if_neg e]; exact O.hops f (by omega)
  · intro f i hf hi
    rw [en] at hf
    rw [eh] at hi
    rw [ep]
    show _ < π.nl
    by_cases e : f = π.nf
    · rw [if_pos e] at hi ⊢; exact hb i hi
    · rw [if_neg e] at hi ⊢; exact O.path f i (by omega) hi
  · intro f i j hf h2 h3 h4
    rw [en] at hf
    rw [eh] at h2 h3
    rw [ep] at h4
    by_cases e : f = π.nf
    · rw [if_pos e] at h2 h3 h4; exact hi i j h2 h3 h4
    · rw [if_neg e] at h2 h3 h4; exact O.inj f i j (by omega) h2 h3 h4
end FLO
def s7F (sp f o j : Nat) : Prop := (o = 1 ∧ 3 ≤ j) ∨ (o = sp ∧ j = 10) ∨ ((o = sp + 4 ∨ o = sp + 5) ∧ j = f) ∨ (o = sp + 6 ∧ f * 5 ≤ j ∧ j < f * 5 + 5) ∨ ((o = sp + 7 ∨ o = sp + 8) ∧ j % 8 = f) ∨ (o = 20 ∧ (j = 200 + f ∨ j = 208 + f ∨ j = 264 + f))
def s8F (f o j : Nat) : Prop := (o = 0 ∧ 18 ≤ j ∧ j ≤ 21) ∨ (10 ≤ o ∧ o ≤ 13 ∧ j = 8 + f) ∨ (o = 14 ∧ 40 + 5 * f ≤ j ∧ j < 45 + 5 * f)
/-- the class within a flow's line -/
def HC (mF m : Mm) (sp : Nat) (π : Pl) (w : Int32) (r h : Nat) (p : Nat → Nat) : Prop := (PW (s7F sp π.nf) mF m) ∧ (m.1 sp 10 = nI (π.nf + 1)) ∧ (m.1 (sp + 4) π.nf = w) ∧ (h ≠ 0 → m.1 (sp + 5) π.nf = nI h) ∧ (∀ i, i < h → m.1 (sp + 6) (π.nf * 5 + i) = nI (p i)) ∧ (∀ l, l < 10 → m.1 (sp + 7) (l * 8 + π.nf) = pvI (pvH p h l)) ∧ (∀ l, l < 10 → m.1 (sp + 8) (l * 8 + π.nf) = nxI (nxH p h l)) ∧ (m.1 20 (200 + π.nf) = nI r) ∧ (m.1 20 (208 + π.nf) = nI r) ∧ (m.1 20 (264 + π.nf) = nI 1)
theorem HC.mk {mF m : Mm} {sp : Nat} {π : Pl} {w : Int32} {r h : Nat} {p : Nat → Nat} (h_W : PW (s7F sp π.nf) mF m) (h_nf : m.1 sp 10 = nI (π.nf + 1)) (h_nm : m.1 (sp + 4) π.nf = w) (h_hop : h ≠ 0 → m.1 (sp + 5) π.nf = nI h) (h_pth : ∀ i, i < h → m.1 (sp + 6) (π.nf * 5 + i) = nI (p i)) (h_pv : ∀ l, l < 10 → m.1 (sp + 7) (l * 8 + π.nf) = pvI (pvH p h l)) (h_nx : ∀ l, l < 10 → m.1 (sp + 8) (l * 8 + π.nf) = nxI (nxH p h l)) (h_x1 : m.1 20 (200 + π.nf) = nI r) (h_x2 : m.1 20 (208 + π.nf) = nI r) (h_x3 : m.1 20 (264 + π.nf) = nI 1) : HC mF m sp π w r h p := ⟨h_W, h_nf, h_nm, h_hop, h_pth, h_pv, h_nx, h_x1, h_x2, h_x3⟩
theorem HC.W {mF m : Mm} {sp : Nat} {π : Pl} {w : Int32} {r h : Nat} {p : Nat → Nat} (hS : HC mF m sp π w r h p) : PW (s7F sp π.nf) mF m := hS.1
theorem HC.nf {mF m : Mm} {sp : Nat} {π : Pl} {w : Int32} {r h : Nat} {p : Nat → Nat} (hS : HC mF m sp π w r h p) : m.1 sp 10 = nI (π.nf + 1) := hS.2.1
theorem HC.nm {mF m : Mm} {sp : Nat} {π : Pl} {w : Int32} {r h : Nat} {p : Nat → Nat} (hS : HC mF m sp π w r h p) : m.1 (sp + 4) π.nf = w := hS.2.2.1
theorem HC.hop {mF m : Mm} {sp : Nat} {π : Pl} {w : Int32} {r h : Nat} {p : Nat → Nat} (hS : HC mF m sp π w r h p) : h ≠ 0 → m.1 (sp + 5) π.nf = nI h := hS.2.2.2.1
theorem HC.pth {mF m : Mm} {sp : Nat} {π : Pl} {w : Int32} {r h : Nat} {p : Nat → Nat} (hS : HC mF m sp π w r h p) : ∀ i, i < h → m.1 (sp + 6) (π.nf * 5 + i) = nI (p i) := hS.2.2.2.2.1
theorem HC.pv {mF m : Mm} {sp : Nat} {π : Pl} {w : Int32} {r h : Nat} {p : Nat → Nat} (hS : HC mF m sp π w r h p) : ∀ l, l < 10 → m.1 (sp + 7) (l * 8 + π.nf) = pvI (pvH p h l) := hS.2.2.2.2.2.1
theorem HC.nx {mF m : Mm} {sp : Nat} {π : Pl} {w : Int32} {r h : Nat} {p : Nat → Nat} (hS : HC mF m sp π w r h p) : ∀ l, l < 10 → m.1 (sp + 8) (l * 8 + π.nf) = nxI (nxH p h l) := hS.2.2.2.2.2.2.1
theorem HC.x1 {mF m : Mm} {sp : Nat} {π : Pl} {w : Int32} {r h : Nat} {p : Nat → Nat} (hS : HC mF m sp π w r h p) : m.1 20 (200 + π.nf) = nI r := hS.2.2.2.2.2.2.2.1
theorem HC.x2 {mF m : Mm} {sp : Nat} {π : Pl} {w : Int32} {r h : Nat} {p : Nat → Nat} (hS : HC mF m sp π w r h p) : m.1 20 (208 + π.nf) = nI r := hS.2.2.2.2.2.2.2.2.1
theorem HC.x3 {mF m : Mm} {sp : Nat} {π : Pl} {w : Int32} {r h : Nat} {p : Nat → Nat} (hS : HC mF m sp π w r h p) : m.1 20 (264 + π.nf) = nI 1 := hS.2.2.2.2.2.2.2.2.2
def HMf (mM m : Mm) (π : Pl) (w : Int32) (r h : Nat) (p : Nat → Nat) : Prop := (PW (s8F π.nf) mM m) ∧ (m.1 10 (8 + π.nf) = w) ∧ (m.1 11 (8 + π.nf) = nI r) ∧ (m.1 12 (8 + π.nf) = nI 0) ∧ (m.1 13 (8 + π.nf) = nI h) ∧ (∀ i, i < h → m.1 14 (5 * (8 + π.nf) + i) = nI (p i))
theorem HMf.mk {mM m : Mm} {π : Pl} {w : Int32} {r h : Nat} {p : Nat → Nat} (h_W : PW (s8F π.nf) mM m) (h_nm : m.1 10 (8 + π.nf) = w) (h_rt : m.1 11 (8 + π.nf) = nI r) (h_of : m.1 12 (8 + π.nf) = nI 0) (h_hop : m.1 13 (8 + π.nf) = nI h) (h_pth : ∀ i, i < h → m.1 14 (5 * (8 + π.nf) + i) = nI (p i)) : HMf mM m π w r h p := ⟨h_W, h_nm, h_rt, h_of, h_hop, h_pth⟩
theorem HMf.W {mM m : Mm} {π : Pl} {w : Int32} {r h : Nat} {p : Nat → Nat} (hS : HMf mM m π w r h p) : PW (s8F π.nf) mM m := hS.1
theorem HMf.nm {mM m : Mm} {π : Pl} {w : Int32} {r h : Nat} {p : Nat → Nat} (hS : HMf mM m π w r h p) : m.1 10 (8 + π.nf) = w := hS.2.1
theorem HMf.rt {mM m : Mm} {π : Pl} {w : Int32} {r h : Nat} {p : Nat → Nat} (hS : HMf mM m π w r h p) : m.1 11 (8 + π.nf) = nI r := hS.2.2.1
theorem HMf.of {mM m : Mm} {π : Pl} {w : Int32} {r h : Nat} {p : Nat → Nat} (hS : HMf mM m π w r h p) : m.1 12 (8 + π.nf) = nI 0 := hS.2.2.2.1
theorem HMf.hop {mM m : Mm} {π : Pl} {w : Int32} {r h : Nat} {p : Nat → Nat} (hS : HMf mM m π w r h p) : m.1 13 (8 + π.nf) = nI h := hS.2.2.2.2.1
theorem HMf.pth {mM m : Mm} {π : Pl} {w : Int32} {r h : Nat} {p : Nat → Nat} (hS : HMf mM m π w r h p) : ∀ i, i < h → m.1 14 (5 * (8 + π.nf) + i) = nI (p i) := hS.2.2.2.2.2
def HP (π : Pl) (h : Nat) (p : Nat → Nat) : Prop := (h ≤ 5) ∧ (∀ i, i < h → p i < π.nl) ∧ (∀ i j, i < h → j < h → p i = p j → i = j)
theorem HP.mk {π : Pl} {h : Nat} {p : Nat → Nat} (h_le : h ≤ 5) (h_b : ∀ i, i < h → p i < π.nl) (h_inj : ∀ i j, i < h → j < h → p i = p j → i = j) : HP π h p := ⟨h_le, h_b, h_inj⟩
theorem HP.le {π : Pl} {h : Nat} {p : Nat → Nat} (hS : HP π h p) : h ≤ 5 := hS.1
theorem HP.b {π : Pl} {h : Nat} {p : Nat → Nat} (hS : HP π h p) : ∀ i, i < h → p i < π.nl := hS.2.1
theorem HP.inj {π : Pl} {h : Nat} {p : Nat → Nat} (hS : HP π h p) : ∀ i j, i < h → j < h → p i = p j → i = j := hS.2.2
def flX (X : Nat → Nat) (f r : Nat) : Nat → Nat := upN (upN (upN X (200 + f) r) (208 + f) r) (264 + f) 1
section FH
variable {mF mM m m' : Mm} {B : Nat → Nat} {n a sp : Nat} {π : Pl} {X : Nat → Nat} {td pl : Nat} {w : Int32} {r h : Nat} {p : Nat → Nat}
theorem HC.ft (H : HC mF m sp π w r h p) (hp : sp = 21 ∨ sp = 31) (f : FT m m') : HC mF m' sp π w r h p :=
  HC.mk (H.W.ft f (fun j x => Or.inl ⟨rfl, x⟩)) (by rw [f.1 sp (by omega)]; exact H.nf) (by rw [f.1 (sp + 4) (by omega)]; exact H.nm) (by rw [f.1 (sp + 5) (by omega)]; exact H.hop) (by rw [f.1 (sp + 6) (by omega)]; exact H.pth) (by rw [f.1 (sp + 7) (by omega)]; exact H.pv) (by rw [f.1 (sp + 8) (by omega)]; exact H.nx) (by rw [f.1 20 (by omega)]; exact H.x1) (by rw [f.1 20 (by omega)]; exact H.x2) (by rw [f.1 20 (by omega)]; exact H.x3)
theorem HMf.fm (H : HMf mM m π w r h p) (f : FM m m') : HMf mM m' π w r h p :=
  HMf.mk (H.W.fm f (fun j x y => Or.inl ⟨rfl, x, y⟩)) (by rw [f.1 10 (by omega)]; exact H.nm) (by rw [f.1 11 (by omega)]; exact H.rt) (by rw [f.1 12 (by omega)]; exact H.of) (by rw [f.1 13 (by omega)]; exact H.hop) (by rw [f.1 14 (by omega)]; exact H.pth)
theorem QC.fl (C : QC mF sp π X td) (hp : sp = 21 ∨ sp = 31) (O : π.ok) (hf : π.nf < 8) (H : HC mF m sp π w r h p) (h0 : h ≠ 0) : QC m sp (π.fl w h p) (flX X π.nf r) td := by
  have hnl := O.nl
  have P := C.P
  have W := H.W
  have e : ∀ o, o ≠ 1 → o ≠ sp → o ≠ sp + 4 → o ≠ sp + 5 → o ≠ sp + 6 → o ≠ sp + 7 → o ≠ sp + 8 → o ≠ 20 → m.1 o = mF.1 o := fun o h1 h2 h3 h4 h5 h6 h7 h8 => funext (fun j => W o j (by unfold s7F; omega))
  have e9 : m.1 (sp + 9) = mF.1 (sp + 9) := e _ (by omega) (by omega) (by omega) (by omega) (by omega) (by omega) (by omega) (by omega)
  have e3 : m.1 3 = mF.1 3 := e _ (by omega) (by omega) (by omega) (by omega) (by omega) (by omega) (by omega) (by omega)
  have pv : ∀ l f, l < 10 → f < 8 → m.1 (sp + 7) (l * 8 + f) = pvI ((π.fl w h p).pv l f) := by
    intro l f hl hf2
    by_cases c : f = π.nf
    · rw [c, Pl.fl_pvn]; exact H.pv l hl
    · rw [Pl.fl_pv c, W _ _ (by unfold s7F; omega)]; exact C.pv l f hl hf2
  have nx : ∀ l f, l < 10 → f < 8 → m.1 (sp + 8) (l * 8 + f) = nxI ((π.fl w h p).nx l f) := by
    intro l f hl hf2
    by_cases c : f = π.nf
    · rw [c, Pl.fl_nxn]; exact H.nx l hl
    · rw [Pl.fl_nx c, W _ _ (by unfold s7F; omega)]; exact C.nx l f hl hf2
  refine QC.mk (PF.mk ?_ H.nf ?_ ?_ ?_ ?_ ?_ ?_ ?_ ?_ ?_ ?_ ?_ ?_ ?_ ?_ ?_) pv nx ?_ ?_ ?_ ?_
  · rw [W sp 9 (by unfold s7F; omega)]; exact P.nl
  · rw [e (sp + 1) (by omega) (by omega) (by omega) (by omega) (by omega) (by omega) (by omega) (by omega)]; exact P.lname
  · rw [e (sp + 2) (by omega) (by omega) (by omega) (by omega) (by omega) (by omega) (by omega) (by omega)]; exact P.cap
  · rw [e (sp + 3) (by omega) (by omega) (by omega) (by omega) (by omega) (by omega) (by omega) (by omega)]; exact P.delay
  · intro f hf
    have hf : f < π.nf + 1 := hf
    show m.1 (sp + 4) f = if f = π.nf then w else π.fname f
    by_cases c : f = π.nf
    · rw [if_pos c, c]; exact H.nm
    · rw [if_neg c, W _ _ (by unfold s7F; omega)]; exact P.fname f (by omega)
  · intro f hf
    have hf : f < π.nf + 1 := hf
    show m.1 (sp + 5) f = nI (if f = π.nf then h else π.hops f)
    by_cases c : f = π.nf
    · rw [if_pos c, c]; exact H.hop h0
    · rw [if_neg c, W _ _ (by unfold s7F; omega)]; exact P.hops f (by omega)
  · intro f i hf hi
    have hf : f < π.nf + 1 := hf
    have hi : i < if f = π.nf then h else π.hops f := hi
    show m.1 (sp + 6) (f * 5 + i) = nI ((if f = π.nf then p else π.path f) i)
    by_cases c : f = π.nf
    · rw [if_pos c] at hi ⊢; rw [c]; exact H.pth i hi
    · rw [if_neg c] at hi ⊢
      have := O.hops f (by omega)
      rw [W _ _ (by unfold s7F; omega)]; exact P.path f i (by omega) hi
  · intro l f hl hf
    have hl : l < π.nl := hl
    have hf : f < π.nf + 1 := hf
    exact pv l f (by omega) (by omega)
  · intro l f hl hf
    have hl : l < π.nl := hl
    have hf : f < π.nf + 1 := hf
    exact nx l f (by omega) (by omega)
  · rw [e9]; exact P.each
  · rw [e9]; exact P.middle
  · rw [e9]; exact P.weight
  · rw [e9]; exact P.cells
  · rw [e9]; exact P.ticks
  · rw [e9]; exact P.more
  · rw [e9]; exact P.seed
  · intro i hi
    unfold flX
    by_cases c1 : i = 264 + π.nf
    · rw [c1, upN_s]; exact H.x3
    · rw [upN_n c1]
      by_cases c2 : i = 208 + π.nf
      · rw [c2, upN_s]; exact H.x2
      · rw [upN_n c2]
        by_cases c3 : i = 200 + π.nf
        · rw [c3, upN_s]; exact H.x1
        · rw [upN_n c3, W 20 i (by unfold s7F; omega)]; exact C.row i hi
  · rw [e3]; exact C.code
  · rw [e3]; exact C.place
  · rw [e3]; exact C.td
theorem QM.fl (Q : QM mM π X td) (O : π.ok) (hf : π.nf < 8) (H : HMf mM m π w r h p) : QM (u1 m 2 10 (nI (π.nf + 1))) (π.fl w h p) (flX X π.nf r) td := by
  have hnl := O.nl
  have P := Q.P
  have W : PW (fun o j => s8F π.nf o j ∨ (o = 2 ∧ j = 10)) mM (u1 m 2 10 (nI (π.nf + 1))) := PW.u (fun o j z => H.W o j (fun y => z (Or.inl y))) (Or.inr ⟨rfl, rfl⟩)
  have ne : ∀ o j, ¬ (s8F π.nf o j) → ¬ (o = 2 ∧ j = 10) → (u1 m 2 10 (nI (π.nf + 1))).1 o j = mM.1 o j := fun o j h1 h2 => W o j (fun z => z.elim h1 h2)
  have e : ∀ o, 3 ≤ o → o ≤ 9 → (u1 m 2 10 (nI (π.nf + 1))).1 o = mM.1 o := fun o h1 h2 => funext (fun j => ne o j (by unfold s8F; omega) (by omega))
  have e2 : ∀ j, j ≠ 10 → (u1 m 2 10 (nI (π.nf + 1))).1 2 j = mM.1 2 j := fun j hj => ne 2 j (by unfold s8F; omega) (by omega)
  have fx : ∀ i, i < 200 → flX X π.nf r i = X i := fun i hi => by unfold flX; rw [upN_n (by omega), upN_n (by omega), upN_n (by omega)]
  refine QM.mk (PM.mk ?_ ?_ ?_ ?_ ?_ ?_ ?_ ?_ ?_ ?_ ?_ ?_ ?_ ?_ ?_) ?_ ?_ ?_ ?_ ?_ ?_ ?_ ?_ ?_
  · exact (e2 9 (by omega)).trans P.nl
  · exact (u1_rs : (u1 m 2 10 (nI (π.nf + 1))).1 2 10 = nI (π.nf + 1))
  · intro l hl
    show (u1 m 2 10 (nI (π.nf + 1))).1 4 (10 + l) = π.lname l
    rw [e 4 (by omega) (by omega)]; exact P.lname l hl
  · intro l hl
    show (u1 m 2 10 (nI (π.nf + 1))).1 5 (10 + l) = nI (π.cap l)
    rw [e 5 (by omega) (by omega)]; exact P.cap l hl
  · intro l hl
    show (u1 m 2 10 (nI (π.nf + 1))).1 6 (10 + l) = nI (π.delay l)
    rw [e 6 (by omega) (by omega)]; exact P.delay l hl
  · intro f hf
    have hf : f < π.nf + 1 := hf
    show (u1 m 2 10 (nI (π.nf + 1))).1 10 (8 + f) = if f = π.nf then w else π.fname f
    by_cases c : f = π.nf
    · rw [if_pos c, c, u1_rn (Or.inr (by omega))]; exact H.nm
    · rw [if_neg c, ne 10 _ (by unfold s8F; omega) (by omega)]; exact P.fname f (by omega)
  · intro f hf
    have hf : f < π.nf + 1 := hf
    show (u1 m 2 10 (nI (π.nf + 1))).1 13 (8 + f) = nI (if f = π.nf then h else π.hops f)
    by_cases c : f = π.nf
    · rw [if_pos c, c, u1_rn (Or.inr (by omega))]; exact H.hop
    · rw [if_neg c, ne 13 _ (by unfold s8F; omega) (by omega)]; exact P.hops f (by omega)
  · intro f i hf hi
    have hf : f < π.nf + 1 := hf
    have hi : i < if f = π.nf then h else π.hops f := hi
    show (u1 m 2 10 (nI (π.nf + 1))).1 14 (40 + (5 * f + i)) = nI ((if f = π.nf then p else π.path f) i)
    by_cases c : f = π.nf
    · rw [if_pos c] at hi ⊢
      rw [c, u1_rn (Or.inr (by omega)), show 40 + (5 * π.nf + i) = 5 * (8 + π.nf) + i by omega]; exact H.pth i hi
    · rw [if_neg c] at hi ⊢
      have := O.hops f (by omega)
      rw [ne 14 _ (by unfold s8F; omega) (by omega)]; exact P.path f i (by omega) hi
  · exact (e2 11 (by omega)).trans P.each
  · exact (e2 12 (by omega)).trans P.middle
  · exact (e2 13 (by omega)).trans P.weight
  · exact (e2 14 (by omega)).trans P.cells
  · exact (e2 15 (by omega)).trans P.ticks
  · exact (e2 16 (by omega)).trans P.more
  · exact (e2 17 (by omega)).trans P.seed
  · intro l hl
    have hl : l < π.nl := hl
    rw [e 7 (by omega) (by omega), fx _ (by omega)]; exact Q.xoff l hl
  · intro l hl
    have hl : l < π.nl := hl
    rw [e 8 (by omega) (by omega), fx _ (by omega)]; exact Q.xon l hl
  · intro l hl
    have hl : l < π.nl := hl
    rw [e 9 (by omega) (by omega), fx _ (by omega)]; exact Q.size l hl
  · intro f hf
    have hf : f < π.nf + 1 := hf
    by_cases c : f = π.nf
    · rw [c, u1_rn (Or.inr (by omega)), H.rt]; unfold flX; rw [upN_n (by omega), upN_n (by omega), upN_s]
    · rw [ne 11 _ (by unfold s8F; omega) (by omega)]; unfold flX; rw [upN_n (by omega), upN_n (by omega), upN_n (by omega)]; exact Q.rate f (by omega)
  · intro f hf
    have hf : f < π.nf + 1 := hf
    by_cases c : f = π.nf
    · rw [c, u1_rn (Or.inr (by omega)), H.of]; unfold flX; rw [upN_s]
    · rw [ne 12 _ (by unfold s8F; omega) (by omega)]; unfold flX; rw [upN_n (by omega), upN_n (by omega), upN_n (by omega)]; exact Q.off f (by omega)
  · rw [ne 0 22 (by unfold s8F; omega) (by omega)]; exact Q.f0
  · rw [e 3 (by omega) (by omega)]; exact Q.t2
  · rw [e 3 (by omega) (by omega)]; exact Q.t3
  · rw [e 3 (by omega) (by omega)]; exact Q.t5
theorem QP.fl (Q : QP π X td) (hf : π.nf < 8) (H : HP π h p) (h0 : h ≠ 0) (hr : 1 ≤ r ∧ r ≤ 1024) : QP (π.fl w h p) (flX X π.nf r) td := by
  have hnl := Q.O.nl
  have hh := H.le
  have e : ∀ i, i ≠ 200 + π.nf → i ≠ 208 + π.nf → i ≠ 264 + π.nf → flX X π.nf r i = X i := fun i h1 h2 h3 => by unfold flX; rw [upN_n h3, upN_n h2, upN_n h1]
  have a1 : flX X π.nf r (200 + π.nf) = r := by unfold flX; rw [upN_n (by omega), upN_n (by omega), upN_s]
  have a2 : flX X π.nf r (208 + π.nf) = r := by unfold flX; rw [upN_n (by omega), upN_s]
  have a3 : flX X π.nf r (264 + π.nf) = 1 := by unfold flX; rw [upN_s]
  refine QP.mk (Pl.fl_ok Q.O hf (by omega) H.b H.inj) Q.td ?_ ?_ ?_ ?_ ?_ ?_
  · intro f hf
    have hf : π.nf + 1 ≤ f := hf
    show (if f = π.nf then h else π.hops f) = 0
    rw [if_neg (by omega)]; exact Q.h0 f (by omega)
  · intro l hl
    have hl : l < π.nl := hl
    rw [e l (by omega) (by omega) (by omega), e (10 + l) (by omega) (by omega) (by omega), e (20 + l) (by omega) (by omega) (by omega)]; exact Q.xo l hl
  · intro f hf
    have hf : f < π.nf + 1 := hf
    by_cases c : f = π.nf
    · subst c; rw [a1, a2, a3]; omega
    · rw [e (200 + f) (by omega) (by omega) (by omega), e (208 + f) (by omega) (by omega) (by omega), e (264 + f) (by omega) (by omega) (by omega)]; exact Q.ra f (by omega)
  · intro l h1 h2
    have h1 : π.nl ≤ l := h1
    rw [e l (by omega) (by omega) (by omega), e (10 + l) (by omega) (by omega) (by omega), e (20 + l) (by omega) (by omega) (by omega)]; exact Q.z1 l h1 h2
  · intro f h1 h2
    have h1 : π.nf + 1 ≤ f := h1
    rw [e (200 + f) (by omega) (by omega) (by omega), e (208 + f) (by omega) (by omega) (by omega), e (264 + f) (by omega) (by omega) (by omega)]; exact Q.z2 f (by omega) h2
  · intro i h1 h2
    rw [e i (by omega) (by omega) (by omega)]; exact Q.z3 i h1 h2
end FH
