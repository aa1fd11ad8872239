/-! the law's own link: it calls LosslessFabric.link and catches what it throws -/
def hhL : List (Nat × Nat × Nat × Nat) := [(0, 10, 13, 13), (0, 10, 17, 15)]
abbrev OC (E : Ev) (ob : Nat) (fo : Nat → Int64) : va_W := [(ob, .inl (E.2.1 3, 1, .inr (.inl fo)))]
def Qi (E : Ev) (v : Option Value) (w1 : va_W) (A : Nat → Prop) : Array Value → State → Outcome → State → Prop := fun _ st oc t => (oc = .returned v ∧ va_P E.1 gc w1 t.heap ∧ va_D A w1) ∧ va_F A st t
def RI (G : Gt) (E : Ev) (mc ms : Nat) (v : Option Value) (w1 : va_W) : Prop := match G with
  | (_, _, _, s, _, args, below, _, _, _, A, Q) => Q = MQ below (Qi E v w1 A) args s mc ms A
def TB (G : Gt) : Prop := match G with
  | (_, _, _, _, _, _, _, _, c, _, _, _) => c.exceptionTable.toList = tableOf hhL
abbrev lkP (EF : Ev) (a b : Int32) (ob : Nat) : List Value := [.ref (EF.2.2 0), .int a, .int b, .ref ob]
def Mk (l : Launch) (E EF : Ev) (ob : Nat) (fo fo1 : Nat → Int64) (a b : Int32) (mF : Mm) (k : Int32) : Prop :=
  ∀ sz : Nat, Met l yL_link (Cond.codeWith yL_link cL_link 5 (some .int) hhL :: gw) (rmc 7 104 1 6) (Pn E (OC E ob fo ++ wd EF SX7 mF) (lkP EF a b ob) sz) (Qi E (some (.int k)) (OC E ob fo1 ++ wd EF SX7 mF) (va_A (OC E ob fo ++ wd EF SX7 mF) sz)) 1 6 (va_A (OC E ob fo ++ wd EF SX7 mF) sz)
theorem mw_of {l : Launch} {y : MethodName} {ws ws' : List Cond} {rm : Room} {Pc : Array Value → State → Prop} {Qc : Array Value → State → Outcome → State → Prop} {mc ms : Nat} {free : Addr → Prop} {cc : ByteArray} {maxL : Nat} {ret : Option FieldType} {hh : List (Nat × Nat × Nat × Nat)}
    (hy : plainName y.cls = true) (hw : ws = Cond.codeWith y cc maxL ret hh :: ws')
    (body : ∀ p e s m args below meth c s₁, BodyLoose p l y (headSpec ws rm) cc maxL ret e s m args below meth c s₁ → c.maxLocals = maxL → Pc args s →
      W p l e (headSpec ws rm).room s m args below meth c s.heap [] 0 0 (MQ below Qc args s mc ms free) (entryFrame m args maxL)) : Met l y ws rm Pc Qc mc ms free := by
  refine MetFree.of_bodyS (code := cc) (maxLocals := maxL) (ret := ret) hy ?_ ?_
  · intro args s m h hn
    obtain ⟨m9, meth, c, hn9, h1, h2, h3, h4, -, h5, h6, -⟩ := Cond.codeWith_spec (atoms_spec (ws := ws) h _ (by rw [hw]; exact List.mem_cons_self))
    cases hn.symm.trans hn9
    exact ⟨meth, c, h1, h2, h3, h4, h5, h6⟩
  · intro p e s m args below meth c s₁ B hml hP _
    have hh0 : s₁.heap = s.heap := by rw [B.state]; rfl
    obtain ⟨t, a1, o, b1, b2, b3⟩ := body p e s m args below meth c s₁ B hml hP s₁ hh0 (Stand.of_body B)
    exact ⟨t, o, a1, b1, b2, ⟨b3.1, b3.2⟩⟩
set_option maxHeartbeats 1000000 in
theorem Mk.of {l : Launch} {E EF : Ev} {ob : Nat} {fo fo1 : Nat → Int64} {a b : Int32} {mF : Mm} {k : Int32}
    (hb : ∀ G : Gt, Cx G E cL_link 5 RL (some .int) 7 104 → TB G → Rm G 1 6 → RI G E 1 6 (some (.int k)) (OC E ob fo1 ++ wd EF SX7 mF) → WG G l E (0, 0) (OC E ob fo ++ wd EF SX7 mF) 0 [(0, .ref (EF.2.2 0)), (1, .int a), (2, .int b), (3, .ref ob)] []) : Mk l E EF ob fo fo1 a b mF k := by
  intro sz
  refine mw_of (cc := cL_link) (maxL := 5) (ret := (some .int)) (hh := hhL) (by decide +kernel) rfl ?_
  intro p e s m args below meth c s₁ B hml hv
  obtain ⟨rfl, hsz, hP, hK, hN, hD0, hSt⟩ := hv
  have hts := atoms_spec (ws := Cond.codeWith yL_link cL_link 5 (some .int) hhL :: gw) B.pre
  have hown : s.vm.findClass RL = some m.cls := findClass_of_methodNamed B.named
  have htb := vx_table (x := yL_link) B (hts _ List.mem_cons_self)
  subst hsz
  have hD := hD0.self (sz := s.heap.size)
  have h1 := hb (p, e, (headSpec (Cond.codeWith yL_link cL_link 5 (some .int) hhL :: gw) (rmc 7 104 1 6)).room, s, m, (lkP EF a b ob).toArray, below, meth, c, (0, 0), va_A (OC E ob fo ++ wd EF SX7 mF) s.heap.size, MQ below (Qi E (some (.int k)) (OC E ob fo1 ++ wd EF SX7 mF) (va_A (OC E ob fo ++ wd EF SX7 mF) s.heap.size)) (lkP EF a b ob).toArray s 1 6 (va_A (OC E ob fo ++ wd EF SX7 mF) s.heap.size))
    ⟨B.exec, B.bytes, hml, hown, fun w hw => hts w (List.mem_cons_of_mem _ hw), hK, hN, B.notSynchronized, B.returns, Nat.le_refl _, Nat.le_refl _, Nat.zero_le _, Nat.zero_le _, fun q h => Or.inr h, hSt⟩
    htb ⟨Nat.le_refl _, Nat.le_refl _⟩ rfl
  have hl := lv_entry (lkP EF a b ob) (n := 5) (Nat.le_of_ble_eq_true rfl)
  rw [lg_entry_eq]
  refine h1 s.heap [] _ hP hD va_S.rf ?_
  rw [hml]
  exact hl
section LK
variable {G : Gt} {l : Launch} {E EF : Ev} {cs : Nat × Nat} {w wr : va_W} {cc : ByteArray} {nL : Nat} {own : String} {rt : Option FieldType} {fr lo : Nat} {pc : Nat} {lv : List (Nat × Value)} {st rest : List Value}
theorem y_iret {mc ms : Nat} {k : Int32} (C : Cx G E cc nL own (some .int) fr lo) (hQ : RI G E mc ms (some (.int k)) w) (hcs : cs = (mc, ms)) (d : decode cc pc = .ok (.ireturn, 1)) : WG G l E cs w pc lv [.int k] := by
  obtain ⟨p, e, R, s, m, args, below, meth, c, cs0, A, Q⟩ := G
  obtain ⟨hx, hb, hml, hown, hts, hK, hN, hlk, hr, hfr, hlo, hc1, hc2, hA, hSt⟩ := C
  intro H locs ls hP hD hS hl
  subst hcs
  cases hQ
  exact W.iret hx hb hr (fun t ht hW => ⟨⟨rfl, by rw [ht]; exact hP, hD⟩, hS.F ht⟩) (fun q h => hS.2.2 q h) d (hlocks := hlk)
theorem y_widen (cs2 : Nat × Nat) (h1 : cs.1 ≤ cs2.1) (h2 : cs.2 ≤ cs2.2) (k : WG G l E cs2 w pc lv st) : WG G l E cs w pc lv st := by
  obtain ⟨p, e, R, s, m, args, below, meth, c, cs0, A, Q⟩ := G
  intro H locs ls hP hD hS hl
  exact W.widen h1 h2 (k H locs ls hP hD hS hl)
theorem y_last {ob : Nat} {fo : Nat → Int64} {x : Int64} (C : Cx G E cc nL own rt fr lo) (d : decode cc pc = .ok (.lastore, 1)) (k : WG G l E cs (OC E ob (vp_updL fo 0 x) ++ wr) (pc + 1) lv st) : WG G l E cs (OC E ob fo ++ wr) pc lv (.long x :: .int 0 :: .ref ob :: st) := by
  obtain ⟨p, e, R, s, m, args, below, meth, c, cs0, A, Q⟩ := G
  obtain ⟨hx, hb, hml, hown, hts, hK, hN, hlk, hr, hfr, hlo, hc1, hc2, hA, hSt⟩ := C
  intro H locs ls hP hD hS hl
  exact va_last hx hb hK hP hD hS 0 3 (cA := E.2.1 3) (n := 1) (f := fo) rfl rfl (i := 0) (by unfold vp_in; decide) d (fun H1 locs1 hP1 hD1 hS1 => k H1 locs1 ls hP1 hD1 hS1 hl)
theorem y_lald {ob : Nat} {fo : Nat → Int64} (C : Cx G E cc nL own rt fr lo) (d : decode cc pc = .ok (.laload, 1)) (k : WG G l E cs (OC E ob fo ++ wr) (pc + 1) lv (.long (fo 0) :: st)) : WG G l E cs (OC E ob fo ++ wr) pc lv (.int 0 :: .ref ob :: st) := by
  obtain ⟨p, e, R, s, m, args, below, meth, c, cs0, A, Q⟩ := G
  obtain ⟨hx, hb, hml, hown, hts, hK, hN, hlk, hr, hfr, hlo, hc1, hc2, hA, hSt⟩ := C
  intro H locs ls hP hD hS hl
  exact va_lald hx hb hK hP 0 3 (cA := E.2.1 3) (n := 1) (f := fo) rfl rfl (i := 0) (by unfold vp_in; decide) d (k H locs ls hP hD hS hl)
set_option maxHeartbeats 1000000 in
/-- the call throws, and this method's own table catches it -/
theorem y_callT {a b : Int32} {mF : Mm} {cls : String} (h1 : EF.1 = E.1) (h2 : EF.2.1 = E.2.1) (C : Cx G E cL_link 5 RL (some .int) 7 104) (hT : TB G) (hM : Mt l EF SX7 a b mF cls) (hrm : Rm G (cs.1 + 1) (cs.2 + 6)) (pre : List ExceptionTableEntry) (x : ExceptionTableEntry) (suf : List ExceptionTableEntry) (hsp : tableOf hhL = pre ++ x :: suf)
    (hpass : ∀ z ∈ pre, z.catchType = 13 ∧ cls = cNSE) (hx0 : covers x 5 = true) (h0 : x.catchType ≠ 0) (hwl : Cond.classLink RL x.catchType cls ∈ gw) (hwc : Cond.castable cls cls ∈ gn) (hrs : (rest.map fun v => v.category).sum ≤ 8)
    (k : ∀ q : Nat, WG G l E (cs.1 + 1, cs.2 + 6) (wr ++ wd EF SX7 mF) x.handlerPc lv [.ref q]) : WG G l E cs (wr ++ wd EF SX7 mF) 5 lv (.int b :: .int a :: .ref (EF.2.2 0) :: rest) := by
  obtain ⟨p, e, R, s, m, args, below, meth, c, cs0, A, Q⟩ := G
  obtain ⟨hx, hb, hml, hown, hts, hK, hN, hlk, hr, hfr, hlo, hc1, hc2, hA, hSt⟩ := C
  intro H locs ls hP hD hS hl
  obtain ⟨-, hPc, -, hDc⟩ := w_split hP hD
  have ha := wd_at (E := EF) (mm := mF) (S := SX7) (o := 0) rfl
  have hK2 : va_K EF.1 gc (tyE EF) s := by
    unfold tyE
    rw [h1, h2]
    exact hK
  have hPc2 := hPc
  rw [← h1] at hPc2
  have hF := freeA hDc hS hA
  have hrun : vx_Run p l e R s m args below meth c H locs cs.1 cs.2 1 6 (F0 m 5 ls (.int b :: .int a :: .ref (EF.2.2 0) :: rest)) rest (fun _ _ _ => False) (XTc EF SX7 mF (va_A (wd EF SX7 mF) H.size) cls) (va_A (wd EF SX7 mF) H.size) :=
    vx_runV (Ts := gw) (bytes := cX7_link) (maxL := 3) (nL := 5) (n := 2) (ret := (some .int)) (C := RX7) (y := yX7_link) (As := [.int a, .int b]) (rest := rest) ⟨hx, hb, hml, hown, hts⟩ (hM H.size)
      ⟨callB_of (index := 7) 2 hts (gIn (fun _ h => h) (gmem 747 (by decide +kernel) rfl)) rfl rfl rfl (hts _ (gmem 1 (by decide +kernel) rfl)) (hts _ (gmem 744 (by decide +kernel) rfl)) (by decide +kernel) ⟨by show 6 + 1 ≤ _; omega, by show 8 + (3 + 11) + 82 ≤ _; omega⟩, hts _ (gmem 745 (by decide +kernel) rfl), hts _ (gmem 746 (by decide +kernel) rfl)⟩
      ⟨Pm_blind, va_recv hK2 hPc2 (ci := 7) rfl ha, x_pre hPc2 hDc hK2 hN (by rw [h2]; exact hSt) hS hA⟩ rfl rfl (hl.1.trans hml) rfl (lv_room hrs) (show decode cL_link 5 = .ok (.invokevirtual 7, 3) by decide +kernel) ⟨hrm.1, hrm.2⟩
  intro T hT9 X
  rcases hrun T hT9 X with ⟨v, st₀, t, T', L, h0', X', hL, e1, e2, hq, st⟩ | ⟨q, st₀, t, T', L, Ex, ce, h0', X', hL, e1, e2, ⟨rfl, hPt, hDt, hz, hk⟩, hce, hcv, hcl, st⟩
  · exact hq.elim
  · rw [h0'] at hz hk
    rw [← e1] at hPt hk hz
    rw [h1] at hPt
    obtain ⟨hP1, hD1⟩ := w_join hP hD hk hF hPt hDt
    have hS1 : va_S A s.heap T'.heap (locs ++ L) := ⟨Nat.le_trans hS.1 hz, fun q h1 h2 => by rw [hk q (Nat.lt_of_lt_of_le h1 hS.1) (fun z => h2 (hF q z))]; exact hS.2.1 q h1 h2, fun q hq => by
      rcases List.mem_append.mp hq with h | h
      · exact hS.2.2 q h
      · exact hF _ (hL q h)⟩
    have hkk := k q T'.heap (locs ++ L) ls hP1 hD1 hS1 hl
    have hc9 : vx_W p l e R s m args below meth c T'.heap (locs ++ L) (cs.1 + 1) (cs.2 + 6) Q (F0 m 5 ls rest) q :=
      vx_catch (own := RL) (name := Ex) (E := Ex) (ce := ce) hown pre x suf (by rw [show c.exceptionTable.toList = tableOf hhL from hT]; exact hsp)
        (fun z hz9 => Or.inr ⟨by rw [(hpass z hz9).1]; decide, cIOB, by rw [(hpass z hz9).1]; exact hts _ (gmem 742 (by decide +kernel) rfl), by rw [(hpass z hz9).2]; exact hSt.2.2.2.2.2.2.2⟩) hx0 h0 (hts _ hwl) (va_Nw.use rfl (hN _ hwc)) (by rw [e1]; exact hce) hcv hcl hkk
    obtain ⟨t2, a1, b1⟩ := hc9 T' rfl X'
    exact ⟨t2, st.trans a1, b1⟩
end LK
