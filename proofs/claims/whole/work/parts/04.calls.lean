/-! contracts: a method's answer and memory are a pure program's; calls of it -/
def Qm (E : Ev) (S : List Sh) (v : Option Value) (m1 : Mm) (A : Nat → Prop) : Array Value → State → Outcome → State → Prop := fun _ st oc t => (oc = .returned v ∧ va_P E.1 gc (wd E S m1) t.heap ∧ va_D A (wd E S m1)) ∧ va_F A st t
def Pm (E : Ev) (S : List Sh) (mm : Mm) (as : List Value) (sz : Nat) : Array Value → State → Prop := va_Pc as (fun U => U.heap.size = sz ∧ va_P E.1 gc (wd E S mm) U.heap ∧ va_K E.1 gc (tyE E) U ∧ (∀ w ∈ gn, va_Nw w U) ∧ va_D (fun _ => True) (wd E S mm) ∧ StrF E.2.1 (va_A (wd E S mm) sz) U U.heap)
def rmm (fr lo : Nat) : Room := { frames := fr, cells := 0, slots := 0, locals := lo }
def Ml (l : Launch) (E : Ev) (S : List Sh) (y : MethodName) (cy : ByteArray) (ny : Nat) (ry : Option FieldType) (fr lo : Nat) (as : List Value) (mm : Mm) (v : Option Value) (m1 : Mm) : Prop :=
  ∀ sz : Nat, Met l y (Cond.code y cy ny ry :: gw) (rmm fr lo) (Pm E S mm as sz) (Qm E S v m1 (va_A (wd E S mm) sz)) 0 0 (va_A (wd E S mm) sz)
theorem Pm_blind {E : Ev} {S : List Sh} {mm : Mm} {as : List Value} {sz : Nat} : FrameBlind (Pm E S mm as sz) := by
  intro a U g mk q
  obtain ⟨q0, q1, qP, qK, qN, qD, qS⟩ := q
  exact ⟨q0, q1, qP, va_K.moved (u := U) (U := U.calling g mk a) (Vm.Alike.refl U.vm) qK, gn_same (u := U) (U := U.calling g mk a) rfl qN, qD, StrF.same (u := U) (U := U.calling g mk a) rfl qS⟩
theorem gw_good : ∀ w ∈ gw, goodWord w = true := fun w hw => (List.mem_filter.mp hw).2
theorem gIn {Ts : List Cond} (hT : ∀ w ∈ gw, w ∈ Ts) {y : MethodName} {cy : ByteArray} {ny : Nat} {ry : Option FieldType} (h : Cond.code y cy ny ry ∈ gw) : GoodIn Ts (Cond.code y cy ny ry :: gw) := by
  intro w hw
  rcases List.mem_cons.mp hw with rfl | hw
  · exact ⟨hT _ h, good_of_word (gw_good _ h)⟩
  · exact ⟨hT _ hw, good_of_word (gw_good _ hw)⟩
set_option maxHeartbeats 1000000 in
/-- a method's contract out of its walk -/
theorem Ml.of {l : Launch} {E : Ev} {S : List Sh} {y : MethodName} {cy : ByteArray} {ny : Nat} {ry : Option FieldType} {fr lo : Nat} {as : List Value} {mm : Mm} {v : Option Value} {m1 : Mm} (hy : plainName y.cls = true) (hen : (lg_sl as).length ≤ ny)
    (hb : ∀ G : Gt, Cx G E cy ny y.cls ry fr lo → RQ G E S v m1 → WM G l E S 0 (lv_args 0 as) [] mm) : Ml l E S y cy ny ry fr lo as mm v m1 := by
  intro sz
  refine Met.ofW (cc := cy) (maxL := ny) (ret := ry) hy rfl ?_
  intro p e s m args below meth c s₁ B hml hv
  obtain ⟨rfl, hsz, hP, hK, hN, hD0, hSt⟩ := hv
  have hts := atoms_spec (ws := Cond.code y cy ny ry :: gw) B.pre
  have hown : s.vm.findClass y.cls = some m.cls := findClass_of_methodNamed B.named
  subst hsz
  have hD := hD0.self (sz := s.heap.size)
  have h1 := hb (p, e, (headSpec (Cond.code y cy ny ry :: gw) (rmm fr lo)).room, s, m, as.toArray, below, meth, c, (0, 0), va_A (wd E S mm) s.heap.size, MQ below (Qm E S v m1 (va_A (wd E S mm) s.heap.size)) as.toArray s 0 0 (va_A (wd E S mm) s.heap.size))
    ⟨B.exec, B.bytes, hml, hown, fun w hw => hts w (List.mem_cons_of_mem _ hw), hK, hN, B.notSynchronized, B.returns, Nat.le_refl _, Nat.le_refl _, Nat.zero_le _, Nat.zero_le _, fun q h => Or.inr h, hSt⟩
    ⟨_, _, rfl, fun _ h => h, fun t h1 h2 h3 h4 => ⟨⟨rfl, h1, h2⟩, h3⟩⟩
  have hl := lv_entry as (n := ny) hen
  rw [lg_entry_eq]
  refine h1 s.heap [] _ hP hD va_S.rf ?_
  rw [hml]
  exact hl
section XC
variable {G : Gt} {l : Launch} {E : Ev} {S : List Sh} {cc : ByteArray} {nL : Nat} {own : String} {rt : Option FieldType} {fr lo : Nat} {pc : Nat} {lv : List (Nat × Value)} {st st2 : List Value} {mm : Mm}
variable {y : MethodName} {cy : ByteArray} {ny n index : Nat} {ry : Option FieldType} {fr2 lo2 : Nat} {v : Option Value} {m1 : Mm} {As rest : List Value}
theorem x_after {p : Program} {e : Env} {R : Room} {s : State} {m : MethodId} {args : Array Value} {below : List Frame} {meth : Method} {c : Code} {cs : Nat × Nat} {A : Nat → Prop} {Q : State → Prop} {H : Heap} {locs : List Loc} {ls : Array Slot} {a : Array Value}
    (hP : va_P E.1 gc (wd E S mm) H) (hD : va_D A (wd E S mm)) (hS : va_S A s.heap H locs) (hA : ∀ q, s.heap.size ≤ q → A q) (hl : lv_has ls c.maxLocals lv)
    (hr : va_Run p l e R s m args below meth c H locs cs.1 cs.2 0 0 (F0 m pc ls st) rest (Qm E S v m1 (va_A (wd E S mm) H.size) a) (va_A (wd E S mm) H.size)) (hst : v.toList ++ rest = st2)
    (k : WM (p, e, R, s, m, args, below, meth, c, cs, A, Q) l E S (pc + 3) lv st2 m1) : W p l e R s m args below meth c H locs cs.1 cs.2 Q (F0 m pc ls st) := by
  have hF : ∀ q, va_A (wd E S mm) H.size q → A q := by
    intro q h
    rcases h with ⟨k, e, h⟩ | h
    · exact hD.2 k (q, e) h
    · exact hA q (Nat.le_trans hS.1 h)
  intro T hT X
  obtain ⟨v', st₀, t, T', L, h0, X', hL, e1, e2, ⟨⟨hv, hPt, hDt⟩, hz, hk⟩, stp⟩ := hr T hT X
  cases hv
  rw [h0] at hz hk
  subst hst
  obtain ⟨t2, a1, b1⟩ := k T'.heap (locs ++ L) ls (by rw [e1]; exact hPt) (hDt.weaken (fun _ _ _ h => hF _ h))
    ⟨Nat.le_trans hS.1 (by rw [e1]; exact hz), fun q h1 h2 => by rw [e1, hk q (Nat.lt_of_lt_of_le h1 hS.1) (fun z => h2 (hF q z))]; exact hS.2.1 q h1 h2, fun q hq => by
      rcases List.mem_append.mp hq with h | h
      · exact hS.2.2 q h
      · exact hF _ (hL q h)⟩ hl T' rfl X'
  exact ⟨t2, stp t2 a1, b1⟩
theorem x_pre {s : State} {A : Nat → Prop} {H : Heap} {as : List Value} {locs : List Loc} (hP : va_P E.1 gc (wd E S mm) H) (hD : va_D A (wd E S mm)) (hK : va_K E.1 gc (tyE E) s) (hN : ∀ w ∈ gn, va_Nw w s) (hSt : StrF E.2.1 A s s.heap) (hS : va_S A s.heap H locs) (hA : ∀ q, s.heap.size ≤ q → A q) : ∀ U : State, U.heap = H → s.WarmedH U.vm → Pm E S mm as H.size as.toArray U := by
  intro U hU hW
  exact ⟨rfl, by rw [hU], by rw [hU]; exact hP, va_K.moved hW.alike hK, gn_move hW hN, hD.weaken (fun _ _ _ _ => trivial), hSt.call hS (freeA hD hS hA) hW hU⟩
set_option maxHeartbeats 1000000 in
theorem x_callV {o ci : Nat} {T : u_T} {N : Nat} (C : Cx G E cc nL own rt fr lo) (hM : Ml l E S y cy ny ry fr2 lo2 (.ref (E.2.2 o) :: As) mm v m1) (hg : isC S o ci) (hc : gc[ci]? = some (y.cls, T, N)) (w1 : Cond.methodLink own index y ∈ gw) (w2 : Cond.instanceMethod y ∈ gw) (w3 : Cond.selects y.cls y y ∈ gw) (w4 : Cond.initialized y.cls ∈ gw) (w5 : Cond.code y cy ny ry ∈ gw)
    (hd : y.cls ≠ "java/lang/invoke/MethodHandle" ∧ y.cls ≠ "java/lang/invoke/VarHandle" ∧ (parseMethodDescriptor y.desc).map (fun d => d.parameters.length) = some n) (hn : As.length = n) (hfr2 : fr2 + 1 ≤ fr) (hlo2 : 8 + (ny + 11) + lo2 ≤ lo) (hrs : (rest.map fun v => v.category).sum ≤ 8)
    (d : decode cc pc = .ok (.invokevirtual index, 3)) (hst : As.reverse ++ .ref (E.2.2 o) :: rest = st) (hst2 : v.toList ++ rest = st2) (k : WM G l E S (pc + 3) lv st2 m1) : WM G l E S pc lv st mm := by
  obtain ⟨p, e, R, s, m, args, below, meth, c, cs, A, Q⟩ := G
  obtain ⟨hx, hb, hml, hown, hts, hK, hN, hlk, hr, hfr, hlo, hc1, hc2, hA, hSt⟩ := C
  intro H locs ls hP hD hS hl
  obtain ⟨rs, hs⟩ := hg
  have ha := wd_at (E := E) (mm := mm) hs
  subst hst
  refine x_after (a := (Value.ref (E.2.2 o) :: As).toArray) hP hD hS hA hl (va_runV (Ts := gw) (bytes := cy) (maxL := ny) (nL := nL) (n := n) (ret := ry) (C := y.cls) (As := As) (rest := rest) ⟨hx, hb, hml, hown, hts⟩ (hM H.size) ?_ ⟨Pm_blind, va_recv hK hP hc ha, x_pre hP hD hK hN hSt hS hA⟩ rfl hn (hl.1.trans hml) rfl (lv_room hrs) d ⟨by omega, by omega⟩) hst2 k
  exact ⟨callB_of n hts (gIn (fun _ h => h) w5) rfl rfl rfl (hts _ w4) (hts _ w1) hd ⟨Nat.le_trans hfr2 hfr, Nat.le_trans hlo2 hlo⟩, hts _ w2, hts _ w3⟩
set_option maxHeartbeats 1000000 in
theorem x_callS (C : Cx G E cc nL own rt fr lo) (hM : Ml l E S y cy ny ry fr2 lo2 As mm v m1) (w1 : Cond.methodLink own index y ∈ gw) (w2 : Cond.static y ∈ gw) (w4 : Cond.initialized y.cls ∈ gw) (w5 : Cond.code y cy ny ry ∈ gw)
    (hd : y.cls ≠ "java/lang/invoke/MethodHandle" ∧ y.cls ≠ "java/lang/invoke/VarHandle" ∧ (parseMethodDescriptor y.desc).map (fun d => d.parameters.length) = some n) (hn : As.length = n) (hfr2 : fr2 + 1 ≤ fr) (hlo2 : 8 + (ny + 11) + lo2 ≤ lo) (hrs : (rest.map fun v => v.category).sum ≤ 8)
    (d : decode cc pc = .ok (.invokestatic index, 3)) (hst : As.reverse ++ rest = st) (hst2 : v.toList ++ rest = st2) (k : WM G l E S (pc + 3) lv st2 m1) : WM G l E S pc lv st mm := by
  obtain ⟨p, e, R, s, m, args, below, meth, c, cs, A, Q⟩ := G
  obtain ⟨hx, hb, hml, hown, hts, hK, hN, hlk, hr, hfr, hlo, hc1, hc2, hA, hSt⟩ := C
  intro H locs ls hP hD hS hl
  subst hst
  refine x_after (a := As.toArray) hP hD hS hA hl (va_runS (Ts := gw) (bytes := cy) (maxL := ny) (nL := nL) (n := n) (ret := ry) (As := As) (rest := rest) ⟨hx, hb, hml, hown, hts⟩ (hM H.size) ?_ ⟨Pm_blind, x_pre hP hD hK hN hSt hS hA⟩ rfl hn (hl.1.trans hml) rfl (lv_room hrs) d ⟨by omega, by omega⟩) hst2 k
  exact ⟨callB_of n hts (gIn (fun _ h => h) w5) rfl rfl rfl (hts _ w4) (hts _ w1) hd ⟨Nat.le_trans hfr2 hfr, Nat.le_trans hlo2 hlo⟩, hts _ w2⟩
set_option maxHeartbeats 1000000 in
theorem x_callSN {host : String} (C : Cx G E cc nL own rt fr lo) (hM : Ml l E S y cy ny ry fr2 lo2 As mm v m1) (w1 : Cond.methodLinkNest own index y host ∈ gn) (w2 : Cond.static y ∈ gw) (w4 : Cond.initialized y.cls ∈ gw) (w5 : Cond.code y cy ny ry ∈ gw)
    (hd : y.cls ≠ "java/lang/invoke/MethodHandle" ∧ y.cls ≠ "java/lang/invoke/VarHandle" ∧ (parseMethodDescriptor y.desc).map (fun d => d.parameters.length) = some n) (hn : As.length = n) (hfr2 : fr2 + 1 ≤ fr) (hlo2 : 8 + (ny + 11) + lo2 ≤ lo) (hrs : (rest.map fun v => v.category).sum ≤ 8)
    (d : decode cc pc = .ok (.invokestatic index, 3)) (hst : As.reverse ++ rest = st) (hst2 : v.toList ++ rest = st2) (k : WM G l E S (pc + 3) lv st2 m1) : WM G l E S pc lv st mm := by
  obtain ⟨p, e, R, s, m, args, below, meth, c, cs, A, Q⟩ := G
  obtain ⟨hx, hb, hml, hown, hts, hK, hN, hlk, hr, hfr, hlo, hc1, hc2, hA, hSt⟩ := C
  intro H locs ls hP hD hS hl
  subst hst
  refine x_after (a := As.toArray) hP hD hS hA hl (va_runSN (Ts := gw) (host := host) (bytes := cy) (maxL := ny) (nL := nL) (n := n) (ret := ry) (As := As) (rest := rest) ⟨hx, hb, hml, hown, hts⟩ (hM H.size) ?_ ⟨Pm_blind, x_pre hP hD hK hN hSt hS hA⟩ rfl hn (hl.1.trans hml) rfl (lv_room hrs) d ⟨by omega, by omega⟩) hst2 k
  exact ⟨va_cnB n hts (gIn (fun _ h => h) w5) rfl rfl rfl (hN _ w1) (hts _ w4) hd ⟨Nat.le_trans hfr2 hfr, Nat.le_trans hlo2 hlo⟩, hts _ w2, trivial⟩
/-! switches, one case after another -/
theorem i32_ne {x v : Int32} {z : Int} (hz : v.toInt = z) (h : ¬ x = v) : ¬ x.toInt = z := fun e => h (Int32.toInt_inj.mp (e.trans hz.symm))
theorem x_tab1 {α : Type} {A0 B0 : Option α} {r : α} {x w : Int32} {dflt lo9 hi9 z off : Int} {offs : Array Int} {len tgt : Nat} (C : Cx G E cc nL own rt fr lo) (d : decode cc pc = .ok (.tableswitch dflt lo9 hi9 offs, len)) (hz : w.toInt = z) (h1 : ¬ z < lo9) (h2 : ¬ hi9 < z) (ho : offs[(z - lo9).toNat]? = some off) (ht : (pc : Int) + off = (tgt : Int)) (h : (if x = w then A0 else B0) = some r) (kt : A0 = some r → WM G l E S tgt lv st mm) (kf : ¬ x.toInt = z → B0 = some r → WM G l E S pc lv (.int x :: st) mm) : WM G l E S pc lv (.int x :: st) mm := by
  by_cases hc : x = w
  · rw [if_pos hc] at h
    subst hc
    have k := kt h
    obtain ⟨p, e, R, s, m, args, below, meth, c, cs, A, Q⟩ := G
    obtain ⟨hx, hb, hml, hown, hts, hK, hN, hlk, hr, hfr, hlo, hc1, hc2, hA, hSt⟩ := C
    intro H locs ls hP hD hS hl
    exact lv_tableIn hx hb d (by rw [hz]; exact h1) (by rw [hz]; exact h2) (by rw [hz]; exact ho) ht (k H locs ls hP hD hS hl)
  · rw [if_neg hc] at h
    exact kf (i32_ne hz hc) h
theorem x_tabO {x : Int32} {dflt lo9 hi9 : Int} {offs : Array Int} {len tgt : Nat} (C : Cx G E cc nL own rt fr lo) (d : decode cc pc = .ok (.tableswitch dflt lo9 hi9 offs, len)) (ho : x.toInt < lo9 ∨ hi9 < x.toInt) (ht : (pc : Int) + dflt = (tgt : Int)) (k : WM G l E S tgt lv st mm) : WM G l E S pc lv (.int x :: st) mm := by
  obtain ⟨p, e, R, s, m, args, below, meth, c, cs, A, Q⟩ := G
  obtain ⟨hx, hb, hml, hown, hts, hK, hN, hlk, hr, hfr, hlo, hc1, hc2, hA, hSt⟩ := C
  intro H locs ls hP hD hS hl
  exact lv_tableOut hx hb d ho ht (k H locs ls hP hD hS hl)
theorem x_lkp1 {α : Type} {A0 B0 : Option α} {r : α} {x w : Int32} {dflt z off : Int} {ps : Array (Int × Int)} {len tgt : Nat} (C : Cx G E cc nL own rt fr lo) (d : decode cc pc = .ok (.lookupswitch dflt ps, len)) (hp : (ps.toList.zip (ps.toList.drop 1)).all (fun (a, next) => a.1 < next.1) = true) (hz : w.toInt = z) (ho : Op.lookupswitch.offset ps.toList dflt z = off) (ht : (pc : Int) + off = (tgt : Int)) (h : (if x = w then A0 else B0) = some r) (kt : A0 = some r → WM G l E S tgt lv st mm) (kf : ¬ x.toInt = z → B0 = some r → WM G l E S pc lv (.int x :: st) mm) : WM G l E S pc lv (.int x :: st) mm := by
  by_cases hc : x = w
  · rw [if_pos hc] at h
    subst hc
    have k := kt h
    obtain ⟨p, e, R, s, m, args, below, meth, c, cs, A, Q⟩ := G
    obtain ⟨hx, hb, hml, hown, hts, hK, hN, hlk, hr, hfr, hlo, hc1, hc2, hA, hSt⟩ := C
    intro H locs ls hP hD hS hl
    exact lv_lookup hx hb d hp (by rw [hz]; exact ho) ht (k H locs ls hP hD hS hl)
  · rw [if_neg hc] at h
    exact kf (i32_ne hz hc) h
theorem x_lkpO {x : Int32} {dflt : Int} {ps : Array (Int × Int)} {len tgt : Nat} (C : Cx G E cc nL own rt fr lo) (d : decode cc pc = .ok (.lookupswitch dflt ps, len)) (hp : (ps.toList.zip (ps.toList.drop 1)).all (fun (a, next) => a.1 < next.1) = true) (ho : Op.lookupswitch.offset ps.toList dflt x.toInt = dflt) (ht : (pc : Int) + dflt = (tgt : Int)) (k : WM G l E S tgt lv st mm) : WM G l E S pc lv (.int x :: st) mm := by
  obtain ⟨p, e, R, s, m, args, below, meth, c, cs, A, Q⟩ := G
  obtain ⟨hx, hb, hml, hown, hts, hK, hN, hlk, hr, hfr, hlo, hc1, hc2, hA, hSt⟩ := C
  intro H locs ls hP hD hS hl
  exact lv_lookup hx hb d hp ho ht (k H locs ls hP hD hS hl)
end XC
