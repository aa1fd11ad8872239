/-! contracts that make cells: constructors; calls over an open world -/
def Qn (E : Ev) (post : va_W → Prop) (A : Nat → Prop) : Array Value → State → Outcome → State → Prop := fun _ st oc t => (∃ w : va_W, oc = .returned none ∧ post w ∧ va_P E.1 gc w t.heap ∧ va_D A w) ∧ va_F A st t
def Pn (E : Ev) (w : va_W) (as : List Value) (sz : Nat) : Array Value → State → Prop := va_Pc as (fun U => U.heap.size = sz ∧ va_P E.1 gc w U.heap ∧ va_K E.1 gc (tyE E) U ∧ (∀ w ∈ gn, va_Nw w U) ∧ va_D (fun _ => True) w ∧ StrF E.2.1 (va_A w sz) U U.heap)
def rmc (fr lo mc ms : Nat) : Room := { frames := fr, cells := mc, slots := ms, locals := lo }
/-- a constructor's contract: on the cell h0 it makes the world of which post holds -/
def Mc (l : Launch) (E : Ev) (y : MethodName) (cy : ByteArray) (ny fr lo mc ms : Nat) (h0 : Nat) (e0 : va_E) (post : va_W → Prop) : Prop :=
  ∀ sz : Nat, Met l y (Cond.code y cy ny none :: gw) (rmc fr lo mc ms) (Pn E [(h0, e0)] [.ref h0] sz) (Qn E post (va_A [(h0, e0)] sz)) mc ms (va_A [(h0, e0)] sz)
theorem Pn_blind {E : Ev} {w : va_W} {as : List Value} {sz : Nat} : FrameBlind (Pn E w as sz) := by
  intro a U g mk q
  obtain ⟨q0, q1, qP, qK, qN, qD, qS⟩ := q
  exact ⟨q0, q1, qP, va_K.moved (u := U) (U := U.calling g mk a) (Vm.Alike.refl U.vm) qK, gn_same (u := U) (U := U.calling g mk a) rfl qN, qD, StrF.same (u := U) (U := U.calling g mk a) rfl qS⟩
def RN (G : Gt) (E : Ev) (mc ms : Nat) (post : va_W → Prop) : Prop := match G with
  | (_, _, _, s, _, args, below, _, _, _, A, Q) => Q = MQ below (Qn E post A) args s mc ms A
set_option maxHeartbeats 1000000 in
theorem Mc.of {l : Launch} {E : Ev} {y : MethodName} {cy : ByteArray} {ny fr lo mc ms h0 : Nat} {e0 : va_E} {post : va_W → Prop} (hy : plainName y.cls = true) (hen : 1 ≤ ny) (hnm : y.name = "<init>")
    (hb : ∀ G : Gt, Cx G E cy ny y.cls none fr lo → Nmi G → Rm G mc ms → RN G E mc ms post → WG G l E (0, 0) [(h0, e0)] 0 [(0, .ref h0)] []) : Mc l E y cy ny fr lo mc ms h0 e0 post := by
  intro sz
  refine Met.ofW (cc := cy) (maxL := ny) (ret := none) hy rfl ?_
  intro p e s m args below meth c s₁ B hml hv
  obtain ⟨rfl, hsz, hP, hK, hN, hD0, hSt⟩ := hv
  have hts := atoms_spec (ws := Cond.code y cy ny none :: gw) B.pre
  have hown : s.vm.findClass y.cls = some m.cls := findClass_of_methodNamed B.named
  have hin : meth.name = "<init>" := (name_of_methodNamed B.named B.method).1.trans hnm
  subst hsz
  have hD := hD0.self (sz := s.heap.size)
  have h1 := hb (p, e, (headSpec (Cond.code y cy ny none :: gw) (rmc fr lo mc ms)).room, s, m, [Value.ref h0].toArray, below, meth, c, (0, 0), va_A [(h0, e0)] s.heap.size, MQ below (Qn E post (va_A [(h0, e0)] s.heap.size)) [Value.ref h0].toArray s mc ms (va_A [(h0, e0)] s.heap.size))
    ⟨B.exec, B.bytes, hml, hown, fun w hw => hts w (List.mem_cons_of_mem _ hw), hK, hN, B.notSynchronized, B.returns, Nat.le_refl _, Nat.le_refl _, Nat.zero_le _, Nat.zero_le _, fun q h => Or.inr h, hSt⟩
    hin ⟨Nat.le_refl _, Nat.le_refl _⟩ rfl
  have hl := lv_entry [Value.ref h0] (n := ny) hen
  rw [lg_entry_eq]
  refine h1 s.heap [] _ hP hD va_S.rf ?_
  rw [hml]
  exact hl
section YC
variable {G : Gt} {l : Launch} {E : Ev} {cs : Nat × Nat} {w wr : va_W} {cc : ByteArray} {nL : Nat} {own : String} {rt : Option FieldType} {fr lo : Nat} {pc : Nat} {lv : List (Nat × Value)} {st st2 : List Value}
variable {y : MethodName} {cy : ByteArray} {ny n index : Nat} {ry : Option FieldType} {fr2 lo2 mc ms : Nat} {v : Option Value} {m1 : Mm} {As rest : List Value}
theorem y_vret {post : va_W → Prop} (C : Cx G E cc nL own none fr lo) (hQ : RN G E mc ms post) (hcs : cs = (mc, ms)) (d : decode cc pc = .ok (.return_, 1)) (hp : post w) : WG G l E cs w pc lv [] := by
  obtain ⟨p, e, R, s, m, args, below, meth, c, cs0, A, Q⟩ := G
  obtain ⟨hx, hb, hml, hown, hts, hK, hN, hlk, hr, hfr, hlo, hc1, hc2, hA, hSt⟩ := C
  intro H locs ls hP hD hS hl
  subst hcs
  cases hQ
  exact W.vret hx hb hr (fun t ht hW => ⟨⟨w, rfl, hp, by rw [ht]; exact hP, hD⟩, hS.F ht⟩) (fun q h => hS.2.2 q h) d (hlocks := hlk)
theorem n_pre {s : State} {A : Nat → Prop} {H : Heap} {as : List Value} {wc : va_W} {locs : List Loc} (hP : va_P E.1 gc wc H) (hD : va_D A wc) (hK : va_K E.1 gc (tyE E) s) (hN : ∀ w ∈ gn, va_Nw w s) (hSt : StrF E.2.1 A s s.heap) (hS : va_S A s.heap H locs) (hA : ∀ q, s.heap.size ≤ q → A q) : ∀ U : State, U.heap = H → s.WarmedH U.vm → Pn E wc as H.size as.toArray U := by
  intro U hU hW
  exact ⟨rfl, by rw [hU], by rw [hU]; exact hP, va_K.moved hW.alike hK, gn_move hW hN, hD.weaken (fun _ _ _ _ => trivial), hSt.call hS (freeA hD hS hA) hW hU⟩
theorem n_after {p : Program} {e : Env} {R : Room} {s : State} {m : MethodId} {args : Array Value} {below : List Frame} {meth : Method} {c : Code} {cs0 : Nat × Nat} {A : Nat → Prop} {Q : State → Prop} {H : Heap} {locs : List Loc} {ls : Array Slot} {a : Array Value} {wc : va_W} {post : va_W → Prop}
    (hP : va_P E.1 gc (wr ++ wc) H) (hD : va_D A (wr ++ wc)) (hS : va_S A s.heap H locs) (hA : ∀ q, s.heap.size ≤ q → A q) (hl : lv_has ls c.maxLocals lv)
    (hr : va_Run p l e R s m args below meth c H locs cs.1 cs.2 mc ms (F0 m pc ls st) rest (Qn E post (va_A wc H.size) a) (va_A wc H.size))
    (k : ∀ w1, post w1 → WG (p, e, R, s, m, args, below, meth, c, cs0, A, Q) l E (cs.1 + mc, cs.2 + ms) (wr ++ w1) (pc + 3) lv rest) : W p l e R s m args below meth c H locs cs.1 cs.2 Q (F0 m pc ls st) := by
  obtain ⟨-, hPc, -, hDc⟩ := w_split hP hD
  have hF : ∀ q, va_A wc H.size q → A q := by
    intro q h
    rcases h with ⟨k, e, h⟩ | h
    · exact hDc.2 k (q, e) h
    · exact hA q (Nat.le_trans hS.1 h)
  intro T hT X
  obtain ⟨v', st₀, t, T', L, h0, X', hL, e1, e2, ⟨⟨w1, hv, hp, hPt, hDt⟩, hz, hk⟩, stp⟩ := hr T hT X
  cases hv
  rw [h0] at hz hk
  rw [← e1] at hPt hk hz
  obtain ⟨hP1, hD1⟩ := w_join hP hD hk hF hPt hDt
  obtain ⟨t2, a1, b1⟩ := k w1 hp T'.heap (locs ++ L) ls hP1 hD1
    ⟨Nat.le_trans hS.1 hz, fun q h1 h2 => by rw [hk q (Nat.lt_of_lt_of_le h1 hS.1) (fun z => h2 (hF q z))]; exact hS.2.1 q h1 h2, fun q hq => by
      rcases List.mem_append.mp hq with h | h
      · exact hS.2.2 q h
      · exact hF _ (hL q h)⟩ hl T' rfl X'
  exact ⟨t2, stp t2 a1, b1⟩
set_option maxHeartbeats 1000000 in
/-- a constructor is called on the last cell -/
theorem y_callI {h0 : Nat} {e0 : va_E} {post : va_W → Prop} (C : Cx G E cc nL own rt fr lo) (hM : Mc l E y cy ny fr2 lo2 mc ms h0 e0 post) (hw : wr ++ [(h0, e0)] = w) (w1 : Cond.methodLink own index y ∈ gw) (w2 : Cond.instanceMethod y ∈ gw) (w4 : Cond.initialized y.cls ∈ gw) (w5 : Cond.code y cy ny none ∈ gw) (hnm : y.name = "<init>")
    (hd : y.cls ≠ "java/lang/invoke/MethodHandle" ∧ y.cls ≠ "java/lang/invoke/VarHandle" ∧ (parseMethodDescriptor y.desc).map (fun d => d.parameters.length) = some 0) (hfr2 : fr2 + 1 ≤ fr) (hlo2 : 8 + (ny + 11) + lo2 ≤ lo) (hrs : (rest.map fun v => v.category).sum ≤ 8) (hrm : Rm G (cs.1 + mc) (cs.2 + ms))
    (d : decode cc pc = .ok (.invokespecial index, 3)) (k : ∀ w1, post w1 → WG G l E (cs.1 + mc, cs.2 + ms) (wr ++ w1) (pc + 3) lv rest) : WG G l E cs w pc lv (.ref h0 :: rest) := by
  obtain ⟨p, e, R, s, m, args, below, meth, c, cs0, A, Q⟩ := G
  obtain ⟨hx, hb, hml, hown, hts, hK, hN, hlk, hr, hfr, hlo, hc1, hc2, hA, hSt⟩ := C
  intro H locs ls hP hD hS hl
  subst hw
  obtain ⟨-, hPc, -, hDc⟩ := w_split hP hD
  refine n_after (a := [Value.ref h0].toArray) hP hD hS hA hl (va_runI (Ts := gw) (bytes := cy) (maxL := ny) (nL := nL) (n := 0) (As := []) (rest := rest) ⟨hx, hb, hml, hown, hts⟩ (hM H.size) ?_ ⟨Pn_blind, n_pre hPc hDc hK hN hSt hS hA⟩ rfl rfl (hl.1.trans hml) rfl (lv_room hrs) d ⟨hrm.1, hrm.2⟩) k
  exact cwI 0 hts (gIn (fun _ h => h) w5) rfl rfl rfl (hts _ w4) (hts _ w1) (hts _ w2) hnm hd ⟨Nat.le_trans hfr2 hfr, Nat.le_trans hlo2 hlo⟩
set_option maxHeartbeats 1000000 in
theorem y_callIN {host : String} {h0 : Nat} {e0 : va_E} {post : va_W → Prop} (C : Cx G E cc nL own rt fr lo) (hM : Mc l E y cy ny fr2 lo2 mc ms h0 e0 post) (hw : wr ++ [(h0, e0)] = w) (w1 : Cond.methodLinkNest own index y host ∈ gn) (w2 : Cond.instanceMethod y ∈ gw) (w4 : Cond.initialized y.cls ∈ gw) (w5 : Cond.code y cy ny none ∈ gw) (hnm : y.name = "<init>")
    (hd : y.cls ≠ "java/lang/invoke/MethodHandle" ∧ y.cls ≠ "java/lang/invoke/VarHandle" ∧ (parseMethodDescriptor y.desc).map (fun d => d.parameters.length) = some 0) (hfr2 : fr2 + 1 ≤ fr) (hlo2 : 8 + (ny + 11) + lo2 ≤ lo) (hrs : (rest.map fun v => v.category).sum ≤ 8) (hrm : Rm G (cs.1 + mc) (cs.2 + ms))
    (d : decode cc pc = .ok (.invokespecial index, 3)) (k : ∀ w1, post w1 → WG G l E (cs.1 + mc, cs.2 + ms) (wr ++ w1) (pc + 3) lv rest) : WG G l E cs w pc lv (.ref h0 :: rest) := by
  obtain ⟨p, e, R, s, m, args, below, meth, c, cs0, A, Q⟩ := G
  obtain ⟨hx, hb, hml, hown, hts, hK, hN, hlk, hr, hfr, hlo, hc1, hc2, hA, hSt⟩ := C
  intro H locs ls hP hD hS hl
  subst hw
  obtain ⟨-, hPc, -, hDc⟩ := w_split hP hD
  refine n_after (a := [Value.ref h0].toArray) hP hD hS hA hl (va_runIN (Ts := gw) (host := host) (bytes := cy) (maxL := ny) (nL := nL) (n := 0) (As := []) (rest := rest) ⟨hx, hb, hml, hown, hts⟩ (hM H.size) ?_ ⟨Pn_blind, n_pre hPc hDc hK hN hSt hS hA⟩ rfl rfl (hl.1.trans hml) rfl (lv_room hrs) d ⟨hrm.1, hrm.2⟩) k
  exact ⟨va_cnB 0 hts (gIn (fun _ h => h) w5) rfl rfl rfl (hN _ w1) (hts _ w4) hd ⟨Nat.le_trans hfr2 hfr, Nat.le_trans hlo2 hlo⟩, hnm, hts _ w2⟩
theorem m_after {S : List Sh} {mm : Mm} {p : Program} {e : Env} {R : Room} {s : State} {m : MethodId} {args : Array Value} {below : List Frame} {meth : Method} {c : Code} {cs0 : Nat × Nat} {A : Nat → Prop} {Q : State → Prop} {H : Heap} {locs : List Loc} {ls : Array Slot} {a : Array Value} {E2 : Ev} (h1 : E2.1 = E.1)
    (hP : va_P E.1 gc (wr ++ wd E2 S mm) H) (hD : va_D A (wr ++ wd E2 S mm)) (hS : va_S A s.heap H locs) (hA : ∀ q, s.heap.size ≤ q → A q) (hl : lv_has ls c.maxLocals lv)
    (hr : va_Run p l e R s m args below meth c H locs cs.1 cs.2 0 0 (F0 m pc ls st) rest (Qm E2 S v m1 (va_A (wd E2 S mm) H.size) a) (va_A (wd E2 S mm) H.size)) (hst : v.toList ++ rest = st2)
    (k : WG (p, e, R, s, m, args, below, meth, c, cs0, A, Q) l E cs (wr ++ wd E2 S m1) (pc + 3) lv st2) : W p l e R s m args below meth c H locs cs.1 cs.2 Q (F0 m pc ls st) := by
  obtain ⟨-, hPc, -, hDc⟩ := w_split hP hD
  have hF : ∀ q, va_A (wd E2 S mm) H.size q → A q := by
    intro q h
    rcases h with ⟨k, e, h⟩ | h
    · exact hDc.2 k (q, e) h
    · exact hA q (Nat.le_trans hS.1 h)
  intro T hT X
  obtain ⟨v', st₀, t, T', L, h0, X', hL, e1, e2, ⟨⟨hv, hPt, hDt⟩, hz, hk⟩, stp⟩ := hr T hT X
  cases hv
  rw [h0] at hz hk
  rw [← e1] at hPt hk hz
  subst hst
  rw [h1] at hPt
  obtain ⟨hP1, hD1⟩ := w_join hP hD hk hF hPt hDt
  obtain ⟨t2, a1, b1⟩ := k T'.heap (locs ++ L) ls hP1 hD1
    ⟨Nat.le_trans hS.1 hz, fun q h1 h2 => by rw [hk q (Nat.lt_of_lt_of_le h1 hS.1) (fun z => h2 (hF q z))]; exact hS.2.1 q h1 h2, fun q hq => by
      rcases List.mem_append.mp hq with h | h
      · exact hS.2.2 q h
      · exact hF _ (hL q h)⟩ hl T' rfl X'
  exact ⟨t2, stp t2 a1, b1⟩
set_option maxHeartbeats 1000000 in
/-- a method over memory is called on the last part of the world -/
theorem y_callV {S : List Sh} {mm : Mm} {o ci : Nat} {T : u_T} {N : Nat} {E2 : Ev} (h1 : E2.1 = E.1) (h2 : E2.2.1 = E.2.1) (C : Cx G E cc nL own rt fr lo) (hM : Ml l E2 S y cy ny ry fr2 lo2 (.ref (E2.2.2 o) :: As) mm v m1) (hw : wr ++ wd E2 S mm = w) (hg : isC S o ci) (hc : gc[ci]? = some (y.cls, T, N)) (w1 : Cond.methodLink own index y ∈ gw) (w2 : Cond.instanceMethod y ∈ gw) (w3 : Cond.selects y.cls y y ∈ gw) (w4 : Cond.initialized y.cls ∈ gw) (w5 : Cond.code y cy ny ry ∈ gw)
    (hd : y.cls ≠ "java/lang/invoke/MethodHandle" ∧ y.cls ≠ "java/lang/invoke/VarHandle" ∧ (parseMethodDescriptor y.desc).map (fun d => d.parameters.length) = some n) (hn : As.length = n) (hfr2 : fr2 + 1 ≤ fr) (hlo2 : 8 + (ny + 11) + lo2 ≤ lo) (hrs : (rest.map fun v => v.category).sum ≤ 8) (hrm : Rm G cs.1 cs.2)
    (d : decode cc pc = .ok (.invokevirtual index, 3)) (hst : As.reverse ++ .ref (E2.2.2 o) :: rest = st) (hst2 : v.toList ++ rest = st2) (k : WG G l E cs (wr ++ wd E2 S m1) (pc + 3) lv st2) : WG G l E cs w pc lv st := by
  obtain ⟨p, e, R, s, m, args, below, meth, c, cs0, A, Q⟩ := G
  obtain ⟨hx, hb, hml, hown, hts, hK, hN, hlk, hr, hfr, hlo, hc1, hc2, hA, hSt⟩ := C
  intro H locs ls hP hD hS hl
  subst hw
  obtain ⟨-, hPc, -, hDc⟩ := w_split hP hD
  obtain ⟨rs, hs⟩ := hg
  have ha := wd_at (E := E2) (mm := mm) hs
  subst hst
  have hK2 : va_K E2.1 gc (tyE E2) s := by
    unfold tyE
    rw [h1, h2]
    exact hK
  rw [← h1] at hPc
  refine m_after (a := (Value.ref (E2.2.2 o) :: As).toArray) h1 hP hD hS hA hl (va_runV (Ts := gw) (bytes := cy) (maxL := ny) (nL := nL) (n := n) (ret := ry) (C := y.cls) (As := As) (rest := rest) ⟨hx, hb, hml, hown, hts⟩ (hM H.size) ?_ ⟨Pm_blind, va_recv hK2 hPc hc ha, x_pre hPc hDc hK2 hN (by rw [h2]; exact hSt) hS hA⟩ rfl hn (hl.1.trans hml) rfl (lv_room hrs) d ⟨hrm.1, hrm.2⟩) hst2 k
  exact ⟨callB_of n hts (gIn (fun _ h => h) w5) rfl rfl rfl (hts _ w4) (hts _ w1) hd ⟨Nat.le_trans hfr2 hfr, Nat.le_trans hlo2 hlo⟩, hts _ w2, hts _ w3⟩
theorem y_comm {wa wb : va_W} (hw : wa ++ wb = w) (k : WG G l E cs (wb ++ wa) pc lv st) : WG G l E cs w pc lv st := by
  obtain ⟨p, e, R, s, m, args, below, meth, c, cs0, A, Q⟩ := G
  intro H locs ls hP hD hS hl
  subst hw
  obtain ⟨hP2, hD2⟩ := w_comm hP hD
  exact k H locs ls hP2 hD2 hS hl
end YC
/-- addresses by a list -/
def adl (l : List Nat) : Nat → Nat := fun k => l.getD k 0
def z0 : Mm := (fun _ _ => 0, fun _ _ => 0)
def mapR {α β : Type} (f : Nat → α → β) : Nat → List α → List β
  | _, [] => []
  | n, a :: l => f n a :: mapR f (n + 1) l
theorem mapR_at {α β : Type} (f : Nat → α → β) : ∀ (l : List α) (n k : Nat), (mapR f n l)[k]? = l[k]?.map (f (n + k))
  | [], n, k => by simp [mapR]
  | a :: l, n, 0 => by simp [mapR]
  | a :: l, n, k + 1 => by
    simp only [mapR, List.getElem?_cons_succ]
    rw [mapR_at f l (n + 1) k, show n + 1 + k = n + (k + 1) by omega]
theorem mapIdx_R {α β : Type} (f : Nat → α → β) (l : List α) : l.mapIdx f = mapR f 0 l := by
  apply List.ext_getElem?
  intro k
  rw [List.getElem?_mapIdx, mapR_at, Nat.zero_add]
theorem wd_R (E : Ev) (S : List Sh) (mm : Mm) : wd E S mm = mapR (fun o sh => (E.2.2 o, cel E S mm o sh)) 0 S := mapIdx_R _ _
theorem cel_R (E : Ev) (S : List Sh) (mm : Mm) (o ci : Nat) (rs : List Nat) : cel E S mm o (.inr (ci, rs)) = .inr (ci, mapR (fun k t => fvl E S mm o k t) 0 (kp ci)) := by
  show Sum.inr (ci, (kp ci).mapIdx (fun k t => fvl E S mm o k t)) = _
  rw [mapIdx_R]
