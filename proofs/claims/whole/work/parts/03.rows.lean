/-! the rows: an instruction each, over the world of a shape and a memory -/
def isNest : Cond → Bool
  | .fieldLinkNest .. => true
  | .methodLinkNest .. => true
  | .declares _ => true
  | .castable .. => true
  | _ => false
def gn : List Cond := lw_tbl.filter isNest
theorem nmem {w : Cond} (i : Nat) (h : tables_1[i]? = some w) (hg : isNest w = true) : w ∈ gn := List.mem_filter.mpr ⟨List.mem_append_right _ (List.mem_of_getElem? h), hg⟩
theorem gn_on : ∀ w ∈ gn, w.onTables = true := by
  intro w hw
  have h := (List.mem_filter.mp hw).2
  cases w <;> first | rfl | (simp [isNest] at h)
theorem gn_move {s U : State} (hW : s.WarmedH U.vm) (h : ∀ w ∈ gn, va_Nw w s) : ∀ w ∈ gn, va_Nw w U := by
  intro w hw
  have h2 := (List.mem_filter.mp hw).2
  have h3 := h w hw
  cases w <;> first | exact va_Nw.warmF hW h3 | exact va_Nw.warmM hW h3 | exact va_Nw.warmD hW h3 | exact va_Nw.warmC hW h3 | (simp [isNest] at h2)
theorem gn_same {u U : State} (hvm : u.vm = U.vm) (h : ∀ w ∈ gn, va_Nw w u) : ∀ w ∈ gn, va_Nw w U := fun w hw => va_Nw.same (gn_on w hw) hvm (h w hw)
abbrev Gt : Type := Program × Env × Room × State × MethodId × Array Value × List Frame × Method × Code × (Nat × Nat) × (Nat → Prop) × (State → Prop)
def Cx (G : Gt) (E : Ev) (cc : ByteArray) (nL : Nat) (own : String) (rt : Option FieldType) (fr lo : Nat) : Prop := match G with
  | (p, _, R, s, m, args, _, meth, c, cs, A, _) => p.tables.exec = Jvm.exec ∧ c.code = cc ∧ c.maxLocals = nL ∧ s.vm.findClass own = some m.cls ∧ (∀ w ∈ gw, w.before args s = true) ∧ va_K E.1 gc (tyE E) s ∧ (∀ w ∈ gn, va_Nw w s) ∧ meth.locks = false ∧ meth.sig.returnType = rt ∧ fr ≤ R.frames ∧ lo ≤ R.locals ∧ cs.1 ≤ R.cells ∧ cs.2 ≤ R.slots ∧ (∀ q, s.heap.size ≤ q → A q) ∧ StrF E.2.1 A s s.heap
def WM (G : Gt) (l : Launch) (E : Ev) (S : List Sh) (pc : Nat) (lv : List (Nat × Value)) (st : List Value) (mm : Mm) : Prop := match G with
  | (p, e, R, s, m, args, below, meth, c, cs, A, Q) => ∀ (H : Heap) (locs : List Loc) (ls : Array Slot), va_P E.1 gc (wd E S mm) H → va_D A (wd E S mm) → va_S A s.heap H locs → lv_has ls c.maxLocals lv → W p l e R s m args below meth c H locs cs.1 cs.2 Q (F0 m pc ls st)
def RQ (G : Gt) (E : Ev) (S : List Sh) (v : Option Value) (mm : Mm) : Prop := match G with
  | (_, _, _, s, _, args, below, _, _, cs, A, Q) => ∃ (Qc : Array Value → State → Outcome → State → Prop) (free : Addr → Prop), Q = MQ below Qc args s cs.1 cs.2 free ∧ (∀ q, A q → free q) ∧ ∀ t : State, va_P E.1 gc (wd E S mm) t.heap → va_D A (wd E S mm) → va_F A s t → s.WarmedH t.vm → Qc args s (.returned v) t
section XR
variable {G : Gt} {l : Launch} {E : Ev} {S : List Sh} {cc : ByteArray} {nL : Nat} {own : String} {rt : Option FieldType} {fr lo : Nat} {pc : Nat} {lv : List (Nat × Value)} {st : List Value} {mm : Mm}
theorem x_iconst (C : Cx G E cc nL own rt fr lo) {n : Int} {v : Int32} (d : decode cc pc = .ok (.iconst n, 1)) (hv : Int32.ofInt n = v) (k : WM G l E S (pc + 1) lv (.int v :: st) mm) : WM G l E S pc lv st mm := by
  obtain ⟨p, e, R, s, m, args, below, meth, c, cs, A, Q⟩ := G
  obtain ⟨hx, hb, hml, hown, hts, hK, hN, hlk, hr, hfr, hlo, hc1, hc2, hA, hSt⟩ := C
  intro H locs ls hP hD hS hl
  exact lv_iconst hx hb d hv (k H locs ls hP hD hS hl)
theorem x_bipush (C : Cx G E cc nL own rt fr lo) {n : Int} {v : Int32} (d : decode cc pc = .ok (.bipush n, 2)) (hv : (Int8.ofInt n).toInt32 = v) (k : WM G l E S (pc + 2) lv (.int v :: st) mm) : WM G l E S pc lv st mm := by
  obtain ⟨p, e, R, s, m, args, below, meth, c, cs, A, Q⟩ := G
  obtain ⟨hx, hb, hml, hown, hts, hK, hN, hlk, hr, hfr, hlo, hc1, hc2, hA, hSt⟩ := C
  intro H locs ls hP hD hS hl
  exact lv_bipush hx hb d hv (k H locs ls hP hD hS hl)
theorem x_sipush (C : Cx G E cc nL own rt fr lo) {n : Int} {v : Int32} (d : decode cc pc = .ok (.sipush n, 3)) (hv : (Int16.ofInt n).toInt32 = v) (k : WM G l E S (pc + 3) lv (.int v :: st) mm) : WM G l E S pc lv st mm := by
  obtain ⟨p, e, R, s, m, args, below, meth, c, cs, A, Q⟩ := G
  obtain ⟨hx, hb, hml, hown, hts, hK, hN, hlk, hr, hfr, hlo, hc1, hc2, hA, hSt⟩ := C
  intro H locs ls hP hD hS hl
  exact lv_sipush hx hb d hv (k H locs ls hP hD hS hl)
theorem x_lconst (C : Cx G E cc nL own rt fr lo) {n : Fin 2} {v : Int64} (d : decode cc pc = .ok (.lconst n, 1)) (hv : Int64.ofNat (n : Nat) = v) (k : WM G l E S (pc + 1) lv (.long v :: st) mm) : WM G l E S pc lv st mm := by
  obtain ⟨p, e, R, s, m, args, below, meth, c, cs, A, Q⟩ := G
  obtain ⟨hx, hb, hml, hown, hts, hK, hN, hlk, hr, hfr, hlo, hc1, hc2, hA, hSt⟩ := C
  intro H locs ls hP hD hS hl
  exact lv_lconst hx hb d hv (k H locs ls hP hD hS hl)
theorem x_iload_n (C : Cx G E cc nL own rt fr lo) {k9 : Fin 4} {i : Nat} {x : Int32} (d : decode cc pc = .ok (.iload_n k9, 1)) (hi : (k9 : Nat) = i) (q : Nat) (hq : lv[q]? = some (i, .int x)) (k : WM G l E S (pc + 1) lv (.int x :: st) mm) : WM G l E S pc lv st mm := by
  obtain ⟨p, e, R, s, m, args, below, meth, c, cs, A, Q⟩ := G
  obtain ⟨hx, hb, hml, hown, hts, hK, hN, hlk, hr, hfr, hlo, hc1, hc2, hA, hSt⟩ := C
  intro H locs ls hP hD hS hl
  exact lv_iload_n hx hb d hi (lv_at hl q hq) (k H locs ls hP hD hS hl)
theorem x_iload (C : Cx G E cc nL own rt fr lo) {i : Nat} {x : Int32} (d : decode cc pc = .ok (.iload i, 2)) (q : Nat) (hq : lv[q]? = some (i, .int x)) (k : WM G l E S (pc + 2) lv (.int x :: st) mm) : WM G l E S pc lv st mm := by
  obtain ⟨p, e, R, s, m, args, below, meth, c, cs, A, Q⟩ := G
  obtain ⟨hx, hb, hml, hown, hts, hK, hN, hlk, hr, hfr, hlo, hc1, hc2, hA, hSt⟩ := C
  intro H locs ls hP hD hS hl
  exact lv_iload hx hb d (lv_at hl q hq) (k H locs ls hP hD hS hl)
theorem x_lload_n (C : Cx G E cc nL own rt fr lo) {k9 : Fin 4} {i : Nat} {x : Int64} (d : decode cc pc = .ok (.lload_n k9, 1)) (hi : (k9 : Nat) = i) (q : Nat) (hq : lv[q]? = some (i, .long x)) (k : WM G l E S (pc + 1) lv (.long x :: st) mm) : WM G l E S pc lv st mm := by
  obtain ⟨p, e, R, s, m, args, below, meth, c, cs, A, Q⟩ := G
  obtain ⟨hx, hb, hml, hown, hts, hK, hN, hlk, hr, hfr, hlo, hc1, hc2, hA, hSt⟩ := C
  intro H locs ls hP hD hS hl
  exact lv_lload_n hx hb d hi (lv_at hl q hq) (k H locs ls hP hD hS hl)
theorem x_lload (C : Cx G E cc nL own rt fr lo) {i : Nat} {x : Int64} (d : decode cc pc = .ok (.lload i, 2)) (q : Nat) (hq : lv[q]? = some (i, .long x)) (k : WM G l E S (pc + 2) lv (.long x :: st) mm) : WM G l E S pc lv st mm := by
  obtain ⟨p, e, R, s, m, args, below, meth, c, cs, A, Q⟩ := G
  obtain ⟨hx, hb, hml, hown, hts, hK, hN, hlk, hr, hfr, hlo, hc1, hc2, hA, hSt⟩ := C
  intro H locs ls hP hD hS hl
  exact lv_lload hx hb d (lv_at hl q hq) (k H locs ls hP hD hS hl)
theorem x_aload_n (C : Cx G E cc nL own rt fr lo) {k9 : Fin 4} {i : Nat} {x : Nat} (d : decode cc pc = .ok (.aload_n k9, 1)) (hi : (k9 : Nat) = i) (q : Nat) (hq : lv[q]? = some (i, .ref x)) (k : WM G l E S (pc + 1) lv (.ref x :: st) mm) : WM G l E S pc lv st mm := by
  obtain ⟨p, e, R, s, m, args, below, meth, c, cs, A, Q⟩ := G
  obtain ⟨hx, hb, hml, hown, hts, hK, hN, hlk, hr, hfr, hlo, hc1, hc2, hA, hSt⟩ := C
  intro H locs ls hP hD hS hl
  exact lv_aload_n hx hb d hi (lv_at hl q hq) (k H locs ls hP hD hS hl)
theorem x_aload (C : Cx G E cc nL own rt fr lo) {i : Nat} {x : Nat} (d : decode cc pc = .ok (.aload i, 2)) (q : Nat) (hq : lv[q]? = some (i, .ref x)) (k : WM G l E S (pc + 2) lv (.ref x :: st) mm) : WM G l E S pc lv st mm := by
  obtain ⟨p, e, R, s, m, args, below, meth, c, cs, A, Q⟩ := G
  obtain ⟨hx, hb, hml, hown, hts, hK, hN, hlk, hr, hfr, hlo, hc1, hc2, hA, hSt⟩ := C
  intro H locs ls hP hD hS hl
  exact lv_aload hx hb d (lv_at hl q hq) (k H locs ls hP hD hS hl)
theorem x_istore_n (C : Cx G E cc nL own rt fr lo) {k9 : Fin 4} {i : Nat} {x : Int32} {lv' : List (Nat × Value)} (d : decode cc pc = .ok (.istore_n k9, 1)) (hi : (k9 : Nat) = i) (hn : i < nL) (he : (i, Value.int x) :: lv.filter (fun q => !(q.1 == i) && !(q.1 + 1 == i && q.2.category == 2)) = lv') (k : WM G l E S (pc + 1) lv' st mm) : WM G l E S pc lv (.int x :: st) mm := by
  obtain ⟨p, e, R, s, m, args, below, meth, c, cs, A, Q⟩ := G
  obtain ⟨hx, hb, hml, hown, hts, hK, hN, hlk, hr, hfr, hlo, hc1, hc2, hA, hSt⟩ := C
  intro H locs ls hP hD hS hl
  exact lv_istore_n hx hb d hi hl (by rw [hml]; exact hn) he (fun ls2 h2 => k H locs ls2 hP hD hS h2)
theorem x_istore (C : Cx G E cc nL own rt fr lo) {i : Nat} {x : Int32} {lv' : List (Nat × Value)} (d : decode cc pc = .ok (.istore i, 2)) (hn : i < nL) (he : (i, Value.int x) :: lv.filter (fun q => !(q.1 == i) && !(q.1 + 1 == i && q.2.category == 2)) = lv') (k : WM G l E S (pc + 2) lv' st mm) : WM G l E S pc lv (.int x :: st) mm := by
  obtain ⟨p, e, R, s, m, args, below, meth, c, cs, A, Q⟩ := G
  obtain ⟨hx, hb, hml, hown, hts, hK, hN, hlk, hr, hfr, hlo, hc1, hc2, hA, hSt⟩ := C
  intro H locs ls hP hD hS hl
  exact lv_istore hx hb d hl (by rw [hml]; exact hn) he (fun ls2 h2 => k H locs ls2 hP hD hS h2)
theorem x_lstore_n (C : Cx G E cc nL own rt fr lo) {k9 : Fin 4} {i : Nat} {x : Int64} {lv' : List (Nat × Value)} (d : decode cc pc = .ok (.lstore_n k9, 1)) (hi : (k9 : Nat) = i) (hn : i + 1 < nL) (he : (i, Value.long x) :: lv.filter (fun q => !(q.1 == i) && (!(q.1 == i + 1) && !(q.1 + 1 == i && q.2.category == 2))) = lv') (k : WM G l E S (pc + 1) lv' st mm) : WM G l E S pc lv (.long x :: st) mm := by
  obtain ⟨p, e, R, s, m, args, below, meth, c, cs, A, Q⟩ := G
  obtain ⟨hx, hb, hml, hown, hts, hK, hN, hlk, hr, hfr, hlo, hc1, hc2, hA, hSt⟩ := C
  intro H locs ls hP hD hS hl
  exact lv_lstore_n hx hb d hi hl (by rw [hml]; exact hn) he (fun ls2 h2 => k H locs ls2 hP hD hS h2)
theorem x_lstore (C : Cx G E cc nL own rt fr lo) {i : Nat} {x : Int64} {lv' : List (Nat × Value)} (d : decode cc pc = .ok (.lstore i, 2)) (hn : i + 1 < nL) (he : (i, Value.long x) :: lv.filter (fun q => !(q.1 == i) && (!(q.1 == i + 1) && !(q.1 + 1 == i && q.2.category == 2))) = lv') (k : WM G l E S (pc + 2) lv' st mm) : WM G l E S pc lv (.long x :: st) mm := by
  obtain ⟨p, e, R, s, m, args, below, meth, c, cs, A, Q⟩ := G
  obtain ⟨hx, hb, hml, hown, hts, hK, hN, hlk, hr, hfr, hlo, hc1, hc2, hA, hSt⟩ := C
  intro H locs ls hP hD hS hl
  exact lv_lstore hx hb d hl (by rw [hml]; exact hn) he (fun ls2 h2 => k H locs ls2 hP hD hS h2)
theorem x_astore_n (C : Cx G E cc nL own rt fr lo) {k9 : Fin 4} {i : Nat} {x : Nat} {lv' : List (Nat × Value)} (d : decode cc pc = .ok (.astore_n k9, 1)) (hi : (k9 : Nat) = i) (hn : i < nL) (he : (i, Value.ref x) :: lv.filter (fun q => !(q.1 == i) && !(q.1 + 1 == i && q.2.category == 2)) = lv') (k : WM G l E S (pc + 1) lv' st mm) : WM G l E S pc lv (.ref x :: st) mm := by
  obtain ⟨p, e, R, s, m, args, below, meth, c, cs, A, Q⟩ := G
  obtain ⟨hx, hb, hml, hown, hts, hK, hN, hlk, hr, hfr, hlo, hc1, hc2, hA, hSt⟩ := C
  intro H locs ls hP hD hS hl
  exact lv_astore_n hx hb d hi hl (by rw [hml]; exact hn) he (fun ls2 h2 => k H locs ls2 hP hD hS h2)
theorem x_astore (C : Cx G E cc nL own rt fr lo) {i : Nat} {x : Nat} {lv' : List (Nat × Value)} (d : decode cc pc = .ok (.astore i, 2)) (hn : i < nL) (he : (i, Value.ref x) :: lv.filter (fun q => !(q.1 == i) && !(q.1 + 1 == i && q.2.category == 2)) = lv') (k : WM G l E S (pc + 2) lv' st mm) : WM G l E S pc lv (.ref x :: st) mm := by
  obtain ⟨p, e, R, s, m, args, below, meth, c, cs, A, Q⟩ := G
  obtain ⟨hx, hb, hml, hown, hts, hK, hN, hlk, hr, hfr, hlo, hc1, hc2, hA, hSt⟩ := C
  intro H locs ls hP hD hS hl
  exact lv_astore hx hb d hl (by rw [hml]; exact hn) he (fun ls2 h2 => k H locs ls2 hP hD hS h2)
theorem x_iinc (C : Cx G E cc nL own rt fr lo) {i : Nat} {n : Int} {x v : Int32} {lv' : List (Nat × Value)} (d : decode cc pc = .ok (.iinc i n, 3)) (q : Nat) (hq : lv[q]? = some (i, .int x)) (hv : x + Int32.ofInt n = v) (hn : i < nL) (he : (i, Value.int v) :: lv.filter (fun q => !(q.1 == i) && !(q.1 + 1 == i && q.2.category == 2)) = lv') (k : WM G l E S (pc + 3) lv' st mm) : WM G l E S pc lv st mm := by
  obtain ⟨p, e, R, s, m, args, below, meth, c, cs, A, Q⟩ := G
  obtain ⟨hx, hb, hml, hown, hts, hK, hN, hlk, hr, hfr, hlo, hc1, hc2, hA, hSt⟩ := C
  intro H locs ls hP hD hS hl
  exact lv_iinc hx hb d hl hq hv (by rw [hml]; exact hn) he (fun ls2 h2 => k H locs ls2 hP hD hS h2)
theorem x_iadd (C : Cx G E cc nL own rt fr lo) {x y : Int32} (d : decode cc pc = .ok (.iadd, 1)) (k : WM G l E S (pc + 1) lv (.int (x + y) :: st) mm) : WM G l E S pc lv (.int y :: .int x :: st) mm := by
  obtain ⟨p, e, R, s, m, args, below, meth, c, cs, A, Q⟩ := G
  obtain ⟨hx, hb, hml, hown, hts, hK, hN, hlk, hr, hfr, hlo, hc1, hc2, hA, hSt⟩ := C
  intro H locs ls hP hD hS hl
  exact lv_iadd hx hb d (k H locs ls hP hD hS hl)
theorem x_isub (C : Cx G E cc nL own rt fr lo) {x y : Int32} (d : decode cc pc = .ok (.isub, 1)) (k : WM G l E S (pc + 1) lv (.int (x - y) :: st) mm) : WM G l E S pc lv (.int y :: .int x :: st) mm := by
  obtain ⟨p, e, R, s, m, args, below, meth, c, cs, A, Q⟩ := G
  obtain ⟨hx, hb, hml, hown, hts, hK, hN, hlk, hr, hfr, hlo, hc1, hc2, hA, hSt⟩ := C
  intro H locs ls hP hD hS hl
  exact lv_isub hx hb d (k H locs ls hP hD hS hl)
theorem x_imul (C : Cx G E cc nL own rt fr lo) {x y : Int32} (d : decode cc pc = .ok (.imul, 1)) (k : WM G l E S (pc + 1) lv (.int (x * y) :: st) mm) : WM G l E S pc lv (.int y :: .int x :: st) mm := by
  obtain ⟨p, e, R, s, m, args, below, meth, c, cs, A, Q⟩ := G
  obtain ⟨hx, hb, hml, hown, hts, hK, hN, hlk, hr, hfr, hlo, hc1, hc2, hA, hSt⟩ := C
  intro H locs ls hP hD hS hl
  exact lv_imul hx hb d (k H locs ls hP hD hS hl)
theorem x_iand (C : Cx G E cc nL own rt fr lo) {x y : Int32} (d : decode cc pc = .ok (.iand, 1)) (k : WM G l E S (pc + 1) lv (.int (x &&& y) :: st) mm) : WM G l E S pc lv (.int y :: .int x :: st) mm := by
  obtain ⟨p, e, R, s, m, args, below, meth, c, cs, A, Q⟩ := G
  obtain ⟨hx, hb, hml, hown, hts, hK, hN, hlk, hr, hfr, hlo, hc1, hc2, hA, hSt⟩ := C
  intro H locs ls hP hD hS hl
  exact lv_iand hx hb d (k H locs ls hP hD hS hl)
theorem x_ior (C : Cx G E cc nL own rt fr lo) {x y : Int32} (d : decode cc pc = .ok (.ior, 1)) (k : WM G l E S (pc + 1) lv (.int (x ||| y) :: st) mm) : WM G l E S pc lv (.int y :: .int x :: st) mm := by
  obtain ⟨p, e, R, s, m, args, below, meth, c, cs, A, Q⟩ := G
  obtain ⟨hx, hb, hml, hown, hts, hK, hN, hlk, hr, hfr, hlo, hc1, hc2, hA, hSt⟩ := C
  intro H locs ls hP hD hS hl
  exact lv_ior hx hb d (k H locs ls hP hD hS hl)
theorem x_ixor (C : Cx G E cc nL own rt fr lo) {x y : Int32} (d : decode cc pc = .ok (.ixor, 1)) (k : WM G l E S (pc + 1) lv (.int (x ^^^ y) :: st) mm) : WM G l E S pc lv (.int y :: .int x :: st) mm := by
  obtain ⟨p, e, R, s, m, args, below, meth, c, cs, A, Q⟩ := G
  obtain ⟨hx, hb, hml, hown, hts, hK, hN, hlk, hr, hfr, hlo, hc1, hc2, hA, hSt⟩ := C
  intro H locs ls hP hD hS hl
  exact lv_ixor hx hb d (k H locs ls hP hD hS hl)
theorem x_ishl (C : Cx G E cc nL own rt fr lo) {x y : Int32} (d : decode cc pc = .ok (.ishl, 1)) (k : WM G l E S (pc + 1) lv (.int (x <<< (y &&& 31)) :: st) mm) : WM G l E S pc lv (.int y :: .int x :: st) mm := by
  obtain ⟨p, e, R, s, m, args, below, meth, c, cs, A, Q⟩ := G
  obtain ⟨hx, hb, hml, hown, hts, hK, hN, hlk, hr, hfr, hlo, hc1, hc2, hA, hSt⟩ := C
  intro H locs ls hP hD hS hl
  exact lv_ishl hx hb d (k H locs ls hP hD hS hl)
theorem x_ishr (C : Cx G E cc nL own rt fr lo) {x y : Int32} (d : decode cc pc = .ok (.ishr, 1)) (k : WM G l E S (pc + 1) lv (.int (x >>> (y &&& 31)) :: st) mm) : WM G l E S pc lv (.int y :: .int x :: st) mm := by
  obtain ⟨p, e, R, s, m, args, below, meth, c, cs, A, Q⟩ := G
  obtain ⟨hx, hb, hml, hown, hts, hK, hN, hlk, hr, hfr, hlo, hc1, hc2, hA, hSt⟩ := C
  intro H locs ls hP hD hS hl
  exact lv_ishr hx hb d (k H locs ls hP hD hS hl)
theorem x_ladd (C : Cx G E cc nL own rt fr lo) {x y : Int64} (d : decode cc pc = .ok (.ladd, 1)) (k : WM G l E S (pc + 1) lv (.long (x + y) :: st) mm) : WM G l E S pc lv (.long y :: .long x :: st) mm := by
  obtain ⟨p, e, R, s, m, args, below, meth, c, cs, A, Q⟩ := G
  obtain ⟨hx, hb, hml, hown, hts, hK, hN, hlk, hr, hfr, hlo, hc1, hc2, hA, hSt⟩ := C
  intro H locs ls hP hD hS hl
  exact lv_ladd hx hb d (k H locs ls hP hD hS hl)
theorem x_lsub (C : Cx G E cc nL own rt fr lo) {x y : Int64} (d : decode cc pc = .ok (.lsub, 1)) (k : WM G l E S (pc + 1) lv (.long (x - y) :: st) mm) : WM G l E S pc lv (.long y :: .long x :: st) mm := by
  obtain ⟨p, e, R, s, m, args, below, meth, c, cs, A, Q⟩ := G
  obtain ⟨hx, hb, hml, hown, hts, hK, hN, hlk, hr, hfr, hlo, hc1, hc2, hA, hSt⟩ := C
  intro H locs ls hP hD hS hl
  exact lv_lsub hx hb d (k H locs ls hP hD hS hl)
theorem x_lmul (C : Cx G E cc nL own rt fr lo) {x y : Int64} (d : decode cc pc = .ok (.lmul, 1)) (k : WM G l E S (pc + 1) lv (.long (x * y) :: st) mm) : WM G l E S pc lv (.long y :: .long x :: st) mm := by
  obtain ⟨p, e, R, s, m, args, below, meth, c, cs, A, Q⟩ := G
  obtain ⟨hx, hb, hml, hown, hts, hK, hN, hlk, hr, hfr, hlo, hc1, hc2, hA, hSt⟩ := C
  intro H locs ls hP hD hS hl
  exact lv_lmul hx hb d (k H locs ls hP hD hS hl)
theorem x_ineg (C : Cx G E cc nL own rt fr lo) {x : Int32} (d : decode cc pc = .ok (.ineg, 1)) (k : WM G l E S (pc + 1) lv (.int (-x) :: st) mm) : WM G l E S pc lv (.int x :: st) mm := by
  obtain ⟨p, e, R, s, m, args, below, meth, c, cs, A, Q⟩ := G
  obtain ⟨hx, hb, hml, hown, hts, hK, hN, hlk, hr, hfr, hlo, hc1, hc2, hA, hSt⟩ := C
  intro H locs ls hP hD hS hl
  exact lv_ineg hx hb d (k H locs ls hP hD hS hl)
theorem x_lneg (C : Cx G E cc nL own rt fr lo) {x : Int64} (d : decode cc pc = .ok (.lneg, 1)) (k : WM G l E S (pc + 1) lv (.long (-x) :: st) mm) : WM G l E S pc lv (.long x :: st) mm := by
  obtain ⟨p, e, R, s, m, args, below, meth, c, cs, A, Q⟩ := G
  obtain ⟨hx, hb, hml, hown, hts, hK, hN, hlk, hr, hfr, hlo, hc1, hc2, hA, hSt⟩ := C
  intro H locs ls hP hD hS hl
  exact lv_lneg hx hb d (k H locs ls hP hD hS hl)
theorem x_i2l (C : Cx G E cc nL own rt fr lo) {x : Int32} (d : decode cc pc = .ok (.i2l, 1)) (k : WM G l E S (pc + 1) lv (.long x.toInt64 :: st) mm) : WM G l E S pc lv (.int x :: st) mm := by
  obtain ⟨p, e, R, s, m, args, below, meth, c, cs, A, Q⟩ := G
  obtain ⟨hx, hb, hml, hown, hts, hK, hN, hlk, hr, hfr, hlo, hc1, hc2, hA, hSt⟩ := C
  intro H locs ls hP hD hS hl
  exact lv_i2l hx hb d rfl (k H locs ls hP hD hS hl)
theorem x_i2b (C : Cx G E cc nL own rt fr lo) {x : Int32} (d : decode cc pc = .ok (.i2b, 1)) (k : WM G l E S (pc + 1) lv (.int x.toInt8.toInt32 :: st) mm) : WM G l E S pc lv (.int x :: st) mm := by
  obtain ⟨p, e, R, s, m, args, below, meth, c, cs, A, Q⟩ := G
  obtain ⟨hx, hb, hml, hown, hts, hK, hN, hlk, hr, hfr, hlo, hc1, hc2, hA, hSt⟩ := C
  intro H locs ls hP hD hS hl
  exact lv_i2b hx hb d rfl (k H locs ls hP hD hS hl)
theorem x_lcmp (C : Cx G E cc nL own rt fr lo) {x y : Int64} (d : decode cc pc = .ok (.lcmp, 1)) (k : WM G l E S (pc + 1) lv (.int (lg_cmp x y) :: st) mm) : WM G l E S pc lv (.long y :: .long x :: st) mm := by
  obtain ⟨p, e, R, s, m, args, below, meth, c, cs, A, Q⟩ := G
  obtain ⟨hx, hb, hml, hown, hts, hK, hN, hlk, hr, hfr, hlo, hc1, hc2, hA, hSt⟩ := C
  intro H locs ls hP hD hS hl
  exact W.lcmp hx hb d (k H locs ls hP hD hS hl)
theorem x_dup (C : Cx G E cc nL own rt fr lo) {va : Value} (d : decode cc pc = .ok (.dup, 1)) (hv : va.category = 1) (k : WM G l E S (pc + 1) lv (va :: va :: st) mm) : WM G l E S pc lv (va :: st) mm := by
  obtain ⟨p, e, R, s, m, args, below, meth, c, cs, A, Q⟩ := G
  obtain ⟨hx, hb, hml, hown, hts, hK, hN, hlk, hr, hfr, hlo, hc1, hc2, hA, hSt⟩ := C
  intro H locs ls hP hD hS hl
  exact lv_dup hx hb d hv (k H locs ls hP hD hS hl)
theorem x_pop (C : Cx G E cc nL own rt fr lo) {va : Value} (d : decode cc pc = .ok (.pop, 1)) (hv : va.category = 1) (k : WM G l E S (pc + 1) lv st mm) : WM G l E S pc lv (va :: st) mm := by
  obtain ⟨p, e, R, s, m, args, below, meth, c, cs, A, Q⟩ := G
  obtain ⟨hx, hb, hml, hown, hts, hK, hN, hlk, hr, hfr, hlo, hc1, hc2, hA, hSt⟩ := C
  intro H locs ls hP hD hS hl
  exact lv_pop hx hb d hv (k H locs ls hP hD hS hl)
theorem x_dup2 (C : Cx G E cc nL own rt fr lo) {va vb : Value} (d : decode cc pc = .ok (.dup2, 1)) (hv : va.category = 1) (hw : vb.category = 1) (k : WM G l E S (pc + 1) lv (va :: vb :: va :: vb :: st) mm) : WM G l E S pc lv (va :: vb :: st) mm := by
  obtain ⟨p, e, R, s, m, args, below, meth, c, cs, A, Q⟩ := G
  obtain ⟨hx, hb, hml, hown, hts, hK, hN, hlk, hr, hfr, hlo, hc1, hc2, hA, hSt⟩ := C
  intro H locs ls hP hD hS hl
  exact lv_dup2_11 hx hb d hv hw (k H locs ls hP hD hS hl)
theorem x_dup_x1 (C : Cx G E cc nL own rt fr lo) {va vb : Value} (d : decode cc pc = .ok (.dup_x1, 1)) (hv : va.category = 1) (hw : vb.category = 1) (k : WM G l E S (pc + 1) lv (va :: vb :: va :: st) mm) : WM G l E S pc lv (va :: vb :: st) mm := by
  obtain ⟨p, e, R, s, m, args, below, meth, c, cs, A, Q⟩ := G
  obtain ⟨hx, hb, hml, hown, hts, hK, hN, hlk, hr, hfr, hlo, hc1, hc2, hA, hSt⟩ := C
  intro H locs ls hP hD hS hl
  exact lv_dup_x1 hx hb d hv hw (k H locs ls hP hD hS hl)
theorem x_goto (C : Cx G E cc nL own rt fr lo) {off : Int} {tgt : Nat} (d : decode cc pc = .ok (.goto off, 3)) (ht : (pc : Int) + off = (tgt : Int)) (k : WM G l E S tgt lv st mm) : WM G l E S pc lv st mm := by
  obtain ⟨p, e, R, s, m, args, below, meth, c, cs, A, Q⟩ := G
  obtain ⟨hx, hb, hml, hown, hts, hK, hN, hlk, hr, hfr, hlo, hc1, hc2, hA, hSt⟩ := C
  intro H locs ls hP hD hS hl
  exact lv_goto hx hb d ht (k H locs ls hP hD hS hl)
theorem x_ldc (C : Cx G E cc nL own rt fr lo) {index : Nat} {v : Int32} (d : decode cc pc = .ok (.ldc index, 2)) (w : Cond.constant own index v ∈ gw) (k : WM G l E S (pc + 2) lv (.int v :: st) mm) : WM G l E S pc lv st mm := by
  obtain ⟨p, e, R, s, m, args, below, meth, c, cs, A, Q⟩ := G
  obtain ⟨hx, hb, hml, hown, hts, hK, hN, hlk, hr, hfr, hlo, hc1, hc2, hA, hSt⟩ := C
  intro H locs ls hP hD hS hl
  exact lv_ldc hx hb hown (hts _ w) d (k H locs ls hP hD hS hl)
theorem x_ldc_w (C : Cx G E cc nL own rt fr lo) {index : Nat} {v : Int32} (d : decode cc pc = .ok (.ldc_w index, 3)) (w : Cond.constant own index v ∈ gw) (k : WM G l E S (pc + 3) lv (.int v :: st) mm) : WM G l E S pc lv st mm := by
  obtain ⟨p, e, R, s, m, args, below, meth, c, cs, A, Q⟩ := G
  obtain ⟨hx, hb, hml, hown, hts, hK, hN, hlk, hr, hfr, hlo, hc1, hc2, hA, hSt⟩ := C
  intro H locs ls hP hD hS hl
  exact lv_ldcw hx hb hown (hts _ w) d (k H locs ls hP hD hS hl)
theorem x_ldc2_w (C : Cx G E cc nL own rt fr lo) {index : Nat} {v : Int64} (d : decode cc pc = .ok (.ldc2_w index, 3)) (w : Cond.constantLong own index v ∈ gw) (k : WM G l E S (pc + 3) lv (.long v :: st) mm) : WM G l E S pc lv st mm := by
  obtain ⟨p, e, R, s, m, args, below, meth, c, cs, A, Q⟩ := G
  obtain ⟨hx, hb, hml, hown, hts, hK, hN, hlk, hr, hfr, hlo, hc1, hc2, hA, hSt⟩ := C
  intro H locs ls hP hD hS hl
  exact lv_ldc2 hx hb hown (hts _ w) d (k H locs ls hP hD hS hl)
theorem x_if_eq (C : Cx G E cc nL own rt fr lo) {α : Type} {A0 B0 : Option α} {r : α} {x : Int32} {off : Int} {tgt : Nat} (d : decode cc pc = .ok (.ifCond .eq off, 3)) (ht : (pc : Int) + off = (tgt : Int)) (h : (if x = 0 then A0 else B0) = some r) (kt : A0 = some r → WM G l E S tgt lv st mm) (kf : B0 = some r → WM G l E S (pc + 3) lv st mm) : WM G l E S pc lv (.int x :: st) mm := by
  obtain ⟨p, e, R, s, m, args, below, meth, c, cs, A, Q⟩ := G
  obtain ⟨hx, hb, hml, hown, hts, hK, hN, hlk, hr, hfr, hlo, hc1, hc2, hA, hSt⟩ := C
  intro H locs ls hP hD hS hl
  exact lv_if_eq hx hb d ht (fun hc => kt (by rw [if_pos hc] at h; exact h) H locs ls hP hD hS hl) (fun hc => kf (by rw [if_neg hc] at h; exact h) H locs ls hP hD hS hl)
theorem x_icmp_eq (C : Cx G E cc nL own rt fr lo) {α : Type} {A0 B0 : Option α} {r : α} {x y : Int32} {off : Int} {tgt : Nat} (d : decode cc pc = .ok (.if_icmp .eq off, 3)) (ht : (pc : Int) + off = (tgt : Int)) (h : (if x = y then A0 else B0) = some r) (kt : A0 = some r → WM G l E S tgt lv st mm) (kf : B0 = some r → WM G l E S (pc + 3) lv st mm) : WM G l E S pc lv (.int y :: .int x :: st) mm := by
  obtain ⟨p, e, R, s, m, args, below, meth, c, cs, A, Q⟩ := G
  obtain ⟨hx, hb, hml, hown, hts, hK, hN, hlk, hr, hfr, hlo, hc1, hc2, hA, hSt⟩ := C
  intro H locs ls hP hD hS hl
  exact lv_icmp_eq hx hb d ht (fun hc => kt (by rw [if_pos hc] at h; exact h) H locs ls hP hD hS hl) (fun hc => kf (by rw [if_neg hc] at h; exact h) H locs ls hP hD hS hl)
theorem x_if_ne (C : Cx G E cc nL own rt fr lo) {α : Type} {A0 B0 : Option α} {r : α} {x : Int32} {off : Int} {tgt : Nat} (d : decode cc pc = .ok (.ifCond .ne off, 3)) (ht : (pc : Int) + off = (tgt : Int)) (h : (if ¬ x = 0 then A0 else B0) = some r) (kt : A0 = some r → WM G l E S tgt lv st mm) (kf : B0 = some r → WM G l E S (pc + 3) lv st mm) : WM G l E S pc lv (.int x :: st) mm := by
  obtain ⟨p, e, R, s, m, args, below, meth, c, cs, A, Q⟩ := G
  obtain ⟨hx, hb, hml, hown, hts, hK, hN, hlk, hr, hfr, hlo, hc1, hc2, hA, hSt⟩ := C
  intro H locs ls hP hD hS hl
  exact lv_if_ne hx hb d ht (fun hc => kt (by rw [if_pos hc] at h; exact h) H locs ls hP hD hS hl) (fun hc => kf (by rw [if_neg (fun q => q hc)] at h; exact h) H locs ls hP hD hS hl)
theorem x_icmp_ne (C : Cx G E cc nL own rt fr lo) {α : Type} {A0 B0 : Option α} {r : α} {x y : Int32} {off : Int} {tgt : Nat} (d : decode cc pc = .ok (.if_icmp .ne off, 3)) (ht : (pc : Int) + off = (tgt : Int)) (h : (if ¬ x = y then A0 else B0) = some r) (kt : A0 = some r → WM G l E S tgt lv st mm) (kf : B0 = some r → WM G l E S (pc + 3) lv st mm) : WM G l E S pc lv (.int y :: .int x :: st) mm := by
  obtain ⟨p, e, R, s, m, args, below, meth, c, cs, A, Q⟩ := G
  obtain ⟨hx, hb, hml, hown, hts, hK, hN, hlk, hr, hfr, hlo, hc1, hc2, hA, hSt⟩ := C
  intro H locs ls hP hD hS hl
  exact lv_icmp_ne hx hb d ht (fun hc => kt (by rw [if_pos hc] at h; exact h) H locs ls hP hD hS hl) (fun hc => kf (by rw [if_neg (fun q => q hc)] at h; exact h) H locs ls hP hD hS hl)
theorem x_if_lt (C : Cx G E cc nL own rt fr lo) {α : Type} {A0 B0 : Option α} {r : α} {x : Int32} {off : Int} {tgt : Nat} (d : decode cc pc = .ok (.ifCond .lt off, 3)) (ht : (pc : Int) + off = (tgt : Int)) (h : (if x < 0 then A0 else B0) = some r) (kt : A0 = some r → WM G l E S tgt lv st mm) (kf : B0 = some r → WM G l E S (pc + 3) lv st mm) : WM G l E S pc lv (.int x :: st) mm := by
  obtain ⟨p, e, R, s, m, args, below, meth, c, cs, A, Q⟩ := G
  obtain ⟨hx, hb, hml, hown, hts, hK, hN, hlk, hr, hfr, hlo, hc1, hc2, hA, hSt⟩ := C
  intro H locs ls hP hD hS hl
  exact lv_if_lt hx hb d ht (fun hc => kt (by rw [if_pos hc] at h; exact h) H locs ls hP hD hS hl) (fun hc => kf (by rw [if_neg hc] at h; exact h) H locs ls hP hD hS hl)
theorem x_icmp_lt (C : Cx G E cc nL own rt fr lo) {α : Type} {A0 B0 : Option α} {r : α} {x y : Int32} {off : Int} {tgt : Nat} (d : decode cc pc = .ok (.if_icmp .lt off, 3)) (ht : (pc : Int) + off = (tgt : Int)) (h : (if x < y then A0 else B0) = some r) (kt : A0 = some r → WM G l E S tgt lv st mm) (kf : B0 = some r → WM G l E S (pc + 3) lv st mm) : WM G l E S pc lv (.int y :: .int x :: st) mm := by
  obtain ⟨p, e, R, s, m, args, below, meth, c, cs, A, Q⟩ := G
  obtain ⟨hx, hb, hml, hown, hts, hK, hN, hlk, hr, hfr, hlo, hc1, hc2, hA, hSt⟩ := C
  intro H locs ls hP hD hS hl
  exact lv_icmp_lt hx hb d ht (fun hc => kt (by rw [if_pos hc] at h; exact h) H locs ls hP hD hS hl) (fun hc => kf (by rw [if_neg hc] at h; exact h) H locs ls hP hD hS hl)
theorem x_if_ge (C : Cx G E cc nL own rt fr lo) {α : Type} {A0 B0 : Option α} {r : α} {x : Int32} {off : Int} {tgt : Nat} (d : decode cc pc = .ok (.ifCond .ge off, 3)) (ht : (pc : Int) + off = (tgt : Int)) (h : (if 0 ≤ x then A0 else B0) = some r) (kt : A0 = some r → WM G l E S tgt lv st mm) (kf : B0 = some r → WM G l E S (pc + 3) lv st mm) : WM G l E S pc lv (.int x :: st) mm := by
  obtain ⟨p, e, R, s, m, args, below, meth, c, cs, A, Q⟩ := G
  obtain ⟨hx, hb, hml, hown, hts, hK, hN, hlk, hr, hfr, hlo, hc1, hc2, hA, hSt⟩ := C
  intro H locs ls hP hD hS hl
  exact lv_if_ge hx hb d ht (fun hc => kt (by rw [if_pos hc] at h; exact h) H locs ls hP hD hS hl) (fun hc => kf (by rw [if_neg hc] at h; exact h) H locs ls hP hD hS hl)
theorem x_icmp_ge (C : Cx G E cc nL own rt fr lo) {α : Type} {A0 B0 : Option α} {r : α} {x y : Int32} {off : Int} {tgt : Nat} (d : decode cc pc = .ok (.if_icmp .ge off, 3)) (ht : (pc : Int) + off = (tgt : Int)) (h : (if y ≤ x then A0 else B0) = some r) (kt : A0 = some r → WM G l E S tgt lv st mm) (kf : B0 = some r → WM G l E S (pc + 3) lv st mm) : WM G l E S pc lv (.int y :: .int x :: st) mm := by
  obtain ⟨p, e, R, s, m, args, below, meth, c, cs, A, Q⟩ := G
  obtain ⟨hx, hb, hml, hown, hts, hK, hN, hlk, hr, hfr, hlo, hc1, hc2, hA, hSt⟩ := C
  intro H locs ls hP hD hS hl
  exact lv_icmp_ge hx hb d ht (fun hc => kt (by rw [if_pos hc] at h; exact h) H locs ls hP hD hS hl) (fun hc => kf (by rw [if_neg hc] at h; exact h) H locs ls hP hD hS hl)
theorem x_if_gt (C : Cx G E cc nL own rt fr lo) {α : Type} {A0 B0 : Option α} {r : α} {x : Int32} {off : Int} {tgt : Nat} (d : decode cc pc = .ok (.ifCond .gt off, 3)) (ht : (pc : Int) + off = (tgt : Int)) (h : (if 0 < x then A0 else B0) = some r) (kt : A0 = some r → WM G l E S tgt lv st mm) (kf : B0 = some r → WM G l E S (pc + 3) lv st mm) : WM G l E S pc lv (.int x :: st) mm := by
  obtain ⟨p, e, R, s, m, args, below, meth, c, cs, A, Q⟩ := G
  obtain ⟨hx, hb, hml, hown, hts, hK, hN, hlk, hr, hfr, hlo, hc1, hc2, hA, hSt⟩ := C
  intro H locs ls hP hD hS hl
  exact lv_if_gt hx hb d ht (fun hc => kt (by rw [if_pos hc] at h; exact h) H locs ls hP hD hS hl) (fun hc => kf (by rw [if_neg hc] at h; exact h) H locs ls hP hD hS hl)
theorem x_icmp_gt (C : Cx G E cc nL own rt fr lo) {α : Type} {A0 B0 : Option α} {r : α} {x y : Int32} {off : Int} {tgt : Nat} (d : decode cc pc = .ok (.if_icmp .gt off, 3)) (ht : (pc : Int) + off = (tgt : Int)) (h : (if y < x then A0 else B0) = some r) (kt : A0 = some r → WM G l E S tgt lv st mm) (kf : B0 = some r → WM G l E S (pc + 3) lv st mm) : WM G l E S pc lv (.int y :: .int x :: st) mm := by
  obtain ⟨p, e, R, s, m, args, below, meth, c, cs, A, Q⟩ := G
  obtain ⟨hx, hb, hml, hown, hts, hK, hN, hlk, hr, hfr, hlo, hc1, hc2, hA, hSt⟩ := C
  intro H locs ls hP hD hS hl
  exact lv_icmp_gt hx hb d ht (fun hc => kt (by rw [if_pos hc] at h; exact h) H locs ls hP hD hS hl) (fun hc => kf (by rw [if_neg hc] at h; exact h) H locs ls hP hD hS hl)
theorem x_if_le (C : Cx G E cc nL own rt fr lo) {α : Type} {A0 B0 : Option α} {r : α} {x : Int32} {off : Int} {tgt : Nat} (d : decode cc pc = .ok (.ifCond .le off, 3)) (ht : (pc : Int) + off = (tgt : Int)) (h : (if x ≤ 0 then A0 else B0) = some r) (kt : A0 = some r → WM G l E S tgt lv st mm) (kf : B0 = some r → WM G l E S (pc + 3) lv st mm) : WM G l E S pc lv (.int x :: st) mm := by
  obtain ⟨p, e, R, s, m, args, below, meth, c, cs, A, Q⟩ := G
  obtain ⟨hx, hb, hml, hown, hts, hK, hN, hlk, hr, hfr, hlo, hc1, hc2, hA, hSt⟩ := C
  intro H locs ls hP hD hS hl
  exact lv_if_le hx hb d ht (fun hc => kt (by rw [if_pos hc] at h; exact h) H locs ls hP hD hS hl) (fun hc => kf (by rw [if_neg hc] at h; exact h) H locs ls hP hD hS hl)
theorem x_icmp_le (C : Cx G E cc nL own rt fr lo) {α : Type} {A0 B0 : Option α} {r : α} {x y : Int32} {off : Int} {tgt : Nat} (d : decode cc pc = .ok (.if_icmp .le off, 3)) (ht : (pc : Int) + off = (tgt : Int)) (h : (if x ≤ y then A0 else B0) = some r) (kt : A0 = some r → WM G l E S tgt lv st mm) (kf : B0 = some r → WM G l E S (pc + 3) lv st mm) : WM G l E S pc lv (.int y :: .int x :: st) mm := by
  obtain ⟨p, e, R, s, m, args, below, meth, c, cs, A, Q⟩ := G
  obtain ⟨hx, hb, hml, hown, hts, hK, hN, hlk, hr, hfr, hlo, hc1, hc2, hA, hSt⟩ := C
  intro H locs ls hP hD hS hl
  exact lv_icmp_le hx hb d ht (fun hc => kt (by rw [if_pos hc] at h; exact h) H locs ls hP hD hS hl) (fun hc => kf (by rw [if_neg hc] at h; exact h) H locs ls hP hD hS hl)
theorem x_idiv (C : Cx G E cc nL own rt fr lo) {α : Type} {f : Int32 → Option α} {r : α} {x y : Int32} (d : decode cc pc = .ok (.idiv, 1)) (h : bd1 (dvI x y) f = some r) (k : ∀ v, f v = some r → WM G l E S (pc + 1) lv (.int v :: st) mm) : WM G l E S pc lv (.int y :: .int x :: st) mm := by
  obtain ⟨p, e, R, s, m, args, below, meth, c, cs, A, Q⟩ := G
  obtain ⟨hx, hb, hml, hown, hts, hK, hN, hlk, hr, hfr, hlo, hc1, hc2, hA, hSt⟩ := C
  intro H locs ls hP hD hS hl
  obtain ⟨v, hv, hf⟩ := bd1_some h
  unfold dvI at hv
  by_cases hy : y = 0
  · rw [if_pos hy] at hv
    cases hv
  · rw [if_neg hy] at hv
    cases hv
    exact lv_idiv hx hb d hy (k _ hf H locs ls hP hD hS hl)
theorem x_irem (C : Cx G E cc nL own rt fr lo) {α : Type} {f : Int32 → Option α} {r : α} {x y : Int32} (d : decode cc pc = .ok (.irem, 1)) (h : bd1 (rmI x y) f = some r) (k : ∀ v, f v = some r → WM G l E S (pc + 1) lv (.int v :: st) mm) : WM G l E S pc lv (.int y :: .int x :: st) mm := by
  obtain ⟨p, e, R, s, m, args, below, meth, c, cs, A, Q⟩ := G
  obtain ⟨hx, hb, hml, hown, hts, hK, hN, hlk, hr, hfr, hlo, hc1, hc2, hA, hSt⟩ := C
  intro H locs ls hP hD hS hl
  obtain ⟨v, hv, hf⟩ := bd1_some h
  unfold rmI at hv
  by_cases hy : y = 0
  · rw [if_pos hy] at hv
    cases hv
  · rw [if_neg hy] at hv
    cases hv
    exact lv_irem hx hb d hy (k _ hf H locs ls hP hD hS hl)
theorem x_ldiv (C : Cx G E cc nL own rt fr lo) {α : Type} {f : Int64 → Option α} {r : α} {x y : Int64} (d : decode cc pc = .ok (.ldiv, 1)) (h : bd1 (dvL x y) f = some r) (k : ∀ v, f v = some r → WM G l E S (pc + 1) lv (.long v :: st) mm) : WM G l E S pc lv (.long y :: .long x :: st) mm := by
  obtain ⟨p, e, R, s, m, args, below, meth, c, cs, A, Q⟩ := G
  obtain ⟨hx, hb, hml, hown, hts, hK, hN, hlk, hr, hfr, hlo, hc1, hc2, hA, hSt⟩ := C
  intro H locs ls hP hD hS hl
  obtain ⟨v, hv, hf⟩ := bd1_some h
  unfold dvL at hv
  by_cases hy : y = 0
  · rw [if_pos hy] at hv
    cases hv
  · rw [if_neg hy] at hv
    cases hv
    exact lv_ldiv hx hb d hy (k _ hf H locs ls hP hD hS hl)
theorem x_lrem (C : Cx G E cc nL own rt fr lo) {α : Type} {f : Int64 → Option α} {r : α} {x y : Int64} (d : decode cc pc = .ok (.lrem, 1)) (h : bd1 (rmL x y) f = some r) (k : ∀ v, f v = some r → WM G l E S (pc + 1) lv (.long v :: st) mm) : WM G l E S pc lv (.long y :: .long x :: st) mm := by
  obtain ⟨p, e, R, s, m, args, below, meth, c, cs, A, Q⟩ := G
  obtain ⟨hx, hb, hml, hown, hts, hK, hN, hlk, hr, hfr, hlo, hc1, hc2, hA, hSt⟩ := C
  intro H locs ls hP hD hS hl
  obtain ⟨v, hv, hf⟩ := bd1_some h
  unfold rmL at hv
  by_cases hy : y = 0
  · rw [if_pos hy] at hv
    cases hv
  · rw [if_neg hy] at hv
    cases hv
    exact lv_lrem hx hb d hy (k _ hf H locs ls hP hD hS hl)
theorem x_iald (C : Cx G E cc nL own rt fr lo) {α : Type} {f : Int32 → Option α} {r : α} {o : Nat} {i : Int32} (d : decode cc pc = .ok (.iaload, 1)) (h : bd1 (ldA S 0 mm o i) f = some r) (k : ∀ v, f v = some r → WM G l E S (pc + 1) lv (.int v :: st) mm) : WM G l E S pc lv (.int i :: .ref (E.2.2 o) :: st) mm := by
  obtain ⟨p, e, R, s, m, args, below, meth, c, cs, A, Q⟩ := G
  obtain ⟨hx, hb, hml, hown, hts, hK, hN, hlk, hr, hfr, hlo, hc1, hc2, hA, hSt⟩ := C
  intro H locs ls hP hD hS hl
  obtain ⟨v, hv, hf⟩ := bd1_some h
  obtain ⟨n, hs, hin, rfl⟩ := ldA_some hv
  have ha := wd_at (E := E) (mm := mm) hs
  simp only [cel] at ha
  exact va_iald hx hb hK hP o 0 ha rfl hin d (k _ hf H locs ls hP hD hS hl)
theorem x_bald (C : Cx G E cc nL own rt fr lo) {α : Type} {f : Int32 → Option α} {r : α} {o : Nat} {i : Int32} (d : decode cc pc = .ok (.baload, 1)) (h : bd1 (ldA S 1 mm o i) f = some r) (k : ∀ v, f v = some r → WM G l E S (pc + 1) lv (.int v :: st) mm) : WM G l E S pc lv (.int i :: .ref (E.2.2 o) :: st) mm := by
  obtain ⟨p, e, R, s, m, args, below, meth, c, cs, A, Q⟩ := G
  obtain ⟨hx, hb, hml, hown, hts, hK, hN, hlk, hr, hfr, hlo, hc1, hc2, hA, hSt⟩ := C
  intro H locs ls hP hD hS hl
  obtain ⟨v, hv, hf⟩ := bd1_some h
  obtain ⟨n, hs, hin, rfl⟩ := ldA_some hv
  have ha := wd_at (E := E) (mm := mm) hs
  simp only [cel] at ha
  exact va_bald hx hb hK hP o 1 ha rfl hin d (k _ hf H locs ls hP hD hS hl)
theorem x_zald (C : Cx G E cc nL own rt fr lo) {α : Type} {f : Int32 → Option α} {r : α} {o : Nat} {i : Int32} (d : decode cc pc = .ok (.baload, 1)) (h : bd1 (ldA S 2 mm o i) f = some r) (k : ∀ v, f v = some r → WM G l E S (pc + 1) lv (.int v :: st) mm) : WM G l E S pc lv (.int i :: .ref (E.2.2 o) :: st) mm := by
  obtain ⟨p, e, R, s, m, args, below, meth, c, cs, A, Q⟩ := G
  obtain ⟨hx, hb, hml, hown, hts, hK, hN, hlk, hr, hfr, hlo, hc1, hc2, hA, hSt⟩ := C
  intro H locs ls hP hD hS hl
  obtain ⟨v, hv, hf⟩ := bd1_some h
  obtain ⟨n, hs, hin, rfl⟩ := ldA_some hv
  have ha := wd_at (E := E) (mm := mm) hs
  simp only [cel] at ha
  exact va_zald hx hb hK hP o 2 ha rfl hin d (k _ hf H locs ls hP hD hS hl)
theorem x_lald (C : Cx G E cc nL own rt fr lo) {α : Type} {f : Int64 → Option α} {r : α} {o : Nat} {i : Int32} (d : decode cc pc = .ok (.laload, 1)) (h : bd1 (ldL S mm o i) f = some r) (k : ∀ v, f v = some r → WM G l E S (pc + 1) lv (.long v :: st) mm) : WM G l E S pc lv (.int i :: .ref (E.2.2 o) :: st) mm := by
  obtain ⟨p, e, R, s, m, args, below, meth, c, cs, A, Q⟩ := G
  obtain ⟨hx, hb, hml, hown, hts, hK, hN, hlk, hr, hfr, hlo, hc1, hc2, hA, hSt⟩ := C
  intro H locs ls hP hD hS hl
  obtain ⟨v, hv, hf⟩ := bd1_some h
  obtain ⟨n, hs, hin, rfl⟩ := ldL_some hv
  have ha := wd_at (E := E) (mm := mm) hs
  simp only [cel] at ha
  exact va_lald hx hb hK hP o 3 ha rfl hin d (k _ hf H locs ls hP hD hS hl)
theorem x_iast (C : Cx G E cc nL own rt fr lo) {α : Type} {f : Mm → Option α} {r : α} {o : Nat} {i x : Int32} (d : decode cc pc = .ok (.iastore, 1)) (h : bd1 (stA S 0 mm o i x) f = some r) (k : ∀ m1, f m1 = some r → WM G l E S (pc + 1) lv st m1) : WM G l E S pc lv (.int x :: .int i :: .ref (E.2.2 o) :: st) mm := by
  obtain ⟨p, e, R, s, m, args, below, meth, c, cs, A, Q⟩ := G
  obtain ⟨hx, hb, hml, hown, hts, hK, hN, hlk, hr, hfr, hlo, hc1, hc2, hA, hSt⟩ := C
  intro H locs ls hP hD hS hl
  obtain ⟨m1, hv, hf⟩ := bd1_some h
  obtain ⟨n, hs, hin, rfl⟩ := stA_some hv
  have ha := wd_at (E := E) (mm := mm) hs
  simp only [cel] at ha
  refine va_iast hx hb hK hP hD hS o 0 ha rfl hin d (fun H1 locs1 hP1 hD1 hS1 => k _ hf H1 locs1 ls ?_ ?_ hS1 hl)
  · rw [show u1 mm o i.toNatClampNeg (narA 0 x) = uA mm o (upd (mm.1 o) i.toNatClampNeg (narA 0 x)) from rfl, ← wd_uA hs (by decide)]
    exact hP1
  · rw [show u1 mm o i.toNatClampNeg (narA 0 x) = uA mm o (upd (mm.1 o) i.toNatClampNeg (narA 0 x)) from rfl, ← wd_uA hs (by decide)]
    exact hD1
theorem x_bast (C : Cx G E cc nL own rt fr lo) {α : Type} {f : Mm → Option α} {r : α} {o : Nat} {i x : Int32} (d : decode cc pc = .ok (.bastore, 1)) (h : bd1 (stA S 1 mm o i x) f = some r) (k : ∀ m1, f m1 = some r → WM G l E S (pc + 1) lv st m1) : WM G l E S pc lv (.int x :: .int i :: .ref (E.2.2 o) :: st) mm := by
  obtain ⟨p, e, R, s, m, args, below, meth, c, cs, A, Q⟩ := G
  obtain ⟨hx, hb, hml, hown, hts, hK, hN, hlk, hr, hfr, hlo, hc1, hc2, hA, hSt⟩ := C
  intro H locs ls hP hD hS hl
  obtain ⟨m1, hv, hf⟩ := bd1_some h
  obtain ⟨n, hs, hin, rfl⟩ := stA_some hv
  have ha := wd_at (E := E) (mm := mm) hs
  simp only [cel] at ha
  refine va_bast hx hb hK hP hD hS o 1 ha rfl hin d (fun H1 locs1 hP1 hD1 hS1 => k _ hf H1 locs1 ls ?_ ?_ hS1 hl)
  · rw [show u1 mm o i.toNatClampNeg (narA 1 x) = uA mm o (upd (mm.1 o) i.toNatClampNeg (narA 1 x)) from rfl, ← wd_uA hs (by decide)]
    exact hP1
  · rw [show u1 mm o i.toNatClampNeg (narA 1 x) = uA mm o (upd (mm.1 o) i.toNatClampNeg (narA 1 x)) from rfl, ← wd_uA hs (by decide)]
    exact hD1
theorem x_zast (C : Cx G E cc nL own rt fr lo) {α : Type} {f : Mm → Option α} {r : α} {o : Nat} {i x : Int32} (d : decode cc pc = .ok (.bastore, 1)) (h : bd1 (stA S 2 mm o i x) f = some r) (k : ∀ m1, f m1 = some r → WM G l E S (pc + 1) lv st m1) : WM G l E S pc lv (.int x :: .int i :: .ref (E.2.2 o) :: st) mm := by
  obtain ⟨p, e, R, s, m, args, below, meth, c, cs, A, Q⟩ := G
  obtain ⟨hx, hb, hml, hown, hts, hK, hN, hlk, hr, hfr, hlo, hc1, hc2, hA, hSt⟩ := C
  intro H locs ls hP hD hS hl
  obtain ⟨m1, hv, hf⟩ := bd1_some h
  obtain ⟨n, hs, hin, rfl⟩ := stA_some hv
  have ha := wd_at (E := E) (mm := mm) hs
  simp only [cel] at ha
  refine va_zast hx hb hK hP hD hS o 2 ha rfl hin d (fun H1 locs1 hP1 hD1 hS1 => k _ hf H1 locs1 ls ?_ ?_ hS1 hl)
  · rw [show u1 mm o i.toNatClampNeg (narA 2 x) = uA mm o (upd (mm.1 o) i.toNatClampNeg (narA 2 x)) from rfl, ← wd_uA hs (by decide)]
    exact hP1
  · rw [show u1 mm o i.toNatClampNeg (narA 2 x) = uA mm o (upd (mm.1 o) i.toNatClampNeg (narA 2 x)) from rfl, ← wd_uA hs (by decide)]
    exact hD1
theorem x_last (C : Cx G E cc nL own rt fr lo) {α : Type} {f : Mm → Option α} {r : α} {o : Nat} {i : Int32} {x : Int64} (d : decode cc pc = .ok (.lastore, 1)) (h : bd1 (stL S mm o i x) f = some r) (k : ∀ m1, f m1 = some r → WM G l E S (pc + 1) lv st m1) : WM G l E S pc lv (.long x :: .int i :: .ref (E.2.2 o) :: st) mm := by
  obtain ⟨p, e, R, s, m, args, below, meth, c, cs, A, Q⟩ := G
  obtain ⟨hx, hb, hml, hown, hts, hK, hN, hlk, hr, hfr, hlo, hc1, hc2, hA, hSt⟩ := C
  intro H locs ls hP hD hS hl
  obtain ⟨m1, hv, hf⟩ := bd1_some h
  obtain ⟨n, hs, hin, rfl⟩ := stL_some hv
  have ha := wd_at (E := E) (mm := mm) hs
  simp only [cel] at ha
  refine va_last hx hb hK hP hD hS o 3 ha rfl hin d (fun H1 locs1 hP1 hD1 hS1 => k _ hf H1 locs1 ls ?_ ?_ hS1 hl)
  · rw [show u2 mm o i.toNatClampNeg x = uL mm o (vp_updL (mm.2 o) i.toNatClampNeg x) from rfl, ← wd_uL hs]
    exact hP1
  · rw [show u2 mm o i.toNatClampNeg x = uL mm o (vp_updL (mm.2 o) i.toNatClampNeg x) from rfl, ← wd_uL hs]
    exact hD1
theorem x_alen (C : Cx G E cc nL own rt fr lo) {α : Type} {f : Int32 → Option α} {r : α} {o : Nat} (d : decode cc pc = .ok (.arraylength, 1)) (h : bd1 (alA S o) f = some r) (k : ∀ v, f v = some r → WM G l E S (pc + 1) lv (.int v :: st) mm) : WM G l E S pc lv (.ref (E.2.2 o) :: st) mm := by
  obtain ⟨p, e, R, s, m, args, below, meth, c, cs, A, Q⟩ := G
  obtain ⟨hx, hb, hml, hown, hts, hK, hN, hlk, hr, hfr, hlo, hc1, hc2, hA, hSt⟩ := C
  intro H locs ls hP hD hS hl
  obtain ⟨v, hv, hf⟩ := bd1_some h
  unfold alA at hv
  split at hv
  · rename_i q hq
    split at hv
    · rename_i hle
      cases hv
      obtain ⟨t, n⟩ := q
      have ha := wd_at (E := E) (mm := mm) hq
      rcases (show t = 0 ∨ t = 1 ∨ t = 2 ∨ t = 3 by omega) with rfl | rfl | rfl | rfl
      · simp only [cel] at ha
        exact va_alen hx hb hK hP o 0 ha (ty := .int) rfl rfl d (k _ hf H locs ls hP hD hS hl)
      · simp only [cel] at ha
        exact va_alen hx hb hK hP o 1 ha (ty := .byte) rfl rfl d (k _ hf H locs ls hP hD hS hl)
      · simp only [cel] at ha
        exact va_alen hx hb hK hP o 2 ha (ty := .boolean) rfl rfl d (k _ hf H locs ls hP hD hS hl)
      · simp only [cel] at ha
        exact va_alen hx hb hK hP o 3 ha (ty := .long) rfl rfl d (k _ hf H locs ls hP hD hS hl)
    · cases hv
  · cases hv
theorem x_get0 (C : Cx G E cc nL own rt fr lo) {o ci i index : Nat} {Cn ref : String} {T : u_T} {N : Nat} (hg : isC S o ci) (hc : gc[ci]? = some (Cn, T, N)) (hin : ∀ w ∈ u_ws Cn T N, w ∈ gw) (hk : i < N) (hw : Cond.fieldLink own index ref (T i).2.1 (T i).2.2.1 ∈ gw) (hsm : (T i).1 = ref) (hkp : (kp ci)[i]? = some 0) (d : decode cc pc = .ok (.getfield index, 3)) (k : WM G l E S (pc + 3) lv (.int (mm.1 o i) :: st) mm) : WM G l E S pc lv (.ref (E.2.2 o) :: st) mm := by
  obtain ⟨p, e, R, s, m, args, below, meth, c, cs, A, Q⟩ := G
  obtain ⟨hx, hb, hml, hown, hts, hK, hN, hlk, hr, hfr, hlo, hc1, hc2, hA, hSt⟩ := C
  intro H locs ls hP hD hS hl
  obtain ⟨rs, hs⟩ := hg
  have ha := wd_at (E := E) (mm := mm) hs
  exact va_get hx hb hts hin hown hK hP o ha hc i hk (hts _ hw) (fun x hx9 => by rw [← hsm]; exact hx9) (by rw [List.getElem?_mapIdx, hkp]; rfl) d (k H locs ls hP hD hS hl)
theorem x_get1 (C : Cx G E cc nL own rt fr lo) {o ci i index : Nat} {Cn ref : String} {T : u_T} {N : Nat} (hg : isC S o ci) (hc : gc[ci]? = some (Cn, T, N)) (hin : ∀ w ∈ u_ws Cn T N, w ∈ gw) (hk : i < N) (hw : Cond.fieldLink own index ref (T i).2.1 (T i).2.2.1 ∈ gw) (hsm : (T i).1 = ref) (hkp : (kp ci)[i]? = some 1) (d : decode cc pc = .ok (.getfield index, 3)) (k : WM G l E S (pc + 3) lv (.long (mm.2 o i) :: st) mm) : WM G l E S pc lv (.ref (E.2.2 o) :: st) mm := by
  obtain ⟨p, e, R, s, m, args, below, meth, c, cs, A, Q⟩ := G
  obtain ⟨hx, hb, hml, hown, hts, hK, hN, hlk, hr, hfr, hlo, hc1, hc2, hA, hSt⟩ := C
  intro H locs ls hP hD hS hl
  obtain ⟨rs, hs⟩ := hg
  have ha := wd_at (E := E) (mm := mm) hs
  exact va_get hx hb hts hin hown hK hP o ha hc i hk (hts _ hw) (fun x hx9 => by rw [← hsm]; exact hx9) (by rw [List.getElem?_mapIdx, hkp]; rfl) d (k H locs ls hP hD hS hl)
theorem x_get2 (C : Cx G E cc nL own rt fr lo) {o ci i index : Nat} {Cn ref : String} {T : u_T} {N : Nat} (hg : isC S o ci) (hc : gc[ci]? = some (Cn, T, N)) (hin : ∀ w ∈ u_ws Cn T N, w ∈ gw) (hk : i < N) (hw : Cond.fieldLink own index ref (T i).2.1 (T i).2.2.1 ∈ gw) (hsm : (T i).1 = ref) (hkp : (kp ci)[i]? = some 2) (d : decode cc pc = .ok (.getfield index, 3)) (k : WM G l E S (pc + 3) lv (.ref (E.2.2 (rf S mm o i)) :: st) mm) : WM G l E S pc lv (.ref (E.2.2 o) :: st) mm := by
  obtain ⟨p, e, R, s, m, args, below, meth, c, cs, A, Q⟩ := G
  obtain ⟨hx, hb, hml, hown, hts, hK, hN, hlk, hr, hfr, hlo, hc1, hc2, hA, hSt⟩ := C
  intro H locs ls hP hD hS hl
  obtain ⟨rs, hs⟩ := hg
  have ha := wd_at (E := E) (mm := mm) hs
  exact va_get hx hb hts hin hown hK hP o ha hc i hk (hts _ hw) (fun x hx9 => by rw [← hsm]; exact hx9) (by rw [List.getElem?_mapIdx, hkp]; rfl) d (k H locs ls hP hD hS hl)
theorem x_putI (C : Cx G E cc nL own rt fr lo) {o ci i index : Nat} {Cn ref : String} {T : u_T} {N : Nat} (hg : isC S o ci) (hc : gc[ci]? = some (Cn, T, N)) (hin : ∀ w ∈ u_ws Cn T N, w ∈ gw) (hk : i < N) (hw : Cond.fieldLink own index ref (T i).2.1 (T i).2.2.1 ∈ gw) (hsm : (T i).1 = ref) (ty0 : Nat → FieldType) (hty : ∀ k, k < N → parseFieldDescriptor (T k).2.2.1 = some (ty0 k)) (hnm : ∀ a, a < N → ∀ b, b < N → a ≠ b → (T a).2.1 ≠ (T b).2.1) (hfin : (T i).2.2.2 = false) {x : Int32} (hkp : (kp ci)[i]? = some 0) (hln : i < (kp ci).length) (hd9 : parseFieldDescriptor (T i).2.2.1 = some .int) (d : decode cc pc = .ok (.putfield index, 3)) (k : WM G l E S (pc + 3) lv st (u1 mm o i x)) : WM G l E S pc lv (.int x :: .ref (E.2.2 o) :: st) mm := by
  obtain ⟨p, e, R, s, m, args, below, meth, c, cs, A, Q⟩ := G
  obtain ⟨hx, hb, hml, hown, hts, hK, hN, hlk, hr, hfr, hlo, hc1, hc2, hA, hSt⟩ := C
  intro H locs ls hP hD hS hl
  obtain ⟨rs, hs⟩ := hg
  have ha := wd_at (E := E) (mm := mm) hs
  refine va_put hx hb hts hin ty0 hty hnm hown hK hP hD hS o ha hc i hk (hts _ hw) (fun x hx9 => by rw [← hsm]; exact hx9) hfin (v := .int x) hd9 rfl rfl (by simpa using hln) d (fun H1 locs1 hP1 hD1 hS1 => k H1 locs1 ls ?_ ?_ hS1 hl)
  · rw [← wd_pI hs hkp]
    exact hP1
  · rw [← wd_pI hs hkp]
    exact hD1
theorem x_putZ (C : Cx G E cc nL own rt fr lo) {o ci i index : Nat} {Cn ref : String} {T : u_T} {N : Nat} (hg : isC S o ci) (hc : gc[ci]? = some (Cn, T, N)) (hin : ∀ w ∈ u_ws Cn T N, w ∈ gw) (hk : i < N) (hw : Cond.fieldLink own index ref (T i).2.1 (T i).2.2.1 ∈ gw) (hsm : (T i).1 = ref) (ty0 : Nat → FieldType) (hty : ∀ k, k < N → parseFieldDescriptor (T k).2.2.1 = some (ty0 k)) (hnm : ∀ a, a < N → ∀ b, b < N → a ≠ b → (T a).2.1 ≠ (T b).2.1) (hfin : (T i).2.2.2 = false) {x : Int32} (hz : x = 0 ∨ x = 1) (hkp : (kp ci)[i]? = some 0) (hln : i < (kp ci).length) (hd9 : parseFieldDescriptor (T i).2.2.1 = some .boolean) (d : decode cc pc = .ok (.putfield index, 3)) (k : WM G l E S (pc + 3) lv st (u1 mm o i x)) : WM G l E S pc lv (.int x :: .ref (E.2.2 o) :: st) mm := by
  obtain ⟨p, e, R, s, m, args, below, meth, c, cs, A, Q⟩ := G
  obtain ⟨hx, hb, hml, hown, hts, hK, hN, hlk, hr, hfr, hlo, hc1, hc2, hA, hSt⟩ := C
  intro H locs ls hP hD hS hl
  obtain ⟨rs, hs⟩ := hg
  have ha := wd_at (E := E) (mm := mm) hs
  refine va_put hx hb hts hin ty0 hty hnm hown hK hP hD hS o ha hc i hk (hts _ hw) (fun x hx9 => by rw [← hsm]; exact hx9) hfin (v := .int x) hd9 (by rcases hz with rfl | rfl <;> rfl) (by rcases hz with rfl | rfl <;> rfl) (by simpa using hln) d (fun H1 locs1 hP1 hD1 hS1 => k H1 locs1 ls ?_ ?_ hS1 hl)
  · rw [← wd_pI hs hkp]
    exact hP1
  · rw [← wd_pI hs hkp]
    exact hD1
theorem x_putL (C : Cx G E cc nL own rt fr lo) {o ci i index : Nat} {Cn ref : String} {T : u_T} {N : Nat} (hg : isC S o ci) (hc : gc[ci]? = some (Cn, T, N)) (hin : ∀ w ∈ u_ws Cn T N, w ∈ gw) (hk : i < N) (hw : Cond.fieldLink own index ref (T i).2.1 (T i).2.2.1 ∈ gw) (hsm : (T i).1 = ref) (ty0 : Nat → FieldType) (hty : ∀ k, k < N → parseFieldDescriptor (T k).2.2.1 = some (ty0 k)) (hnm : ∀ a, a < N → ∀ b, b < N → a ≠ b → (T a).2.1 ≠ (T b).2.1) (hfin : (T i).2.2.2 = false) {x : Int64} (hkp : (kp ci)[i]? = some 1) (hln : i < (kp ci).length) (hd9 : parseFieldDescriptor (T i).2.2.1 = some .long) (d : decode cc pc = .ok (.putfield index, 3)) (k : WM G l E S (pc + 3) lv st (u2 mm o i x)) : WM G l E S pc lv (.long x :: .ref (E.2.2 o) :: st) mm := by
  obtain ⟨p, e, R, s, m, args, below, meth, c, cs, A, Q⟩ := G
  obtain ⟨hx, hb, hml, hown, hts, hK, hN, hlk, hr, hfr, hlo, hc1, hc2, hA, hSt⟩ := C
  intro H locs ls hP hD hS hl
  obtain ⟨rs, hs⟩ := hg
  have ha := wd_at (E := E) (mm := mm) hs
  refine va_put hx hb hts hin ty0 hty hnm hown hK hP hD hS o ha hc i hk (hts _ hw) (fun x hx9 => by rw [← hsm]; exact hx9) hfin (v := .long x) hd9 rfl rfl (by simpa using hln) d (fun H1 locs1 hP1 hD1 hS1 => k H1 locs1 ls ?_ ?_ hS1 hl)
  · rw [← wd_pL hs hkp]
    exact hP1
  · rw [← wd_pL hs hkp]
    exact hD1
theorem x_getN0 (C : Cx G E cc nL own rt fr lo) {o ci i index : Nat} {Cn ref : String} {T : u_T} {N : Nat} (hg : isC S o ci) (hc : gc[ci]? = some (Cn, T, N)) (hin : ∀ w ∈ u_ws Cn T N, w ∈ gw) (hk : i < N) {host : String} (hw : Cond.fieldLinkNest own index ref (T i).2.1 (T i).2.2.1 host ∈ gn) (hsm : (T i).1 = ref) (hkp : (kp ci)[i]? = some 0) (d : decode cc pc = .ok (.getfield index, 3)) (k : WM G l E S (pc + 3) lv (.int (mm.1 o i) :: st) mm) : WM G l E S pc lv (.ref (E.2.2 o) :: st) mm := by
  obtain ⟨p, e, R, s, m, args, below, meth, c, cs, A, Q⟩ := G
  obtain ⟨hx, hb, hml, hown, hts, hK, hN, hlk, hr, hfr, hlo, hc1, hc2, hA, hSt⟩ := C
  intro H locs ls hP hD hS hl
  obtain ⟨rs, hs⟩ := hg
  have ha := wd_at (E := E) (mm := mm) hs
  exact va_getN hx hb hts hin hown hK hP o ha hc i hk (va_Nw.use rfl (hN _ hw)) (fun x hx9 => by rw [← hsm]; exact hx9) (by rw [List.getElem?_mapIdx, hkp]; rfl) d (k H locs ls hP hD hS hl)
theorem x_getN1 (C : Cx G E cc nL own rt fr lo) {o ci i index : Nat} {Cn ref : String} {T : u_T} {N : Nat} (hg : isC S o ci) (hc : gc[ci]? = some (Cn, T, N)) (hin : ∀ w ∈ u_ws Cn T N, w ∈ gw) (hk : i < N) {host : String} (hw : Cond.fieldLinkNest own index ref (T i).2.1 (T i).2.2.1 host ∈ gn) (hsm : (T i).1 = ref) (hkp : (kp ci)[i]? = some 1) (d : decode cc pc = .ok (.getfield index, 3)) (k : WM G l E S (pc + 3) lv (.long (mm.2 o i) :: st) mm) : WM G l E S pc lv (.ref (E.2.2 o) :: st) mm := by
  obtain ⟨p, e, R, s, m, args, below, meth, c, cs, A, Q⟩ := G
  obtain ⟨hx, hb, hml, hown, hts, hK, hN, hlk, hr, hfr, hlo, hc1, hc2, hA, hSt⟩ := C
  intro H locs ls hP hD hS hl
  obtain ⟨rs, hs⟩ := hg
  have ha := wd_at (E := E) (mm := mm) hs
  exact va_getN hx hb hts hin hown hK hP o ha hc i hk (va_Nw.use rfl (hN _ hw)) (fun x hx9 => by rw [← hsm]; exact hx9) (by rw [List.getElem?_mapIdx, hkp]; rfl) d (k H locs ls hP hD hS hl)
theorem x_getN2 (C : Cx G E cc nL own rt fr lo) {o ci i index : Nat} {Cn ref : String} {T : u_T} {N : Nat} (hg : isC S o ci) (hc : gc[ci]? = some (Cn, T, N)) (hin : ∀ w ∈ u_ws Cn T N, w ∈ gw) (hk : i < N) {host : String} (hw : Cond.fieldLinkNest own index ref (T i).2.1 (T i).2.2.1 host ∈ gn) (hsm : (T i).1 = ref) (hkp : (kp ci)[i]? = some 2) (d : decode cc pc = .ok (.getfield index, 3)) (k : WM G l E S (pc + 3) lv (.ref (E.2.2 (rf S mm o i)) :: st) mm) : WM G l E S pc lv (.ref (E.2.2 o) :: st) mm := by
  obtain ⟨p, e, R, s, m, args, below, meth, c, cs, A, Q⟩ := G
  obtain ⟨hx, hb, hml, hown, hts, hK, hN, hlk, hr, hfr, hlo, hc1, hc2, hA, hSt⟩ := C
  intro H locs ls hP hD hS hl
  obtain ⟨rs, hs⟩ := hg
  have ha := wd_at (E := E) (mm := mm) hs
  exact va_getN hx hb hts hin hown hK hP o ha hc i hk (va_Nw.use rfl (hN _ hw)) (fun x hx9 => by rw [← hsm]; exact hx9) (by rw [List.getElem?_mapIdx, hkp]; rfl) d (k H locs ls hP hD hS hl)
theorem x_putNI (C : Cx G E cc nL own rt fr lo) {o ci i index : Nat} {Cn ref : String} {T : u_T} {N : Nat} (hg : isC S o ci) (hc : gc[ci]? = some (Cn, T, N)) (hin : ∀ w ∈ u_ws Cn T N, w ∈ gw) (hk : i < N) {host : String} (hw : Cond.fieldLinkNest own index ref (T i).2.1 (T i).2.2.1 host ∈ gn) (hsm : (T i).1 = ref) (ty0 : Nat → FieldType) (hty : ∀ k, k < N → parseFieldDescriptor (T k).2.2.1 = some (ty0 k)) (hnm : ∀ a, a < N → ∀ b, b < N → a ≠ b → (T a).2.1 ≠ (T b).2.1) (hfin : (T i).2.2.2 = false) {x : Int32} (hkp : (kp ci)[i]? = some 0) (hln : i < (kp ci).length) (hd9 : parseFieldDescriptor (T i).2.2.1 = some .int) (d : decode cc pc = .ok (.putfield index, 3)) (k : WM G l E S (pc + 3) lv st (u1 mm o i x)) : WM G l E S pc lv (.int x :: .ref (E.2.2 o) :: st) mm := by
  obtain ⟨p, e, R, s, m, args, below, meth, c, cs, A, Q⟩ := G
  obtain ⟨hx, hb, hml, hown, hts, hK, hN, hlk, hr, hfr, hlo, hc1, hc2, hA, hSt⟩ := C
  intro H locs ls hP hD hS hl
  obtain ⟨rs, hs⟩ := hg
  have ha := wd_at (E := E) (mm := mm) hs
  refine va_putN hx hb hts hin ty0 hty hnm hown hK hP hD hS o ha hc i hk (va_Nw.use rfl (hN _ hw)) (fun x hx9 => by rw [← hsm]; exact hx9) hfin (v := .int x) hd9 rfl rfl (by simpa using hln) d (fun H1 locs1 hP1 hD1 hS1 => k H1 locs1 ls ?_ ?_ hS1 hl)
  · rw [← wd_pI hs hkp]
    exact hP1
  · rw [← wd_pI hs hkp]
    exact hD1
theorem x_putNZ (C : Cx G E cc nL own rt fr lo) {o ci i index : Nat} {Cn ref : String} {T : u_T} {N : Nat} (hg : isC S o ci) (hc : gc[ci]? = some (Cn, T, N)) (hin : ∀ w ∈ u_ws Cn T N, w ∈ gw) (hk : i < N) {host : String} (hw : Cond.fieldLinkNest own index ref (T i).2.1 (T i).2.2.1 host ∈ gn) (hsm : (T i).1 = ref) (ty0 : Nat → FieldType) (hty : ∀ k, k < N → parseFieldDescriptor (T k).2.2.1 = some (ty0 k)) (hnm : ∀ a, a < N → ∀ b, b < N → a ≠ b → (T a).2.1 ≠ (T b).2.1) (hfin : (T i).2.2.2 = false) {x : Int32} (hz : x = 0 ∨ x = 1) (hkp : (kp ci)[i]? = some 0) (hln : i < (kp ci).length) (hd9 : parseFieldDescriptor (T i).2.2.1 = some .boolean) (d : decode cc pc = .ok (.putfield index, 3)) (k : WM G l E S (pc + 3) lv st (u1 mm o i x)) : WM G l E S pc lv (.int x :: .ref (E.2.2 o) :: st) mm := by
  obtain ⟨p, e, R, s, m, args, below, meth, c, cs, A, Q⟩ := G
  obtain ⟨hx, hb, hml, hown, hts, hK, hN, hlk, hr, hfr, hlo, hc1, hc2, hA, hSt⟩ := C
  intro H locs ls hP hD hS hl
  obtain ⟨rs, hs⟩ := hg
  have ha := wd_at (E := E) (mm := mm) hs
  refine va_putN hx hb hts hin ty0 hty hnm hown hK hP hD hS o ha hc i hk (va_Nw.use rfl (hN _ hw)) (fun x hx9 => by rw [← hsm]; exact hx9) hfin (v := .int x) hd9 (by rcases hz with rfl | rfl <;> rfl) (by rcases hz with rfl | rfl <;> rfl) (by simpa using hln) d (fun H1 locs1 hP1 hD1 hS1 => k H1 locs1 ls ?_ ?_ hS1 hl)
  · rw [← wd_pI hs hkp]
    exact hP1
  · rw [← wd_pI hs hkp]
    exact hD1
theorem x_putNL (C : Cx G E cc nL own rt fr lo) {o ci i index : Nat} {Cn ref : String} {T : u_T} {N : Nat} (hg : isC S o ci) (hc : gc[ci]? = some (Cn, T, N)) (hin : ∀ w ∈ u_ws Cn T N, w ∈ gw) (hk : i < N) {host : String} (hw : Cond.fieldLinkNest own index ref (T i).2.1 (T i).2.2.1 host ∈ gn) (hsm : (T i).1 = ref) (ty0 : Nat → FieldType) (hty : ∀ k, k < N → parseFieldDescriptor (T k).2.2.1 = some (ty0 k)) (hnm : ∀ a, a < N → ∀ b, b < N → a ≠ b → (T a).2.1 ≠ (T b).2.1) (hfin : (T i).2.2.2 = false) {x : Int64} (hkp : (kp ci)[i]? = some 1) (hln : i < (kp ci).length) (hd9 : parseFieldDescriptor (T i).2.2.1 = some .long) (d : decode cc pc = .ok (.putfield index, 3)) (k : WM G l E S (pc + 3) lv st (u2 mm o i x)) : WM G l E S pc lv (.long x :: .ref (E.2.2 o) :: st) mm := by
  obtain ⟨p, e, R, s, m, args, below, meth, c, cs, A, Q⟩ := G
  obtain ⟨hx, hb, hml, hown, hts, hK, hN, hlk, hr, hfr, hlo, hc1, hc2, hA, hSt⟩ := C
  intro H locs ls hP hD hS hl
  obtain ⟨rs, hs⟩ := hg
  have ha := wd_at (E := E) (mm := mm) hs
  refine va_putN hx hb hts hin ty0 hty hnm hown hK hP hD hS o ha hc i hk (va_Nw.use rfl (hN _ hw)) (fun x hx9 => by rw [← hsm]; exact hx9) hfin (v := .long x) hd9 rfl rfl (by simpa using hln) d (fun H1 locs1 hP1 hD1 hS1 => k H1 locs1 ls ?_ ?_ hS1 hl)
  · rw [← wd_pL hs hkp]
    exact hP1
  · rw [← wd_pL hs hkp]
    exact hD1
theorem x_putR (C : Cx G E cc nL own rt fr lo) {α : Type} {f : Mm → Option α} {r : α} {o ci i index : Nat} {Cn ref : String} {T : u_T} {N : Nat} (hg : isC S o ci) (hc : gc[ci]? = some (Cn, T, N)) (hin : ∀ w ∈ u_ws Cn T N, w ∈ gw) (hk : i < N) (hw : Cond.fieldLink own index ref (T i).2.1 (T i).2.2.1 ∈ gw) (hsm : (T i).1 = ref) (ty0 : Nat → FieldType) (hty : ∀ k, k < N → parseFieldDescriptor (T k).2.2.1 = some (ty0 k)) (hnm : ∀ a, a < N → ∀ b, b < N → a ≠ b → (T a).2.1 ≠ (T b).2.1) (hfin : (T i).2.2.2 = false) {x : Nat} {tn : String} (hkp : (kp ci)[i]? = some 2) (hln : i < (kp ci).length) (hd9 : parseFieldDescriptor (T i).2.2.1 = some (.object tn)) (d : decode cc pc = .ok (.putfield index, 3)) (h : bd1 (pR S mm o i x) f = some r) (k : ∀ m1, f m1 = some r → WM G l E S (pc + 3) lv st m1) : WM G l E S pc lv (.ref (E.2.2 x) :: .ref (E.2.2 o) :: st) mm := by
  obtain ⟨p, e, R, s, m, args, below, meth, c, cs, A, Q⟩ := G
  obtain ⟨hx, hb, hml, hown, hts, hK, hN, hlk, hr, hfr, hlo, hc1, hc2, hA, hSt⟩ := C
  intro H locs ls hP hD hS hl
  obtain ⟨rs, hs⟩ := hg
  obtain ⟨m1, hv, hf⟩ := bd1_some h
  unfold pR at hv
  rw [hs] at hv
  simp only at hv
  split at hv
  · rename_i hq
    cases hv
    have ha := wd_at (E := E) (mm := mm) hs
    refine va_put hx hb hts hin ty0 hty hnm hown hK hP hD hS o ha hc i hk (hts _ hw) (fun x hx9 => by rw [← hsm]; exact hx9) hfin (v := .ref (E.2.2 x)) hd9 rfl rfl (by simpa using hln) d (fun H1 locs1 hP1 hD1 hS1 => k _ hf H1 locs1 ls ?_ ?_ hS1 hl)
    · rw [← wd_pR hs hkp hq.1 hq.2]
      exact hP1
    · rw [← wd_pR hs hkp hq.1 hq.2]
      exact hD1
  · cases hv
theorem x_mmax (C : Cx G E cc nL own rt fr lo) {x y : Int32} {index : Nat} (d : decode cc pc = .ok (.invokestatic index, 3)) (w1 : Cond.methodLink own index Lib.Math.max.name ∈ gw) (w2 : Cond.static Lib.Math.max.name ∈ gw) (w3 : Cond.initialized "java/lang/Math" ∈ gw) (w4 : Cond.code Lib.Math.max.name Lib.Math.max.code 2 (some .int) ∈ gw) (h1 : 1 ≤ fr) (h2 : (st.map fun v => v.category).sum + 13 ≤ lo) (k : WM G l E S (pc + 3) lv (.int (if x < y then y else x) :: st) mm) : WM G l E S pc lv (.int y :: .int x :: st) mm := by
  obtain ⟨p, e, R, s, m, args, below, meth, c, cs, A, Q⟩ := G
  obtain ⟨hx, hb, hml, hown, hts, hK, hN, hlk, hr, hfr, hlo, hc1, hc2, hA, hSt⟩ := C
  intro H locs ls hP hD hS hl
  exact va_mmax hx hb hl.1.symm hown (hts _ w1) (hts _ w2) (hts _ w3) (hts _ w4) (Nat.le_trans h1 hfr) (Nat.le_trans h2 hlo) hc1 hc2 d (k H locs ls hP hD hS hl)
theorem x_mmin (C : Cx G E cc nL own rt fr lo) {x y : Int32} {index : Nat} (d : decode cc pc = .ok (.invokestatic index, 3)) (w1 : Cond.methodLink own index Lib.Math.min.name ∈ gw) (w2 : Cond.static Lib.Math.min.name ∈ gw) (w3 : Cond.initialized "java/lang/Math" ∈ gw) (w4 : Cond.code Lib.Math.min.name Lib.Math.min.code 2 (some .int) ∈ gw) (h1 : 1 ≤ fr) (h2 : (st.map fun v => v.category).sum + 13 ≤ lo) (k : WM G l E S (pc + 3) lv (.int (if y < x then y else x) :: st) mm) : WM G l E S pc lv (.int y :: .int x :: st) mm := by
  obtain ⟨p, e, R, s, m, args, below, meth, c, cs, A, Q⟩ := G
  obtain ⟨hx, hb, hml, hown, hts, hK, hN, hlk, hr, hfr, hlo, hc1, hc2, hA, hSt⟩ := C
  intro H locs ls hP hD hS hl
  exact va_mmin hx hb hl.1.symm hown (hts _ w1) (hts _ w2) (hts _ w3) (hts _ w4) (Nat.le_trans h1 hfr) (Nat.le_trans h2 hlo) hc1 hc2 d (k H locs ls hP hD hS hl)
theorem x_acopy (C : Cx G E cc nL own rt fr lo) {α : Type} {f : Mm → Option α} {r : α} {o1 o2 : Nat} {sp dp n : Int32} {index : Nat} (d : decode cc pc = .ok (.invokestatic index, 3)) (w1 : Cond.methodLink own index arraycopyName ∈ gw) (w2 : Cond.native arraycopyName ∈ gw) (w3 : Cond.static arraycopyName ∈ gw) (w4 : Cond.initialized "java/lang/System" ∈ gw) (h1 : 1 ≤ fr) (h2 : (st.map fun v => v.category).sum + (nativeFrameWords "java/lang/System" "arraycopy" 5 + 11) ≤ lo) (h : bd1 (cpA S mm o1 sp o2 dp n) f = some r) (k : ∀ m1, f m1 = some r → WM G l E S (pc + 3) lv st m1) : WM G l E S pc lv (.int n :: .int dp :: .ref (E.2.2 o2) :: .int sp :: .ref (E.2.2 o1) :: st) mm := by
  obtain ⟨p, e, R, s, m, args, below, meth, c, cs, A, Q⟩ := G
  obtain ⟨hx, hb, hml, hown, hts, hK, hN, hlk, hr, hfr, hlo, hc1, hc2, hA, hSt⟩ := C
  intro H locs ls hP hD hS hl
  obtain ⟨m1, hv, hf⟩ := bd1_some h
  unfold cpA at hv
  split at hv
  · rename_i q1 q2 hq1 hq2
    split at hv
    · rename_i hc
      cases hv
      obtain ⟨t1, n1⟩ := q1
      obtain ⟨t2, n2⟩ := q2
      obtain ⟨e1, e2, g1, g2, g3, g4, g5⟩ := hc
      dsimp only at e1 e2 g4 g5
      subst e1
      subst e2
      have ha1 := wd_at (E := E) (mm := mm) hq1
      have ha2 := wd_at (E := E) (mm := mm) hq2
      simp only [cel] at ha1 ha2
      have z : ∀ y : Int32, 0 ≤ y.toInt → ¬ y < 0 := fun y hy hlt => by
        have := Int32.lt_iff_toInt_lt.mp hlt
        simp at this
        omega
      have zz : ∀ y : Int32, 0 ≤ y.toInt → (y.toNatClampNeg : Int) = y.toInt := fun y hy => by
        show ((y.toInt.toNat : Nat) : Int) = y.toInt
        omega
      refine va_copyi hx hb hl.1.symm hown (hts _ w1) (hts _ w2) (hts _ w3) (hts _ w4) hK hP hD hS o1 o2 0 0 ha1 ha2 (ty := .int) rfl rfl rfl (z _ g1) (z _ g2) (z _ g3) (by have := zz _ g1; have := zz _ g3; omega) (by have := zz _ g2; have := zz _ g3; omega) (fun i hi => rfl) (Nat.le_trans h1 hfr) (Nat.le_trans h2 hlo) d (fun H1 locs1 hP1 hD1 hS1 => k _ hf H1 locs1 ls ?_ ?_ hS1 hl)
      · rw [← wd_uA hq2 (by decide)]
        exact hP1
      · rw [← wd_uA hq2 (by decide)]
        exact hD1
    · cases hv
  · cases hv
variable {rest : List Value}
theorem x_iret {v : Int32} (C : Cx G E cc nL own (some .int) fr lo) (d : decode cc pc = .ok (.ireturn, 1)) (hQ : RQ G E S (some (.int v)) mm) : WM G l E S pc lv [.int v] mm := by
  obtain ⟨p, e, R, s, m, args, below, meth, c, cs, A, Q⟩ := G
  obtain ⟨hx, hb, hml, hown, hts, hK, hN, hlk, hr, hfr, hlo, hc1, hc2, hA, hSt⟩ := C
  intro H locs ls hP hD hS hl
  obtain ⟨Qc, free, rfl, hfree, hq⟩ := hQ
  exact W.iret hx hb hr (fun t ht hW => hq t (by rw [ht]; exact hP) hD (hS.F ht) hW) (fun q h => hfree _ (hS.2.2 q h)) d (hlocks := hlk)
theorem x_lret {v : Int64} (C : Cx G E cc nL own (some .long) fr lo) (d : decode cc pc = .ok (.lreturn, 1)) (hQ : RQ G E S (some (.long v)) mm) : WM G l E S pc lv [.long v] mm := by
  obtain ⟨p, e, R, s, m, args, below, meth, c, cs, A, Q⟩ := G
  obtain ⟨hx, hb, hml, hown, hts, hK, hN, hlk, hr, hfr, hlo, hc1, hc2, hA, hSt⟩ := C
  intro H locs ls hP hD hS hl
  obtain ⟨Qc, free, rfl, hfree, hq⟩ := hQ
  exact W.lret hx hb hr (fun t ht hW => hq t (by rw [ht]; exact hP) hD (hS.F ht) hW) (fun q h => hfree _ (hS.2.2 q h)) d (hlocks := hlk)
theorem x_zret {v : Int32} {α : Type} {f : Int32 → Option α} {r : α} (C : Cx G E cc nL own (some .boolean) fr lo) (d : decode cc pc = .ok (.ireturn, 1)) (h : bd1 (okZ v) f = some r) (hQ : f v = some r → RQ G E S (some (.int v)) mm) : WM G l E S pc lv [.int v] mm := by
  obtain ⟨p, e, R, s, m, args, below, meth, c, cs, A, Q⟩ := G
  obtain ⟨hx, hb, hml, hown, hts, hK, hN, hlk, hr, hfr, hlo, hc1, hc2, hA, hSt⟩ := C
  intro H locs ls hP hD hS hl
  obtain ⟨w, hw, hf⟩ := bd1_some h
  unfold okZ at hw
  split at hw
  · rename_i hz
    cases hw
    obtain ⟨Qc, free, rfl, hfree, hq⟩ := hQ hf
    exact W.zret hx hb hr (by rcases hz with rfl | rfl <;> rfl) (fun t ht hW => hq t (by rw [ht]; exact hP) hD (hS.F ht) hW) (fun q h => hfree _ (hS.2.2 q h)) d (hlocks := hlk)
  · cases hw
theorem x_vret (C : Cx G E cc nL own none fr lo) (d : decode cc pc = .ok (.return_, 1)) (hQ : RQ G E S none mm) : WM G l E S pc lv [] mm := by
  obtain ⟨p, e, R, s, m, args, below, meth, c, cs, A, Q⟩ := G
  obtain ⟨hx, hb, hml, hown, hts, hK, hN, hlk, hr, hfr, hlo, hc1, hc2, hA, hSt⟩ := C
  intro H locs ls hP hD hS hl
  obtain ⟨Qc, free, rfl, hfree, hq⟩ := hQ
  exact W.vret hx hb hr (fun t ht hW => hq t (by rw [ht]; exact hP) hD (hS.F ht) hW) (fun q h => hfree _ (hS.2.2 q h)) d (hlocks := hlk)
theorem x_lv {lv2 : List (Nat × Value)} (ks : List Nat) (he : lv_pick lv ks = lv2) (k : WM G l E S pc lv2 st mm) : WM G l E S pc lv st mm := by
  obtain ⟨p, e, R, s, m, args, below, meth, c, cs, A, Q⟩ := G
  intro H locs ls hP hD hS hl
  exact k H locs ls hP hD hS (lv_sub hl ks he)
end XR
