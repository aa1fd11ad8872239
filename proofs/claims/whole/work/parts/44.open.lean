/-! rows over any world w: for constructors and for the law -/
def WG (G : Gt) (l : Launch) (E : Ev) (cs : Nat × Nat) (w : va_W) (pc : Nat) (lv : List (Nat × Value)) (st : List Value) : Prop := match G with
  | (p, e, R, s, m, args, below, meth, c, _, A, Q) => ∀ (H : Heap) (locs : List Loc) (ls : Array Slot), va_P E.1 gc w H → va_D A w → va_S A s.heap H locs → lv_has ls c.maxLocals lv → W p l e R s m args below meth c H locs cs.1 cs.2 Q (F0 m pc ls st)
def Rm (G : Gt) (mc ms : Nat) : Prop := match G with
  | (_, _, R, _) => mc ≤ R.cells ∧ ms ≤ R.slots
def Nmi (G : Gt) : Prop := match G with
  | (_, _, _, _, _, _, _, meth, _) => meth.name = "<init>"
section YR
variable {G : Gt} {l : Launch} {E : Ev} {cs : Nat × Nat} {w : va_W} {cc : ByteArray} {nL : Nat} {own : String} {rt : Option FieldType} {fr lo : Nat} {pc : Nat} {lv : List (Nat × Value)} {st : List Value}
theorem y_iconst (C : Cx G E cc nL own rt fr lo) {n : Int} {v : Int32} (d : decode cc pc = .ok (.iconst n, 1)) (hv : Int32.ofInt n = v) (k : WG G l E cs w (pc + 1) lv (.int v :: st)) : WG G l E cs w pc lv st := by
  obtain ⟨p, e, R, s, m, args, below, meth, c, cs0, A, Q⟩ := G
  obtain ⟨hx, hb, hml, hown, hts, hK, hN, hlk, hr, hfr, hlo, hc1, hc2, hA, hSt⟩ := C
  intro H locs ls hP hD hS hl
  exact lv_iconst hx hb d hv (k H locs ls hP hD hS hl)
theorem y_bipush (C : Cx G E cc nL own rt fr lo) {n : Int} {v : Int32} (d : decode cc pc = .ok (.bipush n, 2)) (hv : (Int8.ofInt n).toInt32 = v) (k : WG G l E cs w (pc + 2) lv (.int v :: st)) : WG G l E cs w pc lv st := by
  obtain ⟨p, e, R, s, m, args, below, meth, c, cs0, A, Q⟩ := G
  obtain ⟨hx, hb, hml, hown, hts, hK, hN, hlk, hr, hfr, hlo, hc1, hc2, hA, hSt⟩ := C
  intro H locs ls hP hD hS hl
  exact lv_bipush hx hb d hv (k H locs ls hP hD hS hl)
theorem y_sipush (C : Cx G E cc nL own rt fr lo) {n : Int} {v : Int32} (d : decode cc pc = .ok (.sipush n, 3)) (hv : (Int16.ofInt n).toInt32 = v) (k : WG G l E cs w (pc + 3) lv (.int v :: st)) : WG G l E cs w pc lv st := by
  obtain ⟨p, e, R, s, m, args, below, meth, c, cs0, A, Q⟩ := G
  obtain ⟨hx, hb, hml, hown, hts, hK, hN, hlk, hr, hfr, hlo, hc1, hc2, hA, hSt⟩ := C
  intro H locs ls hP hD hS hl
  exact lv_sipush hx hb d hv (k H locs ls hP hD hS hl)
theorem y_iload_n (C : Cx G E cc nL own rt fr lo) {k9 : Fin 4} {i : Nat} {x : Int32} (d : decode cc pc = .ok (.iload_n k9, 1)) (hi : (k9 : Nat) = i) (q : Nat) (hq : lv[q]? = some (i, .int x)) (k : WG G l E cs w (pc + 1) lv (.int x :: st)) : WG G l E cs w pc lv st := by
  obtain ⟨p, e, R, s, m, args, below, meth, c, cs0, A, Q⟩ := G
  obtain ⟨hx, hb, hml, hown, hts, hK, hN, hlk, hr, hfr, hlo, hc1, hc2, hA, hSt⟩ := C
  intro H locs ls hP hD hS hl
  exact lv_iload_n hx hb d hi (lv_at hl q hq) (k H locs ls hP hD hS hl)
theorem y_iload (C : Cx G E cc nL own rt fr lo) {i : Nat} {x : Int32} (d : decode cc pc = .ok (.iload i, 2)) (q : Nat) (hq : lv[q]? = some (i, .int x)) (k : WG G l E cs w (pc + 2) lv (.int x :: st)) : WG G l E cs w pc lv st := by
  obtain ⟨p, e, R, s, m, args, below, meth, c, cs0, A, Q⟩ := G
  obtain ⟨hx, hb, hml, hown, hts, hK, hN, hlk, hr, hfr, hlo, hc1, hc2, hA, hSt⟩ := C
  intro H locs ls hP hD hS hl
  exact lv_iload hx hb d (lv_at hl q hq) (k H locs ls hP hD hS hl)
theorem y_aload_n (C : Cx G E cc nL own rt fr lo) {k9 : Fin 4} {i : Nat} {x : Nat} (d : decode cc pc = .ok (.aload_n k9, 1)) (hi : (k9 : Nat) = i) (q : Nat) (hq : lv[q]? = some (i, .ref x)) (k : WG G l E cs w (pc + 1) lv (.ref x :: st)) : WG G l E cs w pc lv st := by
  obtain ⟨p, e, R, s, m, args, below, meth, c, cs0, A, Q⟩ := G
  obtain ⟨hx, hb, hml, hown, hts, hK, hN, hlk, hr, hfr, hlo, hc1, hc2, hA, hSt⟩ := C
  intro H locs ls hP hD hS hl
  exact lv_aload_n hx hb d hi (lv_at hl q hq) (k H locs ls hP hD hS hl)
theorem y_aload (C : Cx G E cc nL own rt fr lo) {i : Nat} {x : Nat} (d : decode cc pc = .ok (.aload i, 2)) (q : Nat) (hq : lv[q]? = some (i, .ref x)) (k : WG G l E cs w (pc + 2) lv (.ref x :: st)) : WG G l E cs w pc lv st := by
  obtain ⟨p, e, R, s, m, args, below, meth, c, cs0, A, Q⟩ := G
  obtain ⟨hx, hb, hml, hown, hts, hK, hN, hlk, hr, hfr, hlo, hc1, hc2, hA, hSt⟩ := C
  intro H locs ls hP hD hS hl
  exact lv_aload hx hb d (lv_at hl q hq) (k H locs ls hP hD hS hl)
theorem y_istore_n (C : Cx G E cc nL own rt fr lo) {k9 : Fin 4} {i : Nat} {x : Int32} {lv' : List (Nat × Value)} (d : decode cc pc = .ok (.istore_n k9, 1)) (hi : (k9 : Nat) = i) (hn : i < nL) (he : (i, Value.int x) :: lv.filter (fun q => !(q.1 == i) && !(q.1 + 1 == i && q.2.category == 2)) = lv') (k : WG G l E cs w (pc + 1) lv' st) : WG G l E cs w pc lv (.int x :: st) := by
  obtain ⟨p, e, R, s, m, args, below, meth, c, cs0, A, Q⟩ := G
  obtain ⟨hx, hb, hml, hown, hts, hK, hN, hlk, hr, hfr, hlo, hc1, hc2, hA, hSt⟩ := C
  intro H locs ls hP hD hS hl
  exact lv_istore_n hx hb d hi hl (by rw [hml]; exact hn) he (fun ls2 h2 => k H locs ls2 hP hD hS h2)
theorem y_istore (C : Cx G E cc nL own rt fr lo) {i : Nat} {x : Int32} {lv' : List (Nat × Value)} (d : decode cc pc = .ok (.istore i, 2)) (hn : i < nL) (he : (i, Value.int x) :: lv.filter (fun q => !(q.1 == i) && !(q.1 + 1 == i && q.2.category == 2)) = lv') (k : WG G l E cs w (pc + 2) lv' st) : WG G l E cs w pc lv (.int x :: st) := by
  obtain ⟨p, e, R, s, m, args, below, meth, c, cs0, A, Q⟩ := G
  obtain ⟨hx, hb, hml, hown, hts, hK, hN, hlk, hr, hfr, hlo, hc1, hc2, hA, hSt⟩ := C
  intro H locs ls hP hD hS hl
  exact lv_istore hx hb d hl (by rw [hml]; exact hn) he (fun ls2 h2 => k H locs ls2 hP hD hS h2)
theorem y_astore_n (C : Cx G E cc nL own rt fr lo) {k9 : Fin 4} {i : Nat} {x : Nat} {lv' : List (Nat × Value)} (d : decode cc pc = .ok (.astore_n k9, 1)) (hi : (k9 : Nat) = i) (hn : i < nL) (he : (i, Value.ref x) :: lv.filter (fun q => !(q.1 == i) && !(q.1 + 1 == i && q.2.category == 2)) = lv') (k : WG G l E cs w (pc + 1) lv' st) : WG G l E cs w pc lv (.ref x :: st) := by
  obtain ⟨p, e, R, s, m, args, below, meth, c, cs0, A, Q⟩ := G
  obtain ⟨hx, hb, hml, hown, hts, hK, hN, hlk, hr, hfr, hlo, hc1, hc2, hA, hSt⟩ := C
  intro H locs ls hP hD hS hl
  exact lv_astore_n hx hb d hi hl (by rw [hml]; exact hn) he (fun ls2 h2 => k H locs ls2 hP hD hS h2)
theorem y_astore (C : Cx G E cc nL own rt fr lo) {i : Nat} {x : Nat} {lv' : List (Nat × Value)} (d : decode cc pc = .ok (.astore i, 2)) (hn : i < nL) (he : (i, Value.ref x) :: lv.filter (fun q => !(q.1 == i) && !(q.1 + 1 == i && q.2.category == 2)) = lv') (k : WG G l E cs w (pc + 2) lv' st) : WG G l E cs w pc lv (.ref x :: st) := by
  obtain ⟨p, e, R, s, m, args, below, meth, c, cs0, A, Q⟩ := G
  obtain ⟨hx, hb, hml, hown, hts, hK, hN, hlk, hr, hfr, hlo, hc1, hc2, hA, hSt⟩ := C
  intro H locs ls hP hD hS hl
  exact lv_astore hx hb d hl (by rw [hml]; exact hn) he (fun ls2 h2 => k H locs ls2 hP hD hS h2)
theorem y_iinc (C : Cx G E cc nL own rt fr lo) {i : Nat} {n : Int} {x v : Int32} {lv' : List (Nat × Value)} (d : decode cc pc = .ok (.iinc i n, 3)) (q : Nat) (hq : lv[q]? = some (i, .int x)) (hv : x + Int32.ofInt n = v) (hn : i < nL) (he : (i, Value.int v) :: lv.filter (fun q => !(q.1 == i) && !(q.1 + 1 == i && q.2.category == 2)) = lv') (k : WG G l E cs w (pc + 3) lv' st) : WG G l E cs w pc lv st := by
  obtain ⟨p, e, R, s, m, args, below, meth, c, cs0, A, Q⟩ := G
  obtain ⟨hx, hb, hml, hown, hts, hK, hN, hlk, hr, hfr, hlo, hc1, hc2, hA, hSt⟩ := C
  intro H locs ls hP hD hS hl
  exact lv_iinc hx hb d hl hq hv (by rw [hml]; exact hn) he (fun ls2 h2 => k H locs ls2 hP hD hS h2)
theorem y_iadd (C : Cx G E cc nL own rt fr lo) {x y : Int32} (d : decode cc pc = .ok (.iadd, 1)) (k : WG G l E cs w (pc + 1) lv (.int (x + y) :: st)) : WG G l E cs w pc lv (.int y :: .int x :: st) := by
  obtain ⟨p, e, R, s, m, args, below, meth, c, cs0, A, Q⟩ := G
  obtain ⟨hx, hb, hml, hown, hts, hK, hN, hlk, hr, hfr, hlo, hc1, hc2, hA, hSt⟩ := C
  intro H locs ls hP hD hS hl
  exact lv_iadd hx hb d (k H locs ls hP hD hS hl)
theorem y_isub (C : Cx G E cc nL own rt fr lo) {x y : Int32} (d : decode cc pc = .ok (.isub, 1)) (k : WG G l E cs w (pc + 1) lv (.int (x - y) :: st)) : WG G l E cs w pc lv (.int y :: .int x :: st) := by
  obtain ⟨p, e, R, s, m, args, below, meth, c, cs0, A, Q⟩ := G
  obtain ⟨hx, hb, hml, hown, hts, hK, hN, hlk, hr, hfr, hlo, hc1, hc2, hA, hSt⟩ := C
  intro H locs ls hP hD hS hl
  exact lv_isub hx hb d (k H locs ls hP hD hS hl)
theorem y_iand (C : Cx G E cc nL own rt fr lo) {x y : Int32} (d : decode cc pc = .ok (.iand, 1)) (k : WG G l E cs w (pc + 1) lv (.int (x &&& y) :: st)) : WG G l E cs w pc lv (.int y :: .int x :: st) := by
  obtain ⟨p, e, R, s, m, args, below, meth, c, cs0, A, Q⟩ := G
  obtain ⟨hx, hb, hml, hown, hts, hK, hN, hlk, hr, hfr, hlo, hc1, hc2, hA, hSt⟩ := C
  intro H locs ls hP hD hS hl
  exact lv_iand hx hb d (k H locs ls hP hD hS hl)
theorem y_i2l (C : Cx G E cc nL own rt fr lo) {x : Int32} (d : decode cc pc = .ok (.i2l, 1)) (k : WG G l E cs w (pc + 1) lv (.long x.toInt64 :: st)) : WG G l E cs w pc lv (.int x :: st) := by
  obtain ⟨p, e, R, s, m, args, below, meth, c, cs0, A, Q⟩ := G
  obtain ⟨hx, hb, hml, hown, hts, hK, hN, hlk, hr, hfr, hlo, hc1, hc2, hA, hSt⟩ := C
  intro H locs ls hP hD hS hl
  exact lv_i2l hx hb d rfl (k H locs ls hP hD hS hl)
theorem y_lcmp (C : Cx G E cc nL own rt fr lo) {x y : Int64} (d : decode cc pc = .ok (.lcmp, 1)) (k : WG G l E cs w (pc + 1) lv (.int (lg_cmp x y) :: st)) : WG G l E cs w pc lv (.long y :: .long x :: st) := by
  obtain ⟨p, e, R, s, m, args, below, meth, c, cs0, A, Q⟩ := G
  obtain ⟨hx, hb, hml, hown, hts, hK, hN, hlk, hr, hfr, hlo, hc1, hc2, hA, hSt⟩ := C
  intro H locs ls hP hD hS hl
  exact W.lcmp hx hb d (k H locs ls hP hD hS hl)
theorem y_dup (C : Cx G E cc nL own rt fr lo) {va : Value} (d : decode cc pc = .ok (.dup, 1)) (hv : va.category = 1) (k : WG G l E cs w (pc + 1) lv (va :: va :: st)) : WG G l E cs w pc lv (va :: st) := by
  obtain ⟨p, e, R, s, m, args, below, meth, c, cs0, A, Q⟩ := G
  obtain ⟨hx, hb, hml, hown, hts, hK, hN, hlk, hr, hfr, hlo, hc1, hc2, hA, hSt⟩ := C
  intro H locs ls hP hD hS hl
  exact lv_dup hx hb d hv (k H locs ls hP hD hS hl)
theorem y_goto (C : Cx G E cc nL own rt fr lo) {off : Int} {tgt : Nat} (d : decode cc pc = .ok (.goto off, 3)) (ht : (pc : Int) + off = (tgt : Int)) (k : WG G l E cs w tgt lv st) : WG G l E cs w pc lv st := by
  obtain ⟨p, e, R, s, m, args, below, meth, c, cs0, A, Q⟩ := G
  obtain ⟨hx, hb, hml, hown, hts, hK, hN, hlk, hr, hfr, hlo, hc1, hc2, hA, hSt⟩ := C
  intro H locs ls hP hD hS hl
  exact lv_goto hx hb d ht (k H locs ls hP hD hS hl)
theorem y_if_eq (C : Cx G E cc nL own rt fr lo) {x : Int32} {off : Int} {tgt : Nat} (d : decode cc pc = .ok (.ifCond .eq off, 3)) (ht : (pc : Int) + off = (tgt : Int)) (kt : x = 0 → WG G l E cs w tgt lv st) (kf : ¬ x = 0 → WG G l E cs w (pc + 3) lv st) : WG G l E cs w pc lv (.int x :: st) := by
  obtain ⟨p, e, R, s, m, args, below, meth, c, cs0, A, Q⟩ := G
  obtain ⟨hx, hb, hml, hown, hts, hK, hN, hlk, hr, hfr, hlo, hc1, hc2, hA, hSt⟩ := C
  intro H locs ls hP hD hS hl
  exact lv_if_eq hx hb d ht (fun hc => kt hc H locs ls hP hD hS hl) (fun hc => kf hc H locs ls hP hD hS hl)
theorem y_icmp_eq (C : Cx G E cc nL own rt fr lo) {x y : Int32} {off : Int} {tgt : Nat} (d : decode cc pc = .ok (.if_icmp .eq off, 3)) (ht : (pc : Int) + off = (tgt : Int)) (kt : x = y → WG G l E cs w tgt lv st) (kf : ¬ x = y → WG G l E cs w (pc + 3) lv st) : WG G l E cs w pc lv (.int y :: .int x :: st) := by
  obtain ⟨p, e, R, s, m, args, below, meth, c, cs0, A, Q⟩ := G
  obtain ⟨hx, hb, hml, hown, hts, hK, hN, hlk, hr, hfr, hlo, hc1, hc2, hA, hSt⟩ := C
  intro H locs ls hP hD hS hl
  exact lv_icmp_eq hx hb d ht (fun hc => kt hc H locs ls hP hD hS hl) (fun hc => kf hc H locs ls hP hD hS hl)
theorem y_if_ne (C : Cx G E cc nL own rt fr lo) {x : Int32} {off : Int} {tgt : Nat} (d : decode cc pc = .ok (.ifCond .ne off, 3)) (ht : (pc : Int) + off = (tgt : Int)) (kt : ¬ x = 0 → WG G l E cs w tgt lv st) (kf : x = 0 → WG G l E cs w (pc + 3) lv st) : WG G l E cs w pc lv (.int x :: st) := by
  obtain ⟨p, e, R, s, m, args, below, meth, c, cs0, A, Q⟩ := G
  obtain ⟨hx, hb, hml, hown, hts, hK, hN, hlk, hr, hfr, hlo, hc1, hc2, hA, hSt⟩ := C
  intro H locs ls hP hD hS hl
  exact lv_if_ne hx hb d ht (fun hc => kt hc H locs ls hP hD hS hl) (fun hc => kf hc H locs ls hP hD hS hl)
theorem y_icmp_ne (C : Cx G E cc nL own rt fr lo) {x y : Int32} {off : Int} {tgt : Nat} (d : decode cc pc = .ok (.if_icmp .ne off, 3)) (ht : (pc : Int) + off = (tgt : Int)) (kt : ¬ x = y → WG G l E cs w tgt lv st) (kf : x = y → WG G l E cs w (pc + 3) lv st) : WG G l E cs w pc lv (.int y :: .int x :: st) := by
  obtain ⟨p, e, R, s, m, args, below, meth, c, cs0, A, Q⟩ := G
  obtain ⟨hx, hb, hml, hown, hts, hK, hN, hlk, hr, hfr, hlo, hc1, hc2, hA, hSt⟩ := C
  intro H locs ls hP hD hS hl
  exact lv_icmp_ne hx hb d ht (fun hc => kt hc H locs ls hP hD hS hl) (fun hc => kf hc H locs ls hP hD hS hl)
theorem y_if_lt (C : Cx G E cc nL own rt fr lo) {x : Int32} {off : Int} {tgt : Nat} (d : decode cc pc = .ok (.ifCond .lt off, 3)) (ht : (pc : Int) + off = (tgt : Int)) (kt : x < 0 → WG G l E cs w tgt lv st) (kf : ¬ x < 0 → WG G l E cs w (pc + 3) lv st) : WG G l E cs w pc lv (.int x :: st) := by
  obtain ⟨p, e, R, s, m, args, below, meth, c, cs0, A, Q⟩ := G
  obtain ⟨hx, hb, hml, hown, hts, hK, hN, hlk, hr, hfr, hlo, hc1, hc2, hA, hSt⟩ := C
  intro H locs ls hP hD hS hl
  exact lv_if_lt hx hb d ht (fun hc => kt hc H locs ls hP hD hS hl) (fun hc => kf hc H locs ls hP hD hS hl)
theorem y_icmp_lt (C : Cx G E cc nL own rt fr lo) {x y : Int32} {off : Int} {tgt : Nat} (d : decode cc pc = .ok (.if_icmp .lt off, 3)) (ht : (pc : Int) + off = (tgt : Int)) (kt : x < y → WG G l E cs w tgt lv st) (kf : ¬ x < y → WG G l E cs w (pc + 3) lv st) : WG G l E cs w pc lv (.int y :: .int x :: st) := by
  obtain ⟨p, e, R, s, m, args, below, meth, c, cs0, A, Q⟩ := G
  obtain ⟨hx, hb, hml, hown, hts, hK, hN, hlk, hr, hfr, hlo, hc1, hc2, hA, hSt⟩ := C
  intro H locs ls hP hD hS hl
  exact lv_icmp_lt hx hb d ht (fun hc => kt hc H locs ls hP hD hS hl) (fun hc => kf hc H locs ls hP hD hS hl)
theorem y_if_ge (C : Cx G E cc nL own rt fr lo) {x : Int32} {off : Int} {tgt : Nat} (d : decode cc pc = .ok (.ifCond .ge off, 3)) (ht : (pc : Int) + off = (tgt : Int)) (kt : 0 ≤ x → WG G l E cs w tgt lv st) (kf : ¬ 0 ≤ x → WG G l E cs w (pc + 3) lv st) : WG G l E cs w pc lv (.int x :: st) := by
  obtain ⟨p, e, R, s, m, args, below, meth, c, cs0, A, Q⟩ := G
  obtain ⟨hx, hb, hml, hown, hts, hK, hN, hlk, hr, hfr, hlo, hc1, hc2, hA, hSt⟩ := C
  intro H locs ls hP hD hS hl
  exact lv_if_ge hx hb d ht (fun hc => kt hc H locs ls hP hD hS hl) (fun hc => kf hc H locs ls hP hD hS hl)
theorem y_icmp_ge (C : Cx G E cc nL own rt fr lo) {x y : Int32} {off : Int} {tgt : Nat} (d : decode cc pc = .ok (.if_icmp .ge off, 3)) (ht : (pc : Int) + off = (tgt : Int)) (kt : y ≤ x → WG G l E cs w tgt lv st) (kf : ¬ y ≤ x → WG G l E cs w (pc + 3) lv st) : WG G l E cs w pc lv (.int y :: .int x :: st) := by
  obtain ⟨p, e, R, s, m, args, below, meth, c, cs0, A, Q⟩ := G
  obtain ⟨hx, hb, hml, hown, hts, hK, hN, hlk, hr, hfr, hlo, hc1, hc2, hA, hSt⟩ := C
  intro H locs ls hP hD hS hl
  exact lv_icmp_ge hx hb d ht (fun hc => kt hc H locs ls hP hD hS hl) (fun hc => kf hc H locs ls hP hD hS hl)
theorem y_if_gt (C : Cx G E cc nL own rt fr lo) {x : Int32} {off : Int} {tgt : Nat} (d : decode cc pc = .ok (.ifCond .gt off, 3)) (ht : (pc : Int) + off = (tgt : Int)) (kt : 0 < x → WG G l E cs w tgt lv st) (kf : ¬ 0 < x → WG G l E cs w (pc + 3) lv st) : WG G l E cs w pc lv (.int x :: st) := by
  obtain ⟨p, e, R, s, m, args, below, meth, c, cs0, A, Q⟩ := G
  obtain ⟨hx, hb, hml, hown, hts, hK, hN, hlk, hr, hfr, hlo, hc1, hc2, hA, hSt⟩ := C
  intro H locs ls hP hD hS hl
  exact lv_if_gt hx hb d ht (fun hc => kt hc H locs ls hP hD hS hl) (fun hc => kf hc H locs ls hP hD hS hl)
theorem y_icmp_gt (C : Cx G E cc nL own rt fr lo) {x y : Int32} {off : Int} {tgt : Nat} (d : decode cc pc = .ok (.if_icmp .gt off, 3)) (ht : (pc : Int) + off = (tgt : Int)) (kt : y < x → WG G l E cs w tgt lv st) (kf : ¬ y < x → WG G l E cs w (pc + 3) lv st) : WG G l E cs w pc lv (.int y :: .int x :: st) := by
  obtain ⟨p, e, R, s, m, args, below, meth, c, cs0, A, Q⟩ := G
  obtain ⟨hx, hb, hml, hown, hts, hK, hN, hlk, hr, hfr, hlo, hc1, hc2, hA, hSt⟩ := C
  intro H locs ls hP hD hS hl
  exact lv_icmp_gt hx hb d ht (fun hc => kt hc H locs ls hP hD hS hl) (fun hc => kf hc H locs ls hP hD hS hl)
theorem y_if_le (C : Cx G E cc nL own rt fr lo) {x : Int32} {off : Int} {tgt : Nat} (d : decode cc pc = .ok (.ifCond .le off, 3)) (ht : (pc : Int) + off = (tgt : Int)) (kt : x ≤ 0 → WG G l E cs w tgt lv st) (kf : ¬ x ≤ 0 → WG G l E cs w (pc + 3) lv st) : WG G l E cs w pc lv (.int x :: st) := by
  obtain ⟨p, e, R, s, m, args, below, meth, c, cs0, A, Q⟩ := G
  obtain ⟨hx, hb, hml, hown, hts, hK, hN, hlk, hr, hfr, hlo, hc1, hc2, hA, hSt⟩ := C
  intro H locs ls hP hD hS hl
  exact lv_if_le hx hb d ht (fun hc => kt hc H locs ls hP hD hS hl) (fun hc => kf hc H locs ls hP hD hS hl)
theorem y_icmp_le (C : Cx G E cc nL own rt fr lo) {x y : Int32} {off : Int} {tgt : Nat} (d : decode cc pc = .ok (.if_icmp .le off, 3)) (ht : (pc : Int) + off = (tgt : Int)) (kt : x ≤ y → WG G l E cs w tgt lv st) (kf : ¬ x ≤ y → WG G l E cs w (pc + 3) lv st) : WG G l E cs w pc lv (.int y :: .int x :: st) := by
  obtain ⟨p, e, R, s, m, args, below, meth, c, cs0, A, Q⟩ := G
  obtain ⟨hx, hb, hml, hown, hts, hK, hN, hlk, hr, hfr, hlo, hc1, hc2, hA, hSt⟩ := C
  intro H locs ls hP hD hS hl
  exact lv_icmp_le hx hb d ht (fun hc => kt hc H locs ls hP hD hS hl) (fun hc => kf hc H locs ls hP hD hS hl)
theorem y_tab1 (C : Cx G E cc nL own rt fr lo) {x : Int32} {dflt lo9 hi9 z off : Int} {offs : Array Int} {len tgt : Nat} (d : decode cc pc = .ok (.tableswitch dflt lo9 hi9 offs, len)) (hz : x.toInt = z) (h1 : ¬ z < lo9) (h2 : ¬ hi9 < z) (ho : offs[(z - lo9).toNat]? = some off) (ht : (pc : Int) + off = (tgt : Int)) (k : WG G l E cs w tgt lv st) : WG G l E cs w pc lv (.int x :: st) := by
  obtain ⟨p, e, R, s, m, args, below, meth, c, cs0, A, Q⟩ := G
  obtain ⟨hx, hb, hml, hown, hts, hK, hN, hlk, hr, hfr, hlo, hc1, hc2, hA, hSt⟩ := C
  intro H locs ls hP hD hS hl
  exact lv_tableIn hx hb d (by rw [hz]; exact h1) (by rw [hz]; exact h2) (by rw [hz]; exact ho) ht (k H locs ls hP hD hS hl)
theorem y_tabO (C : Cx G E cc nL own rt fr lo) {x : Int32} {dflt lo9 hi9 : Int} {offs : Array Int} {len tgt : Nat} (d : decode cc pc = .ok (.tableswitch dflt lo9 hi9 offs, len)) (ho : x.toInt < lo9 ∨ hi9 < x.toInt) (ht : (pc : Int) + dflt = (tgt : Int)) (k : WG G l E cs w tgt lv st) : WG G l E cs w pc lv (.int x :: st) := by
  obtain ⟨p, e, R, s, m, args, below, meth, c, cs0, A, Q⟩ := G
  obtain ⟨hx, hb, hml, hown, hts, hK, hN, hlk, hr, hfr, hlo, hc1, hc2, hA, hSt⟩ := C
  intro H locs ls hP hD hS hl
  exact lv_tableOut hx hb d ho ht (k H locs ls hP hD hS hl)
theorem y_objInit (C : Cx G E cc nL own rt fr lo) {a index : Nat} (d : decode cc pc = .ok (.invokespecial index, 3)) (w1 : Cond.methodLink own index Lib.objectInit ∈ gw) (w2 : Cond.instanceMethod Lib.objectInit ∈ gw) (w3 : Cond.code Lib.objectInit ⟨#[0xb1]⟩ 1 none ∈ gw) (h1 : 1 ≤ fr) (h2 : (st.map fun v => v.category).sum + 12 ≤ lo) (k : WG G l E cs w (pc + 3) lv st) : WG G l E cs w pc lv (.ref a :: st) := by
  obtain ⟨p, e, R, s, m, args, below, meth, c, cs0, A, Q⟩ := G
  obtain ⟨hx, hb, hml, hown, hts, hK, hN, hlk, hr, hfr, hlo, hc1, hc2, hA, hSt⟩ := C
  intro H locs ls hP hD hS hl
  exact W.objInit hx hb hown (hts _ w1) (hts _ w2) (hts _ w3) rfl hl.1 rfl d (Nat.le_trans h1 hfr) (by show 2 * 0 + _ + 12 ≤ _; omega) (k H locs ls hP hD hS hl)
theorem y_newa0 (C : Cx G E cc nL own rt fr lo) {n : Int32} {N : Nat} (d : decode cc pc = .ok (.newarray .int, 2)) (w1 : Cond.arrayClass .int ∈ gw) (hn : ¬ n < 0) (hNn : n.toNatClampNeg = N) (hby : N * componentBytes .int ≤ 536870912) (hrm : Rm G (cs.1 + 1) (cs.2 + N)) (k : ∀ q : Nat, WG G l E (cs.1 + 1, cs.2 + N) (w ++ [(q, .inl (E.2.1 0, N, .inl (fun _ => 0)))]) (pc + 2) lv (.ref q :: st)) : WG G l E cs w pc lv (.int n :: st) := by
  obtain ⟨p, e, R, s, m, args, below, meth, c, cs0, A, Q⟩ := G
  obtain ⟨hx, hb, hml, hown, hts, hK, hN, hlk, hr, hfr, hlo, hc1, hc2, hA, hSt⟩ := C
  intro H locs ls hP hD hS hl
  refine va_newa (atype := .int) hx hb (hts _ w1) (ty := .int) rfl hK hP hD hS hA (N' := N) (a0 := (N, .inl (fun _ => 0))) (fun cA => rfl) hn hNn hby hrm.1 hrm.2 d (fun q cA H1 hK1 hP1 hD1 hS1 => ?_)
  have e1 : s.vm.findClass ("[" ++ (.int : FieldType).toString) = some cA := (hK1.2 4 (cA, .int) rfl).2
  have e2 : s.vm.findClass ("[" ++ (.int : FieldType).toString) = some (E.2.1 0) := (hK.2 0 (E.2.1 0, .int) rfl).2
  have e3 : cA = E.2.1 0 := Option.some.inj (e1.symm.trans e2)
  subst e3
  exact k q H1 locs ls hP1 hD1 hS1 hl
theorem y_newa1 (C : Cx G E cc nL own rt fr lo) {n : Int32} {N : Nat} (d : decode cc pc = .ok (.newarray .byte, 2)) (w1 : Cond.arrayClass .byte ∈ gw) (hn : ¬ n < 0) (hNn : n.toNatClampNeg = N) (hby : N * componentBytes .byte ≤ 536870912) (hrm : Rm G (cs.1 + 1) (cs.2 + N)) (k : ∀ q : Nat, WG G l E (cs.1 + 1, cs.2 + N) (w ++ [(q, .inl (E.2.1 1, N, .inl (fun _ => 0)))]) (pc + 2) lv (.ref q :: st)) : WG G l E cs w pc lv (.int n :: st) := by
  obtain ⟨p, e, R, s, m, args, below, meth, c, cs0, A, Q⟩ := G
  obtain ⟨hx, hb, hml, hown, hts, hK, hN, hlk, hr, hfr, hlo, hc1, hc2, hA, hSt⟩ := C
  intro H locs ls hP hD hS hl
  refine va_newa (atype := .byte) hx hb (hts _ w1) (ty := .byte) rfl hK hP hD hS hA (N' := N) (a0 := (N, .inl (fun _ => 0))) (fun cA => rfl) hn hNn hby hrm.1 hrm.2 d (fun q cA H1 hK1 hP1 hD1 hS1 => ?_)
  have e1 : s.vm.findClass ("[" ++ (.byte : FieldType).toString) = some cA := (hK1.2 4 (cA, .byte) rfl).2
  have e2 : s.vm.findClass ("[" ++ (.byte : FieldType).toString) = some (E.2.1 1) := (hK.2 1 (E.2.1 1, .byte) rfl).2
  have e3 : cA = E.2.1 1 := Option.some.inj (e1.symm.trans e2)
  subst e3
  exact k q H1 locs ls hP1 hD1 hS1 hl
theorem y_newa2 (C : Cx G E cc nL own rt fr lo) {n : Int32} {N : Nat} (d : decode cc pc = .ok (.newarray .boolean, 2)) (w1 : Cond.arrayClass .boolean ∈ gw) (hn : ¬ n < 0) (hNn : n.toNatClampNeg = N) (hby : N * componentBytes .boolean ≤ 536870912) (hrm : Rm G (cs.1 + 1) (cs.2 + N)) (k : ∀ q : Nat, WG G l E (cs.1 + 1, cs.2 + N) (w ++ [(q, .inl (E.2.1 2, N, .inl (fun _ => 0)))]) (pc + 2) lv (.ref q :: st)) : WG G l E cs w pc lv (.int n :: st) := by
  obtain ⟨p, e, R, s, m, args, below, meth, c, cs0, A, Q⟩ := G
  obtain ⟨hx, hb, hml, hown, hts, hK, hN, hlk, hr, hfr, hlo, hc1, hc2, hA, hSt⟩ := C
  intro H locs ls hP hD hS hl
  refine va_newa (atype := .boolean) hx hb (hts _ w1) (ty := .boolean) rfl hK hP hD hS hA (N' := N) (a0 := (N, .inl (fun _ => 0))) (fun cA => rfl) hn hNn hby hrm.1 hrm.2 d (fun q cA H1 hK1 hP1 hD1 hS1 => ?_)
  have e1 : s.vm.findClass ("[" ++ (.boolean : FieldType).toString) = some cA := (hK1.2 4 (cA, .boolean) rfl).2
  have e2 : s.vm.findClass ("[" ++ (.boolean : FieldType).toString) = some (E.2.1 2) := (hK.2 2 (E.2.1 2, .boolean) rfl).2
  have e3 : cA = E.2.1 2 := Option.some.inj (e1.symm.trans e2)
  subst e3
  exact k q H1 locs ls hP1 hD1 hS1 hl
theorem y_newa3 (C : Cx G E cc nL own rt fr lo) {n : Int32} {N : Nat} (d : decode cc pc = .ok (.newarray .long, 2)) (w1 : Cond.arrayClass .long ∈ gw) (hn : ¬ n < 0) (hNn : n.toNatClampNeg = N) (hby : N * componentBytes .long ≤ 536870912) (hrm : Rm G (cs.1 + 1) (cs.2 + N)) (k : ∀ q : Nat, WG G l E (cs.1 + 1, cs.2 + N) (w ++ [(q, .inl (E.2.1 3, N, .inr (.inl (fun _ => 0))))]) (pc + 2) lv (.ref q :: st)) : WG G l E cs w pc lv (.int n :: st) := by
  obtain ⟨p, e, R, s, m, args, below, meth, c, cs0, A, Q⟩ := G
  obtain ⟨hx, hb, hml, hown, hts, hK, hN, hlk, hr, hfr, hlo, hc1, hc2, hA, hSt⟩ := C
  intro H locs ls hP hD hS hl
  refine va_newa (atype := .long) hx hb (hts _ w1) (ty := .long) rfl hK hP hD hS hA (N' := N) (a0 := (N, .inr (.inl (fun _ => 0)))) (fun cA => rfl) hn hNn hby hrm.1 hrm.2 d (fun q cA H1 hK1 hP1 hD1 hS1 => ?_)
  have e1 : s.vm.findClass ("[" ++ (.long : FieldType).toString) = some cA := (hK1.2 4 (cA, .long) rfl).2
  have e2 : s.vm.findClass ("[" ++ (.long : FieldType).toString) = some (E.2.1 3) := (hK.2 3 (E.2.1 3, .long) rfl).2
  have e3 : cA = E.2.1 3 := Option.some.inj (e1.symm.trans e2)
  subst e3
  exact k q H1 locs ls hP1 hD1 hS1 hl
theorem y_new (C : Cx G E cc nL own rt fr lo) {ci index N : Nat} {Cn : String} {T : u_T} {fs : List Value} (d : decode cc pc = .ok (.new index, 3)) (hc : gc[ci]? = some (Cn, T, N)) (hin : ∀ w ∈ u_ws Cn T N, w ∈ gw) (ty : Nat → FieldType) (hty : ∀ k, k < N → parseFieldDescriptor (T k).2.2.1 = some (ty k)) (w1 : Cond.classLink own index Cn ∈ gw) (w2 : Cond.instantiable Cn N ∈ gw) (w3 : Cond.initialized Cn ∈ gw) (hfs : ∀ j, j < N → defaultValue (ty j) = vp_V fs j) (hrm : Rm G (cs.1 + 1) (cs.2 + N)) (k : ∀ q : Nat, WG G l E (cs.1 + 1, cs.2 + N) (w ++ [(q, .inr (ci, fs))]) (pc + 3) lv (.ref q :: st)) : WG G l E cs w pc lv st := by
  obtain ⟨p, e, R, s, m, args, below, meth, c, cs0, A, Q⟩ := G
  obtain ⟨hx, hb, hml, hown, hts, hK, hN, hlk, hr, hfr, hlo, hc1, hc2, hA, hSt⟩ := C
  intro H locs ls hP hD hS hl
  exact va_new hx hb hts hin ty hty hown (hts _ w1) (hts _ w2) (hts _ w3) hK hP hD hS hA hc hfs hrm.1 hrm.2 d (fun q H1 hP1 hD1 hS1 => k q H1 locs ls hP1 hD1 hS1 hl)
theorem y_put (C : Cx G E cc nL own rt fr lo) {a ci i index q0 N : Nat} {Cn ref : String} {T : u_T} {fs : List Value} {v : Value} {ty : FieldType} (d : decode cc pc = .ok (.putfield index, 3)) (he : w[q0]? = some (a, .inr (ci, fs))) (hc : gc[ci]? = some (Cn, T, N)) (hin : ∀ w ∈ u_ws Cn T N, w ∈ gw) (ty0 : Nat → FieldType) (hty : ∀ k, k < N → parseFieldDescriptor (T k).2.2.1 = some (ty0 k)) (hnm : ∀ a, a < N → ∀ b, b < N → a ≠ b → (T a).2.1 ≠ (T b).2.1) (hk : i < N) (hw : Cond.fieldLink own index ref (T i).2.1 (T i).2.2.1 ∈ gw) (hsm : (T i).1 = ref) (hd9 : parseFieldDescriptor (T i).2.2.1 = some ty) (hn : narrow ty v = v) (hfit : fits ty v = true) (hl9 : i < fs.length) (hfin : (T i).2.2.2 = false) (k : WG G l E cs (w.set q0 (a, .inr (ci, fs.set i v))) (pc + 3) lv st) : WG G l E cs w pc lv (v :: .ref a :: st) := by
  obtain ⟨p, e, R, s, m, args, below, meth, c, cs0, A, Q⟩ := G
  obtain ⟨hx, hb, hml, hown, hts, hK, hN, hlk, hr, hfr, hlo, hc1, hc2, hA, hSt⟩ := C
  intro H locs ls hP hD hS hl
  exact va_put hx hb hts hin ty0 hty hnm hown hK hP hD hS q0 he hc i hk (hts _ hw) (fun x hx9 => by rw [← hsm]; exact hx9) hfin hd9 hn hfit hl9 d (fun H1 locs1 hP1 hD1 hS1 => k H1 locs1 ls hP1 hD1 hS1 hl)
theorem y_putF (C : Cx G E cc nL own rt fr lo) {a ci i index q0 N : Nat} {Cn ref : String} {T : u_T} {fs : List Value} {v : Value} {ty : FieldType} (d : decode cc pc = .ok (.putfield index, 3)) (he : w[q0]? = some (a, .inr (ci, fs))) (hc : gc[ci]? = some (Cn, T, N)) (hin : ∀ w ∈ u_ws Cn T N, w ∈ gw) (ty0 : Nat → FieldType) (hty : ∀ k, k < N → parseFieldDescriptor (T k).2.2.1 = some (ty0 k)) (hnm : ∀ a, a < N → ∀ b, b < N → a ≠ b → (T a).2.1 ≠ (T b).2.1) (hk : i < N) (hw : Cond.fieldLink own index ref (T i).2.1 (T i).2.2.1 ∈ gw) (hsm : (T i).1 = ref) (hd9 : parseFieldDescriptor (T i).2.2.1 = some ty) (hn : narrow ty v = v) (hfit : fits ty v = true) (hl9 : i < fs.length) (hfin : (T i).2.2.2 = true) (hnmI : Nmi G) (hdc : (T i).1 = own) (k : WG G l E cs (w.set q0 (a, .inr (ci, fs.set i v))) (pc + 3) lv st) : WG G l E cs w pc lv (v :: .ref a :: st) := by
  obtain ⟨p, e, R, s, m, args, below, meth, c, cs0, A, Q⟩ := G
  obtain ⟨hx, hb, hml, hown, hts, hK, hN, hlk, hr, hfr, hlo, hc1, hc2, hA, hSt⟩ := C
  intro H locs ls hP hD hS hl
  exact va_putF hx hb hts hin ty0 hty hnm hown hK hP hD hS q0 he hc i hk (hts _ hw) (fun x hx9 => by rw [← hsm]; exact hx9) hfin hnmI hdc hd9 hn hfit hl9 d (fun H1 locs1 hP1 hD1 hS1 => k H1 locs1 ls hP1 hD1 hS1 hl)
variable {b L : Nat} {xs : Nat → Int32}
def Sx (G : Gt) (b L : Nat) (xs : Nat → Int32) : Prop := match G with
  | (_, _, _, s, _, _, _, _, _, _, A, _) => va_X b L xs s s.heap ∧ b < s.heap.size ∧ ¬ A b
theorem y_sld (C : Cx G E cc nL own rt fr lo) {i : Int32} (d : decode cc pc = .ok (.iaload, 1)) (hX : Sx G b L xs) (hin : vp_in i L) (k : WG G l E cs w (pc + 1) lv (.int (xs i.toNatClampNeg) :: st)) : WG G l E cs w pc lv (.int i :: .ref b :: st) := by
  obtain ⟨p, e, R, s, m, args, below, meth, c, cs0, A, Q⟩ := G
  obtain ⟨hx, hb, hml, hown, hts, hK, hN, hlk, hr, hfr, hlo, hc1, hc2, hA, hSt⟩ := C
  intro H locs ls hP hD hS hl
  exact va_sld hx hb hX.1 hX.2.1 hX.2.2 hS hin d (k H locs ls hP hD hS hl)
theorem y_slen (C : Cx G E cc nL own rt fr lo) (d : decode cc pc = .ok (.arraylength, 1)) (hX : Sx G b L xs) (k : WG G l E cs w (pc + 1) lv (.int (Int32.ofNat L) :: st)) : WG G l E cs w pc lv (.ref b :: st) := by
  obtain ⟨p, e, R, s, m, args, below, meth, c, cs0, A, Q⟩ := G
  obtain ⟨hx, hb, hml, hown, hts, hK, hN, hlk, hr, hfr, hlo, hc1, hc2, hA, hSt⟩ := C
  intro H locs ls hP hD hS hl
  exact va_slen hx hb hX.1 hX.2.1 hX.2.2 hS d (k H locs ls hP hD hS hl)
end YR
theorem y_pc {G : Gt} {l : Launch} {E : Ev} {cs : Nat × Nat} {w : va_W} {pc : Nat} (pc2 : Nat) {lv : List (Nat × Value)} {st : List Value} (h : pc = pc2) (k : WG G l E cs w pc2 lv st) : WG G l E cs w pc lv st := by
  subst h
  exact k
theorem y_w {G : Gt} {l : Launch} {E : Ev} {cs : Nat × Nat} {w : va_W} {pc : Nat} (w2 : va_W) {lv : List (Nat × Value)} {st : List Value} (h : w = w2) (k : WG G l E cs w2 pc lv st) : WG G l E cs w pc lv st := by
  subst h
  exact k
theorem y_cs {G : Gt} {l : Launch} {E : Ev} {cs : Nat × Nat} {w : va_W} {pc : Nat} (cs2 : Nat × Nat) {lv : List (Nat × Value)} {st : List Value} (h : cs = cs2) (k : WG G l E cs2 w pc lv st) : WG G l E cs w pc lv st := by
  subst h
  exact k
theorem y_lv {G : Gt} {l : Launch} {E : Ev} {cs : Nat × Nat} {w : va_W} {pc : Nat} {lv lv2 : List (Nat × Value)} {st : List Value} (ks : List Nat) (he : lv_pick lv ks = lv2) (k : WG G l E cs w pc lv2 st) : WG G l E cs w pc lv st := by
  obtain ⟨p, e, R, s, m, args, below, meth, c, cs0, A, Q⟩ := G
  intro H locs ls hP hD hS hl
  exact k H locs ls hP hD hS (lv_sub hl ks he)
/-- a world's two parts: one is a callee's, and comes back as another; the rest stands -/
theorem w_split {A : Nat → Prop} {D : va_G} {cl : List vw_C} {wr wc : va_W} {H : Heap} (hP : va_P D cl (wr ++ wc) H) (hD : va_D A (wr ++ wc)) : va_P D cl wr H ∧ va_P D cl wc H ∧ va_D A wr ∧ va_D A wc := by
  have L : ∀ (k : Nat) (q : Nat × va_E), wr[k]? = some q → (wr ++ wc)[k]? = some q := fun k q h => by rw [List.getElem?_append_left (List.getElem?_eq_some_iff.mp h).1]; exact h
  have Rr : ∀ (k : Nat) (q : Nat × va_E), wc[k]? = some q → (wr ++ wc)[wr.length + k]? = some q := fun k q h => by rw [List.getElem?_append_right (by omega)]; simpa using h
  exact ⟨fun k q h => hP k q (L k q h), fun k q h => hP _ q (Rr k q h), ⟨fun i j p q hi hj e => hD.1 i j p q (L i p hi) (L j q hj) e, fun k q h => hD.2 k q (L k q h)⟩, ⟨fun i j p q hi hj e => by have := hD.1 _ _ p q (Rr i p hi) (Rr j q hj) e; omega, fun k q h => hD.2 _ q (Rr k q h)⟩⟩
theorem w_join {A : Nat → Prop} {D : va_G} {cl : List vw_C} {wr wc w1 : va_W} {H H1 : Heap} (hP : va_P D cl (wr ++ wc) H) (hD : va_D A (wr ++ wc)) (hk : ∀ q : Nat, q < H.size → ¬ va_A wc H.size q → H1[q]? = H[q]?) (hF : ∀ q, va_A wc H.size q → A q) (hP1 : va_P D cl w1 H1) (hD1 : va_D (va_A wc H.size) w1) : va_P D cl (wr ++ w1) H1 ∧ va_D A (wr ++ w1) := by
  obtain ⟨hPr, hPc, hDr, hDc⟩ := w_split hP hD
  have ap : ∀ (k : Nat) (q : Nat × va_E), wr[k]? = some q → q.1 < H.size ∧ ¬ va_A wc H.size q.1 := by
    intro k q hq
    refine ⟨(hPr k q hq).lt, fun h => ?_⟩
    rcases h with ⟨k2, e, h⟩ | h
    · have h1 : (wr ++ wc)[k]? = some q := by rw [List.getElem?_append_left (List.getElem?_eq_some_iff.mp hq).1]; exact hq
      have h2 : (wr ++ wc)[wr.length + k2]? = some (q.1, e) := by rw [List.getElem?_append_right (by omega)]; simpa using h
      have := hD.1 _ _ _ _ h1 h2 rfl
      have := (List.getElem?_eq_some_iff.mp hq).1
      omega
    · exact absurd (hPr k q hq).lt (by omega)
  refine ⟨va_P.app (fun k q hq => (hPr k q hq).kept (hk q.1 (ap k q hq).1 (ap k q hq).2)) hP1, va_D.app hDr (hD1.weaken (fun k q _ h => hF q.1 h)) (fun i j x y hx hy e => ?_)⟩
  exact (ap i x hx).2 (by rw [e]; exact hD1.2 j y hy)
theorem w_comm {A : Nat → Prop} {D : va_G} {cl : List vw_C} {wr wc : va_W} {H : Heap} (hP : va_P D cl (wr ++ wc) H) (hD : va_D A (wr ++ wc)) : va_P D cl (wc ++ wr) H ∧ va_D A (wc ++ wr) := by
  obtain ⟨hPr, hPc, hDr, hDc⟩ := w_split hP hD
  refine ⟨va_P.app hPc hPr, va_D.app hDc hDr (fun i j x y hx hy e => ?_)⟩
  have h1 : (wr ++ wc)[j]? = some y := by rw [List.getElem?_append_left (List.getElem?_eq_some_iff.mp hy).1]; exact hy
  have h2 : (wr ++ wc)[wr.length + i]? = some x := by rw [List.getElem?_append_right (by omega)]; simpa using hx
  have := hD.1 _ _ _ _ h1 h2 e.symm
  have := (List.getElem?_eq_some_iff.mp hy).1
  omega
