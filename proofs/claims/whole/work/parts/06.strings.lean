def yJpci : MethodName := ⟨"jdk/internal/util/Preconditions", "checkIndex", "(IILjava/util/function/BiFunction;)I"⟩
def yJsci : MethodName := ⟨"java/lang/String", "checkIndex", "(II)V"⟩
def yJlca : MethodName := ⟨"java/lang/StringLatin1", "charAt", "([BI)C"⟩
def yJisl : MethodName := ⟨"java/lang/String", "isLatin1", "()Z"⟩
def yJcod : MethodName := ⟨"java/lang/String", "coder", "()B"⟩
def yJlen : MethodName := ⟨"java/lang/String", "length", "()I"⟩
def yJcha : MethodName := ⟨"java/lang/String", "charAt", "(I)C"⟩
abbrev cJpci : ByteArray := prog_26_method_11_code
abbrev eJpci : List (Nat × Instr × Nat) := [(0, .iload_n 0, 1), (1, .ifCond .lt 8, 3), (4, .iload_n 0, 1), (5, .iload_n 1, 1), (6, .if_icmp .lt 10, 3), (9, .aload_n 2, 1), (10, .iload_n 0, 1), (11, .iload_n 1, 1), (12, .invokestatic 95, 3), (15, .athrow, 1), (16, .iload_n 0, 1), (17, .ireturn, 1)]
theorem DJpci : (eJpci.all fun q => decide (decode cJpci q.1 = .ok q.2)) = true := by decide +kernel
abbrev cJsci : ByteArray := prog_18_method_155_code
abbrev eJsci : List (Nat × Instr × Nat) := [(0, .iload_n 0, 1), (1, .iload_n 1, 1), (2, .getstatic 1053, 3), (5, .invokestatic 1059, 3), (8, .pop, 1), (9, .return_, 1)]
theorem DJsci : (eJsci.all fun q => decide (decode cJsci q.1 = .ok q.2)) = true := by decide +kernel
abbrev cJlca : ByteArray := prog_19_method_2_code
abbrev eJlca : List (Nat × Instr × Nat) := [(0, .iload_n 1, 1), (1, .aload_n 0, 1), (2, .arraylength, 1), (3, .invokestatic 9, 3), (6, .aload_n 0, 1), (7, .iload_n 1, 1), (8, .baload, 1), (9, .sipush 255, 3), (12, .iand, 1), (13, .i2c, 1), (14, .ireturn, 1)]
theorem DJlca : (eJlca.all fun q => decide (decode cJlca q.1 = .ok q.2)) = true := by decide +kernel
abbrev cJisl : ByteArray := prog_18_method_154_code
abbrev eJisl : List (Nat × Instr × Nat) := [(0, .getstatic 38, 3), (3, .ifCond .eq 14, 3), (6, .aload_n 0, 1), (7, .getfield 15, 3), (10, .ifCond .ne 7, 3), (13, .iconst 1, 1), (14, .goto 4, 3), (17, .iconst 0, 1), (18, .ireturn, 1)]
theorem DJisl : (eJisl.all fun q => decide (decode cJisl q.1 = .ok q.2)) = true := by decide +kernel
abbrev cJcod : ByteArray := prog_18_method_152_code
abbrev eJcod : List (Nat × Instr × Nat) := [(0, .getstatic 38, 3), (3, .ifCond .eq 10, 3), (6, .aload_n 0, 1), (7, .getfield 15, 3), (10, .goto 4, 3), (13, .iconst 1, 1), (14, .ireturn, 1)]
theorem DJcod : (eJcod.all fun q => decide (decode cJcod q.1 = .ok q.2)) = true := by decide +kernel
abbrev cJlen : ByteArray := prog_18_method_54_code
abbrev eJlen : List (Nat × Instr × Nat) := [(0, .aload_n 0, 1), (1, .getfield 9, 3), (4, .arraylength, 1), (5, .aload_n 0, 1), (6, .invokevirtual 335, 3), (9, .ishr, 1), (10, .ireturn, 1)]
theorem DJlen : (eJlen.all fun q => decide (decode cJlen q.1 = .ok q.2)) = true := by decide +kernel
abbrev cJcha : ByteArray := prog_18_method_56_code
abbrev eJcha : List (Nat × Instr × Nat) := [(0, .aload_n 0, 1), (1, .invokevirtual 492, 3), (4, .ifCond .eq 12, 3), (7, .aload_n 0, 1), (8, .getfield 9, 3), (11, .iload_n 1, 1), (12, .invokestatic 495, 3), (15, .ireturn, 1), (16, .aload_n 0, 1), (17, .getfield 9, 3), (20, .iload_n 1, 1), (21, .invokestatic 498, 3), (24, .ireturn, 1)]
theorem DJcha : (eJcha.all fun q => decide (decode cJcha q.1 = .ok q.2)) = true := by decide +kernel
def wI (E : Ev) : Nat := E.2.1 4
def wV (E : Ev) : Nat := E.2.1 5
section XS
variable {G : Gt} {l : Launch} {E : Ev} {S : List Sh} {cc : ByteArray} {nL : Nat} {own : String} {rt : Option FieldType} {fr lo : Nat} {pc : Nat} {lv : List (Nat × Value)} {st st2 : List Value} {mm : Mm}
variable {y : MethodName} {cy : ByteArray} {ny n index : Nat} {ry : Option FieldType} {fr2 lo2 : Nat} {v : Option Value} {m1 : Mm} {As rest : List Value}
theorem x_i2c (C : Cx G E cc nL own rt fr lo) {x : Int32} (d : decode cc pc = .ok (.i2c, 1)) (k : WM G l E S (pc + 1) lv (.int (x.toUInt32 % 65536).toInt32 :: st) mm) : WM G l E S pc lv (.int x :: st) mm := by
  obtain ⟨p, e, R, s, m, args, below, meth, c, cs, A, Q⟩ := G
  obtain ⟨hx, hb, hml, hown, hts, hK, hN, hlk, hr, hfr, hlo, hc1, hc2, hA, hSt⟩ := C
  intro H locs ls hP hD hS hl
  exact lv_i2c hx hb d rfl (k H locs ls hP hD hS hl)
theorem x_ldcW (C : Cx G E cc nL own rt fr lo) (ho : own = "LosslessFabricModel") (d : decode cc pc = .ok (.ldc 154, 2)) (k : WM G l E S (pc + 2) lv (.ref (wI E) :: st) mm) : WM G l E S pc lv st mm := by
  obtain ⟨p, e, R, s, m, args, below, meth, c, cs, A, Q⟩ := G
  obtain ⟨hx, hb, hml, hown, hts, hK, hN, hlk, hr, hfr, hlo, hc1, hc2, hA, hSt⟩ := C
  intro H locs ls hP hD hS hl
  subst ho
  exact va_ldcS hx hb hown hSt.1.1 d (k H locs ls hP hD hS hl)
theorem x_gval (C : Cx G E cc nL own rt fr lo) (ho : own = "java/lang/String") (d : decode cc pc = .ok (.getfield 9, 3)) (k : WM G l E S (pc + 3) lv (.ref (wV E) :: st) mm) : WM G l E S pc lv (.ref (wI E) :: st) mm := by
  obtain ⟨p, e, R, s, m, args, below, meth, c, cs, A, Q⟩ := G
  obtain ⟨hx, hb, hml, hown, hts, hK, hN, hlk, hr, hfr, hlo, hc1, hc2, hA, hSt⟩ := C
  intro H locs ls hP hD hS hl
  subst ho
  exact vk_getf hx hb hSt.1.2.2.2.1 hS hown (hts _ (gmem 1470 (by decide +kernel) rfl)) (fun x h => h) d (k H locs ls hP hD hS hl)
theorem x_gcod (C : Cx G E cc nL own rt fr lo) (ho : own = "java/lang/String") (d : decode cc pc = .ok (.getfield 15, 3)) (k : WM G l E S (pc + 3) lv (.int 0 :: st) mm) : WM G l E S pc lv (.ref (wI E) :: st) mm := by
  obtain ⟨p, e, R, s, m, args, below, meth, c, cs, A, Q⟩ := G
  obtain ⟨hx, hb, hml, hown, hts, hK, hN, hlk, hr, hfr, hlo, hc1, hc2, hA, hSt⟩ := C
  intro H locs ls hP hD hS hl
  subst ho
  exact vk_getf hx hb hSt.1.2.2.1 hS hown (hts _ (gmem 1471 (by decide +kernel) rfl)) (fun x h => h) d (k H locs ls hP hD hS hl)
theorem x_gcmp (C : Cx G E cc nL own rt fr lo) (ho : own = "java/lang/String") (d : decode cc pc = .ok (.getstatic 38, 3)) (k : WM G l E S (pc + 3) lv (.int 1 :: st) mm) : WM G l E S pc lv st mm := by
  obtain ⟨p, e, R, s, m, args, below, meth, c, cs, A, Q⟩ := G
  obtain ⟨hx, hb, hml, hown, hts, hK, hN, hlk, hr, hfr, hlo, hc1, hc2, hA, hSt⟩ := C
  intro H locs ls hP hD hS hl
  subst ho
  exact va_gets hx hb hSt.2.1 hS hown (hts _ (gmem 1054 (by decide +kernel) rfl)) (fun x h => h) d (k H locs ls hP hD hS hl)
theorem x_gsio (C : Cx G E cc nL own rt fr lo) (ho : own = "java/lang/String") (d : decode cc pc = .ok (.getstatic 1053, 3)) (k : ∀ v : Value, (v = .null ∨ ∃ t, v = .ref t) → WM G l E S (pc + 3) lv (v :: st) mm) : WM G l E S pc lv st mm := by
  obtain ⟨p, e, R, s, m, args, below, meth, c, cs, A, Q⟩ := G
  obtain ⟨hx, hb, hml, hown, hts, hK, hN, hlk, hr, hfr, hlo, hc1, hc2, hA, hSt⟩ := C
  intro H locs ls hP hD hS hl
  subst ho
  rcases hSt.2.2.1 with h | ⟨t, h⟩
  · exact va_gets hx hb h hS hown (hts _ (gmem 1070 (by decide +kernel) rfl)) (fun x h => h) d (k _ (Or.inl rfl) H locs ls hP hD hS hl)
  · exact va_gets hx hb h hS hown (hts _ (gmem 1070 (by decide +kernel) rfl)) (fun x h => h) d (k _ (Or.inr ⟨t, rfl⟩) H locs ls hP hD hS hl)
theorem x_wlen (C : Cx G E cc nL own rt fr lo) (d : decode cc pc = .ok (.arraylength, 1)) (k : WM G l E S (pc + 1) lv (.int 32 :: st) mm) : WM G l E S pc lv (.ref (wV E) :: st) mm := by
  obtain ⟨p, e, R, s, m, args, below, meth, c, cs, A, Q⟩ := G
  obtain ⟨hx, hb, hml, hown, hts, hK, hN, hlk, hr, hfr, hlo, hc1, hc2, hA, hSt⟩ := C
  intro H locs ls hP hD hS hl
  obtain ⟨cell, h1, h2, h3, h4, h5, h6, h7⟩ := (hSt.1.2.2.2.2).kept hS.2.1
  exact W.alen (n := 32) hx hb h1 h2 (by rw [h5]; rfl) rfl rfl d (k H locs ls hP hD hS hl)
theorem x_wbald (C : Cx G E cc nL own rt fr lo) {i : Int32} (d : decode cc pc = .ok (.baload, 1)) (hi : vp_in i 32) (k : WM G l E S (pc + 1) lv (.int (wBy.getD i.toNatClampNeg 0) :: st) mm) : WM G l E S pc lv (.int i :: .ref (wV E) :: st) mm := by
  obtain ⟨p, e, R, s, m, args, below, meth, c, cs, A, Q⟩ := G
  obtain ⟨hx, hb, hml, hown, hts, hK, hN, hlk, hr, hfr, hlo, hc1, hc2, hA, hSt⟩ := C
  intro H locs ls hP hD hS hl
  obtain ⟨cell, h1, h2, h3, h4, h5, h6, h7⟩ := (hSt.1.2.2.2.2).kept hS.2.1
  have hlt : i.toNatClampNeg < 32 := Nat.not_le.mp fun q => hi (Or.inr q)
  exact W.bald (v := .int (wBy.getD i.toNatClampNeg 0)) hx hb h1 h2 h3 (fun q => hi (q.elim Or.inl (fun q => Or.inr (Nat.le_trans h4 q)))) (h6 _ hlt) rfl rfl d (k H locs ls hP hD hS hl)
set_option maxHeartbeats 1000000 in
/-- a call of the text's own method -/
theorem x_callW (C : Cx G E cc nL own rt fr lo) (hy9 : y.cls = "java/lang/String") (hM : Ml l E S y cy ny ry fr2 lo2 (.ref (wI E) :: As) mm v m1) (w1 : Cond.methodLink own index y ∈ gw) (w2 : Cond.instanceMethod y ∈ gw) (w3 : Cond.selects y.cls y y ∈ gw) (w4 : Cond.initialized y.cls ∈ gw) (w5 : Cond.code y cy ny ry ∈ gw)
    (hd : y.cls ≠ "java/lang/invoke/MethodHandle" ∧ y.cls ≠ "java/lang/invoke/VarHandle" ∧ (parseMethodDescriptor y.desc).map (fun d => d.parameters.length) = some n) (hn : As.length = n) (hfr2 : fr2 + 1 ≤ fr) (hlo2 : 8 + (ny + 11) + lo2 ≤ lo) (hrs : (rest.map fun v => v.category).sum ≤ 8)
    (d : decode cc pc = .ok (.invokevirtual index, 3)) (hst : As.reverse ++ .ref (wI E) :: rest = st) (hst2 : v.toList ++ rest = st2) (k : WM G l E S (pc + 3) lv st2 m1) : WM G l E S pc lv st mm := by
  obtain ⟨p, e, R, s, m, args, below, meth, c, cs, A, Q⟩ := G
  obtain ⟨hx, hb, hml, hown, hts, hK, hN, hlk, hr, hfr, hlo, hc1, hc2, hA, hSt⟩ := C
  intro H locs ls hP hD hS hl
  subst hst
  obtain ⟨cell, h1, h2, h3, -⟩ := (hSt.1.2.1).kept hS.2.1
  refine x_after (a := (Value.ref (wI E) :: As).toArray) hP hD hS hA hl (va_runV (Ts := gw) (bytes := cy) (maxL := ny) (nL := nL) (n := n) (ret := ry) (C := y.cls) (As := As) (rest := rest) ⟨hx, hb, hml, hown, hts⟩ (hM H.size) ?_ ⟨Pm_blind, ⟨cell, h1, h2, by rw [hy9]; exact h3⟩, x_pre hP hD hK hN hSt hS hA⟩ rfl hn (hl.1.trans hml) rfl (lv_room hrs) d ⟨by omega, by omega⟩) hst2 k
  exact ⟨callB_of n hts (gIn (fun _ h => h) w5) rfl rfl rfl (hts _ w4) (hts _ w1) hd ⟨Nat.le_trans hfr2 hfr, Nat.le_trans hlo2 hlo⟩, hts _ w2, hts _ w3⟩
theorem x_tret {v : Int32} {ty : FieldType} (C : Cx G E cc nL own (some ty) fr lo) (hn : narrow ty (.int v) = .int v) (d : decode cc pc = .ok (.ireturn, 1)) (hQ : RQ G E S (some (.int v)) mm) : WM G l E S pc lv [.int v] mm := by
  obtain ⟨p, e, R, s, m, args, below, meth, c, cs, A, Q⟩ := G
  obtain ⟨hx, hb, hml, hown, hts, hK, hN, hlk, hr, hfr, hlo, hc1, hc2, hA, hSt⟩ := C
  intro H locs ls hP hD hS hl
  obtain ⟨Qc, free, rfl, hfree, hq⟩ := hQ
  exact W.zret hx hb hr hn (fun t ht hW => hq t (by rw [ht]; exact hP) hD (hS.F ht) hW) (fun q h => hfree _ (hS.2.2 q h)) d (hlocks := hlk)
end XS
set_option maxHeartbeats 1000000 in
theorem mJpci {l : Launch} {E : Ev} {S : List Sh} {mm : Mm} {i n : Int32} {v : Value} (hc : (lg_sl [.int i, .int n, v]).length ≤ 3 ∧ lv_args 0 [.int i, .int n, v] = [(0, .int i), (1, .int n), (2, v)]) (h0 : ¬ i < 0) (h1 : i < n) : Ml l E S yJpci cJpci 3 (some .int) 0 0 [.int i, .int n, v] mm (some (.int i)) mm := by
  refine Ml.of (by decide +kernel) hc.1 (fun G C hQ => ?_)
  have C : Cx G E cJpci 3 "jdk/internal/util/Preconditions" (some .int) 0 0 := C
  rw [hc.2]
  refine x_iload_n C (dq DJpci 0 rfl) rfl 0 rfl ?_
  refine x_if_lt (α := Unit) (A0 := none) (B0 := some ()) (r := ()) (tgt := 9) C (dq DJpci 1 rfl) (by decide) (if_neg h0) (fun h => by cases h) (fun _ => ?_)
  refine x_iload_n C (dq DJpci 2 rfl) rfl 0 rfl ?_
  refine x_iload_n C (dq DJpci 3 rfl) rfl 1 rfl ?_
  refine x_icmp_lt (α := Unit) (A0 := some ()) (B0 := none) (r := ()) (tgt := 16) C (dq DJpci 4 rfl) (by decide) (if_pos h1) (fun _ => ?_) (fun h => by cases h)
  refine x_iload_n C (dq DJpci 10 rfl) rfl 0 rfl ?_
  exact x_iret C (dq DJpci 11 rfl) hQ
set_option maxHeartbeats 1000000 in
theorem mJsci {l : Launch} {E : Ev} {S : List Sh} {mm : Mm} {i n : Int32} (h0 : ¬ i < 0) (h1 : i < n) : Ml l E S yJsci cJsci 2 none 1 22 [.int i, .int n] mm none mm := by
  refine Ml.of (by decide +kernel) (Nat.le_of_ble_eq_true rfl) (fun G C hQ => ?_)
  have C : Cx G E cJsci 2 "java/lang/String" none 1 22 := C
  show WM G l E S 0 [(0, .int i), (1, .int n)] [] mm
  refine x_iload_n C (dq DJsci 0 rfl) rfl 0 rfl ?_
  refine x_iload_n C (dq DJsci 1 rfl) rfl 1 rfl ?_
  refine x_gsio C rfl (dq DJsci 2 rfl) (fun v hv => ?_)
  refine x_callS (n := 3) (As := [.int i, .int n, v]) (rest := []) C (mJpci (by rcases hv with rfl | ⟨t, rfl⟩ <;> exact ⟨Nat.le_of_ble_eq_true rfl, rfl⟩) h0 h1) (gmem 1072 (by decide +kernel) rfl) (gmem 1073 (by decide +kernel) rfl) (gmem 14 (by decide +kernel) rfl) (gmem 1074 (by decide +kernel) rfl) (by decide +kernel) rfl (by decide) (by decide) (Nat.le_of_ble_eq_true rfl) (dq DJsci 3 rfl) rfl rfl ?_
  refine x_pop C (dq DJsci 4 rfl) rfl ?_
  exact x_vret C (dq DJsci 5 rfl) hQ
def chR (k : Int32) : Int32 := ((wBy.getD k.toNatClampNeg 0 &&& 255).toUInt32 % 65536).toInt32
set_option maxHeartbeats 1000000 in
theorem mJlca {l : Launch} {E : Ev} {S : List Sh} {mm : Mm} {i : Int32} (hi : vp_in i 32) : Ml l E S yJlca cJlca 2 (some .char) 2 43 [.ref (wV E), .int i] mm (some (.int (chR i))) mm := by
  refine Ml.of (by decide +kernel) (Nat.le_of_ble_eq_true rfl) (fun G C hQ => ?_)
  have C : Cx G E cJlca 2 "java/lang/StringLatin1" (some .char) 2 43 := C
  show WM G l E S 0 [(0, .ref (wV E)), (1, .int i)] [] mm
  have h0 : ¬ i < 0 := fun h => hi (Or.inl h)
  have h1 : i < 32 := by
    rw [Int32.lt_iff_toInt_lt]
    exact (vp_in_iff.mp hi).2
  refine x_iload_n C (dq DJlca 0 rfl) rfl 1 rfl ?_
  refine x_aload_n C (dq DJlca 1 rfl) rfl 0 rfl ?_
  refine x_wlen C (dq DJlca 2 rfl) ?_
  refine x_callS (n := 2) (As := [.int i, .int 32]) (rest := []) C (mJsci h0 h1) (gmem 1067 (by decide +kernel) rfl) (gmem 1068 (by decide +kernel) rfl) (gmem 12 (by decide +kernel) rfl) (gmem 1069 (by decide +kernel) rfl) (by decide +kernel) rfl (by decide) (by decide) (Nat.le_of_ble_eq_true rfl) (dq DJlca 3 rfl) rfl rfl ?_
  refine x_aload_n C (dq DJlca 4 rfl) rfl 0 rfl ?_
  refine x_iload_n C (dq DJlca 5 rfl) rfl 1 rfl ?_
  refine x_wbald C (dq DJlca 6 rfl) hi ?_
  refine x_sipush (v := 255) C (dq DJlca 7 rfl) (by decide) ?_
  refine x_iand C (dq DJlca 8 rfl) ?_
  refine x_i2c C (dq DJlca 9 rfl) ?_
  exact x_tret C (pk_nc _) (dq DJlca 10 rfl) hQ
set_option maxHeartbeats 1000000 in
theorem mJisl {l : Launch} {E : Ev} {S : List Sh} {mm : Mm}  : Ml l E S yJisl cJisl 1 (some .boolean) 0 0 [.ref (wI E)] mm (some (.int 1)) mm := by
  refine Ml.of (by decide +kernel) (Nat.le_of_ble_eq_true rfl) (fun G C hQ => ?_)
  have C : Cx G E cJisl 1 "java/lang/String" (some .boolean) 0 0 := C
  show WM G l E S 0 [(0, .ref (wI E))] [] mm
  refine x_gcmp C rfl (dq DJisl 0 rfl) ?_
  refine x_if_eq (α := Unit) (A0 := none) (B0 := some ()) (r := ()) (tgt := 17) C (dq DJisl 1 rfl) (by decide) (if_neg (by decide)) (fun h => by cases h) (fun _ => ?_)
  refine x_aload_n C (dq DJisl 2 rfl) rfl 0 rfl ?_
  refine x_gcod C rfl (dq DJisl 3 rfl) ?_
  refine x_if_ne (α := Unit) (A0 := none) (B0 := some ()) (r := ()) (tgt := 17) C (dq DJisl 4 rfl) (by decide) (if_neg (by decide)) (fun h => by cases h) (fun _ => ?_)
  refine x_iconst (v := 1) C (dq DJisl 5 rfl) (by decide) ?_
  refine x_goto (tgt := 18) C (dq DJisl 6 rfl) (by decide) ?_
  exact x_tret C rfl (dq DJisl 8 rfl) hQ
set_option maxHeartbeats 1000000 in
theorem mJcod {l : Launch} {E : Ev} {S : List Sh} {mm : Mm}  : Ml l E S yJcod cJcod 1 (some .byte) 0 0 [.ref (wI E)] mm (some (.int 0)) mm := by
  refine Ml.of (by decide +kernel) (Nat.le_of_ble_eq_true rfl) (fun G C hQ => ?_)
  have C : Cx G E cJcod 1 "java/lang/String" (some .byte) 0 0 := C
  show WM G l E S 0 [(0, .ref (wI E))] [] mm
  refine x_gcmp C rfl (dq DJcod 0 rfl) ?_
  refine x_if_eq (α := Unit) (A0 := none) (B0 := some ()) (r := ()) (tgt := 13) C (dq DJcod 1 rfl) (by decide) (if_neg (by decide)) (fun h => by cases h) (fun _ => ?_)
  refine x_aload_n C (dq DJcod 2 rfl) rfl 0 rfl ?_
  refine x_gcod C rfl (dq DJcod 3 rfl) ?_
  refine x_goto (tgt := 14) C (dq DJcod 4 rfl) (by decide) ?_
  exact x_tret C rfl (dq DJcod 6 rfl) hQ
set_option maxHeartbeats 1000000 in
theorem mJlen {l : Launch} {E : Ev} {S : List Sh} {mm : Mm}  : Ml l E S yJlen cJlen 1 (some .int) 1 20 [.ref (wI E)] mm (some (.int 32)) mm := by
  refine Ml.of (by decide +kernel) (Nat.le_of_ble_eq_true rfl) (fun G C hQ => ?_)
  have C : Cx G E cJlen 1 "java/lang/String" (some .int) 1 20 := C
  show WM G l E S 0 [(0, .ref (wI E))] [] mm
  refine x_aload_n C (dq DJlen 0 rfl) rfl 0 rfl ?_
  refine x_gval C rfl (dq DJlen 1 rfl) ?_
  refine x_wlen C (dq DJlen 2 rfl) ?_
  refine x_aload_n C (dq DJlen 3 rfl) rfl 0 rfl ?_
  refine x_callW (n := 0) (As := []) (rest := [.int 32]) C rfl mJcod (gmem 1050 (by decide +kernel) rfl) (gmem 1051 (by decide +kernel) rfl) (gmem 1052 (by decide +kernel) rfl) (gmem 12 (by decide +kernel) rfl) (gmem 1053 (by decide +kernel) rfl) (by decide +kernel) rfl (by decide) (by decide) (Nat.le_of_ble_eq_true rfl) (dq DJlen 4 rfl) rfl rfl ?_
  refine x_ishr C (dq DJlen 5 rfl) ?_
  have e : (32 : Int32) >>> ((0 : Int32) &&& 31) = 32 := by decide
  rw [e]
  exact x_iret C (dq DJlen 6 rfl) hQ
set_option maxHeartbeats 1000000 in
theorem mJcha {l : Launch} {E : Ev} {S : List Sh} {mm : Mm} {i : Int32} (hi : vp_in i 32) : Ml l E S yJcha cJcha 2 (some .char) 3 64 [.ref (wI E), .int i] mm (some (.int (chR i))) mm := by
  refine Ml.of (by decide +kernel) (Nat.le_of_ble_eq_true rfl) (fun G C hQ => ?_)
  have C : Cx G E cJcha 2 "java/lang/String" (some .char) 3 64 := C
  show WM G l E S 0 [(0, .ref (wI E)), (1, .int i)] [] mm
  refine x_aload_n C (dq DJcha 0 rfl) rfl 0 rfl ?_
  refine x_callW (n := 0) (As := []) (rest := []) C rfl mJisl (gmem 1060 (by decide +kernel) rfl) (gmem 1061 (by decide +kernel) rfl) (gmem 1062 (by decide +kernel) rfl) (gmem 12 (by decide +kernel) rfl) (gmem 1063 (by decide +kernel) rfl) (by decide +kernel) rfl (by decide) (by decide) (Nat.le_of_ble_eq_true rfl) (dq DJcha 1 rfl) rfl rfl ?_
  refine x_if_eq (α := Unit) (A0 := none) (B0 := some ()) (r := ()) (tgt := 16) C (dq DJcha 2 rfl) (by decide) (if_neg (by decide)) (fun h => by cases h) (fun _ => ?_)
  refine x_aload_n C (dq DJcha 3 rfl) rfl 0 rfl ?_
  refine x_gval C rfl (dq DJcha 4 rfl) ?_
  refine x_iload_n C (dq DJcha 5 rfl) rfl 1 rfl ?_
  refine x_callS (n := 2) (As := [.ref (wV E), .int i]) (rest := []) C (mJlca hi) (gmem 1064 (by decide +kernel) rfl) (gmem 1065 (by decide +kernel) rfl) (gmem 13 (by decide +kernel) rfl) (gmem 1066 (by decide +kernel) rfl) (by decide +kernel) rfl (by decide) (by decide) (Nat.le_of_ble_eq_true rfl) (dq DJcha 6 rfl) rfl rfl ?_
  exact x_tret C (pk_nc _) (dq DJcha 7 rfl) hQ
def chW (k : Int32) : Option Int32 := if 0 ≤ k.toInt ∧ k.toInt < 32 then some (chR k) else none
theorem callX8_156 {G : Gt} {l : Launch} {E : Ev} {S : List Sh} {cc : ByteArray} {nL : Nat} {rt : Option FieldType} {fr lo : Nat} {pc : Nat} {lv : List (Nat × Value)} {rest : List Value} {mm : Mm} (C : Cx G E cc nL RX8 rt fr lo) (d : decode cc pc = .ok (.invokevirtual 156, 3)) (hfr : 2 ≤ fr) (hlo : 40 ≤ lo) (hrs : (rest.map fun v => v.category).sum ≤ 8) (k : WM G l E S (pc + 3) lv (.int 32 :: rest) mm) : WM G l E S pc lv (.ref (wI E) :: rest) mm :=
  x_callW (n := 0) (As := []) (rest := rest) C rfl mJlen (gmem 1046 (by decide +kernel) rfl) (gmem 1047 (by decide +kernel) rfl) (gmem 1048 (by decide +kernel) rfl) (gmem 12 (by decide +kernel) rfl) (gmem 1049 (by decide +kernel) rfl) (by decide +kernel) rfl hfr hlo hrs d rfl rfl k
theorem callX8_161 {G : Gt} {l : Launch} {E : Ev} {S : List Sh} {cc : ByteArray} {nL : Nat} {rt : Option FieldType} {fr lo : Nat} {pc : Nat} {lv : List (Nat × Value)} {rest : List Value} {mm : Mm} {i : Int32} {α : Type} {f : Int32 → Option α} {r : α} (C : Cx G E cc nL RX8 rt fr lo) (d : decode cc pc = .ok (.invokevirtual 161, 3)) (h : bd1 (chW i) f = some r) (hfr : 4 ≤ fr) (hlo : 85 ≤ lo) (hrs : (rest.map fun v => v.category).sum ≤ 8) (k : ∀ v, f v = some r → WM G l E S (pc + 3) lv (.int v :: rest) mm) : WM G l E S pc lv (.int i :: .ref (wI E) :: rest) mm := by
  obtain ⟨v, hv, hf⟩ := bd1_some h
  unfold chW at hv
  split at hv
  · rename_i hi
    cases hv
    exact x_callW (n := 1) (As := [.int i]) (rest := rest) C rfl (mJcha (vp_in_iff.mpr hi)) (gmem 1056 (by decide +kernel) rfl) (gmem 1057 (by decide +kernel) rfl) (gmem 1058 (by decide +kernel) rfl) (gmem 12 (by decide +kernel) rfl) (gmem 1059 (by decide +kernel) rfl) (by decide +kernel) rfl hfr hlo hrs d rfl rfl (k _ hf)
  · cases hv
