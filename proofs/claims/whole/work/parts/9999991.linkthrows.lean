/-! LosslessFabric.link where it throws; the law's own link, which catches -/
def cIOB : String := "java/lang/IndexOutOfBoundsException"
def cNSE : String := "java/util/NoSuchElementException"
def XTc (E : Ev) (S : List Sh) (mm : Mm) (A : Nat → Prop) (cls : String) : String → State → State → Prop := fun Ec st t => Ec = cls ∧ va_P E.1 gc (wd E S mm) t.heap ∧ va_D A (wd E S mm) ∧ va_F A st t
def Mt (l : Launch) (E : Ev) (S : List Sh) (a b : Int32) (mm : Mm) (cls : String) : Prop :=
  ∀ sz : Nat, vx_Met l yX7_link (Cond.code yX7_link cX7_link 3 (some .int) :: gw) (rmc 6 82 1 6) (Pm E S mm [.ref (E.2.2 0), .int a, .int b] sz) (fun _ _ _ _ => False) (XTc E S mm (va_A (wd E S mm) sz) cls) 1 6 (va_A (wd E S mm) sz)
def TQ (G : Gt) (E : Ev) (S : List Sh) (mm : Mm) (cls : String) : Prop := match G with
  | (_, _, R, s, _, args, below, _, c, cs, A, Q) => Q = vx_MQ below (fun _ _ _ _ => False) (XTc E S mm A cls) args s 1 6 A ∧ (∀ x ∈ c.exceptionTable.toList, False) ∧ cs = (0, 0) ∧ 1 ≤ R.cells ∧ 6 ≤ R.slots
set_option maxHeartbeats 1000000 in
theorem Mt.of {l : Launch} {E : Ev} {S : List Sh} {a b : Int32} {mm : Mm} {cls : String}
    (hb : ∀ G : Gt, Cx G E cX7_link 3 RX7 (some .int) 6 82 → TQ G E S mm cls → WM G l E S 0 [(0, .ref (E.2.2 0)), (1, .int a), (2, .int b)] [] mm) : Mt l E S a b mm cls := by
  intro sz
  refine vx_ofW (cc := cX7_link) (maxL := 3) (ret := (some .int)) (by decide +kernel) rfl ?_
  intro p e s m args below meth c s₁ B hml hxt hv
  obtain ⟨rfl, hsz, hP, hK, hN, hD0, hSt⟩ := hv
  have hts := atoms_spec (ws := Cond.code yX7_link cX7_link 3 (some .int) :: gw) B.pre
  have hown : s.vm.findClass RX7 = some m.cls := findClass_of_methodNamed B.named
  subst hsz
  have hD := hD0.self (sz := s.heap.size)
  have h1 := hb (p, e, (headSpec (Cond.code yX7_link cX7_link 3 (some .int) :: gw) (rmc 6 82 1 6)).room, s, m, [Value.ref (E.2.2 0), .int a, .int b].toArray, below, meth, c, (0, 0), va_A (wd E S mm) s.heap.size, vx_MQ below (fun _ _ _ _ => False) (XTc E S mm (va_A (wd E S mm) s.heap.size) cls) [Value.ref (E.2.2 0), .int a, .int b].toArray s 1 6 (va_A (wd E S mm) s.heap.size))
    ⟨B.exec, B.bytes, hml, hown, fun w hw => hts w (List.mem_cons_of_mem _ hw), hK, hN, B.notSynchronized, B.returns, Nat.le_refl _, Nat.le_refl _, Nat.zero_le _, Nat.zero_le _, fun q h => Or.inr h, hSt⟩
    ⟨rfl, hxt, rfl, Nat.le_refl _, Nat.le_refl _⟩
  have hl := lv_entry [Value.ref (E.2.2 0), .int a, .int b] (n := 3) (Nat.le_of_ble_eq_true rfl)
  rw [lg_entry_eq]
  refine h1 s.heap [] _ hP hD va_S.rf ?_
  rw [hml]
  exact hl
theorem at1 : ∀ w ∈ vx_atS RX7 147 cIOB ["java/lang/RuntimeException", "java/lang/Exception"], w ∈ gw ∨ w ∈ gn := by decide +kernel
theorem at2 : ∀ w ∈ (vy_at RX7 154 cNSE 13 prog_25_method_4_code "java/lang/RuntimeException" ["java/lang/Exception"]).filter vx_no, w ∈ gw ∨ w ∈ gn := by decide +kernel
theorem hatx {ws : List Cond} (h : ∀ w ∈ ws, w ∈ gw ∨ w ∈ gn) {args : Array Value} {s : State} (hts : ∀ w ∈ gw, w.before args s = true) (hN : ∀ w ∈ gn, va_Nw w s) : ∀ w ∈ ws, w.before args s = true := by
  intro w hw
  rcases h w hw with q | q
  · exact hts w q
  · exact va_Nw.use (gn_on w q) (hN w q)
theorem xtc_of {E : Ev} {S : List Sh} {mm : Mm} {A : Nat → Prop} {cls : String} {s : State} {H : Heap} {locs : List Loc} (hP : va_P E.1 gc (wd E S mm) H) (hD : va_D A (wd E S mm)) (hS : va_S A s.heap H locs) : ∀ t : State, s.vm.Alike t.vm → H.size ≤ t.heap.size → (∀ q : Nat, q < H.size → t.heap[q]? = H[q]?) → XTc E S mm A cls cls s t := by
  intro t _ hz hq
  refine ⟨rfl, hP.kept (fun k q hk => hq q.1 ((hP k q hk).lt)), hD, Nat.le_trans hS.1 hz, fun q h1 h2 => ?_⟩
  rw [hq q (Nat.lt_of_lt_of_le h1 hS.1)]
  exact hS.2.1 q h1 h2
section TT
variable {G : Gt} {l : Launch} {E : Ev} {S : List Sh} {lv : List (Nat × Value)} {mm : Mm}
set_option maxHeartbeats 1000000 in
theorem x_throw1 (C : Cx G E cX7_link 3 RX7 (some .int) 6 82) (hl9 : l.stackTraces = false) (hQ : TQ G E S mm cIOB) : WM G l E S 8 lv [] mm := by
  obtain ⟨p, e, R, s, m, args, below, meth, c, cs, A, Q⟩ := G
  obtain ⟨hx, hb, hml, hown, hts, hK, hN, hlk, hr, hfr, hlo, hc1, hc2, hA, hSt⟩ := C
  obtain ⟨rfl, hxt, rfl, hr1, hr2⟩ := hQ
  intro H locs ls hP hD hS hl
  obtain ⟨sa, hsa⟩ := hSt.2.2.2.1
  exact vx_throwS (names := ["java/lang/RuntimeException", "java/lang/Exception"]) hx hb hl9 hown (by decide +kernel) (by decide +kernel) (hts _ (gmem 748 (by decide +kernel) rfl)) (hts _ (gmem 19 (by decide +kernel) rfl)) hsa (hatx at1 hts hN) (by decide +kernel) hSt.2.2.2.2.2.1 hSt.2.2.2.2.2.2.1 hS hl.1
    (dq DX7_link 4 rfl) (dq DX7_link 5 rfl) (dq DX7_link 6 rfl) (dq DX7_link 7 rfl) (dq DX7_link 8 rfl) (fun x hx9 => (hxt x hx9).elim) (by show 2 + 3 < _; omega) (by show 0 + (13 * (2 + 1) + 43) ≤ _; omega) (by show 0 + 1 ≤ _; omega) (by show 0 + 6 ≤ _; omega) hlk (xtc_of hP hD hS) (fun z hz => hS.2.2 z hz) (Nat.le_refl _) (Nat.le_refl _)
set_option maxHeartbeats 1000000 in
theorem x_throw2 (C : Cx G E cX7_link 3 RX7 (some .int) 6 82) (hl9 : l.stackTraces = false) (hQ : TQ G E S mm cNSE) : WM G l E S 28 lv [] mm := by
  obtain ⟨p, e, R, s, m, args, below, meth, c, cs, A, Q⟩ := G
  obtain ⟨hx, hb, hml, hown, hts, hK, hN, hlk, hr, hfr, hlo, hc1, hc2, hA, hSt⟩ := C
  obtain ⟨rfl, hxt, rfl, hr1, hr2⟩ := hQ
  intro H locs ls hP hD hS hl
  obtain ⟨sa, hsa⟩ := hSt.2.2.2.2.1
  exact vy_throw (names := ["java/lang/Exception"]) (Y0 := "java/lang/RuntimeException") (ix := 13) (rx := prog_25_method_4_code) hx hb hl9 hown (by decide +kernel) (by decide +kernel) (by decide +kernel) (by decide +kernel) (by decide +kernel) (by decide +kernel) (by decide +kernel) (hts _ (gmem 814 (by decide +kernel) rfl)) (hts _ (gmem 20 (by decide +kernel) rfl)) hsa (hatx at2 hts hN) (by decide +kernel) hSt.2.2.2.2.2.1 hSt.2.2.2.2.2.2.1 hS hl.1
    (dq DX7_link 14 rfl) (dq DX7_link 15 rfl) (dq DX7_link 16 rfl) (dq DX7_link 17 rfl) (dq DX7_link 18 rfl) (fun x hx9 => (hxt x hx9).elim) (by show 1 + 4 < _; omega) (by show 0 + (13 * (1 + 2) + 43) ≤ _; omega) (by show 0 + 1 ≤ _; omega) (by show 0 + 6 ≤ _; omega) hlk (xtc_of hP hD hS) (fun z hz => hS.2.2 z hz) (Nat.le_refl _) (Nat.le_refl _)
end TT
set_option maxHeartbeats 1000000 in
/-- no such link: it throws -/
theorem tX7_link_a {l : Launch} {E : Ev} {S : List Sh} {mm : Mm} {a b : Int32} (hl9 : l.stackTraces = false) (h : fX7_isLink S mm 0 a = some 0) : Mt l E S a b mm cIOB := by
  refine Mt.of (fun G C hQ => ?_)
  have hb : bd1 (fX7_isLink S mm 0 a) (fun v => if v = 0 then some () else none) = some () := by rw [h]; rfl
  refine x_aload_n C (dq DX7_link 0 rfl) rfl 0 rfl ?_
  refine x_iload_n C (dq DX7_link 1 rfl) rfl 1 rfl ?_
  refine callX7_140 C (dq DX7_link 2 rfl) hb (by decide) (by decide) (Nat.le_of_ble_eq_true rfl) (fun v hv => ?_)
  refine x_if_ne (α := Unit) (A0 := none) (B0 := some ()) (r := ()) (tgt := 18) C (dq DX7_link 3 rfl) (by decide) (by by_cases q : v = 0 <;> simp [q] at hv ⊢) (fun h => by cases h) (fun _ => ?_)
  exact x_throw1 C hl9 hQ
set_option maxHeartbeats 1000000 in
/-- a link, but nothing such of it: it throws -/
theorem tX7_link_b {l : Launch} {E : Ev} {S : List Sh} {mm : Mm} {a b : Int32} (hl9 : l.stackTraces = false) (h : fX7_isLink S mm 0 a = some 1) (hw : b < 0 ∨ 13 < b) : Mt l E S a b mm cNSE := by
  refine Mt.of (fun G C hQ => ?_)
  have hb : bd1 (fX7_isLink S mm 0 a) (fun v => if v = 1 then some () else none) = some () := by rw [h]; rfl
  refine x_aload_n C (dq DX7_link 0 rfl) rfl 0 rfl ?_
  refine x_iload_n C (dq DX7_link 1 rfl) rfl 1 rfl ?_
  refine callX7_140 C (dq DX7_link 2 rfl) hb (by decide) (by decide) (Nat.le_of_ble_eq_true rfl) (fun v hv => ?_)
  refine x_if_ne (α := Unit) (A0 := some ()) (B0 := none) (r := ()) (tgt := 18) C (dq DX7_link 3 rfl) (by decide) (by by_cases q : v = 1 <;> simp [q] at hv ⊢) (fun _ => ?_) (fun h => by cases h)
  refine x_iload_n C (dq DX7_link 9 rfl) rfl 2 rfl ?_
  by_cases hn : b < 0
  · exact x_if_lt (α := Unit) (A0 := some ()) (B0 := none) (r := ()) (tgt := 28) C (dq DX7_link 10 rfl) (by decide) (if_pos hn) (fun _ => x_throw2 C hl9 hQ) (fun h => by cases h)
  · have h13 : ¬ b ≤ 13 := by
      rcases hw with q | q
      · exact absurd q hn
      · exact fun z => absurd (Int32.lt_iff_toInt_lt.mp q) (by have := Int32.le_iff_toInt_le.mp z; omega)
    refine x_if_lt (α := Unit) (A0 := none) (B0 := some ()) (r := ()) (tgt := 28) C (dq DX7_link 10 rfl) (by decide) (if_neg hn) (fun h => by cases h) (fun _ => ?_)
    refine x_iload_n C (dq DX7_link 11 rfl) rfl 2 rfl ?_
    refine x_bipush (v := 13) C (dq DX7_link 12 rfl) (by decide) ?_
    exact x_icmp_le (α := Unit) (A0 := none) (B0 := some ()) (r := ()) (tgt := 38) C (dq DX7_link 13 rfl) (by decide) (if_neg h13) (fun h => by cases h) (fun _ => x_throw2 C hl9 hQ)
