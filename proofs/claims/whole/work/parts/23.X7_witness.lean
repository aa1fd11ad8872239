theorem callX7_200 {G : Gt} {l : Launch} {E : Ev} {S : List Sh} {cc : ByteArray} {nL : Nat} {rt : Option FieldType} {fr lo : Nat} {pc : Nat} {lv : List (Nat × Value)} {rest : List Value} {mm : Mm} {α : Type} {f : Int32 → Option α} {r : α} {o : Nat} {a0 : Nat} {a1 : Nat} {a2 : Int32} (C : Cx G E cc nL RX7 rt fr lo) (d : decode cc pc = .ok (.invokevirtual 200, 3)) (h : bd1 (fX6_witnessOf S mm o a0 a1 a2) f = some r) (hfr : 1 ≤ fr) (hlo : 26 ≤ lo) (hrs : (rest.map fun v => v.category).sum ≤ 8) (k : ∀ v, f v = some r → WM G l E S (pc + 3) lv (.int v :: rest) mm) : WM G l E S pc lv (.int a2 :: .ref (E.2.2 a1) :: .ref (E.2.2 a0) :: .ref (E.2.2 o) :: rest) mm := by
  obtain ⟨v, hv, hf⟩ := bd1_some h
  exact x_callV (n := 3) (As := [.ref (E.2.2 a0), .ref (E.2.2 a1), .int a2]) (rest := rest) C (mX6_witnessOf hv) (qX6_witnessOf hv) (T := TX6) (N := 5) rfl (gmem 597 (by decide +kernel) rfl) (gmem 598 (by decide +kernel) rfl) (gmem 599 (by decide +kernel) rfl) (gmem 5 (by decide +kernel) rfl) (gmem 600 (by decide +kernel) rfl) (by decide +kernel) rfl hfr hlo hrs d rfl rfl (k v hf)
abbrev eX7_witness : List (Nat × Instr × Nat) := [(0, .iload_n 1, 1), (1, .ifCond .ge 5, 3), (4, .iconst (-1), 1), (5, .ireturn, 1), (6, .aload_n 0, 1), (7, .getfield 33, 3), (10, .aload_n 0, 1), (11, .getfield 61, 3), (14, .aload_n 0, 1), (15, .getfield 51, 3), (18, .invokevirtual 191, 3), (21, .iload_n 1, 1), (22, .aload_n 0, 1), (23, .getfield 33, 3), (26, .getfield 194, 3), (29, .if_icmp .ge 22, 3), (32, .aload_n 0, 1), (33, .getfield 33, 3), (36, .aload_n 0, 1), (37, .getfield 61, 3), (40, .aload_n 0, 1), (41, .getfield 51, 3), (44, .iload_n 1, 1), (45, .invokevirtual 200, 3), (48, .goto 5, 3), (51, .bipush (-2), 2), (53, .ireturn, 1)]
theorem DX7_witness : (eX7_witness.all fun q => decide (decode cX7_witness q.1 = .ok q.2)) = true := by decide +kernel
def jX7_witness_53 (S : List Sh) (mm : Mm) (x0 : Nat) (p0 : Int32) : Option (Int32 × Mm) := some (p0, mm)
def fX7_witness (S : List Sh) (mm : Mm) (x0 : Nat) (x1 : Int32) : Option (Int32 × Mm) := gd S x0 7 (if 0 ≤ x1 then (bd1 (fX6_findFirst S mm (rf S mm x0 3) (rf S mm x0 8) (rf S mm x0 6)) fun m1 => gd S (rf S m1 x0 3) 6 (if (m1.1 (rf S m1 x0 3) 4) ≤ x1 then (jX7_witness_53 S m1 x0 (-2)) else (bd1 (fX6_witnessOf S m1 (rf S m1 x0 3) (rf S m1 x0 8) (rf S m1 x0 6) x1) fun a3 => jX7_witness_53 S m1 x0 a3))) else (some ((-1), mm)))
set_option maxHeartbeats 1000000 in
theorem tX7_witness_53 {G : Gt} {l : Launch} {E : Ev} {S : List Sh} {mm : Mm} {x0 : Nat} {p0 : Int32} {r : Int32 × Mm} (C : Cx G E cX7_witness 2 RX7 (some .int) 3 76) (g0 : isC S x0 7) (h : jX7_witness_53 S mm x0 p0 = some r) (hQ : RQ G E S (some (.int r.1)) r.2) : WM G l E S 53 [(0, .ref (E.2.2 x0))] [.int p0] mm := by
  unfold jX7_witness_53 at h
  cases h
  exact x_iret C (dq DX7_witness 26 rfl) hQ
set_option maxHeartbeats 1000000 in
theorem mX7_witness {l : Launch} {E : Ev} {S : List Sh} {mm : Mm} {x0 : Nat} {x1 : Int32} {r : Int32 × Mm} (h : fX7_witness S mm x0 x1 = some r) : Ml l E S yX7_witness cX7_witness 2 (some .int) 3 76 [.ref (E.2.2 x0), .int x1] mm (some (.int r.1)) r.2 := by
  refine Ml.of (by decide +kernel) (Nat.le_of_ble_eq_true rfl) (fun G C hQ => ?_)
  have C : Cx G E cX7_witness 2 RX7 (some .int) 3 76 := C
  unfold fX7_witness at h
  obtain ⟨g0, h⟩ := gd_some h
  show WM G l E S 0 [(0, .ref (E.2.2 x0)), (1, .int x1)] [] mm
  refine x_iload_n C (dq DX7_witness 0 rfl) rfl 1 rfl ?_
  refine x_if_ge (tgt := 6) C (dq DX7_witness 1 rfl) (by decide) h (fun h => ?_) (fun h => ?_)
  · refine x_aload_n C (dq DX7_witness 4 rfl) rfl 0 rfl ?_
    refine getX7_33 C (dq DX7_witness 5 rfl) g0 ?_
    refine x_pc 10 rfl ?_
    refine x_aload_n C (dq DX7_witness 6 rfl) rfl 0 rfl ?_
    refine getX7_61 C (dq DX7_witness 7 rfl) g0 ?_
    refine x_aload_n C (dq DX7_witness 8 rfl) rfl 0 rfl ?_
    refine getX7_51 C (dq DX7_witness 9 rfl) g0 ?_
    refine callX7_191 C (dq DX7_witness 10 rfl) h (by decide) (by decide) (Nat.le_of_ble_eq_true rfl) (fun m1 h => ?_)
    refine x_pc 21 rfl ?_
    refine x_iload_n C (dq DX7_witness 11 rfl) rfl 1 rfl ?_
    refine x_aload_n C (dq DX7_witness 12 rfl) rfl 0 rfl ?_
    refine getX7_33 C (dq DX7_witness 13 rfl) g0 ?_
    obtain ⟨g2, h⟩ := gd_some h
    refine getX7_194 C (dq DX7_witness 14 rfl) g2 ?_
    refine x_icmp_ge (tgt := 51) C (dq DX7_witness 15 rfl) (by decide) h (fun h => ?_) (fun h => ?_)
    · refine x_pc 51 rfl ?_
      refine x_bipush (v := (-2)) C (dq DX7_witness 25 rfl) (by decide) ?_
      exact x_lv [0] rfl (tX7_witness_53 C g0 h hQ)
    · refine x_pc 32 rfl ?_
      refine x_aload_n C (dq DX7_witness 16 rfl) rfl 0 rfl ?_
      refine getX7_33 C (dq DX7_witness 17 rfl) g0 ?_
      refine x_aload_n C (dq DX7_witness 18 rfl) rfl 0 rfl ?_
      refine getX7_61 C (dq DX7_witness 19 rfl) g0 ?_
      refine x_aload_n C (dq DX7_witness 20 rfl) rfl 0 rfl ?_
      refine x_pc 41 rfl ?_
      refine getX7_51 C (dq DX7_witness 21 rfl) g0 ?_
      refine x_iload_n C (dq DX7_witness 22 rfl) rfl 1 rfl ?_
      refine callX7_200 C (dq DX7_witness 23 rfl) h (by decide) (by decide) (Nat.le_of_ble_eq_true rfl) (fun a3 h => ?_)
      refine x_goto (tgt := 53) C (dq DX7_witness 24 rfl) (by decide) ?_
      exact x_lv [0] rfl (tX7_witness_53 C g0 h hQ)
  · refine x_iconst (v := (-1)) C (dq DX7_witness 2 rfl) (by decide) ?_
    cases h
    exact x_iret C (dq DX7_witness 3 rfl) hQ
set_option maxHeartbeats 1000000 in
theorem qX7_witness {S : List Sh} {mm : Mm} {x0 : Nat} {x1 : Int32} {r : Int32 × Mm} (h : fX7_witness S mm x0 x1 = some r) : isC S x0 7 := by
  unfold fX7_witness at h
  exact (gd_some h).1
theorem callX7_203 {G : Gt} {l : Launch} {E : Ev} {S : List Sh} {cc : ByteArray} {nL : Nat} {rt : Option FieldType} {fr lo : Nat} {pc : Nat} {lv : List (Nat × Value)} {rest : List Value} {mm : Mm} {α : Type} {f : Int32 → Mm → Option α} {r : α} {o : Nat} {a0 : Nat} {a1 : Nat} (C : Cx G E cc nL RX7 rt fr lo) (d : decode cc pc = .ok (.invokevirtual 203, 3)) (h : bd2 (fX6_inPauseCycles S mm o a0 a1) f = some r) (hfr : 2 ≤ fr) (hlo : 50 ≤ lo) (hrs : (rest.map fun v => v.category).sum ≤ 8) (k : ∀ v m1, f v m1 = some r → WM G l E S (pc + 3) lv (.int v :: rest) m1) : WM G l E S pc lv (.ref (E.2.2 a1) :: .ref (E.2.2 a0) :: .ref (E.2.2 o) :: rest) mm := by
  obtain ⟨v, m1, hv, hf⟩ := bd2_some h
  exact x_callV (n := 2) (As := [.ref (E.2.2 a0), .ref (E.2.2 a1)]) (rest := rest) C (mX6_inPauseCycles hv) (qX6_inPauseCycles hv) (T := TX6) (N := 5) rfl (gmem 605 (by decide +kernel) rfl) (gmem 574 (by decide +kernel) rfl) (gmem 575 (by decide +kernel) rfl) (gmem 5 (by decide +kernel) rfl) (gmem 576 (by decide +kernel) rfl) (by decide +kernel) rfl hfr hlo hrs d rfl rfl (k v m1 hf)
theorem callX7_207 {G : Gt} {l : Launch} {E : Ev} {S : List Sh} {cc : ByteArray} {nL : Nat} {rt : Option FieldType} {fr lo : Nat} {pc : Nat} {lv : List (Nat × Value)} {rest : List Value} {mm : Mm} {α : Type} {f : Int32 → Mm → Option α} {r : α} {o : Nat} {a0 : Nat} (C : Cx G E cc nL RX7 rt fr lo) (d : decode cc pc = .ok (.invokevirtual 207, 3)) (h : bd2 (fX6_inPossibleCycles S mm o a0) f = some r) (hfr : 2 ≤ fr) (hlo : 47 ≤ lo) (hrs : (rest.map fun v => v.category).sum ≤ 8) (k : ∀ v m1, f v m1 = some r → WM G l E S (pc + 3) lv (.int v :: rest) m1) : WM G l E S pc lv (.ref (E.2.2 a0) :: .ref (E.2.2 o) :: rest) mm := by
  obtain ⟨v, m1, hv, hf⟩ := bd2_some h
  exact x_callV (n := 1) (As := [.ref (E.2.2 a0)]) (rest := rest) C (mX6_inPossibleCycles hv) (qX6_inPossibleCycles hv) (T := TX6) (N := 5) rfl (gmem 606 (by decide +kernel) rfl) (gmem 607 (by decide +kernel) rfl) (gmem 608 (by decide +kernel) rfl) (gmem 5 (by decide +kernel) rfl) (gmem 609 (by decide +kernel) rfl) (by decide +kernel) rfl hfr hlo hrs d rfl rfl (k v m1 hf)
abbrev eX7_inCycles : List (Nat × Instr × Nat) := [(0, .iload_n 1, 1), (1, .ifCond .ne 19, 3), (4, .aload_n 0, 1), (5, .getfield 33, 3), (8, .aload_n 0, 1), (9, .getfield 61, 3), (12, .aload_n 0, 1), (13, .getfield 51, 3), (16, .invokevirtual 203, 3), (19, .ireturn, 1), (20, .iload_n 1, 1), (21, .iconst 1, 1), (22, .if_icmp .ne 17, 3), (25, .aload_n 0, 1), (26, .getfield 33, 3), (29, .aload_n 0, 1), (30, .getfield 61, 3), (33, .invokevirtual 207, 3), (36, .goto 4, 3), (39, .iconst (-1), 1), (40, .ireturn, 1)]
theorem DX7_inCycles : (eX7_inCycles.all fun q => decide (decode cX7_inCycles q.1 = .ok q.2)) = true := by decide +kernel
def jX7_inCycles_40 (S : List Sh) (mm : Mm) (x0 : Nat) (p0 : Int32) : Option (Int32 × Mm) := some (p0, mm)
def fX7_inCycles (S : List Sh) (mm : Mm) (x0 : Nat) (x1 : Int32) : Option (Int32 × Mm) := gd S x0 7 (if ¬ x1 = 0 then (if ¬ x1 = 1 then (jX7_inCycles_40 S mm x0 (-1)) else (bd2 (fX6_inPossibleCycles S mm (rf S mm x0 3) (rf S mm x0 8)) fun a1 m2 => jX7_inCycles_40 S m2 x0 a1)) else (bd2 (fX6_inPauseCycles S mm (rf S mm x0 3) (rf S mm x0 8) (rf S mm x0 6)) fun a3 m4 => some (a3, m4)))
set_option maxHeartbeats 1000000 in
theorem tX7_inCycles_40 {G : Gt} {l : Launch} {E : Ev} {S : List Sh} {mm : Mm} {x0 : Nat} {p0 : Int32} {r : Int32 × Mm} (C : Cx G E cX7_inCycles 2 RX7 (some .int) 2 50) (g0 : isC S x0 7) (h : jX7_inCycles_40 S mm x0 p0 = some r) (hQ : RQ G E S (some (.int r.1)) r.2) : WM G l E S 40 [(0, .ref (E.2.2 x0))] [.int p0] mm := by
  unfold jX7_inCycles_40 at h
  cases h
  exact x_iret C (dq DX7_inCycles 20 rfl) hQ
set_option maxHeartbeats 1000000 in
theorem mX7_inCycles {l : Launch} {E : Ev} {S : List Sh} {mm : Mm} {x0 : Nat} {x1 : Int32} {r : Int32 × Mm} (h : fX7_inCycles S mm x0 x1 = some r) : Ml l E S yX7_inCycles cX7_inCycles 2 (some .int) 2 50 [.ref (E.2.2 x0), .int x1] mm (some (.int r.1)) r.2 := by
  refine Ml.of (by decide +kernel) (Nat.le_of_ble_eq_true rfl) (fun G C hQ => ?_)
  have C : Cx G E cX7_inCycles 2 RX7 (some .int) 2 50 := C
  unfold fX7_inCycles at h
  obtain ⟨g0, h⟩ := gd_some h
  show WM G l E S 0 [(0, .ref (E.2.2 x0)), (1, .int x1)] [] mm
  refine x_iload_n C (dq DX7_inCycles 0 rfl) rfl 1 rfl ?_
  refine x_if_ne (tgt := 20) C (dq DX7_inCycles 1 rfl) (by decide) h (fun h => ?_) (fun h => ?_)
  · refine x_iload_n C (dq DX7_inCycles 10 rfl) rfl 1 rfl ?_
    refine x_iconst (v := 1) C (dq DX7_inCycles 11 rfl) (by decide) ?_
    refine x_pc 22 rfl ?_
    refine x_icmp_ne (tgt := 39) C (dq DX7_inCycles 12 rfl) (by decide) h (fun h => ?_) (fun h => ?_)
    · refine x_iconst (v := (-1)) C (dq DX7_inCycles 19 rfl) (by decide) ?_
      exact x_lv [0] rfl (tX7_inCycles_40 C g0 h hQ)
    · refine x_aload_n C (dq DX7_inCycles 13 rfl) rfl 0 rfl ?_
      refine getX7_33 C (dq DX7_inCycles 14 rfl) g0 ?_
      refine x_aload_n C (dq DX7_inCycles 15 rfl) rfl 0 rfl ?_
      refine getX7_61 C (dq DX7_inCycles 16 rfl) g0 ?_
      refine x_pc 33 rfl ?_
      refine callX7_207 C (dq DX7_inCycles 17 rfl) h (by decide) (by decide) (Nat.le_of_ble_eq_true rfl) (fun a1 m2 h => ?_)
      refine x_goto (tgt := 40) C (dq DX7_inCycles 18 rfl) (by decide) ?_
      exact x_lv [0] rfl (tX7_inCycles_40 C g0 h hQ)
  · refine x_aload_n C (dq DX7_inCycles 2 rfl) rfl 0 rfl ?_
    refine getX7_33 C (dq DX7_inCycles 3 rfl) g0 ?_
    refine x_pc 8 rfl ?_
    refine x_aload_n C (dq DX7_inCycles 4 rfl) rfl 0 rfl ?_
    refine getX7_61 C (dq DX7_inCycles 5 rfl) g0 ?_
    refine x_aload_n C (dq DX7_inCycles 6 rfl) rfl 0 rfl ?_
    refine getX7_51 C (dq DX7_inCycles 7 rfl) g0 ?_
    refine callX7_203 C (dq DX7_inCycles 8 rfl) h (by decide) (by decide) (Nat.le_of_ble_eq_true rfl) (fun a3 m4 h => ?_)
    refine x_pc 19 rfl ?_
    cases h
    exact x_iret C (dq DX7_inCycles 9 rfl) hQ
set_option maxHeartbeats 1000000 in
theorem qX7_inCycles {S : List Sh} {mm : Mm} {x0 : Nat} {x1 : Int32} {r : Int32 × Mm} (h : fX7_inCycles S mm x0 x1 = some r) : isC S x0 7 := by
  unfold fX7_inCycles at h
  exact (gd_some h).1
theorem getX7_40 {G : Gt} {l : Launch} {E : Ev} {S : List Sh} {cc : ByteArray} {nL : Nat} {rt : Option FieldType} {fr lo : Nat} {pc : Nat} {lv : List (Nat × Value)} {st : List Value} {mm : Mm} {o : Nat} (C : Cx G E cc nL RX7 rt fr lo) (d : decode cc pc = .ok (.getfield 40, 3)) (hg : isC S o 7) (k : WM G l E S (pc + 3) lv (.ref (E.2.2 (rf S mm o 4)) :: st) mm) : WM G l E S pc lv (.ref (E.2.2 o) :: st) mm := x_get2 C hg (T := TX7) (N := 12) rfl inX7 (by decide) (i := 4) (gmem 246 (by decide +kernel) rfl) rfl rfl d k
theorem callX7_213 {G : Gt} {l : Launch} {E : Ev} {S : List Sh} {cc : ByteArray} {nL : Nat} {rt : Option FieldType} {fr lo : Nat} {pc : Nat} {lv : List (Nat × Value)} {rest : List Value} {mm : Mm} {α : Type} {f : Mm → Option α} {r : α} {o : Nat} {a0 : Nat} {a1 : Nat} (C : Cx G E cc nL RX7 rt fr lo) (d : decode cc pc = .ok (.invokevirtual 213, 3)) (h : bd1 (fX3_share S mm o a0 a1) f = some r) (hfr : 3 ≤ fr) (hlo : 72 ≤ lo) (hrs : (rest.map fun v => v.category).sum ≤ 8) (k : ∀ m1, f m1 = some r → WM G l E S (pc + 3) lv rest m1) : WM G l E S pc lv (.ref (E.2.2 a1) :: .ref (E.2.2 a0) :: .ref (E.2.2 o) :: rest) mm := by
  obtain ⟨m1, hv, hf⟩ := bd1_some h
  exact x_callV (n := 2) (As := [.ref (E.2.2 a0), .ref (E.2.2 a1)]) (rest := rest) C (mX3_share hv) (qX3_share hv) (T := TX3) (N := 5) rfl (gmem 615 (by decide +kernel) rfl) (gmem 616 (by decide +kernel) rfl) (gmem 617 (by decide +kernel) rfl) (gmem 6 (by decide +kernel) rfl) (gmem 618 (by decide +kernel) rfl) (by decide +kernel) rfl hfr hlo hrs d rfl rfl (k m1 hf)
theorem callX7_222 {G : Gt} {l : Launch} {E : Ev} {S : List Sh} {cc : ByteArray} {nL : Nat} {rt : Option FieldType} {fr lo : Nat} {pc : Nat} {lv : List (Nat × Value)} {rest : List Value} {mm : Mm} {α : Type} {f : Int32 → Mm → Option α} {r : α} {o : Nat} {a0 : Nat} {a1 : Int32} (C : Cx G E cc nL RX7 rt fr lo) (d : decode cc pc = .ok (.invokevirtual 222, 3)) (h : bd2 (fX3_fills S mm o a0 a1) f = some r) (hfr : 2 ≤ fr) (hlo : 45 ≤ lo) (hrs : (rest.map fun v => v.category).sum ≤ 8) (k : ∀ v m1, f v m1 = some r → WM G l E S (pc + 3) lv (.int v :: rest) m1) : WM G l E S pc lv (.int a1 :: .ref (E.2.2 a0) :: .ref (E.2.2 o) :: rest) mm := by
  obtain ⟨v, m1, hv, hf⟩ := bd2_some h
  exact x_callV (n := 2) (As := [.ref (E.2.2 a0), .int a1]) (rest := rest) C (mX3_fills hv) (qX3_fills hv) (T := TX3) (N := 5) rfl (gmem 648 (by decide +kernel) rfl) (gmem 649 (by decide +kernel) rfl) (gmem 650 (by decide +kernel) rfl) (gmem 6 (by decide +kernel) rfl) (gmem 651 (by decide +kernel) rfl) (by decide +kernel) rfl hfr hlo hrs d rfl rfl (k v m1 hf)
abbrev eX7_full : List (Nat × Instr × Nat) := [(0, .aload_n 0, 1), (1, .getfield 40, 3), (4, .aload_n 0, 1), (5, .getfield 61, 3), (8, .aload_n 0, 1), (9, .getfield 51, 3), (12, .invokevirtual 213, 3), (15, .iconst 0, 1), (16, .istore_n 1, 1), (17, .iconst 0, 1), (18, .istore_n 2, 1), (19, .iload_n 2, 1), (20, .aload_n 0, 1), (21, .getfield 61, 3), (24, .getfield 184, 3), (27, .if_icmp .ge 30, 3), (30, .aload_n 0, 1), (31, .getfield 40, 3), (34, .aload_n 0, 1), (35, .getfield 61, 3), (38, .iload_n 2, 1), (39, .invokevirtual 222, 3), (42, .ifCond .eq 9, 3), (45, .iload_n 1, 1), (46, .iconst 1, 1), (47, .iload_n 2, 1), (48, .ishl, 1), (49, .ior, 1), (50, .istore_n 1, 1), (51, .iinc 2 1, 3), (54, .goto (-35), 3), (57, .iload_n 1, 1), (58, .ireturn, 1)]
theorem DX7_full : (eX7_full.all fun q => decide (decode cX7_full q.1 = .ok q.2)) = true := by decide +kernel
def jX7_full_51 (S : List Sh) (mm : Mm) (x0 : Nat) (x1 : Int32) (x2 : Int32)  : Option ((Int32 × Int32 × Mm) ⊕ (Int32 × Mm)) := some (.inl (x1, x2 + 1, mm))
def bX7_full_19 (S : List Sh) (x0 : Nat) (x1 : Int32) (x2 : Int32) (mm : Mm) : Option ((Int32 × Int32 × Mm) ⊕ (Int32 × Mm)) := gd S (rf S mm x0 8) 1 (if (mm.1 (rf S mm x0 8) 9) ≤ x2 then (some (.inr (x1, mm))) else (bd2 (fX3_fills S mm (rf S mm x0 4) (rf S mm x0 8) x2) fun a3 m4 => if a3 = 0 then (jX7_full_51 S m4 x0 x1 x2) else (jX7_full_51 S m4 x0 (x1 ||| (1 <<< (x2 &&& 31))) x2)))
def fX7_full (S : List Sh) (mm : Mm) (x0 : Nat) : Option (Int32 × Mm) := gd S x0 7 (bd1 (fX3_share S mm (rf S mm x0 4) (rf S mm x0 8) (rf S mm x0 6)) fun m1 => bd1 (lp (fun s5 => bX7_full_19 S x0 s5.1 s5.2.1 s5.2.2) fu (0, 0, m1)) fun y6 => some (y6.1, y6.2))
set_option maxHeartbeats 1000000 in
theorem tX7_full_51 {G : Gt} {l : Launch} {E : Ev} {S : List Sh} {mm : Mm} {x0 : Nat} {x1 : Int32} {x2 : Int32}  {r : (Int32 × Int32 × Mm) ⊕ (Int32 × Mm)} (C : Cx G E cX7_full 3 RX7 (some .int) 3 72) (g0 : isC S x0 7) (h : jX7_full_51 S mm x0 x1 x2 = some r) (kb : ∀ z : Int32 × Int32 × Mm, r = .inl z → WM G l E S 19 [(0, .ref (E.2.2 x0)), (1, .int z.1), (2, .int z.2.1)] [] z.2.2) (kx : ∀ z : Int32 × Mm, r = .inr z → WM G l E S 57 [(0, .ref (E.2.2 x0)), (1, .int z.1)] [] z.2) : WM G l E S 51 [(0, .ref (E.2.2 x0)), (1, .int x1), (2, .int x2)] [] mm := by
  unfold jX7_full_51 at h
  refine x_iinc (v := x2 + 1) (lv' := [(2, .int (x2 + 1)), (0, .ref (E.2.2 x0)), (1, .int x1)]) C (dq DX7_full 29 rfl) 2 rfl rfl (by decide) rfl ?_
  refine x_goto (tgt := 19) C (dq DX7_full 30 rfl) (by decide) ?_
  cases h
  exact x_lv [1, 2, 0] rfl (kb (x1, x2 + 1, mm) rfl)
set_option maxHeartbeats 1000000 in
theorem tX7_full_19 {G : Gt} {l : Launch} {E : Ev} {S : List Sh} {x0 : Nat} {x1 : Int32} {x2 : Int32} {mm : Mm} {r : (Int32 × Int32 × Mm) ⊕ (Int32 × Mm)} (C : Cx G E cX7_full 3 RX7 (some .int) 3 72) (g0 : isC S x0 7) (h : bX7_full_19 S x0 x1 x2 mm = some r) (kb : ∀ z : Int32 × Int32 × Mm, r = .inl z → WM G l E S 19 [(0, .ref (E.2.2 x0)), (1, .int z.1), (2, .int z.2.1)] [] z.2.2) (kx : ∀ z : Int32 × Mm, r = .inr z → WM G l E S 57 [(0, .ref (E.2.2 x0)), (1, .int z.1)] [] z.2) : WM G l E S 19 [(0, .ref (E.2.2 x0)), (1, .int x1), (2, .int x2)] [] mm := by
  unfold bX7_full_19 at h
  refine x_iload_n C (dq DX7_full 11 rfl) rfl 2 rfl ?_
  refine x_aload_n C (dq DX7_full 12 rfl) rfl 0 rfl ?_
  refine getX7_61 C (dq DX7_full 13 rfl) g0 ?_
  obtain ⟨g2, h⟩ := gd_some h
  refine getX7_184 C (dq DX7_full 14 rfl) g2 ?_
  refine x_pc 27 rfl ?_
  refine x_icmp_ge (tgt := 57) C (dq DX7_full 15 rfl) (by decide) h (fun h => ?_) (fun h => ?_)
  · cases h
    exact x_lv [0, 1] rfl (kx (x1, mm) rfl)
  · refine x_aload_n C (dq DX7_full 16 rfl) rfl 0 rfl ?_
    refine getX7_40 C (dq DX7_full 17 rfl) g0 ?_
    refine x_aload_n C (dq DX7_full 18 rfl) rfl 0 rfl ?_
    refine getX7_61 C (dq DX7_full 19 rfl) g0 ?_
    refine x_pc 38 rfl ?_
    refine x_iload_n C (dq DX7_full 20 rfl) rfl 2 rfl ?_
    refine callX7_222 C (dq DX7_full 21 rfl) h (by decide) (by decide) (Nat.le_of_ble_eq_true rfl) (fun a3 m4 h => ?_)
    refine x_if_eq (tgt := 51) C (dq DX7_full 22 rfl) (by decide) h (fun h => ?_) (fun h => ?_)
    · exact x_lv [0, 1, 2] rfl (tX7_full_51 C g0 h kb kx)
    · refine x_iload_n C (dq DX7_full 23 rfl) rfl 1 rfl ?_
      refine x_iconst (v := 1) C (dq DX7_full 24 rfl) (by decide) ?_
      refine x_pc 47 rfl ?_
      refine x_iload_n C (dq DX7_full 25 rfl) rfl 2 rfl ?_
      refine x_ishl C (dq DX7_full 26 rfl) ?_
      refine x_ior C (dq DX7_full 27 rfl) ?_
      refine x_istore_n (lv' := [(1, .int (x1 ||| (1 <<< (x2 &&& 31)))), (0, .ref (E.2.2 x0)), (2, .int x2)]) C (dq DX7_full 28 rfl) rfl (by decide) rfl ?_
      exact x_lv [1, 0, 2] rfl (tX7_full_51 C g0 h kb kx)
set_option maxHeartbeats 1000000 in
theorem mX7_full {l : Launch} {E : Ev} {S : List Sh} {mm : Mm} {x0 : Nat} {r : Int32 × Mm} (h : fX7_full S mm x0 = some r) : Ml l E S yX7_full cX7_full 3 (some .int) 3 72 [.ref (E.2.2 x0)] mm (some (.int r.1)) r.2 := by
  refine Ml.of (by decide +kernel) (Nat.le_of_ble_eq_true rfl) (fun G C hQ => ?_)
  have C : Cx G E cX7_full 3 RX7 (some .int) 3 72 := C
  unfold fX7_full at h
  obtain ⟨g0, h⟩ := gd_some h
  show WM G l E S 0 [(0, .ref (E.2.2 x0))] [] mm
  refine x_aload_n C (dq DX7_full 0 rfl) rfl 0 rfl ?_
  refine getX7_40 C (dq DX7_full 1 rfl) g0 ?_
  refine x_aload_n C (dq DX7_full 2 rfl) rfl 0 rfl ?_
  refine getX7_61 C (dq DX7_full 3 rfl) g0 ?_
  refine x_pc 8 rfl ?_
  refine x_aload_n C (dq DX7_full 4 rfl) rfl 0 rfl ?_
  refine getX7_51 C (dq DX7_full 5 rfl) g0 ?_
  refine callX7_213 C (dq DX7_full 6 rfl) h (by decide) (by decide) (Nat.le_of_ble_eq_true rfl) (fun m1 h => ?_)
  refine x_iconst (v := 0) C (dq DX7_full 7 rfl) (by decide) ?_
  refine x_istore_n (lv' := [(1, .int 0), (0, .ref (E.2.2 x0))]) C (dq DX7_full 8 rfl) rfl (by decide) rfl ?_
  refine x_pc 17 rfl ?_
  refine x_iconst (v := 0) C (dq DX7_full 9 rfl) (by decide) ?_
  refine x_istore_n (lv' := [(2, .int 0), (1, .int 0), (0, .ref (E.2.2 x0))]) C (dq DX7_full 10 rfl) rfl (by decide) rfl ?_
  refine x_lv [2, 1, 0] rfl ?_
  refine x_loop (s0 := (0, 0, m1)) (fun s5 => WM G l E S 19 [(0, .ref (E.2.2 x0)), (1, .int s5.1), (2, .int s5.2.1)] [] s5.2.2) h (fun s5 r hb kb kx => tX7_full_19 C g0 hb kb (fun y6 hy => ?_))
  have h := kx y6 hy
  clear kx kb hb hy
  refine x_iload_n C (dq DX7_full 31 rfl) rfl 1 rfl ?_
  cases h
  exact x_iret C (dq DX7_full 32 rfl) hQ
set_option maxHeartbeats 1000000 in
theorem qX7_full {S : List Sh} {mm : Mm} {x0 : Nat} {r : Int32 × Mm} (h : fX7_full S mm x0 = some r) : isC S x0 7 := by
  unfold fX7_full at h
  exact (gd_some h).1
abbrev eX7_nextNumber : List (Nat × Instr × Nat) := [(0, .iload_n 0, 1), (1, .ldc_w 265, 3), (4, .imul, 1), (5, .sipush 12345, 3), (8, .iadd, 1), (9, .ldc_w 266, 3), (12, .iand, 1), (13, .ireturn, 1)]
theorem DX7_nextNumber : (eX7_nextNumber.all fun q => decide (decode cX7_nextNumber q.1 = .ok q.2)) = true := by decide +kernel
def fX7_nextNumber (S : List Sh) (mm : Mm) (x0 : Int32) : Option (Int32) := some (((x0 * 1103515245) + 12345) &&& 2147483647)
set_option maxHeartbeats 1000000 in
theorem mX7_nextNumber {l : Launch} {E : Ev} {S : List Sh} {mm : Mm} {x0 : Int32} {r : Int32} (h : fX7_nextNumber S mm x0 = some r) : Ml l E S yX7_nextNumber cX7_nextNumber 1 (some .int) 0 0 [.int x0] mm (some (.int r)) mm := by
  refine Ml.of (by decide +kernel) (Nat.le_of_ble_eq_true rfl) (fun G C hQ => ?_)
  have C : Cx G E cX7_nextNumber 1 RX7 (some .int) 0 0 := C
  unfold fX7_nextNumber at h
  show WM G l E S 0 [(0, .int x0)] [] mm
  refine x_iload_n C (dq DX7_nextNumber 0 rfl) rfl 0 rfl ?_
  refine x_ldc_w (v := 1103515245) C (dq DX7_nextNumber 1 rfl) (gmem 712 (by decide +kernel) rfl) ?_
  refine x_imul C (dq DX7_nextNumber 2 rfl) ?_
  refine x_sipush (v := 12345) C (dq DX7_nextNumber 3 rfl) (by decide) ?_
  refine x_pc 8 rfl ?_
  refine x_iadd C (dq DX7_nextNumber 4 rfl) ?_
  refine x_ldc_w (v := 2147483647) C (dq DX7_nextNumber 5 rfl) (gmem 713 (by decide +kernel) rfl) ?_
  refine x_iand C (dq DX7_nextNumber 6 rfl) ?_
  cases h
  exact x_iret C (dq DX7_nextNumber 7 rfl) hQ
theorem getX7_267 {G : Gt} {l : Launch} {E : Ev} {S : List Sh} {cc : ByteArray} {nL : Nat} {rt : Option FieldType} {fr lo : Nat} {pc : Nat} {lv : List (Nat × Value)} {st : List Value} {mm : Mm} {o : Nat} (C : Cx G E cc nL RX7 rt fr lo) (d : decode cc pc = .ok (.getfield 267, 3)) (hg : isC S o 0) (k : WM G l E S (pc + 3) lv (.int (mm.1 o 3) :: st) mm) : WM G l E S pc lv (.ref (E.2.2 o) :: st) mm := x_getN0 C hg (T := TX0) (N := 5) rfl inX0 (by decide) (i := 3) (host := "LosslessFabric") (nmem 157 (by decide +kernel) rfl) rfl rfl d k
theorem callX7_270 {G : Gt} {l : Launch} {E : Ev} {S : List Sh} {cc : ByteArray} {nL : Nat} {rt : Option FieldType} {fr lo : Nat} {pc : Nat} {lv : List (Nat × Value)} {rest : List Value} {mm : Mm} {α : Type} {f : Mm → Option α} {r : α} {o : Nat} {a0 : Nat} (C : Cx G E cc nL RX7 rt fr lo) (d : decode cc pc = .ok (.invokevirtual 270, 3)) (h : bd1 (fX0_pop S mm o a0) f = some r) (hfr : 2 ≤ fr) (hlo : 61 ≤ lo) (hrs : (rest.map fun v => v.category).sum ≤ 8) (k : ∀ m1, f m1 = some r → WM G l E S (pc + 3) lv rest m1) : WM G l E S pc lv (.ref (E.2.2 a0) :: .ref (E.2.2 o) :: rest) mm := by
  obtain ⟨m1, hv, hf⟩ := bd1_some h
  exact x_callV (n := 1) (As := [.ref (E.2.2 a0)]) (rest := rest) C (mX0_pop hv) (qX0_pop hv) (T := TX0) (N := 5) rfl (gmem 718 (by decide +kernel) rfl) (gmem 719 (by decide +kernel) rfl) (gmem 720 (by decide +kernel) rfl) (gmem 7 (by decide +kernel) rfl) (gmem 721 (by decide +kernel) rfl) (by decide +kernel) rfl hfr hlo hrs d rfl rfl (k m1 hf)
abbrev eX7_undo : List (Nat × Instr × Nat) := [(0, .aload_n 0, 1), (1, .getfield 47, 3), (4, .getfield 267, 3), (7, .ifCond .ne 5, 3), (10, .iconst (-1), 1), (11, .ireturn, 1), (12, .aload_n 0, 1), (13, .getfield 47, 3), (16, .aload_n 0, 1), (17, .getfield 51, 3), (20, .invokevirtual 270, 3), (23, .aload_n 0, 1), (24, .getfield 47, 3), (27, .getfield 267, 3), (30, .ireturn, 1)]
theorem DX7_undo : (eX7_undo.all fun q => decide (decode cX7_undo q.1 = .ok q.2)) = true := by decide +kernel
def fX7_undo (S : List Sh) (mm : Mm) (x0 : Nat) : Option (Int32 × Mm) := gd S x0 7 (gd S (rf S mm x0 5) 0 (if ¬ (mm.1 (rf S mm x0 5) 3) = 0 then (bd1 (fX0_pop S mm (rf S mm x0 5) (rf S mm x0 6)) fun m2 => gd S (rf S m2 x0 5) 0 (some ((m2.1 (rf S m2 x0 5) 3), m2))) else (some ((-1), mm))))
set_option maxHeartbeats 1000000 in
theorem mX7_undo {l : Launch} {E : Ev} {S : List Sh} {mm : Mm} {x0 : Nat} {r : Int32 × Mm} (h : fX7_undo S mm x0 = some r) : Ml l E S yX7_undo cX7_undo 1 (some .int) 2 61 [.ref (E.2.2 x0)] mm (some (.int r.1)) r.2 := by
  refine Ml.of (by decide +kernel) (Nat.le_of_ble_eq_true rfl) (fun G C hQ => ?_)
  have C : Cx G E cX7_undo 1 RX7 (some .int) 2 61 := C
  unfold fX7_undo at h
  obtain ⟨g0, h⟩ := gd_some h
  show WM G l E S 0 [(0, .ref (E.2.2 x0))] [] mm
  refine x_aload_n C (dq DX7_undo 0 rfl) rfl 0 rfl ?_
  refine getX7_47 C (dq DX7_undo 1 rfl) g0 ?_
  obtain ⟨g1, h⟩ := gd_some h
  refine getX7_267 C (dq DX7_undo 2 rfl) g1 ?_
  refine x_if_ne (tgt := 12) C (dq DX7_undo 3 rfl) (by decide) h (fun h => ?_) (fun h => ?_)
  · refine x_pc 12 rfl ?_
    refine x_aload_n C (dq DX7_undo 6 rfl) rfl 0 rfl ?_
    refine getX7_47 C (dq DX7_undo 7 rfl) g0 ?_
    refine x_aload_n C (dq DX7_undo 8 rfl) rfl 0 rfl ?_
    refine getX7_51 C (dq DX7_undo 9 rfl) g0 ?_
    refine callX7_270 C (dq DX7_undo 10 rfl) h (by decide) (by decide) (Nat.le_of_ble_eq_true rfl) (fun m2 h => ?_)
    refine x_pc 23 rfl ?_
    refine x_aload_n C (dq DX7_undo 11 rfl) rfl 0 rfl ?_
    refine getX7_47 C (dq DX7_undo 12 rfl) g0 ?_
    obtain ⟨g3, h⟩ := gd_some h
    refine getX7_267 C (dq DX7_undo 13 rfl) g3 ?_
    cases h
    exact x_iret C (dq DX7_undo 14 rfl) hQ
  · refine x_pc 10 rfl ?_
    refine x_iconst (v := (-1)) C (dq DX7_undo 4 rfl) (by decide) ?_
    cases h
    exact x_iret C (dq DX7_undo 5 rfl) hQ
set_option maxHeartbeats 1000000 in
theorem qX7_undo {S : List Sh} {mm : Mm} {x0 : Nat} {r : Int32 × Mm} (h : fX7_undo S mm x0 = some r) : isC S x0 7 := by
  unfold fX7_undo at h
  exact (gd_some h).1
theorem getX7_273 {G : Gt} {l : Launch} {E : Ev} {S : List Sh} {cc : ByteArray} {nL : Nat} {rt : Option FieldType} {fr lo : Nat} {pc : Nat} {lv : List (Nat × Value)} {st : List Value} {mm : Mm} {o : Nat} (C : Cx G E cc nL RX7 rt fr lo) (d : decode cc pc = .ok (.getfield 273, 3)) (hg : isC S o 0) (k : WM G l E S (pc + 3) lv (.ref (E.2.2 (rf S mm o 1)) :: st) mm) : WM G l E S pc lv (.ref (E.2.2 o) :: st) mm := x_getN2 C hg (T := TX0) (N := 5) rfl inX0 (by decide) (i := 1) (host := "LosslessFabric") (nmem 153 (by decide +kernel) rfl) rfl rfl d k
abbrev eX7_keep : List (Nat × Instr × Nat) := [(0, .aload_n 0, 1), (1, .getfield 51, 3), (4, .iconst 0, 1), (5, .aload_n 0, 1), (6, .getfield 47, 3), (9, .getfield 273, 3), (12, .iconst 0, 1), (13, .sipush 297, 3), (16, .invokestatic 108, 3), (19, .aload_n 0, 1), (20, .getfield 47, 3), (23, .iconst 1, 1), (24, .putfield 117, 3), (27, .aload_n 0, 1), (28, .getfield 51, 3), (31, .sipush 296, 3), (34, .iaload, 1), (35, .ireturn, 1)]
theorem DX7_keep : (eX7_keep.all fun q => decide (decode cX7_keep q.1 = .ok q.2)) = true := by decide +kernel
def fX7_keep (S : List Sh) (mm : Mm) (x0 : Nat) : Option (Int32 × Mm) := gd S x0 7 (gd S (rf S mm x0 5) 0 (bd1 (cpA S mm (rf S mm x0 6) 0 (rf S mm (rf S mm x0 5) 1) 0 297) fun m2 => gd S (rf S m2 x0 5) 0 (bd1 (some (u1 m2 (rf S m2 x0 5) 2 1)) fun m4 => bd1 (ldA S 0 m4 (rf S m4 x0 6) 296) fun a5 => some (a5, m4))))
set_option maxHeartbeats 1000000 in
theorem mX7_keep {l : Launch} {E : Ev} {S : List Sh} {mm : Mm} {x0 : Nat} {r : Int32 × Mm} (h : fX7_keep S mm x0 = some r) : Ml l E S yX7_keep cX7_keep 1 (some .int) 1 40 [.ref (E.2.2 x0)] mm (some (.int r.1)) r.2 := by
  refine Ml.of (by decide +kernel) (Nat.le_of_ble_eq_true rfl) (fun G C hQ => ?_)
  have C : Cx G E cX7_keep 1 RX7 (some .int) 1 40 := C
  unfold fX7_keep at h
  obtain ⟨g0, h⟩ := gd_some h
  show WM G l E S 0 [(0, .ref (E.2.2 x0))] [] mm
  refine x_aload_n C (dq DX7_keep 0 rfl) rfl 0 rfl ?_
  refine getX7_51 C (dq DX7_keep 1 rfl) g0 ?_
  refine x_iconst (v := 0) C (dq DX7_keep 2 rfl) (by decide) ?_
  refine x_aload_n C (dq DX7_keep 3 rfl) rfl 0 rfl ?_
  refine x_pc 6 rfl ?_
  refine getX7_47 C (dq DX7_keep 4 rfl) g0 ?_
  obtain ⟨g1, h⟩ := gd_some h
  refine getX7_273 C (dq DX7_keep 5 rfl) g1 ?_
  refine x_iconst (v := 0) C (dq DX7_keep 6 rfl) (by decide) ?_
  refine x_sipush (v := 297) C (dq DX7_keep 7 rfl) (by decide) ?_
  refine callX7_108 C (dq DX7_keep 8 rfl) (by decide) (Nat.le_of_ble_eq_true rfl) h (fun m2 h => ?_)
  refine x_pc 19 rfl ?_
  refine x_aload_n C (dq DX7_keep 9 rfl) rfl 0 rfl ?_
  refine getX7_47 C (dq DX7_keep 10 rfl) g0 ?_
  refine x_iconst (v := 1) C (dq DX7_keep 11 rfl) (by decide) ?_
  obtain ⟨g3, h⟩ := gd_some h
  refine putX7_117 C (dq DX7_keep 12 rfl) g3 (Or.inr rfl) h (fun m4 h => ?_)
  refine x_aload_n C (dq DX7_keep 13 rfl) rfl 0 rfl ?_
  refine x_pc 28 rfl ?_
  refine getX7_51 C (dq DX7_keep 14 rfl) g0 ?_
  refine x_sipush (v := 296) C (dq DX7_keep 15 rfl) (by decide) ?_
  refine x_iald C (dq DX7_keep 16 rfl) h (fun a5 h => ?_)
  cases h
  exact x_iret C (dq DX7_keep 17 rfl) hQ
set_option maxHeartbeats 1000000 in
theorem qX7_keep {S : List Sh} {mm : Mm} {x0 : Nat} {r : Int32 × Mm} (h : fX7_keep S mm x0 = some r) : isC S x0 7 := by
  unfold fX7_keep at h
  exact (gd_some h).1
theorem getX7_117 {G : Gt} {l : Launch} {E : Ev} {S : List Sh} {cc : ByteArray} {nL : Nat} {rt : Option FieldType} {fr lo : Nat} {pc : Nat} {lv : List (Nat × Value)} {st : List Value} {mm : Mm} {o : Nat} (C : Cx G E cc nL RX7 rt fr lo) (d : decode cc pc = .ok (.getfield 117, 3)) (hg : isC S o 0) (k : WM G l E S (pc + 3) lv (.int (mm.1 o 2) :: st) mm) : WM G l E S pc lv (.ref (E.2.2 o) :: st) mm := x_getN0 C hg (T := TX0) (N := 5) rfl inX0 (by decide) (i := 2) (host := "LosslessFabric") (nmem 155 (by decide +kernel) rfl) rfl rfl d k
abbrev eX7_back : List (Nat × Instr × Nat) := [(0, .aload_n 0, 1), (1, .getfield 47, 3), (4, .getfield 117, 3), (7, .ifCond .ne 5, 3), (10, .iconst (-1), 1), (11, .ireturn, 1), (12, .aload_n 0, 1), (13, .getfield 47, 3), (16, .getfield 273, 3), (19, .iconst 0, 1), (20, .aload_n 0, 1), (21, .getfield 51, 3), (24, .iconst 0, 1), (25, .sipush 297, 3), (28, .invokestatic 108, 3), (31, .aload_n 0, 1), (32, .getfield 47, 3), (35, .invokevirtual 114, 3), (38, .aload_n 0, 1), (39, .getfield 51, 3), (42, .sipush 296, 3), (45, .iaload, 1), (46, .ireturn, 1)]
theorem DX7_back : (eX7_back.all fun q => decide (decode cX7_back q.1 = .ok q.2)) = true := by decide +kernel
def fX7_back (S : List Sh) (mm : Mm) (x0 : Nat) : Option (Int32 × Mm) := gd S x0 7 (gd S (rf S mm x0 5) 0 (if ¬ (mm.1 (rf S mm x0 5) 2) = 0 then (bd1 (cpA S mm (rf S mm (rf S mm x0 5) 1) 0 (rf S mm x0 6) 0 297) fun m2 => bd1 (fX0_forgetSteps S m2 (rf S m2 x0 5)) fun m3 => bd1 (ldA S 0 m3 (rf S m3 x0 6) 296) fun a4 => some (a4, m3)) else (some ((-1), mm))))
set_option maxHeartbeats 1000000 in
theorem mX7_back {l : Launch} {E : Ev} {S : List Sh} {mm : Mm} {x0 : Nat} {r : Int32 × Mm} (h : fX7_back S mm x0 = some r) : Ml l E S yX7_back cX7_back 1 (some .int) 1 40 [.ref (E.2.2 x0)] mm (some (.int r.1)) r.2 := by
  refine Ml.of (by decide +kernel) (Nat.le_of_ble_eq_true rfl) (fun G C hQ => ?_)
  have C : Cx G E cX7_back 1 RX7 (some .int) 1 40 := C
  unfold fX7_back at h
  obtain ⟨g0, h⟩ := gd_some h
  show WM G l E S 0 [(0, .ref (E.2.2 x0))] [] mm
  refine x_aload_n C (dq DX7_back 0 rfl) rfl 0 rfl ?_
  refine getX7_47 C (dq DX7_back 1 rfl) g0 ?_
  obtain ⟨g1, h⟩ := gd_some h
  refine getX7_117 C (dq DX7_back 2 rfl) g1 ?_
  refine x_if_ne (tgt := 12) C (dq DX7_back 3 rfl) (by decide) h (fun h => ?_) (fun h => ?_)
  · refine x_pc 12 rfl ?_
    refine x_aload_n C (dq DX7_back 6 rfl) rfl 0 rfl ?_
    refine getX7_47 C (dq DX7_back 7 rfl) g0 ?_
    refine getX7_273 C (dq DX7_back 8 rfl) g1 ?_
    refine x_iconst (v := 0) C (dq DX7_back 9 rfl) (by decide) ?_
    refine x_aload_n C (dq DX7_back 10 rfl) rfl 0 rfl ?_
    refine x_pc 21 rfl ?_
    refine getX7_51 C (dq DX7_back 11 rfl) g0 ?_
    refine x_iconst (v := 0) C (dq DX7_back 12 rfl) (by decide) ?_
    refine x_sipush (v := 297) C (dq DX7_back 13 rfl) (by decide) ?_
    refine callX7_108 C (dq DX7_back 14 rfl) (by decide) (Nat.le_of_ble_eq_true rfl) h (fun m2 h => ?_)
    refine x_aload_n C (dq DX7_back 15 rfl) rfl 0 rfl ?_
    refine x_pc 32 rfl ?_
    refine getX7_47 C (dq DX7_back 16 rfl) g0 ?_
    refine callX7_114 C (dq DX7_back 17 rfl) h (by decide) (by decide) (Nat.le_of_ble_eq_true rfl) (fun m3 h => ?_)
    refine x_aload_n C (dq DX7_back 18 rfl) rfl 0 rfl ?_
    refine getX7_51 C (dq DX7_back 19 rfl) g0 ?_
    refine x_sipush (v := 296) C (dq DX7_back 20 rfl) (by decide) ?_
    refine x_pc 45 rfl ?_
    refine x_iald C (dq DX7_back 21 rfl) h (fun a4 h => ?_)
    cases h
    exact x_iret C (dq DX7_back 22 rfl) hQ
  · refine x_pc 10 rfl ?_
    refine x_iconst (v := (-1)) C (dq DX7_back 4 rfl) (by decide) ?_
    cases h
    exact x_iret C (dq DX7_back 5 rfl) hQ
set_option maxHeartbeats 1000000 in
theorem qX7_back {S : List Sh} {mm : Mm} {x0 : Nat} {r : Int32 × Mm} (h : fX7_back S mm x0 = some r) : isC S x0 7 := by
  unfold fX7_back at h
  exact (gd_some h).1
abbrev eX7_askedPause : List (Nat × Instr × Nat) := [(0, .iconst 0, 1), (1, .istore_n 1, 1), (2, .iconst 0, 1), (3, .istore_n 2, 1), (4, .iload_n 2, 1), (5, .aload_n 0, 1), (6, .getfield 61, 3), (9, .getfield 184, 3), (12, .if_icmp .ge 23, 3), (15, .iload_n 1, 1), (16, .aload_n 0, 1), (17, .getfield 51, 3), (20, .bipush 40, 2), (22, .iload_n 2, 1), (23, .iadd, 1), (24, .iaload, 1), (25, .iconst 1, 1), (26, .iand, 1), (27, .iadd, 1), (28, .istore_n 1, 1), (29, .iinc 2 1, 3), (32, .goto (-28), 3), (35, .iload_n 1, 1), (36, .ireturn, 1)]
theorem DX7_askedPause : (eX7_askedPause.all fun q => decide (decode cX7_askedPause q.1 = .ok q.2)) = true := by decide +kernel
def bX7_askedPause_4 (S : List Sh) (mm : Mm) (x0 : Nat) (x1 : Int32) (x2 : Int32) : Option ((Int32 × Int32) ⊕ (Int32)) := gd S (rf S mm x0 8) 1 (if (mm.1 (rf S mm x0 8) 9) ≤ x2 then (some (.inr (x1))) else (bd1 (ldA S 0 mm (rf S mm x0 6) (40 + x2)) fun a2 => some (.inl ((x1 + (a2 &&& 1)), x2 + 1))))
def fX7_askedPause (S : List Sh) (mm : Mm) (x0 : Nat) : Option (Int32) := gd S x0 7 (bd1 (lp (fun s3 => bX7_askedPause_4 S mm x0 s3.1 s3.2) fu (0, 0)) fun y4 => some y4)
set_option maxHeartbeats 1000000 in
theorem tX7_askedPause_4 {G : Gt} {l : Launch} {E : Ev} {S : List Sh} {mm : Mm} {x0 : Nat} {x1 : Int32} {x2 : Int32} {r : (Int32 × Int32) ⊕ (Int32)} (C : Cx G E cX7_askedPause 3 RX7 (some .int) 0 0) (g0 : isC S x0 7) (h : bX7_askedPause_4 S mm x0 x1 x2 = some r) (kb : ∀ z : Int32 × Int32, r = .inl z → WM G l E S 4 [(0, .ref (E.2.2 x0)), (1, .int z.1), (2, .int z.2)] [] mm) (kx : ∀ z : Int32, r = .inr z → WM G l E S 35 [(0, .ref (E.2.2 x0)), (1, .int z)] [] mm) : WM G l E S 4 [(0, .ref (E.2.2 x0)), (1, .int x1), (2, .int x2)] [] mm := by
  unfold bX7_askedPause_4 at h
  refine x_iload_n C (dq DX7_askedPause 4 rfl) rfl 2 rfl ?_
  refine x_aload_n C (dq DX7_askedPause 5 rfl) rfl 0 rfl ?_
  refine getX7_61 C (dq DX7_askedPause 6 rfl) g0 ?_
  obtain ⟨g1, h⟩ := gd_some h
  refine getX7_184 C (dq DX7_askedPause 7 rfl) g1 ?_
  refine x_pc 12 rfl ?_
  refine x_icmp_ge (tgt := 35) C (dq DX7_askedPause 8 rfl) (by decide) h (fun h => ?_) (fun h => ?_)
  · cases h
    exact x_lv [0, 1] rfl (kx (x1) rfl)
  · refine x_iload_n C (dq DX7_askedPause 9 rfl) rfl 1 rfl ?_
    refine x_aload_n C (dq DX7_askedPause 10 rfl) rfl 0 rfl ?_
    refine getX7_51 C (dq DX7_askedPause 11 rfl) g0 ?_
    refine x_bipush (v := 40) C (dq DX7_askedPause 12 rfl) (by decide) ?_
    refine x_pc 22 rfl ?_
    refine x_iload_n C (dq DX7_askedPause 13 rfl) rfl 2 rfl ?_
    refine x_iadd C (dq DX7_askedPause 14 rfl) ?_
    refine x_iald C (dq DX7_askedPause 15 rfl) h (fun a2 h => ?_)
    refine x_iconst (v := 1) C (dq DX7_askedPause 16 rfl) (by decide) ?_
    refine x_iand C (dq DX7_askedPause 17 rfl) ?_
    refine x_pc 27 rfl ?_
    refine x_iadd C (dq DX7_askedPause 18 rfl) ?_
    refine x_istore_n (lv' := [(1, .int (x1 + (a2 &&& 1))), (0, .ref (E.2.2 x0)), (2, .int x2)]) C (dq DX7_askedPause 19 rfl) rfl (by decide) rfl ?_
    refine x_iinc (v := x2 + 1) (lv' := [(2, .int (x2 + 1)), (1, .int (x1 + (a2 &&& 1))), (0, .ref (E.2.2 x0))]) C (dq DX7_askedPause 20 rfl) 2 rfl rfl (by decide) rfl ?_
    refine x_goto (tgt := 4) C (dq DX7_askedPause 21 rfl) (by decide) ?_
    cases h
    exact x_lv [2, 1, 0] rfl (kb ((x1 + (a2 &&& 1)), x2 + 1) rfl)
set_option maxHeartbeats 1000000 in
theorem mX7_askedPause {l : Launch} {E : Ev} {S : List Sh} {mm : Mm} {x0 : Nat} {r : Int32} (h : fX7_askedPause S mm x0 = some r) : Ml l E S yX7_askedPause cX7_askedPause 3 (some .int) 0 0 [.ref (E.2.2 x0)] mm (some (.int r)) mm := by
  refine Ml.of (by decide +kernel) (Nat.le_of_ble_eq_true rfl) (fun G C hQ => ?_)
  have C : Cx G E cX7_askedPause 3 RX7 (some .int) 0 0 := C
  unfold fX7_askedPause at h
  obtain ⟨g0, h⟩ := gd_some h
  show WM G l E S 0 [(0, .ref (E.2.2 x0))] [] mm
  refine x_iconst (v := 0) C (dq DX7_askedPause 0 rfl) (by decide) ?_
  refine x_istore_n (lv' := [(1, .int 0), (0, .ref (E.2.2 x0))]) C (dq DX7_askedPause 1 rfl) rfl (by decide) rfl ?_
  refine x_iconst (v := 0) C (dq DX7_askedPause 2 rfl) (by decide) ?_
  refine x_istore_n (lv' := [(2, .int 0), (1, .int 0), (0, .ref (E.2.2 x0))]) C (dq DX7_askedPause 3 rfl) rfl (by decide) rfl ?_
  refine x_lv [2, 1, 0] rfl ?_
  refine x_loop (s0 := (0, 0)) (fun s3 => WM G l E S 4 [(0, .ref (E.2.2 x0)), (1, .int s3.1), (2, .int s3.2)] [] mm) h (fun s3 r hb kb kx => tX7_askedPause_4 C g0 hb kb (fun y4 hy => ?_))
  have h := kx y4 hy
  clear kx kb hb hy
  refine x_pc 35 rfl ?_
  refine x_iload_n C (dq DX7_askedPause 22 rfl) rfl 1 rfl ?_
  cases h
  exact x_iret C (dq DX7_askedPause 23 rfl) hQ
set_option maxHeartbeats 1000000 in
theorem qX7_askedPause {S : List Sh} {mm : Mm} {x0 : Nat} {r : Int32} (h : fX7_askedPause S mm x0 = some r) : isC S x0 7 := by
  unfold fX7_askedPause at h
  exact (gd_some h).1
abbrev eX7_isLink : List (Nat × Instr × Nat) := [(0, .iload_n 1, 1), (1, .ifCond .lt 18, 3), (4, .iload_n 1, 1), (5, .aload_n 0, 1), (6, .getfield 61, 3), (9, .getfield 184, 3), (12, .if_icmp .ge 7, 3), (15, .iconst 1, 1), (16, .goto 4, 3), (19, .iconst 0, 1), (20, .ireturn, 1)]
theorem DX7_isLink : (eX7_isLink.all fun q => decide (decode cX7_isLink q.1 = .ok q.2)) = true := by decide +kernel
def jX7_isLink_20 (S : List Sh) (mm : Mm) (x0 : Nat) (p0 : Int32) : Option (Int32) := bd1 (okZ p0) fun _ => some p0
def jX7_isLink_19 (S : List Sh) (mm : Mm) (x0 : Nat)  : Option (Int32) := jX7_isLink_20 S mm x0 0
def fX7_isLink (S : List Sh) (mm : Mm) (x0 : Nat) (x1 : Int32) : Option (Int32) := gd S x0 7 (if x1 < 0 then (jX7_isLink_19 S mm x0) else (gd S (rf S mm x0 8) 1 (if (mm.1 (rf S mm x0 8) 9) ≤ x1 then (jX7_isLink_19 S mm x0) else (jX7_isLink_20 S mm x0 1))))
set_option maxHeartbeats 1000000 in
theorem tX7_isLink_20 {G : Gt} {l : Launch} {E : Ev} {S : List Sh} {mm : Mm} {x0 : Nat} {p0 : Int32} {r : Int32} (C : Cx G E cX7_isLink 2 RX7 (some .boolean) 0 0) (g0 : isC S x0 7) (h : jX7_isLink_20 S mm x0 p0 = some r) (hQ : RQ G E S (some (.int r)) mm) : WM G l E S 20 [(0, .ref (E.2.2 x0))] [.int p0] mm := by
  unfold jX7_isLink_20 at h
  refine x_zret C (dq DX7_isLink 10 rfl) h (fun h => ?_)
  cases h
  exact hQ
set_option maxHeartbeats 1000000 in
theorem tX7_isLink_19 {G : Gt} {l : Launch} {E : Ev} {S : List Sh} {mm : Mm} {x0 : Nat}  {r : Int32} (C : Cx G E cX7_isLink 2 RX7 (some .boolean) 0 0) (g0 : isC S x0 7) (h : jX7_isLink_19 S mm x0 = some r) (hQ : RQ G E S (some (.int r)) mm) : WM G l E S 19 [(0, .ref (E.2.2 x0))] [] mm := by
  unfold jX7_isLink_19 at h
  refine x_iconst (v := 0) C (dq DX7_isLink 9 rfl) (by decide) ?_
  exact x_lv [0] rfl (tX7_isLink_20 C g0 h hQ)
set_option maxHeartbeats 1000000 in
theorem mX7_isLink {l : Launch} {E : Ev} {S : List Sh} {mm : Mm} {x0 : Nat} {x1 : Int32} {r : Int32} (h : fX7_isLink S mm x0 x1 = some r) : Ml l E S yX7_isLink cX7_isLink 2 (some .boolean) 0 0 [.ref (E.2.2 x0), .int x1] mm (some (.int r)) mm := by
  refine Ml.of (by decide +kernel) (Nat.le_of_ble_eq_true rfl) (fun G C hQ => ?_)
  have C : Cx G E cX7_isLink 2 RX7 (some .boolean) 0 0 := C
  unfold fX7_isLink at h
  obtain ⟨g0, h⟩ := gd_some h
  show WM G l E S 0 [(0, .ref (E.2.2 x0)), (1, .int x1)] [] mm
  refine x_iload_n C (dq DX7_isLink 0 rfl) rfl 1 rfl ?_
  refine x_if_lt (tgt := 19) C (dq DX7_isLink 1 rfl) (by decide) h (fun h => ?_) (fun h => ?_)
  · exact x_lv [0] rfl (tX7_isLink_19 C g0 h hQ)
  · refine x_iload_n C (dq DX7_isLink 2 rfl) rfl 1 rfl ?_
    refine x_aload_n C (dq DX7_isLink 3 rfl) rfl 0 rfl ?_
    refine x_pc 6 rfl ?_
    refine getX7_61 C (dq DX7_isLink 4 rfl) g0 ?_
    obtain ⟨g1, h⟩ := gd_some h
    refine getX7_184 C (dq DX7_isLink 5 rfl) g1 ?_
    refine x_icmp_ge (tgt := 19) C (dq DX7_isLink 6 rfl) (by decide) h (fun h => ?_) (fun h => ?_)
    · exact x_lv [0] rfl (tX7_isLink_19 C g0 h hQ)
    · refine x_iconst (v := 1) C (dq DX7_isLink 7 rfl) (by decide) ?_
      refine x_goto (tgt := 20) C (dq DX7_isLink 8 rfl) (by decide) ?_
      exact x_lv [0] rfl (tX7_isLink_20 C g0 h hQ)
set_option maxHeartbeats 1000000 in
theorem qX7_isLink {S : List Sh} {mm : Mm} {x0 : Nat} {x1 : Int32} {r : Int32} (h : fX7_isLink S mm x0 x1 = some r) : isC S x0 7 := by
  unfold fX7_isLink at h
  exact (gd_some h).1
theorem callX7_128 {G : Gt} {l : Launch} {E : Ev} {S : List Sh} {cc : ByteArray} {nL : Nat} {rt : Option FieldType} {fr lo : Nat} {pc : Nat} {lv : List (Nat × Value)} {rest : List Value} {mm : Mm} {α : Type} {f : Mm → Option α} {r : α} {o : Nat} {a0 : Nat} (C : Cx G E cc nL RX7 rt fr lo) (d : decode cc pc = .ok (.invokevirtual 128, 3)) (h : bd1 (fX0_push S mm o a0) f = some r) (hfr : 2 ≤ fr) (hlo : 61 ≤ lo) (hrs : (rest.map fun v => v.category).sum ≤ 8) (k : ∀ m1, f m1 = some r → WM G l E S (pc + 3) lv rest m1) : WM G l E S pc lv (.ref (E.2.2 a0) :: .ref (E.2.2 o) :: rest) mm := by
  obtain ⟨m1, hv, hf⟩ := bd1_some h
  exact x_callV (n := 1) (As := [.ref (E.2.2 a0)]) (rest := rest) C (mX0_push hv) (qX0_push hv) (T := TX0) (N := 5) rfl (gmem 426 (by decide +kernel) rfl) (gmem 427 (by decide +kernel) rfl) (gmem 428 (by decide +kernel) rfl) (gmem 7 (by decide +kernel) rfl) (gmem 429 (by decide +kernel) rfl) (by decide +kernel) rfl hfr hlo hrs d rfl rfl (k m1 hf)
theorem callX7_140 {G : Gt} {l : Launch} {E : Ev} {S : List Sh} {cc : ByteArray} {nL : Nat} {rt : Option FieldType} {fr lo : Nat} {pc : Nat} {lv : List (Nat × Value)} {rest : List Value} {mm : Mm} {α : Type} {f : Int32 → Option α} {r : α} {o : Nat} {a0 : Int32} (C : Cx G E cc nL RX7 rt fr lo) (d : decode cc pc = .ok (.invokevirtual 140, 3)) (h : bd1 (fX7_isLink S mm o a0) f = some r) (hfr : 1 ≤ fr) (hlo : 21 ≤ lo) (hrs : (rest.map fun v => v.category).sum ≤ 8) (k : ∀ v, f v = some r → WM G l E S (pc + 3) lv (.int v :: rest) mm) : WM G l E S pc lv (.int a0 :: .ref (E.2.2 o) :: rest) mm := by
  obtain ⟨v, hv, hf⟩ := bd1_some h
  exact x_callV (n := 1) (As := [.int a0]) (rest := rest) C (mX7_isLink hv) (qX7_isLink hv) (T := TX7) (N := 12) rfl (gmem 514 (by decide +kernel) rfl) (gmem 516 (by decide +kernel) rfl) (gmemS 24 (by decide +kernel) rfl) (gmem 1 (by decide +kernel) rfl) (gmem 517 (by decide +kernel) rfl) (by decide +kernel) rfl hfr hlo hrs d rfl rfl (k v hf)
abbrev eX7_bounds : List (Nat × Instr × Nat) := [(0, .aload_n 0, 1), (1, .iload_n 1, 1), (2, .invokevirtual 140, 3), (5, .ifCond .eq 31, 3), (8, .iload_n 2, 1), (9, .iconst 1, 1), (10, .if_icmp .lt 26, 3), (13, .iload_n 2, 1), (14, .sipush 999, 3), (17, .if_icmp .gt 19, 3), (20, .iload_n 3, 1), (21, .ifCond .lt 15, 3), (24, .iload_n 3, 1), (25, .sipush 998, 3), (28, .if_icmp .gt 8, 3), (31, .iload_n 3, 1), (32, .iload_n 2, 1), (33, .if_icmp .lt 5, 3), (36, .iconst 0, 1), (37, .ireturn, 1), (38, .aload_n 0, 1), (39, .getfield 47, 3), (42, .aload_n 0, 1), (43, .getfield 51, 3), (46, .invokevirtual 128, 3), (49, .aload_n 0, 1), (50, .getfield 51, 3), (53, .iconst 0, 1), (54, .iload_n 1, 1), (55, .iadd, 1), (56, .iload_n 2, 1), (57, .iastore, 1), (58, .aload_n 0, 1), (59, .getfield 51, 3), (62, .bipush 10, 2), (64, .iload_n 1, 1), (65, .iadd, 1), (66, .iload_n 3, 1), (67, .iastore, 1), (68, .iconst 1, 1), (69, .ireturn, 1)]
theorem DX7_bounds : (eX7_bounds.all fun q => decide (decode cX7_bounds q.1 = .ok q.2)) = true := by decide +kernel
def jX7_bounds_36 (S : List Sh) (mm : Mm) (x0 : Nat)  : Option (Int32 × Mm) := bd1 (okZ 0) fun _ => some (0, mm)
def fX7_bounds (S : List Sh) (mm : Mm) (x0 : Nat) (x1 : Int32) (x2 : Int32) (x3 : Int32) : Option (Int32 × Mm) := gd S x0 7 (bd1 (fX7_isLink S mm x0 x1) fun a1 => if a1 = 0 then (jX7_bounds_36 S mm x0) else (if x2 < 1 then (jX7_bounds_36 S mm x0) else (if 999 < x2 then (jX7_bounds_36 S mm x0) else (if x3 < 0 then (jX7_bounds_36 S mm x0) else (if 998 < x3 then (jX7_bounds_36 S mm x0) else (if x3 < x2 then (bd1 (fX0_push S mm (rf S mm x0 5) (rf S mm x0 6)) fun m2 => bd1 (stA S 0 m2 (rf S m2 x0 6) (0 + x1) x2) fun m3 => bd1 (stA S 0 m3 (rf S m3 x0 6) (10 + x1) x3) fun m4 => bd1 (okZ 1) fun _ => some (1, m4)) else (jX7_bounds_36 S mm x0)))))))
set_option maxHeartbeats 1000000 in
theorem tX7_bounds_36 {G : Gt} {l : Launch} {E : Ev} {S : List Sh} {mm : Mm} {x0 : Nat}  {r : Int32 × Mm} (C : Cx G E cX7_bounds 4 RX7 (some .boolean) 2 61) (g0 : isC S x0 7) (h : jX7_bounds_36 S mm x0 = some r) (hQ : RQ G E S (some (.int r.1)) r.2) : WM G l E S 36 [(0, .ref (E.2.2 x0))] [] mm := by
  unfold jX7_bounds_36 at h
  refine x_iconst (v := 0) C (dq DX7_bounds 18 rfl) (by decide) ?_
  refine x_zret C (dq DX7_bounds 19 rfl) h (fun h => ?_)
  cases h
  exact hQ
set_option maxHeartbeats 1000000 in
theorem mX7_bounds {l : Launch} {E : Ev} {S : List Sh} {mm : Mm} {x0 : Nat} {x1 : Int32} {x2 : Int32} {x3 : Int32} {r : Int32 × Mm} (h : fX7_bounds S mm x0 x1 x2 x3 = some r) : Ml l E S yX7_bounds cX7_bounds 4 (some .boolean) 2 61 [.ref (E.2.2 x0), .int x1, .int x2, .int x3] mm (some (.int r.1)) r.2 := by
  refine Ml.of (by decide +kernel) (Nat.le_of_ble_eq_true rfl) (fun G C hQ => ?_)
  have C : Cx G E cX7_bounds 4 RX7 (some .boolean) 2 61 := C
  unfold fX7_bounds at h
  obtain ⟨g0, h⟩ := gd_some h
  show WM G l E S 0 [(0, .ref (E.2.2 x0)), (1, .int x1), (2, .int x2), (3, .int x3)] [] mm
  refine x_aload_n C (dq DX7_bounds 0 rfl) rfl 0 rfl ?_
  refine x_iload_n C (dq DX7_bounds 1 rfl) rfl 1 rfl ?_
  refine callX7_140 C (dq DX7_bounds 2 rfl) h (by decide) (by decide) (Nat.le_of_ble_eq_true rfl) (fun a1 h => ?_)
  refine x_if_eq (tgt := 36) C (dq DX7_bounds 3 rfl) (by decide) h (fun h => ?_) (fun h => ?_)
  · exact x_lv [0] rfl (tX7_bounds_36 C g0 h hQ)
  · refine x_pc 8 rfl ?_
    refine x_iload_n C (dq DX7_bounds 4 rfl) rfl 2 rfl ?_
    refine x_iconst (v := 1) C (dq DX7_bounds 5 rfl) (by decide) ?_
    refine x_icmp_lt (tgt := 36) C (dq DX7_bounds 6 rfl) (by decide) h (fun h => ?_) (fun h => ?_)
    · exact x_lv [0] rfl (tX7_bounds_36 C g0 h hQ)
    · refine x_iload_n C (dq DX7_bounds 7 rfl) rfl 2 rfl ?_
      refine x_sipush (v := 999) C (dq DX7_bounds 8 rfl) (by decide) ?_
      refine x_pc 17 rfl ?_
      refine x_icmp_gt (tgt := 36) C (dq DX7_bounds 9 rfl) (by decide) h (fun h => ?_) (fun h => ?_)
      · exact x_lv [0] rfl (tX7_bounds_36 C g0 h hQ)
      · refine x_iload_n C (dq DX7_bounds 10 rfl) rfl 3 rfl ?_
        refine x_if_lt (tgt := 36) C (dq DX7_bounds 11 rfl) (by decide) h (fun h => ?_) (fun h => ?_)
        · exact x_lv [0] rfl (tX7_bounds_36 C g0 h hQ)
        · refine x_iload_n C (dq DX7_bounds 12 rfl) rfl 3 rfl ?_
          refine x_sipush (v := 998) C (dq DX7_bounds 13 rfl) (by decide) ?_
          refine x_pc 28 rfl ?_
          refine x_icmp_gt (tgt := 36) C (dq DX7_bounds 14 rfl) (by decide) h (fun h => ?_) (fun h => ?_)
          · exact x_lv [0] rfl (tX7_bounds_36 C g0 h hQ)
          · refine x_iload_n C (dq DX7_bounds 15 rfl) rfl 3 rfl ?_
            refine x_iload_n C (dq DX7_bounds 16 rfl) rfl 2 rfl ?_
            refine x_icmp_lt (tgt := 38) C (dq DX7_bounds 17 rfl) (by decide) h (fun h => ?_) (fun h => ?_)
            · refine x_aload_n C (dq DX7_bounds 20 rfl) rfl 0 rfl ?_
              refine x_pc 39 rfl ?_
              refine getX7_47 C (dq DX7_bounds 21 rfl) g0 ?_
              refine x_aload_n C (dq DX7_bounds 22 rfl) rfl 0 rfl ?_
              refine getX7_51 C (dq DX7_bounds 23 rfl) g0 ?_
              refine callX7_128 C (dq DX7_bounds 24 rfl) h (by decide) (by decide) (Nat.le_of_ble_eq_true rfl) (fun m2 h => ?_)
              refine x_aload_n C (dq DX7_bounds 25 rfl) rfl 0 rfl ?_
              refine x_pc 50 rfl ?_
              refine getX7_51 C (dq DX7_bounds 26 rfl) g0 ?_
              refine x_iconst (v := 0) C (dq DX7_bounds 27 rfl) (by decide) ?_
              refine x_iload_n C (dq DX7_bounds 28 rfl) rfl 1 rfl ?_
              refine x_iadd C (dq DX7_bounds 29 rfl) ?_
              refine x_iload_n C (dq DX7_bounds 30 rfl) rfl 2 rfl ?_
              refine x_pc 57 rfl ?_
              refine x_iast C (dq DX7_bounds 31 rfl) h (fun m3 h => ?_)
              refine x_aload_n C (dq DX7_bounds 32 rfl) rfl 0 rfl ?_
              refine getX7_51 C (dq DX7_bounds 33 rfl) g0 ?_
              refine x_bipush (v := 10) C (dq DX7_bounds 34 rfl) (by decide) ?_
              refine x_iload_n C (dq DX7_bounds 35 rfl) rfl 1 rfl ?_
              refine x_pc 65 rfl ?_
              refine x_iadd C (dq DX7_bounds 36 rfl) ?_
              refine x_iload_n C (dq DX7_bounds 37 rfl) rfl 3 rfl ?_
              refine x_iast C (dq DX7_bounds 38 rfl) h (fun m4 h => ?_)
              refine x_iconst (v := 1) C (dq DX7_bounds 39 rfl) (by decide) ?_
              refine x_zret C (dq DX7_bounds 40 rfl) h (fun h => ?_)
              cases h
              exact hQ
            · exact x_lv [0] rfl (tX7_bounds_36 C g0 h hQ)
set_option maxHeartbeats 1000000 in
theorem qX7_bounds {S : List Sh} {mm : Mm} {x0 : Nat} {x1 : Int32} {x2 : Int32} {x3 : Int32} {r : Int32 × Mm} (h : fX7_bounds S mm x0 x1 x2 x3 = some r) : isC S x0 7 := by
  unfold fX7_bounds at h
  exact (gd_some h).1
abbrev eX7_size : List (Nat × Instr × Nat) := [(0, .aload_n 0, 1), (1, .iload_n 1, 1), (2, .invokevirtual 140, 3), (5, .ifCond .eq 15, 3), (8, .iload_n 2, 1), (9, .iconst 1, 1), (10, .if_icmp .lt 10, 3), (13, .iload_n 2, 1), (14, .sipush 1999, 3), (17, .if_icmp .le 5, 3), (20, .iconst (-1), 1), (21, .ireturn, 1), (22, .aload_n 0, 1), (23, .getfield 47, 3), (26, .aload_n 0, 1), (27, .getfield 51, 3), (30, .invokevirtual 128, 3), (33, .aload_n 0, 1), (34, .getfield 51, 3), (37, .bipush 20, 2), (39, .iload_n 1, 1), (40, .iadd, 1), (41, .iaload, 1), (42, .istore_n 3, 1), (43, .aload_n 0, 1), (44, .getfield 51, 3), (47, .bipush 20, 2), (49, .iload_n 1, 1), (50, .iadd, 1), (51, .iload_n 2, 1), (52, .iastore, 1), (53, .iload_n 3, 1), (54, .ireturn, 1)]
theorem DX7_size : (eX7_size.all fun q => decide (decode cX7_size q.1 = .ok q.2)) = true := by decide +kernel
def jX7_size_20 (S : List Sh) (mm : Mm) (x0 : Nat)  : Option (Int32 × Mm) := some ((-1), mm)
def fX7_size (S : List Sh) (mm : Mm) (x0 : Nat) (x1 : Int32) (x2 : Int32) : Option (Int32 × Mm) := gd S x0 7 (bd1 (fX7_isLink S mm x0 x1) fun a1 => if a1 = 0 then (jX7_size_20 S mm x0) else (if x2 < 1 then (jX7_size_20 S mm x0) else (if x2 ≤ 1999 then (bd1 (fX0_push S mm (rf S mm x0 5) (rf S mm x0 6)) fun m2 => bd1 (ldA S 0 m2 (rf S m2 x0 6) (20 + x1)) fun a3 => bd1 (stA S 0 m2 (rf S m2 x0 6) (20 + x1) x2) fun m4 => some (a3, m4)) else (jX7_size_20 S mm x0))))
set_option maxHeartbeats 1000000 in
theorem tX7_size_20 {G : Gt} {l : Launch} {E : Ev} {S : List Sh} {mm : Mm} {x0 : Nat}  {r : Int32 × Mm} (C : Cx G E cX7_size 4 RX7 (some .int) 2 61) (g0 : isC S x0 7) (h : jX7_size_20 S mm x0 = some r) (hQ : RQ G E S (some (.int r.1)) r.2) : WM G l E S 20 [(0, .ref (E.2.2 x0))] [] mm := by
  unfold jX7_size_20 at h
  refine x_iconst (v := (-1)) C (dq DX7_size 10 rfl) (by decide) ?_
  cases h
  exact x_iret C (dq DX7_size 11 rfl) hQ
set_option maxHeartbeats 1000000 in
theorem mX7_size {l : Launch} {E : Ev} {S : List Sh} {mm : Mm} {x0 : Nat} {x1 : Int32} {x2 : Int32} {r : Int32 × Mm} (h : fX7_size S mm x0 x1 x2 = some r) : Ml l E S yX7_size cX7_size 4 (some .int) 2 61 [.ref (E.2.2 x0), .int x1, .int x2] mm (some (.int r.1)) r.2 := by
  refine Ml.of (by decide +kernel) (Nat.le_of_ble_eq_true rfl) (fun G C hQ => ?_)
  have C : Cx G E cX7_size 4 RX7 (some .int) 2 61 := C
  unfold fX7_size at h
  obtain ⟨g0, h⟩ := gd_some h
  show WM G l E S 0 [(0, .ref (E.2.2 x0)), (1, .int x1), (2, .int x2)] [] mm
  refine x_aload_n C (dq DX7_size 0 rfl) rfl 0 rfl ?_
  refine x_iload_n C (dq DX7_size 1 rfl) rfl 1 rfl ?_
  refine callX7_140 C (dq DX7_size 2 rfl) h (by decide) (by decide) (Nat.le_of_ble_eq_true rfl) (fun a1 h => ?_)
  refine x_if_eq (tgt := 20) C (dq DX7_size 3 rfl) (by decide) h (fun h => ?_) (fun h => ?_)
  · exact x_lv [0] rfl (tX7_size_20 C g0 h hQ)
  · refine x_pc 8 rfl ?_
    refine x_iload_n C (dq DX7_size 4 rfl) rfl 2 rfl ?_
    refine x_iconst (v := 1) C (dq DX7_size 5 rfl) (by decide) ?_
    refine x_icmp_lt (tgt := 20) C (dq DX7_size 6 rfl) (by decide) h (fun h => ?_) (fun h => ?_)
    · exact x_lv [0] rfl (tX7_size_20 C g0 h hQ)
    · refine x_iload_n C (dq DX7_size 7 rfl) rfl 2 rfl ?_
      refine x_sipush (v := 1999) C (dq DX7_size 8 rfl) (by decide) ?_
      refine x_pc 17 rfl ?_
      refine x_icmp_le (tgt := 22) C (dq DX7_size 9 rfl) (by decide) h (fun h => ?_) (fun h => ?_)
      · refine x_aload_n C (dq DX7_size 12 rfl) rfl 0 rfl ?_
        refine getX7_47 C (dq DX7_size 13 rfl) g0 ?_
        refine x_aload_n C (dq DX7_size 14 rfl) rfl 0 rfl ?_
        refine getX7_51 C (dq DX7_size 15 rfl) g0 ?_
        refine x_pc 30 rfl ?_
        refine callX7_128 C (dq DX7_size 16 rfl) h (by decide) (by decide) (Nat.le_of_ble_eq_true rfl) (fun m2 h => ?_)
        refine x_aload_n C (dq DX7_size 17 rfl) rfl 0 rfl ?_
        refine getX7_51 C (dq DX7_size 18 rfl) g0 ?_
        refine x_bipush (v := 20) C (dq DX7_size 19 rfl) (by decide) ?_
        refine x_iload_n C (dq DX7_size 20 rfl) rfl 1 rfl ?_
        refine x_pc 40 rfl ?_
        refine x_iadd C (dq DX7_size 21 rfl) ?_
        refine x_iald C (dq DX7_size 22 rfl) h (fun a3 h => ?_)
        refine x_istore_n (lv' := [(3, .int a3), (0, .ref (E.2.2 x0)), (1, .int x1), (2, .int x2)]) C (dq DX7_size 23 rfl) rfl (by decide) rfl ?_
        refine x_aload_n C (dq DX7_size 24 rfl) rfl 1 rfl ?_
        refine getX7_51 C (dq DX7_size 25 rfl) g0 ?_
        refine x_pc 47 rfl ?_
        refine x_bipush (v := 20) C (dq DX7_size 26 rfl) (by decide) ?_
        refine x_iload_n C (dq DX7_size 27 rfl) rfl 2 rfl ?_
        refine x_iadd C (dq DX7_size 28 rfl) ?_
        refine x_iload_n C (dq DX7_size 29 rfl) rfl 3 rfl ?_
        refine x_iast C (dq DX7_size 30 rfl) h (fun m4 h => ?_)
        refine x_pc 53 rfl ?_
        refine x_iload_n C (dq DX7_size 31 rfl) rfl 0 rfl ?_
        cases h
        exact x_iret C (dq DX7_size 32 rfl) hQ
      · exact x_lv [0] rfl (tX7_size_20 C g0 h hQ)
set_option maxHeartbeats 1000000 in
theorem qX7_size {S : List Sh} {mm : Mm} {x0 : Nat} {x1 : Int32} {x2 : Int32} {r : Int32 × Mm} (h : fX7_size S mm x0 x1 x2 = some r) : isC S x0 7 := by
  unfold fX7_size at h
  exact (gd_some h).1
theorem callX7_171 {G : Gt} {l : Launch} {E : Ev} {S : List Sh} {cc : ByteArray} {nL : Nat} {rt : Option FieldType} {fr lo : Nat} {pc : Nat} {lv : List (Nat × Value)} {rest : List Value} {mm : Mm} {α : Type} {f : Int32 → Option α} {r : α} {o : Nat} {a0 : Nat} {a1 : Int32} (C : Cx G E cc nL RX7 rt fr lo) (d : decode cc pc = .ok (.invokevirtual 171, 3)) (h : bd1 (fX1_feedbackOf S mm o a0 a1) f = some r) (hfr : 1 ≤ fr) (hlo : 23 ≤ lo) (hrs : (rest.map fun v => v.category).sum ≤ 8) (k : ∀ v, f v = some r → WM G l E S (pc + 3) lv (.int v :: rest) mm) : WM G l E S pc lv (.int a1 :: .ref (E.2.2 a0) :: .ref (E.2.2 o) :: rest) mm := by
  obtain ⟨v, hv, hf⟩ := bd1_some h
  exact x_callV (n := 2) (As := [.ref (E.2.2 a0), .int a1]) (rest := rest) C (mX1_feedbackOf hv) (qX1_feedbackOf hv) (T := TX1) (N := 11) rfl (gmem 538 (by decide +kernel) rfl) (gmem 479 (by decide +kernel) rfl) (gmem 480 (by decide +kernel) rfl) (gmem 8 (by decide +kernel) rfl) (gmem 481 (by decide +kernel) rfl) (by decide +kernel) rfl hfr hlo hrs d rfl rfl (k v hf)
abbrev eX7_feedback : List (Nat × Instr × Nat) := [(0, .aload_n 0, 1), (1, .iload_n 1, 1), (2, .invokevirtual 140, 3), (5, .ifCond .eq 18, 3), (8, .aload_n 0, 1), (9, .getfield 61, 3), (12, .aload_n 0, 1), (13, .getfield 51, 3), (16, .iload_n 1, 1), (17, .invokevirtual 171, 3), (20, .goto 5, 3), (23, .ldc 177, 2), (25, .ireturn, 1)]
theorem DX7_feedback : (eX7_feedback.all fun q => decide (decode cX7_feedback q.1 = .ok q.2)) = true := by decide +kernel
def jX7_feedback_25 (S : List Sh) (mm : Mm) (x0 : Nat) (p0 : Int32) : Option (Int32) := some p0
def fX7_feedback (S : List Sh) (mm : Mm) (x0 : Nat) (x1 : Int32) : Option (Int32) := gd S x0 7 (bd1 (fX7_isLink S mm x0 x1) fun a1 => if a1 = 0 then (jX7_feedback_25 S mm x0 (-2147483648)) else (bd1 (fX1_feedbackOf S mm (rf S mm x0 8) (rf S mm x0 6) x1) fun a2 => jX7_feedback_25 S mm x0 a2))
set_option maxHeartbeats 1000000 in
theorem tX7_feedback_25 {G : Gt} {l : Launch} {E : Ev} {S : List Sh} {mm : Mm} {x0 : Nat} {p0 : Int32} {r : Int32} (C : Cx G E cX7_feedback 2 RX7 (some .int) 1 23) (g0 : isC S x0 7) (h : jX7_feedback_25 S mm x0 p0 = some r) (hQ : RQ G E S (some (.int r)) mm) : WM G l E S 25 [(0, .ref (E.2.2 x0))] [.int p0] mm := by
  unfold jX7_feedback_25 at h
  cases h
  exact x_iret C (dq DX7_feedback 12 rfl) hQ
set_option maxHeartbeats 1000000 in
theorem mX7_feedback {l : Launch} {E : Ev} {S : List Sh} {mm : Mm} {x0 : Nat} {x1 : Int32} {r : Int32} (h : fX7_feedback S mm x0 x1 = some r) : Ml l E S yX7_feedback cX7_feedback 2 (some .int) 1 23 [.ref (E.2.2 x0), .int x1] mm (some (.int r)) mm := by
  refine Ml.of (by decide +kernel) (Nat.le_of_ble_eq_true rfl) (fun G C hQ => ?_)
  have C : Cx G E cX7_feedback 2 RX7 (some .int) 1 23 := C
  unfold fX7_feedback at h
  obtain ⟨g0, h⟩ := gd_some h
  show WM G l E S 0 [(0, .ref (E.2.2 x0)), (1, .int x1)] [] mm
  refine x_aload_n C (dq DX7_feedback 0 rfl) rfl 0 rfl ?_
  refine x_iload_n C (dq DX7_feedback 1 rfl) rfl 1 rfl ?_
  refine callX7_140 C (dq DX7_feedback 2 rfl) h (by decide) (by decide) (Nat.le_of_ble_eq_true rfl) (fun a1 h => ?_)
  refine x_if_eq (tgt := 23) C (dq DX7_feedback 3 rfl) (by decide) h (fun h => ?_) (fun h => ?_)
  · refine x_pc 23 rfl ?_
    refine x_ldc (v := (-2147483648)) C (dq DX7_feedback 11 rfl) (gmem 539 (by decide +kernel) rfl) ?_
    exact x_lv [0] rfl (tX7_feedback_25 C g0 h hQ)
  · refine x_pc 8 rfl ?_
    refine x_aload_n C (dq DX7_feedback 4 rfl) rfl 0 rfl ?_
    refine getX7_61 C (dq DX7_feedback 5 rfl) g0 ?_
    refine x_aload_n C (dq DX7_feedback 6 rfl) rfl 0 rfl ?_
    refine getX7_51 C (dq DX7_feedback 7 rfl) g0 ?_
    refine x_iload_n C (dq DX7_feedback 8 rfl) rfl 1 rfl ?_
    refine x_pc 17 rfl ?_
    refine callX7_171 C (dq DX7_feedback 9 rfl) h (by decide) (by decide) (Nat.le_of_ble_eq_true rfl) (fun a2 h => ?_)
    refine x_goto (tgt := 25) C (dq DX7_feedback 10 rfl) (by decide) ?_
    exact x_lv [0] rfl (tX7_feedback_25 C g0 h hQ)
set_option maxHeartbeats 1000000 in
theorem qX7_feedback {S : List Sh} {mm : Mm} {x0 : Nat} {x1 : Int32} {r : Int32} (h : fX7_feedback S mm x0 x1 = some r) : isC S x0 7 := by
  unfold fX7_feedback at h
  exact (gd_some h).1
theorem callX7_178 {G : Gt} {l : Launch} {E : Ev} {S : List Sh} {cc : ByteArray} {nL : Nat} {rt : Option FieldType} {fr lo : Nat} {pc : Nat} {lv : List (Nat × Value)} {rest : List Value} {mm : Mm} {α : Type} {f : Int32 → Option α} {r : α} {o : Nat} {a0 : Int32} (C : Cx G E cc nL RX7 rt fr lo) (d : decode cc pc = .ok (.invokevirtual 178, 3)) (h : bd1 (fX1_noticeOf S mm o a0) f = some r) (hfr : 2 ≤ fr) (hlo : 51 ≤ lo) (hrs : (rest.map fun v => v.category).sum ≤ 8) (k : ∀ v, f v = some r → WM G l E S (pc + 3) lv (.int v :: rest) mm) : WM G l E S pc lv (.int a0 :: .ref (E.2.2 o) :: rest) mm := by
  obtain ⟨v, hv, hf⟩ := bd1_some h
  exact x_callV (n := 1) (As := [.int a0]) (rest := rest) C (mX1_noticeOf hv) (qX1_noticeOf hv) (T := TX1) (N := 11) rfl (gmem 544 (by decide +kernel) rfl) (gmem 483 (by decide +kernel) rfl) (gmem 484 (by decide +kernel) rfl) (gmem 8 (by decide +kernel) rfl) (gmem 485 (by decide +kernel) rfl) (by decide +kernel) rfl hfr hlo hrs d rfl rfl (k v hf)
abbrev eX7_notice : List (Nat × Instr × Nat) := [(0, .aload_n 0, 1), (1, .iload_n 1, 1), (2, .invokevirtual 140, 3), (5, .ifCond .eq 25, 3), (8, .aload_n 0, 1), (9, .getfield 61, 3), (12, .aload_n 0, 1), (13, .getfield 61, 3), (16, .aload_n 0, 1), (17, .getfield 51, 3), (20, .iload_n 1, 1), (21, .invokevirtual 171, 3), (24, .invokevirtual 178, 3), (27, .goto 4, 3), (30, .iconst (-1), 1), (31, .ireturn, 1)]
theorem DX7_notice : (eX7_notice.all fun q => decide (decode cX7_notice q.1 = .ok q.2)) = true := by decide +kernel
def jX7_notice_31 (S : List Sh) (mm : Mm) (x0 : Nat) (p0 : Int32) : Option (Int32) := some p0
def fX7_notice (S : List Sh) (mm : Mm) (x0 : Nat) (x1 : Int32) : Option (Int32) := gd S x0 7 (bd1 (fX7_isLink S mm x0 x1) fun a1 => if a1 = 0 then (jX7_notice_31 S mm x0 (-1)) else (bd1 (fX1_feedbackOf S mm (rf S mm x0 8) (rf S mm x0 6) x1) fun a2 => bd1 (fX1_noticeOf S mm (rf S mm x0 8) a2) fun a3 => jX7_notice_31 S mm x0 a3))
set_option maxHeartbeats 1000000 in
theorem tX7_notice_31 {G : Gt} {l : Launch} {E : Ev} {S : List Sh} {mm : Mm} {x0 : Nat} {p0 : Int32} {r : Int32} (C : Cx G E cX7_notice 2 RX7 (some .int) 2 51) (g0 : isC S x0 7) (h : jX7_notice_31 S mm x0 p0 = some r) (hQ : RQ G E S (some (.int r)) mm) : WM G l E S 31 [(0, .ref (E.2.2 x0))] [.int p0] mm := by
  unfold jX7_notice_31 at h
  cases h
  exact x_iret C (dq DX7_notice 15 rfl) hQ
set_option maxHeartbeats 1000000 in
theorem mX7_notice {l : Launch} {E : Ev} {S : List Sh} {mm : Mm} {x0 : Nat} {x1 : Int32} {r : Int32} (h : fX7_notice S mm x0 x1 = some r) : Ml l E S yX7_notice cX7_notice 2 (some .int) 2 51 [.ref (E.2.2 x0), .int x1] mm (some (.int r)) mm := by
  refine Ml.of (by decide +kernel) (Nat.le_of_ble_eq_true rfl) (fun G C hQ => ?_)
  have C : Cx G E cX7_notice 2 RX7 (some .int) 2 51 := C
  unfold fX7_notice at h
  obtain ⟨g0, h⟩ := gd_some h
  show WM G l E S 0 [(0, .ref (E.2.2 x0)), (1, .int x1)] [] mm
  refine x_aload_n C (dq DX7_notice 0 rfl) rfl 0 rfl ?_
  refine x_iload_n C (dq DX7_notice 1 rfl) rfl 1 rfl ?_
  refine callX7_140 C (dq DX7_notice 2 rfl) h (by decide) (by decide) (Nat.le_of_ble_eq_true rfl) (fun a1 h => ?_)
  refine x_if_eq (tgt := 30) C (dq DX7_notice 3 rfl) (by decide) h (fun h => ?_) (fun h => ?_)
  · refine x_pc 30 rfl ?_
    refine x_iconst (v := (-1)) C (dq DX7_notice 14 rfl) (by decide) ?_
    exact x_lv [0] rfl (tX7_notice_31 C g0 h hQ)
  · refine x_pc 8 rfl ?_
    refine x_aload_n C (dq DX7_notice 4 rfl) rfl 0 rfl ?_
    refine getX7_61 C (dq DX7_notice 5 rfl) g0 ?_
    refine x_aload_n C (dq DX7_notice 6 rfl) rfl 0 rfl ?_
    refine getX7_61 C (dq DX7_notice 7 rfl) g0 ?_
    refine x_aload_n C (dq DX7_notice 8 rfl) rfl 0 rfl ?_
    refine x_pc 17 rfl ?_
    refine getX7_51 C (dq DX7_notice 9 rfl) g0 ?_
    refine x_iload_n C (dq DX7_notice 10 rfl) rfl 1 rfl ?_
    refine callX7_171 C (dq DX7_notice 11 rfl) h (by decide) (by decide) (Nat.le_of_ble_eq_true rfl) (fun a2 h => ?_)
    refine callX7_178 C (dq DX7_notice 12 rfl) h (by decide) (by decide) (Nat.le_of_ble_eq_true rfl) (fun a3 h => ?_)
    refine x_goto (tgt := 31) C (dq DX7_notice 13 rfl) (by decide) ?_
    exact x_lv [0] rfl (tX7_notice_31 C g0 h hQ)
set_option maxHeartbeats 1000000 in
theorem qX7_notice {S : List Sh} {mm : Mm} {x0 : Nat} {x1 : Int32} {r : Int32} (h : fX7_notice S mm x0 x1 = some r) : isC S x0 7 := by
  unfold fX7_notice at h
  exact (gd_some h).1
