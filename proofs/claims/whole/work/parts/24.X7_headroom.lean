abbrev eX7_headroom : List (Nat × Instr × Nat) := [(0, .aload_n 0, 1), (1, .iload_n 1, 1), (2, .invokevirtual 140, 3), (5, .ifCond .eq 18, 3), (8, .aload_n 0, 1), (9, .getfield 61, 3), (12, .aload_n 0, 1), (13, .getfield 51, 3), (16, .iload_n 1, 1), (17, .invokevirtual 181, 3), (20, .goto 4, 3), (23, .iconst (-1), 1), (24, .ireturn, 1)]
theorem DX7_headroom : (eX7_headroom.all fun q => decide (decode cX7_headroom q.1 = .ok q.2)) = true := by decide +kernel
def jX7_headroom_24 (S : List Sh) (mm : Mm) (x0 : Nat) (p0 : Int32) : Option (Int32) := some p0
def fX7_headroom (S : List Sh) (mm : Mm) (x0 : Nat) (x1 : Int32) : Option (Int32) := gd S x0 7 (bd1 (fX7_isLink S mm x0 x1) fun a1 => if a1 = 0 then (jX7_headroom_24 S mm x0 (-1)) else (bd1 (fX1_headroomOf S mm (rf S mm x0 8) (rf S mm x0 6) x1) fun a2 => jX7_headroom_24 S mm x0 a2))
set_option maxHeartbeats 1000000 in
theorem tX7_headroom_24 {G : Gt} {l : Launch} {E : Ev} {S : List Sh} {mm : Mm} {x0 : Nat} {p0 : Int32} {r : Int32} (C : Cx G E cX7_headroom 2 RX7 (some .int) 1 22) (g0 : isC S x0 7) (h : jX7_headroom_24 S mm x0 p0 = some r) (hQ : RQ G E S (some (.int r)) mm) : WM G l E S 24 [(0, .ref (E.2.2 x0))] [.int p0] mm := by
  unfold jX7_headroom_24 at h
  cases h
  exact x_iret C (dq DX7_headroom 12 rfl) hQ
set_option maxHeartbeats 1000000 in
theorem mX7_headroom {l : Launch} {E : Ev} {S : List Sh} {mm : Mm} {x0 : Nat} {x1 : Int32} {r : Int32} (h : fX7_headroom S mm x0 x1 = some r) : Ml l E S yX7_headroom cX7_headroom 2 (some .int) 1 22 [.ref (E.2.2 x0), .int x1] mm (some (.int r)) mm := by
  refine Ml.of (by decide +kernel) (Nat.le_of_ble_eq_true rfl) (fun G C hQ => ?_)
  have C : Cx G E cX7_headroom 2 RX7 (some .int) 1 22 := C
  unfold fX7_headroom at h
  obtain ⟨g0, h⟩ := gd_some h
  show WM G l E S 0 [(0, .ref (E.2.2 x0)), (1, .int x1)] [] mm
  refine x_aload_n C (dq DX7_headroom 0 rfl) rfl 0 rfl ?_
  refine x_iload_n C (dq DX7_headroom 1 rfl) rfl 1 rfl ?_
  refine callX7_140 C (dq DX7_headroom 2 rfl) h (by decide) (by decide) (Nat.le_of_ble_eq_true rfl) (fun a1 h => ?_)
  refine x_if_eq (tgt := 23) C (dq DX7_headroom 3 rfl) (by decide) h (fun h => ?_) (fun h => ?_)
  · refine x_pc 23 rfl ?_
    refine x_iconst (v := (-1)) C (dq DX7_headroom 11 rfl) (by decide) ?_
    exact x_lv [0] rfl (tX7_headroom_24 C g0 h hQ)
  · refine x_pc 8 rfl ?_
    refine x_aload_n C (dq DX7_headroom 4 rfl) rfl 0 rfl ?_
    refine getX7_61 C (dq DX7_headroom 5 rfl) g0 ?_
    refine x_aload_n C (dq DX7_headroom 6 rfl) rfl 0 rfl ?_
    refine getX7_51 C (dq DX7_headroom 7 rfl) g0 ?_
    refine x_iload_n C (dq DX7_headroom 8 rfl) rfl 1 rfl ?_
    refine x_pc 17 rfl ?_
    refine callX7_181 C (dq DX7_headroom 9 rfl) h (by decide) (by decide) (Nat.le_of_ble_eq_true rfl) (fun a2 h => ?_)
    refine x_goto (tgt := 24) C (dq DX7_headroom 10 rfl) (by decide) ?_
    exact x_lv [0] rfl (tX7_headroom_24 C g0 h hQ)
set_option maxHeartbeats 1000000 in
theorem qX7_headroom {S : List Sh} {mm : Mm} {x0 : Nat} {x1 : Int32} {r : Int32} (h : fX7_headroom S mm x0 x1 = some r) : isC S x0 7 := by
  unfold fX7_headroom at h
  exact (gd_some h).1
theorem callX7_187 {G : Gt} {l : Launch} {E : Ev} {S : List Sh} {cc : ByteArray} {nL : Nat} {rt : Option FieldType} {fr lo : Nat} {pc : Nat} {lv : List (Nat × Value)} {rest : List Value} {mm : Mm} {α : Type} {f : Int32 → Option α} {r : α} {o : Nat} {a0 : Nat} {a1 : Nat} {a2 : Int32} (C : Cx G E cc nL RX7 rt fr lo) (d : decode cc pc = .ok (.invokevirtual 187, 3)) (h : bd1 (fX6_waitsOf S mm o a0 a1 a2) f = some r) (hfr : 1 ≤ fr) (hlo : 26 ≤ lo) (hrs : (rest.map fun v => v.category).sum ≤ 8) (k : ∀ v, f v = some r → WM G l E S (pc + 3) lv (.int v :: rest) mm) : WM G l E S pc lv (.int a2 :: .ref (E.2.2 a1) :: .ref (E.2.2 a0) :: .ref (E.2.2 o) :: rest) mm := by
  obtain ⟨v, hv, hf⟩ := bd1_some h
  exact x_callV (n := 3) (As := [.ref (E.2.2 a0), .ref (E.2.2 a1), .int a2]) (rest := rest) C (mX6_waitsOf hv) (qX6_waitsOf hv) (T := TX6) (N := 5) rfl (gmem 561 (by decide +kernel) rfl) (gmem 562 (by decide +kernel) rfl) (gmem 563 (by decide +kernel) rfl) (gmem 5 (by decide +kernel) rfl) (gmem 564 (by decide +kernel) rfl) (by decide +kernel) rfl hfr hlo hrs d rfl rfl (k v hf)
abbrev eX7_waits : List (Nat × Instr × Nat) := [(0, .aload_n 0, 1), (1, .iload_n 1, 1), (2, .invokevirtual 140, 3), (5, .ifCond .eq 22, 3), (8, .aload_n 0, 1), (9, .getfield 33, 3), (12, .aload_n 0, 1), (13, .getfield 61, 3), (16, .aload_n 0, 1), (17, .getfield 51, 3), (20, .iload_n 1, 1), (21, .invokevirtual 187, 3), (24, .goto 4, 3), (27, .iconst (-1), 1), (28, .ireturn, 1)]
theorem DX7_waits : (eX7_waits.all fun q => decide (decode cX7_waits q.1 = .ok q.2)) = true := by decide +kernel
def jX7_waits_28 (S : List Sh) (mm : Mm) (x0 : Nat) (p0 : Int32) : Option (Int32) := some p0
def fX7_waits (S : List Sh) (mm : Mm) (x0 : Nat) (x1 : Int32) : Option (Int32) := gd S x0 7 (bd1 (fX7_isLink S mm x0 x1) fun a1 => if a1 = 0 then (jX7_waits_28 S mm x0 (-1)) else (bd1 (fX6_waitsOf S mm (rf S mm x0 3) (rf S mm x0 8) (rf S mm x0 6) x1) fun a2 => jX7_waits_28 S mm x0 a2))
set_option maxHeartbeats 1000000 in
theorem tX7_waits_28 {G : Gt} {l : Launch} {E : Ev} {S : List Sh} {mm : Mm} {x0 : Nat} {p0 : Int32} {r : Int32} (C : Cx G E cX7_waits 2 RX7 (some .int) 1 26) (g0 : isC S x0 7) (h : jX7_waits_28 S mm x0 p0 = some r) (hQ : RQ G E S (some (.int r)) mm) : WM G l E S 28 [(0, .ref (E.2.2 x0))] [.int p0] mm := by
  unfold jX7_waits_28 at h
  cases h
  exact x_iret C (dq DX7_waits 14 rfl) hQ
set_option maxHeartbeats 1000000 in
theorem mX7_waits {l : Launch} {E : Ev} {S : List Sh} {mm : Mm} {x0 : Nat} {x1 : Int32} {r : Int32} (h : fX7_waits S mm x0 x1 = some r) : Ml l E S yX7_waits cX7_waits 2 (some .int) 1 26 [.ref (E.2.2 x0), .int x1] mm (some (.int r)) mm := by
  refine Ml.of (by decide +kernel) (Nat.le_of_ble_eq_true rfl) (fun G C hQ => ?_)
  have C : Cx G E cX7_waits 2 RX7 (some .int) 1 26 := C
  unfold fX7_waits at h
  obtain ⟨g0, h⟩ := gd_some h
  show WM G l E S 0 [(0, .ref (E.2.2 x0)), (1, .int x1)] [] mm
  refine x_aload_n C (dq DX7_waits 0 rfl) rfl 0 rfl ?_
  refine x_iload_n C (dq DX7_waits 1 rfl) rfl 1 rfl ?_
  refine callX7_140 C (dq DX7_waits 2 rfl) h (by decide) (by decide) (Nat.le_of_ble_eq_true rfl) (fun a1 h => ?_)
  refine x_if_eq (tgt := 27) C (dq DX7_waits 3 rfl) (by decide) h (fun h => ?_) (fun h => ?_)
  · refine x_pc 27 rfl ?_
    refine x_iconst (v := (-1)) C (dq DX7_waits 13 rfl) (by decide) ?_
    exact x_lv [0] rfl (tX7_waits_28 C g0 h hQ)
  · refine x_pc 8 rfl ?_
    refine x_aload_n C (dq DX7_waits 4 rfl) rfl 0 rfl ?_
    refine getX7_33 C (dq DX7_waits 5 rfl) g0 ?_
    refine x_aload_n C (dq DX7_waits 6 rfl) rfl 0 rfl ?_
    refine getX7_61 C (dq DX7_waits 7 rfl) g0 ?_
    refine x_aload_n C (dq DX7_waits 8 rfl) rfl 0 rfl ?_
    refine x_pc 17 rfl ?_
    refine getX7_51 C (dq DX7_waits 9 rfl) g0 ?_
    refine x_iload_n C (dq DX7_waits 10 rfl) rfl 1 rfl ?_
    refine callX7_187 C (dq DX7_waits 11 rfl) h (by decide) (by decide) (Nat.le_of_ble_eq_true rfl) (fun a2 h => ?_)
    refine x_goto (tgt := 28) C (dq DX7_waits 12 rfl) (by decide) ?_
    exact x_lv [0] rfl (tX7_waits_28 C g0 h hQ)
set_option maxHeartbeats 1000000 in
theorem qX7_waits {S : List Sh} {mm : Mm} {x0 : Nat} {x1 : Int32} {r : Int32} (h : fX7_waits S mm x0 x1 = some r) : isC S x0 7 := by
  unfold fX7_waits at h
  exact (gd_some h).1
theorem getX7_238 {G : Gt} {l : Launch} {E : Ev} {S : List Sh} {cc : ByteArray} {nL : Nat} {rt : Option FieldType} {fr lo : Nat} {pc : Nat} {lv : List (Nat × Value)} {st : List Value} {mm : Mm} {o : Nat} (C : Cx G E cc nL RX7 rt fr lo) (d : decode cc pc = .ok (.getfield 238, 3)) (hg : isC S o 1) (k : WM G l E S (pc + 3) lv (.int (mm.1 o 10) :: st) mm) : WM G l E S pc lv (.ref (E.2.2 o) :: st) mm := x_getN0 C hg (T := TX1) (N := 11) rfl inX1 (by decide) (i := 10) (host := "LosslessFabric") (nmem 218 (by decide +kernel) rfl) rfl rfl d k
abbrev eX7_isFlow : List (Nat × Instr × Nat) := [(0, .iload_n 1, 1), (1, .ifCond .lt 18, 3), (4, .iload_n 1, 1), (5, .aload_n 0, 1), (6, .getfield 61, 3), (9, .getfield 238, 3), (12, .if_icmp .ge 7, 3), (15, .iconst 1, 1), (16, .goto 4, 3), (19, .iconst 0, 1), (20, .ireturn, 1)]
theorem DX7_isFlow : (eX7_isFlow.all fun q => decide (decode cX7_isFlow q.1 = .ok q.2)) = true := by decide +kernel
def jX7_isFlow_20 (S : List Sh) (mm : Mm) (x0 : Nat) (p0 : Int32) : Option (Int32) := bd1 (okZ p0) fun _ => some p0
def jX7_isFlow_19 (S : List Sh) (mm : Mm) (x0 : Nat)  : Option (Int32) := jX7_isFlow_20 S mm x0 0
def fX7_isFlow (S : List Sh) (mm : Mm) (x0 : Nat) (x1 : Int32) : Option (Int32) := gd S x0 7 (if x1 < 0 then (jX7_isFlow_19 S mm x0) else (gd S (rf S mm x0 8) 1 (if (mm.1 (rf S mm x0 8) 10) ≤ x1 then (jX7_isFlow_19 S mm x0) else (jX7_isFlow_20 S mm x0 1))))
set_option maxHeartbeats 1000000 in
theorem tX7_isFlow_20 {G : Gt} {l : Launch} {E : Ev} {S : List Sh} {mm : Mm} {x0 : Nat} {p0 : Int32} {r : Int32} (C : Cx G E cX7_isFlow 2 RX7 (some .boolean) 0 0) (g0 : isC S x0 7) (h : jX7_isFlow_20 S mm x0 p0 = some r) (hQ : RQ G E S (some (.int r)) mm) : WM G l E S 20 [(0, .ref (E.2.2 x0))] [.int p0] mm := by
  unfold jX7_isFlow_20 at h
  refine x_zret C (dq DX7_isFlow 10 rfl) h (fun h => ?_)
  cases h
  exact hQ
set_option maxHeartbeats 1000000 in
theorem tX7_isFlow_19 {G : Gt} {l : Launch} {E : Ev} {S : List Sh} {mm : Mm} {x0 : Nat}  {r : Int32} (C : Cx G E cX7_isFlow 2 RX7 (some .boolean) 0 0) (g0 : isC S x0 7) (h : jX7_isFlow_19 S mm x0 = some r) (hQ : RQ G E S (some (.int r)) mm) : WM G l E S 19 [(0, .ref (E.2.2 x0))] [] mm := by
  unfold jX7_isFlow_19 at h
  refine x_iconst (v := 0) C (dq DX7_isFlow 9 rfl) (by decide) ?_
  exact x_lv [0] rfl (tX7_isFlow_20 C g0 h hQ)
set_option maxHeartbeats 1000000 in
theorem mX7_isFlow {l : Launch} {E : Ev} {S : List Sh} {mm : Mm} {x0 : Nat} {x1 : Int32} {r : Int32} (h : fX7_isFlow S mm x0 x1 = some r) : Ml l E S yX7_isFlow cX7_isFlow 2 (some .boolean) 0 0 [.ref (E.2.2 x0), .int x1] mm (some (.int r)) mm := by
  refine Ml.of (by decide +kernel) (Nat.le_of_ble_eq_true rfl) (fun G C hQ => ?_)
  have C : Cx G E cX7_isFlow 2 RX7 (some .boolean) 0 0 := C
  unfold fX7_isFlow at h
  obtain ⟨g0, h⟩ := gd_some h
  show WM G l E S 0 [(0, .ref (E.2.2 x0)), (1, .int x1)] [] mm
  refine x_iload_n C (dq DX7_isFlow 0 rfl) rfl 1 rfl ?_
  refine x_if_lt (tgt := 19) C (dq DX7_isFlow 1 rfl) (by decide) h (fun h => ?_) (fun h => ?_)
  · exact x_lv [0] rfl (tX7_isFlow_19 C g0 h hQ)
  · refine x_iload_n C (dq DX7_isFlow 2 rfl) rfl 1 rfl ?_
    refine x_aload_n C (dq DX7_isFlow 3 rfl) rfl 0 rfl ?_
    refine x_pc 6 rfl ?_
    refine getX7_61 C (dq DX7_isFlow 4 rfl) g0 ?_
    obtain ⟨g1, h⟩ := gd_some h
    refine getX7_238 C (dq DX7_isFlow 5 rfl) g1 ?_
    refine x_icmp_ge (tgt := 19) C (dq DX7_isFlow 6 rfl) (by decide) h (fun h => ?_) (fun h => ?_)
    · exact x_lv [0] rfl (tX7_isFlow_19 C g0 h hQ)
    · refine x_iconst (v := 1) C (dq DX7_isFlow 7 rfl) (by decide) ?_
      refine x_goto (tgt := 20) C (dq DX7_isFlow 8 rfl) (by decide) ?_
      exact x_lv [0] rfl (tX7_isFlow_20 C g0 h hQ)
set_option maxHeartbeats 1000000 in
theorem qX7_isFlow {S : List Sh} {mm : Mm} {x0 : Nat} {x1 : Int32} {r : Int32} (h : fX7_isFlow S mm x0 x1 = some r) : isC S x0 7 := by
  unfold fX7_isFlow at h
  exact (gd_some h).1
theorem callX7_136 {G : Gt} {l : Launch} {E : Ev} {S : List Sh} {cc : ByteArray} {nL : Nat} {rt : Option FieldType} {fr lo : Nat} {pc : Nat} {lv : List (Nat × Value)} {rest : List Value} {mm : Mm} {α : Type} {f : Int32 → Option α} {r : α} {o : Nat} {a0 : Int32} (C : Cx G E cc nL RX7 rt fr lo) (d : decode cc pc = .ok (.invokevirtual 136, 3)) (h : bd1 (fX7_isFlow S mm o a0) f = some r) (hfr : 1 ≤ fr) (hlo : 21 ≤ lo) (hrs : (rest.map fun v => v.category).sum ≤ 8) (k : ∀ v, f v = some r → WM G l E S (pc + 3) lv (.int v :: rest) mm) : WM G l E S pc lv (.int a0 :: .ref (E.2.2 o) :: rest) mm := by
  obtain ⟨v, hv, hf⟩ := bd1_some h
  exact x_callV (n := 1) (As := [.int a0]) (rest := rest) C (mX7_isFlow hv) (qX7_isFlow hv) (T := TX7) (N := 12) rfl (gmem 502 (by decide +kernel) rfl) (gmem 504 (by decide +kernel) rfl) (gmemS 23 (by decide +kernel) rfl) (gmem 1 (by decide +kernel) rfl) (gmem 505 (by decide +kernel) rfl) (by decide +kernel) rfl hfr hlo hrs d rfl rfl (k v hf)
abbrev eX7_rate : List (Nat × Instr × Nat) := [(0, .aload_n 0, 1), (1, .iload_n 1, 1), (2, .invokevirtual 136, 3), (5, .ifCond .eq 15, 3), (8, .iload_n 2, 1), (9, .iconst 1, 1), (10, .if_icmp .lt 10, 3), (13, .iload_n 2, 1), (14, .sipush 1024, 3), (17, .if_icmp .le 5, 3), (20, .iconst (-1), 1), (21, .ireturn, 1), (22, .aload_n 0, 1), (23, .getfield 47, 3), (26, .aload_n 0, 1), (27, .getfield 51, 3), (30, .invokevirtual 128, 3), (33, .aload_n 0, 1), (34, .getfield 51, 3), (37, .sipush 200, 3), (40, .iload_n 1, 1), (41, .iadd, 1), (42, .iaload, 1), (43, .istore_n 3, 1), (44, .aload_n 0, 1), (45, .getfield 51, 3), (48, .sipush 200, 3), (51, .iload_n 1, 1), (52, .iadd, 1), (53, .iload_n 2, 1), (54, .iastore, 1), (55, .aload_n 0, 1), (56, .getfield 51, 3), (59, .sipush 208, 3), (62, .iload_n 1, 1), (63, .iadd, 1), (64, .iload_n 2, 1), (65, .iastore, 1), (66, .iload_n 3, 1), (67, .ireturn, 1)]
theorem DX7_rate : (eX7_rate.all fun q => decide (decode cX7_rate q.1 = .ok q.2)) = true := by decide +kernel
def jX7_rate_20 (S : List Sh) (mm : Mm) (x0 : Nat)  : Option (Int32 × Mm) := some ((-1), mm)
def fX7_rate (S : List Sh) (mm : Mm) (x0 : Nat) (x1 : Int32) (x2 : Int32) : Option (Int32 × Mm) := gd S x0 7 (bd1 (fX7_isFlow S mm x0 x1) fun a1 => if a1 = 0 then (jX7_rate_20 S mm x0) else (if x2 < 1 then (jX7_rate_20 S mm x0) else (if x2 ≤ 1024 then (bd1 (fX0_push S mm (rf S mm x0 5) (rf S mm x0 6)) fun m2 => bd1 (ldA S 0 m2 (rf S m2 x0 6) (200 + x1)) fun a3 => bd1 (stA S 0 m2 (rf S m2 x0 6) (200 + x1) x2) fun m4 => bd1 (stA S 0 m4 (rf S m4 x0 6) (208 + x1) x2) fun m5 => some (a3, m5)) else (jX7_rate_20 S mm x0))))
set_option maxHeartbeats 1000000 in
theorem tX7_rate_20 {G : Gt} {l : Launch} {E : Ev} {S : List Sh} {mm : Mm} {x0 : Nat}  {r : Int32 × Mm} (C : Cx G E cX7_rate 4 RX7 (some .int) 2 61) (g0 : isC S x0 7) (h : jX7_rate_20 S mm x0 = some r) (hQ : RQ G E S (some (.int r.1)) r.2) : WM G l E S 20 [(0, .ref (E.2.2 x0))] [] mm := by
  unfold jX7_rate_20 at h
  refine x_iconst (v := (-1)) C (dq DX7_rate 10 rfl) (by decide) ?_
  cases h
  exact x_iret C (dq DX7_rate 11 rfl) hQ
set_option maxHeartbeats 1000000 in
theorem mX7_rate {l : Launch} {E : Ev} {S : List Sh} {mm : Mm} {x0 : Nat} {x1 : Int32} {x2 : Int32} {r : Int32 × Mm} (h : fX7_rate S mm x0 x1 x2 = some r) : Ml l E S yX7_rate cX7_rate 4 (some .int) 2 61 [.ref (E.2.2 x0), .int x1, .int x2] mm (some (.int r.1)) r.2 := by
  refine Ml.of (by decide +kernel) (Nat.le_of_ble_eq_true rfl) (fun G C hQ => ?_)
  have C : Cx G E cX7_rate 4 RX7 (some .int) 2 61 := C
  unfold fX7_rate at h
  obtain ⟨g0, h⟩ := gd_some h
  show WM G l E S 0 [(0, .ref (E.2.2 x0)), (1, .int x1), (2, .int x2)] [] mm
  refine x_aload_n C (dq DX7_rate 0 rfl) rfl 0 rfl ?_
  refine x_iload_n C (dq DX7_rate 1 rfl) rfl 1 rfl ?_
  refine callX7_136 C (dq DX7_rate 2 rfl) h (by decide) (by decide) (Nat.le_of_ble_eq_true rfl) (fun a1 h => ?_)
  refine x_if_eq (tgt := 20) C (dq DX7_rate 3 rfl) (by decide) h (fun h => ?_) (fun h => ?_)
  · exact x_lv [0] rfl (tX7_rate_20 C g0 h hQ)
  · refine x_pc 8 rfl ?_
    refine x_iload_n C (dq DX7_rate 4 rfl) rfl 2 rfl ?_
    refine x_iconst (v := 1) C (dq DX7_rate 5 rfl) (by decide) ?_
    refine x_icmp_lt (tgt := 20) C (dq DX7_rate 6 rfl) (by decide) h (fun h => ?_) (fun h => ?_)
    · exact x_lv [0] rfl (tX7_rate_20 C g0 h hQ)
    · refine x_iload_n C (dq DX7_rate 7 rfl) rfl 2 rfl ?_
      refine x_sipush (v := 1024) C (dq DX7_rate 8 rfl) (by decide) ?_
      refine x_pc 17 rfl ?_
      refine x_icmp_le (tgt := 22) C (dq DX7_rate 9 rfl) (by decide) h (fun h => ?_) (fun h => ?_)
      · refine x_aload_n C (dq DX7_rate 12 rfl) rfl 0 rfl ?_
        refine getX7_47 C (dq DX7_rate 13 rfl) g0 ?_
        refine x_aload_n C (dq DX7_rate 14 rfl) rfl 0 rfl ?_
        refine getX7_51 C (dq DX7_rate 15 rfl) g0 ?_
        refine x_pc 30 rfl ?_
        refine callX7_128 C (dq DX7_rate 16 rfl) h (by decide) (by decide) (Nat.le_of_ble_eq_true rfl) (fun m2 h => ?_)
        refine x_aload_n C (dq DX7_rate 17 rfl) rfl 0 rfl ?_
        refine getX7_51 C (dq DX7_rate 18 rfl) g0 ?_
        refine x_sipush (v := 200) C (dq DX7_rate 19 rfl) (by decide) ?_
        refine x_iload_n C (dq DX7_rate 20 rfl) rfl 1 rfl ?_
        refine x_pc 41 rfl ?_
        refine x_iadd C (dq DX7_rate 21 rfl) ?_
        refine x_iald C (dq DX7_rate 22 rfl) h (fun a3 h => ?_)
        refine x_istore_n (lv' := [(3, .int a3), (0, .ref (E.2.2 x0)), (1, .int x1), (2, .int x2)]) C (dq DX7_rate 23 rfl) rfl (by decide) rfl ?_
        refine x_aload_n C (dq DX7_rate 24 rfl) rfl 1 rfl ?_
        refine getX7_51 C (dq DX7_rate 25 rfl) g0 ?_
        refine x_pc 48 rfl ?_
        refine x_sipush (v := 200) C (dq DX7_rate 26 rfl) (by decide) ?_
        refine x_iload_n C (dq DX7_rate 27 rfl) rfl 2 rfl ?_
        refine x_iadd C (dq DX7_rate 28 rfl) ?_
        refine x_iload_n C (dq DX7_rate 29 rfl) rfl 3 rfl ?_
        refine x_iast C (dq DX7_rate 30 rfl) h (fun m4 h => ?_)
        refine x_pc 55 rfl ?_
        refine x_aload_n C (dq DX7_rate 31 rfl) rfl 1 rfl ?_
        refine getX7_51 C (dq DX7_rate 32 rfl) g0 ?_
        refine x_sipush (v := 208) C (dq DX7_rate 33 rfl) (by decide) ?_
        refine x_iload_n C (dq DX7_rate 34 rfl) rfl 2 rfl ?_
        refine x_iadd C (dq DX7_rate 35 rfl) ?_
        refine x_pc 64 rfl ?_
        refine x_iload_n C (dq DX7_rate 36 rfl) rfl 3 rfl ?_
        refine x_iast C (dq DX7_rate 37 rfl) h (fun m5 h => ?_)
        refine x_iload_n C (dq DX7_rate 38 rfl) rfl 0 rfl ?_
        cases h
        exact x_iret C (dq DX7_rate 39 rfl) hQ
      · exact x_lv [0] rfl (tX7_rate_20 C g0 h hQ)
set_option maxHeartbeats 1000000 in
theorem qX7_rate {S : List Sh} {mm : Mm} {x0 : Nat} {x1 : Int32} {x2 : Int32} {r : Int32 × Mm} (h : fX7_rate S mm x0 x1 x2 = some r) : isC S x0 7 := by
  unfold fX7_rate at h
  exact (gd_some h).1
abbrev eX7_turn : List (Nat × Instr × Nat) := [(0, .aload_n 0, 1), (1, .iload_n 1, 1), (2, .invokevirtual 136, 3), (5, .ifCond .ne 5, 3), (8, .iconst (-1), 1), (9, .ireturn, 1), (10, .aload_n 0, 1), (11, .getfield 47, 3), (14, .aload_n 0, 1), (15, .getfield 51, 3), (18, .invokevirtual 128, 3), (21, .aload_n 0, 1), (22, .getfield 51, 3), (25, .sipush 264, 3), (28, .iload_n 1, 1), (29, .iadd, 1), (30, .iconst 1, 1), (31, .aload_n 0, 1), (32, .getfield 51, 3), (35, .sipush 264, 3), (38, .iload_n 1, 1), (39, .iadd, 1), (40, .iaload, 1), (41, .isub, 1), (42, .iastore, 1), (43, .aload_n 0, 1), (44, .getfield 51, 3), (47, .sipush 264, 3), (50, .iload_n 1, 1), (51, .iadd, 1), (52, .iaload, 1), (53, .ireturn, 1)]
theorem DX7_turn : (eX7_turn.all fun q => decide (decode cX7_turn q.1 = .ok q.2)) = true := by decide +kernel
def fX7_turn (S : List Sh) (mm : Mm) (x0 : Nat) (x1 : Int32) : Option (Int32 × Mm) := gd S x0 7 (bd1 (fX7_isFlow S mm x0 x1) fun a1 => if ¬ a1 = 0 then (bd1 (fX0_push S mm (rf S mm x0 5) (rf S mm x0 6)) fun m2 => bd1 (ldA S 0 m2 (rf S m2 x0 6) (264 + x1)) fun a3 => bd1 (stA S 0 m2 (rf S m2 x0 6) (264 + x1) (1 - a3)) fun m4 => bd1 (ldA S 0 m4 (rf S m4 x0 6) (264 + x1)) fun a5 => some (a5, m4)) else (some ((-1), mm)))
set_option maxHeartbeats 1000000 in
theorem mX7_turn {l : Launch} {E : Ev} {S : List Sh} {mm : Mm} {x0 : Nat} {x1 : Int32} {r : Int32 × Mm} (h : fX7_turn S mm x0 x1 = some r) : Ml l E S yX7_turn cX7_turn 2 (some .int) 2 61 [.ref (E.2.2 x0), .int x1] mm (some (.int r.1)) r.2 := by
  refine Ml.of (by decide +kernel) (Nat.le_of_ble_eq_true rfl) (fun G C hQ => ?_)
  have C : Cx G E cX7_turn 2 RX7 (some .int) 2 61 := C
  unfold fX7_turn at h
  obtain ⟨g0, h⟩ := gd_some h
  show WM G l E S 0 [(0, .ref (E.2.2 x0)), (1, .int x1)] [] mm
  refine x_aload_n C (dq DX7_turn 0 rfl) rfl 0 rfl ?_
  refine x_iload_n C (dq DX7_turn 1 rfl) rfl 1 rfl ?_
  refine callX7_136 C (dq DX7_turn 2 rfl) h (by decide) (by decide) (Nat.le_of_ble_eq_true rfl) (fun a1 h => ?_)
  refine x_if_ne (tgt := 10) C (dq DX7_turn 3 rfl) (by decide) h (fun h => ?_) (fun h => ?_)
  · refine x_pc 10 rfl ?_
    refine x_aload_n C (dq DX7_turn 6 rfl) rfl 0 rfl ?_
    refine getX7_47 C (dq DX7_turn 7 rfl) g0 ?_
    refine x_aload_n C (dq DX7_turn 8 rfl) rfl 0 rfl ?_
    refine getX7_51 C (dq DX7_turn 9 rfl) g0 ?_
    refine callX7_128 C (dq DX7_turn 10 rfl) h (by decide) (by decide) (Nat.le_of_ble_eq_true rfl) (fun m2 h => ?_)
    refine x_pc 21 rfl ?_
    refine x_aload_n C (dq DX7_turn 11 rfl) rfl 0 rfl ?_
    refine getX7_51 C (dq DX7_turn 12 rfl) g0 ?_
    refine x_sipush (v := 264) C (dq DX7_turn 13 rfl) (by decide) ?_
    refine x_iload_n C (dq DX7_turn 14 rfl) rfl 1 rfl ?_
    refine x_iadd C (dq DX7_turn 15 rfl) ?_
    refine x_pc 30 rfl ?_
    refine x_iconst (v := 1) C (dq DX7_turn 16 rfl) (by decide) ?_
    refine x_aload_n C (dq DX7_turn 17 rfl) rfl 0 rfl ?_
    refine getX7_51 C (dq DX7_turn 18 rfl) g0 ?_
    refine x_sipush (v := 264) C (dq DX7_turn 19 rfl) (by decide) ?_
    refine x_iload_n C (dq DX7_turn 20 rfl) rfl 1 rfl ?_
    refine x_pc 39 rfl ?_
    refine x_iadd C (dq DX7_turn 21 rfl) ?_
    refine x_iald C (dq DX7_turn 22 rfl) h (fun a3 h => ?_)
    refine x_isub C (dq DX7_turn 23 rfl) ?_
    refine x_iast C (dq DX7_turn 24 rfl) h (fun m4 h => ?_)
    refine x_aload_n C (dq DX7_turn 25 rfl) rfl 0 rfl ?_
    refine x_pc 44 rfl ?_
    refine getX7_51 C (dq DX7_turn 26 rfl) g0 ?_
    refine x_sipush (v := 264) C (dq DX7_turn 27 rfl) (by decide) ?_
    refine x_iload_n C (dq DX7_turn 28 rfl) rfl 1 rfl ?_
    refine x_iadd C (dq DX7_turn 29 rfl) ?_
    refine x_iald C (dq DX7_turn 30 rfl) h (fun a5 h => ?_)
    refine x_pc 53 rfl ?_
    cases h
    exact x_iret C (dq DX7_turn 31 rfl) hQ
  · refine x_pc 8 rfl ?_
    refine x_iconst (v := (-1)) C (dq DX7_turn 4 rfl) (by decide) ?_
    cases h
    exact x_iret C (dq DX7_turn 5 rfl) hQ
set_option maxHeartbeats 1000000 in
theorem qX7_turn {S : List Sh} {mm : Mm} {x0 : Nat} {x1 : Int32} {r : Int32 × Mm} (h : fX7_turn S mm x0 x1 = some r) : isC S x0 7 := by
  unfold fX7_turn at h
  exact (gd_some h).1
abbrev eX7_queue : List (Nat × Instr × Nat) := [(0, .aload_n 0, 1), (1, .iload_n 1, 1), (2, .invokevirtual 140, 3), (5, .ifCond .eq 11, 3), (8, .aload_n 0, 1), (9, .iload_n 2, 1), (10, .invokevirtual 136, 3), (13, .ifCond .ne 5, 3), (16, .iconst (-1), 1), (17, .ireturn, 1), (18, .aload_n 0, 1), (19, .getfield 51, 3), (22, .bipush 120, 2), (24, .iload_n 1, 1), (25, .bipush 8, 2), (27, .imul, 1), (28, .iadd, 1), (29, .iload_n 2, 1), (30, .iadd, 1), (31, .iaload, 1), (32, .ireturn, 1)]
theorem DX7_queue : (eX7_queue.all fun q => decide (decode cX7_queue q.1 = .ok q.2)) = true := by decide +kernel
def jX7_queue_16 (S : List Sh) (mm : Mm) (x0 : Nat)  : Option (Int32) := some (-1)
def fX7_queue (S : List Sh) (mm : Mm) (x0 : Nat) (x1 : Int32) (x2 : Int32) : Option (Int32) := gd S x0 7 (bd1 (fX7_isLink S mm x0 x1) fun a1 => if a1 = 0 then (jX7_queue_16 S mm x0) else (bd1 (fX7_isFlow S mm x0 x2) fun a2 => if ¬ a2 = 0 then (bd1 (ldA S 0 mm (rf S mm x0 6) ((120 + (x1 * 8)) + x2)) fun a3 => some a3) else (jX7_queue_16 S mm x0)))
set_option maxHeartbeats 1000000 in
theorem tX7_queue_16 {G : Gt} {l : Launch} {E : Ev} {S : List Sh} {mm : Mm} {x0 : Nat}  {r : Int32} (C : Cx G E cX7_queue 3 RX7 (some .int) 1 21) (g0 : isC S x0 7) (h : jX7_queue_16 S mm x0 = some r) (hQ : RQ G E S (some (.int r)) mm) : WM G l E S 16 [(0, .ref (E.2.2 x0))] [] mm := by
  unfold jX7_queue_16 at h
  refine x_iconst (v := (-1)) C (dq DX7_queue 8 rfl) (by decide) ?_
  cases h
  exact x_iret C (dq DX7_queue 9 rfl) hQ
set_option maxHeartbeats 1000000 in
theorem mX7_queue {l : Launch} {E : Ev} {S : List Sh} {mm : Mm} {x0 : Nat} {x1 : Int32} {x2 : Int32} {r : Int32} (h : fX7_queue S mm x0 x1 x2 = some r) : Ml l E S yX7_queue cX7_queue 3 (some .int) 1 21 [.ref (E.2.2 x0), .int x1, .int x2] mm (some (.int r)) mm := by
  refine Ml.of (by decide +kernel) (Nat.le_of_ble_eq_true rfl) (fun G C hQ => ?_)
  have C : Cx G E cX7_queue 3 RX7 (some .int) 1 21 := C
  unfold fX7_queue at h
  obtain ⟨g0, h⟩ := gd_some h
  show WM G l E S 0 [(0, .ref (E.2.2 x0)), (1, .int x1), (2, .int x2)] [] mm
  refine x_aload_n C (dq DX7_queue 0 rfl) rfl 0 rfl ?_
  refine x_iload_n C (dq DX7_queue 1 rfl) rfl 1 rfl ?_
  refine callX7_140 C (dq DX7_queue 2 rfl) h (by decide) (by decide) (Nat.le_of_ble_eq_true rfl) (fun a1 h => ?_)
  refine x_if_eq (tgt := 16) C (dq DX7_queue 3 rfl) (by decide) h (fun h => ?_) (fun h => ?_)
  · exact x_lv [0] rfl (tX7_queue_16 C g0 h hQ)
  · refine x_pc 8 rfl ?_
    refine x_aload_n C (dq DX7_queue 4 rfl) rfl 0 rfl ?_
    refine x_iload_n C (dq DX7_queue 5 rfl) rfl 2 rfl ?_
    refine callX7_136 C (dq DX7_queue 6 rfl) h (by decide) (by decide) (Nat.le_of_ble_eq_true rfl) (fun a2 h => ?_)
    refine x_if_ne (tgt := 18) C (dq DX7_queue 7 rfl) (by decide) h (fun h => ?_) (fun h => ?_)
    · refine x_aload_n C (dq DX7_queue 10 rfl) rfl 0 rfl ?_
      refine x_pc 19 rfl ?_
      refine getX7_51 C (dq DX7_queue 11 rfl) g0 ?_
      refine x_bipush (v := 120) C (dq DX7_queue 12 rfl) (by decide) ?_
      refine x_iload_n C (dq DX7_queue 13 rfl) rfl 1 rfl ?_
      refine x_bipush (v := 8) C (dq DX7_queue 14 rfl) (by decide) ?_
      refine x_imul C (dq DX7_queue 15 rfl) ?_
      refine x_pc 28 rfl ?_
      refine x_iadd C (dq DX7_queue 16 rfl) ?_
      refine x_iload_n C (dq DX7_queue 17 rfl) rfl 2 rfl ?_
      refine x_iadd C (dq DX7_queue 18 rfl) ?_
      refine x_iald C (dq DX7_queue 19 rfl) h (fun a3 h => ?_)
      cases h
      exact x_iret C (dq DX7_queue 20 rfl) hQ
    · exact x_lv [0] rfl (tX7_queue_16 C g0 h hQ)
set_option maxHeartbeats 1000000 in
theorem qX7_queue {S : List Sh} {mm : Mm} {x0 : Nat} {x1 : Int32} {x2 : Int32} {r : Int32} (h : fX7_queue S mm x0 x1 x2 = some r) : isC S x0 7 := by
  unfold fX7_queue at h
  exact (gd_some h).1
theorem getX7_165 {G : Gt} {l : Launch} {E : Ev} {S : List Sh} {cc : ByteArray} {nL : Nat} {rt : Option FieldType} {fr lo : Nat} {pc : Nat} {lv : List (Nat × Value)} {st : List Value} {mm : Mm} {o : Nat} (C : Cx G E cc nL RX7 rt fr lo) (d : decode cc pc = .ok (.getfield 165, 3)) (hg : isC S o 1) (k : WM G l E S (pc + 3) lv (.ref (E.2.2 (rf S mm o 4)) :: st) mm) : WM G l E S pc lv (.ref (E.2.2 o) :: st) mm := x_getN2 C hg (T := TX1) (N := 11) rfl inX1 (by decide) (i := 4) (host := "LosslessFabric") (nmem 193 (by decide +kernel) rfl) rfl rfl d k
abbrev eX7_flow : List (Nat × Instr × Nat) := [(0, .aload_n 0, 1), (1, .iload_n 1, 1), (2, .invokevirtual 136, 3), (5, .ifCond .ne 5, 3), (8, .iconst (-1), 1), (9, .ireturn, 1), (10, .iload_n 2, 1), (11, .tableswitch 192 0 11 #[61, 72, 83, 94, 105, 116, 127, 138, 149, 160, 170, 181], 61), (72, .aload_n 0, 1), (73, .getfield 51, 3), (76, .sipush 200, 3), (79, .iload_n 1, 1), (80, .iadd, 1), (81, .iaload, 1), (82, .ireturn, 1), (83, .aload_n 0, 1), (84, .getfield 51, 3), (87, .sipush 208, 3), (90, .iload_n 1, 1), (91, .iadd, 1), (92, .iaload, 1), (93, .ireturn, 1), (94, .aload_n 0, 1), (95, .getfield 51, 3), (98, .sipush 216, 3), (101, .iload_n 1, 1), (102, .iadd, 1), (103, .iaload, 1), (104, .ireturn, 1), (105, .aload_n 0, 1), (106, .getfield 51, 3), (109, .sipush 224, 3), (112, .iload_n 1, 1), (113, .iadd, 1), (114, .iaload, 1), (115, .ireturn, 1), (116, .aload_n 0, 1), (117, .getfield 51, 3), (120, .sipush 232, 3), (123, .iload_n 1, 1), (124, .iadd, 1), (125, .iaload, 1), (126, .ireturn, 1), (127, .aload_n 0, 1), (128, .getfield 51, 3), (131, .sipush 240, 3), (134, .iload_n 1, 1), (135, .iadd, 1), (136, .iaload, 1), (137, .ireturn, 1), (138, .aload_n 0, 1), (139, .getfield 51, 3), (142, .sipush 256, 3), (145, .iload_n 1, 1), (146, .iadd, 1), (147, .iaload, 1), (148, .ireturn, 1), (149, .aload_n 0, 1), (150, .getfield 51, 3), (153, .sipush 264, 3), (156, .iload_n 1, 1), (157, .iadd, 1), (158, .iaload, 1), (159, .ireturn, 1), (160, .aload_n 0, 1), (161, .getfield 51, 3), (164, .sipush 272, 3), (167, .iload_n 1, 1), (168, .iadd, 1), (169, .iaload, 1), (170, .ireturn, 1), (171, .aload_n 0, 1), (172, .getfield 61, 3), (175, .getfield 165, 3), (178, .iload_n 1, 1), (179, .iaload, 1), (180, .ireturn, 1), (181, .aload_n 0, 1), (182, .getfield 51, 3), (185, .sipush 280, 3), (188, .iload_n 1, 1), (189, .iadd, 1), (190, .iaload, 1), (191, .ireturn, 1), (192, .aload_n 0, 1), (193, .getfield 51, 3), (196, .sipush 288, 3), (199, .iload_n 1, 1), (200, .iadd, 1), (201, .iaload, 1), (202, .ireturn, 1), (203, .iconst (-1), 1), (204, .ireturn, 1)]
theorem DX7_flow : (eX7_flow.all fun q => decide (decode cX7_flow q.1 = .ok q.2)) = true := by decide +kernel
def fX7_flow (S : List Sh) (mm : Mm) (x0 : Nat) (x1 : Int32) (x2 : Int32) : Option (Int32) := gd S x0 7 (bd1 (fX7_isFlow S mm x0 x1) fun a1 => if ¬ a1 = 0 then (if x2 = 0 then (bd1 (ldA S 0 mm (rf S mm x0 6) (200 + x1)) fun a2 => some a2) else (if x2 = 1 then (bd1 (ldA S 0 mm (rf S mm x0 6) (208 + x1)) fun a4 => some a4) else (if x2 = 2 then (bd1 (ldA S 0 mm (rf S mm x0 6) (216 + x1)) fun a6 => some a6) else (if x2 = 3 then (bd1 (ldA S 0 mm (rf S mm x0 6) (224 + x1)) fun a8 => some a8) else (if x2 = 4 then (bd1 (ldA S 0 mm (rf S mm x0 6) (232 + x1)) fun a10 => some a10) else (if x2 = 5 then (bd1 (ldA S 0 mm (rf S mm x0 6) (240 + x1)) fun a12 => some a12) else (if x2 = 6 then (bd1 (ldA S 0 mm (rf S mm x0 6) (256 + x1)) fun a14 => some a14) else (if x2 = 7 then (bd1 (ldA S 0 mm (rf S mm x0 6) (264 + x1)) fun a16 => some a16) else (if x2 = 8 then (bd1 (ldA S 0 mm (rf S mm x0 6) (272 + x1)) fun a18 => some a18) else (if x2 = 9 then (gd S (rf S mm x0 8) 1 (bd1 (ldA S 0 mm (rf S mm (rf S mm x0 8) 4) x1) fun a21 => some a21)) else (if x2 = 10 then (bd1 (ldA S 0 mm (rf S mm x0 6) (280 + x1)) fun a23 => some a23) else (if x2 = 11 then (bd1 (ldA S 0 mm (rf S mm x0 6) (288 + x1)) fun a25 => some a25) else (some (-1)))))))))))))) else (some (-1)))
set_option maxHeartbeats 1000000 in
theorem mX7_flow {l : Launch} {E : Ev} {S : List Sh} {mm : Mm} {x0 : Nat} {x1 : Int32} {x2 : Int32} {r : Int32} (h : fX7_flow S mm x0 x1 x2 = some r) : Ml l E S yX7_flow cX7_flow 3 (some .int) 1 21 [.ref (E.2.2 x0), .int x1, .int x2] mm (some (.int r)) mm := by
  refine Ml.of (by decide +kernel) (Nat.le_of_ble_eq_true rfl) (fun G C hQ => ?_)
  have C : Cx G E cX7_flow 3 RX7 (some .int) 1 21 := C
  unfold fX7_flow at h
  obtain ⟨g0, h⟩ := gd_some h
  show WM G l E S 0 [(0, .ref (E.2.2 x0)), (1, .int x1), (2, .int x2)] [] mm
  refine x_aload_n C (dq DX7_flow 0 rfl) rfl 0 rfl ?_
  refine x_iload_n C (dq DX7_flow 1 rfl) rfl 1 rfl ?_
  refine callX7_136 C (dq DX7_flow 2 rfl) h (by decide) (by decide) (Nat.le_of_ble_eq_true rfl) (fun a1 h => ?_)
  refine x_if_ne (tgt := 10) C (dq DX7_flow 3 rfl) (by decide) h (fun h => ?_) (fun h => ?_)
  · refine x_pc 10 rfl ?_
    refine x_iload_n C (dq DX7_flow 6 rfl) rfl 2 rfl ?_
    refine x_tab1 (tgt := 72) C (dq DX7_flow 7 rfl) (w := 0) (z := 0) (by decide) (by decide) (by decide) rfl (by decide) h (fun h => ?_) (fun n3 h => ?_)
    · refine x_aload_n C (dq DX7_flow 8 rfl) rfl 0 rfl ?_
      refine getX7_51 C (dq DX7_flow 9 rfl) g0 ?_
      refine x_sipush (v := 200) C (dq DX7_flow 10 rfl) (by decide) ?_
      refine x_pc 79 rfl ?_
      refine x_iload_n C (dq DX7_flow 11 rfl) rfl 1 rfl ?_
      refine x_iadd C (dq DX7_flow 12 rfl) ?_
      refine x_iald C (dq DX7_flow 13 rfl) h (fun a2 h => ?_)
      cases h
      exact x_iret C (dq DX7_flow 14 rfl) hQ
    refine x_tab1 (tgt := 83) C (dq DX7_flow 7 rfl) (w := 1) (z := 1) (by decide) (by decide) (by decide) rfl (by decide) h (fun h => ?_) (fun n5 h => ?_)
    · refine x_aload_n C (dq DX7_flow 15 rfl) rfl 0 rfl ?_
      refine getX7_51 C (dq DX7_flow 16 rfl) g0 ?_
      refine x_sipush (v := 208) C (dq DX7_flow 17 rfl) (by decide) ?_
      refine x_pc 90 rfl ?_
      refine x_iload_n C (dq DX7_flow 18 rfl) rfl 1 rfl ?_
      refine x_iadd C (dq DX7_flow 19 rfl) ?_
      refine x_iald C (dq DX7_flow 20 rfl) h (fun a4 h => ?_)
      cases h
      exact x_iret C (dq DX7_flow 21 rfl) hQ
    refine x_tab1 (tgt := 94) C (dq DX7_flow 7 rfl) (w := 2) (z := 2) (by decide) (by decide) (by decide) rfl (by decide) h (fun h => ?_) (fun n7 h => ?_)
    · refine x_aload_n C (dq DX7_flow 22 rfl) rfl 0 rfl ?_
      refine getX7_51 C (dq DX7_flow 23 rfl) g0 ?_
      refine x_sipush (v := 216) C (dq DX7_flow 24 rfl) (by decide) ?_
      refine x_pc 101 rfl ?_
      refine x_iload_n C (dq DX7_flow 25 rfl) rfl 1 rfl ?_
      refine x_iadd C (dq DX7_flow 26 rfl) ?_
      refine x_iald C (dq DX7_flow 27 rfl) h (fun a6 h => ?_)
      cases h
      exact x_iret C (dq DX7_flow 28 rfl) hQ
    refine x_tab1 (tgt := 105) C (dq DX7_flow 7 rfl) (w := 3) (z := 3) (by decide) (by decide) (by decide) rfl (by decide) h (fun h => ?_) (fun n9 h => ?_)
    · refine x_aload_n C (dq DX7_flow 29 rfl) rfl 0 rfl ?_
      refine getX7_51 C (dq DX7_flow 30 rfl) g0 ?_
      refine x_sipush (v := 224) C (dq DX7_flow 31 rfl) (by decide) ?_
      refine x_pc 112 rfl ?_
      refine x_iload_n C (dq DX7_flow 32 rfl) rfl 1 rfl ?_
      refine x_iadd C (dq DX7_flow 33 rfl) ?_
      refine x_iald C (dq DX7_flow 34 rfl) h (fun a8 h => ?_)
      cases h
      exact x_iret C (dq DX7_flow 35 rfl) hQ
    refine x_tab1 (tgt := 116) C (dq DX7_flow 7 rfl) (w := 4) (z := 4) (by decide) (by decide) (by decide) rfl (by decide) h (fun h => ?_) (fun n11 h => ?_)
    · refine x_aload_n C (dq DX7_flow 36 rfl) rfl 0 rfl ?_
      refine getX7_51 C (dq DX7_flow 37 rfl) g0 ?_
      refine x_sipush (v := 232) C (dq DX7_flow 38 rfl) (by decide) ?_
      refine x_pc 123 rfl ?_
      refine x_iload_n C (dq DX7_flow 39 rfl) rfl 1 rfl ?_
      refine x_iadd C (dq DX7_flow 40 rfl) ?_
      refine x_iald C (dq DX7_flow 41 rfl) h (fun a10 h => ?_)
      cases h
      exact x_iret C (dq DX7_flow 42 rfl) hQ
    refine x_tab1 (tgt := 127) C (dq DX7_flow 7 rfl) (w := 5) (z := 5) (by decide) (by decide) (by decide) rfl (by decide) h (fun h => ?_) (fun n13 h => ?_)
    · refine x_aload_n C (dq DX7_flow 43 rfl) rfl 0 rfl ?_
      refine getX7_51 C (dq DX7_flow 44 rfl) g0 ?_
      refine x_sipush (v := 240) C (dq DX7_flow 45 rfl) (by decide) ?_
      refine x_pc 134 rfl ?_
      refine x_iload_n C (dq DX7_flow 46 rfl) rfl 1 rfl ?_
      refine x_iadd C (dq DX7_flow 47 rfl) ?_
      refine x_iald C (dq DX7_flow 48 rfl) h (fun a12 h => ?_)
      cases h
      exact x_iret C (dq DX7_flow 49 rfl) hQ
    refine x_tab1 (tgt := 138) C (dq DX7_flow 7 rfl) (w := 6) (z := 6) (by decide) (by decide) (by decide) rfl (by decide) h (fun h => ?_) (fun n15 h => ?_)
    · refine x_aload_n C (dq DX7_flow 50 rfl) rfl 0 rfl ?_
      refine getX7_51 C (dq DX7_flow 51 rfl) g0 ?_
      refine x_sipush (v := 256) C (dq DX7_flow 52 rfl) (by decide) ?_
      refine x_pc 145 rfl ?_
      refine x_iload_n C (dq DX7_flow 53 rfl) rfl 1 rfl ?_
      refine x_iadd C (dq DX7_flow 54 rfl) ?_
      refine x_iald C (dq DX7_flow 55 rfl) h (fun a14 h => ?_)
      cases h
      exact x_iret C (dq DX7_flow 56 rfl) hQ
    refine x_tab1 (tgt := 149) C (dq DX7_flow 7 rfl) (w := 7) (z := 7) (by decide) (by decide) (by decide) rfl (by decide) h (fun h => ?_) (fun n17 h => ?_)
    · refine x_aload_n C (dq DX7_flow 57 rfl) rfl 0 rfl ?_
      refine getX7_51 C (dq DX7_flow 58 rfl) g0 ?_
      refine x_sipush (v := 264) C (dq DX7_flow 59 rfl) (by decide) ?_
      refine x_pc 156 rfl ?_
      refine x_iload_n C (dq DX7_flow 60 rfl) rfl 1 rfl ?_
      refine x_iadd C (dq DX7_flow 61 rfl) ?_
      refine x_iald C (dq DX7_flow 62 rfl) h (fun a16 h => ?_)
      cases h
      exact x_iret C (dq DX7_flow 63 rfl) hQ
    refine x_tab1 (tgt := 160) C (dq DX7_flow 7 rfl) (w := 8) (z := 8) (by decide) (by decide) (by decide) rfl (by decide) h (fun h => ?_) (fun n19 h => ?_)
    · refine x_aload_n C (dq DX7_flow 64 rfl) rfl 0 rfl ?_
      refine getX7_51 C (dq DX7_flow 65 rfl) g0 ?_
      refine x_sipush (v := 272) C (dq DX7_flow 66 rfl) (by decide) ?_
      refine x_pc 167 rfl ?_
      refine x_iload_n C (dq DX7_flow 67 rfl) rfl 1 rfl ?_
      refine x_iadd C (dq DX7_flow 68 rfl) ?_
      refine x_iald C (dq DX7_flow 69 rfl) h (fun a18 h => ?_)
      cases h
      exact x_iret C (dq DX7_flow 70 rfl) hQ
    refine x_tab1 (tgt := 171) C (dq DX7_flow 7 rfl) (w := 9) (z := 9) (by decide) (by decide) (by decide) rfl (by decide) h (fun h => ?_) (fun n22 h => ?_)
    · refine x_aload_n C (dq DX7_flow 71 rfl) rfl 0 rfl ?_
      refine getX7_61 C (dq DX7_flow 72 rfl) g0 ?_
      obtain ⟨g20, h⟩ := gd_some h
      refine getX7_165 C (dq DX7_flow 73 rfl) g20 ?_
      refine x_pc 178 rfl ?_
      refine x_iload_n C (dq DX7_flow 74 rfl) rfl 1 rfl ?_
      refine x_iald C (dq DX7_flow 75 rfl) h (fun a21 h => ?_)
      cases h
      exact x_iret C (dq DX7_flow 76 rfl) hQ
    refine x_tab1 (tgt := 181) C (dq DX7_flow 7 rfl) (w := 10) (z := 10) (by decide) (by decide) (by decide) rfl (by decide) h (fun h => ?_) (fun n24 h => ?_)
    · refine x_aload_n C (dq DX7_flow 77 rfl) rfl 0 rfl ?_
      refine getX7_51 C (dq DX7_flow 78 rfl) g0 ?_
      refine x_sipush (v := 280) C (dq DX7_flow 79 rfl) (by decide) ?_
      refine x_pc 188 rfl ?_
      refine x_iload_n C (dq DX7_flow 80 rfl) rfl 1 rfl ?_
      refine x_iadd C (dq DX7_flow 81 rfl) ?_
      refine x_iald C (dq DX7_flow 82 rfl) h (fun a23 h => ?_)
      cases h
      exact x_iret C (dq DX7_flow 83 rfl) hQ
    refine x_tab1 (tgt := 192) C (dq DX7_flow 7 rfl) (w := 11) (z := 11) (by decide) (by decide) (by decide) rfl (by decide) h (fun h => ?_) (fun n26 h => ?_)
    · refine x_aload_n C (dq DX7_flow 84 rfl) rfl 0 rfl ?_
      refine getX7_51 C (dq DX7_flow 85 rfl) g0 ?_
      refine x_sipush (v := 288) C (dq DX7_flow 86 rfl) (by decide) ?_
      refine x_pc 199 rfl ?_
      refine x_iload_n C (dq DX7_flow 87 rfl) rfl 1 rfl ?_
      refine x_iadd C (dq DX7_flow 88 rfl) ?_
      refine x_iald C (dq DX7_flow 89 rfl) h (fun a25 h => ?_)
      cases h
      exact x_iret C (dq DX7_flow 90 rfl) hQ
    refine x_tabO (tgt := 203) C (dq DX7_flow 7 rfl) (by omega) (by decide) ?_
    refine x_iconst (v := (-1)) C (dq DX7_flow 91 rfl) (by decide) ?_
    cases h
    exact x_iret C (dq DX7_flow 92 rfl) hQ
  · refine x_pc 8 rfl ?_
    refine x_iconst (v := (-1)) C (dq DX7_flow 4 rfl) (by decide) ?_
    cases h
    exact x_iret C (dq DX7_flow 5 rfl) hQ
set_option maxHeartbeats 1000000 in
theorem qX7_flow {S : List Sh} {mm : Mm} {x0 : Nat} {x1 : Int32} {x2 : Int32} {r : Int32} (h : fX7_flow S mm x0 x1 x2 = some r) : isC S x0 7 := by
  unfold fX7_flow at h
  exact (gd_some h).1
theorem getX7_168 {G : Gt} {l : Launch} {E : Ev} {S : List Sh} {cc : ByteArray} {nL : Nat} {rt : Option FieldType} {fr lo : Nat} {pc : Nat} {lv : List (Nat × Value)} {st : List Value} {mm : Mm} {o : Nat} (C : Cx G E cc nL RX7 rt fr lo) (d : decode cc pc = .ok (.getfield 168, 3)) (hg : isC S o 1) (k : WM G l E S (pc + 3) lv (.ref (E.2.2 (rf S mm o 5)) :: st) mm) : WM G l E S pc lv (.ref (E.2.2 o) :: st) mm := x_getN2 C hg (T := TX1) (N := 11) rfl inX1 (by decide) (i := 5) (host := "LosslessFabric") (nmem 195 (by decide +kernel) rfl) rfl rfl d k
abbrev eX7_path : List (Nat × Instr × Nat) := [(0, .aload_n 0, 1), (1, .iload_n 1, 1), (2, .invokevirtual 136, 3), (5, .ifCond .eq 20, 3), (8, .iload_n 2, 1), (9, .ifCond .lt 16, 3), (12, .iload_n 2, 1), (13, .aload_n 0, 1), (14, .getfield 61, 3), (17, .getfield 165, 3), (20, .iload_n 1, 1), (21, .iaload, 1), (22, .if_icmp .lt 5, 3), (25, .iconst (-1), 1), (26, .ireturn, 1), (27, .aload_n 0, 1), (28, .getfield 61, 3), (31, .getfield 168, 3), (34, .iload_n 1, 1), (35, .iconst 5, 1), (36, .imul, 1), (37, .iload_n 2, 1), (38, .iadd, 1), (39, .iaload, 1), (40, .ireturn, 1)]
theorem DX7_path : (eX7_path.all fun q => decide (decode cX7_path q.1 = .ok q.2)) = true := by decide +kernel
def jX7_path_25 (S : List Sh) (mm : Mm) (x0 : Nat)  : Option (Int32) := some (-1)
def fX7_path (S : List Sh) (mm : Mm) (x0 : Nat) (x1 : Int32) (x2 : Int32) : Option (Int32) := gd S x0 7 (bd1 (fX7_isFlow S mm x0 x1) fun a1 => if a1 = 0 then (jX7_path_25 S mm x0) else (if x2 < 0 then (jX7_path_25 S mm x0) else (gd S (rf S mm x0 8) 1 (bd1 (ldA S 0 mm (rf S mm (rf S mm x0 8) 4) x1) fun a3 => if x2 < a3 then (bd1 (ldA S 0 mm (rf S mm (rf S mm x0 8) 5) ((x1 * 5) + x2)) fun a4 => some a4) else (jX7_path_25 S mm x0)))))
set_option maxHeartbeats 1000000 in
theorem tX7_path_25 {G : Gt} {l : Launch} {E : Ev} {S : List Sh} {mm : Mm} {x0 : Nat}  {r : Int32} (C : Cx G E cX7_path 3 RX7 (some .int) 1 21) (g0 : isC S x0 7) (h : jX7_path_25 S mm x0 = some r) (hQ : RQ G E S (some (.int r)) mm) : WM G l E S 25 [(0, .ref (E.2.2 x0))] [] mm := by
  unfold jX7_path_25 at h
  refine x_iconst (v := (-1)) C (dq DX7_path 13 rfl) (by decide) ?_
  cases h
  exact x_iret C (dq DX7_path 14 rfl) hQ
set_option maxHeartbeats 1000000 in
theorem mX7_path {l : Launch} {E : Ev} {S : List Sh} {mm : Mm} {x0 : Nat} {x1 : Int32} {x2 : Int32} {r : Int32} (h : fX7_path S mm x0 x1 x2 = some r) : Ml l E S yX7_path cX7_path 3 (some .int) 1 21 [.ref (E.2.2 x0), .int x1, .int x2] mm (some (.int r)) mm := by
  refine Ml.of (by decide +kernel) (Nat.le_of_ble_eq_true rfl) (fun G C hQ => ?_)
  have C : Cx G E cX7_path 3 RX7 (some .int) 1 21 := C
  unfold fX7_path at h
  obtain ⟨g0, h⟩ := gd_some h
  show WM G l E S 0 [(0, .ref (E.2.2 x0)), (1, .int x1), (2, .int x2)] [] mm
  refine x_aload_n C (dq DX7_path 0 rfl) rfl 0 rfl ?_
  refine x_iload_n C (dq DX7_path 1 rfl) rfl 1 rfl ?_
  refine callX7_136 C (dq DX7_path 2 rfl) h (by decide) (by decide) (Nat.le_of_ble_eq_true rfl) (fun a1 h => ?_)
  refine x_if_eq (tgt := 25) C (dq DX7_path 3 rfl) (by decide) h (fun h => ?_) (fun h => ?_)
  · exact x_lv [0] rfl (tX7_path_25 C g0 h hQ)
  · refine x_pc 8 rfl ?_
    refine x_iload_n C (dq DX7_path 4 rfl) rfl 2 rfl ?_
    refine x_if_lt (tgt := 25) C (dq DX7_path 5 rfl) (by decide) h (fun h => ?_) (fun h => ?_)
    · exact x_lv [0] rfl (tX7_path_25 C g0 h hQ)
    · refine x_iload_n C (dq DX7_path 6 rfl) rfl 2 rfl ?_
      refine x_aload_n C (dq DX7_path 7 rfl) rfl 0 rfl ?_
      refine getX7_61 C (dq DX7_path 8 rfl) g0 ?_
      refine x_pc 17 rfl ?_
      obtain ⟨g2, h⟩ := gd_some h
      refine getX7_165 C (dq DX7_path 9 rfl) g2 ?_
      refine x_iload_n C (dq DX7_path 10 rfl) rfl 1 rfl ?_
      refine x_iald C (dq DX7_path 11 rfl) h (fun a3 h => ?_)
      refine x_icmp_lt (tgt := 27) C (dq DX7_path 12 rfl) (by decide) h (fun h => ?_) (fun h => ?_)
      · refine x_aload_n C (dq DX7_path 15 rfl) rfl 0 rfl ?_
        refine x_pc 28 rfl ?_
        refine getX7_61 C (dq DX7_path 16 rfl) g0 ?_
        refine getX7_168 C (dq DX7_path 17 rfl) g2 ?_
        refine x_iload_n C (dq DX7_path 18 rfl) rfl 1 rfl ?_
        refine x_iconst (v := 5) C (dq DX7_path 19 rfl) (by decide) ?_
        refine x_imul C (dq DX7_path 20 rfl) ?_
        refine x_pc 37 rfl ?_
        refine x_iload_n C (dq DX7_path 21 rfl) rfl 2 rfl ?_
        refine x_iadd C (dq DX7_path 22 rfl) ?_
        refine x_iald C (dq DX7_path 23 rfl) h (fun a4 h => ?_)
        cases h
        exact x_iret C (dq DX7_path 24 rfl) hQ
      · exact x_lv [0] rfl (tX7_path_25 C g0 h hQ)
set_option maxHeartbeats 1000000 in
theorem qX7_path {S : List Sh} {mm : Mm} {x0 : Nat} {x1 : Int32} {x2 : Int32} {r : Int32} (h : fX7_path S mm x0 x1 x2 = some r) : isC S x0 7 := by
  unfold fX7_path at h
  exact (gd_some h).1
theorem callX7_216 {G : Gt} {l : Launch} {E : Ev} {S : List Sh} {cc : ByteArray} {nL : Nat} {rt : Option FieldType} {fr lo : Nat} {pc : Nat} {lv : List (Nat × Value)} {rest : List Value} {mm : Mm} {α : Type} {f : Int32 → Option α} {r : α} {o : Nat} {a0 : Int32} (C : Cx G E cc nL RX7 rt fr lo) (d : decode cc pc = .ok (.invokevirtual 216, 3)) (h : bd1 (fX3_lower S mm o a0) f = some r) (hfr : 3 ≤ fr) (hlo : 76 ≤ lo) (hrs : (rest.map fun v => v.category).sum ≤ 8) (k : ∀ v, f v = some r → WM G l E S (pc + 3) lv (.int v :: rest) mm) : WM G l E S pc lv (.int a0 :: .ref (E.2.2 o) :: rest) mm := by
  obtain ⟨v, hv, hf⟩ := bd1_some h
  exact x_callV (n := 1) (As := [.int a0]) (rest := rest) C (mX3_lower hv) (qX3_lower hv) (T := TX3) (N := 5) rfl (gmem 631 (by decide +kernel) rfl) (gmem 632 (by decide +kernel) rfl) (gmem 633 (by decide +kernel) rfl) (gmem 6 (by decide +kernel) rfl) (gmem 634 (by decide +kernel) rfl) (by decide +kernel) rfl hfr hlo hrs d rfl rfl (k v hf)
theorem callX7_219 {G : Gt} {l : Launch} {E : Ev} {S : List Sh} {cc : ByteArray} {nL : Nat} {rt : Option FieldType} {fr lo : Nat} {pc : Nat} {lv : List (Nat × Value)} {rest : List Value} {mm : Mm} {α : Type} {f : Int32 → Option α} {r : α} {o : Nat} {a0 : Int32} (C : Cx G E cc nL RX7 rt fr lo) (d : decode cc pc = .ok (.invokevirtual 219, 3)) (h : bd1 (fX3_upper S mm o a0) f = some r) (hfr : 3 ≤ fr) (hlo : 76 ≤ lo) (hrs : (rest.map fun v => v.category).sum ≤ 8) (k : ∀ v, f v = some r → WM G l E S (pc + 3) lv (.int v :: rest) mm) : WM G l E S pc lv (.int a0 :: .ref (E.2.2 o) :: rest) mm := by
  obtain ⟨v, hv, hf⟩ := bd1_some h
  exact x_callV (n := 1) (As := [.int a0]) (rest := rest) C (mX3_upper hv) (qX3_upper hv) (T := TX3) (N := 5) rfl (gmem 640 (by decide +kernel) rfl) (gmem 641 (by decide +kernel) rfl) (gmem 642 (by decide +kernel) rfl) (gmem 6 (by decide +kernel) rfl) (gmem 643 (by decide +kernel) rfl) (by decide +kernel) rfl hfr hlo hrs d rfl rfl (k v hf)
abbrev eX7_fair : List (Nat × Instr × Nat) := [(0, .aload_n 0, 1), (1, .iload_n 1, 1), (2, .invokevirtual 136, 3), (5, .ifCond .ne 7, 3), (8, .ldc2_w 211, 3), (11, .lreturn, 1), (12, .aload_n 0, 1), (13, .getfield 40, 3), (16, .aload_n 0, 1), (17, .getfield 61, 3), (20, .aload_n 0, 1), (21, .getfield 51, 3), (24, .invokevirtual 213, 3), (27, .iload_n 2, 1), (28, .ifCond .eq 15, 3), (31, .aload_n 0, 1), (32, .getfield 40, 3), (35, .iload_n 1, 1), (36, .invokevirtual 216, 3), (39, .i2l, 1), (40, .goto 12, 3), (43, .aload_n 0, 1), (44, .getfield 40, 3), (47, .iload_n 1, 1), (48, .invokevirtual 219, 3), (51, .i2l, 1), (52, .lreturn, 1)]
theorem DX7_fair : (eX7_fair.all fun q => decide (decode cX7_fair q.1 = .ok q.2)) = true := by decide +kernel
def jX7_fair_52 (S : List Sh) (mm : Mm) (x0 : Nat) (p0 : Int64) : Option (Int64 × Mm) := some (p0, mm)
def fX7_fair (S : List Sh) (mm : Mm) (x0 : Nat) (x1 : Int32) (x2 : Int32) : Option (Int64 × Mm) := gd S x0 7 (bd1 (fX7_isFlow S mm x0 x1) fun a1 => if ¬ a1 = 0 then (bd1 (fX3_share S mm (rf S mm x0 4) (rf S mm x0 8) (rf S mm x0 6)) fun m2 => if x2 = 0 then (bd1 (fX3_upper S m2 (rf S m2 x0 4) x1) fun a3 => jX7_fair_52 S m2 x0 a3.toInt64) else (bd1 (fX3_lower S m2 (rf S m2 x0 4) x1) fun a4 => jX7_fair_52 S m2 x0 a4.toInt64)) else (some ((-1), mm)))
set_option maxHeartbeats 1000000 in
theorem tX7_fair_52 {G : Gt} {l : Launch} {E : Ev} {S : List Sh} {mm : Mm} {x0 : Nat} {p0 : Int64} {r : Int64 × Mm} (C : Cx G E cX7_fair 3 RX7 (some .long) 3 76) (g0 : isC S x0 7) (h : jX7_fair_52 S mm x0 p0 = some r) (hQ : RQ G E S (some (.long r.1)) r.2) : WM G l E S 52 [(0, .ref (E.2.2 x0))] [.long p0] mm := by
  unfold jX7_fair_52 at h
  cases h
  exact x_lret C (dq DX7_fair 26 rfl) hQ
set_option maxHeartbeats 1000000 in
theorem mX7_fair {l : Launch} {E : Ev} {S : List Sh} {mm : Mm} {x0 : Nat} {x1 : Int32} {x2 : Int32} {r : Int64 × Mm} (h : fX7_fair S mm x0 x1 x2 = some r) : Ml l E S yX7_fair cX7_fair 3 (some .long) 3 76 [.ref (E.2.2 x0), .int x1, .int x2] mm (some (.long r.1)) r.2 := by
  refine Ml.of (by decide +kernel) (Nat.le_of_ble_eq_true rfl) (fun G C hQ => ?_)
  have C : Cx G E cX7_fair 3 RX7 (some .long) 3 76 := C
  unfold fX7_fair at h
  obtain ⟨g0, h⟩ := gd_some h
  show WM G l E S 0 [(0, .ref (E.2.2 x0)), (1, .int x1), (2, .int x2)] [] mm
  refine x_aload_n C (dq DX7_fair 0 rfl) rfl 0 rfl ?_
  refine x_iload_n C (dq DX7_fair 1 rfl) rfl 1 rfl ?_
  refine callX7_136 C (dq DX7_fair 2 rfl) h (by decide) (by decide) (Nat.le_of_ble_eq_true rfl) (fun a1 h => ?_)
  refine x_if_ne (tgt := 12) C (dq DX7_fair 3 rfl) (by decide) h (fun h => ?_) (fun h => ?_)
  · refine x_pc 12 rfl ?_
    refine x_aload_n C (dq DX7_fair 6 rfl) rfl 0 rfl ?_
    refine getX7_40 C (dq DX7_fair 7 rfl) g0 ?_
    refine x_aload_n C (dq DX7_fair 8 rfl) rfl 0 rfl ?_
    refine getX7_61 C (dq DX7_fair 9 rfl) g0 ?_
    refine x_aload_n C (dq DX7_fair 10 rfl) rfl 0 rfl ?_
    refine x_pc 21 rfl ?_
    refine getX7_51 C (dq DX7_fair 11 rfl) g0 ?_
    refine callX7_213 C (dq DX7_fair 12 rfl) h (by decide) (by decide) (Nat.le_of_ble_eq_true rfl) (fun m2 h => ?_)
    refine x_iload_n C (dq DX7_fair 13 rfl) rfl 2 rfl ?_
    refine x_if_eq (tgt := 43) C (dq DX7_fair 14 rfl) (by decide) h (fun h => ?_) (fun h => ?_)
    · refine x_aload_n C (dq DX7_fair 21 rfl) rfl 0 rfl ?_
      refine x_pc 44 rfl ?_
      refine getX7_40 C (dq DX7_fair 22 rfl) g0 ?_
      refine x_iload_n C (dq DX7_fair 23 rfl) rfl 1 rfl ?_
      refine callX7_219 C (dq DX7_fair 24 rfl) h (by decide) (by decide) (Nat.le_of_ble_eq_true rfl) (fun a3 h => ?_)
      refine x_i2l C (dq DX7_fair 25 rfl) ?_
      exact x_lv [0] rfl (tX7_fair_52 C g0 h hQ)
    · refine x_aload_n C (dq DX7_fair 15 rfl) rfl 0 rfl ?_
      refine x_pc 32 rfl ?_
      refine getX7_40 C (dq DX7_fair 16 rfl) g0 ?_
      refine x_iload_n C (dq DX7_fair 17 rfl) rfl 1 rfl ?_
      refine callX7_216 C (dq DX7_fair 18 rfl) h (by decide) (by decide) (Nat.le_of_ble_eq_true rfl) (fun a4 h => ?_)
      refine x_i2l C (dq DX7_fair 19 rfl) ?_
      refine x_goto (tgt := 52) C (dq DX7_fair 20 rfl) (by decide) ?_
      exact x_lv [0] rfl (tX7_fair_52 C g0 h hQ)
  · refine x_pc 8 rfl ?_
    refine x_ldc2_w (v := (-1)) C (dq DX7_fair 4 rfl) (gmem 614 (by decide +kernel) rfl) ?_
    cases h
    exact x_lret C (dq DX7_fair 5 rfl) hQ
set_option maxHeartbeats 1000000 in
theorem qX7_fair {S : List Sh} {mm : Mm} {x0 : Nat} {x1 : Int32} {x2 : Int32} {r : Int64 × Mm} (h : fX7_fair S mm x0 x1 x2 = some r) : isC S x0 7 := by
  unfold fX7_fair at h
  exact (gd_some h).1
abbrev eX7_onWay : List (Nat × Instr × Nat) := [(0, .aload_n 0, 1), (1, .iload_n 1, 1), (2, .invokevirtual 136, 3), (5, .ifCond .ne 5, 3), (8, .iconst (-1), 1), (9, .ireturn, 1), (10, .aload_n 0, 1), (11, .getfield 51, 3), (14, .sipush 232, 3), (17, .iload_n 1, 1), (18, .iadd, 1), (19, .iaload, 1), (20, .aload_n 0, 1), (21, .getfield 51, 3), (24, .sipush 240, 3), (27, .iload_n 1, 1), (28, .iadd, 1), (29, .iaload, 1), (30, .isub, 1), (31, .aload_n 0, 1), (32, .getfield 51, 3), (35, .sipush 248, 3), (38, .iload_n 1, 1), (39, .iadd, 1), (40, .iaload, 1), (41, .isub, 1), (42, .ireturn, 1)]
theorem DX7_onWay : (eX7_onWay.all fun q => decide (decode cX7_onWay q.1 = .ok q.2)) = true := by decide +kernel
def fX7_onWay (S : List Sh) (mm : Mm) (x0 : Nat) (x1 : Int32) : Option (Int32) := gd S x0 7 (bd1 (fX7_isFlow S mm x0 x1) fun a1 => if ¬ a1 = 0 then (bd1 (ldA S 0 mm (rf S mm x0 6) (232 + x1)) fun a2 => bd1 (ldA S 0 mm (rf S mm x0 6) (240 + x1)) fun a3 => bd1 (ldA S 0 mm (rf S mm x0 6) (248 + x1)) fun a4 => some ((a2 - a3) - a4)) else (some (-1)))
set_option maxHeartbeats 1000000 in
theorem mX7_onWay {l : Launch} {E : Ev} {S : List Sh} {mm : Mm} {x0 : Nat} {x1 : Int32} {r : Int32} (h : fX7_onWay S mm x0 x1 = some r) : Ml l E S yX7_onWay cX7_onWay 2 (some .int) 1 21 [.ref (E.2.2 x0), .int x1] mm (some (.int r)) mm := by
  refine Ml.of (by decide +kernel) (Nat.le_of_ble_eq_true rfl) (fun G C hQ => ?_)
  have C : Cx G E cX7_onWay 2 RX7 (some .int) 1 21 := C
  unfold fX7_onWay at h
  obtain ⟨g0, h⟩ := gd_some h
  show WM G l E S 0 [(0, .ref (E.2.2 x0)), (1, .int x1)] [] mm
  refine x_aload_n C (dq DX7_onWay 0 rfl) rfl 0 rfl ?_
  refine x_iload_n C (dq DX7_onWay 1 rfl) rfl 1 rfl ?_
  refine callX7_136 C (dq DX7_onWay 2 rfl) h (by decide) (by decide) (Nat.le_of_ble_eq_true rfl) (fun a1 h => ?_)
  refine x_if_ne (tgt := 10) C (dq DX7_onWay 3 rfl) (by decide) h (fun h => ?_) (fun h => ?_)
  · refine x_pc 10 rfl ?_
    refine x_aload_n C (dq DX7_onWay 6 rfl) rfl 0 rfl ?_
    refine getX7_51 C (dq DX7_onWay 7 rfl) g0 ?_
    refine x_sipush (v := 232) C (dq DX7_onWay 8 rfl) (by decide) ?_
    refine x_iload_n C (dq DX7_onWay 9 rfl) rfl 1 rfl ?_
    refine x_iadd C (dq DX7_onWay 10 rfl) ?_
    refine x_pc 19 rfl ?_
    refine x_iald C (dq DX7_onWay 11 rfl) h (fun a2 h => ?_)
    refine x_aload_n C (dq DX7_onWay 12 rfl) rfl 0 rfl ?_
    refine getX7_51 C (dq DX7_onWay 13 rfl) g0 ?_
    refine x_sipush (v := 240) C (dq DX7_onWay 14 rfl) (by decide) ?_
    refine x_iload_n C (dq DX7_onWay 15 rfl) rfl 1 rfl ?_
    refine x_pc 28 rfl ?_
    refine x_iadd C (dq DX7_onWay 16 rfl) ?_
    refine x_iald C (dq DX7_onWay 17 rfl) h (fun a3 h => ?_)
    refine x_isub C (dq DX7_onWay 18 rfl) ?_
    refine x_aload_n C (dq DX7_onWay 19 rfl) rfl 0 rfl ?_
    refine getX7_51 C (dq DX7_onWay 20 rfl) g0 ?_
    refine x_pc 35 rfl ?_
    refine x_sipush (v := 248) C (dq DX7_onWay 21 rfl) (by decide) ?_
    refine x_iload_n C (dq DX7_onWay 22 rfl) rfl 1 rfl ?_
    refine x_iadd C (dq DX7_onWay 23 rfl) ?_
    refine x_iald C (dq DX7_onWay 24 rfl) h (fun a4 h => ?_)
    refine x_isub C (dq DX7_onWay 25 rfl) ?_
    refine x_pc 42 rfl ?_
    cases h
    exact x_iret C (dq DX7_onWay 26 rfl) hQ
  · refine x_pc 8 rfl ?_
    refine x_iconst (v := (-1)) C (dq DX7_onWay 4 rfl) (by decide) ?_
    cases h
    exact x_iret C (dq DX7_onWay 5 rfl) hQ
set_option maxHeartbeats 1000000 in
theorem qX7_onWay {S : List Sh} {mm : Mm} {x0 : Nat} {x1 : Int32} {r : Int32} (h : fX7_onWay S mm x0 x1 = some r) : isC S x0 7 := by
  unfold fX7_onWay at h
  exact (gd_some h).1
abbrev eX7_startTrial : List (Nat × Instr × Nat) := [(0, .aload_n 0, 1), (1, .getfield 51, 3), (4, .iconst 0, 1), (5, .aload_n 0, 1), (6, .getfield 55, 3), (9, .iconst 0, 1), (10, .sipush 297, 3), (13, .invokestatic 108, 3), (16, .return_, 1)]
theorem DX7_startTrial : (eX7_startTrial.all fun q => decide (decode cX7_startTrial q.1 = .ok q.2)) = true := by decide +kernel
def fX7_startTrial (S : List Sh) (mm : Mm) (x0 : Nat) : Option (Mm) := gd S x0 7 (bd1 (cpA S mm (rf S mm x0 6) 0 (rf S mm x0 7) 0 297) fun m1 => some m1)
set_option maxHeartbeats 1000000 in
theorem mX7_startTrial {l : Launch} {E : Ev} {S : List Sh} {mm : Mm} {x0 : Nat} {r : Mm} (h : fX7_startTrial S mm x0 = some r) : Ml l E S yX7_startTrial cX7_startTrial 1 none 1 40 [.ref (E.2.2 x0)] mm none r := by
  refine Ml.of (by decide +kernel) (Nat.le_of_ble_eq_true rfl) (fun G C hQ => ?_)
  have C : Cx G E cX7_startTrial 1 RX7 none 1 40 := C
  unfold fX7_startTrial at h
  obtain ⟨g0, h⟩ := gd_some h
  show WM G l E S 0 [(0, .ref (E.2.2 x0))] [] mm
  refine x_aload_n C (dq DX7_startTrial 0 rfl) rfl 0 rfl ?_
  refine getX7_51 C (dq DX7_startTrial 1 rfl) g0 ?_
  refine x_iconst (v := 0) C (dq DX7_startTrial 2 rfl) (by decide) ?_
  refine x_aload_n C (dq DX7_startTrial 3 rfl) rfl 0 rfl ?_
  refine x_pc 6 rfl ?_
  refine getX7_55 C (dq DX7_startTrial 4 rfl) g0 ?_
  refine x_iconst (v := 0) C (dq DX7_startTrial 5 rfl) (by decide) ?_
  refine x_sipush (v := 297) C (dq DX7_startTrial 6 rfl) (by decide) ?_
  refine callX7_108 C (dq DX7_startTrial 7 rfl) (by decide) (Nat.le_of_ble_eq_true rfl) h (fun m1 h => ?_)
  cases h
  exact x_vret C (dq DX7_startTrial 8 rfl) hQ
set_option maxHeartbeats 1000000 in
theorem qX7_startTrial {S : List Sh} {mm : Mm} {x0 : Nat} {r : Mm} (h : fX7_startTrial S mm x0 = some r) : isC S x0 7 := by
  unfold fX7_startTrial at h
  exact (gd_some h).1
theorem getX7_26 {G : Gt} {l : Launch} {E : Ev} {S : List Sh} {cc : ByteArray} {nL : Nat} {rt : Option FieldType} {fr lo : Nat} {pc : Nat} {lv : List (Nat × Value)} {st : List Value} {mm : Mm} {o : Nat} (C : Cx G E cc nL RX7 rt fr lo) (d : decode cc pc = .ok (.getfield 26, 3)) (hg : isC S o 7) (k : WM G l E S (pc + 3) lv (.ref (E.2.2 (rf S mm o 2)) :: st) mm) : WM G l E S pc lv (.ref (E.2.2 o) :: st) mm := x_get2 C hg (T := TX7) (N := 12) rfl inX7 (by decide) (i := 2) (gmem 244 (by decide +kernel) rfl) rfl rfl d k
theorem callX7_226 {G : Gt} {l : Launch} {E : Ev} {S : List Sh} {cc : ByteArray} {nL : Nat} {rt : Option FieldType} {fr lo : Nat} {pc : Nat} {lv : List (Nat × Value)} {rest : List Value} {mm : Mm} {α : Type} {f : Mm → Option α} {r : α} {o : Nat} (C : Cx G E cc nL RX7 rt fr lo) (d : decode cc pc = .ok (.invokevirtual 226, 3)) (h : bd1 (fX7_startTrial S mm o) f = some r) (hfr : 2 ≤ fr) (hlo : 60 ≤ lo) (hrs : (rest.map fun v => v.category).sum ≤ 8) (k : ∀ m1, f m1 = some r → WM G l E S (pc + 3) lv rest m1) : WM G l E S pc lv (.ref (E.2.2 o) :: rest) mm := by
  obtain ⟨m1, hv, hf⟩ := bd1_some h
  exact x_callV (n := 0) (As := []) (rest := rest) C (mX7_startTrial hv) (qX7_startTrial hv) (T := TX7) (N := 12) rfl (gmem 656 (by decide +kernel) rfl) (gmem 658 (by decide +kernel) rfl) (gmemS 32 (by decide +kernel) rfl) (gmem 1 (by decide +kernel) rfl) (gmem 659 (by decide +kernel) rfl) (by decide +kernel) rfl hfr hlo hrs d rfl rfl (k m1 hf)
theorem callX7_229 {G : Gt} {l : Launch} {E : Ev} {S : List Sh} {cc : ByteArray} {nL : Nat} {rt : Option FieldType} {fr lo : Nat} {pc : Nat} {lv : List (Nat × Value)} {rest : List Value} {mm : Mm} {α : Type} {f : Mm → Option α} {r : α} {o : Nat} {a0 : Nat} {a1 : Nat} (C : Cx G E cc nL RX7 rt fr lo) (d : decode cc pc = .ok (.invokevirtual 229, 3)) (h : bd1 (fX5_step S mm o a0 a1) f = some r) (hfr : 4 ≤ fr) (hlo : 107 ≤ lo) (hrs : (rest.map fun v => v.category).sum ≤ 8) (k : ∀ m1, f m1 = some r → WM G l E S (pc + 3) lv rest m1) : WM G l E S pc lv (.ref (E.2.2 a1) :: .ref (E.2.2 a0) :: .ref (E.2.2 o) :: rest) mm := by
  obtain ⟨m1, hv, hf⟩ := bd1_some h
  exact x_callV (n := 2) (As := [.ref (E.2.2 a0), .ref (E.2.2 a1)]) (rest := rest) C (mX5_step hv) (qX5_step hv) (T := TX5) (N := 3) rfl (gmem 436 (by decide +kernel) rfl) (gmem 437 (by decide +kernel) rfl) (gmem 438 (by decide +kernel) rfl) (gmem 4 (by decide +kernel) rfl) (gmem 439 (by decide +kernel) rfl) (by decide +kernel) rfl hfr hlo hrs d rfl rfl (k m1 hf)
theorem callX7_232 {G : Gt} {l : Launch} {E : Ev} {S : List Sh} {cc : ByteArray} {nL : Nat} {rt : Option FieldType} {fr lo : Nat} {pc : Nat} {lv : List (Nat × Value)} {rest : List Value} {mm : Mm} {x y : Int32} (C : Cx G E cc nL RX7 rt fr lo) (d : decode cc pc = .ok (.invokestatic 232, 3)) (h1 : 1 ≤ fr) (h2 : (rest.map fun v => v.category).sum + 13 ≤ lo) (k : WM G l E S (pc + 3) lv (.int (if x < y then y else x) :: rest) mm) : WM G l E S pc lv (.int y :: .int x :: rest) mm := x_mmax C d (gmem 660 (by decide +kernel) rfl) (gmem 469 (by decide +kernel) rfl) (gmem 10 (by decide +kernel) rfl) (gmem 470 (by decide +kernel) rfl) h1 h2 k
abbrev eX7_ahead : List (Nat × Instr × Nat) := [(0, .aload_n 0, 1), (1, .iload_n 1, 1), (2, .invokevirtual 140, 3), (5, .ifCond .eq 23, 3), (8, .iload_n 2, 1), (9, .ifCond .lt 19, 3), (12, .iload_n 2, 1), (13, .sipush 300, 3), (16, .if_icmp .gt 12, 3), (19, .iload_n 3, 1), (20, .ifCond .lt 8, 3), (23, .iload_n 3, 1), (24, .iconst 2, 1), (25, .if_icmp .le 5, 3), (28, .iconst (-1), 1), (29, .ireturn, 1), (30, .aload_n 0, 1), (31, .invokevirtual 226, 3), (34, .aload_n 0, 1), (35, .getfield 55, 3), (38, .bipush 30, 2), (40, .iload_n 1, 1), (41, .iadd, 1), (42, .iaload, 1), (43, .istore 4, 2), (45, .iconst 0, 1), (46, .istore 5, 2), (48, .iload 5, 2), (50, .iload_n 2, 1), (51, .if_icmp .ge 40, 3), (54, .aload_n 0, 1), (55, .getfield 26, 3), (58, .aload_n 0, 1), (59, .getfield 61, 3), (62, .aload_n 0, 1), (63, .getfield 55, 3), (66, .invokevirtual 229, 3), (69, .iload 4, 2), (71, .aload_n 0, 1), (72, .getfield 55, 3), (75, .bipush 30, 2), (77, .iload_n 1, 1), (78, .iadd, 1), (79, .iaload, 1), (80, .invokestatic 232, 3), (83, .istore 4, 2), (85, .iinc 5 1, 3), (88, .goto (-40), 3), (91, .iload_n 3, 1), (92, .ifCond .ne 13, 3), (95, .aload_n 0, 1), (96, .getfield 55, 3), (99, .bipush 30, 2), (101, .iload_n 1, 1), (102, .iadd, 1), (103, .iaload, 1), (104, .ireturn, 1), (105, .iload_n 3, 1), (106, .iconst 1, 1), (107, .if_icmp .ne 8, 3), (110, .iload 4, 2), (112, .goto 22, 3), (115, .aload_n 0, 1), (116, .getfield 55, 3), (119, .bipush 50, 2), (121, .iload_n 1, 1), (122, .iadd, 1), (123, .iaload, 1), (124, .aload_n 0, 1), (125, .getfield 51, 3), (128, .bipush 50, 2), (130, .iload_n 1, 1), (131, .iadd, 1), (132, .iaload, 1), (133, .isub, 1), (134, .ireturn, 1)]
theorem DX7_ahead : (eX7_ahead.all fun q => decide (decode cX7_ahead q.1 = .ok q.2)) = true := by decide +kernel
def jX7_ahead_28 (S : List Sh) (mm : Mm) (x0 : Nat)  : Option (Int32 × Mm) := some ((-1), mm)
def bX7_ahead_48 (S : List Sh) (x0 : Nat) (x1 : Int32) (x2 : Int32) (x3 : Int32) (x4 : Int32) (x5 : Int32) (mm : Mm) : Option ((Int32 × Int32 × Mm) ⊕ (Int32 × Mm)) := if x2 ≤ x5 then (some (.inr (x4, mm))) else (bd1 (fX5_step S mm (rf S mm x0 2) (rf S mm x0 8) (rf S mm x0 7)) fun m4 => bd1 (ldA S 0 m4 (rf S m4 x0 7) (30 + x1)) fun a5 => some (.inl ((if x4 < a5 then a5 else x4), x5 + 1, m4)))
def jX7_ahead_134 (S : List Sh) (mm : Mm) (x0 : Nat) (p0 : Int32) : Option (Int32 × Mm) := some (p0, mm)
def fX7_ahead (S : List Sh) (mm : Mm) (x0 : Nat) (x1 : Int32) (x2 : Int32) (x3 : Int32) : Option (Int32 × Mm) := gd S x0 7 (bd1 (fX7_isLink S mm x0 x1) fun a1 => if a1 = 0 then (jX7_ahead_28 S mm x0) else (if x2 < 0 then (jX7_ahead_28 S mm x0) else (if 300 < x2 then (jX7_ahead_28 S mm x0) else (if x3 < 0 then (jX7_ahead_28 S mm x0) else (if x3 ≤ 2 then (bd1 (fX7_startTrial S mm x0) fun m2 => bd1 (ldA S 0 m2 (rf S m2 x0 7) (30 + x1)) fun a3 => bd1 (lp (fun s6 => bX7_ahead_48 S x0 x1 x2 x3 s6.1 s6.2.1 s6.2.2) fu (a3, 0, m2)) fun y7 => if ¬ x3 = 0 then (if ¬ x3 = 1 then (bd1 (ldA S 0 y7.2 (rf S y7.2 x0 7) (50 + x1)) fun a8 => bd1 (ldA S 0 y7.2 (rf S y7.2 x0 6) (50 + x1)) fun a9 => jX7_ahead_134 S y7.2 x0 (a8 - a9)) else (jX7_ahead_134 S y7.2 x0 y7.1)) else (bd1 (ldA S 0 y7.2 (rf S y7.2 x0 7) (30 + x1)) fun a10 => some (a10, y7.2))) else (jX7_ahead_28 S mm x0))))))
set_option maxHeartbeats 1000000 in
theorem tX7_ahead_28 {G : Gt} {l : Launch} {E : Ev} {S : List Sh} {mm : Mm} {x0 : Nat}  {r : Int32 × Mm} (C : Cx G E cX7_ahead 6 RX7 (some .int) 4 107) (g0 : isC S x0 7) (h : jX7_ahead_28 S mm x0 = some r) (hQ : RQ G E S (some (.int r.1)) r.2) : WM G l E S 28 [(0, .ref (E.2.2 x0))] [] mm := by
  unfold jX7_ahead_28 at h
  refine x_iconst (v := (-1)) C (dq DX7_ahead 14 rfl) (by decide) ?_
  cases h
  exact x_iret C (dq DX7_ahead 15 rfl) hQ
set_option maxHeartbeats 1000000 in
theorem tX7_ahead_48 {G : Gt} {l : Launch} {E : Ev} {S : List Sh} {x0 : Nat} {x1 : Int32} {x2 : Int32} {x3 : Int32} {x4 : Int32} {x5 : Int32} {mm : Mm} {r : (Int32 × Int32 × Mm) ⊕ (Int32 × Mm)} (C : Cx G E cX7_ahead 6 RX7 (some .int) 4 107) (g0 : isC S x0 7) (h : bX7_ahead_48 S x0 x1 x2 x3 x4 x5 mm = some r) (kb : ∀ z : Int32 × Int32 × Mm, r = .inl z → WM G l E S 48 [(0, .ref (E.2.2 x0)), (1, .int x1), (2, .int x2), (3, .int x3), (4, .int z.1), (5, .int z.2.1)] [] z.2.2) (kx : ∀ z : Int32 × Mm, r = .inr z → WM G l E S 91 [(0, .ref (E.2.2 x0)), (1, .int x1), (2, .int x2), (3, .int x3), (4, .int z.1)] [] z.2) : WM G l E S 48 [(0, .ref (E.2.2 x0)), (1, .int x1), (2, .int x2), (3, .int x3), (4, .int x4), (5, .int x5)] [] mm := by
  unfold bX7_ahead_48 at h
  refine x_iload C (dq DX7_ahead 27 rfl) 5 rfl ?_
  refine x_iload_n C (dq DX7_ahead 28 rfl) rfl 2 rfl ?_
  refine x_icmp_ge (tgt := 91) C (dq DX7_ahead 29 rfl) (by decide) h (fun h => ?_) (fun h => ?_)
  · cases h
    exact x_lv [0, 1, 2, 3, 4] rfl (kx (x4, mm) rfl)
  · refine x_aload_n C (dq DX7_ahead 30 rfl) rfl 0 rfl ?_
    refine x_pc 55 rfl ?_
    refine getX7_26 C (dq DX7_ahead 31 rfl) g0 ?_
    refine x_aload_n C (dq DX7_ahead 32 rfl) rfl 0 rfl ?_
    refine getX7_61 C (dq DX7_ahead 33 rfl) g0 ?_
    refine x_aload_n C (dq DX7_ahead 34 rfl) rfl 0 rfl ?_
    refine getX7_55 C (dq DX7_ahead 35 rfl) g0 ?_
    refine x_pc 66 rfl ?_
    refine callX7_229 C (dq DX7_ahead 36 rfl) h (by decide) (by decide) (Nat.le_of_ble_eq_true rfl) (fun m4 h => ?_)
    refine x_iload C (dq DX7_ahead 37 rfl) 4 rfl ?_
    refine x_aload_n C (dq DX7_ahead 38 rfl) rfl 0 rfl ?_
    refine getX7_55 C (dq DX7_ahead 39 rfl) g0 ?_
    refine x_bipush (v := 30) C (dq DX7_ahead 40 rfl) (by decide) ?_
    refine x_pc 77 rfl ?_
    refine x_iload_n C (dq DX7_ahead 41 rfl) rfl 1 rfl ?_
    refine x_iadd C (dq DX7_ahead 42 rfl) ?_
    refine x_iald C (dq DX7_ahead 43 rfl) h (fun a5 h => ?_)
    refine callX7_232 C (dq DX7_ahead 44 rfl) (by decide) (Nat.le_of_ble_eq_true rfl) ?_
    refine x_istore (lv' := [(4, .int (if x4 < a5 then a5 else x4)), (0, .ref (E.2.2 x0)), (1, .int x1), (2, .int x2), (3, .int x3), (5, .int x5)]) C (dq DX7_ahead 45 rfl) (by decide) rfl ?_
    refine x_pc 85 rfl ?_
    refine x_iinc (v := x5 + 1) (lv' := [(5, .int (x5 + 1)), (4, .int (if x4 < a5 then a5 else x4)), (0, .ref (E.2.2 x0)), (1, .int x1), (2, .int x2), (3, .int x3)]) C (dq DX7_ahead 46 rfl) 5 rfl rfl (by decide) rfl ?_
    refine x_goto (tgt := 48) C (dq DX7_ahead 47 rfl) (by decide) ?_
    cases h
    exact x_lv [2, 3, 4, 5, 1, 0] rfl (kb ((if x4 < a5 then a5 else x4), x5 + 1, m4) rfl)
set_option maxHeartbeats 1000000 in
theorem tX7_ahead_134 {G : Gt} {l : Launch} {E : Ev} {S : List Sh} {mm : Mm} {x0 : Nat} {p0 : Int32} {r : Int32 × Mm} (C : Cx G E cX7_ahead 6 RX7 (some .int) 4 107) (g0 : isC S x0 7) (h : jX7_ahead_134 S mm x0 p0 = some r) (hQ : RQ G E S (some (.int r.1)) r.2) : WM G l E S 134 [(0, .ref (E.2.2 x0))] [.int p0] mm := by
  unfold jX7_ahead_134 at h
  cases h
  exact x_iret C (dq DX7_ahead 75 rfl) hQ
set_option maxHeartbeats 1000000 in
theorem mX7_ahead {l : Launch} {E : Ev} {S : List Sh} {mm : Mm} {x0 : Nat} {x1 : Int32} {x2 : Int32} {x3 : Int32} {r : Int32 × Mm} (h : fX7_ahead S mm x0 x1 x2 x3 = some r) : Ml l E S yX7_ahead cX7_ahead 6 (some .int) 4 107 [.ref (E.2.2 x0), .int x1, .int x2, .int x3] mm (some (.int r.1)) r.2 := by
  refine Ml.of (by decide +kernel) (Nat.le_of_ble_eq_true rfl) (fun G C hQ => ?_)
  have C : Cx G E cX7_ahead 6 RX7 (some .int) 4 107 := C
  unfold fX7_ahead at h
  obtain ⟨g0, h⟩ := gd_some h
  show WM G l E S 0 [(0, .ref (E.2.2 x0)), (1, .int x1), (2, .int x2), (3, .int x3)] [] mm
  refine x_aload_n C (dq DX7_ahead 0 rfl) rfl 0 rfl ?_
  refine x_iload_n C (dq DX7_ahead 1 rfl) rfl 1 rfl ?_
  refine callX7_140 C (dq DX7_ahead 2 rfl) h (by decide) (by decide) (Nat.le_of_ble_eq_true rfl) (fun a1 h => ?_)
  refine x_if_eq (tgt := 28) C (dq DX7_ahead 3 rfl) (by decide) h (fun h => ?_) (fun h => ?_)
  · exact x_lv [0] rfl (tX7_ahead_28 C g0 h hQ)
  · refine x_pc 8 rfl ?_
    refine x_iload_n C (dq DX7_ahead 4 rfl) rfl 2 rfl ?_
    refine x_if_lt (tgt := 28) C (dq DX7_ahead 5 rfl) (by decide) h (fun h => ?_) (fun h => ?_)
    · exact x_lv [0] rfl (tX7_ahead_28 C g0 h hQ)
    · refine x_iload_n C (dq DX7_ahead 6 rfl) rfl 2 rfl ?_
      refine x_sipush (v := 300) C (dq DX7_ahead 7 rfl) (by decide) ?_
      refine x_icmp_gt (tgt := 28) C (dq DX7_ahead 8 rfl) (by decide) h (fun h => ?_) (fun h => ?_)
      · exact x_lv [0] rfl (tX7_ahead_28 C g0 h hQ)
      · refine x_pc 19 rfl ?_
        refine x_iload_n C (dq DX7_ahead 9 rfl) rfl 3 rfl ?_
        refine x_if_lt (tgt := 28) C (dq DX7_ahead 10 rfl) (by decide) h (fun h => ?_) (fun h => ?_)
        · exact x_lv [0] rfl (tX7_ahead_28 C g0 h hQ)
        · refine x_iload_n C (dq DX7_ahead 11 rfl) rfl 3 rfl ?_
          refine x_iconst (v := 2) C (dq DX7_ahead 12 rfl) (by decide) ?_
          refine x_icmp_le (tgt := 30) C (dq DX7_ahead 13 rfl) (by decide) h (fun h => ?_) (fun h => ?_)
          · refine x_pc 30 rfl ?_
            refine x_aload_n C (dq DX7_ahead 16 rfl) rfl 0 rfl ?_
            refine callX7_226 C (dq DX7_ahead 17 rfl) h (by decide) (by decide) (Nat.le_of_ble_eq_true rfl) (fun m2 h => ?_)
            refine x_aload_n C (dq DX7_ahead 18 rfl) rfl 0 rfl ?_
            refine getX7_55 C (dq DX7_ahead 19 rfl) g0 ?_
            refine x_bipush (v := 30) C (dq DX7_ahead 20 rfl) (by decide) ?_
            refine x_pc 40 rfl ?_
            refine x_iload_n C (dq DX7_ahead 21 rfl) rfl 1 rfl ?_
            refine x_iadd C (dq DX7_ahead 22 rfl) ?_
            refine x_iald C (dq DX7_ahead 23 rfl) h (fun a3 h => ?_)
            refine x_istore (lv' := [(4, .int a3), (0, .ref (E.2.2 x0)), (1, .int x1), (2, .int x2), (3, .int x3)]) C (dq DX7_ahead 24 rfl) (by decide) rfl ?_
            refine x_iconst (v := 0) C (dq DX7_ahead 25 rfl) (by decide) ?_
            refine x_pc 46 rfl ?_
            refine x_istore (lv' := [(5, .int 0), (4, .int a3), (0, .ref (E.2.2 x0)), (1, .int x1), (2, .int x2), (3, .int x3)]) C (dq DX7_ahead 26 rfl) (by decide) rfl ?_
            refine x_lv [2, 3, 4, 5, 1, 0] rfl ?_
            refine x_loop (s0 := (a3, 0, m2)) (fun s6 => WM G l E S 48 [(0, .ref (E.2.2 x0)), (1, .int x1), (2, .int x2), (3, .int x3), (4, .int s6.1), (5, .int s6.2.1)] [] s6.2.2) h (fun s6 r hb kb kx => tX7_ahead_48 C g0 hb kb (fun y7 hy => ?_))
            have h := kx y7 hy
            clear kx kb hb hy
            refine x_iload_n C (dq DX7_ahead 48 rfl) rfl 3 rfl ?_
            refine x_if_ne (tgt := 105) C (dq DX7_ahead 49 rfl) (by decide) h (fun h => ?_) (fun h => ?_)
            · refine x_iload_n C (dq DX7_ahead 57 rfl) rfl 3 rfl ?_
              refine x_iconst (v := 1) C (dq DX7_ahead 58 rfl) (by decide) ?_
              refine x_pc 107 rfl ?_
              refine x_icmp_ne (tgt := 115) C (dq DX7_ahead 59 rfl) (by decide) h (fun h => ?_) (fun h => ?_)
              · refine x_aload_n C (dq DX7_ahead 62 rfl) rfl 0 rfl ?_
                refine getX7_55 C (dq DX7_ahead 63 rfl) g0 ?_
                refine x_bipush (v := 50) C (dq DX7_ahead 64 rfl) (by decide) ?_
                refine x_iload_n C (dq DX7_ahead 65 rfl) rfl 1 rfl ?_
                refine x_pc 122 rfl ?_
                refine x_iadd C (dq DX7_ahead 66 rfl) ?_
                refine x_iald C (dq DX7_ahead 67 rfl) h (fun a8 h => ?_)
                refine x_aload_n C (dq DX7_ahead 68 rfl) rfl 0 rfl ?_
                refine getX7_51 C (dq DX7_ahead 69 rfl) g0 ?_
                refine x_bipush (v := 50) C (dq DX7_ahead 70 rfl) (by decide) ?_
                refine x_pc 130 rfl ?_
                refine x_iload_n C (dq DX7_ahead 71 rfl) rfl 1 rfl ?_
                refine x_iadd C (dq DX7_ahead 72 rfl) ?_
                refine x_iald C (dq DX7_ahead 73 rfl) h (fun a9 h => ?_)
                refine x_isub C (dq DX7_ahead 74 rfl) ?_
                exact x_lv [0] rfl (tX7_ahead_134 C g0 h hQ)
              · refine x_iload C (dq DX7_ahead 60 rfl) 4 rfl ?_
                refine x_goto (tgt := 134) C (dq DX7_ahead 61 rfl) (by decide) ?_
                exact x_lv [0] rfl (tX7_ahead_134 C g0 h hQ)
            · refine x_aload_n C (dq DX7_ahead 50 rfl) rfl 0 rfl ?_
              refine getX7_55 C (dq DX7_ahead 51 rfl) g0 ?_
              refine x_pc 99 rfl ?_
              refine x_bipush (v := 30) C (dq DX7_ahead 52 rfl) (by decide) ?_
              refine x_iload_n C (dq DX7_ahead 53 rfl) rfl 1 rfl ?_
              refine x_iadd C (dq DX7_ahead 54 rfl) ?_
              refine x_iald C (dq DX7_ahead 55 rfl) h (fun a10 h => ?_)
              cases h
              exact x_iret C (dq DX7_ahead 56 rfl) hQ
          · exact x_lv [0] rfl (tX7_ahead_28 C g0 h hQ)
set_option maxHeartbeats 1000000 in
theorem qX7_ahead {S : List Sh} {mm : Mm} {x0 : Nat} {x1 : Int32} {x2 : Int32} {x3 : Int32} {r : Int32 × Mm} (h : fX7_ahead S mm x0 x1 x2 x3 = some r) : isC S x0 7 := by
  unfold fX7_ahead at h
  exact (gd_some h).1
