theorem callX8_310 {G : Gt} {l : Launch} {E : Ev} {S : List Sh} {cc : ByteArray} {nL : Nat} {rt : Option FieldType} {fr lo : Nat} {pc : Nat} {lv : List (Nat × Value)} {rest : List Value} {mm : Mm} {α : Type} {f : Mm → Option α} {r : α} {o : Nat} (C : Cx G E cc nL RX8 rt fr lo) (d : decode cc pc = .ok (.invokevirtual 310, 3)) (h : bd1 (fX8_remembers S mm o) f = some r) (hfr : 2 ≤ fr) (hlo : 45 ≤ lo) (hrs : (rest.map fun v => v.category).sum ≤ 8) (k : ∀ m1, f m1 = some r → WM G l E S (pc + 3) lv rest m1) : WM G l E S pc lv (.ref (E.2.2 o) :: rest) mm := by
  obtain ⟨m1, hv, hf⟩ := bd1_some h
  exact x_callV (n := 0) (As := []) (rest := rest) C (mX8_remembers hv) (qX8_remembers hv) (T := TX8) (N := 49) rfl (gmem 1188 (by decide +kernel) rfl) (gmem 1190 (by decide +kernel) rfl) (gmemS 64 (by decide +kernel) rfl) (gmem 9 (by decide +kernel) rfl) (gmem 1191 (by decide +kernel) rfl) (by decide +kernel) rfl hfr hlo hrs d rfl rfl (k m1 hf)
theorem callX8_313 {G : Gt} {l : Launch} {E : Ev} {S : List Sh} {cc : ByteArray} {nL : Nat} {rt : Option FieldType} {fr lo : Nat} {pc : Nat} {lv : List (Nat × Value)} {rest : List Value} {mm : Mm} {α : Type} {f : Mm → Option α} {r : α} {o : Nat} (C : Cx G E cc nL RX8 rt fr lo) (d : decode cc pc = .ok (.invokevirtual 313, 3)) (h : bd1 (fX8_tickGoes S mm o) f = some r) (hfr : 4 ≤ fr) (hlo : 91 ≤ lo) (hrs : (rest.map fun v => v.category).sum ≤ 8) (k : ∀ m1, f m1 = some r → WM G l E S (pc + 3) lv rest m1) : WM G l E S pc lv (.ref (E.2.2 o) :: rest) mm := by
  obtain ⟨m1, hv, hf⟩ := bd1_some h
  exact x_callV (n := 0) (As := []) (rest := rest) C (mX8_tickGoes hv) (qX8_tickGoes hv) (T := TX8) (N := 49) rfl (gmem 1192 (by decide +kernel) rfl) (gmem 1194 (by decide +kernel) rfl) (gmemS 65 (by decide +kernel) rfl) (gmem 9 (by decide +kernel) rfl) (gmem 1195 (by decide +kernel) rfl) (by decide +kernel) rfl hfr hlo hrs d rfl rfl (k m1 hf)
abbrev eX8_tick : List (Nat × Instr × Nat) := [(0, .aload_n 0, 1), (1, .iconst 0, 1), (2, .putfield 115, 3), (5, .iload_n 1, 1), (6, .iconst 1, 1), (7, .if_icmp .lt 9, 3), (10, .iload_n 1, 1), (11, .bipush 50, 2), (13, .if_icmp .le 5, 3), (16, .iconst (-1), 1), (17, .ireturn, 1), (18, .aload_n 0, 1), (19, .getfield 57, 3), (22, .sipush 336, 3), (25, .iaload, 1), (26, .iload_n 1, 1), (27, .iadd, 1), (28, .sipush 9999, 3), (31, .if_icmp .le 6, 3), (34, .bipush (-2), 2), (36, .ireturn, 1), (37, .aload_n 0, 1), (38, .invokevirtual 310, 3), (41, .iconst 0, 1), (42, .istore_n 2, 1), (43, .iload_n 2, 1), (44, .iload_n 1, 1), (45, .if_icmp .ge 13, 3), (48, .aload_n 0, 1), (49, .invokevirtual 313, 3), (52, .iinc 2 1, 3), (55, .goto (-12), 3), (58, .aload_n 0, 1), (59, .getfield 57, 3), (62, .sipush 336, 3), (65, .iaload, 1), (66, .ireturn, 1)]
theorem DX8_tick : (eX8_tick.all fun q => decide (decode cX8_tick q.1 = .ok q.2)) = true := by decide +kernel
def jX8_tick_16 (S : List Sh) (mm : Mm) (x0 : Nat)  : Option (Int32 × Mm) := some ((-1), mm)
def bX8_tick_43 (S : List Sh) (x0 : Nat) (x1 : Int32) (x2 : Int32) (mm : Mm) : Option ((Int32 × Mm) ⊕ (Mm)) := if x1 ≤ x2 then (some (.inr (mm))) else (bd1 (fX8_tickGoes S mm x0) fun m4 => some (.inl (x2 + 1, m4)))
def fX8_tick (S : List Sh) (mm : Mm) (x0 : Nat) (x1 : Int32) : Option (Int32 × Mm) := gd S x0 8 (bd1 (some (u1 mm x0 0 0)) fun m1 => if x1 < 1 then (jX8_tick_16 S m1 x0) else (if x1 ≤ 50 then (bd1 (ldA S 0 m1 (rf S m1 x0 26) 336) fun a2 => if (a2 + x1) ≤ 9999 then (bd1 (fX8_remembers S m1 x0) fun m3 => bd1 (lp (fun s5 => bX8_tick_43 S x0 x1 s5.1 s5.2) fu (0, m3)) fun y6 => bd1 (ldA S 0 y6 (rf S y6 x0 26) 336) fun a7 => some (a7, y6)) else (some ((-2), m1))) else (jX8_tick_16 S m1 x0)))
set_option maxHeartbeats 1000000 in
theorem tX8_tick_16 {G : Gt} {l : Launch} {E : Ev} {S : List Sh} {mm : Mm} {x0 : Nat}  {r : Int32 × Mm} (C : Cx G E cX8_tick 3 RX8 (some .int) 4 91) (g0 : isC S x0 8) (h : jX8_tick_16 S mm x0 = some r) (hQ : RQ G E S (some (.int r.1)) r.2) : WM G l E S 16 [(0, .ref (E.2.2 x0))] [] mm := by
  unfold jX8_tick_16 at h
  refine x_iconst (v := (-1)) C (dq DX8_tick 9 rfl) (by decide) ?_
  cases h
  exact x_iret C (dq DX8_tick 10 rfl) hQ
set_option maxHeartbeats 1000000 in
theorem tX8_tick_43 {G : Gt} {l : Launch} {E : Ev} {S : List Sh} {x0 : Nat} {x1 : Int32} {x2 : Int32} {mm : Mm} {r : (Int32 × Mm) ⊕ (Mm)} (C : Cx G E cX8_tick 3 RX8 (some .int) 4 91) (g0 : isC S x0 8) (h : bX8_tick_43 S x0 x1 x2 mm = some r) (kb : ∀ z : Int32 × Mm, r = .inl z → WM G l E S 43 [(0, .ref (E.2.2 x0)), (1, .int x1), (2, .int z.1)] [] z.2) (kx : ∀ z : Mm, r = .inr z → WM G l E S 58 [(0, .ref (E.2.2 x0)), (1, .int x1)] [] z) : WM G l E S 43 [(0, .ref (E.2.2 x0)), (1, .int x1), (2, .int x2)] [] mm := by
  unfold bX8_tick_43 at h
  refine x_iload_n C (dq DX8_tick 25 rfl) rfl 2 rfl ?_
  refine x_iload_n C (dq DX8_tick 26 rfl) rfl 1 rfl ?_
  refine x_icmp_ge (tgt := 58) C (dq DX8_tick 27 rfl) (by decide) h (fun h => ?_) (fun h => ?_)
  · cases h
    exact x_lv [0, 1] rfl (kx (mm) rfl)
  · refine x_aload_n C (dq DX8_tick 28 rfl) rfl 0 rfl ?_
    refine x_pc 49 rfl ?_
    refine callX8_313 C (dq DX8_tick 29 rfl) h (by decide) (by decide) (Nat.le_of_ble_eq_true rfl) (fun m4 h => ?_)
    refine x_iinc (v := x2 + 1) (lv' := [(2, .int (x2 + 1)), (0, .ref (E.2.2 x0)), (1, .int x1)]) C (dq DX8_tick 30 rfl) 2 rfl rfl (by decide) rfl ?_
    refine x_goto (tgt := 43) C (dq DX8_tick 31 rfl) (by decide) ?_
    cases h
    exact x_lv [1, 2, 0] rfl (kb (x2 + 1, m4) rfl)
set_option maxHeartbeats 1000000 in
theorem mX8_tick {l : Launch} {E : Ev} {S : List Sh} {mm : Mm} {x0 : Nat} {x1 : Int32} {r : Int32 × Mm} (h : fX8_tick S mm x0 x1 = some r) : Ml l E S yX8_tick cX8_tick 3 (some .int) 4 91 [.ref (E.2.2 x0), .int x1] mm (some (.int r.1)) r.2 := by
  refine Ml.of (by decide +kernel) (Nat.le_of_ble_eq_true rfl) (fun G C hQ => ?_)
  have C : Cx G E cX8_tick 3 RX8 (some .int) 4 91 := C
  unfold fX8_tick at h
  obtain ⟨g0, h⟩ := gd_some h
  show WM G l E S 0 [(0, .ref (E.2.2 x0)), (1, .int x1)] [] mm
  refine x_aload_n C (dq DX8_tick 0 rfl) rfl 0 rfl ?_
  refine x_iconst (v := 0) C (dq DX8_tick 1 rfl) (by decide) ?_
  refine putX8_115 C (dq DX8_tick 2 rfl) g0 h (fun m1 h => ?_)
  refine x_iload_n C (dq DX8_tick 3 rfl) rfl 1 rfl ?_
  refine x_pc 6 rfl ?_
  refine x_iconst (v := 1) C (dq DX8_tick 4 rfl) (by decide) ?_
  refine x_icmp_lt (tgt := 16) C (dq DX8_tick 5 rfl) (by decide) h (fun h => ?_) (fun h => ?_)
  · exact x_lv [0] rfl (tX8_tick_16 C g0 h hQ)
  · refine x_iload_n C (dq DX8_tick 6 rfl) rfl 1 rfl ?_
    refine x_bipush (v := 50) C (dq DX8_tick 7 rfl) (by decide) ?_
    refine x_icmp_le (tgt := 18) C (dq DX8_tick 8 rfl) (by decide) h (fun h => ?_) (fun h => ?_)
    · refine x_pc 18 rfl ?_
      refine x_aload_n C (dq DX8_tick 11 rfl) rfl 0 rfl ?_
      refine getX8_57 C (dq DX8_tick 12 rfl) g0 ?_
      refine x_sipush (v := 336) C (dq DX8_tick 13 rfl) (by decide) ?_
      refine x_iald C (dq DX8_tick 14 rfl) h (fun a2 h => ?_)
      refine x_iload_n C (dq DX8_tick 15 rfl) rfl 1 rfl ?_
      refine x_pc 27 rfl ?_
      refine x_iadd C (dq DX8_tick 16 rfl) ?_
      refine x_sipush (v := 9999) C (dq DX8_tick 17 rfl) (by decide) ?_
      refine x_icmp_le (tgt := 37) C (dq DX8_tick 18 rfl) (by decide) h (fun h => ?_) (fun h => ?_)
      · refine x_aload_n C (dq DX8_tick 21 rfl) rfl 0 rfl ?_
        refine callX8_310 C (dq DX8_tick 22 rfl) h (by decide) (by decide) (Nat.le_of_ble_eq_true rfl) (fun m3 h => ?_)
        refine x_pc 41 rfl ?_
        refine x_iconst (v := 0) C (dq DX8_tick 23 rfl) (by decide) ?_
        refine x_istore_n (lv' := [(2, .int 0), (0, .ref (E.2.2 x0)), (1, .int x1)]) C (dq DX8_tick 24 rfl) rfl (by decide) rfl ?_
        refine x_lv [1, 2, 0] rfl ?_
        refine x_loop (s0 := (0, m3)) (fun s5 => WM G l E S 43 [(0, .ref (E.2.2 x0)), (1, .int x1), (2, .int s5.1)] [] s5.2) h (fun s5 r hb kb kx => tX8_tick_43 C g0 hb kb (fun y6 hy => ?_))
        have h := kx y6 hy
        clear kx kb hb hy
        refine x_aload_n C (dq DX8_tick 32 rfl) rfl 0 rfl ?_
        refine getX8_57 C (dq DX8_tick 33 rfl) g0 ?_
        refine x_sipush (v := 336) C (dq DX8_tick 34 rfl) (by decide) ?_
        refine x_pc 65 rfl ?_
        refine x_iald C (dq DX8_tick 35 rfl) h (fun a7 h => ?_)
        cases h
        exact x_iret C (dq DX8_tick 36 rfl) hQ
      · refine x_bipush (v := (-2)) C (dq DX8_tick 19 rfl) (by decide) ?_
        cases h
        exact x_iret C (dq DX8_tick 20 rfl) hQ
    · exact x_lv [0] rfl (tX8_tick_16 C g0 h hQ)
set_option maxHeartbeats 1000000 in
theorem qX8_tick {S : List Sh} {mm : Mm} {x0 : Nat} {x1 : Int32} {r : Int32 × Mm} (h : fX8_tick S mm x0 x1 = some r) : isC S x0 8 := by
  unfold fX8_tick at h
  exact (gd_some h).1
abbrev eX8_isLink : List (Nat × Instr × Nat) := [(0, .iload_n 1, 1), (1, .ifCond .lt 15, 3), (4, .iload_n 1, 1), (5, .aload_n 0, 1), (6, .invokevirtual 248, 3), (9, .if_icmp .ge 7, 3), (12, .iconst 1, 1), (13, .goto 4, 3), (16, .iconst 0, 1), (17, .ireturn, 1)]
theorem DX8_isLink : (eX8_isLink.all fun q => decide (decode cX8_isLink q.1 = .ok q.2)) = true := by decide +kernel
def jX8_isLink_17 (S : List Sh) (mm : Mm) (x0 : Nat) (p0 : Int32) : Option (Int32) := bd1 (okZ p0) fun _ => some p0
def jX8_isLink_16 (S : List Sh) (mm : Mm) (x0 : Nat)  : Option (Int32) := jX8_isLink_17 S mm x0 0
def fX8_isLink (S : List Sh) (mm : Mm) (x0 : Nat) (x1 : Int32) : Option (Int32) := gd S x0 8 (if x1 < 0 then (jX8_isLink_16 S mm x0) else (bd1 (fX8_links S mm x0) fun a1 => if a1 ≤ x1 then (jX8_isLink_16 S mm x0) else (jX8_isLink_17 S mm x0 1)))
set_option maxHeartbeats 1000000 in
theorem tX8_isLink_17 {G : Gt} {l : Launch} {E : Ev} {S : List Sh} {mm : Mm} {x0 : Nat} {p0 : Int32} {r : Int32} (C : Cx G E cX8_isLink 2 RX8 (some .boolean) 1 20) (g0 : isC S x0 8) (h : jX8_isLink_17 S mm x0 p0 = some r) (hQ : RQ G E S (some (.int r)) mm) : WM G l E S 17 [(0, .ref (E.2.2 x0))] [.int p0] mm := by
  unfold jX8_isLink_17 at h
  refine x_zret C (dq DX8_isLink 9 rfl) h (fun h => ?_)
  cases h
  exact hQ
set_option maxHeartbeats 1000000 in
theorem tX8_isLink_16 {G : Gt} {l : Launch} {E : Ev} {S : List Sh} {mm : Mm} {x0 : Nat}  {r : Int32} (C : Cx G E cX8_isLink 2 RX8 (some .boolean) 1 20) (g0 : isC S x0 8) (h : jX8_isLink_16 S mm x0 = some r) (hQ : RQ G E S (some (.int r)) mm) : WM G l E S 16 [(0, .ref (E.2.2 x0))] [] mm := by
  unfold jX8_isLink_16 at h
  refine x_iconst (v := 0) C (dq DX8_isLink 8 rfl) (by decide) ?_
  exact x_lv [0] rfl (tX8_isLink_17 C g0 h hQ)
set_option maxHeartbeats 1000000 in
theorem mX8_isLink {l : Launch} {E : Ev} {S : List Sh} {mm : Mm} {x0 : Nat} {x1 : Int32} {r : Int32} (h : fX8_isLink S mm x0 x1 = some r) : Ml l E S yX8_isLink cX8_isLink 2 (some .boolean) 1 20 [.ref (E.2.2 x0), .int x1] mm (some (.int r)) mm := by
  refine Ml.of (by decide +kernel) (Nat.le_of_ble_eq_true rfl) (fun G C hQ => ?_)
  have C : Cx G E cX8_isLink 2 RX8 (some .boolean) 1 20 := C
  unfold fX8_isLink at h
  obtain ⟨g0, h⟩ := gd_some h
  show WM G l E S 0 [(0, .ref (E.2.2 x0)), (1, .int x1)] [] mm
  refine x_iload_n C (dq DX8_isLink 0 rfl) rfl 1 rfl ?_
  refine x_if_lt (tgt := 16) C (dq DX8_isLink 1 rfl) (by decide) h (fun h => ?_) (fun h => ?_)
  · exact x_lv [0] rfl (tX8_isLink_16 C g0 h hQ)
  · refine x_iload_n C (dq DX8_isLink 2 rfl) rfl 1 rfl ?_
    refine x_aload_n C (dq DX8_isLink 3 rfl) rfl 0 rfl ?_
    refine x_pc 6 rfl ?_
    refine callX8_248 C (dq DX8_isLink 4 rfl) h (by decide) (by decide) (Nat.le_of_ble_eq_true rfl) (fun a1 h => ?_)
    refine x_icmp_ge (tgt := 16) C (dq DX8_isLink 5 rfl) (by decide) h (fun h => ?_) (fun h => ?_)
    · exact x_lv [0] rfl (tX8_isLink_16 C g0 h hQ)
    · refine x_iconst (v := 1) C (dq DX8_isLink 6 rfl) (by decide) ?_
      refine x_goto (tgt := 17) C (dq DX8_isLink 7 rfl) (by decide) ?_
      exact x_lv [0] rfl (tX8_isLink_17 C g0 h hQ)
set_option maxHeartbeats 1000000 in
theorem qX8_isLink {S : List Sh} {mm : Mm} {x0 : Nat} {x1 : Int32} {r : Int32} (h : fX8_isLink S mm x0 x1 = some r) : isC S x0 8 := by
  unfold fX8_isLink at h
  exact (gd_some h).1
abbrev eX8_isFlow : List (Nat × Instr × Nat) := [(0, .iload_n 1, 1), (1, .ifCond .lt 15, 3), (4, .iload_n 1, 1), (5, .aload_n 0, 1), (6, .invokevirtual 251, 3), (9, .if_icmp .ge 7, 3), (12, .iconst 1, 1), (13, .goto 4, 3), (16, .iconst 0, 1), (17, .ireturn, 1)]
theorem DX8_isFlow : (eX8_isFlow.all fun q => decide (decode cX8_isFlow q.1 = .ok q.2)) = true := by decide +kernel
def jX8_isFlow_17 (S : List Sh) (mm : Mm) (x0 : Nat) (p0 : Int32) : Option (Int32) := bd1 (okZ p0) fun _ => some p0
def jX8_isFlow_16 (S : List Sh) (mm : Mm) (x0 : Nat)  : Option (Int32) := jX8_isFlow_17 S mm x0 0
def fX8_isFlow (S : List Sh) (mm : Mm) (x0 : Nat) (x1 : Int32) : Option (Int32) := gd S x0 8 (if x1 < 0 then (jX8_isFlow_16 S mm x0) else (bd1 (fX8_flows S mm x0) fun a1 => if a1 ≤ x1 then (jX8_isFlow_16 S mm x0) else (jX8_isFlow_17 S mm x0 1)))
set_option maxHeartbeats 1000000 in
theorem tX8_isFlow_17 {G : Gt} {l : Launch} {E : Ev} {S : List Sh} {mm : Mm} {x0 : Nat} {p0 : Int32} {r : Int32} (C : Cx G E cX8_isFlow 2 RX8 (some .boolean) 1 20) (g0 : isC S x0 8) (h : jX8_isFlow_17 S mm x0 p0 = some r) (hQ : RQ G E S (some (.int r)) mm) : WM G l E S 17 [(0, .ref (E.2.2 x0))] [.int p0] mm := by
  unfold jX8_isFlow_17 at h
  refine x_zret C (dq DX8_isFlow 9 rfl) h (fun h => ?_)
  cases h
  exact hQ
set_option maxHeartbeats 1000000 in
theorem tX8_isFlow_16 {G : Gt} {l : Launch} {E : Ev} {S : List Sh} {mm : Mm} {x0 : Nat}  {r : Int32} (C : Cx G E cX8_isFlow 2 RX8 (some .boolean) 1 20) (g0 : isC S x0 8) (h : jX8_isFlow_16 S mm x0 = some r) (hQ : RQ G E S (some (.int r)) mm) : WM G l E S 16 [(0, .ref (E.2.2 x0))] [] mm := by
  unfold jX8_isFlow_16 at h
  refine x_iconst (v := 0) C (dq DX8_isFlow 8 rfl) (by decide) ?_
  exact x_lv [0] rfl (tX8_isFlow_17 C g0 h hQ)
set_option maxHeartbeats 1000000 in
theorem mX8_isFlow {l : Launch} {E : Ev} {S : List Sh} {mm : Mm} {x0 : Nat} {x1 : Int32} {r : Int32} (h : fX8_isFlow S mm x0 x1 = some r) : Ml l E S yX8_isFlow cX8_isFlow 2 (some .boolean) 1 20 [.ref (E.2.2 x0), .int x1] mm (some (.int r)) mm := by
  refine Ml.of (by decide +kernel) (Nat.le_of_ble_eq_true rfl) (fun G C hQ => ?_)
  have C : Cx G E cX8_isFlow 2 RX8 (some .boolean) 1 20 := C
  unfold fX8_isFlow at h
  obtain ⟨g0, h⟩ := gd_some h
  show WM G l E S 0 [(0, .ref (E.2.2 x0)), (1, .int x1)] [] mm
  refine x_iload_n C (dq DX8_isFlow 0 rfl) rfl 1 rfl ?_
  refine x_if_lt (tgt := 16) C (dq DX8_isFlow 1 rfl) (by decide) h (fun h => ?_) (fun h => ?_)
  · exact x_lv [0] rfl (tX8_isFlow_16 C g0 h hQ)
  · refine x_iload_n C (dq DX8_isFlow 2 rfl) rfl 1 rfl ?_
    refine x_aload_n C (dq DX8_isFlow 3 rfl) rfl 0 rfl ?_
    refine x_pc 6 rfl ?_
    refine callX8_251 C (dq DX8_isFlow 4 rfl) h (by decide) (by decide) (Nat.le_of_ble_eq_true rfl) (fun a1 h => ?_)
    refine x_icmp_ge (tgt := 16) C (dq DX8_isFlow 5 rfl) (by decide) h (fun h => ?_) (fun h => ?_)
    · exact x_lv [0] rfl (tX8_isFlow_16 C g0 h hQ)
    · refine x_iconst (v := 1) C (dq DX8_isFlow 6 rfl) (by decide) ?_
      refine x_goto (tgt := 17) C (dq DX8_isFlow 7 rfl) (by decide) ?_
      exact x_lv [0] rfl (tX8_isFlow_17 C g0 h hQ)
set_option maxHeartbeats 1000000 in
theorem qX8_isFlow {S : List Sh} {mm : Mm} {x0 : Nat} {x1 : Int32} {r : Int32} (h : fX8_isFlow S mm x0 x1 = some r) : isC S x0 8 := by
  unfold fX8_isFlow at h
  exact (gd_some h).1
theorem callX8_316 {G : Gt} {l : Launch} {E : Ev} {S : List Sh} {cc : ByteArray} {nL : Nat} {rt : Option FieldType} {fr lo : Nat} {pc : Nat} {lv : List (Nat × Value)} {rest : List Value} {mm : Mm} {α : Type} {f : Int32 → Option α} {r : α} {o : Nat} {a0 : Int32} (C : Cx G E cc nL RX8 rt fr lo) (d : decode cc pc = .ok (.invokevirtual 316, 3)) (h : bd1 (fX8_isFlow S mm o a0) f = some r) (hfr : 2 ≤ fr) (hlo : 41 ≤ lo) (hrs : (rest.map fun v => v.category).sum ≤ 8) (k : ∀ v, f v = some r → WM G l E S (pc + 3) lv (.int v :: rest) mm) : WM G l E S pc lv (.int a0 :: .ref (E.2.2 o) :: rest) mm := by
  obtain ⟨v, hv, hf⟩ := bd1_some h
  exact x_callV (n := 1) (As := [.int a0]) (rest := rest) C (mX8_isFlow hv) (qX8_isFlow hv) (T := TX8) (N := 49) rfl (gmem 1262 (by decide +kernel) rfl) (gmem 1264 (by decide +kernel) rfl) (gmemS 80 (by decide +kernel) rfl) (gmem 9 (by decide +kernel) rfl) (gmem 1265 (by decide +kernel) rfl) (by decide +kernel) rfl hfr hlo hrs d rfl rfl (k v hf)
abbrev eX8_rate : List (Nat × Instr × Nat) := [(0, .aload_n 0, 1), (1, .iconst 0, 1), (2, .putfield 115, 3), (5, .aload_n 0, 1), (6, .iload_n 1, 1), (7, .invokevirtual 316, 3), (10, .ifCond .eq 15, 3), (13, .iload_n 2, 1), (14, .iconst 1, 1), (15, .if_icmp .lt 10, 3), (18, .iload_n 2, 1), (19, .sipush 1024, 3), (22, .if_icmp .le 5, 3), (25, .iconst (-1), 1), (26, .ireturn, 1), (27, .aload_n 0, 1), (28, .invokevirtual 310, 3), (31, .aload_n 0, 1), (32, .getfield 57, 3), (35, .iload_n 1, 1), (36, .invokestatic 258, 3), (39, .iconst 0, 1), (40, .iadd, 1), (41, .iaload, 1), (42, .istore_n 3, 1), (43, .aload_n 0, 1), (44, .getfield 57, 3), (47, .iload_n 1, 1), (48, .invokestatic 258, 3), (51, .iconst 0, 1), (52, .iadd, 1), (53, .iload_n 2, 1), (54, .iastore, 1), (55, .aload_n 0, 1), (56, .getfield 57, 3), (59, .iload_n 1, 1), (60, .invokestatic 258, 3), (63, .iconst 1, 1), (64, .iadd, 1), (65, .iload_n 2, 1), (66, .iastore, 1), (67, .iload_n 3, 1), (68, .ireturn, 1)]
theorem DX8_rate : (eX8_rate.all fun q => decide (decode cX8_rate q.1 = .ok q.2)) = true := by decide +kernel
def jX8_rate_25 (S : List Sh) (mm : Mm) (x0 : Nat)  : Option (Int32 × Mm) := some ((-1), mm)
def fX8_rate (S : List Sh) (mm : Mm) (x0 : Nat) (x1 : Int32) (x2 : Int32) : Option (Int32 × Mm) := gd S x0 8 (bd1 (some (u1 mm x0 0 0)) fun m1 => bd1 (fX8_isFlow S m1 x0 x1) fun a2 => if a2 = 0 then (jX8_rate_25 S m1 x0) else (if x2 < 1 then (jX8_rate_25 S m1 x0) else (if x2 ≤ 1024 then (bd1 (fX8_remembers S m1 x0) fun m3 => bd1 (fX8_flowAt S m3 x1) fun a4 => bd1 (ldA S 0 m3 (rf S m3 x0 26) (a4 + 0)) fun a5 => bd1 (fX8_flowAt S m3 x1) fun a6 => bd1 (stA S 0 m3 (rf S m3 x0 26) (a6 + 0) x2) fun m7 => bd1 (fX8_flowAt S m7 x1) fun a8 => bd1 (stA S 0 m7 (rf S m7 x0 26) (a8 + 1) x2) fun m9 => some (a5, m9)) else (jX8_rate_25 S m1 x0))))
set_option maxHeartbeats 1000000 in
theorem tX8_rate_25 {G : Gt} {l : Launch} {E : Ev} {S : List Sh} {mm : Mm} {x0 : Nat}  {r : Int32 × Mm} (C : Cx G E cX8_rate 4 RX8 (some .int) 2 45) (g0 : isC S x0 8) (h : jX8_rate_25 S mm x0 = some r) (hQ : RQ G E S (some (.int r.1)) r.2) : WM G l E S 25 [(0, .ref (E.2.2 x0))] [] mm := by
  unfold jX8_rate_25 at h
  refine x_iconst (v := (-1)) C (dq DX8_rate 13 rfl) (by decide) ?_
  cases h
  exact x_iret C (dq DX8_rate 14 rfl) hQ
set_option maxHeartbeats 1000000 in
theorem mX8_rate {l : Launch} {E : Ev} {S : List Sh} {mm : Mm} {x0 : Nat} {x1 : Int32} {x2 : Int32} {r : Int32 × Mm} (h : fX8_rate S mm x0 x1 x2 = some r) : Ml l E S yX8_rate cX8_rate 4 (some .int) 2 45 [.ref (E.2.2 x0), .int x1, .int x2] mm (some (.int r.1)) r.2 := by
  refine Ml.of (by decide +kernel) (Nat.le_of_ble_eq_true rfl) (fun G C hQ => ?_)
  have C : Cx G E cX8_rate 4 RX8 (some .int) 2 45 := C
  unfold fX8_rate at h
  obtain ⟨g0, h⟩ := gd_some h
  show WM G l E S 0 [(0, .ref (E.2.2 x0)), (1, .int x1), (2, .int x2)] [] mm
  refine x_aload_n C (dq DX8_rate 0 rfl) rfl 0 rfl ?_
  refine x_iconst (v := 0) C (dq DX8_rate 1 rfl) (by decide) ?_
  refine putX8_115 C (dq DX8_rate 2 rfl) g0 h (fun m1 h => ?_)
  refine x_aload_n C (dq DX8_rate 3 rfl) rfl 0 rfl ?_
  refine x_pc 6 rfl ?_
  refine x_iload_n C (dq DX8_rate 4 rfl) rfl 1 rfl ?_
  refine callX8_316 C (dq DX8_rate 5 rfl) h (by decide) (by decide) (Nat.le_of_ble_eq_true rfl) (fun a2 h => ?_)
  refine x_if_eq (tgt := 25) C (dq DX8_rate 6 rfl) (by decide) h (fun h => ?_) (fun h => ?_)
  · exact x_lv [0] rfl (tX8_rate_25 C g0 h hQ)
  · refine x_iload_n C (dq DX8_rate 7 rfl) rfl 2 rfl ?_
    refine x_iconst (v := 1) C (dq DX8_rate 8 rfl) (by decide) ?_
    refine x_pc 15 rfl ?_
    refine x_icmp_lt (tgt := 25) C (dq DX8_rate 9 rfl) (by decide) h (fun h => ?_) (fun h => ?_)
    · exact x_lv [0] rfl (tX8_rate_25 C g0 h hQ)
    · refine x_iload_n C (dq DX8_rate 10 rfl) rfl 2 rfl ?_
      refine x_sipush (v := 1024) C (dq DX8_rate 11 rfl) (by decide) ?_
      refine x_icmp_le (tgt := 27) C (dq DX8_rate 12 rfl) (by decide) h (fun h => ?_) (fun h => ?_)
      · refine x_aload_n C (dq DX8_rate 15 rfl) rfl 0 rfl ?_
        refine x_pc 28 rfl ?_
        refine callX8_310 C (dq DX8_rate 16 rfl) h (by decide) (by decide) (Nat.le_of_ble_eq_true rfl) (fun m3 h => ?_)
        refine x_aload_n C (dq DX8_rate 17 rfl) rfl 0 rfl ?_
        refine getX8_57 C (dq DX8_rate 18 rfl) g0 ?_
        refine x_iload_n C (dq DX8_rate 19 rfl) rfl 1 rfl ?_
        refine callX8_258 C (dq DX8_rate 20 rfl) h (by decide) (by decide) (Nat.le_of_ble_eq_true rfl) (fun a4 h => ?_)
        refine x_pc 39 rfl ?_
        refine x_iconst (v := 0) C (dq DX8_rate 21 rfl) (by decide) ?_
        refine x_iadd C (dq DX8_rate 22 rfl) ?_
        refine x_iald C (dq DX8_rate 23 rfl) h (fun a5 h => ?_)
        refine x_istore_n (lv' := [(3, .int a5), (0, .ref (E.2.2 x0)), (1, .int x1), (2, .int x2)]) C (dq DX8_rate 24 rfl) rfl (by decide) rfl ?_
        refine x_aload_n C (dq DX8_rate 25 rfl) rfl 1 rfl ?_
        refine x_pc 44 rfl ?_
        refine getX8_57 C (dq DX8_rate 26 rfl) g0 ?_
        refine x_iload_n C (dq DX8_rate 27 rfl) rfl 2 rfl ?_
        refine callX8_258 C (dq DX8_rate 28 rfl) h (by decide) (by decide) (Nat.le_of_ble_eq_true rfl) (fun a6 h => ?_)
        refine x_iconst (v := 0) C (dq DX8_rate 29 rfl) (by decide) ?_
        refine x_iadd C (dq DX8_rate 30 rfl) ?_
        refine x_pc 53 rfl ?_
        refine x_iload_n C (dq DX8_rate 31 rfl) rfl 3 rfl ?_
        refine x_iast C (dq DX8_rate 32 rfl) h (fun m7 h => ?_)
        refine x_aload_n C (dq DX8_rate 33 rfl) rfl 1 rfl ?_
        refine getX8_57 C (dq DX8_rate 34 rfl) g0 ?_
        refine x_iload_n C (dq DX8_rate 35 rfl) rfl 2 rfl ?_
        refine x_pc 60 rfl ?_
        refine callX8_258 C (dq DX8_rate 36 rfl) h (by decide) (by decide) (Nat.le_of_ble_eq_true rfl) (fun a8 h => ?_)
        refine x_iconst (v := 1) C (dq DX8_rate 37 rfl) (by decide) ?_
        refine x_iadd C (dq DX8_rate 38 rfl) ?_
        refine x_iload_n C (dq DX8_rate 39 rfl) rfl 3 rfl ?_
        refine x_iast C (dq DX8_rate 40 rfl) h (fun m9 h => ?_)
        refine x_pc 67 rfl ?_
        refine x_iload_n C (dq DX8_rate 41 rfl) rfl 0 rfl ?_
        cases h
        exact x_iret C (dq DX8_rate 42 rfl) hQ
      · exact x_lv [0] rfl (tX8_rate_25 C g0 h hQ)
set_option maxHeartbeats 1000000 in
theorem qX8_rate {S : List Sh} {mm : Mm} {x0 : Nat} {x1 : Int32} {x2 : Int32} {r : Int32 × Mm} (h : fX8_rate S mm x0 x1 x2 = some r) : isC S x0 8 := by
  unfold fX8_rate at h
  exact (gd_some h).1
abbrev eX8_turn : List (Nat × Instr × Nat) := [(0, .aload_n 0, 1), (1, .iconst 0, 1), (2, .putfield 115, 3), (5, .aload_n 0, 1), (6, .iload_n 1, 1), (7, .invokevirtual 316, 3), (10, .ifCond .ne 5, 3), (13, .iconst (-1), 1), (14, .ireturn, 1), (15, .aload_n 0, 1), (16, .invokevirtual 310, 3), (19, .aload_n 0, 1), (20, .getfield 57, 3), (23, .iload_n 1, 1), (24, .invokestatic 258, 3), (27, .bipush 7, 2), (29, .iadd, 1), (30, .iconst 1, 1), (31, .aload_n 0, 1), (32, .getfield 57, 3), (35, .iload_n 1, 1), (36, .invokestatic 258, 3), (39, .bipush 7, 2), (41, .iadd, 1), (42, .iaload, 1), (43, .isub, 1), (44, .iastore, 1), (45, .aload_n 0, 1), (46, .getfield 57, 3), (49, .iload_n 1, 1), (50, .invokestatic 258, 3), (53, .bipush 7, 2), (55, .iadd, 1), (56, .iaload, 1), (57, .ireturn, 1)]
theorem DX8_turn : (eX8_turn.all fun q => decide (decode cX8_turn q.1 = .ok q.2)) = true := by decide +kernel
def fX8_turn (S : List Sh) (mm : Mm) (x0 : Nat) (x1 : Int32) : Option (Int32 × Mm) := gd S x0 8 (bd1 (some (u1 mm x0 0 0)) fun m1 => bd1 (fX8_isFlow S m1 x0 x1) fun a2 => if ¬ a2 = 0 then (bd1 (fX8_remembers S m1 x0) fun m3 => bd1 (fX8_flowAt S m3 x1) fun a4 => bd1 (fX8_flowAt S m3 x1) fun a5 => bd1 (ldA S 0 m3 (rf S m3 x0 26) (a5 + 7)) fun a6 => bd1 (stA S 0 m3 (rf S m3 x0 26) (a4 + 7) (1 - a6)) fun m7 => bd1 (fX8_flowAt S m7 x1) fun a8 => bd1 (ldA S 0 m7 (rf S m7 x0 26) (a8 + 7)) fun a9 => some (a9, m7)) else (some ((-1), m1)))
set_option maxHeartbeats 1000000 in
theorem mX8_turn {l : Launch} {E : Ev} {S : List Sh} {mm : Mm} {x0 : Nat} {x1 : Int32} {r : Int32 × Mm} (h : fX8_turn S mm x0 x1 = some r) : Ml l E S yX8_turn cX8_turn 2 (some .int) 2 45 [.ref (E.2.2 x0), .int x1] mm (some (.int r.1)) r.2 := by
  refine Ml.of (by decide +kernel) (Nat.le_of_ble_eq_true rfl) (fun G C hQ => ?_)
  have C : Cx G E cX8_turn 2 RX8 (some .int) 2 45 := C
  unfold fX8_turn at h
  obtain ⟨g0, h⟩ := gd_some h
  show WM G l E S 0 [(0, .ref (E.2.2 x0)), (1, .int x1)] [] mm
  refine x_aload_n C (dq DX8_turn 0 rfl) rfl 0 rfl ?_
  refine x_iconst (v := 0) C (dq DX8_turn 1 rfl) (by decide) ?_
  refine putX8_115 C (dq DX8_turn 2 rfl) g0 h (fun m1 h => ?_)
  refine x_aload_n C (dq DX8_turn 3 rfl) rfl 0 rfl ?_
  refine x_pc 6 rfl ?_
  refine x_iload_n C (dq DX8_turn 4 rfl) rfl 1 rfl ?_
  refine callX8_316 C (dq DX8_turn 5 rfl) h (by decide) (by decide) (Nat.le_of_ble_eq_true rfl) (fun a2 h => ?_)
  refine x_if_ne (tgt := 15) C (dq DX8_turn 6 rfl) (by decide) h (fun h => ?_) (fun h => ?_)
  · refine x_aload_n C (dq DX8_turn 9 rfl) rfl 0 rfl ?_
    refine callX8_310 C (dq DX8_turn 10 rfl) h (by decide) (by decide) (Nat.le_of_ble_eq_true rfl) (fun m3 h => ?_)
    refine x_pc 19 rfl ?_
    refine x_aload_n C (dq DX8_turn 11 rfl) rfl 0 rfl ?_
    refine getX8_57 C (dq DX8_turn 12 rfl) g0 ?_
    refine x_iload_n C (dq DX8_turn 13 rfl) rfl 1 rfl ?_
    refine callX8_258 C (dq DX8_turn 14 rfl) h (by decide) (by decide) (Nat.le_of_ble_eq_true rfl) (fun a4 h => ?_)
    refine x_bipush (v := 7) C (dq DX8_turn 15 rfl) (by decide) ?_
    refine x_pc 29 rfl ?_
    refine x_iadd C (dq DX8_turn 16 rfl) ?_
    refine x_iconst (v := 1) C (dq DX8_turn 17 rfl) (by decide) ?_
    refine x_aload_n C (dq DX8_turn 18 rfl) rfl 0 rfl ?_
    refine getX8_57 C (dq DX8_turn 19 rfl) g0 ?_
    refine x_iload_n C (dq DX8_turn 20 rfl) rfl 1 rfl ?_
    refine x_pc 36 rfl ?_
    refine callX8_258 C (dq DX8_turn 21 rfl) h (by decide) (by decide) (Nat.le_of_ble_eq_true rfl) (fun a5 h => ?_)
    refine x_bipush (v := 7) C (dq DX8_turn 22 rfl) (by decide) ?_
    refine x_iadd C (dq DX8_turn 23 rfl) ?_
    refine x_iald C (dq DX8_turn 24 rfl) h (fun a6 h => ?_)
    refine x_isub C (dq DX8_turn 25 rfl) ?_
    refine x_pc 44 rfl ?_
    refine x_iast C (dq DX8_turn 26 rfl) h (fun m7 h => ?_)
    refine x_aload_n C (dq DX8_turn 27 rfl) rfl 0 rfl ?_
    refine getX8_57 C (dq DX8_turn 28 rfl) g0 ?_
    refine x_iload_n C (dq DX8_turn 29 rfl) rfl 1 rfl ?_
    refine callX8_258 C (dq DX8_turn 30 rfl) h (by decide) (by decide) (Nat.le_of_ble_eq_true rfl) (fun a8 h => ?_)
    refine x_pc 53 rfl ?_
    refine x_bipush (v := 7) C (dq DX8_turn 31 rfl) (by decide) ?_
    refine x_iadd C (dq DX8_turn 32 rfl) ?_
    refine x_iald C (dq DX8_turn 33 rfl) h (fun a9 h => ?_)
    cases h
    exact x_iret C (dq DX8_turn 34 rfl) hQ
  · refine x_iconst (v := (-1)) C (dq DX8_turn 7 rfl) (by decide) ?_
    cases h
    exact x_iret C (dq DX8_turn 8 rfl) hQ
set_option maxHeartbeats 1000000 in
theorem qX8_turn {S : List Sh} {mm : Mm} {x0 : Nat} {x1 : Int32} {r : Int32 × Mm} (h : fX8_turn S mm x0 x1 = some r) : isC S x0 8 := by
  unfold fX8_turn at h
  exact (gd_some h).1
theorem callX8_319 {G : Gt} {l : Launch} {E : Ev} {S : List Sh} {cc : ByteArray} {nL : Nat} {rt : Option FieldType} {fr lo : Nat} {pc : Nat} {lv : List (Nat × Value)} {rest : List Value} {mm : Mm} {α : Type} {f : Int32 → Option α} {r : α} {o : Nat} {a0 : Int32} (C : Cx G E cc nL RX8 rt fr lo) (d : decode cc pc = .ok (.invokevirtual 319, 3)) (h : bd1 (fX8_isLink S mm o a0) f = some r) (hfr : 2 ≤ fr) (hlo : 41 ≤ lo) (hrs : (rest.map fun v => v.category).sum ≤ 8) (k : ∀ v, f v = some r → WM G l E S (pc + 3) lv (.int v :: rest) mm) : WM G l E S pc lv (.int a0 :: .ref (E.2.2 o) :: rest) mm := by
  obtain ⟨v, hv, hf⟩ := bd1_some h
  exact x_callV (n := 1) (As := [.int a0]) (rest := rest) C (mX8_isLink hv) (qX8_isLink hv) (T := TX8) (N := 49) rfl (gmem 1274 (by decide +kernel) rfl) (gmem 1276 (by decide +kernel) rfl) (gmemS 81 (by decide +kernel) rfl) (gmem 9 (by decide +kernel) rfl) (gmem 1277 (by decide +kernel) rfl) (by decide +kernel) rfl hfr hlo hrs d rfl rfl (k v hf)
abbrev eX8_bounds : List (Nat × Instr × Nat) := [(0, .aload_n 0, 1), (1, .iconst 0, 1), (2, .putfield 115, 3), (5, .aload_n 0, 1), (6, .iload_n 1, 1), (7, .invokevirtual 319, 3), (10, .ifCond .eq 24, 3), (13, .iload_n 2, 1), (14, .iconst 1, 1), (15, .if_icmp .lt 19, 3), (18, .iload_n 2, 1), (19, .sipush 999, 3), (22, .if_icmp .gt 12, 3), (25, .iload_n 3, 1), (26, .ifCond .lt 8, 3), (29, .iload_n 3, 1), (30, .iload_n 2, 1), (31, .if_icmp .lt 5, 3), (34, .iconst 0, 1), (35, .ireturn, 1), (36, .aload_n 0, 1), (37, .invokevirtual 310, 3), (40, .aload_n 0, 1), (41, .getfield 57, 3), (44, .bipush 24, 2), (46, .iload_n 1, 1), (47, .imul, 1), (48, .iconst 0, 1), (49, .iadd, 1), (50, .iload_n 2, 1), (51, .iastore, 1), (52, .aload_n 0, 1), (53, .getfield 57, 3), (56, .bipush 24, 2), (58, .iload_n 1, 1), (59, .imul, 1), (60, .iconst 1, 1), (61, .iadd, 1), (62, .iload_n 3, 1), (63, .iastore, 1), (64, .iconst 1, 1), (65, .ireturn, 1)]
theorem DX8_bounds : (eX8_bounds.all fun q => decide (decode cX8_bounds q.1 = .ok q.2)) = true := by decide +kernel
def jX8_bounds_34 (S : List Sh) (mm : Mm) (x0 : Nat)  : Option (Int32 × Mm) := bd1 (okZ 0) fun _ => some (0, mm)
def fX8_bounds (S : List Sh) (mm : Mm) (x0 : Nat) (x1 : Int32) (x2 : Int32) (x3 : Int32) : Option (Int32 × Mm) := gd S x0 8 (bd1 (some (u1 mm x0 0 0)) fun m1 => bd1 (fX8_isLink S m1 x0 x1) fun a2 => if a2 = 0 then (jX8_bounds_34 S m1 x0) else (if x2 < 1 then (jX8_bounds_34 S m1 x0) else (if 999 < x2 then (jX8_bounds_34 S m1 x0) else (if x3 < 0 then (jX8_bounds_34 S m1 x0) else (if x3 < x2 then (bd1 (fX8_remembers S m1 x0) fun m3 => bd1 (stA S 0 m3 (rf S m3 x0 26) ((24 * x1) + 0) x2) fun m4 => bd1 (stA S 0 m4 (rf S m4 x0 26) ((24 * x1) + 1) x3) fun m5 => bd1 (okZ 1) fun _ => some (1, m5)) else (jX8_bounds_34 S m1 x0))))))
set_option maxHeartbeats 1000000 in
theorem tX8_bounds_34 {G : Gt} {l : Launch} {E : Ev} {S : List Sh} {mm : Mm} {x0 : Nat}  {r : Int32 × Mm} (C : Cx G E cX8_bounds 4 RX8 (some .boolean) 2 45) (g0 : isC S x0 8) (h : jX8_bounds_34 S mm x0 = some r) (hQ : RQ G E S (some (.int r.1)) r.2) : WM G l E S 34 [(0, .ref (E.2.2 x0))] [] mm := by
  unfold jX8_bounds_34 at h
  refine x_iconst (v := 0) C (dq DX8_bounds 18 rfl) (by decide) ?_
  refine x_zret C (dq DX8_bounds 19 rfl) h (fun h => ?_)
  cases h
  exact hQ
set_option maxHeartbeats 1000000 in
theorem mX8_bounds {l : Launch} {E : Ev} {S : List Sh} {mm : Mm} {x0 : Nat} {x1 : Int32} {x2 : Int32} {x3 : Int32} {r : Int32 × Mm} (h : fX8_bounds S mm x0 x1 x2 x3 = some r) : Ml l E S yX8_bounds cX8_bounds 4 (some .boolean) 2 45 [.ref (E.2.2 x0), .int x1, .int x2, .int x3] mm (some (.int r.1)) r.2 := by
  refine Ml.of (by decide +kernel) (Nat.le_of_ble_eq_true rfl) (fun G C hQ => ?_)
  have C : Cx G E cX8_bounds 4 RX8 (some .boolean) 2 45 := C
  unfold fX8_bounds at h
  obtain ⟨g0, h⟩ := gd_some h
  show WM G l E S 0 [(0, .ref (E.2.2 x0)), (1, .int x1), (2, .int x2), (3, .int x3)] [] mm
  refine x_aload_n C (dq DX8_bounds 0 rfl) rfl 0 rfl ?_
  refine x_iconst (v := 0) C (dq DX8_bounds 1 rfl) (by decide) ?_
  refine putX8_115 C (dq DX8_bounds 2 rfl) g0 h (fun m1 h => ?_)
  refine x_aload_n C (dq DX8_bounds 3 rfl) rfl 0 rfl ?_
  refine x_pc 6 rfl ?_
  refine x_iload_n C (dq DX8_bounds 4 rfl) rfl 1 rfl ?_
  refine callX8_319 C (dq DX8_bounds 5 rfl) h (by decide) (by decide) (Nat.le_of_ble_eq_true rfl) (fun a2 h => ?_)
  refine x_if_eq (tgt := 34) C (dq DX8_bounds 6 rfl) (by decide) h (fun h => ?_) (fun h => ?_)
  · exact x_lv [0] rfl (tX8_bounds_34 C g0 h hQ)
  · refine x_iload_n C (dq DX8_bounds 7 rfl) rfl 2 rfl ?_
    refine x_iconst (v := 1) C (dq DX8_bounds 8 rfl) (by decide) ?_
    refine x_pc 15 rfl ?_
    refine x_icmp_lt (tgt := 34) C (dq DX8_bounds 9 rfl) (by decide) h (fun h => ?_) (fun h => ?_)
    · exact x_lv [0] rfl (tX8_bounds_34 C g0 h hQ)
    · refine x_iload_n C (dq DX8_bounds 10 rfl) rfl 2 rfl ?_
      refine x_sipush (v := 999) C (dq DX8_bounds 11 rfl) (by decide) ?_
      refine x_icmp_gt (tgt := 34) C (dq DX8_bounds 12 rfl) (by decide) h (fun h => ?_) (fun h => ?_)
      · exact x_lv [0] rfl (tX8_bounds_34 C g0 h hQ)
      · refine x_iload_n C (dq DX8_bounds 13 rfl) rfl 3 rfl ?_
        refine x_pc 26 rfl ?_
        refine x_if_lt (tgt := 34) C (dq DX8_bounds 14 rfl) (by decide) h (fun h => ?_) (fun h => ?_)
        · exact x_lv [0] rfl (tX8_bounds_34 C g0 h hQ)
        · refine x_iload_n C (dq DX8_bounds 15 rfl) rfl 3 rfl ?_
          refine x_iload_n C (dq DX8_bounds 16 rfl) rfl 2 rfl ?_
          refine x_icmp_lt (tgt := 36) C (dq DX8_bounds 17 rfl) (by decide) h (fun h => ?_) (fun h => ?_)
          · refine x_aload_n C (dq DX8_bounds 20 rfl) rfl 0 rfl ?_
            refine x_pc 37 rfl ?_
            refine callX8_310 C (dq DX8_bounds 21 rfl) h (by decide) (by decide) (Nat.le_of_ble_eq_true rfl) (fun m3 h => ?_)
            refine x_aload_n C (dq DX8_bounds 22 rfl) rfl 0 rfl ?_
            refine getX8_57 C (dq DX8_bounds 23 rfl) g0 ?_
            refine x_bipush (v := 24) C (dq DX8_bounds 24 rfl) (by decide) ?_
            refine x_iload_n C (dq DX8_bounds 25 rfl) rfl 1 rfl ?_
            refine x_pc 47 rfl ?_
            refine x_imul C (dq DX8_bounds 26 rfl) ?_
            refine x_iconst (v := 0) C (dq DX8_bounds 27 rfl) (by decide) ?_
            refine x_iadd C (dq DX8_bounds 28 rfl) ?_
            refine x_iload_n C (dq DX8_bounds 29 rfl) rfl 2 rfl ?_
            refine x_iast C (dq DX8_bounds 30 rfl) h (fun m4 h => ?_)
            refine x_pc 52 rfl ?_
            refine x_aload_n C (dq DX8_bounds 31 rfl) rfl 0 rfl ?_
            refine getX8_57 C (dq DX8_bounds 32 rfl) g0 ?_
            refine x_bipush (v := 24) C (dq DX8_bounds 33 rfl) (by decide) ?_
            refine x_iload_n C (dq DX8_bounds 34 rfl) rfl 1 rfl ?_
            refine x_imul C (dq DX8_bounds 35 rfl) ?_
            refine x_pc 60 rfl ?_
            refine x_iconst (v := 1) C (dq DX8_bounds 36 rfl) (by decide) ?_
            refine x_iadd C (dq DX8_bounds 37 rfl) ?_
            refine x_iload_n C (dq DX8_bounds 38 rfl) rfl 3 rfl ?_
            refine x_iast C (dq DX8_bounds 39 rfl) h (fun m5 h => ?_)
            refine x_iconst (v := 1) C (dq DX8_bounds 40 rfl) (by decide) ?_
            refine x_pc 65 rfl ?_
            refine x_zret C (dq DX8_bounds 41 rfl) h (fun h => ?_)
            cases h
            exact hQ
          · exact x_lv [0] rfl (tX8_bounds_34 C g0 h hQ)
set_option maxHeartbeats 1000000 in
theorem qX8_bounds {S : List Sh} {mm : Mm} {x0 : Nat} {x1 : Int32} {x2 : Int32} {x3 : Int32} {r : Int32 × Mm} (h : fX8_bounds S mm x0 x1 x2 x3 = some r) : isC S x0 8 := by
  unfold fX8_bounds at h
  exact (gd_some h).1
abbrev eX8_size : List (Nat × Instr × Nat) := [(0, .aload_n 0, 1), (1, .iconst 0, 1), (2, .putfield 115, 3), (5, .aload_n 0, 1), (6, .iload_n 1, 1), (7, .invokevirtual 319, 3), (10, .ifCond .eq 15, 3), (13, .iload_n 2, 1), (14, .iconst 1, 1), (15, .if_icmp .lt 10, 3), (18, .iload_n 2, 1), (19, .sipush 1999, 3), (22, .if_icmp .le 5, 3), (25, .iconst (-1), 1), (26, .ireturn, 1), (27, .aload_n 0, 1), (28, .invokevirtual 310, 3), (31, .aload_n 0, 1), (32, .getfield 57, 3), (35, .bipush 24, 2), (37, .iload_n 1, 1), (38, .imul, 1), (39, .iconst 2, 1), (40, .iadd, 1), (41, .iaload, 1), (42, .istore_n 3, 1), (43, .aload_n 0, 1), (44, .getfield 57, 3), (47, .bipush 24, 2), (49, .iload_n 1, 1), (50, .imul, 1), (51, .iconst 2, 1), (52, .iadd, 1), (53, .iload_n 2, 1), (54, .iastore, 1), (55, .iload_n 3, 1), (56, .ireturn, 1)]
theorem DX8_size : (eX8_size.all fun q => decide (decode cX8_size q.1 = .ok q.2)) = true := by decide +kernel
def jX8_size_25 (S : List Sh) (mm : Mm) (x0 : Nat)  : Option (Int32 × Mm) := some ((-1), mm)
def fX8_size (S : List Sh) (mm : Mm) (x0 : Nat) (x1 : Int32) (x2 : Int32) : Option (Int32 × Mm) := gd S x0 8 (bd1 (some (u1 mm x0 0 0)) fun m1 => bd1 (fX8_isLink S m1 x0 x1) fun a2 => if a2 = 0 then (jX8_size_25 S m1 x0) else (if x2 < 1 then (jX8_size_25 S m1 x0) else (if x2 ≤ 1999 then (bd1 (fX8_remembers S m1 x0) fun m3 => bd1 (ldA S 0 m3 (rf S m3 x0 26) ((24 * x1) + 2)) fun a4 => bd1 (stA S 0 m3 (rf S m3 x0 26) ((24 * x1) + 2) x2) fun m5 => some (a4, m5)) else (jX8_size_25 S m1 x0))))
set_option maxHeartbeats 1000000 in
theorem tX8_size_25 {G : Gt} {l : Launch} {E : Ev} {S : List Sh} {mm : Mm} {x0 : Nat}  {r : Int32 × Mm} (C : Cx G E cX8_size 4 RX8 (some .int) 2 45) (g0 : isC S x0 8) (h : jX8_size_25 S mm x0 = some r) (hQ : RQ G E S (some (.int r.1)) r.2) : WM G l E S 25 [(0, .ref (E.2.2 x0))] [] mm := by
  unfold jX8_size_25 at h
  refine x_iconst (v := (-1)) C (dq DX8_size 13 rfl) (by decide) ?_
  cases h
  exact x_iret C (dq DX8_size 14 rfl) hQ
set_option maxHeartbeats 1000000 in
theorem mX8_size {l : Launch} {E : Ev} {S : List Sh} {mm : Mm} {x0 : Nat} {x1 : Int32} {x2 : Int32} {r : Int32 × Mm} (h : fX8_size S mm x0 x1 x2 = some r) : Ml l E S yX8_size cX8_size 4 (some .int) 2 45 [.ref (E.2.2 x0), .int x1, .int x2] mm (some (.int r.1)) r.2 := by
  refine Ml.of (by decide +kernel) (Nat.le_of_ble_eq_true rfl) (fun G C hQ => ?_)
  have C : Cx G E cX8_size 4 RX8 (some .int) 2 45 := C
  unfold fX8_size at h
  obtain ⟨g0, h⟩ := gd_some h
  show WM G l E S 0 [(0, .ref (E.2.2 x0)), (1, .int x1), (2, .int x2)] [] mm
  refine x_aload_n C (dq DX8_size 0 rfl) rfl 0 rfl ?_
  refine x_iconst (v := 0) C (dq DX8_size 1 rfl) (by decide) ?_
  refine putX8_115 C (dq DX8_size 2 rfl) g0 h (fun m1 h => ?_)
  refine x_aload_n C (dq DX8_size 3 rfl) rfl 0 rfl ?_
  refine x_pc 6 rfl ?_
  refine x_iload_n C (dq DX8_size 4 rfl) rfl 1 rfl ?_
  refine callX8_319 C (dq DX8_size 5 rfl) h (by decide) (by decide) (Nat.le_of_ble_eq_true rfl) (fun a2 h => ?_)
  refine x_if_eq (tgt := 25) C (dq DX8_size 6 rfl) (by decide) h (fun h => ?_) (fun h => ?_)
  · exact x_lv [0] rfl (tX8_size_25 C g0 h hQ)
  · refine x_iload_n C (dq DX8_size 7 rfl) rfl 2 rfl ?_
    refine x_iconst (v := 1) C (dq DX8_size 8 rfl) (by decide) ?_
    refine x_pc 15 rfl ?_
    refine x_icmp_lt (tgt := 25) C (dq DX8_size 9 rfl) (by decide) h (fun h => ?_) (fun h => ?_)
    · exact x_lv [0] rfl (tX8_size_25 C g0 h hQ)
    · refine x_iload_n C (dq DX8_size 10 rfl) rfl 2 rfl ?_
      refine x_sipush (v := 1999) C (dq DX8_size 11 rfl) (by decide) ?_
      refine x_icmp_le (tgt := 27) C (dq DX8_size 12 rfl) (by decide) h (fun h => ?_) (fun h => ?_)
      · refine x_aload_n C (dq DX8_size 15 rfl) rfl 0 rfl ?_
        refine x_pc 28 rfl ?_
        refine callX8_310 C (dq DX8_size 16 rfl) h (by decide) (by decide) (Nat.le_of_ble_eq_true rfl) (fun m3 h => ?_)
        refine x_aload_n C (dq DX8_size 17 rfl) rfl 0 rfl ?_
        refine getX8_57 C (dq DX8_size 18 rfl) g0 ?_
        refine x_bipush (v := 24) C (dq DX8_size 19 rfl) (by decide) ?_
        refine x_iload_n C (dq DX8_size 20 rfl) rfl 1 rfl ?_
        refine x_pc 38 rfl ?_
        refine x_imul C (dq DX8_size 21 rfl) ?_
        refine x_iconst (v := 2) C (dq DX8_size 22 rfl) (by decide) ?_
        refine x_iadd C (dq DX8_size 23 rfl) ?_
        refine x_iald C (dq DX8_size 24 rfl) h (fun a4 h => ?_)
        refine x_istore_n (lv' := [(3, .int a4), (0, .ref (E.2.2 x0)), (1, .int x1), (2, .int x2)]) C (dq DX8_size 25 rfl) rfl (by decide) rfl ?_
        refine x_pc 43 rfl ?_
        refine x_aload_n C (dq DX8_size 26 rfl) rfl 1 rfl ?_
        refine getX8_57 C (dq DX8_size 27 rfl) g0 ?_
        refine x_bipush (v := 24) C (dq DX8_size 28 rfl) (by decide) ?_
        refine x_iload_n C (dq DX8_size 29 rfl) rfl 2 rfl ?_
        refine x_imul C (dq DX8_size 30 rfl) ?_
        refine x_pc 51 rfl ?_
        refine x_iconst (v := 2) C (dq DX8_size 31 rfl) (by decide) ?_
        refine x_iadd C (dq DX8_size 32 rfl) ?_
        refine x_iload_n C (dq DX8_size 33 rfl) rfl 3 rfl ?_
        refine x_iast C (dq DX8_size 34 rfl) h (fun m5 h => ?_)
        refine x_iload_n C (dq DX8_size 35 rfl) rfl 0 rfl ?_
        refine x_pc 56 rfl ?_
        cases h
        exact x_iret C (dq DX8_size 36 rfl) hQ
      · exact x_lv [0] rfl (tX8_size_25 C g0 h hQ)
set_option maxHeartbeats 1000000 in
theorem qX8_size {S : List Sh} {mm : Mm} {x0 : Nat} {x1 : Int32} {x2 : Int32} {r : Int32 × Mm} (h : fX8_size S mm x0 x1 x2 = some r) : isC S x0 8 := by
  unfold fX8_size at h
  exact (gd_some h).1
abbrev eX8_link : List (Nat × Instr × Nat) := [(0, .aload_n 0, 1), (1, .iconst 0, 1), (2, .putfield 115, 3), (5, .aload_n 0, 1), (6, .iload_n 1, 1), (7, .invokevirtual 319, 3), (10, .ifCond .ne 10, 3), (13, .aload_n 0, 1), (14, .iconst 1, 1), (15, .putfield 115, 3), (18, .iconst 0, 1), (19, .ireturn, 1), (20, .bipush 24, 2), (22, .iload_n 1, 1), (23, .imul, 1), (24, .istore_n 3, 1), (25, .iload_n 2, 1), (26, .tableswitch 201 0 13 #[70, 77, 84, 93, 102, 111, 117, 127, 144, 153, 162, 171, 181, 191], 70), (96, .aload_n 0, 1), (97, .getfield 23, 3), (100, .iload_n 1, 1), (101, .iaload, 1), (102, .ireturn, 1), (103, .aload_n 0, 1), (104, .getfield 26, 3), (107, .iload_n 1, 1), (108, .iaload, 1), (109, .ireturn, 1), (110, .aload_n 0, 1), (111, .getfield 57, 3), (114, .iload_n 3, 1), (115, .iconst 0, 1), (116, .iadd, 1), (117, .iaload, 1), (118, .ireturn, 1), (119, .aload_n 0, 1), (120, .getfield 57, 3), (123, .iload_n 3, 1), (124, .iconst 1, 1), (125, .iadd, 1), (126, .iaload, 1), (127, .ireturn, 1), (128, .aload_n 0, 1), (129, .getfield 57, 3), (132, .iload_n 3, 1), (133, .iconst 2, 1), (134, .iadd, 1), (135, .iaload, 1), (136, .ireturn, 1), (137, .aload_n 0, 1), (138, .iload_n 1, 1), (139, .invokevirtual 264, 3), (142, .ireturn, 1), (143, .aload_n 0, 1), (144, .getfield 57, 3), (147, .iload_n 3, 1), (148, .bipush 10, 2), (150, .iadd, 1), (151, .iaload, 1), (152, .ireturn, 1), (153, .aload_n 0, 1), (154, .getfield 57, 3), (157, .iload_n 3, 1), (158, .bipush 10, 2), (160, .iadd, 1), (161, .aload_n 0, 1), (162, .getfield 26, 3), (165, .iload_n 1, 1), (166, .iaload, 1), (167, .iadd, 1), (168, .iaload, 1), (169, .ireturn, 1), (170, .aload_n 0, 1), (171, .getfield 57, 3), (174, .iload_n 3, 1), (175, .iconst 3, 1), (176, .iadd, 1), (177, .iaload, 1), (178, .ireturn, 1), (179, .aload_n 0, 1), (180, .getfield 57, 3), (183, .iload_n 3, 1), (184, .iconst 4, 1), (185, .iadd, 1), (186, .iaload, 1), (187, .ireturn, 1), (188, .aload_n 0, 1), (189, .getfield 57, 3), (192, .iload_n 3, 1), (193, .iconst 5, 1), (194, .iadd, 1), (195, .iaload, 1), (196, .ireturn, 1), (197, .aload_n 0, 1), (198, .getfield 57, 3), (201, .iload_n 3, 1), (202, .bipush 6, 2), (204, .iadd, 1), (205, .iaload, 1), (206, .ireturn, 1), (207, .aload_n 0, 1), (208, .getfield 57, 3), (211, .iload_n 3, 1), (212, .bipush 7, 2), (214, .iadd, 1), (215, .iaload, 1), (216, .ireturn, 1), (217, .aload_n 0, 1), (218, .getfield 57, 3), (221, .iload_n 3, 1), (222, .bipush 8, 2), (224, .iadd, 1), (225, .iaload, 1), (226, .ireturn, 1), (227, .aload_n 0, 1), (228, .iconst 2, 1), (229, .putfield 115, 3), (232, .iconst 0, 1), (233, .ireturn, 1)]
theorem DX8_link : (eX8_link.all fun q => decide (decode cX8_link q.1 = .ok q.2)) = true := by decide +kernel
def fX8_link (S : List Sh) (mm : Mm) (x0 : Nat) (x1 : Int32) (x2 : Int32) : Option (Int32 × Mm) := gd S x0 8 (bd1 (some (u1 mm x0 0 0)) fun m1 => bd1 (fX8_isLink S m1 x0 x1) fun a2 => if ¬ a2 = 0 then (if x2 = 0 then (bd1 (ldA S 0 m1 (rf S m1 x0 6) x1) fun a3 => some (a3, m1)) else (if x2 = 1 then (bd1 (ldA S 0 m1 (rf S m1 x0 7) x1) fun a5 => some (a5, m1)) else (if x2 = 2 then (bd1 (ldA S 0 m1 (rf S m1 x0 26) ((24 * x1) + 0)) fun a7 => some (a7, m1)) else (if x2 = 3 then (bd1 (ldA S 0 m1 (rf S m1 x0 26) ((24 * x1) + 1)) fun a9 => some (a9, m1)) else (if x2 = 4 then (bd1 (ldA S 0 m1 (rf S m1 x0 26) ((24 * x1) + 2)) fun a11 => some (a11, m1)) else (if x2 = 5 then (bd1 (fX8_queueOf S m1 x0 x1) fun a13 => some (a13, m1)) else (if x2 = 6 then (bd1 (ldA S 0 m1 (rf S m1 x0 26) ((24 * x1) + 10)) fun a15 => some (a15, m1)) else (if x2 = 7 then (bd1 (ldA S 0 m1 (rf S m1 x0 7) x1) fun a17 => bd1 (ldA S 0 m1 (rf S m1 x0 26) (((24 * x1) + 10) + a17)) fun a18 => some (a18, m1)) else (if x2 = 8 then (bd1 (ldA S 0 m1 (rf S m1 x0 26) ((24 * x1) + 3)) fun a20 => some (a20, m1)) else (if x2 = 9 then (bd1 (ldA S 0 m1 (rf S m1 x0 26) ((24 * x1) + 4)) fun a22 => some (a22, m1)) else (if x2 = 10 then (bd1 (ldA S 0 m1 (rf S m1 x0 26) ((24 * x1) + 5)) fun a24 => some (a24, m1)) else (if x2 = 11 then (bd1 (ldA S 0 m1 (rf S m1 x0 26) ((24 * x1) + 6)) fun a26 => some (a26, m1)) else (if x2 = 12 then (bd1 (ldA S 0 m1 (rf S m1 x0 26) ((24 * x1) + 7)) fun a28 => some (a28, m1)) else (if x2 = 13 then (bd1 (ldA S 0 m1 (rf S m1 x0 26) ((24 * x1) + 8)) fun a30 => some (a30, m1)) else (bd1 (some (u1 m1 x0 0 2)) fun m32 => some (0, m32)))))))))))))))) else (bd1 (some (u1 m1 x0 0 1)) fun m33 => some (0, m33)))
set_option maxHeartbeats 1000000 in
theorem mX8_link {l : Launch} {E : Ev} {S : List Sh} {mm : Mm} {x0 : Nat} {x1 : Int32} {x2 : Int32} {r : Int32 × Mm} (h : fX8_link S mm x0 x1 x2 = some r) : Ml l E S yX8_link cX8_link 4 (some .int) 2 41 [.ref (E.2.2 x0), .int x1, .int x2] mm (some (.int r.1)) r.2 := by
  refine Ml.of (by decide +kernel) (Nat.le_of_ble_eq_true rfl) (fun G C hQ => ?_)
  have C : Cx G E cX8_link 4 RX8 (some .int) 2 41 := C
  unfold fX8_link at h
  obtain ⟨g0, h⟩ := gd_some h
  show WM G l E S 0 [(0, .ref (E.2.2 x0)), (1, .int x1), (2, .int x2)] [] mm
  refine x_aload_n C (dq DX8_link 0 rfl) rfl 0 rfl ?_
  refine x_iconst (v := 0) C (dq DX8_link 1 rfl) (by decide) ?_
  refine putX8_115 C (dq DX8_link 2 rfl) g0 h (fun m1 h => ?_)
  refine x_aload_n C (dq DX8_link 3 rfl) rfl 0 rfl ?_
  refine x_pc 6 rfl ?_
  refine x_iload_n C (dq DX8_link 4 rfl) rfl 1 rfl ?_
  refine callX8_319 C (dq DX8_link 5 rfl) h (by decide) (by decide) (Nat.le_of_ble_eq_true rfl) (fun a2 h => ?_)
  refine x_if_ne (tgt := 20) C (dq DX8_link 6 rfl) (by decide) h (fun h => ?_) (fun h => ?_)
  · refine x_bipush (v := 24) C (dq DX8_link 12 rfl) (by decide) ?_
    refine x_iload_n C (dq DX8_link 13 rfl) rfl 1 rfl ?_
    refine x_pc 23 rfl ?_
    refine x_imul C (dq DX8_link 14 rfl) ?_
    refine x_istore_n (lv' := [(3, .int (24 * x1)), (0, .ref (E.2.2 x0)), (1, .int x1), (2, .int x2)]) C (dq DX8_link 15 rfl) rfl (by decide) rfl ?_
    refine x_iload_n C (dq DX8_link 16 rfl) rfl 3 rfl ?_
    refine x_tab1 (tgt := 96) C (dq DX8_link 17 rfl) (w := 0) (z := 0) (by decide) (by decide) (by decide) rfl (by decide) h (fun h => ?_) (fun n4 h => ?_)
    · refine x_aload_n C (dq DX8_link 18 rfl) rfl 1 rfl ?_
      refine x_pc 97 rfl ?_
      refine getX8_23 C (dq DX8_link 19 rfl) g0 ?_
      refine x_iload_n C (dq DX8_link 20 rfl) rfl 2 rfl ?_
      refine x_iald C (dq DX8_link 21 rfl) h (fun a3 h => ?_)
      cases h
      exact x_iret C (dq DX8_link 22 rfl) hQ
    refine x_tab1 (tgt := 103) C (dq DX8_link 17 rfl) (w := 1) (z := 1) (by decide) (by decide) (by decide) rfl (by decide) h (fun h => ?_) (fun n6 h => ?_)
    · refine x_aload_n C (dq DX8_link 23 rfl) rfl 1 rfl ?_
      refine x_pc 104 rfl ?_
      refine getX8_26 C (dq DX8_link 24 rfl) g0 ?_
      refine x_iload_n C (dq DX8_link 25 rfl) rfl 2 rfl ?_
      refine x_iald C (dq DX8_link 26 rfl) h (fun a5 h => ?_)
      cases h
      exact x_iret C (dq DX8_link 27 rfl) hQ
    refine x_tab1 (tgt := 110) C (dq DX8_link 17 rfl) (w := 2) (z := 2) (by decide) (by decide) (by decide) rfl (by decide) h (fun h => ?_) (fun n8 h => ?_)
    · refine x_aload_n C (dq DX8_link 28 rfl) rfl 1 rfl ?_
      refine x_pc 111 rfl ?_
      refine getX8_57 C (dq DX8_link 29 rfl) g0 ?_
      refine x_iload_n C (dq DX8_link 30 rfl) rfl 0 rfl ?_
      refine x_iconst (v := 0) C (dq DX8_link 31 rfl) (by decide) ?_
      refine x_iadd C (dq DX8_link 32 rfl) ?_
      refine x_iald C (dq DX8_link 33 rfl) h (fun a7 h => ?_)
      refine x_pc 118 rfl ?_
      cases h
      exact x_iret C (dq DX8_link 34 rfl) hQ
    refine x_tab1 (tgt := 119) C (dq DX8_link 17 rfl) (w := 3) (z := 3) (by decide) (by decide) (by decide) rfl (by decide) h (fun h => ?_) (fun n10 h => ?_)
    · refine x_aload_n C (dq DX8_link 35 rfl) rfl 1 rfl ?_
      refine x_pc 120 rfl ?_
      refine getX8_57 C (dq DX8_link 36 rfl) g0 ?_
      refine x_iload_n C (dq DX8_link 37 rfl) rfl 0 rfl ?_
      refine x_iconst (v := 1) C (dq DX8_link 38 rfl) (by decide) ?_
      refine x_iadd C (dq DX8_link 39 rfl) ?_
      refine x_iald C (dq DX8_link 40 rfl) h (fun a9 h => ?_)
      refine x_pc 127 rfl ?_
      cases h
      exact x_iret C (dq DX8_link 41 rfl) hQ
    refine x_tab1 (tgt := 128) C (dq DX8_link 17 rfl) (w := 4) (z := 4) (by decide) (by decide) (by decide) rfl (by decide) h (fun h => ?_) (fun n12 h => ?_)
    · refine x_aload_n C (dq DX8_link 42 rfl) rfl 1 rfl ?_
      refine x_pc 129 rfl ?_
      refine getX8_57 C (dq DX8_link 43 rfl) g0 ?_
      refine x_iload_n C (dq DX8_link 44 rfl) rfl 0 rfl ?_
      refine x_iconst (v := 2) C (dq DX8_link 45 rfl) (by decide) ?_
      refine x_iadd C (dq DX8_link 46 rfl) ?_
      refine x_iald C (dq DX8_link 47 rfl) h (fun a11 h => ?_)
      refine x_pc 136 rfl ?_
      cases h
      exact x_iret C (dq DX8_link 48 rfl) hQ
    refine x_tab1 (tgt := 137) C (dq DX8_link 17 rfl) (w := 5) (z := 5) (by decide) (by decide) (by decide) rfl (by decide) h (fun h => ?_) (fun n14 h => ?_)
    · refine x_aload_n C (dq DX8_link 49 rfl) rfl 1 rfl ?_
      refine x_pc 138 rfl ?_
      refine x_iload_n C (dq DX8_link 50 rfl) rfl 2 rfl ?_
      refine callX8_264 C (dq DX8_link 51 rfl) h (by decide) (by decide) (Nat.le_of_ble_eq_true rfl) (fun a13 h => ?_)
      cases h
      exact x_iret C (dq DX8_link 52 rfl) hQ
    refine x_tab1 (tgt := 143) C (dq DX8_link 17 rfl) (w := 6) (z := 6) (by decide) (by decide) (by decide) rfl (by decide) h (fun h => ?_) (fun n16 h => ?_)
    · refine x_aload_n C (dq DX8_link 53 rfl) rfl 1 rfl ?_
      refine x_pc 144 rfl ?_
      refine getX8_57 C (dq DX8_link 54 rfl) g0 ?_
      refine x_iload_n C (dq DX8_link 55 rfl) rfl 0 rfl ?_
      refine x_bipush (v := 10) C (dq DX8_link 56 rfl) (by decide) ?_
      refine x_iadd C (dq DX8_link 57 rfl) ?_
      refine x_iald C (dq DX8_link 58 rfl) h (fun a15 h => ?_)
      refine x_pc 152 rfl ?_
      cases h
      exact x_iret C (dq DX8_link 59 rfl) hQ
    refine x_tab1 (tgt := 153) C (dq DX8_link 17 rfl) (w := 7) (z := 7) (by decide) (by decide) (by decide) rfl (by decide) h (fun h => ?_) (fun n19 h => ?_)
    · refine x_aload_n C (dq DX8_link 60 rfl) rfl 1 rfl ?_
      refine x_pc 154 rfl ?_
      refine getX8_57 C (dq DX8_link 61 rfl) g0 ?_
      refine x_iload_n C (dq DX8_link 62 rfl) rfl 0 rfl ?_
      refine x_bipush (v := 10) C (dq DX8_link 63 rfl) (by decide) ?_
      refine x_iadd C (dq DX8_link 64 rfl) ?_
      refine x_aload_n C (dq DX8_link 65 rfl) rfl 1 rfl ?_
      refine x_pc 162 rfl ?_
      refine getX8_26 C (dq DX8_link 66 rfl) g0 ?_
      refine x_iload_n C (dq DX8_link 67 rfl) rfl 2 rfl ?_
      refine x_iald C (dq DX8_link 68 rfl) h (fun a17 h => ?_)
      refine x_iadd C (dq DX8_link 69 rfl) ?_
      refine x_iald C (dq DX8_link 70 rfl) h (fun a18 h => ?_)
      refine x_pc 169 rfl ?_
      cases h
      exact x_iret C (dq DX8_link 71 rfl) hQ
    refine x_tab1 (tgt := 170) C (dq DX8_link 17 rfl) (w := 8) (z := 8) (by decide) (by decide) (by decide) rfl (by decide) h (fun h => ?_) (fun n21 h => ?_)
    · refine x_aload_n C (dq DX8_link 72 rfl) rfl 1 rfl ?_
      refine x_pc 171 rfl ?_
      refine getX8_57 C (dq DX8_link 73 rfl) g0 ?_
      refine x_iload_n C (dq DX8_link 74 rfl) rfl 0 rfl ?_
      refine x_iconst (v := 3) C (dq DX8_link 75 rfl) (by decide) ?_
      refine x_iadd C (dq DX8_link 76 rfl) ?_
      refine x_iald C (dq DX8_link 77 rfl) h (fun a20 h => ?_)
      refine x_pc 178 rfl ?_
      cases h
      exact x_iret C (dq DX8_link 78 rfl) hQ
    refine x_tab1 (tgt := 179) C (dq DX8_link 17 rfl) (w := 9) (z := 9) (by decide) (by decide) (by decide) rfl (by decide) h (fun h => ?_) (fun n23 h => ?_)
    · refine x_aload_n C (dq DX8_link 79 rfl) rfl 1 rfl ?_
      refine x_pc 180 rfl ?_
      refine getX8_57 C (dq DX8_link 80 rfl) g0 ?_
      refine x_iload_n C (dq DX8_link 81 rfl) rfl 0 rfl ?_
      refine x_iconst (v := 4) C (dq DX8_link 82 rfl) (by decide) ?_
      refine x_iadd C (dq DX8_link 83 rfl) ?_
      refine x_iald C (dq DX8_link 84 rfl) h (fun a22 h => ?_)
      refine x_pc 187 rfl ?_
      cases h
      exact x_iret C (dq DX8_link 85 rfl) hQ
    refine x_tab1 (tgt := 188) C (dq DX8_link 17 rfl) (w := 10) (z := 10) (by decide) (by decide) (by decide) rfl (by decide) h (fun h => ?_) (fun n25 h => ?_)
    · refine x_aload_n C (dq DX8_link 86 rfl) rfl 1 rfl ?_
      refine x_pc 189 rfl ?_
      refine getX8_57 C (dq DX8_link 87 rfl) g0 ?_
      refine x_iload_n C (dq DX8_link 88 rfl) rfl 0 rfl ?_
      refine x_iconst (v := 5) C (dq DX8_link 89 rfl) (by decide) ?_
      refine x_iadd C (dq DX8_link 90 rfl) ?_
      refine x_iald C (dq DX8_link 91 rfl) h (fun a24 h => ?_)
      refine x_pc 196 rfl ?_
      cases h
      exact x_iret C (dq DX8_link 92 rfl) hQ
    refine x_tab1 (tgt := 197) C (dq DX8_link 17 rfl) (w := 11) (z := 11) (by decide) (by decide) (by decide) rfl (by decide) h (fun h => ?_) (fun n27 h => ?_)
    · refine x_aload_n C (dq DX8_link 93 rfl) rfl 1 rfl ?_
      refine x_pc 198 rfl ?_
      refine getX8_57 C (dq DX8_link 94 rfl) g0 ?_
      refine x_iload_n C (dq DX8_link 95 rfl) rfl 0 rfl ?_
      refine x_bipush (v := 6) C (dq DX8_link 96 rfl) (by decide) ?_
      refine x_iadd C (dq DX8_link 97 rfl) ?_
      refine x_iald C (dq DX8_link 98 rfl) h (fun a26 h => ?_)
      refine x_pc 206 rfl ?_
      cases h
      exact x_iret C (dq DX8_link 99 rfl) hQ
    refine x_tab1 (tgt := 207) C (dq DX8_link 17 rfl) (w := 12) (z := 12) (by decide) (by decide) (by decide) rfl (by decide) h (fun h => ?_) (fun n29 h => ?_)
    · refine x_aload_n C (dq DX8_link 100 rfl) rfl 1 rfl ?_
      refine x_pc 208 rfl ?_
      refine getX8_57 C (dq DX8_link 101 rfl) g0 ?_
      refine x_iload_n C (dq DX8_link 102 rfl) rfl 0 rfl ?_
      refine x_bipush (v := 7) C (dq DX8_link 103 rfl) (by decide) ?_
      refine x_iadd C (dq DX8_link 104 rfl) ?_
      refine x_iald C (dq DX8_link 105 rfl) h (fun a28 h => ?_)
      refine x_pc 216 rfl ?_
      cases h
      exact x_iret C (dq DX8_link 106 rfl) hQ
    refine x_tab1 (tgt := 217) C (dq DX8_link 17 rfl) (w := 13) (z := 13) (by decide) (by decide) (by decide) rfl (by decide) h (fun h => ?_) (fun n31 h => ?_)
    · refine x_aload_n C (dq DX8_link 107 rfl) rfl 1 rfl ?_
      refine x_pc 218 rfl ?_
      refine getX8_57 C (dq DX8_link 108 rfl) g0 ?_
      refine x_iload_n C (dq DX8_link 109 rfl) rfl 0 rfl ?_
      refine x_bipush (v := 8) C (dq DX8_link 110 rfl) (by decide) ?_
      refine x_iadd C (dq DX8_link 111 rfl) ?_
      refine x_iald C (dq DX8_link 112 rfl) h (fun a30 h => ?_)
      refine x_pc 226 rfl ?_
      cases h
      exact x_iret C (dq DX8_link 113 rfl) hQ
    refine x_tabO (tgt := 227) C (dq DX8_link 17 rfl) (by omega) (by decide) ?_
    refine x_aload_n C (dq DX8_link 114 rfl) rfl 1 rfl ?_
    refine x_pc 228 rfl ?_
    refine x_iconst (v := 2) C (dq DX8_link 115 rfl) (by decide) ?_
    refine putX8_115 C (dq DX8_link 116 rfl) g0 h (fun m32 h => ?_)
    refine x_iconst (v := 0) C (dq DX8_link 117 rfl) (by decide) ?_
    cases h
    exact x_iret C (dq DX8_link 118 rfl) hQ
  · refine x_aload_n C (dq DX8_link 7 rfl) rfl 0 rfl ?_
    refine x_iconst (v := 1) C (dq DX8_link 8 rfl) (by decide) ?_
    refine x_pc 15 rfl ?_
    refine putX8_115 C (dq DX8_link 9 rfl) g0 h (fun m33 h => ?_)
    refine x_iconst (v := 0) C (dq DX8_link 10 rfl) (by decide) ?_
    cases h
    exact x_iret C (dq DX8_link 11 rfl) hQ
set_option maxHeartbeats 1000000 in
theorem qX8_link {S : List Sh} {mm : Mm} {x0 : Nat} {x1 : Int32} {x2 : Int32} {r : Int32 × Mm} (h : fX8_link S mm x0 x1 x2 = some r) : isC S x0 8 := by
  unfold fX8_link at h
  exact (gd_some h).1
abbrev eX8_queue : List (Nat × Instr × Nat) := [(0, .aload_n 0, 1), (1, .iconst 0, 1), (2, .putfield 115, 3), (5, .aload_n 0, 1), (6, .iload_n 1, 1), (7, .invokevirtual 319, 3), (10, .ifCond .eq 28, 3), (13, .aload_n 0, 1), (14, .iload_n 2, 1), (15, .invokevirtual 316, 3), (18, .ifCond .eq 20, 3), (21, .aload_n 0, 1), (22, .getfield 57, 3), (25, .bipush 24, 2), (27, .iload_n 1, 1), (28, .imul, 1), (29, .bipush 15, 2), (31, .iadd, 1), (32, .iload_n 2, 1), (33, .iadd, 1), (34, .iaload, 1), (35, .goto 4, 3), (38, .iconst (-1), 1), (39, .ireturn, 1)]
theorem DX8_queue : (eX8_queue.all fun q => decide (decode cX8_queue q.1 = .ok q.2)) = true := by decide +kernel
def jX8_queue_39 (S : List Sh) (mm : Mm) (x0 : Nat) (p0 : Int32) : Option (Int32 × Mm) := some (p0, mm)
def jX8_queue_38 (S : List Sh) (mm : Mm) (x0 : Nat)  : Option (Int32 × Mm) := jX8_queue_39 S mm x0 (-1)
def fX8_queue (S : List Sh) (mm : Mm) (x0 : Nat) (x1 : Int32) (x2 : Int32) : Option (Int32 × Mm) := gd S x0 8 (bd1 (some (u1 mm x0 0 0)) fun m1 => bd1 (fX8_isLink S m1 x0 x1) fun a2 => if a2 = 0 then (jX8_queue_38 S m1 x0) else (bd1 (fX8_isFlow S m1 x0 x2) fun a3 => if a3 = 0 then (jX8_queue_38 S m1 x0) else (bd1 (ldA S 0 m1 (rf S m1 x0 26) (((24 * x1) + 15) + x2)) fun a4 => jX8_queue_39 S m1 x0 a4)))
set_option maxHeartbeats 1000000 in
theorem tX8_queue_39 {G : Gt} {l : Launch} {E : Ev} {S : List Sh} {mm : Mm} {x0 : Nat} {p0 : Int32} {r : Int32 × Mm} (C : Cx G E cX8_queue 3 RX8 (some .int) 2 41) (g0 : isC S x0 8) (h : jX8_queue_39 S mm x0 p0 = some r) (hQ : RQ G E S (some (.int r.1)) r.2) : WM G l E S 39 [(0, .ref (E.2.2 x0))] [.int p0] mm := by
  unfold jX8_queue_39 at h
  cases h
  exact x_iret C (dq DX8_queue 23 rfl) hQ
set_option maxHeartbeats 1000000 in
theorem tX8_queue_38 {G : Gt} {l : Launch} {E : Ev} {S : List Sh} {mm : Mm} {x0 : Nat}  {r : Int32 × Mm} (C : Cx G E cX8_queue 3 RX8 (some .int) 2 41) (g0 : isC S x0 8) (h : jX8_queue_38 S mm x0 = some r) (hQ : RQ G E S (some (.int r.1)) r.2) : WM G l E S 38 [(0, .ref (E.2.2 x0))] [] mm := by
  unfold jX8_queue_38 at h
  refine x_iconst (v := (-1)) C (dq DX8_queue 22 rfl) (by decide) ?_
  exact x_lv [0] rfl (tX8_queue_39 C g0 h hQ)
set_option maxHeartbeats 1000000 in
theorem mX8_queue {l : Launch} {E : Ev} {S : List Sh} {mm : Mm} {x0 : Nat} {x1 : Int32} {x2 : Int32} {r : Int32 × Mm} (h : fX8_queue S mm x0 x1 x2 = some r) : Ml l E S yX8_queue cX8_queue 3 (some .int) 2 41 [.ref (E.2.2 x0), .int x1, .int x2] mm (some (.int r.1)) r.2 := by
  refine Ml.of (by decide +kernel) (Nat.le_of_ble_eq_true rfl) (fun G C hQ => ?_)
  have C : Cx G E cX8_queue 3 RX8 (some .int) 2 41 := C
  unfold fX8_queue at h
  obtain ⟨g0, h⟩ := gd_some h
  show WM G l E S 0 [(0, .ref (E.2.2 x0)), (1, .int x1), (2, .int x2)] [] mm
  refine x_aload_n C (dq DX8_queue 0 rfl) rfl 0 rfl ?_
  refine x_iconst (v := 0) C (dq DX8_queue 1 rfl) (by decide) ?_
  refine putX8_115 C (dq DX8_queue 2 rfl) g0 h (fun m1 h => ?_)
  refine x_aload_n C (dq DX8_queue 3 rfl) rfl 0 rfl ?_
  refine x_pc 6 rfl ?_
  refine x_iload_n C (dq DX8_queue 4 rfl) rfl 1 rfl ?_
  refine callX8_319 C (dq DX8_queue 5 rfl) h (by decide) (by decide) (Nat.le_of_ble_eq_true rfl) (fun a2 h => ?_)
  refine x_if_eq (tgt := 38) C (dq DX8_queue 6 rfl) (by decide) h (fun h => ?_) (fun h => ?_)
  · exact x_lv [0] rfl (tX8_queue_38 C g0 h hQ)
  · refine x_aload_n C (dq DX8_queue 7 rfl) rfl 0 rfl ?_
    refine x_iload_n C (dq DX8_queue 8 rfl) rfl 2 rfl ?_
    refine x_pc 15 rfl ?_
    refine callX8_316 C (dq DX8_queue 9 rfl) h (by decide) (by decide) (Nat.le_of_ble_eq_true rfl) (fun a3 h => ?_)
    refine x_if_eq (tgt := 38) C (dq DX8_queue 10 rfl) (by decide) h (fun h => ?_) (fun h => ?_)
    · exact x_lv [0] rfl (tX8_queue_38 C g0 h hQ)
    · refine x_aload_n C (dq DX8_queue 11 rfl) rfl 0 rfl ?_
      refine getX8_57 C (dq DX8_queue 12 rfl) g0 ?_
      refine x_bipush (v := 24) C (dq DX8_queue 13 rfl) (by decide) ?_
      refine x_pc 27 rfl ?_
      refine x_iload_n C (dq DX8_queue 14 rfl) rfl 1 rfl ?_
      refine x_imul C (dq DX8_queue 15 rfl) ?_
      refine x_bipush (v := 15) C (dq DX8_queue 16 rfl) (by decide) ?_
      refine x_iadd C (dq DX8_queue 17 rfl) ?_
      refine x_iload_n C (dq DX8_queue 18 rfl) rfl 2 rfl ?_
      refine x_pc 33 rfl ?_
      refine x_iadd C (dq DX8_queue 19 rfl) ?_
      refine x_iald C (dq DX8_queue 20 rfl) h (fun a4 h => ?_)
      refine x_goto (tgt := 39) C (dq DX8_queue 21 rfl) (by decide) ?_
      exact x_lv [0] rfl (tX8_queue_39 C g0 h hQ)
set_option maxHeartbeats 1000000 in
theorem qX8_queue {S : List Sh} {mm : Mm} {x0 : Nat} {x1 : Int32} {x2 : Int32} {r : Int32 × Mm} (h : fX8_queue S mm x0 x1 x2 = some r) : isC S x0 8 := by
  unfold fX8_queue at h
  exact (gd_some h).1
