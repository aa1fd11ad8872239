abbrev eX8_flow : List (Nat × Instr × Nat) := [(0, .aload_n 0, 1), (1, .iconst 0, 1), (2, .putfield 115, 3), (5, .aload_n 0, 1), (6, .iload_n 1, 1), (7, .invokevirtual 316, 3), (10, .ifCond .eq 13, 3), (13, .iload_n 2, 1), (14, .ifCond .lt 9, 3), (17, .iload_n 2, 1), (18, .bipush 11, 2), (20, .if_icmp .le 5, 3), (23, .iconst (-1), 1), (24, .ireturn, 1), (25, .iload_n 2, 1), (26, .bipush 9, 2), (28, .if_icmp .ge 15, 3), (31, .aload_n 0, 1), (32, .getfield 57, 3), (35, .iload_n 1, 1), (36, .invokestatic 258, 3), (39, .iload_n 2, 1), (40, .iadd, 1), (41, .iaload, 1), (42, .ireturn, 1), (43, .iload_n 2, 1), (44, .bipush 9, 2), (46, .if_icmp .ne 12, 3), (49, .aload_n 0, 1), (50, .getfield 47, 3), (53, .iload_n 1, 1), (54, .iaload, 1), (55, .goto 36, 3), (58, .iload_n 2, 1), (59, .bipush 10, 2), (61, .if_icmp .ne 18, 3), (64, .aload_n 0, 1), (65, .getfield 57, 3), (68, .iload_n 1, 1), (69, .invokestatic 258, 3), (72, .bipush 9, 2), (74, .iadd, 1), (75, .iaload, 1), (76, .goto 15, 3), (79, .aload_n 0, 1), (80, .getfield 57, 3), (83, .iload_n 1, 1), (84, .invokestatic 258, 3), (87, .bipush 10, 2), (89, .iadd, 1), (90, .iaload, 1), (91, .ireturn, 1)]
theorem DX8_flow : (eX8_flow.all fun q => decide (decode cX8_flow q.1 = .ok q.2)) = true := by decide +kernel
def jX8_flow_23 (S : List Sh) (mm : Mm) (x0 : Nat)  : Option (Int32 × Mm) := some ((-1), mm)
def jX8_flow_91 (S : List Sh) (mm : Mm) (x0 : Nat) (p0 : Int32) : Option (Int32 × Mm) := some (p0, mm)
def fX8_flow (S : List Sh) (mm : Mm) (x0 : Nat) (x1 : Int32) (x2 : Int32) : Option (Int32 × Mm) := gd S x0 8 (bd1 (some (u1 mm x0 0 0)) fun m1 => bd1 (fX8_isFlow S m1 x0 x1) fun a2 => if a2 = 0 then (jX8_flow_23 S m1 x0) else (if x2 < 0 then (jX8_flow_23 S m1 x0) else (if x2 ≤ 11 then (if 9 ≤ x2 then (if ¬ x2 = 9 then (if ¬ x2 = 10 then (bd1 (fX8_flowAt S m1 x1) fun a3 => bd1 (ldA S 0 m1 (rf S m1 x0 26) (a3 + 10)) fun a4 => jX8_flow_91 S m1 x0 a4) else (bd1 (fX8_flowAt S m1 x1) fun a5 => bd1 (ldA S 0 m1 (rf S m1 x0 26) (a5 + 9)) fun a6 => jX8_flow_91 S m1 x0 a6)) else (bd1 (ldA S 0 m1 (rf S m1 x0 14) x1) fun a7 => jX8_flow_91 S m1 x0 a7)) else (bd1 (fX8_flowAt S m1 x1) fun a8 => bd1 (ldA S 0 m1 (rf S m1 x0 26) (a8 + x2)) fun a9 => some (a9, m1))) else (jX8_flow_23 S m1 x0))))
set_option maxHeartbeats 1000000 in
theorem tX8_flow_23 {G : Gt} {l : Launch} {E : Ev} {S : List Sh} {mm : Mm} {x0 : Nat}  {r : Int32 × Mm} (C : Cx G E cX8_flow 3 RX8 (some .int) 2 41) (g0 : isC S x0 8) (h : jX8_flow_23 S mm x0 = some r) (hQ : RQ G E S (some (.int r.1)) r.2) : WM G l E S 23 [(0, .ref (E.2.2 x0))] [] mm := by
  unfold jX8_flow_23 at h
  refine x_iconst (v := (-1)) C (dq DX8_flow 12 rfl) (by decide) ?_
  cases h
  exact x_iret C (dq DX8_flow 13 rfl) hQ
set_option maxHeartbeats 1000000 in
theorem tX8_flow_91 {G : Gt} {l : Launch} {E : Ev} {S : List Sh} {mm : Mm} {x0 : Nat} {p0 : Int32} {r : Int32 × Mm} (C : Cx G E cX8_flow 3 RX8 (some .int) 2 41) (g0 : isC S x0 8) (h : jX8_flow_91 S mm x0 p0 = some r) (hQ : RQ G E S (some (.int r.1)) r.2) : WM G l E S 91 [(0, .ref (E.2.2 x0))] [.int p0] mm := by
  unfold jX8_flow_91 at h
  cases h
  exact x_iret C (dq DX8_flow 51 rfl) hQ
set_option maxHeartbeats 1000000 in
theorem mX8_flow {l : Launch} {E : Ev} {S : List Sh} {mm : Mm} {x0 : Nat} {x1 : Int32} {x2 : Int32} {r : Int32 × Mm} (h : fX8_flow S mm x0 x1 x2 = some r) : Ml l E S yX8_flow cX8_flow 3 (some .int) 2 41 [.ref (E.2.2 x0), .int x1, .int x2] mm (some (.int r.1)) r.2 := by
  refine Ml.of (by decide +kernel) (Nat.le_of_ble_eq_true rfl) (fun G C hQ => ?_)
  have C : Cx G E cX8_flow 3 RX8 (some .int) 2 41 := C
  unfold fX8_flow at h
  obtain ⟨g0, h⟩ := gd_some h
  show WM G l E S 0 [(0, .ref (E.2.2 x0)), (1, .int x1), (2, .int x2)] [] mm
  refine x_aload_n C (dq DX8_flow 0 rfl) rfl 0 rfl ?_
  refine x_iconst (v := 0) C (dq DX8_flow 1 rfl) (by decide) ?_
  refine putX8_115 C (dq DX8_flow 2 rfl) g0 h (fun m1 h => ?_)
  refine x_aload_n C (dq DX8_flow 3 rfl) rfl 0 rfl ?_
  refine x_pc 6 rfl ?_
  refine x_iload_n C (dq DX8_flow 4 rfl) rfl 1 rfl ?_
  refine callX8_316 C (dq DX8_flow 5 rfl) h (by decide) (by decide) (Nat.le_of_ble_eq_true rfl) (fun a2 h => ?_)
  refine x_if_eq (tgt := 23) C (dq DX8_flow 6 rfl) (by decide) h (fun h => ?_) (fun h => ?_)
  · exact x_lv [0] rfl (tX8_flow_23 C g0 h hQ)
  · refine x_iload_n C (dq DX8_flow 7 rfl) rfl 2 rfl ?_
    refine x_if_lt (tgt := 23) C (dq DX8_flow 8 rfl) (by decide) h (fun h => ?_) (fun h => ?_)
    · exact x_lv [0] rfl (tX8_flow_23 C g0 h hQ)
    · refine x_pc 17 rfl ?_
      refine x_iload_n C (dq DX8_flow 9 rfl) rfl 2 rfl ?_
      refine x_bipush (v := 11) C (dq DX8_flow 10 rfl) (by decide) ?_
      refine x_icmp_le (tgt := 25) C (dq DX8_flow 11 rfl) (by decide) h (fun h => ?_) (fun h => ?_)
      · refine x_iload_n C (dq DX8_flow 14 rfl) rfl 2 rfl ?_
        refine x_bipush (v := 9) C (dq DX8_flow 15 rfl) (by decide) ?_
        refine x_pc 28 rfl ?_
        refine x_icmp_ge (tgt := 43) C (dq DX8_flow 16 rfl) (by decide) h (fun h => ?_) (fun h => ?_)
        · refine x_iload_n C (dq DX8_flow 25 rfl) rfl 2 rfl ?_
          refine x_bipush (v := 9) C (dq DX8_flow 26 rfl) (by decide) ?_
          refine x_icmp_ne (tgt := 58) C (dq DX8_flow 27 rfl) (by decide) h (fun h => ?_) (fun h => ?_)
          · refine x_iload_n C (dq DX8_flow 33 rfl) rfl 2 rfl ?_
            refine x_pc 59 rfl ?_
            refine x_bipush (v := 10) C (dq DX8_flow 34 rfl) (by decide) ?_
            refine x_icmp_ne (tgt := 79) C (dq DX8_flow 35 rfl) (by decide) h (fun h => ?_) (fun h => ?_)
            · refine x_aload_n C (dq DX8_flow 44 rfl) rfl 0 rfl ?_
              refine getX8_57 C (dq DX8_flow 45 rfl) g0 ?_
              refine x_iload_n C (dq DX8_flow 46 rfl) rfl 1 rfl ?_
              refine x_pc 84 rfl ?_
              refine callX8_258 C (dq DX8_flow 47 rfl) h (by decide) (by decide) (Nat.le_of_ble_eq_true rfl) (fun a3 h => ?_)
              refine x_bipush (v := 10) C (dq DX8_flow 48 rfl) (by decide) ?_
              refine x_iadd C (dq DX8_flow 49 rfl) ?_
              refine x_iald C (dq DX8_flow 50 rfl) h (fun a4 h => ?_)
              exact x_lv [0] rfl (tX8_flow_91 C g0 h hQ)
            · refine x_aload_n C (dq DX8_flow 36 rfl) rfl 0 rfl ?_
              refine getX8_57 C (dq DX8_flow 37 rfl) g0 ?_
              refine x_iload_n C (dq DX8_flow 38 rfl) rfl 1 rfl ?_
              refine x_pc 69 rfl ?_
              refine callX8_258 C (dq DX8_flow 39 rfl) h (by decide) (by decide) (Nat.le_of_ble_eq_true rfl) (fun a5 h => ?_)
              refine x_bipush (v := 9) C (dq DX8_flow 40 rfl) (by decide) ?_
              refine x_iadd C (dq DX8_flow 41 rfl) ?_
              refine x_iald C (dq DX8_flow 42 rfl) h (fun a6 h => ?_)
              refine x_goto (tgt := 91) C (dq DX8_flow 43 rfl) (by decide) ?_
              exact x_lv [0] rfl (tX8_flow_91 C g0 h hQ)
          · refine x_aload_n C (dq DX8_flow 28 rfl) rfl 0 rfl ?_
            refine x_pc 50 rfl ?_
            refine getX8_47 C (dq DX8_flow 29 rfl) g0 ?_
            refine x_iload_n C (dq DX8_flow 30 rfl) rfl 1 rfl ?_
            refine x_iald C (dq DX8_flow 31 rfl) h (fun a7 h => ?_)
            refine x_goto (tgt := 91) C (dq DX8_flow 32 rfl) (by decide) ?_
            exact x_lv [0] rfl (tX8_flow_91 C g0 h hQ)
        · refine x_aload_n C (dq DX8_flow 17 rfl) rfl 0 rfl ?_
          refine getX8_57 C (dq DX8_flow 18 rfl) g0 ?_
          refine x_iload_n C (dq DX8_flow 19 rfl) rfl 1 rfl ?_
          refine callX8_258 C (dq DX8_flow 20 rfl) h (by decide) (by decide) (Nat.le_of_ble_eq_true rfl) (fun a8 h => ?_)
          refine x_pc 39 rfl ?_
          refine x_iload_n C (dq DX8_flow 21 rfl) rfl 2 rfl ?_
          refine x_iadd C (dq DX8_flow 22 rfl) ?_
          refine x_iald C (dq DX8_flow 23 rfl) h (fun a9 h => ?_)
          cases h
          exact x_iret C (dq DX8_flow 24 rfl) hQ
      · exact x_lv [0] rfl (tX8_flow_23 C g0 h hQ)
set_option maxHeartbeats 1000000 in
theorem qX8_flow {S : List Sh} {mm : Mm} {x0 : Nat} {x1 : Int32} {x2 : Int32} {r : Int32 × Mm} (h : fX8_flow S mm x0 x1 x2 = some r) : isC S x0 8 := by
  unfold fX8_flow at h
  exact (gd_some h).1
abbrev eX8_path : List (Nat × Instr × Nat) := [(0, .aload_n 0, 1), (1, .iconst 0, 1), (2, .putfield 115, 3), (5, .aload_n 0, 1), (6, .iload_n 1, 1), (7, .invokevirtual 316, 3), (10, .ifCond .eq 30, 3), (13, .iload_n 2, 1), (14, .ifCond .lt 26, 3), (17, .iload_n 2, 1), (18, .aload_n 0, 1), (19, .getfield 47, 3), (22, .iload_n 1, 1), (23, .iaload, 1), (24, .if_icmp .ge 16, 3), (27, .aload_n 0, 1), (28, .getfield 50, 3), (31, .iconst 5, 1), (32, .iload_n 1, 1), (33, .imul, 1), (34, .iload_n 2, 1), (35, .iadd, 1), (36, .iaload, 1), (37, .goto 4, 3), (40, .iconst (-1), 1), (41, .ireturn, 1)]
theorem DX8_path : (eX8_path.all fun q => decide (decode cX8_path q.1 = .ok q.2)) = true := by decide +kernel
def jX8_path_41 (S : List Sh) (mm : Mm) (x0 : Nat) (p0 : Int32) : Option (Int32 × Mm) := some (p0, mm)
def jX8_path_40 (S : List Sh) (mm : Mm) (x0 : Nat)  : Option (Int32 × Mm) := jX8_path_41 S mm x0 (-1)
def fX8_path (S : List Sh) (mm : Mm) (x0 : Nat) (x1 : Int32) (x2 : Int32) : Option (Int32 × Mm) := gd S x0 8 (bd1 (some (u1 mm x0 0 0)) fun m1 => bd1 (fX8_isFlow S m1 x0 x1) fun a2 => if a2 = 0 then (jX8_path_40 S m1 x0) else (if x2 < 0 then (jX8_path_40 S m1 x0) else (bd1 (ldA S 0 m1 (rf S m1 x0 14) x1) fun a3 => if a3 ≤ x2 then (jX8_path_40 S m1 x0) else (bd1 (ldA S 0 m1 (rf S m1 x0 15) ((5 * x1) + x2)) fun a4 => jX8_path_41 S m1 x0 a4))))
set_option maxHeartbeats 1000000 in
theorem tX8_path_41 {G : Gt} {l : Launch} {E : Ev} {S : List Sh} {mm : Mm} {x0 : Nat} {p0 : Int32} {r : Int32 × Mm} (C : Cx G E cX8_path 3 RX8 (some .int) 2 41) (g0 : isC S x0 8) (h : jX8_path_41 S mm x0 p0 = some r) (hQ : RQ G E S (some (.int r.1)) r.2) : WM G l E S 41 [(0, .ref (E.2.2 x0))] [.int p0] mm := by
  unfold jX8_path_41 at h
  cases h
  exact x_iret C (dq DX8_path 25 rfl) hQ
set_option maxHeartbeats 1000000 in
theorem tX8_path_40 {G : Gt} {l : Launch} {E : Ev} {S : List Sh} {mm : Mm} {x0 : Nat}  {r : Int32 × Mm} (C : Cx G E cX8_path 3 RX8 (some .int) 2 41) (g0 : isC S x0 8) (h : jX8_path_40 S mm x0 = some r) (hQ : RQ G E S (some (.int r.1)) r.2) : WM G l E S 40 [(0, .ref (E.2.2 x0))] [] mm := by
  unfold jX8_path_40 at h
  refine x_iconst (v := (-1)) C (dq DX8_path 24 rfl) (by decide) ?_
  exact x_lv [0] rfl (tX8_path_41 C g0 h hQ)
set_option maxHeartbeats 1000000 in
theorem mX8_path {l : Launch} {E : Ev} {S : List Sh} {mm : Mm} {x0 : Nat} {x1 : Int32} {x2 : Int32} {r : Int32 × Mm} (h : fX8_path S mm x0 x1 x2 = some r) : Ml l E S yX8_path cX8_path 3 (some .int) 2 41 [.ref (E.2.2 x0), .int x1, .int x2] mm (some (.int r.1)) r.2 := by
  refine Ml.of (by decide +kernel) (Nat.le_of_ble_eq_true rfl) (fun G C hQ => ?_)
  have C : Cx G E cX8_path 3 RX8 (some .int) 2 41 := C
  unfold fX8_path at h
  obtain ⟨g0, h⟩ := gd_some h
  show WM G l E S 0 [(0, .ref (E.2.2 x0)), (1, .int x1), (2, .int x2)] [] mm
  refine x_aload_n C (dq DX8_path 0 rfl) rfl 0 rfl ?_
  refine x_iconst (v := 0) C (dq DX8_path 1 rfl) (by decide) ?_
  refine putX8_115 C (dq DX8_path 2 rfl) g0 h (fun m1 h => ?_)
  refine x_aload_n C (dq DX8_path 3 rfl) rfl 0 rfl ?_
  refine x_pc 6 rfl ?_
  refine x_iload_n C (dq DX8_path 4 rfl) rfl 1 rfl ?_
  refine callX8_316 C (dq DX8_path 5 rfl) h (by decide) (by decide) (Nat.le_of_ble_eq_true rfl) (fun a2 h => ?_)
  refine x_if_eq (tgt := 40) C (dq DX8_path 6 rfl) (by decide) h (fun h => ?_) (fun h => ?_)
  · exact x_lv [0] rfl (tX8_path_40 C g0 h hQ)
  · refine x_iload_n C (dq DX8_path 7 rfl) rfl 2 rfl ?_
    refine x_if_lt (tgt := 40) C (dq DX8_path 8 rfl) (by decide) h (fun h => ?_) (fun h => ?_)
    · exact x_lv [0] rfl (tX8_path_40 C g0 h hQ)
    · refine x_pc 17 rfl ?_
      refine x_iload_n C (dq DX8_path 9 rfl) rfl 2 rfl ?_
      refine x_aload_n C (dq DX8_path 10 rfl) rfl 0 rfl ?_
      refine getX8_47 C (dq DX8_path 11 rfl) g0 ?_
      refine x_iload_n C (dq DX8_path 12 rfl) rfl 1 rfl ?_
      refine x_iald C (dq DX8_path 13 rfl) h (fun a3 h => ?_)
      refine x_pc 24 rfl ?_
      refine x_icmp_ge (tgt := 40) C (dq DX8_path 14 rfl) (by decide) h (fun h => ?_) (fun h => ?_)
      · exact x_lv [0] rfl (tX8_path_40 C g0 h hQ)
      · refine x_aload_n C (dq DX8_path 15 rfl) rfl 0 rfl ?_
        refine getX8_50 C (dq DX8_path 16 rfl) g0 ?_
        refine x_iconst (v := 5) C (dq DX8_path 17 rfl) (by decide) ?_
        refine x_iload_n C (dq DX8_path 18 rfl) rfl 1 rfl ?_
        refine x_pc 33 rfl ?_
        refine x_imul C (dq DX8_path 19 rfl) ?_
        refine x_iload_n C (dq DX8_path 20 rfl) rfl 2 rfl ?_
        refine x_iadd C (dq DX8_path 21 rfl) ?_
        refine x_iald C (dq DX8_path 22 rfl) h (fun a4 h => ?_)
        refine x_goto (tgt := 41) C (dq DX8_path 23 rfl) (by decide) ?_
        exact x_lv [0] rfl (tX8_path_41 C g0 h hQ)
set_option maxHeartbeats 1000000 in
theorem qX8_path {S : List Sh} {mm : Mm} {x0 : Nat} {x1 : Int32} {x2 : Int32} {r : Int32 × Mm} (h : fX8_path S mm x0 x1 x2 = some r) : isC S x0 8 := by
  unfold fX8_path at h
  exact (gd_some h).1
abbrev eX8_feedback : List (Nat × Instr × Nat) := [(0, .aload_n 0, 1), (1, .iconst 0, 1), (2, .putfield 115, 3), (5, .aload_n 0, 1), (6, .iload_n 1, 1), (7, .invokevirtual 319, 3), (10, .ifCond .eq 11, 3), (13, .aload_n 0, 1), (14, .iload_n 1, 1), (15, .invokevirtual 271, 3), (18, .goto 6, 3), (21, .ldc_w 322, 3), (24, .ireturn, 1)]
theorem DX8_feedback : (eX8_feedback.all fun q => decide (decode cX8_feedback q.1 = .ok q.2)) = true := by decide +kernel
def jX8_feedback_24 (S : List Sh) (mm : Mm) (x0 : Nat) (p0 : Int32) : Option (Int32 × Mm) := some (p0, mm)
def fX8_feedback (S : List Sh) (mm : Mm) (x0 : Nat) (x1 : Int32) : Option (Int32 × Mm) := gd S x0 8 (bd1 (some (u1 mm x0 0 0)) fun m1 => bd1 (fX8_isLink S m1 x0 x1) fun a2 => if a2 = 0 then (jX8_feedback_24 S m1 x0 (-2147483648)) else (bd1 (fX8_feedbackOf S m1 x0 x1) fun a3 => jX8_feedback_24 S m1 x0 a3))
set_option maxHeartbeats 1000000 in
theorem tX8_feedback_24 {G : Gt} {l : Launch} {E : Ev} {S : List Sh} {mm : Mm} {x0 : Nat} {p0 : Int32} {r : Int32 × Mm} (C : Cx G E cX8_feedback 2 RX8 (some .int) 2 45) (g0 : isC S x0 8) (h : jX8_feedback_24 S mm x0 p0 = some r) (hQ : RQ G E S (some (.int r.1)) r.2) : WM G l E S 24 [(0, .ref (E.2.2 x0))] [.int p0] mm := by
  unfold jX8_feedback_24 at h
  cases h
  exact x_iret C (dq DX8_feedback 12 rfl) hQ
set_option maxHeartbeats 1000000 in
theorem mX8_feedback {l : Launch} {E : Ev} {S : List Sh} {mm : Mm} {x0 : Nat} {x1 : Int32} {r : Int32 × Mm} (h : fX8_feedback S mm x0 x1 = some r) : Ml l E S yX8_feedback cX8_feedback 2 (some .int) 2 45 [.ref (E.2.2 x0), .int x1] mm (some (.int r.1)) r.2 := by
  refine Ml.of (by decide +kernel) (Nat.le_of_ble_eq_true rfl) (fun G C hQ => ?_)
  have C : Cx G E cX8_feedback 2 RX8 (some .int) 2 45 := C
  unfold fX8_feedback at h
  obtain ⟨g0, h⟩ := gd_some h
  show WM G l E S 0 [(0, .ref (E.2.2 x0)), (1, .int x1)] [] mm
  refine x_aload_n C (dq DX8_feedback 0 rfl) rfl 0 rfl ?_
  refine x_iconst (v := 0) C (dq DX8_feedback 1 rfl) (by decide) ?_
  refine putX8_115 C (dq DX8_feedback 2 rfl) g0 h (fun m1 h => ?_)
  refine x_aload_n C (dq DX8_feedback 3 rfl) rfl 0 rfl ?_
  refine x_pc 6 rfl ?_
  refine x_iload_n C (dq DX8_feedback 4 rfl) rfl 1 rfl ?_
  refine callX8_319 C (dq DX8_feedback 5 rfl) h (by decide) (by decide) (Nat.le_of_ble_eq_true rfl) (fun a2 h => ?_)
  refine x_if_eq (tgt := 21) C (dq DX8_feedback 6 rfl) (by decide) h (fun h => ?_) (fun h => ?_)
  · refine x_ldc_w (v := (-2147483648)) C (dq DX8_feedback 11 rfl) (gmem 1302 (by decide +kernel) rfl) ?_
    exact x_lv [0] rfl (tX8_feedback_24 C g0 h hQ)
  · refine x_aload_n C (dq DX8_feedback 7 rfl) rfl 0 rfl ?_
    refine x_iload_n C (dq DX8_feedback 8 rfl) rfl 1 rfl ?_
    refine x_pc 15 rfl ?_
    refine callX8_271 C (dq DX8_feedback 9 rfl) h (by decide) (by decide) (Nat.le_of_ble_eq_true rfl) (fun a3 h => ?_)
    refine x_goto (tgt := 24) C (dq DX8_feedback 10 rfl) (by decide) ?_
    exact x_lv [0] rfl (tX8_feedback_24 C g0 h hQ)
set_option maxHeartbeats 1000000 in
theorem qX8_feedback {S : List Sh} {mm : Mm} {x0 : Nat} {x1 : Int32} {r : Int32 × Mm} (h : fX8_feedback S mm x0 x1 = some r) : isC S x0 8 := by
  unfold fX8_feedback at h
  exact (gd_some h).1
abbrev eX8_notice : List (Nat × Instr × Nat) := [(0, .aload_n 0, 1), (1, .iconst 0, 1), (2, .putfield 115, 3), (5, .aload_n 0, 1), (6, .iload_n 1, 1), (7, .invokevirtual 319, 3), (10, .ifCond .eq 15, 3), (13, .aload_n 0, 1), (14, .aload_n 0, 1), (15, .iload_n 1, 1), (16, .invokevirtual 271, 3), (19, .invokevirtual 274, 3), (22, .goto 4, 3), (25, .iconst (-1), 1), (26, .ireturn, 1)]
theorem DX8_notice : (eX8_notice.all fun q => decide (decode cX8_notice q.1 = .ok q.2)) = true := by decide +kernel
def jX8_notice_26 (S : List Sh) (mm : Mm) (x0 : Nat) (p0 : Int32) : Option (Int32 × Mm) := some (p0, mm)
def fX8_notice (S : List Sh) (mm : Mm) (x0 : Nat) (x1 : Int32) : Option (Int32 × Mm) := gd S x0 8 (bd1 (some (u1 mm x0 0 0)) fun m1 => bd1 (fX8_isLink S m1 x0 x1) fun a2 => if a2 = 0 then (jX8_notice_26 S m1 x0 (-1)) else (bd1 (fX8_feedbackOf S m1 x0 x1) fun a3 => bd1 (fX8_noticeOf S m1 x0 a3) fun a4 => jX8_notice_26 S m1 x0 a4))
set_option maxHeartbeats 1000000 in
theorem tX8_notice_26 {G : Gt} {l : Launch} {E : Ev} {S : List Sh} {mm : Mm} {x0 : Nat} {p0 : Int32} {r : Int32 × Mm} (C : Cx G E cX8_notice 2 RX8 (some .int) 2 45) (g0 : isC S x0 8) (h : jX8_notice_26 S mm x0 p0 = some r) (hQ : RQ G E S (some (.int r.1)) r.2) : WM G l E S 26 [(0, .ref (E.2.2 x0))] [.int p0] mm := by
  unfold jX8_notice_26 at h
  cases h
  exact x_iret C (dq DX8_notice 14 rfl) hQ
set_option maxHeartbeats 1000000 in
theorem mX8_notice {l : Launch} {E : Ev} {S : List Sh} {mm : Mm} {x0 : Nat} {x1 : Int32} {r : Int32 × Mm} (h : fX8_notice S mm x0 x1 = some r) : Ml l E S yX8_notice cX8_notice 2 (some .int) 2 45 [.ref (E.2.2 x0), .int x1] mm (some (.int r.1)) r.2 := by
  refine Ml.of (by decide +kernel) (Nat.le_of_ble_eq_true rfl) (fun G C hQ => ?_)
  have C : Cx G E cX8_notice 2 RX8 (some .int) 2 45 := C
  unfold fX8_notice at h
  obtain ⟨g0, h⟩ := gd_some h
  show WM G l E S 0 [(0, .ref (E.2.2 x0)), (1, .int x1)] [] mm
  refine x_aload_n C (dq DX8_notice 0 rfl) rfl 0 rfl ?_
  refine x_iconst (v := 0) C (dq DX8_notice 1 rfl) (by decide) ?_
  refine putX8_115 C (dq DX8_notice 2 rfl) g0 h (fun m1 h => ?_)
  refine x_aload_n C (dq DX8_notice 3 rfl) rfl 0 rfl ?_
  refine x_pc 6 rfl ?_
  refine x_iload_n C (dq DX8_notice 4 rfl) rfl 1 rfl ?_
  refine callX8_319 C (dq DX8_notice 5 rfl) h (by decide) (by decide) (Nat.le_of_ble_eq_true rfl) (fun a2 h => ?_)
  refine x_if_eq (tgt := 25) C (dq DX8_notice 6 rfl) (by decide) h (fun h => ?_) (fun h => ?_)
  · refine x_iconst (v := (-1)) C (dq DX8_notice 13 rfl) (by decide) ?_
    exact x_lv [0] rfl (tX8_notice_26 C g0 h hQ)
  · refine x_aload_n C (dq DX8_notice 7 rfl) rfl 0 rfl ?_
    refine x_aload_n C (dq DX8_notice 8 rfl) rfl 0 rfl ?_
    refine x_pc 15 rfl ?_
    refine x_iload_n C (dq DX8_notice 9 rfl) rfl 1 rfl ?_
    refine callX8_271 C (dq DX8_notice 10 rfl) h (by decide) (by decide) (Nat.le_of_ble_eq_true rfl) (fun a3 h => ?_)
    refine callX8_274 C (dq DX8_notice 11 rfl) h (by decide) (by decide) (Nat.le_of_ble_eq_true rfl) (fun a4 h => ?_)
    refine x_goto (tgt := 26) C (dq DX8_notice 12 rfl) (by decide) ?_
    exact x_lv [0] rfl (tX8_notice_26 C g0 h hQ)
set_option maxHeartbeats 1000000 in
theorem qX8_notice {S : List Sh} {mm : Mm} {x0 : Nat} {x1 : Int32} {r : Int32 × Mm} (h : fX8_notice S mm x0 x1 = some r) : isC S x0 8 := by
  unfold fX8_notice at h
  exact (gd_some h).1
abbrev eX8_headroomOf : List (Nat × Instr × Nat) := [(0, .aload_n 0, 1), (1, .getfield 57, 3), (4, .bipush 24, 2), (6, .iload_n 1, 1), (7, .imul, 1), (8, .iconst 0, 1), (9, .iadd, 1), (10, .iaload, 1), (11, .iconst 1, 1), (12, .isub, 1), (13, .aload_n 0, 1), (14, .getfield 23, 3), (17, .iload_n 1, 1), (18, .iaload, 1), (19, .aload_n 0, 1), (20, .getfield 26, 3), (23, .iload_n 1, 1), (24, .iaload, 1), (25, .iconst 1, 1), (26, .iadd, 1), (27, .imul, 1), (28, .iadd, 1), (29, .ireturn, 1)]
theorem DX8_headroomOf : (eX8_headroomOf.all fun q => decide (decode cX8_headroomOf q.1 = .ok q.2)) = true := by decide +kernel
def fX8_headroomOf (S : List Sh) (mm : Mm) (x0 : Nat) (x1 : Int32) : Option (Int32) := gd S x0 8 (bd1 (ldA S 0 mm (rf S mm x0 26) ((24 * x1) + 0)) fun a1 => bd1 (ldA S 0 mm (rf S mm x0 6) x1) fun a2 => bd1 (ldA S 0 mm (rf S mm x0 7) x1) fun a3 => some ((a1 - 1) + (a2 * (a3 + 1))))
set_option maxHeartbeats 1000000 in
theorem mX8_headroomOf {l : Launch} {E : Ev} {S : List Sh} {mm : Mm} {x0 : Nat} {x1 : Int32} {r : Int32} (h : fX8_headroomOf S mm x0 x1 = some r) : Ml l E S yX8_headroomOf cX8_headroomOf 2 (some .int) 0 0 [.ref (E.2.2 x0), .int x1] mm (some (.int r)) mm := by
  refine Ml.of (by decide +kernel) (Nat.le_of_ble_eq_true rfl) (fun G C hQ => ?_)
  have C : Cx G E cX8_headroomOf 2 RX8 (some .int) 0 0 := C
  unfold fX8_headroomOf at h
  obtain ⟨g0, h⟩ := gd_some h
  show WM G l E S 0 [(0, .ref (E.2.2 x0)), (1, .int x1)] [] mm
  refine x_aload_n C (dq DX8_headroomOf 0 rfl) rfl 0 rfl ?_
  refine getX8_57 C (dq DX8_headroomOf 1 rfl) g0 ?_
  refine x_bipush (v := 24) C (dq DX8_headroomOf 2 rfl) (by decide) ?_
  refine x_iload_n C (dq DX8_headroomOf 3 rfl) rfl 1 rfl ?_
  refine x_pc 7 rfl ?_
  refine x_imul C (dq DX8_headroomOf 4 rfl) ?_
  refine x_iconst (v := 0) C (dq DX8_headroomOf 5 rfl) (by decide) ?_
  refine x_iadd C (dq DX8_headroomOf 6 rfl) ?_
  refine x_iald C (dq DX8_headroomOf 7 rfl) h (fun a1 h => ?_)
  refine x_iconst (v := 1) C (dq DX8_headroomOf 8 rfl) (by decide) ?_
  refine x_pc 12 rfl ?_
  refine x_isub C (dq DX8_headroomOf 9 rfl) ?_
  refine x_aload_n C (dq DX8_headroomOf 10 rfl) rfl 0 rfl ?_
  refine getX8_23 C (dq DX8_headroomOf 11 rfl) g0 ?_
  refine x_iload_n C (dq DX8_headroomOf 12 rfl) rfl 1 rfl ?_
  refine x_iald C (dq DX8_headroomOf 13 rfl) h (fun a2 h => ?_)
  refine x_pc 19 rfl ?_
  refine x_aload_n C (dq DX8_headroomOf 14 rfl) rfl 0 rfl ?_
  refine getX8_26 C (dq DX8_headroomOf 15 rfl) g0 ?_
  refine x_iload_n C (dq DX8_headroomOf 16 rfl) rfl 1 rfl ?_
  refine x_iald C (dq DX8_headroomOf 17 rfl) h (fun a3 h => ?_)
  refine x_iconst (v := 1) C (dq DX8_headroomOf 18 rfl) (by decide) ?_
  refine x_pc 26 rfl ?_
  refine x_iadd C (dq DX8_headroomOf 19 rfl) ?_
  refine x_imul C (dq DX8_headroomOf 20 rfl) ?_
  refine x_iadd C (dq DX8_headroomOf 21 rfl) ?_
  cases h
  exact x_iret C (dq DX8_headroomOf 22 rfl) hQ
set_option maxHeartbeats 1000000 in
theorem qX8_headroomOf {S : List Sh} {mm : Mm} {x0 : Nat} {x1 : Int32} {r : Int32} (h : fX8_headroomOf S mm x0 x1 = some r) : isC S x0 8 := by
  unfold fX8_headroomOf at h
  exact (gd_some h).1
theorem callX8_323 {G : Gt} {l : Launch} {E : Ev} {S : List Sh} {cc : ByteArray} {nL : Nat} {rt : Option FieldType} {fr lo : Nat} {pc : Nat} {lv : List (Nat × Value)} {rest : List Value} {mm : Mm} {α : Type} {f : Int32 → Option α} {r : α} {o : Nat} {a0 : Int32} (C : Cx G E cc nL RX8 rt fr lo) (d : decode cc pc = .ok (.invokevirtual 323, 3)) (h : bd1 (fX8_headroomOf S mm o a0) f = some r) (hfr : 1 ≤ fr) (hlo : 21 ≤ lo) (hrs : (rest.map fun v => v.category).sum ≤ 8) (k : ∀ v, f v = some r → WM G l E S (pc + 3) lv (.int v :: rest) mm) : WM G l E S pc lv (.int a0 :: .ref (E.2.2 o) :: rest) mm := by
  obtain ⟨v, hv, hf⟩ := bd1_some h
  exact x_callV (n := 1) (As := [.int a0]) (rest := rest) C (mX8_headroomOf hv) (qX8_headroomOf hv) (T := TX8) (N := 49) rfl (gmem 1311 (by decide +kernel) rfl) (gmem 1313 (by decide +kernel) rfl) (gmemS 82 (by decide +kernel) rfl) (gmem 9 (by decide +kernel) rfl) (gmem 1314 (by decide +kernel) rfl) (by decide +kernel) rfl hfr hlo hrs d rfl rfl (k v hf)
abbrev eX8_headroom : List (Nat × Instr × Nat) := [(0, .aload_n 0, 1), (1, .iconst 0, 1), (2, .putfield 115, 3), (5, .aload_n 0, 1), (6, .iload_n 1, 1), (7, .invokevirtual 319, 3), (10, .ifCond .eq 11, 3), (13, .aload_n 0, 1), (14, .iload_n 1, 1), (15, .invokevirtual 323, 3), (18, .goto 4, 3), (21, .iconst (-1), 1), (22, .ireturn, 1)]
theorem DX8_headroom : (eX8_headroom.all fun q => decide (decode cX8_headroom q.1 = .ok q.2)) = true := by decide +kernel
def jX8_headroom_22 (S : List Sh) (mm : Mm) (x0 : Nat) (p0 : Int32) : Option (Int32 × Mm) := some (p0, mm)
def fX8_headroom (S : List Sh) (mm : Mm) (x0 : Nat) (x1 : Int32) : Option (Int32 × Mm) := gd S x0 8 (bd1 (some (u1 mm x0 0 0)) fun m1 => bd1 (fX8_isLink S m1 x0 x1) fun a2 => if a2 = 0 then (jX8_headroom_22 S m1 x0 (-1)) else (bd1 (fX8_headroomOf S m1 x0 x1) fun a3 => jX8_headroom_22 S m1 x0 a3))
set_option maxHeartbeats 1000000 in
theorem tX8_headroom_22 {G : Gt} {l : Launch} {E : Ev} {S : List Sh} {mm : Mm} {x0 : Nat} {p0 : Int32} {r : Int32 × Mm} (C : Cx G E cX8_headroom 2 RX8 (some .int) 2 41) (g0 : isC S x0 8) (h : jX8_headroom_22 S mm x0 p0 = some r) (hQ : RQ G E S (some (.int r.1)) r.2) : WM G l E S 22 [(0, .ref (E.2.2 x0))] [.int p0] mm := by
  unfold jX8_headroom_22 at h
  cases h
  exact x_iret C (dq DX8_headroom 12 rfl) hQ
set_option maxHeartbeats 1000000 in
theorem mX8_headroom {l : Launch} {E : Ev} {S : List Sh} {mm : Mm} {x0 : Nat} {x1 : Int32} {r : Int32 × Mm} (h : fX8_headroom S mm x0 x1 = some r) : Ml l E S yX8_headroom cX8_headroom 2 (some .int) 2 41 [.ref (E.2.2 x0), .int x1] mm (some (.int r.1)) r.2 := by
  refine Ml.of (by decide +kernel) (Nat.le_of_ble_eq_true rfl) (fun G C hQ => ?_)
  have C : Cx G E cX8_headroom 2 RX8 (some .int) 2 41 := C
  unfold fX8_headroom at h
  obtain ⟨g0, h⟩ := gd_some h
  show WM G l E S 0 [(0, .ref (E.2.2 x0)), (1, .int x1)] [] mm
  refine x_aload_n C (dq DX8_headroom 0 rfl) rfl 0 rfl ?_
  refine x_iconst (v := 0) C (dq DX8_headroom 1 rfl) (by decide) ?_
  refine putX8_115 C (dq DX8_headroom 2 rfl) g0 h (fun m1 h => ?_)
  refine x_aload_n C (dq DX8_headroom 3 rfl) rfl 0 rfl ?_
  refine x_pc 6 rfl ?_
  refine x_iload_n C (dq DX8_headroom 4 rfl) rfl 1 rfl ?_
  refine callX8_319 C (dq DX8_headroom 5 rfl) h (by decide) (by decide) (Nat.le_of_ble_eq_true rfl) (fun a2 h => ?_)
  refine x_if_eq (tgt := 21) C (dq DX8_headroom 6 rfl) (by decide) h (fun h => ?_) (fun h => ?_)
  · refine x_iconst (v := (-1)) C (dq DX8_headroom 11 rfl) (by decide) ?_
    exact x_lv [0] rfl (tX8_headroom_22 C g0 h hQ)
  · refine x_aload_n C (dq DX8_headroom 7 rfl) rfl 0 rfl ?_
    refine x_iload_n C (dq DX8_headroom 8 rfl) rfl 1 rfl ?_
    refine x_pc 15 rfl ?_
    refine callX8_323 C (dq DX8_headroom 9 rfl) h (by decide) (by decide) (Nat.le_of_ble_eq_true rfl) (fun a3 h => ?_)
    refine x_goto (tgt := 22) C (dq DX8_headroom 10 rfl) (by decide) ?_
    exact x_lv [0] rfl (tX8_headroom_22 C g0 h hQ)
set_option maxHeartbeats 1000000 in
theorem qX8_headroom {S : List Sh} {mm : Mm} {x0 : Nat} {x1 : Int32} {r : Int32 × Mm} (h : fX8_headroom S mm x0 x1 = some r) : isC S x0 8 := by
  unfold fX8_headroom at h
  exact (gd_some h).1
abbrev eX8_safe : List (Nat × Instr × Nat) := [(0, .aload_n 0, 1), (1, .iconst 0, 1), (2, .putfield 115, 3), (5, .iconst 0, 1), (6, .istore_n 1, 1), (7, .iconst 0, 1), (8, .istore_n 2, 1), (9, .iload_n 2, 1), (10, .aload_n 0, 1), (11, .invokevirtual 248, 3), (14, .if_icmp .ge 34, 3), (17, .aload_n 0, 1), (18, .iload_n 2, 1), (19, .invokevirtual 323, 3), (22, .aload_n 0, 1), (23, .getfield 57, 3), (26, .bipush 24, 2), (28, .iload_n 2, 1), (29, .imul, 1), (30, .iconst 2, 1), (31, .iadd, 1), (32, .iaload, 1), (33, .if_icmp .gt 9, 3), (36, .iload_n 1, 1), (37, .iconst 1, 1), (38, .iload_n 2, 1), (39, .ishl, 1), (40, .ior, 1), (41, .istore_n 1, 1), (42, .iinc 2 1, 3), (45, .goto (-36), 3), (48, .iload_n 1, 1), (49, .ireturn, 1)]
theorem DX8_safe : (eX8_safe.all fun q => decide (decode cX8_safe q.1 = .ok q.2)) = true := by decide +kernel
def jX8_safe_42 (S : List Sh) (mm : Mm) (x0 : Nat) (x1 : Int32) (x2 : Int32)  : Option ((Int32 × Int32) ⊕ (Int32)) := some (.inl (x1, x2 + 1))
def bX8_safe_9 (S : List Sh) (mm : Mm) (x0 : Nat) (x1 : Int32) (x2 : Int32) : Option ((Int32 × Int32) ⊕ (Int32)) := bd1 (fX8_links S mm x0) fun a2 => if a2 ≤ x2 then (some (.inr (x1))) else (bd1 (fX8_headroomOf S mm x0 x2) fun a3 => bd1 (ldA S 0 mm (rf S mm x0 26) ((24 * x2) + 2)) fun a4 => if a4 < a3 then (jX8_safe_42 S mm x0 x1 x2) else (jX8_safe_42 S mm x0 (x1 ||| (1 <<< (x2 &&& 31))) x2))
def fX8_safe (S : List Sh) (mm : Mm) (x0 : Nat) : Option (Int32 × Mm) := gd S x0 8 (bd1 (some (u1 mm x0 0 0)) fun m1 => bd1 (lp (fun s5 => bX8_safe_9 S m1 x0 s5.1 s5.2) fu (0, 0)) fun y6 => some (y6, m1))
set_option maxHeartbeats 1000000 in
theorem tX8_safe_42 {G : Gt} {l : Launch} {E : Ev} {S : List Sh} {mm : Mm} {x0 : Nat} {x1 : Int32} {x2 : Int32}  {r : (Int32 × Int32) ⊕ (Int32)} (C : Cx G E cX8_safe 3 RX8 (some .int) 1 21) (g0 : isC S x0 8) (h : jX8_safe_42 S mm x0 x1 x2 = some r) (kb : ∀ z : Int32 × Int32, r = .inl z → WM G l E S 9 [(0, .ref (E.2.2 x0)), (1, .int z.1), (2, .int z.2)] [] mm) (kx : ∀ z : Int32, r = .inr z → WM G l E S 48 [(0, .ref (E.2.2 x0)), (1, .int z)] [] mm) : WM G l E S 42 [(0, .ref (E.2.2 x0)), (1, .int x1), (2, .int x2)] [] mm := by
  unfold jX8_safe_42 at h
  refine x_iinc (v := x2 + 1) (lv' := [(2, .int (x2 + 1)), (0, .ref (E.2.2 x0)), (1, .int x1)]) C (dq DX8_safe 29 rfl) 2 rfl rfl (by decide) rfl ?_
  refine x_goto (tgt := 9) C (dq DX8_safe 30 rfl) (by decide) ?_
  cases h
  exact x_lv [1, 2, 0] rfl (kb (x1, x2 + 1) rfl)
set_option maxHeartbeats 1000000 in
theorem tX8_safe_9 {G : Gt} {l : Launch} {E : Ev} {S : List Sh} {mm : Mm} {x0 : Nat} {x1 : Int32} {x2 : Int32} {r : (Int32 × Int32) ⊕ (Int32)} (C : Cx G E cX8_safe 3 RX8 (some .int) 1 21) (g0 : isC S x0 8) (h : bX8_safe_9 S mm x0 x1 x2 = some r) (kb : ∀ z : Int32 × Int32, r = .inl z → WM G l E S 9 [(0, .ref (E.2.2 x0)), (1, .int z.1), (2, .int z.2)] [] mm) (kx : ∀ z : Int32, r = .inr z → WM G l E S 48 [(0, .ref (E.2.2 x0)), (1, .int z)] [] mm) : WM G l E S 9 [(0, .ref (E.2.2 x0)), (1, .int x1), (2, .int x2)] [] mm := by
  unfold bX8_safe_9 at h
  refine x_iload_n C (dq DX8_safe 7 rfl) rfl 2 rfl ?_
  refine x_aload_n C (dq DX8_safe 8 rfl) rfl 0 rfl ?_
  refine callX8_248 C (dq DX8_safe 9 rfl) h (by decide) (by decide) (Nat.le_of_ble_eq_true rfl) (fun a2 h => ?_)
  refine x_icmp_ge (tgt := 48) C (dq DX8_safe 10 rfl) (by decide) h (fun h => ?_) (fun h => ?_)
  · cases h
    exact x_lv [0, 1] rfl (kx (x1) rfl)
  · refine x_pc 17 rfl ?_
    refine x_aload_n C (dq DX8_safe 11 rfl) rfl 0 rfl ?_
    refine x_iload_n C (dq DX8_safe 12 rfl) rfl 2 rfl ?_
    refine callX8_323 C (dq DX8_safe 13 rfl) h (by decide) (by decide) (Nat.le_of_ble_eq_true rfl) (fun a3 h => ?_)
    refine x_aload_n C (dq DX8_safe 14 rfl) rfl 0 rfl ?_
    refine getX8_57 C (dq DX8_safe 15 rfl) g0 ?_
    refine x_pc 26 rfl ?_
    refine x_bipush (v := 24) C (dq DX8_safe 16 rfl) (by decide) ?_
    refine x_iload_n C (dq DX8_safe 17 rfl) rfl 2 rfl ?_
    refine x_imul C (dq DX8_safe 18 rfl) ?_
    refine x_iconst (v := 2) C (dq DX8_safe 19 rfl) (by decide) ?_
    refine x_iadd C (dq DX8_safe 20 rfl) ?_
    refine x_pc 32 rfl ?_
    refine x_iald C (dq DX8_safe 21 rfl) h (fun a4 h => ?_)
    refine x_icmp_gt (tgt := 42) C (dq DX8_safe 22 rfl) (by decide) h (fun h => ?_) (fun h => ?_)
    · exact x_lv [0, 1, 2] rfl (tX8_safe_42 C g0 h kb kx)
    · refine x_iload_n C (dq DX8_safe 23 rfl) rfl 1 rfl ?_
      refine x_iconst (v := 1) C (dq DX8_safe 24 rfl) (by decide) ?_
      refine x_iload_n C (dq DX8_safe 25 rfl) rfl 2 rfl ?_
      refine x_pc 39 rfl ?_
      refine x_ishl C (dq DX8_safe 26 rfl) ?_
      refine x_ior C (dq DX8_safe 27 rfl) ?_
      refine x_istore_n (lv' := [(1, .int (x1 ||| (1 <<< (x2 &&& 31)))), (0, .ref (E.2.2 x0)), (2, .int x2)]) C (dq DX8_safe 28 rfl) rfl (by decide) rfl ?_
      exact x_lv [1, 0, 2] rfl (tX8_safe_42 C g0 h kb kx)
set_option maxHeartbeats 1000000 in
theorem mX8_safe {l : Launch} {E : Ev} {S : List Sh} {mm : Mm} {x0 : Nat} {r : Int32 × Mm} (h : fX8_safe S mm x0 = some r) : Ml l E S yX8_safe cX8_safe 3 (some .int) 1 21 [.ref (E.2.2 x0)] mm (some (.int r.1)) r.2 := by
  refine Ml.of (by decide +kernel) (Nat.le_of_ble_eq_true rfl) (fun G C hQ => ?_)
  have C : Cx G E cX8_safe 3 RX8 (some .int) 1 21 := C
  unfold fX8_safe at h
  obtain ⟨g0, h⟩ := gd_some h
  show WM G l E S 0 [(0, .ref (E.2.2 x0))] [] mm
  refine x_aload_n C (dq DX8_safe 0 rfl) rfl 0 rfl ?_
  refine x_iconst (v := 0) C (dq DX8_safe 1 rfl) (by decide) ?_
  refine putX8_115 C (dq DX8_safe 2 rfl) g0 h (fun m1 h => ?_)
  refine x_iconst (v := 0) C (dq DX8_safe 3 rfl) (by decide) ?_
  refine x_pc 6 rfl ?_
  refine x_istore_n (lv' := [(1, .int 0), (0, .ref (E.2.2 x0))]) C (dq DX8_safe 4 rfl) rfl (by decide) rfl ?_
  refine x_iconst (v := 0) C (dq DX8_safe 5 rfl) (by decide) ?_
  refine x_istore_n (lv' := [(2, .int 0), (1, .int 0), (0, .ref (E.2.2 x0))]) C (dq DX8_safe 6 rfl) rfl (by decide) rfl ?_
  refine x_lv [2, 1, 0] rfl ?_
  refine x_loop (s0 := (0, 0)) (fun s5 => WM G l E S 9 [(0, .ref (E.2.2 x0)), (1, .int s5.1), (2, .int s5.2)] [] m1) h (fun s5 r hb kb kx => tX8_safe_9 C g0 hb kb (fun y6 hy => ?_))
  have h := kx y6 hy
  clear kx kb hb hy
  refine x_iload_n C (dq DX8_safe 31 rfl) rfl 1 rfl ?_
  cases h
  exact x_iret C (dq DX8_safe 32 rfl) hQ
set_option maxHeartbeats 1000000 in
theorem qX8_safe {S : List Sh} {mm : Mm} {x0 : Nat} {r : Int32 × Mm} (h : fX8_safe S mm x0 = some r) : isC S x0 8 := by
  unfold fX8_safe at h
  exact (gd_some h).1
abbrev eX8_onWay : List (Nat × Instr × Nat) := [(0, .aload_n 0, 1), (1, .iconst 0, 1), (2, .putfield 115, 3), (5, .aload_n 0, 1), (6, .iload_n 1, 1), (7, .invokevirtual 316, 3), (10, .ifCond .eq 42, 3), (13, .aload_n 0, 1), (14, .getfield 57, 3), (17, .iload_n 1, 1), (18, .invokestatic 258, 3), (21, .iconst 4, 1), (22, .iadd, 1), (23, .iaload, 1), (24, .aload_n 0, 1), (25, .getfield 57, 3), (28, .iload_n 1, 1), (29, .invokestatic 258, 3), (32, .iconst 5, 1), (33, .iadd, 1), (34, .iaload, 1), (35, .isub, 1), (36, .aload_n 0, 1), (37, .getfield 57, 3), (40, .iload_n 1, 1), (41, .invokestatic 258, 3), (44, .bipush 11, 2), (46, .iadd, 1), (47, .iaload, 1), (48, .isub, 1), (49, .goto 4, 3), (52, .iconst (-1), 1), (53, .ireturn, 1)]
theorem DX8_onWay : (eX8_onWay.all fun q => decide (decode cX8_onWay q.1 = .ok q.2)) = true := by decide +kernel
def jX8_onWay_53 (S : List Sh) (mm : Mm) (x0 : Nat) (p0 : Int32) : Option (Int32 × Mm) := some (p0, mm)
def fX8_onWay (S : List Sh) (mm : Mm) (x0 : Nat) (x1 : Int32) : Option (Int32 × Mm) := gd S x0 8 (bd1 (some (u1 mm x0 0 0)) fun m1 => bd1 (fX8_isFlow S m1 x0 x1) fun a2 => if a2 = 0 then (jX8_onWay_53 S m1 x0 (-1)) else (bd1 (fX8_flowAt S m1 x1) fun a3 => bd1 (ldA S 0 m1 (rf S m1 x0 26) (a3 + 4)) fun a4 => bd1 (fX8_flowAt S m1 x1) fun a5 => bd1 (ldA S 0 m1 (rf S m1 x0 26) (a5 + 5)) fun a6 => bd1 (fX8_flowAt S m1 x1) fun a7 => bd1 (ldA S 0 m1 (rf S m1 x0 26) (a7 + 11)) fun a8 => jX8_onWay_53 S m1 x0 ((a4 - a6) - a8)))
set_option maxHeartbeats 1000000 in
theorem tX8_onWay_53 {G : Gt} {l : Launch} {E : Ev} {S : List Sh} {mm : Mm} {x0 : Nat} {p0 : Int32} {r : Int32 × Mm} (C : Cx G E cX8_onWay 2 RX8 (some .int) 2 41) (g0 : isC S x0 8) (h : jX8_onWay_53 S mm x0 p0 = some r) (hQ : RQ G E S (some (.int r.1)) r.2) : WM G l E S 53 [(0, .ref (E.2.2 x0))] [.int p0] mm := by
  unfold jX8_onWay_53 at h
  cases h
  exact x_iret C (dq DX8_onWay 32 rfl) hQ
set_option maxHeartbeats 1000000 in
theorem mX8_onWay {l : Launch} {E : Ev} {S : List Sh} {mm : Mm} {x0 : Nat} {x1 : Int32} {r : Int32 × Mm} (h : fX8_onWay S mm x0 x1 = some r) : Ml l E S yX8_onWay cX8_onWay 2 (some .int) 2 41 [.ref (E.2.2 x0), .int x1] mm (some (.int r.1)) r.2 := by
  refine Ml.of (by decide +kernel) (Nat.le_of_ble_eq_true rfl) (fun G C hQ => ?_)
  have C : Cx G E cX8_onWay 2 RX8 (some .int) 2 41 := C
  unfold fX8_onWay at h
  obtain ⟨g0, h⟩ := gd_some h
  show WM G l E S 0 [(0, .ref (E.2.2 x0)), (1, .int x1)] [] mm
  refine x_aload_n C (dq DX8_onWay 0 rfl) rfl 0 rfl ?_
  refine x_iconst (v := 0) C (dq DX8_onWay 1 rfl) (by decide) ?_
  refine putX8_115 C (dq DX8_onWay 2 rfl) g0 h (fun m1 h => ?_)
  refine x_aload_n C (dq DX8_onWay 3 rfl) rfl 0 rfl ?_
  refine x_pc 6 rfl ?_
  refine x_iload_n C (dq DX8_onWay 4 rfl) rfl 1 rfl ?_
  refine callX8_316 C (dq DX8_onWay 5 rfl) h (by decide) (by decide) (Nat.le_of_ble_eq_true rfl) (fun a2 h => ?_)
  refine x_if_eq (tgt := 52) C (dq DX8_onWay 6 rfl) (by decide) h (fun h => ?_) (fun h => ?_)
  · refine x_iconst (v := (-1)) C (dq DX8_onWay 31 rfl) (by decide) ?_
    exact x_lv [0] rfl (tX8_onWay_53 C g0 h hQ)
  · refine x_aload_n C (dq DX8_onWay 7 rfl) rfl 0 rfl ?_
    refine getX8_57 C (dq DX8_onWay 8 rfl) g0 ?_
    refine x_pc 17 rfl ?_
    refine x_iload_n C (dq DX8_onWay 9 rfl) rfl 1 rfl ?_
    refine callX8_258 C (dq DX8_onWay 10 rfl) h (by decide) (by decide) (Nat.le_of_ble_eq_true rfl) (fun a3 h => ?_)
    refine x_iconst (v := 4) C (dq DX8_onWay 11 rfl) (by decide) ?_
    refine x_iadd C (dq DX8_onWay 12 rfl) ?_
    refine x_iald C (dq DX8_onWay 13 rfl) h (fun a4 h => ?_)
    refine x_pc 24 rfl ?_
    refine x_aload_n C (dq DX8_onWay 14 rfl) rfl 0 rfl ?_
    refine getX8_57 C (dq DX8_onWay 15 rfl) g0 ?_
    refine x_iload_n C (dq DX8_onWay 16 rfl) rfl 1 rfl ?_
    refine callX8_258 C (dq DX8_onWay 17 rfl) h (by decide) (by decide) (Nat.le_of_ble_eq_true rfl) (fun a5 h => ?_)
    refine x_iconst (v := 5) C (dq DX8_onWay 18 rfl) (by decide) ?_
    refine x_pc 33 rfl ?_
    refine x_iadd C (dq DX8_onWay 19 rfl) ?_
    refine x_iald C (dq DX8_onWay 20 rfl) h (fun a6 h => ?_)
    refine x_isub C (dq DX8_onWay 21 rfl) ?_
    refine x_aload_n C (dq DX8_onWay 22 rfl) rfl 0 rfl ?_
    refine getX8_57 C (dq DX8_onWay 23 rfl) g0 ?_
    refine x_pc 40 rfl ?_
    refine x_iload_n C (dq DX8_onWay 24 rfl) rfl 1 rfl ?_
    refine callX8_258 C (dq DX8_onWay 25 rfl) h (by decide) (by decide) (Nat.le_of_ble_eq_true rfl) (fun a7 h => ?_)
    refine x_bipush (v := 11) C (dq DX8_onWay 26 rfl) (by decide) ?_
    refine x_iadd C (dq DX8_onWay 27 rfl) ?_
    refine x_iald C (dq DX8_onWay 28 rfl) h (fun a8 h => ?_)
    refine x_pc 48 rfl ?_
    refine x_isub C (dq DX8_onWay 29 rfl) ?_
    refine x_goto (tgt := 53) C (dq DX8_onWay 30 rfl) (by decide) ?_
    exact x_lv [0] rfl (tX8_onWay_53 C g0 h hQ)
set_option maxHeartbeats 1000000 in
theorem qX8_onWay {S : List Sh} {mm : Mm} {x0 : Nat} {x1 : Int32} {r : Int32 × Mm} (h : fX8_onWay S mm x0 x1 = some r) : isC S x0 8 := by
  unfold fX8_onWay at h
  exact (gd_some h).1
abbrev eX8_nextOf : List (Nat × Instr × Nat) := [(0, .aload_n 0, 1), (1, .iload_n 1, 1), (2, .iload_n 2, 1), (3, .invokevirtual 261, 3), (6, .istore_n 3, 1), (7, .iload_n 3, 1), (8, .iconst (-1), 1), (9, .if_icmp .eq 15, 3), (12, .iload_n 3, 1), (13, .aload_n 0, 1), (14, .getfield 47, 3), (17, .iload_n 1, 1), (18, .iaload, 1), (19, .iconst 1, 1), (20, .isub, 1), (21, .if_icmp .ne 7, 3), (24, .iconst (-1), 1), (25, .goto 15, 3), (28, .aload_n 0, 1), (29, .getfield 50, 3), (32, .iconst 5, 1), (33, .iload_n 1, 1), (34, .imul, 1), (35, .iload_n 3, 1), (36, .iadd, 1), (37, .iconst 1, 1), (38, .iadd, 1), (39, .iaload, 1), (40, .ireturn, 1)]
theorem DX8_nextOf : (eX8_nextOf.all fun q => decide (decode cX8_nextOf q.1 = .ok q.2)) = true := by decide +kernel
def jX8_nextOf_40 (S : List Sh) (mm : Mm) (x0 : Nat) (p0 : Int32) : Option (Int32) := some p0
def jX8_nextOf_24 (S : List Sh) (mm : Mm) (x0 : Nat)  : Option (Int32) := jX8_nextOf_40 S mm x0 (-1)
def fX8_nextOf (S : List Sh) (mm : Mm) (x0 : Nat) (x1 : Int32) (x2 : Int32) : Option (Int32) := gd S x0 8 (bd1 (fX8_hopOf S mm x0 x1 x2) fun a1 => if a1 = (-1) then (jX8_nextOf_24 S mm x0) else (bd1 (ldA S 0 mm (rf S mm x0 14) x1) fun a2 => if ¬ a1 = (a2 - 1) then (bd1 (ldA S 0 mm (rf S mm x0 15) (((5 * x1) + a1) + 1)) fun a3 => jX8_nextOf_40 S mm x0 a3) else (jX8_nextOf_24 S mm x0)))
set_option maxHeartbeats 1000000 in
theorem tX8_nextOf_40 {G : Gt} {l : Launch} {E : Ev} {S : List Sh} {mm : Mm} {x0 : Nat} {p0 : Int32} {r : Int32} (C : Cx G E cX8_nextOf 4 RX8 (some .int) 1 23) (g0 : isC S x0 8) (h : jX8_nextOf_40 S mm x0 p0 = some r) (hQ : RQ G E S (some (.int r)) mm) : WM G l E S 40 [(0, .ref (E.2.2 x0))] [.int p0] mm := by
  unfold jX8_nextOf_40 at h
  cases h
  exact x_iret C (dq DX8_nextOf 28 rfl) hQ
set_option maxHeartbeats 1000000 in
theorem tX8_nextOf_24 {G : Gt} {l : Launch} {E : Ev} {S : List Sh} {mm : Mm} {x0 : Nat}  {r : Int32} (C : Cx G E cX8_nextOf 4 RX8 (some .int) 1 23) (g0 : isC S x0 8) (h : jX8_nextOf_24 S mm x0 = some r) (hQ : RQ G E S (some (.int r)) mm) : WM G l E S 24 [(0, .ref (E.2.2 x0))] [] mm := by
  unfold jX8_nextOf_24 at h
  refine x_iconst (v := (-1)) C (dq DX8_nextOf 16 rfl) (by decide) ?_
  refine x_goto (tgt := 40) C (dq DX8_nextOf 17 rfl) (by decide) ?_
  exact x_lv [0] rfl (tX8_nextOf_40 C g0 h hQ)
set_option maxHeartbeats 1000000 in
theorem mX8_nextOf {l : Launch} {E : Ev} {S : List Sh} {mm : Mm} {x0 : Nat} {x1 : Int32} {x2 : Int32} {r : Int32} (h : fX8_nextOf S mm x0 x1 x2 = some r) : Ml l E S yX8_nextOf cX8_nextOf 4 (some .int) 1 23 [.ref (E.2.2 x0), .int x1, .int x2] mm (some (.int r)) mm := by
  refine Ml.of (by decide +kernel) (Nat.le_of_ble_eq_true rfl) (fun G C hQ => ?_)
  have C : Cx G E cX8_nextOf 4 RX8 (some .int) 1 23 := C
  unfold fX8_nextOf at h
  obtain ⟨g0, h⟩ := gd_some h
  show WM G l E S 0 [(0, .ref (E.2.2 x0)), (1, .int x1), (2, .int x2)] [] mm
  refine x_aload_n C (dq DX8_nextOf 0 rfl) rfl 0 rfl ?_
  refine x_iload_n C (dq DX8_nextOf 1 rfl) rfl 1 rfl ?_
  refine x_iload_n C (dq DX8_nextOf 2 rfl) rfl 2 rfl ?_
  refine callX8_261 C (dq DX8_nextOf 3 rfl) h (by decide) (by decide) (Nat.le_of_ble_eq_true rfl) (fun a1 h => ?_)
  refine x_pc 6 rfl ?_
  refine x_istore_n (lv' := [(3, .int a1), (0, .ref (E.2.2 x0)), (1, .int x1), (2, .int x2)]) C (dq DX8_nextOf 4 rfl) rfl (by decide) rfl ?_
  refine x_iload_n C (dq DX8_nextOf 5 rfl) rfl 0 rfl ?_
  refine x_iconst (v := (-1)) C (dq DX8_nextOf 6 rfl) (by decide) ?_
  refine x_icmp_eq (tgt := 24) C (dq DX8_nextOf 7 rfl) (by decide) h (fun h => ?_) (fun h => ?_)
  · exact x_lv [1] rfl (tX8_nextOf_24 C g0 h hQ)
  · refine x_iload_n C (dq DX8_nextOf 8 rfl) rfl 0 rfl ?_
    refine x_pc 13 rfl ?_
    refine x_aload_n C (dq DX8_nextOf 9 rfl) rfl 1 rfl ?_
    refine getX8_47 C (dq DX8_nextOf 10 rfl) g0 ?_
    refine x_iload_n C (dq DX8_nextOf 11 rfl) rfl 2 rfl ?_
    refine x_iald C (dq DX8_nextOf 12 rfl) h (fun a2 h => ?_)
    refine x_iconst (v := 1) C (dq DX8_nextOf 13 rfl) (by decide) ?_
    refine x_pc 20 rfl ?_
    refine x_isub C (dq DX8_nextOf 14 rfl) ?_
    refine x_icmp_ne (tgt := 28) C (dq DX8_nextOf 15 rfl) (by decide) h (fun h => ?_) (fun h => ?_)
    · refine x_aload_n C (dq DX8_nextOf 18 rfl) rfl 1 rfl ?_
      refine getX8_50 C (dq DX8_nextOf 19 rfl) g0 ?_
      refine x_iconst (v := 5) C (dq DX8_nextOf 20 rfl) (by decide) ?_
      refine x_pc 33 rfl ?_
      refine x_iload_n C (dq DX8_nextOf 21 rfl) rfl 2 rfl ?_
      refine x_imul C (dq DX8_nextOf 22 rfl) ?_
      refine x_iload_n C (dq DX8_nextOf 23 rfl) rfl 0 rfl ?_
      refine x_iadd C (dq DX8_nextOf 24 rfl) ?_
      refine x_iconst (v := 1) C (dq DX8_nextOf 25 rfl) (by decide) ?_
      refine x_pc 38 rfl ?_
      refine x_iadd C (dq DX8_nextOf 26 rfl) ?_
      refine x_iald C (dq DX8_nextOf 27 rfl) h (fun a3 h => ?_)
      exact x_lv [1] rfl (tX8_nextOf_40 C g0 h hQ)
    · exact x_lv [1] rfl (tX8_nextOf_24 C g0 h hQ)
set_option maxHeartbeats 1000000 in
theorem qX8_nextOf {S : List Sh} {mm : Mm} {x0 : Nat} {x1 : Int32} {x2 : Int32} {r : Int32} (h : fX8_nextOf S mm x0 x1 x2 = some r) : isC S x0 8 := by
  unfold fX8_nextOf at h
  exact (gd_some h).1
theorem callX8_326 {G : Gt} {l : Launch} {E : Ev} {S : List Sh} {cc : ByteArray} {nL : Nat} {rt : Option FieldType} {fr lo : Nat} {pc : Nat} {lv : List (Nat × Value)} {rest : List Value} {mm : Mm} {α : Type} {f : Int32 → Option α} {r : α} {o : Nat} {a0 : Int32} (C : Cx G E cc nL RX8 rt fr lo) (d : decode cc pc = .ok (.invokevirtual 326, 3)) (h : bd1 (fX8_asked S mm o a0) f = some r) (hfr : 1 ≤ fr) (hlo : 21 ≤ lo) (hrs : (rest.map fun v => v.category).sum ≤ 8) (k : ∀ v, f v = some r → WM G l E S (pc + 3) lv (.int v :: rest) mm) : WM G l E S pc lv (.int a0 :: .ref (E.2.2 o) :: rest) mm := by
  obtain ⟨v, hv, hf⟩ := bd1_some h
  exact x_callV (n := 1) (As := [.int a0]) (rest := rest) C (mX8_asked hv) (qX8_asked hv) (T := TX8) (N := 49) rfl (gmem 1339 (by decide +kernel) rfl) (gmem 1341 (by decide +kernel) rfl) (gmemS 86 (by decide +kernel) rfl) (gmem 9 (by decide +kernel) rfl) (gmem 1342 (by decide +kernel) rfl) (by decide +kernel) rfl hfr hlo hrs d rfl rfl (k v hf)
theorem callX8_329 {G : Gt} {l : Launch} {E : Ev} {S : List Sh} {cc : ByteArray} {nL : Nat} {rt : Option FieldType} {fr lo : Nat} {pc : Nat} {lv : List (Nat × Value)} {rest : List Value} {mm : Mm} {α : Type} {f : Int32 → Option α} {r : α} {o : Nat} {a0 : Int32} {a1 : Int32} (C : Cx G E cc nL RX8 rt fr lo) (d : decode cc pc = .ok (.invokevirtual 329, 3)) (h : bd1 (fX8_nextOf S mm o a0 a1) f = some r) (hfr : 2 ≤ fr) (hlo : 46 ≤ lo) (hrs : (rest.map fun v => v.category).sum ≤ 8) (k : ∀ v, f v = some r → WM G l E S (pc + 3) lv (.int v :: rest) mm) : WM G l E S pc lv (.int a1 :: .int a0 :: .ref (E.2.2 o) :: rest) mm := by
  obtain ⟨v, hv, hf⟩ := bd1_some h
  exact x_callV (n := 2) (As := [.int a0, .int a1]) (rest := rest) C (mX8_nextOf hv) (qX8_nextOf hv) (T := TX8) (N := 49) rfl (gmem 1331 (by decide +kernel) rfl) (gmem 1333 (by decide +kernel) rfl) (gmemS 84 (by decide +kernel) rfl) (gmem 9 (by decide +kernel) rfl) (gmem 1334 (by decide +kernel) rfl) (by decide +kernel) rfl hfr hlo hrs d rfl rfl (k v hf)
abbrev eX8_isWaiting : List (Nat × Instr × Nat) := [(0, .aload_n 0, 1), (1, .iload_n 1, 1), (2, .invokevirtual 326, 3), (5, .ifCond .eq 42, 3), (8, .aload_n 0, 1), (9, .getfield 57, 3), (12, .bipush 24, 2), (14, .iload_n 1, 1), (15, .imul, 1), (16, .bipush 15, 2), (18, .iadd, 1), (19, .iload_n 2, 1), (20, .iadd, 1), (21, .iaload, 1), (22, .ifCond .le 25, 3), (25, .aload_n 0, 1), (26, .iload_n 2, 1), (27, .iload_n 1, 1), (28, .invokevirtual 329, 3), (31, .iload_n 3, 1), (32, .if_icmp .ne 15, 3), (35, .aload_n 0, 1), (36, .iload_n 3, 1), (37, .invokevirtual 326, 3), (40, .ifCond .eq 7, 3), (43, .iconst 1, 1), (44, .goto 4, 3), (47, .iconst 0, 1), (48, .ireturn, 1)]
theorem DX8_isWaiting : (eX8_isWaiting.all fun q => decide (decode cX8_isWaiting q.1 = .ok q.2)) = true := by decide +kernel
def jX8_isWaiting_48 (S : List Sh) (mm : Mm) (x0 : Nat) (p0 : Int32) : Option (Int32) := bd1 (okZ p0) fun _ => some p0
def jX8_isWaiting_47 (S : List Sh) (mm : Mm) (x0 : Nat)  : Option (Int32) := jX8_isWaiting_48 S mm x0 0
def fX8_isWaiting (S : List Sh) (mm : Mm) (x0 : Nat) (x1 : Int32) (x2 : Int32) (x3 : Int32) : Option (Int32) := gd S x0 8 (bd1 (fX8_asked S mm x0 x1) fun a1 => if a1 = 0 then (jX8_isWaiting_47 S mm x0) else (bd1 (ldA S 0 mm (rf S mm x0 26) (((24 * x1) + 15) + x2)) fun a2 => if a2 ≤ 0 then (jX8_isWaiting_47 S mm x0) else (bd1 (fX8_nextOf S mm x0 x2 x1) fun a3 => if ¬ a3 = x3 then (jX8_isWaiting_47 S mm x0) else (bd1 (fX8_asked S mm x0 x3) fun a4 => if a4 = 0 then (jX8_isWaiting_47 S mm x0) else (jX8_isWaiting_48 S mm x0 1)))))
set_option maxHeartbeats 1000000 in
theorem tX8_isWaiting_48 {G : Gt} {l : Launch} {E : Ev} {S : List Sh} {mm : Mm} {x0 : Nat} {p0 : Int32} {r : Int32} (C : Cx G E cX8_isWaiting 4 RX8 (some .boolean) 2 46) (g0 : isC S x0 8) (h : jX8_isWaiting_48 S mm x0 p0 = some r) (hQ : RQ G E S (some (.int r)) mm) : WM G l E S 48 [(0, .ref (E.2.2 x0))] [.int p0] mm := by
  unfold jX8_isWaiting_48 at h
  refine x_zret C (dq DX8_isWaiting 28 rfl) h (fun h => ?_)
  cases h
  exact hQ
set_option maxHeartbeats 1000000 in
theorem tX8_isWaiting_47 {G : Gt} {l : Launch} {E : Ev} {S : List Sh} {mm : Mm} {x0 : Nat}  {r : Int32} (C : Cx G E cX8_isWaiting 4 RX8 (some .boolean) 2 46) (g0 : isC S x0 8) (h : jX8_isWaiting_47 S mm x0 = some r) (hQ : RQ G E S (some (.int r)) mm) : WM G l E S 47 [(0, .ref (E.2.2 x0))] [] mm := by
  unfold jX8_isWaiting_47 at h
  refine x_iconst (v := 0) C (dq DX8_isWaiting 27 rfl) (by decide) ?_
  exact x_lv [0] rfl (tX8_isWaiting_48 C g0 h hQ)
set_option maxHeartbeats 1000000 in
theorem mX8_isWaiting {l : Launch} {E : Ev} {S : List Sh} {mm : Mm} {x0 : Nat} {x1 : Int32} {x2 : Int32} {x3 : Int32} {r : Int32} (h : fX8_isWaiting S mm x0 x1 x2 x3 = some r) : Ml l E S yX8_isWaiting cX8_isWaiting 4 (some .boolean) 2 46 [.ref (E.2.2 x0), .int x1, .int x2, .int x3] mm (some (.int r)) mm := by
  refine Ml.of (by decide +kernel) (Nat.le_of_ble_eq_true rfl) (fun G C hQ => ?_)
  have C : Cx G E cX8_isWaiting 4 RX8 (some .boolean) 2 46 := C
  unfold fX8_isWaiting at h
  obtain ⟨g0, h⟩ := gd_some h
  show WM G l E S 0 [(0, .ref (E.2.2 x0)), (1, .int x1), (2, .int x2), (3, .int x3)] [] mm
  refine x_aload_n C (dq DX8_isWaiting 0 rfl) rfl 0 rfl ?_
  refine x_iload_n C (dq DX8_isWaiting 1 rfl) rfl 1 rfl ?_
  refine callX8_326 C (dq DX8_isWaiting 2 rfl) h (by decide) (by decide) (Nat.le_of_ble_eq_true rfl) (fun a1 h => ?_)
  refine x_if_eq (tgt := 47) C (dq DX8_isWaiting 3 rfl) (by decide) h (fun h => ?_) (fun h => ?_)
  · exact x_lv [0] rfl (tX8_isWaiting_47 C g0 h hQ)
  · refine x_pc 8 rfl ?_
    refine x_aload_n C (dq DX8_isWaiting 4 rfl) rfl 0 rfl ?_
    refine getX8_57 C (dq DX8_isWaiting 5 rfl) g0 ?_
    refine x_bipush (v := 24) C (dq DX8_isWaiting 6 rfl) (by decide) ?_
    refine x_iload_n C (dq DX8_isWaiting 7 rfl) rfl 1 rfl ?_
    refine x_imul C (dq DX8_isWaiting 8 rfl) ?_
    refine x_pc 16 rfl ?_
    refine x_bipush (v := 15) C (dq DX8_isWaiting 9 rfl) (by decide) ?_
    refine x_iadd C (dq DX8_isWaiting 10 rfl) ?_
    refine x_iload_n C (dq DX8_isWaiting 11 rfl) rfl 2 rfl ?_
    refine x_iadd C (dq DX8_isWaiting 12 rfl) ?_
    refine x_iald C (dq DX8_isWaiting 13 rfl) h (fun a2 h => ?_)
    refine x_pc 22 rfl ?_
    refine x_if_le (tgt := 47) C (dq DX8_isWaiting 14 rfl) (by decide) h (fun h => ?_) (fun h => ?_)
    · exact x_lv [0] rfl (tX8_isWaiting_47 C g0 h hQ)
    · refine x_aload_n C (dq DX8_isWaiting 15 rfl) rfl 0 rfl ?_
      refine x_iload_n C (dq DX8_isWaiting 16 rfl) rfl 2 rfl ?_
      refine x_iload_n C (dq DX8_isWaiting 17 rfl) rfl 1 rfl ?_
      refine callX8_329 C (dq DX8_isWaiting 18 rfl) h (by decide) (by decide) (Nat.le_of_ble_eq_true rfl) (fun a3 h => ?_)
      refine x_pc 31 rfl ?_
      refine x_iload_n C (dq DX8_isWaiting 19 rfl) rfl 3 rfl ?_
      refine x_icmp_ne (tgt := 47) C (dq DX8_isWaiting 20 rfl) (by decide) h (fun h => ?_) (fun h => ?_)
      · exact x_lv [0] rfl (tX8_isWaiting_47 C g0 h hQ)
      · refine x_aload_n C (dq DX8_isWaiting 21 rfl) rfl 0 rfl ?_
        refine x_iload_n C (dq DX8_isWaiting 22 rfl) rfl 3 rfl ?_
        refine callX8_326 C (dq DX8_isWaiting 23 rfl) h (by decide) (by decide) (Nat.le_of_ble_eq_true rfl) (fun a4 h => ?_)
        refine x_pc 40 rfl ?_
        refine x_if_eq (tgt := 47) C (dq DX8_isWaiting 24 rfl) (by decide) h (fun h => ?_) (fun h => ?_)
        · exact x_lv [0] rfl (tX8_isWaiting_47 C g0 h hQ)
        · refine x_iconst (v := 1) C (dq DX8_isWaiting 25 rfl) (by decide) ?_
          refine x_goto (tgt := 48) C (dq DX8_isWaiting 26 rfl) (by decide) ?_
          exact x_lv [0] rfl (tX8_isWaiting_48 C g0 h hQ)
set_option maxHeartbeats 1000000 in
theorem qX8_isWaiting {S : List Sh} {mm : Mm} {x0 : Nat} {x1 : Int32} {x2 : Int32} {x3 : Int32} {r : Int32} (h : fX8_isWaiting S mm x0 x1 x2 x3 = some r) : isC S x0 8 := by
  unfold fX8_isWaiting at h
  exact (gd_some h).1
theorem getX8_87 {G : Gt} {l : Launch} {E : Ev} {S : List Sh} {cc : ByteArray} {nL : Nat} {rt : Option FieldType} {fr lo : Nat} {pc : Nat} {lv : List (Nat × Value)} {st : List Value} {mm : Mm} {o : Nat} (C : Cx G E cc nL RX8 rt fr lo) (d : decode cc pc = .ok (.getfield 87, 3)) (hg : isC S o 8) (k : WM G l E S (pc + 3) lv (.ref (E.2.2 (rf S mm o 39)) :: st) mm) : WM G l E S pc lv (.ref (E.2.2 o) :: st) mm := x_get2 C hg (T := TX8) (N := 49) rfl inX8 (by decide) (i := 39) (gmem 904 (by decide +kernel) rfl) rfl rfl d k
theorem callX8_332 {G : Gt} {l : Launch} {E : Ev} {S : List Sh} {cc : ByteArray} {nL : Nat} {rt : Option FieldType} {fr lo : Nat} {pc : Nat} {lv : List (Nat × Value)} {rest : List Value} {mm : Mm} {α : Type} {f : Int32 → Option α} {r : α} {o : Nat} {a0 : Int32} {a1 : Int32} {a2 : Int32} (C : Cx G E cc nL RX8 rt fr lo) (d : decode cc pc = .ok (.invokevirtual 332, 3)) (h : bd1 (fX8_isWaiting S mm o a0 a1 a2) f = some r) (hfr : 3 ≤ fr) (hlo : 69 ≤ lo) (hrs : (rest.map fun v => v.category).sum ≤ 8) (k : ∀ v, f v = some r → WM G l E S (pc + 3) lv (.int v :: rest) mm) : WM G l E S pc lv (.int a2 :: .int a1 :: .int a0 :: .ref (E.2.2 o) :: rest) mm := by
  obtain ⟨v, hv, hf⟩ := bd1_some h
  exact x_callV (n := 3) (As := [.int a0, .int a1, .int a2]) (rest := rest) C (mX8_isWaiting hv) (qX8_isWaiting hv) (T := TX8) (N := 49) rfl (gmem 1335 (by decide +kernel) rfl) (gmem 1337 (by decide +kernel) rfl) (gmemS 85 (by decide +kernel) rfl) (gmem 9 (by decide +kernel) rfl) (gmem 1338 (by decide +kernel) rfl) (by decide +kernel) rfl hfr hlo hrs d rfl rfl (k v hf)
abbrev eX8_laysWaits : List (Nat × Instr × Nat) := [(0, .iconst 0, 1), (1, .istore_n 2, 1), (2, .iload_n 2, 1), (3, .aload_n 0, 1), (4, .invokevirtual 248, 3), (7, .if_icmp .ge 74, 3), (10, .aload_n 0, 1), (11, .getfield 87, 3), (14, .iload_n 2, 1), (15, .iconst 0, 1), (16, .iastore, 1), (17, .iconst 0, 1), (18, .istore_n 3, 1), (19, .iload_n 3, 1), (20, .aload_n 0, 1), (21, .invokevirtual 251, 3), (24, .if_icmp .ge 51, 3), (27, .aload_n 0, 1), (28, .iload_n 3, 1), (29, .iload_n 2, 1), (30, .invokevirtual 329, 3), (33, .istore 4, 2), (35, .iload 4, 2), (37, .iconst (-1), 1), (38, .if_icmp .eq 31, 3), (41, .iload_n 1, 1), (42, .ifCond .ne 14, 3), (45, .aload_n 0, 1), (46, .iload_n 2, 1), (47, .iload_n 3, 1), (48, .iload 4, 2), (50, .invokevirtual 332, 3), (53, .ifCond .eq 16, 3), (56, .aload_n 0, 1), (57, .getfield 87, 3), (60, .iload_n 2, 1), (61, .dup2, 1), (62, .iaload, 1), (63, .iconst 1, 1), (64, .iload 4, 2), (66, .ishl, 1), (67, .ior, 1), (68, .iastore, 1), (69, .iinc 3 1, 3), (72, .goto (-53), 3), (75, .iinc 2 1, 3), (78, .goto (-76), 3), (81, .return_, 1)]
theorem DX8_laysWaits : (eX8_laysWaits.all fun q => decide (decode cX8_laysWaits q.1 = .ok q.2)) = true := by decide +kernel
def jX8_laysWaits_69 (S : List Sh) (mm : Mm) (x0 : Nat) (x1 : Int32) (x2 : Int32) (x3 : Int32)  : Option ((Int32 × Mm) ⊕ (Mm)) := some (.inl (x3 + 1, mm))
def jX8_laysWaits_56 (S : List Sh) (mm : Mm) (x0 : Nat) (x1 : Int32) (x2 : Int32) (x3 : Int32) (x4 : Int32)  : Option ((Int32 × Mm) ⊕ (Mm)) := bd1 (ldA S 0 mm (rf S mm x0 39) x2) fun a5 => bd1 (stA S 0 mm (rf S mm x0 39) x2 (a5 ||| (1 <<< (x4 &&& 31)))) fun m6 => jX8_laysWaits_69 S m6 x0 x1 x2 x3
def bX8_laysWaits_19 (S : List Sh) (x0 : Nat) (x1 : Int32) (x2 : Int32) (x3 : Int32) (mm : Mm) : Option ((Int32 × Mm) ⊕ (Mm)) := bd1 (fX8_flows S mm x0) fun a3 => if a3 ≤ x3 then (some (.inr (mm))) else (bd1 (fX8_nextOf S mm x0 x3 x2) fun a4 => if a4 = (-1) then (jX8_laysWaits_69 S mm x0 x1 x2 x3) else (if ¬ x1 = 0 then (jX8_laysWaits_56 S mm x0 x1 x2 x3 a4) else (bd1 (fX8_isWaiting S mm x0 x2 x3 a4) fun a7 => if a7 = 0 then (jX8_laysWaits_69 S mm x0 x1 x2 x3) else (jX8_laysWaits_56 S mm x0 x1 x2 x3 a4))))
def bX8_laysWaits_2 (S : List Sh) (x0 : Nat) (x1 : Int32) (x2 : Int32) (mm : Mm) : Option ((Int32 × Mm) ⊕ (Mm)) := bd1 (fX8_links S mm x0) fun a1 => if a1 ≤ x2 then (some (.inr (mm))) else (bd1 (stA S 0 mm (rf S mm x0 39) x2 0) fun m2 => bd1 (lp (fun s8 => bX8_laysWaits_19 S x0 x1 x2 s8.1 s8.2) fu (0, m2)) fun y9 => some (.inl (x2 + 1, y9)))
def fX8_laysWaits (S : List Sh) (mm : Mm) (x0 : Nat) (x1 : Int32) : Option (Mm) := gd S x0 8 (bd1 (lp (fun s10 => bX8_laysWaits_2 S x0 x1 s10.1 s10.2) fu (0, mm)) fun y11 => some y11)
set_option maxHeartbeats 1000000 in
theorem tX8_laysWaits_69 {G : Gt} {l : Launch} {E : Ev} {S : List Sh} {mm : Mm} {x0 : Nat} {x1 : Int32} {x2 : Int32} {x3 : Int32}  {r : (Int32 × Mm) ⊕ (Mm)} (C : Cx G E cX8_laysWaits 5 RX8 none 3 69) (g0 : isC S x0 8) (h : jX8_laysWaits_69 S mm x0 x1 x2 x3 = some r) (kb : ∀ z : Int32 × Mm, r = .inl z → WM G l E S 19 [(0, .ref (E.2.2 x0)), (1, .int x1), (2, .int x2), (3, .int z.1)] [] z.2) (kx : ∀ z : Mm, r = .inr z → WM G l E S 75 [(0, .ref (E.2.2 x0)), (1, .int x1), (2, .int x2)] [] z) : WM G l E S 69 [(0, .ref (E.2.2 x0)), (1, .int x1), (2, .int x2), (3, .int x3)] [] mm := by
  unfold jX8_laysWaits_69 at h
  refine x_iinc (v := x3 + 1) (lv' := [(3, .int (x3 + 1)), (0, .ref (E.2.2 x0)), (1, .int x1), (2, .int x2)]) C (dq DX8_laysWaits 43 rfl) 3 rfl rfl (by decide) rfl ?_
  refine x_goto (tgt := 19) C (dq DX8_laysWaits 44 rfl) (by decide) ?_
  cases h
  exact x_lv [1, 2, 3, 0] rfl (kb (x3 + 1, mm) rfl)
set_option maxHeartbeats 1000000 in
theorem tX8_laysWaits_56 {G : Gt} {l : Launch} {E : Ev} {S : List Sh} {mm : Mm} {x0 : Nat} {x1 : Int32} {x2 : Int32} {x3 : Int32} {x4 : Int32}  {r : (Int32 × Mm) ⊕ (Mm)} (C : Cx G E cX8_laysWaits 5 RX8 none 3 69) (g0 : isC S x0 8) (h : jX8_laysWaits_56 S mm x0 x1 x2 x3 x4 = some r) (kb : ∀ z : Int32 × Mm, r = .inl z → WM G l E S 19 [(0, .ref (E.2.2 x0)), (1, .int x1), (2, .int x2), (3, .int z.1)] [] z.2) (kx : ∀ z : Mm, r = .inr z → WM G l E S 75 [(0, .ref (E.2.2 x0)), (1, .int x1), (2, .int x2)] [] z) : WM G l E S 56 [(0, .ref (E.2.2 x0)), (1, .int x1), (2, .int x2), (3, .int x3), (4, .int x4)] [] mm := by
  unfold jX8_laysWaits_56 at h
  refine x_aload_n C (dq DX8_laysWaits 33 rfl) rfl 0 rfl ?_
  refine getX8_87 C (dq DX8_laysWaits 34 rfl) g0 ?_
  refine x_iload_n C (dq DX8_laysWaits 35 rfl) rfl 2 rfl ?_
  refine x_dup2 C (dq DX8_laysWaits 36 rfl) rfl rfl ?_
  refine x_pc 62 rfl ?_
  refine x_iald C (dq DX8_laysWaits 37 rfl) h (fun a5 h => ?_)
  refine x_iconst (v := 1) C (dq DX8_laysWaits 38 rfl) (by decide) ?_
  refine x_iload C (dq DX8_laysWaits 39 rfl) 4 rfl ?_
  refine x_ishl C (dq DX8_laysWaits 40 rfl) ?_
  refine x_ior C (dq DX8_laysWaits 41 rfl) ?_
  refine x_pc 68 rfl ?_
  refine x_iast C (dq DX8_laysWaits 42 rfl) h (fun m6 h => ?_)
  exact x_lv [0, 1, 2, 3] rfl (tX8_laysWaits_69 C g0 h kb kx)
set_option maxHeartbeats 1000000 in
theorem tX8_laysWaits_19 {G : Gt} {l : Launch} {E : Ev} {S : List Sh} {x0 : Nat} {x1 : Int32} {x2 : Int32} {x3 : Int32} {mm : Mm} {r : (Int32 × Mm) ⊕ (Mm)} (C : Cx G E cX8_laysWaits 5 RX8 none 3 69) (g0 : isC S x0 8) (h : bX8_laysWaits_19 S x0 x1 x2 x3 mm = some r) (kb : ∀ z : Int32 × Mm, r = .inl z → WM G l E S 19 [(0, .ref (E.2.2 x0)), (1, .int x1), (2, .int x2), (3, .int z.1)] [] z.2) (kx : ∀ z : Mm, r = .inr z → WM G l E S 75 [(0, .ref (E.2.2 x0)), (1, .int x1), (2, .int x2)] [] z) : WM G l E S 19 [(0, .ref (E.2.2 x0)), (1, .int x1), (2, .int x2), (3, .int x3)] [] mm := by
  unfold bX8_laysWaits_19 at h
  refine x_iload_n C (dq DX8_laysWaits 13 rfl) rfl 3 rfl ?_
  refine x_aload_n C (dq DX8_laysWaits 14 rfl) rfl 0 rfl ?_
  refine callX8_251 C (dq DX8_laysWaits 15 rfl) h (by decide) (by decide) (Nat.le_of_ble_eq_true rfl) (fun a3 h => ?_)
  refine x_icmp_ge (tgt := 75) C (dq DX8_laysWaits 16 rfl) (by decide) h (fun h => ?_) (fun h => ?_)
  · cases h
    exact x_lv [0, 1, 2] rfl (kx (mm) rfl)
  · refine x_pc 27 rfl ?_
    refine x_aload_n C (dq DX8_laysWaits 17 rfl) rfl 0 rfl ?_
    refine x_iload_n C (dq DX8_laysWaits 18 rfl) rfl 3 rfl ?_
    refine x_iload_n C (dq DX8_laysWaits 19 rfl) rfl 2 rfl ?_
    refine callX8_329 C (dq DX8_laysWaits 20 rfl) h (by decide) (by decide) (Nat.le_of_ble_eq_true rfl) (fun a4 h => ?_)
    refine x_istore (lv' := [(4, .int a4), (0, .ref (E.2.2 x0)), (1, .int x1), (2, .int x2), (3, .int x3)]) C (dq DX8_laysWaits 21 rfl) (by decide) rfl ?_
    refine x_pc 35 rfl ?_
    refine x_iload C (dq DX8_laysWaits 22 rfl) 0 rfl ?_
    refine x_iconst (v := (-1)) C (dq DX8_laysWaits 23 rfl) (by decide) ?_
    refine x_icmp_eq (tgt := 69) C (dq DX8_laysWaits 24 rfl) (by decide) h (fun h => ?_) (fun h => ?_)
    · exact x_lv [1, 2, 3, 4] rfl (tX8_laysWaits_69 C g0 h kb kx)
    · refine x_iload_n C (dq DX8_laysWaits 25 rfl) rfl 2 rfl ?_
      refine x_if_ne (tgt := 56) C (dq DX8_laysWaits 26 rfl) (by decide) h (fun h => ?_) (fun h => ?_)
      · exact x_lv [1, 2, 3, 4, 0] rfl (tX8_laysWaits_56 C g0 h kb kx)
      · refine x_pc 45 rfl ?_
        refine x_aload_n C (dq DX8_laysWaits 27 rfl) rfl 1 rfl ?_
        refine x_iload_n C (dq DX8_laysWaits 28 rfl) rfl 3 rfl ?_
        refine x_iload_n C (dq DX8_laysWaits 29 rfl) rfl 4 rfl ?_
        refine x_iload C (dq DX8_laysWaits 30 rfl) 0 rfl ?_
        refine callX8_332 C (dq DX8_laysWaits 31 rfl) h (by decide) (by decide) (Nat.le_of_ble_eq_true rfl) (fun a7 h => ?_)
        refine x_pc 53 rfl ?_
        refine x_if_eq (tgt := 69) C (dq DX8_laysWaits 32 rfl) (by decide) h (fun h => ?_) (fun h => ?_)
        · exact x_lv [1, 2, 3, 4] rfl (tX8_laysWaits_69 C g0 h kb kx)
        · exact x_lv [1, 2, 3, 4, 0] rfl (tX8_laysWaits_56 C g0 h kb kx)
set_option maxHeartbeats 1000000 in
theorem tX8_laysWaits_2 {G : Gt} {l : Launch} {E : Ev} {S : List Sh} {x0 : Nat} {x1 : Int32} {x2 : Int32} {mm : Mm} {r : (Int32 × Mm) ⊕ (Mm)} (C : Cx G E cX8_laysWaits 5 RX8 none 3 69) (g0 : isC S x0 8) (h : bX8_laysWaits_2 S x0 x1 x2 mm = some r) (kb : ∀ z : Int32 × Mm, r = .inl z → WM G l E S 2 [(0, .ref (E.2.2 x0)), (1, .int x1), (2, .int z.1)] [] z.2) (kx : ∀ z : Mm, r = .inr z → WM G l E S 81 [(0, .ref (E.2.2 x0)), (1, .int x1)] [] z) : WM G l E S 2 [(0, .ref (E.2.2 x0)), (1, .int x1), (2, .int x2)] [] mm := by
  unfold bX8_laysWaits_2 at h
  refine x_iload_n C (dq DX8_laysWaits 2 rfl) rfl 2 rfl ?_
  refine x_aload_n C (dq DX8_laysWaits 3 rfl) rfl 0 rfl ?_
  refine callX8_248 C (dq DX8_laysWaits 4 rfl) h (by decide) (by decide) (Nat.le_of_ble_eq_true rfl) (fun a1 h => ?_)
  refine x_icmp_ge (tgt := 81) C (dq DX8_laysWaits 5 rfl) (by decide) h (fun h => ?_) (fun h => ?_)
  · cases h
    exact x_lv [0, 1] rfl (kx (mm) rfl)
  · refine x_pc 10 rfl ?_
    refine x_aload_n C (dq DX8_laysWaits 6 rfl) rfl 0 rfl ?_
    refine getX8_87 C (dq DX8_laysWaits 7 rfl) g0 ?_
    refine x_iload_n C (dq DX8_laysWaits 8 rfl) rfl 2 rfl ?_
    refine x_iconst (v := 0) C (dq DX8_laysWaits 9 rfl) (by decide) ?_
    refine x_iast C (dq DX8_laysWaits 10 rfl) h (fun m2 h => ?_)
    refine x_pc 17 rfl ?_
    refine x_iconst (v := 0) C (dq DX8_laysWaits 11 rfl) (by decide) ?_
    refine x_istore_n (lv' := [(3, .int 0), (0, .ref (E.2.2 x0)), (1, .int x1), (2, .int x2)]) C (dq DX8_laysWaits 12 rfl) rfl (by decide) rfl ?_
    refine x_lv [1, 2, 3, 0] rfl ?_
    refine x_loop (s0 := (0, m2)) (fun s8 => WM G l E S 19 [(0, .ref (E.2.2 x0)), (1, .int x1), (2, .int x2), (3, .int s8.1)] [] s8.2) h (fun s8 r hb kb kx => tX8_laysWaits_19 C g0 hb kb (fun y9 hy => ?_))
    have h := kx y9 hy
    clear kx kb hb hy
    refine x_iinc (v := x2 + 1) (lv' := [(2, .int (x2 + 1)), (0, .ref (E.2.2 x0)), (1, .int x1)]) C (dq DX8_laysWaits 45 rfl) 2 rfl rfl (by decide) rfl ?_
    refine x_goto (tgt := 2) C (dq DX8_laysWaits 46 rfl) (by decide) ?_
    cases h
    exact x_lv [1, 2, 0] rfl (kb (x2 + 1, y9) rfl)
set_option maxHeartbeats 1000000 in
theorem mX8_laysWaits {l : Launch} {E : Ev} {S : List Sh} {mm : Mm} {x0 : Nat} {x1 : Int32} {r : Mm} (h : fX8_laysWaits S mm x0 x1 = some r) : Ml l E S yX8_laysWaits cX8_laysWaits 5 none 3 69 [.ref (E.2.2 x0), .int x1] mm none r := by
  refine Ml.of (by decide +kernel) (Nat.le_of_ble_eq_true rfl) (fun G C hQ => ?_)
  have C : Cx G E cX8_laysWaits 5 RX8 none 3 69 := C
  unfold fX8_laysWaits at h
  obtain ⟨g0, h⟩ := gd_some h
  show WM G l E S 0 [(0, .ref (E.2.2 x0)), (1, .int x1)] [] mm
  refine x_iconst (v := 0) C (dq DX8_laysWaits 0 rfl) (by decide) ?_
  refine x_istore_n (lv' := [(2, .int 0), (0, .ref (E.2.2 x0)), (1, .int x1)]) C (dq DX8_laysWaits 1 rfl) rfl (by decide) rfl ?_
  refine x_lv [1, 2, 0] rfl ?_
  refine x_loop (s0 := (0, mm)) (fun s10 => WM G l E S 2 [(0, .ref (E.2.2 x0)), (1, .int x1), (2, .int s10.1)] [] s10.2) h (fun s10 r hb kb kx => tX8_laysWaits_2 C g0 hb kb (fun y11 hy => ?_))
  have h := kx y11 hy
  clear kx kb hb hy
  cases h
  exact x_vret C (dq DX8_laysWaits 47 rfl) hQ
set_option maxHeartbeats 1000000 in
theorem qX8_laysWaits {S : List Sh} {mm : Mm} {x0 : Nat} {x1 : Int32} {r : Mm} (h : fX8_laysWaits S mm x0 x1 = some r) : isC S x0 8 := by
  unfold fX8_laysWaits at h
  exact (gd_some h).1
