abbrev eX0_init : List (Nat × Instr × Nat) := [(0, .aload_n 0, 1), (1, .invokespecial 3, 3), (4, .aload_n 0, 1), (5, .sipush 5940, 3), (8, .newarray .int, 2), (10, .putfield 9, 3), (13, .aload_n 0, 1), (14, .sipush 297, 3), (17, .newarray .int, 2), (19, .putfield 15, 3), (22, .aload_n 0, 1), (23, .iconst 0, 1), (24, .putfield 18, 3), (27, .aload_n 0, 1), (28, .iconst 0, 1), (29, .putfield 22, 3), (32, .aload_n 0, 1), (33, .iconst 0, 1), (34, .putfield 26, 3), (37, .return_, 1)]
theorem DX0_init : (eX0_init.all fun q => decide (decode cX0_init q.1 = .ok q.2)) = true := by decide +kernel
def SX0 : List Sh := [.inr (0, [2, 3, 0, 0, 0]), .inl (0, 5940), .inl (0, 297)]
def ZX0 : Mm := z0
abbrev PX0 (E : Ev) (h0 : Nat) (mm : Mm) : va_W → Prop := fun w => ∃ q1 q2 : Nat, w = wd (E.1, E.2.1, adl [h0, q1, q2]) SX0 mm
set_option maxHeartbeats 4000000 in
theorem nX0 {l : Launch} {E : Ev} {h0 : Nat}  : Mc l E yX0_init cX0_init 1 1 12 2 6237 h0 (.inr (0, [.null, .null, .int 0, .int 0, .int 0])) (PX0 E h0 ZX0) := by
  refine Mc.of (by decide +kernel) (by decide) rfl (fun G C hI hRm hQ => ?_)
  have C : Cx G E cX0_init 1 RX0 none 1 12 := C
  refine y_aload_n C (dq DX0_init 0 rfl) rfl 0 rfl ?_
  refine y_objInit C (dq DX0_init 1 rfl) (gmem 150 (by decide +kernel) rfl) (gmem 27 (by decide +kernel) rfl) (gmem 28 (by decide +kernel) rfl) (by decide) (Nat.le_of_ble_eq_true rfl) ?_
  refine y_aload_n C (dq DX0_init 2 rfl) rfl 0 rfl ?_
  refine y_sipush (v := 5940) C (dq DX0_init 3 rfl) (by decide) ?_
  refine y_pc 8 rfl ?_
  refine y_newa0 (N := 5940) C (dq DX0_init 4 rfl) (gmem 97 (by decide +kernel) rfl) (by decide) (by decide) (Nat.le_of_ble_eq_true rfl) ⟨Nat.le_trans (Nat.le_of_ble_eq_true rfl) hRm.1, Nat.le_trans (Nat.le_of_ble_eq_true rfl) hRm.2⟩ (fun q1 => ?_)
  refine y_w [(h0, .inr (0, [.null, .null, .int 0, .int 0, .int 0])), (q1, .inl (E.2.1 0, 5940, .inl (fun _ => 0)))] rfl ?_
  refine y_cs (1, 5940) rfl ?_
  refine y_putF (q0 := 0) (ty := .array .int) C (dq DX0_init 5 rfl) rfl (T := TX0) (N := 5) rfl inX0 tyX0 tyX0_ok nmX0 (i := 0) (by decide) (gmem 151 (by decide +kernel) rfl) rfl (by decide +kernel) rfl rfl (Nat.le_of_ble_eq_true rfl) rfl hI rfl ?_
  refine y_w [(h0, .inr (0, [.ref q1, .null, .int 0, .int 0, .int 0])), (q1, .inl (E.2.1 0, 5940, .inl (fun _ => 0)))] rfl ?_
  refine y_aload_n C (dq DX0_init 6 rfl) rfl 0 rfl ?_
  refine y_sipush (v := 297) C (dq DX0_init 7 rfl) (by decide) ?_
  refine y_pc 17 rfl ?_
  refine y_newa0 (N := 297) C (dq DX0_init 8 rfl) (gmem 97 (by decide +kernel) rfl) (by decide) (by decide) (Nat.le_of_ble_eq_true rfl) ⟨Nat.le_trans (Nat.le_of_ble_eq_true rfl) hRm.1, Nat.le_trans (Nat.le_of_ble_eq_true rfl) hRm.2⟩ (fun q2 => ?_)
  refine y_w [(h0, .inr (0, [.ref q1, .null, .int 0, .int 0, .int 0])), (q1, .inl (E.2.1 0, 5940, .inl (fun _ => 0))), (q2, .inl (E.2.1 0, 297, .inl (fun _ => 0)))] rfl ?_
  refine y_cs (2, 6237) rfl ?_
  refine y_putF (q0 := 0) (ty := .array .int) C (dq DX0_init 9 rfl) rfl (T := TX0) (N := 5) rfl inX0 tyX0 tyX0_ok nmX0 (i := 1) (by decide) (gmem 152 (by decide +kernel) rfl) rfl (by decide +kernel) rfl rfl (Nat.le_of_ble_eq_true rfl) rfl hI rfl ?_
  refine y_w [(h0, .inr (0, [.ref q1, .ref q2, .int 0, .int 0, .int 0])), (q1, .inl (E.2.1 0, 5940, .inl (fun _ => 0))), (q2, .inl (E.2.1 0, 297, .inl (fun _ => 0)))] rfl ?_
  refine y_aload_n C (dq DX0_init 10 rfl) rfl 0 rfl ?_
  refine y_iconst (v := 0) C (dq DX0_init 11 rfl) (by decide) ?_
  refine y_pc 24 rfl ?_
  refine y_put (q0 := 0) (ty := .boolean) C (dq DX0_init 12 rfl) rfl (T := TX0) (N := 5) rfl inX0 tyX0 tyX0_ok nmX0 (i := 2) (by decide) (gmem 154 (by decide +kernel) rfl) rfl (by decide +kernel) rfl rfl (Nat.le_of_ble_eq_true rfl) rfl ?_
  refine y_w [(h0, .inr (0, [.ref q1, .ref q2, .int 0, .int 0, .int 0])), (q1, .inl (E.2.1 0, 5940, .inl (fun _ => 0))), (q2, .inl (E.2.1 0, 297, .inl (fun _ => 0)))] rfl ?_
  refine y_aload_n C (dq DX0_init 13 rfl) rfl 0 rfl ?_
  refine y_iconst (v := 0) C (dq DX0_init 14 rfl) (by decide) ?_
  refine y_put (q0 := 0) (ty := .int) C (dq DX0_init 15 rfl) rfl (T := TX0) (N := 5) rfl inX0 tyX0 tyX0_ok nmX0 (i := 3) (by decide) (gmem 156 (by decide +kernel) rfl) rfl (by decide +kernel) rfl rfl (Nat.le_of_ble_eq_true rfl) rfl ?_
  refine y_w [(h0, .inr (0, [.ref q1, .ref q2, .int 0, .int 0, .int 0])), (q1, .inl (E.2.1 0, 5940, .inl (fun _ => 0))), (q2, .inl (E.2.1 0, 297, .inl (fun _ => 0)))] rfl ?_
  refine y_pc 32 rfl ?_
  refine y_aload_n C (dq DX0_init 16 rfl) rfl 0 rfl ?_
  refine y_iconst (v := 0) C (dq DX0_init 17 rfl) (by decide) ?_
  refine y_put (q0 := 0) (ty := .int) C (dq DX0_init 18 rfl) rfl (T := TX0) (N := 5) rfl inX0 tyX0 tyX0_ok nmX0 (i := 4) (by decide) (gmem 158 (by decide +kernel) rfl) rfl (by decide +kernel) rfl rfl (Nat.le_of_ble_eq_true rfl) rfl ?_
  refine y_w [(h0, .inr (0, [.ref q1, .ref q2, .int 0, .int 0, .int 0])), (q1, .inl (E.2.1 0, 5940, .inl (fun _ => 0))), (q2, .inl (E.2.1 0, 297, .inl (fun _ => 0)))] rfl ?_
  exact y_vret C hQ rfl (dq DX0_init 19 rfl) ⟨q1, q2, rfl⟩
abbrev eX2_init : List (Nat × Instr × Nat) := [(0, .aload_n 0, 1), (1, .invokespecial 3, 3), (4, .aload_n 0, 1), (5, .iconst 0, 1), (6, .putfield 9, 3), (9, .aload_n 0, 1), (10, .iconst (-1), 1), (11, .putfield 15, 3), (14, .aload_n 0, 1), (15, .iconst 0, 1), (16, .putfield 18, 3), (19, .return_, 1)]
theorem DX2_init : (eX2_init.all fun q => decide (decode cX2_init q.1 = .ok q.2)) = true := by decide +kernel
def SX2 : List Sh := [.inr (2, [0, 0, 0])]
def ZX2 : Mm := u1 z0 0 1 (-1)
abbrev PX2 (E : Ev) (h0 : Nat) (mm : Mm) : va_W → Prop := fun w => w = wd (E.1, E.2.1, adl [h0]) SX2 mm
set_option maxHeartbeats 4000000 in
theorem nX2 {l : Launch} {E : Ev} {h0 : Nat}  : Mc l E yX2_init cX2_init 1 1 12 0 0 h0 (.inr (2, [.int 0, .int 0, .int 0])) (PX2 E h0 ZX2) := by
  refine Mc.of (by decide +kernel) (by decide) rfl (fun G C hI hRm hQ => ?_)
  have C : Cx G E cX2_init 1 RX2 none 1 12 := C
  refine y_aload_n C (dq DX2_init 0 rfl) rfl 0 rfl ?_
  refine y_objInit C (dq DX2_init 1 rfl) (gmem 68 (by decide +kernel) rfl) (gmem 27 (by decide +kernel) rfl) (gmem 28 (by decide +kernel) rfl) (by decide) (Nat.le_of_ble_eq_true rfl) ?_
  refine y_aload_n C (dq DX2_init 2 rfl) rfl 0 rfl ?_
  refine y_iconst (v := 0) C (dq DX2_init 3 rfl) (by decide) ?_
  refine y_pc 6 rfl ?_
  refine y_put (q0 := 0) (ty := .int) C (dq DX2_init 4 rfl) rfl (T := TX2) (N := 3) rfl inX2 tyX2 tyX2_ok nmX2 (i := 0) (by decide) (gmem 69 (by decide +kernel) rfl) rfl (by decide +kernel) rfl rfl (Nat.le_of_ble_eq_true rfl) rfl ?_
  refine y_w [(h0, .inr (2, [.int 0, .int 0, .int 0]))] rfl ?_
  refine y_aload_n C (dq DX2_init 5 rfl) rfl 0 rfl ?_
  refine y_iconst (v := (-1)) C (dq DX2_init 6 rfl) (by decide) ?_
  refine y_put (q0 := 0) (ty := .int) C (dq DX2_init 7 rfl) rfl (T := TX2) (N := 3) rfl inX2 tyX2 tyX2_ok nmX2 (i := 1) (by decide) (gmem 71 (by decide +kernel) rfl) rfl (by decide +kernel) rfl rfl (Nat.le_of_ble_eq_true rfl) rfl ?_
  refine y_w [(h0, .inr (2, [.int 0, .int (-1), .int 0]))] rfl ?_
  refine y_pc 14 rfl ?_
  refine y_aload_n C (dq DX2_init 8 rfl) rfl 0 rfl ?_
  refine y_iconst (v := 0) C (dq DX2_init 9 rfl) (by decide) ?_
  refine y_put (q0 := 0) (ty := .int) C (dq DX2_init 10 rfl) rfl (T := TX2) (N := 3) rfl inX2 tyX2 tyX2_ok nmX2 (i := 2) (by decide) (gmem 73 (by decide +kernel) rfl) rfl (by decide +kernel) rfl rfl (Nat.le_of_ble_eq_true rfl) rfl ?_
  refine y_w [(h0, .inr (2, [.int 0, .int (-1), .int 0]))] rfl ?_
  exact y_vret C hQ rfl (dq DX2_init 11 rfl) rfl
abbrev eX3_init : List (Nat × Instr × Nat) := [(0, .aload_n 0, 1), (1, .invokespecial 3, 3), (4, .aload_n 0, 1), (5, .bipush 8, 2), (7, .newarray .int, 2), (9, .putfield 9, 3), (12, .aload_n 0, 1), (13, .bipush 8, 2), (15, .newarray .boolean, 2), (17, .putfield 15, 3), (20, .aload_n 0, 1), (21, .iconst 1, 1), (22, .putfield 19, 3), (25, .aload_n 0, 1), (26, .iconst 0, 1), (27, .putfield 23, 3), (30, .aload_n 0, 1), (31, .iconst 0, 1), (32, .putfield 26, 3), (35, .return_, 1)]
theorem DX3_init : (eX3_init.all fun q => decide (decode cX3_init q.1 = .ok q.2)) = true := by decide +kernel
def SX3 : List Sh := [.inr (3, [2, 3, 0, 0, 0]), .inl (0, 8), .inl (2, 8)]
def ZX3 : Mm := u1 z0 0 2 1
abbrev PX3 (E : Ev) (h0 : Nat) (mm : Mm) : va_W → Prop := fun w => ∃ q1 q2 : Nat, w = wd (E.1, E.2.1, adl [h0, q1, q2]) SX3 mm
set_option maxHeartbeats 4000000 in
theorem nX3 {l : Launch} {E : Ev} {h0 : Nat}  : Mc l E yX3_init cX3_init 1 1 12 2 16 h0 (.inr (3, [.null, .null, .int 0, .int 0, .int 0])) (PX3 E h0 ZX3) := by
  refine Mc.of (by decide +kernel) (by decide) rfl (fun G C hI hRm hQ => ?_)
  have C : Cx G E cX3_init 1 RX3 none 1 12 := C
  refine y_aload_n C (dq DX3_init 0 rfl) rfl 0 rfl ?_
  refine y_objInit C (dq DX3_init 1 rfl) (gmem 127 (by decide +kernel) rfl) (gmem 27 (by decide +kernel) rfl) (gmem 28 (by decide +kernel) rfl) (by decide) (Nat.le_of_ble_eq_true rfl) ?_
  refine y_aload_n C (dq DX3_init 2 rfl) rfl 0 rfl ?_
  refine y_bipush (v := 8) C (dq DX3_init 3 rfl) (by decide) ?_
  refine y_pc 7 rfl ?_
  refine y_newa0 (N := 8) C (dq DX3_init 4 rfl) (gmem 97 (by decide +kernel) rfl) (by decide) (by decide) (Nat.le_of_ble_eq_true rfl) ⟨Nat.le_trans (Nat.le_of_ble_eq_true rfl) hRm.1, Nat.le_trans (Nat.le_of_ble_eq_true rfl) hRm.2⟩ (fun q1 => ?_)
  refine y_w [(h0, .inr (3, [.null, .null, .int 0, .int 0, .int 0])), (q1, .inl (E.2.1 0, 8, .inl (fun _ => 0)))] rfl ?_
  refine y_cs (1, 8) rfl ?_
  refine y_putF (q0 := 0) (ty := .array .int) C (dq DX3_init 5 rfl) rfl (T := TX3) (N := 5) rfl inX3 tyX3 tyX3_ok nmX3 (i := 0) (by decide) (gmem 128 (by decide +kernel) rfl) rfl (by decide +kernel) rfl rfl (Nat.le_of_ble_eq_true rfl) rfl hI rfl ?_
  refine y_w [(h0, .inr (3, [.ref q1, .null, .int 0, .int 0, .int 0])), (q1, .inl (E.2.1 0, 8, .inl (fun _ => 0)))] rfl ?_
  refine y_aload_n C (dq DX3_init 6 rfl) rfl 0 rfl ?_
  refine y_bipush (v := 8) C (dq DX3_init 7 rfl) (by decide) ?_
  refine y_pc 15 rfl ?_
  refine y_newa2 (N := 8) C (dq DX3_init 8 rfl) (gmem 144 (by decide +kernel) rfl) (by decide) (by decide) (Nat.le_of_ble_eq_true rfl) ⟨Nat.le_trans (Nat.le_of_ble_eq_true rfl) hRm.1, Nat.le_trans (Nat.le_of_ble_eq_true rfl) hRm.2⟩ (fun q2 => ?_)
  refine y_w [(h0, .inr (3, [.ref q1, .null, .int 0, .int 0, .int 0])), (q1, .inl (E.2.1 0, 8, .inl (fun _ => 0))), (q2, .inl (E.2.1 2, 8, .inl (fun _ => 0)))] rfl ?_
  refine y_cs (2, 16) rfl ?_
  refine y_putF (q0 := 0) (ty := .array .boolean) C (dq DX3_init 9 rfl) rfl (T := TX3) (N := 5) rfl inX3 tyX3 tyX3_ok nmX3 (i := 1) (by decide) (gmem 129 (by decide +kernel) rfl) rfl (by decide +kernel) rfl rfl (Nat.le_of_ble_eq_true rfl) rfl hI rfl ?_
  refine y_w [(h0, .inr (3, [.ref q1, .ref q2, .int 0, .int 0, .int 0])), (q1, .inl (E.2.1 0, 8, .inl (fun _ => 0))), (q2, .inl (E.2.1 2, 8, .inl (fun _ => 0)))] rfl ?_
  refine y_aload_n C (dq DX3_init 10 rfl) rfl 0 rfl ?_
  refine y_iconst (v := 1) C (dq DX3_init 11 rfl) (by decide) ?_
  refine y_pc 22 rfl ?_
  refine y_put (q0 := 0) (ty := .int) C (dq DX3_init 12 rfl) rfl (T := TX3) (N := 5) rfl inX3 tyX3 tyX3_ok nmX3 (i := 2) (by decide) (gmem 130 (by decide +kernel) rfl) rfl (by decide +kernel) rfl rfl (Nat.le_of_ble_eq_true rfl) rfl ?_
  refine y_w [(h0, .inr (3, [.ref q1, .ref q2, .int 1, .int 0, .int 0])), (q1, .inl (E.2.1 0, 8, .inl (fun _ => 0))), (q2, .inl (E.2.1 2, 8, .inl (fun _ => 0)))] rfl ?_
  refine y_aload_n C (dq DX3_init 13 rfl) rfl 0 rfl ?_
  refine y_iconst (v := 0) C (dq DX3_init 14 rfl) (by decide) ?_
  refine y_put (q0 := 0) (ty := .int) C (dq DX3_init 15 rfl) rfl (T := TX3) (N := 5) rfl inX3 tyX3 tyX3_ok nmX3 (i := 3) (by decide) (gmem 131 (by decide +kernel) rfl) rfl (by decide +kernel) rfl rfl (Nat.le_of_ble_eq_true rfl) rfl ?_
  refine y_w [(h0, .inr (3, [.ref q1, .ref q2, .int 1, .int 0, .int 0])), (q1, .inl (E.2.1 0, 8, .inl (fun _ => 0))), (q2, .inl (E.2.1 2, 8, .inl (fun _ => 0)))] rfl ?_
  refine y_pc 30 rfl ?_
  refine y_aload_n C (dq DX3_init 16 rfl) rfl 0 rfl ?_
  refine y_iconst (v := 0) C (dq DX3_init 17 rfl) (by decide) ?_
  refine y_put (q0 := 0) (ty := .int) C (dq DX3_init 18 rfl) rfl (T := TX3) (N := 5) rfl inX3 tyX3 tyX3_ok nmX3 (i := 4) (by decide) (gmem 132 (by decide +kernel) rfl) rfl (by decide +kernel) rfl rfl (Nat.le_of_ble_eq_true rfl) rfl ?_
  refine y_w [(h0, .inr (3, [.ref q1, .ref q2, .int 1, .int 0, .int 0])), (q1, .inl (E.2.1 0, 8, .inl (fun _ => 0))), (q2, .inl (E.2.1 2, 8, .inl (fun _ => 0)))] rfl ?_
  exact y_vret C hQ rfl (dq DX3_init 19 rfl) ⟨q1, q2, rfl⟩
abbrev eX4_init : List (Nat × Instr × Nat) := [(0, .aload_n 0, 1), (1, .invokespecial 3, 3), (4, .aload_n 0, 1), (5, .sipush 700, 3), (8, .newarray .byte, 2), (10, .putfield 9, 3), (13, .aload_n 0, 1), (14, .iconst 0, 1), (15, .putfield 15, 3), (18, .aload_n 0, 1), (19, .iconst 0, 1), (20, .putfield 19, 3), (23, .aload_n 0, 1), (24, .iconst 0, 1), (25, .putfield 22, 3), (28, .aload_n 0, 1), (29, .iconst 0, 1), (30, .putfield 25, 3), (33, .aload_n 0, 1), (34, .iconst 0, 1), (35, .putfield 28, 3), (38, .aload_n 0, 1), (39, .iconst 0, 1), (40, .putfield 31, 3), (43, .return_, 1)]
theorem DX4_init : (eX4_init.all fun q => decide (decode cX4_init q.1 = .ok q.2)) = true := by decide +kernel
def SX4 : List Sh := [.inr (4, [2, 0, 0, 0, 0, 0, 0]), .inl (1, 700)]
def ZX4 : Mm := z0
abbrev PX4 (E : Ev) (h0 : Nat) (mm : Mm) : va_W → Prop := fun w => ∃ q1 : Nat, w = wd (E.1, E.2.1, adl [h0, q1]) SX4 mm
set_option maxHeartbeats 4000000 in
theorem nX4 {l : Launch} {E : Ev} {h0 : Nat}  : Mc l E yX4_init cX4_init 1 1 12 1 700 h0 (.inr (4, [.null, .int 0, .int 0, .int 0, .int 0, .int 0, .int 0])) (PX4 E h0 ZX4) := by
  refine Mc.of (by decide +kernel) (by decide) rfl (fun G C hI hRm hQ => ?_)
  have C : Cx G E cX4_init 1 RX4 none 1 12 := C
  refine y_aload_n C (dq DX4_init 0 rfl) rfl 0 rfl ?_
  refine y_objInit C (dq DX4_init 1 rfl) (gmem 34 (by decide +kernel) rfl) (gmem 27 (by decide +kernel) rfl) (gmem 28 (by decide +kernel) rfl) (by decide) (Nat.le_of_ble_eq_true rfl) ?_
  refine y_aload_n C (dq DX4_init 2 rfl) rfl 0 rfl ?_
  refine y_sipush (v := 700) C (dq DX4_init 3 rfl) (by decide) ?_
  refine y_pc 8 rfl ?_
  refine y_newa1 (N := 700) C (dq DX4_init 4 rfl) (gmem 62 (by decide +kernel) rfl) (by decide) (by decide) (Nat.le_of_ble_eq_true rfl) ⟨Nat.le_trans (Nat.le_of_ble_eq_true rfl) hRm.1, Nat.le_trans (Nat.le_of_ble_eq_true rfl) hRm.2⟩ (fun q1 => ?_)
  refine y_w [(h0, .inr (4, [.null, .int 0, .int 0, .int 0, .int 0, .int 0, .int 0])), (q1, .inl (E.2.1 1, 700, .inl (fun _ => 0)))] rfl ?_
  refine y_cs (1, 700) rfl ?_
  refine y_putF (q0 := 0) (ty := .array .byte) C (dq DX4_init 5 rfl) rfl (T := TX4) (N := 7) rfl inX4 tyX4 tyX4_ok nmX4 (i := 0) (by decide) (gmem 35 (by decide +kernel) rfl) rfl (by decide +kernel) rfl rfl (Nat.le_of_ble_eq_true rfl) rfl hI rfl ?_
  refine y_w [(h0, .inr (4, [.ref q1, .int 0, .int 0, .int 0, .int 0, .int 0, .int 0])), (q1, .inl (E.2.1 1, 700, .inl (fun _ => 0)))] rfl ?_
  refine y_aload_n C (dq DX4_init 6 rfl) rfl 0 rfl ?_
  refine y_iconst (v := 0) C (dq DX4_init 7 rfl) (by decide) ?_
  refine y_pc 15 rfl ?_
  refine y_put (q0 := 0) (ty := .int) C (dq DX4_init 8 rfl) rfl (T := TX4) (N := 7) rfl inX4 tyX4 tyX4_ok nmX4 (i := 1) (by decide) (gmem 36 (by decide +kernel) rfl) rfl (by decide +kernel) rfl rfl (Nat.le_of_ble_eq_true rfl) rfl ?_
  refine y_w [(h0, .inr (4, [.ref q1, .int 0, .int 0, .int 0, .int 0, .int 0, .int 0])), (q1, .inl (E.2.1 1, 700, .inl (fun _ => 0)))] rfl ?_
  refine y_aload_n C (dq DX4_init 9 rfl) rfl 0 rfl ?_
  refine y_iconst (v := 0) C (dq DX4_init 10 rfl) (by decide) ?_
  refine y_put (q0 := 0) (ty := .int) C (dq DX4_init 11 rfl) rfl (T := TX4) (N := 7) rfl inX4 tyX4 tyX4_ok nmX4 (i := 2) (by decide) (gmem 38 (by decide +kernel) rfl) rfl (by decide +kernel) rfl rfl (Nat.le_of_ble_eq_true rfl) rfl ?_
  refine y_w [(h0, .inr (4, [.ref q1, .int 0, .int 0, .int 0, .int 0, .int 0, .int 0])), (q1, .inl (E.2.1 1, 700, .inl (fun _ => 0)))] rfl ?_
  refine y_pc 23 rfl ?_
  refine y_aload_n C (dq DX4_init 12 rfl) rfl 0 rfl ?_
  refine y_iconst (v := 0) C (dq DX4_init 13 rfl) (by decide) ?_
  refine y_put (q0 := 0) (ty := .int) C (dq DX4_init 14 rfl) rfl (T := TX4) (N := 7) rfl inX4 tyX4 tyX4_ok nmX4 (i := 3) (by decide) (gmem 39 (by decide +kernel) rfl) rfl (by decide +kernel) rfl rfl (Nat.le_of_ble_eq_true rfl) rfl ?_
  refine y_w [(h0, .inr (4, [.ref q1, .int 0, .int 0, .int 0, .int 0, .int 0, .int 0])), (q1, .inl (E.2.1 1, 700, .inl (fun _ => 0)))] rfl ?_
  refine y_aload_n C (dq DX4_init 15 rfl) rfl 0 rfl ?_
  refine y_pc 29 rfl ?_
  refine y_iconst (v := 0) C (dq DX4_init 16 rfl) (by decide) ?_
  refine y_put (q0 := 0) (ty := .int) C (dq DX4_init 17 rfl) rfl (T := TX4) (N := 7) rfl inX4 tyX4 tyX4_ok nmX4 (i := 4) (by decide) (gmem 40 (by decide +kernel) rfl) rfl (by decide +kernel) rfl rfl (Nat.le_of_ble_eq_true rfl) rfl ?_
  refine y_w [(h0, .inr (4, [.ref q1, .int 0, .int 0, .int 0, .int 0, .int 0, .int 0])), (q1, .inl (E.2.1 1, 700, .inl (fun _ => 0)))] rfl ?_
  refine y_aload_n C (dq DX4_init 18 rfl) rfl 0 rfl ?_
  refine y_iconst (v := 0) C (dq DX4_init 19 rfl) (by decide) ?_
  refine y_pc 35 rfl ?_
  refine y_put (q0 := 0) (ty := .int) C (dq DX4_init 20 rfl) rfl (T := TX4) (N := 7) rfl inX4 tyX4 tyX4_ok nmX4 (i := 5) (by decide) (gmem 43 (by decide +kernel) rfl) rfl (by decide +kernel) rfl rfl (Nat.le_of_ble_eq_true rfl) rfl ?_
  refine y_w [(h0, .inr (4, [.ref q1, .int 0, .int 0, .int 0, .int 0, .int 0, .int 0])), (q1, .inl (E.2.1 1, 700, .inl (fun _ => 0)))] rfl ?_
  refine y_aload_n C (dq DX4_init 21 rfl) rfl 0 rfl ?_
  refine y_iconst (v := 0) C (dq DX4_init 22 rfl) (by decide) ?_
  refine y_put (q0 := 0) (ty := .int) C (dq DX4_init 23 rfl) rfl (T := TX4) (N := 7) rfl inX4 tyX4 tyX4_ok nmX4 (i := 6) (by decide) (gmem 45 (by decide +kernel) rfl) rfl (by decide +kernel) rfl rfl (Nat.le_of_ble_eq_true rfl) rfl ?_
  refine y_w [(h0, .inr (4, [.ref q1, .int 0, .int 0, .int 0, .int 0, .int 0, .int 0])), (q1, .inl (E.2.1 1, 700, .inl (fun _ => 0)))] rfl ?_
  refine y_pc 43 rfl ?_
  exact y_vret C hQ rfl (dq DX4_init 24 rfl) ⟨q1, rfl⟩
abbrev eX5_init : List (Nat × Instr × Nat) := [(0, .aload_n 0, 1), (1, .invokespecial 3, 3), (4, .aload_n 0, 1), (5, .bipush 80, 2), (7, .newarray .int, 2), (9, .putfield 9, 3), (12, .aload_n 0, 1), (13, .bipush 8, 2), (15, .newarray .int, 2), (17, .putfield 15, 3), (20, .aload_n 0, 1), (21, .bipush 8, 2), (23, .newarray .int, 2), (25, .putfield 18, 3), (28, .return_, 1)]
theorem DX5_init : (eX5_init.all fun q => decide (decode cX5_init q.1 = .ok q.2)) = true := by decide +kernel
def SX5 : List Sh := [.inr (5, [2, 3, 4]), .inl (0, 80), .inl (0, 8), .inl (0, 8)]
def ZX5 : Mm := z0
abbrev PX5 (E : Ev) (h0 : Nat) (mm : Mm) : va_W → Prop := fun w => ∃ q1 q2 q3 : Nat, w = wd (E.1, E.2.1, adl [h0, q1, q2, q3]) SX5 mm
set_option maxHeartbeats 4000000 in
theorem nX5 {l : Launch} {E : Ev} {h0 : Nat}  : Mc l E yX5_init cX5_init 1 1 12 3 96 h0 (.inr (5, [.null, .null, .null])) (PX5 E h0 ZX5) := by
  refine Mc.of (by decide +kernel) (by decide) rfl (fun G C hI hRm hQ => ?_)
  have C : Cx G E cX5_init 1 RX5 none 1 12 := C
  refine y_aload_n C (dq DX5_init 0 rfl) rfl 0 rfl ?_
  refine y_objInit C (dq DX5_init 1 rfl) (gmem 86 (by decide +kernel) rfl) (gmem 27 (by decide +kernel) rfl) (gmem 28 (by decide +kernel) rfl) (by decide) (Nat.le_of_ble_eq_true rfl) ?_
  refine y_aload_n C (dq DX5_init 2 rfl) rfl 0 rfl ?_
  refine y_bipush (v := 80) C (dq DX5_init 3 rfl) (by decide) ?_
  refine y_pc 7 rfl ?_
  refine y_newa0 (N := 80) C (dq DX5_init 4 rfl) (gmem 97 (by decide +kernel) rfl) (by decide) (by decide) (Nat.le_of_ble_eq_true rfl) ⟨Nat.le_trans (Nat.le_of_ble_eq_true rfl) hRm.1, Nat.le_trans (Nat.le_of_ble_eq_true rfl) hRm.2⟩ (fun q1 => ?_)
  refine y_w [(h0, .inr (5, [.null, .null, .null])), (q1, .inl (E.2.1 0, 80, .inl (fun _ => 0)))] rfl ?_
  refine y_cs (1, 80) rfl ?_
  refine y_putF (q0 := 0) (ty := .array .int) C (dq DX5_init 5 rfl) rfl (T := TX5) (N := 3) rfl inX5 tyX5 tyX5_ok nmX5 (i := 0) (by decide) (gmem 87 (by decide +kernel) rfl) rfl (by decide +kernel) rfl rfl (Nat.le_of_ble_eq_true rfl) rfl hI rfl ?_
  refine y_w [(h0, .inr (5, [.ref q1, .null, .null])), (q1, .inl (E.2.1 0, 80, .inl (fun _ => 0)))] rfl ?_
  refine y_aload_n C (dq DX5_init 6 rfl) rfl 0 rfl ?_
  refine y_bipush (v := 8) C (dq DX5_init 7 rfl) (by decide) ?_
  refine y_pc 15 rfl ?_
  refine y_newa0 (N := 8) C (dq DX5_init 8 rfl) (gmem 97 (by decide +kernel) rfl) (by decide) (by decide) (Nat.le_of_ble_eq_true rfl) ⟨Nat.le_trans (Nat.le_of_ble_eq_true rfl) hRm.1, Nat.le_trans (Nat.le_of_ble_eq_true rfl) hRm.2⟩ (fun q2 => ?_)
  refine y_w [(h0, .inr (5, [.ref q1, .null, .null])), (q1, .inl (E.2.1 0, 80, .inl (fun _ => 0))), (q2, .inl (E.2.1 0, 8, .inl (fun _ => 0)))] rfl ?_
  refine y_cs (2, 88) rfl ?_
  refine y_putF (q0 := 0) (ty := .array .int) C (dq DX5_init 9 rfl) rfl (T := TX5) (N := 3) rfl inX5 tyX5 tyX5_ok nmX5 (i := 1) (by decide) (gmem 88 (by decide +kernel) rfl) rfl (by decide +kernel) rfl rfl (Nat.le_of_ble_eq_true rfl) rfl hI rfl ?_
  refine y_w [(h0, .inr (5, [.ref q1, .ref q2, .null])), (q1, .inl (E.2.1 0, 80, .inl (fun _ => 0))), (q2, .inl (E.2.1 0, 8, .inl (fun _ => 0)))] rfl ?_
  refine y_aload_n C (dq DX5_init 10 rfl) rfl 0 rfl ?_
  refine y_bipush (v := 8) C (dq DX5_init 11 rfl) (by decide) ?_
  refine y_pc 23 rfl ?_
  refine y_newa0 (N := 8) C (dq DX5_init 12 rfl) (gmem 97 (by decide +kernel) rfl) (by decide) (by decide) (Nat.le_of_ble_eq_true rfl) ⟨Nat.le_trans (Nat.le_of_ble_eq_true rfl) hRm.1, Nat.le_trans (Nat.le_of_ble_eq_true rfl) hRm.2⟩ (fun q3 => ?_)
  refine y_w [(h0, .inr (5, [.ref q1, .ref q2, .null])), (q1, .inl (E.2.1 0, 80, .inl (fun _ => 0))), (q2, .inl (E.2.1 0, 8, .inl (fun _ => 0))), (q3, .inl (E.2.1 0, 8, .inl (fun _ => 0)))] rfl ?_
  refine y_cs (3, 96) rfl ?_
  refine y_putF (q0 := 0) (ty := .array .int) C (dq DX5_init 13 rfl) rfl (T := TX5) (N := 3) rfl inX5 tyX5 tyX5_ok nmX5 (i := 2) (by decide) (gmem 89 (by decide +kernel) rfl) rfl (by decide +kernel) rfl rfl (Nat.le_of_ble_eq_true rfl) rfl hI rfl ?_
  refine y_w [(h0, .inr (5, [.ref q1, .ref q2, .ref q3])), (q1, .inl (E.2.1 0, 80, .inl (fun _ => 0))), (q2, .inl (E.2.1 0, 8, .inl (fun _ => 0))), (q3, .inl (E.2.1 0, 8, .inl (fun _ => 0)))] rfl ?_
  exact y_vret C hQ rfl (dq DX5_init 14 rfl) ⟨q1, q2, q3, rfl⟩
abbrev eX6_init : List (Nat × Instr × Nat) := [(0, .aload_n 0, 1), (1, .invokespecial 3, 3), (4, .aload_n 0, 1), (5, .bipush 10, 2), (7, .newarray .int, 2), (9, .putfield 9, 3), (12, .aload_n 0, 1), (13, .bipush 10, 2), (15, .newarray .int, 2), (17, .putfield 15, 3), (20, .aload_n 0, 1), (21, .bipush 10, 2), (23, .newarray .int, 2), (25, .putfield 18, 3), (28, .aload_n 0, 1), (29, .bipush 10, 2), (31, .newarray .int, 2), (33, .putfield 21, 3), (36, .aload_n 0, 1), (37, .iconst 0, 1), (38, .putfield 24, 3), (41, .return_, 1)]
theorem DX6_init : (eX6_init.all fun q => decide (decode cX6_init q.1 = .ok q.2)) = true := by decide +kernel
def SX6 : List Sh := [.inr (6, [2, 3, 4, 5, 0]), .inl (0, 10), .inl (0, 10), .inl (0, 10), .inl (0, 10)]
def ZX6 : Mm := z0
abbrev PX6 (E : Ev) (h0 : Nat) (mm : Mm) : va_W → Prop := fun w => ∃ q1 q2 q3 q4 : Nat, w = wd (E.1, E.2.1, adl [h0, q1, q2, q3, q4]) SX6 mm
set_option maxHeartbeats 4000000 in
theorem nX6 {l : Launch} {E : Ev} {h0 : Nat}  : Mc l E yX6_init cX6_init 1 1 12 4 40 h0 (.inr (6, [.null, .null, .null, .null, .int 0])) (PX6 E h0 ZX6) := by
  refine Mc.of (by decide +kernel) (by decide) rfl (fun G C hI hRm hQ => ?_)
  have C : Cx G E cX6_init 1 RX6 none 1 12 := C
  refine y_aload_n C (dq DX6_init 0 rfl) rfl 0 rfl ?_
  refine y_objInit C (dq DX6_init 1 rfl) (gmem 103 (by decide +kernel) rfl) (gmem 27 (by decide +kernel) rfl) (gmem 28 (by decide +kernel) rfl) (by decide) (Nat.le_of_ble_eq_true rfl) ?_
  refine y_aload_n C (dq DX6_init 2 rfl) rfl 0 rfl ?_
  refine y_bipush (v := 10) C (dq DX6_init 3 rfl) (by decide) ?_
  refine y_pc 7 rfl ?_
  refine y_newa0 (N := 10) C (dq DX6_init 4 rfl) (gmem 97 (by decide +kernel) rfl) (by decide) (by decide) (Nat.le_of_ble_eq_true rfl) ⟨Nat.le_trans (Nat.le_of_ble_eq_true rfl) hRm.1, Nat.le_trans (Nat.le_of_ble_eq_true rfl) hRm.2⟩ (fun q1 => ?_)
  refine y_w [(h0, .inr (6, [.null, .null, .null, .null, .int 0])), (q1, .inl (E.2.1 0, 10, .inl (fun _ => 0)))] rfl ?_
  refine y_cs (1, 10) rfl ?_
  refine y_putF (q0 := 0) (ty := .array .int) C (dq DX6_init 5 rfl) rfl (T := TX6) (N := 5) rfl inX6 tyX6 tyX6_ok nmX6 (i := 0) (by decide) (gmem 104 (by decide +kernel) rfl) rfl (by decide +kernel) rfl rfl (Nat.le_of_ble_eq_true rfl) rfl hI rfl ?_
  refine y_w [(h0, .inr (6, [.ref q1, .null, .null, .null, .int 0])), (q1, .inl (E.2.1 0, 10, .inl (fun _ => 0)))] rfl ?_
  refine y_aload_n C (dq DX6_init 6 rfl) rfl 0 rfl ?_
  refine y_bipush (v := 10) C (dq DX6_init 7 rfl) (by decide) ?_
  refine y_pc 15 rfl ?_
  refine y_newa0 (N := 10) C (dq DX6_init 8 rfl) (gmem 97 (by decide +kernel) rfl) (by decide) (by decide) (Nat.le_of_ble_eq_true rfl) ⟨Nat.le_trans (Nat.le_of_ble_eq_true rfl) hRm.1, Nat.le_trans (Nat.le_of_ble_eq_true rfl) hRm.2⟩ (fun q2 => ?_)
  refine y_w [(h0, .inr (6, [.ref q1, .null, .null, .null, .int 0])), (q1, .inl (E.2.1 0, 10, .inl (fun _ => 0))), (q2, .inl (E.2.1 0, 10, .inl (fun _ => 0)))] rfl ?_
  refine y_cs (2, 20) rfl ?_
  refine y_putF (q0 := 0) (ty := .array .int) C (dq DX6_init 9 rfl) rfl (T := TX6) (N := 5) rfl inX6 tyX6 tyX6_ok nmX6 (i := 1) (by decide) (gmem 105 (by decide +kernel) rfl) rfl (by decide +kernel) rfl rfl (Nat.le_of_ble_eq_true rfl) rfl hI rfl ?_
  refine y_w [(h0, .inr (6, [.ref q1, .ref q2, .null, .null, .int 0])), (q1, .inl (E.2.1 0, 10, .inl (fun _ => 0))), (q2, .inl (E.2.1 0, 10, .inl (fun _ => 0)))] rfl ?_
  refine y_aload_n C (dq DX6_init 10 rfl) rfl 0 rfl ?_
  refine y_bipush (v := 10) C (dq DX6_init 11 rfl) (by decide) ?_
  refine y_pc 23 rfl ?_
  refine y_newa0 (N := 10) C (dq DX6_init 12 rfl) (gmem 97 (by decide +kernel) rfl) (by decide) (by decide) (Nat.le_of_ble_eq_true rfl) ⟨Nat.le_trans (Nat.le_of_ble_eq_true rfl) hRm.1, Nat.le_trans (Nat.le_of_ble_eq_true rfl) hRm.2⟩ (fun q3 => ?_)
  refine y_w [(h0, .inr (6, [.ref q1, .ref q2, .null, .null, .int 0])), (q1, .inl (E.2.1 0, 10, .inl (fun _ => 0))), (q2, .inl (E.2.1 0, 10, .inl (fun _ => 0))), (q3, .inl (E.2.1 0, 10, .inl (fun _ => 0)))] rfl ?_
  refine y_cs (3, 30) rfl ?_
  refine y_putF (q0 := 0) (ty := .array .int) C (dq DX6_init 13 rfl) rfl (T := TX6) (N := 5) rfl inX6 tyX6 tyX6_ok nmX6 (i := 2) (by decide) (gmem 106 (by decide +kernel) rfl) rfl (by decide +kernel) rfl rfl (Nat.le_of_ble_eq_true rfl) rfl hI rfl ?_
  refine y_w [(h0, .inr (6, [.ref q1, .ref q2, .ref q3, .null, .int 0])), (q1, .inl (E.2.1 0, 10, .inl (fun _ => 0))), (q2, .inl (E.2.1 0, 10, .inl (fun _ => 0))), (q3, .inl (E.2.1 0, 10, .inl (fun _ => 0)))] rfl ?_
  refine y_aload_n C (dq DX6_init 14 rfl) rfl 0 rfl ?_
  refine y_bipush (v := 10) C (dq DX6_init 15 rfl) (by decide) ?_
  refine y_pc 31 rfl ?_
  refine y_newa0 (N := 10) C (dq DX6_init 16 rfl) (gmem 97 (by decide +kernel) rfl) (by decide) (by decide) (Nat.le_of_ble_eq_true rfl) ⟨Nat.le_trans (Nat.le_of_ble_eq_true rfl) hRm.1, Nat.le_trans (Nat.le_of_ble_eq_true rfl) hRm.2⟩ (fun q4 => ?_)
  refine y_w [(h0, .inr (6, [.ref q1, .ref q2, .ref q3, .null, .int 0])), (q1, .inl (E.2.1 0, 10, .inl (fun _ => 0))), (q2, .inl (E.2.1 0, 10, .inl (fun _ => 0))), (q3, .inl (E.2.1 0, 10, .inl (fun _ => 0))), (q4, .inl (E.2.1 0, 10, .inl (fun _ => 0)))] rfl ?_
  refine y_cs (4, 40) rfl ?_
  refine y_putF (q0 := 0) (ty := .array .int) C (dq DX6_init 17 rfl) rfl (T := TX6) (N := 5) rfl inX6 tyX6 tyX6_ok nmX6 (i := 3) (by decide) (gmem 107 (by decide +kernel) rfl) rfl (by decide +kernel) rfl rfl (Nat.le_of_ble_eq_true rfl) rfl hI rfl ?_
  refine y_w [(h0, .inr (6, [.ref q1, .ref q2, .ref q3, .ref q4, .int 0])), (q1, .inl (E.2.1 0, 10, .inl (fun _ => 0))), (q2, .inl (E.2.1 0, 10, .inl (fun _ => 0))), (q3, .inl (E.2.1 0, 10, .inl (fun _ => 0))), (q4, .inl (E.2.1 0, 10, .inl (fun _ => 0)))] rfl ?_
  refine y_aload_n C (dq DX6_init 18 rfl) rfl 0 rfl ?_
  refine y_iconst (v := 0) C (dq DX6_init 19 rfl) (by decide) ?_
  refine y_pc 38 rfl ?_
  refine y_put (q0 := 0) (ty := .int) C (dq DX6_init 20 rfl) rfl (T := TX6) (N := 5) rfl inX6 tyX6 tyX6_ok nmX6 (i := 4) (by decide) (gmem 109 (by decide +kernel) rfl) rfl (by decide +kernel) rfl rfl (Nat.le_of_ble_eq_true rfl) rfl ?_
  refine y_w [(h0, .inr (6, [.ref q1, .ref q2, .ref q3, .ref q4, .int 0])), (q1, .inl (E.2.1 0, 10, .inl (fun _ => 0))), (q2, .inl (E.2.1 0, 10, .inl (fun _ => 0))), (q3, .inl (E.2.1 0, 10, .inl (fun _ => 0))), (q4, .inl (E.2.1 0, 10, .inl (fun _ => 0)))] rfl ?_
  exact y_vret C hQ rfl (dq DX6_init 21 rfl) ⟨q1, q2, q3, q4, rfl⟩
abbrev eX1_init : List (Nat × Instr × Nat) := [(0, .aload_n 0, 1), (1, .invokespecial 3, 3), (4, .aload_n 0, 1), (5, .bipush 10, 2), (7, .newarray .int, 2), (9, .putfield 9, 3), (12, .aload_n 0, 1), (13, .bipush 10, 2), (15, .newarray .int, 2), (17, .putfield 15, 3), (20, .aload_n 0, 1), (21, .bipush 10, 2), (23, .newarray .int, 2), (25, .putfield 18, 3), (28, .aload_n 0, 1), (29, .bipush 8, 2), (31, .newarray .int, 2), (33, .putfield 21, 3), (36, .aload_n 0, 1), (37, .bipush 8, 2), (39, .newarray .int, 2), (41, .putfield 24, 3), (44, .aload_n 0, 1), (45, .bipush 40, 2), (47, .newarray .int, 2), (49, .putfield 27, 3), (52, .aload_n 0, 1), (53, .bipush 80, 2), (55, .newarray .int, 2), (57, .putfield 30, 3), (60, .aload_n 0, 1), (61, .bipush 80, 2), (63, .newarray .int, 2), (65, .putfield 33, 3), (68, .aload_n 0, 1), (69, .bipush 7, 2), (71, .newarray .int, 2), (73, .putfield 36, 3), (76, .aload_n 0, 1), (77, .invokevirtual 39, 3), (80, .return_, 1)]
theorem DX1_init : (eX1_init.all fun q => decide (decode cX1_init q.1 = .ok q.2)) = true := by decide +kernel
def SX1 : List Sh := [.inr (1, [2, 3, 4, 5, 6, 7, 8, 9, 10, 0, 0]), .inl (0, 10), .inl (0, 10), .inl (0, 10), .inl (0, 8), .inl (0, 8), .inl (0, 40), .inl (0, 80), .inl (0, 80), .inl (0, 7)]
def ZX1 : Mm := z0
abbrev PX1 (E : Ev) (h0 : Nat) (mm : Mm) : va_W → Prop := fun w => ∃ q1 q2 q3 q4 q5 q6 q7 q8 q9 : Nat, w = wd (E.1, E.2.1, adl [h0, q1, q2, q3, q4, q5, q6, q7, q8, q9]) SX1 mm
set_option maxHeartbeats 4000000 in
theorem nX1 {l : Launch} {E : Ev} {h0 : Nat} {m1 : Mm} (h1 : fX1_clear SX1 ZX1 0 = some m1) : Mc l E yX1_init cX1_init 1 1 21 9 253 h0 (.inr (1, [.null, .null, .null, .null, .null, .null, .null, .null, .null, .int 0, .int 0])) (PX1 E h0 m1) := by
  refine Mc.of (by decide +kernel) (by decide) rfl (fun G C hI hRm hQ => ?_)
  have C : Cx G E cX1_init 1 RX1 none 1 21 := C
  refine y_aload_n C (dq DX1_init 0 rfl) rfl 0 rfl ?_
  refine y_objInit C (dq DX1_init 1 rfl) (gmem 175 (by decide +kernel) rfl) (gmem 27 (by decide +kernel) rfl) (gmem 28 (by decide +kernel) rfl) (by decide) (Nat.le_of_ble_eq_true rfl) ?_
  refine y_aload_n C (dq DX1_init 2 rfl) rfl 0 rfl ?_
  refine y_bipush (v := 10) C (dq DX1_init 3 rfl) (by decide) ?_
  refine y_pc 7 rfl ?_
  refine y_newa0 (N := 10) C (dq DX1_init 4 rfl) (gmem 97 (by decide +kernel) rfl) (by decide) (by decide) (Nat.le_of_ble_eq_true rfl) ⟨Nat.le_trans (Nat.le_of_ble_eq_true rfl) hRm.1, Nat.le_trans (Nat.le_of_ble_eq_true rfl) hRm.2⟩ (fun q1 => ?_)
  refine y_w [(h0, .inr (1, [.null, .null, .null, .null, .null, .null, .null, .null, .null, .int 0, .int 0])), (q1, .inl (E.2.1 0, 10, .inl (fun _ => 0)))] rfl ?_
  refine y_cs (1, 10) rfl ?_
  refine y_putF (q0 := 0) (ty := .array .int) C (dq DX1_init 5 rfl) rfl (T := TX1) (N := 11) rfl inX1 tyX1 tyX1_ok nmX1 (i := 0) (by decide) (gmem 180 (by decide +kernel) rfl) rfl (by decide +kernel) rfl rfl (Nat.le_of_ble_eq_true rfl) rfl hI rfl ?_
  refine y_w [(h0, .inr (1, [.ref q1, .null, .null, .null, .null, .null, .null, .null, .null, .int 0, .int 0])), (q1, .inl (E.2.1 0, 10, .inl (fun _ => 0)))] rfl ?_
  refine y_aload_n C (dq DX1_init 6 rfl) rfl 0 rfl ?_
  refine y_bipush (v := 10) C (dq DX1_init 7 rfl) (by decide) ?_
  refine y_pc 15 rfl ?_
  refine y_newa0 (N := 10) C (dq DX1_init 8 rfl) (gmem 97 (by decide +kernel) rfl) (by decide) (by decide) (Nat.le_of_ble_eq_true rfl) ⟨Nat.le_trans (Nat.le_of_ble_eq_true rfl) hRm.1, Nat.le_trans (Nat.le_of_ble_eq_true rfl) hRm.2⟩ (fun q2 => ?_)
  refine y_w [(h0, .inr (1, [.ref q1, .null, .null, .null, .null, .null, .null, .null, .null, .int 0, .int 0])), (q1, .inl (E.2.1 0, 10, .inl (fun _ => 0))), (q2, .inl (E.2.1 0, 10, .inl (fun _ => 0)))] rfl ?_
  refine y_cs (2, 20) rfl ?_
  refine y_putF (q0 := 0) (ty := .array .int) C (dq DX1_init 9 rfl) rfl (T := TX1) (N := 11) rfl inX1 tyX1 tyX1_ok nmX1 (i := 1) (by decide) (gmem 182 (by decide +kernel) rfl) rfl (by decide +kernel) rfl rfl (Nat.le_of_ble_eq_true rfl) rfl hI rfl ?_
  refine y_w [(h0, .inr (1, [.ref q1, .ref q2, .null, .null, .null, .null, .null, .null, .null, .int 0, .int 0])), (q1, .inl (E.2.1 0, 10, .inl (fun _ => 0))), (q2, .inl (E.2.1 0, 10, .inl (fun _ => 0)))] rfl ?_
  refine y_aload_n C (dq DX1_init 10 rfl) rfl 0 rfl ?_
  refine y_bipush (v := 10) C (dq DX1_init 11 rfl) (by decide) ?_
  refine y_pc 23 rfl ?_
  refine y_newa0 (N := 10) C (dq DX1_init 12 rfl) (gmem 97 (by decide +kernel) rfl) (by decide) (by decide) (Nat.le_of_ble_eq_true rfl) ⟨Nat.le_trans (Nat.le_of_ble_eq_true rfl) hRm.1, Nat.le_trans (Nat.le_of_ble_eq_true rfl) hRm.2⟩ (fun q3 => ?_)
  refine y_w [(h0, .inr (1, [.ref q1, .ref q2, .null, .null, .null, .null, .null, .null, .null, .int 0, .int 0])), (q1, .inl (E.2.1 0, 10, .inl (fun _ => 0))), (q2, .inl (E.2.1 0, 10, .inl (fun _ => 0))), (q3, .inl (E.2.1 0, 10, .inl (fun _ => 0)))] rfl ?_
  refine y_cs (3, 30) rfl ?_
  refine y_putF (q0 := 0) (ty := .array .int) C (dq DX1_init 13 rfl) rfl (T := TX1) (N := 11) rfl inX1 tyX1 tyX1_ok nmX1 (i := 2) (by decide) (gmem 187 (by decide +kernel) rfl) rfl (by decide +kernel) rfl rfl (Nat.le_of_ble_eq_true rfl) rfl hI rfl ?_
  refine y_w [(h0, .inr (1, [.ref q1, .ref q2, .ref q3, .null, .null, .null, .null, .null, .null, .int 0, .int 0])), (q1, .inl (E.2.1 0, 10, .inl (fun _ => 0))), (q2, .inl (E.2.1 0, 10, .inl (fun _ => 0))), (q3, .inl (E.2.1 0, 10, .inl (fun _ => 0)))] rfl ?_
  refine y_aload_n C (dq DX1_init 14 rfl) rfl 0 rfl ?_
  refine y_bipush (v := 8) C (dq DX1_init 15 rfl) (by decide) ?_
  refine y_pc 31 rfl ?_
  refine y_newa0 (N := 8) C (dq DX1_init 16 rfl) (gmem 97 (by decide +kernel) rfl) (by decide) (by decide) (Nat.le_of_ble_eq_true rfl) ⟨Nat.le_trans (Nat.le_of_ble_eq_true rfl) hRm.1, Nat.le_trans (Nat.le_of_ble_eq_true rfl) hRm.2⟩ (fun q4 => ?_)
  refine y_w [(h0, .inr (1, [.ref q1, .ref q2, .ref q3, .null, .null, .null, .null, .null, .null, .int 0, .int 0])), (q1, .inl (E.2.1 0, 10, .inl (fun _ => 0))), (q2, .inl (E.2.1 0, 10, .inl (fun _ => 0))), (q3, .inl (E.2.1 0, 10, .inl (fun _ => 0))), (q4, .inl (E.2.1 0, 8, .inl (fun _ => 0)))] rfl ?_
  refine y_cs (4, 38) rfl ?_
  refine y_putF (q0 := 0) (ty := .array .int) C (dq DX1_init 17 rfl) rfl (T := TX1) (N := 11) rfl inX1 tyX1 tyX1_ok nmX1 (i := 3) (by decide) (gmem 190 (by decide +kernel) rfl) rfl (by decide +kernel) rfl rfl (Nat.le_of_ble_eq_true rfl) rfl hI rfl ?_
  refine y_w [(h0, .inr (1, [.ref q1, .ref q2, .ref q3, .ref q4, .null, .null, .null, .null, .null, .int 0, .int 0])), (q1, .inl (E.2.1 0, 10, .inl (fun _ => 0))), (q2, .inl (E.2.1 0, 10, .inl (fun _ => 0))), (q3, .inl (E.2.1 0, 10, .inl (fun _ => 0))), (q4, .inl (E.2.1 0, 8, .inl (fun _ => 0)))] rfl ?_
  refine y_aload_n C (dq DX1_init 18 rfl) rfl 0 rfl ?_
  refine y_bipush (v := 8) C (dq DX1_init 19 rfl) (by decide) ?_
  refine y_pc 39 rfl ?_
  refine y_newa0 (N := 8) C (dq DX1_init 20 rfl) (gmem 97 (by decide +kernel) rfl) (by decide) (by decide) (Nat.le_of_ble_eq_true rfl) ⟨Nat.le_trans (Nat.le_of_ble_eq_true rfl) hRm.1, Nat.le_trans (Nat.le_of_ble_eq_true rfl) hRm.2⟩ (fun q5 => ?_)
  refine y_w [(h0, .inr (1, [.ref q1, .ref q2, .ref q3, .ref q4, .null, .null, .null, .null, .null, .int 0, .int 0])), (q1, .inl (E.2.1 0, 10, .inl (fun _ => 0))), (q2, .inl (E.2.1 0, 10, .inl (fun _ => 0))), (q3, .inl (E.2.1 0, 10, .inl (fun _ => 0))), (q4, .inl (E.2.1 0, 8, .inl (fun _ => 0))), (q5, .inl (E.2.1 0, 8, .inl (fun _ => 0)))] rfl ?_
  refine y_cs (5, 46) rfl ?_
  refine y_putF (q0 := 0) (ty := .array .int) C (dq DX1_init 21 rfl) rfl (T := TX1) (N := 11) rfl inX1 tyX1 tyX1_ok nmX1 (i := 4) (by decide) (gmem 192 (by decide +kernel) rfl) rfl (by decide +kernel) rfl rfl (Nat.le_of_ble_eq_true rfl) rfl hI rfl ?_
  refine y_w [(h0, .inr (1, [.ref q1, .ref q2, .ref q3, .ref q4, .ref q5, .null, .null, .null, .null, .int 0, .int 0])), (q1, .inl (E.2.1 0, 10, .inl (fun _ => 0))), (q2, .inl (E.2.1 0, 10, .inl (fun _ => 0))), (q3, .inl (E.2.1 0, 10, .inl (fun _ => 0))), (q4, .inl (E.2.1 0, 8, .inl (fun _ => 0))), (q5, .inl (E.2.1 0, 8, .inl (fun _ => 0)))] rfl ?_
  refine y_aload_n C (dq DX1_init 22 rfl) rfl 0 rfl ?_
  refine y_bipush (v := 40) C (dq DX1_init 23 rfl) (by decide) ?_
  refine y_pc 47 rfl ?_
  refine y_newa0 (N := 40) C (dq DX1_init 24 rfl) (gmem 97 (by decide +kernel) rfl) (by decide) (by decide) (Nat.le_of_ble_eq_true rfl) ⟨Nat.le_trans (Nat.le_of_ble_eq_true rfl) hRm.1, Nat.le_trans (Nat.le_of_ble_eq_true rfl) hRm.2⟩ (fun q6 => ?_)
  refine y_w [(h0, .inr (1, [.ref q1, .ref q2, .ref q3, .ref q4, .ref q5, .null, .null, .null, .null, .int 0, .int 0])), (q1, .inl (E.2.1 0, 10, .inl (fun _ => 0))), (q2, .inl (E.2.1 0, 10, .inl (fun _ => 0))), (q3, .inl (E.2.1 0, 10, .inl (fun _ => 0))), (q4, .inl (E.2.1 0, 8, .inl (fun _ => 0))), (q5, .inl (E.2.1 0, 8, .inl (fun _ => 0))), (q6, .inl (E.2.1 0, 40, .inl (fun _ => 0)))] rfl ?_
  refine y_cs (6, 86) rfl ?_
  refine y_putF (q0 := 0) (ty := .array .int) C (dq DX1_init 25 rfl) rfl (T := TX1) (N := 11) rfl inX1 tyX1 tyX1_ok nmX1 (i := 5) (by decide) (gmem 194 (by decide +kernel) rfl) rfl (by decide +kernel) rfl rfl (Nat.le_of_ble_eq_true rfl) rfl hI rfl ?_
  refine y_w [(h0, .inr (1, [.ref q1, .ref q2, .ref q3, .ref q4, .ref q5, .ref q6, .null, .null, .null, .int 0, .int 0])), (q1, .inl (E.2.1 0, 10, .inl (fun _ => 0))), (q2, .inl (E.2.1 0, 10, .inl (fun _ => 0))), (q3, .inl (E.2.1 0, 10, .inl (fun _ => 0))), (q4, .inl (E.2.1 0, 8, .inl (fun _ => 0))), (q5, .inl (E.2.1 0, 8, .inl (fun _ => 0))), (q6, .inl (E.2.1 0, 40, .inl (fun _ => 0)))] rfl ?_
  refine y_aload_n C (dq DX1_init 26 rfl) rfl 0 rfl ?_
  refine y_bipush (v := 80) C (dq DX1_init 27 rfl) (by decide) ?_
  refine y_pc 55 rfl ?_
  refine y_newa0 (N := 80) C (dq DX1_init 28 rfl) (gmem 97 (by decide +kernel) rfl) (by decide) (by decide) (Nat.le_of_ble_eq_true rfl) ⟨Nat.le_trans (Nat.le_of_ble_eq_true rfl) hRm.1, Nat.le_trans (Nat.le_of_ble_eq_true rfl) hRm.2⟩ (fun q7 => ?_)
  refine y_w [(h0, .inr (1, [.ref q1, .ref q2, .ref q3, .ref q4, .ref q5, .ref q6, .null, .null, .null, .int 0, .int 0])), (q1, .inl (E.2.1 0, 10, .inl (fun _ => 0))), (q2, .inl (E.2.1 0, 10, .inl (fun _ => 0))), (q3, .inl (E.2.1 0, 10, .inl (fun _ => 0))), (q4, .inl (E.2.1 0, 8, .inl (fun _ => 0))), (q5, .inl (E.2.1 0, 8, .inl (fun _ => 0))), (q6, .inl (E.2.1 0, 40, .inl (fun _ => 0))), (q7, .inl (E.2.1 0, 80, .inl (fun _ => 0)))] rfl ?_
  refine y_cs (7, 166) rfl ?_
  refine y_putF (q0 := 0) (ty := .array .int) C (dq DX1_init 29 rfl) rfl (T := TX1) (N := 11) rfl inX1 tyX1 tyX1_ok nmX1 (i := 6) (by decide) (gmem 196 (by decide +kernel) rfl) rfl (by decide +kernel) rfl rfl (Nat.le_of_ble_eq_true rfl) rfl hI rfl ?_
  refine y_w [(h0, .inr (1, [.ref q1, .ref q2, .ref q3, .ref q4, .ref q5, .ref q6, .ref q7, .null, .null, .int 0, .int 0])), (q1, .inl (E.2.1 0, 10, .inl (fun _ => 0))), (q2, .inl (E.2.1 0, 10, .inl (fun _ => 0))), (q3, .inl (E.2.1 0, 10, .inl (fun _ => 0))), (q4, .inl (E.2.1 0, 8, .inl (fun _ => 0))), (q5, .inl (E.2.1 0, 8, .inl (fun _ => 0))), (q6, .inl (E.2.1 0, 40, .inl (fun _ => 0))), (q7, .inl (E.2.1 0, 80, .inl (fun _ => 0)))] rfl ?_
  refine y_aload_n C (dq DX1_init 30 rfl) rfl 0 rfl ?_
  refine y_bipush (v := 80) C (dq DX1_init 31 rfl) (by decide) ?_
  refine y_pc 63 rfl ?_
  refine y_newa0 (N := 80) C (dq DX1_init 32 rfl) (gmem 97 (by decide +kernel) rfl) (by decide) (by decide) (Nat.le_of_ble_eq_true rfl) ⟨Nat.le_trans (Nat.le_of_ble_eq_true rfl) hRm.1, Nat.le_trans (Nat.le_of_ble_eq_true rfl) hRm.2⟩ (fun q8 => ?_)
  refine y_w [(h0, .inr (1, [.ref q1, .ref q2, .ref q3, .ref q4, .ref q5, .ref q6, .ref q7, .null, .null, .int 0, .int 0])), (q1, .inl (E.2.1 0, 10, .inl (fun _ => 0))), (q2, .inl (E.2.1 0, 10, .inl (fun _ => 0))), (q3, .inl (E.2.1 0, 10, .inl (fun _ => 0))), (q4, .inl (E.2.1 0, 8, .inl (fun _ => 0))), (q5, .inl (E.2.1 0, 8, .inl (fun _ => 0))), (q6, .inl (E.2.1 0, 40, .inl (fun _ => 0))), (q7, .inl (E.2.1 0, 80, .inl (fun _ => 0))), (q8, .inl (E.2.1 0, 80, .inl (fun _ => 0)))] rfl ?_
  refine y_cs (8, 246) rfl ?_
  refine y_putF (q0 := 0) (ty := .array .int) C (dq DX1_init 33 rfl) rfl (T := TX1) (N := 11) rfl inX1 tyX1 tyX1_ok nmX1 (i := 7) (by decide) (gmem 200 (by decide +kernel) rfl) rfl (by decide +kernel) rfl rfl (Nat.le_of_ble_eq_true rfl) rfl hI rfl ?_
  refine y_w [(h0, .inr (1, [.ref q1, .ref q2, .ref q3, .ref q4, .ref q5, .ref q6, .ref q7, .ref q8, .null, .int 0, .int 0])), (q1, .inl (E.2.1 0, 10, .inl (fun _ => 0))), (q2, .inl (E.2.1 0, 10, .inl (fun _ => 0))), (q3, .inl (E.2.1 0, 10, .inl (fun _ => 0))), (q4, .inl (E.2.1 0, 8, .inl (fun _ => 0))), (q5, .inl (E.2.1 0, 8, .inl (fun _ => 0))), (q6, .inl (E.2.1 0, 40, .inl (fun _ => 0))), (q7, .inl (E.2.1 0, 80, .inl (fun _ => 0))), (q8, .inl (E.2.1 0, 80, .inl (fun _ => 0)))] rfl ?_
  refine y_aload_n C (dq DX1_init 34 rfl) rfl 0 rfl ?_
  refine y_bipush (v := 7) C (dq DX1_init 35 rfl) (by decide) ?_
  refine y_pc 71 rfl ?_
  refine y_newa0 (N := 7) C (dq DX1_init 36 rfl) (gmem 97 (by decide +kernel) rfl) (by decide) (by decide) (Nat.le_of_ble_eq_true rfl) ⟨Nat.le_trans (Nat.le_of_ble_eq_true rfl) hRm.1, Nat.le_trans (Nat.le_of_ble_eq_true rfl) hRm.2⟩ (fun q9 => ?_)
  refine y_w [(h0, .inr (1, [.ref q1, .ref q2, .ref q3, .ref q4, .ref q5, .ref q6, .ref q7, .ref q8, .null, .int 0, .int 0])), (q1, .inl (E.2.1 0, 10, .inl (fun _ => 0))), (q2, .inl (E.2.1 0, 10, .inl (fun _ => 0))), (q3, .inl (E.2.1 0, 10, .inl (fun _ => 0))), (q4, .inl (E.2.1 0, 8, .inl (fun _ => 0))), (q5, .inl (E.2.1 0, 8, .inl (fun _ => 0))), (q6, .inl (E.2.1 0, 40, .inl (fun _ => 0))), (q7, .inl (E.2.1 0, 80, .inl (fun _ => 0))), (q8, .inl (E.2.1 0, 80, .inl (fun _ => 0))), (q9, .inl (E.2.1 0, 7, .inl (fun _ => 0)))] rfl ?_
  refine y_cs (9, 253) rfl ?_
  refine y_putF (q0 := 0) (ty := .array .int) C (dq DX1_init 37 rfl) rfl (T := TX1) (N := 11) rfl inX1 tyX1 tyX1_ok nmX1 (i := 8) (by decide) (gmem 203 (by decide +kernel) rfl) rfl (by decide +kernel) rfl rfl (Nat.le_of_ble_eq_true rfl) rfl hI rfl ?_
  refine y_w [(h0, .inr (1, [.ref q1, .ref q2, .ref q3, .ref q4, .ref q5, .ref q6, .ref q7, .ref q8, .ref q9, .int 0, .int 0])), (q1, .inl (E.2.1 0, 10, .inl (fun _ => 0))), (q2, .inl (E.2.1 0, 10, .inl (fun _ => 0))), (q3, .inl (E.2.1 0, 10, .inl (fun _ => 0))), (q4, .inl (E.2.1 0, 8, .inl (fun _ => 0))), (q5, .inl (E.2.1 0, 8, .inl (fun _ => 0))), (q6, .inl (E.2.1 0, 40, .inl (fun _ => 0))), (q7, .inl (E.2.1 0, 80, .inl (fun _ => 0))), (q8, .inl (E.2.1 0, 80, .inl (fun _ => 0))), (q9, .inl (E.2.1 0, 7, .inl (fun _ => 0)))] rfl ?_
  refine y_aload_n C (dq DX1_init 38 rfl) rfl 0 rfl ?_
  refine y_w ([] ++ wd (E.1, E.2.1, adl [h0, q1, q2, q3, q4, q5, q6, q7, q8, q9]) SX1 ZX1) rfl ?_
  refine y_callV (n := 0) (wr := []) (E2 := (E.1, E.2.1, adl [h0, q1, q2, q3, q4, q5, q6, q7, q8, q9])) (o := 0) (As := []) (rest := []) rfl rfl C (mX1_clear h1) rfl (qX1_clear h1) (T := TX1) (N := 11) rfl (gmem 176 (by decide +kernel) rfl) (gmem 177 (by decide +kernel) rfl) (gmem 178 (by decide +kernel) rfl) (gmem 8 (by decide +kernel) rfl) (gmem 179 (by decide +kernel) rfl) (by decide +kernel) rfl (by decide) (by decide) (Nat.le_of_ble_eq_true rfl) ⟨Nat.le_trans (Nat.le_of_ble_eq_true rfl) hRm.1, Nat.le_trans (Nat.le_of_ble_eq_true rfl) hRm.2⟩ (dq DX1_init 39 rfl) rfl rfl ?_
  refine y_pc 80 rfl ?_
  exact y_vret C hQ rfl (dq DX1_init 40 rfl) ⟨q1, q2, q3, q4, q5, q6, q7, q8, q9, List.nil_append _⟩
