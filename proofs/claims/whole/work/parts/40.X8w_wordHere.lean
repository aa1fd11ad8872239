abbrev eX8_wordHere : List (Nat × Instr × Nat) := [(0, .iconst 0, 1), (1, .istore_n 1, 1), (2, .iconst 0, 1), (3, .istore_n 2, 1), (4, .iload_n 2, 1), (5, .ldc 154, 2), (7, .invokevirtual 156, 3), (10, .if_icmp .ge 113, 3), (13, .iconst 0, 1), (14, .istore_n 3, 1), (15, .ldc 154, 2), (17, .iload_n 2, 1), (18, .iload_n 3, 1), (19, .iadd, 1), (20, .invokevirtual 161, 3), (23, .bipush 32, 2), (25, .if_icmp .eq 44, 3), (28, .aload_n 0, 1), (29, .getfield 131, 3), (32, .iload_n 3, 1), (33, .iadd, 1), (34, .aload_n 0, 1), (35, .getfield 121, 3), (38, .if_icmp .ge 31, 3), (41, .aload_n 0, 1), (42, .getfield 7, 3), (45, .aload_n 0, 1), (46, .getfield 131, 3), (49, .iload_n 3, 1), (50, .iadd, 1), (51, .iaload, 1), (52, .ldc 154, 2), (54, .iload_n 2, 1), (55, .iload_n 3, 1), (56, .iadd, 1), (57, .invokevirtual 161, 3), (60, .if_icmp .ne 9, 3), (63, .iinc 3 1, 3), (66, .goto (-51), 3), (69, .ldc 154, 2), (71, .iload_n 2, 1), (72, .iload_n 3, 1), (73, .iadd, 1), (74, .invokevirtual 161, 3), (77, .bipush 32, 2), (79, .if_icmp .ne 18, 3), (82, .aload_n 0, 1), (83, .getfield 131, 3), (86, .iload_n 3, 1), (87, .iadd, 1), (88, .aload_n 0, 1), (89, .getfield 121, 3), (92, .if_icmp .ne 5, 3), (95, .iload_n 1, 1), (96, .ireturn, 1), (97, .ldc 154, 2), (99, .iload_n 2, 1), (100, .invokevirtual 161, 3), (103, .bipush 32, 2), (105, .if_icmp .eq 9, 3), (108, .iinc 2 1, 3), (111, .goto (-14), 3), (114, .iinc 2 1, 3), (117, .iinc 1 1, 3), (120, .goto (-116), 3), (123, .iconst (-1), 1), (124, .ireturn, 1)]
theorem DX8_wordHere : (eX8_wordHere.all fun q => decide (decode cX8_wordHere q.1 = .ok q.2)) = true := by decide +kernel
def bX8_wordHere_15 (S : List Sh) (mm : Mm) (x0 : Nat) (x1 : Int32) (x2 : Int32) (x3 : Int32) : Option ((Int32) ⊕ (Int32)) := bd1 (chW (x2 + x3)) fun a1 => if a1 = 32 then (some (.inr (x3))) else (if (mm.1 x0 18) ≤ ((mm.1 x0 19) + x3) then (some (.inr (x3))) else (bd1 (ldA S 0 mm (rf S mm x0 1) ((mm.1 x0 19) + x3)) fun a2 => bd1 (chW (x2 + x3)) fun a3 => if ¬ a2 = a3 then (some (.inr (x3))) else (some (.inl (x3 + 1)))))
def bX8_wordHere_97 (S : List Sh) (mm : Mm) (x0 : Nat) (x1 : Int32) (x2 : Int32) : Option ((Int32) ⊕ (Int32)) := bd1 (chW x2) fun a7 => if a7 = 32 then (some (.inr (x2))) else (some (.inl (x2 + 1)))
def jX8_wordHere_69 (S : List Sh) (mm : Mm) (x0 : Nat) (x1 : Int32) (x2 : Int32) (x3 : Int32)  : Option ((Int32 × Int32) ⊕ ((Int32) ⊕ (Unit))) := bd1 (chW (x2 + x3)) fun a6 => if ¬ a6 = 32 then (bd1 (lp (fun s8 => bX8_wordHere_97 S mm x0 x1 s8) fu x2) fun y9 => some (.inl (x1 + 1, y9 + 1))) else (if ¬ ((mm.1 x0 19) + x3) = (mm.1 x0 18) then (bd1 (lp (fun s10 => bX8_wordHere_97 S mm x0 x1 s10) fu x2) fun y11 => some (.inl (x1 + 1, y11 + 1))) else (some (.inr (.inl x1))))
def bX8_wordHere_4 (S : List Sh) (mm : Mm) (x0 : Nat) (x1 : Int32) (x2 : Int32) : Option ((Int32 × Int32) ⊕ ((Int32) ⊕ (Unit))) := if 32 ≤ x2 then (some (.inr (.inr ()))) else (bd1 (lp (fun s4 => bX8_wordHere_15 S mm x0 x1 x2 s4) fu 0) fun y5 => jX8_wordHere_69 S mm x0 x1 x2 y5)
def fX8_wordHere (S : List Sh) (mm : Mm) (x0 : Nat) : Option (Int32) := gd S x0 8 (bdR (lp (fun s12 => bX8_wordHere_4 S mm x0 s12.1 s12.2) fu (0, 0)) (fun a14 => some a14) fun y13 => some (-1))
set_option maxHeartbeats 1000000 in
theorem tX8_wordHere_15 {G : Gt} {l : Launch} {E : Ev} {S : List Sh} {mm : Mm} {x0 : Nat} {x1 : Int32} {x2 : Int32} {x3 : Int32} {r : (Int32) ⊕ (Int32)} (C : Cx G E cX8_wordHere 4 RX8 (some .int) 4 85) (g0 : isC S x0 8) (h : bX8_wordHere_15 S mm x0 x1 x2 x3 = some r) (kb : ∀ z : Int32, r = .inl z → WM G l E S 15 [(0, .ref (E.2.2 x0)), (1, .int x1), (2, .int x2), (3, .int z)] [] mm) (kx : ∀ z : Int32, r = .inr z → WM G l E S 69 [(0, .ref (E.2.2 x0)), (1, .int x1), (2, .int x2), (3, .int z)] [] mm) : WM G l E S 15 [(0, .ref (E.2.2 x0)), (1, .int x1), (2, .int x2), (3, .int x3)] [] mm := by
  unfold bX8_wordHere_15 at h
  refine x_ldcW C rfl (dq DX8_wordHere 10 rfl) ?_
  refine x_iload_n C (dq DX8_wordHere 11 rfl) rfl 2 rfl ?_
  refine x_iload_n C (dq DX8_wordHere 12 rfl) rfl 3 rfl ?_
  refine x_iadd C (dq DX8_wordHere 13 rfl) ?_
  refine x_pc 20 rfl ?_
  refine callX8_161 C (dq DX8_wordHere 14 rfl) h (by decide) (by decide) (Nat.le_of_ble_eq_true rfl) (fun a1 h => ?_)
  refine x_bipush (v := 32) C (dq DX8_wordHere 15 rfl) (by decide) ?_
  refine x_icmp_eq (tgt := 69) C (dq DX8_wordHere 16 rfl) (by decide) h (fun h => ?_) (fun h => ?_)
  · cases h
    exact x_lv [0, 1, 2, 3] rfl (kx (x3) rfl)
  · refine x_aload_n C (dq DX8_wordHere 17 rfl) rfl 0 rfl ?_
    refine getX8_131 C (dq DX8_wordHere 18 rfl) g0 ?_
    refine x_pc 32 rfl ?_
    refine x_iload_n C (dq DX8_wordHere 19 rfl) rfl 3 rfl ?_
    refine x_iadd C (dq DX8_wordHere 20 rfl) ?_
    refine x_aload_n C (dq DX8_wordHere 21 rfl) rfl 0 rfl ?_
    refine getX8_121 C (dq DX8_wordHere 22 rfl) g0 ?_
    refine x_icmp_ge (tgt := 69) C (dq DX8_wordHere 23 rfl) (by decide) h (fun h => ?_) (fun h => ?_)
    · cases h
      exact x_lv [0, 1, 2, 3] rfl (kx (x3) rfl)
    · refine x_pc 41 rfl ?_
      refine x_aload_n C (dq DX8_wordHere 24 rfl) rfl 0 rfl ?_
      refine getX8_7 C (dq DX8_wordHere 25 rfl) g0 ?_
      refine x_aload_n C (dq DX8_wordHere 26 rfl) rfl 0 rfl ?_
      refine getX8_131 C (dq DX8_wordHere 27 rfl) g0 ?_
      refine x_iload_n C (dq DX8_wordHere 28 rfl) rfl 3 rfl ?_
      refine x_pc 50 rfl ?_
      refine x_iadd C (dq DX8_wordHere 29 rfl) ?_
      refine x_iald C (dq DX8_wordHere 30 rfl) h (fun a2 h => ?_)
      refine x_ldcW C rfl (dq DX8_wordHere 31 rfl) ?_
      refine x_iload_n C (dq DX8_wordHere 32 rfl) rfl 2 rfl ?_
      refine x_iload_n C (dq DX8_wordHere 33 rfl) rfl 3 rfl ?_
      refine x_pc 56 rfl ?_
      refine x_iadd C (dq DX8_wordHere 34 rfl) ?_
      refine callX8_161 C (dq DX8_wordHere 35 rfl) h (by decide) (by decide) (Nat.le_of_ble_eq_true rfl) (fun a3 h => ?_)
      refine x_icmp_ne (tgt := 69) C (dq DX8_wordHere 36 rfl) (by decide) h (fun h => ?_) (fun h => ?_)
      · cases h
        exact x_lv [0, 1, 2, 3] rfl (kx (x3) rfl)
      · refine x_iinc (v := x3 + 1) (lv' := [(3, .int (x3 + 1)), (0, .ref (E.2.2 x0)), (1, .int x1), (2, .int x2)]) C (dq DX8_wordHere 37 rfl) 3 rfl rfl (by decide) rfl ?_
        refine x_goto (tgt := 15) C (dq DX8_wordHere 38 rfl) (by decide) ?_
        cases h
        exact x_lv [1, 2, 3, 0] rfl (kb (x3 + 1) rfl)
set_option maxHeartbeats 1000000 in
theorem tX8_wordHere_97 {G : Gt} {l : Launch} {E : Ev} {S : List Sh} {mm : Mm} {x0 : Nat} {x1 : Int32} {x2 : Int32} {r : (Int32) ⊕ (Int32)} (C : Cx G E cX8_wordHere 4 RX8 (some .int) 4 85) (g0 : isC S x0 8) (h : bX8_wordHere_97 S mm x0 x1 x2 = some r) (kb : ∀ z : Int32, r = .inl z → WM G l E S 97 [(0, .ref (E.2.2 x0)), (1, .int x1), (2, .int z)] [] mm) (kx : ∀ z : Int32, r = .inr z → WM G l E S 114 [(0, .ref (E.2.2 x0)), (1, .int x1), (2, .int z)] [] mm) : WM G l E S 97 [(0, .ref (E.2.2 x0)), (1, .int x1), (2, .int x2)] [] mm := by
  unfold bX8_wordHere_97 at h
  refine x_ldcW C rfl (dq DX8_wordHere 55 rfl) ?_
  refine x_iload_n C (dq DX8_wordHere 56 rfl) rfl 2 rfl ?_
  refine callX8_161 C (dq DX8_wordHere 57 rfl) h (by decide) (by decide) (Nat.le_of_ble_eq_true rfl) (fun a7 h => ?_)
  refine x_bipush (v := 32) C (dq DX8_wordHere 58 rfl) (by decide) ?_
  refine x_pc 105 rfl ?_
  refine x_icmp_eq (tgt := 114) C (dq DX8_wordHere 59 rfl) (by decide) h (fun h => ?_) (fun h => ?_)
  · cases h
    exact x_lv [0, 1, 2] rfl (kx (x2) rfl)
  · refine x_iinc (v := x2 + 1) (lv' := [(2, .int (x2 + 1)), (0, .ref (E.2.2 x0)), (1, .int x1)]) C (dq DX8_wordHere 60 rfl) 2 rfl rfl (by decide) rfl ?_
    refine x_goto (tgt := 97) C (dq DX8_wordHere 61 rfl) (by decide) ?_
    cases h
    exact x_lv [1, 2, 0] rfl (kb (x2 + 1) rfl)
set_option maxHeartbeats 1000000 in
theorem tX8_wordHere_69 {G : Gt} {l : Launch} {E : Ev} {S : List Sh} {mm : Mm} {x0 : Nat} {x1 : Int32} {x2 : Int32} {x3 : Int32}  {r : (Int32 × Int32) ⊕ ((Int32) ⊕ (Unit))} (C : Cx G E cX8_wordHere 4 RX8 (some .int) 4 85) (g0 : isC S x0 8) (h : jX8_wordHere_69 S mm x0 x1 x2 x3 = some r) (kb : ∀ z : Int32 × Int32, r = .inl z → WM G l E S 4 [(0, .ref (E.2.2 x0)), (1, .int z.1), (2, .int z.2)] [] mm) (kr : ∀ z : Int32, r = .inr (.inl z) → RQ G E S (some (.int z)) mm) (kx : ∀ z : Unit, r = .inr (.inr z) → WM G l E S 123 [(0, .ref (E.2.2 x0))] [] mm) : WM G l E S 69 [(0, .ref (E.2.2 x0)), (1, .int x1), (2, .int x2), (3, .int x3)] [] mm := by
  unfold jX8_wordHere_69 at h
  refine x_ldcW C rfl (dq DX8_wordHere 39 rfl) ?_
  refine x_iload_n C (dq DX8_wordHere 40 rfl) rfl 2 rfl ?_
  refine x_iload_n C (dq DX8_wordHere 41 rfl) rfl 3 rfl ?_
  refine x_iadd C (dq DX8_wordHere 42 rfl) ?_
  refine x_pc 74 rfl ?_
  refine callX8_161 C (dq DX8_wordHere 43 rfl) h (by decide) (by decide) (Nat.le_of_ble_eq_true rfl) (fun a6 h => ?_)
  refine x_bipush (v := 32) C (dq DX8_wordHere 44 rfl) (by decide) ?_
  refine x_icmp_ne (tgt := 97) C (dq DX8_wordHere 45 rfl) (by decide) h (fun h => ?_) (fun h => ?_)
  · refine x_lv [0, 1, 2] rfl ?_
    refine x_loop (s0 := x2) (fun s8 => WM G l E S 97 [(0, .ref (E.2.2 x0)), (1, .int x1), (2, .int s8)] [] mm) h (fun s8 r hb kb kx => tX8_wordHere_97 C g0 hb kb (fun y9 hy => ?_))
    have h := kx y9 hy
    clear kx kb hb hy
    refine x_iinc (v := y9 + 1) (lv' := [(2, .int (y9 + 1)), (0, .ref (E.2.2 x0)), (1, .int x1)]) C (dq DX8_wordHere 62 rfl) 2 rfl rfl (by decide) rfl ?_
    refine x_iinc (v := x1 + 1) (lv' := [(1, .int (x1 + 1)), (2, .int (y9 + 1)), (0, .ref (E.2.2 x0))]) C (dq DX8_wordHere 63 rfl) 2 rfl rfl (by decide) rfl ?_
    refine x_pc 120 rfl ?_
    refine x_goto (tgt := 4) C (dq DX8_wordHere 64 rfl) (by decide) ?_
    cases h
    exact x_lv [2, 0, 1] rfl (kb (x1 + 1, y9 + 1) rfl)
  · refine x_aload_n C (dq DX8_wordHere 46 rfl) rfl 0 rfl ?_
    refine getX8_131 C (dq DX8_wordHere 47 rfl) g0 ?_
    refine x_pc 86 rfl ?_
    refine x_iload_n C (dq DX8_wordHere 48 rfl) rfl 3 rfl ?_
    refine x_iadd C (dq DX8_wordHere 49 rfl) ?_
    refine x_aload_n C (dq DX8_wordHere 50 rfl) rfl 0 rfl ?_
    refine getX8_121 C (dq DX8_wordHere 51 rfl) g0 ?_
    refine x_icmp_ne (tgt := 97) C (dq DX8_wordHere 52 rfl) (by decide) h (fun h => ?_) (fun h => ?_)
    · refine x_lv [0, 1, 2] rfl ?_
      refine x_loop (s0 := x2) (fun s10 => WM G l E S 97 [(0, .ref (E.2.2 x0)), (1, .int x1), (2, .int s10)] [] mm) h (fun s10 r hb kb kx => tX8_wordHere_97 C g0 hb kb (fun y11 hy => ?_))
      have h := kx y11 hy
      clear kx kb hb hy
      refine x_pc 114 rfl ?_
      refine x_iinc (v := y11 + 1) (lv' := [(2, .int (y11 + 1)), (0, .ref (E.2.2 x0)), (1, .int x1)]) C (dq DX8_wordHere 62 rfl) 2 rfl rfl (by decide) rfl ?_
      refine x_iinc (v := x1 + 1) (lv' := [(1, .int (x1 + 1)), (2, .int (y11 + 1)), (0, .ref (E.2.2 x0))]) C (dq DX8_wordHere 63 rfl) 2 rfl rfl (by decide) rfl ?_
      refine x_goto (tgt := 4) C (dq DX8_wordHere 64 rfl) (by decide) ?_
      cases h
      exact x_lv [2, 0, 1] rfl (kb (x1 + 1, y11 + 1) rfl)
    · refine x_pc 95 rfl ?_
      refine x_iload_n C (dq DX8_wordHere 53 rfl) rfl 1 rfl ?_
      cases h
      exact x_iret C (dq DX8_wordHere 54 rfl) (kr x1 rfl)
set_option maxHeartbeats 1000000 in
theorem tX8_wordHere_4 {G : Gt} {l : Launch} {E : Ev} {S : List Sh} {mm : Mm} {x0 : Nat} {x1 : Int32} {x2 : Int32} {r : (Int32 × Int32) ⊕ ((Int32) ⊕ (Unit))} (C : Cx G E cX8_wordHere 4 RX8 (some .int) 4 85) (g0 : isC S x0 8) (h : bX8_wordHere_4 S mm x0 x1 x2 = some r) (kb : ∀ z : Int32 × Int32, r = .inl z → WM G l E S 4 [(0, .ref (E.2.2 x0)), (1, .int z.1), (2, .int z.2)] [] mm) (kr : ∀ z : Int32, r = .inr (.inl z) → RQ G E S (some (.int z)) mm) (kx : ∀ z : Unit, r = .inr (.inr z) → WM G l E S 123 [(0, .ref (E.2.2 x0))] [] mm) : WM G l E S 4 [(0, .ref (E.2.2 x0)), (1, .int x1), (2, .int x2)] [] mm := by
  unfold bX8_wordHere_4 at h
  refine x_iload_n C (dq DX8_wordHere 4 rfl) rfl 2 rfl ?_
  refine x_ldcW C rfl (dq DX8_wordHere 5 rfl) ?_
  refine callX8_156 C (dq DX8_wordHere 6 rfl) (by decide) (by decide) (Nat.le_of_ble_eq_true rfl) ?_
  refine x_icmp_ge (tgt := 123) C (dq DX8_wordHere 7 rfl) (by decide) h (fun h => ?_) (fun h => ?_)
  · cases h
    exact x_lv [0] rfl (kx () rfl)
  · refine x_pc 13 rfl ?_
    refine x_iconst (v := 0) C (dq DX8_wordHere 8 rfl) (by decide) ?_
    refine x_istore_n (lv' := [(3, .int 0), (0, .ref (E.2.2 x0)), (1, .int x1), (2, .int x2)]) C (dq DX8_wordHere 9 rfl) rfl (by decide) rfl ?_
    refine x_lv [1, 2, 3, 0] rfl ?_
    refine x_loop (s0 := 0) (fun s4 => WM G l E S 15 [(0, .ref (E.2.2 x0)), (1, .int x1), (2, .int x2), (3, .int s4)] [] mm) h (fun s4 r hb kb kx => tX8_wordHere_15 C g0 hb kb (fun y5 hy => ?_))
    have h := kx y5 hy
    clear kx kb hb hy
    exact x_lv [0, 1, 2, 3] rfl (tX8_wordHere_69 C g0 h kb kr kx)
set_option maxHeartbeats 1000000 in
theorem mX8_wordHere {l : Launch} {E : Ev} {S : List Sh} {mm : Mm} {x0 : Nat} {r : Int32} (h : fX8_wordHere S mm x0 = some r) : Ml l E S yX8_wordHere cX8_wordHere 4 (some .int) 4 85 [.ref (E.2.2 x0)] mm (some (.int r)) mm := by
  refine Ml.of (by decide +kernel) (Nat.le_of_ble_eq_true rfl) (fun G C hQ => ?_)
  have C : Cx G E cX8_wordHere 4 RX8 (some .int) 4 85 := C
  unfold fX8_wordHere at h
  obtain ⟨g0, h⟩ := gd_some h
  show WM G l E S 0 [(0, .ref (E.2.2 x0))] [] mm
  refine x_iconst (v := 0) C (dq DX8_wordHere 0 rfl) (by decide) ?_
  refine x_istore_n (lv' := [(1, .int 0), (0, .ref (E.2.2 x0))]) C (dq DX8_wordHere 1 rfl) rfl (by decide) rfl ?_
  refine x_iconst (v := 0) C (dq DX8_wordHere 2 rfl) (by decide) ?_
  refine x_istore_n (lv' := [(2, .int 0), (1, .int 0), (0, .ref (E.2.2 x0))]) C (dq DX8_wordHere 3 rfl) rfl (by decide) rfl ?_
  refine x_lv [2, 1, 0] rfl ?_
  refine x_loopR (s0 := (0, 0)) (fun s12 => WM G l E S 4 [(0, .ref (E.2.2 x0)), (1, .int s12.1), (2, .int s12.2)] [] mm) h (fun s12 r hb kb kg kx => tX8_wordHere_4 C g0 hb kb (fun a14 ha => ?_) (fun y13 hy => ?_))
  · have h := kg a14 ha
    cases h
    exact hQ
  · have h := kx y13 hy
    clear kx kb hb hy kg
    refine x_pc 123 rfl ?_
    refine x_iconst (v := (-1)) C (dq DX8_wordHere 65 rfl) (by decide) ?_
    cases h
    exact x_iret C (dq DX8_wordHere 66 rfl) hQ
set_option maxHeartbeats 1000000 in
theorem qX8_wordHere {S : List Sh} {mm : Mm} {x0 : Nat} {r : Int32} (h : fX8_wordHere S mm x0 = some r) : isC S x0 8 := by
  unfold fX8_wordHere at h
  exact (gd_some h).1
theorem getX8_134 {G : Gt} {l : Launch} {E : Ev} {S : List Sh} {cc : ByteArray} {nL : Nat} {rt : Option FieldType} {fr lo : Nat} {pc : Nat} {lv : List (Nat × Value)} {st : List Value} {mm : Mm} {o : Nat} (C : Cx G E cc nL RX8 rt fr lo) (d : decode cc pc = .ok (.getfield 134, 3)) (hg : isC S o 8) (k : WM G l E S (pc + 3) lv (.int (mm.1 o 20) :: st) mm) : WM G l E S pc lv (.ref (E.2.2 o) :: st) mm := x_get0 C hg (T := TX8) (N := 49) rfl inX8 (by decide) (i := 20) (gmem 885 (by decide +kernel) rfl) rfl rfl d k
theorem putX8_121 {G : Gt} {l : Launch} {E : Ev} {S : List Sh} {cc : ByteArray} {nL : Nat} {rt : Option FieldType} {fr lo : Nat} {pc : Nat} {lv : List (Nat × Value)} {st : List Value} {mm : Mm} {o : Nat} {α : Type} {f : Mm → Option α} {r : α} {x : Int32} (C : Cx G E cc nL RX8 rt fr lo) (d : decode cc pc = .ok (.putfield 121, 3)) (hg : isC S o 8) (h : bd1 (some (u1 mm o 18 x)) f = some r) (k : ∀ m1, f m1 = some r → WM G l E S (pc + 3) lv st m1) : WM G l E S pc lv (.int x :: .ref (E.2.2 o) :: st) mm := x_putI C hg (T := TX8) (N := 49) rfl inX8 (by decide) (i := 18) (gmem 883 (by decide +kernel) rfl) rfl tyX8 tyX8_ok nmX8 rfl rfl (by decide) (by decide +kernel) d (k _ h)
theorem putX8_131 {G : Gt} {l : Launch} {E : Ev} {S : List Sh} {cc : ByteArray} {nL : Nat} {rt : Option FieldType} {fr lo : Nat} {pc : Nat} {lv : List (Nat × Value)} {st : List Value} {mm : Mm} {o : Nat} {α : Type} {f : Mm → Option α} {r : α} {x : Int32} (C : Cx G E cc nL RX8 rt fr lo) (d : decode cc pc = .ok (.putfield 131, 3)) (hg : isC S o 8) (h : bd1 (some (u1 mm o 19 x)) f = some r) (k : ∀ m1, f m1 = some r → WM G l E S (pc + 3) lv st m1) : WM G l E S pc lv (.int x :: .ref (E.2.2 o) :: st) mm := x_putI C hg (T := TX8) (N := 49) rfl inX8 (by decide) (i := 19) (gmem 884 (by decide +kernel) rfl) rfl tyX8 tyX8_ok nmX8 rfl rfl (by decide) (by decide +kernel) d (k _ h)
theorem putX8_134 {G : Gt} {l : Launch} {E : Ev} {S : List Sh} {cc : ByteArray} {nL : Nat} {rt : Option FieldType} {fr lo : Nat} {pc : Nat} {lv : List (Nat × Value)} {st : List Value} {mm : Mm} {o : Nat} {α : Type} {f : Mm → Option α} {r : α} {x : Int32} (C : Cx G E cc nL RX8 rt fr lo) (d : decode cc pc = .ok (.putfield 134, 3)) (hg : isC S o 8) (h : bd1 (some (u1 mm o 20 x)) f = some r) (k : ∀ m1, f m1 = some r → WM G l E S (pc + 3) lv st m1) : WM G l E S pc lv (.int x :: .ref (E.2.2 o) :: st) mm := x_putI C hg (T := TX8) (N := 49) rfl inX8 (by decide) (i := 20) (gmem 885 (by decide +kernel) rfl) rfl tyX8 tyX8_ok nmX8 rfl rfl (by decide) (by decide +kernel) d (k _ h)
theorem callX8_127 {G : Gt} {l : Launch} {E : Ev} {S : List Sh} {cc : ByteArray} {nL : Nat} {rt : Option FieldType} {fr lo : Nat} {pc : Nat} {lv : List (Nat × Value)} {rest : List Value} {mm : Mm} {α : Type} {f : Int32 → Option α} {r : α} {o : Nat} (C : Cx G E cc nL RX8 rt fr lo) (d : decode cc pc = .ok (.invokevirtual 127, 3)) (h : bd1 (fX8_here S mm o) f = some r) (hfr : 1 ≤ fr) (hlo : 20 ≤ lo) (hrs : (rest.map fun v => v.category).sum ≤ 8) (k : ∀ v, f v = some r → WM G l E S (pc + 3) lv (.int v :: rest) mm) : WM G l E S pc lv (.ref (E.2.2 o) :: rest) mm := by
  obtain ⟨v, hv, hf⟩ := bd1_some h
  exact x_callV (n := 0) (As := []) (rest := rest) C (mX8_here hv) (qX8_here hv) (T := TX8) (N := 49) rfl (gmem 1034 (by decide +kernel) rfl) (gmem 1036 (by decide +kernel) rfl) (gmemS 47 (by decide +kernel) rfl) (gmem 9 (by decide +kernel) rfl) (gmem 1037 (by decide +kernel) rfl) (by decide +kernel) rfl hfr hlo hrs d rfl rfl (k v hf)
theorem callX8_137 {G : Gt} {l : Launch} {E : Ev} {S : List Sh} {cc : ByteArray} {nL : Nat} {rt : Option FieldType} {fr lo : Nat} {pc : Nat} {lv : List (Nat × Value)} {rest : List Value} {mm : Mm} {α : Type} {f : Int32 → Option α} {r : α} {a0 : Int32} (C : Cx G E cc nL RX8 rt fr lo) (d : decode cc pc = .ok (.invokestatic 137, 3)) (h : bd1 (fX8_isSmall S mm a0) f = some r) (hfr : 1 ≤ fr) (hlo : 20 ≤ lo) (hrs : (rest.map fun v => v.category).sum ≤ 8) (k : ∀ v, f v = some r → WM G l E S (pc + 3) lv (.int v :: rest) mm) : WM G l E S pc lv (.int a0 :: rest) mm := by
  obtain ⟨v, hv, hf⟩ := bd1_some h
  exact x_callS (n := 1) (As := [.int a0]) (rest := rest) C (mX8_isSmall hv) (gmem 1038 (by decide +kernel) rfl) (gmem 1039 (by decide +kernel) rfl) (gmem 9 (by decide +kernel) rfl) (gmem 1040 (by decide +kernel) rfl) (by decide +kernel) rfl hfr hlo hrs d rfl rfl (k v hf)
theorem callX8_141 {G : Gt} {l : Launch} {E : Ev} {S : List Sh} {cc : ByteArray} {nL : Nat} {rt : Option FieldType} {fr lo : Nat} {pc : Nat} {lv : List (Nat × Value)} {rest : List Value} {mm : Mm} {α : Type} {f : Int32 → Option α} {r : α} {o : Nat} (C : Cx G E cc nL RX8 rt fr lo) (d : decode cc pc = .ok (.invokevirtual 141, 3)) (h : bd1 (fX8_wordHere S mm o) f = some r) (hfr : 5 ≤ fr) (hlo : 108 ≤ lo) (hrs : (rest.map fun v => v.category).sum ≤ 8) (k : ∀ v, f v = some r → WM G l E S (pc + 3) lv (.int v :: rest) mm) : WM G l E S pc lv (.ref (E.2.2 o) :: rest) mm := by
  obtain ⟨v, hv, hf⟩ := bd1_some h
  exact x_callV (n := 0) (As := []) (rest := rest) C (mX8_wordHere hv) (qX8_wordHere hv) (T := TX8) (N := 49) rfl (gmem 1041 (by decide +kernel) rfl) (gmem 1043 (by decide +kernel) rfl) (gmemS 48 (by decide +kernel) rfl) (gmem 9 (by decide +kernel) rfl) (gmem 1044 (by decide +kernel) rfl) (by decide +kernel) rfl hfr hlo hrs d rfl rfl (k v hf)
theorem callX8_147 {G : Gt} {l : Launch} {E : Ev} {S : List Sh} {cc : ByteArray} {nL : Nat} {rt : Option FieldType} {fr lo : Nat} {pc : Nat} {lv : List (Nat × Value)} {rest : List Value} {mm : Mm} {α : Type} {f : Mm → Option α} {r : α} {o : Nat} (C : Cx G E cc nL RX8 rt fr lo) (d : decode cc pc = .ok (.invokevirtual 147, 3)) (h : bd1 (fX8_nameHere S mm o) f = some r) (hfr : 1 ≤ fr) (hlo : 21 ≤ lo) (hrs : (rest.map fun v => v.category).sum ≤ 8) (k : ∀ m1, f m1 = some r → WM G l E S (pc + 3) lv rest m1) : WM G l E S pc lv (.ref (E.2.2 o) :: rest) mm := by
  obtain ⟨m1, hv, hf⟩ := bd1_some h
  exact x_callV (n := 0) (As := []) (rest := rest) C (mX8_nameHere hv) (qX8_nameHere hv) (T := TX8) (N := 49) rfl (gmem 1094 (by decide +kernel) rfl) (gmem 1096 (by decide +kernel) rfl) (gmemS 49 (by decide +kernel) rfl) (gmem 9 (by decide +kernel) rfl) (gmem 1097 (by decide +kernel) rfl) (by decide +kernel) rfl hfr hlo hrs d rfl rfl (k m1 hf)
theorem callX8_150 {G : Gt} {l : Launch} {E : Ev} {S : List Sh} {cc : ByteArray} {nL : Nat} {rt : Option FieldType} {fr lo : Nat} {pc : Nat} {lv : List (Nat × Value)} {rest : List Value} {mm : Mm} {α : Type} {f : Int32 → Option α} {r : α} {a0 : Int32} (C : Cx G E cc nL RX8 rt fr lo) (d : decode cc pc = .ok (.invokestatic 150, 3)) (h : bd1 (fX8_isDigit S mm a0) f = some r) (hfr : 1 ≤ fr) (hlo : 20 ≤ lo) (hrs : (rest.map fun v => v.category).sum ≤ 8) (k : ∀ v, f v = some r → WM G l E S (pc + 3) lv (.int v :: rest) mm) : WM G l E S pc lv (.int a0 :: rest) mm := by
  obtain ⟨v, hv, hf⟩ := bd1_some h
  exact x_callS (n := 1) (As := [.int a0]) (rest := rest) C (mX8_isDigit hv) (gmem 1098 (by decide +kernel) rfl) (gmem 1099 (by decide +kernel) rfl) (gmem 9 (by decide +kernel) rfl) (gmem 1100 (by decide +kernel) rfl) (by decide +kernel) rfl hfr hlo hrs d rfl rfl (k v hf)
abbrev eX8_token : List (Nat × Instr × Nat) := [(0, .aload_n 0, 1), (1, .invokevirtual 127, 3), (4, .bipush 10, 2), (6, .if_icmp .eq 12, 3), (9, .aload_n 0, 1), (10, .invokevirtual 127, 3), (13, .bipush 32, 2), (15, .if_icmp .ne 16, 3), (18, .aload_n 0, 1), (19, .dup, 1), (20, .getfield 121, 3), (23, .iconst 1, 1), (24, .iadd, 1), (25, .putfield 121, 3), (28, .goto (-28), 3), (31, .aload_n 0, 1), (32, .aload_n 0, 1), (33, .getfield 121, 3), (36, .putfield 131, 3), (39, .aload_n 0, 1), (40, .invokevirtual 127, 3), (43, .istore_n 1, 1), (44, .iload_n 1, 1), (45, .iconst (-1), 1), (46, .if_icmp .ne 11, 3), (49, .aload_n 0, 1), (50, .iconst 4, 1), (51, .putfield 134, 3), (54, .goto 191, 3), (57, .iload_n 1, 1), (58, .invokestatic 137, 3), (61, .ifCond .eq 84, 3), (64, .aload_n 0, 1), (65, .invokevirtual 127, 3), (68, .invokestatic 137, 3), (71, .ifCond .eq 16, 3), (74, .aload_n 0, 1), (75, .dup, 1), (76, .getfield 121, 3), (79, .iconst 1, 1), (80, .iadd, 1), (81, .putfield 121, 3), (84, .goto (-20), 3), (87, .aload_n 0, 1), (88, .aload_n 0, 1), (89, .invokevirtual 141, 3), (92, .putfield 144, 3), (95, .aload_n 0, 1), (96, .aload_n 0, 1), (97, .getfield 144, 3), (100, .iconst (-1), 1), (101, .if_icmp .eq 7, 3), (104, .iconst 0, 1), (105, .goto 22, 3), (108, .aload_n 0, 1), (109, .getfield 121, 3), (112, .aload_n 0, 1), (113, .getfield 131, 3), (116, .isub, 1), (117, .bipush 6, 2), (119, .if_icmp .le 7, 3), (122, .iconst 5, 1), (123, .goto 4, 3), (126, .iconst 1, 1), (127, .putfield 134, 3), (130, .aload_n 0, 1), (131, .getfield 134, 3), (134, .iconst 1, 1), (135, .if_icmp .ne 110, 3), (138, .aload_n 0, 1), (139, .invokevirtual 147, 3), (142, .goto 103, 3), (145, .iload_n 1, 1), (146, .invokestatic 150, 3), (149, .ifCond .eq 71, 3), (152, .aload_n 0, 1), (153, .iconst 2, 1), (154, .putfield 134, 3), (157, .aload_n 0, 1), (158, .iconst 0, 1), (159, .putfield 144, 3), (162, .aload_n 0, 1), (163, .invokevirtual 127, 3), (166, .invokestatic 150, 3), (169, .ifCond .eq 76, 3), (172, .aload_n 0, 1), (173, .aload_n 0, 1), (174, .getfield 144, 3), (177, .ldc 153, 2), (179, .if_icmp .le 10, 3), (182, .aload_n 0, 1), (183, .getfield 144, 3), (186, .goto 18, 3), (189, .bipush 10, 2), (191, .aload_n 0, 1), (192, .getfield 144, 3), (195, .imul, 1), (196, .aload_n 0, 1), (197, .invokevirtual 127, 3), (200, .iadd, 1), (201, .bipush 48, 2), (203, .isub, 1), (204, .putfield 144, 3), (207, .aload_n 0, 1), (208, .dup, 1), (209, .getfield 121, 3), (212, .iconst 1, 1), (213, .iadd, 1), (214, .putfield 121, 3), (217, .goto (-55), 3), (220, .aload_n 0, 1), (221, .iload_n 1, 1), (222, .bipush 59, 2), (224, .if_icmp .ne 7, 3), (227, .iconst 3, 1), (228, .goto 4, 3), (231, .iconst 5, 1), (232, .putfield 134, 3), (235, .aload_n 0, 1), (236, .dup, 1), (237, .getfield 121, 3), (240, .iconst 1, 1), (241, .iadd, 1), (242, .putfield 121, 3), (245, .return_, 1)]
theorem DX8_token : (eX8_token.all fun q => decide (decode cX8_token q.1 = .ok q.2)) = true := by decide +kernel
def jX8_token_18 (S : List Sh) (mm : Mm) (x0 : Nat)  : Option ((Mm) ⊕ (Mm)) := bd1 (some (u1 mm x0 18 ((mm.1 x0 18) + 1))) fun m2 => some (.inl (m2))
def bX8_token_0 (S : List Sh) (x0 : Nat)  (mm : Mm) : Option ((Mm) ⊕ (Mm)) := bd1 (fX8_here S mm x0) fun a1 => if a1 = 10 then (jX8_token_18 S mm x0) else (bd1 (fX8_here S mm x0) fun a3 => if ¬ a3 = 32 then (some (.inr (mm))) else (jX8_token_18 S mm x0))
def jX8_token_245 (S : List Sh) (mm : Mm) (x0 : Nat)  : Option (Mm) := some mm
def jX8_token_232 (S : List Sh) (mm : Mm) (x0 : Nat) (p0 : Nat) (p1 : Int32) : Option (Mm) := gd S p0 8 (bd1 (some (u1 mm p0 20 p1)) fun m11 => bd1 (some (u1 m11 x0 18 ((m11.1 x0 18) + 1))) fun m12 => jX8_token_245 S m12 x0)
def jX8_token_204 (S : List Sh) (mm : Mm) (x0 : Nat) (p0 : Nat) (p1 : Int32) : Option ((Mm) ⊕ (Mm)) := gd S p0 8 (bd1 (some (u1 mm p0 21 p1)) fun m19 => bd1 (some (u1 m19 x0 18 ((m19.1 x0 18) + 1))) fun m20 => some (.inl (m20)))
def bX8_token_162 (S : List Sh) (x0 : Nat)  (mm : Mm) : Option ((Mm) ⊕ (Mm)) := bd1 (fX8_here S mm x0) fun a15 => bd1 (fX8_isDigit S mm a15) fun a16 => if a16 = 0 then (some (.inr (mm))) else (if (mm.1 x0 21) ≤ 99999 then (bd1 (fX8_here S mm x0) fun a17 => jX8_token_204 S mm x0 x0 (((10 * (mm.1 x0 21)) + a17) - 48)) else (jX8_token_204 S mm x0 x0 (mm.1 x0 21)))
def bX8_token_64 (S : List Sh) (x0 : Nat)  (mm : Mm) : Option ((Mm) ⊕ (Mm)) := bd1 (fX8_here S mm x0) fun a23 => bd1 (fX8_isSmall S mm a23) fun a24 => if a24 = 0 then (some (.inr (mm))) else (bd1 (some (u1 mm x0 18 ((mm.1 x0 18) + 1))) fun m25 => some (.inl (m25)))
def jX8_token_127 (S : List Sh) (mm : Mm) (x0 : Nat) (p0 : Nat) (p1 : Int32) : Option (Mm) := gd S p0 8 (bd1 (some (u1 mm p0 20 p1)) fun m31 => if ¬ (m31.1 x0 20) = 1 then (jX8_token_245 S m31 x0) else (bd1 (fX8_nameHere S m31 x0) fun m32 => jX8_token_245 S m32 x0))
def fX8_token (S : List Sh) (mm : Mm) (x0 : Nat) : Option (Mm) := gd S x0 8 (bd1 (lp (fun s4 => bX8_token_0 S x0 s4) fu mm) fun y5 => bd1 (some (u1 y5 x0 19 (y5.1 x0 18))) fun m6 => bd1 (fX8_here S m6 x0) fun a7 => if ¬ a7 = (-1) then (bd1 (fX8_isSmall S m6 a7) fun a8 => if a8 = 0 then (bd1 (fX8_isDigit S m6 a7) fun a9 => if a9 = 0 then (if ¬ a7 = 59 then (jX8_token_232 S m6 x0 x0 5) else (jX8_token_232 S m6 x0 x0 3)) else (bd1 (some (u1 m6 x0 20 2)) fun m13 => bd1 (some (u1 m13 x0 21 0)) fun m14 => bd1 (lp (fun s21 => bX8_token_162 S x0 s21) fu m14) fun y22 => jX8_token_245 S y22 x0)) else (bd1 (lp (fun s26 => bX8_token_64 S x0 s26) fu m6) fun y27 => bd1 (fX8_wordHere S y27 x0) fun a28 => bd1 (some (u1 y27 x0 21 a28)) fun m29 => if (m29.1 x0 21) = (-1) then (if ((m29.1 x0 18) - (m29.1 x0 19)) ≤ 6 then (jX8_token_127 S m29 x0 x0 1) else (jX8_token_127 S m29 x0 x0 5)) else (jX8_token_127 S m29 x0 x0 0))) else (bd1 (some (u1 m6 x0 20 4)) fun m33 => jX8_token_245 S m33 x0))
set_option maxHeartbeats 1000000 in
theorem tX8_token_18 {G : Gt} {l : Launch} {E : Ev} {S : List Sh} {mm : Mm} {x0 : Nat}  {r : (Mm) ⊕ (Mm)} (C : Cx G E cX8_token 2 RX8 none 5 108) (g0 : isC S x0 8) (h : jX8_token_18 S mm x0 = some r) (kb : ∀ z : Mm, r = .inl z → WM G l E S 0 [(0, .ref (E.2.2 x0))] [] z) (kx : ∀ z : Mm, r = .inr z → WM G l E S 31 [(0, .ref (E.2.2 x0))] [] z) : WM G l E S 18 [(0, .ref (E.2.2 x0))] [] mm := by
  unfold jX8_token_18 at h
  refine x_aload_n C (dq DX8_token 8 rfl) rfl 0 rfl ?_
  refine x_dup C (dq DX8_token 9 rfl) rfl ?_
  refine getX8_121 C (dq DX8_token 10 rfl) g0 ?_
  refine x_iconst (v := 1) C (dq DX8_token 11 rfl) (by decide) ?_
  refine x_pc 24 rfl ?_
  refine x_iadd C (dq DX8_token 12 rfl) ?_
  refine putX8_121 C (dq DX8_token 13 rfl) g0 h (fun m2 h => ?_)
  refine x_goto (tgt := 0) C (dq DX8_token 14 rfl) (by decide) ?_
  cases h
  exact x_lv [0] rfl (kb (m2) rfl)
set_option maxHeartbeats 1000000 in
theorem tX8_token_0 {G : Gt} {l : Launch} {E : Ev} {S : List Sh} {x0 : Nat}  {mm : Mm} {r : (Mm) ⊕ (Mm)} (C : Cx G E cX8_token 2 RX8 none 5 108) (g0 : isC S x0 8) (h : bX8_token_0 S x0 mm = some r) (kb : ∀ z : Mm, r = .inl z → WM G l E S 0 [(0, .ref (E.2.2 x0))] [] z) (kx : ∀ z : Mm, r = .inr z → WM G l E S 31 [(0, .ref (E.2.2 x0))] [] z) : WM G l E S 0 [(0, .ref (E.2.2 x0))] [] mm := by
  unfold bX8_token_0 at h
  refine x_aload_n C (dq DX8_token 0 rfl) rfl 0 rfl ?_
  refine callX8_127 C (dq DX8_token 1 rfl) h (by decide) (by decide) (Nat.le_of_ble_eq_true rfl) (fun a1 h => ?_)
  refine x_bipush (v := 10) C (dq DX8_token 2 rfl) (by decide) ?_
  refine x_icmp_eq (tgt := 18) C (dq DX8_token 3 rfl) (by decide) h (fun h => ?_) (fun h => ?_)
  · exact x_lv [0] rfl (tX8_token_18 C g0 h kb kx)
  · refine x_pc 9 rfl ?_
    refine x_aload_n C (dq DX8_token 4 rfl) rfl 0 rfl ?_
    refine callX8_127 C (dq DX8_token 5 rfl) h (by decide) (by decide) (Nat.le_of_ble_eq_true rfl) (fun a3 h => ?_)
    refine x_bipush (v := 32) C (dq DX8_token 6 rfl) (by decide) ?_
    refine x_icmp_ne (tgt := 31) C (dq DX8_token 7 rfl) (by decide) h (fun h => ?_) (fun h => ?_)
    · cases h
      exact x_lv [0] rfl (kx (mm) rfl)
    · exact x_lv [0] rfl (tX8_token_18 C g0 h kb kx)
set_option maxHeartbeats 1000000 in
theorem tX8_token_245 {G : Gt} {l : Launch} {E : Ev} {S : List Sh} {mm : Mm} {x0 : Nat}  {r : Mm} (C : Cx G E cX8_token 2 RX8 none 5 108) (g0 : isC S x0 8) (h : jX8_token_245 S mm x0 = some r) (hQ : RQ G E S none r) : WM G l E S 245 [(0, .ref (E.2.2 x0))] [] mm := by
  unfold jX8_token_245 at h
  cases h
  exact x_vret C (dq DX8_token 124 rfl) hQ
set_option maxHeartbeats 1000000 in
theorem tX8_token_232 {G : Gt} {l : Launch} {E : Ev} {S : List Sh} {mm : Mm} {x0 : Nat} {p0 : Nat} {p1 : Int32} {r : Mm} (C : Cx G E cX8_token 2 RX8 none 5 108) (g0 : isC S x0 8) (h : jX8_token_232 S mm x0 p0 p1 = some r) (hQ : RQ G E S none r) : WM G l E S 232 [(0, .ref (E.2.2 x0))] [.int p1, .ref (E.2.2 p0)] mm := by
  unfold jX8_token_232 at h
  obtain ⟨g10, h⟩ := gd_some h
  refine putX8_134 C (dq DX8_token 117 rfl) g10 h (fun m11 h => ?_)
  refine x_aload_n C (dq DX8_token 118 rfl) rfl 0 rfl ?_
  refine x_dup C (dq DX8_token 119 rfl) rfl ?_
  refine getX8_121 C (dq DX8_token 120 rfl) g0 ?_
  refine x_pc 240 rfl ?_
  refine x_iconst (v := 1) C (dq DX8_token 121 rfl) (by decide) ?_
  refine x_iadd C (dq DX8_token 122 rfl) ?_
  refine putX8_121 C (dq DX8_token 123 rfl) g0 h (fun m12 h => ?_)
  exact x_lv [0] rfl (tX8_token_245 C g0 h hQ)
set_option maxHeartbeats 1000000 in
theorem tX8_token_204 {G : Gt} {l : Launch} {E : Ev} {S : List Sh} {mm : Mm} {x0 : Nat} {p0 : Nat} {p1 : Int32} {r : (Mm) ⊕ (Mm)} (C : Cx G E cX8_token 2 RX8 none 5 108) (g0 : isC S x0 8) (h : jX8_token_204 S mm x0 p0 p1 = some r) (kb : ∀ z : Mm, r = .inl z → WM G l E S 162 [(0, .ref (E.2.2 x0))] [] z) (kx : ∀ z : Mm, r = .inr z → WM G l E S 245 [(0, .ref (E.2.2 x0))] [] z) : WM G l E S 204 [(0, .ref (E.2.2 x0))] [.int p1, .ref (E.2.2 p0)] mm := by
  unfold jX8_token_204 at h
  obtain ⟨g18, h⟩ := gd_some h
  refine putX8_144 C (dq DX8_token 102 rfl) g18 h (fun m19 h => ?_)
  refine x_aload_n C (dq DX8_token 103 rfl) rfl 0 rfl ?_
  refine x_dup C (dq DX8_token 104 rfl) rfl ?_
  refine getX8_121 C (dq DX8_token 105 rfl) g0 ?_
  refine x_pc 212 rfl ?_
  refine x_iconst (v := 1) C (dq DX8_token 106 rfl) (by decide) ?_
  refine x_iadd C (dq DX8_token 107 rfl) ?_
  refine putX8_121 C (dq DX8_token 108 rfl) g0 h (fun m20 h => ?_)
  refine x_goto (tgt := 162) C (dq DX8_token 109 rfl) (by decide) ?_
  cases h
  exact x_lv [0] rfl (kb (m20) rfl)
set_option maxHeartbeats 1000000 in
theorem tX8_token_162 {G : Gt} {l : Launch} {E : Ev} {S : List Sh} {x0 : Nat}  {mm : Mm} {r : (Mm) ⊕ (Mm)} (C : Cx G E cX8_token 2 RX8 none 5 108) (g0 : isC S x0 8) (h : bX8_token_162 S x0 mm = some r) (kb : ∀ z : Mm, r = .inl z → WM G l E S 162 [(0, .ref (E.2.2 x0))] [] z) (kx : ∀ z : Mm, r = .inr z → WM G l E S 245 [(0, .ref (E.2.2 x0))] [] z) : WM G l E S 162 [(0, .ref (E.2.2 x0))] [] mm := by
  unfold bX8_token_162 at h
  refine x_aload_n C (dq DX8_token 81 rfl) rfl 0 rfl ?_
  refine callX8_127 C (dq DX8_token 82 rfl) h (by decide) (by decide) (Nat.le_of_ble_eq_true rfl) (fun a15 h => ?_)
  refine callX8_150 C (dq DX8_token 83 rfl) h (by decide) (by decide) (Nat.le_of_ble_eq_true rfl) (fun a16 h => ?_)
  refine x_if_eq (tgt := 245) C (dq DX8_token 84 rfl) (by decide) h (fun h => ?_) (fun h => ?_)
  · cases h
    exact x_lv [0] rfl (kx (mm) rfl)
  · refine x_pc 172 rfl ?_
    refine x_aload_n C (dq DX8_token 85 rfl) rfl 0 rfl ?_
    refine x_aload_n C (dq DX8_token 86 rfl) rfl 0 rfl ?_
    refine getX8_144 C (dq DX8_token 87 rfl) g0 ?_
    refine x_ldc (v := 99999) C (dq DX8_token 88 rfl) (gmem 1101 (by decide +kernel) rfl) ?_
    refine x_icmp_le (tgt := 189) C (dq DX8_token 89 rfl) (by decide) h (fun h => ?_) (fun h => ?_)
    · refine x_pc 189 rfl ?_
      refine x_bipush (v := 10) C (dq DX8_token 93 rfl) (by decide) ?_
      refine x_aload_n C (dq DX8_token 94 rfl) rfl 0 rfl ?_
      refine getX8_144 C (dq DX8_token 95 rfl) g0 ?_
      refine x_imul C (dq DX8_token 96 rfl) ?_
      refine x_aload_n C (dq DX8_token 97 rfl) rfl 0 rfl ?_
      refine x_pc 197 rfl ?_
      refine callX8_127 C (dq DX8_token 98 rfl) h (by decide) (by decide) (Nat.le_of_ble_eq_true rfl) (fun a17 h => ?_)
      refine x_iadd C (dq DX8_token 99 rfl) ?_
      refine x_bipush (v := 48) C (dq DX8_token 100 rfl) (by decide) ?_
      refine x_isub C (dq DX8_token 101 rfl) ?_
      exact x_lv [0] rfl (tX8_token_204 C g0 h kb kx)
    · refine x_pc 182 rfl ?_
      refine x_aload_n C (dq DX8_token 90 rfl) rfl 0 rfl ?_
      refine getX8_144 C (dq DX8_token 91 rfl) g0 ?_
      refine x_goto (tgt := 204) C (dq DX8_token 92 rfl) (by decide) ?_
      exact x_lv [0] rfl (tX8_token_204 C g0 h kb kx)
set_option maxHeartbeats 1000000 in
theorem tX8_token_64 {G : Gt} {l : Launch} {E : Ev} {S : List Sh} {x0 : Nat}  {mm : Mm} {r : (Mm) ⊕ (Mm)} (C : Cx G E cX8_token 2 RX8 none 5 108) (g0 : isC S x0 8) (h : bX8_token_64 S x0 mm = some r) (kb : ∀ z : Mm, r = .inl z → WM G l E S 64 [(0, .ref (E.2.2 x0))] [] z) (kx : ∀ z : Mm, r = .inr z → WM G l E S 87 [(0, .ref (E.2.2 x0))] [] z) : WM G l E S 64 [(0, .ref (E.2.2 x0))] [] mm := by
  unfold bX8_token_64 at h
  refine x_aload_n C (dq DX8_token 32 rfl) rfl 0 rfl ?_
  refine callX8_127 C (dq DX8_token 33 rfl) h (by decide) (by decide) (Nat.le_of_ble_eq_true rfl) (fun a23 h => ?_)
  refine callX8_137 C (dq DX8_token 34 rfl) h (by decide) (by decide) (Nat.le_of_ble_eq_true rfl) (fun a24 h => ?_)
  refine x_if_eq (tgt := 87) C (dq DX8_token 35 rfl) (by decide) h (fun h => ?_) (fun h => ?_)
  · cases h
    exact x_lv [0] rfl (kx (mm) rfl)
  · refine x_pc 74 rfl ?_
    refine x_aload_n C (dq DX8_token 36 rfl) rfl 0 rfl ?_
    refine x_dup C (dq DX8_token 37 rfl) rfl ?_
    refine getX8_121 C (dq DX8_token 38 rfl) g0 ?_
    refine x_iconst (v := 1) C (dq DX8_token 39 rfl) (by decide) ?_
    refine x_iadd C (dq DX8_token 40 rfl) ?_
    refine x_pc 81 rfl ?_
    refine putX8_121 C (dq DX8_token 41 rfl) g0 h (fun m25 h => ?_)
    refine x_goto (tgt := 64) C (dq DX8_token 42 rfl) (by decide) ?_
    cases h
    exact x_lv [0] rfl (kb (m25) rfl)
set_option maxHeartbeats 1000000 in
theorem tX8_token_127 {G : Gt} {l : Launch} {E : Ev} {S : List Sh} {mm : Mm} {x0 : Nat} {p0 : Nat} {p1 : Int32} {r : Mm} (C : Cx G E cX8_token 2 RX8 none 5 108) (g0 : isC S x0 8) (h : jX8_token_127 S mm x0 p0 p1 = some r) (hQ : RQ G E S none r) : WM G l E S 127 [(0, .ref (E.2.2 x0))] [.int p1, .ref (E.2.2 p0)] mm := by
  unfold jX8_token_127 at h
  obtain ⟨g30, h⟩ := gd_some h
  refine putX8_134 C (dq DX8_token 64 rfl) g30 h (fun m31 h => ?_)
  refine x_aload_n C (dq DX8_token 65 rfl) rfl 0 rfl ?_
  refine getX8_134 C (dq DX8_token 66 rfl) g0 ?_
  refine x_iconst (v := 1) C (dq DX8_token 67 rfl) (by decide) ?_
  refine x_pc 135 rfl ?_
  refine x_icmp_ne (tgt := 245) C (dq DX8_token 68 rfl) (by decide) h (fun h => ?_) (fun h => ?_)
  · exact x_lv [0] rfl (tX8_token_245 C g0 h hQ)
  · refine x_aload_n C (dq DX8_token 69 rfl) rfl 0 rfl ?_
    refine callX8_147 C (dq DX8_token 70 rfl) h (by decide) (by decide) (Nat.le_of_ble_eq_true rfl) (fun m32 h => ?_)
    refine x_goto (tgt := 245) C (dq DX8_token 71 rfl) (by decide) ?_
    exact x_lv [0] rfl (tX8_token_245 C g0 h hQ)
set_option maxHeartbeats 1000000 in
theorem mX8_token {l : Launch} {E : Ev} {S : List Sh} {mm : Mm} {x0 : Nat} {r : Mm} (h : fX8_token S mm x0 = some r) : Ml l E S yX8_token cX8_token 2 none 5 108 [.ref (E.2.2 x0)] mm none r := by
  refine Ml.of (by decide +kernel) (Nat.le_of_ble_eq_true rfl) (fun G C hQ => ?_)
  have C : Cx G E cX8_token 2 RX8 none 5 108 := C
  unfold fX8_token at h
  obtain ⟨g0, h⟩ := gd_some h
  show WM G l E S 0 [(0, .ref (E.2.2 x0))] [] mm
  refine x_lv [0] rfl ?_
  refine x_loop (s0 := mm) (fun s4 => WM G l E S 0 [(0, .ref (E.2.2 x0))] [] s4) h (fun s4 r hb kb kx => tX8_token_0 C g0 hb kb (fun y5 hy => ?_))
  have h := kx y5 hy
  clear kx kb hb hy
  refine x_aload_n C (dq DX8_token 15 rfl) rfl 0 rfl ?_
  refine x_aload_n C (dq DX8_token 16 rfl) rfl 0 rfl ?_
  refine getX8_121 C (dq DX8_token 17 rfl) g0 ?_
  refine putX8_131 C (dq DX8_token 18 rfl) g0 h (fun m6 h => ?_)
  refine x_pc 39 rfl ?_
  refine x_aload_n C (dq DX8_token 19 rfl) rfl 0 rfl ?_
  refine callX8_127 C (dq DX8_token 20 rfl) h (by decide) (by decide) (Nat.le_of_ble_eq_true rfl) (fun a7 h => ?_)
  refine x_istore_n (lv' := [(1, .int a7), (0, .ref (E.2.2 x0))]) C (dq DX8_token 21 rfl) rfl (by decide) rfl ?_
  refine x_iload_n C (dq DX8_token 22 rfl) rfl 0 rfl ?_
  refine x_iconst (v := (-1)) C (dq DX8_token 23 rfl) (by decide) ?_
  refine x_pc 46 rfl ?_
  refine x_icmp_ne (tgt := 57) C (dq DX8_token 24 rfl) (by decide) h (fun h => ?_) (fun h => ?_)
  · refine x_iload_n C (dq DX8_token 29 rfl) rfl 0 rfl ?_
    refine callX8_137 C (dq DX8_token 30 rfl) h (by decide) (by decide) (Nat.le_of_ble_eq_true rfl) (fun a8 h => ?_)
    refine x_if_eq (tgt := 145) C (dq DX8_token 31 rfl) (by decide) h (fun h => ?_) (fun h => ?_)
    · refine x_iload_n C (dq DX8_token 72 rfl) rfl 0 rfl ?_
      refine x_pc 146 rfl ?_
      refine callX8_150 C (dq DX8_token 73 rfl) h (by decide) (by decide) (Nat.le_of_ble_eq_true rfl) (fun a9 h => ?_)
      refine x_if_eq (tgt := 220) C (dq DX8_token 74 rfl) (by decide) h (fun h => ?_) (fun h => ?_)
      · refine x_aload_n C (dq DX8_token 110 rfl) rfl 1 rfl ?_
        refine x_iload_n C (dq DX8_token 111 rfl) rfl 0 rfl ?_
        refine x_bipush (v := 59) C (dq DX8_token 112 rfl) (by decide) ?_
        refine x_pc 224 rfl ?_
        refine x_icmp_ne (tgt := 231) C (dq DX8_token 113 rfl) (by decide) h (fun h => ?_) (fun h => ?_)
        · refine x_iconst (v := 5) C (dq DX8_token 116 rfl) (by decide) ?_
          exact x_lv [1] rfl (tX8_token_232 C g0 h hQ)
        · refine x_iconst (v := 3) C (dq DX8_token 114 rfl) (by decide) ?_
          refine x_goto (tgt := 232) C (dq DX8_token 115 rfl) (by decide) ?_
          exact x_lv [1] rfl (tX8_token_232 C g0 h hQ)
      · refine x_aload_n C (dq DX8_token 75 rfl) rfl 1 rfl ?_
        refine x_iconst (v := 2) C (dq DX8_token 76 rfl) (by decide) ?_
        refine putX8_134 C (dq DX8_token 77 rfl) g0 h (fun m13 h => ?_)
        refine x_pc 157 rfl ?_
        refine x_aload_n C (dq DX8_token 78 rfl) rfl 1 rfl ?_
        refine x_iconst (v := 0) C (dq DX8_token 79 rfl) (by decide) ?_
        refine putX8_144 C (dq DX8_token 80 rfl) g0 h (fun m14 h => ?_)
        refine x_lv [1] rfl ?_
        refine x_loop (s0 := m14) (fun s21 => WM G l E S 162 [(0, .ref (E.2.2 x0))] [] s21) h (fun s21 r hb kb kx => tX8_token_162 C g0 hb kb (fun y22 hy => ?_))
        have h := kx y22 hy
        clear kx kb hb hy
        exact x_lv [0] rfl (tX8_token_245 C g0 h hQ)
    · refine x_lv [1] rfl ?_
      refine x_loop (s0 := m6) (fun s26 => WM G l E S 64 [(0, .ref (E.2.2 x0))] [] s26) h (fun s26 r hb kb kx => tX8_token_64 C g0 hb kb (fun y27 hy => ?_))
      have h := kx y27 hy
      clear kx kb hb hy
      refine x_aload_n C (dq DX8_token 43 rfl) rfl 0 rfl ?_
      refine x_pc 88 rfl ?_
      refine x_aload_n C (dq DX8_token 44 rfl) rfl 0 rfl ?_
      refine callX8_141 C (dq DX8_token 45 rfl) h (by decide) (by decide) (Nat.le_of_ble_eq_true rfl) (fun a28 h => ?_)
      refine putX8_144 C (dq DX8_token 46 rfl) g0 h (fun m29 h => ?_)
      refine x_aload_n C (dq DX8_token 47 rfl) rfl 0 rfl ?_
      refine x_aload_n C (dq DX8_token 48 rfl) rfl 0 rfl ?_
      refine x_pc 97 rfl ?_
      refine getX8_144 C (dq DX8_token 49 rfl) g0 ?_
      refine x_iconst (v := (-1)) C (dq DX8_token 50 rfl) (by decide) ?_
      refine x_icmp_eq (tgt := 108) C (dq DX8_token 51 rfl) (by decide) h (fun h => ?_) (fun h => ?_)
      · refine x_aload_n C (dq DX8_token 54 rfl) rfl 0 rfl ?_
        refine getX8_121 C (dq DX8_token 55 rfl) g0 ?_
        refine x_pc 112 rfl ?_
        refine x_aload_n C (dq DX8_token 56 rfl) rfl 0 rfl ?_
        refine getX8_131 C (dq DX8_token 57 rfl) g0 ?_
        refine x_isub C (dq DX8_token 58 rfl) ?_
        refine x_bipush (v := 6) C (dq DX8_token 59 rfl) (by decide) ?_
        refine x_icmp_le (tgt := 126) C (dq DX8_token 60 rfl) (by decide) h (fun h => ?_) (fun h => ?_)
        · refine x_pc 126 rfl ?_
          refine x_iconst (v := 1) C (dq DX8_token 63 rfl) (by decide) ?_
          exact x_lv [0] rfl (tX8_token_127 C g0 h hQ)
        · refine x_pc 122 rfl ?_
          refine x_iconst (v := 5) C (dq DX8_token 61 rfl) (by decide) ?_
          refine x_goto (tgt := 127) C (dq DX8_token 62 rfl) (by decide) ?_
          exact x_lv [0] rfl (tX8_token_127 C g0 h hQ)
      · refine x_iconst (v := 0) C (dq DX8_token 52 rfl) (by decide) ?_
        refine x_goto (tgt := 127) C (dq DX8_token 53 rfl) (by decide) ?_
        exact x_lv [0] rfl (tX8_token_127 C g0 h hQ)
  · refine x_aload_n C (dq DX8_token 25 rfl) rfl 1 rfl ?_
    refine x_iconst (v := 4) C (dq DX8_token 26 rfl) (by decide) ?_
    refine putX8_134 C (dq DX8_token 27 rfl) g0 h (fun m33 h => ?_)
    refine x_goto (tgt := 245) C (dq DX8_token 28 rfl) (by decide) ?_
    exact x_lv [1] rfl (tX8_token_245 C g0 h hQ)
set_option maxHeartbeats 1000000 in
theorem qX8_token {S : List Sh} {mm : Mm} {x0 : Nat} {r : Mm} (h : fX8_token S mm x0 = some r) : isC S x0 8 := by
  unfold fX8_token at h
  exact (gd_some h).1
theorem callX8_171 {G : Gt} {l : Launch} {E : Ev} {S : List Sh} {cc : ByteArray} {nL : Nat} {rt : Option FieldType} {fr lo : Nat} {pc : Nat} {lv : List (Nat × Value)} {rest : List Value} {mm : Mm} {α : Type} {f : Mm → Option α} {r : α} {o : Nat} (C : Cx G E cc nL RX8 rt fr lo) (d : decode cc pc = .ok (.invokevirtual 171, 3)) (h : bd1 (fX8_token S mm o) f = some r) (hfr : 6 ≤ fr) (hlo : 129 ≤ lo) (hrs : (rest.map fun v => v.category).sum ≤ 8) (k : ∀ m1, f m1 = some r → WM G l E S (pc + 3) lv rest m1) : WM G l E S pc lv (.ref (E.2.2 o) :: rest) mm := by
  obtain ⟨m1, hv, hf⟩ := bd1_some h
  exact x_callV (n := 0) (As := []) (rest := rest) C (mX8_token hv) (qX8_token hv) (T := TX8) (N := 49) rfl (gmem 1030 (by decide +kernel) rfl) (gmem 1032 (by decide +kernel) rfl) (gmemS 46 (by decide +kernel) rfl) (gmem 9 (by decide +kernel) rfl) (gmem 1033 (by decide +kernel) rfl) (by decide +kernel) rfl hfr hlo hrs d rfl rfl (k m1 hf)
abbrev eX8_goOn : List (Nat × Instr × Nat) := [(0, .aload_n 0, 1), (1, .getfield 165, 3), (4, .ifCond .ne 7, 3), (7, .aload_n 0, 1), (8, .invokevirtual 171, 3), (11, .return_, 1)]
theorem DX8_goOn : (eX8_goOn.all fun q => decide (decode cX8_goOn q.1 = .ok q.2)) = true := by decide +kernel
def jX8_goOn_11 (S : List Sh) (mm : Mm) (x0 : Nat)  : Option (Mm) := some mm
def fX8_goOn (S : List Sh) (mm : Mm) (x0 : Nat) : Option (Mm) := gd S x0 8 (if ¬ (mm.1 x0 22) = 0 then (jX8_goOn_11 S mm x0) else (bd1 (fX8_token S mm x0) fun m1 => jX8_goOn_11 S m1 x0))
set_option maxHeartbeats 1000000 in
theorem tX8_goOn_11 {G : Gt} {l : Launch} {E : Ev} {S : List Sh} {mm : Mm} {x0 : Nat}  {r : Mm} (C : Cx G E cX8_goOn 1 RX8 none 6 129) (g0 : isC S x0 8) (h : jX8_goOn_11 S mm x0 = some r) (hQ : RQ G E S none r) : WM G l E S 11 [(0, .ref (E.2.2 x0))] [] mm := by
  unfold jX8_goOn_11 at h
  cases h
  exact x_vret C (dq DX8_goOn 5 rfl) hQ
set_option maxHeartbeats 1000000 in
theorem mX8_goOn {l : Launch} {E : Ev} {S : List Sh} {mm : Mm} {x0 : Nat} {r : Mm} (h : fX8_goOn S mm x0 = some r) : Ml l E S yX8_goOn cX8_goOn 1 none 6 129 [.ref (E.2.2 x0)] mm none r := by
  refine Ml.of (by decide +kernel) (Nat.le_of_ble_eq_true rfl) (fun G C hQ => ?_)
  have C : Cx G E cX8_goOn 1 RX8 none 6 129 := C
  unfold fX8_goOn at h
  obtain ⟨g0, h⟩ := gd_some h
  show WM G l E S 0 [(0, .ref (E.2.2 x0))] [] mm
  refine x_aload_n C (dq DX8_goOn 0 rfl) rfl 0 rfl ?_
  refine getX8_165 C (dq DX8_goOn 1 rfl) g0 ?_
  refine x_if_ne (tgt := 11) C (dq DX8_goOn 2 rfl) (by decide) h (fun h => ?_) (fun h => ?_)
  · exact x_lv [0] rfl (tX8_goOn_11 C g0 h hQ)
  · refine x_aload_n C (dq DX8_goOn 3 rfl) rfl 0 rfl ?_
    refine x_pc 8 rfl ?_
    refine callX8_171 C (dq DX8_goOn 4 rfl) h (by decide) (by decide) (Nat.le_of_ble_eq_true rfl) (fun m1 h => ?_)
    exact x_lv [0] rfl (tX8_goOn_11 C g0 h hQ)
set_option maxHeartbeats 1000000 in
theorem qX8_goOn {S : List Sh} {mm : Mm} {x0 : Nat} {r : Mm} (h : fX8_goOn S mm x0 = some r) : isC S x0 8 := by
  unfold fX8_goOn at h
  exact (gd_some h).1
theorem callX8_174 {G : Gt} {l : Launch} {E : Ev} {S : List Sh} {cc : ByteArray} {nL : Nat} {rt : Option FieldType} {fr lo : Nat} {pc : Nat} {lv : List (Nat × Value)} {rest : List Value} {mm : Mm} {α : Type} {f : Mm → Option α} {r : α} {o : Nat} {a0 : Int32} (C : Cx G E cc nL RX8 rt fr lo) (d : decode cc pc = .ok (.invokevirtual 174, 3)) (h : bd1 (fX8_wrong S mm o a0) f = some r) (hfr : 1 ≤ fr) (hlo : 21 ≤ lo) (hrs : (rest.map fun v => v.category).sum ≤ 8) (k : ∀ m1, f m1 = some r → WM G l E S (pc + 3) lv rest m1) : WM G l E S pc lv (.int a0 :: .ref (E.2.2 o) :: rest) mm := by
  obtain ⟨m1, hv, hf⟩ := bd1_some h
  exact x_callV (n := 1) (As := [.int a0]) (rest := rest) C (mX8_wrong hv) (qX8_wrong hv) (T := TX8) (N := 49) rfl (gmem 1106 (by decide +kernel) rfl) (gmem 1108 (by decide +kernel) rfl) (gmemS 51 (by decide +kernel) rfl) (gmem 9 (by decide +kernel) rfl) (gmem 1109 (by decide +kernel) rfl) (by decide +kernel) rfl hfr hlo hrs d rfl rfl (k m1 hf)
theorem callX8_178 {G : Gt} {l : Launch} {E : Ev} {S : List Sh} {cc : ByteArray} {nL : Nat} {rt : Option FieldType} {fr lo : Nat} {pc : Nat} {lv : List (Nat × Value)} {rest : List Value} {mm : Mm} {α : Type} {f : Mm → Option α} {r : α} {o : Nat} (C : Cx G E cc nL RX8 rt fr lo) (d : decode cc pc = .ok (.invokevirtual 178, 3)) (h : bd1 (fX8_goOn S mm o) f = some r) (hfr : 7 ≤ fr) (hlo : 149 ≤ lo) (hrs : (rest.map fun v => v.category).sum ≤ 8) (k : ∀ m1, f m1 = some r → WM G l E S (pc + 3) lv rest m1) : WM G l E S pc lv (.ref (E.2.2 o) :: rest) mm := by
  obtain ⟨m1, hv, hf⟩ := bd1_some h
  exact x_callV (n := 0) (As := []) (rest := rest) C (mX8_goOn hv) (qX8_goOn hv) (T := TX8) (N := 49) rfl (gmem 1118 (by decide +kernel) rfl) (gmem 1120 (by decide +kernel) rfl) (gmemS 54 (by decide +kernel) rfl) (gmem 9 (by decide +kernel) rfl) (gmem 1121 (by decide +kernel) rfl) (by decide +kernel) rfl hfr hlo hrs d rfl rfl (k m1 hf)
abbrev eX8_numeral : List (Nat × Instr × Nat) := [(0, .aload_n 0, 1), (1, .getfield 165, 3), (4, .ifCond .eq 5, 3), (7, .iload_n 1, 1), (8, .ireturn, 1), (9, .aload_n 0, 1), (10, .getfield 134, 3), (13, .iconst 2, 1), (14, .if_icmp .eq 11, 3), (17, .aload_n 0, 1), (18, .iconst 1, 1), (19, .invokevirtual 174, 3), (22, .goto 24, 3), (25, .aload_n 0, 1), (26, .getfield 144, 3), (29, .iload_n 1, 1), (30, .if_icmp .lt 11, 3), (33, .aload_n 0, 1), (34, .getfield 144, 3), (37, .iload_n 2, 1), (38, .if_icmp .le 8, 3), (41, .aload_n 0, 1), (42, .iconst 2, 1), (43, .invokevirtual 174, 3), (46, .aload_n 0, 1), (47, .getfield 165, 3), (50, .ifCond .ne 10, 3), (53, .aload_n 0, 1), (54, .getfield 144, 3), (57, .goto 4, 3), (60, .iload_n 1, 1), (61, .istore_n 3, 1), (62, .aload_n 0, 1), (63, .invokevirtual 178, 3), (66, .iload_n 3, 1), (67, .ireturn, 1)]
theorem DX8_numeral : (eX8_numeral.all fun q => decide (decode cX8_numeral q.1 = .ok q.2)) = true := by decide +kernel
def jX8_numeral_61 (S : List Sh) (mm : Mm) (x0 : Nat) (p0 : Int32) : Option (Int32 × Mm) := bd1 (fX8_goOn S mm x0) fun m2 => some (p0, m2)
def jX8_numeral_46 (S : List Sh) (mm : Mm) (x0 : Nat) (x1 : Int32)  : Option (Int32 × Mm) := if ¬ (mm.1 x0 22) = 0 then (jX8_numeral_61 S mm x0 x1) else (jX8_numeral_61 S mm x0 (mm.1 x0 21))
def jX8_numeral_41 (S : List Sh) (mm : Mm) (x0 : Nat) (x1 : Int32)  : Option (Int32 × Mm) := bd1 (fX8_wrong S mm x0 2) fun m1 => jX8_numeral_46 S m1 x0 x1
def fX8_numeral (S : List Sh) (mm : Mm) (x0 : Nat) (x1 : Int32) (x2 : Int32) : Option (Int32 × Mm) := gd S x0 8 (if (mm.1 x0 22) = 0 then (if (mm.1 x0 20) = 2 then (if (mm.1 x0 21) < x1 then (jX8_numeral_41 S mm x0 x1) else (if (mm.1 x0 21) ≤ x2 then (jX8_numeral_46 S mm x0 x1) else (jX8_numeral_41 S mm x0 x1))) else (bd1 (fX8_wrong S mm x0 1) fun m3 => jX8_numeral_46 S m3 x0 x1)) else (some (x1, mm)))
set_option maxHeartbeats 1000000 in
theorem tX8_numeral_61 {G : Gt} {l : Launch} {E : Ev} {S : List Sh} {mm : Mm} {x0 : Nat} {p0 : Int32} {r : Int32 × Mm} (C : Cx G E cX8_numeral 4 RX8 (some .int) 7 149) (g0 : isC S x0 8) (h : jX8_numeral_61 S mm x0 p0 = some r) (hQ : RQ G E S (some (.int r.1)) r.2) : WM G l E S 61 [(0, .ref (E.2.2 x0))] [.int p0] mm := by
  unfold jX8_numeral_61 at h
  refine x_istore_n (lv' := [(3, .int p0), (0, .ref (E.2.2 x0))]) C (dq DX8_numeral 31 rfl) rfl (by decide) rfl ?_
  refine x_aload_n C (dq DX8_numeral 32 rfl) rfl 1 rfl ?_
  refine callX8_178 C (dq DX8_numeral 33 rfl) h (by decide) (by decide) (Nat.le_of_ble_eq_true rfl) (fun m2 h => ?_)
  refine x_iload_n C (dq DX8_numeral 34 rfl) rfl 0 rfl ?_
  refine x_pc 67 rfl ?_
  cases h
  exact x_iret C (dq DX8_numeral 35 rfl) hQ
set_option maxHeartbeats 1000000 in
theorem tX8_numeral_46 {G : Gt} {l : Launch} {E : Ev} {S : List Sh} {mm : Mm} {x0 : Nat} {x1 : Int32}  {r : Int32 × Mm} (C : Cx G E cX8_numeral 4 RX8 (some .int) 7 149) (g0 : isC S x0 8) (h : jX8_numeral_46 S mm x0 x1 = some r) (hQ : RQ G E S (some (.int r.1)) r.2) : WM G l E S 46 [(0, .ref (E.2.2 x0)), (1, .int x1)] [] mm := by
  unfold jX8_numeral_46 at h
  refine x_aload_n C (dq DX8_numeral 24 rfl) rfl 0 rfl ?_
  refine getX8_165 C (dq DX8_numeral 25 rfl) g0 ?_
  refine x_if_ne (tgt := 60) C (dq DX8_numeral 26 rfl) (by decide) h (fun h => ?_) (fun h => ?_)
  · refine x_iload_n C (dq DX8_numeral 30 rfl) rfl 1 rfl ?_
    exact x_lv [0] rfl (tX8_numeral_61 C g0 h hQ)
  · refine x_aload_n C (dq DX8_numeral 27 rfl) rfl 0 rfl ?_
    refine x_pc 54 rfl ?_
    refine getX8_144 C (dq DX8_numeral 28 rfl) g0 ?_
    refine x_goto (tgt := 61) C (dq DX8_numeral 29 rfl) (by decide) ?_
    exact x_lv [0] rfl (tX8_numeral_61 C g0 h hQ)
set_option maxHeartbeats 1000000 in
theorem tX8_numeral_41 {G : Gt} {l : Launch} {E : Ev} {S : List Sh} {mm : Mm} {x0 : Nat} {x1 : Int32}  {r : Int32 × Mm} (C : Cx G E cX8_numeral 4 RX8 (some .int) 7 149) (g0 : isC S x0 8) (h : jX8_numeral_41 S mm x0 x1 = some r) (hQ : RQ G E S (some (.int r.1)) r.2) : WM G l E S 41 [(0, .ref (E.2.2 x0)), (1, .int x1)] [] mm := by
  unfold jX8_numeral_41 at h
  refine x_aload_n C (dq DX8_numeral 21 rfl) rfl 0 rfl ?_
  refine x_iconst (v := 2) C (dq DX8_numeral 22 rfl) (by decide) ?_
  refine callX8_174 C (dq DX8_numeral 23 rfl) h (by decide) (by decide) (Nat.le_of_ble_eq_true rfl) (fun m1 h => ?_)
  exact x_lv [0, 1] rfl (tX8_numeral_46 C g0 h hQ)
set_option maxHeartbeats 1000000 in
theorem mX8_numeral {l : Launch} {E : Ev} {S : List Sh} {mm : Mm} {x0 : Nat} {x1 : Int32} {x2 : Int32} {r : Int32 × Mm} (h : fX8_numeral S mm x0 x1 x2 = some r) : Ml l E S yX8_numeral cX8_numeral 4 (some .int) 7 149 [.ref (E.2.2 x0), .int x1, .int x2] mm (some (.int r.1)) r.2 := by
  refine Ml.of (by decide +kernel) (Nat.le_of_ble_eq_true rfl) (fun G C hQ => ?_)
  have C : Cx G E cX8_numeral 4 RX8 (some .int) 7 149 := C
  unfold fX8_numeral at h
  obtain ⟨g0, h⟩ := gd_some h
  show WM G l E S 0 [(0, .ref (E.2.2 x0)), (1, .int x1), (2, .int x2)] [] mm
  refine x_aload_n C (dq DX8_numeral 0 rfl) rfl 0 rfl ?_
  refine getX8_165 C (dq DX8_numeral 1 rfl) g0 ?_
  refine x_if_eq (tgt := 9) C (dq DX8_numeral 2 rfl) (by decide) h (fun h => ?_) (fun h => ?_)
  · refine x_aload_n C (dq DX8_numeral 5 rfl) rfl 0 rfl ?_
    refine x_pc 10 rfl ?_
    refine getX8_134 C (dq DX8_numeral 6 rfl) g0 ?_
    refine x_iconst (v := 2) C (dq DX8_numeral 7 rfl) (by decide) ?_
    refine x_icmp_eq (tgt := 25) C (dq DX8_numeral 8 rfl) (by decide) h (fun h => ?_) (fun h => ?_)
    · refine x_aload_n C (dq DX8_numeral 13 rfl) rfl 0 rfl ?_
      refine getX8_144 C (dq DX8_numeral 14 rfl) g0 ?_
      refine x_pc 29 rfl ?_
      refine x_iload_n C (dq DX8_numeral 15 rfl) rfl 1 rfl ?_
      refine x_icmp_lt (tgt := 41) C (dq DX8_numeral 16 rfl) (by decide) h (fun h => ?_) (fun h => ?_)
      · exact x_lv [0, 1] rfl (tX8_numeral_41 C g0 h hQ)
      · refine x_aload_n C (dq DX8_numeral 17 rfl) rfl 0 rfl ?_
        refine getX8_144 C (dq DX8_numeral 18 rfl) g0 ?_
        refine x_iload_n C (dq DX8_numeral 19 rfl) rfl 2 rfl ?_
        refine x_pc 38 rfl ?_
        refine x_icmp_le (tgt := 46) C (dq DX8_numeral 20 rfl) (by decide) h (fun h => ?_) (fun h => ?_)
        · exact x_lv [0, 1] rfl (tX8_numeral_46 C g0 h hQ)
        · exact x_lv [0, 1] rfl (tX8_numeral_41 C g0 h hQ)
    · refine x_aload_n C (dq DX8_numeral 9 rfl) rfl 0 rfl ?_
      refine x_iconst (v := 1) C (dq DX8_numeral 10 rfl) (by decide) ?_
      refine x_pc 19 rfl ?_
      refine callX8_174 C (dq DX8_numeral 11 rfl) h (by decide) (by decide) (Nat.le_of_ble_eq_true rfl) (fun m3 h => ?_)
      refine x_goto (tgt := 46) C (dq DX8_numeral 12 rfl) (by decide) ?_
      exact x_lv [0, 1] rfl (tX8_numeral_46 C g0 h hQ)
  · refine x_iload_n C (dq DX8_numeral 3 rfl) rfl 1 rfl ?_
    refine x_pc 8 rfl ?_
    cases h
    exact x_iret C (dq DX8_numeral 4 rfl) hQ
set_option maxHeartbeats 1000000 in
theorem qX8_numeral {S : List Sh} {mm : Mm} {x0 : Nat} {x1 : Int32} {x2 : Int32} {r : Int32 × Mm} (h : fX8_numeral S mm x0 x1 x2 = some r) : isC S x0 8 := by
  unfold fX8_numeral at h
  exact (gd_some h).1
abbrev eX8_once : List (Nat × Instr × Nat) := [(0, .aload_n 0, 1), (1, .getfield 16, 3), (4, .iload_n 1, 1), (5, .baload, 1), (6, .ifCond .eq 8, 3), (9, .aload_n 0, 1), (10, .iconst 3, 1), (11, .invokevirtual 174, 3), (14, .aload_n 0, 1), (15, .getfield 16, 3), (18, .iload_n 1, 1), (19, .iconst 1, 1), (20, .bastore, 1), (21, .aload_n 0, 1), (22, .invokevirtual 178, 3), (25, .return_, 1)]
theorem DX8_once : (eX8_once.all fun q => decide (decode cX8_once q.1 = .ok q.2)) = true := by decide +kernel
def jX8_once_14 (S : List Sh) (mm : Mm) (x0 : Nat) (x1 : Int32)  : Option (Mm) := bd1 (stA S 2 mm (rf S mm x0 4) x1 1) fun m2 => bd1 (fX8_goOn S m2 x0) fun m3 => some m3
def fX8_once (S : List Sh) (mm : Mm) (x0 : Nat) (x1 : Int32) : Option (Mm) := gd S x0 8 (bd1 (ldA S 2 mm (rf S mm x0 4) x1) fun a1 => if a1 = 0 then (jX8_once_14 S mm x0 x1) else (bd1 (fX8_wrong S mm x0 3) fun m4 => jX8_once_14 S m4 x0 x1))
set_option maxHeartbeats 1000000 in
theorem tX8_once_14 {G : Gt} {l : Launch} {E : Ev} {S : List Sh} {mm : Mm} {x0 : Nat} {x1 : Int32}  {r : Mm} (C : Cx G E cX8_once 2 RX8 none 7 149) (g0 : isC S x0 8) (h : jX8_once_14 S mm x0 x1 = some r) (hQ : RQ G E S none r) : WM G l E S 14 [(0, .ref (E.2.2 x0)), (1, .int x1)] [] mm := by
  unfold jX8_once_14 at h
  refine x_aload_n C (dq DX8_once 8 rfl) rfl 0 rfl ?_
  refine getX8_16 C (dq DX8_once 9 rfl) g0 ?_
  refine x_iload_n C (dq DX8_once 10 rfl) rfl 1 rfl ?_
  refine x_iconst (v := 1) C (dq DX8_once 11 rfl) (by decide) ?_
  refine x_pc 20 rfl ?_
  refine x_zast C (dq DX8_once 12 rfl) h (fun m2 h => ?_)
  refine x_aload_n C (dq DX8_once 13 rfl) rfl 0 rfl ?_
  refine callX8_178 C (dq DX8_once 14 rfl) h (by decide) (by decide) (Nat.le_of_ble_eq_true rfl) (fun m3 h => ?_)
  cases h
  exact x_vret C (dq DX8_once 15 rfl) hQ
set_option maxHeartbeats 1000000 in
theorem mX8_once {l : Launch} {E : Ev} {S : List Sh} {mm : Mm} {x0 : Nat} {x1 : Int32} {r : Mm} (h : fX8_once S mm x0 x1 = some r) : Ml l E S yX8_once cX8_once 2 none 7 149 [.ref (E.2.2 x0), .int x1] mm none r := by
  refine Ml.of (by decide +kernel) (Nat.le_of_ble_eq_true rfl) (fun G C hQ => ?_)
  have C : Cx G E cX8_once 2 RX8 none 7 149 := C
  unfold fX8_once at h
  obtain ⟨g0, h⟩ := gd_some h
  show WM G l E S 0 [(0, .ref (E.2.2 x0)), (1, .int x1)] [] mm
  refine x_aload_n C (dq DX8_once 0 rfl) rfl 0 rfl ?_
  refine getX8_16 C (dq DX8_once 1 rfl) g0 ?_
  refine x_iload_n C (dq DX8_once 2 rfl) rfl 1 rfl ?_
  refine x_zald C (dq DX8_once 3 rfl) h (fun a1 h => ?_)
  refine x_pc 6 rfl ?_
  refine x_if_eq (tgt := 14) C (dq DX8_once 4 rfl) (by decide) h (fun h => ?_) (fun h => ?_)
  · exact x_lv [0, 1] rfl (tX8_once_14 C g0 h hQ)
  · refine x_aload_n C (dq DX8_once 5 rfl) rfl 0 rfl ?_
    refine x_iconst (v := 3) C (dq DX8_once 6 rfl) (by decide) ?_
    refine callX8_174 C (dq DX8_once 7 rfl) h (by decide) (by decide) (Nat.le_of_ble_eq_true rfl) (fun m4 h => ?_)
    exact x_lv [0, 1] rfl (tX8_once_14 C g0 h hQ)
set_option maxHeartbeats 1000000 in
theorem qX8_once {S : List Sh} {mm : Mm} {x0 : Nat} {x1 : Int32} {r : Mm} (h : fX8_once S mm x0 x1 = some r) : isC S x0 8 := by
  unfold fX8_once at h
  exact (gd_some h).1
abbrev eX8_newName : List (Nat × Instr × Nat) := [(0, .aload_n 0, 1), (1, .invokevirtual 178, 3), (4, .aload_n 0, 1), (5, .getfield 165, 3), (8, .ifCond .eq 4, 3), (11, .return_, 1), (12, .aload_n 0, 1), (13, .getfield 134, 3), (16, .iconst 1, 1), (17, .if_icmp .eq 11, 3), (20, .aload_n 0, 1), (21, .iconst 1, 1), (22, .invokevirtual 174, 3), (25, .goto 22, 3), (28, .aload_n 1, 1), (29, .iload_n 2, 1), (30, .iload_n 3, 1), (31, .aload_n 0, 1), (32, .getfield 144, 3), (35, .invokestatic 181, 3), (38, .iconst (-1), 1), (39, .if_icmp .eq 8, 3), (42, .aload_n 0, 1), (43, .iconst 3, 1), (44, .invokevirtual 174, 3), (47, .aload_n 0, 1), (48, .getfield 165, 3), (51, .ifCond .eq 4, 3), (54, .return_, 1), (55, .aload_n 1, 1), (56, .iload_n 2, 1), (57, .iload_n 3, 1), (58, .iadd, 1), (59, .aload_n 0, 1), (60, .getfield 144, 3), (63, .iastore, 1), (64, .aload_n 0, 1), (65, .invokevirtual 171, 3), (68, .return_, 1)]
theorem DX8_newName : (eX8_newName.all fun q => decide (decode cX8_newName q.1 = .ok q.2)) = true := by decide +kernel
def jX8_newName_47 (S : List Sh) (mm : Mm) (x0 : Nat) (x1 : Nat) (x2 : Int32) (x3 : Int32)  : Option (Mm) := if (mm.1 x0 22) = 0 then (bd1 (stA S 0 mm x1 (x2 + x3) (mm.1 x0 21)) fun m3 => bd1 (fX8_token S m3 x0) fun m4 => some m4) else (some mm)
def fX8_newName (S : List Sh) (mm : Mm) (x0 : Nat) (x1 : Nat) (x2 : Int32) (x3 : Int32) : Option (Mm) := gd S x0 8 (bd1 (fX8_goOn S mm x0) fun m1 => if (m1.1 x0 22) = 0 then (if (m1.1 x0 20) = 1 then (bd1 (fX8_foundIn S m1 x1 x2 x3 (m1.1 x0 21)) fun a2 => if a2 = (-1) then (jX8_newName_47 S m1 x0 x1 x2 x3) else (bd1 (fX8_wrong S m1 x0 3) fun m5 => jX8_newName_47 S m5 x0 x1 x2 x3)) else (bd1 (fX8_wrong S m1 x0 1) fun m6 => jX8_newName_47 S m6 x0 x1 x2 x3)) else (some m1))
set_option maxHeartbeats 1000000 in
theorem tX8_newName_47 {G : Gt} {l : Launch} {E : Ev} {S : List Sh} {mm : Mm} {x0 : Nat} {x1 : Nat} {x2 : Int32} {x3 : Int32}  {r : Mm} (C : Cx G E cX8_newName 4 RX8 none 7 149) (g0 : isC S x0 8) (h : jX8_newName_47 S mm x0 x1 x2 x3 = some r) (hQ : RQ G E S none r) : WM G l E S 47 [(0, .ref (E.2.2 x0)), (1, .ref (E.2.2 x1)), (2, .int x2), (3, .int x3)] [] mm := by
  unfold jX8_newName_47 at h
  refine x_aload_n C (dq DX8_newName 25 rfl) rfl 0 rfl ?_
  refine getX8_165 C (dq DX8_newName 26 rfl) g0 ?_
  refine x_if_eq (tgt := 55) C (dq DX8_newName 27 rfl) (by decide) h (fun h => ?_) (fun h => ?_)
  · refine x_aload_n C (dq DX8_newName 29 rfl) rfl 1 rfl ?_
    refine x_pc 56 rfl ?_
    refine x_iload_n C (dq DX8_newName 30 rfl) rfl 2 rfl ?_
    refine x_iload_n C (dq DX8_newName 31 rfl) rfl 3 rfl ?_
    refine x_iadd C (dq DX8_newName 32 rfl) ?_
    refine x_aload_n C (dq DX8_newName 33 rfl) rfl 0 rfl ?_
    refine getX8_144 C (dq DX8_newName 34 rfl) g0 ?_
    refine x_pc 63 rfl ?_
    refine x_iast C (dq DX8_newName 35 rfl) h (fun m3 h => ?_)
    refine x_aload_n C (dq DX8_newName 36 rfl) rfl 0 rfl ?_
    refine callX8_171 C (dq DX8_newName 37 rfl) h (by decide) (by decide) (Nat.le_of_ble_eq_true rfl) (fun m4 h => ?_)
    cases h
    exact x_vret C (dq DX8_newName 38 rfl) hQ
  · cases h
    exact x_vret C (dq DX8_newName 28 rfl) hQ
set_option maxHeartbeats 1000000 in
theorem mX8_newName {l : Launch} {E : Ev} {S : List Sh} {mm : Mm} {x0 : Nat} {x1 : Nat} {x2 : Int32} {x3 : Int32} {r : Mm} (h : fX8_newName S mm x0 x1 x2 x3 = some r) : Ml l E S yX8_newName cX8_newName 4 none 7 149 [.ref (E.2.2 x0), .ref (E.2.2 x1), .int x2, .int x3] mm none r := by
  refine Ml.of (by decide +kernel) (Nat.le_of_ble_eq_true rfl) (fun G C hQ => ?_)
  have C : Cx G E cX8_newName 4 RX8 none 7 149 := C
  unfold fX8_newName at h
  obtain ⟨g0, h⟩ := gd_some h
  show WM G l E S 0 [(0, .ref (E.2.2 x0)), (1, .ref (E.2.2 x1)), (2, .int x2), (3, .int x3)] [] mm
  refine x_aload_n C (dq DX8_newName 0 rfl) rfl 0 rfl ?_
  refine callX8_178 C (dq DX8_newName 1 rfl) h (by decide) (by decide) (Nat.le_of_ble_eq_true rfl) (fun m1 h => ?_)
  refine x_aload_n C (dq DX8_newName 2 rfl) rfl 0 rfl ?_
  refine getX8_165 C (dq DX8_newName 3 rfl) g0 ?_
  refine x_pc 8 rfl ?_
  refine x_if_eq (tgt := 12) C (dq DX8_newName 4 rfl) (by decide) h (fun h => ?_) (fun h => ?_)
  · refine x_aload_n C (dq DX8_newName 6 rfl) rfl 0 rfl ?_
    refine getX8_134 C (dq DX8_newName 7 rfl) g0 ?_
    refine x_iconst (v := 1) C (dq DX8_newName 8 rfl) (by decide) ?_
    refine x_icmp_eq (tgt := 28) C (dq DX8_newName 9 rfl) (by decide) h (fun h => ?_) (fun h => ?_)
    · refine x_pc 28 rfl ?_
      refine x_aload_n C (dq DX8_newName 14 rfl) rfl 1 rfl ?_
      refine x_iload_n C (dq DX8_newName 15 rfl) rfl 2 rfl ?_
      refine x_iload_n C (dq DX8_newName 16 rfl) rfl 3 rfl ?_
      refine x_aload_n C (dq DX8_newName 17 rfl) rfl 0 rfl ?_
      refine getX8_144 C (dq DX8_newName 18 rfl) g0 ?_
      refine x_pc 35 rfl ?_
      refine callX8_181 C (dq DX8_newName 19 rfl) h (by decide) (by decide) (Nat.le_of_ble_eq_true rfl) (fun a2 h => ?_)
      refine x_iconst (v := (-1)) C (dq DX8_newName 20 rfl) (by decide) ?_
      refine x_icmp_eq (tgt := 47) C (dq DX8_newName 21 rfl) (by decide) h (fun h => ?_) (fun h => ?_)
      · exact x_lv [0, 1, 2, 3] rfl (tX8_newName_47 C g0 h hQ)
      · refine x_aload_n C (dq DX8_newName 22 rfl) rfl 0 rfl ?_
        refine x_iconst (v := 3) C (dq DX8_newName 23 rfl) (by decide) ?_
        refine x_pc 44 rfl ?_
        refine callX8_174 C (dq DX8_newName 24 rfl) h (by decide) (by decide) (Nat.le_of_ble_eq_true rfl) (fun m5 h => ?_)
        exact x_lv [0, 1, 2, 3] rfl (tX8_newName_47 C g0 h hQ)
    · refine x_pc 20 rfl ?_
      refine x_aload_n C (dq DX8_newName 10 rfl) rfl 0 rfl ?_
      refine x_iconst (v := 1) C (dq DX8_newName 11 rfl) (by decide) ?_
      refine callX8_174 C (dq DX8_newName 12 rfl) h (by decide) (by decide) (Nat.le_of_ble_eq_true rfl) (fun m6 h => ?_)
      refine x_goto (tgt := 47) C (dq DX8_newName 13 rfl) (by decide) ?_
      exact x_lv [0, 1, 2, 3] rfl (tX8_newName_47 C g0 h hQ)
  · cases h
    exact x_vret C (dq DX8_newName 5 rfl) hQ
set_option maxHeartbeats 1000000 in
theorem qX8_newName {S : List Sh} {mm : Mm} {x0 : Nat} {x1 : Nat} {x2 : Int32} {x3 : Int32} {r : Mm} (h : fX8_newName S mm x0 x1 x2 x3 = some r) : isC S x0 8 := by
  unfold fX8_newName at h
  exact (gd_some h).1
