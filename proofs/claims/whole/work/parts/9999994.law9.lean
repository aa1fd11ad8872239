/-! the law's own link, walked; its call; the law's case of it -/
abbrev eL_link : List (Nat × Instr × Nat) := [(0, .aload_n 3, 1), (1, .iconst 0, 1), (2, .aload_n 0, 1), (3, .iload_n 1, 1), (4, .iload_n 2, 1), (5, .invokevirtual 7, 3), (8, .i2l, 1), (9, .lastore, 1), (10, .goto 11, 3), (13, .astore 4, 2), (15, .iconst 1, 1), (16, .ireturn, 1), (17, .astore 4, 2), (19, .iconst 2, 1), (20, .ireturn, 1), (21, .iconst 0, 1), (22, .ireturn, 1)]
theorem DL_link : (eL_link.all fun q => decide (decode cL_link q.1 = .ok q.2)) = true := by decide +kernel
theorem Rm.le {G : Gt} {a b a2 b2 : Nat} (h : Rm G a b) (h1 : a2 ≤ a) (h2 : b2 ≤ b) : Rm G a2 b2 := by
  obtain ⟨p, e, R, s, m, args, below, meth, c, cs0, A, Q⟩ := G
  exact ⟨Nat.le_trans h1 h.1, Nat.le_trans h2 h.2⟩
section KK
variable {l : Launch} {E EF : Ev} {ob : Nat} {fo : Nat → Int64} {a b : Int32} {mF : Mm}
set_option maxHeartbeats 1000000 in
theorem k_ok {v : Int32} (h1 : EF.1 = E.1) (h2 : EF.2.1 = E.2.1) (h : fX7_link SX7 mF 0 a b = some v) : Mk l E EF ob fo (vp_updL fo 0 v.toInt64) a b mF 0 := by
  refine Mk.of (fun G C hT hRm hQ => ?_)
  refine y_aload_n C (dq DL_link 0 rfl) rfl 3 rfl ?_
  refine y_iconst (v := 0) C (dq DL_link 1 rfl) (by decide) ?_
  refine y_aload_n C (dq DL_link 2 rfl) rfl 0 rfl ?_
  refine y_iload_n C (dq DL_link 3 rfl) rfl 1 rfl ?_
  refine y_iload_n C (dq DL_link 4 rfl) rfl 2 rfl ?_
  refine y_pc 5 rfl ?_
  refine y_callV (wr := OC E ob fo) (o := 0) (n := 2) (As := [.int a, .int b]) (rest := [.int 0, .ref ob]) h1 h2 C (mX7_link h) rfl ⟨_, rfl⟩ (T := TX7) (N := 12) rfl (gmem 744 (by decide +kernel) rfl) (gmem 745 (by decide +kernel) rfl) (gmem 746 (by decide +kernel) rfl) (gmem 1 (by decide +kernel) rfl) (gmem 747 (by decide +kernel) rfl) (by decide +kernel) rfl (by decide) (by decide) (Nat.le_of_ble_eq_true rfl) (hRm.le (by decide) (by decide)) (dq DL_link 5 rfl) rfl rfl ?_
  refine y_pc 8 rfl ?_
  refine y_i2l C (dq DL_link 6 rfl) ?_
  refine y_last C (dq DL_link 7 rfl) ?_
  refine y_goto (tgt := 21) C (dq DL_link 8 rfl) (by decide) ?_
  refine y_iconst (v := 0) C (dq DL_link 15 rfl) (by decide) ?_
  refine y_widen (1, 6) (by decide) (by decide) ?_
  exact y_iret C hQ rfl (dq DL_link 16 rfl)
set_option maxHeartbeats 1000000 in
theorem k_io (hl9 : l.stackTraces = false) (h1 : EF.1 = E.1) (h2 : EF.2.1 = E.2.1) (h : fX7_isLink SX7 mF 0 a = some 0) : Mk l E EF ob fo fo a b mF 1 := by
  refine Mk.of (fun G C hT hRm hQ => ?_)
  refine y_aload_n C (dq DL_link 0 rfl) rfl 3 rfl ?_
  refine y_iconst (v := 0) C (dq DL_link 1 rfl) (by decide) ?_
  refine y_aload_n C (dq DL_link 2 rfl) rfl 0 rfl ?_
  refine y_iload_n C (dq DL_link 3 rfl) rfl 1 rfl ?_
  refine y_iload_n C (dq DL_link 4 rfl) rfl 2 rfl ?_
  refine y_pc 5 rfl ?_
  refine y_callT (wr := OC E ob fo) (rest := [.int 0, .ref ob]) h1 h2 C hT (tX7_link_a hl9 h) hRm [] ⟨0, 10, 13, 13⟩ [⟨0, 10, 17, 15⟩] rfl (fun z hz => absurd hz List.not_mem_nil) (by decide) (by decide) (gmem 742 (by decide +kernel) rfl) (nmem 750 (by decide +kernel) rfl) (Nat.le_of_ble_eq_true rfl) (fun q => ?_)
  refine y_pc 13 rfl ?_
  refine y_astore C (dq DL_link 9 rfl) (by decide) rfl ?_
  refine y_iconst (v := 1) C (dq DL_link 10 rfl) (by decide) ?_
  exact y_iret C hQ rfl (dq DL_link 11 rfl)
set_option maxHeartbeats 1000000 in
theorem k_ns (hl9 : l.stackTraces = false) (h1 : EF.1 = E.1) (h2 : EF.2.1 = E.2.1) (h : fX7_isLink SX7 mF 0 a = some 1) (hw : b < 0 ∨ 13 < b) : Mk l E EF ob fo fo a b mF 2 := by
  refine Mk.of (fun G C hT hRm hQ => ?_)
  refine y_aload_n C (dq DL_link 0 rfl) rfl 3 rfl ?_
  refine y_iconst (v := 0) C (dq DL_link 1 rfl) (by decide) ?_
  refine y_aload_n C (dq DL_link 2 rfl) rfl 0 rfl ?_
  refine y_iload_n C (dq DL_link 3 rfl) rfl 1 rfl ?_
  refine y_iload_n C (dq DL_link 4 rfl) rfl 2 rfl ?_
  refine y_pc 5 rfl ?_
  refine y_callT (wr := OC E ob fo) (rest := [.int 0, .ref ob]) h1 h2 C hT (tX7_link_b hl9 h hw) hRm [⟨0, 10, 13, 13⟩] ⟨0, 10, 17, 15⟩ [] rfl (fun z hz => by rw [List.mem_singleton.mp hz]; exact ⟨rfl, rfl⟩) (by decide) (by decide) (gmem 743 (by decide +kernel) rfl) (nmem 816 (by decide +kernel) rfl) (Nat.le_of_ble_eq_true rfl) (fun q => ?_)
  refine y_pc 17 rfl ?_
  refine y_astore C (dq DL_link 12 rfl) (by decide) rfl ?_
  refine y_iconst (v := 2) C (dq DL_link 13 rfl) (by decide) ?_
  exact y_iret C hQ rfl (dq DL_link 14 rfl)
end KK
theorem i_after {G0 : Unit} {l : Launch} {E : Ev} {cs : Nat × Nat} {wr : va_W} {pc : Nat} {lv : List (Nat × Value)} {st rest : List Value} {mc ms : Nat} {k0 : Int32} {p : Program} {e : Env} {R : Room} {s : State} {m : MethodId} {args : Array Value} {below : List Frame} {meth : Method} {c : Code} {cs0 : Nat × Nat} {A : Nat → Prop} {Q : State → Prop} {H : Heap} {locs : List Loc} {ls : Array Slot} {a : Array Value} {wc w1 : va_W}
    (hP : va_P E.1 gc (wr ++ wc) H) (hD : va_D A (wr ++ wc)) (hS : va_S A s.heap H locs) (hA : ∀ q, s.heap.size ≤ q → A q) (hl : lv_has ls c.maxLocals lv)
    (hr : va_Run p l e R s m args below meth c H locs cs.1 cs.2 mc ms (F0 m pc ls st) rest (Qi E (some (.int k0)) w1 (va_A wc H.size) a) (va_A wc H.size))
    (k : WG (p, e, R, s, m, args, below, meth, c, cs0, A, Q) l E (cs.1 + mc, cs.2 + ms) (wr ++ w1) (pc + 3) lv (.int k0 :: rest)) : W p l e R s m args below meth c H locs cs.1 cs.2 Q (F0 m pc ls st) := by
  obtain ⟨-, hPc, -, hDc⟩ := w_split hP hD
  have hF : ∀ q, va_A wc H.size q → A q := by
    intro q h
    rcases h with ⟨k, e, h⟩ | h
    · exact hDc.2 k (q, e) h
    · exact hA q (Nat.le_trans hS.1 h)
  intro T hT X
  obtain ⟨v', st₀, t, T', L, h0, X', hL, e1, e2, ⟨⟨hv, hPt, hDt⟩, hz, hk⟩, stp⟩ := hr T hT X
  cases hv
  rw [h0] at hz hk
  rw [← e1] at hPt hk hz
  obtain ⟨hP1, hD1⟩ := w_join hP hD hk hF hPt hDt
  obtain ⟨t2, a1, b1⟩ := k T'.heap (locs ++ L) ls hP1 hD1
    ⟨Nat.le_trans hS.1 hz, fun q h1 h2 => by rw [hk q (Nat.lt_of_lt_of_le h1 hS.1) (fun z => h2 (hF q z))]; exact hS.2.1 q h1 h2, fun q hq => by
      rcases List.mem_append.mp hq with h | h
      · exact hS.2.2 q h
      · exact hF _ (hL q h)⟩ hl T' rfl X'
  exact ⟨t2, stp t2 a1, b1⟩
theorem gK : GoodIn gw (va_wsS RL 60 yL_link (Cond.codeWith yL_link cL_link 5 (some .int) hhL :: gw)) := by
  have ok : ∀ w, w ∈ gw → w ∈ gw ∧ ((w.onTables && w.keeps) = true ∨ ∃ ty, w = .arrayClass ty) := fun w h => ⟨h, good_of_word (gw_good _ h)⟩
  intro w hw
  rcases List.mem_append.mp hw with hw | hw
  · rcases List.mem_cons.mp hw with rfl | hw
    · exact ok _ (gmem 739 (by decide +kernel) rfl)
    rcases List.mem_cons.mp hw with rfl | hw
    · exact ok _ (gmem 740 (by decide +kernel) rfl)
    rcases List.mem_cons.mp hw with rfl | hw
    · exact ok _ (gmem 0 (by decide +kernel) rfl)
    · exact absurd hw List.not_mem_nil
  · rcases List.mem_cons.mp hw with rfl | hw
    · exact ok _ (gmem 741 (by decide +kernel) rfl)
    · exact ok _ hw
set_option maxHeartbeats 1000000 in
theorem y_callK {G : Gt} {l : Launch} {E EF EM : Ev} {cs : Nat × Nat} {ob pc : Nat} {fo fo1 : Nat → Int64} {a b k0 : Int32} {mF mM : Mm} {lv : List (Nat × Value)} {rest : List Value} (hM : Mk l E EF ob fo fo1 a b mF k0) (C : Cx G E cL_law 7 RL (some .boolean) 15 564) (hrs : (rest.map fun v => v.category).sum ≤ 8) (hrm : Rm G (cs.1 + 1) (cs.2 + 6)) (d : decode cL_law pc = .ok (.invokestatic 60, 3)) (k : WG G l E (cs.1 + 1, cs.2 + 6) (LWd E EF EM ob fo1 mF mM) (pc + 3) lv (.int k0 :: rest)) : WG G l E cs (LWd E EF EM ob fo mF mM) pc lv (.ref ob :: .int b :: .int a :: .ref (EF.2.2 0) :: rest) := by
  refine y_comm rfl ?_
  have k2 : WG G l E (cs.1 + 1, cs.2 + 6) (wd EM SX8 mM ++ (OC E ob fo1 ++ wd EF SX7 mF)) (pc + 3) lv (.int k0 :: rest) := y_comm rfl k
  obtain ⟨p, e, R, s, m, args, below, meth, c, cs0, A, Q⟩ := G
  obtain ⟨hx, hb, hml, hown, hts, hK, hN, hlk, hr, hfr, hlo, hc1, hc2, hA, hSt⟩ := C
  intro H locs ls hP hD hS hl
  obtain ⟨-, hPc, -, hDc⟩ := w_split hP hD
  refine i_after (G0 := ()) (mc := 1) (ms := 6) (a := (lkP EF a b ob).toArray) (wc := OC E ob fo ++ wd EF SX7 mF) (w1 := OC E ob fo1 ++ wd EF SX7 mF) hP hD hS hA hl (vx_runSW (Ts := gw) (bytes := cL_link) (maxL := 5) (nL := 7) (n := 4) (ret := some .int) (hh := hhL) (As := lkP EF a b ob) (rest := rest) ⟨hx, hb, hml, hown, hts⟩ (hM H.size) ?_ ⟨Pn_blind, n_pre hPc hDc hK hN hSt hS hA⟩ rfl rfl (hl.1.trans hml) rfl (lv_room hrs) d ⟨hrm.1, hrm.2⟩) k2
  exact vx_cwSW 4 hts gK rfl rfl rfl (by decide +kernel) ⟨Nat.le_trans (by decide) hfr, Nat.le_trans (by decide) hlo⟩
set_option maxHeartbeats 1000000 in
theorem law_9 {G : Gt} {l : Launch} {E EF EM : Ev} {cs : Nat × Nat} {b L ob : Nat} {xs : Nat → Int32} {fo : Nat → Int64} {x4 : Int32} {mF mM : Mm} (hF1 : EF.1 = E.1) (hF2 : EF.2.1 = E.2.1) (hM1 : EM.1 = E.1) (hM2 : EM.2.1 = E.2.1) (C : Cx G E cL_law 7 RL (some .boolean) 15 564) (hX : Sx G b L xs) (hrm : Rm G (cs.1 + 1) (cs.2 + 6)) (hi1 : vp_in (x4 + 1) L) (hi2 : vp_in (x4 + 2) L) {fo1 : Nat → Int64} {k0 v : Int32} {mM1 : Mm} (hK : Mk l E EF ob fo fo1 (xs (x4 + 1).toNatClampNeg) (xs (x4 + 2).toNatClampNeg) mF k0) (hM : fX8_link SX8 mM 0 (xs (x4 + 1).toNatClampNeg) (xs (x4 + 2).toNatClampNeg) = some (v, mM1)) (ht : fX8_thrown SX8 mM1 0 = some k0) (h0 : k0 = 0 → fo1 0 = v.toInt64) (k : WG G l E (cs.1 + 1, cs.2 + 6) (LWd E EF EM ob fo1 mF mM1) 1299 [(0, .ref b), (1, .ref (EF.2.2 0)), (2, .ref (EM.2.2 0)), (3, .ref ob), (4, .int x4)] []) : WG G l E cs (LWd E EF EM ob fo mF mM) 529 [(0, .ref b), (1, .ref (EF.2.2 0)), (2, .ref (EM.2.2 0)), (3, .ref ob), (4, .int x4)] [] := by
  refine y_aload_n C (dq DL_law4 28 rfl) rfl 1 rfl ?_
  refine y_aload_n C (dq DL_law4 29 rfl) rfl 0 rfl ?_
  refine y_iload C (dq DL_law4 30 rfl) 4 rfl ?_
  refine y_pc 533 rfl ?_
  refine y_iconst (v := 1) C (dq DL_law4 31 rfl) (by decide) ?_
  refine y_iadd C (dq DL_law4 32 rfl) ?_
  refine y_sld C (dq DL_law4 33 rfl) hX hi1 ?_
  refine y_pc 536 rfl ?_
  refine y_aload_n C (dq DL_law4 34 rfl) rfl 0 rfl ?_
  refine y_iload C (dq DL_law4 35 rfl) 4 rfl ?_
  refine y_pc 539 rfl ?_
  refine y_iconst (v := 2) C (dq DL_law4 36 rfl) (by decide) ?_
  refine y_iadd C (dq DL_law4 37 rfl) ?_
  refine y_sld C (dq DL_law4 38 rfl) hX hi2 ?_
  refine y_pc 542 rfl ?_
  refine y_aload_n C (dq DL_law4 39 rfl) rfl 3 rfl ?_
  refine y_pc 543 rfl ?_
  refine y_callK (rest := []) hK C (by decide) hrm (dq DL_law4 40 rfl) ?_
  refine y_pc 546 rfl ?_
  refine y_istore C (dq DL_law4 41 rfl) (by decide) rfl ?_
  refine y_aload_n C (dq DL_law4 42 rfl) rfl 3 rfl ?_
  refine y_pc 549 rfl ?_
  refine y_aload_n C (dq DL_law4 43 rfl) rfl 1 rfl ?_
  refine y_iload C (dq DL_law4 44 rfl) 5 rfl ?_
  refine y_pc 552 rfl ?_
  refine y_iconst (v := 1) C (dq DL_law4 45 rfl) (by decide) ?_
  refine y_iadd C (dq DL_law4 46 rfl) ?_
  refine y_sld C (dq DL_law4 47 rfl) hX hi1 ?_
  refine y_pc 555 rfl ?_
  refine y_aload_n C (dq DL_law4 48 rfl) rfl 1 rfl ?_
  refine y_iload C (dq DL_law4 49 rfl) 5 rfl ?_
  refine y_pc 558 rfl ?_
  refine y_iconst (v := 2) C (dq DL_law4 50 rfl) (by decide) ?_
  refine y_iadd C (dq DL_law4 51 rfl) ?_
  refine y_sld C (dq DL_law4 52 rfl) hX hi2 ?_
  refine y_pc 561 rfl ?_
  refine l_callM (n := 2) (As := [.int (xs (x4 + 1).toNatClampNeg), .int (xs (x4 + 2).toNatClampNeg)]) (rest := []) hM1 hM2 C (mX8_link hM) (T := TX8) (N := 49) rfl (gmem 1282 (by decide +kernel) rfl) (gmem 1283 (by decide +kernel) rfl) (gmem 1284 (by decide +kernel) rfl) (gmem 9 (by decide +kernel) rfl) (gmem 1285 (by decide +kernel) rfl) (by decide +kernel) rfl (by decide) (by decide) (Nat.le_of_ble_eq_true rfl) hrm (dq DL_law4 53 rfl) rfl rfl ?_
  refine y_pc 564 rfl ?_
  refine y_istore C (dq DL_law4 54 rfl) (by decide) rfl ?_
  refine y_aload_n C (dq DL_law4 55 rfl) rfl 4 rfl ?_
  refine y_pc 567 rfl ?_
  refine l_callM (n := 0) (As := []) (rest := []) hM1 hM2 C (mX8_thrown ht) (T := TX8) (N := 49) rfl (gmem 1014 (by decide +kernel) rfl) (gmem 1015 (by decide +kernel) rfl) (gmem 1016 (by decide +kernel) rfl) (gmem 9 (by decide +kernel) rfl) (gmem 1017 (by decide +kernel) rfl) (by decide +kernel) rfl (by decide) (by decide) (Nat.le_of_ble_eq_true rfl) hrm (dq DL_law4 56 rfl) rfl rfl ?_
  refine y_pc 570 rfl ?_
  refine y_iload C (dq DL_law4 57 rfl) 1 rfl ?_
  refine y_icmp_eq (tgt := 577) C (dq DL_law4 58 rfl) (by decide) (fun _ => ?_) (fun hc => absurd rfl hc)
  refine y_iload C (dq DL_law5 1 rfl) 1 rfl ?_
  have fin : WG G l E (cs.1 + 1, cs.2 + 6) (LWd E EF EM ob fo1 mF mM1) 594 ((6, .int v) :: (5, .int k0) :: [(0, .ref b), (1, .ref (EF.2.2 0)), (2, .ref (EM.2.2 0)), (3, .ref ob), (4, .int x4)]) [] := y_goto (tgt := 1299) C (dq DL_law5 12 rfl) (by decide) (y_lv [2, 3, 4, 5, 6] rfl k)
  refine y_if_ne (tgt := 594) C (dq DL_law5 2 rfl) (by decide) (fun _ => fin) (fun hc => ?_)
  refine y_pc 582 rfl ?_
  refine y_aload_n C (dq DL_law5 3 rfl) rfl 5 rfl ?_
  refine y_iconst (v := 0) C (dq DL_law5 4 rfl) (by decide) ?_
  refine y_w (OC E ob fo1 ++ (wd EF SX7 mF ++ wd EM SX8 mM1)) (List.append_assoc _ _ _) ?_
  refine y_lald C (dq DL_law5 5 rfl) ?_
  refine y_w (LWd E EF EM ob fo1 mF mM1) (List.append_assoc _ _ _).symm ?_
  refine y_pc 585 rfl ?_
  refine y_iload C (dq DL_law5 6 rfl) 0 rfl ?_
  refine y_i2l C (dq DL_law5 7 rfl) ?_
  rw [h0 hc]
  refine y_lcmp C (dq DL_law5 8 rfl) ?_
  exact y_if_eq (tgt := 594) C (dq DL_law5 9 rfl) (by decide) (fun _ => fin) (fun hc => absurd (by simp [lg_cmp]) hc)
set_option maxHeartbeats 1000000 in
theorem law_1 {G : Gt} {l : Launch} {E EF EM : Ev} {cs : Nat × Nat} {b L ob : Nat} {xs : Nat → Int32} {fo : Nat → Int64} {x4 : Int32} {mF mM : Mm} (hF1 : EF.1 = E.1) (hF2 : EF.2.1 = E.2.1) (hM1 : EM.1 = E.1) (hM2 : EM.2.1 = E.2.1) (C : Cx G E cL_law 7 RL (some .boolean) 15 564) (hX : Sx G b L xs) (hrm : Rm G cs.1 cs.2) (hi1 : vp_in (x4 + 1) L) {v : Int32} {mF1 : Mm} {mM1 : Mm} (hF : fX7_text SX7 mF 0 (xs (x4 + 1).toNatClampNeg) = some (v, mF1)) (hM : fX8_text SX8 mM 0 (xs (x4 + 1).toNatClampNeg) = some (v, mM1)) (k : WG G l E cs (LWd E EF EM ob fo mF1 mM1) 1299 [(0, .ref b), (1, .ref (EF.2.2 0)), (2, .ref (EM.2.2 0)), (3, .ref ob), (4, .int x4)] []) : WG G l E cs (LWd E EF EM ob fo mF mM) 269 [(0, .ref b), (1, .ref (EF.2.2 0)), (2, .ref (EM.2.2 0)), (3, .ref ob), (4, .int x4)] [] := by
  refine y_aload_n C (dq DL_law1 22 rfl) rfl 1 rfl ?_
  refine y_aload_n C (dq DL_law1 23 rfl) rfl 0 rfl ?_
  refine y_iload C (dq DL_law1 24 rfl) 4 rfl ?_
  refine y_pc 273 rfl ?_
  refine y_iconst (v := 1) C (dq DL_law1 25 rfl) (by decide) ?_
  refine y_iadd C (dq DL_law1 26 rfl) ?_
  refine y_sld C (dq DL_law1 27 rfl) hX hi1 ?_
  refine l_callF (n := 1) (As := [.int (xs (x4 + 1).toNatClampNeg)]) (rest := []) hF1 hF2 C (mX7_text hF) (T := TX7) (N := 12) rfl (gmem 287 (by decide +kernel) rfl) (gmem 288 (by decide +kernel) rfl) (gmem 289 (by decide +kernel) rfl) (gmem 1 (by decide +kernel) rfl) (gmem 290 (by decide +kernel) rfl) (by decide +kernel) rfl (by decide) (by decide) (Nat.le_of_ble_eq_true rfl) hrm (dq DL_law1 28 rfl) rfl rfl ?_
  refine y_pc 279 rfl ?_
  refine y_aload_n C (dq DL_law1 29 rfl) rfl 2 rfl ?_
  refine y_aload_n C (dq DL_law1 30 rfl) rfl 0 rfl ?_
  refine y_iload C (dq DL_law1 31 rfl) 4 rfl ?_
  refine y_iconst (v := 1) C (dq DL_law1 32 rfl) (by decide) ?_
  refine y_pc 284 rfl ?_
  refine y_iadd C (dq DL_law1 33 rfl) ?_
  refine y_sld C (dq DL_law1 34 rfl) hX hi1 ?_
  refine l_callM (n := 1) (As := [.int (xs (x4 + 1).toNatClampNeg)]) (rest := [.int v]) hM1 hM2 C (mX8_text hM) (T := TX8) (N := 49) rfl (gmem 1022 (by decide +kernel) rfl) (gmem 1023 (by decide +kernel) rfl) (gmem 1024 (by decide +kernel) rfl) (gmem 9 (by decide +kernel) rfl) (gmem 1025 (by decide +kernel) rfl) (by decide +kernel) rfl (by decide) (by decide) (Nat.le_of_ble_eq_true rfl) hrm (dq DL_law1 35 rfl) rfl rfl ?_
  exact y_icmp_eq (tgt := 1299) C (dq DL_law1 36 rfl) (by decide) (fun _ => y_pc 1299 rfl k) (fun hc => absurd rfl hc)
