/-! ===== two new objects ===== -/
theorem ZX8_0 {j : Nat} (h : j ≠ 25) : ZX8.1 0 j = nI 0 := by
  unfold ZX8
  rw [u1_rn (Or.inl h)]
  rfl
theorem sim_new : ∃ mP m1 m2 m3, fX1_clear SX1 ZX1 0 = some mP ∧ fX8_freshText SX8 ZX8 0 = some m1 ∧ fX8_takeText SX8 m1 0 = some m2 ∧ fX8_begins SX8 m2 0 = some m3 ∧ Sim (ZX7 mP) m3 := by
  obtain ⟨mP, a1, a2, b1, b2, b3, b4, b5, b6, b7, b8, b9, b10, b11⟩ := e_clear (S := SX1) (q := 0) (m := ZX1) (fun _ => rfl) (fun _ => rfl) (fun _ => rfl) (fun _ => rfl) rfl rfl rfl
  obtain ⟨m1, c1, c2, c3⟩ := e8_fresh (m := ZX8) (ZX8_0 (by omega))
  obtain ⟨m2, m3, d1, d2, d3, d4, d5⟩ := e8_taken c3 QP0
  refine ⟨mP, m1, m2, m3, a1, c1, d1, d2, ?_⟩
  have m30 : ∀ j, j ≠ 25 → m3.1 0 j = nI 0 := fun j hj => by rw [d5 0 (by omega), c2 0 j (by unfold s0M; omega)]; exact ZX8_0 hj
  obtain ⟨X2, x1, x2⟩ := CF.new (m := ZX7 mP) (X := fun _ => 0) (fun i hi => rfl)
  refine ⟨pl0, X2, [], none, 21, 0, 0, fun _ => 0, nI 0, -nI 1, ?_, SM.cg (X := fun _ => 0) ?_ x1, SK.cg (X := fun _ => 0) ?_ x1⟩
  · have n0 : ∀ l, l < pl0.nl → False := fun l hl => absurd hl (by show ¬ l < 0; omega)
    have n1 : ∀ l, l < pl0.nf → False := fun l hl => absurd hl (by show ¬ l < 0; omega)
    exact SF.mk (Or.inl rfl) rfl rfl rfl rfl (PF.mk b1 b2 (fun l hl => (n0 l hl).elim) (fun l hl => (n0 l hl).elim) (fun l hl => (n0 l hl).elim) (fun l hl => (n1 l hl).elim) (fun l hl => (n1 l hl).elim) (fun l i hl => (n1 l hl).elim) (fun l f hl => (n0 l hl).elim) (fun l f hl => (n0 l hl).elim) b3 b4 b5 b6 b7 b8 b9) x2 rfl rfl (by omega) (fun j Y hj => by cases hj) rfl (fun Y hY => by cases hY) rfl (fun j hj => by omega)
  · refine SM.mk d3 d4 (m30 31 (by omega)) (fun j Y hj => by cases hj) (m30 32 (by omega)) (fun Y hY => by cases hY) (m30 2 (by omega)) (fun j hj => by omega) (m30 24 (by omega)) ?_
    rw [d5 0 (by omega), c2 0 25 (by unfold s0M; omega)]
    unfold ZX8
    rw [u1_rs]
    rfl
  · exact SK.mk pl0_ok QP0.K2 (by omega) (by decide) (fun Y hY => by cases hY) (fun Y hY => by cases hY) (by omega) (fun j hj => by omega)
