/-! ===== the line 'sample' ===== -/
theorem f22 {m : Mm} {o j c : Nat} {v : Int32} (h : m.1 0 22 = nI c) (ho : o ≠ 0) : (u1 m o j v).1 0 22 = nI c := by rw [u1_rn (Or.inr (by omega))]; exact h
theorem f23 {m : Mm} {o j c : Nat} {v : Int32} (h : m.1 0 23 = nI c) (ho : o ≠ 0) : (u1 m o j v).1 0 23 = nI c := by rw [u1_rn (Or.inr (by omega))]; exact h
theorem lvM_2 {k : Nat} (h : 9 ≤ k) : ¬ lvM 2 k := by unfold lvM; omega
theorem lvM_3 {k : Nat} : ¬ lvM 3 k := by unfold lvM; omega
/-- the model's reading of three settings once it has failed -/
theorem e8_three1 {m : Mm} {c : Nat} (h0 : 0 < c) (hc : c < 9) (h22 : m.1 0 22 = nI c) (l1 h1 l2 h2 l3 h3 : Int32) {i j k : Nat} (hi : i < 9) (hj : j < 9) (hk : k < 9) :
    (bd2 (fX8_numeral SX8 m 0 l1 h1) fun a2 m3 => bd1 (fX8_reads SX8 m3 0 (nI i) a2) fun m4 => bd2 (fX8_numeral SX8 m4 0 l2 h2) fun a5 m6 => bd1 (fX8_reads SX8 m6 0 (nI j) a5) fun m7 => bd2 (fX8_numeral SX8 m7 0 l3 h3) fun a8 m9 => bd1 (fX8_reads SX8 m9 0 (nI k) a8) fun m10 => some m10) = some (u1 (u1 (u1 m 2 (9 + i) l1) 2 (9 + j) l2) 2 (9 + k) l3) := by
  rw [e8_numeral1 h0 hc h22, bd2_e, e8_reads hi, bd1_e, e8_numeral1 h0 hc (f22 h22 (by omega)), bd2_e, e8_reads hj, bd1_e, e8_numeral1 h0 hc (f22 (f22 h22 (by omega)) (by omega)), bd2_e, e8_reads hk, bd1_e]
