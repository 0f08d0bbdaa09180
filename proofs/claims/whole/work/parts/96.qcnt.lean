/-! one call of both: count, copied -/
theorem q_count {M : Mem} {N W t : Nat} (I : Inv M N W t) (w : Int32) : AlI mX9_count mX10_count 3 2 [(0, .ref 2), (1, .int w)] [(0, .ref 64), (1, .int w)] M N := by
  have hN := I.N9
  obtain ⟨hB, hR, hL, hS, hs, -, -, hT, hC⟩ := id I
  by_cases h1 : 100 ≤ w.toInt ∧ w.toInt < 164
  · obtain ⟨k, hk, rfl⟩ := rgI (s := w) (n := 164) ⟨by omega, by omega⟩
    rw [nIt (by omega)] at h1
    obtain ⟨k', rfl⟩ : ∃ k', k = 100 + k' := ⟨k - 100, by omega⟩
    exact ⟨rI M 7 k', fun Q hQ => w_X9_count_w (by omega) hN hs (hQ M (fun Q' hQ' => w_X10_count_w (by omega) hN hs (by rw [← hL.2.2.2.1 k' (by omega)]; exact hQ' M W t I)))⟩
  · by_cases h2 : w.toInt < 0 ∨ 4 < w.toInt
    · exact ⟨-1, fun Q hQ => w_X9_count_o h1 h2 hN hs (hQ M (fun Q' hQ' => w_X10_count_o (fun ⟨q, hq, e⟩ => h1 (by rw [e, nIt (by omega)]; omega)) h2 hN hs (hQ' M W t I)))⟩
    · obtain ⟨k, hk, rfl⟩ := rgI (s := w) (n := 5) ⟨by omega, by omega⟩
      match k, hk with
      | 0, _ => exact ⟨bcn (rJ M 5 2), fun Q hQ => w_X9_count_0 hN hs (hQ M (fun Q' hQ' => w_X10_count_0 hN hs (by rw [hC.1, ← bcn_cnt]; exact hQ' M W t I)))⟩
      | 1, _ => exact ⟨bcn (rJ M 5 3), fun Q hQ => w_X9_count_1 hN hs (hQ M (fun Q' hQ' => w_X10_count_1 hN hs (by rw [hC.2.2.1, ← bcn_cnt]; exact hQ' M W t I)))⟩
      | 2, _ => exact ⟨rI M 5 4, fun Q hQ => w_X9_count_2 hN hs (hQ M (fun Q' hQ' => w_X10_count_2 hN hs (by rw [hR.2.2.2.1, ← hB.1]; exact hQ' M W t I)))⟩
      | 3, _ => exact ⟨wsF (rI M 7) 64, fun Q hQ => w_X9_count_3 hN hs (hQ M (fun Q' hQ' => w_X10_count_3 hN hs (by rw [← hL.ws 64 (Nat.le_refl _)]; exact hQ' M W t I)))⟩
      | 4, _ => exact ⟨rI M 3 1, fun Q hQ => w_X9_count_4 hN hs (hQ M (fun Q' hQ' => w_X10_count_4 hN hs (by rw [hT.2.1, ← hT.1]; exact hQ' M W t I)))⟩
