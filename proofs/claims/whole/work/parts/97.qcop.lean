/-! one call of both: copied -/
theorem rg1 {s : Int32} (h : 1 ≤ s.toInt ∧ s.toInt < 6) : ∃ i, 1 ≤ i ∧ i < 6 ∧ s = nI i := by
  obtain ⟨i, hi, rfl⟩ := rgI (s := s) (n := 6) ⟨by omega, h.2⟩
  rw [nIt (by omega)] at h
  exact ⟨i, by omega, hi, rfl⟩
theorem q_copied {M : Mem} {N W t : Nat} (I : Inv M N W t) (s u c : Int32) : AlI mX9_copied mX10_copied 3 2 [(0, .ref 2), (1, .int s), (2, .int u), (3, .int c)] [(0, .ref 64), (1, .int s), (2, .int u), (3, .int c)] M N := by
  have hN := I.N9
  obtain ⟨hB, hR, hL, hS, hs, -⟩ := id I
  have hsz : ∀ k, k < 384 → rI M 66 k = 2 → ∃ sz, sz ≤ 40 ∧ rI M 68 k = nI sz := fun k hk z => ((hR.2.2.2.2.2 k hk).2 z).1
  by_cases h1 : 1 ≤ s.toInt ∧ s.toInt < 6
  · by_cases h2 : 1 ≤ u.toInt ∧ u.toInt < 6
    · obtain ⟨a, a1, a6, rfl⟩ := rg1 h1
      obtain ⟨b, b1, b6, rfl⟩ := rg1 h2
      by_cases h3 : ¬ a = b ∧ 0 ≤ c
      · exact ⟨pkV (coF M a b) c, fun Q hQ => w_X9_copied a6 b6 hB a1 b1 h3.1 h3.2 hN hs (hQ M (fun Q' hQ' => w_X10_copied a1 a6 b1 b6 h3.1 (co_iff (hS 0 (by decide)) (hS a a6) (hS b b6) hL) hsz h3.2 hN hs (hQ' M W t I)))⟩
      · exact ⟨-1, fun Q hQ => w_X9_copied_o4 a6 a1 b6 b1 h3 hN hs (hQ M (fun Q' hQ' => w_X10_copied_o (fun z => h3 ⟨fun e => z.2.2.1 (by rw [e]), z.2.2.2⟩) hN hs (hQ' M W t I)))⟩
    · obtain ⟨a, a1, a6, rfl⟩ := rg1 h1
      exact ⟨-1, fun Q hQ => w_X9_copied_o3 h2 a6 a1 hN hs (hQ M (fun Q' hQ' => w_X10_copied_o (fun z => h2 z.2.1) hN hs (hQ' M W t I)))⟩
  · by_cases h2 : 1 ≤ u.toInt ∧ u.toInt < 6
    · obtain ⟨b, b1, b6, rfl⟩ := rg1 h2
      exact ⟨-1, fun Q hQ => w_X9_copied_o2 h1 b6 b1 hN hs (hQ M (fun Q' hQ' => w_X10_copied_o (fun z => h1 z.1) hN hs (hQ' M W t I)))⟩
    · exact ⟨-1, fun Q hQ => w_X9_copied_o1 h1 h2 hN hs (hQ M (fun Q' hQ' => w_X10_copied_o (fun z => h1 z.1) hN hs (hQ' M W t I)))⟩
