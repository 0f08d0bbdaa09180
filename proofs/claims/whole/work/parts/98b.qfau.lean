/-! one call of both: fault -/
theorem Inv.hk {M : Mem} {N W t i : Nat} (I : Inv M N W t) (i1 : 1 ≤ i) (i6 : i < 6) : ∀ M' j, Jw (opM M i W) M' → j < 64 → hb (rJ M 5 3) (nI j) = true → jdK M' (9 + 6 * i) j W = kpO M i W j := fun M' j jw hj h => jd_jw (I.jc i1 i6) I.2.1 jw hj ((I.2.2.1.2.1 j hj).mp h)
theorem q_fault {M : Mem} {N W t : Nat} (I : Inv M N W t) (s c : Int32) : AlI mX9_fault mX10_fault 8 13 [(0, .ref 2), (1, .int s), (2, .int c)] [(0, .ref 64), (1, .int s), (2, .int c)] M N := by
  have hN := I.N9
  obtain ⟨hB, hR, hL, hS, hs, -⟩ := id I
  by_cases h1 : 1 ≤ s.toInt ∧ s.toInt < 6
  · obtain ⟨i, i1, i6, rfl⟩ := rg1 h1
    by_cases h2 : 0 ≤ c
    · refine ⟨pkV (faF (kpO M i W) (rJ M 5 3)) c, fun Q hQ => w_X9_fault i6 i1 hB (I.hk i1 i6) h2 hN hs (fun M1 jw => hQ M1 (fun Q' hQ' => ?_))⟩
      obtain ⟨kk, I1, sx⟩ := I.kk i1 i6 jw
      exact w_X10_fault i1 i6 I1.2.1 kk (fun x hx => by rw [sx.1 78 x (by omega)]; exact hL.2.1 x hx) h2 hN I1.2.2.2.2.1 (fun M2 ku rf => hQ' M2 W t (I1.ku ku rf))
    · exact ⟨-1, fun Q hQ => w_X9_fault_o2 i6 i1 h2 hN hs (hQ M (fun Q' hQ' => w_X10_fault_o2 i1 i6 h2 hN hs (hQ' M W t I)))⟩
  · exact ⟨-1, fun Q hQ => w_X9_fault_o1 h1 hN hs (hQ M (fun Q' hQ' => w_X10_fault_o1 h1 hN hs (hQ' M W t I)))⟩
