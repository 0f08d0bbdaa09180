/-! one call of both: slip, points, fault -/
theorem Inv.kk {M M1 : Mem} {N W t i : Nat} (I : Inv M N W t) (i1 : 1 ≤ i) (i6 : i < 6) (jw : Jw (opM M i W) M1) : KK M1 i W (kpO M i W) (apO M i W) (tpO M i W) ∧ Inv M1 N W t ∧ Sx M M1 := by
  have sx : Sx M M1 := opM_sx.tr jw.sx
  exact ⟨kk_ok (I.jc i1 i6) (fun a k q => sx.1 a k (by omega)) (fun a k q => sx.2.1 a k (by omega)), I.sx sx, sx⟩
theorem q_slip {M : Mem} {N W t : Nat} (I : Inv M N W t) (s c w : Int32) : AlI mX9_slip mX10_slip 8 13 [(0, .ref 2), (1, .int s), (2, .int c), (3, .int w)] [(0, .ref 64), (1, .int s), (2, .int c), (3, .int w)] M N := by
  have hN := I.N9
  obtain ⟨hB, hR, hL, hS, hs, -⟩ := id I
  by_cases h1 : 1 ≤ s.toInt ∧ s.toInt < 6
  · obtain ⟨i, i1, i6, rfl⟩ := rg1 h1
    by_cases h2 : hb (rJ M 5 3) c = true ∧ (w = 0 ∨ w = 1)
    · obtain ⟨j, hj, rfl⟩ := rgI (n := 64) (hb_rng h2.1)
      refine ⟨slF (opM M i W) (9 + 6 * i) j W w, fun Q hQ => w_X9_slip i6 i1 hj hB h2.1 h2.2 hN hs (fun M1 jw => hQ M1 (fun Q' hQ' => ?_))⟩
      obtain ⟨kk, I1, sx⟩ := I.kk i1 i6 jw
      refine w_X10_slip i1 i6 I1.2.1 kk hj ((I1.2.2.1.2.1 j hj).mp (by rw [sx.2.1 5 3 (by omega)]; exact h2.1)) h2.2 hN I1.2.2.2.2.1 (fun M2 ku rf => ?_)
      rw [← slF_ap h2.2]
      exact hQ' M2 W t (I1.ku ku rf)
    · refine ⟨-1, fun Q hQ => w_X9_slip_o2 i6 i1 h2 hN hs (hQ M (fun Q' hQ' => ?_))⟩
      by_cases h3 : 0 ≤ c.toInt ∧ c.toInt < 64
      · obtain ⟨j, hj, rfl⟩ := rgI (n := 64) h3
        exact w_X10_slip_o2 i1 i6 hj (fun z => h2 ⟨(hL.2.1 j hj).mpr z.1, z.2⟩) hN hs (hQ' M W t I)
      · exact w_X10_slip_o1 (fun z => h3 z.2) hN hs (hQ' M W t I)
  · exact ⟨-1, fun Q hQ => w_X9_slip_o1 h1 hN hs (hQ M (fun Q' hQ' => w_X10_slip_o1 (fun z => h1 z.1) hN hs (hQ' M W t I)))⟩
