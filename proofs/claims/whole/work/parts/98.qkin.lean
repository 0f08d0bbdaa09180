/-! one call of both: kind -/
theorem hb_rng {x : Int64} {c : Int32} (h : hb x c = true) : 0 ≤ c.toInt ∧ c.toInt < 64 := by
  refine Classical.byContradiction (fun n => ?_)
  rw [hb_iff] at h
  refine h ?_
  unfold bitL
  rw [if_neg n]
  exact Int64.and_zero
theorem q_kind {M : Mem} {N W t : Nat} (I : Inv M N W t) (s c : Int32) : AlI mX9_kind mX10_kind 8 13 [(0, .ref 2), (1, .int s), (2, .int c)] [(0, .ref 64), (1, .int s), (2, .int c)] M N := by
  have hN := I.N9
  obtain ⟨hB, hR, hL, hS, hs, -⟩ := id I
  by_cases h1 : 1 ≤ s.toInt ∧ s.toInt < 6
  · obtain ⟨i, i1, i6, rfl⟩ := rg1 h1
    by_cases h2 : hb (rJ M 5 3) c = true
    · obtain ⟨j, hj, rfl⟩ := rgI (n := 64) (hb_rng h2)
      refine ⟨kpO M i W j, fun Q hQ => w_X9_kind i6 i1 hj hB h2 hN hs (fun M1 jw => hQ M1 (fun Q' hQ' => ?_))⟩
      have sx : Sx M M1 := opM_sx.tr jw.sx
      have I1 := I.sx sx
      refine w_X10_kind i1 i6 I1.2.1 (kk_ok (I.jc i1 i6) (fun a k q => sx.1 a k (by omega)) (fun a k q => sx.2.1 a k (by omega))) hj ((I1.2.2.1.2.1 j hj).mp (by rw [sx.2.1 5 3 (by omega)]; exact h2)) hN I1.2.2.2.2.1 (fun M2 ku rf _ => hQ' M2 W t (I1.ku ku rf))
    · refine ⟨-1, fun Q hQ => w_X9_kind_o2 i6 i1 h2 hN hs (hQ M (fun Q' hQ' => ?_))⟩
      by_cases h3 : 0 ≤ c.toInt ∧ c.toInt < 64
      · obtain ⟨j, hj, rfl⟩ := rgI (n := 64) h3
        exact w_X10_kind_o2 i1 i6 hj (fun z => h2 ((hL.2.1 j hj).mpr z)) hN hs (hQ' M W t I)
      · exact w_X10_kind_o1 (fun z => h3 z.2) hN hs (hQ' M W t I)
  · exact ⟨-1, fun Q hQ => w_X9_kind_o1 h1 hN hs (hQ M (fun Q' hQ' => w_X10_kind_o1 (fun z => h1 z.1) hN hs (hQ' M W t I)))⟩
