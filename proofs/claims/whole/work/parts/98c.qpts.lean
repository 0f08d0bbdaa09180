/-! one call of both: points -/
theorem ptF_cg {K W W' : Nat → Int32} {wd : Int64} {c : Int32} : ∀ k, (∀ j, j < k → W' j = W j) → ptF K W' wd c k = ptF K W wd c k
  | 0, _ => rfl
  | k + 1, h => by
    have ih := ptF_cg (K := K) (wd := wd) (c := c) k (fun j hj => h j (by omega))
    unfold ptF
    rw [ih, h k (Nat.lt_succ_self k)]
theorem q_points {M : Mem} {N W t : Nat} (I : Inv M N W t) (s c : Int32) : AlI mX9_points mX10_points 8 14 [(0, .ref 2), (1, .int s), (2, .int c)] [(0, .ref 64), (1, .int s), (2, .int c)] M N := by
  have hN := I.N9
  obtain ⟨hB, hR, hL, hS, hs, -⟩ := id I
  by_cases h1 : 1 ≤ s.toInt ∧ s.toInt < 6
  · obtain ⟨i, i1, i6, rfl⟩ := rg1 h1
    have k6 : ∀ x, x < 64 → 0 < (rI M 78 x).toInt → kpO M i W x = 0 ∨ kpO M i W x = 1 ∨ kpO M i W x = 2 ∨ kpO M i W x = 3 ∨ kpO M i W x = 4 ∨ kpO M i W x = 5 := fun x _ _ => jdK_6
    by_cases h2 : c = -1 ∨ hb (rJ M 5 3) c = true
    · refine ⟨ptF (kpO M i W) (rI M 7) (rJ M 5 3) c 64, fun Q hQ => w_X9_points i6 i1 hB (I.hk i1 i6) h2 hN hs (fun M1 jw => hQ M1 (fun Q' hQ' => ?_))⟩
      obtain ⟨kk, I1, sx⟩ := I.kk i1 i6 jw
      have e78 : ∀ x, rI M1 78 x = rI M 78 x := fun x => sx.1 78 x (by omega)
      have hwd : ∀ x, x < 64 → (hb (rJ M 5 3) (nI x) = true ↔ 0 < (rI M1 78 x).toInt) := fun x hx => by rw [e78]; exact hL.2.1 x hx
      have cg : ptF (kpO M i W) (rI M1 78) (rJ M 5 3) c 64 = ptF (kpO M i W) (rI M 7) (rJ M 5 3) c 64 := ptF_cg 64 (fun j hj => by rw [e78]; exact (hL.2.2.2.1 j hj).symm)
      rw [← cg] at hQ'
      by_cases h3 : c = -1
      · subst h3
        exact w_X10_points_a i1 i6 I1.2.1 kk hwd (fun x hx z => k6 x hx (by rw [← e78]; exact z)) hN I1.2.2.2.2.1 (fun M2 ku rf => hQ' M2 W t (I1.ku ku rf))
      · obtain ⟨j, hj, rfl⟩ := rgI (n := 64) (hb_rng (h2.resolve_left h3))
        exact w_X10_points_c i1 i6 I1.2.1 kk hwd (fun x hx z => k6 x hx (by rw [← e78]; exact z)) hj ((hwd j hj).mp (h2.resolve_left h3)) hN I1.2.2.2.2.1 (fun M2 ku rf => hQ' M2 W t (I1.ku ku rf))
    · refine ⟨-1, fun Q hQ => w_X9_points_o2 i6 i1 h2 hN hs (hQ M (fun Q' hQ' => ?_))⟩
      have h3 : ¬ c = -1 := fun z => h2 (Or.inl z)
      by_cases h4 : 0 ≤ c.toInt ∧ c.toInt < 64
      · obtain ⟨j, hj, rfl⟩ := rgI (n := 64) h4
        exact w_X10_points_o3 i1 i6 hj (fun z => h2 (Or.inr ((hL.2.1 j hj).mpr z))) hN hs (hQ' M W t I)
      · exact w_X10_points_o2 i1 i6 h3 h4 hN hs (hQ' M W t I)
  · exact ⟨-1, fun Q hQ => w_X9_points_o1 h1 hN hs (hQ M (fun Q' hQ' => w_X10_points_o1 h1 hN hs (hQ' M W t I)))⟩
