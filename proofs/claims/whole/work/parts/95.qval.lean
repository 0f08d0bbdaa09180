/-! one call of both: value and error -/
def AlI (mC mR : MD) (dC dR : Nat) (LC LR : List (Nat × Value)) (M : Mem) (N : Nat) : Prop := ∃ v : Int32, ∀ Q : Option Value → Nat → Mem → Prop, (∀ M1, (∀ Q' : Option Value → Nat → Mem → Prop, (∀ M2 W t, Inv M2 N W t → Q' (some (.int v)) N M2) → AW mR dR 0 0 N 0 LR [] M1 Q') → Q (some (.int v)) N M1) → AW mC dC 0 0 N 0 LC [] M Q
def AlL (mC mR : MD) (dC dR : Nat) (LC LR : List (Nat × Value)) (M : Mem) (N : Nat) : Prop := ∃ v : Int64, ∀ Q : Option Value → Nat → Mem → Prop, (∀ M1, (∀ Q' : Option Value → Nat → Mem → Prop, (∀ M2 W t, Inv M2 N W t → Q' (some (.long v)) N M2) → AW mR dR 0 0 N 0 LR [] M1 Q') → Q (some (.long v)) N M1) → AW mC dC 0 0 N 0 LC [] M Q
theorem rgI {s : Int32} {n : Nat} (h : 0 ≤ s.toInt ∧ s.toInt < n) : ∃ i, i < n ∧ s = nI i := by
  obtain ⟨i, hi, rfl⟩ := nI_of (x := s) (fun z => by rw [Int32.lt_iff_toInt_lt, tI_0] at z; omega)
  rw [nIt (by omega)] at h
  exact ⟨i, by omega, rfl⟩
theorem Kp.fr {M M' : Mem} {W : Nat} (k : Kp M M') (f : FrI M W) : FrI M' W := fun z => (f (by rw [k.2.1 64 21 (by omega) (by omega) (by omega)] at z; exact z)).k0 k.k0 k.j80
theorem Inv.kp {M M' : Mem} {N W t : Nat} (k : Kp M M') (h : Inv M N W t) : Inv M' N W t := h.ku k.kt.ku (h.2.1.ku k.kt.ku (k.fr h.2.1.2.2.2.2.1))
theorem Inv.N9 {M : Mem} {N W t : Nat} (h : Inv M N W t) : 94 ≤ N := by
  obtain ⟨k, e⟩ := h.2.2.2.2.2.1
  omega
theorem Sx.k00 {M X : Mem} (h : Sx M X) : K0 M X := ⟨fun a j p q => h.1 a j (by omega), fun j p q => h.1 64 j (by omega), fun j => h.2.1 76 j (by omega)⟩
theorem q_value {M : Mem} {N W t : Nat} (I : Inv M N W t) (s c w : Int32) : AlL mX9_value mX10_value 7 8 [(0, .ref 2), (1, .int s), (2, .int c), (3, .int w)] [(0, .ref 64), (1, .int s), (2, .int c), (3, .int w)] M N := by
  have hN := I.N9
  obtain ⟨hB, hR, hL, hS, hs, -⟩ := id I
  have hW6 := hB.2.1
  by_cases h : (0 ≤ s.toInt ∧ s.toInt < 6) ∧ (0 ≤ c.toInt ∧ c.toInt < 64) ∧ (0 ≤ w.toInt ∧ w.toInt < W)
  · obtain ⟨h1, h2, h3⟩ := h
    obtain ⟨i, hi, rfl⟩ := rgI (n := 6) h1
    obtain ⟨j, hj, rfl⟩ := rgI (n := 64) h2
    obtain ⟨v, hv, rfl⟩ := rgI h3
    have sx : Sx M (rkO M 52 (9 + 6 * i) W) := rkO_sx FgR52
    obtain ⟨-, -, own⟩ := own_ans (i := i) (g := 52) hi FgR52 (hS i hi) hL hR.2.1 (hB.2.2.2 52 FgR52) hW6 j
    have o := (own v hv).2 j hj
    have I1 := I.sx sx
    obtain ⟨M1, e1⟩ : ∃ M1, M1 = rkO M 52 (9 + 6 * i) W := ⟨_, rfl⟩
    rw [← e1] at sx o I1
    refine ⟨rJ M1 (52 + 2) (v * 64 + j), fun Q hQ => w_X9_value hi hj hv hB hN hs ?_⟩
    rw [← e1]
    refine hQ M1 (fun Q' hQ' => ?_)
    refine w_X10_value hi hj hv I1.2.1.1 hW6 I1.2.1.2.2.2.1 hN I1.2.2.2.2.1 (fun M' a e kp ans => ?_)
    rw [sx.k00.nd, sx.k00.st (Or.inl rfl)] at ans
    have u := Ans_uniq (stR_cg hi (hR.1.at hi)) hj ans o
    have ua : a = rJ M1 (52 + 2) (v * 64 + j) := congrArg Prod.fst u
    rw [ua]
    exact hQ' M' W t (I1.kp kp)
  · refine ⟨-1, fun Q hQ => ?_⟩
    have k := hQ M (fun Q' hQ' => w_X10_value_out hW6 hR.2.2.2.1 h hN hs (hQ' M W t I))
    by_cases h1 : 0 ≤ s.toInt ∧ s.toInt < 6
    · obtain ⟨i, hi, rfl⟩ := rgI (n := 6) h1
      exact w_X9_value_o2 hi hB.1 hW6 (fun z => h ⟨h1, z⟩) hN hs k
    · exact w_X9_value_o1 h1 hN hs k
theorem q_error {M : Mem} {N W t : Nat} (I : Inv M N W t) (s c w : Int32) : AlI mX9_error mX10_error 7 8 [(0, .ref 2), (1, .int s), (2, .int c), (3, .int w)] [(0, .ref 64), (1, .int s), (2, .int c), (3, .int w)] M N := by
  have hN := I.N9
  obtain ⟨hB, hR, hL, hS, hs, -⟩ := id I
  have hW6 := hB.2.1
  by_cases h : (0 ≤ s.toInt ∧ s.toInt < 6) ∧ (0 ≤ c.toInt ∧ c.toInt < 64) ∧ (0 ≤ w.toInt ∧ w.toInt < W)
  · obtain ⟨h1, h2, h3⟩ := h
    obtain ⟨i, hi, rfl⟩ := rgI (n := 6) h1
    obtain ⟨j, hj, rfl⟩ := rgI (n := 64) h2
    obtain ⟨v, hv, rfl⟩ := rgI h3
    have sx : Sx M (rkO M 52 (9 + 6 * i) W) := rkO_sx FgR52
    obtain ⟨-, -, own⟩ := own_ans (i := i) (g := 52) hi FgR52 (hS i hi) hL hR.2.1 (hB.2.2.2 52 FgR52) hW6 j
    have o := (own v hv).2 j hj
    have I1 := I.sx sx
    obtain ⟨M1, e1⟩ : ∃ M1, M1 = rkO M 52 (9 + 6 * i) W := ⟨_, rfl⟩
    rw [← e1] at sx o I1
    refine ⟨rI M1 (52 + 3) (v * 64 + j), fun Q hQ => w_X9_error hi hj hv hB hN hs ?_⟩
    rw [← e1]
    refine hQ M1 (fun Q' hQ' => ?_)
    refine w_X10_error hi hj hv I1.2.1.1 hW6 I1.2.1.2.2.2.1 hN I1.2.2.2.2.1 (fun M' a e kp ans => ?_)
    rw [sx.k00.nd, sx.k00.st (Or.inl rfl)] at ans
    have u := Ans_uniq (stR_cg hi (hR.1.at hi)) hj ans o
    have ua : e = rI M1 (52 + 3) (v * 64 + j) := congrArg Prod.snd u
    rw [ua]
    exact hQ' M' W t (I1.kp kp)
  · refine ⟨-1, fun Q hQ => ?_⟩
    have k := hQ M (fun Q' hQ' => w_X10_error_out hW6 hR.2.2.2.1 h hN hs (hQ' M W t I))
    by_cases h1 : 0 ≤ s.toInt ∧ s.toInt < 6
    · obtain ⟨i, hi, rfl⟩ := rgI (n := 6) h1
      exact w_X9_error_o2 hi hB.1 hW6 (fun z => h ⟨h1, z⟩) hN hs k
    · exact w_X9_error_o1 h1 hN hs k
