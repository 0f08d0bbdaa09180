/-! one call of both: right figures -/
theorem q_right {M : Mem} {N W t : Nat} (I : Inv M N W t) (s c w : Int32) : AlL mX9_right mX10_right 7 8 [(0, .ref 2), (1, .int s), (2, .int c), (3, .int w)] [(0, .ref 64), (1, .int s), (2, .int c), (3, .int w)] M N := by
  have hN := I.N9
  obtain ⟨hB, hR, hL, hS, hs, -⟩ := id I
  have hW6 := hB.2.1
  by_cases h : (0 ≤ s.toInt ∧ s.toInt < 6) ∧ (0 ≤ c.toInt ∧ c.toInt < 64) ∧ (0 ≤ w.toInt ∧ w.toInt < W)
  · obtain ⟨h1, h2, h3⟩ := h
    obtain ⟨i, hi, rfl⟩ := rgI (n := 6) h1
    obtain ⟨j, hj, rfl⟩ := rgI (n := 64) h2
    obtain ⟨v, hv, rfl⟩ := rgI h3
    have sx0 : Sx M (rkO M 47 9 W) := rkO_sx FgR47
    obtain ⟨X, eX⟩ : ∃ X, X = rkO M 47 9 W := ⟨_, rfl⟩
    have sx1 : Sx (rkO M 47 9 W) (rkR (rkO M 47 9 W) 57 (9 + 6 * i) 47 j W) := rkR_sx FgR57
    obtain ⟨M1, e1⟩ : ∃ M1, M1 = rkR (rkO M 47 9 W) 57 (9 + 6 * i) 47 j W := ⟨_, rfl⟩
    rw [← e1, ← eX] at sx1
    rw [← eX] at sx0
    have I1 := (I.sx sx0).sx sx1
    have IX := I.sx sx0
    refine ⟨rJ M1 (57 + 2) (v * 64 + j), fun Q hQ => w_X9_right hi hj hv hB hN hs ?_⟩
    rw [← e1]
    refine hQ M1 (fun Q' hQ' => ?_)
    refine w_X10_right hi hj hv I1.2.1.1 hW6 I1.2.1.2.2.2.1 I1.2.1.2.2.2.2.1 hN I1.2.2.2.2.1 (fun M' M'' a e kt fr tk kp ans => ?_)
    have k1 := kt.k0
    have kX : K0 X M' := ⟨fun a j p q => by rw [k1.1 a j p q]; exact sx1.1 a j (by omega), fun j p q => by rw [k1.2.1 j p q]; exact sx1.1 64 j (by omega), fun j => by rw [k1.2.2 j]; exact sx1.2.1 76 j (by omega)⟩
    have kM : K0 M M' := ⟨fun a j p q => by rw [kX.1 a j p q]; exact sx0.1 a j (by omega), fun j p q => by rw [kX.2.1 j p q]; exact sx0.1 64 j (by omega), fun j => by rw [kX.2.2 j]; exact sx0.2.1 76 j (by omega)⟩
    have hg : GA M' := kM.ga hR.1
    have task := task_eq (X := X) (hS 0 (by decide)) hL hR.2.1 (hB.2.2.2 47 FgR47) hW6 (fun w x _ => by rw [eX]; exact ⟨rfl, rfl⟩) kM tk (fun x w => stR_cg (by decide) (hg.at (by decide)))
    obtain ⟨dR, rt⟩ := right_tab (M' := M') hi hj (IX.2.2.2.1 i hi) IX.2.2.1 IX.2.1.2.1 (IX.1.2.2.2 57 FgR57) hW6 kX (fun w hw x hx hp => task w hw x hx (by rw [← sx0.1 78 x (by omega)]; exact hp))
    have cg : ∀ w, Cgr (ndR M' i j 1) (stR M' i j 1 w) := fun w => stR_cg hi (hg.at hi)
    have rans := right_ans hi hj (IX.2.2.2.1 i hi) IX.2.2.1 IX.2.1.2.1 kX cg rt v hv
    rw [eX, ← e1] at rans
    have u := Ans_uniq (cg v) hj ans rans
    have ua : a = rJ M1 (57 + 2) (v * 64 + j) := congrArg Prod.fst u
    rw [ua]
    have ku : KU M1 M'' := kt.ku.trans kp.kt.ku
    exact hQ' M'' W t (I1.ku ku (I1.2.1.ku ku (kp.fr (fun _ => tk))))
  · refine ⟨-1, fun Q hQ => ?_⟩
    have k := hQ M (fun Q' hQ' => w_X10_right_out hW6 hR.2.2.2.1 h hN hs (hQ' M W t I))
    by_cases h1 : 0 ≤ s.toInt ∧ s.toInt < 6
    · obtain ⟨i, hi, rfl⟩ := rgI (n := 6) h1
      exact w_X9_right_o2 hi hB.1 hW6 (fun z => h ⟨h1, z⟩) hN hs k
    · exact w_X9_right_o1 h1 hN hs k
theorem q_rightError {M : Mem} {N W t : Nat} (I : Inv M N W t) (s c w : Int32) : AlI mX9_rightError mX10_rightError 7 8 [(0, .ref 2), (1, .int s), (2, .int c), (3, .int w)] [(0, .ref 64), (1, .int s), (2, .int c), (3, .int w)] M N := by
  have hN := I.N9
  obtain ⟨hB, hR, hL, hS, hs, -⟩ := id I
  have hW6 := hB.2.1
  by_cases h : (0 ≤ s.toInt ∧ s.toInt < 6) ∧ (0 ≤ c.toInt ∧ c.toInt < 64) ∧ (0 ≤ w.toInt ∧ w.toInt < W)
  · obtain ⟨h1, h2, h3⟩ := h
    obtain ⟨i, hi, rfl⟩ := rgI (n := 6) h1
    obtain ⟨j, hj, rfl⟩ := rgI (n := 64) h2
    obtain ⟨v, hv, rfl⟩ := rgI h3
    have sx0 : Sx M (rkO M 47 9 W) := rkO_sx FgR47
    obtain ⟨X, eX⟩ : ∃ X, X = rkO M 47 9 W := ⟨_, rfl⟩
    have sx1 : Sx (rkO M 47 9 W) (rkR (rkO M 47 9 W) 57 (9 + 6 * i) 47 j W) := rkR_sx FgR57
    obtain ⟨M1, e1⟩ : ∃ M1, M1 = rkR (rkO M 47 9 W) 57 (9 + 6 * i) 47 j W := ⟨_, rfl⟩
    rw [← e1, ← eX] at sx1
    rw [← eX] at sx0
    have I1 := (I.sx sx0).sx sx1
    have IX := I.sx sx0
    refine ⟨rI M1 (57 + 3) (v * 64 + j), fun Q hQ => w_X9_rightError hi hj hv hB hN hs ?_⟩
    rw [← e1]
    refine hQ M1 (fun Q' hQ' => ?_)
    refine w_X10_rightError hi hj hv I1.2.1.1 hW6 I1.2.1.2.2.2.1 I1.2.1.2.2.2.2.1 hN I1.2.2.2.2.1 (fun M' M'' a e kt fr tk kp ans => ?_)
    have k1 := kt.k0
    have kX : K0 X M' := ⟨fun a j p q => by rw [k1.1 a j p q]; exact sx1.1 a j (by omega), fun j p q => by rw [k1.2.1 j p q]; exact sx1.1 64 j (by omega), fun j => by rw [k1.2.2 j]; exact sx1.2.1 76 j (by omega)⟩
    have kM : K0 M M' := ⟨fun a j p q => by rw [kX.1 a j p q]; exact sx0.1 a j (by omega), fun j p q => by rw [kX.2.1 j p q]; exact sx0.1 64 j (by omega), fun j => by rw [kX.2.2 j]; exact sx0.2.1 76 j (by omega)⟩
    have hg : GA M' := kM.ga hR.1
    have task := task_eq (X := X) (hS 0 (by decide)) hL hR.2.1 (hB.2.2.2 47 FgR47) hW6 (fun w x _ => by rw [eX]; exact ⟨rfl, rfl⟩) kM tk (fun x w => stR_cg (by decide) (hg.at (by decide)))
    obtain ⟨dR, rt⟩ := right_tab (M' := M') hi hj (IX.2.2.2.1 i hi) IX.2.2.1 IX.2.1.2.1 (IX.1.2.2.2 57 FgR57) hW6 kX (fun w hw x hx hp => task w hw x hx (by rw [← sx0.1 78 x (by omega)]; exact hp))
    have cg : ∀ w, Cgr (ndR M' i j 1) (stR M' i j 1 w) := fun w => stR_cg hi (hg.at hi)
    have rans := right_ans hi hj (IX.2.2.2.1 i hi) IX.2.2.1 IX.2.1.2.1 kX cg rt v hv
    rw [eX, ← e1] at rans
    have u := Ans_uniq (cg v) hj ans rans
    have ua : e = rI M1 (57 + 3) (v * 64 + j) := congrArg Prod.snd u
    rw [ua]
    have ku : KU M1 M'' := kt.ku.trans kp.kt.ku
    exact hQ' M'' W t (I1.ku ku (I1.2.1.ku ku (kp.fr (fun _ => tk))))
  · refine ⟨-1, fun Q hQ => ?_⟩
    have k := hQ M (fun Q' hQ' => w_X10_rightError_out hW6 hR.2.2.2.1 h hN hs (hQ' M W t I))
    by_cases h1 : 0 ≤ s.toInt ∧ s.toInt < 6
    · obtain ⟨i, hi, rfl⟩ := rgI (n := 6) h1
      exact w_X9_rightError_o2 hi hB.1 hW6 (fun z => h ⟨h1, z⟩) hN hs k
    · exact w_X9_rightError_o1 h1 hN hs k
