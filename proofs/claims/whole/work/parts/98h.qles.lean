/-! one call of both: input, wants, world, give -/
theorem cnt_or {a : Int64} {j : Nat} (hj : j < 64) (h : ¬ hb a (nI j) = true) : ∀ k, k ≤ 64 → cnt (a ||| bitL (nI j)) k = cnt a k + (if j < k then 1 else 0)
  | 0, _ => rfl
  | k + 1, hk => by
    unfold cnt
    rw [cnt_or hj h k (by omega)]
    by_cases e : k = j
    · subst e
      rw [if_neg (by omega), if_pos ((hb_orb hj hj).mpr (Or.inr rfl)), if_neg h, if_pos (by omega)]
    · have q : (hb (a ||| bitL (nI j)) (nI k) = true) ↔ hb a (nI k) = true := by
        rw [hb_orb (by omega) hj]
        exact ⟨fun z => z.resolve_right e, Or.inl⟩
      by_cases g : hb a (nI k) = true
      · rw [if_pos (q.mpr g), if_pos g]
        by_cases l : j < k
        · rw [if_pos l, if_pos (by omega)]
        · rw [if_neg l, if_neg (by omega)]
      · rw [if_neg (fun z => g (q.mp z)), if_neg g]
        by_cases l : j < k
        · rw [if_pos l, if_pos (by omega)]
        · rw [if_neg l, if_neg (by omega)]
theorem cnt_in {a : Int64} {j : Nat} (hj : j < 64) (h : hb a (nI j) = true) : a ||| bitL (nI j) = a := hb_ext (fun z hz => by
  rw [hb_orb hz hj]
  exact ⟨fun q => q.elim id (fun e => by rw [e]; exact h), Or.inl⟩)
theorem bcn_lt {x : Int64} {n : Nat} (hn : n < 1000) (hx : cnt x 64 ≤ 64) : bcn x < nI n ↔ cnt x 64 < n := by
  rw [bcn_cnt]
  exact nI_ltI (by omega) (by omega)
theorem nI_iff {a b : Nat} (ha : a < 1000) (hb : b < 1000) : nI a = nI b ↔ a = b := nI_eq (by omega) (by omega)
theorem q_input {M : Mem} {N W t : Nat} (I : Inv M N W t) (c : Int32) : AlI mX9_input mX10_input 2 2 [(0, .ref 2), (1, .int c)] [(0, .ref 64), (1, .int c)] M N := by
  have hN := I.N9
  obtain ⟨hB, hR, hL, hS, hs, hNo, hch, hT, hC⟩ := id I
  by_cases h1 : 0 ≤ c.toInt ∧ c.toInt < 64
  · obtain ⟨j, hj, rfl⟩ := rgI (n := 64) h1
    have k1 : rI M 77 j = 0 ↔ ¬ hb (rJ M 5 2) (nI j) = true := by rw [hL.1 j hj]; exact ⟨fun z q => q z, fun z => Classical.byContradiction z⟩
    have k2 : ¬ (0 < (rI M 78 j).toInt) ↔ ¬ hb (rJ M 5 3) (nI j) = true := not_congr (hL.2.1 j hj).symm
    have k3 : bcn (rJ M 5 2) < 8 ↔ ¬ rI M 64 15 = 8 := by
      have e1 : bcn (rJ M 5 2) < nI 8 ↔ cnt (rJ M 5 2) 64 < 8 := bcn_lt (by decide) (by have := hC.2.1; omega)
      have e2 : rI M 64 15 = nI 8 ↔ cnt (rJ M 5 2) 64 = 8 := by rw [hC.1]; exact nI_iff (by have := hC.2.1; omega) (by decide)
      have e3 := hC.2.1
      constructor
      · intro z q
        have := e1.mp z
        have := e2.mp q
        omega
      · intro z
        refine e1.mpr ?_
        have : ¬ cnt (rJ M 5 2) 64 = 8 := fun q => z (e2.mpr q)
        omega
    by_cases h2 : ¬ hb (rJ M 5 2) (nI j) = true ∧ ¬ hb (rJ M 5 3) (nI j) = true ∧ bcn (rJ M 5 2) < 8
    · have h3 : rI M 77 j = 0 ∧ ¬ (0 < (rI M 78 j).toInt) ∧ ¬ rI M 64 15 = 8 := ⟨k1.mpr h2.1, k2.mpr h2.2.1, k3.mp h2.2.2⟩
      refine ⟨1, fun Q hQ => w_X9_input_in ⟨h1, h2⟩ hN hs (hQ _ (fun Q' hQ' => w_X10_input_in hj h3 hN hs (hQ' _ W t ?_)))⟩
      obtain ⟨X, eX⟩ : ∃ X, X = sI (sI (sI (sJ M 5 2 (rJ M 5 2 ||| bitL (nI j))) 77 j 1) 64 15 (rI (sJ M 5 2 (rJ M 5 2 ||| bitL (nI j))) 64 15 + 1)) 64 21 0 := ⟨_, rfl⟩
      rw [← eX]
      have xI : ∀ a p, rI X a p = if a = 64 ∧ p = 21 then 0 else if a = 64 ∧ p = 15 then rI M 64 15 + 1 else if a = 77 ∧ p = j then 1 else rI M a p := fun a p => by rw [eX]; rfl
      have xJ : ∀ a p, rJ X a p = if a = 5 ∧ p = 2 then rJ M 5 2 ||| bitL (nI j) else rJ M a p := fun a p => by rw [eX]; rfl
      have xR : X.2.2 = M.2.2 := by rw [eX]; rfl
      have x2 : rJ X 5 2 = rJ M 5 2 ||| bitL (nI j) := by rw [xJ, if_pos ⟨rfl, rfl⟩]
      have x3 : rJ X 5 3 = rJ M 5 3 := by rw [xJ, if_neg (by omega)]
      have ct := cnt_or hj h2.1 64 (Nat.le_refl _)
      rw [if_pos hj] at ct
      have l8 : cnt (rJ M 5 2) 64 < 8 := by
        have e2 : rI M 64 15 = nI 8 ↔ cnt (rJ M 5 2) 64 = 8 := by rw [hC.1]; exact nI_iff (by have := hC.2.1; omega) (by decide)
        have := hC.2.1
        have : ¬ cnt (rJ M 5 2) 64 = 8 := fun q => h3.2.2 (e2.mpr q)
        omega
      refine inv_les I (W' := W) (fun a p q1 q2 q3 => ?_) (fun a p q => ?_) xR (by rw [xI, if_pos ⟨rfl, rfl⟩]) (by rw [xI, if_neg (by omega), if_neg (by omega), if_neg (by omega)]; exact hB.1) hB.2.1 (by rw [xI, if_neg (by omega), if_neg (by omega), if_neg (by omega)]; exact hR.2.2.2.1) ?_ ?_
      · rw [xI, if_neg (by omega), if_neg (by omega), if_neg (by omega)]
      · rw [xJ, if_neg (by omega)]
      · obtain ⟨a1, a2, a3, a4, a5⟩ := hL
        refine ⟨fun d hd => ?_, fun d hd => ?_, fun w d hw hd => ?_, fun d hd => ?_, fun d hd q => ?_⟩
        · rw [x2, hb_orb hd hj, xI, if_neg (by omega), if_neg (by omega)]
          by_cases e : d = j
          · rw [if_pos ⟨rfl, e⟩]
            exact ⟨fun _ => by decide, fun _ => Or.inr e⟩
          · rw [if_neg (fun z => e z.2), ← a1 d hd]
            exact ⟨fun z => z.resolve_right e, Or.inl⟩
        · rw [x3, xI, if_neg (by omega), if_neg (by omega), if_neg (by omega)]
          exact a2 d hd
        · rw [xI, if_neg (by omega), if_neg (by omega), if_neg (by omega), xI, if_neg (by omega), if_neg (by omega), if_neg (by omega)]
          exact a3 w d hw hd
        · rw [xI, if_neg (by omega), if_neg (by omega), if_neg (by omega), xI, if_neg (by omega), if_neg (by omega), if_neg (by omega)]
          exact a4 d hd
        · rw [x2, hb_orb hd hj] at q
          rw [x3]
          rcases q with q | q
          · exact a5 d hd q
          · rw [q]; exact h2.2.1
      · unfold Cn
        rw [x2, x3, ct, xI, if_neg (by omega), if_pos ⟨rfl, rfl⟩, xI, if_neg (by omega), if_neg (by omega), if_neg (by omega), hC.1]
        exact ⟨(nI_1 _), by omega, hC.2.2⟩
    · exact ⟨0, fun Q hQ => w_X9_input_out (fun z => h2 z.2) hN hs (hQ M (fun Q' hQ' => w_X10_input_no hj (fun z => h2 ⟨k1.mp z.1, k2.mp z.2.1, k3.mpr z.2.2⟩) hN hs (hQ' M W t I)))⟩
  · exact ⟨0, fun Q hQ => w_X9_input_out (fun z => h1 z.1) hN hs (hQ M (fun Q' hQ' => w_X10_input_out h1 hN hs (hQ' M W t I)))⟩
theorem q_wants {M : Mem} {N W t : Nat} (I : Inv M N W t) (c v : Int32) : AlI mX9_wants mX10_wants 2 2 [(0, .ref 2), (1, .int c), (2, .int v)] [(0, .ref 64), (1, .int c), (2, .int v)] M N := by
  have hN := I.N9
  obtain ⟨hB, hR, hL, hS, hs, hNo, hch, hT, hC⟩ := id I
  by_cases h1 : 0 ≤ c.toInt ∧ c.toInt < 64
  · obtain ⟨j, hj, rfl⟩ := rgI (n := 64) h1
    have k1 : rI M 77 j = 0 ↔ ¬ hb (rJ M 5 2) (nI j) = true := by rw [hL.1 j hj]; exact ⟨fun z q => q z, fun z => Classical.byContradiction z⟩
    have k2 : 0 < (rI M 78 j).toInt ↔ hb (rJ M 5 3) (nI j) = true := (hL.2.1 j hj).symm
    have kv : (¬ v < 1 ∧ ¬ 100 < v) ↔ (1 ≤ v.toInt ∧ v.toInt ≤ 100) := by
      rw [Int32.lt_iff_toInt_lt, Int32.lt_iff_toInt_lt, tI_1, tI_100]
      omega
    have e2 : rI M 64 16 = nI 16 ↔ cnt (rJ M 5 3) 64 = 16 := by rw [hC.2.2.1]; exact nI_iff (by have := hC.2.2.2; omega) (by decide)
    have k3 : bcn (rJ M 5 3) < 16 ↔ ¬ rI M 64 16 = 16 := by
      have e1 : bcn (rJ M 5 3) < nI 16 ↔ cnt (rJ M 5 3) 64 < 16 := bcn_lt (by decide) (by have := hC.2.2.2; omega)
      have e3 := hC.2.2.2
      constructor
      · intro z q
        have := e1.mp z
        have := e2.mp q
        omega
      · intro z
        refine e1.mpr ?_
        have : ¬ cnt (rJ M 5 3) 64 = 16 := fun q => z (e2.mpr q)
        omega
    by_cases h2 : ¬ v < 1 ∧ ¬ 100 < v ∧ ¬ hb (rJ M 5 2) (nI j) = true ∧ (hb (rJ M 5 3) (nI j) = true ∨ bcn (rJ M 5 3) < 16)
    · have hv := kv.mp ⟨h2.1, h2.2.1⟩
      obtain ⟨M1, e1⟩ : ∃ M1, M1 = sI (sJ M 5 3 (rJ M 5 3 ||| bitL (nI j))) 7 j v := ⟨_, rfl⟩
      have m1I : ∀ a p, rI M1 a p = if a = 7 ∧ p = j then v else rI M a p := fun a p => by rw [e1]; rfl
      have h3 : rI M1 77 j = 0 ∧ (1 ≤ v.toInt ∧ v.toInt ≤ 100) ∧ (0 < (rI M1 78 j).toInt ∨ ¬ rI M1 64 16 = 16) := by
        rw [m1I, if_neg (by omega), m1I, if_neg (by omega), m1I, if_neg (by omega)]
        exact ⟨k1.mpr h2.2.2.1, hv, h2.2.2.2.elim (fun z => Or.inl (k2.mpr z)) (fun z => Or.inr (k3.mp z))⟩
      refine ⟨1, fun Q hQ => w_X9_wants_in hj ⟨h1, h2⟩ hN hs ?_⟩
      rw [← e1]
      refine hQ M1 (fun Q' hQ' => w_X10_wants_in hj h3 hN (by rw [e1]; exact hs) (hQ' _ W t ?_))
      obtain ⟨X, eX⟩ : ∃ X, X = sI (sI (sI M1 64 16 (rI M1 64 16 + (if 0 < (rI M1 78 j).toInt then 0 else 1))) 78 j v) 64 21 0 := ⟨_, rfl⟩
      rw [← eX]
      have xI : ∀ a p, rI X a p = if a = 64 ∧ p = 21 then 0 else if a = 78 ∧ p = j then v else if a = 64 ∧ p = 16 then rI M 64 16 + (if 0 < (rI M 78 j).toInt then 0 else 1) else if a = 7 ∧ p = j then v else rI M a p := fun a p => by rw [eX, e1]; rfl
      have xJ : ∀ a p, rJ X a p = if a = 5 ∧ p = 3 then rJ M 5 3 ||| bitL (nI j) else rJ M a p := fun a p => by rw [eX, e1]; rfl
      have xR : X.2.2 = M.2.2 := by rw [eX, e1]; rfl
      have x3 : rJ X 5 3 = rJ M 5 3 ||| bitL (nI j) := by rw [xJ, if_pos ⟨rfl, rfl⟩]
      have x2 : rJ X 5 2 = rJ M 5 2 := by rw [xJ, if_neg (by omega)]
      refine inv_les I (W' := W) (fun a p q1 q2 q3 => ?_) (fun a p q => ?_) xR (by rw [xI, if_pos ⟨rfl, rfl⟩]) (by rw [xI, if_neg (by omega), if_neg (by omega), if_neg (by omega), if_neg (by omega)]; exact hB.1) hB.2.1 (by rw [xI, if_neg (by omega), if_neg (by omega), if_neg (by omega), if_neg (by omega)]; exact hR.2.2.2.1) ?_ ?_
      · rw [xI, if_neg (by omega), if_neg (by omega), if_neg (by omega), if_neg (by omega)]
      · rw [xJ, if_neg (by omega)]
      · obtain ⟨a1, a2, a3, a4, a5⟩ := hL
        refine ⟨fun d hd => ?_, fun d hd => ?_, fun w d hw hd => ?_, fun d hd => ?_, fun d hd q => ?_⟩
        · rw [x2, xI, if_neg (by omega), if_neg (by omega), if_neg (by omega), if_neg (by omega)]
          exact a1 d hd
        · rw [x3, hb_orb hd hj, xI, if_neg (by omega)]
          by_cases e : d = j
          · rw [if_pos ⟨rfl, e⟩]
            exact ⟨fun _ => by omega, fun _ => Or.inr e⟩
          · rw [if_neg (fun z => e z.2), if_neg (by omega), if_neg (by omega), ← a2 d hd]
            exact ⟨fun z => z.resolve_right e, Or.inl⟩
        · rw [xI, if_neg (by omega), if_neg (by omega), if_neg (by omega), if_neg (by omega), xI, if_neg (by omega), if_neg (by omega), if_neg (by omega), if_neg (by omega)]
          exact a3 w d hw hd
        · by_cases e : d = j
          · rw [xI, if_neg (by omega), if_neg (by omega), if_neg (by omega), if_pos ⟨rfl, e⟩, xI, if_neg (by omega), if_pos ⟨rfl, e⟩]
          · rw [xI, if_neg (by omega), if_neg (by omega), if_neg (by omega), if_neg (by omega), xI, if_neg (by omega), if_neg (by omega), if_neg (by omega), if_neg (by omega)]
            exact a4 d hd
        · rw [x2] at q
          rw [x3, hb_orb hd hj]
          rintro (z | z)
          · exact a5 d hd q z
          · rw [z] at q; exact h2.2.2.1 q
      · have key : cnt (rJ M 5 3 ||| bitL (nI j)) 64 = cnt (rJ M 5 3) 64 + (if 0 < (rI M 78 j).toInt then 0 else 1) ∧ cnt (rJ M 5 3) 64 + (if 0 < (rI M 78 j).toInt then 0 else 1) ≤ 16 := by
          have e3 := hC.2.2.2
          by_cases g : hb (rJ M 5 3) (nI j) = true
          · rw [cnt_in hj g, if_pos (k2.mpr g)]
            omega
          · rw [cnt_or hj g 64 (Nat.le_refl _), if_pos hj, if_neg (fun z => g (k2.mp z))]
            have : ¬ cnt (rJ M 5 3) 64 = 16 := fun q => (k3.mp (h2.2.2.2.resolve_left g)) (e2.mpr q)
            omega
        unfold Cn
        rw [x2, x3, key.1, xI, if_neg (by omega), if_neg (by omega), if_neg (by omega), if_neg (by omega), xI, if_neg (by omega), if_neg (by omega), if_pos ⟨rfl, rfl⟩, hC.2.2.1]
        refine ⟨hC.1, hC.2.1, ?_, key.2⟩
        by_cases g : 0 < (rI M 78 j).toInt
        · rw [if_pos g, if_pos g]; exact Int32.add_zero _
        · rw [if_neg g, if_neg g]; exact nI_1 _
    · refine ⟨0, fun Q hQ => w_X9_wants_out (fun z => h2 z.2) hN hs (hQ M (fun Q' hQ' => w_X10_wants_no hj (fun z => h2 ?_) hN hs (hQ' M W t I)))⟩
      have hv := kv.mpr z.2.1
      exact ⟨hv.1, hv.2, k1.mp z.1, z.2.2.elim (fun q => Or.inl (k2.mp q)) (fun q => Or.inr (k3.mpr q))⟩
  · exact ⟨0, fun Q hQ => w_X9_wants_out (fun z => h1 z.1) hN hs (hQ M (fun Q' hQ' => w_X10_wants_out h1 hN hs (hQ' M W t I)))⟩
theorem q_world {M : Mem} {N W t : Nat} (I : Inv M N W t) : AlI mX9_world mX10_world 1 0 [(0, .ref 2)] [(0, .ref 64)] M N := by
  have hN := I.N9
  obtain ⟨hB, hR, hL, hS, hs, hNo, hch, hT, hC⟩ := id I
  by_cases h : W < 6
  · refine ⟨nI W, fun Q hQ => w_X9_world_in hB.1 h hN hs (hQ _ (fun Q' hQ' => w_X10_world_in (n := W) (hR.2.2.2.1) h hN hs (hQ' _ (W + 1) t ?_)))⟩
    obtain ⟨X, eX⟩ : ∃ X, X = sI (sI (sI M 5 4 (nI (W + 1))) 64 17 (nI (W + 1))) 64 21 0 := ⟨_, rfl⟩
    rw [← eX]
    have xI : ∀ a p, rI X a p = if a = 64 ∧ p = 21 then 0 else if a = 64 ∧ p = 17 then nI (W + 1) else if a = 5 ∧ p = 4 then nI (W + 1) else rI M a p := fun a p => by rw [eX]; rfl
    have xJ : ∀ a p, rJ X a p = rJ M a p := fun a p => by rw [eX]; rfl
    have xR : X.2.2 = M.2.2 := by rw [eX]; rfl
    refine inv_les I (W' := W + 1) (fun a p q1 q2 q3 => ?_) (fun a p q => xJ a p) xR (by rw [xI, if_pos ⟨rfl, rfl⟩]) (by rw [xI, if_neg (by omega), if_neg (by omega), if_pos ⟨rfl, rfl⟩]) (by omega) (by rw [xI, if_neg (by omega), if_pos ⟨rfl, rfl⟩]) ?_ ?_
    · rw [xI, if_neg (by omega), if_neg (by omega), if_neg (by omega)]
    · exact hL.lo (fun a p q => by rw [xI, if_neg (by omega), if_neg (by omega), if_neg (by omega)]) (xJ 5 2) (xJ 5 3)
    · exact hC.eq (by rw [xI, if_neg (by omega), if_neg (by omega), if_neg (by omega)]) (by rw [xI, if_neg (by omega), if_neg (by omega), if_neg (by omega)]) (xJ 5 2) (xJ 5 3)
  · have e : W = 6 := by have := hB.2.1; omega
    subst e
    exact ⟨-1, fun Q hQ => w_X9_world_out hB.1 hN hs (hQ M (fun Q' hQ' => w_X10_world_out hR.2.2.2.1 hN hs (hQ' M 6 t I)))⟩
theorem q_give {M : Mem} {N W t : Nat} (I : Inv M N W t) (w c x : Int32) : AlI mX9_give mX10_give 2 2 [(0, .ref 2), (1, .int w), (2, .int c), (3, .int x)] [(0, .ref 64), (1, .int w), (2, .int c), (3, .int x)] M N := by
  have hN := I.N9
  obtain ⟨hB, hR, hL, hS, hs, hNo, hch, hT, hC⟩ := id I
  have hW6 := hB.2.1
  have eW : (rI M 5 4).toInt = (W : Int) := by rw [hB.1]; exact nIt (by omega)
  by_cases h1 : (0 ≤ w.toInt ∧ w.toInt < (W : Int)) ∧ (0 ≤ c.toInt ∧ c.toInt < 64)
  · obtain ⟨v, hv, rfl⟩ := rgI h1.1
    obtain ⟨j, hj, rfl⟩ := rgI (n := 64) h1.2
    have k1 : ¬ rI M 77 j = 0 ↔ hb (rJ M 5 2) (nI j) = true := (hL.1 j hj).symm
    by_cases h2 : hb (rJ M 5 2) (nI j) = true ∧ (-9999 ≤ x.toInt ∧ x.toInt ≤ 9999)
    · refine ⟨1, fun Q hQ => w_X9_give_in (by omega) (by rw [eW]; omega) hj h2 hN hs (hQ _ (fun Q' hQ' => w_X10_give_in (n := W) hR.2.2.2.1 hW6 hv hj ⟨k1.mpr h2.1, h2.2⟩ hN hs (hQ' _ W t ?_)))⟩
      obtain ⟨X, eX⟩ : ∃ X, X = sI (sI (sI M 6 (v * 64 + j) x) 79 (64 * v + j) x) 64 21 0 := ⟨_, rfl⟩
      rw [← eX]
      have xI : ∀ a p, rI X a p = if a = 64 ∧ p = 21 then 0 else if a = 79 ∧ p = 64 * v + j then x else if a = 6 ∧ p = v * 64 + j then x else rI M a p := fun a p => by rw [eX]; rfl
      have xJ : ∀ a p, rJ X a p = rJ M a p := fun a p => by rw [eX]; rfl
      have xR : X.2.2 = M.2.2 := by rw [eX]; rfl
      refine inv_les I (W' := W) (fun a p q1 q2 q3 => ?_) (fun a p q => xJ a p) xR (by rw [xI, if_pos ⟨rfl, rfl⟩]) (by rw [xI, if_neg (by omega), if_neg (by omega), if_neg (by omega)]; exact hB.1) hW6 (by rw [xI, if_neg (by omega), if_neg (by omega), if_neg (by omega)]; exact hR.2.2.2.1) ?_ ?_
      · rw [xI, if_neg (by omega), if_neg (by omega), if_neg (by omega)]
      · obtain ⟨a1, a2, a3, a4, a5⟩ := hL
        refine ⟨fun d hd => ?_, fun d hd => ?_, fun u d hu hd => ?_, fun d hd => ?_, fun d hd q => ?_⟩
        · rw [xJ, xI, if_neg (by omega), if_neg (by omega), if_neg (by omega)]
          exact a1 d hd
        · rw [xJ, xI, if_neg (by omega), if_neg (by omega), if_neg (by omega)]
          exact a2 d hd
        · by_cases e : u = v ∧ d = j
          · rw [xI, if_neg (by omega), if_neg (by omega), if_pos ⟨rfl, by rw [e.1, e.2]⟩, xI, if_neg (by omega), if_pos ⟨rfl, by rw [e.1, e.2]⟩]
          · rw [xI, if_neg (by omega), if_neg (by omega), if_neg (by omega), xI, if_neg (by omega), if_neg (by omega), if_neg (by omega)]
            exact a3 u d hu hd
        · rw [xI, if_neg (by omega), if_neg (by omega), if_neg (by omega), xI, if_neg (by omega), if_neg (by omega), if_neg (by omega)]
          exact a4 d hd
        · rw [xJ] at q ⊢
          exact a5 d hd q
      · exact hC.eq (by rw [xI, if_neg (by omega), if_neg (by omega), if_neg (by omega)]) (by rw [xI, if_neg (by omega), if_neg (by omega), if_neg (by omega)]) (xJ 5 2) (xJ 5 3)
    · exact ⟨0, fun Q hQ => w_X9_give_out (fun z => h2 z.2) hN hs (hQ M (fun Q' hQ' => w_X10_give_no (n := W) hR.2.2.2.1 hW6 hv hj (fun z => h2 ⟨k1.mp z.1, z.2⟩) hN hs (hQ' M W t I)))⟩
  · refine ⟨0, fun Q hQ => w_X9_give_out (fun z => h1 ⟨by rw [← eW]; exact z.1, hb_rng z.2.1⟩) hN hs (hQ M (fun Q' hQ' => w_X10_give_out (n := W) hR.2.2.2.1 hW6 h1 hN hs (hQ' M W t I)))⟩
