/-! one call of both: number, clear -/
theorem pw_I {M : Mem} {q j a p : Nat} {w v : Int32} {o : Option Nat} {n : Int64} : rI (putS M q j w v o n) a p = if a = q + 3 ∧ p = j then v else if a = q + 2 ∧ p = j then w else rI M a p := rfl
theorem pw_J {M : Mem} {q j a p : Nat} {w v : Int32} {o : Option Nat} {n : Int64} : rJ (putS M q j w v o n) a p = if a = q ∧ p = 5 then (if w = 2 then rJ M q 5 ||| bitL (nI j) else rJ M q 5 &&& (bitL (nI j) ^^^ (-1))) else if a = q + 5 ∧ p = j then n else rJ M a p := rfl
theorem pw_A {M : Mem} {q j a p : Nat} {w v : Int32} {o : Option Nat} {n : Int64} : rA (putS M q j w v o n) a p = if a = q + 4 ∧ p = j then o else rA M a p := rfl
theorem pw_L {M : Mem} {q j : Nat} {w v : Int32} {o : Option Nat} {n : Int64} : (putS M q j w v o n).2.2.2 = M.2.2.2 := rfl
theorem hb_clr {a : Int64} {x j : Nat} (hx : x < 64) (hj : j < 64) : hb (a &&& (bitL (nI j) ^^^ (-1))) (nI x) = true ↔ hb a (nI x) = true ∧ ¬ x = j := by rw [hb_and hx, hb_not hx, hb_bit hx hj, decide_eq_true_eq]
theorem inv_pl {M X : Mem} {N W t i j : Nat} (I : Inv M N W t) (hi : i < 6) (hj : j < 64) {w v u : Int32} (hw : (w = 0 ∧ v = 0) ∨ (w = 1 ∧ v = u)) (hX : ∀ a p, rI X a p = if a = 64 ∧ p = 21 then 0 else if a = 67 ∧ p = 64 * i + j then u else if a = 66 ∧ p = 64 * i + j then w else if a = 9 + 6 * i + 3 ∧ p = j then v else if a = 9 + 6 * i + 2 ∧ p = j then w else rI M a p)
    (hJ : X.2.1 = (putS M (9 + 6 * i) j w v none 0).2.1) (hR : X.2.2 = (putS M (9 + 6 * i) j w v none 0).2.2) : Inv X N W t := by
  have w2 : ¬ w = 2 := by rcases hw with h | h <;> rw [h.1] <;> decide
  have hN := I.N9
  have xJ : ∀ a p, rJ X a p = if a = 9 + 6 * i ∧ p = 5 then rJ M (9 + 6 * i) 5 &&& (bitL (nI j) ^^^ (-1)) else if a = 9 + 6 * i + 5 ∧ p = j then 0 else rJ M a p := fun a p => by
    have e : rJ X a p = rJ (putS M (9 + 6 * i) j w v none 0) a p := by unfold rJ; rw [hJ]
    rw [e, pw_J, if_neg w2]
  have xA : ∀ a p, rA X a p = if a = 9 + 6 * i + 4 ∧ p = j then none else rA M a p := fun a p => by
    have e : rA X a p = rA (putS M (9 + 6 * i) j w v none 0) a p := by unfold rA; rw [hR]
    rw [e, pw_A]
  have xL : X.2.2.2 = M.2.2.2 := by rw [hR]; rfl
  have x66 : rI X 66 (64 * i + j) = w := by rw [hX, if_neg (by omega), if_neg (by omega), if_pos ⟨rfl, rfl⟩]
  have x67 : rI X 67 (64 * i + j) = u := by rw [hX, if_neg (by omega), if_pos ⟨rfl, rfl⟩]
  have x3 : rI X (9 + 6 * i + 3) j = v := by rw [hX, if_neg (by omega), if_neg (by omega), if_neg (by omega), if_pos ⟨rfl, rfl⟩]
  have x2 : rI X (9 + 6 * i + 2) j = w := by rw [hX, if_neg (by omega), if_neg (by omega), if_neg (by omega), if_neg (by omega), if_pos ⟨rfl, rfl⟩]
  have xAj : rA X (9 + 6 * i + 4) j = none := by rw [xA, if_pos ⟨rfl, rfl⟩]
  have x5 : rJ X (9 + 6 * i) 5 = rJ M (9 + 6 * i) 5 &&& (bitL (nI j) ^^^ (-1)) := by rw [xJ, if_pos ⟨rfl, rfl⟩]
  refine inv_put I hi hj (Nat.le_refl _) I.2.2.2.2.2.1 (fun a p h0 h1 h2 h3 h4 h5 h6 => ?_) (fun a p h0 h1 => ?_) (fun a p h0 h1 h2 h3 => ?_) (fun a p h0 h1 => ?_) (fun a h0 h1 => by rw [xL]) (fun x hx hne => ?_) ?_ ?_ (fun f e => ?_) ?_
  · rw [hX, if_neg (by omega), if_neg (by omega), if_neg (by omega), if_neg (by omega), if_neg (by omega)]
  · rw [hX, if_neg (by omega), if_neg (by omega), if_neg (by omega), if_neg (by omega), if_neg (by omega)]
  · rw [xJ, if_neg h1, if_neg h2]
  · rw [xA, if_neg h1]
  · rw [x5]
    exact Bool.eq_iff_iff.mpr ⟨fun z => ((hb_clr hx hj).mp z).1, fun z => (hb_clr hx hj).mpr ⟨z, hne⟩⟩
  · rw [hX, if_pos ⟨rfl, rfl⟩]
  · refine ⟨x2.trans x66.symm, ?_, ⟨fun z => ?_, fun z => absurd (x66.symm.trans z) w2⟩, fun z => ?_, fun z => ?_, fun z => absurd (x66.symm.trans z) w2, fun _ => ⟨xAj, ?_⟩, fun z => absurd (x66.symm.trans z) w2⟩
    · rw [x66]
      rcases hw with h | h
      · exact Or.inl h.1
      · exact Or.inr (Or.inl h.1)
    · rw [x5] at z
      exact absurd rfl ((hb_clr hj hj).mp z).2
    · rcases hw with h | h
      · exact absurd (h.1.symm.trans (x66.symm.trans z)) (by decide)
      · exact x3.trans (h.2.trans x67.symm)
    · rcases hw with h | h
      · exact x3.trans h.2
      · exact absurd (h.1.symm.trans (x66.symm.trans z)) (by decide)
    · rw [xJ, if_neg (by omega), if_pos ⟨rfl, rfl⟩]
  · rw [xAj] at e
    cases e
  · exact I.2.2.2.2.2.2.2.1.eq (fun a p q => by rw [hX, if_neg (by omega), if_neg (by omega), if_neg (by omega), if_neg (by omega), if_neg (by omega)]) (by rw [hX, if_neg (by omega), if_neg (by omega), if_neg (by omega), if_neg (by omega), if_neg (by omega)])
theorem putS_str {M : Mem} {i j : Nat} {w v : Int32} {o : Option Nat} {n : Int64} (hi : i < 6) (hs : Str M.2.2.1) : Str (putS M (9 + 6 * i) j w v o n).2.2.1 := Str_up hs ⟨i, hi, rfl⟩
theorem q_number {M : Mem} {N W t : Nat} (I : Inv M N W t) (s c v : Int32) : AlI mX9_number mX10_number 3 2 [(0, .ref 2), (1, .int s), (2, .int c), (3, .int v)] [(0, .ref 64), (1, .int s), (2, .int c), (3, .int v)] M N := by
  have hN := I.N9
  obtain ⟨hB, hR, hL, hS, hs, -⟩ := id I
  by_cases h1 : 0 ≤ s.toInt ∧ s.toInt < 6
  · obtain ⟨i, hi, rfl⟩ := rgI (n := 6) h1
    by_cases h2 : (0 ≤ c.toInt ∧ c.toInt < 64) ∧ (-9999 ≤ v.toInt ∧ v.toInt ≤ 9999)
    · obtain ⟨j, hj, rfl⟩ := rgI (n := 64) h2.1
      exact ⟨1, fun Q hQ => w_X9_number_in hi hj h2.2 hN hs (hQ _ (fun Q' hQ' => w_X10_number_in hi hj h2.2 hN (putS_str hi hs) (hQ' _ W t (inv_pl I hi hj (w := 1) (v := v) (u := v) (Or.inr ⟨rfl, rfl⟩) (fun a p => rfl) rfl rfl))))⟩
    · exact ⟨0, fun Q hQ => w_X9_number_o2 hi h2 hN hs (hQ M (fun Q' hQ' => w_X10_number_out (fun z => h2 z.2) hN hs (hQ' M W t I)))⟩
  · exact ⟨0, fun Q hQ => w_X9_number_o1 h1 hN hs (hQ M (fun Q' hQ' => w_X10_number_out (fun z => h1 z.1) hN hs (hQ' M W t I)))⟩
theorem q_clear {M : Mem} {N W t : Nat} (I : Inv M N W t) (s c : Int32) : AlI mX9_clear mX10_clear 3 2 [(0, .ref 2), (1, .int s), (2, .int c)] [(0, .ref 64), (1, .int s), (2, .int c)] M N := by
  have hN := I.N9
  obtain ⟨hB, hR, hL, hS, hs, -⟩ := id I
  by_cases h1 : 0 ≤ s.toInt ∧ s.toInt < 6
  · obtain ⟨i, hi, rfl⟩ := rgI (n := 6) h1
    by_cases h2 : 0 ≤ c.toInt ∧ c.toInt < 64
    · obtain ⟨j, hj, rfl⟩ := rgI (n := 64) h2
      have e2 := (hS i hi j hj).1
      by_cases h3 : rI M (9 + 6 * i + 2) j = 0
      · exact ⟨0, fun Q hQ => w_X9_clear_z hi hj h3 hN hs (hQ M (fun Q' hQ' => w_X10_clear_z hi hj (e2.symm.trans h3) hN hs (hQ' M W t I)))⟩
      · have h4 : ¬ rI (putS M (9 + 6 * i) j 0 0 none 0) 66 (64 * i + j) = 0 := by
          rw [pw_I, if_neg (by omega), if_neg (by omega), ← e2]
          exact h3
        refine ⟨1, fun Q hQ => w_X9_clear_in hi hj h3 hN hs (hQ _ (fun Q' hQ' => w_X10_clear_in hi hj h4 hN (putS_str hi hs) (hQ' _ W t (inv_pl I hi hj (w := 0) (v := 0) (u := rI M 67 (64 * i + j)) (Or.inl ⟨rfl, rfl⟩) (fun a p => ?_) rfl rfl))))⟩
        rw [rI_sI, rI_sI, pw_I]
        by_cases c1 : a = 64 ∧ p = 21
        · rw [if_pos c1, if_pos c1]
        · rw [if_neg c1, if_neg c1]
          by_cases c2 : a = 67 ∧ p = 64 * i + j
          · rw [if_pos c2, if_neg (by omega), if_neg (by omega), if_neg (by omega), c2.1, c2.2]
          · rw [if_neg c2]
    · exact ⟨0, fun Q hQ => w_X9_clear_o2 hi h2 hN hs (hQ M (fun Q' hQ' => w_X10_clear_out (fun z => h2 z.2) hN hs (hQ' M W t I)))⟩
  · exact ⟨0, fun Q hQ => w_X9_clear_o1 h1 hN hs (hQ M (fun Q' hQ' => w_X10_clear_out (fun z => h1 z.1) hN hs (hQ' M W t I)))⟩
