/-! one call of both: look -/
theorem q_look {M : Mem} {N W t : Nat} (I : Inv M N W t) (s c w : Int32) : AlI mX9_look mX10_look 3 7 [(0, .ref 2), (1, .int s), (2, .int c), (3, .int w)] [(0, .ref 64), (1, .int s), (2, .int c), (3, .int w)] M N := by
  have hN := I.N9
  obtain ⟨hB, hR, hL, hS, hs, -⟩ := id I
  by_cases h1 : 0 ≤ s.toInt ∧ s.toInt < 6
  · obtain ⟨i, hi, rfl⟩ := rgI (n := 6) h1
    by_cases h2 : 0 ≤ c.toInt ∧ c.toInt < 64
    · obtain ⟨j, hj, rfl⟩ := rgI (n := 64) h2
      obtain ⟨a1, a2, -, a4, a5, a6, a7, -⟩ := hS i hi j hj
      refine ⟨lkF M i j w, fun Q hQ => w_X9_look hi hj hB hN hs (hQ M (fun Q' hQ' => ?_))⟩
      replace hQ' := hQ' M W t I
      have hnb : (∀ q, q < 40 → ¬ w = nI (10 + q)) → rI M 66 (64 * i + j) = 2 → ∃ sz, sz ≤ 40 ∧ rI M 68 (64 * i + j) = nI sz ∧ ¬ (∃ q, q < sz ∧ w = nI (10 + q)) := fun n z => by
        obtain ⟨sz, l, e⟩ := ((hR.2.2.2.2.2 (64 * i + j) (by omega)).2 z).1
        exact ⟨sz, l, e, fun ⟨q, hq, k⟩ => n q (by omega) k⟩
      by_cases w0 : w = 0
      · subst w0
        have e : lkF M i j 0 = rI M 66 (64 * i + j) := (if_pos rfl).trans a1
        rw [e] at hQ'
        exact w_X10_look_0 hi hj (hnb (fun q hq z => by have := congrArg Int32.toInt z; rw [nIt (by omega), tI_0] at this; omega)) hN hs hQ'
      · by_cases w1 : w = 1
        · subst w1
          have e : lkF M i j 1 = (if rI M 66 (64 * i + j) = 0 then 0 else if rI M 66 (64 * i + j) = 1 then rI M 67 (64 * i + j) else rI M 68 (64 * i + j)) := by
            unfold lkF
            rw [if_neg (by decide), if_neg (by decide)]
            rcases a2 with z | z | z
            · rw [(a7 (by rw [z]; decide)).1, if_pos z]
              exact (if_pos rfl).trans (a5 z)
            · rw [(a7 (by rw [z]; decide)).1, if_neg (show ¬ rI M 66 (64 * i + j) = 0 by rw [z]; decide), if_pos z]
              exact (if_pos rfl).trans (a4 z)
            · obtain ⟨f, f1, -, f3⟩ := a6 z
              rw [f1, if_neg (show ¬ rI M 66 (64 * i + j) = 0 by rw [z]; decide), if_neg (show ¬ rI M 66 (64 * i + j) = 1 by rw [z]; decide), f3.tx.2.1]
              exact if_pos rfl
          rw [e] at hQ'
          exact w_X10_look_1 hi hj (hnb (fun q hq z => by have := congrArg Int32.toInt z; rw [nIt (by omega), show (1 : Int32).toInt = 1 from rfl] at this; omega)) hN hs hQ'
        · by_cases w2 : w = 2
          · subst w2
            have e : lkF M i j 2 = nI (cnt (cmR M (9 + 6 * i) (nI j) 64 0) 64) := by
              unfold lkF
              rw [if_neg (by decide), if_pos rfl, bcn_cnt]
            rw [e] at hQ'
            exact w_X10_look_2 hi hj (hR.1.wf hi) (cm_ch (hS i hi) hL hR.2.1 hi hj) (hnb (fun q hq z => by have := congrArg Int32.toInt z; rw [nIt (by omega), show (2 : Int32).toInt = 2 from rfl] at this; omega)) hN hs hQ'
          · have hv : w.toInt < 0 ∨ 2 < w.toInt := Classical.byContradiction (fun n => by
              obtain ⟨k, hk, rfl⟩ := rgI (s := w) (n := 3) ⟨by omega, by omega⟩
              match k, hk with
              | 0, _ => exact w0 rfl
              | 1, _ => exact w1 rfl
              | 2, _ => exact w2 rfl)
            have e : lkF M i j w = match rA M (9 + 6 * i + 4) j with
              | none => -1
              | some f => if w < 10 then -1 else lkB M f w := by
              unfold lkF
              rw [if_neg w0, if_neg w2]
              cases rA M (9 + 6 * i + 4) j with
              | none => exact if_neg w1
              | some f => exact if_neg w1
            rw [e] at hQ'
            by_cases z : rI M 66 (64 * i + j) = 2
            · obtain ⟨f, f1, -, f3⟩ := a6 z
              obtain ⟨t1, t2, t3⟩ := f3.tx
              rw [f1] at hQ'
              have hQ2 : Q' (some (.int (if w < 10 then -1 else lkB M f w))) N M := hQ'
              by_cases b : ∃ q, q < lenF M f ∧ w = nI (10 + q)
              · obtain ⟨q, hq, rfl⟩ := b
                have n10 : ¬ nI (10 + q) < 10 := by rw [Int32.lt_iff_toInt_lt, tI_10, nIt (by omega)]; omega
                have es : nI (10 + q) - 10 = nI q := by
                  have := pk_sub (a := 10 + q) (b := 10) (by omega)
                  rw [show 10 + q - 10 = q by omega] at this
                  exact this
                rw [if_neg n10] at hQ2
                unfold lkB at hQ2
                rw [es, nI_clamp (by omega), if_pos hq, t3 q hq] at hQ2
                exact w_X10_look_t hi hj t1 z t2 hq hN hs hQ2
              · have e2 : (if w < 10 then -1 else lkB M f w) = -1 := by
                  by_cases n10 : w < 10
                  · exact if_pos n10
                  · rw [if_neg n10]
                    obtain ⟨k, hk, ek⟩ := lk10 n10
                    unfold lkB
                    rw [ek, nI_clamp (by omega)]
                    refine if_neg (fun l => b ⟨k, l, ?_⟩)
                    have e3 : w = w - 10 + 10 := (Int32.sub_add_cancel w 10).symm
                    rw [e3, ek]
                    exact (nI_add k 10).trans (by rw [Nat.add_comm])
                rw [e2] at hQ2
                exact w_X10_look_o hi hj hv (fun _ => ⟨lenF M f, t1, t2, b⟩) hN hs hQ2
            · rw [(a7 z).1] at hQ'
              exact w_X10_look_o hi hj hv (fun y => absurd y z) hN hs hQ'
    · exact ⟨-1, fun Q hQ => w_X9_look_o2 hi h2 hN hs (hQ M (fun Q' hQ' => w_X10_look_out (fun z => h2 z.2) hN hs (hQ' M W t I)))⟩
  · exact ⟨-1, fun Q hQ => w_X9_look_o1 h1 hN hs (hQ M (fun Q' hQ' => w_X10_look_out (fun z => h1 z.1) hN hs (hQ' M W t I)))⟩
