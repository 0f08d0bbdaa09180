theorem st8 {M : Mem} {i : Nat} (hs : Str M.2.2.1) (hi : i < 6) : rA M 8 i = some (9 + 6 * i) := by
  rcases (show i = 0 ∨ i = 1 ∨ i = 2 ∨ i = 3 ∨ i = 4 ∨ i = 5 by omega) with rfl | rfl | rfl | rfl | rfl | rfl
  · exact st_8_0 hs
  · exact st_8_1 hs
  · exact st_8_2 hs
  · exact st_8_3 hs
  · exact st_8_4 hs
  · exact st_8_5 hs
theorem sh_in {M : Mem} {q j k : Nat} (h : ln M (q + k) = 64) (hj : j < 64) : vp_in (nI j) (ln M (q + k)) := by rw [h]; exact vp_in_nI hj (by decide)
theorem w_X7_heldAt {M : Mem} {N : Nat} {Q : Option Value → Nat → Mem → Prop} {q : Nat} (hq : ShR q) {j : Nat} (hj : j < 64)  (hN : 94 ≤ N) (hs : Str M.2.2.1) (h : Q (some (.int (rI M (q + 2) j))) N (M)) : AW mX7_heldAt 1 0 0 N 0 [(0, .ref q), (1, .int (nI j))] [] M Q := by
  refine a_iload_n dX7_heldAt_0 rfl ?_
  refine a_callSN (host := "SheetMarker") (mc1 := 0) (ms1 := 0) (As := [_]) kpX9_isCell (by decide +kernel) (by decide) rfl (Nat.le_of_ble_eq_true rfl) (Nat.le_of_ble_eq_true rfl) (Nat.le_of_ble_eq_true rfl) (Nat.le_of_ble_eq_true rfl) dX7_heldAt_1 (w_X9_isCell ?_)
  refine a_if_eq (tgt := 16) dX7_heldAt_4 (by decide) (fun c_4 => absurd c_4 (cel_no hj)) (fun c_4 => ?_)
  refine a_aload_n dX7_heldAt_7 rfl ?_
  refine a_getA (z := (q + 2)) kfX7_18 (sh_k hq) rfl (sh_1 hs hq) (sh_two hq) (sh_lt hq hN) dX7_heldAt_8 ?_
  refine a_iload_n dX7_heldAt_11 rfl ?_
  refine a_iald (sh_k1 hq) (sh_two1 hq) (sh_lt1 hq hN) (sh_in (sh_ln1 hq) hj) dX7_heldAt_12 ?_
  refine a_goto (tgt := 17) dX7_heldAt_13 (by decide) ?_
  refine a_iret dX7_heldAt_17 rfl (by rw [nI_clamp (by omega)]; exact h)

theorem w_X7_numberAt {M : Mem} {N : Nat} {Q : Option Value → Nat → Mem → Prop} {q : Nat} (hq : ShR q) {j : Nat} (hj : j < 64)  (hN : 94 ≤ N) (hs : Str M.2.2.1) (h : Q (some (.int (rI M (q + 3) j))) N (M)) : AW mX7_numberAt 1 0 0 N 0 [(0, .ref q), (1, .int (nI j))] [] M Q := by
  refine a_iload_n dX7_numberAt_0 rfl ?_
  refine a_callSN (host := "SheetMarker") (mc1 := 0) (ms1 := 0) (As := [_]) kpX9_isCell (by decide +kernel) (by decide) rfl (Nat.le_of_ble_eq_true rfl) (Nat.le_of_ble_eq_true rfl) (Nat.le_of_ble_eq_true rfl) (Nat.le_of_ble_eq_true rfl) dX7_numberAt_1 (w_X9_isCell ?_)
  refine a_if_eq (tgt := 16) dX7_numberAt_4 (by decide) (fun c_4 => absurd c_4 (cel_no hj)) (fun c_4 => ?_)
  refine a_aload_n dX7_numberAt_7 rfl ?_
  refine a_getA (z := (q + 3)) kfX7_22 (sh_k hq) rfl (sh_2 hs hq) (sh_two hq) (sh_lt hq hN) dX7_numberAt_8 ?_
  refine a_iload_n dX7_numberAt_11 rfl ?_
  refine a_iald (sh_k2 hq) (sh_two2 hq) (sh_lt2 hq hN) (sh_in (sh_ln2 hq) hj) dX7_numberAt_12 ?_
  refine a_goto (tgt := 17) dX7_numberAt_13 (by decide) ?_
  refine a_iret dX7_numberAt_17 rfl (by rw [nI_clamp (by omega)]; exact h)

theorem w_X7_needsAt {M : Mem} {N : Nat} {Q : Option Value → Nat → Mem → Prop} {q : Nat} (hq : ShR q) {j : Nat} (hj : j < 64)  (hN : 94 ≤ N) (hs : Str M.2.2.1) (h : Q (some (.long (rJ M (q + 5) j))) N (M)) : AW mX7_needsAt 1 0 0 N 0 [(0, .ref q), (1, .int (nI j))] [] M Q := by
  refine a_iload_n dX7_needsAt_0 rfl ?_
  refine a_callSN (host := "SheetMarker") (mc1 := 0) (ms1 := 0) (As := [_]) kpX9_isCell (by decide +kernel) (by decide) rfl (Nat.le_of_ble_eq_true rfl) (Nat.le_of_ble_eq_true rfl) (Nat.le_of_ble_eq_true rfl) (Nat.le_of_ble_eq_true rfl) dX7_needsAt_1 (w_X9_isCell ?_)
  refine a_if_eq (tgt := 16) dX7_needsAt_4 (by decide) (fun c_4 => absurd c_4 (cel_no hj)) (fun c_4 => ?_)
  refine a_aload_n dX7_needsAt_7 rfl ?_
  refine a_getA (z := (q + 5)) kfX7_31 (sh_k hq) rfl (sh_4 hs hq) (sh_two hq) (sh_lt hq hN) dX7_needsAt_8 ?_
  refine a_iload_n dX7_needsAt_11 rfl ?_
  refine a_lald (sh_k4 hq) (sh_two4 hq) (sh_lt4 hq hN) (sh_in (sh_ln4 hq) hj) dX7_needsAt_12 ?_
  refine a_goto (tgt := 17) dX7_needsAt_13 (by decide) ?_
  refine a_lret dX7_needsAt_17 rfl (by rw [nI_clamp (by omega)]; exact h)

theorem w_X7_heldAt_out {M : Mem} {N : Nat} {Q : Option Value → Nat → Mem → Prop} {q : Nat} (hq : ShR q) {c : Int32} (hc : ¬ (0 ≤ c.toInt ∧ c.toInt < 64))  (hN : 94 ≤ N) (hs : Str M.2.2.1) (h : Q (some (.int 0)) N (M)) : AW mX7_heldAt 1 0 0 N 0 [(0, .ref q), (1, .int c)] [] M Q := by
  refine a_iload_n dX7_heldAt_0 rfl ?_
  refine a_callSN (host := "SheetMarker") (mc1 := 0) (ms1 := 0) (As := [_]) kpX9_isCell (by decide +kernel) (by decide) rfl (Nat.le_of_ble_eq_true rfl) (Nat.le_of_ble_eq_true rfl) (Nat.le_of_ble_eq_true rfl) (Nat.le_of_ble_eq_true rfl) dX7_heldAt_1 (w_X9_isCell ?_)
  refine a_if_eq (tgt := 16) dX7_heldAt_4 (by decide) (fun c_4 => ?_) (fun c_4 => absurd (bI_z.mpr hc) c_4)
  refine a_iconst (v := 0) dX7_heldAt_16 (by decide) ?_
  refine a_iret dX7_heldAt_17 rfl h

theorem w_X7_formulaAt {M : Mem} {N : Nat} {Q : Option Value → Nat → Mem → Prop} {q : Nat} (hq : ShR q) {j : Nat} (hj : j < 64)  (hN : 94 ≤ N) (hs : Str M.2.2.1) (h : Q (some (rv (rA M (q + 4) j))) N (M)) : AW mX7_formulaAt 1 0 0 N 0 [(0, .ref q), (1, .int (nI j))] [] M Q := by
  refine a_iload_n dX7_formulaAt_0 rfl ?_
  refine a_callSN (host := "SheetMarker") (mc1 := 0) (ms1 := 0) (As := [_]) kpX9_isCell (by decide +kernel) (by decide) rfl (Nat.le_of_ble_eq_true rfl) (Nat.le_of_ble_eq_true rfl) (Nat.le_of_ble_eq_true rfl) (Nat.le_of_ble_eq_true rfl) dX7_formulaAt_1 (w_X9_isCell ?_)
  refine a_if_eq (tgt := 16) dX7_formulaAt_4 (by decide) (fun c_4 => absurd c_4 (cel_no hj)) (fun c_4 => ?_)
  refine a_aload_n dX7_formulaAt_7 rfl ?_
  refine a_getA (z := (q + 4)) kfX7_27 (sh_k hq) rfl (sh_3 hs hq) (sh_two hq) (sh_lt hq hN) dX7_formulaAt_8 ?_
  refine a_iload_n dX7_formulaAt_11 rfl ?_
  refine a_aaldF (sh_k3 hq) (sh_two3 hq) (sh_lt3 hq hN) (sh_in (sh_ln3 hq) hj) dX7_formulaAt_12 ?_
  refine a_goto (tgt := 17) dX7_formulaAt_13 (by decide) ?_
  refine a_aret dX7_formulaAt_17 rfl (rv_or _) (by rw [nI_clamp (by omega)]; exact h)

theorem w_X7_reckoned {M : Mem} {N : Nat} {Q : Option Value → Nat → Mem → Prop} {q : Nat} (hq : ShR q)  (hN : 94 ≤ N) (hs : Str M.2.2.1) (h : Q (some (.long (rJ M q 5))) N (M)) : AW mX7_reckoned 0 0 0 N 0 [(0, .ref q)] [] M Q := by
  refine a_aload_n dX7_reckoned_0 rfl ?_
  refine a_getJ kfX7_46 (sh_k hq) rfl (sh_two hq) (sh_lt hq hN) dX7_reckoned_1 ?_
  refine a_lret dX7_reckoned_4 rfl h

theorem Str_up {A : Nat → Nat → Option Nat} {q j : Nat} {o : Option Nat} (hs : Str A) (hq : ShR q) : Str (up2 A (q + 4) j o) := by
  have key : ∀ s, s < 6 → ∀ p ∈ RTL, p.1 ≠ 9 + 6 * s + 4 := by decide +kernel
  intro p hp
  obtain ⟨s, h6, rfl⟩ := hq
  unfold up2
  rw [if_neg (fun z => key s h6 p hp z.1)]
  exact hs p hp
/-- a cell of the sheet q put anew -/
def putS (M : Mem) (q j : Nat) (w v : Int32) (o : Option Nat) (n : Int64) : Mem := sJ (sJ (sA (sI (sI M (q + 2) j w) (q + 3) j v) (q + 4) j o) (q + 5) j n) q 5 (if w = 2 then rJ M q 5 ||| bitL (nI j) else rJ M q 5 &&& (bitL (nI j) ^^^ (-1)))
theorem w_X7_put_n {M : Mem} {N : Nat} {Q : Option Value → Nat → Mem → Prop} {q : Nat} (hq : ShR q) {j : Nat} (hj : j < 64) {w v : Int32} {n : Int64}  (hN : 94 ≤ N) (hs : Str M.2.2.1) (h : Q (none) N (putS M q j w v none n)) : AW mX7_put 1 0 0 N 0 [(0, .ref q), (1, .int (nI j)), (2, .int w), (3, .int v), (4, .null), (5, .long n)] [] M Q := by
  have hclp : (nI j).toNatClampNeg = j := nI_clamp (by omega)
  have rJ_o : rJ (sJ (sA (sI (sI M (q + 2) j w) (q + 3) j v) (q + 4) j none) (q + 5) j n) q 5 = rJ M q 5 := by rw [rJ_sJ, if_neg (by omega)]; rfl
  refine a_iload_n dX7_put_0 rfl ?_
  refine a_callSN (host := "SheetMarker") (mc1 := 0) (ms1 := 0) (As := [_]) kpX9_isCell (by decide +kernel) (by decide) rfl (Nat.le_of_ble_eq_true rfl) (Nat.le_of_ble_eq_true rfl) (Nat.le_of_ble_eq_true rfl) (Nat.le_of_ble_eq_true rfl) dX7_put_1 (w_X9_isCell ?_)
  refine a_if_eq (tgt := 71) dX7_put_4 (by decide) (fun c_4 => absurd c_4 (cel_no hj)) (fun c_4 => ?_)
  refine a_aload_n dX7_put_7 rfl ?_
  refine a_getA (z := (q + 2)) kfX7_18 (sh_k hq) rfl (sh_1 hs hq) (sh_two hq) (sh_lt hq hN) dX7_put_8 ?_
  refine a_iload_n dX7_put_11 rfl ?_
  refine a_iload_n dX7_put_12 rfl ?_
  refine a_iast (sh_k1 hq) (sh_two1 hq) (sh_lt1 hq hN) (sh_in (sh_ln1 hq) hj) dX7_put_13 ?_
  refine a_aload_n dX7_put_14 rfl ?_
  refine a_getA (z := (q + 3)) kfX7_22 (sh_k hq) rfl (sh_2 hs hq) (sh_two hq) (sh_lt hq hN) dX7_put_15 ?_
  refine a_iload_n dX7_put_18 rfl ?_
  refine a_iload_n dX7_put_19 rfl ?_
  refine a_iast (sh_k2 hq) (sh_two2 hq) (sh_lt2 hq hN) (sh_in (sh_ln2 hq) hj) dX7_put_20 ?_
  refine a_aload_n dX7_put_21 rfl ?_
  refine a_getA (z := (q + 4)) kfX7_27 (sh_k hq) rfl (sh_3 hs hq) (sh_two hq) (sh_lt hq hN) dX7_put_22 ?_
  refine a_iload_n dX7_put_25 rfl ?_
  refine a_aloadN dX7_put_26 rfl ?_
  refine a_aastN (sh_k3 hq) (sh_two3 hq) (sh_lt3 hq hN) (sh_in (sh_ln3 hq) hj) dX7_put_28 ?_
  have hs0 := hs
  replace hs := Str_up (j := (nI j).toNatClampNeg) (o := none) hs hq
  refine a_aload_n dX7_put_29 rfl ?_
  refine a_getA (z := (q + 5)) kfX7_31 (sh_k hq) rfl (sh_4 hs hq) (sh_two hq) (sh_lt hq hN) dX7_put_30 ?_
  refine a_iload_n dX7_put_33 rfl ?_
  refine a_lload dX7_put_34 rfl ?_
  refine a_last (sh_k4 hq) (sh_two4 hq) (sh_lt4 hq hN) (sh_in (sh_ln4 hq) hj) dX7_put_36 ?_
  refine a_aload_n dX7_put_37 rfl ?_
  refine a_iload_n dX7_put_38 rfl ?_
  refine a_iconst (v := 2) dX7_put_39 (by decide) ?_
  refine a_icmp_ne (tgt := 55) dX7_put_40 (by decide) (fun c_40 => ?_) (fun c_40 => ?_)
  · refine a_aload_n dX7_put_55 rfl ?_
    refine a_getJ kfX7_46 (sh_k hq) rfl (sh_two hq) (sh_lt hq hN) dX7_put_56 ?_
    refine a_iload_n dX7_put_59 rfl ?_
    refine a_callSN (host := "SheetMarker") (mc1 := 0) (ms1 := 0) (As := [_]) kpX9_bit (by decide +kernel) (by decide) rfl (Nat.le_of_ble_eq_true rfl) (Nat.le_of_ble_eq_true rfl) (Nat.le_of_ble_eq_true rfl) (Nat.le_of_ble_eq_true rfl) dX7_put_60 (w_X9_bit ?_)
    refine a_ldc2 kkX7_54 dX7_put_63 ?_
    refine a_lxor dX7_put_66 ?_
    refine a_land dX7_put_67 ?_
    refine a_putJ kfX7_46 (sh_k hq) rfl rfl (sh_two hq) (sh_lt hq hN) dX7_put_68 ?_
    refine a_vret dX7_put_71 rfl (by unfold putS at h; first | (rw [if_pos (by assumption)] at h; rw [hclp, rJ_o]; exact h) | (rw [if_neg (by assumption)] at h; rw [hclp, rJ_o]; exact h))
  · refine a_aload_n dX7_put_43 rfl ?_
    refine a_getJ kfX7_46 (sh_k hq) rfl (sh_two hq) (sh_lt hq hN) dX7_put_44 ?_
    refine a_iload_n dX7_put_47 rfl ?_
    refine a_callSN (host := "SheetMarker") (mc1 := 0) (ms1 := 0) (As := [_]) kpX9_bit (by decide +kernel) (by decide) rfl (Nat.le_of_ble_eq_true rfl) (Nat.le_of_ble_eq_true rfl) (Nat.le_of_ble_eq_true rfl) (Nat.le_of_ble_eq_true rfl) dX7_put_48 (w_X9_bit ?_)
    refine a_lor dX7_put_51 ?_
    refine a_goto (tgt := 68) dX7_put_52 (by decide) ?_
    refine a_putJ kfX7_46 (sh_k hq) rfl rfl (sh_two hq) (sh_lt hq hN) dX7_put_68 ?_
    refine a_vret dX7_put_71 rfl (by unfold putS at h; first | (rw [if_pos (by assumption)] at h; rw [hclp, rJ_o]; exact h) | (rw [if_neg (by assumption)] at h; rw [hclp, rJ_o]; exact h))

theorem w_X7_put_f {M : Mem} {N : Nat} {Q : Option Value → Nat → Mem → Prop} {q : Nat} (hq : ShR q) {j : Nat} (hj : j < 64) {w v : Int32} {n : Int64} {f : Nat} (hf : FoR f N)  (hN : 94 ≤ N) (hs : Str M.2.2.1) (h : Q (none) N (putS M q j w v (some f) n)) : AW mX7_put 1 0 0 N 0 [(0, .ref q), (1, .int (nI j)), (2, .int w), (3, .int v), (4, .ref f), (5, .long n)] [] M Q := by
  have hclp : (nI j).toNatClampNeg = j := nI_clamp (by omega)
  have rJ_o : rJ (sJ (sA (sI (sI M (q + 2) j w) (q + 3) j v) (q + 4) j (some f)) (q + 5) j n) q 5 = rJ M q 5 := by rw [rJ_sJ, if_neg (by omega)]; rfl
  refine a_iload_n dX7_put_0 rfl ?_
  refine a_callSN (host := "SheetMarker") (mc1 := 0) (ms1 := 0) (As := [_]) kpX9_isCell (by decide +kernel) (by decide) rfl (Nat.le_of_ble_eq_true rfl) (Nat.le_of_ble_eq_true rfl) (Nat.le_of_ble_eq_true rfl) (Nat.le_of_ble_eq_true rfl) dX7_put_1 (w_X9_isCell ?_)
  refine a_if_eq (tgt := 71) dX7_put_4 (by decide) (fun c_4 => absurd c_4 (cel_no hj)) (fun c_4 => ?_)
  refine a_aload_n dX7_put_7 rfl ?_
  refine a_getA (z := (q + 2)) kfX7_18 (sh_k hq) rfl (sh_1 hs hq) (sh_two hq) (sh_lt hq hN) dX7_put_8 ?_
  refine a_iload_n dX7_put_11 rfl ?_
  refine a_iload_n dX7_put_12 rfl ?_
  refine a_iast (sh_k1 hq) (sh_two1 hq) (sh_lt1 hq hN) (sh_in (sh_ln1 hq) hj) dX7_put_13 ?_
  refine a_aload_n dX7_put_14 rfl ?_
  refine a_getA (z := (q + 3)) kfX7_22 (sh_k hq) rfl (sh_2 hs hq) (sh_two hq) (sh_lt hq hN) dX7_put_15 ?_
  refine a_iload_n dX7_put_18 rfl ?_
  refine a_iload_n dX7_put_19 rfl ?_
  refine a_iast (sh_k2 hq) (sh_two2 hq) (sh_lt2 hq hN) (sh_in (sh_ln2 hq) hj) dX7_put_20 ?_
  refine a_aload_n dX7_put_21 rfl ?_
  refine a_getA (z := (q + 4)) kfX7_27 (sh_k hq) rfl (sh_3 hs hq) (sh_two hq) (sh_lt hq hN) dX7_put_22 ?_
  refine a_iload_n dX7_put_25 rfl ?_
  refine a_aload dX7_put_26 rfl ?_
  refine a_aast (sh_k3 hq) (Or.inl ⟨rfl, rfl⟩) (fo_k hf) (sh_two3 hq) (sh_lt3 hq hN) (fo_two hf) (fo_lt hf) (sh_in (sh_ln3 hq) hj) dX7_put_28 ?_
  have hs0 := hs
  replace hs := Str_up (j := (nI j).toNatClampNeg) (o := (some f)) hs hq
  refine a_aload_n dX7_put_29 rfl ?_
  refine a_getA (z := (q + 5)) kfX7_31 (sh_k hq) rfl (sh_4 hs hq) (sh_two hq) (sh_lt hq hN) dX7_put_30 ?_
  refine a_iload_n dX7_put_33 rfl ?_
  refine a_lload dX7_put_34 rfl ?_
  refine a_last (sh_k4 hq) (sh_two4 hq) (sh_lt4 hq hN) (sh_in (sh_ln4 hq) hj) dX7_put_36 ?_
  refine a_aload_n dX7_put_37 rfl ?_
  refine a_iload_n dX7_put_38 rfl ?_
  refine a_iconst (v := 2) dX7_put_39 (by decide) ?_
  refine a_icmp_ne (tgt := 55) dX7_put_40 (by decide) (fun c_40 => ?_) (fun c_40 => ?_)
  · refine a_aload_n dX7_put_55 rfl ?_
    refine a_getJ kfX7_46 (sh_k hq) rfl (sh_two hq) (sh_lt hq hN) dX7_put_56 ?_
    refine a_iload_n dX7_put_59 rfl ?_
    refine a_callSN (host := "SheetMarker") (mc1 := 0) (ms1 := 0) (As := [_]) kpX9_bit (by decide +kernel) (by decide) rfl (Nat.le_of_ble_eq_true rfl) (Nat.le_of_ble_eq_true rfl) (Nat.le_of_ble_eq_true rfl) (Nat.le_of_ble_eq_true rfl) dX7_put_60 (w_X9_bit ?_)
    refine a_ldc2 kkX7_54 dX7_put_63 ?_
    refine a_lxor dX7_put_66 ?_
    refine a_land dX7_put_67 ?_
    refine a_putJ kfX7_46 (sh_k hq) rfl rfl (sh_two hq) (sh_lt hq hN) dX7_put_68 ?_
    refine a_vret dX7_put_71 rfl (by unfold putS at h; first | (rw [if_pos (by assumption)] at h; rw [hclp, rJ_o]; exact h) | (rw [if_neg (by assumption)] at h; rw [hclp, rJ_o]; exact h))
  · refine a_aload_n dX7_put_43 rfl ?_
    refine a_getJ kfX7_46 (sh_k hq) rfl (sh_two hq) (sh_lt hq hN) dX7_put_44 ?_
    refine a_iload_n dX7_put_47 rfl ?_
    refine a_callSN (host := "SheetMarker") (mc1 := 0) (ms1 := 0) (As := [_]) kpX9_bit (by decide +kernel) (by decide) rfl (Nat.le_of_ble_eq_true rfl) (Nat.le_of_ble_eq_true rfl) (Nat.le_of_ble_eq_true rfl) (Nat.le_of_ble_eq_true rfl) dX7_put_48 (w_X9_bit ?_)
    refine a_lor dX7_put_51 ?_
    refine a_goto (tgt := 68) dX7_put_52 (by decide) ?_
    refine a_putJ kfX7_46 (sh_k hq) rfl rfl (sh_two hq) (sh_lt hq hN) dX7_put_68 ?_
    refine a_vret dX7_put_71 rfl (by unfold putS at h; first | (rw [if_pos (by assumption)] at h; rw [hclp, rJ_o]; exact h) | (rw [if_neg (by assumption)] at h; rw [hclp, rJ_o]; exact h))

theorem w_X7_empty {M : Mem} {N : Nat} {Q : Option Value → Nat → Mem → Prop} {q : Nat} (hq : ShR q) {j : Nat} (hj : j < 64)  (hN : 94 ≤ N) (hs : Str M.2.2.1) (h : Q (none) N (putS M q j 0 0 none 0)) : AW mX7_empty 2 0 0 N 0 [(0, .ref q), (1, .int (nI j))] [] M Q := by
  refine a_aload_n dX7_empty_0 rfl ?_
  refine a_iload_n dX7_empty_1 rfl ?_
  refine a_iconst (v := 0) dX7_empty_2 (by decide) ?_
  refine a_iconst (v := 0) dX7_empty_3 (by decide) ?_
  refine a_null dX7_empty_4 ?_
  refine a_lconst (v := 0) dX7_empty_5 (by decide) ?_
  refine a_callV (mc1 := 0) (ms1 := 0) (As := [_, _, _, _, _]) kpX7_put kmX7_35 (by decide) rfl (Nat.le_of_ble_eq_true rfl) (sh_k hq) (by decide) rfl (sh_two hq) (sh_lt hq hN) (Nat.le_of_ble_eq_true rfl) (Nat.le_of_ble_eq_true rfl) (Nat.le_of_ble_eq_true rfl) dX7_empty_6 (w_X7_put_n hq hj hN (by exact hs) ?_)
  refine a_vret dX7_empty_9 rfl h

theorem w_X7_putNumber {M : Mem} {N : Nat} {Q : Option Value → Nat → Mem → Prop} {q : Nat} (hq : ShR q) {j : Nat} (hj : j < 64) {v : Int32}  (hN : 94 ≤ N) (hs : Str M.2.2.1) (h : Q (none) N (putS M q j 1 v none 0)) : AW mX7_putNumber 2 0 0 N 0 [(0, .ref q), (1, .int (nI j)), (2, .int v)] [] M Q := by
  refine a_aload_n dX7_putNumber_0 rfl ?_
  refine a_iload_n dX7_putNumber_1 rfl ?_
  refine a_iconst (v := 1) dX7_putNumber_2 (by decide) ?_
  refine a_iload_n dX7_putNumber_3 rfl ?_
  refine a_null dX7_putNumber_4 ?_
  refine a_lconst (v := 0) dX7_putNumber_5 (by decide) ?_
  refine a_callV (mc1 := 0) (ms1 := 0) (As := [_, _, _, _, _]) kpX7_put kmX7_35 (by decide) rfl (Nat.le_of_ble_eq_true rfl) (sh_k hq) (by decide) rfl (sh_two hq) (sh_lt hq hN) (Nat.le_of_ble_eq_true rfl) (Nat.le_of_ble_eq_true rfl) (Nat.le_of_ble_eq_true rfl) dX7_putNumber_6 (w_X7_put_n hq hj hN (by exact hs) ?_)
  refine a_vret dX7_putNumber_9 rfl h

theorem i6_no {i : Nat} (hi : i < 6) : ¬ ((6 : Int32) ≤ nI i) := nI_ge (b := 6) hi (by decide)
theorem w_X9_sheetAt {M : Mem} {N : Nat} {Q : Option Value → Nat → Mem → Prop} {i : Nat} (hi : i < 6)  (hN : 94 ≤ N) (hs : Str M.2.2.1) (h : Q (some (.ref (9 + 6 * i))) N (M)) : AW mX9_sheetAt 0 0 0 N 0 [(0, .ref 2), (1, .int (nI i))] [] M Q := by
  refine a_iload_n dX9_sheetAt_0 rfl ?_
  refine a_if_lt (tgt := 22) dX9_sheetAt_1 (by decide) (fun c_1 => absurd c_1 (nI_pos (by omega))) (fun c_1 => ?_)
  refine a_iload_n dX9_sheetAt_4 rfl ?_
  refine a_aload_n dX9_sheetAt_5 rfl ?_
  refine a_getA (z := 8) kfX9_25 rfl rfl (st_2_2 hs) (by decide) (hlt hN (by decide)) dX9_sheetAt_6 ?_
  refine a_alen rfl (by decide) (by decide) (hlt hN (by decide)) rfl dX9_sheetAt_9 ?_
  refine a_icmp_ge (tgt := 22) dX9_sheetAt_10 (by decide) (fun c_10 => absurd c_10 (i6_no hi)) (fun c_10 => ?_)
  refine a_aload_n dX9_sheetAt_13 rfl ?_
  refine a_getA (z := 8) kfX9_25 rfl rfl (st_2_2 hs) (by decide) (hlt hN (by decide)) dX9_sheetAt_14 ?_
  refine a_iload_n dX9_sheetAt_17 rfl ?_
  refine a_aaldS rfl (by decide) (hlt hN (by decide)) (show vp_in _ 6 from vp_in_nI hi (by decide)) dX9_sheetAt_18 ?_
  refine a_goto (tgt := 23) dX9_sheetAt_19 (by decide) ?_
  refine a_aret dX9_sheetAt_23 rfl (rv_or _) (by rw [nI_clamp (by omega), st8 hs hi]; exact h)

theorem out6 {c : Int32} (hc : ¬ (0 ≤ c.toInt ∧ c.toInt < 6)) (h : ¬ c < 0) : (6 : Int32) ≤ c := by
  rw [Int32.lt_iff_toInt_lt, tI_0] at h
  rw [Int32.le_iff_toInt_le, tI_6]
  omega
theorem w_X9_sheetAt_out {M : Mem} {N : Nat} {Q : Option Value → Nat → Mem → Prop} {c : Int32} (hc : ¬ (0 ≤ c.toInt ∧ c.toInt < 6))  (hN : 94 ≤ N) (hs : Str M.2.2.1) (h : Q (some .null) N (M)) : AW mX9_sheetAt 0 0 0 N 0 [(0, .ref 2), (1, .int c)] [] M Q := by
  refine a_iload_n dX9_sheetAt_0 rfl ?_
  refine a_if_lt (tgt := 22) dX9_sheetAt_1 (by decide) (fun c_1 => ?_) (fun c_1 => ?_)
  · refine a_null dX9_sheetAt_22 ?_
    refine a_aret dX9_sheetAt_23 rfl (Or.inl rfl) h
  · refine a_iload_n dX9_sheetAt_4 rfl ?_
    refine a_aload_n dX9_sheetAt_5 rfl ?_
    refine a_getA (z := 8) kfX9_25 rfl rfl (st_2_2 hs) (by decide) (hlt hN (by decide)) dX9_sheetAt_6 ?_
    refine a_alen rfl (by decide) (by decide) (hlt hN (by decide)) rfl dX9_sheetAt_9 ?_
    refine a_icmp_ge (tgt := 22) dX9_sheetAt_10 (by decide) (fun c_10 => ?_) (fun c_10 => absurd (out6 hc c_1) c_10)
    refine a_null dX9_sheetAt_22 ?_
    refine a_aret dX9_sheetAt_23 rfl (Or.inl rfl) h

theorem w_X9_pupilAt {M : Mem} {N : Nat} {Q : Option Value → Nat → Mem → Prop} {i : Nat} (hi : i < 6) (h0 : 0 < i)  (hN : 94 ≤ N) (hs : Str M.2.2.1) (h : Q (some (.ref (9 + 6 * i))) N (M)) : AW mX9_pupilAt 1 0 0 N 0 [(0, .ref 2), (1, .int (nI i))] [] M Q := by
  refine a_iload_n dX9_pupilAt_0 rfl ?_
  refine a_if_ne (tgt := 8) dX9_pupilAt_1 (by decide) (fun c_1 => ?_) (fun c_1 => absurd c_1 (nI_ne0 h0 (by omega)))
  refine a_aload_n dX9_pupilAt_8 rfl ?_
  refine a_iload_n dX9_pupilAt_9 rfl ?_
  refine a_callV (mc1 := 0) (ms1 := 0) (As := [_]) kpX9_sheetAt kmX9_69 (by decide) rfl (Nat.le_of_ble_eq_true rfl) rfl (by decide) rfl (by decide) (hlt hN (by decide)) (Nat.le_of_ble_eq_true rfl) (Nat.le_of_ble_eq_true rfl) (Nat.le_of_ble_eq_true rfl) dX9_pupilAt_10 (w_X9_sheetAt hi hN hs ?_)
  refine a_aret dX9_pupilAt_13 rfl (Or.inr ⟨_, rfl⟩) h

theorem w_X9_pupilAt_out {M : Mem} {N : Nat} {Q : Option Value → Nat → Mem → Prop} {c : Int32} (hc : ¬ (1 ≤ c.toInt ∧ c.toInt < 6))  (hN : 94 ≤ N) (hs : Str M.2.2.1) (h : Q (some .null) N (M)) : AW mX9_pupilAt 1 0 0 N 0 [(0, .ref 2), (1, .int c)] [] M Q := by
  refine a_iload_n dX9_pupilAt_0 rfl ?_
  refine a_if_ne (tgt := 8) dX9_pupilAt_1 (by decide) (fun c_1 => ?_) (fun c_1 => ?_)
  · refine a_aload_n dX9_pupilAt_8 rfl ?_
    refine a_iload_n dX9_pupilAt_9 rfl ?_
    refine a_callV (mc1 := 0) (ms1 := 0) (As := [_]) kpX9_sheetAt kmX9_69 (by decide) rfl (Nat.le_of_ble_eq_true rfl) rfl (by decide) rfl (by decide) (hlt hN (by decide)) (Nat.le_of_ble_eq_true rfl) (Nat.le_of_ble_eq_true rfl) (Nat.le_of_ble_eq_true rfl) dX9_pupilAt_10 (w_X9_sheetAt_out (by rw [← Int32.toInt_inj, tI_0] at c_1; omega) hN hs ?_)
    refine a_aret dX9_pupilAt_13 rfl (Or.inl rfl) h
  · refine a_null dX9_pupilAt_4 ?_
    refine a_goto (tgt := 13) dX9_pupilAt_5 (by decide) ?_
    refine a_aret dX9_pupilAt_13 rfl (Or.inl rfl) h

