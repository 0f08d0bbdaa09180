theorem w_X9_formula_o1 {M : Mem} {N : Nat} {Q : Option Value → Nat → Mem → Prop} {s c v : Int32} (hc : ¬ (0 ≤ s.toInt ∧ s.toInt < 6))  (hN : 94 ≤ N) (hs : Str M.2.2.1) (h : Q (some (.int (-1))) N (M)) : AW mX9_formula 33 0 0 N 0 [(0, .ref 2), (1, .int s), (2, .int c), (3, .int v)] [] M Q := by
  refine a_aload_n dX9_formula_0 rfl ?_
  refine a_iload_n dX9_formula_1 rfl ?_
  refine a_callV (mc1 := 0) (ms1 := 0) (As := [_]) kpX9_sheetAt kmX9_69 (by decide) rfl (Nat.le_of_ble_eq_true rfl) rfl (by decide) rfl (by decide) (hlt hN (by decide)) (Nat.le_of_ble_eq_true rfl) (Nat.le_of_ble_eq_true rfl) (Nat.le_of_ble_eq_true rfl) dX9_formula_2 (w_X9_sheetAt_out hc hN hs ?_)
  refine a_astoreN dX9_formula_5 (by decide) ?_
  refine a_aloadN dX9_formula_7 rfl ?_
  refine a_ifnullN (tgt := 40) dX9_formula_9 (by decide) ?_
  refine a_iconst (v := (-1)) dX9_formula_40 (by decide) ?_
  refine a_iret dX9_formula_41 rfl h

theorem w_X9_formula_o2 {M : Mem} {N : Nat} {Q : Option Value → Nat → Mem → Prop} {i t : Nat} {c v : Int32} (hi : i < 6) (ht : rI M 3 1 = nI t) (ht6 : t ≤ 60) (hc : ¬ ((0 ≤ c.toInt ∧ c.toInt < 64) ∧ (0 ≤ v.toInt ∧ v.toInt ≤ 40) ∧ v.toInt ≤ t))  (hN : 94 ≤ N) (hs : Str M.2.2.1) (h : Q (some (.int (-1))) N (M)) : AW mX9_formula 33 0 0 N 0 [(0, .ref 2), (1, .int (nI i)), (2, .int c), (3, .int v)] [] M Q := by
  refine a_aload_n dX9_formula_0 rfl ?_
  refine a_iload_n dX9_formula_1 rfl ?_
  refine a_callV (mc1 := 0) (ms1 := 0) (As := [_]) kpX9_sheetAt kmX9_69 (by decide) rfl (Nat.le_of_ble_eq_true rfl) rfl (by decide) rfl (by decide) (hlt hN (by decide)) (Nat.le_of_ble_eq_true rfl) (Nat.le_of_ble_eq_true rfl) (Nat.le_of_ble_eq_true rfl) dX9_formula_2 (w_X9_sheetAt hi hN hs ?_)
  refine a_astore dX9_formula_5 (by decide) ?_
  refine a_aload dX9_formula_7 rfl ?_
  refine a_ifnull dX9_formula_9 ?_
  refine a_iload_n dX9_formula_12 rfl ?_
  refine a_callS (mc1 := 0) (ms1 := 0) (As := [_]) kpX9_isCell kmX9_73 (by decide) rfl (Nat.le_of_ble_eq_true rfl) (Nat.le_of_ble_eq_true rfl) (Nat.le_of_ble_eq_true rfl) (Nat.le_of_ble_eq_true rfl) dX9_formula_13 (w_X9_isCell ?_)
  refine a_if_eq (tgt := 40) dX9_formula_16 (by decide) (fun c_16 => ?_) (fun c_16 => ?_)
  · refine a_iconst (v := (-1)) dX9_formula_40 (by decide) ?_
    refine a_iret dX9_formula_41 rfl h
  · refine a_iload_n dX9_formula_19 rfl ?_
    refine a_if_lt (tgt := 40) dX9_formula_20 (by decide) (fun c_20 => ?_) (fun c_20 => ?_)
    · refine a_iconst (v := (-1)) dX9_formula_40 (by decide) ?_
      refine a_iret dX9_formula_41 rfl h
    · refine a_iload_n dX9_formula_23 rfl ?_
      refine a_bipush (v := 40) dX9_formula_24 (by decide) ?_
      refine a_icmp_gt (tgt := 40) dX9_formula_26 (by decide) (fun c_26 => ?_) (fun c_26 => ?_)
      · refine a_iconst (v := (-1)) dX9_formula_40 (by decide) ?_
        refine a_iret dX9_formula_41 rfl h
      · refine a_iload_n dX9_formula_29 rfl ?_
        refine a_aload_n dX9_formula_30 rfl ?_
        refine a_getA (z := 3) kfX9_10 rfl rfl (st_2_0 hs) (by decide) (hlt hN (by decide)) dX9_formula_31 ?_
        refine a_callV (mc1 := 0) (ms1 := 0) (As := []) kpX8_length kmX9_65 (by decide) rfl (Nat.le_of_ble_eq_true rfl) rfl (by decide) rfl (by decide) (hlt hN (by decide)) (Nat.le_of_ble_eq_true rfl) (Nat.le_of_ble_eq_true rfl) (Nat.le_of_ble_eq_true rfl) dX9_formula_34 (w_X8_length hN hs ?_)
        refine a_icmp_le (tgt := 42) dX9_formula_37 (by decide) (fun c_37 => ?_) (fun c_37 => ?_)
        · rw [ht, Int32.le_iff_toInt_le, nIt (by omega)] at c_37
          rw [Int32.lt_iff_toInt_lt] at c_20 c_26
          have e0 : (0 : Int32).toInt = 0 := rfl
          have e4 : (40 : Int32).toInt = 40 := rfl
          exact absurd ⟨bI_nz.mp c_16, ⟨by omega, by omega⟩, c_37⟩ hc
        · refine a_iconst (v := (-1)) dX9_formula_40 (by decide) ?_
          refine a_iret dX9_formula_41 rfl h

