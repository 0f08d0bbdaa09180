theorem cel_o {c : Int32} {P : Prop} (h : ¬ ((0 ≤ c.toInt ∧ c.toInt < 64) ∧ P)) (k : ¬ bI (0 ≤ c.toInt ∧ c.toInt < 64) = 0) : ¬ P := fun z => h ⟨bI_nz.mp k, z⟩
theorem w_X9_reckonsOwn {M : Mem} {N : Nat} {Q : Option Value → Nat → Mem → Prop} {i j v n : Nat} (hi : i < 6) (hj : j < 64) (hv : v < n) (hB : Bas M N n)  (hN : 94 ≤ N) (hs : Str M.2.2.1) (h : Q (some (.int 1)) N (rkO M 52 (9 + 6 * i) n)) : AW mX9_reckonsOwn 6 0 0 N 0 [(0, .ref 2), (1, .int (nI i)), (2, .int (nI j)), (3, .int (nI v))] [] M Q := by
  have hn := hB.1
  have hn6 := hB.2.1
  have hv6 : v < 6 := by omega
  refine a_aload_n dX9_reckonsOwn_0 rfl ?_
  refine a_iload_n dX9_reckonsOwn_1 rfl ?_
  refine a_callV (mc1 := 0) (ms1 := 0) (As := [_]) kpX9_sheetAt kmX9_69 (by decide) rfl (Nat.le_of_ble_eq_true rfl) rfl (by decide) rfl (by decide) (hlt hN (by decide)) (Nat.le_of_ble_eq_true rfl) (Nat.le_of_ble_eq_true rfl) (Nat.le_of_ble_eq_true rfl) dX9_reckonsOwn_2 (w_X9_sheetAt hi hN hs ?_)
  refine a_astore dX9_reckonsOwn_5 (by decide) ?_
  refine a_aload dX9_reckonsOwn_7 rfl ?_
  refine a_ifnull dX9_reckonsOwn_9 ?_
  refine a_iload_n dX9_reckonsOwn_12 rfl ?_
  refine a_callS (mc1 := 0) (ms1 := 0) (As := [_]) kpX9_isCell kmX9_73 (by decide) rfl (Nat.le_of_ble_eq_true rfl) (Nat.le_of_ble_eq_true rfl) (Nat.le_of_ble_eq_true rfl) (Nat.le_of_ble_eq_true rfl) dX9_reckonsOwn_13 (w_X9_isCell ?_)
  refine a_if_eq (tgt := 30) dX9_reckonsOwn_16 (by decide) (fun c_16 => absurd c_16 (cel_no hj)) (fun c_16 => ?_)
  refine a_aload_n dX9_reckonsOwn_19 rfl ?_
  refine a_getA (z := 5) kfX9_19 rfl rfl (st_2_1 hs) (by decide) (hlt hN (by decide)) dX9_reckonsOwn_20 ?_
  refine a_iload_n dX9_reckonsOwn_23 rfl ?_
  refine a_callV (mc1 := 0) (ms1 := 0) (As := [_]) kpX4_isWorld kmX9_134 (by decide) rfl (Nat.le_of_ble_eq_true rfl) rfl (by decide) rfl (by decide) (hlt hN (by decide)) (Nat.le_of_ble_eq_true rfl) (Nat.le_of_ble_eq_true rfl) (Nat.le_of_ble_eq_true rfl) dX9_reckonsOwn_24 (w_X4_isWorld hN hs ?_)
  refine a_if_ne (tgt := 32) dX9_reckonsOwn_27 (by decide) (fun c_27 => ?_) (fun c_27 => absurd c_27 (isw_t hn hn6 hv))
  refine a_aload_n dX9_reckonsOwn_32 rfl ?_
  refine a_getA (z := 52) kfX9_42 rfl rfl (st_2_4 hs) (by decide) (hlt hN (by decide)) dX9_reckonsOwn_33 ?_
  refine a_aload dX9_reckonsOwn_36 rfl ?_
  refine a_callV (mc1 := 0) (ms1 := 0) (As := [_]) kpX1_reckonOwn kmX9_204 (by decide) rfl (Nat.le_of_ble_eq_true rfl) rfl (by decide) rfl (by decide) (hlt hN (by decide)) (Nat.le_of_ble_eq_true rfl) (Nat.le_of_ble_eq_true rfl) (Nat.le_of_ble_eq_true rfl) dX9_reckonsOwn_38 (w_X1_reckonOwn FgR52 (sheetR hi) hn hn6 (hB.sf FgR52 hi) hN hs ?_)
  refine a_iconst (v := 1) dX9_reckonsOwn_41 (by decide) ?_
  refine a_zret dX9_reckonsOwn_42 rfl (by decide) h

theorem w_X9_reckonsOwn_o1 {M : Mem} {N : Nat} {Q : Option Value → Nat → Mem → Prop} {s c w : Int32} (hc : ¬ (0 ≤ s.toInt ∧ s.toInt < 6))  (hN : 94 ≤ N) (hs : Str M.2.2.1) (h : Q (some (.int 0)) N (M)) : AW mX9_reckonsOwn 6 0 0 N 0 [(0, .ref 2), (1, .int s), (2, .int c), (3, .int w)] [] M Q := by
  refine a_aload_n dX9_reckonsOwn_0 rfl ?_
  refine a_iload_n dX9_reckonsOwn_1 rfl ?_
  refine a_callV (mc1 := 0) (ms1 := 0) (As := [_]) kpX9_sheetAt kmX9_69 (by decide) rfl (Nat.le_of_ble_eq_true rfl) rfl (by decide) rfl (by decide) (hlt hN (by decide)) (Nat.le_of_ble_eq_true rfl) (Nat.le_of_ble_eq_true rfl) (Nat.le_of_ble_eq_true rfl) dX9_reckonsOwn_2 (w_X9_sheetAt_out hc hN hs ?_)
  refine a_astoreN dX9_reckonsOwn_5 (by decide) ?_
  refine a_aloadN dX9_reckonsOwn_7 rfl ?_
  refine a_ifnullN (tgt := 30) dX9_reckonsOwn_9 (by decide) ?_
  refine a_iconst (v := 0) dX9_reckonsOwn_30 (by decide) ?_
  refine a_zret dX9_reckonsOwn_31 rfl (by decide) h

theorem w_X9_reckonsOwn_o2 {M : Mem} {N : Nat} {Q : Option Value → Nat → Mem → Prop} {i n : Nat} {c w : Int32} (hi : i < 6) (hn : rI M 5 4 = nI n) (hn6 : n ≤ 6) (hc : ¬ ((0 ≤ c.toInt ∧ c.toInt < 64) ∧ (0 ≤ w.toInt ∧ w.toInt < n)))  (hN : 94 ≤ N) (hs : Str M.2.2.1) (h : Q (some (.int 0)) N (M)) : AW mX9_reckonsOwn 6 0 0 N 0 [(0, .ref 2), (1, .int (nI i)), (2, .int c), (3, .int w)] [] M Q := by
  refine a_aload_n dX9_reckonsOwn_0 rfl ?_
  refine a_iload_n dX9_reckonsOwn_1 rfl ?_
  refine a_callV (mc1 := 0) (ms1 := 0) (As := [_]) kpX9_sheetAt kmX9_69 (by decide) rfl (Nat.le_of_ble_eq_true rfl) rfl (by decide) rfl (by decide) (hlt hN (by decide)) (Nat.le_of_ble_eq_true rfl) (Nat.le_of_ble_eq_true rfl) (Nat.le_of_ble_eq_true rfl) dX9_reckonsOwn_2 (w_X9_sheetAt hi hN hs ?_)
  refine a_astore dX9_reckonsOwn_5 (by decide) ?_
  refine a_aload dX9_reckonsOwn_7 rfl ?_
  refine a_ifnull dX9_reckonsOwn_9 ?_
  refine a_iload_n dX9_reckonsOwn_12 rfl ?_
  refine a_callS (mc1 := 0) (ms1 := 0) (As := [_]) kpX9_isCell kmX9_73 (by decide) rfl (Nat.le_of_ble_eq_true rfl) (Nat.le_of_ble_eq_true rfl) (Nat.le_of_ble_eq_true rfl) (Nat.le_of_ble_eq_true rfl) dX9_reckonsOwn_13 (w_X9_isCell ?_)
  refine a_if_eq (tgt := 30) dX9_reckonsOwn_16 (by decide) (fun c_16 => ?_) (fun c_16 => ?_)
  · refine a_iconst (v := 0) dX9_reckonsOwn_30 (by decide) ?_
    refine a_zret dX9_reckonsOwn_31 rfl (by decide) h
  · refine a_aload_n dX9_reckonsOwn_19 rfl ?_
    refine a_getA (z := 5) kfX9_19 rfl rfl (st_2_1 hs) (by decide) (hlt hN (by decide)) dX9_reckonsOwn_20 ?_
    refine a_iload_n dX9_reckonsOwn_23 rfl ?_
    refine a_callV (mc1 := 0) (ms1 := 0) (As := [_]) kpX4_isWorld kmX9_134 (by decide) rfl (Nat.le_of_ble_eq_true rfl) rfl (by decide) rfl (by decide) (hlt hN (by decide)) (Nat.le_of_ble_eq_true rfl) (Nat.le_of_ble_eq_true rfl) (Nat.le_of_ble_eq_true rfl) dX9_reckonsOwn_24 (w_X4_isWorld hN hs ?_)
    refine a_if_ne (tgt := 32) dX9_reckonsOwn_27 (by decide) (fun c_27 => absurd (by rw [hn, nIt (by omega)]; exact bI_z.mpr (cel_o hc c_16)) c_27) (fun c_27 => ?_)
    refine a_iconst (v := 0) dX9_reckonsOwn_30 (by decide) ?_
    refine a_zret dX9_reckonsOwn_31 rfl (by decide) h

theorem w_X9_reckonsRight {M : Mem} {N : Nat} {Q : Option Value → Nat → Mem → Prop} {i j v n : Nat} (hi : i < 6) (hj : j < 64) (hv : v < n) (hB : Bas M N n)  (hN : 94 ≤ N) (hs : Str M.2.2.1) (h : Q (some (.int 1)) N (rkR (rkO M 47 9 n) 57 (9 + 6 * i) 47 j n)) : AW mX9_reckonsRight 6 0 0 N 0 [(0, .ref 2), (1, .int (nI i)), (2, .int (nI j)), (3, .int (nI v))] [] M Q := by
  have hn := hB.1
  have hn6 := hB.2.1
  have hv6 : v < 6 := by omega
  refine a_aload_n dX9_reckonsRight_0 rfl ?_
  refine a_iload_n dX9_reckonsRight_1 rfl ?_
  refine a_callV (mc1 := 0) (ms1 := 0) (As := [_]) kpX9_sheetAt kmX9_69 (by decide) rfl (Nat.le_of_ble_eq_true rfl) rfl (by decide) rfl (by decide) (hlt hN (by decide)) (Nat.le_of_ble_eq_true rfl) (Nat.le_of_ble_eq_true rfl) (Nat.le_of_ble_eq_true rfl) dX9_reckonsRight_2 (w_X9_sheetAt hi hN hs ?_)
  refine a_astore dX9_reckonsRight_5 (by decide) ?_
  refine a_aload_n dX9_reckonsRight_7 rfl ?_
  refine a_iconst (v := 0) dX9_reckonsRight_8 (by decide) ?_
  refine a_callV (mc1 := 0) (ms1 := 0) (As := [_]) kpX9_sheetAt kmX9_69 (by decide) rfl (Nat.le_of_ble_eq_true rfl) rfl (by decide) rfl (by decide) (hlt hN (by decide)) (Nat.le_of_ble_eq_true rfl) (Nat.le_of_ble_eq_true rfl) (Nat.le_of_ble_eq_true rfl) dX9_reckonsRight_9 (w_X9_sheetAt (i := 0) (by decide) hN hs ?_)
  refine a_astore dX9_reckonsRight_12 (by decide) ?_
  refine a_aload dX9_reckonsRight_14 rfl ?_
  refine a_ifnull dX9_reckonsRight_16 ?_
  refine a_aload dX9_reckonsRight_19 rfl ?_
  refine a_ifnull dX9_reckonsRight_21 ?_
  refine a_iload_n dX9_reckonsRight_24 rfl ?_
  refine a_callS (mc1 := 0) (ms1 := 0) (As := [_]) kpX9_isCell kmX9_73 (by decide) rfl (Nat.le_of_ble_eq_true rfl) (Nat.le_of_ble_eq_true rfl) (Nat.le_of_ble_eq_true rfl) (Nat.le_of_ble_eq_true rfl) dX9_reckonsRight_25 (w_X9_isCell ?_)
  refine a_if_eq (tgt := 42) dX9_reckonsRight_28 (by decide) (fun c_28 => absurd c_28 (cel_no hj)) (fun c_28 => ?_)
  refine a_aload_n dX9_reckonsRight_31 rfl ?_
  refine a_getA (z := 5) kfX9_19 rfl rfl (st_2_1 hs) (by decide) (hlt hN (by decide)) dX9_reckonsRight_32 ?_
  refine a_iload_n dX9_reckonsRight_35 rfl ?_
  refine a_callV (mc1 := 0) (ms1 := 0) (As := [_]) kpX4_isWorld kmX9_134 (by decide) rfl (Nat.le_of_ble_eq_true rfl) rfl (by decide) rfl (by decide) (hlt hN (by decide)) (Nat.le_of_ble_eq_true rfl) (Nat.le_of_ble_eq_true rfl) (Nat.le_of_ble_eq_true rfl) dX9_reckonsRight_36 (w_X4_isWorld hN hs ?_)
  refine a_if_ne (tgt := 44) dX9_reckonsRight_39 (by decide) (fun c_39 => ?_) (fun c_39 => absurd c_39 (isw_t hn hn6 hv))
  refine a_aload_n dX9_reckonsRight_44 rfl ?_
  refine a_getA (z := 47) kfX9_38 rfl rfl (st_2_3 hs) (by decide) (hlt hN (by decide)) dX9_reckonsRight_45 ?_
  refine a_aload dX9_reckonsRight_48 rfl ?_
  refine a_callV (mc1 := 0) (ms1 := 0) (As := [_]) kpX1_reckonOwn kmX9_204 (by decide) rfl (Nat.le_of_ble_eq_true rfl) rfl (by decide) rfl (by decide) (hlt hN (by decide)) (Nat.le_of_ble_eq_true rfl) (Nat.le_of_ble_eq_true rfl) (Nat.le_of_ble_eq_true rfl) dX9_reckonsRight_50 (w_X1_reckonOwn FgR47 (sheetR (s := 0) (by decide)) hn hn6 (hB.sf FgR47 (s := 0) (by decide)) hN hs ?_)
  replace hs : Str (rkO M 47 9 n).2.2.1 := by rw [(rkO_sx FgR47).2.2]; exact hs
  refine a_aload_n dX9_reckonsRight_53 rfl ?_
  refine a_getA (z := 57) kfX9_45 rfl rfl (st_2_5 hs) (by decide) (hlt hN (by decide)) dX9_reckonsRight_54 ?_
  refine a_aload dX9_reckonsRight_57 rfl ?_
  refine a_iload_n dX9_reckonsRight_59 rfl ?_
  refine a_aload_n dX9_reckonsRight_60 rfl ?_
  refine a_getA (z := 47) kfX9_38 rfl rfl (st_2_3 hs) (by decide) (hlt hN (by decide)) dX9_reckonsRight_61 ?_
  refine a_callV (mc1 := 0) (ms1 := 0) (As := [_, _, _]) kpX1_reckonRight kmX9_208 (by decide) rfl (Nat.le_of_ble_eq_true rfl) rfl (by decide) rfl (by decide) (hlt hN (by decide)) (Nat.le_of_ble_eq_true rfl) (Nat.le_of_ble_eq_true rfl) (Nat.le_of_ble_eq_true rfl) dX9_reckonsRight_64 (w_X1_reckonRight (M := rkO M 47 9 n) FgR47 hj FgR57 (sheetR hi) (by decide) (hB.sx (rkO_sx FgR47)).1 hn6 ((hB.sx (rkO_sx FgR47)).sf FgR57 hi) hN hs ?_)
  refine a_iconst (v := 1) dX9_reckonsRight_67 (by decide) ?_
  refine a_zret dX9_reckonsRight_68 rfl (by decide) h

theorem w_X9_reckonsRight_o1 {M : Mem} {N : Nat} {Q : Option Value → Nat → Mem → Prop} {s c w : Int32} (hc : ¬ (0 ≤ s.toInt ∧ s.toInt < 6))  (hN : 94 ≤ N) (hs : Str M.2.2.1) (h : Q (some (.int 0)) N (M)) : AW mX9_reckonsRight 6 0 0 N 0 [(0, .ref 2), (1, .int s), (2, .int c), (3, .int w)] [] M Q := by
  refine a_aload_n dX9_reckonsRight_0 rfl ?_
  refine a_iload_n dX9_reckonsRight_1 rfl ?_
  refine a_callV (mc1 := 0) (ms1 := 0) (As := [_]) kpX9_sheetAt kmX9_69 (by decide) rfl (Nat.le_of_ble_eq_true rfl) rfl (by decide) rfl (by decide) (hlt hN (by decide)) (Nat.le_of_ble_eq_true rfl) (Nat.le_of_ble_eq_true rfl) (Nat.le_of_ble_eq_true rfl) dX9_reckonsRight_2 (w_X9_sheetAt_out hc hN hs ?_)
  refine a_astoreN dX9_reckonsRight_5 (by decide) ?_
  refine a_aload_n dX9_reckonsRight_7 rfl ?_
  refine a_iconst (v := 0) dX9_reckonsRight_8 (by decide) ?_
  refine a_callV (mc1 := 0) (ms1 := 0) (As := [_]) kpX9_sheetAt kmX9_69 (by decide) rfl (Nat.le_of_ble_eq_true rfl) rfl (by decide) rfl (by decide) (hlt hN (by decide)) (Nat.le_of_ble_eq_true rfl) (Nat.le_of_ble_eq_true rfl) (Nat.le_of_ble_eq_true rfl) dX9_reckonsRight_9 (w_X9_sheetAt (i := 0) (by decide) hN hs ?_)
  refine a_astore dX9_reckonsRight_12 (by decide) ?_
  refine a_aloadN dX9_reckonsRight_14 rfl ?_
  refine a_ifnullN (tgt := 42) dX9_reckonsRight_16 (by decide) ?_
  refine a_iconst (v := 0) dX9_reckonsRight_42 (by decide) ?_
  refine a_zret dX9_reckonsRight_43 rfl (by decide) h

theorem w_X9_reckonsRight_o2 {M : Mem} {N : Nat} {Q : Option Value → Nat → Mem → Prop} {i n : Nat} {c w : Int32} (hi : i < 6) (hn : rI M 5 4 = nI n) (hn6 : n ≤ 6) (hc : ¬ ((0 ≤ c.toInt ∧ c.toInt < 64) ∧ (0 ≤ w.toInt ∧ w.toInt < n)))  (hN : 94 ≤ N) (hs : Str M.2.2.1) (h : Q (some (.int 0)) N (M)) : AW mX9_reckonsRight 6 0 0 N 0 [(0, .ref 2), (1, .int (nI i)), (2, .int c), (3, .int w)] [] M Q := by
  refine a_aload_n dX9_reckonsRight_0 rfl ?_
  refine a_iload_n dX9_reckonsRight_1 rfl ?_
  refine a_callV (mc1 := 0) (ms1 := 0) (As := [_]) kpX9_sheetAt kmX9_69 (by decide) rfl (Nat.le_of_ble_eq_true rfl) rfl (by decide) rfl (by decide) (hlt hN (by decide)) (Nat.le_of_ble_eq_true rfl) (Nat.le_of_ble_eq_true rfl) (Nat.le_of_ble_eq_true rfl) dX9_reckonsRight_2 (w_X9_sheetAt hi hN hs ?_)
  refine a_astore dX9_reckonsRight_5 (by decide) ?_
  refine a_aload_n dX9_reckonsRight_7 rfl ?_
  refine a_iconst (v := 0) dX9_reckonsRight_8 (by decide) ?_
  refine a_callV (mc1 := 0) (ms1 := 0) (As := [_]) kpX9_sheetAt kmX9_69 (by decide) rfl (Nat.le_of_ble_eq_true rfl) rfl (by decide) rfl (by decide) (hlt hN (by decide)) (Nat.le_of_ble_eq_true rfl) (Nat.le_of_ble_eq_true rfl) (Nat.le_of_ble_eq_true rfl) dX9_reckonsRight_9 (w_X9_sheetAt (i := 0) (by decide) hN hs ?_)
  refine a_astore dX9_reckonsRight_12 (by decide) ?_
  refine a_aload dX9_reckonsRight_14 rfl ?_
  refine a_ifnull dX9_reckonsRight_16 ?_
  refine a_aload dX9_reckonsRight_19 rfl ?_
  refine a_ifnull dX9_reckonsRight_21 ?_
  refine a_iload_n dX9_reckonsRight_24 rfl ?_
  refine a_callS (mc1 := 0) (ms1 := 0) (As := [_]) kpX9_isCell kmX9_73 (by decide) rfl (Nat.le_of_ble_eq_true rfl) (Nat.le_of_ble_eq_true rfl) (Nat.le_of_ble_eq_true rfl) (Nat.le_of_ble_eq_true rfl) dX9_reckonsRight_25 (w_X9_isCell ?_)
  refine a_if_eq (tgt := 42) dX9_reckonsRight_28 (by decide) (fun c_28 => ?_) (fun c_28 => ?_)
  · refine a_iconst (v := 0) dX9_reckonsRight_42 (by decide) ?_
    refine a_zret dX9_reckonsRight_43 rfl (by decide) h
  · refine a_aload_n dX9_reckonsRight_31 rfl ?_
    refine a_getA (z := 5) kfX9_19 rfl rfl (st_2_1 hs) (by decide) (hlt hN (by decide)) dX9_reckonsRight_32 ?_
    refine a_iload_n dX9_reckonsRight_35 rfl ?_
    refine a_callV (mc1 := 0) (ms1 := 0) (As := [_]) kpX4_isWorld kmX9_134 (by decide) rfl (Nat.le_of_ble_eq_true rfl) rfl (by decide) rfl (by decide) (hlt hN (by decide)) (Nat.le_of_ble_eq_true rfl) (Nat.le_of_ble_eq_true rfl) (Nat.le_of_ble_eq_true rfl) dX9_reckonsRight_36 (w_X4_isWorld hN hs ?_)
    refine a_if_ne (tgt := 44) dX9_reckonsRight_39 (by decide) (fun c_39 => absurd (by rw [hn, nIt (by omega)]; exact bI_z.mpr (cel_o hc c_28)) c_39) (fun c_39 => ?_)
    refine a_iconst (v := 0) dX9_reckonsRight_42 (by decide) ?_
    refine a_zret dX9_reckonsRight_43 rfl (by decide) h

theorem w_X9_value {M : Mem} {N : Nat} {Q : Option Value → Nat → Mem → Prop} {i j v n : Nat} (hi : i < 6) (hj : j < 64) (hv : v < n) (hB : Bas M N n)  (hN : 94 ≤ N) (hs : Str M.2.2.1) (h : Q (some (.long (rJ (rkO M 52 (9 + 6 * i) n) (52 + 2) (v * 64 + j)))) N (rkO M 52 (9 + 6 * i) n)) : AW mX9_value 7 0 0 N 0 [(0, .ref 2), (1, .int (nI i)), (2, .int (nI j)), (3, .int (nI v))] [] M Q := by
  have hn := hB.1
  have hn6 := hB.2.1
  have hv6 : v < 6 := by omega
  refine a_aload_n dX9_value_0 rfl ?_
  refine a_iload_n dX9_value_1 rfl ?_
  refine a_iload_n dX9_value_2 rfl ?_
  refine a_iload_n dX9_value_3 rfl ?_
  refine a_callV (mc1 := 0) (ms1 := 0) (As := [_, _, _]) kpX9_reckonsOwn kmX9_141 (by decide) rfl (Nat.le_of_ble_eq_true rfl) rfl (by decide) rfl (by decide) (hlt hN (by decide)) (Nat.le_of_ble_eq_true rfl) (Nat.le_of_ble_eq_true rfl) (Nat.le_of_ble_eq_true rfl) dX9_value_4 (w_X9_reckonsOwn hi hj hv hB hN hs ?_)
  refine a_if_eq (tgt := 22) dX9_value_7 (by decide) (fun c_7 => absurd c_7 (by decide)) (fun c_7 => ?_)
  replace hs : Str (rkO M 52 (9 + 6 * i) n).2.2.1 := by rw [(rkO_sx FgR52).2.2]; exact hs
  refine a_aload_n dX9_value_10 rfl ?_
  refine a_getA (z := 52) kfX9_42 rfl rfl (st_2_4 hs) (by decide) (hlt hN (by decide)) dX9_value_11 ?_
  refine a_iload_n dX9_value_14 rfl ?_
  refine a_iload_n dX9_value_15 rfl ?_
  refine a_callV (mc1 := 0) (ms1 := 0) (As := [_, _]) kpX1_figureAt kmX9_145 (by decide) rfl (Nat.le_of_ble_eq_true rfl) rfl (by decide) rfl (by decide) (hlt hN (by decide)) (Nat.le_of_ble_eq_true rfl) (Nat.le_of_ble_eq_true rfl) (Nat.le_of_ble_eq_true rfl) dX9_value_16 (w_X1_figureAt (M := rkO M 52 (9 + 6 * i) n) FgR52 hv6 hj hN (by exact hs) ?_)
  refine a_goto (tgt := 25) dX9_value_19 (by decide) ?_
  refine a_lret dX9_value_25 rfl h

theorem w_X9_value_o1 {M : Mem} {N : Nat} {Q : Option Value → Nat → Mem → Prop} {s c w : Int32} (hc : ¬ (0 ≤ s.toInt ∧ s.toInt < 6))  (hN : 94 ≤ N) (hs : Str M.2.2.1) (h : Q (some (.long (-1))) N (M)) : AW mX9_value 7 0 0 N 0 [(0, .ref 2), (1, .int s), (2, .int c), (3, .int w)] [] M Q := by
  refine a_aload_n dX9_value_0 rfl ?_
  refine a_iload_n dX9_value_1 rfl ?_
  refine a_iload_n dX9_value_2 rfl ?_
  refine a_iload_n dX9_value_3 rfl ?_
  refine a_callV (mc1 := 0) (ms1 := 0) (As := [_, _, _]) kpX9_reckonsOwn kmX9_141 (by decide) rfl (Nat.le_of_ble_eq_true rfl) rfl (by decide) rfl (by decide) (hlt hN (by decide)) (Nat.le_of_ble_eq_true rfl) (Nat.le_of_ble_eq_true rfl) (Nat.le_of_ble_eq_true rfl) dX9_value_4 (w_X9_reckonsOwn_o1 hc hN hs ?_)
  refine a_if_eq (tgt := 22) dX9_value_7 (by decide) (fun c_7 => ?_) (fun c_7 => absurd rfl c_7)
  refine a_ldc2 kkX9_149 dX9_value_22 ?_
  refine a_lret dX9_value_25 rfl h

theorem w_X9_value_o2 {M : Mem} {N : Nat} {Q : Option Value → Nat → Mem → Prop} {i n : Nat} {c w : Int32} (hi : i < 6) (hn : rI M 5 4 = nI n) (hn6 : n ≤ 6) (hc : ¬ ((0 ≤ c.toInt ∧ c.toInt < 64) ∧ (0 ≤ w.toInt ∧ w.toInt < n)))  (hN : 94 ≤ N) (hs : Str M.2.2.1) (h : Q (some (.long (-1))) N (M)) : AW mX9_value 7 0 0 N 0 [(0, .ref 2), (1, .int (nI i)), (2, .int c), (3, .int w)] [] M Q := by
  refine a_aload_n dX9_value_0 rfl ?_
  refine a_iload_n dX9_value_1 rfl ?_
  refine a_iload_n dX9_value_2 rfl ?_
  refine a_iload_n dX9_value_3 rfl ?_
  refine a_callV (mc1 := 0) (ms1 := 0) (As := [_, _, _]) kpX9_reckonsOwn kmX9_141 (by decide) rfl (Nat.le_of_ble_eq_true rfl) rfl (by decide) rfl (by decide) (hlt hN (by decide)) (Nat.le_of_ble_eq_true rfl) (Nat.le_of_ble_eq_true rfl) (Nat.le_of_ble_eq_true rfl) dX9_value_4 (w_X9_reckonsOwn_o2 hi hn hn6 hc hN hs ?_)
  refine a_if_eq (tgt := 22) dX9_value_7 (by decide) (fun c_7 => ?_) (fun c_7 => absurd rfl c_7)
  refine a_ldc2 kkX9_149 dX9_value_22 ?_
  refine a_lret dX9_value_25 rfl h

theorem w_X9_error {M : Mem} {N : Nat} {Q : Option Value → Nat → Mem → Prop} {i j v n : Nat} (hi : i < 6) (hj : j < 64) (hv : v < n) (hB : Bas M N n)  (hN : 94 ≤ N) (hs : Str M.2.2.1) (h : Q (some (.int (rI (rkO M 52 (9 + 6 * i) n) (52 + 3) (v * 64 + j)))) N (rkO M 52 (9 + 6 * i) n)) : AW mX9_error 7 0 0 N 0 [(0, .ref 2), (1, .int (nI i)), (2, .int (nI j)), (3, .int (nI v))] [] M Q := by
  have hn := hB.1
  have hn6 := hB.2.1
  have hv6 : v < 6 := by omega
  refine a_aload_n dX9_error_0 rfl ?_
  refine a_iload_n dX9_error_1 rfl ?_
  refine a_iload_n dX9_error_2 rfl ?_
  refine a_iload_n dX9_error_3 rfl ?_
  refine a_callV (mc1 := 0) (ms1 := 0) (As := [_, _, _]) kpX9_reckonsOwn kmX9_141 (by decide) rfl (Nat.le_of_ble_eq_true rfl) rfl (by decide) rfl (by decide) (hlt hN (by decide)) (Nat.le_of_ble_eq_true rfl) (Nat.le_of_ble_eq_true rfl) (Nat.le_of_ble_eq_true rfl) dX9_error_4 (w_X9_reckonsOwn hi hj hv hB hN hs ?_)
  refine a_if_eq (tgt := 22) dX9_error_7 (by decide) (fun c_7 => absurd c_7 (by decide)) (fun c_7 => ?_)
  replace hs : Str (rkO M 52 (9 + 6 * i) n).2.2.1 := by rw [(rkO_sx FgR52).2.2]; exact hs
  refine a_aload_n dX9_error_10 rfl ?_
  refine a_getA (z := 52) kfX9_42 rfl rfl (st_2_4 hs) (by decide) (hlt hN (by decide)) dX9_error_11 ?_
  refine a_iload_n dX9_error_14 rfl ?_
  refine a_iload_n dX9_error_15 rfl ?_
  refine a_callV (mc1 := 0) (ms1 := 0) (As := [_, _]) kpX1_errorAt kmX9_151 (by decide) rfl (Nat.le_of_ble_eq_true rfl) rfl (by decide) rfl (by decide) (hlt hN (by decide)) (Nat.le_of_ble_eq_true rfl) (Nat.le_of_ble_eq_true rfl) (Nat.le_of_ble_eq_true rfl) dX9_error_16 (w_X1_errorAt (M := rkO M 52 (9 + 6 * i) n) FgR52 hv6 hj hN (by exact hs) ?_)
  refine a_goto (tgt := 23) dX9_error_19 (by decide) ?_
  refine a_iret dX9_error_23 rfl h

theorem w_X9_error_o1 {M : Mem} {N : Nat} {Q : Option Value → Nat → Mem → Prop} {s c w : Int32} (hc : ¬ (0 ≤ s.toInt ∧ s.toInt < 6))  (hN : 94 ≤ N) (hs : Str M.2.2.1) (h : Q (some (.int (-1))) N (M)) : AW mX9_error 7 0 0 N 0 [(0, .ref 2), (1, .int s), (2, .int c), (3, .int w)] [] M Q := by
  refine a_aload_n dX9_error_0 rfl ?_
  refine a_iload_n dX9_error_1 rfl ?_
  refine a_iload_n dX9_error_2 rfl ?_
  refine a_iload_n dX9_error_3 rfl ?_
  refine a_callV (mc1 := 0) (ms1 := 0) (As := [_, _, _]) kpX9_reckonsOwn kmX9_141 (by decide) rfl (Nat.le_of_ble_eq_true rfl) rfl (by decide) rfl (by decide) (hlt hN (by decide)) (Nat.le_of_ble_eq_true rfl) (Nat.le_of_ble_eq_true rfl) (Nat.le_of_ble_eq_true rfl) dX9_error_4 (w_X9_reckonsOwn_o1 hc hN hs ?_)
  refine a_if_eq (tgt := 22) dX9_error_7 (by decide) (fun c_7 => ?_) (fun c_7 => absurd rfl c_7)
  refine a_iconst (v := (-1)) dX9_error_22 (by decide) ?_
  refine a_iret dX9_error_23 rfl h

theorem w_X9_error_o2 {M : Mem} {N : Nat} {Q : Option Value → Nat → Mem → Prop} {i n : Nat} {c w : Int32} (hi : i < 6) (hn : rI M 5 4 = nI n) (hn6 : n ≤ 6) (hc : ¬ ((0 ≤ c.toInt ∧ c.toInt < 64) ∧ (0 ≤ w.toInt ∧ w.toInt < n)))  (hN : 94 ≤ N) (hs : Str M.2.2.1) (h : Q (some (.int (-1))) N (M)) : AW mX9_error 7 0 0 N 0 [(0, .ref 2), (1, .int (nI i)), (2, .int c), (3, .int w)] [] M Q := by
  refine a_aload_n dX9_error_0 rfl ?_
  refine a_iload_n dX9_error_1 rfl ?_
  refine a_iload_n dX9_error_2 rfl ?_
  refine a_iload_n dX9_error_3 rfl ?_
  refine a_callV (mc1 := 0) (ms1 := 0) (As := [_, _, _]) kpX9_reckonsOwn kmX9_141 (by decide) rfl (Nat.le_of_ble_eq_true rfl) rfl (by decide) rfl (by decide) (hlt hN (by decide)) (Nat.le_of_ble_eq_true rfl) (Nat.le_of_ble_eq_true rfl) (Nat.le_of_ble_eq_true rfl) dX9_error_4 (w_X9_reckonsOwn_o2 hi hn hn6 hc hN hs ?_)
  refine a_if_eq (tgt := 22) dX9_error_7 (by decide) (fun c_7 => ?_) (fun c_7 => absurd rfl c_7)
  refine a_iconst (v := (-1)) dX9_error_22 (by decide) ?_
  refine a_iret dX9_error_23 rfl h

theorem w_X9_right {M : Mem} {N : Nat} {Q : Option Value → Nat → Mem → Prop} {i j v n : Nat} (hi : i < 6) (hj : j < 64) (hv : v < n) (hB : Bas M N n)  (hN : 94 ≤ N) (hs : Str M.2.2.1) (h : Q (some (.long (rJ (rkR (rkO M 47 9 n) 57 (9 + 6 * i) 47 j n) (57 + 2) (v * 64 + j)))) N (rkR (rkO M 47 9 n) 57 (9 + 6 * i) 47 j n)) : AW mX9_right 7 0 0 N 0 [(0, .ref 2), (1, .int (nI i)), (2, .int (nI j)), (3, .int (nI v))] [] M Q := by
  have hn := hB.1
  have hn6 := hB.2.1
  have hv6 : v < 6 := by omega
  refine a_aload_n dX9_right_0 rfl ?_
  refine a_iload_n dX9_right_1 rfl ?_
  refine a_iload_n dX9_right_2 rfl ?_
  refine a_iload_n dX9_right_3 rfl ?_
  refine a_callV (mc1 := 0) (ms1 := 0) (As := [_, _, _]) kpX9_reckonsRight kmX9_155 (by decide) rfl (Nat.le_of_ble_eq_true rfl) rfl (by decide) rfl (by decide) (hlt hN (by decide)) (Nat.le_of_ble_eq_true rfl) (Nat.le_of_ble_eq_true rfl) (Nat.le_of_ble_eq_true rfl) dX9_right_4 (w_X9_reckonsRight hi hj hv hB hN hs ?_)
  refine a_if_eq (tgt := 22) dX9_right_7 (by decide) (fun c_7 => absurd c_7 (by decide)) (fun c_7 => ?_)
  replace hs : Str (rkR (rkO M 47 9 n) 57 (9 + 6 * i) 47 j n).2.2.1 := by rw [((rkO_sx FgR47).tr (rkR_sx FgR57)).2.2]; exact hs
  refine a_aload_n dX9_right_10 rfl ?_
  refine a_getA (z := 57) kfX9_45 rfl rfl (st_2_5 hs) (by decide) (hlt hN (by decide)) dX9_right_11 ?_
  refine a_iload_n dX9_right_14 rfl ?_
  refine a_iload_n dX9_right_15 rfl ?_
  refine a_callV (mc1 := 0) (ms1 := 0) (As := [_, _]) kpX1_figureAt kmX9_145 (by decide) rfl (Nat.le_of_ble_eq_true rfl) rfl (by decide) rfl (by decide) (hlt hN (by decide)) (Nat.le_of_ble_eq_true rfl) (Nat.le_of_ble_eq_true rfl) (Nat.le_of_ble_eq_true rfl) dX9_right_16 (w_X1_figureAt (M := rkR (rkO M 47 9 n) 57 (9 + 6 * i) 47 j n) FgR57 hv6 hj hN (by exact hs) ?_)
  refine a_goto (tgt := 25) dX9_right_19 (by decide) ?_
  refine a_lret dX9_right_25 rfl h

theorem w_X9_right_o1 {M : Mem} {N : Nat} {Q : Option Value → Nat → Mem → Prop} {s c w : Int32} (hc : ¬ (0 ≤ s.toInt ∧ s.toInt < 6))  (hN : 94 ≤ N) (hs : Str M.2.2.1) (h : Q (some (.long (-1))) N (M)) : AW mX9_right 7 0 0 N 0 [(0, .ref 2), (1, .int s), (2, .int c), (3, .int w)] [] M Q := by
  refine a_aload_n dX9_right_0 rfl ?_
  refine a_iload_n dX9_right_1 rfl ?_
  refine a_iload_n dX9_right_2 rfl ?_
  refine a_iload_n dX9_right_3 rfl ?_
  refine a_callV (mc1 := 0) (ms1 := 0) (As := [_, _, _]) kpX9_reckonsRight kmX9_155 (by decide) rfl (Nat.le_of_ble_eq_true rfl) rfl (by decide) rfl (by decide) (hlt hN (by decide)) (Nat.le_of_ble_eq_true rfl) (Nat.le_of_ble_eq_true rfl) (Nat.le_of_ble_eq_true rfl) dX9_right_4 (w_X9_reckonsRight_o1 hc hN hs ?_)
  refine a_if_eq (tgt := 22) dX9_right_7 (by decide) (fun c_7 => ?_) (fun c_7 => absurd rfl c_7)
  refine a_ldc2 kkX9_149 dX9_right_22 ?_
  refine a_lret dX9_right_25 rfl h

theorem w_X9_right_o2 {M : Mem} {N : Nat} {Q : Option Value → Nat → Mem → Prop} {i n : Nat} {c w : Int32} (hi : i < 6) (hn : rI M 5 4 = nI n) (hn6 : n ≤ 6) (hc : ¬ ((0 ≤ c.toInt ∧ c.toInt < 64) ∧ (0 ≤ w.toInt ∧ w.toInt < n)))  (hN : 94 ≤ N) (hs : Str M.2.2.1) (h : Q (some (.long (-1))) N (M)) : AW mX9_right 7 0 0 N 0 [(0, .ref 2), (1, .int (nI i)), (2, .int c), (3, .int w)] [] M Q := by
  refine a_aload_n dX9_right_0 rfl ?_
  refine a_iload_n dX9_right_1 rfl ?_
  refine a_iload_n dX9_right_2 rfl ?_
  refine a_iload_n dX9_right_3 rfl ?_
  refine a_callV (mc1 := 0) (ms1 := 0) (As := [_, _, _]) kpX9_reckonsRight kmX9_155 (by decide) rfl (Nat.le_of_ble_eq_true rfl) rfl (by decide) rfl (by decide) (hlt hN (by decide)) (Nat.le_of_ble_eq_true rfl) (Nat.le_of_ble_eq_true rfl) (Nat.le_of_ble_eq_true rfl) dX9_right_4 (w_X9_reckonsRight_o2 hi hn hn6 hc hN hs ?_)
  refine a_if_eq (tgt := 22) dX9_right_7 (by decide) (fun c_7 => ?_) (fun c_7 => absurd rfl c_7)
  refine a_ldc2 kkX9_149 dX9_right_22 ?_
  refine a_lret dX9_right_25 rfl h

theorem w_X9_rightError {M : Mem} {N : Nat} {Q : Option Value → Nat → Mem → Prop} {i j v n : Nat} (hi : i < 6) (hj : j < 64) (hv : v < n) (hB : Bas M N n)  (hN : 94 ≤ N) (hs : Str M.2.2.1) (h : Q (some (.int (rI (rkR (rkO M 47 9 n) 57 (9 + 6 * i) 47 j n) (57 + 3) (v * 64 + j)))) N (rkR (rkO M 47 9 n) 57 (9 + 6 * i) 47 j n)) : AW mX9_rightError 7 0 0 N 0 [(0, .ref 2), (1, .int (nI i)), (2, .int (nI j)), (3, .int (nI v))] [] M Q := by
  have hn := hB.1
  have hn6 := hB.2.1
  have hv6 : v < 6 := by omega
  refine a_aload_n dX9_rightError_0 rfl ?_
  refine a_iload_n dX9_rightError_1 rfl ?_
  refine a_iload_n dX9_rightError_2 rfl ?_
  refine a_iload_n dX9_rightError_3 rfl ?_
  refine a_callV (mc1 := 0) (ms1 := 0) (As := [_, _, _]) kpX9_reckonsRight kmX9_155 (by decide) rfl (Nat.le_of_ble_eq_true rfl) rfl (by decide) rfl (by decide) (hlt hN (by decide)) (Nat.le_of_ble_eq_true rfl) (Nat.le_of_ble_eq_true rfl) (Nat.le_of_ble_eq_true rfl) dX9_rightError_4 (w_X9_reckonsRight hi hj hv hB hN hs ?_)
  refine a_if_eq (tgt := 22) dX9_rightError_7 (by decide) (fun c_7 => absurd c_7 (by decide)) (fun c_7 => ?_)
  replace hs : Str (rkR (rkO M 47 9 n) 57 (9 + 6 * i) 47 j n).2.2.1 := by rw [((rkO_sx FgR47).tr (rkR_sx FgR57)).2.2]; exact hs
  refine a_aload_n dX9_rightError_10 rfl ?_
  refine a_getA (z := 57) kfX9_45 rfl rfl (st_2_5 hs) (by decide) (hlt hN (by decide)) dX9_rightError_11 ?_
  refine a_iload_n dX9_rightError_14 rfl ?_
  refine a_iload_n dX9_rightError_15 rfl ?_
  refine a_callV (mc1 := 0) (ms1 := 0) (As := [_, _]) kpX1_errorAt kmX9_151 (by decide) rfl (Nat.le_of_ble_eq_true rfl) rfl (by decide) rfl (by decide) (hlt hN (by decide)) (Nat.le_of_ble_eq_true rfl) (Nat.le_of_ble_eq_true rfl) (Nat.le_of_ble_eq_true rfl) dX9_rightError_16 (w_X1_errorAt (M := rkR (rkO M 47 9 n) 57 (9 + 6 * i) 47 j n) FgR57 hv6 hj hN (by exact hs) ?_)
  refine a_goto (tgt := 23) dX9_rightError_19 (by decide) ?_
  refine a_iret dX9_rightError_23 rfl h

theorem w_X9_rightError_o1 {M : Mem} {N : Nat} {Q : Option Value → Nat → Mem → Prop} {s c w : Int32} (hc : ¬ (0 ≤ s.toInt ∧ s.toInt < 6))  (hN : 94 ≤ N) (hs : Str M.2.2.1) (h : Q (some (.int (-1))) N (M)) : AW mX9_rightError 7 0 0 N 0 [(0, .ref 2), (1, .int s), (2, .int c), (3, .int w)] [] M Q := by
  refine a_aload_n dX9_rightError_0 rfl ?_
  refine a_iload_n dX9_rightError_1 rfl ?_
  refine a_iload_n dX9_rightError_2 rfl ?_
  refine a_iload_n dX9_rightError_3 rfl ?_
  refine a_callV (mc1 := 0) (ms1 := 0) (As := [_, _, _]) kpX9_reckonsRight kmX9_155 (by decide) rfl (Nat.le_of_ble_eq_true rfl) rfl (by decide) rfl (by decide) (hlt hN (by decide)) (Nat.le_of_ble_eq_true rfl) (Nat.le_of_ble_eq_true rfl) (Nat.le_of_ble_eq_true rfl) dX9_rightError_4 (w_X9_reckonsRight_o1 hc hN hs ?_)
  refine a_if_eq (tgt := 22) dX9_rightError_7 (by decide) (fun c_7 => ?_) (fun c_7 => absurd rfl c_7)
  refine a_iconst (v := (-1)) dX9_rightError_22 (by decide) ?_
  refine a_iret dX9_rightError_23 rfl h

theorem w_X9_rightError_o2 {M : Mem} {N : Nat} {Q : Option Value → Nat → Mem → Prop} {i n : Nat} {c w : Int32} (hi : i < 6) (hn : rI M 5 4 = nI n) (hn6 : n ≤ 6) (hc : ¬ ((0 ≤ c.toInt ∧ c.toInt < 64) ∧ (0 ≤ w.toInt ∧ w.toInt < n)))  (hN : 94 ≤ N) (hs : Str M.2.2.1) (h : Q (some (.int (-1))) N (M)) : AW mX9_rightError 7 0 0 N 0 [(0, .ref 2), (1, .int (nI i)), (2, .int c), (3, .int w)] [] M Q := by
  refine a_aload_n dX9_rightError_0 rfl ?_
  refine a_iload_n dX9_rightError_1 rfl ?_
  refine a_iload_n dX9_rightError_2 rfl ?_
  refine a_iload_n dX9_rightError_3 rfl ?_
  refine a_callV (mc1 := 0) (ms1 := 0) (As := [_, _, _]) kpX9_reckonsRight kmX9_155 (by decide) rfl (Nat.le_of_ble_eq_true rfl) rfl (by decide) rfl (by decide) (hlt hN (by decide)) (Nat.le_of_ble_eq_true rfl) (Nat.le_of_ble_eq_true rfl) (Nat.le_of_ble_eq_true rfl) dX9_rightError_4 (w_X9_reckonsRight_o2 hi hn hn6 hc hN hs ?_)
  refine a_if_eq (tgt := 22) dX9_rightError_7 (by decide) (fun c_7 => ?_) (fun c_7 => absurd rfl c_7)
  refine a_iconst (v := (-1)) dX9_rightError_22 (by decide) ?_
  refine a_iret dX9_rightError_23 rfl h

def shF (k w : Int32) : Int32 := if k = 1 ∨ k = 3 then w else if k = 4 then w / 2 else if k = 2 then w / 4 else 0
theorem w_X9_share {M : Mem} {N : Nat} {Q : Option Value → Nat → Mem → Prop} {k w : Int32} (hk : k = 0 ∨ k = 1 ∨ k = 2 ∨ k = 3 ∨ k = 4 ∨ k = 5)  (h : Q (some (.int (shF k w))) N (M)) : AW mX9_share 0 0 0 N 0 [(0, .int k), (1, .int w)] [] M Q := by
  refine a_iload_n dX9_share_0 rfl ?_
  rcases hk with rfl | rfl | rfl | rfl | rfl | rfl
  · refine a_tableOut (tgt := 42) dX9_share_1 (by decide) (by decide) ?_
    refine a_iconst (v := 0) dX9_share_42 (by decide) ?_
    refine a_iret dX9_share_43 rfl h
  · refine a_tableIn (off := 31) (tgt := 32) dX9_share_1 (by decide) (by decide) (by decide) (by decide) ?_
    refine a_iload_n dX9_share_32 rfl ?_
    refine a_iret dX9_share_33 rfl h
  · refine a_tableIn (off := 37) (tgt := 38) dX9_share_1 (by decide) (by decide) (by decide) (by decide) ?_
    refine a_iload_n dX9_share_38 rfl ?_
    refine a_iconst (v := 4) dX9_share_39 (by decide) ?_
    refine a_idiv dX9_share_40 (by decide) ?_
    refine a_iret dX9_share_41 rfl h
  · refine a_tableIn (off := 31) (tgt := 32) dX9_share_1 (by decide) (by decide) (by decide) (by decide) ?_
    refine a_iload_n dX9_share_32 rfl ?_
    refine a_iret dX9_share_33 rfl h
  · refine a_tableIn (off := 33) (tgt := 34) dX9_share_1 (by decide) (by decide) (by decide) (by decide) ?_
    refine a_iload_n dX9_share_34 rfl ?_
    refine a_iconst (v := 2) dX9_share_35 (by decide) ?_
    refine a_idiv dX9_share_36 (by decide) ?_
    refine a_iret dX9_share_37 rfl h
  · refine a_tableOut (tgt := 42) dX9_share_1 (by decide) (by decide) ?_
    refine a_iconst (v := 0) dX9_share_42 (by decide) ?_
    refine a_iret dX9_share_43 rfl h

/-- all stands laid for the sheet i -/
noncomputable def opM (M : Mem) (i n : Nat) : Mem := rkO (rkO M 47 9 n) 52 (9 + 6 * i) n
theorem opM_sx {M : Mem} {i n : Nat} : Sx M (opM M i n) := (rkO_sx FgR47).tr (rkO_sx FgR52)
theorem jdK_6 {M : Mem} {q c n : Nat} : jdK M q c n = 0 ∨ jdK M q c n = 1 ∨ jdK M q c n = 2 ∨ jdK M q c n = 3 ∨ jdK M q c n = 4 ∨ jdK M q c n = 5 := by
  unfold jdK jnF
  split
  · split
    · exact Or.inl rfl
    · split
      · exact Or.inr (Or.inr (Or.inl rfl))
      · exact Or.inr (Or.inr (Or.inr (Or.inr (Or.inr rfl))))
  · split
    · exact Or.inr (Or.inl rfl)
    · split
      · exact Or.inr (Or.inr (Or.inr (Or.inl rfl)))
      · split
        · exact Or.inr (Or.inr (Or.inr (Or.inr (Or.inr rfl))))
        · exact Or.inr (Or.inr (Or.inr (Or.inr (Or.inl rfl))))
theorem w_X9_kind {M : Mem} {N : Nat} {Q : Option Value → Nat → Mem → Prop} {i j n : Nat} (hi : i < 6) (h0 : 0 < i) (hj : j < 64) (hB : Bas M N n) (hw : hb (rJ M 5 3) (nI j) = true)  (hN : 94 ≤ N) (hs : Str M.2.2.1) (h : ∀ M', Jw (opM M i n) M' → Q (some (.int (jdK (opM M i n) (9 + 6 * i) j n))) N M') : AW mX9_kind 8 0 0 N 0 [(0, .ref 2), (1, .int (nI i)), (2, .int (nI j))] [] M Q := by
  have hn := hB.1
  have hn6 := hB.2.1
  refine a_aload_n dX9_kind_0 rfl ?_
  refine a_iload_n dX9_kind_1 rfl ?_
  refine a_callV (mc1 := 0) (ms1 := 0) (As := [_]) kpX9_pupilAt kmX9_158 (by decide) rfl (Nat.le_of_ble_eq_true rfl) rfl (by decide) rfl (by decide) (hlt hN (by decide)) (Nat.le_of_ble_eq_true rfl) (Nat.le_of_ble_eq_true rfl) (Nat.le_of_ble_eq_true rfl) dX9_kind_2 (w_X9_pupilAt hi h0 hN hs ?_)
  refine a_astore_n dX9_kind_5 (by decide) ?_
  refine a_aload_n dX9_kind_6 rfl ?_
  refine a_ifnull dX9_kind_7 ?_
  refine a_aload_n dX9_kind_10 rfl ?_
  refine a_getA (z := 5) kfX9_19 rfl rfl (st_2_1 hs) (by decide) (hlt hN (by decide)) dX9_kind_11 ?_
  refine a_iload_n dX9_kind_14 rfl ?_
  refine a_callV (mc1 := 0) (ms1 := 0) (As := [_]) kpX4_isWanted kmX9_113 (by decide) rfl (Nat.le_of_ble_eq_true rfl) rfl (by decide) rfl (by decide) (hlt hN (by decide)) (Nat.le_of_ble_eq_true rfl) (Nat.le_of_ble_eq_true rfl) (Nat.le_of_ble_eq_true rfl) dX9_kind_15 (w_X4_isWanted hN hs ?_)
  refine a_if_ne (tgt := 23) dX9_kind_18 (by decide) (fun c_18 => ?_) (fun c_18 => absurd c_18 (bI_nz.mpr hw))
  refine a_aload_n dX9_kind_23 rfl ?_
  refine a_getA (z := 62) kfX9_53 rfl rfl (st_2_6 hs) (by decide) (hlt hN (by decide)) dX9_kind_24 ?_
  refine a_aload_n dX9_kind_27 rfl ?_
  refine a_iconst (v := 0) dX9_kind_28 (by decide) ?_
  refine a_callV (mc1 := 0) (ms1 := 0) (As := [_]) kpX9_sheetAt kmX9_69 (by decide) rfl (Nat.le_of_ble_eq_true rfl) rfl (by decide) rfl (by decide) (hlt hN (by decide)) (Nat.le_of_ble_eq_true rfl) (Nat.le_of_ble_eq_true rfl) (Nat.le_of_ble_eq_true rfl) dX9_kind_29 (w_X9_sheetAt (i := 0) (by decide) hN hs ?_)
  refine a_aload_n dX9_kind_32 rfl ?_
  refine a_callV (mc1 := 0) (ms1 := 0) (As := [_, _]) kpX3_open kmX9_161 (by decide) rfl (Nat.le_of_ble_eq_true rfl) rfl (by decide) rfl (by decide) (hlt hN (by decide)) (Nat.le_of_ble_eq_true rfl) (Nat.le_of_ble_eq_true rfl) (Nat.le_of_ble_eq_true rfl) dX9_kind_33 (w_X3_open hi hB hN hs ?_)
  have hs1 : Str (opM M i n).2.2.1 := by rw [opM_sx.2.2]; exact hs
  have hs := hs1
  refine a_aload_n dX9_kind_36 rfl ?_
  refine a_getA (z := 62) kfX9_53 rfl rfl (st_2_6 hs) (by decide) (hlt hN (by decide)) dX9_kind_37 ?_
  refine a_aload_n dX9_kind_40 rfl ?_
  refine a_iload_n dX9_kind_41 rfl ?_
  refine a_callV (mc1 := 0) (ms1 := 0) (As := [_, _]) kpX3_judge kmX9_165 (by decide) rfl (Nat.le_of_ble_eq_true rfl) rfl (by decide) rfl (by decide) (hlt hN (by decide)) (Nat.le_of_ble_eq_true rfl) (Nat.le_of_ble_eq_true rfl) (Nat.le_of_ble_eq_true rfl) dX9_kind_42 (w_X3_judge (M := opM M i n) hi hj (hB.sx opM_sx) hN (by exact hs) ?_)
  intro M2 jw _
  refine a_iret dX9_kind_45 rfl (h _ jw)

theorem w_X9_kind_o1 {M : Mem} {N : Nat} {Q : Option Value → Nat → Mem → Prop} {s c : Int32} (hc : ¬ (1 ≤ s.toInt ∧ s.toInt < 6))  (hN : 94 ≤ N) (hs : Str M.2.2.1) (h : Q (some (.int (-1))) N (M)) : AW mX9_kind 8 0 0 N 0 [(0, .ref 2), (1, .int s), (2, .int c)] [] M Q := by
  refine a_aload_n dX9_kind_0 rfl ?_
  refine a_iload_n dX9_kind_1 rfl ?_
  refine a_callV (mc1 := 0) (ms1 := 0) (As := [_]) kpX9_pupilAt kmX9_158 (by decide) rfl (Nat.le_of_ble_eq_true rfl) rfl (by decide) rfl (by decide) (hlt hN (by decide)) (Nat.le_of_ble_eq_true rfl) (Nat.le_of_ble_eq_true rfl) (Nat.le_of_ble_eq_true rfl) dX9_kind_2 (w_X9_pupilAt_out hc hN hs ?_)
  refine a_astore_nN dX9_kind_5 (by decide) ?_
  refine a_aload_nN dX9_kind_6 rfl ?_
  refine a_ifnullN (tgt := 21) dX9_kind_7 (by decide) ?_
  refine a_iconst (v := (-1)) dX9_kind_21 (by decide) ?_
  refine a_iret dX9_kind_22 rfl h

theorem w_X9_kind_o2 {M : Mem} {N : Nat} {Q : Option Value → Nat → Mem → Prop} {i : Nat} {c : Int32} (hi : i < 6) (h0 : 0 < i) (hw : ¬ hb (rJ M 5 3) c = true)  (hN : 94 ≤ N) (hs : Str M.2.2.1) (h : Q (some (.int (-1))) N (M)) : AW mX9_kind 8 0 0 N 0 [(0, .ref 2), (1, .int (nI i)), (2, .int c)] [] M Q := by
  refine a_aload_n dX9_kind_0 rfl ?_
  refine a_iload_n dX9_kind_1 rfl ?_
  refine a_callV (mc1 := 0) (ms1 := 0) (As := [_]) kpX9_pupilAt kmX9_158 (by decide) rfl (Nat.le_of_ble_eq_true rfl) rfl (by decide) rfl (by decide) (hlt hN (by decide)) (Nat.le_of_ble_eq_true rfl) (Nat.le_of_ble_eq_true rfl) (Nat.le_of_ble_eq_true rfl) dX9_kind_2 (w_X9_pupilAt hi h0 hN hs ?_)
  refine a_astore_n dX9_kind_5 (by decide) ?_
  refine a_aload_n dX9_kind_6 rfl ?_
  refine a_ifnull dX9_kind_7 ?_
  refine a_aload_n dX9_kind_10 rfl ?_
  refine a_getA (z := 5) kfX9_19 rfl rfl (st_2_1 hs) (by decide) (hlt hN (by decide)) dX9_kind_11 ?_
  refine a_iload_n dX9_kind_14 rfl ?_
  refine a_callV (mc1 := 0) (ms1 := 0) (As := [_]) kpX4_isWanted kmX9_113 (by decide) rfl (Nat.le_of_ble_eq_true rfl) rfl (by decide) rfl (by decide) (hlt hN (by decide)) (Nat.le_of_ble_eq_true rfl) (Nat.le_of_ble_eq_true rfl) (Nat.le_of_ble_eq_true rfl) dX9_kind_15 (w_X4_isWanted hN hs ?_)
  refine a_if_ne (tgt := 23) dX9_kind_18 (by decide) (fun c_18 => absurd (bI_z.mpr hw) c_18) (fun c_18 => ?_)
  refine a_iconst (v := (-1)) dX9_kind_21 (by decide) ?_
  refine a_iret dX9_kind_22 rfl h

/-- what slip tells -/
noncomputable def slF (M : Mem) (q c n : Nat) (w : Int32) : Int32 := if jdK M q c n = 4 then (match jdS M q c n with
  | some r => if w = 0 then nI r.1 else r.2
  | none => -1) else -1
theorem slF_1 {M : Mem} {q c n : Nat} {w : Int32} (h : ¬ jdK M q c n = 4) : slF M q c n w = -1 := if_neg h
theorem jdK_r {M : Mem} {q c n : Nat} (h : jdK M q c n = 4) : ∃ r, jdS M q c n = some r := by
  unfold jdK at h
  unfold jdS
  split at h
  · exact absurd h (by unfold jnF; split; decide; split <;> decide)
  · split at h
    · exact absurd h (by decide)
    · split at h
      · exact absurd h (by decide)
      · split at h
        · exact absurd h (by decide)
        · rename_i r hr; exact ⟨r, hr⟩
theorem slF_2 {M M2 : Mem} {q c n : Nat} {w x : Int32} (k : ∃ r, jdS M q c n = some r) (h : jdK M q c n = 4) (hx : x = if w = 0 then rI M2 62 6 else rI M2 62 7) (h2 : ∀ r, jdS M q c n = some r → rI M2 62 6 = nI r.1 ∧ rI M2 62 7 = r.2) : slF M q c n w = x := by
  obtain ⟨r, hr⟩ := k
  obtain ⟨a, b⟩ := h2 r hr
  unfold slF
  rw [if_pos h, hr, hx, a, b]
theorem w_X9_slip {M : Mem} {N : Nat} {Q : Option Value → Nat → Mem → Prop} {i j n : Nat} (hi : i < 6) (h0 : 0 < i) (hj : j < 64) (hB : Bas M N n) (hw : hb (rJ M 5 3) (nI j) = true) {w : Int32} (hww : w = 0 ∨ w = 1)  (hN : 94 ≤ N) (hs : Str M.2.2.1) (h : ∀ M', Jw (opM M i n) M' → Q (some (.int (slF (opM M i n) (9 + 6 * i) j n w))) N M') : AW mX9_slip 8 0 0 N 0 [(0, .ref 2), (1, .int (nI i)), (2, .int (nI j)), (3, .int w)] [] M Q := by
  have hn := hB.1
  have hn6 := hB.2.1
  refine a_aload_n dX9_slip_0 rfl ?_
  refine a_iload_n dX9_slip_1 rfl ?_
  refine a_callV (mc1 := 0) (ms1 := 0) (As := [_]) kpX9_pupilAt kmX9_158 (by decide) rfl (Nat.le_of_ble_eq_true rfl) rfl (by decide) rfl (by decide) (hlt hN (by decide)) (Nat.le_of_ble_eq_true rfl) (Nat.le_of_ble_eq_true rfl) (Nat.le_of_ble_eq_true rfl) dX9_slip_2 (w_X9_pupilAt hi h0 hN hs ?_)
  refine a_astore dX9_slip_5 (by decide) ?_
  refine a_aload dX9_slip_7 rfl ?_
  refine a_ifnull dX9_slip_9 ?_
  refine a_aload_n dX9_slip_12 rfl ?_
  refine a_getA (z := 5) kfX9_19 rfl rfl (st_2_1 hs) (by decide) (hlt hN (by decide)) dX9_slip_13 ?_
  refine a_iload_n dX9_slip_16 rfl ?_
  refine a_callV (mc1 := 0) (ms1 := 0) (As := [_]) kpX4_isWanted kmX9_113 (by decide) rfl (Nat.le_of_ble_eq_true rfl) rfl (by decide) rfl (by decide) (hlt hN (by decide)) (Nat.le_of_ble_eq_true rfl) (Nat.le_of_ble_eq_true rfl) (Nat.le_of_ble_eq_true rfl) dX9_slip_17 (w_X4_isWanted hN hs ?_)
  refine a_if_eq (tgt := 32) dX9_slip_20 (by decide) (fun c_20 => absurd c_20 (fun z => absurd hw (bI_z.mp z))) (fun c_20 => ?_)
  refine a_iload_n dX9_slip_23 rfl ?_
  refine a_if_lt (tgt := 32) dX9_slip_24 (by decide) (fun c_24 => absurd c_24 (by rcases hww with rfl | rfl <;> decide)) (fun c_24 => ?_)
  refine a_iload_n dX9_slip_27 rfl ?_
  refine a_iconst (v := 1) dX9_slip_28 (by decide) ?_
  refine a_icmp_le (tgt := 34) dX9_slip_29 (by decide) (fun c_29 => ?_) (fun c_29 => absurd (by rcases hww with rfl | rfl <;> decide) c_29)
  refine a_aload_n dX9_slip_34 rfl ?_
  refine a_getA (z := 62) kfX9_53 rfl rfl (st_2_6 hs) (by decide) (hlt hN (by decide)) dX9_slip_35 ?_
  refine a_aload_n dX9_slip_38 rfl ?_
  refine a_iconst (v := 0) dX9_slip_39 (by decide) ?_
  refine a_callV (mc1 := 0) (ms1 := 0) (As := [_]) kpX9_sheetAt kmX9_69 (by decide) rfl (Nat.le_of_ble_eq_true rfl) rfl (by decide) rfl (by decide) (hlt hN (by decide)) (Nat.le_of_ble_eq_true rfl) (Nat.le_of_ble_eq_true rfl) (Nat.le_of_ble_eq_true rfl) dX9_slip_40 (w_X9_sheetAt (i := 0) (by decide) hN hs ?_)
  refine a_aload dX9_slip_43 rfl ?_
  refine a_callV (mc1 := 0) (ms1 := 0) (As := [_, _]) kpX3_open kmX9_161 (by decide) rfl (Nat.le_of_ble_eq_true rfl) rfl (by decide) rfl (by decide) (hlt hN (by decide)) (Nat.le_of_ble_eq_true rfl) (Nat.le_of_ble_eq_true rfl) (Nat.le_of_ble_eq_true rfl) dX9_slip_45 (w_X3_open hi hB hN hs ?_)
  have hs1 : Str (opM M i n).2.2.1 := by rw [opM_sx.2.2]; exact hs
  have hs := hs1
  refine a_aload_n dX9_slip_48 rfl ?_
  refine a_getA (z := 62) kfX9_53 rfl rfl (st_2_6 hs) (by decide) (hlt hN (by decide)) dX9_slip_49 ?_
  refine a_aload dX9_slip_52 rfl ?_
  refine a_iload_n dX9_slip_54 rfl ?_
  refine a_callV (mc1 := 0) (ms1 := 0) (As := [_, _]) kpX3_judge kmX9_165 (by decide) rfl (Nat.le_of_ble_eq_true rfl) rfl (by decide) rfl (by decide) (hlt hN (by decide)) (Nat.le_of_ble_eq_true rfl) (Nat.le_of_ble_eq_true rfl) (Nat.le_of_ble_eq_true rfl) dX9_slip_55 (w_X3_judge (M := opM M i n) hi hj (hB.sx opM_sx) hN (by exact hs) ?_)
  intro M2 jw hsl
  have hs2 : Str M2.2.2.1 := by rw [jw.2.2]; exact hs
  have hs := hs2
  refine a_iconst (v := 4) dX9_slip_58 (by decide) ?_
  refine a_icmp_eq (tgt := 64) dX9_slip_59 (by decide) (fun c_59 => ?_) (fun c_59 => ?_)
  · refine a_iload_n dX9_slip_64 rfl ?_
    refine a_if_ne (tgt := 78) dX9_slip_65 (by decide) (fun c_65 => ?_) (fun c_65 => ?_)
    · refine a_aload_n dX9_slip_78 rfl ?_
      refine a_getA (z := 62) kfX9_53 rfl rfl (st_2_6 hs) (by decide) (hlt hN (by decide)) dX9_slip_79 ?_
      refine a_callV (mc1 := 0) (ms1 := 0) (As := []) kpX3_slipMade kmX9_177 (by decide) rfl (Nat.le_of_ble_eq_true rfl) rfl (by decide) rfl (by decide) (hlt hN (by decide)) (Nat.le_of_ble_eq_true rfl) (Nat.le_of_ble_eq_true rfl) (Nat.le_of_ble_eq_true rfl) dX9_slip_82 (w_X3_slipMade hN hs ?_)
      refine a_iret dX9_slip_85 rfl (ret_i (slF_2 (M2 := M2) (jdK_r c_59) c_59 (by first | rw [if_pos c_65] | rw [if_neg c_65]) (fun r hr => hsl r hr c_59)) (h _ jw))
    · refine a_aload_n dX9_slip_68 rfl ?_
      refine a_getA (z := 62) kfX9_53 rfl rfl (st_2_6 hs) (by decide) (hlt hN (by decide)) dX9_slip_69 ?_
      refine a_callV (mc1 := 0) (ms1 := 0) (As := []) kpX3_slipPlace kmX9_174 (by decide) rfl (Nat.le_of_ble_eq_true rfl) rfl (by decide) rfl (by decide) (hlt hN (by decide)) (Nat.le_of_ble_eq_true rfl) (Nat.le_of_ble_eq_true rfl) (Nat.le_of_ble_eq_true rfl) dX9_slip_72 (w_X3_slipPlace hN hs ?_)
      refine a_goto (tgt := 85) dX9_slip_75 (by decide) ?_
      refine a_iret dX9_slip_85 rfl (ret_i (slF_2 (M2 := M2) (jdK_r c_59) c_59 (by first | rw [if_pos c_65] | rw [if_neg c_65]) (fun r hr => hsl r hr c_59)) (h _ jw))
  · refine a_iconst (v := (-1)) dX9_slip_62 (by decide) ?_
    refine a_iret dX9_slip_63 rfl (ret_i (slF_1 c_59) (h _ jw))

theorem w_X9_slip_o1 {M : Mem} {N : Nat} {Q : Option Value → Nat → Mem → Prop} {s c w : Int32} (hc : ¬ (1 ≤ s.toInt ∧ s.toInt < 6))  (hN : 94 ≤ N) (hs : Str M.2.2.1) (h : Q (some (.int (-1))) N (M)) : AW mX9_slip 8 0 0 N 0 [(0, .ref 2), (1, .int s), (2, .int c), (3, .int w)] [] M Q := by
  refine a_aload_n dX9_slip_0 rfl ?_
  refine a_iload_n dX9_slip_1 rfl ?_
  refine a_callV (mc1 := 0) (ms1 := 0) (As := [_]) kpX9_pupilAt kmX9_158 (by decide) rfl (Nat.le_of_ble_eq_true rfl) rfl (by decide) rfl (by decide) (hlt hN (by decide)) (Nat.le_of_ble_eq_true rfl) (Nat.le_of_ble_eq_true rfl) (Nat.le_of_ble_eq_true rfl) dX9_slip_2 (w_X9_pupilAt_out hc hN hs ?_)
  refine a_astoreN dX9_slip_5 (by decide) ?_
  refine a_aloadN dX9_slip_7 rfl ?_
  refine a_ifnullN (tgt := 32) dX9_slip_9 (by decide) ?_
  refine a_iconst (v := (-1)) dX9_slip_32 (by decide) ?_
  refine a_iret dX9_slip_33 rfl h

theorem w01 {w : Int32} (h0 : ¬ w < 0) (h1 : w ≤ 1) : w = 0 ∨ w = 1 := by
  rw [Int32.lt_iff_toInt_lt, tI_0] at h0
  rw [Int32.le_iff_toInt_le, tI_1] at h1
  rw [← Int32.toInt_inj, ← Int32.toInt_inj, tI_0, tI_1]
  omega
theorem w_X9_slip_o2 {M : Mem} {N : Nat} {Q : Option Value → Nat → Mem → Prop} {i : Nat} {c w : Int32} (hi : i < 6) (h0 : 0 < i) (hw : ¬ (hb (rJ M 5 3) c = true ∧ (w = 0 ∨ w = 1)))  (hN : 94 ≤ N) (hs : Str M.2.2.1) (h : Q (some (.int (-1))) N (M)) : AW mX9_slip 8 0 0 N 0 [(0, .ref 2), (1, .int (nI i)), (2, .int c), (3, .int w)] [] M Q := by
  refine a_aload_n dX9_slip_0 rfl ?_
  refine a_iload_n dX9_slip_1 rfl ?_
  refine a_callV (mc1 := 0) (ms1 := 0) (As := [_]) kpX9_pupilAt kmX9_158 (by decide) rfl (Nat.le_of_ble_eq_true rfl) rfl (by decide) rfl (by decide) (hlt hN (by decide)) (Nat.le_of_ble_eq_true rfl) (Nat.le_of_ble_eq_true rfl) (Nat.le_of_ble_eq_true rfl) dX9_slip_2 (w_X9_pupilAt hi h0 hN hs ?_)
  refine a_astore dX9_slip_5 (by decide) ?_
  refine a_aload dX9_slip_7 rfl ?_
  refine a_ifnull dX9_slip_9 ?_
  refine a_aload_n dX9_slip_12 rfl ?_
  refine a_getA (z := 5) kfX9_19 rfl rfl (st_2_1 hs) (by decide) (hlt hN (by decide)) dX9_slip_13 ?_
  refine a_iload_n dX9_slip_16 rfl ?_
  refine a_callV (mc1 := 0) (ms1 := 0) (As := [_]) kpX4_isWanted kmX9_113 (by decide) rfl (Nat.le_of_ble_eq_true rfl) rfl (by decide) rfl (by decide) (hlt hN (by decide)) (Nat.le_of_ble_eq_true rfl) (Nat.le_of_ble_eq_true rfl) (Nat.le_of_ble_eq_true rfl) dX9_slip_17 (w_X4_isWanted hN hs ?_)
  refine a_if_eq (tgt := 32) dX9_slip_20 (by decide) (fun c_20 => ?_) (fun c_20 => ?_)
  · refine a_iconst (v := (-1)) dX9_slip_32 (by decide) ?_
    refine a_iret dX9_slip_33 rfl h
  · refine a_iload_n dX9_slip_23 rfl ?_
    refine a_if_lt (tgt := 32) dX9_slip_24 (by decide) (fun c_24 => ?_) (fun c_24 => ?_)
    · refine a_iconst (v := (-1)) dX9_slip_32 (by decide) ?_
      refine a_iret dX9_slip_33 rfl h
    · refine a_iload_n dX9_slip_27 rfl ?_
      refine a_iconst (v := 1) dX9_slip_28 (by decide) ?_
      refine a_icmp_le (tgt := 34) dX9_slip_29 (by decide) (fun c_29 => absurd c_29 (fun z => hw ⟨bI_nz.mp c_20, w01 c_24 z⟩)) (fun c_29 => ?_)
      refine a_iconst (v := (-1)) dX9_slip_32 (by decide) ?_
      refine a_iret dX9_slip_33 rfl h

