def wsF (W : Nat → Int32) : Nat → Int32
  | 0 => 0
  | k + 1 => wsF W k + W k
theorem l_X4_worthOfAll {M : Mem} {N : Nat} {Q : Option Value → Nat → Mem → Prop} (hN : 94 ≤ N) (hs : Str M.2.2.1) (h : Q (some (.int (wsF (rI M 7) 64))) N M) : ∀ (r k : Nat), k + r = 64 → AW mX4_worthOfAll 2 0 0 N 4 [(0, .ref 5), (1, .int (wsF (rI M 7) k)), (2, .int (nI k))] [] M Q := by
  intro r
  induction r with
  | zero =>
    intro k hk
    obtain rfl : k = 64 := by omega
    refine a_iload_n dX4_worthOfAll_4 rfl ?_
    refine a_bipush (v := 64) dX4_worthOfAll_5 (by decide) ?_
    refine a_icmp_ge (tgt := 24) dX4_worthOfAll_7 (by decide) (fun c_7 => ?_) (fun c_7 => absurd (nI_le (a := 64) (b := 64) (by omega) (by decide)) c_7)
    refine a_iload_n dX4_worthOfAll_24 rfl ?_
    refine a_iret dX4_worthOfAll_25 rfl h
  | succ r ih =>
    intro k hk
    refine a_iload_n dX4_worthOfAll_4 rfl ?_
    refine a_bipush (v := 64) dX4_worthOfAll_5 (by decide) ?_
    refine a_icmp_ge (tgt := 24) dX4_worthOfAll_7 (by decide) (fun c_7 => absurd c_7 (nI_ge (b := 64) (by omega) (by decide))) (fun c_7 => ?_)
    refine a_iload_n dX4_worthOfAll_10 rfl ?_
    refine a_aload_n dX4_worthOfAll_11 rfl ?_
    refine a_iload_n dX4_worthOfAll_12 rfl ?_
    refine a_callV (mc1 := 0) (ms1 := 0) (As := [_]) kpX4_worth kmX4_43 (by decide) rfl (Nat.le_of_ble_eq_true rfl) rfl (by decide) rfl (by decide) (hlt hN (by decide)) (Nat.le_of_ble_eq_true rfl) (Nat.le_of_ble_eq_true rfl) (Nat.le_of_ble_eq_true rfl) dX4_worthOfAll_13 (w_X4_worth (show k < 64 by omega) hN hs ?_)
    refine a_iadd dX4_worthOfAll_16 ?_
    refine a_istore_n dX4_worthOfAll_17 (by decide) ?_
    refine a_iinc dX4_worthOfAll_18 rfl rfl (by decide) ?_
    refine a_goto (tgt := 4) dX4_worthOfAll_21 (by decide) ?_
    rw [show nI k + Int32.ofInt 1 = nI (k + 1) from nI_1 k]
    refine AW.sub (L' := [(0, .ref 5), (1, .int (wsF (rI M 7) (k + 1))), (2, .int (nI (k + 1)))]) rfl ?_
    exact ih (k + 1) (by omega)
theorem w_X4_worthOfAll {M : Mem} {N : Nat} {Q : Option Value → Nat → Mem → Prop}  (hN : 94 ≤ N) (hs : Str M.2.2.1) (h : Q (some (.int (wsF (rI M 7) 64))) N (M)) : AW mX4_worthOfAll 2 0 0 N 0 [(0, .ref 5)] [] M Q := by
  refine a_iconst (v := 0) dX4_worthOfAll_0 (by decide) ?_
  refine a_istore_n dX4_worthOfAll_1 (by decide) ?_
  refine a_iconst (v := 0) dX4_worthOfAll_2 (by decide) ?_
  refine a_istore_n dX4_worthOfAll_3 (by decide) ?_
  refine AW.sub (L' := [(0, .ref 5), (1, .int 0), (2, .int (nI 0))]) rfl ?_
  exact l_X4_worthOfAll hN hs h 64 0 (by omega)

theorem w_X7_putFormula {M : Mem} {N : Nat} {Q : Option Value → Nat → Mem → Prop} {q j f : Nat} (hq : ShR q) (hj : j < 64) (hF : FRW M N f) (hu : rI M (q + 1) 0 = -1)  (hN : 94 ≤ N) (hs : Str M.2.2.1) (h : Q (none) N (putS M q j 2 0 (some f) (nsF (csF M (q + 1) f) (zF M f)).1)) : AW mX7_putFormula 3 0 0 N 0 [(0, .ref q), (1, .int (nI j)), (2, .ref f)] [] M Q := by
  refine a_aload_n dX7_putFormula_0 rfl ?_
  refine a_iload_n dX7_putFormula_1 rfl ?_
  refine a_iconst (v := 2) dX7_putFormula_2 (by decide) ?_
  refine a_iconst (v := 0) dX7_putFormula_3 (by decide) ?_
  refine a_aload_n dX7_putFormula_4 rfl ?_
  refine a_aload_n dX7_putFormula_5 rfl ?_
  refine a_aload_n dX7_putFormula_6 rfl ?_
  refine a_getA (z := (q + 1)) kfX7_12 (sh_k hq) rfl (sh_0 hs hq) (sh_two hq) (sh_lt hq hN) dX7_putFormula_7 ?_
  refine a_callV (mc1 := 0) (ms1 := 0) (As := [_]) kpX2_needs kmX7_39 (by decide) rfl (Nat.le_of_ble_eq_true rfl) (fo_k hF.1) (by decide) rfl (fo_two hF.1) (fo_lt hF.1) (Nat.le_of_ble_eq_true rfl) (Nat.le_of_ble_eq_true rfl) (Nat.le_of_ble_eq_true rfl) dX7_putFormula_10 (w_X2_needsW hF (ckN hu) (sh_ch hq) hN ?_)
  refine a_callV (mc1 := 0) (ms1 := 0) (As := [_, _, _, _, _]) kpX7_put kmX7_35 (by decide) rfl (Nat.le_of_ble_eq_true rfl) (sh_k hq) (by decide) rfl (sh_two hq) (sh_lt hq hN) (Nat.le_of_ble_eq_true rfl) (Nat.le_of_ble_eq_true rfl) (Nat.le_of_ble_eq_true rfl) dX7_putFormula_13 (w_X7_put_f hq hj hF.1 hN hs ?_)
  refine a_vret dX7_putFormula_16 rfl h

theorem w_X9_count_w {M : Mem} {N : Nat} {Q : Option Value → Nat → Mem → Prop} {k : Nat} (hk : k < 64)  (hN : 94 ≤ N) (hs : Str M.2.2.1) (h : Q (some (.int (rI M 7 k))) N (M)) : AW mX9_count 3 0 0 N 0 [(0, .ref 2), (1, .int (nI (100 + k)))] [] M Q := by
  refine a_iload_n dX9_count_0 rfl ?_
  refine a_bipush (v := 100) dX9_count_1 (by decide) ?_
  refine a_icmp_lt (tgt := 25) dX9_count_3 (by decide) (fun c_3 => absurd c_3 (nI_nlt (b := 100) (by omega) (by omega))) (fun c_3 => ?_)
  refine a_iload_n dX9_count_6 rfl ?_
  refine a_sipush (v := 164) dX9_count_7 (by decide) ?_
  refine a_icmp_ge (tgt := 25) dX9_count_10 (by decide) (fun c_10 => absurd c_10 (nI_ge (b := 164) (by omega) (by decide))) (fun c_10 => ?_)
  refine a_aload_n dX9_count_13 rfl ?_
  refine a_getA (z := 5) kfX9_19 rfl rfl (st_2_1 hs) (by decide) (hlt hN (by decide)) dX9_count_14 ?_
  refine a_iload_n dX9_count_17 rfl ?_
  refine a_bipush (v := 100) dX9_count_18 (by decide) ?_
  refine a_isub dX9_count_20 ?_
  rw [show nI (100 + k) - 100 = nI k from (pk_sub (a := 100 + k) (b := 100) (by omega)).trans (by rw [Nat.add_sub_cancel_left])]
  refine a_callV (mc1 := 0) (ms1 := 0) (As := [_]) kpX4_worth kmX9_168 (by decide) rfl (Nat.le_of_ble_eq_true rfl) rfl (by decide) rfl (by decide) (hlt hN (by decide)) (Nat.le_of_ble_eq_true rfl) (Nat.le_of_ble_eq_true rfl) (Nat.le_of_ble_eq_true rfl) dX9_count_21 (w_X4_worth hk hN hs ?_)
  refine a_iret dX9_count_24 rfl h

theorem w_X9_count_0 {M : Mem} {N : Nat} {Q : Option Value → Nat → Mem → Prop}  (hN : 94 ≤ N) (hs : Str M.2.2.1) (h : Q (some (.int (bcn (rJ M 5 2)))) N (M)) : AW mX9_count 3 0 0 N 0 [(0, .ref 2), (1, .int 0)] [] M Q := by
  refine a_iload_n dX9_count_0 rfl ?_
  refine a_bipush (v := 100) dX9_count_1 (by decide) ?_
  refine a_icmp_lt (tgt := 25) dX9_count_3 (by decide) (fun c_3 => ?_) (fun c_3 => absurd (by decide) c_3)
  refine a_iload_n dX9_count_25 rfl ?_
  skip
  · refine a_tableIn (off := 34) (tgt := 60) dX9_count_26 (by decide) (by decide) (by decide) (by decide) ?_
    refine a_aload_n dX9_count_60 rfl ?_
    refine a_getA (z := 5) kfX9_19 rfl rfl (st_2_1 hs) (by decide) (hlt hN (by decide)) dX9_count_61 ?_
    refine a_callV (mc1 := 0) (ms1 := 0) (As := []) kpX4_countInputs kmX9_116 (by decide) rfl (Nat.le_of_ble_eq_true rfl) rfl (by decide) rfl (by decide) (hlt hN (by decide)) (Nat.le_of_ble_eq_true rfl) (Nat.le_of_ble_eq_true rfl) (Nat.le_of_ble_eq_true rfl) dX9_count_64 (w_X4_countInputs hN hs ?_)
    refine a_iret dX9_count_67 rfl h

theorem w_X9_count_1 {M : Mem} {N : Nat} {Q : Option Value → Nat → Mem → Prop}  (hN : 94 ≤ N) (hs : Str M.2.2.1) (h : Q (some (.int (bcn (rJ M 5 3)))) N (M)) : AW mX9_count 3 0 0 N 0 [(0, .ref 2), (1, .int 1)] [] M Q := by
  refine a_iload_n dX9_count_0 rfl ?_
  refine a_bipush (v := 100) dX9_count_1 (by decide) ?_
  refine a_icmp_lt (tgt := 25) dX9_count_3 (by decide) (fun c_3 => ?_) (fun c_3 => absurd (by decide) c_3)
  refine a_iload_n dX9_count_25 rfl ?_
  skip
  · refine a_tableIn (off := 42) (tgt := 68) dX9_count_26 (by decide) (by decide) (by decide) (by decide) ?_
    refine a_aload_n dX9_count_68 rfl ?_
    refine a_getA (z := 5) kfX9_19 rfl rfl (st_2_1 hs) (by decide) (hlt hN (by decide)) dX9_count_69 ?_
    refine a_callV (mc1 := 0) (ms1 := 0) (As := []) kpX4_countWanted kmX9_122 (by decide) rfl (Nat.le_of_ble_eq_true rfl) rfl (by decide) rfl (by decide) (hlt hN (by decide)) (Nat.le_of_ble_eq_true rfl) (Nat.le_of_ble_eq_true rfl) (Nat.le_of_ble_eq_true rfl) dX9_count_72 (w_X4_countWanted hN hs ?_)
    refine a_iret dX9_count_75 rfl h

theorem w_X9_count_2 {M : Mem} {N : Nat} {Q : Option Value → Nat → Mem → Prop}  (hN : 94 ≤ N) (hs : Str M.2.2.1) (h : Q (some (.int (rI M 5 4))) N (M)) : AW mX9_count 3 0 0 N 0 [(0, .ref 2), (1, .int 2)] [] M Q := by
  refine a_iload_n dX9_count_0 rfl ?_
  refine a_bipush (v := 100) dX9_count_1 (by decide) ?_
  refine a_icmp_lt (tgt := 25) dX9_count_3 (by decide) (fun c_3 => ?_) (fun c_3 => absurd (by decide) c_3)
  refine a_iload_n dX9_count_25 rfl ?_
  skip
  · refine a_tableIn (off := 50) (tgt := 76) dX9_count_26 (by decide) (by decide) (by decide) (by decide) ?_
    refine a_aload_n dX9_count_76 rfl ?_
    refine a_getA (z := 5) kfX9_19 rfl rfl (st_2_1 hs) (by decide) (hlt hN (by decide)) dX9_count_77 ?_
    refine a_callV (mc1 := 0) (ms1 := 0) (As := []) kpX4_countWorlds kmX9_128 (by decide) rfl (Nat.le_of_ble_eq_true rfl) rfl (by decide) rfl (by decide) (hlt hN (by decide)) (Nat.le_of_ble_eq_true rfl) (Nat.le_of_ble_eq_true rfl) (Nat.le_of_ble_eq_true rfl) dX9_count_80 (w_X4_countWorlds hN hs ?_)
    refine a_iret dX9_count_83 rfl h

theorem w_X9_count_3 {M : Mem} {N : Nat} {Q : Option Value → Nat → Mem → Prop}  (hN : 94 ≤ N) (hs : Str M.2.2.1) (h : Q (some (.int (wsF (rI M 7) 64))) N (M)) : AW mX9_count 3 0 0 N 0 [(0, .ref 2), (1, .int 3)] [] M Q := by
  refine a_iload_n dX9_count_0 rfl ?_
  refine a_bipush (v := 100) dX9_count_1 (by decide) ?_
  refine a_icmp_lt (tgt := 25) dX9_count_3 (by decide) (fun c_3 => ?_) (fun c_3 => absurd (by decide) c_3)
  refine a_iload_n dX9_count_25 rfl ?_
  skip
  · refine a_tableIn (off := 58) (tgt := 84) dX9_count_26 (by decide) (by decide) (by decide) (by decide) ?_
    refine a_aload_n dX9_count_84 rfl ?_
    refine a_getA (z := 5) kfX9_19 rfl rfl (st_2_1 hs) (by decide) (hlt hN (by decide)) dX9_count_85 ?_
    refine a_callV (mc1 := 0) (ms1 := 0) (As := []) kpX4_worthOfAll kmX9_201 (by decide) rfl (Nat.le_of_ble_eq_true rfl) rfl (by decide) rfl (by decide) (hlt hN (by decide)) (Nat.le_of_ble_eq_true rfl) (Nat.le_of_ble_eq_true rfl) (Nat.le_of_ble_eq_true rfl) dX9_count_88 (w_X4_worthOfAll hN hs ?_)
    refine a_iret dX9_count_91 rfl h

theorem w_X9_count_4 {M : Mem} {N : Nat} {Q : Option Value → Nat → Mem → Prop}  (hN : 94 ≤ N) (hs : Str M.2.2.1) (h : Q (some (.int (rI M 3 1))) N (M)) : AW mX9_count 3 0 0 N 0 [(0, .ref 2), (1, .int 4)] [] M Q := by
  refine a_iload_n dX9_count_0 rfl ?_
  refine a_bipush (v := 100) dX9_count_1 (by decide) ?_
  refine a_icmp_lt (tgt := 25) dX9_count_3 (by decide) (fun c_3 => ?_) (fun c_3 => absurd (by decide) c_3)
  refine a_iload_n dX9_count_25 rfl ?_
  skip
  · refine a_tableIn (off := 66) (tgt := 92) dX9_count_26 (by decide) (by decide) (by decide) (by decide) ?_
    refine a_aload_n dX9_count_92 rfl ?_
    refine a_getA (z := 3) kfX9_10 rfl rfl (st_2_0 hs) (by decide) (hlt hN (by decide)) dX9_count_93 ?_
    refine a_callV (mc1 := 0) (ms1 := 0) (As := []) kpX8_length kmX9_65 (by decide) rfl (Nat.le_of_ble_eq_true rfl) rfl (by decide) rfl (by decide) (hlt hN (by decide)) (Nat.le_of_ble_eq_true rfl) (Nat.le_of_ble_eq_true rfl) (Nat.le_of_ble_eq_true rfl) dX9_count_96 (w_X8_length hN hs ?_)
    refine a_iret dX9_count_99 rfl h

theorem cno {w : Int32} (h1 : ¬ (100 ≤ w.toInt ∧ w.toInt < 164)) (h : ¬ w < 100) : (164 : Int32) ≤ w := by
  rw [Int32.lt_iff_toInt_lt, tI_100] at h
  rw [Int32.le_iff_toInt_le, tI_164]
  omega
theorem w_X9_count_o {M : Mem} {N : Nat} {Q : Option Value → Nat → Mem → Prop} {w : Int32} (h1 : ¬ (100 ≤ w.toInt ∧ w.toInt < 164)) (h2 : w.toInt < 0 ∨ 4 < w.toInt)  (hN : 94 ≤ N) (hs : Str M.2.2.1) (h : Q (some (.int (-1))) N (M)) : AW mX9_count 3 0 0 N 0 [(0, .ref 2), (1, .int w)] [] M Q := by
  refine a_iload_n dX9_count_0 rfl ?_
  refine a_bipush (v := 100) dX9_count_1 (by decide) ?_
  refine a_icmp_lt (tgt := 25) dX9_count_3 (by decide) (fun c_3 => ?_) (fun c_3 => ?_)
  · refine a_iload_n dX9_count_25 rfl ?_
    skip
    · refine a_tableOut (tgt := 100) dX9_count_26 h2 (by decide) ?_
      refine a_iconst (v := (-1)) dX9_count_100 (by decide) ?_
      refine a_iret dX9_count_101 rfl h
  · refine a_iload_n dX9_count_6 rfl ?_
    refine a_sipush (v := 164) dX9_count_7 (by decide) ?_
    refine a_icmp_ge (tgt := 25) dX9_count_10 (by decide) (fun c_10 => ?_) (fun c_10 => absurd (cno h1 c_3) c_10)
    refine a_iload_n dX9_count_25 rfl ?_
    skip
    · refine a_tableOut (tgt := 100) dX9_count_26 h2 (by decide) ?_
      refine a_iconst (v := (-1)) dX9_count_100 (by decide) ?_
      refine a_iret dX9_count_101 rfl h

/-- the byte at a place counted from 10 -/
def lkB (M : Mem) (f : Nat) (w : Int32) : Int32 := if (w - 10).toNatClampNeg < lenF M f then rI M (f + 1) (w - 10).toNatClampNeg else -1
def lkF (M : Mem) (i j : Nat) (w : Int32) : Int32 := if w = 0 then rI M (9 + 6 * i + 2) j else if w = 2 then bcn (cmR M (9 + 6 * i) (nI j) 64 0) else match rA M (9 + 6 * i + 4) j with
  | none => if w = 1 then rI M (9 + 6 * i + 3) j else -1
  | some f => if w = 1 then nI (lenF M f) else if w < 10 then -1 else lkB M f w
theorem lk10 {w : Int32} (h : ¬ w < 10) : ∃ k, k < 2147483648 ∧ w - 10 = nI k := by
  have h0 : ¬ w < 0 := fun z => h (by rw [Int32.lt_iff_toInt_lt, tI_0] at z; rw [Int32.lt_iff_toInt_lt, tI_10]; omega)
  obtain ⟨j, hj, rfl⟩ := nI_of h0
  rw [Int32.lt_iff_toInt_lt, tI_10, nIt (by omega)] at h
  exact ⟨j - 10, by omega, pk_sub (a := j) (b := 10) (by omega)⟩
theorem w_X2_byteAtL {M : Mem} {N : Nat} {Q : Option Value → Nat → Mem → Prop} {f : Nat} {w : Int32} (hF : FRW M N f) (hw : ¬ w < 10) (h : Q (some (.int (lkB M f w))) N M) : AW mX2_byteAt 0 0 0 N 0 [(0, .ref f), (1, .int (w - 10))] [] M Q := by
  obtain ⟨k, hk, e⟩ := lk10 hw
  unfold lkB at h
  rw [e, nI_clamp (by omega)] at h
  rw [e]
  by_cases c : k < lenF M f
  · rw [if_pos c] at h
    exact w_X2_byteAt hF.1 (lenF_of hF) c h
  · rw [if_neg c] at h
    exact w_X2_byteAt_out hF.1 (lenF_of hF) (by omega) hk h
theorem w_X9_look {M : Mem} {N : Nat} {Q : Option Value → Nat → Mem → Prop} {i j n : Nat} (hi : i < 6) (hj : j < 64) (hB : Bas M N n) {w : Int32}  (hN : 94 ≤ N) (hs : Str M.2.2.1) (h : Q (some (.int (lkF M i j w))) N (M)) : AW mX9_look 3 0 0 N 0 [(0, .ref 2), (1, .int (nI i)), (2, .int (nI j)), (3, .int w)] [] M Q := by
  refine a_aload_n dX9_look_0 rfl ?_
  refine a_iload_n dX9_look_1 rfl ?_
  refine a_callV (mc1 := 0) (ms1 := 0) (As := [_]) kpX9_sheetAt kmX9_69 (by decide) rfl (Nat.le_of_ble_eq_true rfl) rfl (by decide) rfl (by decide) (hlt hN (by decide)) (Nat.le_of_ble_eq_true rfl) (Nat.le_of_ble_eq_true rfl) (Nat.le_of_ble_eq_true rfl) dX9_look_2 (w_X9_sheetAt hi hN hs ?_)
  refine a_astore dX9_look_5 (by decide) ?_
  refine a_aload dX9_look_7 rfl ?_
  refine a_ifnull dX9_look_9 ?_
  refine a_iload_n dX9_look_12 rfl ?_
  refine a_callS (mc1 := 0) (ms1 := 0) (As := [_]) kpX9_isCell kmX9_73 (by decide) rfl (Nat.le_of_ble_eq_true rfl) (Nat.le_of_ble_eq_true rfl) (Nat.le_of_ble_eq_true rfl) (Nat.le_of_ble_eq_true rfl) dX9_look_13 (w_X9_isCell ?_)
  refine a_if_ne (tgt := 21) dX9_look_16 (by decide) (fun c_16 => ?_) (fun c_16 => absurd c_16 (cel_no hj))
  refine a_iload_n dX9_look_21 rfl ?_
  refine a_if_ne (tgt := 32) dX9_look_22 (by decide) (fun c_22 => ?_) (fun c_22 => ?_)
  · refine a_iload_n dX9_look_32 rfl ?_
    refine a_iconst (v := 2) dX9_look_33 (by decide) ?_
    refine a_icmp_ne (tgt := 45) dX9_look_34 (by decide) (fun c_34 => ?_) (fun c_34 => ?_)
    · refine a_aload dX9_look_45 rfl ?_
      refine a_iload_n dX9_look_47 rfl ?_
      refine a_callV (mc1 := 0) (ms1 := 0) (As := [_]) kpX7_formulaAt kmX9_190 (by decide) rfl (Nat.le_of_ble_eq_true rfl) (sh_k (sheetR hi)) (by decide) rfl (sh_two (sheetR hi)) (sh_lt (sheetR hi) hN) (Nat.le_of_ble_eq_true rfl) (Nat.le_of_ble_eq_true rfl) (Nat.le_of_ble_eq_true rfl) dX9_look_48 (w_X7_formulaAt (sheetR hi) hj hN hs ?_)
      refine a_rv (fun ho_48 => ?_) (fun f_48 ho_48 => ?_)
      · refine a_astoreN dX9_look_51 (by decide) ?_
        refine a_iload_n dX9_look_53 rfl ?_
        refine a_iconst (v := 1) dX9_look_54 (by decide) ?_
        refine a_icmp_ne (tgt := 78) dX9_look_55 (by decide) (fun c_55 => ?_) (fun c_55 => ?_)
        · refine a_aloadN dX9_look_78 rfl ?_
          refine a_ifnullN (tgt := 101) dX9_look_80 (by decide) ?_
          refine a_iconst (v := (-1)) dX9_look_101 (by decide) ?_
          refine a_iret dX9_look_102 rfl (ret_i (by unfold lkF; first | (rw [if_pos c_22]) | (rw [if_neg c_22, if_pos c_34]) | (rw [if_neg c_22, if_neg c_34, ho_48]; show (if _ then _ else _) = _; first | (rw [if_pos c_55]) | (rw [if_neg c_55]; first | done | rw [if_pos c_86] | rw [if_neg c_86]))) h)
        · refine a_aloadN dX9_look_58 rfl ?_
          refine a_ifnullN (tgt := 71) dX9_look_60 (by decide) ?_
          refine a_aload dX9_look_71 rfl ?_
          refine a_iload_n dX9_look_73 rfl ?_
          refine a_callV (mc1 := 0) (ms1 := 0) (As := [_]) kpX7_numberAt kmX9_195 (by decide) rfl (Nat.le_of_ble_eq_true rfl) (sh_k (sheetR hi)) (by decide) rfl (sh_two (sheetR hi)) (sh_lt (sheetR hi) hN) (Nat.le_of_ble_eq_true rfl) (Nat.le_of_ble_eq_true rfl) (Nat.le_of_ble_eq_true rfl) dX9_look_74 (w_X7_numberAt (sheetR hi) hj hN hs ?_)
          refine a_iret dX9_look_77 rfl (ret_i (by unfold lkF; first | (rw [if_pos c_22]) | (rw [if_neg c_22, if_pos c_34]) | (rw [if_neg c_22, if_neg c_34, ho_48]; show (if _ then _ else _) = _; first | (rw [if_pos c_55]) | (rw [if_neg c_55]; first | done | rw [if_pos c_86] | rw [if_neg c_86]))) h)
      · have hF : FRW M N f_48 := hB.fr hi hj ho_48
        refine a_astore dX9_look_51 (by decide) ?_
        refine a_iload_n dX9_look_53 rfl ?_
        refine a_iconst (v := 1) dX9_look_54 (by decide) ?_
        refine a_icmp_ne (tgt := 78) dX9_look_55 (by decide) (fun c_55 => ?_) (fun c_55 => ?_)
        · refine a_aload dX9_look_78 rfl ?_
          refine a_ifnull dX9_look_80 ?_
          refine a_iload_n dX9_look_83 rfl ?_
          refine a_bipush (v := 10) dX9_look_84 (by decide) ?_
          refine a_icmp_lt (tgt := 101) dX9_look_86 (by decide) (fun c_86 => ?_) (fun c_86 => ?_)
          · refine a_iconst (v := (-1)) dX9_look_101 (by decide) ?_
            refine a_iret dX9_look_102 rfl (ret_i (by unfold lkF; first | (rw [if_pos c_22]) | (rw [if_neg c_22, if_pos c_34]) | (rw [if_neg c_22, if_neg c_34, ho_48]; show (if _ then _ else _) = _; first | (rw [if_pos c_55]) | (rw [if_neg c_55]; first | done | rw [if_pos c_86] | rw [if_neg c_86]))) h)
          · refine a_aload dX9_look_89 rfl ?_
            refine a_iload_n dX9_look_91 rfl ?_
            refine a_bipush (v := 10) dX9_look_92 (by decide) ?_
            refine a_isub dX9_look_94 ?_
            refine a_callV (mc1 := 0) (ms1 := 0) (As := [_]) kpX2_byteAt kmX9_198 (by decide) rfl (Nat.le_of_ble_eq_true rfl) (fo_k hF.1) (by decide) rfl (fo_two hF.1) (fo_lt hF.1) (Nat.le_of_ble_eq_true rfl) (Nat.le_of_ble_eq_true rfl) (Nat.le_of_ble_eq_true rfl) dX9_look_95 (w_X2_byteAtL hF c_86 ?_)
            refine a_goto (tgt := 102) dX9_look_98 (by decide) ?_
            refine a_iret dX9_look_102 rfl (ret_i (by unfold lkF; first | (rw [if_pos c_22]) | (rw [if_neg c_22, if_pos c_34]) | (rw [if_neg c_22, if_neg c_34, ho_48]; show (if _ then _ else _) = _; first | (rw [if_pos c_55]) | (rw [if_neg c_55]; first | done | rw [if_pos c_86] | rw [if_neg c_86]))) h)
        · refine a_aload dX9_look_58 rfl ?_
          refine a_ifnull dX9_look_60 ?_
          refine a_aload dX9_look_63 rfl ?_
          refine a_callV (mc1 := 0) (ms1 := 0) (As := []) kpX2_length kmX9_194 (by decide) rfl (Nat.le_of_ble_eq_true rfl) (fo_k hF.1) (by decide) rfl (fo_two hF.1) (fo_lt hF.1) (Nat.le_of_ble_eq_true rfl) (Nat.le_of_ble_eq_true rfl) (Nat.le_of_ble_eq_true rfl) dX9_look_65 (w_X2_length hF.1 (lenF_of hF) ?_)
          refine a_goto (tgt := 77) dX9_look_68 (by decide) ?_
          refine a_iret dX9_look_77 rfl (ret_i (by unfold lkF; first | (rw [if_pos c_22]) | (rw [if_neg c_22, if_pos c_34]) | (rw [if_neg c_22, if_neg c_34, ho_48]; show (if _ then _ else _) = _; first | (rw [if_pos c_55]) | (rw [if_neg c_55]; first | done | rw [if_pos c_86] | rw [if_neg c_86]))) h)
    · refine a_aload_n dX9_look_37 rfl ?_
      refine a_aload dX9_look_38 rfl ?_
      refine a_iload_n dX9_look_40 rfl ?_
      refine a_callV (mc1 := 0) (ms1 := 0) (As := [_, _]) kpX9_countComing kmX9_187 (by decide) rfl (Nat.le_of_ble_eq_true rfl) rfl (by decide) rfl (by decide) (hlt hN (by decide)) (Nat.le_of_ble_eq_true rfl) (Nat.le_of_ble_eq_true rfl) (Nat.le_of_ble_eq_true rfl) dX9_look_41 (w_X9_countComing hi hN hs ?_)
      refine a_iret dX9_look_44 rfl (ret_i (by unfold lkF; first | (rw [if_pos c_22]) | (rw [if_neg c_22, if_pos c_34]) | (rw [if_neg c_22, if_neg c_34, ho_48]; show (if _ then _ else _) = _; first | (rw [if_pos c_55]) | (rw [if_neg c_55]; first | done | rw [if_pos c_86] | rw [if_neg c_86]))) h)
  · refine a_aload dX9_look_25 rfl ?_
    refine a_iload_n dX9_look_27 rfl ?_
    refine a_callV (mc1 := 0) (ms1 := 0) (As := [_]) kpX7_heldAt kmX9_103 (by decide) rfl (Nat.le_of_ble_eq_true rfl) (sh_k (sheetR hi)) (by decide) rfl (sh_two (sheetR hi)) (sh_lt (sheetR hi) hN) (Nat.le_of_ble_eq_true rfl) (Nat.le_of_ble_eq_true rfl) (Nat.le_of_ble_eq_true rfl) dX9_look_28 (w_X7_heldAt (sheetR hi) hj hN hs ?_)
    refine a_iret dX9_look_31 rfl (ret_i (by unfold lkF; first | (rw [if_pos c_22]) | (rw [if_neg c_22, if_pos c_34]) | (rw [if_neg c_22, if_neg c_34, ho_48]; show (if _ then _ else _) = _; first | (rw [if_pos c_55]) | (rw [if_neg c_55]; first | done | rw [if_pos c_86] | rw [if_neg c_86]))) h)

theorem w_X9_look_o1 {M : Mem} {N : Nat} {Q : Option Value → Nat → Mem → Prop} {s c w : Int32} (hc : ¬ (0 ≤ s.toInt ∧ s.toInt < 6))  (hN : 94 ≤ N) (hs : Str M.2.2.1) (h : Q (some (.int (-1))) N (M)) : AW mX9_look 3 0 0 N 0 [(0, .ref 2), (1, .int s), (2, .int c), (3, .int w)] [] M Q := by
  refine a_aload_n dX9_look_0 rfl ?_
  refine a_iload_n dX9_look_1 rfl ?_
  refine a_callV (mc1 := 0) (ms1 := 0) (As := [_]) kpX9_sheetAt kmX9_69 (by decide) rfl (Nat.le_of_ble_eq_true rfl) rfl (by decide) rfl (by decide) (hlt hN (by decide)) (Nat.le_of_ble_eq_true rfl) (Nat.le_of_ble_eq_true rfl) (Nat.le_of_ble_eq_true rfl) dX9_look_2 (w_X9_sheetAt_out hc hN hs ?_)
  refine a_astoreN dX9_look_5 (by decide) ?_
  refine a_aloadN dX9_look_7 rfl ?_
  refine a_ifnullN (tgt := 19) dX9_look_9 (by decide) ?_
  refine a_iconst (v := (-1)) dX9_look_19 (by decide) ?_
  refine a_iret dX9_look_20 rfl h

theorem w_X9_look_o2 {M : Mem} {N : Nat} {Q : Option Value → Nat → Mem → Prop} {i : Nat} {c w : Int32} (hi : i < 6) (hc : ¬ (0 ≤ c.toInt ∧ c.toInt < 64))  (hN : 94 ≤ N) (hs : Str M.2.2.1) (h : Q (some (.int (-1))) N (M)) : AW mX9_look 3 0 0 N 0 [(0, .ref 2), (1, .int (nI i)), (2, .int c), (3, .int w)] [] M Q := by
  refine a_aload_n dX9_look_0 rfl ?_
  refine a_iload_n dX9_look_1 rfl ?_
  refine a_callV (mc1 := 0) (ms1 := 0) (As := [_]) kpX9_sheetAt kmX9_69 (by decide) rfl (Nat.le_of_ble_eq_true rfl) rfl (by decide) rfl (by decide) (hlt hN (by decide)) (Nat.le_of_ble_eq_true rfl) (Nat.le_of_ble_eq_true rfl) (Nat.le_of_ble_eq_true rfl) dX9_look_2 (w_X9_sheetAt hi hN hs ?_)
  refine a_astore dX9_look_5 (by decide) ?_
  refine a_aload dX9_look_7 rfl ?_
  refine a_ifnull dX9_look_9 ?_
  refine a_iload_n dX9_look_12 rfl ?_
  refine a_callS (mc1 := 0) (ms1 := 0) (As := [_]) kpX9_isCell kmX9_73 (by decide) rfl (Nat.le_of_ble_eq_true rfl) (Nat.le_of_ble_eq_true rfl) (Nat.le_of_ble_eq_true rfl) (Nat.le_of_ble_eq_true rfl) dX9_look_13 (w_X9_isCell ?_)
  refine a_if_ne (tgt := 21) dX9_look_16 (by decide) (fun c_16 => absurd (bI_z.mpr hc) c_16) (fun c_16 => ?_)
  refine a_iconst (v := (-1)) dX9_look_19 (by decide) ?_
  refine a_iret dX9_look_20 rfl h

