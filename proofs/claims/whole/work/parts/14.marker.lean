/-- Long.bitCount, as the JDK reckons it -/
def ush (x : Int64) (k : Int32) : Int64 := (x.toUInt64 >>> (k.toInt64.toUInt64 &&& Int64.toUInt64 63)).toInt64
def bc1 (x : Int64) : Int64 := x - (ush x 1 &&& 6148914691236517205)
def bc2 (x : Int64) : Int64 := (x &&& 3689348814741910323) + (ush x 2 &&& 3689348814741910323)
def bc3 (x : Int64) : Int64 := (x + ush x 4) &&& 1085102592571150095
def bcs (x : Int64) (k : Int32) : Int64 := x + ush x k
def bcn (x : Int64) : Int32 := (bcs (bcs (bcs (bc3 (bc2 (bc1 x))) 8) 16) 32).toInt32 &&& 127
theorem w_J13_bitCount_95d88 {M : Mem} {N : Nat} {Q : Option Value → Nat → Mem → Prop} {x : Int64}  (h : Q (some (.int (bcn x))) N (M)) : AW mJ13_bitCount_95d88 0 0 0 N 0 [(0, .long x)] [] M Q := by
  refine a_lload_n dJ13_bitCount_95d88_0 rfl ?_
  refine a_lload_n dJ13_bitCount_95d88_1 rfl ?_
  refine a_iconst (v := 1) dJ13_bitCount_95d88_2 (by decide) ?_
  refine a_lushr dJ13_bitCount_95d88_3 rfl ?_
  refine a_ldc2 kkJ13_314 dJ13_bitCount_95d88_4 ?_
  refine a_land dJ13_bitCount_95d88_7 ?_
  refine a_lsub dJ13_bitCount_95d88_8 ?_
  refine a_lstore_n dJ13_bitCount_95d88_9 (by decide) ?_
  refine a_lload_n dJ13_bitCount_95d88_10 rfl ?_
  refine a_ldc2 kkJ13_316 dJ13_bitCount_95d88_11 ?_
  refine a_land dJ13_bitCount_95d88_14 ?_
  refine a_lload_n dJ13_bitCount_95d88_15 rfl ?_
  refine a_iconst (v := 2) dJ13_bitCount_95d88_16 (by decide) ?_
  refine a_lushr dJ13_bitCount_95d88_17 rfl ?_
  refine a_ldc2 kkJ13_316 dJ13_bitCount_95d88_18 ?_
  refine a_land dJ13_bitCount_95d88_21 ?_
  refine a_ladd dJ13_bitCount_95d88_22 ?_
  refine a_lstore_n dJ13_bitCount_95d88_23 (by decide) ?_
  refine a_lload_n dJ13_bitCount_95d88_24 rfl ?_
  refine a_lload_n dJ13_bitCount_95d88_25 rfl ?_
  refine a_iconst (v := 4) dJ13_bitCount_95d88_26 (by decide) ?_
  refine a_lushr dJ13_bitCount_95d88_27 rfl ?_
  refine a_ladd dJ13_bitCount_95d88_28 ?_
  refine a_ldc2 kkJ13_318 dJ13_bitCount_95d88_29 ?_
  refine a_land dJ13_bitCount_95d88_32 ?_
  refine a_lstore_n dJ13_bitCount_95d88_33 (by decide) ?_
  refine a_lload_n dJ13_bitCount_95d88_34 rfl ?_
  refine a_lload_n dJ13_bitCount_95d88_35 rfl ?_
  refine a_bipush (v := 8) dJ13_bitCount_95d88_36 (by decide) ?_
  refine a_lushr dJ13_bitCount_95d88_38 rfl ?_
  refine a_ladd dJ13_bitCount_95d88_39 ?_
  refine a_lstore_n dJ13_bitCount_95d88_40 (by decide) ?_
  refine a_lload_n dJ13_bitCount_95d88_41 rfl ?_
  refine a_lload_n dJ13_bitCount_95d88_42 rfl ?_
  refine a_bipush (v := 16) dJ13_bitCount_95d88_43 (by decide) ?_
  refine a_lushr dJ13_bitCount_95d88_45 rfl ?_
  refine a_ladd dJ13_bitCount_95d88_46 ?_
  refine a_lstore_n dJ13_bitCount_95d88_47 (by decide) ?_
  refine a_lload_n dJ13_bitCount_95d88_48 rfl ?_
  refine a_lload_n dJ13_bitCount_95d88_49 rfl ?_
  refine a_bipush (v := 32) dJ13_bitCount_95d88_50 (by decide) ?_
  refine a_lushr dJ13_bitCount_95d88_52 rfl ?_
  refine a_ladd dJ13_bitCount_95d88_53 ?_
  refine a_lstore_n dJ13_bitCount_95d88_54 (by decide) ?_
  refine a_lload_n dJ13_bitCount_95d88_55 rfl ?_
  refine a_l2i dJ13_bitCount_95d88_56 rfl ?_
  refine a_bipush (v := 127) dJ13_bitCount_95d88_57 (by decide) ?_
  refine a_iand dJ13_bitCount_95d88_59 ?_
  refine a_iret dJ13_bitCount_95d88_60 rfl h

theorem w_X4_countInputs {M : Mem} {N : Nat} {Q : Option Value → Nat → Mem → Prop}  (hN : 94 ≤ N) (hs : Str M.2.2.1) (h : Q (some (.int (bcn (rJ M 5 2)))) N (M)) : AW mX4_countInputs 1 0 0 N 0 [(0, .ref 5)] [] M Q := by
  refine a_aload_n dX4_countInputs_0 rfl ?_
  refine a_getJ kfX4_18 rfl rfl (by decide) (hlt hN (by decide)) dX4_countInputs_1 ?_
  refine a_callS (mc1 := 0) (ms1 := 0) (As := [_]) kpJ13_bitCount_95d88 kmX4_33 (by decide) rfl (Nat.le_of_ble_eq_true rfl) (Nat.le_of_ble_eq_true rfl) (Nat.le_of_ble_eq_true rfl) (Nat.le_of_ble_eq_true rfl) dX4_countInputs_4 (w_J13_bitCount_95d88 ?_)
  refine a_iret dX4_countInputs_7 rfl h

theorem w_X4_countWanted {M : Mem} {N : Nat} {Q : Option Value → Nat → Mem → Prop}  (hN : 94 ≤ N) (hs : Str M.2.2.1) (h : Q (some (.int (bcn (rJ M 5 3)))) N (M)) : AW mX4_countWanted 1 0 0 N 0 [(0, .ref 5)] [] M Q := by
  refine a_aload_n dX4_countWanted_0 rfl ?_
  refine a_getJ kfX4_22 rfl rfl (by decide) (hlt hN (by decide)) dX4_countWanted_1 ?_
  refine a_callS (mc1 := 0) (ms1 := 0) (As := [_]) kpJ13_bitCount_95d88 kmX4_33 (by decide) rfl (Nat.le_of_ble_eq_true rfl) (Nat.le_of_ble_eq_true rfl) (Nat.le_of_ble_eq_true rfl) (Nat.le_of_ble_eq_true rfl) dX4_countWanted_4 (w_J13_bitCount_95d88 ?_)
  refine a_iret dX4_countWanted_7 rfl h

theorem ap4_len {M : Mem} {t : Nat} {v : Int32} : rI (ap4 M t v) 3 1 = nI (t + 4) := ap1_len
def fdC (M : Mem) (t : Nat) (a b c d e : Int32) : Mem := ap4 (ap4 (ap4 (ap4 (ap4 M t a) (t + 4) b) (t + 8) c) (t + 12) d) (t + 16) e
theorem room_in {t : Nat} (h : t + 20 ≤ 60) : bI ((nI t + 20).toInt ≤ 60) = 1 := by
  rw [show (20 : Int32) = nI 20 from rfl, nI_add]; exact bI_t (by rw [nIt (by omega)]; omega)
theorem room_out {t : Nat} (h : ¬ t + 20 ≤ 60) (h2 : t ≤ 60) : bI ((nI t + 20).toInt ≤ 60) = 0 := by
  rw [show (20 : Int32) = nI 20 from rfl, nI_add]; exact bI_f (by rw [nIt (by omega)]; omega)
theorem w_X9_feed_in {M : Mem} {N : Nat} {Q : Option Value → Nat → Mem → Prop} {t : Nat} {a b c d e : Int32} (ht : rI M 3 1 = nI t) (h6 : t + 20 ≤ 60)  (hN : 94 ≤ N) (hs : Str M.2.2.1) (h : Q (some (.int (nI (t + 20)))) N (fdC M t a b c d e)) : AW mX9_feed 1 0 0 N 0 [(0, .ref 2), (1, .int a), (2, .int b), (3, .int c), (4, .int d), (5, .int e)] [] M Q := by
  refine a_aload_n dX9_feed_0 rfl ?_
  refine a_getA (z := 3) kfX9_10 rfl rfl (st_2_0 hs) (by decide) (hlt hN (by decide)) dX9_feed_1 ?_
  refine a_callV (mc1 := 0) (ms1 := 0) (As := []) kpX8_hasRoom kmX9_57 (by decide) rfl (Nat.le_of_ble_eq_true rfl) rfl (by decide) rfl (by decide) (hlt hN (by decide)) (Nat.le_of_ble_eq_true rfl) (Nat.le_of_ble_eq_true rfl) (Nat.le_of_ble_eq_true rfl) dX9_feed_4 (w_X8_hasRoom hN hs ?_)
  refine a_if_ne (tgt := 12) dX9_feed_7 (by decide) (fun c_7 => ?_) (fun c_7 => absurd c_7 (by rw [ht, room_in h6]; decide))
  refine a_aload_n dX9_feed_12 rfl ?_
  refine a_getA (z := 3) kfX9_10 rfl rfl (st_2_0 hs) (by decide) (hlt hN (by decide)) dX9_feed_13 ?_
  refine a_iload_n dX9_feed_16 rfl ?_
  refine a_callV (mc1 := 0) (ms1 := 0) (As := [_]) kpX8_append kmX9_61 (by decide) rfl (Nat.le_of_ble_eq_true rfl) rfl (by decide) rfl (by decide) (hlt hN (by decide)) (Nat.le_of_ble_eq_true rfl) (Nat.le_of_ble_eq_true rfl) (Nat.le_of_ble_eq_true rfl) dX9_feed_17 (w_X8_append ht (by omega) hN hs ?_)
  refine a_aload_n dX9_feed_20 rfl ?_
  refine a_getA (z := 3) kfX9_10 rfl rfl (st_2_0 hs) (by decide) (hlt hN (by decide)) dX9_feed_21 ?_
  refine a_iload_n dX9_feed_24 rfl ?_
  refine a_callV (mc1 := 0) (ms1 := 0) (As := [_]) kpX8_append kmX9_61 (by decide) rfl (Nat.le_of_ble_eq_true rfl) rfl (by decide) rfl (by decide) (hlt hN (by decide)) (Nat.le_of_ble_eq_true rfl) (Nat.le_of_ble_eq_true rfl) (Nat.le_of_ble_eq_true rfl) dX9_feed_25 (w_X8_append ap4_len (by omega) hN (by exact hs) ?_)
  refine a_aload_n dX9_feed_28 rfl ?_
  refine a_getA (z := 3) kfX9_10 rfl rfl (st_2_0 hs) (by decide) (hlt hN (by decide)) dX9_feed_29 ?_
  refine a_iload_n dX9_feed_32 rfl ?_
  refine a_callV (mc1 := 0) (ms1 := 0) (As := [_]) kpX8_append kmX9_61 (by decide) rfl (Nat.le_of_ble_eq_true rfl) rfl (by decide) rfl (by decide) (hlt hN (by decide)) (Nat.le_of_ble_eq_true rfl) (Nat.le_of_ble_eq_true rfl) (Nat.le_of_ble_eq_true rfl) dX9_feed_33 (w_X8_append ap4_len (by omega) hN (by exact hs) ?_)
  refine a_aload_n dX9_feed_36 rfl ?_
  refine a_getA (z := 3) kfX9_10 rfl rfl (st_2_0 hs) (by decide) (hlt hN (by decide)) dX9_feed_37 ?_
  refine a_iload dX9_feed_40 rfl ?_
  refine a_callV (mc1 := 0) (ms1 := 0) (As := [_]) kpX8_append kmX9_61 (by decide) rfl (Nat.le_of_ble_eq_true rfl) rfl (by decide) rfl (by decide) (hlt hN (by decide)) (Nat.le_of_ble_eq_true rfl) (Nat.le_of_ble_eq_true rfl) (Nat.le_of_ble_eq_true rfl) dX9_feed_42 (w_X8_append ap4_len (by omega) hN (by exact hs) ?_)
  refine a_aload_n dX9_feed_45 rfl ?_
  refine a_getA (z := 3) kfX9_10 rfl rfl (st_2_0 hs) (by decide) (hlt hN (by decide)) dX9_feed_46 ?_
  refine a_iload dX9_feed_49 rfl ?_
  refine a_callV (mc1 := 0) (ms1 := 0) (As := [_]) kpX8_append kmX9_61 (by decide) rfl (Nat.le_of_ble_eq_true rfl) rfl (by decide) rfl (by decide) (hlt hN (by decide)) (Nat.le_of_ble_eq_true rfl) (Nat.le_of_ble_eq_true rfl) (Nat.le_of_ble_eq_true rfl) dX9_feed_51 (w_X8_append ap4_len (by omega) hN (by exact hs) ?_)
  refine a_aload_n dX9_feed_54 rfl ?_
  refine a_getA (z := 3) kfX9_10 rfl rfl (st_2_0 hs) (by decide) (hlt hN (by decide)) dX9_feed_55 ?_
  refine a_callV (mc1 := 0) (ms1 := 0) (As := []) kpX8_length kmX9_65 (by decide) rfl (Nat.le_of_ble_eq_true rfl) rfl (by decide) rfl (by decide) (hlt hN (by decide)) (Nat.le_of_ble_eq_true rfl) (Nat.le_of_ble_eq_true rfl) (Nat.le_of_ble_eq_true rfl) dX9_feed_58 (w_X8_length hN (by exact hs) ?_)
  refine a_iret dX9_feed_61 rfl (by rw [ap4_len]; exact h)

theorem w_X9_feed_out {M : Mem} {N : Nat} {Q : Option Value → Nat → Mem → Prop} {t : Nat} {a b c d e : Int32} (ht : rI M 3 1 = nI t) (h6 : ¬ t + 20 ≤ 60) (h60 : t ≤ 60)  (hN : 94 ≤ N) (hs : Str M.2.2.1) (h : Q (some (.int (-1))) N (M)) : AW mX9_feed 1 0 0 N 0 [(0, .ref 2), (1, .int a), (2, .int b), (3, .int c), (4, .int d), (5, .int e)] [] M Q := by
  refine a_aload_n dX9_feed_0 rfl ?_
  refine a_getA (z := 3) kfX9_10 rfl rfl (st_2_0 hs) (by decide) (hlt hN (by decide)) dX9_feed_1 ?_
  refine a_callV (mc1 := 0) (ms1 := 0) (As := []) kpX8_hasRoom kmX9_57 (by decide) rfl (Nat.le_of_ble_eq_true rfl) rfl (by decide) rfl (by decide) (hlt hN (by decide)) (Nat.le_of_ble_eq_true rfl) (Nat.le_of_ble_eq_true rfl) (Nat.le_of_ble_eq_true rfl) dX9_feed_4 (w_X8_hasRoom hN hs ?_)
  refine a_if_ne (tgt := 12) dX9_feed_7 (by decide) (fun c_7 => absurd (by rw [ht, room_out h6 h60]) c_7) (fun c_7 => ?_)
  refine a_iconst (v := (-1)) dX9_feed_10 (by decide) ?_
  refine a_iret dX9_feed_11 rfl h

theorem w_X9_number_in {M : Mem} {N : Nat} {Q : Option Value → Nat → Mem → Prop} {i j : Nat} {v : Int32} (hi : i < 6) (hj : j < 64) (hv : -9999 ≤ v.toInt ∧ v.toInt ≤ 9999)  (hN : 94 ≤ N) (hs : Str M.2.2.1) (h : Q (some (.int 1)) N (putS M (9 + 6 * i) j 1 v none 0)) : AW mX9_number 3 0 0 N 0 [(0, .ref 2), (1, .int (nI i)), (2, .int (nI j)), (3, .int v)] [] M Q := by
  refine a_aload_n dX9_number_0 rfl ?_
  refine a_iload_n dX9_number_1 rfl ?_
  refine a_callV (mc1 := 0) (ms1 := 0) (As := [_]) kpX9_sheetAt kmX9_69 (by decide) rfl (Nat.le_of_ble_eq_true rfl) rfl (by decide) rfl (by decide) (hlt hN (by decide)) (Nat.le_of_ble_eq_true rfl) (Nat.le_of_ble_eq_true rfl) (Nat.le_of_ble_eq_true rfl) dX9_number_2 (w_X9_sheetAt hi hN hs ?_)
  refine a_astore dX9_number_5 (by decide) ?_
  refine a_aload dX9_number_7 rfl ?_
  refine a_ifnull dX9_number_9 ?_
  refine a_iload_n dX9_number_12 rfl ?_
  refine a_callS (mc1 := 0) (ms1 := 0) (As := [_]) kpX9_isCell kmX9_73 (by decide) rfl (Nat.le_of_ble_eq_true rfl) (Nat.le_of_ble_eq_true rfl) (Nat.le_of_ble_eq_true rfl) (Nat.le_of_ble_eq_true rfl) dX9_number_13 (w_X9_isCell ?_)
  refine a_if_eq (tgt := 26) dX9_number_16 (by decide) (fun c_16 => absurd c_16 (cel_no hj)) (fun c_16 => ?_)
  refine a_iload_n dX9_number_19 rfl ?_
  refine a_callS (mc1 := 0) (ms1 := 0) (As := [_]) kpX9_isNumber kmX9_77 (by decide) rfl (Nat.le_of_ble_eq_true rfl) (Nat.le_of_ble_eq_true rfl) (Nat.le_of_ble_eq_true rfl) (Nat.le_of_ble_eq_true rfl) dX9_number_20 (w_X9_isNumber ?_)
  refine a_if_ne (tgt := 28) dX9_number_23 (by decide) (fun c_23 => ?_) (fun c_23 => absurd c_23 (bI_nz.mpr hv))
  refine a_aload dX9_number_28 rfl ?_
  refine a_iload_n dX9_number_30 rfl ?_
  refine a_iload_n dX9_number_31 rfl ?_
  refine a_callV (mc1 := 0) (ms1 := 0) (As := [_, _]) kpX7_putNumber kmX9_80 (by decide) rfl (Nat.le_of_ble_eq_true rfl) (sh_k ⟨i, hi, rfl⟩) (by decide) rfl (sh_two ⟨i, hi, rfl⟩) (sh_lt ⟨i, hi, rfl⟩ hN) (Nat.le_of_ble_eq_true rfl) (Nat.le_of_ble_eq_true rfl) (Nat.le_of_ble_eq_true rfl) dX9_number_32 (w_X7_putNumber ⟨i, hi, rfl⟩ hj hN (by exact hs) ?_)
  refine a_iconst (v := 1) dX9_number_35 (by decide) ?_
  refine a_zret dX9_number_36 rfl (by decide) h

theorem w_X9_number_o1 {M : Mem} {N : Nat} {Q : Option Value → Nat → Mem → Prop} {s c v : Int32} (hc : ¬ (0 ≤ s.toInt ∧ s.toInt < 6))  (hN : 94 ≤ N) (hs : Str M.2.2.1) (h : Q (some (.int 0)) N (M)) : AW mX9_number 3 0 0 N 0 [(0, .ref 2), (1, .int s), (2, .int c), (3, .int v)] [] M Q := by
  refine a_aload_n dX9_number_0 rfl ?_
  refine a_iload_n dX9_number_1 rfl ?_
  refine a_callV (mc1 := 0) (ms1 := 0) (As := [_]) kpX9_sheetAt kmX9_69 (by decide) rfl (Nat.le_of_ble_eq_true rfl) rfl (by decide) rfl (by decide) (hlt hN (by decide)) (Nat.le_of_ble_eq_true rfl) (Nat.le_of_ble_eq_true rfl) (Nat.le_of_ble_eq_true rfl) dX9_number_2 (w_X9_sheetAt_out hc hN hs ?_)
  refine a_astoreN dX9_number_5 (by decide) ?_
  refine a_aloadN dX9_number_7 rfl ?_
  refine a_ifnullN (tgt := 26) dX9_number_9 (by decide) ?_
  refine a_iconst (v := 0) dX9_number_26 (by decide) ?_
  refine a_zret dX9_number_27 rfl (by decide) h

theorem w_X9_number_o2 {M : Mem} {N : Nat} {Q : Option Value → Nat → Mem → Prop} {i : Nat} {c v : Int32} (hi : i < 6) (hc : ¬ ((0 ≤ c.toInt ∧ c.toInt < 64) ∧ (-9999 ≤ v.toInt ∧ v.toInt ≤ 9999)))  (hN : 94 ≤ N) (hs : Str M.2.2.1) (h : Q (some (.int 0)) N (M)) : AW mX9_number 3 0 0 N 0 [(0, .ref 2), (1, .int (nI i)), (2, .int c), (3, .int v)] [] M Q := by
  refine a_aload_n dX9_number_0 rfl ?_
  refine a_iload_n dX9_number_1 rfl ?_
  refine a_callV (mc1 := 0) (ms1 := 0) (As := [_]) kpX9_sheetAt kmX9_69 (by decide) rfl (Nat.le_of_ble_eq_true rfl) rfl (by decide) rfl (by decide) (hlt hN (by decide)) (Nat.le_of_ble_eq_true rfl) (Nat.le_of_ble_eq_true rfl) (Nat.le_of_ble_eq_true rfl) dX9_number_2 (w_X9_sheetAt hi hN hs ?_)
  refine a_astore dX9_number_5 (by decide) ?_
  refine a_aload dX9_number_7 rfl ?_
  refine a_ifnull dX9_number_9 ?_
  refine a_iload_n dX9_number_12 rfl ?_
  refine a_callS (mc1 := 0) (ms1 := 0) (As := [_]) kpX9_isCell kmX9_73 (by decide) rfl (Nat.le_of_ble_eq_true rfl) (Nat.le_of_ble_eq_true rfl) (Nat.le_of_ble_eq_true rfl) (Nat.le_of_ble_eq_true rfl) dX9_number_13 (w_X9_isCell ?_)
  refine a_if_eq (tgt := 26) dX9_number_16 (by decide) (fun c_16 => ?_) (fun c_16 => ?_)
  · refine a_iconst (v := 0) dX9_number_26 (by decide) ?_
    refine a_zret dX9_number_27 rfl (by decide) h
  · refine a_iload_n dX9_number_19 rfl ?_
    refine a_callS (mc1 := 0) (ms1 := 0) (As := [_]) kpX9_isNumber kmX9_77 (by decide) rfl (Nat.le_of_ble_eq_true rfl) (Nat.le_of_ble_eq_true rfl) (Nat.le_of_ble_eq_true rfl) (Nat.le_of_ble_eq_true rfl) dX9_number_20 (w_X9_isNumber ?_)
    refine a_if_ne (tgt := 28) dX9_number_23 (by decide) (fun c_23 => ?_) (fun c_23 => ?_)
    · exact absurd ⟨bI_nz.mp c_16, bI_nz.mp c_23⟩ hc
    · refine a_iconst (v := 0) dX9_number_26 (by decide) ?_
      refine a_zret dX9_number_27 rfl (by decide) h

theorem w_X9_clear_in {M : Mem} {N : Nat} {Q : Option Value → Nat → Mem → Prop} {i j : Nat} (hi : i < 6) (hj : j < 64) (hw : ¬ rI M (9 + 6 * i + 2) j = 0)  (hN : 94 ≤ N) (hs : Str M.2.2.1) (h : Q (some (.int 1)) N (putS M (9 + 6 * i) j 0 0 none 0)) : AW mX9_clear 3 0 0 N 0 [(0, .ref 2), (1, .int (nI i)), (2, .int (nI j))] [] M Q := by
  refine a_aload_n dX9_clear_0 rfl ?_
  refine a_iload_n dX9_clear_1 rfl ?_
  refine a_callV (mc1 := 0) (ms1 := 0) (As := [_]) kpX9_sheetAt kmX9_69 (by decide) rfl (Nat.le_of_ble_eq_true rfl) rfl (by decide) rfl (by decide) (hlt hN (by decide)) (Nat.le_of_ble_eq_true rfl) (Nat.le_of_ble_eq_true rfl) (Nat.le_of_ble_eq_true rfl) dX9_clear_2 (w_X9_sheetAt hi hN hs ?_)
  refine a_astore_n dX9_clear_5 (by decide) ?_
  refine a_aload_n dX9_clear_6 rfl ?_
  refine a_ifnull dX9_clear_7 ?_
  refine a_aload_n dX9_clear_10 rfl ?_
  refine a_iload_n dX9_clear_11 rfl ?_
  refine a_callV (mc1 := 0) (ms1 := 0) (As := [_]) kpX7_heldAt kmX9_103 (by decide) rfl (Nat.le_of_ble_eq_true rfl) (sh_k ⟨i, hi, rfl⟩) (by decide) rfl (sh_two ⟨i, hi, rfl⟩) (sh_lt ⟨i, hi, rfl⟩ hN) (Nat.le_of_ble_eq_true rfl) (Nat.le_of_ble_eq_true rfl) (Nat.le_of_ble_eq_true rfl) dX9_clear_12 (w_X7_heldAt ⟨i, hi, rfl⟩ hj hN hs ?_)
  refine a_if_ne (tgt := 20) dX9_clear_15 (by decide) (fun c_15 => ?_) (fun c_15 => absurd c_15 hw)
  refine a_aload_n dX9_clear_20 rfl ?_
  refine a_iload_n dX9_clear_21 rfl ?_
  refine a_callV (mc1 := 0) (ms1 := 0) (As := [_]) kpX7_empty kmX9_107 (by decide) rfl (Nat.le_of_ble_eq_true rfl) (sh_k ⟨i, hi, rfl⟩) (by decide) rfl (sh_two ⟨i, hi, rfl⟩) (sh_lt ⟨i, hi, rfl⟩ hN) (Nat.le_of_ble_eq_true rfl) (Nat.le_of_ble_eq_true rfl) (Nat.le_of_ble_eq_true rfl) dX9_clear_22 (w_X7_empty ⟨i, hi, rfl⟩ hj hN (by exact hs) ?_)
  refine a_iconst (v := 1) dX9_clear_25 (by decide) ?_
  refine a_zret dX9_clear_26 rfl (by decide) h

theorem w_X9_clear_z {M : Mem} {N : Nat} {Q : Option Value → Nat → Mem → Prop} {i j : Nat} (hi : i < 6) (hj : j < 64) (hw : rI M (9 + 6 * i + 2) j = 0)  (hN : 94 ≤ N) (hs : Str M.2.2.1) (h : Q (some (.int 0)) N (M)) : AW mX9_clear 3 0 0 N 0 [(0, .ref 2), (1, .int (nI i)), (2, .int (nI j))] [] M Q := by
  refine a_aload_n dX9_clear_0 rfl ?_
  refine a_iload_n dX9_clear_1 rfl ?_
  refine a_callV (mc1 := 0) (ms1 := 0) (As := [_]) kpX9_sheetAt kmX9_69 (by decide) rfl (Nat.le_of_ble_eq_true rfl) rfl (by decide) rfl (by decide) (hlt hN (by decide)) (Nat.le_of_ble_eq_true rfl) (Nat.le_of_ble_eq_true rfl) (Nat.le_of_ble_eq_true rfl) dX9_clear_2 (w_X9_sheetAt hi hN hs ?_)
  refine a_astore_n dX9_clear_5 (by decide) ?_
  refine a_aload_n dX9_clear_6 rfl ?_
  refine a_ifnull dX9_clear_7 ?_
  refine a_aload_n dX9_clear_10 rfl ?_
  refine a_iload_n dX9_clear_11 rfl ?_
  refine a_callV (mc1 := 0) (ms1 := 0) (As := [_]) kpX7_heldAt kmX9_103 (by decide) rfl (Nat.le_of_ble_eq_true rfl) (sh_k ⟨i, hi, rfl⟩) (by decide) rfl (sh_two ⟨i, hi, rfl⟩) (sh_lt ⟨i, hi, rfl⟩ hN) (Nat.le_of_ble_eq_true rfl) (Nat.le_of_ble_eq_true rfl) (Nat.le_of_ble_eq_true rfl) dX9_clear_12 (w_X7_heldAt ⟨i, hi, rfl⟩ hj hN hs ?_)
  refine a_if_ne (tgt := 20) dX9_clear_15 (by decide) (fun c_15 => absurd hw c_15) (fun c_15 => ?_)
  refine a_iconst (v := 0) dX9_clear_18 (by decide) ?_
  refine a_zret dX9_clear_19 rfl (by decide) h

theorem w_X9_clear_o1 {M : Mem} {N : Nat} {Q : Option Value → Nat → Mem → Prop} {s c : Int32} (hc : ¬ (0 ≤ s.toInt ∧ s.toInt < 6))  (hN : 94 ≤ N) (hs : Str M.2.2.1) (h : Q (some (.int 0)) N (M)) : AW mX9_clear 3 0 0 N 0 [(0, .ref 2), (1, .int s), (2, .int c)] [] M Q := by
  refine a_aload_n dX9_clear_0 rfl ?_
  refine a_iload_n dX9_clear_1 rfl ?_
  refine a_callV (mc1 := 0) (ms1 := 0) (As := [_]) kpX9_sheetAt kmX9_69 (by decide) rfl (Nat.le_of_ble_eq_true rfl) rfl (by decide) rfl (by decide) (hlt hN (by decide)) (Nat.le_of_ble_eq_true rfl) (Nat.le_of_ble_eq_true rfl) (Nat.le_of_ble_eq_true rfl) dX9_clear_2 (w_X9_sheetAt_out hc hN hs ?_)
  refine a_astore_nN dX9_clear_5 (by decide) ?_
  refine a_aload_nN dX9_clear_6 rfl ?_
  refine a_ifnullN (tgt := 18) dX9_clear_7 (by decide) ?_
  refine a_iconst (v := 0) dX9_clear_18 (by decide) ?_
  refine a_zret dX9_clear_19 rfl (by decide) h

theorem w_X9_clear_o2 {M : Mem} {N : Nat} {Q : Option Value → Nat → Mem → Prop} {i : Nat} {c : Int32} (hi : i < 6) (hc : ¬ (0 ≤ c.toInt ∧ c.toInt < 64))  (hN : 94 ≤ N) (hs : Str M.2.2.1) (h : Q (some (.int 0)) N (M)) : AW mX9_clear 3 0 0 N 0 [(0, .ref 2), (1, .int (nI i)), (2, .int c)] [] M Q := by
  refine a_aload_n dX9_clear_0 rfl ?_
  refine a_iload_n dX9_clear_1 rfl ?_
  refine a_callV (mc1 := 0) (ms1 := 0) (As := [_]) kpX9_sheetAt kmX9_69 (by decide) rfl (Nat.le_of_ble_eq_true rfl) rfl (by decide) rfl (by decide) (hlt hN (by decide)) (Nat.le_of_ble_eq_true rfl) (Nat.le_of_ble_eq_true rfl) (Nat.le_of_ble_eq_true rfl) dX9_clear_2 (w_X9_sheetAt hi hN hs ?_)
  refine a_astore_n dX9_clear_5 (by decide) ?_
  refine a_aload_n dX9_clear_6 rfl ?_
  refine a_ifnull dX9_clear_7 ?_
  refine a_aload_n dX9_clear_10 rfl ?_
  refine a_iload_n dX9_clear_11 rfl ?_
  refine a_callV (mc1 := 0) (ms1 := 0) (As := [_]) kpX7_heldAt kmX9_103 (by decide) rfl (Nat.le_of_ble_eq_true rfl) (sh_k ⟨i, hi, rfl⟩) (by decide) rfl (sh_two ⟨i, hi, rfl⟩) (sh_lt ⟨i, hi, rfl⟩ hN) (Nat.le_of_ble_eq_true rfl) (Nat.le_of_ble_eq_true rfl) (Nat.le_of_ble_eq_true rfl) dX9_clear_12 (w_X7_heldAt_out ⟨i, hi, rfl⟩ hc hN hs ?_)
  refine a_if_ne (tgt := 20) dX9_clear_15 (by decide) (fun c_15 => absurd rfl c_15) (fun c_15 => ?_)
  refine a_iconst (v := 0) dX9_clear_18 (by decide) ?_
  refine a_zret dX9_clear_19 rfl (by decide) h

theorem w_X9_input_in {M : Mem} {N : Nat} {Q : Option Value → Nat → Mem → Prop} {c : Int32} (hc : (0 ≤ c.toInt ∧ c.toInt < 64) ∧ ¬ (hb (rJ M 5 2) c = true) ∧ ¬ (hb (rJ M 5 3) c = true) ∧ bcn (rJ M 5 2) < 8)  (hN : 94 ≤ N) (hs : Str M.2.2.1) (h : Q (some (.int 1)) N (sJ M 5 2 (rJ M 5 2 ||| bitL c))) : AW mX9_input 2 0 0 N 0 [(0, .ref 2), (1, .int c)] [] M Q := by
  refine a_iload_n dX9_input_0 rfl ?_
  refine a_callS (mc1 := 0) (ms1 := 0) (As := [_]) kpX9_isCell kmX9_73 (by decide) rfl (Nat.le_of_ble_eq_true rfl) (Nat.le_of_ble_eq_true rfl) (Nat.le_of_ble_eq_true rfl) (Nat.le_of_ble_eq_true rfl) dX9_input_1 (w_X9_isCell ?_)
  refine a_if_eq (tgt := 41) dX9_input_4 (by decide) (fun c_4 => absurd c_4 (bI_nz.mpr hc.1)) (fun c_4 => ?_)
  refine a_aload_n dX9_input_7 rfl ?_
  refine a_getA (z := 5) kfX9_19 rfl rfl (st_2_1 hs) (by decide) (hlt hN (by decide)) dX9_input_8 ?_
  refine a_iload_n dX9_input_11 rfl ?_
  refine a_callV (mc1 := 0) (ms1 := 0) (As := [_]) kpX4_isInput kmX9_110 (by decide) rfl (Nat.le_of_ble_eq_true rfl) rfl (by decide) rfl (by decide) (hlt hN (by decide)) (Nat.le_of_ble_eq_true rfl) (Nat.le_of_ble_eq_true rfl) (Nat.le_of_ble_eq_true rfl) dX9_input_12 (w_X4_isInput hN hs ?_)
  refine a_if_ne (tgt := 41) dX9_input_15 (by decide) (fun c_15 => absurd (bI_z.mpr hc.2.1) c_15) (fun c_15 => ?_)
  refine a_aload_n dX9_input_18 rfl ?_
  refine a_getA (z := 5) kfX9_19 rfl rfl (st_2_1 hs) (by decide) (hlt hN (by decide)) dX9_input_19 ?_
  refine a_iload_n dX9_input_22 rfl ?_
  refine a_callV (mc1 := 0) (ms1 := 0) (As := [_]) kpX4_isWanted kmX9_113 (by decide) rfl (Nat.le_of_ble_eq_true rfl) rfl (by decide) rfl (by decide) (hlt hN (by decide)) (Nat.le_of_ble_eq_true rfl) (Nat.le_of_ble_eq_true rfl) (Nat.le_of_ble_eq_true rfl) dX9_input_23 (w_X4_isWanted hN hs ?_)
  refine a_if_ne (tgt := 41) dX9_input_26 (by decide) (fun c_26 => absurd (bI_z.mpr hc.2.2.1) c_26) (fun c_26 => ?_)
  refine a_aload_n dX9_input_29 rfl ?_
  refine a_getA (z := 5) kfX9_19 rfl rfl (st_2_1 hs) (by decide) (hlt hN (by decide)) dX9_input_30 ?_
  refine a_callV (mc1 := 0) (ms1 := 0) (As := []) kpX4_countInputs kmX9_116 (by decide) rfl (Nat.le_of_ble_eq_true rfl) rfl (by decide) rfl (by decide) (hlt hN (by decide)) (Nat.le_of_ble_eq_true rfl) (Nat.le_of_ble_eq_true rfl) (Nat.le_of_ble_eq_true rfl) dX9_input_33 (w_X4_countInputs hN hs ?_)
  refine a_bipush (v := 8) dX9_input_36 (by decide) ?_
  refine a_icmp_lt (tgt := 43) dX9_input_38 (by decide) (fun c_38 => ?_) (fun c_38 => absurd hc.2.2.2 c_38)
  refine a_aload_n dX9_input_43 rfl ?_
  refine a_getA (z := 5) kfX9_19 rfl rfl (st_2_1 hs) (by decide) (hlt hN (by decide)) dX9_input_44 ?_
  refine a_iload_n dX9_input_47 rfl ?_
  refine a_callV (mc1 := 0) (ms1 := 0) (As := [_]) kpX4_addInput kmX9_119 (by decide) rfl (Nat.le_of_ble_eq_true rfl) rfl (by decide) rfl (by decide) (hlt hN (by decide)) (Nat.le_of_ble_eq_true rfl) (Nat.le_of_ble_eq_true rfl) (Nat.le_of_ble_eq_true rfl) dX9_input_48 (w_X4_addInput hN hs ?_)
  refine a_iconst (v := 1) dX9_input_51 (by decide) ?_
  refine a_zret dX9_input_52 rfl (by decide) h

theorem w_X9_input_out {M : Mem} {N : Nat} {Q : Option Value → Nat → Mem → Prop} {c : Int32} (hc : ¬ ((0 ≤ c.toInt ∧ c.toInt < 64) ∧ ¬ (hb (rJ M 5 2) c = true) ∧ ¬ (hb (rJ M 5 3) c = true) ∧ bcn (rJ M 5 2) < 8))  (hN : 94 ≤ N) (hs : Str M.2.2.1) (h : Q (some (.int 0)) N (M)) : AW mX9_input 2 0 0 N 0 [(0, .ref 2), (1, .int c)] [] M Q := by
  refine a_iload_n dX9_input_0 rfl ?_
  refine a_callS (mc1 := 0) (ms1 := 0) (As := [_]) kpX9_isCell kmX9_73 (by decide) rfl (Nat.le_of_ble_eq_true rfl) (Nat.le_of_ble_eq_true rfl) (Nat.le_of_ble_eq_true rfl) (Nat.le_of_ble_eq_true rfl) dX9_input_1 (w_X9_isCell ?_)
  refine a_if_eq (tgt := 41) dX9_input_4 (by decide) (fun c_4 => ?_) (fun c_4 => ?_)
  · refine a_iconst (v := 0) dX9_input_41 (by decide) ?_
    refine a_zret dX9_input_42 rfl (by decide) h
  · refine a_aload_n dX9_input_7 rfl ?_
    refine a_getA (z := 5) kfX9_19 rfl rfl (st_2_1 hs) (by decide) (hlt hN (by decide)) dX9_input_8 ?_
    refine a_iload_n dX9_input_11 rfl ?_
    refine a_callV (mc1 := 0) (ms1 := 0) (As := [_]) kpX4_isInput kmX9_110 (by decide) rfl (Nat.le_of_ble_eq_true rfl) rfl (by decide) rfl (by decide) (hlt hN (by decide)) (Nat.le_of_ble_eq_true rfl) (Nat.le_of_ble_eq_true rfl) (Nat.le_of_ble_eq_true rfl) dX9_input_12 (w_X4_isInput hN hs ?_)
    refine a_if_ne (tgt := 41) dX9_input_15 (by decide) (fun c_15 => ?_) (fun c_15 => ?_)
    · refine a_iconst (v := 0) dX9_input_41 (by decide) ?_
      refine a_zret dX9_input_42 rfl (by decide) h
    · refine a_aload_n dX9_input_18 rfl ?_
      refine a_getA (z := 5) kfX9_19 rfl rfl (st_2_1 hs) (by decide) (hlt hN (by decide)) dX9_input_19 ?_
      refine a_iload_n dX9_input_22 rfl ?_
      refine a_callV (mc1 := 0) (ms1 := 0) (As := [_]) kpX4_isWanted kmX9_113 (by decide) rfl (Nat.le_of_ble_eq_true rfl) rfl (by decide) rfl (by decide) (hlt hN (by decide)) (Nat.le_of_ble_eq_true rfl) (Nat.le_of_ble_eq_true rfl) (Nat.le_of_ble_eq_true rfl) dX9_input_23 (w_X4_isWanted hN hs ?_)
      refine a_if_ne (tgt := 41) dX9_input_26 (by decide) (fun c_26 => ?_) (fun c_26 => ?_)
      · refine a_iconst (v := 0) dX9_input_41 (by decide) ?_
        refine a_zret dX9_input_42 rfl (by decide) h
      · refine a_aload_n dX9_input_29 rfl ?_
        refine a_getA (z := 5) kfX9_19 rfl rfl (st_2_1 hs) (by decide) (hlt hN (by decide)) dX9_input_30 ?_
        refine a_callV (mc1 := 0) (ms1 := 0) (As := []) kpX4_countInputs kmX9_116 (by decide) rfl (Nat.le_of_ble_eq_true rfl) rfl (by decide) rfl (by decide) (hlt hN (by decide)) (Nat.le_of_ble_eq_true rfl) (Nat.le_of_ble_eq_true rfl) (Nat.le_of_ble_eq_true rfl) dX9_input_33 (w_X4_countInputs hN hs ?_)
        refine a_bipush (v := 8) dX9_input_36 (by decide) ?_
        refine a_icmp_lt (tgt := 43) dX9_input_38 (by decide) (fun c_38 => ?_) (fun c_38 => ?_)
        · exact absurd ⟨bI_nz.mp c_4, bI_z.mp c_15, bI_z.mp c_26, c_38⟩ hc
        · refine a_iconst (v := 0) dX9_input_41 (by decide) ?_
          refine a_zret dX9_input_42 rfl (by decide) h

theorem cel_of {c : Int32} (h : 0 ≤ c.toInt ∧ c.toInt < 64) : ∃ j : Nat, j < 64 ∧ c = nI j := by
  refine ⟨c.toInt.toNat, by omega, ?_⟩
  rw [← Int32.toInt_inj, nIt (by omega)]; omega
theorem w_X9_wants_in {M : Mem} {N : Nat} {Q : Option Value → Nat → Mem → Prop} {j : Nat} {v : Int32} (hj : j < 64) (hc : (0 ≤ (nI j).toInt ∧ (nI j).toInt < 64) ∧ ¬ v < 1 ∧ ¬ 100 < v ∧ ¬ (hb (rJ M 5 2) (nI j) = true) ∧ (hb (rJ M 5 3) (nI j) = true ∨ bcn (rJ M 5 3) < 16))  (hN : 94 ≤ N) (hs : Str M.2.2.1) (h : Q (some (.int 1)) N (sI (sJ M 5 3 (rJ M 5 3 ||| bitL (nI j))) 7 j v)) : AW mX9_wants 2 0 0 N 0 [(0, .ref 2), (1, .int (nI j)), (2, .int v)] [] M Q := by
  refine a_iload_n dX9_wants_0 rfl ?_
  refine a_callS (mc1 := 0) (ms1 := 0) (As := [_]) kpX9_isCell kmX9_73 (by decide) rfl (Nat.le_of_ble_eq_true rfl) (Nat.le_of_ble_eq_true rfl) (Nat.le_of_ble_eq_true rfl) (Nat.le_of_ble_eq_true rfl) dX9_wants_1 (w_X9_isCell ?_)
  refine a_if_eq (tgt := 29) dX9_wants_4 (by decide) (fun c_4 => absurd c_4 (bI_nz.mpr hc.1)) (fun c_4 => ?_)
  refine a_iload_n dX9_wants_7 rfl ?_
  refine a_iconst (v := 1) dX9_wants_8 (by decide) ?_
  refine a_icmp_lt (tgt := 29) dX9_wants_9 (by decide) (fun c_9 => absurd c_9 hc.2.1) (fun c_9 => ?_)
  refine a_iload_n dX9_wants_12 rfl ?_
  refine a_bipush (v := 100) dX9_wants_13 (by decide) ?_
  refine a_icmp_gt (tgt := 29) dX9_wants_15 (by decide) (fun c_15 => absurd c_15 hc.2.2.1) (fun c_15 => ?_)
  refine a_aload_n dX9_wants_18 rfl ?_
  refine a_getA (z := 5) kfX9_19 rfl rfl (st_2_1 hs) (by decide) (hlt hN (by decide)) dX9_wants_19 ?_
  refine a_iload_n dX9_wants_22 rfl ?_
  refine a_callV (mc1 := 0) (ms1 := 0) (As := [_]) kpX4_isInput kmX9_110 (by decide) rfl (Nat.le_of_ble_eq_true rfl) rfl (by decide) rfl (by decide) (hlt hN (by decide)) (Nat.le_of_ble_eq_true rfl) (Nat.le_of_ble_eq_true rfl) (Nat.le_of_ble_eq_true rfl) dX9_wants_23 (w_X4_isInput hN hs ?_)
  refine a_if_eq (tgt := 31) dX9_wants_26 (by decide) (fun c_26 => ?_) (fun c_26 => absurd (bI_z.mpr hc.2.2.2.1) c_26)
  refine a_aload_n dX9_wants_31 rfl ?_
  refine a_getA (z := 5) kfX9_19 rfl rfl (st_2_1 hs) (by decide) (hlt hN (by decide)) dX9_wants_32 ?_
  refine a_iload_n dX9_wants_35 rfl ?_
  refine a_callV (mc1 := 0) (ms1 := 0) (As := [_]) kpX4_isWanted kmX9_113 (by decide) rfl (Nat.le_of_ble_eq_true rfl) rfl (by decide) rfl (by decide) (hlt hN (by decide)) (Nat.le_of_ble_eq_true rfl) (Nat.le_of_ble_eq_true rfl) (Nat.le_of_ble_eq_true rfl) dX9_wants_36 (w_X4_isWanted hN hs ?_)
  refine a_if_ne (tgt := 56) dX9_wants_39 (by decide) (fun c_39 => ?_) (fun c_39 => ?_)
  · refine a_aload_n dX9_wants_56 rfl ?_
    refine a_getA (z := 5) kfX9_19 rfl rfl (st_2_1 hs) (by decide) (hlt hN (by decide)) dX9_wants_57 ?_
    refine a_iload_n dX9_wants_60 rfl ?_
    refine a_iload_n dX9_wants_61 rfl ?_
    refine a_callV (mc1 := 0) (ms1 := 0) (As := [_, _]) kpX4_want kmX9_125 (by decide) rfl (Nat.le_of_ble_eq_true rfl) rfl (by decide) rfl (by decide) (hlt hN (by decide)) (Nat.le_of_ble_eq_true rfl) (Nat.le_of_ble_eq_true rfl) (Nat.le_of_ble_eq_true rfl) dX9_wants_62 (w_X4_want hj hN hs ?_)
    refine a_iconst (v := 1) dX9_wants_65 (by decide) ?_
    refine a_zret dX9_wants_66 rfl (by decide) h
  · refine a_aload_n dX9_wants_42 rfl ?_
    refine a_getA (z := 5) kfX9_19 rfl rfl (st_2_1 hs) (by decide) (hlt hN (by decide)) dX9_wants_43 ?_
    refine a_callV (mc1 := 0) (ms1 := 0) (As := []) kpX4_countWanted kmX9_122 (by decide) rfl (Nat.le_of_ble_eq_true rfl) rfl (by decide) rfl (by decide) (hlt hN (by decide)) (Nat.le_of_ble_eq_true rfl) (Nat.le_of_ble_eq_true rfl) (Nat.le_of_ble_eq_true rfl) dX9_wants_46 (w_X4_countWanted hN hs ?_)
    refine a_bipush (v := 16) dX9_wants_49 (by decide) ?_
    refine a_icmp_lt (tgt := 56) dX9_wants_51 (by decide) (fun c_51 => ?_) (fun c_51 => ?_)
    · refine a_aload_n dX9_wants_56 rfl ?_
      refine a_getA (z := 5) kfX9_19 rfl rfl (st_2_1 hs) (by decide) (hlt hN (by decide)) dX9_wants_57 ?_
      refine a_iload_n dX9_wants_60 rfl ?_
      refine a_iload_n dX9_wants_61 rfl ?_
      refine a_callV (mc1 := 0) (ms1 := 0) (As := [_, _]) kpX4_want kmX9_125 (by decide) rfl (Nat.le_of_ble_eq_true rfl) rfl (by decide) rfl (by decide) (hlt hN (by decide)) (Nat.le_of_ble_eq_true rfl) (Nat.le_of_ble_eq_true rfl) (Nat.le_of_ble_eq_true rfl) dX9_wants_62 (w_X4_want hj hN hs ?_)
      refine a_iconst (v := 1) dX9_wants_65 (by decide) ?_
      refine a_zret dX9_wants_66 rfl (by decide) h
    · exact absurd (hc.2.2.2.2.resolve_left (bI_z.mp c_39)) c_51

theorem w_X9_wants_out {M : Mem} {N : Nat} {Q : Option Value → Nat → Mem → Prop} {c v : Int32} (hc : ¬ ((0 ≤ c.toInt ∧ c.toInt < 64) ∧ ¬ v < 1 ∧ ¬ 100 < v ∧ ¬ (hb (rJ M 5 2) c = true) ∧ (hb (rJ M 5 3) c = true ∨ bcn (rJ M 5 3) < 16)))  (hN : 94 ≤ N) (hs : Str M.2.2.1) (h : Q (some (.int 0)) N (M)) : AW mX9_wants 2 0 0 N 0 [(0, .ref 2), (1, .int c), (2, .int v)] [] M Q := by
  refine a_iload_n dX9_wants_0 rfl ?_
  refine a_callS (mc1 := 0) (ms1 := 0) (As := [_]) kpX9_isCell kmX9_73 (by decide) rfl (Nat.le_of_ble_eq_true rfl) (Nat.le_of_ble_eq_true rfl) (Nat.le_of_ble_eq_true rfl) (Nat.le_of_ble_eq_true rfl) dX9_wants_1 (w_X9_isCell ?_)
  refine a_if_eq (tgt := 29) dX9_wants_4 (by decide) (fun c_4 => ?_) (fun c_4 => ?_)
  · refine a_iconst (v := 0) dX9_wants_29 (by decide) ?_
    refine a_zret dX9_wants_30 rfl (by decide) h
  · refine a_iload_n dX9_wants_7 rfl ?_
    refine a_iconst (v := 1) dX9_wants_8 (by decide) ?_
    refine a_icmp_lt (tgt := 29) dX9_wants_9 (by decide) (fun c_9 => ?_) (fun c_9 => ?_)
    · refine a_iconst (v := 0) dX9_wants_29 (by decide) ?_
      refine a_zret dX9_wants_30 rfl (by decide) h
    · refine a_iload_n dX9_wants_12 rfl ?_
      refine a_bipush (v := 100) dX9_wants_13 (by decide) ?_
      refine a_icmp_gt (tgt := 29) dX9_wants_15 (by decide) (fun c_15 => ?_) (fun c_15 => ?_)
      · refine a_iconst (v := 0) dX9_wants_29 (by decide) ?_
        refine a_zret dX9_wants_30 rfl (by decide) h
      · refine a_aload_n dX9_wants_18 rfl ?_
        refine a_getA (z := 5) kfX9_19 rfl rfl (st_2_1 hs) (by decide) (hlt hN (by decide)) dX9_wants_19 ?_
        refine a_iload_n dX9_wants_22 rfl ?_
        refine a_callV (mc1 := 0) (ms1 := 0) (As := [_]) kpX4_isInput kmX9_110 (by decide) rfl (Nat.le_of_ble_eq_true rfl) rfl (by decide) rfl (by decide) (hlt hN (by decide)) (Nat.le_of_ble_eq_true rfl) (Nat.le_of_ble_eq_true rfl) (Nat.le_of_ble_eq_true rfl) dX9_wants_23 (w_X4_isInput hN hs ?_)
        refine a_if_eq (tgt := 31) dX9_wants_26 (by decide) (fun c_26 => ?_) (fun c_26 => ?_)
        · refine a_aload_n dX9_wants_31 rfl ?_
          refine a_getA (z := 5) kfX9_19 rfl rfl (st_2_1 hs) (by decide) (hlt hN (by decide)) dX9_wants_32 ?_
          refine a_iload_n dX9_wants_35 rfl ?_
          refine a_callV (mc1 := 0) (ms1 := 0) (As := [_]) kpX4_isWanted kmX9_113 (by decide) rfl (Nat.le_of_ble_eq_true rfl) rfl (by decide) rfl (by decide) (hlt hN (by decide)) (Nat.le_of_ble_eq_true rfl) (Nat.le_of_ble_eq_true rfl) (Nat.le_of_ble_eq_true rfl) dX9_wants_36 (w_X4_isWanted hN hs ?_)
          refine a_if_ne (tgt := 56) dX9_wants_39 (by decide) (fun c_39 => ?_) (fun c_39 => ?_)
          · exact absurd ⟨bI_nz.mp c_4, c_9, c_15, bI_z.mp c_26, by first | exact Or.inl (bI_nz.mp c_39) | exact Or.inr c_51⟩ hc
          · refine a_aload_n dX9_wants_42 rfl ?_
            refine a_getA (z := 5) kfX9_19 rfl rfl (st_2_1 hs) (by decide) (hlt hN (by decide)) dX9_wants_43 ?_
            refine a_callV (mc1 := 0) (ms1 := 0) (As := []) kpX4_countWanted kmX9_122 (by decide) rfl (Nat.le_of_ble_eq_true rfl) rfl (by decide) rfl (by decide) (hlt hN (by decide)) (Nat.le_of_ble_eq_true rfl) (Nat.le_of_ble_eq_true rfl) (Nat.le_of_ble_eq_true rfl) dX9_wants_46 (w_X4_countWanted hN hs ?_)
            refine a_bipush (v := 16) dX9_wants_49 (by decide) ?_
            refine a_icmp_lt (tgt := 56) dX9_wants_51 (by decide) (fun c_51 => ?_) (fun c_51 => ?_)
            · exact absurd ⟨bI_nz.mp c_4, c_9, c_15, bI_z.mp c_26, by first | exact Or.inl (bI_nz.mp c_39) | exact Or.inr c_51⟩ hc
            · refine a_iconst (v := 0) dX9_wants_54 (by decide) ?_
              refine a_zret dX9_wants_55 rfl (by decide) h
        · refine a_iconst (v := 0) dX9_wants_29 (by decide) ?_
          refine a_zret dX9_wants_30 rfl (by decide) h

theorem w_X9_world_in {M : Mem} {N : Nat} {Q : Option Value → Nat → Mem → Prop} {n : Nat} (hw : rI M 5 4 = nI n) (hn : n < 6)  (hN : 94 ≤ N) (hs : Str M.2.2.1) (h : Q (some (.int (nI n))) N (sI M 5 4 (nI (n + 1)))) : AW mX9_world 1 0 0 N 0 [(0, .ref 2)] [] M Q := by
  refine a_aload_n dX9_world_0 rfl ?_
  refine a_getA (z := 5) kfX9_19 rfl rfl (st_2_1 hs) (by decide) (hlt hN (by decide)) dX9_world_1 ?_
  refine a_callV (mc1 := 0) (ms1 := 0) (As := []) kpX4_countWorlds kmX9_128 (by decide) rfl (Nat.le_of_ble_eq_true rfl) rfl (by decide) rfl (by decide) (hlt hN (by decide)) (Nat.le_of_ble_eq_true rfl) (Nat.le_of_ble_eq_true rfl) (Nat.le_of_ble_eq_true rfl) dX9_world_4 (w_X4_countWorlds hN hs ?_)
  refine a_bipush (v := 6) dX9_world_7 (by decide) ?_
  refine a_icmp_ge (tgt := 22) dX9_world_9 (by decide) (fun c_9 => absurd c_9 (by rw [hw]; exact nI_ge (b := 6) hn (by decide))) (fun c_9 => ?_)
  refine a_aload_n dX9_world_12 rfl ?_
  refine a_getA (z := 5) kfX9_19 rfl rfl (st_2_1 hs) (by decide) (hlt hN (by decide)) dX9_world_13 ?_
  refine a_callV (mc1 := 0) (ms1 := 0) (As := []) kpX4_addWorld kmX9_131 (by decide) rfl (Nat.le_of_ble_eq_true rfl) rfl (by decide) rfl (by decide) (hlt hN (by decide)) (Nat.le_of_ble_eq_true rfl) (Nat.le_of_ble_eq_true rfl) (Nat.le_of_ble_eq_true rfl) dX9_world_16 (w_X4_addWorld hN hs ?_)
  refine a_goto (tgt := 23) dX9_world_19 (by decide) ?_
  refine a_iret dX9_world_23 rfl (by rw [hw, nI_1, nI_pred]; exact h)

theorem w_X9_world_out {M : Mem} {N : Nat} {Q : Option Value → Nat → Mem → Prop} (hw : rI M 5 4 = nI 6)  (hN : 94 ≤ N) (hs : Str M.2.2.1) (h : Q (some (.int (-1))) N (M)) : AW mX9_world 1 0 0 N 0 [(0, .ref 2)] [] M Q := by
  refine a_aload_n dX9_world_0 rfl ?_
  refine a_getA (z := 5) kfX9_19 rfl rfl (st_2_1 hs) (by decide) (hlt hN (by decide)) dX9_world_1 ?_
  refine a_callV (mc1 := 0) (ms1 := 0) (As := []) kpX4_countWorlds kmX9_128 (by decide) rfl (Nat.le_of_ble_eq_true rfl) rfl (by decide) rfl (by decide) (hlt hN (by decide)) (Nat.le_of_ble_eq_true rfl) (Nat.le_of_ble_eq_true rfl) (Nat.le_of_ble_eq_true rfl) dX9_world_4 (w_X4_countWorlds hN hs ?_)
  refine a_bipush (v := 6) dX9_world_7 (by decide) ?_
  refine a_icmp_ge (tgt := 22) dX9_world_9 (by decide) (fun c_9 => ?_) (fun c_9 => absurd (by rw [hw]; decide) c_9)
  refine a_iconst (v := (-1)) dX9_world_22 (by decide) ?_
  refine a_iret dX9_world_23 rfl h

theorem w_X9_give_in {M : Mem} {N : Nat} {Q : Option Value → Nat → Mem → Prop} {v j : Nat} {x : Int32} (hv6 : v < 6) (hvw : (v : Int) < (rI M 5 4).toInt) (hj : j < 64) (hc : (hb (rJ M 5 2) (nI j) = true) ∧ (-9999 ≤ x.toInt ∧ x.toInt ≤ 9999))  (hN : 94 ≤ N) (hs : Str M.2.2.1) (h : Q (some (.int 1)) N (sI M 6 (v * 64 + j) x)) : AW mX9_give 2 0 0 N 0 [(0, .ref 2), (1, .int (nI v)), (2, .int (nI j)), (3, .int x)] [] M Q := by
  refine a_aload_n dX9_give_0 rfl ?_
  refine a_getA (z := 5) kfX9_19 rfl rfl (st_2_1 hs) (by decide) (hlt hN (by decide)) dX9_give_1 ?_
  refine a_iload_n dX9_give_4 rfl ?_
  refine a_callV (mc1 := 0) (ms1 := 0) (As := [_]) kpX4_isWorld kmX9_134 (by decide) rfl (Nat.le_of_ble_eq_true rfl) rfl (by decide) rfl (by decide) (hlt hN (by decide)) (Nat.le_of_ble_eq_true rfl) (Nat.le_of_ble_eq_true rfl) (Nat.le_of_ble_eq_true rfl) dX9_give_5 (w_X4_isWorld hN hs ?_)
  refine a_if_eq (tgt := 29) dX9_give_8 (by decide) (fun c_8 => absurd c_8 (wor_no hv6 hvw)) (fun c_8 => ?_)
  refine a_aload_n dX9_give_11 rfl ?_
  refine a_getA (z := 5) kfX9_19 rfl rfl (st_2_1 hs) (by decide) (hlt hN (by decide)) dX9_give_12 ?_
  refine a_iload_n dX9_give_15 rfl ?_
  refine a_callV (mc1 := 0) (ms1 := 0) (As := [_]) kpX4_isInput kmX9_110 (by decide) rfl (Nat.le_of_ble_eq_true rfl) rfl (by decide) rfl (by decide) (hlt hN (by decide)) (Nat.le_of_ble_eq_true rfl) (Nat.le_of_ble_eq_true rfl) (Nat.le_of_ble_eq_true rfl) dX9_give_16 (w_X4_isInput hN hs ?_)
  refine a_if_eq (tgt := 29) dX9_give_19 (by decide) (fun c_19 => absurd c_19 (bI_nz.mpr hc.1)) (fun c_19 => ?_)
  refine a_iload_n dX9_give_22 rfl ?_
  refine a_callS (mc1 := 0) (ms1 := 0) (As := [_]) kpX9_isNumber kmX9_77 (by decide) rfl (Nat.le_of_ble_eq_true rfl) (Nat.le_of_ble_eq_true rfl) (Nat.le_of_ble_eq_true rfl) (Nat.le_of_ble_eq_true rfl) dX9_give_23 (w_X9_isNumber ?_)
  refine a_if_ne (tgt := 31) dX9_give_26 (by decide) (fun c_26 => ?_) (fun c_26 => absurd c_26 (bI_nz.mpr hc.2))
  refine a_aload_n dX9_give_31 rfl ?_
  refine a_getA (z := 5) kfX9_19 rfl rfl (st_2_1 hs) (by decide) (hlt hN (by decide)) dX9_give_32 ?_
  refine a_iload_n dX9_give_35 rfl ?_
  refine a_iload_n dX9_give_36 rfl ?_
  refine a_iload_n dX9_give_37 rfl ?_
  refine a_callV (mc1 := 0) (ms1 := 0) (As := [_, _, _]) kpX4_put kmX9_137 (by decide) rfl (Nat.le_of_ble_eq_true rfl) rfl (by decide) rfl (by decide) (hlt hN (by decide)) (Nat.le_of_ble_eq_true rfl) (Nat.le_of_ble_eq_true rfl) (Nat.le_of_ble_eq_true rfl) dX9_give_38 (w_X4_put hv6 hvw hj hN hs ?_)
  refine a_iconst (v := 1) dX9_give_41 (by decide) ?_
  refine a_zret dX9_give_42 rfl (by decide) h

theorem w_X9_give_out {M : Mem} {N : Nat} {Q : Option Value → Nat → Mem → Prop} {w c x : Int32} (hc : ¬ ((0 ≤ w.toInt ∧ w.toInt < (rI M 5 4).toInt) ∧ (hb (rJ M 5 2) c = true) ∧ (-9999 ≤ x.toInt ∧ x.toInt ≤ 9999)))  (hN : 94 ≤ N) (hs : Str M.2.2.1) (h : Q (some (.int 0)) N (M)) : AW mX9_give 2 0 0 N 0 [(0, .ref 2), (1, .int w), (2, .int c), (3, .int x)] [] M Q := by
  refine a_aload_n dX9_give_0 rfl ?_
  refine a_getA (z := 5) kfX9_19 rfl rfl (st_2_1 hs) (by decide) (hlt hN (by decide)) dX9_give_1 ?_
  refine a_iload_n dX9_give_4 rfl ?_
  refine a_callV (mc1 := 0) (ms1 := 0) (As := [_]) kpX4_isWorld kmX9_134 (by decide) rfl (Nat.le_of_ble_eq_true rfl) rfl (by decide) rfl (by decide) (hlt hN (by decide)) (Nat.le_of_ble_eq_true rfl) (Nat.le_of_ble_eq_true rfl) (Nat.le_of_ble_eq_true rfl) dX9_give_5 (w_X4_isWorld hN hs ?_)
  refine a_if_eq (tgt := 29) dX9_give_8 (by decide) (fun c_8 => ?_) (fun c_8 => ?_)
  · refine a_iconst (v := 0) dX9_give_29 (by decide) ?_
    refine a_zret dX9_give_30 rfl (by decide) h
  · refine a_aload_n dX9_give_11 rfl ?_
    refine a_getA (z := 5) kfX9_19 rfl rfl (st_2_1 hs) (by decide) (hlt hN (by decide)) dX9_give_12 ?_
    refine a_iload_n dX9_give_15 rfl ?_
    refine a_callV (mc1 := 0) (ms1 := 0) (As := [_]) kpX4_isInput kmX9_110 (by decide) rfl (Nat.le_of_ble_eq_true rfl) rfl (by decide) rfl (by decide) (hlt hN (by decide)) (Nat.le_of_ble_eq_true rfl) (Nat.le_of_ble_eq_true rfl) (Nat.le_of_ble_eq_true rfl) dX9_give_16 (w_X4_isInput hN hs ?_)
    refine a_if_eq (tgt := 29) dX9_give_19 (by decide) (fun c_19 => ?_) (fun c_19 => ?_)
    · refine a_iconst (v := 0) dX9_give_29 (by decide) ?_
      refine a_zret dX9_give_30 rfl (by decide) h
    · refine a_iload_n dX9_give_22 rfl ?_
      refine a_callS (mc1 := 0) (ms1 := 0) (As := [_]) kpX9_isNumber kmX9_77 (by decide) rfl (Nat.le_of_ble_eq_true rfl) (Nat.le_of_ble_eq_true rfl) (Nat.le_of_ble_eq_true rfl) (Nat.le_of_ble_eq_true rfl) dX9_give_23 (w_X9_isNumber ?_)
      refine a_if_ne (tgt := 31) dX9_give_26 (by decide) (fun c_26 => ?_) (fun c_26 => ?_)
      · exact absurd ⟨bI_nz.mp c_8, bI_nz.mp c_19, bI_nz.mp c_26⟩ hc
      · refine a_iconst (v := 0) dX9_give_29 (by decide) ?_
        refine a_zret dX9_give_30 rfl (by decide) h

