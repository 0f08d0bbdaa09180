/-! THE REFERENCE: its object has the number 64, its rows 65 to 93 -/
theorem bI_cong {p q : Prop} [Decidable p] [Decidable q] (h : p ↔ q) : bI p = bI q := by
  by_cases hp : p
  · rw [bI_t hp, bI_t (h.mp hp)]
  · rw [bI_f hp, bI_f (fun z => hp (h.mpr z))]
theorem i64 {i j : Nat} : 64 * nI i + nI j = nI (64 * i + j) := by rw [show (64 : Int32) = nI 64 from rfl, pk_mul, nI_add]
theorem i64_c {i j : Nat} (hi : i < 6) (hj : j < 64) : (64 * nI i + nI j).toNatClampNeg = 64 * i + j := by rw [i64]; exact nI_clamp (by omega)
theorem i64_in {i j : Nat} (hi : i < 6) (hj : j < 64) : vp_in (64 * nI i + nI j) 384 := by rw [i64]; exact vp_in_nI (by omega) (by decide)
theorem j64_in {j : Nat} (hj : j < 64) : vp_in (nI j) 64 := vp_in_nI hj (by decide)
theorem j64_c {j : Nat} (hj : j < 64) : (nI j).toNatClampNeg = j := nI_clamp (by omega)
theorem w_X10_lies {M : Mem} {N : Nat} {Q : Option Value → Nat → Mem → Prop} {v a b : Int32}  (h : Q (some (.int (bI (a.toInt ≤ v.toInt ∧ v.toInt ≤ b.toInt)))) N (M)) : AW mX10_lies 0 0 0 N 0 [(0, .int v), (1, .int a), (2, .int b)] [] M Q := by
  refine a_iload_n dX10_lies_0 rfl ?_
  refine a_iload_n dX10_lies_1 rfl ?_
  refine a_icmp_lt (tgt := 14) dX10_lies_2 (by decide) (fun c_2 => ?_) (fun c_2 => ?_)
  · refine a_iconst (v := 0) dX10_lies_14 (by decide) ?_
    refine a_zret dX10_lies_15 rfl (by decide) (ret_f (by simp only [Int32.lt_iff_toInt_lt, Int32.le_iff_toInt_le, ← Int32.toInt_inj, bI_z, bI_nz, tI_m9999, tI_m2, tI_m1, tI_0, tI_1, tI_2, tI_3, tI_4, tI_5, tI_6, tI_7, tI_8, tI_9, tI_10, tI_11, tI_16, tI_20, tI_24, tI_31, tI_32, tI_40, tI_41, tI_42, tI_43, tI_44, tI_45, tI_47, tI_48, tI_49, tI_56, tI_57, tI_58, tI_60, tI_61, tI_63, tI_64, tI_65, tI_72, tI_77, tI_83, tI_100, tI_127, tI_164, tI_255, tI_384, tI_9999, tI_15360] at c_2 ⊢; omega) h)
  · refine a_iload_n dX10_lies_5 rfl ?_
    refine a_iload_n dX10_lies_6 rfl ?_
    refine a_icmp_gt (tgt := 14) dX10_lies_7 (by decide) (fun c_7 => ?_) (fun c_7 => ?_)
    · refine a_iconst (v := 0) dX10_lies_14 (by decide) ?_
      refine a_zret dX10_lies_15 rfl (by decide) (ret_f (by simp only [Int32.lt_iff_toInt_lt, Int32.le_iff_toInt_le, ← Int32.toInt_inj, bI_z, bI_nz, tI_m9999, tI_m2, tI_m1, tI_0, tI_1, tI_2, tI_3, tI_4, tI_5, tI_6, tI_7, tI_8, tI_9, tI_10, tI_11, tI_16, tI_20, tI_24, tI_31, tI_32, tI_40, tI_41, tI_42, tI_43, tI_44, tI_45, tI_47, tI_48, tI_49, tI_56, tI_57, tI_58, tI_60, tI_61, tI_63, tI_64, tI_65, tI_72, tI_77, tI_83, tI_100, tI_127, tI_164, tI_255, tI_384, tI_9999, tI_15360] at c_2 c_7 ⊢; omega) h)
    · refine a_iconst (v := 1) dX10_lies_10 (by decide) ?_
      refine a_goto (tgt := 15) dX10_lies_11 (by decide) ?_
      refine a_zret dX10_lies_15 rfl (by decide) (ret_t (by simp only [Int32.lt_iff_toInt_lt, Int32.le_iff_toInt_le, ← Int32.toInt_inj, bI_z, bI_nz, tI_m9999, tI_m2, tI_m1, tI_0, tI_1, tI_2, tI_3, tI_4, tI_5, tI_6, tI_7, tI_8, tI_9, tI_10, tI_11, tI_16, tI_20, tI_24, tI_31, tI_32, tI_40, tI_41, tI_42, tI_43, tI_44, tI_45, tI_47, tI_48, tI_49, tI_56, tI_57, tI_58, tI_60, tI_61, tI_63, tI_64, tI_65, tI_72, tI_77, tI_83, tI_100, tI_127, tI_164, tI_255, tI_384, tI_9999, tI_15360] at c_2 c_7 ⊢; omega) h)

theorem w_X10_isCell {M : Mem} {N : Nat} {Q : Option Value → Nat → Mem → Prop} {c : Int32}  (h : Q (some (.int (bI (0 ≤ c.toInt ∧ c.toInt < 64)))) N (M)) : AW mX10_isCell 1 0 0 N 0 [(0, .int c)] [] M Q := by
  refine a_iload_n dX10_isCell_0 rfl ?_
  refine a_iconst (v := 0) dX10_isCell_1 (by decide) ?_
  refine a_bipush (v := 63) dX10_isCell_2 (by decide) ?_
  refine a_callS (mc1 := 0) (ms1 := 0) (As := [_, _, _]) kpX10_lies kmX10_104 (by decide) rfl (Nat.le_of_ble_eq_true rfl) (Nat.le_of_ble_eq_true rfl) (Nat.le_of_ble_eq_true rfl) (Nat.le_of_ble_eq_true rfl) dX10_isCell_4 (w_X10_lies ?_)
  refine a_zret dX10_isCell_7 rfl bI_01 (ret_i (bI_cong (by simp only [tI_0, tI_63]; omega)) h)

theorem w_X10_isSheet {M : Mem} {N : Nat} {Q : Option Value → Nat → Mem → Prop} {c : Int32}  (h : Q (some (.int (bI (0 ≤ c.toInt ∧ c.toInt < 6)))) N (M)) : AW mX10_isSheet 1 0 0 N 0 [(0, .int c)] [] M Q := by
  refine a_iload_n dX10_isSheet_0 rfl ?_
  refine a_iconst (v := 0) dX10_isSheet_1 (by decide) ?_
  refine a_iconst (v := 5) dX10_isSheet_2 (by decide) ?_
  refine a_callS (mc1 := 0) (ms1 := 0) (As := [_, _, _]) kpX10_lies kmX10_104 (by decide) rfl (Nat.le_of_ble_eq_true rfl) (Nat.le_of_ble_eq_true rfl) (Nat.le_of_ble_eq_true rfl) (Nat.le_of_ble_eq_true rfl) dX10_isSheet_3 (w_X10_lies ?_)
  refine a_zret dX10_isSheet_6 rfl bI_01 (ret_i (bI_cong (by simp only [tI_0, tI_5]; omega)) h)

theorem w_X10_isPupil {M : Mem} {N : Nat} {Q : Option Value → Nat → Mem → Prop} {c : Int32}  (h : Q (some (.int (bI (1 ≤ c.toInt ∧ c.toInt < 6)))) N (M)) : AW mX10_isPupil 1 0 0 N 0 [(0, .int c)] [] M Q := by
  refine a_iload_n dX10_isPupil_0 rfl ?_
  refine a_iconst (v := 1) dX10_isPupil_1 (by decide) ?_
  refine a_iconst (v := 5) dX10_isPupil_2 (by decide) ?_
  refine a_callS (mc1 := 0) (ms1 := 0) (As := [_, _, _]) kpX10_lies kmX10_104 (by decide) rfl (Nat.le_of_ble_eq_true rfl) (Nat.le_of_ble_eq_true rfl) (Nat.le_of_ble_eq_true rfl) (Nat.le_of_ble_eq_true rfl) dX10_isPupil_3 (w_X10_lies ?_)
  refine a_zret dX10_isPupil_6 rfl bI_01 (ret_i (bI_cong (by simp only [tI_1, tI_5]; omega)) h)

theorem w_X10_isWanted {M : Mem} {N : Nat} {Q : Option Value → Nat → Mem → Prop} {j : Nat} (hj : j < 64)  (hN : 94 ≤ N) (hs : Str M.2.2.1) (h : Q (some (.int (bI (0 < (rI M 78 j).toInt)))) N (M)) : AW mX10_isWanted 0 0 0 N 0 [(0, .ref 64), (1, .int (nI j))] [] M Q := by
  refine a_aload_n dX10_isWanted_0 rfl ?_
  refine a_getA (z := 78) kfX10_52 rfl rfl (st_64_14 hs) (by decide) (hlt hN (by decide)) dX10_isWanted_1 ?_
  refine a_iload_n dX10_isWanted_4 rfl ?_
  refine a_iald rfl (by decide) (hlt hN (by decide)) (show vp_in _ 64 from j64_in hj) dX10_isWanted_5 ?_
  refine a_if_le (tgt := 13) dX10_isWanted_6 (by decide) (fun c_6 => ?_) (fun c_6 => ?_)
  · refine a_iconst (v := 0) dX10_isWanted_13 (by decide) ?_
    refine a_zret dX10_isWanted_14 rfl (by decide) (ret_f (by simp only [Int32.le_iff_toInt_le, tI_0, j64_c hj] at c_6; omega) h)
  · refine a_iconst (v := 1) dX10_isWanted_9 (by decide) ?_
    refine a_goto (tgt := 14) dX10_isWanted_10 (by decide) ?_
    refine a_zret dX10_isWanted_14 rfl (by decide) (ret_t (by simp only [Int32.le_iff_toInt_le, tI_0, j64_c hj] at c_6; omega) h)

/-- a byte of a word, as the reference has it -/
def rby (v k : Int32) : Int32 := ((v >>> (k &&& 31)).toInt8.toInt32).toInt8.toInt32
def pu1 (M : Mem) (t : Nat) (v k : Int32) : Mem := sI (sI M 65 t (rby v k)) 64 1 (nI (t + 1))
def pu4 (M : Mem) (t : Nat) (v : Int32) : Mem := pu1 (pu1 (pu1 (pu1 M t v 24) (t + 1) v 16) (t + 2) v 8) (t + 3) v 0
theorem pu1_len {M : Mem} {t : Nat} {v k : Int32} : rI (pu1 M t v k) 64 1 = nI (t + 1) := by unfold pu1; rw [rI_sI, if_pos ⟨rfl, rfl⟩]
theorem pu4_len {M : Mem} {t : Nat} {v : Int32} : rI (pu4 M t v) 64 1 = nI (t + 4) := pu1_len
def fdR (M : Mem) (t : Nat) (a b c d e : Int32) : Mem := pu4 (pu4 (pu4 (pu4 (pu4 M t a) (t + 4) b) (t + 8) c) (t + 12) d) (t + 16) e
theorem l_X10_push {M : Mem} {N : Nat} {Q : Option Value → Nat → Mem → Prop} (hN : 94 ≤ N) (hs : Str M.2.2.1) {t : Nat} {v k : Int32} (ht : rI M 64 1 = nI t) (ht6 : t < 60) (hk0 : ¬ k < 0) (kk : AW mX10_push 0 0 0 N 3 [(0, .ref 64), (1, .int v), (2, .int (k + Int32.ofInt (-8)))] [] (pu1 M t v k) Q) : AW mX10_push 0 0 0 N 3 [(0, .ref 64), (1, .int v), (2, .int k)] [] M Q := by
  refine a_iload_n dX10_push_3 rfl ?_
  refine a_if_lt (tgt := 36) dX10_push_4 (by decide) (fun c_4 => absurd c_4 hk0) (fun c_4 => ?_)
  refine a_aload_n dX10_push_7 rfl ?_
  refine a_getA (z := 65) kfX10_7 rfl rfl (st_64_0 hs) (by decide) (hlt hN (by decide)) dX10_push_8 ?_
  refine a_aload_n dX10_push_11 rfl ?_
  refine a_getI kfX10_108 rfl rfl (by decide) (hlt hN (by decide)) dX10_push_12 ?_
  refine a_iload_n dX10_push_15 rfl ?_
  refine a_iload_n dX10_push_16 rfl ?_
  refine a_ishr dX10_push_17 ?_
  refine a_i2b dX10_push_18 rfl ?_
  refine a_bast rfl (by decide) (hlt hN (by decide)) (by rw [ht]; exact (show vp_in _ 60 from vp_in_nI (by omega) (by decide))) dX10_push_19 ?_
  refine a_aload_n dX10_push_20 rfl ?_
  refine a_dup dX10_push_21 rfl ?_
  refine a_getI kfX10_108 rfl rfl (by decide) (hlt hN (by decide)) dX10_push_22 ?_
  refine a_iconst (v := 1) dX10_push_25 (by decide) ?_
  refine a_iadd dX10_push_26 ?_
  refine a_putI kfX10_108 rfl rfl rfl (by decide) (hlt hN (by decide)) dX10_push_27 ?_
  refine a_iinc dX10_push_30 rfl rfl (by decide) ?_
  refine a_goto (tgt := 3) dX10_push_33 (by decide) ?_
  rw [ht, nI_clamp (show t < 2 ^ 31 by omega), rI_sI, if_neg (by omega), ht, nI_1]
  refine AW.sub (L' := [(0, .ref 64), (1, .int v), (2, .int (k + Int32.ofInt (-8)))]) rfl ?_
  exact kk

theorem w_X10_push {M : Mem} {N : Nat} {Q : Option Value → Nat → Mem → Prop} {t : Nat} {v : Int32} (ht : rI M 64 1 = nI t) (ht6 : t + 4 ≤ 60) (hN : 94 ≤ N) (hs : Str M.2.2.1) (h : Q (none) N (pu4 M t v)) : AW mX10_push 0 0 0 N 0 [(0, .ref 64), (1, .int v)] [] M Q := by
  refine a_bipush (v := 24) dX10_push_0 (by decide) ?_
  refine a_istore_n dX10_push_2 (by decide) ?_
  refine AW.sub (L' := [(0, .ref 64), (1, .int v), (2, .int 24)]) rfl ?_
  refine l_X10_push hN hs ht (by omega) (by decide) ?_
  refine l_X10_push hN (by exact hs) pu1_len (by omega) (by decide) ?_
  refine l_X10_push hN (by exact hs) pu1_len (by omega) (by decide) ?_
  refine l_X10_push hN (by exact hs) pu1_len (by omega) (by decide) ?_
  refine a_iload_n dX10_push_3 rfl ?_
  refine a_if_lt (tgt := 36) dX10_push_4 (by decide) (fun c_4 => ?_) (fun c_4 => absurd (by decide) c_4)
  refine a_vret dX10_push_36 rfl h

theorem w_X10_feed_in {M : Mem} {N : Nat} {Q : Option Value → Nat → Mem → Prop} {t : Nat} {a b c d e : Int32} (ht : rI M 64 1 = nI t) (h6 : t + 20 ≤ 60)  (hN : 94 ≤ N) (hs : Str M.2.2.1) (h : Q (some (.int (nI (t + 20)))) N (fdR M t a b c d e)) : AW mX10_feed 1 0 0 N 0 [(0, .ref 64), (1, .int a), (2, .int b), (3, .int c), (4, .int d), (5, .int e)] [] M Q := by
  refine a_aload_n dX10_feed_0 rfl ?_
  refine a_getI kfX10_108 rfl rfl (by decide) (hlt hN (by decide)) dX10_feed_1 ?_
  refine a_bipush (v := 20) dX10_feed_4 (by decide) ?_
  refine a_iadd dX10_feed_6 ?_
  refine a_bipush (v := 60) dX10_feed_7 (by decide) ?_
  refine a_icmp_le (tgt := 14) dX10_feed_9 (by decide) (fun c_9 => ?_) (fun c_9 => absurd (by rw [ht, show (20 : Int32) = nI 20 from rfl, nI_add]; exact nI_le (b := 60) h6 (by decide)) c_9)
  refine a_aload_n dX10_feed_14 rfl ?_
  refine a_iload_n dX10_feed_15 rfl ?_
  refine a_callV (mc1 := 0) (ms1 := 0) (As := [_]) kpX10_push kmX10_111 (by decide) rfl (Nat.le_of_ble_eq_true rfl) rfl (by decide) rfl (by decide) (hlt hN (by decide)) (Nat.le_of_ble_eq_true rfl) (Nat.le_of_ble_eq_true rfl) (Nat.le_of_ble_eq_true rfl) dX10_feed_16 (w_X10_push ht (by omega) hN hs ?_)
  refine a_aload_n dX10_feed_19 rfl ?_
  refine a_iload_n dX10_feed_20 rfl ?_
  refine a_callV (mc1 := 0) (ms1 := 0) (As := [_]) kpX10_push kmX10_111 (by decide) rfl (Nat.le_of_ble_eq_true rfl) rfl (by decide) rfl (by decide) (hlt hN (by decide)) (Nat.le_of_ble_eq_true rfl) (Nat.le_of_ble_eq_true rfl) (Nat.le_of_ble_eq_true rfl) dX10_feed_21 (w_X10_push pu4_len (by omega) hN (by exact hs) ?_)
  refine a_aload_n dX10_feed_24 rfl ?_
  refine a_iload_n dX10_feed_25 rfl ?_
  refine a_callV (mc1 := 0) (ms1 := 0) (As := [_]) kpX10_push kmX10_111 (by decide) rfl (Nat.le_of_ble_eq_true rfl) rfl (by decide) rfl (by decide) (hlt hN (by decide)) (Nat.le_of_ble_eq_true rfl) (Nat.le_of_ble_eq_true rfl) (Nat.le_of_ble_eq_true rfl) dX10_feed_26 (w_X10_push pu4_len (by omega) hN (by exact hs) ?_)
  refine a_aload_n dX10_feed_29 rfl ?_
  refine a_iload dX10_feed_30 rfl ?_
  refine a_callV (mc1 := 0) (ms1 := 0) (As := [_]) kpX10_push kmX10_111 (by decide) rfl (Nat.le_of_ble_eq_true rfl) rfl (by decide) rfl (by decide) (hlt hN (by decide)) (Nat.le_of_ble_eq_true rfl) (Nat.le_of_ble_eq_true rfl) (Nat.le_of_ble_eq_true rfl) dX10_feed_32 (w_X10_push pu4_len (by omega) hN (by exact hs) ?_)
  refine a_aload_n dX10_feed_35 rfl ?_
  refine a_iload dX10_feed_36 rfl ?_
  refine a_callV (mc1 := 0) (ms1 := 0) (As := [_]) kpX10_push kmX10_111 (by decide) rfl (Nat.le_of_ble_eq_true rfl) rfl (by decide) rfl (by decide) (hlt hN (by decide)) (Nat.le_of_ble_eq_true rfl) (Nat.le_of_ble_eq_true rfl) (Nat.le_of_ble_eq_true rfl) dX10_feed_38 (w_X10_push pu4_len (by omega) hN (by exact hs) ?_)
  refine a_aload_n dX10_feed_41 rfl ?_
  refine a_getI kfX10_108 rfl rfl (by decide) (hlt hN (by decide)) dX10_feed_42 ?_
  refine a_iret dX10_feed_45 rfl (by rw [pu4_len]; exact h)

theorem w_X10_feed_out {M : Mem} {N : Nat} {Q : Option Value → Nat → Mem → Prop} {t : Nat} {a b c d e : Int32} (ht : rI M 64 1 = nI t) (h6 : ¬ t + 20 ≤ 60) (h60 : t ≤ 60)  (hN : 94 ≤ N) (hs : Str M.2.2.1) (h : Q (some (.int (-1))) N (M)) : AW mX10_feed 1 0 0 N 0 [(0, .ref 64), (1, .int a), (2, .int b), (3, .int c), (4, .int d), (5, .int e)] [] M Q := by
  refine a_aload_n dX10_feed_0 rfl ?_
  refine a_getI kfX10_108 rfl rfl (by decide) (hlt hN (by decide)) dX10_feed_1 ?_
  refine a_bipush (v := 20) dX10_feed_4 (by decide) ?_
  refine a_iadd dX10_feed_6 ?_
  refine a_bipush (v := 60) dX10_feed_7 (by decide) ?_
  refine a_icmp_le (tgt := 14) dX10_feed_9 (by decide) (fun c_9 => absurd c_9 (by rw [ht, show (20 : Int32) = nI 20 from rfl, nI_add]; exact nI_ge (a := 60) (by omega) (by omega))) (fun c_9 => ?_)
  refine a_iconst (v := (-1)) dX10_feed_12 (by decide) ?_
  refine a_iret dX10_feed_13 rfl h

theorem shn {i : Nat} (hi : i < 6) : ¬ (bI (0 ≤ (nI i).toInt ∧ (nI i).toInt < 6) = 0) := by rw [bI_nz, nIt (by omega)]; omega
theorem num_ok {v : Int32} (h : -9999 ≤ v.toInt ∧ v.toInt ≤ 9999) : ¬ (bI ((-9999 : Int32).toInt ≤ v.toInt ∧ v.toInt ≤ (9999 : Int32).toInt) = 0) := by rw [bI_nz, tI_m9999, tI_9999]; exact h
theorem w_X10_number_in {M : Mem} {N : Nat} {Q : Option Value → Nat → Mem → Prop} {i j : Nat} {v : Int32} (hi : i < 6) (hj : j < 64) (hv : -9999 ≤ v.toInt ∧ v.toInt ≤ 9999)  (hN : 94 ≤ N) (hs : Str M.2.2.1) (h : Q (some (.int 1)) N (sI (sI (sI M 66 (64 * i + j) 1) 67 (64 * i + j) v) 64 21 0)) : AW mX10_number 2 0 0 N 0 [(0, .ref 64), (1, .int (nI i)), (2, .int (nI j)), (3, .int v)] [] M Q := by
  refine a_iload_n dX10_number_0 rfl ?_
  refine a_callS (mc1 := 0) (ms1 := 0) (As := [_]) kpX10_isSheet kmX10_115 (by decide) rfl (Nat.le_of_ble_eq_true rfl) (Nat.le_of_ble_eq_true rfl) (Nat.le_of_ble_eq_true rfl) (Nat.le_of_ble_eq_true rfl) dX10_number_1 (w_X10_isSheet ?_)
  refine a_if_eq (tgt := 27) dX10_number_4 (by decide) (fun c_4 => absurd c_4 (shn hi)) (fun c_4 => ?_)
  refine a_iload_n dX10_number_7 rfl ?_
  refine a_callS (mc1 := 0) (ms1 := 0) (As := [_]) kpX10_isCell kmX10_119 (by decide) rfl (Nat.le_of_ble_eq_true rfl) (Nat.le_of_ble_eq_true rfl) (Nat.le_of_ble_eq_true rfl) (Nat.le_of_ble_eq_true rfl) dX10_number_8 (w_X10_isCell ?_)
  refine a_if_eq (tgt := 27) dX10_number_11 (by decide) (fun c_11 => absurd c_11 (cel_no hj)) (fun c_11 => ?_)
  refine a_iload_n dX10_number_14 rfl ?_
  refine a_sipush (v := (-9999)) dX10_number_15 (by decide) ?_
  refine a_sipush (v := 9999) dX10_number_18 (by decide) ?_
  refine a_callS (mc1 := 0) (ms1 := 0) (As := [_, _, _]) kpX10_lies kmX10_104 (by decide) rfl (Nat.le_of_ble_eq_true rfl) (Nat.le_of_ble_eq_true rfl) (Nat.le_of_ble_eq_true rfl) (Nat.le_of_ble_eq_true rfl) dX10_number_21 (w_X10_lies ?_)
  refine a_if_ne (tgt := 29) dX10_number_24 (by decide) (fun c_24 => ?_) (fun c_24 => absurd c_24 (num_ok hv))
  refine a_aload_n dX10_number_29 rfl ?_
  refine a_getA (z := 66) kfX10_13 rfl rfl (st_64_2 hs) (by decide) (hlt hN (by decide)) dX10_number_30 ?_
  refine a_bipush (v := 64) dX10_number_33 (by decide) ?_
  refine a_iload_n dX10_number_35 rfl ?_
  refine a_imul dX10_number_36 ?_
  refine a_iload_n dX10_number_37 rfl ?_
  refine a_iadd dX10_number_38 ?_
  refine a_iconst (v := 1) dX10_number_39 (by decide) ?_
  refine a_iast rfl (by decide) (hlt hN (by decide)) (show vp_in _ 384 from i64_in hi hj) dX10_number_40 ?_
  refine a_aload_n dX10_number_41 rfl ?_
  refine a_getA (z := 67) kfX10_17 rfl rfl (st_64_3 hs) (by decide) (hlt hN (by decide)) dX10_number_42 ?_
  refine a_bipush (v := 64) dX10_number_45 (by decide) ?_
  refine a_iload_n dX10_number_47 rfl ?_
  refine a_imul dX10_number_48 ?_
  refine a_iload_n dX10_number_49 rfl ?_
  refine a_iadd dX10_number_50 ?_
  refine a_iload_n dX10_number_51 rfl ?_
  refine a_iast rfl (by decide) (hlt hN (by decide)) (show vp_in _ 384 from i64_in hi hj) dX10_number_52 ?_
  refine a_aload_n dX10_number_53 rfl ?_
  refine a_iconst (v := 0) dX10_number_54 (by decide) ?_
  refine a_putZ kfX10_122 rfl rfl rfl (by decide) (by decide) (hlt hN (by decide)) dX10_number_55 ?_
  refine a_iconst (v := 1) dX10_number_58 (by decide) ?_
  refine a_zret dX10_number_59 rfl (by decide) (by rw [i64_c hi hj]; exact h)

theorem w_X10_number_out {M : Mem} {N : Nat} {Q : Option Value → Nat → Mem → Prop} {s c v : Int32} (hc : ¬ ((0 ≤ s.toInt ∧ s.toInt < 6) ∧ (0 ≤ c.toInt ∧ c.toInt < 64) ∧ (-9999 ≤ v.toInt ∧ v.toInt ≤ 9999)))  (hN : 94 ≤ N) (hs : Str M.2.2.1) (h : Q (some (.int 0)) N (M)) : AW mX10_number 2 0 0 N 0 [(0, .ref 64), (1, .int s), (2, .int c), (3, .int v)] [] M Q := by
  refine a_iload_n dX10_number_0 rfl ?_
  refine a_callS (mc1 := 0) (ms1 := 0) (As := [_]) kpX10_isSheet kmX10_115 (by decide) rfl (Nat.le_of_ble_eq_true rfl) (Nat.le_of_ble_eq_true rfl) (Nat.le_of_ble_eq_true rfl) (Nat.le_of_ble_eq_true rfl) dX10_number_1 (w_X10_isSheet ?_)
  refine a_if_eq (tgt := 27) dX10_number_4 (by decide) (fun c_4 => ?_) (fun c_4 => ?_)
  · refine a_iconst (v := 0) dX10_number_27 (by decide) ?_
    refine a_zret dX10_number_28 rfl (by decide) h
  · refine a_iload_n dX10_number_7 rfl ?_
    refine a_callS (mc1 := 0) (ms1 := 0) (As := [_]) kpX10_isCell kmX10_119 (by decide) rfl (Nat.le_of_ble_eq_true rfl) (Nat.le_of_ble_eq_true rfl) (Nat.le_of_ble_eq_true rfl) (Nat.le_of_ble_eq_true rfl) dX10_number_8 (w_X10_isCell ?_)
    refine a_if_eq (tgt := 27) dX10_number_11 (by decide) (fun c_11 => ?_) (fun c_11 => ?_)
    · refine a_iconst (v := 0) dX10_number_27 (by decide) ?_
      refine a_zret dX10_number_28 rfl (by decide) h
    · refine a_iload_n dX10_number_14 rfl ?_
      refine a_sipush (v := (-9999)) dX10_number_15 (by decide) ?_
      refine a_sipush (v := 9999) dX10_number_18 (by decide) ?_
      refine a_callS (mc1 := 0) (ms1 := 0) (As := [_, _, _]) kpX10_lies kmX10_104 (by decide) rfl (Nat.le_of_ble_eq_true rfl) (Nat.le_of_ble_eq_true rfl) (Nat.le_of_ble_eq_true rfl) (Nat.le_of_ble_eq_true rfl) dX10_number_21 (w_X10_lies ?_)
      refine a_if_ne (tgt := 29) dX10_number_24 (by decide) (fun c_24 => ?_) (fun c_24 => ?_)
      · exact absurd ⟨bI_nz.mp c_4, bI_nz.mp c_11, by rw [bI_nz, tI_m9999, tI_9999] at c_24; exact c_24⟩ hc
      · refine a_iconst (v := 0) dX10_number_27 (by decide) ?_
        refine a_zret dX10_number_28 rfl (by decide) h

theorem w_X10_clear_in {M : Mem} {N : Nat} {Q : Option Value → Nat → Mem → Prop} {i j : Nat} (hi : i < 6) (hj : j < 64) (hw : ¬ rI M 66 (64 * i + j) = 0)  (hN : 94 ≤ N) (hs : Str M.2.2.1) (h : Q (some (.int 1)) N (sI (sI M 66 (64 * i + j) 0) 64 21 0)) : AW mX10_clear 2 0 0 N 0 [(0, .ref 64), (1, .int (nI i)), (2, .int (nI j))] [] M Q := by
  refine a_iload_n dX10_clear_0 rfl ?_
  refine a_callS (mc1 := 0) (ms1 := 0) (As := [_]) kpX10_isSheet kmX10_115 (by decide) rfl (Nat.le_of_ble_eq_true rfl) (Nat.le_of_ble_eq_true rfl) (Nat.le_of_ble_eq_true rfl) (Nat.le_of_ble_eq_true rfl) dX10_clear_1 (w_X10_isSheet ?_)
  refine a_if_eq (tgt := 28) dX10_clear_4 (by decide) (fun c_4 => absurd c_4 (shn hi)) (fun c_4 => ?_)
  refine a_iload_n dX10_clear_7 rfl ?_
  refine a_callS (mc1 := 0) (ms1 := 0) (As := [_]) kpX10_isCell kmX10_119 (by decide) rfl (Nat.le_of_ble_eq_true rfl) (Nat.le_of_ble_eq_true rfl) (Nat.le_of_ble_eq_true rfl) (Nat.le_of_ble_eq_true rfl) dX10_clear_8 (w_X10_isCell ?_)
  refine a_if_eq (tgt := 28) dX10_clear_11 (by decide) (fun c_11 => absurd c_11 (cel_no hj)) (fun c_11 => ?_)
  refine a_aload_n dX10_clear_14 rfl ?_
  refine a_getA (z := 66) kfX10_13 rfl rfl (st_64_2 hs) (by decide) (hlt hN (by decide)) dX10_clear_15 ?_
  refine a_bipush (v := 64) dX10_clear_18 (by decide) ?_
  refine a_iload_n dX10_clear_20 rfl ?_
  refine a_imul dX10_clear_21 ?_
  refine a_iload_n dX10_clear_22 rfl ?_
  refine a_iadd dX10_clear_23 ?_
  refine a_iald rfl (by decide) (hlt hN (by decide)) (show vp_in _ 384 from i64_in hi hj) dX10_clear_24 ?_
  refine a_if_ne (tgt := 30) dX10_clear_25 (by decide) (fun c_25 => ?_) (fun c_25 => absurd c_25 (by rw [i64_c hi hj]; exact hw))
  refine a_aload_n dX10_clear_30 rfl ?_
  refine a_getA (z := 66) kfX10_13 rfl rfl (st_64_2 hs) (by decide) (hlt hN (by decide)) dX10_clear_31 ?_
  refine a_bipush (v := 64) dX10_clear_34 (by decide) ?_
  refine a_iload_n dX10_clear_36 rfl ?_
  refine a_imul dX10_clear_37 ?_
  refine a_iload_n dX10_clear_38 rfl ?_
  refine a_iadd dX10_clear_39 ?_
  refine a_iconst (v := 0) dX10_clear_40 (by decide) ?_
  refine a_iast rfl (by decide) (hlt hN (by decide)) (show vp_in _ 384 from i64_in hi hj) dX10_clear_41 ?_
  refine a_aload_n dX10_clear_42 rfl ?_
  refine a_iconst (v := 0) dX10_clear_43 (by decide) ?_
  refine a_putZ kfX10_122 rfl rfl rfl (by decide) (by decide) (hlt hN (by decide)) dX10_clear_44 ?_
  refine a_iconst (v := 1) dX10_clear_47 (by decide) ?_
  refine a_zret dX10_clear_48 rfl (by decide) (by rw [i64_c hi hj]; exact h)

theorem w_X10_clear_z {M : Mem} {N : Nat} {Q : Option Value → Nat → Mem → Prop} {i j : Nat} (hi : i < 6) (hj : j < 64) (hw : rI M 66 (64 * i + j) = 0)  (hN : 94 ≤ N) (hs : Str M.2.2.1) (h : Q (some (.int 0)) N (M)) : AW mX10_clear 2 0 0 N 0 [(0, .ref 64), (1, .int (nI i)), (2, .int (nI j))] [] M Q := by
  refine a_iload_n dX10_clear_0 rfl ?_
  refine a_callS (mc1 := 0) (ms1 := 0) (As := [_]) kpX10_isSheet kmX10_115 (by decide) rfl (Nat.le_of_ble_eq_true rfl) (Nat.le_of_ble_eq_true rfl) (Nat.le_of_ble_eq_true rfl) (Nat.le_of_ble_eq_true rfl) dX10_clear_1 (w_X10_isSheet ?_)
  refine a_if_eq (tgt := 28) dX10_clear_4 (by decide) (fun c_4 => absurd c_4 (shn hi)) (fun c_4 => ?_)
  refine a_iload_n dX10_clear_7 rfl ?_
  refine a_callS (mc1 := 0) (ms1 := 0) (As := [_]) kpX10_isCell kmX10_119 (by decide) rfl (Nat.le_of_ble_eq_true rfl) (Nat.le_of_ble_eq_true rfl) (Nat.le_of_ble_eq_true rfl) (Nat.le_of_ble_eq_true rfl) dX10_clear_8 (w_X10_isCell ?_)
  refine a_if_eq (tgt := 28) dX10_clear_11 (by decide) (fun c_11 => absurd c_11 (cel_no hj)) (fun c_11 => ?_)
  refine a_aload_n dX10_clear_14 rfl ?_
  refine a_getA (z := 66) kfX10_13 rfl rfl (st_64_2 hs) (by decide) (hlt hN (by decide)) dX10_clear_15 ?_
  refine a_bipush (v := 64) dX10_clear_18 (by decide) ?_
  refine a_iload_n dX10_clear_20 rfl ?_
  refine a_imul dX10_clear_21 ?_
  refine a_iload_n dX10_clear_22 rfl ?_
  refine a_iadd dX10_clear_23 ?_
  refine a_iald rfl (by decide) (hlt hN (by decide)) (show vp_in _ 384 from i64_in hi hj) dX10_clear_24 ?_
  refine a_if_ne (tgt := 30) dX10_clear_25 (by decide) (fun c_25 => absurd (by rw [i64_c hi hj]; exact hw) c_25) (fun c_25 => ?_)
  refine a_iconst (v := 0) dX10_clear_28 (by decide) ?_
  refine a_zret dX10_clear_29 rfl (by decide) h

theorem w_X10_clear_out {M : Mem} {N : Nat} {Q : Option Value → Nat → Mem → Prop} {s c : Int32} (hc : ¬ ((0 ≤ s.toInt ∧ s.toInt < 6) ∧ (0 ≤ c.toInt ∧ c.toInt < 64)))  (hN : 94 ≤ N) (hs : Str M.2.2.1) (h : Q (some (.int 0)) N (M)) : AW mX10_clear 2 0 0 N 0 [(0, .ref 64), (1, .int s), (2, .int c)] [] M Q := by
  refine a_iload_n dX10_clear_0 rfl ?_
  refine a_callS (mc1 := 0) (ms1 := 0) (As := [_]) kpX10_isSheet kmX10_115 (by decide) rfl (Nat.le_of_ble_eq_true rfl) (Nat.le_of_ble_eq_true rfl) (Nat.le_of_ble_eq_true rfl) (Nat.le_of_ble_eq_true rfl) dX10_clear_1 (w_X10_isSheet ?_)
  refine a_if_eq (tgt := 28) dX10_clear_4 (by decide) (fun c_4 => ?_) (fun c_4 => ?_)
  · refine a_iconst (v := 0) dX10_clear_28 (by decide) ?_
    refine a_zret dX10_clear_29 rfl (by decide) h
  · refine a_iload_n dX10_clear_7 rfl ?_
    refine a_callS (mc1 := 0) (ms1 := 0) (As := [_]) kpX10_isCell kmX10_119 (by decide) rfl (Nat.le_of_ble_eq_true rfl) (Nat.le_of_ble_eq_true rfl) (Nat.le_of_ble_eq_true rfl) (Nat.le_of_ble_eq_true rfl) dX10_clear_8 (w_X10_isCell ?_)
    refine a_if_eq (tgt := 28) dX10_clear_11 (by decide) (fun c_11 => ?_) (fun c_11 => ?_)
    · refine a_iconst (v := 0) dX10_clear_28 (by decide) ?_
      refine a_zret dX10_clear_29 rfl (by decide) h
    · exact absurd ⟨bI_nz.mp c_4, bI_nz.mp c_11⟩ hc

theorem w_X10_input_in {M : Mem} {N : Nat} {Q : Option Value → Nat → Mem → Prop} {j : Nat} (hj : j < 64) (hc : rI M 77 j = 0 ∧ ¬ (0 < (rI M 78 j).toInt) ∧ ¬ rI M 64 15 = 8)  (hN : 94 ≤ N) (hs : Str M.2.2.1) (h : Q (some (.int 1)) N (sI (sI (sI M 77 j 1) 64 15 (rI M 64 15 + 1)) 64 21 0)) : AW mX10_input 2 0 0 N 0 [(0, .ref 64), (1, .int (nI j))] [] M Q := by
  refine a_iload_n dX10_input_0 rfl ?_
  refine a_callS (mc1 := 0) (ms1 := 0) (As := [_]) kpX10_isCell kmX10_119 (by decide) rfl (Nat.le_of_ble_eq_true rfl) (Nat.le_of_ble_eq_true rfl) (Nat.le_of_ble_eq_true rfl) (Nat.le_of_ble_eq_true rfl) dX10_input_1 (w_X10_isCell ?_)
  refine a_if_eq (tgt := 33) dX10_input_4 (by decide) (fun c_4 => absurd c_4 (cel_no hj)) (fun c_4 => ?_)
  refine a_aload_n dX10_input_7 rfl ?_
  refine a_getA (z := 77) kfX10_48 rfl rfl (st_64_13 hs) (by decide) (hlt hN (by decide)) dX10_input_8 ?_
  refine a_iload_n dX10_input_11 rfl ?_
  refine a_zald rfl (by decide) (hlt hN (by decide)) (show vp_in _ 64 from j64_in hj) dX10_input_12 ?_
  refine a_if_ne (tgt := 33) dX10_input_13 (by decide) (fun c_13 => absurd (by rw [j64_c hj]; exact hc.1) c_13) (fun c_13 => ?_)
  refine a_aload_n dX10_input_16 rfl ?_
  refine a_iload_n dX10_input_17 rfl ?_
  refine a_callV (mc1 := 0) (ms1 := 0) (As := [_]) kpX10_isWanted kmX10_201 (by decide) rfl (Nat.le_of_ble_eq_true rfl) rfl (by decide) rfl (by decide) (hlt hN (by decide)) (Nat.le_of_ble_eq_true rfl) (Nat.le_of_ble_eq_true rfl) (Nat.le_of_ble_eq_true rfl) dX10_input_18 (w_X10_isWanted hj hN hs ?_)
  refine a_if_ne (tgt := 33) dX10_input_21 (by decide) (fun c_21 => absurd (bI_z.mpr hc.2.1) c_21) (fun c_21 => ?_)
  refine a_aload_n dX10_input_24 rfl ?_
  refine a_getI kfX10_204 rfl rfl (by decide) (hlt hN (by decide)) dX10_input_25 ?_
  refine a_bipush (v := 8) dX10_input_28 (by decide) ?_
  refine a_icmp_ne (tgt := 35) dX10_input_30 (by decide) (fun c_30 => ?_) (fun c_30 => absurd c_30 hc.2.2)
  refine a_aload_n dX10_input_35 rfl ?_
  refine a_getA (z := 77) kfX10_48 rfl rfl (st_64_13 hs) (by decide) (hlt hN (by decide)) dX10_input_36 ?_
  refine a_iload_n dX10_input_39 rfl ?_
  refine a_iconst (v := 1) dX10_input_40 (by decide) ?_
  refine a_zast rfl (by decide) (hlt hN (by decide)) (show vp_in _ 64 from j64_in hj) rfl dX10_input_41 ?_
  refine a_aload_n dX10_input_42 rfl ?_
  refine a_dup dX10_input_43 rfl ?_
  refine a_getI kfX10_204 rfl rfl (by decide) (hlt hN (by decide)) dX10_input_44 ?_
  refine a_iconst (v := 1) dX10_input_47 (by decide) ?_
  refine a_iadd dX10_input_48 ?_
  refine a_putI kfX10_204 rfl rfl rfl (by decide) (hlt hN (by decide)) dX10_input_49 ?_
  refine a_aload_n dX10_input_52 rfl ?_
  refine a_iconst (v := 0) dX10_input_53 (by decide) ?_
  refine a_putZ kfX10_122 rfl rfl rfl (by decide) (by decide) (hlt hN (by decide)) dX10_input_54 ?_
  refine a_iconst (v := 1) dX10_input_57 (by decide) ?_
  refine a_zret dX10_input_58 rfl (by decide) (by rw [j64_c hj, rI_sI, if_neg (by omega)]; exact h)

theorem w_X10_input_no {M : Mem} {N : Nat} {Q : Option Value → Nat → Mem → Prop} {j : Nat} (hj : j < 64) (hc : ¬ (rI M 77 j = 0 ∧ ¬ (0 < (rI M 78 j).toInt) ∧ ¬ rI M 64 15 = 8))  (hN : 94 ≤ N) (hs : Str M.2.2.1) (h : Q (some (.int 0)) N (M)) : AW mX10_input 2 0 0 N 0 [(0, .ref 64), (1, .int (nI j))] [] M Q := by
  refine a_iload_n dX10_input_0 rfl ?_
  refine a_callS (mc1 := 0) (ms1 := 0) (As := [_]) kpX10_isCell kmX10_119 (by decide) rfl (Nat.le_of_ble_eq_true rfl) (Nat.le_of_ble_eq_true rfl) (Nat.le_of_ble_eq_true rfl) (Nat.le_of_ble_eq_true rfl) dX10_input_1 (w_X10_isCell ?_)
  refine a_if_eq (tgt := 33) dX10_input_4 (by decide) (fun c_4 => absurd c_4 (cel_no hj)) (fun c_4 => ?_)
  refine a_aload_n dX10_input_7 rfl ?_
  refine a_getA (z := 77) kfX10_48 rfl rfl (st_64_13 hs) (by decide) (hlt hN (by decide)) dX10_input_8 ?_
  refine a_iload_n dX10_input_11 rfl ?_
  refine a_zald rfl (by decide) (hlt hN (by decide)) (show vp_in _ 64 from j64_in hj) dX10_input_12 ?_
  refine a_if_ne (tgt := 33) dX10_input_13 (by decide) (fun c_13 => ?_) (fun c_13 => ?_)
  · refine a_iconst (v := 0) dX10_input_33 (by decide) ?_
    refine a_zret dX10_input_34 rfl (by decide) h
  · refine a_aload_n dX10_input_16 rfl ?_
    refine a_iload_n dX10_input_17 rfl ?_
    refine a_callV (mc1 := 0) (ms1 := 0) (As := [_]) kpX10_isWanted kmX10_201 (by decide) rfl (Nat.le_of_ble_eq_true rfl) rfl (by decide) rfl (by decide) (hlt hN (by decide)) (Nat.le_of_ble_eq_true rfl) (Nat.le_of_ble_eq_true rfl) (Nat.le_of_ble_eq_true rfl) dX10_input_18 (w_X10_isWanted hj hN hs ?_)
    refine a_if_ne (tgt := 33) dX10_input_21 (by decide) (fun c_21 => ?_) (fun c_21 => ?_)
    · refine a_iconst (v := 0) dX10_input_33 (by decide) ?_
      refine a_zret dX10_input_34 rfl (by decide) h
    · refine a_aload_n dX10_input_24 rfl ?_
      refine a_getI kfX10_204 rfl rfl (by decide) (hlt hN (by decide)) dX10_input_25 ?_
      refine a_bipush (v := 8) dX10_input_28 (by decide) ?_
      refine a_icmp_ne (tgt := 35) dX10_input_30 (by decide) (fun c_30 => ?_) (fun c_30 => ?_)
      · exact absurd ⟨by rw [← j64_c hj]; exact c_13, bI_z.mp c_21, c_30⟩ hc
      · refine a_iconst (v := 0) dX10_input_33 (by decide) ?_
        refine a_zret dX10_input_34 rfl (by decide) h

theorem w_X10_input_out {M : Mem} {N : Nat} {Q : Option Value → Nat → Mem → Prop} {c : Int32} (hc : ¬ (0 ≤ c.toInt ∧ c.toInt < 64))  (hN : 94 ≤ N) (hs : Str M.2.2.1) (h : Q (some (.int 0)) N (M)) : AW mX10_input 2 0 0 N 0 [(0, .ref 64), (1, .int c)] [] M Q := by
  refine a_iload_n dX10_input_0 rfl ?_
  refine a_callS (mc1 := 0) (ms1 := 0) (As := [_]) kpX10_isCell kmX10_119 (by decide) rfl (Nat.le_of_ble_eq_true rfl) (Nat.le_of_ble_eq_true rfl) (Nat.le_of_ble_eq_true rfl) (Nat.le_of_ble_eq_true rfl) dX10_input_1 (w_X10_isCell ?_)
  refine a_if_eq (tgt := 33) dX10_input_4 (by decide) (fun c_4 => ?_) (fun c_4 => absurd (bI_z.mpr hc) c_4)
  refine a_iconst (v := 0) dX10_input_33 (by decide) ?_
  refine a_zret dX10_input_34 rfl (by decide) h

theorem pts_ok {v : Int32} : (bI ((1 : Int32).toInt ≤ v.toInt ∧ v.toInt ≤ (100 : Int32).toInt) = 0) ↔ ¬ (1 ≤ v.toInt ∧ v.toInt ≤ 100) := by rw [bI_z, tI_1, tI_100]
theorem w_X10_wants_in {M : Mem} {N : Nat} {Q : Option Value → Nat → Mem → Prop} {j : Nat} (hj : j < 64) {v : Int32} (hc : rI M 77 j = 0 ∧ (1 ≤ v.toInt ∧ v.toInt ≤ 100) ∧ (0 < (rI M 78 j).toInt ∨ ¬ rI M 64 16 = 16))  (hN : 94 ≤ N) (hs : Str M.2.2.1) (h : Q (some (.int 1)) N (sI (sI (sI M 64 16 (rI M 64 16 + (if 0 < (rI M 78 j).toInt then 0 else 1))) 78 j v) 64 21 0)) : AW mX10_wants 2 0 0 N 0 [(0, .ref 64), (1, .int (nI j)), (2, .int v)] [] M Q := by
  refine a_iload_n dX10_wants_0 rfl ?_
  refine a_callS (mc1 := 0) (ms1 := 0) (As := [_]) kpX10_isCell kmX10_119 (by decide) rfl (Nat.le_of_ble_eq_true rfl) (Nat.le_of_ble_eq_true rfl) (Nat.le_of_ble_eq_true rfl) (Nat.le_of_ble_eq_true rfl) dX10_wants_1 (w_X10_isCell ?_)
  refine a_if_eq (tgt := 43) dX10_wants_4 (by decide) (fun c_4 => absurd c_4 (cel_no hj)) (fun c_4 => ?_)
  refine a_aload_n dX10_wants_7 rfl ?_
  refine a_getA (z := 77) kfX10_48 rfl rfl (st_64_13 hs) (by decide) (hlt hN (by decide)) dX10_wants_8 ?_
  refine a_iload_n dX10_wants_11 rfl ?_
  refine a_zald rfl (by decide) (hlt hN (by decide)) (show vp_in _ 64 from j64_in hj) dX10_wants_12 ?_
  refine a_if_ne (tgt := 43) dX10_wants_13 (by decide) (fun c_13 => absurd (by rw [j64_c hj]; exact hc.1) c_13) (fun c_13 => ?_)
  refine a_iload_n dX10_wants_16 rfl ?_
  refine a_iconst (v := 1) dX10_wants_17 (by decide) ?_
  refine a_bipush (v := 100) dX10_wants_18 (by decide) ?_
  refine a_callS (mc1 := 0) (ms1 := 0) (As := [_, _, _]) kpX10_lies kmX10_104 (by decide) rfl (Nat.le_of_ble_eq_true rfl) (Nat.le_of_ble_eq_true rfl) (Nat.le_of_ble_eq_true rfl) (Nat.le_of_ble_eq_true rfl) dX10_wants_20 (w_X10_lies ?_)
  refine a_if_eq (tgt := 43) dX10_wants_23 (by decide) (fun c_23 => absurd c_23 (fun z => (pts_ok.mp z) hc.2.1)) (fun c_23 => ?_)
  refine a_aload_n dX10_wants_26 rfl ?_
  refine a_iload_n dX10_wants_27 rfl ?_
  refine a_callV (mc1 := 0) (ms1 := 0) (As := [_]) kpX10_isWanted kmX10_201 (by decide) rfl (Nat.le_of_ble_eq_true rfl) rfl (by decide) rfl (by decide) (hlt hN (by decide)) (Nat.le_of_ble_eq_true rfl) (Nat.le_of_ble_eq_true rfl) (Nat.le_of_ble_eq_true rfl) dX10_wants_28 (w_X10_isWanted hj hN hs ?_)
  refine a_if_ne (tgt := 45) dX10_wants_31 (by decide) (fun c_31 => ?_) (fun c_31 => ?_)
  · refine a_aload_n dX10_wants_45 rfl ?_
    refine a_dup dX10_wants_46 rfl ?_
    refine a_getI kfX10_207 rfl rfl (by decide) (hlt hN (by decide)) dX10_wants_47 ?_
    refine a_aload_n dX10_wants_50 rfl ?_
    refine a_iload_n dX10_wants_51 rfl ?_
    refine a_callV (mc1 := 0) (ms1 := 0) (As := [_]) kpX10_isWanted kmX10_201 (by decide) rfl (Nat.le_of_ble_eq_true rfl) rfl (by decide) rfl (by decide) (hlt hN (by decide)) (Nat.le_of_ble_eq_true rfl) (Nat.le_of_ble_eq_true rfl) (Nat.le_of_ble_eq_true rfl) dX10_wants_52 (w_X10_isWanted hj hN hs ?_)
    refine a_if_eq (tgt := 62) dX10_wants_55 (by decide) (fun c_55 => ?_) (fun c_55 => ?_)
    · refine a_iconst (v := 1) dX10_wants_62 (by decide) ?_
      refine a_iadd dX10_wants_63 ?_
      refine a_putI kfX10_207 rfl rfl rfl (by decide) (hlt hN (by decide)) dX10_wants_64 ?_
      refine a_aload_n dX10_wants_67 rfl ?_
      refine a_getA (z := 78) kfX10_52 rfl rfl (st_64_14 hs) (by decide) (hlt hN (by decide)) dX10_wants_68 ?_
      refine a_iload_n dX10_wants_71 rfl ?_
      refine a_iload_n dX10_wants_72 rfl ?_
      refine a_iast rfl (by decide) (hlt hN (by decide)) (show vp_in _ 64 from j64_in hj) dX10_wants_73 ?_
      refine a_aload_n dX10_wants_74 rfl ?_
      refine a_iconst (v := 0) dX10_wants_75 (by decide) ?_
      refine a_putZ kfX10_122 rfl rfl rfl (by decide) (by decide) (hlt hN (by decide)) dX10_wants_76 ?_
      refine a_iconst (v := 1) dX10_wants_79 (by decide) ?_
      refine a_zret dX10_wants_80 rfl (by decide) (by rw [j64_c hj]; first | (rw [if_pos (bI_nz.mp c_55)] at h; exact h) | (rw [if_neg (bI_z.mp c_55)] at h; exact h))
    · refine a_iconst (v := 0) dX10_wants_58 (by decide) ?_
      refine a_goto (tgt := 63) dX10_wants_59 (by decide) ?_
      refine a_iadd dX10_wants_63 ?_
      refine a_putI kfX10_207 rfl rfl rfl (by decide) (hlt hN (by decide)) dX10_wants_64 ?_
      refine a_aload_n dX10_wants_67 rfl ?_
      refine a_getA (z := 78) kfX10_52 rfl rfl (st_64_14 hs) (by decide) (hlt hN (by decide)) dX10_wants_68 ?_
      refine a_iload_n dX10_wants_71 rfl ?_
      refine a_iload_n dX10_wants_72 rfl ?_
      refine a_iast rfl (by decide) (hlt hN (by decide)) (show vp_in _ 64 from j64_in hj) dX10_wants_73 ?_
      refine a_aload_n dX10_wants_74 rfl ?_
      refine a_iconst (v := 0) dX10_wants_75 (by decide) ?_
      refine a_putZ kfX10_122 rfl rfl rfl (by decide) (by decide) (hlt hN (by decide)) dX10_wants_76 ?_
      refine a_iconst (v := 1) dX10_wants_79 (by decide) ?_
      refine a_zret dX10_wants_80 rfl (by decide) (by rw [j64_c hj]; first | (rw [if_pos (bI_nz.mp c_55)] at h; exact h) | (rw [if_neg (bI_z.mp c_55)] at h; exact h))
  · refine a_aload_n dX10_wants_34 rfl ?_
    refine a_getI kfX10_207 rfl rfl (by decide) (hlt hN (by decide)) dX10_wants_35 ?_
    refine a_bipush (v := 16) dX10_wants_38 (by decide) ?_
    refine a_icmp_ne (tgt := 45) dX10_wants_40 (by decide) (fun c_40 => ?_) (fun c_40 => ?_)
    · refine a_aload_n dX10_wants_45 rfl ?_
      refine a_dup dX10_wants_46 rfl ?_
      refine a_getI kfX10_207 rfl rfl (by decide) (hlt hN (by decide)) dX10_wants_47 ?_
      refine a_aload_n dX10_wants_50 rfl ?_
      refine a_iload_n dX10_wants_51 rfl ?_
      refine a_callV (mc1 := 0) (ms1 := 0) (As := [_]) kpX10_isWanted kmX10_201 (by decide) rfl (Nat.le_of_ble_eq_true rfl) rfl (by decide) rfl (by decide) (hlt hN (by decide)) (Nat.le_of_ble_eq_true rfl) (Nat.le_of_ble_eq_true rfl) (Nat.le_of_ble_eq_true rfl) dX10_wants_52 (w_X10_isWanted hj hN hs ?_)
      refine a_if_eq (tgt := 62) dX10_wants_55 (by decide) (fun c_55 => ?_) (fun c_55 => ?_)
      · refine a_iconst (v := 1) dX10_wants_62 (by decide) ?_
        refine a_iadd dX10_wants_63 ?_
        refine a_putI kfX10_207 rfl rfl rfl (by decide) (hlt hN (by decide)) dX10_wants_64 ?_
        refine a_aload_n dX10_wants_67 rfl ?_
        refine a_getA (z := 78) kfX10_52 rfl rfl (st_64_14 hs) (by decide) (hlt hN (by decide)) dX10_wants_68 ?_
        refine a_iload_n dX10_wants_71 rfl ?_
        refine a_iload_n dX10_wants_72 rfl ?_
        refine a_iast rfl (by decide) (hlt hN (by decide)) (show vp_in _ 64 from j64_in hj) dX10_wants_73 ?_
        refine a_aload_n dX10_wants_74 rfl ?_
        refine a_iconst (v := 0) dX10_wants_75 (by decide) ?_
        refine a_putZ kfX10_122 rfl rfl rfl (by decide) (by decide) (hlt hN (by decide)) dX10_wants_76 ?_
        refine a_iconst (v := 1) dX10_wants_79 (by decide) ?_
        refine a_zret dX10_wants_80 rfl (by decide) (by rw [j64_c hj]; first | (rw [if_pos (bI_nz.mp c_55)] at h; exact h) | (rw [if_neg (bI_z.mp c_55)] at h; exact h))
      · refine a_iconst (v := 0) dX10_wants_58 (by decide) ?_
        refine a_goto (tgt := 63) dX10_wants_59 (by decide) ?_
        refine a_iadd dX10_wants_63 ?_
        refine a_putI kfX10_207 rfl rfl rfl (by decide) (hlt hN (by decide)) dX10_wants_64 ?_
        refine a_aload_n dX10_wants_67 rfl ?_
        refine a_getA (z := 78) kfX10_52 rfl rfl (st_64_14 hs) (by decide) (hlt hN (by decide)) dX10_wants_68 ?_
        refine a_iload_n dX10_wants_71 rfl ?_
        refine a_iload_n dX10_wants_72 rfl ?_
        refine a_iast rfl (by decide) (hlt hN (by decide)) (show vp_in _ 64 from j64_in hj) dX10_wants_73 ?_
        refine a_aload_n dX10_wants_74 rfl ?_
        refine a_iconst (v := 0) dX10_wants_75 (by decide) ?_
        refine a_putZ kfX10_122 rfl rfl rfl (by decide) (by decide) (hlt hN (by decide)) dX10_wants_76 ?_
        refine a_iconst (v := 1) dX10_wants_79 (by decide) ?_
        refine a_zret dX10_wants_80 rfl (by decide) (by rw [j64_c hj]; first | (rw [if_pos (bI_nz.mp c_55)] at h; exact h) | (rw [if_neg (bI_z.mp c_55)] at h; exact h))
    · exact absurd (hc.2.2.resolve_left (bI_z.mp c_31)) (fun z => z c_40)

theorem w_X10_wants_no {M : Mem} {N : Nat} {Q : Option Value → Nat → Mem → Prop} {j : Nat} (hj : j < 64) {v : Int32} (hc : ¬ (rI M 77 j = 0 ∧ (1 ≤ v.toInt ∧ v.toInt ≤ 100) ∧ (0 < (rI M 78 j).toInt ∨ ¬ rI M 64 16 = 16)))  (hN : 94 ≤ N) (hs : Str M.2.2.1) (h : Q (some (.int 0)) N (M)) : AW mX10_wants 2 0 0 N 0 [(0, .ref 64), (1, .int (nI j)), (2, .int v)] [] M Q := by
  refine a_iload_n dX10_wants_0 rfl ?_
  refine a_callS (mc1 := 0) (ms1 := 0) (As := [_]) kpX10_isCell kmX10_119 (by decide) rfl (Nat.le_of_ble_eq_true rfl) (Nat.le_of_ble_eq_true rfl) (Nat.le_of_ble_eq_true rfl) (Nat.le_of_ble_eq_true rfl) dX10_wants_1 (w_X10_isCell ?_)
  refine a_if_eq (tgt := 43) dX10_wants_4 (by decide) (fun c_4 => absurd c_4 (cel_no hj)) (fun c_4 => ?_)
  refine a_aload_n dX10_wants_7 rfl ?_
  refine a_getA (z := 77) kfX10_48 rfl rfl (st_64_13 hs) (by decide) (hlt hN (by decide)) dX10_wants_8 ?_
  refine a_iload_n dX10_wants_11 rfl ?_
  refine a_zald rfl (by decide) (hlt hN (by decide)) (show vp_in _ 64 from j64_in hj) dX10_wants_12 ?_
  refine a_if_ne (tgt := 43) dX10_wants_13 (by decide) (fun c_13 => ?_) (fun c_13 => ?_)
  · refine a_iconst (v := 0) dX10_wants_43 (by decide) ?_
    refine a_zret dX10_wants_44 rfl (by decide) h
  · refine a_iload_n dX10_wants_16 rfl ?_
    refine a_iconst (v := 1) dX10_wants_17 (by decide) ?_
    refine a_bipush (v := 100) dX10_wants_18 (by decide) ?_
    refine a_callS (mc1 := 0) (ms1 := 0) (As := [_, _, _]) kpX10_lies kmX10_104 (by decide) rfl (Nat.le_of_ble_eq_true rfl) (Nat.le_of_ble_eq_true rfl) (Nat.le_of_ble_eq_true rfl) (Nat.le_of_ble_eq_true rfl) dX10_wants_20 (w_X10_lies ?_)
    refine a_if_eq (tgt := 43) dX10_wants_23 (by decide) (fun c_23 => ?_) (fun c_23 => ?_)
    · refine a_iconst (v := 0) dX10_wants_43 (by decide) ?_
      refine a_zret dX10_wants_44 rfl (by decide) h
    · refine a_aload_n dX10_wants_26 rfl ?_
      refine a_iload_n dX10_wants_27 rfl ?_
      refine a_callV (mc1 := 0) (ms1 := 0) (As := [_]) kpX10_isWanted kmX10_201 (by decide) rfl (Nat.le_of_ble_eq_true rfl) rfl (by decide) rfl (by decide) (hlt hN (by decide)) (Nat.le_of_ble_eq_true rfl) (Nat.le_of_ble_eq_true rfl) (Nat.le_of_ble_eq_true rfl) dX10_wants_28 (w_X10_isWanted hj hN hs ?_)
      refine a_if_ne (tgt := 45) dX10_wants_31 (by decide) (fun c_31 => ?_) (fun c_31 => ?_)
      · exact absurd ⟨by rw [← j64_c hj]; exact c_13, Classical.not_not.mp (fun z => c_23 (pts_ok.mpr z)), by first | exact Or.inl (bI_nz.mp c_31) | exact Or.inr c_40⟩ hc
      · refine a_aload_n dX10_wants_34 rfl ?_
        refine a_getI kfX10_207 rfl rfl (by decide) (hlt hN (by decide)) dX10_wants_35 ?_
        refine a_bipush (v := 16) dX10_wants_38 (by decide) ?_
        refine a_icmp_ne (tgt := 45) dX10_wants_40 (by decide) (fun c_40 => ?_) (fun c_40 => ?_)
        · exact absurd ⟨by rw [← j64_c hj]; exact c_13, Classical.not_not.mp (fun z => c_23 (pts_ok.mpr z)), by first | exact Or.inl (bI_nz.mp c_31) | exact Or.inr c_40⟩ hc
        · refine a_iconst (v := 0) dX10_wants_43 (by decide) ?_
          refine a_zret dX10_wants_44 rfl (by decide) h

theorem w_X10_wants_out {M : Mem} {N : Nat} {Q : Option Value → Nat → Mem → Prop} {c v : Int32} (hc : ¬ (0 ≤ c.toInt ∧ c.toInt < 64))  (hN : 94 ≤ N) (hs : Str M.2.2.1) (h : Q (some (.int 0)) N (M)) : AW mX10_wants 2 0 0 N 0 [(0, .ref 64), (1, .int c), (2, .int v)] [] M Q := by
  refine a_iload_n dX10_wants_0 rfl ?_
  refine a_callS (mc1 := 0) (ms1 := 0) (As := [_]) kpX10_isCell kmX10_119 (by decide) rfl (Nat.le_of_ble_eq_true rfl) (Nat.le_of_ble_eq_true rfl) (Nat.le_of_ble_eq_true rfl) (Nat.le_of_ble_eq_true rfl) dX10_wants_1 (w_X10_isCell ?_)
  refine a_if_eq (tgt := 43) dX10_wants_4 (by decide) (fun c_4 => ?_) (fun c_4 => absurd (bI_z.mpr hc) c_4)
  refine a_iconst (v := 0) dX10_wants_43 (by decide) ?_
  refine a_zret dX10_wants_44 rfl (by decide) h

theorem w_X10_world_in {M : Mem} {N : Nat} {Q : Option Value → Nat → Mem → Prop} {n : Nat} (hw : rI M 64 17 = nI n) (hn : n < 6)  (hN : 94 ≤ N) (hs : Str M.2.2.1) (h : Q (some (.int (nI n))) N (sI (sI M 64 17 (nI (n + 1))) 64 21 0)) : AW mX10_world 0 0 0 N 0 [(0, .ref 64)] [] M Q := by
  refine a_aload_n dX10_world_0 rfl ?_
  refine a_getI kfX10_210 rfl rfl (by decide) (hlt hN (by decide)) dX10_world_1 ?_
  refine a_bipush (v := 6) dX10_world_4 (by decide) ?_
  refine a_icmp_ne (tgt := 11) dX10_world_6 (by decide) (fun c_6 => ?_) (fun c_6 => absurd c_6 (by rw [hw]; exact fun z => absurd ((nI_eq (b := 6) (by omega) (by decide)).mp z) (by omega)))
  refine a_aload_n dX10_world_11 rfl ?_
  refine a_dup dX10_world_12 rfl ?_
  refine a_getI kfX10_210 rfl rfl (by decide) (hlt hN (by decide)) dX10_world_13 ?_
  refine a_iconst (v := 1) dX10_world_16 (by decide) ?_
  refine a_iadd dX10_world_17 ?_
  refine a_putI kfX10_210 rfl rfl rfl (by decide) (hlt hN (by decide)) dX10_world_18 ?_
  refine a_aload_n dX10_world_21 rfl ?_
  refine a_iconst (v := 0) dX10_world_22 (by decide) ?_
  refine a_putZ kfX10_122 rfl rfl rfl (by decide) (by decide) (hlt hN (by decide)) dX10_world_23 ?_
  refine a_aload_n dX10_world_26 rfl ?_
  refine a_getI kfX10_210 rfl rfl (by decide) (hlt hN (by decide)) dX10_world_27 ?_
  refine a_iconst (v := 1) dX10_world_30 (by decide) ?_
  refine a_isub dX10_world_31 ?_
  refine a_iret dX10_world_32 rfl (by rw [rI_sI, if_neg (by omega), rI_sI, if_pos ⟨rfl, rfl⟩, hw, nI_1, nI_pred]; exact h)

theorem w_X10_world_out {M : Mem} {N : Nat} {Q : Option Value → Nat → Mem → Prop} (hw : rI M 64 17 = nI 6)  (hN : 94 ≤ N) (hs : Str M.2.2.1) (h : Q (some (.int (-1))) N (M)) : AW mX10_world 0 0 0 N 0 [(0, .ref 64)] [] M Q := by
  refine a_aload_n dX10_world_0 rfl ?_
  refine a_getI kfX10_210 rfl rfl (by decide) (hlt hN (by decide)) dX10_world_1 ?_
  refine a_bipush (v := 6) dX10_world_4 (by decide) ?_
  refine a_icmp_ne (tgt := 11) dX10_world_6 (by decide) (fun c_6 => absurd hw c_6) (fun c_6 => ?_)
  refine a_iconst (v := (-1)) dX10_world_9 (by decide) ?_
  refine a_iret dX10_world_10 rfl h

theorem wl_ok {w x : Int32} {n : Nat} (hx : x = nI n) (hn : n ≤ 6) : (bI ((0 : Int32).toInt ≤ w.toInt ∧ w.toInt ≤ (x - 1).toInt) = 0) ↔ ¬ (0 ≤ w.toInt ∧ w.toInt < n) := by
  have e : (nI n - 1).toInt = (n : Int) - 1 := pk_sub_toInt (a := n) (b := 1) (by omega) (by decide)
  rw [bI_z, tI_0, hx, e]
  constructor <;> intro h z <;> exact h (by omega)
theorem w_X10_give_in {M : Mem} {N : Nat} {Q : Option Value → Nat → Mem → Prop} {v j n : Nat} {x : Int32} (hw : rI M 64 17 = nI n) (hn : n ≤ 6) (hv : v < n) (hj : j < 64) (hc : ¬ rI M 77 j = 0 ∧ (-9999 ≤ x.toInt ∧ x.toInt ≤ 9999))  (hN : 94 ≤ N) (hs : Str M.2.2.1) (h : Q (some (.int 1)) N (sI (sI M 79 (64 * v + j) x) 64 21 0)) : AW mX10_give 2 0 0 N 0 [(0, .ref 64), (1, .int (nI v)), (2, .int (nI j)), (3, .int x)] [] M Q := by
  refine a_iload_n dX10_give_0 rfl ?_
  refine a_iconst (v := 0) dX10_give_1 (by decide) ?_
  refine a_aload_n dX10_give_2 rfl ?_
  refine a_getI kfX10_210 rfl rfl (by decide) (hlt hN (by decide)) dX10_give_3 ?_
  refine a_iconst (v := 1) dX10_give_6 (by decide) ?_
  refine a_isub dX10_give_7 ?_
  refine a_callS (mc1 := 0) (ms1 := 0) (As := [_, _, _]) kpX10_lies kmX10_104 (by decide) rfl (Nat.le_of_ble_eq_true rfl) (Nat.le_of_ble_eq_true rfl) (Nat.le_of_ble_eq_true rfl) (Nat.le_of_ble_eq_true rfl) dX10_give_8 (w_X10_lies ?_)
  refine a_if_eq (tgt := 43) dX10_give_11 (by decide) (fun c_11 => absurd c_11 (fun z => (wl_ok hw hn).mp z (by rw [nIt (by omega)]; omega))) (fun c_11 => ?_)
  refine a_iload_n dX10_give_14 rfl ?_
  refine a_callS (mc1 := 0) (ms1 := 0) (As := [_]) kpX10_isCell kmX10_119 (by decide) rfl (Nat.le_of_ble_eq_true rfl) (Nat.le_of_ble_eq_true rfl) (Nat.le_of_ble_eq_true rfl) (Nat.le_of_ble_eq_true rfl) dX10_give_15 (w_X10_isCell ?_)
  refine a_if_eq (tgt := 43) dX10_give_18 (by decide) (fun c_18 => absurd c_18 (cel_no hj)) (fun c_18 => ?_)
  refine a_aload_n dX10_give_21 rfl ?_
  refine a_getA (z := 77) kfX10_48 rfl rfl (st_64_13 hs) (by decide) (hlt hN (by decide)) dX10_give_22 ?_
  refine a_iload_n dX10_give_25 rfl ?_
  refine a_zald rfl (by decide) (hlt hN (by decide)) (show vp_in _ 64 from j64_in hj) dX10_give_26 ?_
  refine a_if_eq (tgt := 43) dX10_give_27 (by decide) (fun c_27 => absurd c_27 (by rw [j64_c hj]; exact hc.1)) (fun c_27 => ?_)
  refine a_iload_n dX10_give_30 rfl ?_
  refine a_sipush (v := (-9999)) dX10_give_31 (by decide) ?_
  refine a_sipush (v := 9999) dX10_give_34 (by decide) ?_
  refine a_callS (mc1 := 0) (ms1 := 0) (As := [_, _, _]) kpX10_lies kmX10_104 (by decide) rfl (Nat.le_of_ble_eq_true rfl) (Nat.le_of_ble_eq_true rfl) (Nat.le_of_ble_eq_true rfl) (Nat.le_of_ble_eq_true rfl) dX10_give_37 (w_X10_lies ?_)
  refine a_if_ne (tgt := 45) dX10_give_40 (by decide) (fun c_40 => ?_) (fun c_40 => absurd c_40 (num_ok hc.2))
  refine a_aload_n dX10_give_45 rfl ?_
  refine a_getA (z := 79) kfX10_55 rfl rfl (st_64_18 hs) (by decide) (hlt hN (by decide)) dX10_give_46 ?_
  refine a_bipush (v := 64) dX10_give_49 (by decide) ?_
  refine a_iload_n dX10_give_51 rfl ?_
  refine a_imul dX10_give_52 ?_
  refine a_iload_n dX10_give_53 rfl ?_
  refine a_iadd dX10_give_54 ?_
  refine a_iload_n dX10_give_55 rfl ?_
  refine a_iast rfl (by decide) (hlt hN (by decide)) (show vp_in _ 384 from i64_in (show v < 6 by omega) hj) dX10_give_56 ?_
  refine a_aload_n dX10_give_57 rfl ?_
  refine a_iconst (v := 0) dX10_give_58 (by decide) ?_
  refine a_putZ kfX10_122 rfl rfl rfl (by decide) (by decide) (hlt hN (by decide)) dX10_give_59 ?_
  refine a_iconst (v := 1) dX10_give_62 (by decide) ?_
  refine a_zret dX10_give_63 rfl (by decide) (by rw [i64_c (show v < 6 by omega) hj]; exact h)

theorem w_X10_give_no {M : Mem} {N : Nat} {Q : Option Value → Nat → Mem → Prop} {v j n : Nat} {x : Int32} (hw : rI M 64 17 = nI n) (hn : n ≤ 6) (hv : v < n) (hj : j < 64) (hc : ¬ (¬ rI M 77 j = 0 ∧ (-9999 ≤ x.toInt ∧ x.toInt ≤ 9999)))  (hN : 94 ≤ N) (hs : Str M.2.2.1) (h : Q (some (.int 0)) N (M)) : AW mX10_give 2 0 0 N 0 [(0, .ref 64), (1, .int (nI v)), (2, .int (nI j)), (3, .int x)] [] M Q := by
  refine a_iload_n dX10_give_0 rfl ?_
  refine a_iconst (v := 0) dX10_give_1 (by decide) ?_
  refine a_aload_n dX10_give_2 rfl ?_
  refine a_getI kfX10_210 rfl rfl (by decide) (hlt hN (by decide)) dX10_give_3 ?_
  refine a_iconst (v := 1) dX10_give_6 (by decide) ?_
  refine a_isub dX10_give_7 ?_
  refine a_callS (mc1 := 0) (ms1 := 0) (As := [_, _, _]) kpX10_lies kmX10_104 (by decide) rfl (Nat.le_of_ble_eq_true rfl) (Nat.le_of_ble_eq_true rfl) (Nat.le_of_ble_eq_true rfl) (Nat.le_of_ble_eq_true rfl) dX10_give_8 (w_X10_lies ?_)
  refine a_if_eq (tgt := 43) dX10_give_11 (by decide) (fun c_11 => absurd c_11 (fun z => (wl_ok hw hn).mp z (by rw [nIt (by omega)]; omega))) (fun c_11 => ?_)
  refine a_iload_n dX10_give_14 rfl ?_
  refine a_callS (mc1 := 0) (ms1 := 0) (As := [_]) kpX10_isCell kmX10_119 (by decide) rfl (Nat.le_of_ble_eq_true rfl) (Nat.le_of_ble_eq_true rfl) (Nat.le_of_ble_eq_true rfl) (Nat.le_of_ble_eq_true rfl) dX10_give_15 (w_X10_isCell ?_)
  refine a_if_eq (tgt := 43) dX10_give_18 (by decide) (fun c_18 => absurd c_18 (cel_no hj)) (fun c_18 => ?_)
  refine a_aload_n dX10_give_21 rfl ?_
  refine a_getA (z := 77) kfX10_48 rfl rfl (st_64_13 hs) (by decide) (hlt hN (by decide)) dX10_give_22 ?_
  refine a_iload_n dX10_give_25 rfl ?_
  refine a_zald rfl (by decide) (hlt hN (by decide)) (show vp_in _ 64 from j64_in hj) dX10_give_26 ?_
  refine a_if_eq (tgt := 43) dX10_give_27 (by decide) (fun c_27 => ?_) (fun c_27 => ?_)
  · refine a_iconst (v := 0) dX10_give_43 (by decide) ?_
    refine a_zret dX10_give_44 rfl (by decide) h
  · refine a_iload_n dX10_give_30 rfl ?_
    refine a_sipush (v := (-9999)) dX10_give_31 (by decide) ?_
    refine a_sipush (v := 9999) dX10_give_34 (by decide) ?_
    refine a_callS (mc1 := 0) (ms1 := 0) (As := [_, _, _]) kpX10_lies kmX10_104 (by decide) rfl (Nat.le_of_ble_eq_true rfl) (Nat.le_of_ble_eq_true rfl) (Nat.le_of_ble_eq_true rfl) (Nat.le_of_ble_eq_true rfl) dX10_give_37 (w_X10_lies ?_)
    refine a_if_ne (tgt := 45) dX10_give_40 (by decide) (fun c_40 => ?_) (fun c_40 => ?_)
    · exact absurd ⟨by rw [← j64_c hj]; exact c_27, by rw [bI_nz, tI_m9999, tI_9999] at c_40; exact c_40⟩ hc
    · refine a_iconst (v := 0) dX10_give_43 (by decide) ?_
      refine a_zret dX10_give_44 rfl (by decide) h

theorem w_X10_give_out {M : Mem} {N : Nat} {Q : Option Value → Nat → Mem → Prop} {w c x : Int32} {n : Nat} (hw : rI M 64 17 = nI n) (hn : n ≤ 6) (hc : ¬ ((0 ≤ w.toInt ∧ w.toInt < n) ∧ (0 ≤ c.toInt ∧ c.toInt < 64)))  (hN : 94 ≤ N) (hs : Str M.2.2.1) (h : Q (some (.int 0)) N (M)) : AW mX10_give 2 0 0 N 0 [(0, .ref 64), (1, .int w), (2, .int c), (3, .int x)] [] M Q := by
  refine a_iload_n dX10_give_0 rfl ?_
  refine a_iconst (v := 0) dX10_give_1 (by decide) ?_
  refine a_aload_n dX10_give_2 rfl ?_
  refine a_getI kfX10_210 rfl rfl (by decide) (hlt hN (by decide)) dX10_give_3 ?_
  refine a_iconst (v := 1) dX10_give_6 (by decide) ?_
  refine a_isub dX10_give_7 ?_
  refine a_callS (mc1 := 0) (ms1 := 0) (As := [_, _, _]) kpX10_lies kmX10_104 (by decide) rfl (Nat.le_of_ble_eq_true rfl) (Nat.le_of_ble_eq_true rfl) (Nat.le_of_ble_eq_true rfl) (Nat.le_of_ble_eq_true rfl) dX10_give_8 (w_X10_lies ?_)
  refine a_if_eq (tgt := 43) dX10_give_11 (by decide) (fun c_11 => ?_) (fun c_11 => ?_)
  · refine a_iconst (v := 0) dX10_give_43 (by decide) ?_
    refine a_zret dX10_give_44 rfl (by decide) h
  · refine a_iload_n dX10_give_14 rfl ?_
    refine a_callS (mc1 := 0) (ms1 := 0) (As := [_]) kpX10_isCell kmX10_119 (by decide) rfl (Nat.le_of_ble_eq_true rfl) (Nat.le_of_ble_eq_true rfl) (Nat.le_of_ble_eq_true rfl) (Nat.le_of_ble_eq_true rfl) dX10_give_15 (w_X10_isCell ?_)
    refine a_if_eq (tgt := 43) dX10_give_18 (by decide) (fun c_18 => ?_) (fun c_18 => ?_)
    · refine a_iconst (v := 0) dX10_give_43 (by decide) ?_
      refine a_zret dX10_give_44 rfl (by decide) h
    · exact absurd ⟨Classical.not_not.mp (fun z => c_11 ((wl_ok hw hn).mpr z)), bI_nz.mp c_18⟩ hc

