theorem w_X2_hasTextOf_n {M : Mem} {N : Nat} {Q : Option Value → Nat → Mem → Prop} {f n : Nat} (hf : FoR f N) (hm : FoF M.2.2 f n)  (h : Q (some (.int 0)) N (M)) : AW mX2_hasTextOf 1 0 0 N 0 [(0, .ref f), (1, .null)] [] M Q := by
  refine a_aload_nN dX2_hasTextOf_0 rfl ?_
  refine a_ifnullN (tgt := 16) dX2_hasTextOf_1 (by decide) ?_
  refine a_iconst (v := 0) dX2_hasTextOf_16 (by decide) ?_
  refine a_zret dX2_hasTextOf_17 rfl (by decide) h

theorem l_X2_hasTextOf {M : Mem} {N : Nat} {Q : Option Value → Nat → Mem → Prop} {f n : Nat} (hf : FoR f N) (hm : FoF M.2.2 f n) {f2 n2 : Nat} (hf2 : FoR f2 N) (hm2 : FoF M.2.2 f2 n2) (hnn : n = n2) (h : Q (some (.int (bI (n = n2 ∧ ∀ j, j < n → rI M (f + 1) j = rI M (f2 + 1) j)))) N M) : ∀ (r k : Nat), k + r = n → (∀ j, j < k → rI M (f + 1) j = rI M (f2 + 1) j) → AW mX2_hasTextOf 1 0 0 N 20 [(0, .ref f), (1, .ref f2), (2, .int (nI k))] [] M Q := by
  intro r
  induction r with
  | zero =>
    intro k hk hinv
    refine a_iload_n dX2_hasTextOf_20 rfl ?_
    refine a_aload_n dX2_hasTextOf_21 rfl ?_
    refine a_getA (z := (f + 1)) kfX2_15 (fo_k hf) rfl (fo_0 hm.1) (fo_two hf) (fo_lt hf) dX2_hasTextOf_22 ?_
    refine a_alen (fo_k0 hf) (by decide) (fo_two0 hf) (fo_lt0 hf) (fo_lv1 hf hm) dX2_hasTextOf_25 ?_
    refine a_icmp_ge (tgt := 51) dX2_hasTextOf_26 (by decide) (fun c_26 => ?_) (fun c_26 => absurd (nI_le (by omega) (by have := fo_40 hm; omega)) c_26)
    refine a_iconst (v := 1) dX2_hasTextOf_51 (by decide) ?_
    refine a_zret dX2_hasTextOf_52 rfl (by decide) (ret_t ⟨hnn, fun j hj => hinv j (by omega)⟩ h)
  | succ r ih =>
    intro k hk hinv
    have hkn : k < n := by omega
    have hclp : (nI k).toNatClampNeg = k := nI_clamp (by have := fo_40 hm; omega)
    refine a_iload_n dX2_hasTextOf_20 rfl ?_
    refine a_aload_n dX2_hasTextOf_21 rfl ?_
    refine a_getA (z := (f + 1)) kfX2_15 (fo_k hf) rfl (fo_0 hm.1) (fo_two hf) (fo_lt hf) dX2_hasTextOf_22 ?_
    refine a_alen (fo_k0 hf) (by decide) (fo_two0 hf) (fo_lt0 hf) (fo_lv1 hf hm) dX2_hasTextOf_25 ?_
    refine a_icmp_ge (tgt := 51) dX2_hasTextOf_26 (by decide) (fun c_26 => absurd c_26 (nI_ge hkn (by have := fo_40 hm; omega))) (fun c_26 => ?_)
    refine a_aload_n dX2_hasTextOf_29 rfl ?_
    refine a_getA (z := (f + 1)) kfX2_15 (fo_k hf) rfl (fo_0 hm.1) (fo_two hf) (fo_lt hf) dX2_hasTextOf_30 ?_
    refine a_iload_n dX2_hasTextOf_33 rfl ?_
    refine a_iald (fo_k0 hf) (fo_two0 hf) (fo_lt0 hf) (fo_in1 hf hm hkn) dX2_hasTextOf_34 ?_
    refine a_aload_n dX2_hasTextOf_35 rfl ?_
    refine a_iload_n dX2_hasTextOf_36 rfl ?_
    refine a_callV (mc1 := 0) (ms1 := 0) (As := [_]) kpX2_byteAt kmX2_34 (by decide) rfl (Nat.le_of_ble_eq_true rfl) (fo_k hf2) (by decide) rfl (fo_two hf2) (fo_lt hf2) (Nat.le_of_ble_eq_true rfl) (Nat.le_of_ble_eq_true rfl) (Nat.le_of_ble_eq_true rfl) dX2_hasTextOf_37 (w_X2_byteAt hf2 hm2 (by omega) ?_)
    refine a_icmp_eq (tgt := 45) dX2_hasTextOf_40 (by decide) (fun c_40 => ?_) (fun c_40 => ?_)
    · refine a_iinc dX2_hasTextOf_45 rfl rfl (by decide) ?_
      refine a_goto (tgt := 20) dX2_hasTextOf_48 (by decide) ?_
      rw [show nI k + Int32.ofInt 1 = nI (k + 1) from nI_1 k]
      refine AW.sub (L' := [(0, .ref f), (1, .ref f2), (2, .int (nI (k + 1)))]) rfl ?_
      exact ih (k + 1) (by omega) (fun j hj => by rcases Nat.lt_or_ge j k with q | q; exact hinv j q; rw [show j = k by omega, ← hclp]; rw [hclp] at c_40 ⊢; exact c_40)
    · refine a_iconst (v := 0) dX2_hasTextOf_43 (by decide) ?_
      refine a_zret dX2_hasTextOf_44 rfl (by decide) (ret_f (fun z => c_40 (by rw [hclp]; exact z.2 k hkn)) h)
theorem w_X2_hasTextOf {M : Mem} {N : Nat} {Q : Option Value → Nat → Mem → Prop} {f n : Nat} (hf : FoR f N) (hm : FoF M.2.2 f n) {f2 n2 : Nat} (hf2 : FoR f2 N) (hm2 : FoF M.2.2 f2 n2)  (h : Q (some (.int (bI (n = n2 ∧ ∀ j, j < n → rI M (f + 1) j = rI M (f2 + 1) j)))) N (M)) : AW mX2_hasTextOf 1 0 0 N 0 [(0, .ref f), (1, .ref f2)] [] M Q := by
  refine a_aload_n dX2_hasTextOf_0 rfl ?_
  refine a_ifnull dX2_hasTextOf_1 ?_
  refine a_aload_n dX2_hasTextOf_4 rfl ?_
  refine a_callV (mc1 := 0) (ms1 := 0) (As := []) kpX2_length kmX2_30 (by decide) rfl (Nat.le_of_ble_eq_true rfl) (fo_k hf2) (by decide) rfl (fo_two hf2) (fo_lt hf2) (Nat.le_of_ble_eq_true rfl) (Nat.le_of_ble_eq_true rfl) (Nat.le_of_ble_eq_true rfl) dX2_hasTextOf_5 (w_X2_length hf2 hm2 ?_)
  refine a_aload_n dX2_hasTextOf_8 rfl ?_
  refine a_getA (z := (f + 1)) kfX2_15 (fo_k hf) rfl (fo_0 hm.1) (fo_two hf) (fo_lt hf) dX2_hasTextOf_9 ?_
  refine a_alen (fo_k0 hf) (by decide) (fo_two0 hf) (fo_lt0 hf) (fo_lv1 hf hm) dX2_hasTextOf_12 ?_
  refine a_icmp_eq (tgt := 18) dX2_hasTextOf_13 (by decide) (fun c_13 => ?_) (fun c_13 => ?_)
  · refine a_iconst (v := 0) dX2_hasTextOf_18 (by decide) ?_
    refine a_istore_n dX2_hasTextOf_19 (by decide) ?_
    refine AW.sub (L' := [(0, .ref f), (1, .ref f2), (2, .int (nI 0))]) rfl ?_
    exact l_X2_hasTextOf hf hm hf2 hm2 ((nI_eq (by have := fo_40 hm2; omega) (by have := fo_40 hm; omega)).mp c_13).symm h n 0 (by omega) (fun j hj => by omega)
  · refine a_iconst (v := 0) dX2_hasTextOf_16 (by decide) ?_
    refine a_zret dX2_hasTextOf_17 rfl (by decide) (ret_f (fun z => c_13 (by rw [z.1])) h)

/-- a byte of a word -/
def byt (v k : Int32) : Int32 := (v.toUInt32 >>> (k.toUInt32 &&& Int32.toUInt32 31)).toInt32 &&& 255
def ap1 (M : Mem) (t : Nat) (v k : Int32) : Mem := sI (sI M 4 t (byt v k)) 3 1 (nI (t + 1))
def ap4 (M : Mem) (t : Nat) (v : Int32) : Mem := ap1 (ap1 (ap1 (ap1 M t v 24) (t + 1) v 16) (t + 2) v 8) (t + 3) v 0
theorem ap1_len {M : Mem} {t : Nat} {v k : Int32} : rI (ap1 M t v k) 3 1 = nI (t + 1) := by unfold ap1; rw [rI_sI, if_pos ⟨rfl, rfl⟩]

theorem l_X8_append {M : Mem} {N : Nat} {Q : Option Value → Nat → Mem → Prop} (hN : 94 ≤ N) (hs : Str M.2.2.1) {t : Nat} {v k : Int32} (ht : rI M 3 1 = nI t) (ht6 : t < 60) (hk0 : ¬ k < 0) (kk : AW mX8_append 0 0 0 N 3 [(0, .ref 3), (1, .int v), (2, .int (k + Int32.ofInt (-8)))] [] (ap1 M t v k) Q) : AW mX8_append 0 0 0 N 3 [(0, .ref 3), (1, .int v), (2, .int k)] [] M Q := by
  refine a_iload_n dX8_append_3 rfl ?_
  refine a_if_lt (tgt := 58) dX8_append_4 (by decide) (fun c_4 => absurd c_4 hk0) (fun c_4 => ?_)
  refine a_aload_n dX8_append_7 rfl ?_
  refine a_getI kfX8_15 rfl rfl (by decide) (hlt hN (by decide)) dX8_append_8 ?_
  refine a_if_lt (tgt := 52) dX8_append_11 (by decide) (fun c_11 => absurd c_11 (by rw [ht]; exact nI_pos (by omega))) (fun c_11 => ?_)
  refine a_aload_n dX8_append_14 rfl ?_
  refine a_getI kfX8_15 rfl rfl (by decide) (hlt hN (by decide)) dX8_append_15 ?_
  refine a_aload_n dX8_append_18 rfl ?_
  refine a_getA (z := 4) kfX8_9 rfl rfl (st_3_0 hs) (by decide) (hlt hN (by decide)) dX8_append_19 ?_
  refine a_alen rfl (by decide) (by decide) (hlt hN (by decide)) rfl dX8_append_22 ?_
  refine a_icmp_ge (tgt := 52) dX8_append_23 (by decide) (fun c_23 => absurd c_23 (by rw [ht]; exact nI_ge (b := 60) (by omega) (by decide))) (fun c_23 => ?_)
  refine a_aload_n dX8_append_26 rfl ?_
  refine a_getA (z := 4) kfX8_9 rfl rfl (st_3_0 hs) (by decide) (hlt hN (by decide)) dX8_append_27 ?_
  refine a_aload_n dX8_append_30 rfl ?_
  refine a_getI kfX8_15 rfl rfl (by decide) (hlt hN (by decide)) dX8_append_31 ?_
  refine a_iload_n dX8_append_34 rfl ?_
  refine a_iload_n dX8_append_35 rfl ?_
  refine a_iushr dX8_append_36 rfl ?_
  refine a_sipush (v := 255) dX8_append_37 (by decide) ?_
  refine a_iand dX8_append_40 ?_
  refine a_iast rfl (by decide) (hlt hN (by decide)) (by rw [ht]; exact (show vp_in _ 60 from vp_in_nI (by omega) (by decide))) dX8_append_41 ?_
  refine a_aload_n dX8_append_42 rfl ?_
  refine a_dup dX8_append_43 rfl ?_
  refine a_getI kfX8_15 rfl rfl (by decide) (hlt hN (by decide)) dX8_append_44 ?_
  refine a_iconst (v := 1) dX8_append_47 (by decide) ?_
  refine a_iadd dX8_append_48 ?_
  refine a_putI kfX8_15 rfl rfl rfl (by decide) (hlt hN (by decide)) dX8_append_49 ?_
  refine a_iinc dX8_append_52 rfl rfl (by decide) ?_
  refine a_goto (tgt := 3) dX8_append_55 (by decide) ?_
  rw [ht, nI_clamp (show t < 2 ^ 31 by omega), rI_sI, if_neg (by omega), ht, nI_1]
  refine AW.sub (L' := [(0, .ref 3), (1, .int v), (2, .int (k + Int32.ofInt (-8)))]) rfl ?_
  exact kk

theorem w_X8_append {M : Mem} {N : Nat} {Q : Option Value → Nat → Mem → Prop} {t : Nat} {v : Int32} (ht : rI M 3 1 = nI t) (ht6 : t + 4 ≤ 60) (hN : 94 ≤ N) (hs : Str M.2.2.1) (h : Q (none) N (ap4 M t v)) : AW mX8_append 0 0 0 N 0 [(0, .ref 3), (1, .int v)] [] M Q := by
  refine a_bipush (v := 24) dX8_append_0 (by decide) ?_
  refine a_istore_n dX8_append_2 (by decide) ?_
  refine AW.sub (L' := [(0, .ref 3), (1, .int v), (2, .int 24)]) rfl ?_
  refine l_X8_append hN hs ht (by omega) (by decide) ?_
  refine l_X8_append hN (by exact hs) ap1_len (by omega) (by decide) ?_
  refine l_X8_append hN (by exact hs) ap1_len (by omega) (by decide) ?_
  refine l_X8_append hN (by exact hs) ap1_len (by omega) (by decide) ?_
  refine a_iload_n dX8_append_3 rfl ?_
  refine a_if_lt (tgt := 58) dX8_append_4 (by decide) (fun c_4 => ?_) (fun c_4 => absurd (by decide) c_4)
  refine a_vret dX8_append_58 rfl h

/-- the text of f, k bytes of the tape moved -/
def mvR (M : Mem) (f n k : Nat) : Nat → Int32 := fun j => if j < k ∧ j < n then rI M 4 j else rI M (f + 1) j
theorem mvR_0 {M : Mem} {f n : Nat} : sR M (f + 1) (mvR M f n 0) = M := sR_id (fun j => by unfold mvR; rw [if_neg (by omega)])
theorem mv_in {M : Mem} {f n k j : Nat} (hk : k < n) : (if j = k then rI M 4 k else mvR M f n k j) = mvR M f n (k + 1) j := by
  unfold mvR
  by_cases h : j = k
  · subst h; rw [if_pos rfl, if_pos ⟨by omega, hk⟩]
  · rw [if_neg h]
    by_cases h2 : j < k ∧ j < n
    · rw [if_pos h2, if_pos ⟨by omega, h2.2⟩]
    · rw [if_neg h2, if_neg (by omega)]
theorem mv_out {M : Mem} {f n k j : Nat} (hk : n ≤ k) : mvR M f n k j = mvR M f n (k + 1) j := by
  unfold mvR
  by_cases h2 : j < k ∧ j < n
  · rw [if_pos h2, if_pos ⟨by omega, h2.2⟩]
  · rw [if_neg h2, if_neg (by omega)]
theorem l_X8_moveTo {M : Mem} {N : Nat} {Q : Option Value → Nat → Mem → Prop} (hN : 94 ≤ N) (hs : Str M.2.2.1) {f n : Nat} (hf : FoR f N) (hm : FoF M.2.2 f n) {t : Nat} (ht : rI M 3 1 = nI t) (ht6 : t ≤ 60) (h : Q none N (sI (sR M (f + 1) (mvR M f n t)) 3 1 0)) : ∀ (r k : Nat), k + r = t → AW mX8_moveTo 1 0 0 N 2 [(0, .ref 3), (1, .ref f), (2, .int (nI k))] [] (sR M (f + 1) (mvR M f n k)) Q := by
  intro r
  induction r with
  | zero =>
    intro k hk
    have hf94 := fo_94 hf
    have ht2 : rI (sR M (f + 1) (mvR M f n k)) 3 1 = nI t := by rw [rI_sR, if_neg (by omega)]; exact ht
    refine a_iload_n dX8_moveTo_2 rfl ?_
    refine a_aload_n dX8_moveTo_3 rfl ?_
    refine a_getI kfX8_15 rfl rfl (by decide) (hlt hN (by decide)) dX8_moveTo_4 ?_
    refine a_icmp_ge (tgt := 36) dX8_moveTo_7 (by decide) (fun c_7 => ?_) (fun c_7 => absurd (by rw [ht2]; exact nI_le (by omega) (by omega)) c_7)
    refine a_aload_n dX8_moveTo_36 rfl ?_
    refine a_iconst (v := 0) dX8_moveTo_37 (by decide) ?_
    refine a_putI kfX8_15 rfl rfl rfl (by decide) (hlt hN (by decide)) dX8_moveTo_38 ?_
    refine a_vret dX8_moveTo_41 rfl (by rw [show k = t by omega]; exact h)
  | succ r ih =>
    intro k hk
    have hf94 := fo_94 hf
    have ht2 : rI (sR M (f + 1) (mvR M f n k)) 3 1 = nI t := by rw [rI_sR, if_neg (by omega)]; exact ht
    have hclp : (nI k).toNatClampNeg = k := nI_clamp (by omega)
    rcases Nat.lt_or_ge k n with hkn | hkn
    · refine a_iload_n dX8_moveTo_2 rfl ?_
      refine a_aload_n dX8_moveTo_3 rfl ?_
      refine a_getI kfX8_15 rfl rfl (by decide) (hlt hN (by decide)) dX8_moveTo_4 ?_
      refine a_icmp_ge (tgt := 36) dX8_moveTo_7 (by decide) (fun c_7 => absurd c_7 (by rw [ht2]; exact nI_ge (by omega) (by omega))) (fun c_7 => ?_)
      refine a_iload_n dX8_moveTo_10 rfl ?_
      refine a_aload_n dX8_moveTo_11 rfl ?_
      refine a_getA (z := 4) kfX8_9 rfl rfl (st_3_0 hs) (by decide) (hlt hN (by decide)) dX8_moveTo_12 ?_
      refine a_alen rfl (by decide) (by decide) (hlt hN (by decide)) rfl dX8_moveTo_15 ?_
      refine a_icmp_ge (tgt := 36) dX8_moveTo_16 (by decide) (fun c_16 => absurd c_16 (nI_ge (b := 60) (by omega) (by decide))) (fun c_16 => ?_)
      refine a_aload_n dX8_moveTo_19 rfl ?_
      refine a_iload_n dX8_moveTo_20 rfl ?_
      refine a_aload_n dX8_moveTo_21 rfl ?_
      refine a_getA (z := 4) kfX8_9 rfl rfl (st_3_0 hs) (by decide) (hlt hN (by decide)) dX8_moveTo_22 ?_
      refine a_iload_n dX8_moveTo_25 rfl ?_
      refine a_iald rfl (by decide) (hlt hN (by decide)) (show vp_in _ 60 from vp_in_nI (by omega) (by decide)) dX8_moveTo_26 ?_
      refine a_callV (mc1 := 0) (ms1 := 0) (As := [_, _]) kpX2_putByte kmX8_19 (by decide) rfl (Nat.le_of_ble_eq_true rfl) (fo_k hf) (by decide) rfl (fo_two hf) (fo_lt hf) (Nat.le_of_ble_eq_true rfl) (Nat.le_of_ble_eq_true rfl) (Nat.le_of_ble_eq_true rfl) dX8_moveTo_27 (w_X2_putByte hf (by exact hm) hkn ?_)
      refine a_iinc dX8_moveTo_30 rfl rfl (by decide) ?_
      refine a_goto (tgt := 2) dX8_moveTo_33 (by decide) ?_
      rw [show nI k + Int32.ofInt 1 = nI (k + 1) from nI_1 k, hclp, rI_sR, if_neg (by omega), sI_sR]
      refine AW.sub (L' := [(0, .ref 3), (1, .ref f), (2, .int (nI (k + 1)))]) rfl ?_
      rw [show sR M (f + 1) (fun j => if j = k then rI M 4 k else mvR M f n k j) = sR M (f + 1) (mvR M f n (k + 1)) from sR_congr (fun j => mv_in hkn)]
      exact ih (k + 1) (by omega)
    · refine a_iload_n dX8_moveTo_2 rfl ?_
      refine a_aload_n dX8_moveTo_3 rfl ?_
      refine a_getI kfX8_15 rfl rfl (by decide) (hlt hN (by decide)) dX8_moveTo_4 ?_
      refine a_icmp_ge (tgt := 36) dX8_moveTo_7 (by decide) (fun c_7 => absurd c_7 (by rw [ht2]; exact nI_ge (by omega) (by omega))) (fun c_7 => ?_)
      refine a_iload_n dX8_moveTo_10 rfl ?_
      refine a_aload_n dX8_moveTo_11 rfl ?_
      refine a_getA (z := 4) kfX8_9 rfl rfl (st_3_0 hs) (by decide) (hlt hN (by decide)) dX8_moveTo_12 ?_
      refine a_alen rfl (by decide) (by decide) (hlt hN (by decide)) rfl dX8_moveTo_15 ?_
      refine a_icmp_ge (tgt := 36) dX8_moveTo_16 (by decide) (fun c_16 => absurd c_16 (nI_ge (b := 60) (by omega) (by decide))) (fun c_16 => ?_)
      refine a_aload_n dX8_moveTo_19 rfl ?_
      refine a_iload_n dX8_moveTo_20 rfl ?_
      refine a_aload_n dX8_moveTo_21 rfl ?_
      refine a_getA (z := 4) kfX8_9 rfl rfl (st_3_0 hs) (by decide) (hlt hN (by decide)) dX8_moveTo_22 ?_
      refine a_iload_n dX8_moveTo_25 rfl ?_
      refine a_iald rfl (by decide) (hlt hN (by decide)) (show vp_in _ 60 from vp_in_nI (by omega) (by decide)) dX8_moveTo_26 ?_
      refine a_callV (mc1 := 0) (ms1 := 0) (As := [_, _]) kpX2_putByte kmX8_19 (by decide) rfl (Nat.le_of_ble_eq_true rfl) (fo_k hf) (by decide) rfl (fo_two hf) (fo_lt hf) (Nat.le_of_ble_eq_true rfl) (Nat.le_of_ble_eq_true rfl) (Nat.le_of_ble_eq_true rfl) dX8_moveTo_27 (w_X2_putByte_out hf (by exact hm) hkn (by omega) ?_)
      refine a_iinc dX8_moveTo_30 rfl rfl (by decide) ?_
      refine a_goto (tgt := 2) dX8_moveTo_33 (by decide) ?_
      rw [show nI k + Int32.ofInt 1 = nI (k + 1) from nI_1 k]
      refine AW.sub (L' := [(0, .ref 3), (1, .ref f), (2, .int (nI (k + 1)))]) rfl ?_
      rw [show sR M (f + 1) (mvR M f n k) = sR M (f + 1) (mvR M f n (k + 1)) from sR_congr (fun j => mv_out hkn)]
      exact ih (k + 1) (by omega)
theorem w_X8_moveTo {M : Mem} {N : Nat} {Q : Option Value → Nat → Mem → Prop} {f n : Nat} (hf : FoR f N) (hm : FoF M.2.2 f n) {t : Nat} (ht : rI M 3 1 = nI t) (ht6 : t ≤ 60) (hN : 94 ≤ N) (hs : Str M.2.2.1) (h : Q (none) N (sI (sR M (f + 1) (mvR M f n t)) 3 1 0)) : AW mX8_moveTo 1 0 0 N 0 [(0, .ref 3), (1, .ref f)] [] M Q := by
  refine a_iconst (v := 0) dX8_moveTo_0 (by decide) ?_
  refine a_istore_n dX8_moveTo_1 (by decide) ?_
  refine AW.sub (L' := [(0, .ref 3), (1, .ref f), (2, .int (nI 0))]) rfl ?_
  rw [show M = sR M (f + 1) (mvR M f n 0) from mvR_0.symm]
  exact l_X8_moveTo hN hs hf hm ht ht6 h t 0 (by omega)

