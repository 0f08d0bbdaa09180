/-! the law's loop, and the law -/
theorem land31 (x : Int32) : ∃ v, v < 32 ∧ x &&& 31 = nI v := by
  obtain ⟨a, rfl⟩ := nI_surj x
  refine ⟨a % 2 ^ 5, by omega, ?_⟩
  show nI a &&& nI 31 = _
  rw [nx_and, show (31 : Nat) = 2 ^ 5 - 1 from rfl, Nat.and_two_pow_sub_one_eq_mod]
theorem s_law {M : Mem} {N k mc ms : Nat} {Q : Option Value → Nat → Mem → Prop} (kk : AW mL_law 100 mc ms N 18 [(0, .ref 0), (1, .ref 2), (2, .ref 64), (3, .int (nI (6 * (k + 1))))] [] M Q) : AW mL_law 100 mc ms N 843 [(0, .ref 0), (1, .ref 2), (2, .ref 64), (3, .int (nI (6 * k)))] [] M Q := by
  refine a_iinc (v := nI (6 * (k + 1))) dL_law_843 rfl ((nI_add (6 * k) 6).trans (by rw [show 6 * k + 6 = 6 * (k + 1) by omega])) (by decide) ?_
  refine a_goto (tgt := 18) dL_law_846 (by decide) ?_
  refine AW.sub (L' := [(0, .ref 0), (1, .ref 2), (2, .ref 64), (3, .int (nI (6 * (k + 1))))]) rfl ?_
  exact kk
theorem t_law {M : Mem} {N W t L k mc ms : Nat} {Q : Option Value → Nat → Mem → Prop} (I : Inv M N W t) (hl : M.2.2.2 0 = L) (hk : 6 * k + 6 ≤ L) (hL : L ≤ 3072) (kk : ∀ N2 W2 t2 M2, Inv M2 N2 W2 t2 → M2.2.2.2 0 = L → AW mL_law 100 mc ms N2 843 [(0, .ref 0), (1, .ref 2), (2, .ref 64), (3, .int (nI (6 * k)))] [] M2 Q) {v : Nat} (hv : v < 32) : AW mL_law 100 (mc + 6) (ms + 168) N 33 [(0, .ref 0), (1, .ref 2), (2, .ref 64), (3, .int (nI (6 * k)))] [.int (nI v)] M Q := by
  by_cases h : v < 19
  · clear hv
    match v, h with
    | 0, _ => exact a_tableIn (off := 91) (tgt := 124) dL_law_33 (by decide) (by decide) (by decide) (by decide) (c_feed I hl hk hL kk)
    | 1, _ => exact a_tableIn (off := 154) (tgt := 187) dL_law_33 (by decide) (by decide) (by decide) (by decide) (c_number I hl hk hL kk)
    | 2, _ => exact a_tableIn (off := 197) (tgt := 230) dL_law_33 (by decide) (by decide) (by decide) (by decide) (c_formula I hl hk hL kk)
    | 3, _ => exact a_tableIn (off := 240) (tgt := 273) dL_law_33 (by decide) (by decide) (by decide) (by decide) (c_clear I hl hk hL kk)
    | 4, _ => exact a_tableIn (off := 273) (tgt := 306) dL_law_33 (by decide) (by decide) (by decide) (by decide) (c_input I hl hk hL kk)
    | 5, _ => exact a_tableIn (off := 296) (tgt := 329) dL_law_33 (by decide) (by decide) (by decide) (by decide) (c_wants I hl hk hL kk)
    | 6, _ => exact a_tableIn (off := 329) (tgt := 362) dL_law_33 (by decide) (by decide) (by decide) (by decide) (c_world I hl hk hL kk)
    | 7, _ => exact a_tableIn (off := 342) (tgt := 375) dL_law_33 (by decide) (by decide) (by decide) (by decide) (c_give I hl hk hL kk)
    | 8, _ => exact a_tableIn (off := 385) (tgt := 418) dL_law_33 (by decide) (by decide) (by decide) (by decide) (c_value I hl hk hL kk)
    | 9, _ => exact a_tableIn (off := 429) (tgt := 462) dL_law_33 (by decide) (by decide) (by decide) (by decide) (c_error I hl hk hL kk)
    | 10, _ => exact a_tableIn (off := 472) (tgt := 505) dL_law_33 (by decide) (by decide) (by decide) (by decide) (c_right I hl hk hL kk)
    | 11, _ => exact a_tableIn (off := 516) (tgt := 549) dL_law_33 (by decide) (by decide) (by decide) (by decide) (c_rightError I hl hk hL kk)
    | 12, _ => exact a_tableIn (off := 559) (tgt := 592) dL_law_33 (by decide) (by decide) (by decide) (by decide) (c_kind I hl hk hL kk)
    | 13, _ => exact a_tableIn (off := 592) (tgt := 625) dL_law_33 (by decide) (by decide) (by decide) (by decide) (c_points I hl hk hL kk)
    | 14, _ => exact a_tableIn (off := 625) (tgt := 658) dL_law_33 (by decide) (by decide) (by decide) (by decide) (c_slip I hl hk hL kk)
    | 15, _ => exact a_tableIn (off := 668) (tgt := 701) dL_law_33 (by decide) (by decide) (by decide) (by decide) (c_fault I hl hk hL kk)
    | 16, _ => exact a_tableIn (off := 701) (tgt := 734) dL_law_33 (by decide) (by decide) (by decide) (by decide) (c_copied I hl hk hL kk)
    | 17, _ => exact a_tableIn (off := 744) (tgt := 777) dL_law_33 (by decide) (by decide) (by decide) (by decide) (c_look I hl hk hL kk)
    | 18, _ => exact a_tableIn (off := 787) (tgt := 820) dL_law_33 (by decide) (by decide) (by decide) (by decide) (c_count I hl hk hL kk)
    | u + 19, h2 => exact absurd h2 (by omega)
  · refine a_tableOut (tgt := 843) dL_law_33 (Or.inr (by rw [nIt (by omega)]; omega)) (by decide) ?_
    exact AW.rm (by omega) (by omega) (kk N W t M I hl)
theorem l_law {L : Nat} (hL : L ≤ 3072) : ∀ (r : Nat) (M : Mem) (N W t k : Nat), Inv M N W t → M.2.2.2 0 = L → 6 * k ≤ 3072 → L < 6 * k + 6 * r + 6 → AW mL_law 100 (6 * r) (168 * r) N 18 [(0, .ref 0), (1, .ref 2), (2, .ref 64), (3, .int (nI (6 * k)))] [] M (fun a _ _ => a = some (.int 1)) := by
  intro r
  induction r with
  | zero =>
    intro M N W t k I hl h6 hr
    have hN : 94 ≤ N := I.N9
    refine a_iload_n dL_law_18 rfl ?_
    refine a_aload_n dL_law_19 rfl ?_
    refine a_slen (v := nI L) (by have e : ln M 0 = L := hl; rw [e]; rfl) dL_law_20 ?_
    refine a_bipush (v := 6) dL_law_21 (by decide) ?_
    refine a_isub dL_law_23 ?_
    have e : (nI L - 6).toInt = (L : Int) - 6 := pk_sub_toInt (a := L) (b := 6) (by omega) (by decide)
    refine a_icmp_gt (tgt := 849) dL_law_24 (by decide) (fun _ => ?_) (fun c => absurd ?_ c)
    · refine a_iconst (v := 1) dL_law_849 (by decide) ?_
      exact a_zret dL_law_850 rfl (Or.inr rfl) rfl
    · rw [Int32.lt_iff_toInt_lt, e, nIt (by omega)]
      omega
  | succ r ih =>
    intro M N W t k I hl h6 hr
    have hN : 94 ≤ N := I.N9
    refine a_iload_n dL_law_18 rfl ?_
    refine a_aload_n dL_law_19 rfl ?_
    refine a_slen (v := nI L) (by have e : ln M 0 = L := hl; rw [e]; rfl) dL_law_20 ?_
    refine a_bipush (v := 6) dL_law_21 (by decide) ?_
    refine a_isub dL_law_23 ?_
    have e : (nI L - 6).toInt = (L : Int) - 6 := pk_sub_toInt (a := L) (b := 6) (by omega) (by decide)
    refine a_icmp_gt (tgt := 849) dL_law_24 (by decide) (fun _ => ?_) (fun c => ?_)
    · refine a_iconst (v := 1) dL_law_849 (by decide) ?_
      exact a_zret dL_law_850 rfl (Or.inr rfl) rfl
    · rw [Int32.lt_iff_toInt_lt, e, nIt (by omega)] at c
      have hk : 6 * k + 6 ≤ L := by omega
      refine a_aload_n dL_law_27 rfl ?_
      refine a_iload_n dL_law_28 rfl ?_
      refine a_sld (by have e : ln M 0 = L := hl; rw [e]; exact vp_in_nI (by omega) (by omega)) dL_law_29 ?_
      refine a_bipush (v := 31) dL_law_30 (by decide) ?_
      refine a_iand dL_law_32 ?_
      obtain ⟨v, hv, ev⟩ := land31 (rI M 0 (nI (6 * k)).toNatClampNeg)
      rw [ev]
      refine AW.rm (mc' := 6 * r + 6) (ms' := 168 * r + 168) (by omega) (by omega) ?_
      refine AW.sub (L' := [(0, .ref 0), (1, .ref 2), (2, .ref 64), (3, .int (nI (6 * k)))]) rfl ?_
      exact t_law I hl hk hL (fun N2 W2 t2 M2 I2 hl2 => s_law (ih M2 N2 W2 t2 (k + 1) I2 hl2 (by omega) (by omega))) hv
/-- the memory at the law's entry: the script of L ints -/
def M0 (L : Nat) (xs : Nat → Int32) : Mem := (fun a j => if a = 0 then xs j else 0, fun _ _ => 0, fun _ _ => none, fun a => if a = 0 then L else 0)
def law_ok : Prop := ∀ (L : Nat) (xs : Nat → Int32), L ≤ 3072 → AW mL_law 100 600000 7302250 2 0 [(0, .ref 0)] [] (M0 L xs) (fun r _ _ => r = some (.int 1))
theorem law_holds : law_ok := by
  intro L xs hL
  obtain ⟨M, eM⟩ : ∃ M, M = M0 L xs := ⟨_, rfl⟩
  have hl : (bgM M).2.2.2 0 = L := by rw [bg_L, eM]; rfl
  rw [← eM]
  refine a_new knL_7 rfl (show 599999 + 1 ≤ 600000 from by decide) (show 7302242 + (cN 9).2.2 ≤ 7302250 from by decide) dL_law_0 ?_
  refine a_dup dL_law_3 rfl ?_
  refine a_callI (mc1 := 599938) (ms1 := 7297557) (As := []) kpX9_init kmL_9 (by decide) rfl (Nat.le_of_ble_eq_true rfl) (Nat.le_of_ble_eq_true rfl) (by decide) (by decide) dL_law_4 (w_X9_init ?_)
  refine a_astore_n dL_law_7 (by decide) ?_
  refine a_new knL_10 rfl (show 599937 + 1 ≤ 599938 from by decide) (show 7297505 + (cN 10).2.2 ≤ 7297557 from by decide) dL_law_8 ?_
  refine a_dup dL_law_11 rfl ?_
  refine a_callI (mc1 := 599908) (ms1 := 7201509) (As := []) kpX10_init kmL_12 (by decide) rfl (Nat.le_of_ble_eq_true rfl) (Nat.le_of_ble_eq_true rfl) (by decide) (by decide) dL_law_12 (w_X10_init ?_)
  refine a_astore_n dL_law_15 (by decide) ?_
  refine a_iconst (v := 0) dL_law_16 (by decide) ?_
  refine a_istore_n dL_law_17 (by decide) ?_
  refine AW.rm (mc' := 6 * 512) (ms' := 168 * 512) (by decide) (by decide) ?_
  refine AW.sub (L' := [(0, .ref 0), (1, .ref 2), (2, .ref 64), (3, .int (nI (6 * 0)))]) rfl ?_
  exact l_law hL 512 (bgM M) 94 0 0 0 (bg_inv M) hl (by decide) (by omega)
