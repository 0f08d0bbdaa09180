/-- what the cell j of sheet i needs, as the reference has it -/
def nmM (M : Mem) (k : Nat) : Int64 := nmF (rOp M k) (rAr M k) (rA2 M k) (rI M 70 k).toNatClampNeg
def nR (M : Mem) (i j : Nat) : Int64 := if ¬ rI M 66 (64 * i + j) = 2 then 0 else if ¬ rI M 77 j = 0 then 0 else if rI M 64 36 < nI (40 * (64 * i + j)) then rJ M 76 (64 * i + j) else if nI (40 * (64 * i + j) + 40) ≤ rI M 64 36 then rJ M 76 (64 * i + j) else nmM M (64 * i + j)
/-- the reference's formula at k is well made -/
def RWF (M : Mem) (k : Nat) : Prop := ∃ mn, mn ≤ 40 ∧ rI M 70 k = nI mn ∧ WFK (rOp M k) (rAr M k) (rA2 M k) mn
theorem w_X10_needs {M : Mem} {N : Nat} {Q : Option Value → Nat → Mem → Prop} {i j : Nat} (hi : i < 6) (hj : j < 64) (hw : rI M 66 (64 * i + j) = 2 → RWF M (64 * i + j))  (hN : 94 ≤ N) (hs : Str M.2.2.1) (h : Q (some (.long (nR M i j))) N (M)) : AW mX10_needs 4 0 0 N 0 [(0, .ref 64), (1, .int (nI i)), (2, .int (nI j))] [] M Q := by
  refine a_bipush (v := 64) dX10_needs_0 (by decide) ?_
  refine a_iload_n dX10_needs_2 rfl ?_
  refine a_imul dX10_needs_3 ?_
  refine a_iload_n dX10_needs_4 rfl ?_
  refine a_iadd dX10_needs_5 ?_
  rw [i64]
  refine a_istore_n dX10_needs_6 (by decide) ?_
  refine a_aload_n dX10_needs_7 rfl ?_
  refine a_getA (z := 66) kfX10_13 rfl rfl (st_64_2 hs) (by decide) (hlt hN (by decide)) dX10_needs_8 ?_
  refine a_iload_n dX10_needs_11 rfl ?_
  refine a_iald rfl (by decide) (hlt hN (by decide)) (show vp_in _ 384 from vp_in_nI (by omega) (by decide)) dX10_needs_12 ?_
  rw [nI_clamp (by omega)]
  refine a_iconst (v := 2) dX10_needs_13 (by decide) ?_
  refine a_icmp_ne (tgt := 26) dX10_needs_14 (by decide) (fun c_14 => ?_) (fun c_14 => ?_)
  · refine a_lconst (v := 0) dX10_needs_26 (by decide) ?_
    refine a_lret dX10_needs_27 rfl (by unfold nR at h; first | (rw [if_pos c_14] at h; exact h) | (rw [if_neg (fun z => z c_14), if_pos c_23] at h; exact h) | (rw [if_neg (fun z => z c_14), if_neg (fun z => z c_23), if_pos c_36] at h; exact h) | (rw [if_neg (fun z => z c_14), if_neg (fun z => z c_23), if_neg c_36, if_pos c_50] at h; exact h) | (rw [if_neg (fun z => z c_14), if_neg (fun z => z c_23), if_neg c_36, if_neg c_50] at h; unfold nmM at h; rw [hmy, nI_clamp (by omega)] at h; exact h))
  · obtain ⟨mn, hmn, hmy, hwk⟩ := hw c_14
    refine a_aload_n dX10_needs_17 rfl ?_
    refine a_getA (z := 77) kfX10_48 rfl rfl (st_64_13 hs) (by decide) (hlt hN (by decide)) dX10_needs_18 ?_
    refine a_iload_n dX10_needs_21 rfl ?_
    refine a_zald rfl (by decide) (hlt hN (by decide)) (show vp_in _ 64 from j64_in hj) dX10_needs_22 ?_
    rw [j64_c hj]
    refine a_if_eq (tgt := 28) dX10_needs_23 (by decide) (fun c_23 => ?_) (fun c_23 => ?_)
    · refine a_aload_n dX10_needs_28 rfl ?_
      refine a_getI kfX10_85 rfl rfl (by decide) (hlt hN (by decide)) dX10_needs_29 ?_
      refine a_bipush (v := 40) dX10_needs_32 (by decide) ?_
      refine a_iload_n dX10_needs_34 rfl ?_
      refine a_imul dX10_needs_35 ?_
      rw [show (40 : Int32) * nI (64 * i + j) = nI (40 * (64 * i + j)) from by rw [show (40 : Int32) = nI 40 from rfl, pk_mul]]
      refine a_icmp_lt (tgt := 61) dX10_needs_36 (by decide) (fun c_36 => ?_) (fun c_36 => ?_)
      · refine a_aload_n dX10_needs_61 rfl ?_
        refine a_getA (z := 76) kfX10_44 rfl rfl (st_64_12 hs) (by decide) (hlt hN (by decide)) dX10_needs_62 ?_
        refine a_iload_n dX10_needs_65 rfl ?_
        refine a_lald rfl (by decide) (hlt hN (by decide)) (show vp_in _ 384 from vp_in_nI (by omega) (by decide)) dX10_needs_66 ?_
        try rw [nI_clamp (show 64 * i + j < 2 ^ 31 by omega)]
        refine a_lret dX10_needs_67 rfl (by unfold nR at h; first | (rw [if_pos c_14] at h; exact h) | (rw [if_neg (fun z => z c_14), if_pos c_23] at h; exact h) | (rw [if_neg (fun z => z c_14), if_neg (fun z => z c_23), if_pos c_36] at h; exact h) | (rw [if_neg (fun z => z c_14), if_neg (fun z => z c_23), if_neg c_36, if_pos c_50] at h; exact h) | (rw [if_neg (fun z => z c_14), if_neg (fun z => z c_23), if_neg c_36, if_neg c_50] at h; unfold nmM at h; rw [hmy, nI_clamp (by omega)] at h; exact h))
      · refine a_aload_n dX10_needs_39 rfl ?_
        refine a_getI kfX10_85 rfl rfl (by decide) (hlt hN (by decide)) dX10_needs_40 ?_
        refine a_bipush (v := 40) dX10_needs_43 (by decide) ?_
        refine a_iload_n dX10_needs_45 rfl ?_
        refine a_imul dX10_needs_46 ?_
        refine a_bipush (v := 40) dX10_needs_47 (by decide) ?_
        refine a_iadd dX10_needs_49 ?_
        rw [show (40 : Int32) * nI (64 * i + j) + 40 = nI (40 * (64 * i + j) + 40) from by rw [show (40 : Int32) = nI 40 from rfl, pk_mul, nI_add]]
        refine a_icmp_ge (tgt := 61) dX10_needs_50 (by decide) (fun c_50 => ?_) (fun c_50 => ?_)
        · refine a_aload_n dX10_needs_61 rfl ?_
          refine a_getA (z := 76) kfX10_44 rfl rfl (st_64_12 hs) (by decide) (hlt hN (by decide)) dX10_needs_62 ?_
          refine a_iload_n dX10_needs_65 rfl ?_
          refine a_lald rfl (by decide) (hlt hN (by decide)) (show vp_in _ 384 from vp_in_nI (by omega) (by decide)) dX10_needs_66 ?_
          try rw [nI_clamp (show 64 * i + j < 2 ^ 31 by omega)]
          refine a_lret dX10_needs_67 rfl (by unfold nR at h; first | (rw [if_pos c_14] at h; exact h) | (rw [if_neg (fun z => z c_14), if_pos c_23] at h; exact h) | (rw [if_neg (fun z => z c_14), if_neg (fun z => z c_23), if_pos c_36] at h; exact h) | (rw [if_neg (fun z => z c_14), if_neg (fun z => z c_23), if_neg c_36, if_pos c_50] at h; exact h) | (rw [if_neg (fun z => z c_14), if_neg (fun z => z c_23), if_neg c_36, if_neg c_50] at h; unfold nmM at h; rw [hmy, nI_clamp (by omega)] at h; exact h))
        · refine a_aload_n dX10_needs_53 rfl ?_
          refine a_iload_n dX10_needs_54 rfl ?_
          refine a_callV (mc1 := 0) (ms1 := 0) (As := [_]) kpX10_names0 kmX10_197 (by decide) rfl (Nat.le_of_ble_eq_true rfl) rfl (by decide) rfl (by decide) (hlt hN (by decide)) (Nat.le_of_ble_eq_true rfl) (Nat.le_of_ble_eq_true rfl) (Nat.le_of_ble_eq_true rfl) dX10_needs_55 (w_X10_names0 (show 64 * i + j < 384 by omega) hmn hmy hwk hN hs ?_)
          refine a_goto (tgt := 67) dX10_needs_58 (by decide) ?_
          try rw [nI_clamp (show 64 * i + j < 2 ^ 31 by omega)]
          refine a_lret dX10_needs_67 rfl (by unfold nR at h; first | (rw [if_pos c_14] at h; exact h) | (rw [if_neg (fun z => z c_14), if_pos c_23] at h; exact h) | (rw [if_neg (fun z => z c_14), if_neg (fun z => z c_23), if_pos c_36] at h; exact h) | (rw [if_neg (fun z => z c_14), if_neg (fun z => z c_23), if_neg c_36, if_pos c_50] at h; exact h) | (rw [if_neg (fun z => z c_14), if_neg (fun z => z c_23), if_neg c_36, if_neg c_50] at h; unfold nmM at h; rw [hmy, nI_clamp (by omega)] at h; exact h))
    · refine a_lconst (v := 0) dX10_needs_26 (by decide) ?_
      refine a_lret dX10_needs_27 rfl (by unfold nR at h; first | (rw [if_pos c_14] at h; exact h) | (rw [if_neg (fun z => z c_14), if_pos c_23] at h; exact h) | (rw [if_neg (fun z => z c_14), if_neg (fun z => z c_23), if_pos c_36] at h; exact h) | (rw [if_neg (fun z => z c_14), if_neg (fun z => z c_23), if_neg c_36, if_pos c_50] at h; exact h) | (rw [if_neg (fun z => z c_14), if_neg (fun z => z c_23), if_neg c_36, if_neg c_50] at h; unfold nmM at h; rw [hmy, nI_clamp (by omega)] at h; exact h))

