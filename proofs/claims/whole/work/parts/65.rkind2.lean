theorem w_X10_kind {M : Mem} {N : Nat} {Q : Option Value → Nat → Mem → Prop} {i W : Nat} {κ α τ : Nat → Int32} (hi1 : 1 ≤ i) (hi : i < 6) (hR : RfI M W) (hK : KK M i W κ α τ) {c : Nat} (hc : c < 64) (hwn : 0 < (rI M 78 c).toInt)  (hN : 94 ≤ N) (hs : Str M.2.2.1) (h : ∀ M'', KU M M'' → RfI M'' W → (κ c = 4 → rI M'' 64 50 = α c ∧ rI M'' 64 51 = τ c) → Q (some (.int (κ c))) N M'')  : AW mX10_kind 13 0 0 N 0 [(0, .ref 64), (1, .int (nI i)), (2, .int (nI c))] [] M Q := by
  refine a_iload_n dX10_kind_0 rfl ?_
  refine a_callS (mc1 := 0) (ms1 := 0) (As := [_]) kpX10_isPupil kmX10_341 (by decide) rfl (Nat.le_of_ble_eq_true rfl) (Nat.le_of_ble_eq_true rfl) (Nat.le_of_ble_eq_true rfl) (Nat.le_of_ble_eq_true rfl) dX10_kind_1 (w_X10_isPupil ?_)
  refine a_if_eq (tgt := 31) dX10_kind_4 (by decide) (fun c_4 => absurd c_4 (fun z => bI_z.mp z ⟨by rw [nIt (by omega)]; omega, by rw [nIt (by omega)]; omega⟩)) (fun c_4 => ?_)
  refine a_iload_n dX10_kind_7 rfl ?_
  refine a_callS (mc1 := 0) (ms1 := 0) (As := [_]) kpX10_isCell kmX10_119 (by decide) rfl (Nat.le_of_ble_eq_true rfl) (Nat.le_of_ble_eq_true rfl) (Nat.le_of_ble_eq_true rfl) (Nat.le_of_ble_eq_true rfl) dX10_kind_8 (w_X10_isCell ?_)
  refine a_if_eq (tgt := 31) dX10_kind_11 (by decide) (fun c_11 => absurd c_11 (fun z => bI_z.mp z ⟨by rw [nIt (by omega)]; omega, by rw [nIt (by omega)]; omega⟩)) (fun c_11 => ?_)
  refine a_aload_n dX10_kind_14 rfl ?_
  refine a_iload_n dX10_kind_15 rfl ?_
  refine a_callV (mc1 := 0) (ms1 := 0) (As := [_]) kpX10_isWanted kmX10_201 (by decide) rfl (Nat.le_of_ble_eq_true rfl) rfl (by decide) rfl (by decide) (hlt hN (by decide)) (Nat.le_of_ble_eq_true rfl) (Nat.le_of_ble_eq_true rfl) (Nat.le_of_ble_eq_true rfl) dX10_kind_16 (w_X10_isWanted hc hN (by exact hs) ?_)
  refine a_if_eq (tgt := 31) dX10_kind_19 (by decide) (fun c_19 => absurd c_19 (fun z => bI_z.mp z hwn)) (fun c_19 => ?_)
  refine a_aload_n dX10_kind_22 rfl ?_
  refine a_iload_n dX10_kind_23 rfl ?_
  refine a_iload_n dX10_kind_24 rfl ?_
  refine a_callV (mc1 := 0) (ms1 := 0) (As := [_, _]) kpX10_kindOf kmX10_344 (by decide) rfl (Nat.le_of_ble_eq_true rfl) rfl (by decide) rfl (by decide) (hlt hN (by decide)) (Nat.le_of_ble_eq_true rfl) (Nat.le_of_ble_eq_true rfl) (Nat.le_of_ble_eq_true rfl) dX10_kind_25 (w_X10_kindOf hi1 hi hc hwn hR hK hN (by exact hs) (fun M'' hk hR' h4 => ?_))
  refine a_goto (tgt := 32) dX10_kind_28 (by decide) ?_
  refine a_iret dX10_kind_32 rfl (h M'' hk hR' h4)

theorem w_X10_kind_o1 {M : Mem} {N : Nat} {Q : Option Value → Nat → Mem → Prop} {s c : Int32} (ho : ¬ ((1 ≤ s.toInt ∧ s.toInt < 6) ∧ (0 ≤ c.toInt ∧ c.toInt < 64)))  (hN : 94 ≤ N) (hs : Str M.2.2.1) (h : Q (some (.int (-1))) N (M)) : AW mX10_kind 13 0 0 N 0 [(0, .ref 64), (1, .int s), (2, .int c)] [] M Q := by
  refine a_iload_n dX10_kind_0 rfl ?_
  refine a_callS (mc1 := 0) (ms1 := 0) (As := [_]) kpX10_isPupil kmX10_341 (by decide) rfl (Nat.le_of_ble_eq_true rfl) (Nat.le_of_ble_eq_true rfl) (Nat.le_of_ble_eq_true rfl) (Nat.le_of_ble_eq_true rfl) dX10_kind_1 (w_X10_isPupil ?_)
  refine a_if_eq (tgt := 31) dX10_kind_4 (by decide) (fun c_4 => ?_) (fun c_4 => ?_)
  · refine a_iconst (v := (-1)) dX10_kind_31 (by decide) ?_
    refine a_iret dX10_kind_32 rfl h
  · refine a_iload_n dX10_kind_7 rfl ?_
    refine a_callS (mc1 := 0) (ms1 := 0) (As := [_]) kpX10_isCell kmX10_119 (by decide) rfl (Nat.le_of_ble_eq_true rfl) (Nat.le_of_ble_eq_true rfl) (Nat.le_of_ble_eq_true rfl) (Nat.le_of_ble_eq_true rfl) dX10_kind_8 (w_X10_isCell ?_)
    refine a_if_eq (tgt := 31) dX10_kind_11 (by decide) (fun c_11 => ?_) (fun c_11 => absurd (bI_z.mpr (fun z => ho ⟨bI_nz.mp c_4, z⟩)) c_11)
    refine a_iconst (v := (-1)) dX10_kind_31 (by decide) ?_
    refine a_iret dX10_kind_32 rfl h

theorem w_X10_kind_o2 {M : Mem} {N : Nat} {Q : Option Value → Nat → Mem → Prop} {i c : Nat} (hi1 : 1 ≤ i) (hi : i < 6) (hc : c < 64) (hnw : ¬ 0 < (rI M 78 c).toInt)  (hN : 94 ≤ N) (hs : Str M.2.2.1) (h : Q (some (.int (-1))) N (M)) : AW mX10_kind 13 0 0 N 0 [(0, .ref 64), (1, .int (nI i)), (2, .int (nI c))] [] M Q := by
  refine a_iload_n dX10_kind_0 rfl ?_
  refine a_callS (mc1 := 0) (ms1 := 0) (As := [_]) kpX10_isPupil kmX10_341 (by decide) rfl (Nat.le_of_ble_eq_true rfl) (Nat.le_of_ble_eq_true rfl) (Nat.le_of_ble_eq_true rfl) (Nat.le_of_ble_eq_true rfl) dX10_kind_1 (w_X10_isPupil ?_)
  refine a_if_eq (tgt := 31) dX10_kind_4 (by decide) (fun c_4 => absurd c_4 (fun z => bI_z.mp z ⟨by rw [nIt (by omega)]; omega, by rw [nIt (by omega)]; omega⟩)) (fun c_4 => ?_)
  refine a_iload_n dX10_kind_7 rfl ?_
  refine a_callS (mc1 := 0) (ms1 := 0) (As := [_]) kpX10_isCell kmX10_119 (by decide) rfl (Nat.le_of_ble_eq_true rfl) (Nat.le_of_ble_eq_true rfl) (Nat.le_of_ble_eq_true rfl) (Nat.le_of_ble_eq_true rfl) dX10_kind_8 (w_X10_isCell ?_)
  refine a_if_eq (tgt := 31) dX10_kind_11 (by decide) (fun c_11 => absurd c_11 (fun z => bI_z.mp z ⟨by rw [nIt (by omega)]; omega, by rw [nIt (by omega)]; omega⟩)) (fun c_11 => ?_)
  refine a_aload_n dX10_kind_14 rfl ?_
  refine a_iload_n dX10_kind_15 rfl ?_
  refine a_callV (mc1 := 0) (ms1 := 0) (As := [_]) kpX10_isWanted kmX10_201 (by decide) rfl (Nat.le_of_ble_eq_true rfl) rfl (by decide) rfl (by decide) (hlt hN (by decide)) (Nat.le_of_ble_eq_true rfl) (Nat.le_of_ble_eq_true rfl) (Nat.le_of_ble_eq_true rfl) dX10_kind_16 (w_X10_isWanted hc hN (by exact hs) ?_)
  refine a_if_eq (tgt := 31) dX10_kind_19 (by decide) (fun c_19 => ?_) (fun c_19 => absurd (bI_z.mpr hnw) c_19)
  refine a_iconst (v := (-1)) dX10_kind_31 (by decide) ?_
  refine a_iret dX10_kind_32 rfl h

theorem w_X10_slip {M : Mem} {N : Nat} {Q : Option Value → Nat → Mem → Prop} {i W : Nat} {κ α τ : Nat → Int32} (hi1 : 1 ≤ i) (hi : i < 6) (hR : RfI M W) (hK : KK M i W κ α τ) {c : Nat} (hc : c < 64) (hwn : 0 < (rI M 78 c).toInt) {v : Int32} (hv : v = 0 ∨ v = 1)  (hN : 94 ≤ N) (hs : Str M.2.2.1) (h : ∀ M'', KU M M'' → RfI M'' W → Q (some (.int (if κ c = 4 then (if v = 0 then α c else τ c) else -1))) N M'')  : AW mX10_slip 13 0 0 N 0 [(0, .ref 64), (1, .int (nI i)), (2, .int (nI c)), (3, .int v)] [] M Q := by
  refine a_iload_n dX10_slip_0 rfl ?_
  refine a_callS (mc1 := 0) (ms1 := 0) (As := [_]) kpX10_isPupil kmX10_341 (by decide) rfl (Nat.le_of_ble_eq_true rfl) (Nat.le_of_ble_eq_true rfl) (Nat.le_of_ble_eq_true rfl) (Nat.le_of_ble_eq_true rfl) dX10_slip_1 (w_X10_isPupil ?_)
  refine a_if_eq (tgt := 41) dX10_slip_4 (by decide) (fun c_4 => absurd c_4 (fun z => bI_z.mp z ⟨by rw [nIt (by omega)]; omega, by rw [nIt (by omega)]; omega⟩)) (fun c_4 => ?_)
  refine a_iload_n dX10_slip_7 rfl ?_
  refine a_callS (mc1 := 0) (ms1 := 0) (As := [_]) kpX10_isCell kmX10_119 (by decide) rfl (Nat.le_of_ble_eq_true rfl) (Nat.le_of_ble_eq_true rfl) (Nat.le_of_ble_eq_true rfl) (Nat.le_of_ble_eq_true rfl) dX10_slip_8 (w_X10_isCell ?_)
  refine a_if_eq (tgt := 41) dX10_slip_11 (by decide) (fun c_11 => absurd c_11 (fun z => bI_z.mp z ⟨by rw [nIt (by omega)]; omega, by rw [nIt (by omega)]; omega⟩)) (fun c_11 => ?_)
  refine a_aload_n dX10_slip_14 rfl ?_
  refine a_iload_n dX10_slip_15 rfl ?_
  refine a_callV (mc1 := 0) (ms1 := 0) (As := [_]) kpX10_isWanted kmX10_201 (by decide) rfl (Nat.le_of_ble_eq_true rfl) rfl (by decide) rfl (by decide) (hlt hN (by decide)) (Nat.le_of_ble_eq_true rfl) (Nat.le_of_ble_eq_true rfl) (Nat.le_of_ble_eq_true rfl) dX10_slip_16 (w_X10_isWanted hc hN (by exact hs) ?_)
  refine a_if_eq (tgt := 41) dX10_slip_19 (by decide) (fun c_19 => absurd c_19 (fun z => bI_z.mp z hwn)) (fun c_19 => ?_)
  refine a_iload_n dX10_slip_22 rfl ?_
  refine a_iconst (v := 0) dX10_slip_23 (by decide) ?_
  refine a_iconst (v := 1) dX10_slip_24 (by decide) ?_
  refine a_callS (mc1 := 0) (ms1 := 0) (As := [_, _, _]) kpX10_lies kmX10_104 (by decide) rfl (Nat.le_of_ble_eq_true rfl) (Nat.le_of_ble_eq_true rfl) (Nat.le_of_ble_eq_true rfl) (Nat.le_of_ble_eq_true rfl) dX10_slip_25 (w_X10_lies ?_)
  refine a_if_eq (tgt := 41) dX10_slip_28 (by decide) (fun c_28 => absurd c_28 (fun z => bI_z.mp z (by rcases hv with rfl | rfl <;> decide))) (fun c_28 => ?_)
  refine a_aload_n dX10_slip_31 rfl ?_
  refine a_iload_n dX10_slip_32 rfl ?_
  refine a_iload_n dX10_slip_33 rfl ?_
  refine a_callV (mc1 := 0) (ms1 := 0) (As := [_, _]) kpX10_kindOf kmX10_344 (by decide) rfl (Nat.le_of_ble_eq_true rfl) rfl (by decide) rfl (by decide) (hlt hN (by decide)) (Nat.le_of_ble_eq_true rfl) (Nat.le_of_ble_eq_true rfl) (Nat.le_of_ble_eq_true rfl) dX10_slip_34 (w_X10_kindOf hi1 hi hc hwn hR hK hN (by exact hs) (fun M'' hk hR' h4 => ?_))
  refine a_iconst (v := 4) dX10_slip_37 (by decide) ?_
  refine a_icmp_eq (tgt := 43) dX10_slip_38 (by decide) (fun c_38 => ?_) (fun c_38 => ?_)
  · have k4 : κ c = 4 := c_38
    refine a_iload_n dX10_slip_43 rfl ?_
    refine a_if_ne (tgt := 54) dX10_slip_44 (by decide) (fun c_44 => ?_) (fun c_44 => ?_)
    · refine a_aload_n dX10_slip_54 rfl ?_
      refine a_getI kfX10_324 rfl rfl (by decide) (hlt hN (by decide)) dX10_slip_55 ?_
      refine a_iret dX10_slip_58 rfl (by have q := h M'' hk hR'; rw [if_pos k4, if_neg c_44] at q; rw [(h4 k4).2]; exact q)
    · refine a_aload_n dX10_slip_47 rfl ?_
      refine a_getI kfX10_318 rfl rfl (by decide) (hlt hN (by decide)) dX10_slip_48 ?_
      refine a_goto (tgt := 58) dX10_slip_51 (by decide) ?_
      refine a_iret dX10_slip_58 rfl (by have q := h M'' hk hR'; rw [if_pos k4, if_pos c_44] at q; rw [(h4 k4).1]; exact q)
  · have k4 : ¬ κ c = 4 := c_38
    refine a_iconst (v := (-1)) dX10_slip_41 (by decide) ?_
    refine a_iret dX10_slip_42 rfl (by have q := h M'' hk hR'; rw [if_neg k4] at q; exact q)

theorem w_X10_slip_o1 {M : Mem} {N : Nat} {Q : Option Value → Nat → Mem → Prop} {s c v : Int32} (ho : ¬ ((1 ≤ s.toInt ∧ s.toInt < 6) ∧ (0 ≤ c.toInt ∧ c.toInt < 64)))  (hN : 94 ≤ N) (hs : Str M.2.2.1) (h : Q (some (.int (-1))) N (M)) : AW mX10_slip 13 0 0 N 0 [(0, .ref 64), (1, .int s), (2, .int c), (3, .int v)] [] M Q := by
  refine a_iload_n dX10_slip_0 rfl ?_
  refine a_callS (mc1 := 0) (ms1 := 0) (As := [_]) kpX10_isPupil kmX10_341 (by decide) rfl (Nat.le_of_ble_eq_true rfl) (Nat.le_of_ble_eq_true rfl) (Nat.le_of_ble_eq_true rfl) (Nat.le_of_ble_eq_true rfl) dX10_slip_1 (w_X10_isPupil ?_)
  refine a_if_eq (tgt := 41) dX10_slip_4 (by decide) (fun c_4 => ?_) (fun c_4 => ?_)
  · refine a_iconst (v := (-1)) dX10_slip_41 (by decide) ?_
    refine a_iret dX10_slip_42 rfl h
  · refine a_iload_n dX10_slip_7 rfl ?_
    refine a_callS (mc1 := 0) (ms1 := 0) (As := [_]) kpX10_isCell kmX10_119 (by decide) rfl (Nat.le_of_ble_eq_true rfl) (Nat.le_of_ble_eq_true rfl) (Nat.le_of_ble_eq_true rfl) (Nat.le_of_ble_eq_true rfl) dX10_slip_8 (w_X10_isCell ?_)
    refine a_if_eq (tgt := 41) dX10_slip_11 (by decide) (fun c_11 => ?_) (fun c_11 => absurd (bI_z.mpr (fun z => ho ⟨bI_nz.mp c_4, z⟩)) c_11)
    refine a_iconst (v := (-1)) dX10_slip_41 (by decide) ?_
    refine a_iret dX10_slip_42 rfl h

theorem l01 {v : Int32} : ((0 : Int32).toInt ≤ v.toInt ∧ v.toInt ≤ (1 : Int32).toInt) ↔ v = 0 ∨ v = 1 := by
  rw [← Int32.toInt_inj, ← Int32.toInt_inj]
  have a : (0 : Int32).toInt = 0 := rfl
  have b : (1 : Int32).toInt = 1 := rfl
  rw [a, b]
  omega
theorem w_X10_slip_o2 {M : Mem} {N : Nat} {Q : Option Value → Nat → Mem → Prop} {i c : Nat} {v : Int32} (hi1 : 1 ≤ i) (hi : i < 6) (hc : c < 64) (hnw : ¬ (0 < (rI M 78 c).toInt ∧ (v = 0 ∨ v = 1)))  (hN : 94 ≤ N) (hs : Str M.2.2.1) (h : Q (some (.int (-1))) N (M)) : AW mX10_slip 13 0 0 N 0 [(0, .ref 64), (1, .int (nI i)), (2, .int (nI c)), (3, .int v)] [] M Q := by
  refine a_iload_n dX10_slip_0 rfl ?_
  refine a_callS (mc1 := 0) (ms1 := 0) (As := [_]) kpX10_isPupil kmX10_341 (by decide) rfl (Nat.le_of_ble_eq_true rfl) (Nat.le_of_ble_eq_true rfl) (Nat.le_of_ble_eq_true rfl) (Nat.le_of_ble_eq_true rfl) dX10_slip_1 (w_X10_isPupil ?_)
  refine a_if_eq (tgt := 41) dX10_slip_4 (by decide) (fun c_4 => absurd c_4 (fun z => bI_z.mp z ⟨by rw [nIt (by omega)]; omega, by rw [nIt (by omega)]; omega⟩)) (fun c_4 => ?_)
  refine a_iload_n dX10_slip_7 rfl ?_
  refine a_callS (mc1 := 0) (ms1 := 0) (As := [_]) kpX10_isCell kmX10_119 (by decide) rfl (Nat.le_of_ble_eq_true rfl) (Nat.le_of_ble_eq_true rfl) (Nat.le_of_ble_eq_true rfl) (Nat.le_of_ble_eq_true rfl) dX10_slip_8 (w_X10_isCell ?_)
  refine a_if_eq (tgt := 41) dX10_slip_11 (by decide) (fun c_11 => absurd c_11 (fun z => bI_z.mp z ⟨by rw [nIt (by omega)]; omega, by rw [nIt (by omega)]; omega⟩)) (fun c_11 => ?_)
  refine a_aload_n dX10_slip_14 rfl ?_
  refine a_iload_n dX10_slip_15 rfl ?_
  refine a_callV (mc1 := 0) (ms1 := 0) (As := [_]) kpX10_isWanted kmX10_201 (by decide) rfl (Nat.le_of_ble_eq_true rfl) rfl (by decide) rfl (by decide) (hlt hN (by decide)) (Nat.le_of_ble_eq_true rfl) (Nat.le_of_ble_eq_true rfl) (Nat.le_of_ble_eq_true rfl) dX10_slip_16 (w_X10_isWanted hc hN (by exact hs) ?_)
  refine a_if_eq (tgt := 41) dX10_slip_19 (by decide) (fun c_19 => ?_) (fun c_19 => ?_)
  · refine a_iconst (v := (-1)) dX10_slip_41 (by decide) ?_
    refine a_iret dX10_slip_42 rfl h
  · refine a_iload_n dX10_slip_22 rfl ?_
    refine a_iconst (v := 0) dX10_slip_23 (by decide) ?_
    refine a_iconst (v := 1) dX10_slip_24 (by decide) ?_
    refine a_callS (mc1 := 0) (ms1 := 0) (As := [_, _, _]) kpX10_lies kmX10_104 (by decide) rfl (Nat.le_of_ble_eq_true rfl) (Nat.le_of_ble_eq_true rfl) (Nat.le_of_ble_eq_true rfl) (Nat.le_of_ble_eq_true rfl) dX10_slip_25 (w_X10_lies ?_)
    refine a_if_eq (tgt := 41) dX10_slip_28 (by decide) (fun c_28 => ?_) (fun c_28 => absurd (bI_z.mpr (fun z => hnw ⟨bI_nz.mp c_19, l01.mp z⟩)) c_28)
    refine a_iconst (v := (-1)) dX10_slip_41 (by decide) ?_
    refine a_iret dX10_slip_42 rfl h

theorem w_X10_pointsOf {M : Mem} {N : Nat} {Q : Option Value → Nat → Mem → Prop} {i W : Nat} {κ α τ : Nat → Int32} (hi1 : 1 ≤ i) (hi : i < 6) (hR : RfI M W) (hK : KK M i W κ α τ) {c : Nat} (hc : c < 64) (hwn : 0 < (rI M 78 c).toInt) (hκ : κ c = 0 ∨ κ c = 1 ∨ κ c = 2 ∨ κ c = 3 ∨ κ c = 4 ∨ κ c = 5)  (hN : 94 ≤ N) (hs : Str M.2.2.1) (h : ∀ M'', KU M M'' → RfI M'' W → Q (some (.int (shF (κ c) (rI M 78 c)))) N M'')  : AW mX10_pointsOf 13 0 0 N 0 [(0, .ref 64), (1, .int (nI i)), (2, .int (nI c))] [] M Q := by
  refine a_aload_n dX10_pointsOf_0 rfl ?_
  refine a_iload_n dX10_pointsOf_1 rfl ?_
  refine a_iload_n dX10_pointsOf_2 rfl ?_
  refine a_callV (mc1 := 0) (ms1 := 0) (As := [_, _]) kpX10_kindOf kmX10_344 (by decide) rfl (Nat.le_of_ble_eq_true rfl) rfl (by decide) rfl (by decide) (hlt hN (by decide)) (Nat.le_of_ble_eq_true rfl) (Nat.le_of_ble_eq_true rfl) (Nat.le_of_ble_eq_true rfl) dX10_pointsOf_3 (w_X10_kindOf hi1 hi hc hwn hR hK hN (by exact hs) (fun M'' hk hR' h4 => ?_))
  have hs : Str M''.2.2.1 := by rw [hk.1]; exact hs
  generalize ek : κ c = kc at *
  rcases hκ with eq | eq | eq | eq | eq | eq <;> subst eq
  · refine a_tableOut (tgt := 61) dX10_pointsOf_6 (by decide) (by decide) ?_
    refine a_iconst (v := 0) dX10_pointsOf_61 (by decide) ?_
    refine a_iret dX10_pointsOf_62 rfl (h M'' hk hR')
  · refine a_tableIn (off := 30) (tgt := 36) dX10_pointsOf_6 (by decide) (by decide) (by decide) (by decide) ?_
    refine a_aload_n dX10_pointsOf_36 rfl ?_
    refine a_getA (z := 78) kfX10_52 rfl rfl (st_64_14 hs) (by decide) (hlt hN (by decide)) dX10_pointsOf_37 ?_
    refine a_iload_n dX10_pointsOf_40 rfl ?_
    refine a_iald rfl (by decide) (hlt hN (by decide)) (show vp_in _ 64 from j64_in hc) dX10_pointsOf_41 ?_
    rw [j64_c hc, hk.2.1 78 c (by omega) (by omega) (by omega) (by omega)]
    refine a_iret dX10_pointsOf_42 rfl (h M'' hk hR')
  · refine a_tableIn (off := 46) (tgt := 52) dX10_pointsOf_6 (by decide) (by decide) (by decide) (by decide) ?_
    refine a_aload_n dX10_pointsOf_52 rfl ?_
    refine a_getA (z := 78) kfX10_52 rfl rfl (st_64_14 hs) (by decide) (hlt hN (by decide)) dX10_pointsOf_53 ?_
    refine a_iload_n dX10_pointsOf_56 rfl ?_
    refine a_iald rfl (by decide) (hlt hN (by decide)) (show vp_in _ 64 from j64_in hc) dX10_pointsOf_57 ?_
    rw [j64_c hc, hk.2.1 78 c (by omega) (by omega) (by omega) (by omega)]
    refine a_iconst (v := 4) dX10_pointsOf_58 (by decide) ?_
    refine a_idiv dX10_pointsOf_59 (by decide) ?_
    refine a_iret dX10_pointsOf_60 rfl (h M'' hk hR')
  · refine a_tableIn (off := 30) (tgt := 36) dX10_pointsOf_6 (by decide) (by decide) (by decide) (by decide) ?_
    refine a_aload_n dX10_pointsOf_36 rfl ?_
    refine a_getA (z := 78) kfX10_52 rfl rfl (st_64_14 hs) (by decide) (hlt hN (by decide)) dX10_pointsOf_37 ?_
    refine a_iload_n dX10_pointsOf_40 rfl ?_
    refine a_iald rfl (by decide) (hlt hN (by decide)) (show vp_in _ 64 from j64_in hc) dX10_pointsOf_41 ?_
    rw [j64_c hc, hk.2.1 78 c (by omega) (by omega) (by omega) (by omega)]
    refine a_iret dX10_pointsOf_42 rfl (h M'' hk hR')
  · refine a_tableIn (off := 37) (tgt := 43) dX10_pointsOf_6 (by decide) (by decide) (by decide) (by decide) ?_
    refine a_aload_n dX10_pointsOf_43 rfl ?_
    refine a_getA (z := 78) kfX10_52 rfl rfl (st_64_14 hs) (by decide) (hlt hN (by decide)) dX10_pointsOf_44 ?_
    refine a_iload_n dX10_pointsOf_47 rfl ?_
    refine a_iald rfl (by decide) (hlt hN (by decide)) (show vp_in _ 64 from j64_in hc) dX10_pointsOf_48 ?_
    rw [j64_c hc, hk.2.1 78 c (by omega) (by omega) (by omega) (by omega)]
    refine a_iconst (v := 2) dX10_pointsOf_49 (by decide) ?_
    refine a_idiv dX10_pointsOf_50 (by decide) ?_
    refine a_iret dX10_pointsOf_51 rfl (h M'' hk hR')
  · refine a_tableOut (tgt := 61) dX10_pointsOf_6 (by decide) (by decide) ?_
    refine a_iconst (v := 0) dX10_pointsOf_61 (by decide) ?_
    refine a_iret dX10_pointsOf_62 rfl (h M'' hk hR')

theorem l_X10_points {M : Mem} {N : Nat} {Q : Option Value → Nat → Mem → Prop} {i W : Nat} {κ α τ : Nat → Int32} (hi1 : 1 ≤ i) (hi : i < 6) (hR : RfI M W) (hK : KK M i W κ α τ) {wd : Int64} (hwd : ∀ x, x < 64 → (hb wd (nI x) = true ↔ 0 < (rI M 78 x).toInt)) (hκ : ∀ c, c < 64 → 0 < (rI M 78 c).toInt → κ c = 0 ∨ κ c = 1 ∨ κ c = 2 ∨ κ c = 3 ∨ κ c = 4 ∨ κ c = 5) {v : Int32} (hN : 94 ≤ N) (hs : Str M.2.2.1) (h : ∀ M'', KU M M'' → RfI M'' W → Q (some (.int (ptF κ (rI M 78) wd v 64))) N M'') : ∀ (r x : Nat) (M' : Mem), x + r = 64 → KU M M' → RfI M' W → AW mX10_points 14 0 0 N 34 [(0, .ref 64), (1, .int (nI i)), (2, .int v), (3, .int (ptF κ (rI M 78) wd v x)), (4, .int (nI x))] [] M' Q := by
  intro r
  induction r with
  | zero =>
    intro x M' hkk hk hR'
    obtain rfl : x = 64 := by omega
    have hs' : Str M'.2.2.1 := by rw [hk.1]; exact hs
    refine a_iload dX10_points_34 rfl ?_
    refine a_bipush (v := 64) dX10_points_36 (by decide) ?_
    refine a_icmp_ge (tgt := 81) dX10_points_38 (by decide) (fun c_38 => ?_) (fun c_38 => absurd (nI_le (a := 64) (b := 64) (by omega) (by decide)) c_38)
    refine a_iload_n dX10_points_81 rfl ?_
    refine a_iret dX10_points_82 rfl (h M' hk hR')
  | succ r ih =>
    intro x M' hkk hk hR'
    have hs' : Str M'.2.2.1 := by rw [hk.1]; exact hs
    have hx : x < 64 := by omega
    refine a_iload dX10_points_34 rfl ?_
    refine a_bipush (v := 64) dX10_points_36 (by decide) ?_
    refine a_icmp_ge (tgt := 81) dX10_points_38 (by decide) (fun c_38 => absurd c_38 (nI_ge (b := 64) (by omega) (by decide))) (fun c_38 => ?_)
    refine a_iload_n dX10_points_41 rfl ?_
    refine a_iload_n dX10_points_42 rfl ?_
    refine a_iconst (v := (-1)) dX10_points_43 (by decide) ?_
    refine a_icmp_eq (tgt := 53) dX10_points_44 (by decide) (fun c_44 => ?_) (fun c_44 => ?_)
    · have pc : v = -1 ∨ v = nI x := Or.inl c_44
      refine a_aload_n dX10_points_53 rfl ?_
      refine a_iload dX10_points_54 rfl ?_
      refine a_callV (mc1 := 0) (ms1 := 0) (As := [_]) kpX10_isWanted kmX10_201 (by decide) rfl (Nat.le_of_ble_eq_true rfl) rfl (by decide) rfl (by decide) (hlt hN (by decide)) (Nat.le_of_ble_eq_true rfl) (Nat.le_of_ble_eq_true rfl) (Nat.le_of_ble_eq_true rfl) dX10_points_56 (w_X10_isWanted hx hN hs' ?_)
      refine a_if_eq (tgt := 72) dX10_points_59 (by decide) (fun c_59 => ?_) (fun c_59 => ?_)
      · have p59 : ¬ 0 < (rI M 78 x).toInt := by rw [← hk.2.1 78 x (by omega) (by omega) (by omega) (by omega)]; exact bI_z.mp c_59
        refine a_iconst (v := 0) dX10_points_72 (by decide) ?_
        refine a_iadd dX10_points_73 ?_
        refine a_istore_n dX10_points_74 (by decide) ?_
        refine a_iinc dX10_points_75 rfl rfl (by decide) ?_
        refine a_goto (tgt := 34) dX10_points_78 (by decide) ?_
        rw [show nI x + Int32.ofInt 1 = nI (x + 1) from nI_1 x]
        first
        | (have w : 0 < (rI M 78 x).toInt := p59
           rw [← ptF_1 ((hwd x hx).mpr w) pc]
           exact AW.sub (L' := [(0, .ref 64), (1, .int (nI i)), (2, .int v), (3, .int (ptF κ (rI M 78) wd v (x + 1))), (4, .int (nI (x + 1)))]) rfl (ih (x + 1) _ (by omega) hk2 hR2))
        | (rw [Int32.add_zero, ← ptF_0 (c := v) (K := κ) (W := rI M 78) (fun z => by first | exact p59 ((hwd x hx).mp z.1) | exact pc z.2)]
           exact AW.sub (L' := [(0, .ref 64), (1, .int (nI i)), (2, .int v), (3, .int (ptF κ (rI M 78) wd v (x + 1))), (4, .int (nI (x + 1)))]) rfl (ih (x + 1) _ (by omega) hk hR'))
      · have p59 : 0 < (rI M 78 x).toInt := by rw [← hk.2.1 78 x (by omega) (by omega) (by omega) (by omega)]; exact bI_nz.mp c_59
        refine a_aload_n dX10_points_62 rfl ?_
        refine a_iload_n dX10_points_63 rfl ?_
        refine a_iload dX10_points_64 rfl ?_
        refine a_callV (mc1 := 0) (ms1 := 0) (As := [_, _]) kpX10_pointsOf kmX10_347 (by decide) rfl (Nat.le_of_ble_eq_true rfl) rfl (by decide) rfl (by decide) (hlt hN (by decide)) (Nat.le_of_ble_eq_true rfl) (Nat.le_of_ble_eq_true rfl) (Nat.le_of_ble_eq_true rfl) dX10_points_66 (w_X10_pointsOf hi1 hi hR' (hK.ku hk) hx (by rw [hk.2.1 78 x (by omega) (by omega) (by omega) (by omega)]; exact p59) (hκ x hx p59) hN hs' (fun M2 hka hR2 => ?_))
        have hk2 := hk.trans hka
        rw [hk.2.1 78 x (by omega) (by omega) (by omega) (by omega)]
        refine a_goto (tgt := 73) dX10_points_69 (by decide) ?_
        refine a_iadd dX10_points_73 ?_
        refine a_istore_n dX10_points_74 (by decide) ?_
        refine a_iinc dX10_points_75 rfl rfl (by decide) ?_
        refine a_goto (tgt := 34) dX10_points_78 (by decide) ?_
        rw [show nI x + Int32.ofInt 1 = nI (x + 1) from nI_1 x]
        first
        | (have w : 0 < (rI M 78 x).toInt := p59
           rw [← ptF_1 ((hwd x hx).mpr w) pc]
           exact AW.sub (L' := [(0, .ref 64), (1, .int (nI i)), (2, .int v), (3, .int (ptF κ (rI M 78) wd v (x + 1))), (4, .int (nI (x + 1)))]) rfl (ih (x + 1) _ (by omega) hk2 hR2))
        | (rw [Int32.add_zero, ← ptF_0 (c := v) (K := κ) (W := rI M 78) (fun z => by first | exact p59 ((hwd x hx).mp z.1) | exact pc z.2)]
           exact AW.sub (L' := [(0, .ref 64), (1, .int (nI i)), (2, .int v), (3, .int (ptF κ (rI M 78) wd v (x + 1))), (4, .int (nI (x + 1)))]) rfl (ih (x + 1) _ (by omega) hk hR'))
    · refine a_iload_n dX10_points_47 rfl ?_
      refine a_iload dX10_points_48 rfl ?_
      refine a_icmp_ne (tgt := 72) dX10_points_50 (by decide) (fun c_50 => ?_) (fun c_50 => ?_)
      · have pc : ¬ (v = -1 ∨ v = nI x) := fun z => z.elim c_44 c_50
        refine a_iconst (v := 0) dX10_points_72 (by decide) ?_
        refine a_iadd dX10_points_73 ?_
        refine a_istore_n dX10_points_74 (by decide) ?_
        refine a_iinc dX10_points_75 rfl rfl (by decide) ?_
        refine a_goto (tgt := 34) dX10_points_78 (by decide) ?_
        rw [show nI x + Int32.ofInt 1 = nI (x + 1) from nI_1 x]
        first
        | (have w : 0 < (rI M 78 x).toInt := p59
           rw [← ptF_1 ((hwd x hx).mpr w) pc]
           exact AW.sub (L' := [(0, .ref 64), (1, .int (nI i)), (2, .int v), (3, .int (ptF κ (rI M 78) wd v (x + 1))), (4, .int (nI (x + 1)))]) rfl (ih (x + 1) _ (by omega) hk2 hR2))
        | (rw [Int32.add_zero, ← ptF_0 (c := v) (K := κ) (W := rI M 78) (fun z => by first | exact p59 ((hwd x hx).mp z.1) | exact pc z.2)]
           exact AW.sub (L' := [(0, .ref 64), (1, .int (nI i)), (2, .int v), (3, .int (ptF κ (rI M 78) wd v (x + 1))), (4, .int (nI (x + 1)))]) rfl (ih (x + 1) _ (by omega) hk hR'))
      · have pc : v = -1 ∨ v = nI x := Or.inr c_50
        refine a_aload_n dX10_points_53 rfl ?_
        refine a_iload dX10_points_54 rfl ?_
        refine a_callV (mc1 := 0) (ms1 := 0) (As := [_]) kpX10_isWanted kmX10_201 (by decide) rfl (Nat.le_of_ble_eq_true rfl) rfl (by decide) rfl (by decide) (hlt hN (by decide)) (Nat.le_of_ble_eq_true rfl) (Nat.le_of_ble_eq_true rfl) (Nat.le_of_ble_eq_true rfl) dX10_points_56 (w_X10_isWanted hx hN hs' ?_)
        refine a_if_eq (tgt := 72) dX10_points_59 (by decide) (fun c_59 => ?_) (fun c_59 => ?_)
        · have p59 : ¬ 0 < (rI M 78 x).toInt := by rw [← hk.2.1 78 x (by omega) (by omega) (by omega) (by omega)]; exact bI_z.mp c_59
          refine a_iconst (v := 0) dX10_points_72 (by decide) ?_
          refine a_iadd dX10_points_73 ?_
          refine a_istore_n dX10_points_74 (by decide) ?_
          refine a_iinc dX10_points_75 rfl rfl (by decide) ?_
          refine a_goto (tgt := 34) dX10_points_78 (by decide) ?_
          rw [show nI x + Int32.ofInt 1 = nI (x + 1) from nI_1 x]
          first
          | (have w : 0 < (rI M 78 x).toInt := p59
             rw [← ptF_1 ((hwd x hx).mpr w) pc]
             exact AW.sub (L' := [(0, .ref 64), (1, .int (nI i)), (2, .int v), (3, .int (ptF κ (rI M 78) wd v (x + 1))), (4, .int (nI (x + 1)))]) rfl (ih (x + 1) _ (by omega) hk2 hR2))
          | (rw [Int32.add_zero, ← ptF_0 (c := v) (K := κ) (W := rI M 78) (fun z => by first | exact p59 ((hwd x hx).mp z.1) | exact pc z.2)]
             exact AW.sub (L' := [(0, .ref 64), (1, .int (nI i)), (2, .int v), (3, .int (ptF κ (rI M 78) wd v (x + 1))), (4, .int (nI (x + 1)))]) rfl (ih (x + 1) _ (by omega) hk hR'))
        · have p59 : 0 < (rI M 78 x).toInt := by rw [← hk.2.1 78 x (by omega) (by omega) (by omega) (by omega)]; exact bI_nz.mp c_59
          refine a_aload_n dX10_points_62 rfl ?_
          refine a_iload_n dX10_points_63 rfl ?_
          refine a_iload dX10_points_64 rfl ?_
          refine a_callV (mc1 := 0) (ms1 := 0) (As := [_, _]) kpX10_pointsOf kmX10_347 (by decide) rfl (Nat.le_of_ble_eq_true rfl) rfl (by decide) rfl (by decide) (hlt hN (by decide)) (Nat.le_of_ble_eq_true rfl) (Nat.le_of_ble_eq_true rfl) (Nat.le_of_ble_eq_true rfl) dX10_points_66 (w_X10_pointsOf hi1 hi hR' (hK.ku hk) hx (by rw [hk.2.1 78 x (by omega) (by omega) (by omega) (by omega)]; exact p59) (hκ x hx p59) hN hs' (fun M2 hka hR2 => ?_))
          have hk2 := hk.trans hka
          rw [hk.2.1 78 x (by omega) (by omega) (by omega) (by omega)]
          refine a_goto (tgt := 73) dX10_points_69 (by decide) ?_
          refine a_iadd dX10_points_73 ?_
          refine a_istore_n dX10_points_74 (by decide) ?_
          refine a_iinc dX10_points_75 rfl rfl (by decide) ?_
          refine a_goto (tgt := 34) dX10_points_78 (by decide) ?_
          rw [show nI x + Int32.ofInt 1 = nI (x + 1) from nI_1 x]
          first
          | (have w : 0 < (rI M 78 x).toInt := p59
             rw [← ptF_1 ((hwd x hx).mpr w) pc]
             exact AW.sub (L' := [(0, .ref 64), (1, .int (nI i)), (2, .int v), (3, .int (ptF κ (rI M 78) wd v (x + 1))), (4, .int (nI (x + 1)))]) rfl (ih (x + 1) _ (by omega) hk2 hR2))
          | (rw [Int32.add_zero, ← ptF_0 (c := v) (K := κ) (W := rI M 78) (fun z => by first | exact p59 ((hwd x hx).mp z.1) | exact pc z.2)]
             exact AW.sub (L' := [(0, .ref 64), (1, .int (nI i)), (2, .int v), (3, .int (ptF κ (rI M 78) wd v (x + 1))), (4, .int (nI (x + 1)))]) rfl (ih (x + 1) _ (by omega) hk hR'))
theorem w_X10_points_a {M : Mem} {N : Nat} {Q : Option Value → Nat → Mem → Prop} {i W : Nat} {κ α τ : Nat → Int32} (hi1 : 1 ≤ i) (hi : i < 6) (hR : RfI M W) (hK : KK M i W κ α τ) {wd : Int64} (hwd : ∀ x, x < 64 → (hb wd (nI x) = true ↔ 0 < (rI M 78 x).toInt)) (hκ : ∀ c, c < 64 → 0 < (rI M 78 c).toInt → κ c = 0 ∨ κ c = 1 ∨ κ c = 2 ∨ κ c = 3 ∨ κ c = 4 ∨ κ c = 5)  (hN : 94 ≤ N) (hs : Str M.2.2.1) (h : ∀ M'', KU M M'' → RfI M'' W → Q (some (.int (ptF κ (rI M 78) wd (-1) 64))) N M'')  : AW mX10_points 14 0 0 N 0 [(0, .ref 64), (1, .int (nI i)), (2, .int (-1))] [] M Q := by
  refine a_iload_n dX10_points_0 rfl ?_
  refine a_callS (mc1 := 0) (ms1 := 0) (As := [_]) kpX10_isPupil kmX10_341 (by decide) rfl (Nat.le_of_ble_eq_true rfl) (Nat.le_of_ble_eq_true rfl) (Nat.le_of_ble_eq_true rfl) (Nat.le_of_ble_eq_true rfl) dX10_points_1 (w_X10_isPupil ?_)
  refine a_if_eq (tgt := 27) dX10_points_4 (by decide) (fun c_4 => absurd c_4 (fun z => bI_z.mp z ⟨by rw [nIt (by omega)]; omega, by rw [nIt (by omega)]; omega⟩)) (fun c_4 => ?_)
  refine a_iload_n dX10_points_7 rfl ?_
  refine a_iconst (v := (-1)) dX10_points_8 (by decide) ?_
  refine a_icmp_eq (tgt := 29) dX10_points_9 (by decide) (fun c_9 => ?_) (fun c_9 => absurd (rfl) c_9)
  refine a_iconst (v := 0) dX10_points_29 (by decide) ?_
  refine a_istore_n dX10_points_30 (by decide) ?_
  refine a_iconst (v := 0) dX10_points_31 (by decide) ?_
  refine a_istore dX10_points_32 (by decide) ?_
  exact AW.sub (L' := [(0, .ref 64), (1, .int (nI i)), (2, .int (-1)), (3, .int (ptF κ (rI M 78) wd (-1) 0)), (4, .int (nI 0))]) rfl (l_X10_points hi1 hi hR hK hwd hκ hN hs h 64 0 M (by omega) KU.refl hR)

theorem nneg {c : Nat} (hc : c < 64) : ¬ nI c = -1 := fun z => by
  have := congrArg Int32.toInt z
  rw [nIt (by omega)] at this
  have e : (-1 : Int32).toInt = -1 := rfl
  omega
theorem w_X10_points_c {M : Mem} {N : Nat} {Q : Option Value → Nat → Mem → Prop} {i W : Nat} {κ α τ : Nat → Int32} (hi1 : 1 ≤ i) (hi : i < 6) (hR : RfI M W) (hK : KK M i W κ α τ) {wd : Int64} (hwd : ∀ x, x < 64 → (hb wd (nI x) = true ↔ 0 < (rI M 78 x).toInt)) (hκ : ∀ c, c < 64 → 0 < (rI M 78 c).toInt → κ c = 0 ∨ κ c = 1 ∨ κ c = 2 ∨ κ c = 3 ∨ κ c = 4 ∨ κ c = 5) {c : Nat} (hc : c < 64) (hwn : 0 < (rI M 78 c).toInt)  (hN : 94 ≤ N) (hs : Str M.2.2.1) (h : ∀ M'', KU M M'' → RfI M'' W → Q (some (.int (ptF κ (rI M 78) wd (nI c) 64))) N M'')  : AW mX10_points 14 0 0 N 0 [(0, .ref 64), (1, .int (nI i)), (2, .int (nI c))] [] M Q := by
  refine a_iload_n dX10_points_0 rfl ?_
  refine a_callS (mc1 := 0) (ms1 := 0) (As := [_]) kpX10_isPupil kmX10_341 (by decide) rfl (Nat.le_of_ble_eq_true rfl) (Nat.le_of_ble_eq_true rfl) (Nat.le_of_ble_eq_true rfl) (Nat.le_of_ble_eq_true rfl) dX10_points_1 (w_X10_isPupil ?_)
  refine a_if_eq (tgt := 27) dX10_points_4 (by decide) (fun c_4 => absurd c_4 (fun z => bI_z.mp z ⟨by rw [nIt (by omega)]; omega, by rw [nIt (by omega)]; omega⟩)) (fun c_4 => ?_)
  refine a_iload_n dX10_points_7 rfl ?_
  refine a_iconst (v := (-1)) dX10_points_8 (by decide) ?_
  refine a_icmp_eq (tgt := 29) dX10_points_9 (by decide) (fun c_9 => absurd c_9 (fun z => nneg hc z)) (fun c_9 => ?_)
  refine a_iload_n dX10_points_12 rfl ?_
  refine a_callS (mc1 := 0) (ms1 := 0) (As := [_]) kpX10_isCell kmX10_119 (by decide) rfl (Nat.le_of_ble_eq_true rfl) (Nat.le_of_ble_eq_true rfl) (Nat.le_of_ble_eq_true rfl) (Nat.le_of_ble_eq_true rfl) dX10_points_13 (w_X10_isCell ?_)
  refine a_if_eq (tgt := 27) dX10_points_16 (by decide) (fun c_16 => absurd c_16 (fun z => bI_z.mp z ⟨by rw [nIt (by omega)]; omega, by rw [nIt (by omega)]; omega⟩)) (fun c_16 => ?_)
  refine a_aload_n dX10_points_19 rfl ?_
  refine a_iload_n dX10_points_20 rfl ?_
  refine a_callV (mc1 := 0) (ms1 := 0) (As := [_]) kpX10_isWanted kmX10_201 (by decide) rfl (Nat.le_of_ble_eq_true rfl) rfl (by decide) rfl (by decide) (hlt hN (by decide)) (Nat.le_of_ble_eq_true rfl) (Nat.le_of_ble_eq_true rfl) (Nat.le_of_ble_eq_true rfl) dX10_points_21 (w_X10_isWanted hc hN (by exact hs) ?_)
  refine a_if_ne (tgt := 29) dX10_points_24 (by decide) (fun c_24 => ?_) (fun c_24 => absurd c_24 (fun z => bI_z.mp z hwn))
  refine a_iconst (v := 0) dX10_points_29 (by decide) ?_
  refine a_istore_n dX10_points_30 (by decide) ?_
  refine a_iconst (v := 0) dX10_points_31 (by decide) ?_
  refine a_istore dX10_points_32 (by decide) ?_
  exact AW.sub (L' := [(0, .ref 64), (1, .int (nI i)), (2, .int (nI c)), (3, .int (ptF κ (rI M 78) wd (nI c) 0)), (4, .int (nI 0))]) rfl (l_X10_points hi1 hi hR hK hwd hκ hN hs h 64 0 M (by omega) KU.refl hR)

theorem w_X10_points_o1 {M : Mem} {N : Nat} {Q : Option Value → Nat → Mem → Prop} {s v : Int32} (ho : ¬ (1 ≤ s.toInt ∧ s.toInt < 6))  (hN : 94 ≤ N) (hs : Str M.2.2.1) (h : Q (some (.int (-1))) N (M)) : AW mX10_points 14 0 0 N 0 [(0, .ref 64), (1, .int s), (2, .int v)] [] M Q := by
  refine a_iload_n dX10_points_0 rfl ?_
  refine a_callS (mc1 := 0) (ms1 := 0) (As := [_]) kpX10_isPupil kmX10_341 (by decide) rfl (Nat.le_of_ble_eq_true rfl) (Nat.le_of_ble_eq_true rfl) (Nat.le_of_ble_eq_true rfl) (Nat.le_of_ble_eq_true rfl) dX10_points_1 (w_X10_isPupil ?_)
  refine a_if_eq (tgt := 27) dX10_points_4 (by decide) (fun c_4 => ?_) (fun c_4 => absurd (bI_z.mpr ho) c_4)
  refine a_iconst (v := (-1)) dX10_points_27 (by decide) ?_
  refine a_iret dX10_points_28 rfl h

theorem w_X10_points_o2 {M : Mem} {N : Nat} {Q : Option Value → Nat → Mem → Prop} {i : Nat} {v : Int32} (hi1 : 1 ≤ i) (hi : i < 6) (hv : ¬ v = -1) (ho : ¬ (0 ≤ v.toInt ∧ v.toInt < 64))  (hN : 94 ≤ N) (hs : Str M.2.2.1) (h : Q (some (.int (-1))) N (M)) : AW mX10_points 14 0 0 N 0 [(0, .ref 64), (1, .int (nI i)), (2, .int v)] [] M Q := by
  refine a_iload_n dX10_points_0 rfl ?_
  refine a_callS (mc1 := 0) (ms1 := 0) (As := [_]) kpX10_isPupil kmX10_341 (by decide) rfl (Nat.le_of_ble_eq_true rfl) (Nat.le_of_ble_eq_true rfl) (Nat.le_of_ble_eq_true rfl) (Nat.le_of_ble_eq_true rfl) dX10_points_1 (w_X10_isPupil ?_)
  refine a_if_eq (tgt := 27) dX10_points_4 (by decide) (fun c_4 => absurd c_4 (fun z => bI_z.mp z ⟨by rw [nIt (by omega)]; omega, by rw [nIt (by omega)]; omega⟩)) (fun c_4 => ?_)
  refine a_iload_n dX10_points_7 rfl ?_
  refine a_iconst (v := (-1)) dX10_points_8 (by decide) ?_
  refine a_icmp_eq (tgt := 29) dX10_points_9 (by decide) (fun c_9 => absurd c_9 hv) (fun c_9 => ?_)
  refine a_iload_n dX10_points_12 rfl ?_
  refine a_callS (mc1 := 0) (ms1 := 0) (As := [_]) kpX10_isCell kmX10_119 (by decide) rfl (Nat.le_of_ble_eq_true rfl) (Nat.le_of_ble_eq_true rfl) (Nat.le_of_ble_eq_true rfl) (Nat.le_of_ble_eq_true rfl) dX10_points_13 (w_X10_isCell ?_)
  refine a_if_eq (tgt := 27) dX10_points_16 (by decide) (fun c_16 => ?_) (fun c_16 => absurd (bI_z.mpr ho) c_16)
  refine a_iconst (v := (-1)) dX10_points_27 (by decide) ?_
  refine a_iret dX10_points_28 rfl h

theorem w_X10_points_o3 {M : Mem} {N : Nat} {Q : Option Value → Nat → Mem → Prop} {i c : Nat} (hi1 : 1 ≤ i) (hi : i < 6) (hc : c < 64) (hnw : ¬ 0 < (rI M 78 c).toInt)  (hN : 94 ≤ N) (hs : Str M.2.2.1) (h : Q (some (.int (-1))) N (M)) : AW mX10_points 14 0 0 N 0 [(0, .ref 64), (1, .int (nI i)), (2, .int (nI c))] [] M Q := by
  refine a_iload_n dX10_points_0 rfl ?_
  refine a_callS (mc1 := 0) (ms1 := 0) (As := [_]) kpX10_isPupil kmX10_341 (by decide) rfl (Nat.le_of_ble_eq_true rfl) (Nat.le_of_ble_eq_true rfl) (Nat.le_of_ble_eq_true rfl) (Nat.le_of_ble_eq_true rfl) dX10_points_1 (w_X10_isPupil ?_)
  refine a_if_eq (tgt := 27) dX10_points_4 (by decide) (fun c_4 => absurd c_4 (fun z => bI_z.mp z ⟨by rw [nIt (by omega)]; omega, by rw [nIt (by omega)]; omega⟩)) (fun c_4 => ?_)
  refine a_iload_n dX10_points_7 rfl ?_
  refine a_iconst (v := (-1)) dX10_points_8 (by decide) ?_
  refine a_icmp_eq (tgt := 29) dX10_points_9 (by decide) (fun c_9 => absurd c_9 (fun z => nneg hc z)) (fun c_9 => ?_)
  refine a_iload_n dX10_points_12 rfl ?_
  refine a_callS (mc1 := 0) (ms1 := 0) (As := [_]) kpX10_isCell kmX10_119 (by decide) rfl (Nat.le_of_ble_eq_true rfl) (Nat.le_of_ble_eq_true rfl) (Nat.le_of_ble_eq_true rfl) (Nat.le_of_ble_eq_true rfl) dX10_points_13 (w_X10_isCell ?_)
  refine a_if_eq (tgt := 27) dX10_points_16 (by decide) (fun c_16 => absurd c_16 (fun z => bI_z.mp z ⟨by rw [nIt (by omega)]; omega, by rw [nIt (by omega)]; omega⟩)) (fun c_16 => ?_)
  refine a_aload_n dX10_points_19 rfl ?_
  refine a_iload_n dX10_points_20 rfl ?_
  refine a_callV (mc1 := 0) (ms1 := 0) (As := [_]) kpX10_isWanted kmX10_201 (by decide) rfl (Nat.le_of_ble_eq_true rfl) rfl (by decide) rfl (by decide) (hlt hN (by decide)) (Nat.le_of_ble_eq_true rfl) (Nat.le_of_ble_eq_true rfl) (Nat.le_of_ble_eq_true rfl) dX10_points_21 (w_X10_isWanted hc hN (by exact hs) ?_)
  refine a_if_ne (tgt := 29) dX10_points_24 (by decide) (fun c_24 => absurd (bI_z.mpr hnw) c_24) (fun c_24 => ?_)
  refine a_iconst (v := (-1)) dX10_points_27 (by decide) ?_
  refine a_iret dX10_points_28 rfl h

theorem l_X10_fault {M : Mem} {N : Nat} {Q : Option Value → Nat → Mem → Prop} {i W : Nat} {κ α τ : Nat → Int32} (hi1 : 1 ≤ i) (hi : i < 6) (hR : RfI M W) (hK : KK M i W κ α τ) {wd : Int64} (hwd : ∀ x, x < 64 → (hb wd (nI x) = true ↔ 0 < (rI M 78 x).toInt)) {v : Int32} (hN : 94 ≤ N) (hs : Str M.2.2.1) (h : ∀ M'', KU M M'' → RfI M'' W → Q (some (.int (pkV (faF κ wd) v))) N M'') : ∀ (r x : Nat) (M' : Mem), x + r = 64 → KU M M' → RfI M' W → (pkF (faF κ wd) v x).2 = none → AW mX10_fault 13 0 0 N 18 [(0, .ref 64), (1, .int (nI i)), (2, .int v), (3, .int (nI (pkF (faF κ wd) v x).1)), (4, .int (nI x))] [] M' Q := by
  intro r
  induction r with
  | zero =>
    intro x M' hkk hk hR' hinv
    obtain rfl : x = 64 := by omega
    have hs' : Str M'.2.2.1 := by rw [hk.1]; exact hs
    refine a_iload dX10_fault_18 rfl ?_
    refine a_bipush (v := 64) dX10_fault_20 (by decide) ?_
    refine a_icmp_ge (tgt := 78) dX10_fault_22 (by decide) (fun c_22 => ?_) (fun c_22 => absurd (nI_le (a := 64) (b := 64) (by omega) (by decide)) c_22)
    refine a_iconst (v := (-1)) dX10_fault_78 (by decide) ?_
    refine a_iret dX10_fault_79 rfl (by have q := h M' hk hR'; rw [pkV_0 hinv] at q; exact q)
  | succ r ih =>
    intro x M' hkk hk hR' hinv
    have hs' : Str M'.2.2.1 := by rw [hk.1]; exact hs
    have hx : x < 64 := by omega
    refine a_iload dX10_fault_18 rfl ?_
    refine a_bipush (v := 64) dX10_fault_20 (by decide) ?_
    refine a_icmp_ge (tgt := 78) dX10_fault_22 (by decide) (fun c_22 => absurd c_22 (nI_ge (b := 64) (by omega) (by decide))) (fun c_22 => ?_)
    refine a_aload_n dX10_fault_25 rfl ?_
    refine a_iload dX10_fault_26 rfl ?_
    refine a_callV (mc1 := 0) (ms1 := 0) (As := [_]) kpX10_isWanted kmX10_201 (by decide) rfl (Nat.le_of_ble_eq_true rfl) rfl (by decide) rfl (by decide) (hlt hN (by decide)) (Nat.le_of_ble_eq_true rfl) (Nat.le_of_ble_eq_true rfl) (Nat.le_of_ble_eq_true rfl) dX10_fault_28 (w_X10_isWanted hx hN hs' ?_)
    refine a_if_ne (tgt := 37) dX10_fault_31 (by decide) (fun c_31 => ?_) (fun c_31 => ?_)
    · have p31 : 0 < (rI M 78 x).toInt := by rw [← hk.2.1 78 x (by omega) (by omega) (by omega) (by omega)]; exact bI_nz.mp c_31
      refine a_aload_n dX10_fault_37 rfl ?_
      refine a_iload_n dX10_fault_38 rfl ?_
      refine a_iload dX10_fault_39 rfl ?_
      refine a_callV (mc1 := 0) (ms1 := 0) (As := [_, _]) kpX10_kindOf kmX10_344 (by decide) rfl (Nat.le_of_ble_eq_true rfl) rfl (by decide) rfl (by decide) (hlt hN (by decide)) (Nat.le_of_ble_eq_true rfl) (Nat.le_of_ble_eq_true rfl) (Nat.le_of_ble_eq_true rfl) dX10_fault_41 (w_X10_kindOf hi1 hi hx (by rw [hk.2.1 78 x (by omega) (by omega) (by omega) (by omega)]; exact p31) hR' (hK.ku hk) hN hs' (fun M2 hka hR2 _ => ?_))
      have hk2 := hk.trans hka
      refine a_istore dX10_fault_44 (by decide) ?_
      refine a_iload dX10_fault_46 rfl ?_
      refine a_iconst (v := 1) dX10_fault_48 (by decide) ?_
      refine a_icmp_eq (tgt := 72) dX10_fault_49 (by decide) (fun c_49 => ?_) (fun c_49 => ?_)
      · have pk13 : ¬ ((κ x).toInt ≠ 1 ∧ (κ x).toInt ≠ 3) := fun z => z.1 (by rw [show κ x = 1 from c_49]; rfl)
        refine a_iinc dX10_fault_72 rfl rfl (by decide) ?_
        refine a_goto (tgt := 18) dX10_fault_75 (by decide) ?_
        first
        | (have w : ¬ 0 < (rI M 78 x).toInt := p31
           rw [show nI x + Int32.ofInt 1 = nI (x + 1) from nI_1 x]
           have e := pkF_0 (fa := (faF κ wd)) (i := v) hinv (faF_0 (Or.inl (fun z => w ((hwd x hx).mp z))))
           refine AW.sub (L' := [(0, .ref 64), (1, .int (nI i)), (2, .int v), (3, .int (nI (pkF (faF κ wd) v x).1)), (4, .int (nI (x + 1)))]) rfl ?_
           rw [show nI (pkF (faF κ wd) v x).1 = nI (pkF (faF κ wd) v (x + 1)).1 from by rw [e]]
           exact ih (x + 1) _ (by omega) hk hR' (by rw [e]))
        | (have k : ¬ ((κ x).toInt ≠ 1 ∧ (κ x).toInt ≠ 3) := pk13
           rw [show nI x + Int32.ofInt 1 = nI (x + 1) from nI_1 x]
           have e := pkF_0 (fa := (faF κ wd)) (i := v) hinv (faF_0 (Or.inr k))
           refine AW.sub (L' := [(0, .ref 64), (1, .int (nI i)), (2, .int v), (3, .int (nI (pkF (faF κ wd) v x).1)), (4, .int (nI (x + 1)))]) rfl ?_
           rw [show nI (pkF (faF κ wd) v x).1 = nI (pkF (faF κ wd) v (x + 1)).1 from by rw [e]]
           exact ih (x + 1) _ (by omega) hk2 hR2 (by rw [e]))
        | (rw [show nI x + Int32.ofInt 1 = nI (x + 1) from nI_1 x, show nI (pkF (faF κ wd) v x).1 + Int32.ofInt 1 = nI ((pkF (faF κ wd) v x).1 + 1) from nI_1 _]
           have e := pkF_1 (fa := (faF κ wd)) (i := v) hinv (faF_1 ((hwd x hx).mpr p31) pk13) p63
           refine AW.sub (L' := [(0, .ref 64), (1, .int (nI i)), (2, .int v), (3, .int (nI ((pkF (faF κ wd) v x).1 + 1))), (4, .int (nI (x + 1)))]) rfl ?_
           rw [show nI ((pkF (faF κ wd) v x).1 + 1) = nI (pkF (faF κ wd) v (x + 1)).1 from by rw [e]]
           exact ih (x + 1) _ (by omega) hk2 hR2 (by rw [e]))
      · refine a_iload dX10_fault_52 rfl ?_
        refine a_iconst (v := 3) dX10_fault_54 (by decide) ?_
        refine a_icmp_ne (tgt := 61) dX10_fault_55 (by decide) (fun c_55 => ?_) (fun c_55 => ?_)
        · have pk13 : (κ x).toInt ≠ 1 ∧ (κ x).toInt ≠ 3 := ⟨fun z => c_49 (Int32.toInt_inj.mp z), fun z => c_55 (Int32.toInt_inj.mp z)⟩
          refine a_iload_n dX10_fault_61 rfl ?_
          refine a_iload_n dX10_fault_62 rfl ?_
          refine a_icmp_ne (tgt := 69) dX10_fault_63 (by decide) (fun c_63 => ?_) (fun c_63 => ?_)
          · have p63 : ¬ nI (pkF (faF κ wd) v x).1 = v := c_63
            refine a_iinc dX10_fault_69 rfl rfl (by decide) ?_
            refine a_iinc dX10_fault_72 rfl rfl (by decide) ?_
            refine a_goto (tgt := 18) dX10_fault_75 (by decide) ?_
            first
            | (have w : ¬ 0 < (rI M 78 x).toInt := p31
               rw [show nI x + Int32.ofInt 1 = nI (x + 1) from nI_1 x]
               have e := pkF_0 (fa := (faF κ wd)) (i := v) hinv (faF_0 (Or.inl (fun z => w ((hwd x hx).mp z))))
               refine AW.sub (L' := [(0, .ref 64), (1, .int (nI i)), (2, .int v), (3, .int (nI (pkF (faF κ wd) v x).1)), (4, .int (nI (x + 1)))]) rfl ?_
               rw [show nI (pkF (faF κ wd) v x).1 = nI (pkF (faF κ wd) v (x + 1)).1 from by rw [e]]
               exact ih (x + 1) _ (by omega) hk hR' (by rw [e]))
            | (have k : ¬ ((κ x).toInt ≠ 1 ∧ (κ x).toInt ≠ 3) := pk13
               rw [show nI x + Int32.ofInt 1 = nI (x + 1) from nI_1 x]
               have e := pkF_0 (fa := (faF κ wd)) (i := v) hinv (faF_0 (Or.inr k))
               refine AW.sub (L' := [(0, .ref 64), (1, .int (nI i)), (2, .int v), (3, .int (nI (pkF (faF κ wd) v x).1)), (4, .int (nI (x + 1)))]) rfl ?_
               rw [show nI (pkF (faF κ wd) v x).1 = nI (pkF (faF κ wd) v (x + 1)).1 from by rw [e]]
               exact ih (x + 1) _ (by omega) hk2 hR2 (by rw [e]))
            | (rw [show nI x + Int32.ofInt 1 = nI (x + 1) from nI_1 x, show nI (pkF (faF κ wd) v x).1 + Int32.ofInt 1 = nI ((pkF (faF κ wd) v x).1 + 1) from nI_1 _]
               have e := pkF_1 (fa := (faF κ wd)) (i := v) hinv (faF_1 ((hwd x hx).mpr p31) pk13) p63
               refine AW.sub (L' := [(0, .ref 64), (1, .int (nI i)), (2, .int v), (3, .int (nI ((pkF (faF κ wd) v x).1 + 1))), (4, .int (nI (x + 1)))]) rfl ?_
               rw [show nI ((pkF (faF κ wd) v x).1 + 1) = nI (pkF (faF κ wd) v (x + 1)).1 from by rw [e]]
               exact ih (x + 1) _ (by omega) hk2 hR2 (by rw [e]))
          · have p63 : nI (pkF (faF κ wd) v x).1 = v := c_63
            refine a_iload dX10_fault_66 rfl ?_
            refine a_iret dX10_fault_68 rfl (by have q := h M2 hk2 hR2; rw [pkV_1 hx hinv (faF_1 ((hwd x hx).mpr p31) pk13) p63] at q; exact q)
        · have pk13 : ¬ ((κ x).toInt ≠ 1 ∧ (κ x).toInt ≠ 3) := fun z => z.2 (by rw [show κ x = 3 from c_55]; rfl)
          refine a_goto (tgt := 72) dX10_fault_58 (by decide) ?_
          refine a_iinc dX10_fault_72 rfl rfl (by decide) ?_
          refine a_goto (tgt := 18) dX10_fault_75 (by decide) ?_
          first
          | (have w : ¬ 0 < (rI M 78 x).toInt := p31
             rw [show nI x + Int32.ofInt 1 = nI (x + 1) from nI_1 x]
             have e := pkF_0 (fa := (faF κ wd)) (i := v) hinv (faF_0 (Or.inl (fun z => w ((hwd x hx).mp z))))
             refine AW.sub (L' := [(0, .ref 64), (1, .int (nI i)), (2, .int v), (3, .int (nI (pkF (faF κ wd) v x).1)), (4, .int (nI (x + 1)))]) rfl ?_
             rw [show nI (pkF (faF κ wd) v x).1 = nI (pkF (faF κ wd) v (x + 1)).1 from by rw [e]]
             exact ih (x + 1) _ (by omega) hk hR' (by rw [e]))
          | (have k : ¬ ((κ x).toInt ≠ 1 ∧ (κ x).toInt ≠ 3) := pk13
             rw [show nI x + Int32.ofInt 1 = nI (x + 1) from nI_1 x]
             have e := pkF_0 (fa := (faF κ wd)) (i := v) hinv (faF_0 (Or.inr k))
             refine AW.sub (L' := [(0, .ref 64), (1, .int (nI i)), (2, .int v), (3, .int (nI (pkF (faF κ wd) v x).1)), (4, .int (nI (x + 1)))]) rfl ?_
             rw [show nI (pkF (faF κ wd) v x).1 = nI (pkF (faF κ wd) v (x + 1)).1 from by rw [e]]
             exact ih (x + 1) _ (by omega) hk2 hR2 (by rw [e]))
          | (rw [show nI x + Int32.ofInt 1 = nI (x + 1) from nI_1 x, show nI (pkF (faF κ wd) v x).1 + Int32.ofInt 1 = nI ((pkF (faF κ wd) v x).1 + 1) from nI_1 _]
             have e := pkF_1 (fa := (faF κ wd)) (i := v) hinv (faF_1 ((hwd x hx).mpr p31) pk13) p63
             refine AW.sub (L' := [(0, .ref 64), (1, .int (nI i)), (2, .int v), (3, .int (nI ((pkF (faF κ wd) v x).1 + 1))), (4, .int (nI (x + 1)))]) rfl ?_
             rw [show nI ((pkF (faF κ wd) v x).1 + 1) = nI (pkF (faF κ wd) v (x + 1)).1 from by rw [e]]
             exact ih (x + 1) _ (by omega) hk2 hR2 (by rw [e]))
    · have p31 : ¬ 0 < (rI M 78 x).toInt := by rw [← hk.2.1 78 x (by omega) (by omega) (by omega) (by omega)]; exact bI_z.mp c_31
      refine a_goto (tgt := 72) dX10_fault_34 (by decide) ?_
      refine a_iinc dX10_fault_72 rfl rfl (by decide) ?_
      refine a_goto (tgt := 18) dX10_fault_75 (by decide) ?_
      first
      | (have w : ¬ 0 < (rI M 78 x).toInt := p31
         rw [show nI x + Int32.ofInt 1 = nI (x + 1) from nI_1 x]
         have e := pkF_0 (fa := (faF κ wd)) (i := v) hinv (faF_0 (Or.inl (fun z => w ((hwd x hx).mp z))))
         refine AW.sub (L' := [(0, .ref 64), (1, .int (nI i)), (2, .int v), (3, .int (nI (pkF (faF κ wd) v x).1)), (4, .int (nI (x + 1)))]) rfl ?_
         rw [show nI (pkF (faF κ wd) v x).1 = nI (pkF (faF κ wd) v (x + 1)).1 from by rw [e]]
         exact ih (x + 1) _ (by omega) hk hR' (by rw [e]))
      | (have k : ¬ ((κ x).toInt ≠ 1 ∧ (κ x).toInt ≠ 3) := pk13
         rw [show nI x + Int32.ofInt 1 = nI (x + 1) from nI_1 x]
         have e := pkF_0 (fa := (faF κ wd)) (i := v) hinv (faF_0 (Or.inr k))
         refine AW.sub (L' := [(0, .ref 64), (1, .int (nI i)), (2, .int v), (3, .int (nI (pkF (faF κ wd) v x).1)), (4, .int (nI (x + 1)))]) rfl ?_
         rw [show nI (pkF (faF κ wd) v x).1 = nI (pkF (faF κ wd) v (x + 1)).1 from by rw [e]]
         exact ih (x + 1) _ (by omega) hk2 hR2 (by rw [e]))
      | (rw [show nI x + Int32.ofInt 1 = nI (x + 1) from nI_1 x, show nI (pkF (faF κ wd) v x).1 + Int32.ofInt 1 = nI ((pkF (faF κ wd) v x).1 + 1) from nI_1 _]
         have e := pkF_1 (fa := (faF κ wd)) (i := v) hinv (faF_1 ((hwd x hx).mpr p31) pk13) p63
         refine AW.sub (L' := [(0, .ref 64), (1, .int (nI i)), (2, .int v), (3, .int (nI ((pkF (faF κ wd) v x).1 + 1))), (4, .int (nI (x + 1)))]) rfl ?_
         rw [show nI ((pkF (faF κ wd) v x).1 + 1) = nI (pkF (faF κ wd) v (x + 1)).1 from by rw [e]]
         exact ih (x + 1) _ (by omega) hk2 hR2 (by rw [e]))
theorem w_X10_fault {M : Mem} {N : Nat} {Q : Option Value → Nat → Mem → Prop} {i W : Nat} {κ α τ : Nat → Int32} (hi1 : 1 ≤ i) (hi : i < 6) (hR : RfI M W) (hK : KK M i W κ α τ) {wd : Int64} (hwd : ∀ x, x < 64 → (hb wd (nI x) = true ↔ 0 < (rI M 78 x).toInt)) {v : Int32} (hv : 0 ≤ v)  (hN : 94 ≤ N) (hs : Str M.2.2.1) (h : ∀ M'', KU M M'' → RfI M'' W → Q (some (.int (pkV (faF κ wd) v))) N M'')  : AW mX10_fault 13 0 0 N 0 [(0, .ref 64), (1, .int (nI i)), (2, .int v)] [] M Q := by
  refine a_iload_n dX10_fault_0 rfl ?_
  refine a_callS (mc1 := 0) (ms1 := 0) (As := [_]) kpX10_isPupil kmX10_341 (by decide) rfl (Nat.le_of_ble_eq_true rfl) (Nat.le_of_ble_eq_true rfl) (Nat.le_of_ble_eq_true rfl) (Nat.le_of_ble_eq_true rfl) dX10_fault_1 (w_X10_isPupil ?_)
  refine a_if_eq (tgt := 11) dX10_fault_4 (by decide) (fun c_4 => absurd c_4 (fun z => bI_z.mp z ⟨by rw [nIt (by omega)]; omega, by rw [nIt (by omega)]; omega⟩)) (fun c_4 => ?_)
  refine a_iload_n dX10_fault_7 rfl ?_
  refine a_if_ge (tgt := 13) dX10_fault_8 (by decide) (fun c_8 => ?_) (fun c_8 => absurd hv c_8)
  refine a_iconst (v := 0) dX10_fault_13 (by decide) ?_
  refine a_istore_n dX10_fault_14 (by decide) ?_
  refine a_iconst (v := 0) dX10_fault_15 (by decide) ?_
  refine a_istore dX10_fault_16 (by decide) ?_
  exact AW.sub (L' := [(0, .ref 64), (1, .int (nI i)), (2, .int v), (3, .int (nI (pkF (faF κ wd) v 0).1)), (4, .int (nI 0))]) rfl (l_X10_fault hi1 hi hR hK hwd hN hs h 64 0 M (by omega) KU.refl hR rfl)

theorem w_X10_fault_o1 {M : Mem} {N : Nat} {Q : Option Value → Nat → Mem → Prop} {s v : Int32} (ho : ¬ (1 ≤ s.toInt ∧ s.toInt < 6))  (hN : 94 ≤ N) (hs : Str M.2.2.1) (h : Q (some (.int (-1))) N (M)) : AW mX10_fault 13 0 0 N 0 [(0, .ref 64), (1, .int s), (2, .int v)] [] M Q := by
  refine a_iload_n dX10_fault_0 rfl ?_
  refine a_callS (mc1 := 0) (ms1 := 0) (As := [_]) kpX10_isPupil kmX10_341 (by decide) rfl (Nat.le_of_ble_eq_true rfl) (Nat.le_of_ble_eq_true rfl) (Nat.le_of_ble_eq_true rfl) (Nat.le_of_ble_eq_true rfl) dX10_fault_1 (w_X10_isPupil ?_)
  refine a_if_eq (tgt := 11) dX10_fault_4 (by decide) (fun c_4 => ?_) (fun c_4 => absurd (bI_z.mpr ho) c_4)
  refine a_iconst (v := (-1)) dX10_fault_11 (by decide) ?_
  refine a_iret dX10_fault_12 rfl h

theorem w_X10_fault_o2 {M : Mem} {N : Nat} {Q : Option Value → Nat → Mem → Prop} {i : Nat} {v : Int32} (hi1 : 1 ≤ i) (hi : i < 6) (hv : ¬ 0 ≤ v)  (hN : 94 ≤ N) (hs : Str M.2.2.1) (h : Q (some (.int (-1))) N (M)) : AW mX10_fault 13 0 0 N 0 [(0, .ref 64), (1, .int (nI i)), (2, .int v)] [] M Q := by
  refine a_iload_n dX10_fault_0 rfl ?_
  refine a_callS (mc1 := 0) (ms1 := 0) (As := [_]) kpX10_isPupil kmX10_341 (by decide) rfl (Nat.le_of_ble_eq_true rfl) (Nat.le_of_ble_eq_true rfl) (Nat.le_of_ble_eq_true rfl) (Nat.le_of_ble_eq_true rfl) dX10_fault_1 (w_X10_isPupil ?_)
  refine a_if_eq (tgt := 11) dX10_fault_4 (by decide) (fun c_4 => absurd c_4 (fun z => bI_z.mp z ⟨by rw [nIt (by omega)]; omega, by rw [nIt (by omega)]; omega⟩)) (fun c_4 => ?_)
  refine a_iload_n dX10_fault_7 rfl ?_
  refine a_if_ge (tgt := 13) dX10_fault_8 (by decide) (fun c_8 => absurd c_8 hv) (fun c_8 => ?_)
  refine a_iconst (v := (-1)) dX10_fault_11 (by decide) ?_
  refine a_iret dX10_fault_12 rfl h

