theorem pos_nI {x : Int32} (h : 0 ≤ x.toInt) : x = nI x.toInt.toNat := by
  refine Int32.toInt_inj.mp ?_
  have b := Int32.toInt_lt x
  rw [nIt (by omega)]
  omega
theorem sub_in {v : Int32} {a n : Nat} (h : 0 ≤ (v - nI a).toInt ∧ (v - nI a).toInt < n) (hn : a + n < 1000) : ∃ q, q < n ∧ v = nI (a + q) := by
  have e := pos_nI h.1
  refine ⟨(v - nI a).toInt.toNat, by omega, ?_⟩
  have e2 : v = (v - nI a) + nI a := (Int32.sub_add_cancel v (nI a)).symm
  exact e2.trans ((congrArg (· + nI a) e).trans ((nI_add _ _).trans (congrArg nI (Nat.add_comm _ _))))
theorem sz1 {sz : Nat} (h : sz ≤ 40) : (nI sz - 1).toInt = (sz : Int) - 1 := pk_sub_toInt (a := sz) (b := 1) (by omega) (by omega)
theorem lies10 {v : Int32} {sz : Nat} (hz : sz ≤ 40) (h : (0 : Int32).toInt ≤ (v - 10).toInt ∧ (v - 10).toInt ≤ (nI sz - 1).toInt) : ∃ q, q < sz ∧ v = nI (10 + q) := sub_in (a := 10) ⟨h.1, by have := h.2; rw [sz1 hz] at this; show (v - 10).toInt < (sz : Int); omega⟩ (by omega)
theorem v10 {p : Nat} : nI (10 + p) - 10 = nI p := by
  rw [show (10 : Int32) = nI 10 from rfl, pk_sub (a := 10 + p) (b := 10) (by omega)]
  exact congrArg nI (by omega)
theorem w_X10_look_out {M : Mem} {N : Nat} {Q : Option Value → Nat → Mem → Prop} {s c v : Int32} (ho : ¬ ((0 ≤ s.toInt ∧ s.toInt < 6) ∧ (0 ≤ c.toInt ∧ c.toInt < 64)))  (hN : 94 ≤ N) (hs : Str M.2.2.1) (h : Q (some (.int (-1))) N (M)) : AW mX10_look 7 0 0 N 0 [(0, .ref 64), (1, .int s), (2, .int c), (3, .int v)] [] M Q := by
  refine a_iload_n dX10_look_0 rfl ?_
  refine a_callS (mc1 := 0) (ms1 := 0) (As := [_]) kpX10_isSheet kmX10_115 (by decide) rfl (Nat.le_of_ble_eq_true rfl) (Nat.le_of_ble_eq_true rfl) (Nat.le_of_ble_eq_true rfl) (Nat.le_of_ble_eq_true rfl) dX10_look_1 (w_X10_isSheet ?_)
  refine a_if_eq (tgt := 14) dX10_look_4 (by decide) (fun c_4 => ?_) (fun c_4 => ?_)
  · refine a_iconst (v := (-1)) dX10_look_14 (by decide) ?_
    refine a_iret dX10_look_15 rfl h
  · refine a_iload_n dX10_look_7 rfl ?_
    refine a_callS (mc1 := 0) (ms1 := 0) (As := [_]) kpX10_isCell kmX10_119 (by decide) rfl (Nat.le_of_ble_eq_true rfl) (Nat.le_of_ble_eq_true rfl) (Nat.le_of_ble_eq_true rfl) (Nat.le_of_ble_eq_true rfl) dX10_look_8 (w_X10_isCell ?_)
    refine a_if_ne (tgt := 16) dX10_look_11 (by decide) (fun c_11 => absurd (bI_z.mpr (fun z => ho ⟨bI_nz.mp c_4, z⟩)) c_11) (fun c_11 => ?_)
    refine a_iconst (v := (-1)) dX10_look_14 (by decide) ?_
    refine a_iret dX10_look_15 rfl h

theorem w_X10_look_t {M : Mem} {N : Nat} {Q : Option Value → Nat → Mem → Prop} {i j : Nat} (hi : i < 6) (hj : j < 64) {sz : Nat} (hz4 : sz ≤ 40) (h2 : rI M 66 (64 * i + j) = 2) (hsz : rI M 68 (64 * i + j) = nI sz) {p : Nat} (hp : p < sz)  (hN : 94 ≤ N) (hs : Str M.2.2.1) (h : Q (some (.int (rI M 69 (40 * (64 * i + j) + p)))) N (M)) : AW mX10_look 7 0 0 N 0 [(0, .ref 64), (1, .int (nI i)), (2, .int (nI j)), (3, .int (nI (10 + p)))] [] M Q := by
  refine a_iload_n dX10_look_0 rfl ?_
  refine a_callS (mc1 := 0) (ms1 := 0) (As := [_]) kpX10_isSheet kmX10_115 (by decide) rfl (Nat.le_of_ble_eq_true rfl) (Nat.le_of_ble_eq_true rfl) (Nat.le_of_ble_eq_true rfl) (Nat.le_of_ble_eq_true rfl) dX10_look_1 (w_X10_isSheet ?_)
  refine a_if_eq (tgt := 14) dX10_look_4 (by decide) (fun c_4 => absurd c_4 (fun z => bI_z.mp z ⟨by rw [nIt (by omega)]; omega, by rw [nIt (by omega)]; omega⟩)) (fun c_4 => ?_)
  refine a_iload_n dX10_look_7 rfl ?_
  refine a_callS (mc1 := 0) (ms1 := 0) (As := [_]) kpX10_isCell kmX10_119 (by decide) rfl (Nat.le_of_ble_eq_true rfl) (Nat.le_of_ble_eq_true rfl) (Nat.le_of_ble_eq_true rfl) (Nat.le_of_ble_eq_true rfl) dX10_look_8 (w_X10_isCell ?_)
  refine a_if_ne (tgt := 16) dX10_look_11 (by decide) (fun c_11 => ?_) (fun c_11 => absurd c_11 (fun z => bI_z.mp z ⟨by rw [nIt (by omega)]; omega, by rw [nIt (by omega)]; omega⟩))
  refine a_bipush (v := 64) dX10_look_16 (by decide) ?_
  refine a_iload_n dX10_look_18 rfl ?_
  refine a_imul dX10_look_19 ?_
  refine a_iload_n dX10_look_20 rfl ?_
  refine a_iadd dX10_look_21 ?_
  rw [i64]
  refine a_istore dX10_look_22 (by decide) ?_
  refine a_iconst (v := 0) dX10_look_24 (by decide) ?_
  refine a_istore dX10_look_25 (by decide) ?_
  refine a_aload_n dX10_look_27 rfl ?_
  refine a_getA (z := 66) kfX10_13 rfl rfl (st_64_2 hs) (by decide) (hlt hN (by decide)) dX10_look_28 ?_
  refine a_iload dX10_look_31 rfl ?_
  refine a_iald rfl (by decide) (hlt hN (by decide)) (show vp_in _ 384 from vp_in_nI (by omega) (by decide)) dX10_look_33 ?_
  rw [nI_clamp (by omega)]
  refine a_iconst (v := 2) dX10_look_34 (by decide) ?_
  refine a_icmp_ne (tgt := 74) dX10_look_35 (by decide) (fun c_35 => absurd h2 c_35) (fun c_35 => ?_)
  refine a_iload_n dX10_look_38 rfl ?_
  refine a_bipush (v := 10) dX10_look_39 (by decide) ?_
  refine a_isub dX10_look_41 ?_
  rw [v10]
  refine a_iconst (v := 0) dX10_look_42 (by decide) ?_
  refine a_aload_n dX10_look_43 rfl ?_
  refine a_getA (z := 68) kfX10_20 rfl rfl (st_64_4 hs) (by decide) (hlt hN (by decide)) dX10_look_44 ?_
  refine a_iload dX10_look_47 rfl ?_
  refine a_iald rfl (by decide) (hlt hN (by decide)) (show vp_in _ 384 from vp_in_nI (by omega) (by decide)) dX10_look_49 ?_
  rw [nI_clamp (by omega), hsz]
  refine a_iconst (v := 1) dX10_look_50 (by decide) ?_
  refine a_isub dX10_look_51 ?_
  refine a_callS (mc1 := 0) (ms1 := 0) (As := [_, _, _]) kpX10_lies kmX10_104 (by decide) rfl (Nat.le_of_ble_eq_true rfl) (Nat.le_of_ble_eq_true rfl) (Nat.le_of_ble_eq_true rfl) (Nat.le_of_ble_eq_true rfl) dX10_look_52 (w_X10_lies ?_)
  refine a_if_eq (tgt := 74) dX10_look_55 (by decide) (fun c_55 => absurd c_55 (fun z => bI_z.mp z ⟨by rw [nIt (by omega)]; show (0 : Int) ≤ _; omega, by rw [sz1 hz4, nIt (by omega)]; omega⟩)) (fun c_55 => ?_)
  refine a_aload_n dX10_look_58 rfl ?_
  refine a_getA (z := 69) kfX10_23 rfl rfl (st_64_5 hs) (by decide) (hlt hN (by decide)) dX10_look_59 ?_
  refine a_bipush (v := 40) dX10_look_62 (by decide) ?_
  refine a_iload dX10_look_64 rfl ?_
  refine a_imul dX10_look_66 ?_
  refine a_iload_n dX10_look_67 rfl ?_
  refine a_iadd dX10_look_68 ?_
  refine a_bipush (v := 10) dX10_look_69 (by decide) ?_
  refine a_isub dX10_look_71 ?_
  rw [show (40 : Int32) * nI (64 * i + j) + nI (10 + p) - 10 = nI (40 * (64 * i + j) + p) from by rw [k40, show (10 : Int32) = nI 10 from rfl, pk_sub (by omega)]; exact congrArg nI (by omega)]
  refine a_bald rfl (by decide) (hlt hN (by decide)) (show vp_in _ 15360 from vp_in_nI (by omega) (by decide)) dX10_look_72 ?_
  refine a_iret dX10_look_73 rfl (by rw [nI_clamp (by omega)]; exact h)

theorem w_X10_look_0 {M : Mem} {N : Nat} {Q : Option Value → Nat → Mem → Prop} {i j : Nat} (hi : i < 6) (hj : j < 64) (hnb : rI M 66 (64 * i + j) = 2 → ∃ sz, sz ≤ 40 ∧ rI M 68 (64 * i + j) = nI sz ∧ ¬ (∃ q, q < sz ∧ 0 = nI (10 + q)))  (hN : 94 ≤ N) (hs : Str M.2.2.1) (h : Q (some (.int (rI M 66 (64 * i + j)))) N (M)) : AW mX10_look 7 0 0 N 0 [(0, .ref 64), (1, .int (nI i)), (2, .int (nI j)), (3, .int 0)] [] M Q := by
  refine a_iload_n dX10_look_0 rfl ?_
  refine a_callS (mc1 := 0) (ms1 := 0) (As := [_]) kpX10_isSheet kmX10_115 (by decide) rfl (Nat.le_of_ble_eq_true rfl) (Nat.le_of_ble_eq_true rfl) (Nat.le_of_ble_eq_true rfl) (Nat.le_of_ble_eq_true rfl) dX10_look_1 (w_X10_isSheet ?_)
  refine a_if_eq (tgt := 14) dX10_look_4 (by decide) (fun c_4 => absurd c_4 (fun z => bI_z.mp z ⟨by rw [nIt (by omega)]; omega, by rw [nIt (by omega)]; omega⟩)) (fun c_4 => ?_)
  refine a_iload_n dX10_look_7 rfl ?_
  refine a_callS (mc1 := 0) (ms1 := 0) (As := [_]) kpX10_isCell kmX10_119 (by decide) rfl (Nat.le_of_ble_eq_true rfl) (Nat.le_of_ble_eq_true rfl) (Nat.le_of_ble_eq_true rfl) (Nat.le_of_ble_eq_true rfl) dX10_look_8 (w_X10_isCell ?_)
  refine a_if_ne (tgt := 16) dX10_look_11 (by decide) (fun c_11 => ?_) (fun c_11 => absurd c_11 (fun z => bI_z.mp z ⟨by rw [nIt (by omega)]; omega, by rw [nIt (by omega)]; omega⟩))
  refine a_bipush (v := 64) dX10_look_16 (by decide) ?_
  refine a_iload_n dX10_look_18 rfl ?_
  refine a_imul dX10_look_19 ?_
  refine a_iload_n dX10_look_20 rfl ?_
  refine a_iadd dX10_look_21 ?_
  rw [i64]
  refine a_istore dX10_look_22 (by decide) ?_
  refine a_iconst (v := 0) dX10_look_24 (by decide) ?_
  refine a_istore dX10_look_25 (by decide) ?_
  refine a_aload_n dX10_look_27 rfl ?_
  refine a_getA (z := 66) kfX10_13 rfl rfl (st_64_2 hs) (by decide) (hlt hN (by decide)) dX10_look_28 ?_
  refine a_iload dX10_look_31 rfl ?_
  refine a_iald rfl (by decide) (hlt hN (by decide)) (show vp_in _ 384 from vp_in_nI (by omega) (by decide)) dX10_look_33 ?_
  rw [nI_clamp (by omega)]
  refine a_iconst (v := 2) dX10_look_34 (by decide) ?_
  refine a_icmp_ne (tgt := 74) dX10_look_35 (by decide) (fun c_35 => ?_) (fun c_35 => ?_)
  · refine a_iload_n dX10_look_74 rfl ?_
    skip
    · refine a_tableIn (off := 25) (tgt := 100) dX10_look_75 (by decide) (by decide) (by decide) (by decide) ?_
      refine a_aload_n dX10_look_100 rfl ?_
      refine a_getA (z := 66) kfX10_13 rfl rfl (st_64_2 hs) (by decide) (hlt hN (by decide)) dX10_look_101 ?_
      refine a_iload dX10_look_104 rfl ?_
      refine a_iald rfl (by decide) (hlt hN (by decide)) (show vp_in _ 384 from vp_in_nI (by omega) (by decide)) dX10_look_106 ?_
      rw [nI_clamp (by omega)]
      refine a_iret dX10_look_107 rfl h
  · refine a_iload_n dX10_look_38 rfl ?_
    refine a_bipush (v := 10) dX10_look_39 (by decide) ?_
    refine a_isub dX10_look_41 ?_
    refine a_iconst (v := 0) dX10_look_42 (by decide) ?_
    obtain ⟨sz, hz4, hsz, hq⟩ := hnb c_35
    refine a_aload_n dX10_look_43 rfl ?_
    refine a_getA (z := 68) kfX10_20 rfl rfl (st_64_4 hs) (by decide) (hlt hN (by decide)) dX10_look_44 ?_
    refine a_iload dX10_look_47 rfl ?_
    refine a_iald rfl (by decide) (hlt hN (by decide)) (show vp_in _ 384 from vp_in_nI (by omega) (by decide)) dX10_look_49 ?_
    rw [nI_clamp (by omega), hsz]
    refine a_iconst (v := 1) dX10_look_50 (by decide) ?_
    refine a_isub dX10_look_51 ?_
    refine a_callS (mc1 := 0) (ms1 := 0) (As := [_, _, _]) kpX10_lies kmX10_104 (by decide) rfl (Nat.le_of_ble_eq_true rfl) (Nat.le_of_ble_eq_true rfl) (Nat.le_of_ble_eq_true rfl) (Nat.le_of_ble_eq_true rfl) dX10_look_52 (w_X10_lies ?_)
    refine a_if_eq (tgt := 74) dX10_look_55 (by decide) (fun c_55 => ?_) (fun c_55 => absurd (bI_z.mpr (fun z => hq (lies10 hz4 z))) c_55)
    refine a_iload_n dX10_look_74 rfl ?_
    skip
    · refine a_tableIn (off := 25) (tgt := 100) dX10_look_75 (by decide) (by decide) (by decide) (by decide) ?_
      refine a_aload_n dX10_look_100 rfl ?_
      refine a_getA (z := 66) kfX10_13 rfl rfl (st_64_2 hs) (by decide) (hlt hN (by decide)) dX10_look_101 ?_
      refine a_iload dX10_look_104 rfl ?_
      refine a_iald rfl (by decide) (hlt hN (by decide)) (show vp_in _ 384 from vp_in_nI (by omega) (by decide)) dX10_look_106 ?_
      rw [nI_clamp (by omega)]
      refine a_iret dX10_look_107 rfl h

theorem w_X10_look_1 {M : Mem} {N : Nat} {Q : Option Value → Nat → Mem → Prop} {i j : Nat} (hi : i < 6) (hj : j < 64) (hnb : rI M 66 (64 * i + j) = 2 → ∃ sz, sz ≤ 40 ∧ rI M 68 (64 * i + j) = nI sz ∧ ¬ (∃ q, q < sz ∧ 1 = nI (10 + q)))  (hN : 94 ≤ N) (hs : Str M.2.2.1) (h : Q (some (.int (if rI M 66 (64 * i + j) = 0 then 0 else if rI M 66 (64 * i + j) = 1 then rI M 67 (64 * i + j) else rI M 68 (64 * i + j)))) N (M)) : AW mX10_look 7 0 0 N 0 [(0, .ref 64), (1, .int (nI i)), (2, .int (nI j)), (3, .int 1)] [] M Q := by
  refine a_iload_n dX10_look_0 rfl ?_
  refine a_callS (mc1 := 0) (ms1 := 0) (As := [_]) kpX10_isSheet kmX10_115 (by decide) rfl (Nat.le_of_ble_eq_true rfl) (Nat.le_of_ble_eq_true rfl) (Nat.le_of_ble_eq_true rfl) (Nat.le_of_ble_eq_true rfl) dX10_look_1 (w_X10_isSheet ?_)
  refine a_if_eq (tgt := 14) dX10_look_4 (by decide) (fun c_4 => absurd c_4 (fun z => bI_z.mp z ⟨by rw [nIt (by omega)]; omega, by rw [nIt (by omega)]; omega⟩)) (fun c_4 => ?_)
  refine a_iload_n dX10_look_7 rfl ?_
  refine a_callS (mc1 := 0) (ms1 := 0) (As := [_]) kpX10_isCell kmX10_119 (by decide) rfl (Nat.le_of_ble_eq_true rfl) (Nat.le_of_ble_eq_true rfl) (Nat.le_of_ble_eq_true rfl) (Nat.le_of_ble_eq_true rfl) dX10_look_8 (w_X10_isCell ?_)
  refine a_if_ne (tgt := 16) dX10_look_11 (by decide) (fun c_11 => ?_) (fun c_11 => absurd c_11 (fun z => bI_z.mp z ⟨by rw [nIt (by omega)]; omega, by rw [nIt (by omega)]; omega⟩))
  refine a_bipush (v := 64) dX10_look_16 (by decide) ?_
  refine a_iload_n dX10_look_18 rfl ?_
  refine a_imul dX10_look_19 ?_
  refine a_iload_n dX10_look_20 rfl ?_
  refine a_iadd dX10_look_21 ?_
  rw [i64]
  refine a_istore dX10_look_22 (by decide) ?_
  refine a_iconst (v := 0) dX10_look_24 (by decide) ?_
  refine a_istore dX10_look_25 (by decide) ?_
  refine a_aload_n dX10_look_27 rfl ?_
  refine a_getA (z := 66) kfX10_13 rfl rfl (st_64_2 hs) (by decide) (hlt hN (by decide)) dX10_look_28 ?_
  refine a_iload dX10_look_31 rfl ?_
  refine a_iald rfl (by decide) (hlt hN (by decide)) (show vp_in _ 384 from vp_in_nI (by omega) (by decide)) dX10_look_33 ?_
  rw [nI_clamp (by omega)]
  refine a_iconst (v := 2) dX10_look_34 (by decide) ?_
  refine a_icmp_ne (tgt := 74) dX10_look_35 (by decide) (fun c_35 => ?_) (fun c_35 => ?_)
  · refine a_iload_n dX10_look_74 rfl ?_
    skip
    · refine a_tableIn (off := 33) (tgt := 108) dX10_look_75 (by decide) (by decide) (by decide) (by decide) ?_
      refine a_aload_n dX10_look_108 rfl ?_
      refine a_getA (z := 66) kfX10_13 rfl rfl (st_64_2 hs) (by decide) (hlt hN (by decide)) dX10_look_109 ?_
      refine a_iload dX10_look_112 rfl ?_
      refine a_iald rfl (by decide) (hlt hN (by decide)) (show vp_in _ 384 from vp_in_nI (by omega) (by decide)) dX10_look_114 ?_
      rw [nI_clamp (by omega)]
      refine a_if_ne (tgt := 122) dX10_look_115 (by decide) (fun c_115 => ?_) (fun c_115 => ?_)
      · rw [if_neg c_115] at h
        refine a_aload_n dX10_look_122 rfl ?_
        refine a_getA (z := 66) kfX10_13 rfl rfl (st_64_2 hs) (by decide) (hlt hN (by decide)) dX10_look_123 ?_
        refine a_iload dX10_look_126 rfl ?_
        refine a_iald rfl (by decide) (hlt hN (by decide)) (show vp_in _ 384 from vp_in_nI (by omega) (by decide)) dX10_look_128 ?_
        rw [nI_clamp (by omega)]
        refine a_iconst (v := 1) dX10_look_129 (by decide) ?_
        refine a_icmp_ne (tgt := 143) dX10_look_130 (by decide) (fun c_130 => ?_) (fun c_130 => ?_)
        · rw [if_neg c_130] at h
          refine a_aload_n dX10_look_143 rfl ?_
          refine a_getA (z := 68) kfX10_20 rfl rfl (st_64_4 hs) (by decide) (hlt hN (by decide)) dX10_look_144 ?_
          refine a_iload dX10_look_147 rfl ?_
          refine a_iald rfl (by decide) (hlt hN (by decide)) (show vp_in _ 384 from vp_in_nI (by omega) (by decide)) dX10_look_149 ?_
          try rw [nI_clamp (by omega)]
          refine a_iret dX10_look_150 rfl h
        · rw [if_pos c_130] at h
          refine a_aload_n dX10_look_133 rfl ?_
          refine a_getA (z := 67) kfX10_17 rfl rfl (st_64_3 hs) (by decide) (hlt hN (by decide)) dX10_look_134 ?_
          refine a_iload dX10_look_137 rfl ?_
          refine a_iald rfl (by decide) (hlt hN (by decide)) (show vp_in _ 384 from vp_in_nI (by omega) (by decide)) dX10_look_139 ?_
          rw [nI_clamp (by omega)]
          refine a_goto (tgt := 150) dX10_look_140 (by decide) ?_
          try rw [nI_clamp (by omega)]
          refine a_iret dX10_look_150 rfl h
      · rw [if_pos c_115] at h
        refine a_iconst (v := 0) dX10_look_118 (by decide) ?_
        refine a_goto (tgt := 150) dX10_look_119 (by decide) ?_
        try rw [nI_clamp (by omega)]
        refine a_iret dX10_look_150 rfl h
  · refine a_iload_n dX10_look_38 rfl ?_
    refine a_bipush (v := 10) dX10_look_39 (by decide) ?_
    refine a_isub dX10_look_41 ?_
    refine a_iconst (v := 0) dX10_look_42 (by decide) ?_
    obtain ⟨sz, hz4, hsz, hq⟩ := hnb c_35
    refine a_aload_n dX10_look_43 rfl ?_
    refine a_getA (z := 68) kfX10_20 rfl rfl (st_64_4 hs) (by decide) (hlt hN (by decide)) dX10_look_44 ?_
    refine a_iload dX10_look_47 rfl ?_
    refine a_iald rfl (by decide) (hlt hN (by decide)) (show vp_in _ 384 from vp_in_nI (by omega) (by decide)) dX10_look_49 ?_
    rw [nI_clamp (by omega), hsz]
    refine a_iconst (v := 1) dX10_look_50 (by decide) ?_
    refine a_isub dX10_look_51 ?_
    refine a_callS (mc1 := 0) (ms1 := 0) (As := [_, _, _]) kpX10_lies kmX10_104 (by decide) rfl (Nat.le_of_ble_eq_true rfl) (Nat.le_of_ble_eq_true rfl) (Nat.le_of_ble_eq_true rfl) (Nat.le_of_ble_eq_true rfl) dX10_look_52 (w_X10_lies ?_)
    refine a_if_eq (tgt := 74) dX10_look_55 (by decide) (fun c_55 => ?_) (fun c_55 => absurd (bI_z.mpr (fun z => hq (lies10 hz4 z))) c_55)
    refine a_iload_n dX10_look_74 rfl ?_
    skip
    · refine a_tableIn (off := 33) (tgt := 108) dX10_look_75 (by decide) (by decide) (by decide) (by decide) ?_
      refine a_aload_n dX10_look_108 rfl ?_
      refine a_getA (z := 66) kfX10_13 rfl rfl (st_64_2 hs) (by decide) (hlt hN (by decide)) dX10_look_109 ?_
      refine a_iload dX10_look_112 rfl ?_
      refine a_iald rfl (by decide) (hlt hN (by decide)) (show vp_in _ 384 from vp_in_nI (by omega) (by decide)) dX10_look_114 ?_
      rw [nI_clamp (by omega)]
      refine a_if_ne (tgt := 122) dX10_look_115 (by decide) (fun c_115 => ?_) (fun c_115 => ?_)
      · rw [if_neg c_115] at h
        refine a_aload_n dX10_look_122 rfl ?_
        refine a_getA (z := 66) kfX10_13 rfl rfl (st_64_2 hs) (by decide) (hlt hN (by decide)) dX10_look_123 ?_
        refine a_iload dX10_look_126 rfl ?_
        refine a_iald rfl (by decide) (hlt hN (by decide)) (show vp_in _ 384 from vp_in_nI (by omega) (by decide)) dX10_look_128 ?_
        rw [nI_clamp (by omega)]
        refine a_iconst (v := 1) dX10_look_129 (by decide) ?_
        refine a_icmp_ne (tgt := 143) dX10_look_130 (by decide) (fun c_130 => ?_) (fun c_130 => ?_)
        · rw [if_neg c_130] at h
          refine a_aload_n dX10_look_143 rfl ?_
          refine a_getA (z := 68) kfX10_20 rfl rfl (st_64_4 hs) (by decide) (hlt hN (by decide)) dX10_look_144 ?_
          refine a_iload dX10_look_147 rfl ?_
          refine a_iald rfl (by decide) (hlt hN (by decide)) (show vp_in _ 384 from vp_in_nI (by omega) (by decide)) dX10_look_149 ?_
          try rw [nI_clamp (by omega)]
          refine a_iret dX10_look_150 rfl h
        · rw [if_pos c_130] at h
          refine a_aload_n dX10_look_133 rfl ?_
          refine a_getA (z := 67) kfX10_17 rfl rfl (st_64_3 hs) (by decide) (hlt hN (by decide)) dX10_look_134 ?_
          refine a_iload dX10_look_137 rfl ?_
          refine a_iald rfl (by decide) (hlt hN (by decide)) (show vp_in _ 384 from vp_in_nI (by omega) (by decide)) dX10_look_139 ?_
          rw [nI_clamp (by omega)]
          refine a_goto (tgt := 150) dX10_look_140 (by decide) ?_
          try rw [nI_clamp (by omega)]
          refine a_iret dX10_look_150 rfl h
      · rw [if_pos c_115] at h
        refine a_iconst (v := 0) dX10_look_118 (by decide) ?_
        refine a_goto (tgt := 150) dX10_look_119 (by decide) ?_
        try rw [nI_clamp (by omega)]
        refine a_iret dX10_look_150 rfl h

theorem l_X10_lookC {M : Mem} {N : Nat} {Q : Option Value → Nat → Mem → Prop} {i j : Nat} (hi : i < 6) (hj : j < 64) {S : Int64} (hw : ∀ j, j < 64 → rI M 66 (64 * i + j) = 2 → RWF M (64 * i + j)) (hS : ∀ x, x < 64 → (hb S (nI x) = true ↔ Ch (nR M i) x j)) (hN : 94 ≤ N) (hs : Str M.2.2.1) (h : Q (some (.int (nI (cnt S 64)))) N M) : ∀ (r x : Nat), x + r = 64 → AW mX10_look 7 0 0 N 154 [(0, .ref 64), (1, .int (nI i)), (2, .int (nI j)), (5, .int (nI (cnt S x))), (6, .int (nI x))] [] M Q := by
  intro r
  induction r with
  | zero =>
    intro x hk
    obtain rfl : x = 64 := by omega
    refine a_iload dX10_look_154 rfl ?_
    refine a_bipush (v := 64) dX10_look_156 (by decide) ?_
    refine a_icmp_ge (tgt := 188) dX10_look_158 (by decide) (fun c_158 => ?_) (fun c_158 => absurd (nI_le (a := 64) (b := 64) (by omega) (by decide)) c_158)
    refine a_iload dX10_look_188 rfl ?_
    refine a_iret dX10_look_190 rfl h
  | succ r ih =>
    intro x hk
    have hx : x < 64 := by omega
    refine a_iload dX10_look_154 rfl ?_
    refine a_bipush (v := 64) dX10_look_156 (by decide) ?_
    refine a_icmp_ge (tgt := 188) dX10_look_158 (by decide) (fun c_158 => absurd c_158 (nI_ge (b := 64) (by omega) (by decide))) (fun c_158 => ?_)
    refine a_iload dX10_look_161 rfl ?_
    refine a_aload_n dX10_look_163 rfl ?_
    refine a_iload_n dX10_look_164 rfl ?_
    refine a_iload dX10_look_165 rfl ?_
    refine a_iload_n dX10_look_167 rfl ?_
    refine a_callV (mc1 := 0) (ms1 := 0) (As := [_, _, _]) kpX10_comesTo kmX10_353 (by decide) rfl (Nat.le_of_ble_eq_true rfl) rfl (by decide) rfl (by decide) (hlt hN (by decide)) (Nat.le_of_ble_eq_true rfl) (Nat.le_of_ble_eq_true rfl) (Nat.le_of_ble_eq_true rfl) dX10_look_168 (w_X10_comesTo hi hx hj hw hN hs (fun b hb_ => ?_))
    refine a_if_eq (tgt := 178) dX10_look_171 (by decide) (fun c_171 => ?_) (fun c_171 => ?_)
    · have px : ¬ hb S (nI x) = true := fun z => (hb_.resolve_left (fun u => absurd (u.1.symm.trans c_171) (by decide))).2 ((hS x hx).mp z)
      refine a_iconst (v := 0) dX10_look_178 (by decide) ?_
      refine a_iadd dX10_look_179 ?_
      refine a_istore dX10_look_180 (by decide) ?_
      refine a_iinc dX10_look_182 rfl rfl (by decide) ?_
      refine a_goto (tgt := 154) dX10_look_185 (by decide) ?_
      rw [show nI x + Int32.ofInt 1 = nI (x + 1) from nI_1 x]
      first
      | (have q : ¬ hb S (nI x) = true := px
         have e : cnt S x = cnt S (x + 1) := by show _ = cnt S x + _; rw [if_neg q]; rfl
         rw [Int32.add_zero, e]
         exact AW.sub (L' := [(0, .ref 64), (1, .int (nI i)), (2, .int (nI j)), (5, .int (nI (cnt S (x + 1)))), (6, .int (nI (x + 1)))]) rfl (ih (x + 1) (by omega)))
      | (have e : cnt S x + 1 = cnt S (x + 1) := by show _ = cnt S x + _; rw [if_pos px]
         rw [nI_1, e]
         exact AW.sub (L' := [(0, .ref 64), (1, .int (nI i)), (2, .int (nI j)), (5, .int (nI (cnt S (x + 1)))), (6, .int (nI (x + 1)))]) rfl (ih (x + 1) (by omega)))
    · have px : hb S (nI x) = true := (hS x hx).mpr (hb_.resolve_right (fun u => c_171 u.1)).2
      refine a_iconst (v := 1) dX10_look_174 (by decide) ?_
      refine a_goto (tgt := 179) dX10_look_175 (by decide) ?_
      refine a_iadd dX10_look_179 ?_
      refine a_istore dX10_look_180 (by decide) ?_
      refine a_iinc dX10_look_182 rfl rfl (by decide) ?_
      refine a_goto (tgt := 154) dX10_look_185 (by decide) ?_
      rw [show nI x + Int32.ofInt 1 = nI (x + 1) from nI_1 x]
      first
      | (have q : ¬ hb S (nI x) = true := px
         have e : cnt S x = cnt S (x + 1) := by show _ = cnt S x + _; rw [if_neg q]; rfl
         rw [Int32.add_zero, e]
         exact AW.sub (L' := [(0, .ref 64), (1, .int (nI i)), (2, .int (nI j)), (5, .int (nI (cnt S (x + 1)))), (6, .int (nI (x + 1)))]) rfl (ih (x + 1) (by omega)))
      | (have e : cnt S x + 1 = cnt S (x + 1) := by show _ = cnt S x + _; rw [if_pos px]
         rw [nI_1, e]
         exact AW.sub (L' := [(0, .ref 64), (1, .int (nI i)), (2, .int (nI j)), (5, .int (nI (cnt S (x + 1)))), (6, .int (nI (x + 1)))]) rfl (ih (x + 1) (by omega)))
theorem w_X10_look_2 {M : Mem} {N : Nat} {Q : Option Value → Nat → Mem → Prop} {i j : Nat} (hi : i < 6) (hj : j < 64) {S : Int64} (hw : ∀ j, j < 64 → rI M 66 (64 * i + j) = 2 → RWF M (64 * i + j)) (hS : ∀ x, x < 64 → (hb S (nI x) = true ↔ Ch (nR M i) x j)) (hnb : rI M 66 (64 * i + j) = 2 → ∃ sz, sz ≤ 40 ∧ rI M 68 (64 * i + j) = nI sz ∧ ¬ (∃ q, q < sz ∧ 2 = nI (10 + q)))  (hN : 94 ≤ N) (hs : Str M.2.2.1) (h : Q (some (.int (nI (cnt S 64)))) N (M)) : AW mX10_look 7 0 0 N 0 [(0, .ref 64), (1, .int (nI i)), (2, .int (nI j)), (3, .int 2)] [] M Q := by
  refine a_iload_n dX10_look_0 rfl ?_
  refine a_callS (mc1 := 0) (ms1 := 0) (As := [_]) kpX10_isSheet kmX10_115 (by decide) rfl (Nat.le_of_ble_eq_true rfl) (Nat.le_of_ble_eq_true rfl) (Nat.le_of_ble_eq_true rfl) (Nat.le_of_ble_eq_true rfl) dX10_look_1 (w_X10_isSheet ?_)
  refine a_if_eq (tgt := 14) dX10_look_4 (by decide) (fun c_4 => absurd c_4 (fun z => bI_z.mp z ⟨by rw [nIt (by omega)]; omega, by rw [nIt (by omega)]; omega⟩)) (fun c_4 => ?_)
  refine a_iload_n dX10_look_7 rfl ?_
  refine a_callS (mc1 := 0) (ms1 := 0) (As := [_]) kpX10_isCell kmX10_119 (by decide) rfl (Nat.le_of_ble_eq_true rfl) (Nat.le_of_ble_eq_true rfl) (Nat.le_of_ble_eq_true rfl) (Nat.le_of_ble_eq_true rfl) dX10_look_8 (w_X10_isCell ?_)
  refine a_if_ne (tgt := 16) dX10_look_11 (by decide) (fun c_11 => ?_) (fun c_11 => absurd c_11 (fun z => bI_z.mp z ⟨by rw [nIt (by omega)]; omega, by rw [nIt (by omega)]; omega⟩))
  refine a_bipush (v := 64) dX10_look_16 (by decide) ?_
  refine a_iload_n dX10_look_18 rfl ?_
  refine a_imul dX10_look_19 ?_
  refine a_iload_n dX10_look_20 rfl ?_
  refine a_iadd dX10_look_21 ?_
  rw [i64]
  refine a_istore dX10_look_22 (by decide) ?_
  refine a_iconst (v := 0) dX10_look_24 (by decide) ?_
  refine a_istore dX10_look_25 (by decide) ?_
  refine a_aload_n dX10_look_27 rfl ?_
  refine a_getA (z := 66) kfX10_13 rfl rfl (st_64_2 hs) (by decide) (hlt hN (by decide)) dX10_look_28 ?_
  refine a_iload dX10_look_31 rfl ?_
  refine a_iald rfl (by decide) (hlt hN (by decide)) (show vp_in _ 384 from vp_in_nI (by omega) (by decide)) dX10_look_33 ?_
  rw [nI_clamp (by omega)]
  refine a_iconst (v := 2) dX10_look_34 (by decide) ?_
  refine a_icmp_ne (tgt := 74) dX10_look_35 (by decide) (fun c_35 => ?_) (fun c_35 => ?_)
  · refine a_iload_n dX10_look_74 rfl ?_
    skip
    · refine a_tableIn (off := 76) (tgt := 151) dX10_look_75 (by decide) (by decide) (by decide) (by decide) ?_
      refine a_iconst (v := 0) dX10_look_151 (by decide) ?_
      refine a_istore dX10_look_152 (by decide) ?_
      exact AW.sub (L' := [(0, .ref 64), (1, .int (nI i)), (2, .int (nI j)), (5, .int (nI (cnt S 0))), (6, .int (nI 0))]) rfl (l_X10_lookC hi hj hw hS hN hs h 64 0 (by omega))
  · refine a_iload_n dX10_look_38 rfl ?_
    refine a_bipush (v := 10) dX10_look_39 (by decide) ?_
    refine a_isub dX10_look_41 ?_
    refine a_iconst (v := 0) dX10_look_42 (by decide) ?_
    obtain ⟨sz, hz4, hsz, hq⟩ := hnb c_35
    refine a_aload_n dX10_look_43 rfl ?_
    refine a_getA (z := 68) kfX10_20 rfl rfl (st_64_4 hs) (by decide) (hlt hN (by decide)) dX10_look_44 ?_
    refine a_iload dX10_look_47 rfl ?_
    refine a_iald rfl (by decide) (hlt hN (by decide)) (show vp_in _ 384 from vp_in_nI (by omega) (by decide)) dX10_look_49 ?_
    rw [nI_clamp (by omega), hsz]
    refine a_iconst (v := 1) dX10_look_50 (by decide) ?_
    refine a_isub dX10_look_51 ?_
    refine a_callS (mc1 := 0) (ms1 := 0) (As := [_, _, _]) kpX10_lies kmX10_104 (by decide) rfl (Nat.le_of_ble_eq_true rfl) (Nat.le_of_ble_eq_true rfl) (Nat.le_of_ble_eq_true rfl) (Nat.le_of_ble_eq_true rfl) dX10_look_52 (w_X10_lies ?_)
    refine a_if_eq (tgt := 74) dX10_look_55 (by decide) (fun c_55 => ?_) (fun c_55 => absurd (bI_z.mpr (fun z => hq (lies10 hz4 z))) c_55)
    refine a_iload_n dX10_look_74 rfl ?_
    skip
    · refine a_tableIn (off := 76) (tgt := 151) dX10_look_75 (by decide) (by decide) (by decide) (by decide) ?_
      refine a_iconst (v := 0) dX10_look_151 (by decide) ?_
      refine a_istore dX10_look_152 (by decide) ?_
      exact AW.sub (L' := [(0, .ref 64), (1, .int (nI i)), (2, .int (nI j)), (5, .int (nI (cnt S 0))), (6, .int (nI 0))]) rfl (l_X10_lookC hi hj hw hS hN hs h 64 0 (by omega))

theorem w_X10_look_o {M : Mem} {N : Nat} {Q : Option Value → Nat → Mem → Prop} {i j : Nat} (hi : i < 6) (hj : j < 64) {v : Int32} (hv : v.toInt < 0 ∨ 2 < v.toInt) (hnb : rI M 66 (64 * i + j) = 2 → ∃ sz, sz ≤ 40 ∧ rI M 68 (64 * i + j) = nI sz ∧ ¬ (∃ q, q < sz ∧ v = nI (10 + q)))  (hN : 94 ≤ N) (hs : Str M.2.2.1) (h : Q (some (.int (-1))) N (M)) : AW mX10_look 7 0 0 N 0 [(0, .ref 64), (1, .int (nI i)), (2, .int (nI j)), (3, .int v)] [] M Q := by
  refine a_iload_n dX10_look_0 rfl ?_
  refine a_callS (mc1 := 0) (ms1 := 0) (As := [_]) kpX10_isSheet kmX10_115 (by decide) rfl (Nat.le_of_ble_eq_true rfl) (Nat.le_of_ble_eq_true rfl) (Nat.le_of_ble_eq_true rfl) (Nat.le_of_ble_eq_true rfl) dX10_look_1 (w_X10_isSheet ?_)
  refine a_if_eq (tgt := 14) dX10_look_4 (by decide) (fun c_4 => absurd c_4 (fun z => bI_z.mp z ⟨by rw [nIt (by omega)]; omega, by rw [nIt (by omega)]; omega⟩)) (fun c_4 => ?_)
  refine a_iload_n dX10_look_7 rfl ?_
  refine a_callS (mc1 := 0) (ms1 := 0) (As := [_]) kpX10_isCell kmX10_119 (by decide) rfl (Nat.le_of_ble_eq_true rfl) (Nat.le_of_ble_eq_true rfl) (Nat.le_of_ble_eq_true rfl) (Nat.le_of_ble_eq_true rfl) dX10_look_8 (w_X10_isCell ?_)
  refine a_if_ne (tgt := 16) dX10_look_11 (by decide) (fun c_11 => ?_) (fun c_11 => absurd c_11 (fun z => bI_z.mp z ⟨by rw [nIt (by omega)]; omega, by rw [nIt (by omega)]; omega⟩))
  refine a_bipush (v := 64) dX10_look_16 (by decide) ?_
  refine a_iload_n dX10_look_18 rfl ?_
  refine a_imul dX10_look_19 ?_
  refine a_iload_n dX10_look_20 rfl ?_
  refine a_iadd dX10_look_21 ?_
  rw [i64]
  refine a_istore dX10_look_22 (by decide) ?_
  refine a_iconst (v := 0) dX10_look_24 (by decide) ?_
  refine a_istore dX10_look_25 (by decide) ?_
  refine a_aload_n dX10_look_27 rfl ?_
  refine a_getA (z := 66) kfX10_13 rfl rfl (st_64_2 hs) (by decide) (hlt hN (by decide)) dX10_look_28 ?_
  refine a_iload dX10_look_31 rfl ?_
  refine a_iald rfl (by decide) (hlt hN (by decide)) (show vp_in _ 384 from vp_in_nI (by omega) (by decide)) dX10_look_33 ?_
  rw [nI_clamp (by omega)]
  refine a_iconst (v := 2) dX10_look_34 (by decide) ?_
  refine a_icmp_ne (tgt := 74) dX10_look_35 (by decide) (fun c_35 => ?_) (fun c_35 => ?_)
  · refine a_iload_n dX10_look_74 rfl ?_
    skip
    · refine a_tableOut (tgt := 191) dX10_look_75 hv (by decide) ?_
      refine a_iconst (v := (-1)) dX10_look_191 (by decide) ?_
      refine a_iret dX10_look_192 rfl h
  · refine a_iload_n dX10_look_38 rfl ?_
    refine a_bipush (v := 10) dX10_look_39 (by decide) ?_
    refine a_isub dX10_look_41 ?_
    refine a_iconst (v := 0) dX10_look_42 (by decide) ?_
    obtain ⟨sz, hz4, hsz, hq⟩ := hnb c_35
    refine a_aload_n dX10_look_43 rfl ?_
    refine a_getA (z := 68) kfX10_20 rfl rfl (st_64_4 hs) (by decide) (hlt hN (by decide)) dX10_look_44 ?_
    refine a_iload dX10_look_47 rfl ?_
    refine a_iald rfl (by decide) (hlt hN (by decide)) (show vp_in _ 384 from vp_in_nI (by omega) (by decide)) dX10_look_49 ?_
    rw [nI_clamp (by omega), hsz]
    refine a_iconst (v := 1) dX10_look_50 (by decide) ?_
    refine a_isub dX10_look_51 ?_
    refine a_callS (mc1 := 0) (ms1 := 0) (As := [_, _, _]) kpX10_lies kmX10_104 (by decide) rfl (Nat.le_of_ble_eq_true rfl) (Nat.le_of_ble_eq_true rfl) (Nat.le_of_ble_eq_true rfl) (Nat.le_of_ble_eq_true rfl) dX10_look_52 (w_X10_lies ?_)
    refine a_if_eq (tgt := 74) dX10_look_55 (by decide) (fun c_55 => ?_) (fun c_55 => absurd (bI_z.mpr (fun z => hq (lies10 hz4 z))) c_55)
    refine a_iload_n dX10_look_74 rfl ?_
    skip
    · refine a_tableOut (tgt := 191) dX10_look_75 hv (by decide) ?_
      refine a_iconst (v := (-1)) dX10_look_191 (by decide) ?_
      refine a_iret dX10_look_192 rfl h

theorem v100 {p : Nat} : nI (100 + p) - 100 = nI p := by
  rw [show (100 : Int32) = nI 100 from rfl, pk_sub (a := 100 + p) (b := 100) (by omega)]
  exact congrArg nI (by omega)
theorem w_X10_count_w {M : Mem} {N : Nat} {Q : Option Value → Nat → Mem → Prop} {k : Nat} (hk : k < 64)  (hN : 94 ≤ N) (hs : Str M.2.2.1) (h : Q (some (.int (rI M 78 k))) N (M)) : AW mX10_count 2 0 0 N 0 [(0, .ref 64), (1, .int (nI (100 + k)))] [] M Q := by
  refine a_iconst (v := 0) dX10_count_0 (by decide) ?_
  refine a_istore_n dX10_count_1 (by decide) ?_
  refine a_iload_n dX10_count_2 rfl ?_
  refine a_bipush (v := 100) dX10_count_3 (by decide) ?_
  refine a_isub dX10_count_5 ?_
  rw [v100]
  refine a_callS (mc1 := 0) (ms1 := 0) (As := [_]) kpX10_isCell kmX10_119 (by decide) rfl (Nat.le_of_ble_eq_true rfl) (Nat.le_of_ble_eq_true rfl) (Nat.le_of_ble_eq_true rfl) (Nat.le_of_ble_eq_true rfl) dX10_count_6 (w_X10_isCell ?_)
  refine a_if_eq (tgt := 22) dX10_count_9 (by decide) (fun c_9 => absurd c_9 (fun z => bI_z.mp z ⟨by rw [nIt (by omega)]; omega, by rw [nIt (by omega)]; omega⟩)) (fun c_9 => ?_)
  refine a_aload_n dX10_count_12 rfl ?_
  refine a_getA (z := 78) kfX10_52 rfl rfl (st_64_14 hs) (by decide) (hlt hN (by decide)) dX10_count_13 ?_
  refine a_iload_n dX10_count_16 rfl ?_
  refine a_bipush (v := 100) dX10_count_17 (by decide) ?_
  refine a_isub dX10_count_19 ?_
  rw [v100]
  refine a_iald rfl (by decide) (hlt hN (by decide)) (show vp_in _ 64 from j64_in hk) dX10_count_20 ?_
  refine a_iret dX10_count_21 rfl (by rw [j64_c hk]; exact h)

theorem w_X10_count_0 {M : Mem} {N : Nat} {Q : Option Value → Nat → Mem → Prop}  (hN : 94 ≤ N) (hs : Str M.2.2.1) (h : Q (some (.int (rI M 64 15))) N (M)) : AW mX10_count 2 0 0 N 0 [(0, .ref 64), (1, .int 0)] [] M Q := by
  refine a_iconst (v := 0) dX10_count_0 (by decide) ?_
  refine a_istore_n dX10_count_1 (by decide) ?_
  refine a_iload_n dX10_count_2 rfl ?_
  refine a_bipush (v := 100) dX10_count_3 (by decide) ?_
  refine a_isub dX10_count_5 ?_
  refine a_callS (mc1 := 0) (ms1 := 0) (As := [_]) kpX10_isCell kmX10_119 (by decide) rfl (Nat.le_of_ble_eq_true rfl) (Nat.le_of_ble_eq_true rfl) (Nat.le_of_ble_eq_true rfl) (Nat.le_of_ble_eq_true rfl) dX10_count_6 (w_X10_isCell ?_)
  refine a_if_eq (tgt := 22) dX10_count_9 (by decide) (fun c_9 => ?_) (fun c_9 => absurd (by decide) c_9)
  refine a_iload_n dX10_count_22 rfl ?_
  skip
  · refine a_tableIn (off := 33) (tgt := 56) dX10_count_23 (by decide) (by decide) (by decide) (by decide) ?_
    refine a_aload_n dX10_count_56 rfl ?_
    refine a_getI kfX10_204 rfl rfl (by decide) (hlt hN (by decide)) dX10_count_57 ?_
    refine a_iret dX10_count_60 rfl h

theorem w_X10_count_1 {M : Mem} {N : Nat} {Q : Option Value → Nat → Mem → Prop}  (hN : 94 ≤ N) (hs : Str M.2.2.1) (h : Q (some (.int (rI M 64 16))) N (M)) : AW mX10_count 2 0 0 N 0 [(0, .ref 64), (1, .int 1)] [] M Q := by
  refine a_iconst (v := 0) dX10_count_0 (by decide) ?_
  refine a_istore_n dX10_count_1 (by decide) ?_
  refine a_iload_n dX10_count_2 rfl ?_
  refine a_bipush (v := 100) dX10_count_3 (by decide) ?_
  refine a_isub dX10_count_5 ?_
  refine a_callS (mc1 := 0) (ms1 := 0) (As := [_]) kpX10_isCell kmX10_119 (by decide) rfl (Nat.le_of_ble_eq_true rfl) (Nat.le_of_ble_eq_true rfl) (Nat.le_of_ble_eq_true rfl) (Nat.le_of_ble_eq_true rfl) dX10_count_6 (w_X10_isCell ?_)
  refine a_if_eq (tgt := 22) dX10_count_9 (by decide) (fun c_9 => ?_) (fun c_9 => absurd (by decide) c_9)
  refine a_iload_n dX10_count_22 rfl ?_
  skip
  · refine a_tableIn (off := 38) (tgt := 61) dX10_count_23 (by decide) (by decide) (by decide) (by decide) ?_
    refine a_aload_n dX10_count_61 rfl ?_
    refine a_getI kfX10_207 rfl rfl (by decide) (hlt hN (by decide)) dX10_count_62 ?_
    refine a_iret dX10_count_65 rfl h

theorem w_X10_count_2 {M : Mem} {N : Nat} {Q : Option Value → Nat → Mem → Prop}  (hN : 94 ≤ N) (hs : Str M.2.2.1) (h : Q (some (.int (rI M 64 17))) N (M)) : AW mX10_count 2 0 0 N 0 [(0, .ref 64), (1, .int 2)] [] M Q := by
  refine a_iconst (v := 0) dX10_count_0 (by decide) ?_
  refine a_istore_n dX10_count_1 (by decide) ?_
  refine a_iload_n dX10_count_2 rfl ?_
  refine a_bipush (v := 100) dX10_count_3 (by decide) ?_
  refine a_isub dX10_count_5 ?_
  refine a_callS (mc1 := 0) (ms1 := 0) (As := [_]) kpX10_isCell kmX10_119 (by decide) rfl (Nat.le_of_ble_eq_true rfl) (Nat.le_of_ble_eq_true rfl) (Nat.le_of_ble_eq_true rfl) (Nat.le_of_ble_eq_true rfl) dX10_count_6 (w_X10_isCell ?_)
  refine a_if_eq (tgt := 22) dX10_count_9 (by decide) (fun c_9 => ?_) (fun c_9 => absurd (by decide) c_9)
  refine a_iload_n dX10_count_22 rfl ?_
  skip
  · refine a_tableIn (off := 43) (tgt := 66) dX10_count_23 (by decide) (by decide) (by decide) (by decide) ?_
    refine a_aload_n dX10_count_66 rfl ?_
    refine a_getI kfX10_210 rfl rfl (by decide) (hlt hN (by decide)) dX10_count_67 ?_
    refine a_iret dX10_count_70 rfl h

theorem w_X10_count_4 {M : Mem} {N : Nat} {Q : Option Value → Nat → Mem → Prop}  (hN : 94 ≤ N) (hs : Str M.2.2.1) (h : Q (some (.int (rI M 64 1))) N (M)) : AW mX10_count 2 0 0 N 0 [(0, .ref 64), (1, .int 4)] [] M Q := by
  refine a_iconst (v := 0) dX10_count_0 (by decide) ?_
  refine a_istore_n dX10_count_1 (by decide) ?_
  refine a_iload_n dX10_count_2 rfl ?_
  refine a_bipush (v := 100) dX10_count_3 (by decide) ?_
  refine a_isub dX10_count_5 ?_
  refine a_callS (mc1 := 0) (ms1 := 0) (As := [_]) kpX10_isCell kmX10_119 (by decide) rfl (Nat.le_of_ble_eq_true rfl) (Nat.le_of_ble_eq_true rfl) (Nat.le_of_ble_eq_true rfl) (Nat.le_of_ble_eq_true rfl) dX10_count_6 (w_X10_isCell ?_)
  refine a_if_eq (tgt := 22) dX10_count_9 (by decide) (fun c_9 => ?_) (fun c_9 => absurd (by decide) c_9)
  refine a_iload_n dX10_count_22 rfl ?_
  skip
  · refine a_tableIn (off := 73) (tgt := 96) dX10_count_23 (by decide) (by decide) (by decide) (by decide) ?_
    refine a_aload_n dX10_count_96 rfl ?_
    refine a_getI kfX10_108 rfl rfl (by decide) (hlt hN (by decide)) dX10_count_97 ?_
    refine a_iret dX10_count_100 rfl h

theorem l_X10_count3 {M : Mem} {N : Nat} {Q : Option Value → Nat → Mem → Prop} (hN : 94 ≤ N) (hs : Str M.2.2.1) (h : Q (some (.int (wsF (rI M 78) 64))) N M) : ∀ (r x : Nat), x + r = 64 → AW mX10_count 2 0 0 N 73 [(0, .ref 64), (2, .int (wsF (rI M 78) x)), (3, .int (nI x))] [] M Q := by
  intro r
  induction r with
  | zero =>
    intro x hk
    obtain rfl : x = 64 := by omega
    refine a_iload_n dX10_count_73 rfl ?_
    refine a_bipush (v := 64) dX10_count_74 (by decide) ?_
    refine a_icmp_ge (tgt := 94) dX10_count_76 (by decide) (fun c_76 => ?_) (fun c_76 => absurd (nI_le (a := 64) (b := 64) (by omega) (by decide)) c_76)
    refine a_iload_n dX10_count_94 rfl ?_
    refine a_iret dX10_count_95 rfl h
  | succ r ih =>
    intro x hk
    have hx : x < 64 := by omega
    refine a_iload_n dX10_count_73 rfl ?_
    refine a_bipush (v := 64) dX10_count_74 (by decide) ?_
    refine a_icmp_ge (tgt := 94) dX10_count_76 (by decide) (fun c_76 => absurd c_76 (nI_ge (b := 64) (by omega) (by decide))) (fun c_76 => ?_)
    refine a_iload_n dX10_count_79 rfl ?_
    refine a_aload_n dX10_count_80 rfl ?_
    refine a_getA (z := 78) kfX10_52 rfl rfl (st_64_14 hs) (by decide) (hlt hN (by decide)) dX10_count_81 ?_
    refine a_iload_n dX10_count_84 rfl ?_
    refine a_iald rfl (by decide) (hlt hN (by decide)) (show vp_in _ 64 from j64_in hx) dX10_count_85 ?_
    rw [j64_c hx]
    refine a_iadd dX10_count_86 ?_
    refine a_istore_n dX10_count_87 (by decide) ?_
    refine a_iinc dX10_count_88 rfl rfl (by decide) ?_
    refine a_goto (tgt := 73) dX10_count_91 (by decide) ?_
    rw [show nI x + Int32.ofInt 1 = nI (x + 1) from nI_1 x]
    exact AW.sub (L' := [(0, .ref 64), (2, .int (wsF (rI M 78) (x + 1))), (3, .int (nI (x + 1)))]) rfl (ih (x + 1) (by omega))
theorem w_X10_count_3 {M : Mem} {N : Nat} {Q : Option Value → Nat → Mem → Prop}  (hN : 94 ≤ N) (hs : Str M.2.2.1) (h : Q (some (.int (wsF (rI M 78) 64))) N (M)) : AW mX10_count 2 0 0 N 0 [(0, .ref 64), (1, .int 3)] [] M Q := by
  refine a_iconst (v := 0) dX10_count_0 (by decide) ?_
  refine a_istore_n dX10_count_1 (by decide) ?_
  refine a_iload_n dX10_count_2 rfl ?_
  refine a_bipush (v := 100) dX10_count_3 (by decide) ?_
  refine a_isub dX10_count_5 ?_
  refine a_callS (mc1 := 0) (ms1 := 0) (As := [_]) kpX10_isCell kmX10_119 (by decide) rfl (Nat.le_of_ble_eq_true rfl) (Nat.le_of_ble_eq_true rfl) (Nat.le_of_ble_eq_true rfl) (Nat.le_of_ble_eq_true rfl) dX10_count_6 (w_X10_isCell ?_)
  refine a_if_eq (tgt := 22) dX10_count_9 (by decide) (fun c_9 => ?_) (fun c_9 => absurd (by decide) c_9)
  refine a_iload_n dX10_count_22 rfl ?_
  skip
  · refine a_tableIn (off := 48) (tgt := 71) dX10_count_23 (by decide) (by decide) (by decide) (by decide) ?_
    refine a_iconst (v := 0) dX10_count_71 (by decide) ?_
    refine a_istore_n dX10_count_72 (by decide) ?_
    exact AW.sub (L' := [(0, .ref 64), (2, .int (wsF (rI M 78) 0)), (3, .int (nI 0))]) rfl (l_X10_count3 hN hs h 64 0 (by omega))

theorem w_X10_count_o {M : Mem} {N : Nat} {Q : Option Value → Nat → Mem → Prop} {v : Int32} (h1 : ¬ ∃ q, q < 64 ∧ v = nI (100 + q)) (h2 : v.toInt < 0 ∨ 4 < v.toInt)  (hN : 94 ≤ N) (hs : Str M.2.2.1) (h : Q (some (.int (-1))) N (M)) : AW mX10_count 2 0 0 N 0 [(0, .ref 64), (1, .int v)] [] M Q := by
  refine a_iconst (v := 0) dX10_count_0 (by decide) ?_
  refine a_istore_n dX10_count_1 (by decide) ?_
  refine a_iload_n dX10_count_2 rfl ?_
  refine a_bipush (v := 100) dX10_count_3 (by decide) ?_
  refine a_isub dX10_count_5 ?_
  refine a_callS (mc1 := 0) (ms1 := 0) (As := [_]) kpX10_isCell kmX10_119 (by decide) rfl (Nat.le_of_ble_eq_true rfl) (Nat.le_of_ble_eq_true rfl) (Nat.le_of_ble_eq_true rfl) (Nat.le_of_ble_eq_true rfl) dX10_count_6 (w_X10_isCell ?_)
  refine a_if_eq (tgt := 22) dX10_count_9 (by decide) (fun c_9 => ?_) (fun c_9 => absurd (bI_z.mpr (fun z => h1 (sub_in (a := 100) (n := 64) z (by omega)))) c_9)
  refine a_iload_n dX10_count_22 rfl ?_
  skip
  · refine a_tableOut (tgt := 101) dX10_count_23 h2 (by decide) ?_
    refine a_iconst (v := (-1)) dX10_count_101 (by decide) ?_
    refine a_iret dX10_count_102 rfl h

