def shM (M : Mem) (q : Nat) : Mem := (sA (mk (sA (mk (sA (mk (sA (mk (sA (sI (mk M (q + 1) 0) (q + 1) 0 (-1)) q 0 (some (q + 1))) (q + 1 + 1) 64) q 1 (some (q + 1 + 1))) (q + 1 + 1 + 1) 64) q 2 (some (q + 1 + 1 + 1))) (q + 1 + 1 + 1 + 1) 64) q 3 (some (q + 1 + 1 + 1 + 1))) (q + 1 + 1 + 1 + 1 + 1) 64) q 4 (some (q + 1 + 1 + 1 + 1 + 1)))
theorem w_X7_init {M : Mem} {Q : Option Value → Nat → Mem → Prop} {q : Nat} (hq : ShR q) (h : Q none (q + 1 + 1 + 1 + 1 + 1 + 1) (shM M q)) : AW mX7_init 2 5 258 (q + 1) 0 [(0, .ref q)] [] M Q := by
  refine a_aload_n dX7_init_0 rfl ?_
  refine a_objInit koX7_3 (Nat.le_of_ble_eq_true rfl) dX7_init_1 ?_
  refine a_aload_n dX7_init_4 rfl ?_
  refine a_new knX7_9 (sh_k0 hq) (show 4 + 1 ≤ 5 from by decide) (show 256 + 2 ≤ 258 from by decide) dX7_init_5 ?_
  refine a_dup dX7_init_8 rfl ?_
  refine a_callI (mc1 := 4) (ms1 := 256) (As := []) kpX0_init kmX7_11 (by decide) rfl (Nat.le_of_ble_eq_true rfl) (Nat.le_of_ble_eq_true rfl) (by decide) (by decide) dX7_init_9 (w_X0_init (q := q + 1) (sh_k0 hq) (by have := sh_two hq; omega) (by omega) ?_)
  refine a_putA kfX7_12 (sh_k hq) rfl rfl rfl rfl (sh_two hq) (by omega) dX7_init_12 ?_
  refine a_aload_n dX7_init_15 rfl ?_
  refine a_bipush (v := 64) dX7_init_16 (by decide) ?_
  refine a_newa (atype := .int) ka_int (show KD (q + 1 + 1) = _ from sh_k1 hq) (by decide) (by decide) rfl (by decide) (show ln _ (q + 1 + 1) = 64 from sh_ln1 hq) (show 3 + 1 ≤ 4 from by decide) (show 192 + 64 ≤ 256 from by decide) dX7_init_18 ?_
  refine a_putA kfX7_18 (sh_k hq) rfl rfl rfl rfl (sh_two hq) (by omega) dX7_init_20 ?_
  refine a_aload_n dX7_init_23 rfl ?_
  refine a_bipush (v := 64) dX7_init_24 (by decide) ?_
  refine a_newa (atype := .int) ka_int (show KD (q + 1 + 1 + 1) = _ from sh_k2 hq) (by decide) (by decide) rfl (by decide) (show ln _ (q + 1 + 1 + 1) = 64 from sh_ln2 hq) (show 2 + 1 ≤ 3 from by decide) (show 128 + 64 ≤ 192 from by decide) dX7_init_26 ?_
  refine a_putA kfX7_22 (sh_k hq) rfl rfl rfl rfl (sh_two hq) (by omega) dX7_init_28 ?_
  refine a_aload_n dX7_init_31 rfl ?_
  refine a_bipush (v := 64) dX7_init_32 (by decide) ?_
  refine a_anew kclX7_25 (show KD (q + 1 + 1 + 1 + 1) = _ from sh_k3 hq) (by decide) (by decide) rfl (by decide) (show ln _ (q + 1 + 1 + 1 + 1) = 64 from sh_ln3 hq) (show 1 + 1 ≤ 2 from by decide) (show 64 + 64 ≤ 128 from by decide) dX7_init_34 ?_
  refine a_putA kfX7_27 (sh_k hq) rfl rfl rfl rfl (sh_two hq) (by omega) dX7_init_37 ?_
  refine a_aload_n dX7_init_40 rfl ?_
  refine a_bipush (v := 64) dX7_init_41 (by decide) ?_
  refine a_newa (atype := .long) ka_long (show KD (q + 1 + 1 + 1 + 1 + 1) = _ from sh_k4 hq) (by decide) (by decide) rfl (by decide) (show ln _ (q + 1 + 1 + 1 + 1 + 1) = 64 from sh_ln4 hq) (show 0 + 1 ≤ 1 from by decide) (show 0 + 64 ≤ 64 from by decide) dX7_init_43 ?_
  refine a_putA kfX7_31 (sh_k hq) rfl rfl rfl rfl (sh_two hq) (by omega) dX7_init_45 ?_
  refine a_vret dX7_init_48 rfl h
def fgM (M : Mem) (q : Nat) : Mem := (sA (mk (sA (mk (sA (mk (sA (sI (mk (sA (sA M q 0 (some 5)) q 1 (some 45)) (q + 1) 0) (q + 1) 0 (-1)) q 2 (some (q + 1))) (q + 1 + 1) 384) q 3 (some (q + 1 + 1))) (q + 1 + 1 + 1) 384) q 4 (some (q + 1 + 1 + 1))) (q + 1 + 1 + 1 + 1) 64) q 5 (some (q + 1 + 1 + 1 + 1)))
theorem w_X1_init {M : Mem} {Q : Option Value → Nat → Mem → Prop} {q : Nat} (hq : FgR q) (h : Q none (q + 1 + 1 + 1 + 1 + 1) (fgM M q)) : AW mX1_init 2 4 834 (q + 1) 0 [(0, .ref q), (1, .ref 5), (2, .ref 45)] [] M Q := by
  have hq5 : 45 < q := by rcases hq with rfl | rfl | rfl <;> decide
  refine a_aload_n dX1_init_0 rfl ?_
  refine a_objInit koX1_3 (Nat.le_of_ble_eq_true rfl) dX1_init_1 ?_
  refine a_aload_n dX1_init_4 rfl ?_
  refine a_aload_n dX1_init_5 rfl ?_
  refine a_putA kfX1_9 (fg_k hq) rfl rfl rfl rfl (fg_two hq) (by omega) dX1_init_6 ?_
  refine a_aload_n dX1_init_9 rfl ?_
  refine a_aload_n dX1_init_10 rfl ?_
  refine a_putA kfX1_15 (fg_k hq) rfl rfl rfl rfl (fg_two hq) (by omega) dX1_init_11 ?_
  refine a_aload_n dX1_init_14 rfl ?_
  refine a_new knX1_19 (fg_k2 hq) (show 3 + 1 ≤ 4 from by decide) (show 832 + 2 ≤ 834 from by decide) dX1_init_15 ?_
  refine a_dup dX1_init_18 rfl ?_
  refine a_callI (mc1 := 3) (ms1 := 832) (As := []) kpX0_init kmX1_21 (by decide) rfl (Nat.le_of_ble_eq_true rfl) (Nat.le_of_ble_eq_true rfl) (by decide) (by decide) dX1_init_19 (w_X0_init (q := q + 1) (fg_k2 hq) (by omega) (by omega) ?_)
  refine a_putA kfX1_22 (fg_k hq) rfl rfl rfl rfl (fg_two hq) (by omega) dX1_init_22 ?_
  refine a_aload_n dX1_init_25 rfl ?_
  refine a_sipush (v := 384) dX1_init_26 (by decide) ?_
  refine a_newa (atype := .long) ka_long (show KD (q + 1 + 1) = _ from fg_k3 hq) (by decide) (by decide) rfl (by decide) (show ln _ (q + 1 + 1) = 384 from fg_ln3 hq) (show 2 + 1 ≤ 3 from by decide) (show 448 + 384 ≤ 832 from by decide) dX1_init_29 ?_
  refine a_putA kfX1_26 (fg_k hq) rfl rfl rfl rfl (fg_two hq) (by omega) dX1_init_31 ?_
  refine a_aload_n dX1_init_34 rfl ?_
  refine a_sipush (v := 384) dX1_init_35 (by decide) ?_
  refine a_newa (atype := .int) ka_int (show KD (q + 1 + 1 + 1) = _ from fg_k4 hq) (by decide) (by decide) rfl (by decide) (show ln _ (q + 1 + 1 + 1) = 384 from fg_ln4 hq) (show 1 + 1 ≤ 2 from by decide) (show 64 + 384 ≤ 448 from by decide) dX1_init_38 ?_
  refine a_putA kfX1_30 (fg_k hq) rfl rfl rfl rfl (fg_two hq) (by omega) dX1_init_40 ?_
  refine a_aload_n dX1_init_43 rfl ?_
  refine a_bipush (v := 64) dX1_init_44 (by decide) ?_
  refine a_newa (atype := .int) ka_int (show KD (q + 1 + 1 + 1 + 1) = _ from fg_k5 hq) (by decide) (by decide) rfl (by decide) (show ln _ (q + 1 + 1 + 1 + 1) = 64 from fg_ln5 hq) (show 0 + 1 ≤ 1 from by decide) (show 0 + 64 ≤ 64 from by decide) dX1_init_46 ?_
  refine a_putA kfX1_34 (fg_k hq) rfl rfl rfl rfl (fg_two hq) (by omega) dX1_init_48 ?_
  refine a_vret dX1_init_51 rfl h
def tpM (M : Mem) : Mem := (sA (mk M 4 60) 3 0 (some 4))
theorem w_X8_init {M : Mem} {Q : Option Value → Nat → Mem → Prop} (h : Q none 5 (tpM M)) : AW mX8_init 1 1 60 4 0 [(0, .ref 3)] [] M Q := by
  refine a_aload_n dX8_init_0 rfl ?_
  refine a_objInit koX8_3 (Nat.le_of_ble_eq_true rfl) dX8_init_1 ?_
  refine a_aload_n dX8_init_4 rfl ?_
  refine a_bipush (v := 60) dX8_init_5 (by decide) ?_
  refine a_newa (atype := .int) ka_int rfl (by decide) (by decide) rfl (by decide) rfl (show 0 + 1 ≤ 1 from by decide) (show 0 + 60 ≤ 60 from by decide) dX8_init_7 ?_
  refine a_putA kfX8_9 rfl rfl rfl rfl rfl (by decide) (by decide) dX8_init_9 ?_
  refine a_vret dX8_init_12 rfl h
def lsM (M : Mem) : Mem := (sA (mk (sA (mk M 6 384) 5 0 (some 6)) 7 64) 5 1 (some 7))
theorem w_X4_init {M : Mem} {Q : Option Value → Nat → Mem → Prop} (h : Q none 8 (lsM M)) : AW mX4_init 1 2 448 6 0 [(0, .ref 5)] [] M Q := by
  refine a_aload_n dX4_init_0 rfl ?_
  refine a_objInit koX4_3 (Nat.le_of_ble_eq_true rfl) dX4_init_1 ?_
  refine a_aload_n dX4_init_4 rfl ?_
  refine a_sipush (v := 384) dX4_init_5 (by decide) ?_
  refine a_newa (atype := .int) ka_int rfl (by decide) (by decide) rfl (by decide) rfl (show 1 + 1 ≤ 2 from by decide) (show 64 + 384 ≤ 448 from by decide) dX4_init_8 ?_
  refine a_putA kfX4_9 rfl rfl rfl rfl rfl (by decide) (by decide) dX4_init_10 ?_
  refine a_aload_n dX4_init_13 rfl ?_
  refine a_bipush (v := 64) dX4_init_14 (by decide) ?_
  refine a_newa (atype := .int) ka_int rfl (by decide) (by decide) rfl (by decide) rfl (show 0 + 1 ≤ 1 from by decide) (show 0 + 64 ≤ 64 from by decide) dX4_init_16 ?_
  refine a_putA kfX4_15 rfl rfl rfl rfl rfl (by decide) (by decide) dX4_init_18 ?_
  refine a_vret dX4_init_21 rfl h
def mcM (M : Mem) : Mem := (sA (mk M 46 40) 45 0 (some 46))
theorem w_X5_init {M : Mem} {Q : Option Value → Nat → Mem → Prop} (h : Q none 47 (mcM M)) : AW mX5_init 1 1 40 46 0 [(0, .ref 45)] [] M Q := by
  refine a_aload_n dX5_init_0 rfl ?_
  refine a_objInit koX5_3 (Nat.le_of_ble_eq_true rfl) dX5_init_1 ?_
  refine a_aload_n dX5_init_4 rfl ?_
  refine a_bipush (v := 40) dX5_init_5 (by decide) ?_
  refine a_newa (atype := .long) ka_long rfl (by decide) (by decide) rfl (by decide) rfl (show 0 + 1 ≤ 1 from by decide) (show 0 + 40 ≤ 40 from by decide) dX5_init_7 ?_
  refine a_putA kfX5_9 rfl rfl rfl rfl rfl (by decide) (by decide) dX5_init_9 ?_
  refine a_vret dX5_init_12 rfl h
def jgM (M : Mem) : Mem := (sA (sI (mk (sA (sA (sA (sA (sA M 62 0 (some 5)) 62 1 (some 45)) 62 3 (some 47)) 62 4 (some 52)) 62 5 (some 57)) 63 0) 63 0 (-1)) 62 2 (some 63))
theorem w_X3_init {M : Mem} {Q : Option Value → Nat → Mem → Prop} (h : Q none 64 (jgM M)) : AW mX3_init 2 1 2 63 0 [(0, .ref 62), (1, .ref 5), (2, .ref 45), (3, .ref 47), (4, .ref 52), (5, .ref 57)] [] M Q := by
  refine a_aload_n dX3_init_0 rfl ?_
  refine a_objInit koX3_3 (Nat.le_of_ble_eq_true rfl) dX3_init_1 ?_
  refine a_aload_n dX3_init_4 rfl ?_
  refine a_aload_n dX3_init_5 rfl ?_
  refine a_putA kfX3_9 rfl rfl rfl rfl rfl (by decide) (by decide) dX3_init_6 ?_
  refine a_aload_n dX3_init_9 rfl ?_
  refine a_aload_n dX3_init_10 rfl ?_
  refine a_putA kfX3_15 rfl rfl rfl rfl rfl (by decide) (by decide) dX3_init_11 ?_
  refine a_aload_n dX3_init_14 rfl ?_
  refine a_aload_n dX3_init_15 rfl ?_
  refine a_putA kfX3_19 rfl rfl rfl rfl rfl (by decide) (by decide) dX3_init_16 ?_
  refine a_aload_n dX3_init_19 rfl ?_
  refine a_aload dX3_init_20 rfl ?_
  refine a_putA kfX3_23 rfl rfl rfl rfl rfl (by decide) (by decide) dX3_init_22 ?_
  refine a_aload_n dX3_init_25 rfl ?_
  refine a_aload dX3_init_26 rfl ?_
  refine a_putA kfX3_26 rfl rfl rfl rfl rfl (by decide) (by decide) dX3_init_28 ?_
  refine a_aload_n dX3_init_31 rfl ?_
  refine a_new knX3_29 rfl (show 0 + 1 ≤ 1 from by decide) (show 0 + 2 ≤ 2 from by decide) dX3_init_32 ?_
  refine a_dup dX3_init_35 rfl ?_
  refine a_callI (mc1 := 0) (ms1 := 0) (As := []) kpX0_init kmX3_31 (by decide) rfl (Nat.le_of_ble_eq_true rfl) (Nat.le_of_ble_eq_true rfl) (by decide) (by decide) dX3_init_36 (w_X0_init (q := 63) rfl (by decide) (by decide) ?_)
  refine a_putA kfX3_32 rfl rfl rfl rfl rfl (by decide) (by decide) dX3_init_39 ?_
  refine a_vret dX3_init_42 rfl h
def rfM (M : Mem) : Mem := (sA (mk (sA (mk (sA (mk (sA (mk (sA (mk (sI (sA (mk (sA (mk (sA (mk (sA (mk (sA (mk (sA (mk (sA (mk (sA (mk (sA (mk (sA (mk (sA (mk (sA (mk (sA (mk (sA (mk (sA (mk (sA (mk (sA (mk (sA (mk (sA (mk (sA (mk (sA (mk (sA (mk (sA (mk (sA (mk M 65 60) 64 0 (some 65)) 66 384) 64 2 (some 66)) 67 384) 64 3 (some 67)) 68 384) 64 4 (some 68)) 69 15360) 64 5 (some 69)) 70 384) 64 6 (some 70)) 71 15360) 64 7 (some 71)) 72 15360) 64 8 (some 72)) 73 15360) 64 9 (some 73)) 74 15360) 64 10 (some 74)) 75 15360) 64 11 (some 75)) 76 384) 64 12 (some 76)) 77 64) 64 13 (some 77)) 78 64) 64 14 (some 78)) 79 384) 64 18 (some 79)) 80 384) 64 19 (some 80)) 81 384) 64 20 (some 81)) 82 40) 64 29 (some 82)) 83 40) 64 30 (some 83)) 84 40) 64 31 (some 84)) 85 40) 64 32 (some 85)) 86 40) 64 33 (some 86)) 87 40) 64 34 (some 87)) 88 40) 64 35 (some 88)) 64 36 (-1)) 89 64) 64 41 (some 89)) 90 64) 64 42 (some 90)) 91 64) 64 43 (some 91)) 92 64) 64 44 (some 92)) 93 40) 64 45 (some 93))
theorem w_X10_init {M : Mem} {Q : Option Value → Nat → Mem → Prop} (h : Q none 94 (rfM M)) : AW mX10_init 1 29 95996 65 0 [(0, .ref 64)] [] M Q := by
  refine a_aload_n dX10_init_0 rfl ?_
  refine a_objInit koX10_1 (Nat.le_of_ble_eq_true rfl) dX10_init_1 ?_
  refine a_aload_n dX10_init_4 rfl ?_
  refine a_bipush (v := 60) dX10_init_5 (by decide) ?_
  refine a_newa (atype := .byte) ka_byte rfl (by decide) (by decide) rfl (by decide) rfl (show 28 + 1 ≤ 29 from by decide) (show 95936 + 60 ≤ 95996 from by decide) dX10_init_7 ?_
  refine a_putA kfX10_7 rfl rfl rfl rfl rfl (by decide) (by decide) dX10_init_9 ?_
  refine a_aload_n dX10_init_12 rfl ?_
  refine a_sipush (v := 384) dX10_init_13 (by decide) ?_
  refine a_newa (atype := .int) ka_int rfl (by decide) (by decide) rfl (by decide) rfl (show 27 + 1 ≤ 28 from by decide) (show 95552 + 384 ≤ 95936 from by decide) dX10_init_16 ?_
  refine a_putA kfX10_13 rfl rfl rfl rfl rfl (by decide) (by decide) dX10_init_18 ?_
  refine a_aload_n dX10_init_21 rfl ?_
  refine a_sipush (v := 384) dX10_init_22 (by decide) ?_
  refine a_newa (atype := .int) ka_int rfl (by decide) (by decide) rfl (by decide) rfl (show 26 + 1 ≤ 27 from by decide) (show 95168 + 384 ≤ 95552 from by decide) dX10_init_25 ?_
  refine a_putA kfX10_17 rfl rfl rfl rfl rfl (by decide) (by decide) dX10_init_27 ?_
  refine a_aload_n dX10_init_30 rfl ?_
  refine a_sipush (v := 384) dX10_init_31 (by decide) ?_
  refine a_newa (atype := .int) ka_int rfl (by decide) (by decide) rfl (by decide) rfl (show 25 + 1 ≤ 26 from by decide) (show 94784 + 384 ≤ 95168 from by decide) dX10_init_34 ?_
  refine a_putA kfX10_20 rfl rfl rfl rfl rfl (by decide) (by decide) dX10_init_36 ?_
  refine a_aload_n dX10_init_39 rfl ?_
  refine a_sipush (v := 15360) dX10_init_40 (by decide) ?_
  refine a_newa (atype := .byte) ka_byte rfl (by decide) (by decide) rfl (by decide) rfl (show 24 + 1 ≤ 25 from by decide) (show 79424 + 15360 ≤ 94784 from by decide) dX10_init_43 ?_
  refine a_putA kfX10_23 rfl rfl rfl rfl rfl (by decide) (by decide) dX10_init_45 ?_
  refine a_aload_n dX10_init_48 rfl ?_
  refine a_sipush (v := 384) dX10_init_49 (by decide) ?_
  refine a_newa (atype := .int) ka_int rfl (by decide) (by decide) rfl (by decide) rfl (show 23 + 1 ≤ 24 from by decide) (show 79040 + 384 ≤ 79424 from by decide) dX10_init_52 ?_
  refine a_putA kfX10_26 rfl rfl rfl rfl rfl (by decide) (by decide) dX10_init_54 ?_
  refine a_aload_n dX10_init_57 rfl ?_
  refine a_sipush (v := 15360) dX10_init_58 (by decide) ?_
  refine a_newa (atype := .int) ka_int rfl (by decide) (by decide) rfl (by decide) rfl (show 22 + 1 ≤ 23 from by decide) (show 63680 + 15360 ≤ 79040 from by decide) dX10_init_61 ?_
  refine a_putA kfX10_29 rfl rfl rfl rfl rfl (by decide) (by decide) dX10_init_63 ?_
  refine a_aload_n dX10_init_66 rfl ?_
  refine a_sipush (v := 15360) dX10_init_67 (by decide) ?_
  refine a_newa (atype := .int) ka_int rfl (by decide) (by decide) rfl (by decide) rfl (show 21 + 1 ≤ 22 from by decide) (show 48320 + 15360 ≤ 63680 from by decide) dX10_init_70 ?_
  refine a_putA kfX10_32 rfl rfl rfl rfl rfl (by decide) (by decide) dX10_init_72 ?_
  refine a_aload_n dX10_init_75 rfl ?_
  refine a_sipush (v := 15360) dX10_init_76 (by decide) ?_
  refine a_newa (atype := .int) ka_int rfl (by decide) (by decide) rfl (by decide) rfl (show 20 + 1 ≤ 21 from by decide) (show 32960 + 15360 ≤ 48320 from by decide) dX10_init_79 ?_
  refine a_putA kfX10_35 rfl rfl rfl rfl rfl (by decide) (by decide) dX10_init_81 ?_
  refine a_aload_n dX10_init_84 rfl ?_
  refine a_sipush (v := 15360) dX10_init_85 (by decide) ?_
  refine a_newa (atype := .int) ka_int rfl (by decide) (by decide) rfl (by decide) rfl (show 19 + 1 ≤ 20 from by decide) (show 17600 + 15360 ≤ 32960 from by decide) dX10_init_88 ?_
  refine a_putA kfX10_38 rfl rfl rfl rfl rfl (by decide) (by decide) dX10_init_90 ?_
  refine a_aload_n dX10_init_93 rfl ?_
  refine a_sipush (v := 15360) dX10_init_94 (by decide) ?_
  refine a_newa (atype := .int) ka_int rfl (by decide) (by decide) rfl (by decide) rfl (show 18 + 1 ≤ 19 from by decide) (show 2240 + 15360 ≤ 17600 from by decide) dX10_init_97 ?_
  refine a_putA kfX10_41 rfl rfl rfl rfl rfl (by decide) (by decide) dX10_init_99 ?_
  refine a_aload_n dX10_init_102 rfl ?_
  refine a_sipush (v := 384) dX10_init_103 (by decide) ?_
  refine a_newa (atype := .long) ka_long rfl (by decide) (by decide) rfl (by decide) rfl (show 17 + 1 ≤ 18 from by decide) (show 1856 + 384 ≤ 2240 from by decide) dX10_init_106 ?_
  refine a_putA kfX10_44 rfl rfl rfl rfl rfl (by decide) (by decide) dX10_init_108 ?_
  refine a_aload_n dX10_init_111 rfl ?_
  refine a_bipush (v := 64) dX10_init_112 (by decide) ?_
  refine a_newa (atype := .boolean) ka_boolean rfl (by decide) (by decide) rfl (by decide) rfl (show 16 + 1 ≤ 17 from by decide) (show 1792 + 64 ≤ 1856 from by decide) dX10_init_114 ?_
  refine a_putA kfX10_48 rfl rfl rfl rfl rfl (by decide) (by decide) dX10_init_116 ?_
  refine a_aload_n dX10_init_119 rfl ?_
  refine a_bipush (v := 64) dX10_init_120 (by decide) ?_
  refine a_newa (atype := .int) ka_int rfl (by decide) (by decide) rfl (by decide) rfl (show 15 + 1 ≤ 16 from by decide) (show 1728 + 64 ≤ 1792 from by decide) dX10_init_122 ?_
  refine a_putA kfX10_52 rfl rfl rfl rfl rfl (by decide) (by decide) dX10_init_124 ?_
  refine a_aload_n dX10_init_127 rfl ?_
  refine a_sipush (v := 384) dX10_init_128 (by decide) ?_
  refine a_newa (atype := .int) ka_int rfl (by decide) (by decide) rfl (by decide) rfl (show 14 + 1 ≤ 15 from by decide) (show 1344 + 384 ≤ 1728 from by decide) dX10_init_131 ?_
  refine a_putA kfX10_55 rfl rfl rfl rfl rfl (by decide) (by decide) dX10_init_133 ?_
  refine a_aload_n dX10_init_136 rfl ?_
  refine a_sipush (v := 384) dX10_init_137 (by decide) ?_
  refine a_newa (atype := .long) ka_long rfl (by decide) (by decide) rfl (by decide) rfl (show 13 + 1 ≤ 14 from by decide) (show 960 + 384 ≤ 1344 from by decide) dX10_init_140 ?_
  refine a_putA kfX10_58 rfl rfl rfl rfl rfl (by decide) (by decide) dX10_init_142 ?_
  refine a_aload_n dX10_init_145 rfl ?_
  refine a_sipush (v := 384) dX10_init_146 (by decide) ?_
  refine a_newa (atype := .int) ka_int rfl (by decide) (by decide) rfl (by decide) rfl (show 12 + 1 ≤ 13 from by decide) (show 576 + 384 ≤ 960 from by decide) dX10_init_149 ?_
  refine a_putA kfX10_61 rfl rfl rfl rfl rfl (by decide) (by decide) dX10_init_151 ?_
  refine a_aload_n dX10_init_154 rfl ?_
  refine a_bipush (v := 40) dX10_init_155 (by decide) ?_
  refine a_newa (atype := .int) ka_int rfl (by decide) (by decide) rfl (by decide) rfl (show 11 + 1 ≤ 12 from by decide) (show 536 + 40 ≤ 576 from by decide) dX10_init_157 ?_
  refine a_putA kfX10_64 rfl rfl rfl rfl rfl (by decide) (by decide) dX10_init_159 ?_
  refine a_aload_n dX10_init_162 rfl ?_
  refine a_bipush (v := 40) dX10_init_163 (by decide) ?_
  refine a_newa (atype := .int) ka_int rfl (by decide) (by decide) rfl (by decide) rfl (show 10 + 1 ≤ 11 from by decide) (show 496 + 40 ≤ 536 from by decide) dX10_init_165 ?_
  refine a_putA kfX10_67 rfl rfl rfl rfl rfl (by decide) (by decide) dX10_init_167 ?_
  refine a_aload_n dX10_init_170 rfl ?_
  refine a_bipush (v := 40) dX10_init_171 (by decide) ?_
  refine a_newa (atype := .int) ka_int rfl (by decide) (by decide) rfl (by decide) rfl (show 9 + 1 ≤ 10 from by decide) (show 456 + 40 ≤ 496 from by decide) dX10_init_173 ?_
  refine a_putA kfX10_70 rfl rfl rfl rfl rfl (by decide) (by decide) dX10_init_175 ?_
  refine a_aload_n dX10_init_178 rfl ?_
  refine a_bipush (v := 40) dX10_init_179 (by decide) ?_
  refine a_newa (atype := .int) ka_int rfl (by decide) (by decide) rfl (by decide) rfl (show 8 + 1 ≤ 9 from by decide) (show 416 + 40 ≤ 456 from by decide) dX10_init_181 ?_
  refine a_putA kfX10_73 rfl rfl rfl rfl rfl (by decide) (by decide) dX10_init_183 ?_
  refine a_aload_n dX10_init_186 rfl ?_
  refine a_bipush (v := 40) dX10_init_187 (by decide) ?_
  refine a_newa (atype := .int) ka_int rfl (by decide) (by decide) rfl (by decide) rfl (show 7 + 1 ≤ 8 from by decide) (show 376 + 40 ≤ 416 from by decide) dX10_init_189 ?_
  refine a_putA kfX10_76 rfl rfl rfl rfl rfl (by decide) (by decide) dX10_init_191 ?_
  refine a_aload_n dX10_init_194 rfl ?_
  refine a_bipush (v := 40) dX10_init_195 (by decide) ?_
  refine a_newa (atype := .int) ka_int rfl (by decide) (by decide) rfl (by decide) rfl (show 6 + 1 ≤ 7 from by decide) (show 336 + 40 ≤ 376 from by decide) dX10_init_197 ?_
  refine a_putA kfX10_79 rfl rfl rfl rfl rfl (by decide) (by decide) dX10_init_199 ?_
  refine a_aload_n dX10_init_202 rfl ?_
  refine a_bipush (v := 40) dX10_init_203 (by decide) ?_
  refine a_newa (atype := .int) ka_int rfl (by decide) (by decide) rfl (by decide) rfl (show 5 + 1 ≤ 6 from by decide) (show 296 + 40 ≤ 336 from by decide) dX10_init_205 ?_
  refine a_putA kfX10_82 rfl rfl rfl rfl rfl (by decide) (by decide) dX10_init_207 ?_
  refine a_aload_n dX10_init_210 rfl ?_
  refine a_iconst (v := (-1)) dX10_init_211 (by decide) ?_
  refine a_putI kfX10_85 rfl rfl rfl (by decide) (by decide) dX10_init_212 ?_
  refine a_aload_n dX10_init_215 rfl ?_
  refine a_bipush (v := 64) dX10_init_216 (by decide) ?_
  refine a_newa (atype := .int) ka_int rfl (by decide) (by decide) rfl (by decide) rfl (show 4 + 1 ≤ 5 from by decide) (show 232 + 64 ≤ 296 from by decide) dX10_init_218 ?_
  refine a_putA kfX10_89 rfl rfl rfl rfl rfl (by decide) (by decide) dX10_init_220 ?_
  refine a_aload_n dX10_init_223 rfl ?_
  refine a_bipush (v := 64) dX10_init_224 (by decide) ?_
  refine a_newa (atype := .long) ka_long rfl (by decide) (by decide) rfl (by decide) rfl (show 3 + 1 ≤ 4 from by decide) (show 168 + 64 ≤ 232 from by decide) dX10_init_226 ?_
  refine a_putA kfX10_92 rfl rfl rfl rfl rfl (by decide) (by decide) dX10_init_228 ?_
  refine a_aload_n dX10_init_231 rfl ?_
  refine a_bipush (v := 64) dX10_init_232 (by decide) ?_
  refine a_newa (atype := .long) ka_long rfl (by decide) (by decide) rfl (by decide) rfl (show 2 + 1 ≤ 3 from by decide) (show 104 + 64 ≤ 168 from by decide) dX10_init_234 ?_
  refine a_putA kfX10_95 rfl rfl rfl rfl rfl (by decide) (by decide) dX10_init_236 ?_
  refine a_aload_n dX10_init_239 rfl ?_
  refine a_bipush (v := 64) dX10_init_240 (by decide) ?_
  refine a_newa (atype := .int) ka_int rfl (by decide) (by decide) rfl (by decide) rfl (show 1 + 1 ≤ 2 from by decide) (show 40 + 64 ≤ 104 from by decide) dX10_init_242 ?_
  refine a_putA kfX10_98 rfl rfl rfl rfl rfl (by decide) (by decide) dX10_init_244 ?_
  refine a_aload_n dX10_init_247 rfl ?_
  refine a_bipush (v := 40) dX10_init_248 (by decide) ?_
  refine a_newa (atype := .long) ka_long rfl (by decide) (by decide) rfl (by decide) rfl (show 0 + 1 ≤ 1 from by decide) (show 0 + 40 ≤ 40 from by decide) dX10_init_250 ?_
  refine a_putA kfX10_101 rfl rfl rfl rfl rfl (by decide) (by decide) dX10_init_252 ?_
  refine a_vret dX10_init_255 rfl h
