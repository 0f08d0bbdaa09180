theorem shM_A {M : Mem} {q a j : Nat} (h : a < q) : rA (shM M q) a j = rA M a j := by
  unfold shM
  simp only [rA_sA, rA_sI]
  have e : ∀ (X : Mem) (n len : Nat), a < n → rA (mk X n len) a j = rA X a j := fun X n len hn => by
    show (if a = n then none else X.2.2.1 a j) = _
    rw [if_neg (by omega)]
    rfl
  rw [if_neg (by omega), e _ _ _ (by omega), rA_sA, if_neg (by omega), e _ _ _ (by omega), rA_sA, if_neg (by omega), e _ _ _ (by omega), rA_sA, if_neg (by omega), e _ _ _ (by omega), rA_sA, if_neg (by omega), rA_sI, e _ _ _ (by omega)]
theorem mk_A {M : Mem} {n len a j : Nat} (h : a < n) : rA (mk M n len) a j = rA M a j := by
  show (if a = n then none else M.2.2.1 a j) = _
  rw [if_neg (by omega)]
  rfl
/-- the six sheets made -/
def shS (M : Mem) : Nat → Mem
  | 0 => M
  | s + 1 => sA (shM (mk (shS M s) (9 + 6 * s) 0) (9 + 6 * s)) 8 s (some (9 + 6 * s))
theorem shS_A {M : Mem} {a j : Nat} (h : a < 8) : ∀ s, rA (shS M s) a j = rA M a j
  | 0 => rfl
  | s + 1 => by
    show rA (sA (shM (mk (shS M s) (9 + 6 * s) 0) (9 + 6 * s)) 8 s (some (9 + 6 * s))) a j = _
    rw [rA_sA, if_neg (by omega), shM_A (by omega), mk_A (by omega), shS_A h s]
theorem l_X9_init {M : Mem} {Q : Option Value → Nat → Mem → Prop} (hA : rA M 2 2 = some 8) (h : AW mX9_init 3 19 2580 45 62 [(0, .ref 2), (1, .int (nI 6))] [] (shS M 6) Q) : ∀ (r s : Nat), s + r = 6 → AW mX9_init 3 (55 - 6 * s) (4164 - 264 * s) (9 + 6 * s) 37 [(0, .ref 2), (1, .int (nI s))] [] (shS M s) Q := by
  intro r
  induction r with
  | zero =>
    intro s hk
    obtain rfl : s = 6 := by omega
    show AW mX9_init 3 19 2580 45 37 _ _ _ _
    refine a_iload_n dX9_init_37 rfl ?_
    refine a_bipush (v := 6) dX9_init_38 (by decide) ?_
    refine a_icmp_ge (tgt := 62) dX9_init_40 (by decide) (fun c_40 => ?_) (fun c_40 => absurd (nI_le (a := 6) (b := 6) (by omega) (by decide)) c_40)
    exact h
  | succ r ih =>
    intro s hk
    have hs6 : s < 6 := by omega
    have hq : ShR (9 + 6 * s) := ⟨s, hs6, rfl⟩
    refine a_iload_n dX9_init_37 rfl ?_
    refine a_bipush (v := 6) dX9_init_38 (by decide) ?_
    refine a_icmp_ge (tgt := 62) dX9_init_40 (by decide) (fun c_40 => absurd c_40 (nI_ge (b := 6) (by omega) (by decide))) (fun c_40 => ?_)
    refine a_aload_n dX9_init_43 rfl ?_
    have g8 : rA (shS M s) 2 2 = some 8 := (shS_A (by decide) s).trans hA
    refine a_getA (z := 8) kfX9_25 rfl rfl (by exact g8) (by decide) (by omega) dX9_init_44 ?_
    refine a_iload_n dX9_init_47 rfl ?_
    refine a_new knX9_23 (sh_k hq) (show (54 - 6 * s) + 1 ≤ 55 - 6 * s from by omega) (show (4164 - 264 * s - 6) + 6 ≤ 4164 - 264 * s from by omega) dX9_init_48 ?_
    refine a_dup dX9_init_51 rfl ?_
    refine a_callI (mc1 := (54 - 6 * s - 5)) (ms1 := (4164 - 264 * s - 6 - 258)) (As := []) kpX7_init kmX9_29 (by decide) rfl (Nat.le_of_ble_eq_true rfl) (Nat.le_of_ble_eq_true rfl) (by omega) (by omega) dX9_init_52 (w_X7_init (M := mk (shS M s) (9 + 6 * s) 0) hq ?_)
    have h55 : 8 < 9 + 6 * s := by omega
    refine a_aast rfl (Or.inr ⟨rfl, rfl⟩) (sh_k hq) (by decide) (by omega) (by omega) (by omega) (show vp_in _ 6 from vp_in_nI hs6 (by decide)) dX9_init_55 ?_
    refine a_iinc dX9_init_56 rfl rfl (by decide) ?_
    refine a_goto (tgt := 37) dX9_init_59 (by decide) ?_
    rw [nI_clamp (by omega), show nI s + Int32.ofInt 1 = nI (s + 1) from nI_1 s]
    refine AW.sub (L' := [(0, .ref 2), (1, .int (nI (s + 1)))]) rfl ?_
    have := ih (s + 1) (by omega)
    rw [show 9 + 6 * (s + 1) = 9 + 6 * s + 1 + 1 + 1 + 1 + 1 + 1 by omega, show 55 - 6 * (s + 1) = 54 - 6 * s - 5 by omega, show 4164 - 264 * (s + 1) = 4164 - 264 * s - 6 - 258 by omega] at this
    exact this
def enM (M : Mem) : Mem := (sA (jgM (mk (sA (fgM (mk (sA (fgM (mk (sA (fgM (mk (mcM (mk M 45 0)) 47 0) 47) 2 3 (some 47)) 52 0) 52) 2 4 (some 52)) 57 0) 57) 2 5 (some 57)) 62 0)) 2 6 (some 62))
theorem e_X9_init {M : Mem} {Q : Option Value → Nat → Mem → Prop} (e1 : rA M 2 1 = some 5) (h : Q none 64 (enM M)) : AW mX9_init 3 19 2580 45 62 [(0, .ref 2), (1, .int (nI 6))] [] M Q := by
  refine a_new knX9_30 rfl (show 18 + 1 ≤ 19 from by decide) (show 2576 + 4 ≤ 2580 from by decide) dX9_init_62 ?_
  refine a_dup dX9_init_65 rfl ?_
  refine a_callI (mc1 := 17) (ms1 := 2536) (As := []) kpX5_init kmX9_32 (by decide) rfl (Nat.le_of_ble_eq_true rfl) (Nat.le_of_ble_eq_true rfl) (by decide) (by decide) dX9_init_66 (w_X5_init ?_)
  refine a_astore_n dX9_init_69 (by decide) ?_
  refine a_aload_n dX9_init_70 rfl ?_
  refine a_new knX9_33 rfl (show 16 + 1 ≤ 17 from by decide) (show 2528 + 8 ≤ 2536 from by decide) dX9_init_71 ?_
  refine a_dup dX9_init_74 rfl ?_
  refine a_aload_n dX9_init_75 rfl ?_
  refine a_getA (z := 5) kfX9_19 rfl rfl (by first | exact e1 | exact e1a | exact e1b | exact e1c) (by decide) (by decide) dX9_init_76 ?_
  refine a_aload_n dX9_init_79 rfl ?_
  refine a_callI (mc1 := 12) (ms1 := 1694) (As := [_, _]) kpX1_init kmX9_35 (by decide) rfl (Nat.le_of_ble_eq_true rfl) (Nat.le_of_ble_eq_true rfl) (by decide) (by decide) dX9_init_80 (w_X1_init (q := 47) FgR47 ?_)
  refine a_putA kfX9_38 rfl rfl rfl rfl rfl (by decide) (by decide) dX9_init_83 ?_
  refine a_aload_n dX9_init_86 rfl ?_
  refine a_new knX9_33 rfl (show 11 + 1 ≤ 12 from by decide) (show 1686 + 8 ≤ 1694 from by decide) dX9_init_87 ?_
  refine a_dup dX9_init_90 rfl ?_
  refine a_aload_n dX9_init_91 rfl ?_
  refine a_getA (z := 5) kfX9_19 rfl rfl (by first | exact e1 | exact e1a | exact e1b | exact e1c) (by decide) (by decide) dX9_init_92 ?_
  refine a_aload_n dX9_init_95 rfl ?_
  refine a_callI (mc1 := 7) (ms1 := 852) (As := [_, _]) kpX1_init kmX9_35 (by decide) rfl (Nat.le_of_ble_eq_true rfl) (Nat.le_of_ble_eq_true rfl) (by decide) (by decide) dX9_init_96 (w_X1_init (q := 52) FgR52 ?_)
  refine a_putA kfX9_42 rfl rfl rfl rfl rfl (by decide) (by decide) dX9_init_99 ?_
  refine a_aload_n dX9_init_102 rfl ?_
  refine a_new knX9_33 rfl (show 6 + 1 ≤ 7 from by decide) (show 844 + 8 ≤ 852 from by decide) dX9_init_103 ?_
  refine a_dup dX9_init_106 rfl ?_
  refine a_aload_n dX9_init_107 rfl ?_
  refine a_getA (z := 5) kfX9_19 rfl rfl (by first | exact e1 | exact e1a | exact e1b | exact e1c) (by decide) (by decide) dX9_init_108 ?_
  refine a_aload_n dX9_init_111 rfl ?_
  refine a_callI (mc1 := 2) (ms1 := 10) (As := [_, _]) kpX1_init kmX9_35 (by decide) rfl (Nat.le_of_ble_eq_true rfl) (Nat.le_of_ble_eq_true rfl) (by decide) (by decide) dX9_init_112 (w_X1_init (q := 57) FgR57 ?_)
  refine a_putA kfX9_45 rfl rfl rfl rfl rfl (by decide) (by decide) dX9_init_115 ?_
  refine a_aload_n dX9_init_118 rfl ?_
  refine a_new knX9_48 rfl (show 1 + 1 ≤ 2 from by decide) (show 2 + 8 ≤ 10 from by decide) dX9_init_119 ?_
  refine a_dup dX9_init_122 rfl ?_
  refine a_aload_n dX9_init_123 rfl ?_
  refine a_getA (z := 5) kfX9_19 rfl rfl (by first | exact e1 | exact e1a | exact e1b | exact e1c) (by decide) (by decide) dX9_init_124 ?_
  refine a_aload_n dX9_init_127 rfl ?_
  refine a_aload_n dX9_init_128 rfl ?_
  refine a_getA (z := 47) kfX9_38 rfl rfl (by rfl) (by decide) (by decide) dX9_init_129 ?_
  refine a_aload_n dX9_init_132 rfl ?_
  refine a_getA (z := 52) kfX9_42 rfl rfl (by rfl) (by decide) (by decide) dX9_init_133 ?_
  refine a_aload_n dX9_init_136 rfl ?_
  refine a_getA (z := 57) kfX9_45 rfl rfl (by rfl) (by decide) (by decide) dX9_init_137 ?_
  refine a_callI (mc1 := 0) (ms1 := 0) (As := [_, _, _, _, _]) kpX3_init kmX9_50 (by decide) rfl (Nat.le_of_ble_eq_true rfl) (Nat.le_of_ble_eq_true rfl) (by decide) (by decide) dX9_init_140 (w_X3_init ?_)
  refine a_putA kfX9_53 rfl rfl rfl rfl rfl (by decide) (by decide) dX9_init_143 ?_
  refine a_vret dX9_init_146 rfl h
def stM (M : Mem) : Mem := (sA (mk (sA (lsM (mk (sA (tpM (mk M 3 0)) 2 0 (some 3)) 5 0)) 2 1 (some 5)) 8 6) 2 2 (some 8))
theorem w_X9_init {M : Mem} {Q : Option Value → Nat → Mem → Prop} (h : Q none 64 (enM (shS (stM M) 6))) : AW mX9_init 3 61 4685 3 0 [(0, .ref 2)] [] M Q := by
  refine a_aload_n dX9_init_0 rfl ?_
  refine a_objInit koX9_1 (Nat.le_of_ble_eq_true rfl) dX9_init_1 ?_
  refine a_aload_n dX9_init_4 rfl ?_
  refine a_new knX9_7 rfl (show 60 + 1 ≤ 61 from by decide) (show 4683 + 2 ≤ 4685 from by decide) dX9_init_5 ?_
  refine a_dup dX9_init_8 rfl ?_
  refine a_callI (mc1 := 59) (ms1 := 4623) (As := []) kpX8_init kmX9_9 (by decide) rfl (Nat.le_of_ble_eq_true rfl) (Nat.le_of_ble_eq_true rfl) (by decide) (by decide) dX9_init_9 (w_X8_init ?_)
  refine a_putA kfX9_10 rfl rfl rfl rfl rfl (by decide) (by decide) dX9_init_12 ?_
  refine a_aload_n dX9_init_15 rfl ?_
  refine a_new knX9_16 rfl (show 58 + 1 ≤ 59 from by decide) (show 4618 + 5 ≤ 4623 from by decide) dX9_init_16 ?_
  refine a_dup dX9_init_19 rfl ?_
  refine a_callI (mc1 := 56) (ms1 := 4170) (As := []) kpX4_init kmX9_18 (by decide) rfl (Nat.le_of_ble_eq_true rfl) (Nat.le_of_ble_eq_true rfl) (by decide) (by decide) dX9_init_20 (w_X4_init ?_)
  refine a_putA kfX9_19 rfl rfl rfl rfl rfl (by decide) (by decide) dX9_init_23 ?_
  refine a_aload_n dX9_init_26 rfl ?_
  refine a_bipush (v := 6) dX9_init_27 (by decide) ?_
  refine a_anew kclX9_23 rfl (by decide) (by decide) rfl (by decide) rfl (show 55 + 1 ≤ 56 from by decide) (show 4164 + 6 ≤ 4170 from by decide) dX9_init_29 ?_
  refine a_putA kfX9_25 rfl rfl rfl rfl rfl (by decide) (by decide) dX9_init_32 ?_
  refine a_iconst (v := 0) dX9_init_35 (by decide) ?_
  refine a_istore_n dX9_init_36 (by decide) ?_
  refine AW.sub (L' := [(0, .ref 2), (1, .int (nI 0))]) rfl ?_
  exact l_X9_init (M := stM M) rfl (e_X9_init ((shS_A (by decide) 6).trans rfl) h) 6 0 rfl
