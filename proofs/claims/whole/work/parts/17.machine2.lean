def mulS (s : MS) (a b : Int64) : MS := if ¬ a = 0 ∧ 1000000000000 / absJ a < absJ b then (s.1, s.2.1, 3) else pushS s (a * b)
def divS (s : MS) (a b : Int64) : MS := if b = 0 then (s.1, s.2.1, 2) else pushS s (fdvJ a b)
theorem absJ_nz {x : Int64} (h : ¬ x = 0) : ¬ absJ x = 0 := by
  unfold absJ
  split
  · exact h
  · intro z
    exact h (by
      have e : -(-x) = -(0 : Int64) := by rw [z]
      simpa using e)
theorem mulS_h {s : MS} {a b : Int64} (h : s.2.1 ≤ 40) : (mulS s a b).2.1 ≤ 40 := by
  unfold mulS
  split
  · exact h
  · exact pushS_h h
theorem divS_h {s : MS} {a b : Int64} (h : s.2.1 ≤ 40) : (divS s a b).2.1 ≤ 40 := by
  unfold divS
  split
  · exact h
  · exact pushS_h h
theorem ltl_no {x y : Int64} (h : lg_cmp x y ≤ 0) : ¬ y < x := by
  rw [lg_cmp_le, Int64.le_iff_toInt_le] at h
  rw [Int64.lt_iff_toInt_lt]
  omega
theorem ltl_ok {x y : Int64} (h : ¬ lg_cmp x y ≤ 0) : y < x := by
  rw [lg_cmp_le, Int64.le_iff_toInt_le] at h
  rw [Int64.lt_iff_toInt_lt]
  omega
theorem w_X5_multiply {M : Mem} {N : Nat} {Q : Option Value → Nat → Mem → Prop} {s : MS} (hh : s.2.1 ≤ 40) {a b : Int64}  (hN : 94 ≤ N) (hs : Str M.2.2.1) (h : Q (none) N (wm M (mulS s a b))) : AW mX5_multiply 1 0 0 N 0 [(0, .ref 45), (1, .long a), (3, .long b)] [] (wm M s) Q := by
  refine a_lload_n dX5_multiply_0 rfl ?_
  refine a_lconst (v := 0) dX5_multiply_1 (by decide) ?_
  refine a_lcmp dX5_multiply_2 ?_
  refine a_if_eq (tgt := 30) dX5_multiply_3 (by decide) (fun c_3 => ?_) (fun c_3 => ?_)
  · refine a_aload_n dX5_multiply_30 rfl ?_
    refine a_lload_n dX5_multiply_31 rfl ?_
    refine a_lload_n dX5_multiply_32 rfl ?_
    refine a_lmul dX5_multiply_33 ?_
    refine a_callV (mc1 := 0) (ms1 := 0) (As := [_]) kpX5_push kmX5_45 (by decide) rfl (Nat.le_of_ble_eq_true rfl) rfl (by decide) rfl (by decide) (hlt hN (by decide)) (Nat.le_of_ble_eq_true rfl) (Nat.le_of_ble_eq_true rfl) (Nat.le_of_ble_eq_true rfl) dX5_multiply_34 (w_X5_push hh hN hs ?_)
    refine a_vret dX5_multiply_37 rfl ?_
    unfold mulS at h
    rw [if_neg (by first | exact fun z => z.1 ((lg_cmp_eq _ _).mp c_3) | exact fun z => absurd z.2 (ltl_no c_19))] at h
    exact h
  · refine a_lload_n dX5_multiply_6 rfl ?_
    refine a_callS (mc1 := 0) (ms1 := 0) (As := [_]) kpJ9_abs_067f4 kmX5_99 (by decide) rfl (Nat.le_of_ble_eq_true rfl) (Nat.le_of_ble_eq_true rfl) (Nat.le_of_ble_eq_true rfl) (Nat.le_of_ble_eq_true rfl) dX5_multiply_7 (w_J9_abs_067f4 ?_)
    refine a_ldc2 kkX5_65 dX5_multiply_10 ?_
    refine a_lload_n dX5_multiply_13 rfl ?_
    refine a_callS (mc1 := 0) (ms1 := 0) (As := [_]) kpJ9_abs_067f4 kmX5_99 (by decide) rfl (Nat.le_of_ble_eq_true rfl) (Nat.le_of_ble_eq_true rfl) (Nat.le_of_ble_eq_true rfl) (Nat.le_of_ble_eq_true rfl) dX5_multiply_14 (w_J9_abs_067f4 ?_)
    refine a_ldiv dX5_multiply_17 (absJ_nz (fun z => c_3 ((lg_cmp_eq _ _).mpr z))) ?_
    refine a_lcmp dX5_multiply_18 ?_
    refine a_if_le (tgt := 30) dX5_multiply_19 (by decide) (fun c_19 => ?_) (fun c_19 => ?_)
    · refine a_aload_n dX5_multiply_30 rfl ?_
      refine a_lload_n dX5_multiply_31 rfl ?_
      refine a_lload_n dX5_multiply_32 rfl ?_
      refine a_lmul dX5_multiply_33 ?_
      refine a_callV (mc1 := 0) (ms1 := 0) (As := [_]) kpX5_push kmX5_45 (by decide) rfl (Nat.le_of_ble_eq_true rfl) rfl (by decide) rfl (by decide) (hlt hN (by decide)) (Nat.le_of_ble_eq_true rfl) (Nat.le_of_ble_eq_true rfl) (Nat.le_of_ble_eq_true rfl) dX5_multiply_34 (w_X5_push hh hN hs ?_)
      refine a_vret dX5_multiply_37 rfl ?_
      unfold mulS at h
      rw [if_neg (by first | exact fun z => z.1 ((lg_cmp_eq _ _).mp c_3) | exact fun z => absurd z.2 (ltl_no c_19))] at h
      exact h
    · refine a_aload_n dX5_multiply_22 rfl ?_
      refine a_iconst (v := 3) dX5_multiply_23 (by decide) ?_
      refine a_putI kfX5_15 rfl rfl rfl (by decide) (hlt hN (by decide)) dX5_multiply_24 ?_
      refine a_goto (tgt := 37) dX5_multiply_27 (by decide) ?_
      refine a_vret dX5_multiply_37 rfl (by rw [wm_e]; unfold mulS at h; rw [if_pos ⟨fun z => c_3 ((lg_cmp_eq _ _).mpr z), ltl_ok c_19⟩] at h; exact h)

theorem w_X5_divide_o {M : Mem} {N : Nat} {Q : Option Value → Nat → Mem → Prop} {s : MS} (hh : s.2.1 ≤ 40) {a b : Int64} (hb0 : ¬ b = 0)  (hN : 94 ≤ N) (hs : Str M.2.2.1) (h : Q (none) N (wm M (divS s a b))) : AW mX5_divide 1 0 0 N 0 [(0, .ref 45), (1, .long a), (3, .long b)] [] (wm M s) Q := by
  refine a_lload_n dX5_divide_0 rfl ?_
  refine a_lconst (v := 0) dX5_divide_1 (by decide) ?_
  refine a_lcmp dX5_divide_2 ?_
  refine a_if_ne (tgt := 14) dX5_divide_3 (by decide) (fun c_3 => ?_) (fun c_3 => absurd c_3 (fun z => hb0 ((lg_cmp_eq _ _).mp z)))
  refine a_aload_n dX5_divide_14 rfl ?_
  refine a_lload_n dX5_divide_15 rfl ?_
  refine a_lload_n dX5_divide_16 rfl ?_
  refine a_callS (mc1 := 0) (ms1 := 0) (As := [_, _]) kpJ9_floorDiv_f86c9 kmX5_103 (by decide) rfl (Nat.le_of_ble_eq_true rfl) (Nat.le_of_ble_eq_true rfl) (Nat.le_of_ble_eq_true rfl) (Nat.le_of_ble_eq_true rfl) dX5_divide_17 (w_J9_floorDiv_f86c9 hb0 ?_)
  refine a_callV (mc1 := 0) (ms1 := 0) (As := [_]) kpX5_push kmX5_45 (by decide) rfl (Nat.le_of_ble_eq_true rfl) rfl (by decide) rfl (by decide) (hlt hN (by decide)) (Nat.le_of_ble_eq_true rfl) (Nat.le_of_ble_eq_true rfl) (Nat.le_of_ble_eq_true rfl) dX5_divide_20 (w_X5_push (by first | exact hh | assumption) hN (by exact hs) ?_)
  refine a_vret dX5_divide_23 rfl (by unfold divS at h; rw [if_neg hb0] at h; exact h)

theorem w_X5_divide_z {M : Mem} {N : Nat} {Q : Option Value → Nat → Mem → Prop} {s : MS} (hh : s.2.1 ≤ 40) {a b : Int64} (hb0 : b = 0)  (hN : 94 ≤ N) (hs : Str M.2.2.1) (h : Q (none) N (wm M (divS s a b))) : AW mX5_divide 1 0 0 N 0 [(0, .ref 45), (1, .long a), (3, .long b)] [] (wm M s) Q := by
  refine a_lload_n dX5_divide_0 rfl ?_
  refine a_lconst (v := 0) dX5_divide_1 (by decide) ?_
  refine a_lcmp dX5_divide_2 ?_
  refine a_if_ne (tgt := 14) dX5_divide_3 (by decide) (fun c_3 => absurd ((lg_cmp_eq _ _).mpr hb0) c_3) (fun c_3 => ?_)
  refine a_aload_n dX5_divide_6 rfl ?_
  refine a_iconst (v := 2) dX5_divide_7 (by decide) ?_
  refine a_putI kfX5_15 rfl rfl rfl (by decide) (hlt hN (by decide)) dX5_divide_8 ?_
  refine a_goto (tgt := 23) dX5_divide_11 (by decide) ?_
  refine a_vret dX5_divide_23 rfl (by rw [wm_e]; unfold divS at h; rw [if_pos hb0] at h; exact h)

theorem w_X5_divide {M : Mem} {N : Nat} {Q : Option Value → Nat → Mem → Prop} {s : MS} (hh : s.2.1 ≤ 40) {a b : Int64} (hN : 94 ≤ N) (hs : Str M.2.2.1) (h : Q none N (wm M (divS s a b))) : AW mX5_divide 1 0 0 N 0 [(0, .ref 45), (1, .long a), (3, .long b)] [] (wm M s) Q := by
  by_cases hb0 : b = 0
  · exact w_X5_divide_z hh hb0 hN hs h
  · exact w_X5_divide_o hh hb0 hN hs h
/-- a sign, or 6: the greater of two -/
def joinS (s : MS) (k : Int32) : MS :=
  let b := popV s
  let s1 := popS s
  let a := popV s1
  let s2 := popS s1
  if k = 43 then pushS s2 (a + b) else if k = 45 then pushS s2 (a - b) else if k = 42 then mulS s2 a b else if k = 47 then divS s2 a b else pushS s2 (maxJ a b)
theorem joinS_h {s : MS} {k : Int32} (h : s.2.1 ≤ 40) : (joinS s k).2.1 ≤ 40 := by
  have h2 := popS_h (popS_h h)
  unfold joinS
  dsimp only
  split
  · exact pushS_h h2
  · split
    · exact pushS_h h2
    · split
      · exact mulS_h h2
      · split
        · exact divS_h h2
        · exact pushS_h h2
theorem w_X5_join {M : Mem} {N : Nat} {Q : Option Value → Nat → Mem → Prop} {s : MS} (hh : s.2.1 ≤ 40) {k : Int32} (hk : k = 43 ∨ k = 45 ∨ k = 42 ∨ k = 47 ∨ k = 6)  (hN : 94 ≤ N) (hs : Str M.2.2.1) (h : Q (none) N (wm M (joinS s k))) : AW mX5_join 2 0 0 N 0 [(0, .ref 45), (1, .int k)] [] (wm M s) Q := by
  refine a_aload_n dX5_join_0 rfl ?_
  refine a_callV (mc1 := 0) (ms1 := 0) (As := []) kpX5_pop kmX5_53 (by decide) rfl (Nat.le_of_ble_eq_true rfl) rfl (by decide) rfl (by decide) (hlt hN (by decide)) (Nat.le_of_ble_eq_true rfl) (Nat.le_of_ble_eq_true rfl) (Nat.le_of_ble_eq_true rfl) dX5_join_1 (w_X5_pop hh hN hs ?_)
  refine a_lstore_n dX5_join_4 (by decide) ?_
  refine a_aload_n dX5_join_5 rfl ?_
  refine a_callV (mc1 := 0) (ms1 := 0) (As := []) kpX5_pop kmX5_53 (by decide) rfl (Nat.le_of_ble_eq_true rfl) rfl (by decide) rfl (by decide) (hlt hN (by decide)) (Nat.le_of_ble_eq_true rfl) (Nat.le_of_ble_eq_true rfl) (Nat.le_of_ble_eq_true rfl) dX5_join_6 (w_X5_pop (popS_h hh) hN (by exact hs) ?_)
  refine a_lstore dX5_join_9 (by decide) ?_
  refine a_iload_n dX5_join_11 rfl ?_
  rcases hk with rfl | rfl | rfl | rfl | rfl
  · refine a_tableIn (off := 40) (tgt := 52) dX5_join_12 (by decide) (by decide) (by decide) (by decide) ?_
    refine a_aload_n dX5_join_52 rfl ?_
    refine a_lload dX5_join_53 rfl ?_
    refine a_lload_n dX5_join_55 rfl ?_
    refine a_ladd dX5_join_56 ?_
    refine a_callV (mc1 := 0) (ms1 := 0) (As := [_]) kpX5_push kmX5_45 (by decide) rfl (Nat.le_of_ble_eq_true rfl) rfl (by decide) rfl (by decide) (hlt hN (by decide)) (Nat.le_of_ble_eq_true rfl) (Nat.le_of_ble_eq_true rfl) (Nat.le_of_ble_eq_true rfl) dX5_join_57 (w_X5_push (popS_h (popS_h hh)) hN (by exact hs) ?_)
    refine a_goto (tgt := 104) dX5_join_60 (by decide) ?_
    refine a_vret dX5_join_104 rfl h
  · refine a_tableIn (off := 51) (tgt := 63) dX5_join_12 (by decide) (by decide) (by decide) (by decide) ?_
    refine a_aload_n dX5_join_63 rfl ?_
    refine a_lload dX5_join_64 rfl ?_
    refine a_lload_n dX5_join_66 rfl ?_
    refine a_lsub dX5_join_67 ?_
    refine a_callV (mc1 := 0) (ms1 := 0) (As := [_]) kpX5_push kmX5_45 (by decide) rfl (Nat.le_of_ble_eq_true rfl) rfl (by decide) rfl (by decide) (hlt hN (by decide)) (Nat.le_of_ble_eq_true rfl) (Nat.le_of_ble_eq_true rfl) (Nat.le_of_ble_eq_true rfl) dX5_join_68 (w_X5_push (popS_h (popS_h hh)) hN (by exact hs) ?_)
    refine a_goto (tgt := 104) dX5_join_71 (by decide) ?_
    refine a_vret dX5_join_104 rfl h
  · refine a_tableIn (off := 62) (tgt := 74) dX5_join_12 (by decide) (by decide) (by decide) (by decide) ?_
    refine a_aload_n dX5_join_74 rfl ?_
    refine a_lload dX5_join_75 rfl ?_
    refine a_lload_n dX5_join_77 rfl ?_
    refine a_callV (mc1 := 0) (ms1 := 0) (As := [_, _]) kpX5_multiply kmX5_86 (by decide) rfl (Nat.le_of_ble_eq_true rfl) rfl (by decide) rfl (by decide) (hlt hN (by decide)) (Nat.le_of_ble_eq_true rfl) (Nat.le_of_ble_eq_true rfl) (Nat.le_of_ble_eq_true rfl) dX5_join_78 (w_X5_multiply (popS_h (popS_h hh)) hN (by exact hs) ?_)
    refine a_goto (tgt := 104) dX5_join_81 (by decide) ?_
    refine a_vret dX5_join_104 rfl h
  · refine a_tableIn (off := 72) (tgt := 84) dX5_join_12 (by decide) (by decide) (by decide) (by decide) ?_
    refine a_aload_n dX5_join_84 rfl ?_
    refine a_lload dX5_join_85 rfl ?_
    refine a_lload_n dX5_join_87 rfl ?_
    refine a_callV (mc1 := 0) (ms1 := 0) (As := [_, _]) kpX5_divide kmX5_90 (by decide) rfl (Nat.le_of_ble_eq_true rfl) rfl (by decide) rfl (by decide) (hlt hN (by decide)) (Nat.le_of_ble_eq_true rfl) (Nat.le_of_ble_eq_true rfl) (Nat.le_of_ble_eq_true rfl) dX5_join_88 (w_X5_divide (popS_h (popS_h hh)) hN (by exact hs) ?_)
    refine a_goto (tgt := 104) dX5_join_91 (by decide) ?_
    refine a_vret dX5_join_104 rfl h
  · refine a_tableOut (tgt := 94) dX5_join_12 (by decide) (by decide) ?_
    refine a_aload_n dX5_join_94 rfl ?_
    refine a_lload dX5_join_95 rfl ?_
    refine a_lload_n dX5_join_97 rfl ?_
    refine a_callS (mc1 := 0) (ms1 := 0) (As := [_, _]) kpJ9_max_f86c9 kmX5_93 (by decide) rfl (Nat.le_of_ble_eq_true rfl) (Nat.le_of_ble_eq_true rfl) (Nat.le_of_ble_eq_true rfl) (Nat.le_of_ble_eq_true rfl) dX5_join_98 (w_J9_max_f86c9 ?_)
    refine a_callV (mc1 := 0) (ms1 := 0) (As := [_]) kpX5_push kmX5_45 (by decide) rfl (Nat.le_of_ble_eq_true rfl) rfl (by decide) rfl (by decide) (hlt hN (by decide)) (Nat.le_of_ble_eq_true rfl) (Nat.le_of_ble_eq_true rfl) (Nat.le_of_ble_eq_true rfl) dX5_join_101 (w_X5_push (popS_h (popS_h hh)) hN (by exact hs) ?_)
    refine a_vret dX5_join_104 rfl h

/-- the columns l to r of one row -/
def colL (l r : Nat) : Int64 := (1 : Int64) <<< ((nI r + 1).toInt64 &&& 63) - (1 : Int64) <<< ((nI l).toInt64 &&& 63)
def rcF (c : Int64) (t : Nat) : Nat → Int64
  | 0 => 0
  | n + 1 => rcF c t n ||| c <<< ((8 * nI (t + n)).toInt64 &&& 63)
def rcL (i j : Nat) : Int64 := rcF (colL (min (i % 8) (j % 8)) (max (i % 8) (j % 8))) (min (i / 8) (j / 8)) (max (i / 8) (j / 8) + 1 - min (i / 8) (j / 8))
theorem rem8 {i : Nat} (hi : i < 64) : nI i - nI i / 8 * 8 = nI (i % 8) := pk_rem (a := i) (d := 8) (by omega) (by decide) (by decide)
theorem div8 {i : Nat} (hi : i < 64) : nI i / 8 = nI (i / 8) := pk_div (a := i) (d := 8) (by omega) (by decide) (by decide)
theorem minN {a b : Nat} (ha : a < 64) (hb : b < 64) : minI (nI a) (nI b) = nI (min a b) := by
  unfold minI
  by_cases h : nI b < nI a
  · rw [if_pos h]; rw [nI_ltI (by omega) (by omega)] at h; rw [Nat.min_eq_right (by omega)]
  · rw [if_neg h]; rw [nI_ltI (by omega) (by omega)] at h; rw [Nat.min_eq_left (by omega)]
theorem maxN {a b : Nat} (ha : a < 64) (hb : b < 64) : maxI (nI a) (nI b) = nI (max a b) := by
  unfold maxI
  by_cases h : nI a < nI b
  · rw [if_pos h]; rw [nI_ltI (by omega) (by omega)] at h; rw [Nat.max_eq_right (by omega)]
  · rw [if_neg h]; rw [nI_ltI (by omega) (by omega)] at h; rw [Nat.max_eq_left (by omega)]
theorem l_X9_rectangle {M : Mem} {N : Nat} {Q : Option Value → Nat → Mem → Prop} {i j t n : Nat} {a2 a3 a4 : Int32} {c : Int64} (hn : 0 < n) (htn : t + n ≤ 8) (h : Q (some (.long (rcF c t n))) N M) : ∀ (r k : Nat), k + r = n → AW mX9_rectangle 1 0 0 N 68 [(0, .int (nI i)), (1, .int (nI j)), (2, .int a2), (3, .int a3), (4, .int a4), (5, .int (nI (t + n - 1))), (6, .long c), (8, .long (rcF c t k)), (10, .int (nI (t + k)))] [] M Q := by
  intro r
  induction r with
  | zero =>
    intro k hk
    refine a_iload dX9_rectangle_68 rfl ?_
    refine a_iload dX9_rectangle_70 rfl ?_
    refine a_icmp_gt (tgt := 94) dX9_rectangle_72 (by decide) (fun c_72 => ?_) (fun c_72 => absurd (nI_lt (by omega) (by omega)) c_72)
    refine a_lload dX9_rectangle_94 rfl ?_
    refine a_lret dX9_rectangle_96 rfl (by rw [show k = n by omega]; exact h)
  | succ r ih =>
    intro k hk
    refine a_iload dX9_rectangle_68 rfl ?_
    refine a_iload dX9_rectangle_70 rfl ?_
    refine a_icmp_gt (tgt := 94) dX9_rectangle_72 (by decide) (fun c_72 => absurd c_72 (nI_nlt (by omega) (by omega))) (fun c_72 => ?_)
    refine a_lload dX9_rectangle_75 rfl ?_
    refine a_lload dX9_rectangle_77 rfl ?_
    refine a_bipush (v := 8) dX9_rectangle_79 (by decide) ?_
    refine a_iload dX9_rectangle_81 rfl ?_
    refine a_imul dX9_rectangle_83 ?_
    refine a_lshl dX9_rectangle_84 rfl ?_
    refine a_lor dX9_rectangle_85 ?_
    refine a_lstore dX9_rectangle_86 (by decide) ?_
    refine a_iinc dX9_rectangle_88 rfl rfl (by decide) ?_
    refine a_goto (tgt := 68) dX9_rectangle_91 (by decide) ?_
    rw [show nI (t + k) + Int32.ofInt 1 = nI (t + (k + 1)) from nI_1 (t + k)]
    refine AW.sub (L' := [(0, .int (nI i)), (1, .int (nI j)), (2, .int a2), (3, .int a3), (4, .int a4), (5, .int (nI (t + n - 1))), (6, .long c), (8, .long (rcF c t (k + 1))), (10, .int (nI (t + (k + 1))))]) rfl ?_
    exact ih (k + 1) (by omega)
theorem w_X9_rectangle {M : Mem} {N : Nat} {Q : Option Value → Nat → Mem → Prop} {i j : Nat} (hi : i < 64) (hj : j < 64)  (h : Q (some (.long (rcL i j))) N (M)) : AW mX9_rectangle 1 0 0 N 0 [(0, .int (nI i)), (1, .int (nI j))] [] M Q := by
  refine a_iload_n dX9_rectangle_0 rfl ?_
  refine a_bipush (v := 8) dX9_rectangle_1 (by decide) ?_
  refine a_irem dX9_rectangle_3 (by decide) ?_
  refine a_iload_n dX9_rectangle_4 rfl ?_
  refine a_bipush (v := 8) dX9_rectangle_5 (by decide) ?_
  refine a_irem dX9_rectangle_7 (by decide) ?_
  refine a_callS (mc1 := 0) (ms1 := 0) (As := [_, _]) kpJ9_min_7cf53 kmX9_229 (by decide) rfl (Nat.le_of_ble_eq_true rfl) (Nat.le_of_ble_eq_true rfl) (Nat.le_of_ble_eq_true rfl) (Nat.le_of_ble_eq_true rfl) dX9_rectangle_8 (w_J9_min_7cf53 ?_)
  refine a_istore_n dX9_rectangle_11 (by decide) ?_
  refine a_iload_n dX9_rectangle_12 rfl ?_
  refine a_bipush (v := 8) dX9_rectangle_13 (by decide) ?_
  refine a_irem dX9_rectangle_15 (by decide) ?_
  refine a_iload_n dX9_rectangle_16 rfl ?_
  refine a_bipush (v := 8) dX9_rectangle_17 (by decide) ?_
  refine a_irem dX9_rectangle_19 (by decide) ?_
  refine a_callS (mc1 := 0) (ms1 := 0) (As := [_, _]) kpJ9_max_7cf53 kmX9_234 (by decide) rfl (Nat.le_of_ble_eq_true rfl) (Nat.le_of_ble_eq_true rfl) (Nat.le_of_ble_eq_true rfl) (Nat.le_of_ble_eq_true rfl) dX9_rectangle_20 (w_J9_max_7cf53 ?_)
  refine a_istore_n dX9_rectangle_23 (by decide) ?_
  refine a_iload_n dX9_rectangle_24 rfl ?_
  refine a_bipush (v := 8) dX9_rectangle_25 (by decide) ?_
  refine a_idiv dX9_rectangle_27 (by decide) ?_
  refine a_iload_n dX9_rectangle_28 rfl ?_
  refine a_bipush (v := 8) dX9_rectangle_29 (by decide) ?_
  refine a_idiv dX9_rectangle_31 (by decide) ?_
  refine a_callS (mc1 := 0) (ms1 := 0) (As := [_, _]) kpJ9_min_7cf53 kmX9_229 (by decide) rfl (Nat.le_of_ble_eq_true rfl) (Nat.le_of_ble_eq_true rfl) (Nat.le_of_ble_eq_true rfl) (Nat.le_of_ble_eq_true rfl) dX9_rectangle_32 (w_J9_min_7cf53 ?_)
  refine a_istore dX9_rectangle_35 (by decide) ?_
  refine a_iload_n dX9_rectangle_37 rfl ?_
  refine a_bipush (v := 8) dX9_rectangle_38 (by decide) ?_
  refine a_idiv dX9_rectangle_40 (by decide) ?_
  refine a_iload_n dX9_rectangle_41 rfl ?_
  refine a_bipush (v := 8) dX9_rectangle_42 (by decide) ?_
  refine a_idiv dX9_rectangle_44 (by decide) ?_
  refine a_callS (mc1 := 0) (ms1 := 0) (As := [_, _]) kpJ9_max_7cf53 kmX9_234 (by decide) rfl (Nat.le_of_ble_eq_true rfl) (Nat.le_of_ble_eq_true rfl) (Nat.le_of_ble_eq_true rfl) (Nat.le_of_ble_eq_true rfl) dX9_rectangle_45 (w_J9_max_7cf53 ?_)
  refine a_istore dX9_rectangle_48 (by decide) ?_
  refine a_lconst (v := 1) dX9_rectangle_50 (by decide) ?_
  refine a_iload_n dX9_rectangle_51 rfl ?_
  refine a_iconst (v := 1) dX9_rectangle_52 (by decide) ?_
  refine a_iadd dX9_rectangle_53 ?_
  refine a_lshl dX9_rectangle_54 rfl ?_
  refine a_lconst (v := 1) dX9_rectangle_55 (by decide) ?_
  refine a_iload_n dX9_rectangle_56 rfl ?_
  refine a_lshl dX9_rectangle_57 rfl ?_
  refine a_lsub dX9_rectangle_58 ?_
  refine a_lstore dX9_rectangle_59 (by decide) ?_
  refine a_lconst (v := 0) dX9_rectangle_61 (by decide) ?_
  refine a_lstore dX9_rectangle_62 (by decide) ?_
  refine a_iload dX9_rectangle_64 rfl ?_
  refine a_istore dX9_rectangle_66 (by decide) ?_
  rw [rem8 hi, rem8 hj, div8 hi, div8 hj]
  rw [minN (a := i % 8) (b := j % 8) (by omega) (by omega), maxN (a := i % 8) (b := j % 8) (by omega) (by omega), minN (a := i / 8) (b := j / 8) (by omega) (by omega), maxN (a := i / 8) (b := j / 8) (by omega) (by omega)]
  have e5 : nI (max (i / 8) (j / 8)) = nI (min (i / 8) (j / 8) + (max (i / 8) (j / 8) + 1 - min (i / 8) (j / 8)) - 1) := by congr 1; omega
  rw [e5]
  refine AW.sub (L' := [(0, .int (nI i)), (1, .int (nI j)), (2, .int (nI (min (i % 8) (j % 8)))), (3, .int (nI (max (i % 8) (j % 8)))), (4, .int (nI (min (i / 8) (j / 8)))), (5, .int (nI (min (i / 8) (j / 8) + (max (i / 8) (j / 8) + 1 - min (i / 8) (j / 8)) - 1))), (6, .long (colL (min (i % 8) (j % 8)) (max (i % 8) (j % 8)))), (8, .long (rcF (colL (min (i % 8) (j % 8)) (max (i % 8) (j % 8))) (min (i / 8) (j / 8)) 0)), (10, .int (nI (min (i / 8) (j / 8) + 0)))]) rfl ?_
  exact l_X9_rectangle (by omega) (by omega) h (max (i / 8) (j / 8) + 1 - min (i / 8) (j / 8)) 0 (by omega)

