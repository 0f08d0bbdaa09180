theorem ix_c {v j : Nat} (hv : v < 6) (hj : j < 64) : (nI v * 64 + nI j).toNatClampNeg = v * 64 + j := by rw [ix64 hv hj]; exact nI_clamp (by omega)
theorem ix_p {v j : Nat} (hv : v < 6) (hj : j < 64) : ¬ nI v * 64 + nI j < 0 := by rw [ix64 hv hj]; exact nI_pos (by omega)
theorem ix_l {v j : Nat} (hv : v < 6) (hj : j < 64) : ¬ Int32.ofNat 384 ≤ nI v * 64 + nI j := by rw [ix64 hv hj]; exact nI_ge (b := 384) (by omega) (by decide)
theorem fg_lv3 {M : Mem} {q : Nat} (h : FgR q) : Int32.ofNat (ln M (q + 2)) = Int32.ofNat 384 := by rw [fg_ln3 h]
theorem fg_lv4 {M : Mem} {q : Nat} (h : FgR q) : Int32.ofNat (ln M (q + 3)) = Int32.ofNat 384 := by rw [fg_ln4 h]
theorem fg_lv5 {M : Mem} {q : Nat} (h : FgR q) : Int32.ofNat (ln M (q + 4)) = Int32.ofNat 64 := by rw [fg_ln5 h]
theorem fg_in3 {M : Mem} {q v j : Nat} (h : FgR q) (hv : v < 6) (hj : j < 64) : vp_in (nI v * 64 + nI j) (ln M (q + 2)) := by rw [fg_ln3 h]; exact ix64_in hv hj
theorem fg_in4 {M : Mem} {q v j : Nat} (h : FgR q) (hv : v < 6) (hj : j < 64) : vp_in (nI v * 64 + nI j) (ln M (q + 3)) := by rw [fg_ln4 h]; exact ix64_in hv hj
theorem w_X1_figureAt {M : Mem} {N : Nat} {Q : Option Value → Nat → Mem → Prop} {g v j : Nat} (hg : FgR g) (hv : v < 6) (hj : j < 64)  (hN : 94 ≤ N) (hs : Str M.2.2.1) (h : Q (some (.long (rJ M (g + 2) (v * 64 + j)))) N (M)) : AW mX1_figureAt 0 0 0 N 0 [(0, .ref g), (1, .int (nI v)), (2, .int (nI j))] [] M Q := by
  refine a_iload_n dX1_figureAt_0 rfl ?_
  refine a_bipush (v := 64) dX1_figureAt_1 (by decide) ?_
  refine a_imul dX1_figureAt_3 ?_
  refine a_iload_n dX1_figureAt_4 rfl ?_
  refine a_iadd dX1_figureAt_5 ?_
  refine a_istore_n dX1_figureAt_6 (by decide) ?_
  refine a_iload_n dX1_figureAt_7 rfl ?_
  refine a_if_lt (tgt := 29) dX1_figureAt_8 (by decide) (fun c_8 => absurd c_8 (ix_p hv hj)) (fun c_8 => ?_)
  refine a_iload_n dX1_figureAt_11 rfl ?_
  refine a_aload_n dX1_figureAt_12 rfl ?_
  refine a_getA (z := (g + 2)) kfX1_26 (fg_k hg) rfl (fg_3 hs hg) (fg_two hg) (fg_lt hg hN) dX1_figureAt_13 ?_
  refine a_alen (fg_k3 hg) (by decide) (fg_two3 hg) (fg_lt3 hg hN) (fg_lv3 hg) dX1_figureAt_16 ?_
  refine a_icmp_ge (tgt := 29) dX1_figureAt_17 (by decide) (fun c_17 => absurd c_17 (ix_l hv hj)) (fun c_17 => ?_)
  refine a_aload_n dX1_figureAt_20 rfl ?_
  refine a_getA (z := (g + 2)) kfX1_26 (fg_k hg) rfl (fg_3 hs hg) (fg_two hg) (fg_lt hg hN) dX1_figureAt_21 ?_
  refine a_iload_n dX1_figureAt_24 rfl ?_
  refine a_lald (fg_k3 hg) (fg_two3 hg) (fg_lt3 hg hN) (fg_in3 hg hv hj) dX1_figureAt_25 ?_
  refine a_goto (tgt := 30) dX1_figureAt_26 (by decide) ?_
  refine a_lret dX1_figureAt_30 rfl (by rw [ix_c hv hj]; exact h)

theorem w_X1_errorAt {M : Mem} {N : Nat} {Q : Option Value → Nat → Mem → Prop} {g v j : Nat} (hg : FgR g) (hv : v < 6) (hj : j < 64)  (hN : 94 ≤ N) (hs : Str M.2.2.1) (h : Q (some (.int (rI M (g + 3) (v * 64 + j)))) N (M)) : AW mX1_errorAt 0 0 0 N 0 [(0, .ref g), (1, .int (nI v)), (2, .int (nI j))] [] M Q := by
  refine a_iload_n dX1_errorAt_0 rfl ?_
  refine a_bipush (v := 64) dX1_errorAt_1 (by decide) ?_
  refine a_imul dX1_errorAt_3 ?_
  refine a_iload_n dX1_errorAt_4 rfl ?_
  refine a_iadd dX1_errorAt_5 ?_
  refine a_istore_n dX1_errorAt_6 (by decide) ?_
  refine a_iload_n dX1_errorAt_7 rfl ?_
  refine a_if_lt (tgt := 29) dX1_errorAt_8 (by decide) (fun c_8 => absurd c_8 (ix_p hv hj)) (fun c_8 => ?_)
  refine a_iload_n dX1_errorAt_11 rfl ?_
  refine a_aload_n dX1_errorAt_12 rfl ?_
  refine a_getA (z := (g + 3)) kfX1_30 (fg_k hg) rfl (fg_4 hs hg) (fg_two hg) (fg_lt hg hN) dX1_errorAt_13 ?_
  refine a_alen (fg_k4 hg) (by decide) (fg_two4 hg) (fg_lt4 hg hN) (fg_lv4 hg) dX1_errorAt_16 ?_
  refine a_icmp_ge (tgt := 29) dX1_errorAt_17 (by decide) (fun c_17 => absurd c_17 (ix_l hv hj)) (fun c_17 => ?_)
  refine a_aload_n dX1_errorAt_20 rfl ?_
  refine a_getA (z := (g + 3)) kfX1_30 (fg_k hg) rfl (fg_4 hs hg) (fg_two hg) (fg_lt hg hN) dX1_errorAt_21 ?_
  refine a_iload_n dX1_errorAt_24 rfl ?_
  refine a_iald (fg_k4 hg) (fg_two4 hg) (fg_lt4 hg hN) (fg_in4 hg hv hj) dX1_errorAt_25 ?_
  refine a_goto (tgt := 30) dX1_errorAt_26 (by decide) ?_
  refine a_iret dX1_errorAt_30 rfl (by rw [ix_c hv hj]; exact h)

theorem w_X1_put {M : Mem} {N : Nat} {Q : Option Value → Nat → Mem → Prop} {g v j : Nat} (hg : FgR g) (hv : v < 6) (hj : j < 64) {x : Int64} {e : Int32}  (hN : 94 ≤ N) (hs : Str M.2.2.1) (h : Q (none) N (sI (sJ M (g + 2) (v * 64 + j) x) (g + 3) (v * 64 + j) e)) : AW mX1_put 0 0 0 N 0 [(0, .ref g), (1, .int (nI v)), (2, .int (nI j)), (3, .long x), (5, .int e)] [] M Q := by
  refine a_iload_n dX1_put_0 rfl ?_
  refine a_bipush (v := 64) dX1_put_1 (by decide) ?_
  refine a_imul dX1_put_3 ?_
  refine a_iload_n dX1_put_4 rfl ?_
  refine a_iadd dX1_put_5 ?_
  refine a_istore dX1_put_6 (by decide) ?_
  refine a_iload dX1_put_8 rfl ?_
  refine a_if_lt (tgt := 50) dX1_put_10 (by decide) (fun c_10 => absurd c_10 (ix_p hv hj)) (fun c_10 => ?_)
  refine a_iload dX1_put_13 rfl ?_
  refine a_aload_n dX1_put_15 rfl ?_
  refine a_getA (z := (g + 2)) kfX1_26 (fg_k hg) rfl (fg_3 hs hg) (fg_two hg) (fg_lt hg hN) dX1_put_16 ?_
  refine a_alen (fg_k3 hg) (by decide) (fg_two3 hg) (fg_lt3 hg hN) (fg_lv3 hg) dX1_put_19 ?_
  refine a_icmp_ge (tgt := 50) dX1_put_20 (by decide) (fun c_20 => absurd c_20 (ix_l hv hj)) (fun c_20 => ?_)
  refine a_iload dX1_put_23 rfl ?_
  refine a_aload_n dX1_put_25 rfl ?_
  refine a_getA (z := (g + 3)) kfX1_30 (fg_k hg) rfl (fg_4 hs hg) (fg_two hg) (fg_lt hg hN) dX1_put_26 ?_
  refine a_alen (fg_k4 hg) (by decide) (fg_two4 hg) (fg_lt4 hg hN) (fg_lv4 hg) dX1_put_29 ?_
  refine a_icmp_ge (tgt := 50) dX1_put_30 (by decide) (fun c_30 => absurd c_30 (ix_l hv hj)) (fun c_30 => ?_)
  refine a_aload_n dX1_put_33 rfl ?_
  refine a_getA (z := (g + 2)) kfX1_26 (fg_k hg) rfl (fg_3 hs hg) (fg_two hg) (fg_lt hg hN) dX1_put_34 ?_
  refine a_iload dX1_put_37 rfl ?_
  refine a_lload_n dX1_put_39 rfl ?_
  refine a_last (fg_k3 hg) (fg_two3 hg) (fg_lt3 hg hN) (fg_in3 hg hv hj) dX1_put_40 ?_
  refine a_aload_n dX1_put_41 rfl ?_
  refine a_getA (z := (g + 3)) kfX1_30 (fg_k hg) rfl (fg_4 hs hg) (fg_two hg) (fg_lt hg hN) dX1_put_42 ?_
  refine a_iload dX1_put_45 rfl ?_
  refine a_iload dX1_put_47 rfl ?_
  refine a_iast (fg_k4 hg) (fg_two4 hg) (fg_lt4 hg hN) (fg_in4 hg hv hj) dX1_put_49 ?_
  refine a_vret dX1_put_50 rfl (by rw [ix_c hv hj]; exact h)

theorem w_X1_isAlike {M : Mem} {N : Nat} {Q : Option Value → Nat → Mem → Prop} {g v j : Nat} (hg : FgR g) (hv : v < 6) (hj : j < 64) {g2 : Nat} (hg2 : FgR g2)  (hN : 94 ≤ N) (hs : Str M.2.2.1) (h : Q (some (.int (bI (rI M (g + 3) (v * 64 + j) = rI M (g2 + 3) (v * 64 + j) ∧ rJ M (g + 2) (v * 64 + j) = rJ M (g2 + 2) (v * 64 + j))))) N (M)) : AW mX1_isAlike 1 0 0 N 0 [(0, .ref g), (1, .ref g2), (2, .int (nI v)), (3, .int (nI j))] [] M Q := by
  refine a_aload_n dX1_isAlike_0 rfl ?_
  refine a_iload_n dX1_isAlike_1 rfl ?_
  refine a_iload_n dX1_isAlike_2 rfl ?_
  refine a_callV (mc1 := 0) (ms1 := 0) (As := [_, _]) kpX1_errorAt kmX1_37 (by decide) rfl (Nat.le_of_ble_eq_true rfl) (fg_k hg) (by decide) rfl (fg_two hg) (fg_lt hg hN) (Nat.le_of_ble_eq_true rfl) (Nat.le_of_ble_eq_true rfl) (Nat.le_of_ble_eq_true rfl) dX1_isAlike_3 (w_X1_errorAt hg hv hj hN hs ?_)
  refine a_aload_n dX1_isAlike_6 rfl ?_
  refine a_iload_n dX1_isAlike_7 rfl ?_
  refine a_iload_n dX1_isAlike_8 rfl ?_
  refine a_callV (mc1 := 0) (ms1 := 0) (As := [_, _]) kpX1_errorAt kmX1_37 (by decide) rfl (Nat.le_of_ble_eq_true rfl) (fg_k hg2) (by decide) rfl (fg_two hg2) (fg_lt hg2 hN) (Nat.le_of_ble_eq_true rfl) (Nat.le_of_ble_eq_true rfl) (Nat.le_of_ble_eq_true rfl) dX1_isAlike_9 (w_X1_errorAt hg2 hv hj hN hs ?_)
  refine a_icmp_ne (tgt := 35) dX1_isAlike_12 (by decide) (fun c_12 => ?_) (fun c_12 => ?_)
  · refine a_iconst (v := 0) dX1_isAlike_35 (by decide) ?_
    refine a_zret dX1_isAlike_36 rfl (by decide) (ret_f (fun z => by first | exact c_12 z.1 | exact c_28 ((lg_cmp_eq _ _).mpr z.2)) h)
  · refine a_aload_n dX1_isAlike_15 rfl ?_
    refine a_iload_n dX1_isAlike_16 rfl ?_
    refine a_iload_n dX1_isAlike_17 rfl ?_
    refine a_callV (mc1 := 0) (ms1 := 0) (As := [_, _]) kpX1_figureAt kmX1_41 (by decide) rfl (Nat.le_of_ble_eq_true rfl) (fg_k hg) (by decide) rfl (fg_two hg) (fg_lt hg hN) (Nat.le_of_ble_eq_true rfl) (Nat.le_of_ble_eq_true rfl) (Nat.le_of_ble_eq_true rfl) dX1_isAlike_18 (w_X1_figureAt hg hv hj hN hs ?_)
    refine a_aload_n dX1_isAlike_21 rfl ?_
    refine a_iload_n dX1_isAlike_22 rfl ?_
    refine a_iload_n dX1_isAlike_23 rfl ?_
    refine a_callV (mc1 := 0) (ms1 := 0) (As := [_, _]) kpX1_figureAt kmX1_41 (by decide) rfl (Nat.le_of_ble_eq_true rfl) (fg_k hg2) (by decide) rfl (fg_two hg2) (fg_lt hg2 hN) (Nat.le_of_ble_eq_true rfl) (Nat.le_of_ble_eq_true rfl) (Nat.le_of_ble_eq_true rfl) dX1_isAlike_24 (w_X1_figureAt hg2 hv hj hN hs ?_)
    refine a_lcmp dX1_isAlike_27 ?_
    refine a_if_ne (tgt := 35) dX1_isAlike_28 (by decide) (fun c_28 => ?_) (fun c_28 => ?_)
    · refine a_iconst (v := 0) dX1_isAlike_35 (by decide) ?_
      refine a_zret dX1_isAlike_36 rfl (by decide) (ret_f (fun z => by first | exact c_12 z.1 | exact c_28 ((lg_cmp_eq _ _).mpr z.2)) h)
    · refine a_iconst (v := 1) dX1_isAlike_31 (by decide) ?_
      refine a_goto (tgt := 36) dX1_isAlike_32 (by decide) ?_
      refine a_zret dX1_isAlike_36 rfl (by decide) (ret_t ⟨c_12, (lg_cmp_eq _ _).mp c_28⟩ h)

theorem w_X1_settles {M : Mem} {N : Nat} {Q : Option Value → Nat → Mem → Prop} {g : Nat} (hg : FgR g) {x : Int64}  (hN : 94 ≤ N) (hs : Str M.2.2.1) (h : Q (some (.int (bI (x &&& (rJ M g 7 ^^^ (-1)) = 0)))) N (M)) : AW mX1_settles 0 0 0 N 0 [(0, .ref g), (1, .long x)] [] M Q := by
  refine a_lload_n dX1_settles_0 rfl ?_
  refine a_aload_n dX1_settles_1 rfl ?_
  refine a_getJ kfX1_45 (fg_k hg) rfl (fg_two hg) (fg_lt hg hN) dX1_settles_2 ?_
  refine a_ldc2 kkX1_49 dX1_settles_5 ?_
  refine a_lxor dX1_settles_8 ?_
  refine a_land dX1_settles_9 ?_
  refine a_lconst (v := 0) dX1_settles_10 (by decide) ?_
  refine a_lcmp dX1_settles_11 ?_
  refine a_if_ne (tgt := 19) dX1_settles_12 (by decide) (fun c_12 => ?_) (fun c_12 => ?_)
  · refine a_iconst (v := 0) dX1_settles_19 (by decide) ?_
    refine a_zret dX1_settles_20 rfl (by decide) (ret_f (fun z => c_12 ((lg_cmp_eq _ _).mpr z)) h)
  · refine a_iconst (v := 1) dX1_settles_15 (by decide) ?_
    refine a_goto (tgt := 20) dX1_settles_16 (by decide) ?_
    refine a_zret dX1_settles_20 rfl (by decide) (ret_t ((lg_cmp_eq _ _).mp c_12) h)

theorem w_X1_append {M : Mem} {N : Nat} {Q : Option Value → Nat → Mem → Prop} {g k : Nat} (hg : FgR g) (hk : rI M g 6 = nI k) (hk6 : k < 64) {c : Int32}  (hN : 94 ≤ N) (hs : Str M.2.2.1) (h : Q (none) N (sI (sI M (g + 4) k c) g 6 (nI (k + 1)))) : AW mX1_append 0 0 0 N 0 [(0, .ref g), (1, .int c)] [] M Q := by
  refine a_aload_n dX1_append_0 rfl ?_
  refine a_getI kfX1_88 (fg_k hg) rfl (fg_two hg) (fg_lt hg hN) dX1_append_1 ?_
  refine a_if_lt (tgt := 39) dX1_append_4 (by decide) (fun c_4 => absurd c_4 (by rw [hk]; exact nI_pos (by omega))) (fun c_4 => ?_)
  refine a_aload_n dX1_append_7 rfl ?_
  refine a_getI kfX1_88 (fg_k hg) rfl (fg_two hg) (fg_lt hg hN) dX1_append_8 ?_
  refine a_aload_n dX1_append_11 rfl ?_
  refine a_getA (z := (g + 4)) kfX1_34 (fg_k hg) rfl (fg_5 hs hg) (fg_two hg) (fg_lt hg hN) dX1_append_12 ?_
  refine a_alen (fg_k5 hg) (by decide) (fg_two5 hg) (fg_lt5 hg hN) (fg_lv5 hg) dX1_append_15 ?_
  refine a_icmp_ge (tgt := 39) dX1_append_16 (by decide) (fun c_16 => absurd c_16 (by rw [hk]; exact nI_ge (b := 64) hk6 (by decide))) (fun c_16 => ?_)
  refine a_aload_n dX1_append_19 rfl ?_
  refine a_getA (z := (g + 4)) kfX1_34 (fg_k hg) rfl (fg_5 hs hg) (fg_two hg) (fg_lt hg hN) dX1_append_20 ?_
  refine a_aload_n dX1_append_23 rfl ?_
  refine a_getI kfX1_88 (fg_k hg) rfl (fg_two hg) (fg_lt hg hN) dX1_append_24 ?_
  refine a_iload_n dX1_append_27 rfl ?_
  refine a_iast (fg_k5 hg) (fg_two5 hg) (fg_lt5 hg hN) (by rw [hk, fg_ln5 hg]; exact j64_in hk6) dX1_append_28 ?_
  refine a_aload_n dX1_append_29 rfl ?_
  refine a_dup dX1_append_30 rfl ?_
  refine a_getI kfX1_88 (fg_k hg) rfl (fg_two hg) (fg_lt hg hN) dX1_append_31 ?_
  refine a_iconst (v := 1) dX1_append_34 (by decide) ?_
  refine a_iadd dX1_append_35 ?_
  refine a_putI kfX1_88 (fg_k hg) rfl rfl (fg_two hg) (fg_lt hg hN) dX1_append_36 ?_
  refine a_vret dX1_append_39 rfl (by rw [hk, j64_c hk6, rI_sI, if_neg (by omega), hk, nI_1]; exact h)

def pcS (M : Mem) (g k : Nat) (s : MS) : MS := if rI M (g + 3) k = 0 then pushS (s.1, s.2.1, 0) (rJ M (g + 2) k) else (s.1, s.2.1, rI M (g + 3) k)
theorem fg_n {g : Nat} (h : FgR g) : g + 2 ≠ 45 ∧ g + 2 ≠ 46 ∧ g + 3 ≠ 45 ∧ g + 3 ≠ 46 ∧ g ≠ 45 ∧ g ≠ 46 := by rcases h with rfl | rfl | rfl <;> decide
theorem pcS_h {M : Mem} {g k : Nat} {s : MS} (h : s.2.1 ≤ 40) : (pcS M g k s).2.1 ≤ 40 := by
  unfold pcS
  split
  · exact pushS_h h
  · exact h
theorem w_X5_pushCell {M : Mem} {N : Nat} {Q : Option Value → Nat → Mem → Prop} {s : MS} (hh : s.2.1 ≤ 40) {g v j : Nat} (hg : FgR g) (hv : v < 6) (hj : j < 64)  (hN : 94 ≤ N) (hs : Str M.2.2.1) (h : Q (none) N (wm M (pcS M g (v * 64 + j) s))) : AW mX5_pushCell 1 0 0 N 0 [(0, .ref 45), (1, .ref g), (2, .int (nI v)), (3, .int (nI j))] [] (wm M s) Q := by
  refine a_aload_n dX5_pushCell_0 rfl ?_
  refine a_aload_n dX5_pushCell_1 rfl ?_
  refine a_iload_n dX5_pushCell_2 rfl ?_
  refine a_iload_n dX5_pushCell_3 rfl ?_
  refine a_callV (mc1 := 0) (ms1 := 0) (As := [_, _]) kpX1_errorAt kmX5_69 (by decide) rfl (Nat.le_of_ble_eq_true rfl) (fg_k hg) (by decide) rfl (fg_two hg) (fg_lt hg hN) (Nat.le_of_ble_eq_true rfl) (Nat.le_of_ble_eq_true rfl) (Nat.le_of_ble_eq_true rfl) dX5_pushCell_4 (w_X1_errorAt hg hv hj hN (by exact hs) ?_)
  refine a_putI kfX5_15 rfl rfl rfl (by decide) (hlt hN (by decide)) dX5_pushCell_7 ?_
  rw [wm_rI (fg_n hg).2.2.1, wm_e]
  refine a_aload_n dX5_pushCell_10 rfl ?_
  refine a_getI kfX5_15 rfl rfl (by decide) (hlt hN (by decide)) dX5_pushCell_11 ?_
  refine a_if_ne (tgt := 27) dX5_pushCell_14 (by decide) (fun c_14 => ?_) (fun c_14 => ?_)
  · refine a_vret dX5_pushCell_27 rfl (by unfold pcS at h; first | (rw [if_neg (by rw [wm_re] at c_14; exact c_14)] at h; exact h) | (rw [if_pos e0, ← e0] at h; rw [wm_rJ (fg_n hg).2.1]; exact h))
  · have e0 : rI M (g + 3) (v * 64 + j) = 0 := by rw [wm_re] at c_14; exact c_14
    refine a_aload_n dX5_pushCell_17 rfl ?_
    refine a_aload_n dX5_pushCell_18 rfl ?_
    refine a_iload_n dX5_pushCell_19 rfl ?_
    refine a_iload_n dX5_pushCell_20 rfl ?_
    refine a_callV (mc1 := 0) (ms1 := 0) (As := [_, _]) kpX1_figureAt kmX5_75 (by decide) rfl (Nat.le_of_ble_eq_true rfl) (fg_k hg) (by decide) rfl (fg_two hg) (fg_lt hg hN) (Nat.le_of_ble_eq_true rfl) (Nat.le_of_ble_eq_true rfl) (Nat.le_of_ble_eq_true rfl) dX5_pushCell_21 (w_X1_figureAt hg hv hj hN (by exact hs) ?_)
    refine a_callV (mc1 := 0) (ms1 := 0) (As := [_]) kpX5_push kmX5_45 (by decide) rfl (Nat.le_of_ble_eq_true rfl) rfl (by decide) rfl (by decide) (hlt hN (by decide)) (Nat.le_of_ble_eq_true rfl) (Nat.le_of_ble_eq_true rfl) (Nat.le_of_ble_eq_true rfl) dX5_pushCell_24 (w_X5_push (by exact hh) hN (by exact hs) ?_)
    refine a_vret dX5_pushCell_27 rfl (by unfold pcS at h; first | (rw [if_neg (by rw [wm_re] at c_14; exact c_14)] at h; exact h) | (rw [if_pos e0, ← e0] at h; rw [wm_rJ (fg_n hg).2.1]; exact h))

