theorem l_X10_tasksC {M : Mem} {N : Nat} {Q : Option Value → Nat → Mem → Prop} {W : Nat} (hg : GA M) (hW6 : W ≤ 6) (hW : rI M 64 17 = nI W) (hN : 94 ≤ N) (hs : Str M.2.2.1) (h : ∀ M', KT M M' → ¬ rI M' 64 21 = 0 → TaskOK M' W → Q none N M') : ∀ (r c : Nat) (M' : Mem), c + r = 64 → KT M M' → rI M' 64 21 = 1 → (∀ c', c' < c → 0 < (rI M 78 c').toInt → ∀ w', w' < W → AnT M M' c' w') → AW mX10_tasks 6 0 0 N 15 [(0, .ref 64), (1, .int (nI c))] [] M' Q := by
  intro r
  induction r with
  | zero =>
    intro c M' hkk hk hf h1
    obtain rfl : c = 64 := by omega
    have hs' : Str M'.2.2.1 := by rw [hk.1]; exact hs
    refine a_iload_n dX10_tasks_15 rfl ?_
    refine a_bipush (v := 64) dX10_tasks_16 (by decide) ?_
    refine a_icmp_ge (tgt := 124) dX10_tasks_18 (by decide) (fun c_18 => ?_) (fun c_18 => absurd (nI_le (a := 64) (b := 64) (by omega) (by decide)) c_18)
    refine a_vret dX10_tasks_124 rfl (h M' hk (by rw [hf]; decide) (fun c' hc' q w hw => (h1 c' hc' (by rw [← hk.2.1 78 c' (by omega) (by omega) (by omega) (by omega)]; exact q) w hw).to hk))
  | succ r ih =>
    intro c M' hkk hk hf h1
    have hc : c < 64 := by omega
    have hs' : Str M'.2.2.1 := by rw [hk.1]; exact hs
    refine a_iload_n dX10_tasks_15 rfl ?_
    refine a_bipush (v := 64) dX10_tasks_16 (by decide) ?_
    refine a_icmp_ge (tgt := 124) dX10_tasks_18 (by decide) (fun c_18 => absurd c_18 (nI_ge (b := 64) (by omega) (by decide))) (fun c_18 => ?_)
    refine a_aload_n dX10_tasks_21 rfl ?_
    refine a_iload_n dX10_tasks_22 rfl ?_
    refine a_callV (mc1 := 0) (ms1 := 0) (As := [_]) kpX10_isWanted kmX10_201 (by decide) rfl (Nat.le_of_ble_eq_true rfl) rfl (by decide) rfl (by decide) (hlt hN (by decide)) (Nat.le_of_ble_eq_true rfl) (Nat.le_of_ble_eq_true rfl) (Nat.le_of_ble_eq_true rfl) dX10_tasks_23 (w_X10_isWanted hc hN (by exact hs') ?_)
    refine a_if_ne (tgt := 32) dX10_tasks_26 (by decide) (fun c_26 => ?_) (fun c_26 => ?_)
    · refine a_aload_n dX10_tasks_32 rfl ?_
      refine a_iconst (v := 0) dX10_tasks_33 (by decide) ?_
      refine a_iload_n dX10_tasks_34 rfl ?_
      refine a_iconst (v := 0) dX10_tasks_35 (by decide) ?_
      refine a_callV (mc1 := 0) (ms1 := 0) (As := [_, _, _]) kpX10_orders kmX10_295 (by decide) rfl (Nat.le_of_ble_eq_true rfl) rfl (by decide) rfl (by decide) (hlt hN (by decide)) (Nat.le_of_ble_eq_true rfl) (Nat.le_of_ble_eq_true rfl) (Nat.le_of_ble_eq_true rfl) dX10_tasks_36 (w_X10_orders (i := 0) (rt := 0) (by decide) hc ((hk.k0.ga hg).wf (by decide)) hN (by exact hs') (fun b T r nr hT4 hb => ?_))
      have hb := hb
      rw [hk.k0.nd] at hb
      refine a_istore_n dX10_tasks_39 (by decide) ?_
      refine a_iconst (v := 0) dX10_tasks_40 (by decide) ?_
      refine a_istore_n dX10_tasks_41 (by decide) ?_
      refine AW.sub (L' := [(0, .ref 64), (1, .int (nI c)), (2, .int b), (3, .int (nI 0))]) rfl (l_X10_tasksW hc hg hW6 hT4 hW hb hN hs (fun M2 hk2 hf2 h12 h22 => ?_) W 0 _ (by omega) (hk.trans Kp.ord.kt) (by exact hf) wo_T (fun t _ => wo_r) (fun c' hc' q w hw => (h1 c' hc' q w hw).kp Kp.ord) (fun w hw => absurd hw (Nat.not_lt_zero _)))
      refine a_iinc dX10_tasks_118 rfl rfl (by decide) ?_
      refine a_goto (tgt := 15) dX10_tasks_121 (by decide) ?_
      rw [show nI c + Int32.ofInt 1 = nI (c + 1) from nI_1 c]
      refine AW.sub (L' := [(0, .ref 64), (1, .int (nI (c + 1)))]) rfl (ih (c + 1) M2 (by omega) hk2 hf2 (fun c' hc' q w hw => ?_))
      by_cases e : c' = c
      · subst e; exact h22 w hw
      · exact h12 c' (by omega) q w hw
    · have p26 : ¬ 0 < (rI M 78 c).toInt := by rw [← hk.2.1 78 c (by omega) (by omega) (by omega) (by omega)]; exact bI_z.mp c_26
      refine a_goto (tgt := 118) dX10_tasks_29 (by decide) ?_
      refine a_iinc dX10_tasks_118 rfl rfl (by decide) ?_
      refine a_goto (tgt := 15) dX10_tasks_121 (by decide) ?_
      rw [show nI c + Int32.ofInt 1 = nI (c + 1) from nI_1 c]
      refine AW.sub (L' := [(0, .ref 64), (1, .int (nI (c + 1)))]) rfl (ih (c + 1) M' (by omega) hk hf (fun c' hc' q w hw => ?_))
      by_cases e : c' = c
      · subst e; exact absurd q p26
      · exact h1 c' (by omega) q w hw
theorem w_X10_tasks {M : Mem} {N : Nat} {Q : Option Value → Nat → Mem → Prop} {W : Nat} (hg : GA M) (hW6 : W ≤ 6) (hW : rI M 64 17 = nI W) (hfr : FrI M W)  (hN : 94 ≤ N) (hs : Str M.2.2.1) (h : ∀ M', KT M M' → ¬ rI M' 64 21 = 0 → TaskOK M' W → Q none N M')  : AW mX10_tasks 6 0 0 N 0 [(0, .ref 64)] [] M Q := by
  refine a_aload_n dX10_tasks_0 rfl ?_
  refine a_getZ kfX10_122 rfl rfl (by decide) (hlt hN (by decide)) dX10_tasks_1 ?_
  refine a_if_eq (tgt := 8) dX10_tasks_4 (by decide) (fun c_4 => ?_) (fun c_4 => ?_)
  · refine a_aload_n dX10_tasks_8 rfl ?_
    refine a_iconst (v := 1) dX10_tasks_9 (by decide) ?_
    refine a_putZ kfX10_122 rfl rfl rfl (by decide) (by decide) (hlt hN (by decide)) dX10_tasks_10 ?_
    refine a_iconst (v := 0) dX10_tasks_13 (by decide) ?_
    refine a_istore_n dX10_tasks_14 (by decide) ?_
    refine AW.sub (L' := [(0, .ref 64), (1, .int (nI 0))]) rfl (l_X10_tasksC hg hW6 hW hN hs h 64 0 _ (by omega) KT.fr (by rw [rI_sI, if_pos ⟨rfl, rfl⟩]) (fun c' hc' => absurd hc' (Nat.not_lt_zero _)))
  · refine a_vret dX10_tasks_7 rfl (h M KT.refl c_4 (hfr c_4))

theorem w_X10_tells_0 {M : Mem} {N : Nat} {Q : Option Value → Nat → Mem → Prop} {i c w : Nat} (hi : i < 6) (hc : c < 64) (hw6 : w < 6) (hg : GA M)  (hN : 94 ≤ N) (hs : Str M.2.2.1) (h : ∀ M', Kp M M' → Ans (ndR M i c 0) (stR M i c 0 w) c (rJ M' 64 48, rI M' 64 49) → Q none N M')  : AW mX10_tells 7 0 0 N 0 [(0, .ref 64), (1, .int (nI i)), (2, .int (nI c)), (3, .int (nI w)), (4, .int 0)] [] M Q := by
  refine a_iload dX10_tells_0 rfl ?_
  refine a_if_eq (tgt := 9) dX10_tells_2 (by decide) (fun c_2 => ?_) (fun c_2 => absurd rfl c_2)
  exact (l_X10_tells hi hc hw6 hg hN hs h)

theorem w_X10_tells_1 {M : Mem} {N : Nat} {Q : Option Value → Nat → Mem → Prop} {i c w : Nat} (hi : i < 6) (hc : c < 64) (hw6 : w < 6) {W : Nat} (hg : GA M) (hW6 : W ≤ 6) (hW : rI M 64 17 = nI W) (hfr : FrI M W)  (hN : 94 ≤ N) (hs : Str M.2.2.1) (h : ∀ M' M'', KT M M' → ¬ rI M' 64 21 = 0 → TaskOK M' W → Kp M' M'' → Ans (ndR M' i c 1) (stR M' i c 1 w) c (rJ M'' 64 48, rI M'' 64 49) → Q none N M'')  : AW mX10_tells 7 0 0 N 0 [(0, .ref 64), (1, .int (nI i)), (2, .int (nI c)), (3, .int (nI w)), (4, .int 1)] [] M Q := by
  refine a_iload dX10_tells_0 rfl ?_
  refine a_if_eq (tgt := 9) dX10_tells_2 (by decide) (fun c_2 => absurd c_2 (by decide)) (fun c_2 => ?_)
  refine a_aload_n dX10_tells_5 rfl ?_
  refine a_callV (mc1 := 0) (ms1 := 0) (As := []) kpX10_tasks kmX10_292 (by decide) rfl (Nat.le_of_ble_eq_true rfl) rfl (by decide) rfl (by decide) (hlt hN (by decide)) (Nat.le_of_ble_eq_true rfl) (Nat.le_of_ble_eq_true rfl) (Nat.le_of_ble_eq_true rfl) dX10_tells_6 (w_X10_tasks hg hW6 hW hfr hN hs (fun M' hk hf ht => ?_))
  have hs' : Str M'.2.2.1 := by rw [hk.1]; exact hs
  exact (l_X10_tells hi hc hw6 (hk.k0.ga hg) hN hs' (fun M'' hp ha => h M' M'' hk hf ht hp ha))

theorem nW1 : ∀ W, W ≤ 6 → (nI W - 1).toInt = (W : Int) - 1 := by
  intro W h
  have : W = 0 ∨ W = 1 ∨ W = 2 ∨ W = 3 ∨ W = 4 ∨ W = 5 ∨ W = 6 := by omega
  rcases this with rfl | rfl | rfl | rfl | rfl | rfl | rfl <;> rfl
theorem w_X10_is {M : Mem} {N : Nat} {Q : Option Value → Nat → Mem → Prop} {W : Nat} (hW6 : W ≤ 6) (hW : rI M 64 17 = nI W) {s c w : Int32}  (hN : 94 ≤ N) (hs : Str M.2.2.1) (h : Q (some (.int (bI ((0 ≤ s.toInt ∧ s.toInt < 6) ∧ (0 ≤ c.toInt ∧ c.toInt < 64) ∧ (0 ≤ w.toInt ∧ w.toInt < W))))) N (M)) : AW mX10_is 2 0 0 N 0 [(0, .ref 64), (1, .int s), (2, .int c), (3, .int w)] [] M Q := by
  refine a_iload_n dX10_is_0 rfl ?_
  refine a_callS (mc1 := 0) (ms1 := 0) (As := [_]) kpX10_isSheet kmX10_115 (by decide) rfl (Nat.le_of_ble_eq_true rfl) (Nat.le_of_ble_eq_true rfl) (Nat.le_of_ble_eq_true rfl) (Nat.le_of_ble_eq_true rfl) dX10_is_1 (w_X10_isSheet ?_)
  refine a_if_eq (tgt := 32) dX10_is_4 (by decide) (fun c_4 => ?_) (fun c_4 => ?_)
  · refine a_iconst (v := 0) dX10_is_32 (by decide) ?_
    refine a_zret dX10_is_33 rfl (by decide) (ret_f (fun z => bI_z.mp c_4 z.1) h)
  · refine a_iload_n dX10_is_7 rfl ?_
    refine a_callS (mc1 := 0) (ms1 := 0) (As := [_]) kpX10_isCell kmX10_119 (by decide) rfl (Nat.le_of_ble_eq_true rfl) (Nat.le_of_ble_eq_true rfl) (Nat.le_of_ble_eq_true rfl) (Nat.le_of_ble_eq_true rfl) dX10_is_8 (w_X10_isCell ?_)
    refine a_if_eq (tgt := 32) dX10_is_11 (by decide) (fun c_11 => ?_) (fun c_11 => ?_)
    · refine a_iconst (v := 0) dX10_is_32 (by decide) ?_
      refine a_zret dX10_is_33 rfl (by decide) (ret_f (fun z => bI_z.mp c_11 z.2.1) h)
    · refine a_iload_n dX10_is_14 rfl ?_
      refine a_iconst (v := 0) dX10_is_15 (by decide) ?_
      refine a_aload_n dX10_is_16 rfl ?_
      refine a_getI kfX10_210 rfl rfl (by decide) (hlt hN (by decide)) dX10_is_17 ?_
      refine a_iconst (v := 1) dX10_is_20 (by decide) ?_
      refine a_isub dX10_is_21 ?_
      refine a_callS (mc1 := 0) (ms1 := 0) (As := [_, _, _]) kpX10_lies kmX10_104 (by decide) rfl (Nat.le_of_ble_eq_true rfl) (Nat.le_of_ble_eq_true rfl) (Nat.le_of_ble_eq_true rfl) (Nat.le_of_ble_eq_true rfl) dX10_is_22 (w_X10_lies ?_)
      refine a_if_eq (tgt := 32) dX10_is_25 (by decide) (fun c_25 => ?_) (fun c_25 => ?_)
      · refine a_iconst (v := 0) dX10_is_32 (by decide) ?_
        refine a_zret dX10_is_33 rfl (by decide) (ret_f (fun z => bI_z.mp c_25 (by rw [hW, nW1 W hW6]; exact ⟨z.2.2.1, by have := z.2.2.2; omega⟩)) h)
      · refine a_iconst (v := 1) dX10_is_28 (by decide) ?_
        refine a_goto (tgt := 33) dX10_is_29 (by decide) ?_
        refine a_zret dX10_is_33 rfl (by decide) (ret_t ⟨bI_nz.mp c_4, bI_nz.mp c_11, by have k := bI_nz.mp c_25; rw [hW, nW1 W hW6] at k; exact ⟨k.1, by have := k.2; omega⟩⟩ h)

theorem w_X10_value {M : Mem} {N : Nat} {Q : Option Value → Nat → Mem → Prop} {i c w W : Nat} (hi : i < 6) (hc : c < 64) (hw : w < W) (hg : GA M) (hW6 : W ≤ 6) (hW : rI M 64 17 = nI W)  (hN : 94 ≤ N) (hs : Str M.2.2.1) (h : ∀ M' v e, Kp M M' → Ans (ndR M i c 0) (stR M i c 0 w) c (v, e) → Q (some (.long v)) N M')  : AW mX10_value 8 0 0 N 0 [(0, .ref 64), (1, .int (nI i)), (2, .int (nI c)), (3, .int (nI w))] [] M Q := by
  refine a_aload_n dX10_value_0 rfl ?_
  refine a_iload_n dX10_value_1 rfl ?_
  refine a_iload_n dX10_value_2 rfl ?_
  refine a_iload_n dX10_value_3 rfl ?_
  refine a_callV (mc1 := 0) (ms1 := 0) (As := [_, _, _]) kpX10_is kmX10_309 (by decide) rfl (Nat.le_of_ble_eq_true rfl) rfl (by decide) rfl (by decide) (hlt hN (by decide)) (Nat.le_of_ble_eq_true rfl) (Nat.le_of_ble_eq_true rfl) (Nat.le_of_ble_eq_true rfl) dX10_value_4 (w_X10_is hW6 hW hN (by exact hs) ?_)
  refine a_if_ne (tgt := 14) dX10_value_7 (by decide) (fun c_7 => ?_) (fun c_7 => absurd c_7 (fun z => bI_z.mp z ⟨⟨by rw [nIt (by omega)]; omega, by rw [nIt (by omega)]; omega⟩, ⟨by rw [nIt (by omega)]; omega, by rw [nIt (by omega)]; omega⟩, ⟨by rw [nIt (by omega)]; omega, by rw [nIt (by omega)]; omega⟩⟩))
  refine a_aload_n dX10_value_14 rfl ?_
  refine a_iload_n dX10_value_15 rfl ?_
  refine a_iload_n dX10_value_16 rfl ?_
  refine a_iload_n dX10_value_17 rfl ?_
  refine a_iconst (v := 0) dX10_value_18 (by decide) ?_
  refine a_callV (mc1 := 0) (ms1 := 0) (As := [_, _, _, _]) kpX10_tells kmX10_312 (by decide) rfl (Nat.le_of_ble_eq_true rfl) rfl (by decide) rfl (by decide) (hlt hN (by decide)) (Nat.le_of_ble_eq_true rfl) (Nat.le_of_ble_eq_true rfl) (Nat.le_of_ble_eq_true rfl) dX10_value_19 (w_X10_tells_0 hi hc (by omega) hg hN (by exact hs) (fun M' hk ha => ?_))
  refine a_aload_n dX10_value_22 rfl ?_
  refine a_getJ kfX10_305 rfl rfl (by decide) (hlt hN (by decide)) dX10_value_23 ?_
  refine a_lret dX10_value_26 rfl (h M' _ _ hk ha)

theorem w_X10_value_out {M : Mem} {N : Nat} {Q : Option Value → Nat → Mem → Prop} {W : Nat} (hW6 : W ≤ 6) (hW : rI M 64 17 = nI W) {s c w : Int32} (ho : ¬ ((0 ≤ s.toInt ∧ s.toInt < 6) ∧ (0 ≤ c.toInt ∧ c.toInt < 64) ∧ (0 ≤ w.toInt ∧ w.toInt < W)))  (hN : 94 ≤ N) (hs : Str M.2.2.1) (h : Q (some (.long (-1))) N (M)) : AW mX10_value 8 0 0 N 0 [(0, .ref 64), (1, .int s), (2, .int c), (3, .int w)] [] M Q := by
  refine a_aload_n dX10_value_0 rfl ?_
  refine a_iload_n dX10_value_1 rfl ?_
  refine a_iload_n dX10_value_2 rfl ?_
  refine a_iload_n dX10_value_3 rfl ?_
  refine a_callV (mc1 := 0) (ms1 := 0) (As := [_, _, _]) kpX10_is kmX10_309 (by decide) rfl (Nat.le_of_ble_eq_true rfl) rfl (by decide) rfl (by decide) (hlt hN (by decide)) (Nat.le_of_ble_eq_true rfl) (Nat.le_of_ble_eq_true rfl) (Nat.le_of_ble_eq_true rfl) dX10_value_4 (w_X10_is hW6 hW hN (by exact hs) ?_)
  refine a_if_ne (tgt := 14) dX10_value_7 (by decide) (fun c_7 => absurd (bI_z.mpr ho) c_7) (fun c_7 => ?_)
  refine a_ldc2 kkX10_257 dX10_value_10 ?_
  refine a_lret dX10_value_13 rfl h

theorem w_X10_error {M : Mem} {N : Nat} {Q : Option Value → Nat → Mem → Prop} {i c w W : Nat} (hi : i < 6) (hc : c < 64) (hw : w < W) (hg : GA M) (hW6 : W ≤ 6) (hW : rI M 64 17 = nI W)  (hN : 94 ≤ N) (hs : Str M.2.2.1) (h : ∀ M' v e, Kp M M' → Ans (ndR M i c 0) (stR M i c 0 w) c (v, e) → Q (some (.int e)) N M')  : AW mX10_error 8 0 0 N 0 [(0, .ref 64), (1, .int (nI i)), (2, .int (nI c)), (3, .int (nI w))] [] M Q := by
  refine a_aload_n dX10_error_0 rfl ?_
  refine a_iload_n dX10_error_1 rfl ?_
  refine a_iload_n dX10_error_2 rfl ?_
  refine a_iload_n dX10_error_3 rfl ?_
  refine a_callV (mc1 := 0) (ms1 := 0) (As := [_, _, _]) kpX10_is kmX10_309 (by decide) rfl (Nat.le_of_ble_eq_true rfl) rfl (by decide) rfl (by decide) (hlt hN (by decide)) (Nat.le_of_ble_eq_true rfl) (Nat.le_of_ble_eq_true rfl) (Nat.le_of_ble_eq_true rfl) dX10_error_4 (w_X10_is hW6 hW hN (by exact hs) ?_)
  refine a_if_ne (tgt := 12) dX10_error_7 (by decide) (fun c_7 => ?_) (fun c_7 => absurd c_7 (fun z => bI_z.mp z ⟨⟨by rw [nIt (by omega)]; omega, by rw [nIt (by omega)]; omega⟩, ⟨by rw [nIt (by omega)]; omega, by rw [nIt (by omega)]; omega⟩, ⟨by rw [nIt (by omega)]; omega, by rw [nIt (by omega)]; omega⟩⟩))
  refine a_aload_n dX10_error_12 rfl ?_
  refine a_iload_n dX10_error_13 rfl ?_
  refine a_iload_n dX10_error_14 rfl ?_
  refine a_iload_n dX10_error_15 rfl ?_
  refine a_iconst (v := 0) dX10_error_16 (by decide) ?_
  refine a_callV (mc1 := 0) (ms1 := 0) (As := [_, _, _, _]) kpX10_tells kmX10_312 (by decide) rfl (Nat.le_of_ble_eq_true rfl) rfl (by decide) rfl (by decide) (hlt hN (by decide)) (Nat.le_of_ble_eq_true rfl) (Nat.le_of_ble_eq_true rfl) (Nat.le_of_ble_eq_true rfl) dX10_error_17 (w_X10_tells_0 hi hc (by omega) hg hN (by exact hs) (fun M' hk ha => ?_))
  refine a_aload_n dX10_error_20 rfl ?_
  refine a_getI kfX10_302 rfl rfl (by decide) (hlt hN (by decide)) dX10_error_21 ?_
  refine a_iret dX10_error_24 rfl (h M' _ _ hk ha)

theorem w_X10_error_out {M : Mem} {N : Nat} {Q : Option Value → Nat → Mem → Prop} {W : Nat} (hW6 : W ≤ 6) (hW : rI M 64 17 = nI W) {s c w : Int32} (ho : ¬ ((0 ≤ s.toInt ∧ s.toInt < 6) ∧ (0 ≤ c.toInt ∧ c.toInt < 64) ∧ (0 ≤ w.toInt ∧ w.toInt < W)))  (hN : 94 ≤ N) (hs : Str M.2.2.1) (h : Q (some (.int (-1))) N (M)) : AW mX10_error 8 0 0 N 0 [(0, .ref 64), (1, .int s), (2, .int c), (3, .int w)] [] M Q := by
  refine a_aload_n dX10_error_0 rfl ?_
  refine a_iload_n dX10_error_1 rfl ?_
  refine a_iload_n dX10_error_2 rfl ?_
  refine a_iload_n dX10_error_3 rfl ?_
  refine a_callV (mc1 := 0) (ms1 := 0) (As := [_, _, _]) kpX10_is kmX10_309 (by decide) rfl (Nat.le_of_ble_eq_true rfl) rfl (by decide) rfl (by decide) (hlt hN (by decide)) (Nat.le_of_ble_eq_true rfl) (Nat.le_of_ble_eq_true rfl) (Nat.le_of_ble_eq_true rfl) dX10_error_4 (w_X10_is hW6 hW hN (by exact hs) ?_)
  refine a_if_ne (tgt := 12) dX10_error_7 (by decide) (fun c_7 => absurd (bI_z.mpr ho) c_7) (fun c_7 => ?_)
  refine a_iconst (v := (-1)) dX10_error_10 (by decide) ?_
  refine a_iret dX10_error_11 rfl h

theorem w_X10_right {M : Mem} {N : Nat} {Q : Option Value → Nat → Mem → Prop} {i c w W : Nat} (hi : i < 6) (hc : c < 64) (hw : w < W) (hg : GA M) (hW6 : W ≤ 6) (hW : rI M 64 17 = nI W) (hfr : FrI M W)  (hN : 94 ≤ N) (hs : Str M.2.2.1) (h : ∀ M' M'' v e, KT M M' → ¬ rI M' 64 21 = 0 → TaskOK M' W → Kp M' M'' → Ans (ndR M' i c 1) (stR M' i c 1 w) c (v, e) → Q (some (.long v)) N M'')  : AW mX10_right 8 0 0 N 0 [(0, .ref 64), (1, .int (nI i)), (2, .int (nI c)), (3, .int (nI w))] [] M Q := by
  refine a_aload_n dX10_right_0 rfl ?_
  refine a_iload_n dX10_right_1 rfl ?_
  refine a_iload_n dX10_right_2 rfl ?_
  refine a_iload_n dX10_right_3 rfl ?_
  refine a_callV (mc1 := 0) (ms1 := 0) (As := [_, _, _]) kpX10_is kmX10_309 (by decide) rfl (Nat.le_of_ble_eq_true rfl) rfl (by decide) rfl (by decide) (hlt hN (by decide)) (Nat.le_of_ble_eq_true rfl) (Nat.le_of_ble_eq_true rfl) (Nat.le_of_ble_eq_true rfl) dX10_right_4 (w_X10_is hW6 hW hN (by exact hs) ?_)
  refine a_if_ne (tgt := 14) dX10_right_7 (by decide) (fun c_7 => ?_) (fun c_7 => absurd c_7 (fun z => bI_z.mp z ⟨⟨by rw [nIt (by omega)]; omega, by rw [nIt (by omega)]; omega⟩, ⟨by rw [nIt (by omega)]; omega, by rw [nIt (by omega)]; omega⟩, ⟨by rw [nIt (by omega)]; omega, by rw [nIt (by omega)]; omega⟩⟩))
  refine a_aload_n dX10_right_14 rfl ?_
  refine a_iload_n dX10_right_15 rfl ?_
  refine a_iload_n dX10_right_16 rfl ?_
  refine a_iload_n dX10_right_17 rfl ?_
  refine a_iconst (v := 1) dX10_right_18 (by decide) ?_
  refine a_callV (mc1 := 0) (ms1 := 0) (As := [_, _, _, _]) kpX10_tells kmX10_312 (by decide) rfl (Nat.le_of_ble_eq_true rfl) rfl (by decide) rfl (by decide) (hlt hN (by decide)) (Nat.le_of_ble_eq_true rfl) (Nat.le_of_ble_eq_true rfl) (Nat.le_of_ble_eq_true rfl) dX10_right_19 (w_X10_tells_1 hi hc (by omega) hg hW6 hW hfr hN (by exact hs) (fun M' M'' hk hf ht hp ha => ?_))
  refine a_aload_n dX10_right_22 rfl ?_
  refine a_getJ kfX10_305 rfl rfl (by decide) (hlt hN (by decide)) dX10_right_23 ?_
  refine a_lret dX10_right_26 rfl (h M' M'' _ _ hk hf ht hp ha)

theorem w_X10_right_out {M : Mem} {N : Nat} {Q : Option Value → Nat → Mem → Prop} {W : Nat} (hW6 : W ≤ 6) (hW : rI M 64 17 = nI W) {s c w : Int32} (ho : ¬ ((0 ≤ s.toInt ∧ s.toInt < 6) ∧ (0 ≤ c.toInt ∧ c.toInt < 64) ∧ (0 ≤ w.toInt ∧ w.toInt < W)))  (hN : 94 ≤ N) (hs : Str M.2.2.1) (h : Q (some (.long (-1))) N (M)) : AW mX10_right 8 0 0 N 0 [(0, .ref 64), (1, .int s), (2, .int c), (3, .int w)] [] M Q := by
  refine a_aload_n dX10_right_0 rfl ?_
  refine a_iload_n dX10_right_1 rfl ?_
  refine a_iload_n dX10_right_2 rfl ?_
  refine a_iload_n dX10_right_3 rfl ?_
  refine a_callV (mc1 := 0) (ms1 := 0) (As := [_, _, _]) kpX10_is kmX10_309 (by decide) rfl (Nat.le_of_ble_eq_true rfl) rfl (by decide) rfl (by decide) (hlt hN (by decide)) (Nat.le_of_ble_eq_true rfl) (Nat.le_of_ble_eq_true rfl) (Nat.le_of_ble_eq_true rfl) dX10_right_4 (w_X10_is hW6 hW hN (by exact hs) ?_)
  refine a_if_ne (tgt := 14) dX10_right_7 (by decide) (fun c_7 => absurd (bI_z.mpr ho) c_7) (fun c_7 => ?_)
  refine a_ldc2 kkX10_257 dX10_right_10 ?_
  refine a_lret dX10_right_13 rfl h

theorem w_X10_rightError {M : Mem} {N : Nat} {Q : Option Value → Nat → Mem → Prop} {i c w W : Nat} (hi : i < 6) (hc : c < 64) (hw : w < W) (hg : GA M) (hW6 : W ≤ 6) (hW : rI M 64 17 = nI W) (hfr : FrI M W)  (hN : 94 ≤ N) (hs : Str M.2.2.1) (h : ∀ M' M'' v e, KT M M' → ¬ rI M' 64 21 = 0 → TaskOK M' W → Kp M' M'' → Ans (ndR M' i c 1) (stR M' i c 1 w) c (v, e) → Q (some (.int e)) N M'')  : AW mX10_rightError 8 0 0 N 0 [(0, .ref 64), (1, .int (nI i)), (2, .int (nI c)), (3, .int (nI w))] [] M Q := by
  refine a_aload_n dX10_rightError_0 rfl ?_
  refine a_iload_n dX10_rightError_1 rfl ?_
  refine a_iload_n dX10_rightError_2 rfl ?_
  refine a_iload_n dX10_rightError_3 rfl ?_
  refine a_callV (mc1 := 0) (ms1 := 0) (As := [_, _, _]) kpX10_is kmX10_309 (by decide) rfl (Nat.le_of_ble_eq_true rfl) rfl (by decide) rfl (by decide) (hlt hN (by decide)) (Nat.le_of_ble_eq_true rfl) (Nat.le_of_ble_eq_true rfl) (Nat.le_of_ble_eq_true rfl) dX10_rightError_4 (w_X10_is hW6 hW hN (by exact hs) ?_)
  refine a_if_ne (tgt := 12) dX10_rightError_7 (by decide) (fun c_7 => ?_) (fun c_7 => absurd c_7 (fun z => bI_z.mp z ⟨⟨by rw [nIt (by omega)]; omega, by rw [nIt (by omega)]; omega⟩, ⟨by rw [nIt (by omega)]; omega, by rw [nIt (by omega)]; omega⟩, ⟨by rw [nIt (by omega)]; omega, by rw [nIt (by omega)]; omega⟩⟩))
  refine a_aload_n dX10_rightError_12 rfl ?_
  refine a_iload_n dX10_rightError_13 rfl ?_
  refine a_iload_n dX10_rightError_14 rfl ?_
  refine a_iload_n dX10_rightError_15 rfl ?_
  refine a_iconst (v := 1) dX10_rightError_16 (by decide) ?_
  refine a_callV (mc1 := 0) (ms1 := 0) (As := [_, _, _, _]) kpX10_tells kmX10_312 (by decide) rfl (Nat.le_of_ble_eq_true rfl) rfl (by decide) rfl (by decide) (hlt hN (by decide)) (Nat.le_of_ble_eq_true rfl) (Nat.le_of_ble_eq_true rfl) (Nat.le_of_ble_eq_true rfl) dX10_rightError_17 (w_X10_tells_1 hi hc (by omega) hg hW6 hW hfr hN (by exact hs) (fun M' M'' hk hf ht hp ha => ?_))
  refine a_aload_n dX10_rightError_20 rfl ?_
  refine a_getI kfX10_302 rfl rfl (by decide) (hlt hN (by decide)) dX10_rightError_21 ?_
  refine a_iret dX10_rightError_24 rfl (h M' M'' _ _ hk hf ht hp ha)

theorem w_X10_rightError_out {M : Mem} {N : Nat} {Q : Option Value → Nat → Mem → Prop} {W : Nat} (hW6 : W ≤ 6) (hW : rI M 64 17 = nI W) {s c w : Int32} (ho : ¬ ((0 ≤ s.toInt ∧ s.toInt < 6) ∧ (0 ≤ c.toInt ∧ c.toInt < 64) ∧ (0 ≤ w.toInt ∧ w.toInt < W)))  (hN : 94 ≤ N) (hs : Str M.2.2.1) (h : Q (some (.int (-1))) N (M)) : AW mX10_rightError 8 0 0 N 0 [(0, .ref 64), (1, .int s), (2, .int c), (3, .int w)] [] M Q := by
  refine a_aload_n dX10_rightError_0 rfl ?_
  refine a_iload_n dX10_rightError_1 rfl ?_
  refine a_iload_n dX10_rightError_2 rfl ?_
  refine a_iload_n dX10_rightError_3 rfl ?_
  refine a_callV (mc1 := 0) (ms1 := 0) (As := [_, _, _]) kpX10_is kmX10_309 (by decide) rfl (Nat.le_of_ble_eq_true rfl) rfl (by decide) rfl (by decide) (hlt hN (by decide)) (Nat.le_of_ble_eq_true rfl) (Nat.le_of_ble_eq_true rfl) (Nat.le_of_ble_eq_true rfl) dX10_rightError_4 (w_X10_is hW6 hW hN (by exact hs) ?_)
  refine a_if_ne (tgt := 12) dX10_rightError_7 (by decide) (fun c_7 => absurd (bI_z.mpr ho) c_7) (fun c_7 => ?_)
  refine a_iconst (v := (-1)) dX10_rightError_10 (by decide) ?_
  refine a_iret dX10_rightError_11 rfl h

