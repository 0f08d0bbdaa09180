/-- one cell of a rectangle -/
def prStep (M : Mem) (g v : Nat) (C : Int64) (k : Nat) (s : MS) : MS := if s.2.2 = 0 then (if hb C (nI k) = true then pushS (popS (s.1, s.2.1, rI M (g + 3) (v * 64 + k))) (popV (s.1, s.2.1, rI M (g + 3) (v * 64 + k)) + rJ M (g + 2) (v * 64 + k)) else s) else s
def prF (M : Mem) (g v : Nat) (C : Int64) : Nat → MS → MS
  | 0, s => s
  | k + 1, s => prStep M g v C k (prF M g v C k s)
theorem prStep_h {M : Mem} {g v : Nat} {C : Int64} {k : Nat} {s : MS} (h : s.2.1 ≤ 40) : (prStep M g v C k s).2.1 ≤ 40 := by
  unfold prStep
  split
  · split
    · exact pushS_h (popS_h h)
    · exact h
  · exact h
theorem prF_h {M : Mem} {g v : Nat} {C : Int64} {s : MS} (h : s.2.1 ≤ 40) : ∀ k, (prF M g v C k s).2.1 ≤ 40
  | 0 => h
  | k + 1 => prStep_h (prF_h h k)
theorem prF_stop {M : Mem} {g v : Nat} {C : Int64} {s : MS} {k : Nat} (h : ¬ (prF M g v C k s).2.2 = 0) : ∀ r, prF M g v C (k + r) s = prF M g v C k s
  | 0 => rfl
  | r + 1 => by
    show prStep M g v C (k + r) (prF M g v C (k + r) s) = _
    rw [prF_stop h r]
    unfold prStep
    rw [if_neg h]
theorem l_X5_pushRectangle {M : Mem} {N : Nat} {Q : Option Value → Nat → Mem → Prop} {s : MS} (hh : s.2.1 ≤ 40) {g v : Nat} (hg : FgR g) (hv : v < 6) {C : Int64} (hN : 94 ≤ N) (hs : Str M.2.2.1) (h : Q none N (wm M (prF M g v C 64 s))) : ∀ (r k : Nat), k + r = 64 → AW mX5_pushRectangle 2 0 0 N 29 [(0, .ref 45), (1, .ref g), (2, .int (nI v)), (5, .long C), (7, .int (nI k))] [] (wm M (prF M g v C k s)) Q := by
  intro r
  induction r with
  | zero =>
    intro k hk
    refine a_iload dX5_pushRectangle_29 rfl ?_
    refine a_bipush (v := 64) dX5_pushRectangle_31 (by decide) ?_
    refine a_icmp_ge (tgt := 89) dX5_pushRectangle_33 (by decide) (fun c_33 => ?_) (fun c_33 => absurd (nI_le (a := 64) (by omega) (by omega)) c_33)
    refine a_vret dX5_pushRectangle_89 rfl (by rw [show k = 64 by omega]; exact h)
  | succ r ih =>
    intro k hk
    refine a_iload dX5_pushRectangle_29 rfl ?_
    refine a_bipush (v := 64) dX5_pushRectangle_31 (by decide) ?_
    refine a_icmp_ge (tgt := 89) dX5_pushRectangle_33 (by decide) (fun c_33 => absurd c_33 (nI_ge (b := 64) (by omega) (by decide))) (fun c_33 => ?_)
    refine a_aload_n dX5_pushRectangle_36 rfl ?_
    refine a_getI kfX5_15 rfl rfl (by decide) (hlt hN (by decide)) dX5_pushRectangle_37 ?_
    refine a_if_ne (tgt := 89) dX5_pushRectangle_40 (by decide) (fun c_40 => ?_) (fun c_40 => ?_)
    · refine a_vret dX5_pushRectangle_89 rfl (by rw [show (64 : Nat) = k + (64 - k) by omega, prF_stop (by rw [wm_re] at c_40; exact c_40)] at h; exact h)
    · have e0 : (prF M g v C k s).2.2 = 0 := by rw [wm_re] at c_40; exact c_40
      refine a_lload dX5_pushRectangle_43 rfl ?_
      refine a_iload dX5_pushRectangle_45 rfl ?_
      refine a_callSN (host := "SheetMarker") (mc1 := 0) (ms1 := 0) (As := [_]) kpX9_bit (by decide +kernel) (by decide) rfl (Nat.le_of_ble_eq_true rfl) (Nat.le_of_ble_eq_true rfl) (Nat.le_of_ble_eq_true rfl) (Nat.le_of_ble_eq_true rfl) dX5_pushRectangle_47 (w_X9_bit ?_)
      refine a_land dX5_pushRectangle_50 ?_
      refine a_lconst (v := 0) dX5_pushRectangle_51 (by decide) ?_
      refine a_lcmp dX5_pushRectangle_52 ?_
      refine a_if_eq (tgt := 83) dX5_pushRectangle_53 (by decide) (fun c_53 => ?_) (fun c_53 => ?_)
      · refine a_iinc dX5_pushRectangle_83 rfl rfl (by decide) ?_
        refine a_goto (tgt := 29) dX5_pushRectangle_86 (by decide) ?_
        rw [show nI k + Int32.ofInt 1 = nI (k + 1) from nI_1 k]
        refine AW.sub (L' := [(0, .ref 45), (1, .ref g), (2, .int (nI v)), (5, .long C), (7, .int (nI (k + 1)))]) rfl ?_
        first | rw [show wm M (pushS (popS ((prF M g v C k s).1, (prF M g v C k s).2.1, rI M (g + 3) (v * 64 + k))) (popV ((prF M g v C k s).1, (prF M g v C k s).2.1, rI M (g + 3) (v * 64 + k)) + rJ M (g + 2) (v * 64 + k))) = wm M (prF M g v C (k + 1) s) from by (show _ = wm M (prStep M g v C k (prF M g v C k s))); unfold prStep; rw [if_pos e0, if_pos (hb_iff.mpr (fun z => c_53 ((lg_cmp_eq _ _).mpr z)))]] | rw [show wm M (prF M g v C k s) = wm M (prF M g v C (k + 1) s) from by (show _ = wm M (prStep M g v C k (prF M g v C k s))); unfold prStep; rw [if_pos e0, if_neg (fun z => hb_iff.mp z ((lg_cmp_eq _ _).mp c_53))]]
        exact ih (k + 1) (by omega)
      · refine a_aload_n dX5_pushRectangle_56 rfl ?_
        refine a_aload_n dX5_pushRectangle_57 rfl ?_
        refine a_iload_n dX5_pushRectangle_58 rfl ?_
        refine a_iload dX5_pushRectangle_59 rfl ?_
        refine a_callV (mc1 := 0) (ms1 := 0) (As := [_, _]) kpX1_errorAt kmX5_69 (by decide) rfl (Nat.le_of_ble_eq_true rfl) (fg_k hg) (by decide) rfl (fg_two hg) (fg_lt hg hN) (Nat.le_of_ble_eq_true rfl) (Nat.le_of_ble_eq_true rfl) (Nat.le_of_ble_eq_true rfl) dX5_pushRectangle_61 (w_X1_errorAt hg hv (show k < 64 by omega) hN (by exact hs) ?_)
        refine a_putI kfX5_15 rfl rfl rfl (by decide) (hlt hN (by decide)) dX5_pushRectangle_64 ?_
        rw [wm_rI (fg_n hg).2.2.1, wm_e]
        refine a_aload_n dX5_pushRectangle_67 rfl ?_
        refine a_aload_n dX5_pushRectangle_68 rfl ?_
        refine a_callV (mc1 := 0) (ms1 := 0) (As := []) kpX5_pop kmX5_53 (by decide) rfl (Nat.le_of_ble_eq_true rfl) rfl (by decide) rfl (by decide) (hlt hN (by decide)) (Nat.le_of_ble_eq_true rfl) (Nat.le_of_ble_eq_true rfl) (Nat.le_of_ble_eq_true rfl) dX5_pushRectangle_69 (w_X5_pop (s := ((prF M g v C k s).1, (prF M g v C k s).2.1, rI M (g + 3) (v * 64 + k))) (by exact prF_h hh k) hN hs ?_)
        refine a_aload_n dX5_pushRectangle_72 rfl ?_
        refine a_iload_n dX5_pushRectangle_73 rfl ?_
        refine a_iload dX5_pushRectangle_74 rfl ?_
        refine a_callV (mc1 := 0) (ms1 := 0) (As := [_, _]) kpX1_figureAt kmX5_75 (by decide) rfl (Nat.le_of_ble_eq_true rfl) (fg_k hg) (by decide) rfl (fg_two hg) (fg_lt hg hN) (Nat.le_of_ble_eq_true rfl) (Nat.le_of_ble_eq_true rfl) (Nat.le_of_ble_eq_true rfl) dX5_pushRectangle_76 (w_X1_figureAt hg hv (show k < 64 by omega) hN (by exact hs) ?_)
        rw [wm_rJ (fg_n hg).2.1]
        refine a_ladd dX5_pushRectangle_79 ?_
        refine a_callV (mc1 := 0) (ms1 := 0) (As := [_]) kpX5_push kmX5_45 (by decide) rfl (Nat.le_of_ble_eq_true rfl) rfl (by decide) rfl (by decide) (hlt hN (by decide)) (Nat.le_of_ble_eq_true rfl) (Nat.le_of_ble_eq_true rfl) (Nat.le_of_ble_eq_true rfl) dX5_pushRectangle_80 (w_X5_push (by exact popS_h (prF_h hh k)) hN (by exact hs) ?_)
        refine a_iinc dX5_pushRectangle_83 rfl rfl (by decide) ?_
        refine a_goto (tgt := 29) dX5_pushRectangle_86 (by decide) ?_
        rw [show nI k + Int32.ofInt 1 = nI (k + 1) from nI_1 k]
        refine AW.sub (L' := [(0, .ref 45), (1, .ref g), (2, .int (nI v)), (5, .long C), (7, .int (nI (k + 1)))]) rfl ?_
        first | rw [show wm M (pushS (popS ((prF M g v C k s).1, (prF M g v C k s).2.1, rI M (g + 3) (v * 64 + k))) (popV ((prF M g v C k s).1, (prF M g v C k s).2.1, rI M (g + 3) (v * 64 + k)) + rJ M (g + 2) (v * 64 + k))) = wm M (prF M g v C (k + 1) s) from by (show _ = wm M (prStep M g v C k (prF M g v C k s))); unfold prStep; rw [if_pos e0, if_pos (hb_iff.mpr (fun z => c_53 ((lg_cmp_eq _ _).mpr z)))]] | rw [show wm M (prF M g v C k s) = wm M (prF M g v C (k + 1) s) from by (show _ = wm M (prStep M g v C k (prF M g v C k s))); unfold prStep; rw [if_pos e0, if_neg (fun z => hb_iff.mp z ((lg_cmp_eq _ _).mp c_53))]]
        exact ih (k + 1) (by omega)
theorem w_X5_pushRectangle {M : Mem} {N : Nat} {Q : Option Value → Nat → Mem → Prop} {s : MS} (hh : s.2.1 ≤ 40) {g v : Nat} (hg : FgR g) (hv : v < 6) {a b : Nat} (ha : a < 64) (hb : b < 64) (hpb : (popV s).toInt32 = nI b) (hpa : (popV (popS s)).toInt32 = nI a)  (hN : 94 ≤ N) (hs : Str M.2.2.1) (h : Q (none) N (wm M (prF M g v (rcL a b) 64 (pushS (popS (popS s)) 0)))) : AW mX5_pushRectangle 2 0 0 N 0 [(0, .ref 45), (1, .ref g), (2, .int (nI v))] [] (wm M s) Q := by
  refine a_aload_n dX5_pushRectangle_0 rfl ?_
  refine a_callV (mc1 := 0) (ms1 := 0) (As := []) kpX5_pop kmX5_53 (by decide) rfl (Nat.le_of_ble_eq_true rfl) rfl (by decide) rfl (by decide) (hlt hN (by decide)) (Nat.le_of_ble_eq_true rfl) (Nat.le_of_ble_eq_true rfl) (Nat.le_of_ble_eq_true rfl) dX5_pushRectangle_1 (w_X5_pop hh hN hs ?_)
  refine a_l2i dX5_pushRectangle_4 rfl ?_
  refine a_istore_n dX5_pushRectangle_5 (by decide) ?_
  refine a_aload_n dX5_pushRectangle_6 rfl ?_
  refine a_callV (mc1 := 0) (ms1 := 0) (As := []) kpX5_pop kmX5_53 (by decide) rfl (Nat.le_of_ble_eq_true rfl) rfl (by decide) rfl (by decide) (hlt hN (by decide)) (Nat.le_of_ble_eq_true rfl) (Nat.le_of_ble_eq_true rfl) (Nat.le_of_ble_eq_true rfl) dX5_pushRectangle_7 (w_X5_pop (popS_h hh) hN (by exact hs) ?_)
  refine a_l2i dX5_pushRectangle_10 rfl ?_
  refine a_istore dX5_pushRectangle_11 (by decide) ?_
  refine a_iload dX5_pushRectangle_13 rfl ?_
  refine a_iload_n dX5_pushRectangle_15 rfl ?_
  rw [hpb, hpa]
  refine a_callSN (host := "SheetMarker") (mc1 := 0) (ms1 := 0) (As := [_, _]) kpX9_rectangle (by decide +kernel) (by decide) rfl (Nat.le_of_ble_eq_true rfl) (Nat.le_of_ble_eq_true rfl) (Nat.le_of_ble_eq_true rfl) (Nat.le_of_ble_eq_true rfl) dX5_pushRectangle_16 (w_X9_rectangle ha hb ?_)
  refine a_lstore dX5_pushRectangle_19 (by decide) ?_
  refine a_aload_n dX5_pushRectangle_21 rfl ?_
  refine a_lconst (v := 0) dX5_pushRectangle_22 (by decide) ?_
  refine a_callV (mc1 := 0) (ms1 := 0) (As := [_]) kpX5_push kmX5_45 (by decide) rfl (Nat.le_of_ble_eq_true rfl) rfl (by decide) rfl (by decide) (hlt hN (by decide)) (Nat.le_of_ble_eq_true rfl) (Nat.le_of_ble_eq_true rfl) (Nat.le_of_ble_eq_true rfl) dX5_pushRectangle_23 (w_X5_push (popS_h (popS_h hh)) hN (by exact hs) ?_)
  refine a_iconst (v := 0) dX5_pushRectangle_26 (by decide) ?_
  refine a_istore dX5_pushRectangle_27 (by decide) ?_
  refine AW.sub (L' := [(0, .ref 45), (1, .ref g), (2, .int (nI v)), (5, .long (rcL a b)), (7, .int (nI 0))]) rfl ?_
  exact l_X5_pushRectangle (pushS_h (popS_h (popS_h hh))) hg hv hN hs h 64 0 (by omega)

