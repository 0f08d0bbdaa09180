/-! THE MACHINE (45, its stack 46), by its state: the stack, its height, its error -/
abbrev MS : Type := (Nat → Int64) × Nat × Int32
def wm (M : Mem) (s : MS) : Mem := (fun a j => if a = 45 then (if j = 1 then nI s.2.1 else if j = 2 then s.2.2 else M.1 45 j) else M.1 a j, fun a j => if a = 46 then s.1 j else M.2.1 a j, M.2.2)
theorem wm_rh {M : Mem} {s : MS} : rI (wm M s) 45 1 = nI s.2.1 := by simp [rI, wm]
theorem wm_re {M : Mem} {s : MS} : rI (wm M s) 45 2 = s.2.2 := by simp [rI, wm]
theorem wm_rs {M : Mem} {s : MS} {j : Nat} : rJ (wm M s) 46 j = s.1 j := by simp [rJ, wm]
theorem wm_rI {M : Mem} {s : MS} {a j : Nat} (h : a ≠ 45) : rI (wm M s) a j = rI M a j := by simp [rI, wm, h]
theorem wm_rJ {M : Mem} {s : MS} {a j : Nat} (h : a ≠ 46) : rJ (wm M s) a j = rJ M a j := by simp [rJ, wm, h]
theorem wm_h {M : Mem} {s : MS} {h : Nat} : sI (wm M s) 45 1 (nI h) = wm M (s.1, h, s.2.2) := by
  unfold sI wm up2
  refine Prod.ext ?_ rfl
  funext a j
  by_cases ha : a = 45
  · subst ha; by_cases hj : j = 1 <;> simp [hj]
  · simp [ha]
theorem wm_e {M : Mem} {s : MS} {e : Int32} : sI (wm M s) 45 2 e = wm M (s.1, s.2.1, e) := by
  unfold sI wm up2
  refine Prod.ext ?_ rfl
  funext a j
  by_cases ha : a = 45
  · subst ha; by_cases hj : j = 1
    · subst hj; simp
    · by_cases hj2 : j = 2 <;> simp [hj, hj2]
  · simp [ha]
theorem wm_s {M : Mem} {s : MS} {k : Nat} {x : Int64} : sJ (wm M s) 46 k x = wm M (fun j => if j = k then x else s.1 j, s.2) := by
  unfold sJ wm up2
  refine Prod.ext rfl (Prod.ext ?_ rfl)
  funext a j
  by_cases ha : a = 46
  · subst ha; by_cases hj : j = k <;> simp [hj]
  · simp [ha]
abbrev GRT : Int64 := 1000000000000
def pushS (s : MS) (x : Int64) : MS := if GRT < x ∨ x < -1000000000000 then (s.1, s.2.1, 3) else if s.2.1 < 40 then (fun j => if j = s.2.1 then x else s.1 j, s.2.1 + 1, s.2.2) else s
def popV (s : MS) : Int64 := if s.2.1 = 0 then 0 else s.1 (s.2.1 - 1)
def popS (s : MS) : MS := if s.2.1 = 0 then s else (s.1, s.2.1 - 1, s.2.2)
theorem pushS_h {s : MS} {x : Int64} (h : s.2.1 ≤ 40) : (pushS s x).2.1 ≤ 40 := by
  unfold pushS
  split
  · exact h
  · split
    · show s.2.1 + 1 ≤ 40
      omega
    · exact h
theorem popS_h {s : MS} (h : s.2.1 ≤ 40) : (popS s).2.1 ≤ 40 := by
  unfold popS
  split
  · exact h
  · show s.2.1 - 1 ≤ 40
    omega
theorem pg2 {x : Int64} (h : x < -1000000000000) : ¬ 0 ≤ lg_cmp x (-1000000000000) := by
  rw [lg_cmp_ge, Int64.le_iff_toInt_le]
  rw [Int64.lt_iff_toInt_lt] at h
  omega
theorem pg3 {x : Int64} (h : ¬ x < -1000000000000) : 0 ≤ lg_cmp x (-1000000000000) := by
  rw [lg_cmp_ge, Int64.le_iff_toInt_le]
  rw [Int64.lt_iff_toInt_lt] at h
  omega
theorem m40 {h : Nat} (hh : h < 40) : vp_in (nI h) 40 := vp_in_nI hh (by decide)
theorem w_X5_push_e {M : Mem} {N : Nat} {Q : Option Value → Nat → Mem → Prop} {s : MS} (hh : s.2.1 ≤ 40) {x : Int64} (hx : GRT < x ∨ x < -1000000000000)  (hN : 94 ≤ N) (hs : Str M.2.2.1) (h : Q (none) N (wm M (pushS s x))) : AW mX5_push 0 0 0 N 0 [(0, .ref 45), (1, .long x)] [] (wm M s) Q := by
  refine a_lload_n dX5_push_0 rfl ?_
  refine a_ldc2 kkX5_65 dX5_push_1 ?_
  refine a_lcmp dX5_push_4 ?_
  refine a_if_gt (tgt := 16) dX5_push_5 (by decide) (fun c_5 => ?_) (fun c_5 => ?_)
  · refine a_aload_n dX5_push_16 rfl ?_
    refine a_iconst (v := 3) dX5_push_17 (by decide) ?_
    refine a_putI kfX5_15 rfl rfl rfl (by decide) (hlt hN (by decide)) dX5_push_18 ?_
    refine a_goto (tgt := 63) dX5_push_21 (by decide) ?_
    refine a_vret dX5_push_63 rfl (by rw [wm_e]; unfold pushS at h; rw [if_pos hx] at h; exact h)
  · refine a_lload_n dX5_push_8 rfl ?_
    refine a_ldc2 kkX5_67 dX5_push_9 ?_
    refine a_lcmp dX5_push_12 ?_
    refine a_if_ge (tgt := 24) dX5_push_13 (by decide) (fun c_13 => absurd c_13 (pg2 (hx.resolve_left (fun z => c_5 ((lg_cmp_gt _ _).mpr z))))) (fun c_13 => ?_)
    refine a_aload_n dX5_push_16 rfl ?_
    refine a_iconst (v := 3) dX5_push_17 (by decide) ?_
    refine a_putI kfX5_15 rfl rfl rfl (by decide) (hlt hN (by decide)) dX5_push_18 ?_
    refine a_goto (tgt := 63) dX5_push_21 (by decide) ?_
    refine a_vret dX5_push_63 rfl (by rw [wm_e]; unfold pushS at h; rw [if_pos hx] at h; exact h)

theorem w_X5_push_o {M : Mem} {N : Nat} {Q : Option Value → Nat → Mem → Prop} {s : MS} (hh : s.2.1 ≤ 40) {x : Int64} (hx : ¬ (GRT < x ∨ x < -1000000000000)) (h4 : s.2.1 < 40)  (hN : 94 ≤ N) (hs : Str M.2.2.1) (h : Q (none) N (wm M (pushS s x))) : AW mX5_push 0 0 0 N 0 [(0, .ref 45), (1, .long x)] [] (wm M s) Q := by
  have e1 : sJ (wm M s) 46 (rI (wm M s) 45 1).toNatClampNeg x = wm M (fun j => if j = s.2.1 then x else s.1 j, s.2) := by rw [wm_rh, nI_clamp (by omega), wm_s]
  have e2 : sI (wm M (fun j => if j = s.2.1 then x else s.1 j, s.2)) 45 1 (rI (wm M (fun j => if j = s.2.1 then x else s.1 j, s.2)) 45 1 + 1) = wm M (fun j => if j = s.2.1 then x else s.1 j, s.2.1 + 1, s.2.2) := by rw [wm_rh, nI_1, wm_h]
  refine a_lload_n dX5_push_0 rfl ?_
  refine a_ldc2 kkX5_65 dX5_push_1 ?_
  refine a_lcmp dX5_push_4 ?_
  refine a_if_gt (tgt := 16) dX5_push_5 (by decide) (fun c_5 => absurd c_5 (fun z => hx (Or.inl ((lg_cmp_gt _ _).mp z)))) (fun c_5 => ?_)
  refine a_lload_n dX5_push_8 rfl ?_
  refine a_ldc2 kkX5_67 dX5_push_9 ?_
  refine a_lcmp dX5_push_12 ?_
  refine a_if_ge (tgt := 24) dX5_push_13 (by decide) (fun c_13 => ?_) (fun c_13 => absurd (pg3 (fun z => hx (Or.inr z))) c_13)
  refine a_aload_n dX5_push_24 rfl ?_
  refine a_getI kfX5_23 rfl rfl (by decide) (hlt hN (by decide)) dX5_push_25 ?_
  refine a_if_lt (tgt := 63) dX5_push_28 (by decide) (fun c_28 => absurd c_28 (by rw [wm_rh]; exact nI_pos (by omega))) (fun c_28 => ?_)
  refine a_aload_n dX5_push_31 rfl ?_
  refine a_getI kfX5_23 rfl rfl (by decide) (hlt hN (by decide)) dX5_push_32 ?_
  refine a_aload_n dX5_push_35 rfl ?_
  refine a_getA (z := 46) kfX5_9 rfl rfl (st_45_0 hs) (by decide) (hlt hN (by decide)) dX5_push_36 ?_
  refine a_alen rfl (by decide) (by decide) (hlt hN (by decide)) rfl dX5_push_39 ?_
  refine a_icmp_ge (tgt := 63) dX5_push_40 (by decide) (fun c_40 => absurd c_40 (by rw [wm_rh]; exact nI_ge (b := 40) h4 (by decide))) (fun c_40 => ?_)
  refine a_aload_n dX5_push_43 rfl ?_
  refine a_getA (z := 46) kfX5_9 rfl rfl (st_45_0 hs) (by decide) (hlt hN (by decide)) dX5_push_44 ?_
  refine a_aload_n dX5_push_47 rfl ?_
  refine a_getI kfX5_23 rfl rfl (by decide) (hlt hN (by decide)) dX5_push_48 ?_
  refine a_lload_n dX5_push_51 rfl ?_
  refine a_last rfl (by decide) (hlt hN (by decide)) (show vp_in _ 40 from by rw [wm_rh]; exact m40 h4) dX5_push_52 ?_
  refine a_aload_n dX5_push_53 rfl ?_
  refine a_dup dX5_push_54 rfl ?_
  refine a_getI kfX5_23 rfl rfl (by decide) (hlt hN (by decide)) dX5_push_55 ?_
  refine a_iconst (v := 1) dX5_push_58 (by decide) ?_
  refine a_iadd dX5_push_59 ?_
  refine a_putI kfX5_23 rfl rfl rfl (by decide) (hlt hN (by decide)) dX5_push_60 ?_
  refine a_vret dX5_push_63 rfl (by rw [e1, e2]; unfold pushS at h; rw [if_neg hx, if_pos h4] at h; exact h)

theorem w_X5_push_f {M : Mem} {N : Nat} {Q : Option Value → Nat → Mem → Prop} {s : MS} (hh : s.2.1 ≤ 40) {x : Int64} (hx : ¬ (GRT < x ∨ x < -1000000000000)) (h4 : ¬ s.2.1 < 40)  (hN : 94 ≤ N) (hs : Str M.2.2.1) (h : Q (none) N (wm M (pushS s x))) : AW mX5_push 0 0 0 N 0 [(0, .ref 45), (1, .long x)] [] (wm M s) Q := by
  refine a_lload_n dX5_push_0 rfl ?_
  refine a_ldc2 kkX5_65 dX5_push_1 ?_
  refine a_lcmp dX5_push_4 ?_
  refine a_if_gt (tgt := 16) dX5_push_5 (by decide) (fun c_5 => absurd c_5 (fun z => hx (Or.inl ((lg_cmp_gt _ _).mp z)))) (fun c_5 => ?_)
  refine a_lload_n dX5_push_8 rfl ?_
  refine a_ldc2 kkX5_67 dX5_push_9 ?_
  refine a_lcmp dX5_push_12 ?_
  refine a_if_ge (tgt := 24) dX5_push_13 (by decide) (fun c_13 => ?_) (fun c_13 => absurd (pg3 (fun z => hx (Or.inr z))) c_13)
  refine a_aload_n dX5_push_24 rfl ?_
  refine a_getI kfX5_23 rfl rfl (by decide) (hlt hN (by decide)) dX5_push_25 ?_
  refine a_if_lt (tgt := 63) dX5_push_28 (by decide) (fun c_28 => absurd c_28 (by rw [wm_rh]; exact nI_pos (by omega))) (fun c_28 => ?_)
  refine a_aload_n dX5_push_31 rfl ?_
  refine a_getI kfX5_23 rfl rfl (by decide) (hlt hN (by decide)) dX5_push_32 ?_
  refine a_aload_n dX5_push_35 rfl ?_
  refine a_getA (z := 46) kfX5_9 rfl rfl (st_45_0 hs) (by decide) (hlt hN (by decide)) dX5_push_36 ?_
  refine a_alen rfl (by decide) (by decide) (hlt hN (by decide)) rfl dX5_push_39 ?_
  refine a_icmp_ge (tgt := 63) dX5_push_40 (by decide) (fun c_40 => ?_) (fun c_40 => absurd (by rw [wm_rh]; exact nI_le (a := 40) (by omega) (by omega)) c_40)
  refine a_vret dX5_push_63 rfl (by unfold pushS at h; rw [if_neg hx, if_neg h4] at h; exact h)

theorem w_X5_push {M : Mem} {N : Nat} {Q : Option Value → Nat → Mem → Prop} {s : MS} (hh : s.2.1 ≤ 40) {x : Int64} (hN : 94 ≤ N) (hs : Str M.2.2.1) (h : Q none N (wm M (pushS s x))) : AW mX5_push 0 0 0 N 0 [(0, .ref 45), (1, .long x)] [] (wm M s) Q := by
  by_cases hx : GRT < x ∨ x < -1000000000000
  · exact w_X5_push_e hh hx hN hs h
  · by_cases h4 : s.2.1 < 40
    · exact w_X5_push_o hh hx h4 hN hs h
    · exact w_X5_push_f hh hx h4 hN hs h
theorem w_X5_pop_z {M : Mem} {N : Nat} {Q : Option Value → Nat → Mem → Prop} {s : MS} (hh : s.2.1 ≤ 40) (h0 : s.2.1 = 0)  (hN : 94 ≤ N) (hs : Str M.2.2.1) (h : Q (some (.long (popV s))) N (wm M (popS s))) : AW mX5_pop 0 0 0 N 0 [(0, .ref 45)] [] (wm M s) Q := by
  refine a_aload_n dX5_pop_0 rfl ?_
  refine a_getI kfX5_23 rfl rfl (by decide) (hlt hN (by decide)) dX5_pop_1 ?_
  refine a_if_le (tgt := 19) dX5_pop_4 (by decide) (fun c_4 => ?_) (fun c_4 => absurd (by rw [wm_rh, h0]; decide) c_4)
  refine a_lconst (v := 0) dX5_pop_19 (by decide) ?_
  refine a_lret dX5_pop_20 rfl (by unfold popV popS at h; rw [if_pos h0, if_pos h0] at h; exact h)

theorem w_X5_pop_o {M : Mem} {N : Nat} {Q : Option Value → Nat → Mem → Prop} {s : MS} (hh : s.2.1 ≤ 40) (h0 : ¬ s.2.1 = 0)  (hN : 94 ≤ N) (hs : Str M.2.2.1) (h : Q (some (.long (popV s))) N (wm M (popS s))) : AW mX5_pop 0 0 0 N 0 [(0, .ref 45)] [] (wm M s) Q := by
  have e1 : sI (wm M s) 45 1 (rI (wm M s) 45 1 - 1) = wm M (s.1, s.2.1 - 1, s.2.2) := by rw [wm_rh, show nI s.2.1 - 1 = nI (s.2.1 - 1) from pk_sub (a := s.2.1) (b := 1) (by omega), wm_h]
  refine a_aload_n dX5_pop_0 rfl ?_
  refine a_getI kfX5_23 rfl rfl (by decide) (hlt hN (by decide)) dX5_pop_1 ?_
  refine a_if_le (tgt := 19) dX5_pop_4 (by decide) (fun c_4 => absurd c_4 (by rw [wm_rh]; exact nI_nle (by omega) (by omega))) (fun c_4 => ?_)
  refine a_aload_n dX5_pop_7 rfl ?_
  refine a_getI kfX5_23 rfl rfl (by decide) (hlt hN (by decide)) dX5_pop_8 ?_
  refine a_aload_n dX5_pop_11 rfl ?_
  refine a_getA (z := 46) kfX5_9 rfl rfl (st_45_0 hs) (by decide) (hlt hN (by decide)) dX5_pop_12 ?_
  refine a_alen rfl (by decide) (by decide) (hlt hN (by decide)) rfl dX5_pop_15 ?_
  refine a_icmp_le (tgt := 21) dX5_pop_16 (by decide) (fun c_16 => ?_) (fun c_16 => absurd (by rw [wm_rh]; exact nI_le (b := 40) hh (by decide)) c_16)
  refine a_aload_n dX5_pop_21 rfl ?_
  refine a_dup dX5_pop_22 rfl ?_
  refine a_getI kfX5_23 rfl rfl (by decide) (hlt hN (by decide)) dX5_pop_23 ?_
  refine a_iconst (v := 1) dX5_pop_26 (by decide) ?_
  refine a_isub dX5_pop_27 ?_
  refine a_putI kfX5_23 rfl rfl rfl (by decide) (hlt hN (by decide)) dX5_pop_28 ?_
  refine a_aload_n dX5_pop_31 rfl ?_
  refine a_getA (z := 46) kfX5_9 rfl rfl (st_45_0 hs) (by decide) (hlt hN (by decide)) dX5_pop_32 ?_
  refine a_aload_n dX5_pop_35 rfl ?_
  refine a_getI kfX5_23 rfl rfl (by decide) (hlt hN (by decide)) dX5_pop_36 ?_
  refine a_lald rfl (by decide) (hlt hN (by decide)) (show vp_in _ 40 from by rw [e1, wm_rh]; exact m40 (show s.2.1 - 1 < 40 by omega)) dX5_pop_39 ?_
  refine a_lret dX5_pop_40 rfl (by rw [e1, wm_rh, nI_clamp (show s.2.1 - 1 < 2 ^ 31 by omega), wm_rs]; unfold popV popS at h; rw [if_neg h0, if_neg h0] at h; exact h)

theorem w_X5_pop {M : Mem} {N : Nat} {Q : Option Value → Nat → Mem → Prop} {s : MS} (hh : s.2.1 ≤ 40) (hN : 94 ≤ N) (hs : Str M.2.2.1) (h : Q (some (.long (popV s))) N (wm M (popS s))) : AW mX5_pop 0 0 0 N 0 [(0, .ref 45)] [] (wm M s) Q := by
  by_cases h0 : s.2.1 = 0
  · exact w_X5_pop_z hh h0 hN hs h
  · exact w_X5_pop_o hh h0 hN hs h
theorem w_X5_errorMet {M : Mem} {N : Nat} {Q : Option Value → Nat → Mem → Prop}  (hN : 94 ≤ N) (hs : Str M.2.2.1) (h : Q (some (.int (rI M 45 2))) N (M)) : AW mX5_errorMet 0 0 0 N 0 [(0, .ref 45)] [] M Q := by
  refine a_aload_n dX5_errorMet_0 rfl ?_
  refine a_getI kfX5_15 rfl rfl (by decide) (hlt hN (by decide)) dX5_errorMet_1 ?_
  refine a_iret dX5_errorMet_4 rfl h

theorem w_X5_result {M : Mem} {N : Nat} {Q : Option Value → Nat → Mem → Prop}  (hN : 94 ≤ N) (hs : Str M.2.2.1) (h : Q (some (.long (rJ M 45 3))) N (M)) : AW mX5_result 0 0 0 N 0 [(0, .ref 45)] [] M Q := by
  refine a_aload_n dX5_result_0 rfl ?_
  refine a_getJ kfX5_19 rfl rfl (by decide) (hlt hN (by decide)) dX5_result_1 ?_
  refine a_lret dX5_result_4 rfl h

def absJ (x : Int64) : Int64 := if 0 ≤ x then x else -x
def maxJ (x y : Int64) : Int64 := if x < y then y else x
def minI (x y : Int32) : Int32 := if y < x then y else x
def maxI (x y : Int32) : Int32 := if x < y then y else x
def fdvJ (x y : Int64) : Int64 := if (x ^^^ y) < 0 ∧ ¬ (x / y * y = x) then x / y - 1 else x / y
theorem w_J9_abs_067f4 {M : Mem} {N : Nat} {Q : Option Value → Nat → Mem → Prop} {x : Int64}  (h : Q (some (.long (absJ x))) N (M)) : AW mJ9_abs_067f4 0 0 0 N 0 [(0, .long x)] [] M Q := by
  refine a_lload_n dJ9_abs_067f4_0 rfl ?_
  refine a_lconst (v := 0) dJ9_abs_067f4_1 (by decide) ?_
  refine a_lcmp dJ9_abs_067f4_2 ?_
  refine a_if_ge (tgt := 11) dJ9_abs_067f4_3 (by decide) (fun c_3 => ?_) (fun c_3 => ?_)
  · refine a_lload_n dJ9_abs_067f4_11 rfl ?_
    refine a_lret dJ9_abs_067f4_12 rfl (ret_l (by unfold absJ; rw [lg_cmp_ge] at c_3; first | exact if_pos c_3 | exact if_neg c_3) h)
  · refine a_lload_n dJ9_abs_067f4_6 rfl ?_
    refine a_lneg dJ9_abs_067f4_7 ?_
    refine a_goto (tgt := 12) dJ9_abs_067f4_8 (by decide) ?_
    refine a_lret dJ9_abs_067f4_12 rfl (ret_l (by unfold absJ; rw [lg_cmp_ge] at c_3; first | exact if_pos c_3 | exact if_neg c_3) h)

theorem w_J9_max_f86c9 {M : Mem} {N : Nat} {Q : Option Value → Nat → Mem → Prop} {x y : Int64}  (h : Q (some (.long (maxJ x y))) N (M)) : AW mJ9_max_f86c9 0 0 0 N 0 [(0, .long x), (2, .long y)] [] M Q := by
  refine a_lload_n dJ9_max_f86c9_0 rfl ?_
  refine a_lload_n dJ9_max_f86c9_1 rfl ?_
  refine a_lcmp dJ9_max_f86c9_2 ?_
  refine a_if_lt (tgt := 10) dJ9_max_f86c9_3 (by decide) (fun c_3 => ?_) (fun c_3 => ?_)
  · refine a_lload_n dJ9_max_f86c9_10 rfl ?_
    refine a_lret dJ9_max_f86c9_11 rfl (ret_l (by unfold maxJ; rw [lg_cmp_lt] at c_3; first | exact if_pos c_3 | exact if_neg c_3) h)
  · refine a_lload_n dJ9_max_f86c9_6 rfl ?_
    refine a_goto (tgt := 11) dJ9_max_f86c9_7 (by decide) ?_
    refine a_lret dJ9_max_f86c9_11 rfl (ret_l (by unfold maxJ; rw [lg_cmp_lt] at c_3; first | exact if_pos c_3 | exact if_neg c_3) h)

theorem w_J9_max_7cf53 {M : Mem} {N : Nat} {Q : Option Value → Nat → Mem → Prop} {x y : Int32}  (h : Q (some (.int (maxI x y))) N (M)) : AW mJ9_max_7cf53 0 0 0 N 0 [(0, .int x), (1, .int y)] [] M Q := by
  refine a_iload_n dJ9_max_7cf53_0 rfl ?_
  refine a_iload_n dJ9_max_7cf53_1 rfl ?_
  refine a_icmp_lt (tgt := 9) dJ9_max_7cf53_2 (by decide) (fun c_2 => ?_) (fun c_2 => ?_)
  · refine a_iload_n dJ9_max_7cf53_9 rfl ?_
    refine a_iret dJ9_max_7cf53_10 rfl (ret_i (by unfold maxI; first | exact if_pos c_2 | exact if_neg c_2) h)
  · refine a_iload_n dJ9_max_7cf53_5 rfl ?_
    refine a_goto (tgt := 10) dJ9_max_7cf53_6 (by decide) ?_
    refine a_iret dJ9_max_7cf53_10 rfl (ret_i (by unfold maxI; first | exact if_pos c_2 | exact if_neg c_2) h)

theorem w_J9_min_7cf53 {M : Mem} {N : Nat} {Q : Option Value → Nat → Mem → Prop} {x y : Int32}  (h : Q (some (.int (minI x y))) N (M)) : AW mJ9_min_7cf53 0 0 0 N 0 [(0, .int x), (1, .int y)] [] M Q := by
  refine a_iload_n dJ9_min_7cf53_0 rfl ?_
  refine a_iload_n dJ9_min_7cf53_1 rfl ?_
  refine a_icmp_gt (tgt := 9) dJ9_min_7cf53_2 (by decide) (fun c_2 => ?_) (fun c_2 => ?_)
  · refine a_iload_n dJ9_min_7cf53_9 rfl ?_
    refine a_iret dJ9_min_7cf53_10 rfl (ret_i (by unfold minI; first | exact if_pos c_2 | exact if_neg c_2) h)
  · refine a_iload_n dJ9_min_7cf53_5 rfl ?_
    refine a_goto (tgt := 10) dJ9_min_7cf53_6 (by decide) ?_
    refine a_iret dJ9_min_7cf53_10 rfl (ret_i (by unfold minI; first | exact if_pos c_2 | exact if_neg c_2) h)

theorem lt_of_nle {x : Int64} (h : ¬ (0 : Int64) ≤ x) : x < 0 := by
  rw [Int64.le_iff_toInt_le] at h
  rw [Int64.lt_iff_toInt_lt]
  omega
theorem nlt_of_le {x : Int64} (h : (0 : Int64) ≤ x) : ¬ x < 0 := by
  rw [Int64.le_iff_toInt_le] at h
  rw [Int64.lt_iff_toInt_lt]
  omega
theorem w_J9_floorDiv_f86c9 {M : Mem} {N : Nat} {Q : Option Value → Nat → Mem → Prop} {x y : Int64} (hy : ¬ y = 0)  (h : Q (some (.long (fdvJ x y))) N (M)) : AW mJ9_floorDiv_f86c9 0 0 0 N 0 [(0, .long x), (2, .long y)] [] M Q := by
  refine a_lload_n dJ9_floorDiv_f86c9_0 rfl ?_
  refine a_lload_n dJ9_floorDiv_f86c9_1 rfl ?_
  refine a_ldiv dJ9_floorDiv_f86c9_2 hy ?_
  refine a_lstore dJ9_floorDiv_f86c9_3 (by decide) ?_
  refine a_lload_n dJ9_floorDiv_f86c9_5 rfl ?_
  refine a_lload_n dJ9_floorDiv_f86c9_6 rfl ?_
  refine a_lxor dJ9_floorDiv_f86c9_7 ?_
  refine a_lconst (v := 0) dJ9_floorDiv_f86c9_8 (by decide) ?_
  refine a_lcmp dJ9_floorDiv_f86c9_9 ?_
  refine a_if_ge (tgt := 27) dJ9_floorDiv_f86c9_10 (by decide) (fun c_10 => ?_) (fun c_10 => ?_)
  · refine a_lload dJ9_floorDiv_f86c9_27 rfl ?_
    refine a_lret dJ9_floorDiv_f86c9_29 rfl (ret_l (by unfold fdvJ; rw [lg_cmp_ge] at c_10; first | exact if_neg (fun z => absurd z.1 (nlt_of_le c_10)) | (rw [lg_cmp_eq] at c_19; exact if_neg (fun z => z.2 c_19)) | (rw [lg_cmp_eq] at c_19; exact if_pos ⟨lt_of_nle c_10, c_19⟩)) h)
  · refine a_lload dJ9_floorDiv_f86c9_13 rfl ?_
    refine a_lload_n dJ9_floorDiv_f86c9_15 rfl ?_
    refine a_lmul dJ9_floorDiv_f86c9_16 ?_
    refine a_lload_n dJ9_floorDiv_f86c9_17 rfl ?_
    refine a_lcmp dJ9_floorDiv_f86c9_18 ?_
    refine a_if_eq (tgt := 27) dJ9_floorDiv_f86c9_19 (by decide) (fun c_19 => ?_) (fun c_19 => ?_)
    · refine a_lload dJ9_floorDiv_f86c9_27 rfl ?_
      refine a_lret dJ9_floorDiv_f86c9_29 rfl (ret_l (by unfold fdvJ; rw [lg_cmp_ge] at c_10; first | exact if_neg (fun z => absurd z.1 (nlt_of_le c_10)) | (rw [lg_cmp_eq] at c_19; exact if_neg (fun z => z.2 c_19)) | (rw [lg_cmp_eq] at c_19; exact if_pos ⟨lt_of_nle c_10, c_19⟩)) h)
    · refine a_lload dJ9_floorDiv_f86c9_22 rfl ?_
      refine a_lconst (v := 1) dJ9_floorDiv_f86c9_24 (by decide) ?_
      refine a_lsub dJ9_floorDiv_f86c9_25 ?_
      refine a_lret dJ9_floorDiv_f86c9_26 rfl (ret_l (by unfold fdvJ; rw [lg_cmp_ge] at c_10; first | exact if_neg (fun z => absurd z.1 (nlt_of_le c_10)) | (rw [lg_cmp_eq] at c_19; exact if_neg (fun z => z.2 c_19)) | (rw [lg_cmp_eq] at c_19; exact if_pos ⟨lt_of_nle c_10, c_19⟩)) h)

