abbrev btP (v a b : Nat) : Prop := min a b ≤ v ∧ v ≤ max a b
/-- x lies in the rectangle of a and b -/
abbrev iwP (x a b : Nat) : Prop := btP (x / 8) (a / 8) (b / 8) ∧ btP (x % 8) (a % 8) (b % 8)
theorem w_X10_isBetween {M : Mem} {N : Nat} {Q : Option Value → Nat → Mem → Prop} {v a b : Nat} (hv : v < 1000) (ha : a < 1000) (hb : b < 1000)  (h : Q (some (.int (bI (btP v a b)))) N (M)) : AW mX10_isBetween 1 0 0 N 0 [(0, .int (nI v)), (1, .int (nI a)), (2, .int (nI b))] [] M Q := by
  refine a_iload_n dX10_isBetween_0 rfl ?_
  refine a_iload_n dX10_isBetween_1 rfl ?_
  refine a_icmp_ge (tgt := 14) dX10_isBetween_2 (by decide) (fun c_2 => ?_) (fun c_2 => ?_)
  · refine a_iload_n dX10_isBetween_14 rfl ?_
    refine a_iload_n dX10_isBetween_15 rfl ?_
    refine a_iload_n dX10_isBetween_16 rfl ?_
    refine a_callS (mc1 := 0) (ms1 := 0) (As := [_, _, _]) kpX10_lies kmX10_104 (by decide) rfl (Nat.le_of_ble_eq_true rfl) (Nat.le_of_ble_eq_true rfl) (Nat.le_of_ble_eq_true rfl) (Nat.le_of_ble_eq_true rfl) dX10_isBetween_17 (w_X10_lies ?_)
    refine a_zret dX10_isBetween_20 rfl bI_01 (ret_i (bI_cong (by rw [nIt (by omega), nIt (by omega), nIt (by omega)]; first | (rw [nI_leI (by omega) (by omega)] at c_2); unfold btP; omega)) h)
  · refine a_iload_n dX10_isBetween_5 rfl ?_
    refine a_iload_n dX10_isBetween_6 rfl ?_
    refine a_iload_n dX10_isBetween_7 rfl ?_
    refine a_callS (mc1 := 0) (ms1 := 0) (As := [_, _, _]) kpX10_lies kmX10_104 (by decide) rfl (Nat.le_of_ble_eq_true rfl) (Nat.le_of_ble_eq_true rfl) (Nat.le_of_ble_eq_true rfl) (Nat.le_of_ble_eq_true rfl) dX10_isBetween_8 (w_X10_lies ?_)
    refine a_goto (tgt := 20) dX10_isBetween_11 (by decide) ?_
    refine a_zret dX10_isBetween_20 rfl bI_01 (ret_i (bI_cong (by rw [nIt (by omega), nIt (by omega), nIt (by omega)]; first | (rw [nI_leI (by omega) (by omega)] at c_2); unfold btP; omega)) h)

theorem w_X10_isWithin {M : Mem} {N : Nat} {Q : Option Value → Nat → Mem → Prop} {x a b : Nat} (hx : x < 64) (ha : a < 64) (hb : b < 64)  (h : Q (some (.int (bI (iwP x a b)))) N (M)) : AW mX10_isWithin 2 0 0 N 0 [(0, .int (nI x)), (1, .int (nI a)), (2, .int (nI b))] [] M Q := by
  refine a_iload_n dX10_isWithin_0 rfl ?_
  refine a_bipush (v := 8) dX10_isWithin_1 (by decide) ?_
  refine a_idiv dX10_isWithin_3 (by decide) ?_
  rw [show nI x / 8 = nI (x / 8) from div8 hx]
  refine a_iload_n dX10_isWithin_4 rfl ?_
  refine a_bipush (v := 8) dX10_isWithin_5 (by decide) ?_
  refine a_idiv dX10_isWithin_7 (by decide) ?_
  rw [show nI a / 8 = nI (a / 8) from div8 ha]
  refine a_iload_n dX10_isWithin_8 rfl ?_
  refine a_bipush (v := 8) dX10_isWithin_9 (by decide) ?_
  refine a_idiv dX10_isWithin_11 (by decide) ?_
  rw [show nI b / 8 = nI (b / 8) from div8 hb]
  refine a_callS (mc1 := 0) (ms1 := 0) (As := [_, _, _]) kpX10_isBetween kmX10_226 (by decide) rfl (Nat.le_of_ble_eq_true rfl) (Nat.le_of_ble_eq_true rfl) (Nat.le_of_ble_eq_true rfl) (Nat.le_of_ble_eq_true rfl) dX10_isWithin_12 (w_X10_isBetween (by omega) (by omega) (by omega) ?_)
  refine a_if_eq (tgt := 40) dX10_isWithin_15 (by decide) (fun c_15 => ?_) (fun c_15 => ?_)
  · refine a_iconst (v := 0) dX10_isWithin_40 (by decide) ?_
    refine a_zret dX10_isWithin_41 rfl (by decide) (by first | exact ret_t ⟨bI_nz.mp c_15, bI_nz.mp c_33⟩ h | exact ret_f (fun z => bI_z.mp c_33 z.2) h | exact ret_f (fun z => bI_z.mp c_15 z.1) h)
  · refine a_iload_n dX10_isWithin_18 rfl ?_
    refine a_bipush (v := 8) dX10_isWithin_19 (by decide) ?_
    refine a_irem dX10_isWithin_21 (by decide) ?_
    rw [rem8 hx]
    refine a_iload_n dX10_isWithin_22 rfl ?_
    refine a_bipush (v := 8) dX10_isWithin_23 (by decide) ?_
    refine a_irem dX10_isWithin_25 (by decide) ?_
    rw [rem8 ha]
    refine a_iload_n dX10_isWithin_26 rfl ?_
    refine a_bipush (v := 8) dX10_isWithin_27 (by decide) ?_
    refine a_irem dX10_isWithin_29 (by decide) ?_
    rw [rem8 hb]
    refine a_callS (mc1 := 0) (ms1 := 0) (As := [_, _, _]) kpX10_isBetween kmX10_226 (by decide) rfl (Nat.le_of_ble_eq_true rfl) (Nat.le_of_ble_eq_true rfl) (Nat.le_of_ble_eq_true rfl) (Nat.le_of_ble_eq_true rfl) dX10_isWithin_30 (w_X10_isBetween (by omega) (by omega) (by omega) ?_)
    refine a_if_eq (tgt := 40) dX10_isWithin_33 (by decide) (fun c_33 => ?_) (fun c_33 => ?_)
    · refine a_iconst (v := 0) dX10_isWithin_40 (by decide) ?_
      refine a_zret dX10_isWithin_41 rfl (by decide) (by first | exact ret_t ⟨bI_nz.mp c_15, bI_nz.mp c_33⟩ h | exact ret_f (fun z => bI_z.mp c_33 z.2) h | exact ret_f (fun z => bI_z.mp c_15 z.1) h)
    · refine a_iconst (v := 1) dX10_isWithin_36 (by decide) ?_
      refine a_goto (tgt := 41) dX10_isWithin_37 (by decide) ?_
      refine a_zret dX10_isWithin_41 rfl (by decide) (by first | exact ret_t ⟨bI_nz.mp c_15, bI_nz.mp c_33⟩ h | exact ret_f (fun z => bI_z.mp c_33 z.2) h | exact ret_f (fun z => bI_z.mp c_15 z.1) h)

theorem k40 {k i : Nat} : 40 * nI k + nI i = nI (40 * k + i) := by rw [show (40 : Int32) = nI 40 from rfl, pk_mul, nI_add]
theorem k40c {k i : Nat} (hk3 : k < 384) (hi : i < 40) : (40 * nI k + nI i).toNatClampNeg = 40 * k + i := by rw [k40]; exact nI_clamp (by omega)
theorem k40in {k i : Nat} (hk3 : k < 384) (hi : i < 40) : vp_in (40 * nI k + nI i) 15360 := by rw [k40]; exact vp_in_nI (by omega) (by decide)
/-- operation and arguments, under the reference's change -/
def rOp (M : Mem) (k i : Nat) : Int32 := if rI M 64 36 = nI (40 * k + i) then rI M 64 37 else rI M 71 (40 * k + i)
def rAr (M : Mem) (k i : Nat) : Int32 := if rI M 64 36 = nI (40 * k + i) then rI M 64 38 else rI M 72 (40 * k + i)
def rA2 (M : Mem) (k i : Nat) : Int32 := if rI M 64 36 = nI (40 * k + i) then rI M 64 39 else rI M 73 (40 * k + i)
theorem w_X10_isChanged {M : Mem} {N : Nat} {Q : Option Value → Nat → Mem → Prop} {k i : Nat} (hk3 : k < 384) (hi : i < 40)  (hN : 94 ≤ N) (hs : Str M.2.2.1) (h : Q (some (.int (bI (rI M 64 36 = nI (40 * k + i))))) N (M)) : AW mX10_isChanged 0 0 0 N 0 [(0, .ref 64), (1, .int (nI k)), (2, .int (nI i))] [] M Q := by
  refine a_aload_n dX10_isChanged_0 rfl ?_
  refine a_getI kfX10_85 rfl rfl (by decide) (hlt hN (by decide)) dX10_isChanged_1 ?_
  refine a_bipush (v := 40) dX10_isChanged_4 (by decide) ?_
  refine a_iload_n dX10_isChanged_6 rfl ?_
  refine a_imul dX10_isChanged_7 ?_
  refine a_iload_n dX10_isChanged_8 rfl ?_
  refine a_iadd dX10_isChanged_9 ?_
  rw [k40]
  refine a_icmp_ne (tgt := 17) dX10_isChanged_10 (by decide) (fun c_10 => ?_) (fun c_10 => ?_)
  · refine a_iconst (v := 0) dX10_isChanged_17 (by decide) ?_
    refine a_zret dX10_isChanged_18 rfl (by decide) (by first | exact ret_t c_10 h | exact ret_f c_10 h)
  · refine a_iconst (v := 1) dX10_isChanged_13 (by decide) ?_
    refine a_goto (tgt := 18) dX10_isChanged_14 (by decide) ?_
    refine a_zret dX10_isChanged_18 rfl (by decide) (by first | exact ret_t c_10 h | exact ret_f c_10 h)

theorem w_X10_opOf {M : Mem} {N : Nat} {Q : Option Value → Nat → Mem → Prop} {k i : Nat} (hk3 : k < 384) (hi : i < 40)  (hN : 94 ≤ N) (hs : Str M.2.2.1) (h : Q (some (.int (rOp M k i))) N (M)) : AW mX10_opOf 1 0 0 N 0 [(0, .ref 64), (1, .int (nI k)), (2, .int (nI i))] [] M Q := by
  refine a_aload_n dX10_opOf_0 rfl ?_
  refine a_iload_n dX10_opOf_1 rfl ?_
  refine a_iload_n dX10_opOf_2 rfl ?_
  refine a_callV (mc1 := 0) (ms1 := 0) (As := [_, _]) kpX10_isChanged kmX10_213 (by decide) rfl (Nat.le_of_ble_eq_true rfl) rfl (by decide) rfl (by decide) (hlt hN (by decide)) (Nat.le_of_ble_eq_true rfl) (Nat.le_of_ble_eq_true rfl) (Nat.le_of_ble_eq_true rfl) dX10_opOf_3 (w_X10_isChanged hk3 hi hN hs ?_)
  refine a_if_eq (tgt := 16) dX10_opOf_6 (by decide) (fun c_6 => ?_) (fun c_6 => ?_)
  · refine a_aload_n dX10_opOf_16 rfl ?_
    refine a_getA (z := 71) kfX10_29 rfl rfl (st_64_7 hs) (by decide) (hlt hN (by decide)) dX10_opOf_17 ?_
    refine a_bipush (v := 40) dX10_opOf_20 (by decide) ?_
    refine a_iload_n dX10_opOf_22 rfl ?_
    refine a_imul dX10_opOf_23 ?_
    refine a_iload_n dX10_opOf_24 rfl ?_
    refine a_iadd dX10_opOf_25 ?_
    refine a_iald rfl (by decide) (hlt hN (by decide)) (show vp_in _ 15360 from k40in hk3 hi) dX10_opOf_26 ?_
    refine a_iret dX10_opOf_27 rfl (by unfold rOp at h; first | (rw [if_pos (bI_nz.mp c_6)] at h; exact h) | (rw [if_neg (bI_z.mp c_6)] at h; rw [k40c hk3 hi]; exact h))
  · refine a_aload_n dX10_opOf_9 rfl ?_
    refine a_getI kfX10_217 rfl rfl (by decide) (hlt hN (by decide)) dX10_opOf_10 ?_
    refine a_goto (tgt := 27) dX10_opOf_13 (by decide) ?_
    refine a_iret dX10_opOf_27 rfl (by unfold rOp at h; first | (rw [if_pos (bI_nz.mp c_6)] at h; exact h) | (rw [if_neg (bI_z.mp c_6)] at h; rw [k40c hk3 hi]; exact h))

theorem w_X10_argOf {M : Mem} {N : Nat} {Q : Option Value → Nat → Mem → Prop} {k i : Nat} (hk3 : k < 384) (hi : i < 40)  (hN : 94 ≤ N) (hs : Str M.2.2.1) (h : Q (some (.int (rAr M k i))) N (M)) : AW mX10_argOf 1 0 0 N 0 [(0, .ref 64), (1, .int (nI k)), (2, .int (nI i))] [] M Q := by
  refine a_aload_n dX10_argOf_0 rfl ?_
  refine a_iload_n dX10_argOf_1 rfl ?_
  refine a_iload_n dX10_argOf_2 rfl ?_
  refine a_callV (mc1 := 0) (ms1 := 0) (As := [_, _]) kpX10_isChanged kmX10_213 (by decide) rfl (Nat.le_of_ble_eq_true rfl) rfl (by decide) rfl (by decide) (hlt hN (by decide)) (Nat.le_of_ble_eq_true rfl) (Nat.le_of_ble_eq_true rfl) (Nat.le_of_ble_eq_true rfl) dX10_argOf_3 (w_X10_isChanged hk3 hi hN hs ?_)
  refine a_if_eq (tgt := 16) dX10_argOf_6 (by decide) (fun c_6 => ?_) (fun c_6 => ?_)
  · refine a_aload_n dX10_argOf_16 rfl ?_
    refine a_getA (z := 72) kfX10_32 rfl rfl (st_64_8 hs) (by decide) (hlt hN (by decide)) dX10_argOf_17 ?_
    refine a_bipush (v := 40) dX10_argOf_20 (by decide) ?_
    refine a_iload_n dX10_argOf_22 rfl ?_
    refine a_imul dX10_argOf_23 ?_
    refine a_iload_n dX10_argOf_24 rfl ?_
    refine a_iadd dX10_argOf_25 ?_
    refine a_iald rfl (by decide) (hlt hN (by decide)) (show vp_in _ 15360 from k40in hk3 hi) dX10_argOf_26 ?_
    refine a_iret dX10_argOf_27 rfl (by unfold rAr at h; first | (rw [if_pos (bI_nz.mp c_6)] at h; exact h) | (rw [if_neg (bI_z.mp c_6)] at h; rw [k40c hk3 hi]; exact h))
  · refine a_aload_n dX10_argOf_9 rfl ?_
    refine a_getI kfX10_220 rfl rfl (by decide) (hlt hN (by decide)) dX10_argOf_10 ?_
    refine a_goto (tgt := 27) dX10_argOf_13 (by decide) ?_
    refine a_iret dX10_argOf_27 rfl (by unfold rAr at h; first | (rw [if_pos (bI_nz.mp c_6)] at h; exact h) | (rw [if_neg (bI_z.mp c_6)] at h; rw [k40c hk3 hi]; exact h))

theorem w_X10_arg2Of {M : Mem} {N : Nat} {Q : Option Value → Nat → Mem → Prop} {k i : Nat} (hk3 : k < 384) (hi : i < 40)  (hN : 94 ≤ N) (hs : Str M.2.2.1) (h : Q (some (.int (rA2 M k i))) N (M)) : AW mX10_arg2Of 1 0 0 N 0 [(0, .ref 64), (1, .int (nI k)), (2, .int (nI i))] [] M Q := by
  refine a_aload_n dX10_arg2Of_0 rfl ?_
  refine a_iload_n dX10_arg2Of_1 rfl ?_
  refine a_iload_n dX10_arg2Of_2 rfl ?_
  refine a_callV (mc1 := 0) (ms1 := 0) (As := [_, _]) kpX10_isChanged kmX10_213 (by decide) rfl (Nat.le_of_ble_eq_true rfl) rfl (by decide) rfl (by decide) (hlt hN (by decide)) (Nat.le_of_ble_eq_true rfl) (Nat.le_of_ble_eq_true rfl) (Nat.le_of_ble_eq_true rfl) dX10_arg2Of_3 (w_X10_isChanged hk3 hi hN hs ?_)
  refine a_if_eq (tgt := 16) dX10_arg2Of_6 (by decide) (fun c_6 => ?_) (fun c_6 => ?_)
  · refine a_aload_n dX10_arg2Of_16 rfl ?_
    refine a_getA (z := 73) kfX10_35 rfl rfl (st_64_9 hs) (by decide) (hlt hN (by decide)) dX10_arg2Of_17 ?_
    refine a_bipush (v := 40) dX10_arg2Of_20 (by decide) ?_
    refine a_iload_n dX10_arg2Of_22 rfl ?_
    refine a_imul dX10_arg2Of_23 ?_
    refine a_iload_n dX10_arg2Of_24 rfl ?_
    refine a_iadd dX10_arg2Of_25 ?_
    refine a_iald rfl (by decide) (hlt hN (by decide)) (show vp_in _ 15360 from k40in hk3 hi) dX10_arg2Of_26 ?_
    refine a_iret dX10_arg2Of_27 rfl (by unfold rA2 at h; first | (rw [if_pos (bI_nz.mp c_6)] at h; exact h) | (rw [if_neg (bI_z.mp c_6)] at h; rw [k40c hk3 hi]; exact h))
  · refine a_aload_n dX10_arg2Of_9 rfl ?_
    refine a_getI kfX10_223 rfl rfl (by decide) (hlt hN (by decide)) dX10_arg2Of_10 ?_
    refine a_goto (tgt := 27) dX10_arg2Of_13 (by decide) ?_
    refine a_iret dX10_arg2Of_27 rfl (by unfold rA2 at h; first | (rw [if_pos (bI_nz.mp c_6)] at h; exact h) | (rw [if_neg (bI_z.mp c_6)] at h; rw [k40c hk3 hi]; exact h))

/-- the cells of a rectangle put to a set -/
def rgF (a b : Nat) (s : Int64) : Nat → Int64
  | 0 => s
  | x + 1 => if iwP x a b then rgF a b s x ||| bitL (nI x) else rgF a b s x
def nmT (o a b : Int32) (s : Int64) : Int64 := if o = 1 then s ||| bitL a else if o = 2 then rgF a.toNatClampNeg b.toNatClampNeg s 64 else s
def nmF (o a b : Nat → Int32) : Nat → Int64
  | 0 => 0
  | i + 1 => nmT (o i) (a i) (b i) (nmF o a b i)
/-- arguments of cells and rectangles are cells -/
def WFK (o a b : Nat → Int32) (m : Nat) : Prop := ∀ i, i < m → (o i = 1 → ∃ c, c < 64 ∧ a i = nI c) ∧ (o i = 2 → ∃ c e, c < 64 ∧ e < 64 ∧ a i = nI c ∧ b i = nI e)
theorem l_X10_names0x {M : Mem} {N : Nat} {Q : Option Value → Nat → Mem → Prop} {k i a b : Nat} {s0 : Int64} (hk3 : k < 384) (hi : i < 40) (ha : a < 64) (hb : b < 64) (ea : rAr M k i = nI a) (eb : rA2 M k i = nI b) (hN : 94 ≤ N) (hs : Str M.2.2.1) (h : AW mX10_names0 3 0 0 N 97 [(0, .ref 64), (1, .int (nI k)), (2, .long (rgF a b s0 64)), (4, .int (nI i))] [] M Q) : ∀ (r x : Nat), x + r = 64 → AW mX10_names0 3 0 0 N 55 [(0, .ref 64), (1, .int (nI k)), (2, .long (rgF a b s0 x)), (4, .int (nI i)), (6, .int (nI x))] [] M Q := by
  intro r
  induction r with
  | zero =>
    intro x hk
    obtain rfl : x = 64 := by omega
    refine a_iload dX10_names0_55 rfl ?_
    refine a_bipush (v := 64) dX10_names0_57 (by decide) ?_
    refine a_icmp_ge (tgt := 97) dX10_names0_59 (by decide) (fun c_59 => ?_) (fun c_59 => absurd (nI_le (a := 64) (b := 64) (by omega) (by decide)) c_59)
    exact AW.sub (L' := [(0, .ref 64), (1, .int (nI k)), (2, .long (rgF a b s0 64)), (4, .int (nI i))]) rfl h
  | succ r ih =>
    intro x hk
    refine a_iload dX10_names0_55 rfl ?_
    refine a_bipush (v := 64) dX10_names0_57 (by decide) ?_
    refine a_icmp_ge (tgt := 97) dX10_names0_59 (by decide) (fun c_59 => absurd c_59 (nI_ge (b := 64) (by omega) (by decide))) (fun c_59 => ?_)
    refine a_iload dX10_names0_62 rfl ?_
    refine a_aload_n dX10_names0_64 rfl ?_
    refine a_iload_n dX10_names0_65 rfl ?_
    refine a_iload dX10_names0_66 rfl ?_
    refine a_callV (mc1 := 0) (ms1 := 0) (As := [_, _]) kpX10_argOf kmX10_233 (by decide) rfl (Nat.le_of_ble_eq_true rfl) rfl (by decide) rfl (by decide) (hlt hN (by decide)) (Nat.le_of_ble_eq_true rfl) (Nat.le_of_ble_eq_true rfl) (Nat.le_of_ble_eq_true rfl) dX10_names0_68 (w_X10_argOf hk3 hi hN hs ?_)
    rw [ea]
    refine a_aload_n dX10_names0_71 rfl ?_
    refine a_iload_n dX10_names0_72 rfl ?_
    refine a_iload dX10_names0_73 rfl ?_
    refine a_callV (mc1 := 0) (ms1 := 0) (As := [_, _]) kpX10_arg2Of kmX10_236 (by decide) rfl (Nat.le_of_ble_eq_true rfl) rfl (by decide) rfl (by decide) (hlt hN (by decide)) (Nat.le_of_ble_eq_true rfl) (Nat.le_of_ble_eq_true rfl) (Nat.le_of_ble_eq_true rfl) dX10_names0_75 (w_X10_arg2Of hk3 hi hN hs ?_)
    rw [eb]
    refine a_callS (mc1 := 0) (ms1 := 0) (As := [_, _, _]) kpX10_isWithin kmX10_239 (by decide) rfl (Nat.le_of_ble_eq_true rfl) (Nat.le_of_ble_eq_true rfl) (Nat.le_of_ble_eq_true rfl) (Nat.le_of_ble_eq_true rfl) dX10_names0_78 (w_X10_isWithin (show x < 64 by omega) ha hb ?_)
    refine a_if_eq (tgt := 91) dX10_names0_81 (by decide) (fun c_81 => ?_) (fun c_81 => ?_)
    · refine a_iinc dX10_names0_91 rfl rfl (by decide) ?_
      refine a_goto (tgt := 55) dX10_names0_94 (by decide) ?_
      rw [show nI x + Int32.ofInt 1 = nI (x + 1) from nI_1 x]
      first
      | (have e : rgF a b s0 (x + 1) = rgF a b s0 x ||| bitL (nI x) := if_pos (bI_nz.mp c_81)
         rw [← e]
         refine AW.sub (L' := [(0, .ref 64), (1, .int (nI k)), (2, .long (rgF a b s0 (x + 1))), (4, .int (nI i)), (6, .int (nI (x + 1)))]) rfl ?_
         exact ih (x + 1) (by omega))
      | (have e : rgF a b s0 (x + 1) = rgF a b s0 x := if_neg (bI_z.mp c_81)
         rw [← e]
         refine AW.sub (L' := [(0, .ref 64), (1, .int (nI k)), (2, .long (rgF a b s0 (x + 1))), (4, .int (nI i)), (6, .int (nI (x + 1)))]) rfl ?_
         exact ih (x + 1) (by omega))
    · refine a_lload_n dX10_names0_84 rfl ?_
      refine a_lconst (v := 1) dX10_names0_85 (by decide) ?_
      refine a_iload dX10_names0_86 rfl ?_
      refine a_lshl dX10_names0_88 rfl ?_
      rw [bitL_sh (show x < 64 by omega)]
      refine a_lor dX10_names0_89 ?_
      refine a_lstore_n dX10_names0_90 (by decide) ?_
      refine a_iinc dX10_names0_91 rfl rfl (by decide) ?_
      refine a_goto (tgt := 55) dX10_names0_94 (by decide) ?_
      rw [show nI x + Int32.ofInt 1 = nI (x + 1) from nI_1 x]
      first
      | (have e : rgF a b s0 (x + 1) = rgF a b s0 x ||| bitL (nI x) := if_pos (bI_nz.mp c_81)
         rw [← e]
         refine AW.sub (L' := [(0, .ref 64), (1, .int (nI k)), (2, .long (rgF a b s0 (x + 1))), (4, .int (nI i)), (6, .int (nI (x + 1)))]) rfl ?_
         exact ih (x + 1) (by omega))
      | (have e : rgF a b s0 (x + 1) = rgF a b s0 x := if_neg (bI_z.mp c_81)
         rw [← e]
         refine AW.sub (L' := [(0, .ref 64), (1, .int (nI k)), (2, .long (rgF a b s0 (x + 1))), (4, .int (nI i)), (6, .int (nI (x + 1)))]) rfl ?_
         exact ih (x + 1) (by omega))
theorem l_X10_names0 {M : Mem} {N : Nat} {Q : Option Value → Nat → Mem → Prop} {k mn : Nat} (hk3 : k < 384) (hmn : mn ≤ 40) (hmy : rI M 70 k = nI mn) (hw : WFK (rOp M k) (rAr M k) (rA2 M k) mn) (hN : 94 ≤ N) (hs : Str M.2.2.1) (h : Q (some (.long (nmF (rOp M k) (rAr M k) (rA2 M k) mn))) N M) : ∀ (r i : Nat), i + r = mn → AW mX10_names0 3 0 0 N 5 [(0, .ref 64), (1, .int (nI k)), (2, .long (nmF (rOp M k) (rAr M k) (rA2 M k) i)), (4, .int (nI i))] [] M Q := by
  intro r
  induction r with
  | zero =>
    intro i hk
    obtain rfl : i = mn := by omega
    refine a_iload dX10_names0_5 rfl ?_
    refine a_aload_n dX10_names0_7 rfl ?_
    refine a_getA (z := 70) kfX10_26 rfl rfl (st_64_6 hs) (by decide) (hlt hN (by decide)) dX10_names0_8 ?_
    refine a_iload_n dX10_names0_11 rfl ?_
    refine a_iald rfl (by decide) (hlt hN (by decide)) (show vp_in _ 384 from vp_in_nI hk3 (by decide)) dX10_names0_12 ?_
    rw [nI_clamp (by omega), hmy]
    refine a_icmp_ge (tgt := 103) dX10_names0_13 (by decide) (fun c_13 => ?_) (fun c_13 => absurd (nI_le (by omega) (by omega)) c_13)
    refine a_lload_n dX10_names0_103 rfl ?_
    refine a_lret dX10_names0_104 rfl h
  | succ r ih =>
    intro i hk
    have hin : i < mn := by omega
    by_cases o1 : rOp M k i = 1
    · obtain ⟨c, hc, ea⟩ := (hw i hin).1 o1
      refine a_iload dX10_names0_5 rfl ?_
      refine a_aload_n dX10_names0_7 rfl ?_
      refine a_getA (z := 70) kfX10_26 rfl rfl (st_64_6 hs) (by decide) (hlt hN (by decide)) dX10_names0_8 ?_
      refine a_iload_n dX10_names0_11 rfl ?_
      refine a_iald rfl (by decide) (hlt hN (by decide)) (show vp_in _ 384 from vp_in_nI hk3 (by decide)) dX10_names0_12 ?_
      rw [nI_clamp (by omega), hmy]
      refine a_icmp_ge (tgt := 103) dX10_names0_13 (by decide) (fun c_13 => absurd c_13 (nI_ge hin (by omega))) (fun c_13 => ?_)
      refine a_aload_n dX10_names0_16 rfl ?_
      refine a_iload_n dX10_names0_17 rfl ?_
      refine a_iload dX10_names0_18 rfl ?_
      refine a_callV (mc1 := 0) (ms1 := 0) (As := [_, _]) kpX10_opOf kmX10_229 (by decide) rfl (Nat.le_of_ble_eq_true rfl) rfl (by decide) rfl (by decide) (hlt hN (by decide)) (Nat.le_of_ble_eq_true rfl) (Nat.le_of_ble_eq_true rfl) (Nat.le_of_ble_eq_true rfl) dX10_names0_20 (w_X10_opOf hk3 (by omega) hN hs ?_)
      refine a_istore dX10_names0_23 (by decide) ?_
      refine a_iload dX10_names0_25 rfl ?_
      refine a_iconst (v := 1) dX10_names0_27 (by decide) ?_
      refine a_icmp_ne (tgt := 43) dX10_names0_28 (by decide) (fun c_28 => absurd o1 c_28) (fun c_28 => ?_)
      refine a_lload_n dX10_names0_31 rfl ?_
      refine a_lconst (v := 1) dX10_names0_32 (by decide) ?_
      refine a_aload_n dX10_names0_33 rfl ?_
      refine a_iload_n dX10_names0_34 rfl ?_
      refine a_iload dX10_names0_35 rfl ?_
      refine a_callV (mc1 := 0) (ms1 := 0) (As := [_, _]) kpX10_argOf kmX10_233 (by decide) rfl (Nat.le_of_ble_eq_true rfl) rfl (by decide) rfl (by decide) (hlt hN (by decide)) (Nat.le_of_ble_eq_true rfl) (Nat.le_of_ble_eq_true rfl) (Nat.le_of_ble_eq_true rfl) dX10_names0_37 (w_X10_argOf hk3 (by omega) hN hs ?_)
      rw [ea]
      refine a_lshl dX10_names0_40 rfl ?_
      rw [bitL_sh hc]
      refine a_lor dX10_names0_41 ?_
      refine a_lstore_n dX10_names0_42 (by decide) ?_
      refine a_iload dX10_names0_43 rfl ?_
      refine a_iconst (v := 2) dX10_names0_45 (by decide) ?_
      refine a_icmp_eq (tgt := 52) dX10_names0_46 (by decide) (fun c_46 => absurd c_46 (by rw [o1]; decide)) (fun c_46 => ?_)
      refine a_goto (tgt := 97) dX10_names0_49 (by decide) ?_
      refine a_iinc dX10_names0_97 rfl rfl (by decide) ?_
      refine a_goto (tgt := 5) dX10_names0_100 (by decide) ?_
      rw [show nI i + Int32.ofInt 1 = nI (i + 1) from nI_1 i]
      have e : nmF (rOp M k) (rAr M k) (rA2 M k) (i + 1) = nmF (rOp M k) (rAr M k) (rA2 M k) i ||| bitL (nI c) := by show nmT _ _ _ _ = _; unfold nmT; rw [if_pos o1, ea]
      rw [← e]
      refine AW.sub (L' := [(0, .ref 64), (1, .int (nI k)), (2, .long (nmF (rOp M k) (rAr M k) (rA2 M k) (i + 1))), (4, .int (nI (i + 1)))]) rfl ?_
      exact ih (i + 1) (by omega)
    · by_cases o2 : rOp M k i = 2
      · obtain ⟨c, e0, hc, he, ea, eb⟩ := (hw i hin).2 o2
        refine a_iload dX10_names0_5 rfl ?_
        refine a_aload_n dX10_names0_7 rfl ?_
        refine a_getA (z := 70) kfX10_26 rfl rfl (st_64_6 hs) (by decide) (hlt hN (by decide)) dX10_names0_8 ?_
        refine a_iload_n dX10_names0_11 rfl ?_
        refine a_iald rfl (by decide) (hlt hN (by decide)) (show vp_in _ 384 from vp_in_nI hk3 (by decide)) dX10_names0_12 ?_
        rw [nI_clamp (by omega), hmy]
        refine a_icmp_ge (tgt := 103) dX10_names0_13 (by decide) (fun c_13 => absurd c_13 (nI_ge hin (by omega))) (fun c_13 => ?_)
        refine a_aload_n dX10_names0_16 rfl ?_
        refine a_iload_n dX10_names0_17 rfl ?_
        refine a_iload dX10_names0_18 rfl ?_
        refine a_callV (mc1 := 0) (ms1 := 0) (As := [_, _]) kpX10_opOf kmX10_229 (by decide) rfl (Nat.le_of_ble_eq_true rfl) rfl (by decide) rfl (by decide) (hlt hN (by decide)) (Nat.le_of_ble_eq_true rfl) (Nat.le_of_ble_eq_true rfl) (Nat.le_of_ble_eq_true rfl) dX10_names0_20 (w_X10_opOf hk3 (by omega) hN hs ?_)
        refine a_istore dX10_names0_23 (by decide) ?_
        refine a_iload dX10_names0_25 rfl ?_
        refine a_iconst (v := 1) dX10_names0_27 (by decide) ?_
        refine a_icmp_ne (tgt := 43) dX10_names0_28 (by decide) (fun c_28 => ?_) (fun c_28 => absurd c_28 o1)
        refine a_iload dX10_names0_43 rfl ?_
        refine a_iconst (v := 2) dX10_names0_45 (by decide) ?_
        refine a_icmp_eq (tgt := 52) dX10_names0_46 (by decide) (fun c_46 => ?_) (fun c_46 => absurd o2 c_46)
        refine a_iconst (v := 0) dX10_names0_52 (by decide) ?_
        refine a_istore dX10_names0_53 (by decide) ?_
        refine AW.sub (L' := [(0, .ref 64), (1, .int (nI k)), (2, .long (nmF (rOp M k) (rAr M k) (rA2 M k) i)), (4, .int (nI i)), (6, .int (nI 0))]) rfl ?_
        refine l_X10_names0x hk3 (show i < 40 by omega) hc he ea eb hN hs ?_ 64 0 (by omega)
        refine a_iinc dX10_names0_97 rfl rfl (by decide) ?_
        refine a_goto (tgt := 5) dX10_names0_100 (by decide) ?_
        rw [show nI i + Int32.ofInt 1 = nI (i + 1) from nI_1 i]
        have e : nmF (rOp M k) (rAr M k) (rA2 M k) (i + 1) = rgF c e0 (nmF (rOp M k) (rAr M k) (rA2 M k) i) 64 := by show nmT _ _ _ _ = _; unfold nmT; rw [if_neg o1, if_pos o2, ea, eb, nI_clamp (by omega), nI_clamp (by omega)]
        rw [← e]
        refine AW.sub (L' := [(0, .ref 64), (1, .int (nI k)), (2, .long (nmF (rOp M k) (rAr M k) (rA2 M k) (i + 1))), (4, .int (nI (i + 1)))]) rfl ?_
        exact ih (i + 1) (by omega)
      · refine a_iload dX10_names0_5 rfl ?_
        refine a_aload_n dX10_names0_7 rfl ?_
        refine a_getA (z := 70) kfX10_26 rfl rfl (st_64_6 hs) (by decide) (hlt hN (by decide)) dX10_names0_8 ?_
        refine a_iload_n dX10_names0_11 rfl ?_
        refine a_iald rfl (by decide) (hlt hN (by decide)) (show vp_in _ 384 from vp_in_nI hk3 (by decide)) dX10_names0_12 ?_
        rw [nI_clamp (by omega), hmy]
        refine a_icmp_ge (tgt := 103) dX10_names0_13 (by decide) (fun c_13 => absurd c_13 (nI_ge hin (by omega))) (fun c_13 => ?_)
        refine a_aload_n dX10_names0_16 rfl ?_
        refine a_iload_n dX10_names0_17 rfl ?_
        refine a_iload dX10_names0_18 rfl ?_
        refine a_callV (mc1 := 0) (ms1 := 0) (As := [_, _]) kpX10_opOf kmX10_229 (by decide) rfl (Nat.le_of_ble_eq_true rfl) rfl (by decide) rfl (by decide) (hlt hN (by decide)) (Nat.le_of_ble_eq_true rfl) (Nat.le_of_ble_eq_true rfl) (Nat.le_of_ble_eq_true rfl) dX10_names0_20 (w_X10_opOf hk3 (by omega) hN hs ?_)
        refine a_istore dX10_names0_23 (by decide) ?_
        refine a_iload dX10_names0_25 rfl ?_
        refine a_iconst (v := 1) dX10_names0_27 (by decide) ?_
        refine a_icmp_ne (tgt := 43) dX10_names0_28 (by decide) (fun c_28 => ?_) (fun c_28 => absurd c_28 o1)
        refine a_iload dX10_names0_43 rfl ?_
        refine a_iconst (v := 2) dX10_names0_45 (by decide) ?_
        refine a_icmp_eq (tgt := 52) dX10_names0_46 (by decide) (fun c_46 => absurd c_46 o2) (fun c_46 => ?_)
        refine a_goto (tgt := 97) dX10_names0_49 (by decide) ?_
        refine a_iinc dX10_names0_97 rfl rfl (by decide) ?_
        refine a_goto (tgt := 5) dX10_names0_100 (by decide) ?_
        rw [show nI i + Int32.ofInt 1 = nI (i + 1) from nI_1 i]
        have e : nmF (rOp M k) (rAr M k) (rA2 M k) (i + 1) = nmF (rOp M k) (rAr M k) (rA2 M k) i := by show nmT _ _ _ _ = _; unfold nmT; rw [if_neg o1, if_neg o2]
        rw [← e]
        refine AW.sub (L' := [(0, .ref 64), (1, .int (nI k)), (2, .long (nmF (rOp M k) (rAr M k) (rA2 M k) (i + 1))), (4, .int (nI (i + 1)))]) rfl ?_
        exact ih (i + 1) (by omega)
theorem w_X10_names0 {M : Mem} {N : Nat} {Q : Option Value → Nat → Mem → Prop} {k mn : Nat} (hk3 : k < 384) (hmn : mn ≤ 40) (hmy : rI M 70 k = nI mn) (hw : WFK (rOp M k) (rAr M k) (rA2 M k) mn)  (hN : 94 ≤ N) (hs : Str M.2.2.1) (h : Q (some (.long (nmF (rOp M k) (rAr M k) (rA2 M k) mn))) N (M)) : AW mX10_names0 3 0 0 N 0 [(0, .ref 64), (1, .int (nI k))] [] M Q := by
  refine a_lconst (v := 0) dX10_names0_0 (by decide) ?_
  refine a_lstore_n dX10_names0_1 (by decide) ?_
  refine a_iconst (v := 0) dX10_names0_2 (by decide) ?_
  refine a_istore dX10_names0_3 (by decide) ?_
  exact AW.sub (L' := [(0, .ref 64), (1, .int (nI k)), (2, .long (0)), (4, .int (nI 0))]) rfl (l_X10_names0 hk3 hmn hmy hw hN hs h mn 0 (by omega))

theorem w_X10_has {M : Mem} {N : Nat} {Q : Option Value → Nat → Mem → Prop} {s0 : Int64} {x : Nat} (hx : x < 64)  (h : Q (some (.int (bI (hb s0 (nI x) = true)))) N (M)) : AW mX10_has 0 0 0 N 0 [(0, .long s0), (2, .int (nI x))] [] M Q := by
  refine a_lload_n dX10_has_0 rfl ?_
  refine a_iload_n dX10_has_1 rfl ?_
  refine a_lshr dX10_has_2 rfl ?_
  refine a_lconst (v := 1) dX10_has_3 (by decide) ?_
  refine a_land dX10_has_4 ?_
  refine a_lconst (v := 1) dX10_has_5 (by decide) ?_
  refine a_lcmp dX10_has_6 ?_
  refine a_if_ne (tgt := 14) dX10_has_7 (by decide) (fun c_7 => ?_) (fun c_7 => ?_)
  · refine a_iconst (v := 0) dX10_has_14 (by decide) ?_
    refine a_zret dX10_has_15 rfl (by decide) (by first | exact ret_t (by rw [hb_bv hx]; exact (has_bv hx).mp ((lg_cmp_eq _ _).mp c_7)) h | exact ret_f (by rw [hb_bv hx]; exact fun z => c_7 ((lg_cmp_eq _ _).mpr ((has_bv hx).mpr z))) h)
  · refine a_iconst (v := 1) dX10_has_10 (by decide) ?_
    refine a_goto (tgt := 15) dX10_has_11 (by decide) ?_
    refine a_zret dX10_has_15 rfl (by decide) (by first | exact ret_t (by rw [hb_bv hx]; exact (has_bv hx).mp ((lg_cmp_eq _ _).mp c_7)) h | exact ret_f (by rw [hb_bv hx]; exact fun z => c_7 ((lg_cmp_eq _ _).mpr ((has_bv hx).mpr z))) h)

abbrev tdP (M : Mem) (x c : Nat) (r : Int32) : Prop := ¬ rI M 77 x = 0 ∨ (¬ r = 0 ∧ ¬ x = c ∧ 0 < (rI M 78 x).toInt)
theorem w_X10_isTold {M : Mem} {N : Nat} {Q : Option Value → Nat → Mem → Prop} {x c : Nat} (hx : x < 64) (hc : c < 64) {r : Int32}  (hN : 94 ≤ N) (hs : Str M.2.2.1) (h : Q (some (.int (bI (tdP M x c r)))) N (M)) : AW mX10_isTold 1 0 0 N 0 [(0, .ref 64), (1, .int (nI x)), (2, .int (nI c)), (3, .int r)] [] M Q := by
  refine a_aload_n dX10_isTold_0 rfl ?_
  refine a_getA (z := 77) kfX10_48 rfl rfl (st_64_13 hs) (by decide) (hlt hN (by decide)) dX10_isTold_1 ?_
  refine a_iload_n dX10_isTold_4 rfl ?_
  refine a_zald rfl (by decide) (hlt hN (by decide)) (show vp_in _ 64 from j64_in hx) dX10_isTold_5 ?_
  rw [j64_c hx]
  refine a_if_ne (tgt := 26) dX10_isTold_6 (by decide) (fun c_6 => ?_) (fun c_6 => ?_)
  · refine a_iconst (v := 1) dX10_isTold_26 (by decide) ?_
    refine a_goto (tgt := 31) dX10_isTold_27 (by decide) ?_
    refine a_zret dX10_isTold_31 rfl (by decide) (by first | (have e : ¬ rI M 77 x = 0 := c_6; exact ret_t (Or.inl e) h) | (have e : rI M 77 x = 0 := c_6; first | (have e2 : r = 0 := c_10; exact ret_f (fun z => z.elim (fun y => y e) (fun y => y.1 e2)) h) | (have e2 : nI x = nI c := c_15; exact ret_f (fun z => z.elim (fun y => y e) (fun y => y.2.1 ((nI_eq (by omega) (by omega)).mp e2))) h) | (have e3 : bI (0 < (rI M 78 x).toInt) = 0 := c_23; exact ret_f (fun z => z.elim (fun y => y e) (fun y => bI_z.mp e3 y.2.2)) h) | exact ret_t (Or.inr ⟨c_10, fun z => c_15 (by rw [z]), bI_nz.mp c_23⟩) h))
  · refine a_iload_n dX10_isTold_9 rfl ?_
    refine a_if_eq (tgt := 30) dX10_isTold_10 (by decide) (fun c_10 => ?_) (fun c_10 => ?_)
    · refine a_iconst (v := 0) dX10_isTold_30 (by decide) ?_
      refine a_zret dX10_isTold_31 rfl (by decide) (by first | (have e : ¬ rI M 77 x = 0 := c_6; exact ret_t (Or.inl e) h) | (have e : rI M 77 x = 0 := c_6; first | (have e2 : r = 0 := c_10; exact ret_f (fun z => z.elim (fun y => y e) (fun y => y.1 e2)) h) | (have e2 : nI x = nI c := c_15; exact ret_f (fun z => z.elim (fun y => y e) (fun y => y.2.1 ((nI_eq (by omega) (by omega)).mp e2))) h) | (have e3 : bI (0 < (rI M 78 x).toInt) = 0 := c_23; exact ret_f (fun z => z.elim (fun y => y e) (fun y => bI_z.mp e3 y.2.2)) h) | exact ret_t (Or.inr ⟨c_10, fun z => c_15 (by rw [z]), bI_nz.mp c_23⟩) h))
    · refine a_iload_n dX10_isTold_13 rfl ?_
      refine a_iload_n dX10_isTold_14 rfl ?_
      refine a_icmp_eq (tgt := 30) dX10_isTold_15 (by decide) (fun c_15 => ?_) (fun c_15 => ?_)
      · refine a_iconst (v := 0) dX10_isTold_30 (by decide) ?_
        refine a_zret dX10_isTold_31 rfl (by decide) (by first | (have e : ¬ rI M 77 x = 0 := c_6; exact ret_t (Or.inl e) h) | (have e : rI M 77 x = 0 := c_6; first | (have e2 : r = 0 := c_10; exact ret_f (fun z => z.elim (fun y => y e) (fun y => y.1 e2)) h) | (have e2 : nI x = nI c := c_15; exact ret_f (fun z => z.elim (fun y => y e) (fun y => y.2.1 ((nI_eq (by omega) (by omega)).mp e2))) h) | (have e3 : bI (0 < (rI M 78 x).toInt) = 0 := c_23; exact ret_f (fun z => z.elim (fun y => y e) (fun y => bI_z.mp e3 y.2.2)) h) | exact ret_t (Or.inr ⟨c_10, fun z => c_15 (by rw [z]), bI_nz.mp c_23⟩) h))
      · refine a_aload_n dX10_isTold_18 rfl ?_
        refine a_iload_n dX10_isTold_19 rfl ?_
        refine a_callV (mc1 := 0) (ms1 := 0) (As := [_]) kpX10_isWanted kmX10_201 (by decide) rfl (Nat.le_of_ble_eq_true rfl) rfl (by decide) rfl (by decide) (hlt hN (by decide)) (Nat.le_of_ble_eq_true rfl) (Nat.le_of_ble_eq_true rfl) (Nat.le_of_ble_eq_true rfl) dX10_isTold_20 (w_X10_isWanted hx hN hs ?_)
        refine a_if_eq (tgt := 30) dX10_isTold_23 (by decide) (fun c_23 => ?_) (fun c_23 => ?_)
        · refine a_iconst (v := 0) dX10_isTold_30 (by decide) ?_
          refine a_zret dX10_isTold_31 rfl (by decide) (by first | (have e : ¬ rI M 77 x = 0 := c_6; exact ret_t (Or.inl e) h) | (have e : rI M 77 x = 0 := c_6; first | (have e2 : r = 0 := c_10; exact ret_f (fun z => z.elim (fun y => y e) (fun y => y.1 e2)) h) | (have e2 : nI x = nI c := c_15; exact ret_f (fun z => z.elim (fun y => y e) (fun y => y.2.1 ((nI_eq (by omega) (by omega)).mp e2))) h) | (have e3 : bI (0 < (rI M 78 x).toInt) = 0 := c_23; exact ret_f (fun z => z.elim (fun y => y e) (fun y => bI_z.mp e3 y.2.2)) h) | exact ret_t (Or.inr ⟨c_10, fun z => c_15 (by rw [z]), bI_nz.mp c_23⟩) h))
        · refine a_iconst (v := 1) dX10_isTold_26 (by decide) ?_
          refine a_goto (tgt := 31) dX10_isTold_27 (by decide) ?_
          refine a_zret dX10_isTold_31 rfl (by decide) (by first | (have e : ¬ rI M 77 x = 0 := c_6; exact ret_t (Or.inl e) h) | (have e : rI M 77 x = 0 := c_6; first | (have e2 : r = 0 := c_10; exact ret_f (fun z => z.elim (fun y => y e) (fun y => y.1 e2)) h) | (have e2 : nI x = nI c := c_15; exact ret_f (fun z => z.elim (fun y => y e) (fun y => y.2.1 ((nI_eq (by omega) (by omega)).mp e2))) h) | (have e3 : bI (0 < (rI M 78 x).toInt) = 0 := c_23; exact ret_f (fun z => z.elim (fun y => y e) (fun y => bI_z.mp e3 y.2.2)) h) | exact ret_t (Or.inr ⟨c_10, fun z => c_15 (by rw [z]), bI_nz.mp c_23⟩) h))

