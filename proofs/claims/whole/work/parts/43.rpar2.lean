theorem nI_z {k : Nat} (h : k < 2147483648) : nI k = 0 ↔ k = 0 := nI_eq (b := 0) h (by decide)
/-- what the checks of the reader ask for -/
def RB (k : Nat) (s : RS) : Prop := s.1 ≤ k ∧ s.2.1 ≤ 2
theorem RB.fl {k w : Nat} {s : RS} (hw : w ≤ 2) (h : RB k s) : RB k (flR w s) := by
  unfold flR
  split
  · exact ⟨h.1, hw⟩
  · exact h
theorem RB.av {k : Nat} {s : RS} (h : RB k s) : RB (k + 1) (avR s) := ⟨Nat.succ_le_succ h.1, h.2⟩
theorem RB.mu {u : Nat → Int32} {n k : Nat} {c : Int32} {s : RS} (h : RB k s) : RB (k + 1) (muR u n c s) := by
  unfold muR
  split
  · exact h.av
  · exact (h.fl (by decide)).av
theorem RB.up {k k' : Nat} {s : RS} (hk : k ≤ k') (h : RB k s) : RB k' s := ⟨Nat.le_trans h.1 hk, h.2⟩
def nrL (u : Nat → Int32) (n p0 : Nat) : Nat → Int32 → RS → Int32 × RS
  | 0, v, s => (v, s)
  | r + 1, v, s => if s.2.1 = 0 then (if 48 ≤ (hrR u n s).toInt ∧ (hrR u n s).toInt ≤ 57 then nrL u n p0 r (10 * v + hrR u n s - 48) (avR (if s.1 = p0 + 4 then flR 1 s else s)) else (v, s)) else (v, s)
theorem hr_fl {u : Nat → Int32} {n w : Nat} {s : RS} : hrR u n (flR w s) = hrR u n s := by unfold hrR; rw [flR_1]
theorem dig_lt {u : Nat → Int32} {n : Nat} {s : RS} (h : 48 ≤ (hrR u n s).toInt ∧ (hrR u n s).toInt ≤ 57) : s.1 < n := by
  unfold hrR at h
  split at h
  · assumption
  · exact absurd h.1 (by decide)
theorem e_X10_readNumber {M : Mem} {N : Nat} {Q : Option Value → Nat → Mem → Prop} {n : Nat} (hn : n ≤ 40) (he : rI M 64 23 = nI n) {s : RS} {p0 : Nat} {v : Int32} (hb1 : s.1 < 1000) (hN : 94 ≤ N) (hs : Str M.2.2.1) (h : AW mX10_readNumber 2 0 0 N 7 [(2, .int (10 * v + hrR (rI M 65) n s - 48)), (0, .ref 64), (1, .int (nI p0))] [] (wr M (avR s)) Q) : AW mX10_readNumber 2 0 0 N 40 [(0, .ref 64), (1, .int (nI p0)), (2, .int v)] [] (wr M s) Q := by
  refine a_bipush (v := 10) dX10_readNumber_40 (by decide) ?_
  refine a_iload_n dX10_readNumber_42 rfl ?_
  refine a_imul dX10_readNumber_43 ?_
  refine a_aload_n dX10_readNumber_44 rfl ?_
  refine a_callV (mc1 := 0) (ms1 := 0) (As := []) kpX10_here kmX10_158 (by decide) rfl (Nat.le_of_ble_eq_true rfl) rfl (by decide) rfl (by decide) (hlt hN (by decide)) (Nat.le_of_ble_eq_true rfl) (Nat.le_of_ble_eq_true rfl) (Nat.le_of_ble_eq_true rfl) dX10_readNumber_45 (w_X10_here (M := M) (s := s) hn he hb1 hN (by exact hs) ?_)
  skip
  refine a_iadd dX10_readNumber_48 ?_
  refine a_bipush (v := 48) dX10_readNumber_49 (by decide) ?_
  refine a_isub dX10_readNumber_51 ?_
  refine a_istore_n dX10_readNumber_52 (by decide) ?_
  refine a_aload_n dX10_readNumber_53 rfl ?_
  refine a_dup dX10_readNumber_54 rfl ?_
  refine a_getI kfX10_126 rfl rfl (by decide) (hlt hN (by decide)) dX10_readNumber_55 ?_
  rw [wr_at]
  refine a_iconst (v := 1) dX10_readNumber_58 (by decide) ?_
  refine a_iadd dX10_readNumber_59 ?_
  rw [nI_1]
  refine a_putI kfX10_126 rfl rfl rfl (by decide) (hlt hN (by decide)) dX10_readNumber_60 ?_
  rw [wr_sat]
  refine a_goto (tgt := 7) dX10_readNumber_63 (by decide) ?_
  exact h
theorem l_X10_readNumber {M : Mem} {N : Nat} {Q : Option Value → Nat → Mem → Prop} {n : Nat} (hn : n ≤ 40) (he : rI M 64 23 = nI n) {p0 : Nat} (hp0 : p0 ≤ 100) (hN : 94 ≤ N) (hs : Str M.2.2.1) : ∀ (r : Nat) (v : Int32) (s : RS), n < s.1 + r → RB (n + 1) s → Q (some (.int (nrL (rI M 65) n p0 r v s).1)) N (wr M (nrL (rI M 65) n p0 r v s).2) → AW mX10_readNumber 2 0 0 N 7 [(0, .ref 64), (1, .int (nI p0)), (2, .int v)] [] (wr M s) Q := by
  intro r
  induction r with
  | zero =>
    intro v s hr hb h
    refine a_aload_n dX10_readNumber_7 rfl ?_
    refine a_getI kfX10_132 rfl rfl (by decide) (hlt hN (by decide)) dX10_readNumber_8 ?_
    rw [wr_bad]
    refine a_if_ne (tgt := 66) dX10_readNumber_11 (by decide) (fun c_11 => ?_) (fun c_11 => ?_)
    · refine a_iload_n dX10_readNumber_66 rfl ?_
      refine a_iret dX10_readNumber_67 rfl h
    · refine a_aload_n dX10_readNumber_14 rfl ?_
      refine a_callV (mc1 := 0) (ms1 := 0) (As := []) kpX10_seesDigit kmX10_162 (by decide) rfl (Nat.le_of_ble_eq_true rfl) rfl (by decide) rfl (by decide) (hlt hN (by decide)) (Nat.le_of_ble_eq_true rfl) (Nat.le_of_ble_eq_true rfl) (Nat.le_of_ble_eq_true rfl) dX10_readNumber_15 (w_X10_seesDigit (M := M) hn he (by have := hb.1; omega) hN (by exact hs) ?_)
      refine a_if_eq (tgt := 66) dX10_readNumber_18 (by decide) (fun c_18 => ?_) (fun c_18 => absurd (bI_z.mpr (fun z => absurd (dig_lt z) (by omega))) c_18)
      refine a_iload_n dX10_readNumber_66 rfl ?_
      refine a_iret dX10_readNumber_67 rfl h
  | succ r ih =>
    intro v s hr hb h
    by_cases e4 : s.1 = p0 + 4
    · refine a_aload_n dX10_readNumber_7 rfl ?_
      refine a_getI kfX10_132 rfl rfl (by decide) (hlt hN (by decide)) dX10_readNumber_8 ?_
      rw [wr_bad]
      refine a_if_ne (tgt := 66) dX10_readNumber_11 (by decide) (fun c_11 => ?_) (fun c_11 => ?_)
      · have b0 : ¬ s.2.1 = 0 := fun z => c_11 (by rw [z]; rfl)
        refine a_iload_n dX10_readNumber_66 rfl ?_
        refine a_iret dX10_readNumber_67 rfl (by first | (rw [show nrL (rI M 65) n p0 (r + 1) v s = (v, s) from if_neg b0] at h; exact h) | (rw [show nrL (rI M 65) n p0 (r + 1) v s = (v, s) from (if_pos b0).trans (if_neg (bI_z.mp c_18))] at h; exact h))
      · have b0 : s.2.1 = 0 := (nI_z (by have := hb.2; omega)).mp c_11
        refine a_aload_n dX10_readNumber_14 rfl ?_
        refine a_callV (mc1 := 0) (ms1 := 0) (As := []) kpX10_seesDigit kmX10_162 (by decide) rfl (Nat.le_of_ble_eq_true rfl) rfl (by decide) rfl (by decide) (hlt hN (by decide)) (Nat.le_of_ble_eq_true rfl) (Nat.le_of_ble_eq_true rfl) (Nat.le_of_ble_eq_true rfl) dX10_readNumber_15 (w_X10_seesDigit (M := M) hn he (by have := hb.1; omega) hN (by exact hs) ?_)
        refine a_if_eq (tgt := 66) dX10_readNumber_18 (by decide) (fun c_18 => ?_) (fun c_18 => ?_)
        · refine a_iload_n dX10_readNumber_66 rfl ?_
          refine a_iret dX10_readNumber_67 rfl (by first | (rw [show nrL (rI M 65) n p0 (r + 1) v s = (v, s) from if_neg b0] at h; exact h) | (rw [show nrL (rI M 65) n p0 (r + 1) v s = (v, s) from (if_pos b0).trans (if_neg (bI_z.mp c_18))] at h; exact h))
        · refine a_aload_n dX10_readNumber_21 rfl ?_
          refine a_getI kfX10_126 rfl rfl (by decide) (hlt hN (by decide)) dX10_readNumber_22 ?_
          rw [wr_at]
          refine a_iload_n dX10_readNumber_25 rfl ?_
          refine a_iconst (v := 4) dX10_readNumber_26 (by decide) ?_
          refine a_iadd dX10_readNumber_27 ?_
          refine a_icmp_ne (tgt := 40) dX10_readNumber_28 (by decide) (fun c_28 => absurd (by rw [e4, ← nI_add]; rfl) c_28) (fun c_28 => ?_)
          refine a_aload_n dX10_readNumber_31 rfl ?_
          refine a_iconst (v := 1) dX10_readNumber_32 (by decide) ?_
          refine a_aload_n dX10_readNumber_33 rfl ?_
          refine a_getI kfX10_126 rfl rfl (by decide) (hlt hN (by decide)) dX10_readNumber_34 ?_
          rw [wr_at]
          refine a_callV (mc1 := 0) (ms1 := 0) (As := [_, _]) kpX10_fails kmX10_151 (by decide) rfl (Nat.le_of_ble_eq_true rfl) rfl (by decide) rfl (by decide) (hlt hN (by decide)) (Nat.le_of_ble_eq_true rfl) (Nat.le_of_ble_eq_true rfl) (Nat.le_of_ble_eq_true rfl) dX10_readNumber_37 (w_X10_fails (w := 1) (M := M) (s := s) hn he (by have := hb.2; omega) hN (by exact hs) ?_)
          refine AW.sub (L' := [(0, .ref 64), (1, .int (nI p0)), (2, .int v)]) rfl ?_
          refine e_X10_readNumber (s := flR 1 s) hn he (by have := hb.1; rw [flR_1]; omega) hN (by exact hs) ?_
          refine AW.sub (L' := [(0, .ref 64), (1, .int (nI p0)), (2, .int (10 * v + hrR (rI M 65) n (flR 1 s) - 48))]) rfl ?_
          refine ih _ (avR (flR 1 s)) (by show n < (flR 1 s).1 + 1 + r; rw [flR_1]; omega) ⟨by show (flR 1 s).1 + 1 ≤ n + 1; rw [flR_1]; have := dig_lt (bI_nz.mp c_18); omega, (hb.fl (w := 1) (by decide)).2⟩ ?_
          rw [show nrL (rI M 65) n p0 (r + 1) v s = nrL (rI M 65) n p0 r (10 * v + hrR (rI M 65) n (flR 1 s) - 48) (avR (flR 1 s)) from by rw [hr_fl]; exact (if_pos b0).trans ((if_pos (bI_nz.mp c_18)).trans (by rw [if_pos e4]))] at h
          exact h
    · refine a_aload_n dX10_readNumber_7 rfl ?_
      refine a_getI kfX10_132 rfl rfl (by decide) (hlt hN (by decide)) dX10_readNumber_8 ?_
      rw [wr_bad]
      refine a_if_ne (tgt := 66) dX10_readNumber_11 (by decide) (fun c_11 => ?_) (fun c_11 => ?_)
      · have b0 : ¬ s.2.1 = 0 := fun z => c_11 (by rw [z]; rfl)
        refine a_iload_n dX10_readNumber_66 rfl ?_
        refine a_iret dX10_readNumber_67 rfl (by first | (rw [show nrL (rI M 65) n p0 (r + 1) v s = (v, s) from if_neg b0] at h; exact h) | (rw [show nrL (rI M 65) n p0 (r + 1) v s = (v, s) from (if_pos b0).trans (if_neg (bI_z.mp c_18))] at h; exact h))
      · have b0 : s.2.1 = 0 := (nI_z (by have := hb.2; omega)).mp c_11
        refine a_aload_n dX10_readNumber_14 rfl ?_
        refine a_callV (mc1 := 0) (ms1 := 0) (As := []) kpX10_seesDigit kmX10_162 (by decide) rfl (Nat.le_of_ble_eq_true rfl) rfl (by decide) rfl (by decide) (hlt hN (by decide)) (Nat.le_of_ble_eq_true rfl) (Nat.le_of_ble_eq_true rfl) (Nat.le_of_ble_eq_true rfl) dX10_readNumber_15 (w_X10_seesDigit (M := M) hn he (by have := hb.1; omega) hN (by exact hs) ?_)
        refine a_if_eq (tgt := 66) dX10_readNumber_18 (by decide) (fun c_18 => ?_) (fun c_18 => ?_)
        · refine a_iload_n dX10_readNumber_66 rfl ?_
          refine a_iret dX10_readNumber_67 rfl (by first | (rw [show nrL (rI M 65) n p0 (r + 1) v s = (v, s) from if_neg b0] at h; exact h) | (rw [show nrL (rI M 65) n p0 (r + 1) v s = (v, s) from (if_pos b0).trans (if_neg (bI_z.mp c_18))] at h; exact h))
        · refine a_aload_n dX10_readNumber_21 rfl ?_
          refine a_getI kfX10_126 rfl rfl (by decide) (hlt hN (by decide)) dX10_readNumber_22 ?_
          rw [wr_at]
          refine a_iload_n dX10_readNumber_25 rfl ?_
          refine a_iconst (v := 4) dX10_readNumber_26 (by decide) ?_
          refine a_iadd dX10_readNumber_27 ?_
          refine a_icmp_ne (tgt := 40) dX10_readNumber_28 (by decide) (fun c_28 => ?_) (fun c_28 => absurd c_28 (fun z => e4 ((nI_eq (by have := hb.1; omega) (by omega)).mp (by rw [← nI_add]; exact z))))
          refine AW.sub (L' := [(0, .ref 64), (1, .int (nI p0)), (2, .int v)]) rfl ?_
          refine e_X10_readNumber hn he (by have := hb.1; omega) hN (by exact hs) ?_
          refine AW.sub (L' := [(0, .ref 64), (1, .int (nI p0)), (2, .int (10 * v + hrR (rI M 65) n s - 48))]) rfl ?_
          refine ih _ (avR s) (by show n < s.1 + 1 + r; omega) ⟨by show s.1 + 1 ≤ n + 1; have := dig_lt (bI_nz.mp c_18); omega, hb.2⟩ ?_
          rw [show nrL (rI M 65) n p0 (r + 1) v s = nrL (rI M 65) n p0 r (10 * v + hrR (rI M 65) n s - 48) (avR s) from (if_pos b0).trans ((if_pos (bI_nz.mp c_18)).trans (by rw [if_neg e4]))] at h
          exact h
def nrR (u : Nat → Int32) (n : Nat) (s : RS) : Int32 × RS := nrL u n s.1 (n + 1) 0 s
theorem w_X10_readNumber {M : Mem} {N : Nat} {Q : Option Value → Nat → Mem → Prop} {n : Nat} (hn : n ≤ 40) (he : rI M 64 23 = nI n) {s : RS} (hb : RB (n + 1) s)  (hN : 94 ≤ N) (hs : Str M.2.2.1) (h : Q (some (.int (nrR (rI M 65) n s).1)) N (wr M (nrR (rI M 65) n s).2)) : AW mX10_readNumber 2 0 0 N 0 [(0, .ref 64)] [] (wr M s) Q := by
  refine a_aload_n dX10_readNumber_0 rfl ?_
  refine a_getI kfX10_126 rfl rfl (by decide) (hlt hN (by decide)) dX10_readNumber_1 ?_
  rw [wr_at]
  refine a_istore_n dX10_readNumber_4 (by decide) ?_
  refine a_iconst (v := 0) dX10_readNumber_5 (by decide) ?_
  refine a_istore_n dX10_readNumber_6 (by decide) ?_
  refine AW.sub (L' := [(0, .ref 64), (1, .int (nI s.1)), (2, .int 0)]) rfl ?_
  exact l_X10_readNumber hn he (by have := hb.1; omega) hN hs (n + 1) 0 s (by omega) hb h

/-- a letter or digit of a cell: asked for, stepped over -/
def ckR (u : Nat → Int32) (n : Nat) (b : Int32) (s : RS) : RS := avR (if 0 ≤ (hrR u n s - b).toInt ∧ (hrR u n s - b).toInt ≤ 7 then s else flR 1 s)
def clR (u : Nat → Int32) (n : Nat) (s : RS) : Int32 × RS := (8 * (hrR u n (ckR u n 65 s) - 49) + (hrR u n s - 65), ckR u n 49 (ckR u n 65 s))
theorem RB.ck {u : Nat → Int32} {n k : Nat} {b : Int32} {s : RS} (h : RB k s) : RB (k + 1) (ckR u n b s) := by
  unfold ckR
  split
  · exact h.av
  · exact (h.fl (by decide)).av
theorem RB.cl {u : Nat → Int32} {n k : Nat} {s : RS} (h : RB k s) : RB (k + 2) (clR u n s).2 := h.ck.ck
theorem e_X10_readCell3 {M : Mem} {N : Nat} {Q : Option Value → Nat → Mem → Prop} {n : Nat} (hn : n ≤ 40) (he : rI M 64 23 = nI n) {s : RS} {x y : Int32} (hN : 94 ≤ N) (hs : Str M.2.2.1) (h : Q (some (.int (8 * y + x))) N (wr M (avR s))) : AW mX10_readCell 2 0 0 N 64 [(0, .ref 64), (1, .int x), (2, .int y)] [] (wr M s) Q := by
  refine a_aload_n dX10_readCell_64 rfl ?_
  refine a_dup dX10_readCell_65 rfl ?_
  refine a_getI kfX10_126 rfl rfl (by decide) (hlt hN (by decide)) dX10_readCell_66 ?_
  rw [wr_at]
  refine a_iconst (v := 1) dX10_readCell_69 (by decide) ?_
  refine a_iadd dX10_readCell_70 ?_
  rw [nI_1]
  refine a_putI kfX10_126 rfl rfl rfl (by decide) (hlt hN (by decide)) dX10_readCell_71 ?_
  rw [wr_sat]
  refine a_bipush (v := 8) dX10_readCell_74 (by decide) ?_
  refine a_iload_n dX10_readCell_76 rfl ?_
  refine a_imul dX10_readCell_77 ?_
  refine a_iload_n dX10_readCell_78 rfl ?_
  refine a_iadd dX10_readCell_79 ?_
  refine a_iret dX10_readCell_80 rfl h
theorem e_X10_readCell2 {M : Mem} {N : Nat} {Q : Option Value → Nat → Mem → Prop} {n : Nat} (hn : n ≤ 40) (he : rI M 64 23 = nI n) {s : RS} (hb : RB 100 s) {x : Int32} (hN : 94 ≤ N) (hs : Str M.2.2.1) (h : Q (some (.int (8 * (hrR (rI M 65) n s - 49) + x))) N (wr M (ckR (rI M 65) n 49 s))) : AW mX10_readCell 2 0 0 N 37 [(0, .ref 64), (1, .int x)] [] (wr M s) Q := by
  refine a_aload_n dX10_readCell_37 rfl ?_
  refine a_callV (mc1 := 0) (ms1 := 0) (As := []) kpX10_here kmX10_158 (by decide) rfl (Nat.le_of_ble_eq_true rfl) rfl (by decide) rfl (by decide) (hlt hN (by decide)) (Nat.le_of_ble_eq_true rfl) (Nat.le_of_ble_eq_true rfl) (Nat.le_of_ble_eq_true rfl) dX10_readCell_38 (w_X10_here (M := M) hn he (by have := hb.1; omega) hN (by exact hs) ?_)
  refine a_bipush (v := 49) dX10_readCell_41 (by decide) ?_
  refine a_isub dX10_readCell_43 ?_
  refine a_istore_n dX10_readCell_44 (by decide) ?_
  refine a_iload_n dX10_readCell_45 rfl ?_
  refine a_iconst (v := 0) dX10_readCell_46 (by decide) ?_
  refine a_bipush (v := 7) dX10_readCell_47 (by decide) ?_
  refine a_callS (mc1 := 0) (ms1 := 0) (As := [_, _, _]) kpX10_lies kmX10_104 (by decide) rfl (Nat.le_of_ble_eq_true rfl) (Nat.le_of_ble_eq_true rfl) (Nat.le_of_ble_eq_true rfl) (Nat.le_of_ble_eq_true rfl) dX10_readCell_49 (w_X10_lies ?_)
  refine a_if_ne (tgt := 64) dX10_readCell_52 (by decide) (fun c_52 => ?_) (fun c_52 => ?_)
  · rw [bI_nz, tI_0, tI_7] at c_52
    unfold ckR at h
    refine AW.sub (L' := [(0, .ref 64), (1, .int x), (2, .int (hrR (rI M 65) n s - 49))]) rfl ?_
    first
    | (rw [if_pos c_52] at h; exact e_X10_readCell3 hn he hN (by exact hs) h)
    | (rw [if_neg c_52] at h; exact e_X10_readCell3 hn he hN (by exact hs) h)
  · rw [bI_z, tI_0, tI_7] at c_52
    refine a_aload_n dX10_readCell_55 rfl ?_
    refine a_iconst (v := 1) dX10_readCell_56 (by decide) ?_
    refine a_aload_n dX10_readCell_57 rfl ?_
    refine a_getI kfX10_126 rfl rfl (by decide) (hlt hN (by decide)) dX10_readCell_58 ?_
    rw [wr_at]
    refine a_callV (mc1 := 0) (ms1 := 0) (As := [_, _]) kpX10_fails kmX10_151 (by decide) rfl (Nat.le_of_ble_eq_true rfl) rfl (by decide) rfl (by decide) (hlt hN (by decide)) (Nat.le_of_ble_eq_true rfl) (Nat.le_of_ble_eq_true rfl) (Nat.le_of_ble_eq_true rfl) dX10_readCell_61 (w_X10_fails (w := 1) (M := M) (s := s) hn he (by have := hb.2; omega) hN (by exact hs) ?_)
    unfold ckR at h
    refine AW.sub (L' := [(0, .ref 64), (1, .int x), (2, .int (hrR (rI M 65) n s - 49))]) rfl ?_
    first
    | (rw [if_pos c_52] at h; exact e_X10_readCell3 hn he hN (by exact hs) h)
    | (rw [if_neg c_52] at h; exact e_X10_readCell3 hn he hN (by exact hs) h)
theorem e_X10_readCell1 {M : Mem} {N : Nat} {Q : Option Value → Nat → Mem → Prop} {n : Nat} (hn : n ≤ 40) (he : rI M 64 23 = nI n) {s : RS} {x : Int32} (hN : 94 ≤ N) (hs : Str M.2.2.1) (h : AW mX10_readCell 2 0 0 N 37 [(0, .ref 64), (1, .int x)] [] (wr M (avR s)) Q) : AW mX10_readCell 2 0 0 N 27 [(0, .ref 64), (1, .int x)] [] (wr M s) Q := by
  refine a_aload_n dX10_readCell_27 rfl ?_
  refine a_dup dX10_readCell_28 rfl ?_
  refine a_getI kfX10_126 rfl rfl (by decide) (hlt hN (by decide)) dX10_readCell_29 ?_
  rw [wr_at]
  refine a_iconst (v := 1) dX10_readCell_32 (by decide) ?_
  refine a_iadd dX10_readCell_33 ?_
  rw [nI_1]
  refine a_putI kfX10_126 rfl rfl rfl (by decide) (hlt hN (by decide)) dX10_readCell_34 ?_
  rw [wr_sat]
  exact h
theorem w_X10_readCell {M : Mem} {N : Nat} {Q : Option Value → Nat → Mem → Prop} {n : Nat} (hn : n ≤ 40) (he : rI M 64 23 = nI n) {s : RS} (hb : RB 90 s)  (hN : 94 ≤ N) (hs : Str M.2.2.1) (h : Q (some (.int (clR (rI M 65) n s).1)) N (wr M (clR (rI M 65) n s).2)) : AW mX10_readCell 2 0 0 N 0 [(0, .ref 64)] [] (wr M s) Q := by
  refine a_aload_n dX10_readCell_0 rfl ?_
  refine a_callV (mc1 := 0) (ms1 := 0) (As := []) kpX10_here kmX10_158 (by decide) rfl (Nat.le_of_ble_eq_true rfl) rfl (by decide) rfl (by decide) (hlt hN (by decide)) (Nat.le_of_ble_eq_true rfl) (Nat.le_of_ble_eq_true rfl) (Nat.le_of_ble_eq_true rfl) dX10_readCell_1 (w_X10_here (M := M) hn he (by have := hb.1; omega) hN (by exact hs) ?_)
  refine a_bipush (v := 65) dX10_readCell_4 (by decide) ?_
  refine a_isub dX10_readCell_6 ?_
  refine a_istore_n dX10_readCell_7 (by decide) ?_
  refine a_iload_n dX10_readCell_8 rfl ?_
  refine a_iconst (v := 0) dX10_readCell_9 (by decide) ?_
  refine a_bipush (v := 7) dX10_readCell_10 (by decide) ?_
  refine a_callS (mc1 := 0) (ms1 := 0) (As := [_, _, _]) kpX10_lies kmX10_104 (by decide) rfl (Nat.le_of_ble_eq_true rfl) (Nat.le_of_ble_eq_true rfl) (Nat.le_of_ble_eq_true rfl) (Nat.le_of_ble_eq_true rfl) dX10_readCell_12 (w_X10_lies ?_)
  refine a_if_ne (tgt := 27) dX10_readCell_15 (by decide) (fun c_15 => ?_) (fun c_15 => ?_)
  · rw [bI_nz, tI_0, tI_7] at c_15
    refine AW.sub (L' := [(0, .ref 64), (1, .int (hrR (rI M 65) n s - 65))]) rfl ?_
    have ec : ckR (rI M 65) n 65 s = avR (if 0 ≤ (hrR (rI M 65) n s - 65).toInt ∧ (hrR (rI M 65) n s - 65).toInt ≤ 7 then s else flR 1 s) := rfl
    first
    | (rw [if_pos c_15] at ec; refine e_X10_readCell1 hn he hN (by exact hs) ?_; rw [← ec]; exact e_X10_readCell2 hn he (hb.ck.up (by omega)) hN (by exact hs) h)
    | (rw [if_neg c_15] at ec; refine e_X10_readCell1 hn he hN (by exact hs) ?_; rw [← ec]; exact e_X10_readCell2 hn he (hb.ck.up (by omega)) hN (by exact hs) h)
  · rw [bI_z, tI_0, tI_7] at c_15
    refine a_aload_n dX10_readCell_18 rfl ?_
    refine a_iconst (v := 1) dX10_readCell_19 (by decide) ?_
    refine a_aload_n dX10_readCell_20 rfl ?_
    refine a_getI kfX10_126 rfl rfl (by decide) (hlt hN (by decide)) dX10_readCell_21 ?_
    rw [wr_at]
    refine a_callV (mc1 := 0) (ms1 := 0) (As := [_, _]) kpX10_fails kmX10_151 (by decide) rfl (Nat.le_of_ble_eq_true rfl) rfl (by decide) rfl (by decide) (hlt hN (by decide)) (Nat.le_of_ble_eq_true rfl) (Nat.le_of_ble_eq_true rfl) (Nat.le_of_ble_eq_true rfl) dX10_readCell_24 (w_X10_fails (w := 1) (M := M) (s := s) hn he (by have := hb.2; omega) hN (by exact hs) ?_)
    refine AW.sub (L' := [(0, .ref 64), (1, .int (hrR (rI M 65) n s - 65))]) rfl ?_
    have ec : ckR (rI M 65) n 65 s = avR (if 0 ≤ (hrR (rI M 65) n s - 65).toInt ∧ (hrR (rI M 65) n s - 65).toInt ≤ 7 then s else flR 1 s) := rfl
    first
    | (rw [if_pos c_15] at ec; refine e_X10_readCell1 hn he hN (by exact hs) ?_; rw [← ec]; exact e_X10_readCell2 hn he (hb.ck.up (by omega)) hN (by exact hs) h)
    | (rw [if_neg c_15] at ec; refine e_X10_readCell1 hn he hN (by exact hs) ?_; rw [← ec]; exact e_X10_readCell2 hn he (hb.ck.up (by omega)) hN (by exact hs) h)

/-- the pile's top -/
def ptR (s : RS) : Int32 := s.2.2.2.2.2.2 87 (s.2.2.2.2.1 - 1)
def feL : Nat → RS → RS
  | 0, s => s
  | r + 1, s => if 0 < s.2.2.2.2.1 ∧ ptR s = 3 then feL r (opD (joR s)) else s
def feE (s : RS) : RS := if 0 < s.2.2.2.2.1 ∧ (ptR s = 6 ∨ ptR s = 7) then joR s else s
def feR (s : RS) : RS := feE (feL s.2.2.2.2.1 s)
def seR (s : RS) : RS := if 0 < s.2.2.2.2.1 ∧ (ptR s = 4 ∨ ptR s = 5) then joR s else s
theorem tp_pos {k : Nat} (hk : k < 2147483648) (h : ¬ nI k ≤ 0) : 0 < k := by
  rw [show (0 : Int32) = nI 0 from rfl, nI_leI hk (by decide)] at h
  omega
theorem tp_npos {k : Nat} (hk : k < 2147483648) (h : nI k ≤ 0) : ¬ 0 < k := by
  rw [show (0 : Int32) = nI 0 from rfl, nI_leI hk (by decide)] at h
  omega
theorem e_X10_factorEnds {M : Mem} {N : Nat} {Q : Option Value → Nat → Mem → Prop} {n : Nat} (hn : n ≤ 40) (he : rI M 64 23 = nI n) {s : RS} (hmt : s.2.2.2.1 + s.2.2.2.2.1 ≤ 40) (hN : 94 ≤ N) (hs : Str M.2.2.1) (h : Q none N (wr M (feE s))) : AW mX10_factorEnds 2 0 0 N 39 [(0, .ref 64)] [] (wr M s) Q := by
  refine a_aload_n dX10_factorEnds_39 rfl ?_
  refine a_getI kfX10_141 rfl rfl (by decide) (hlt hN (by decide)) dX10_factorEnds_40 ?_
  rw [wr_tp]
  refine a_if_le (tgt := 82) dX10_factorEnds_43 (by decide) (fun c_43 => ?_) (fun c_43 => ?_)
  · have tp : ¬ 0 < s.2.2.2.2.1 := tp_npos (by omega) c_43
    refine a_vret dX10_factorEnds_82 rfl (by unfold feE at h; first | (rw [if_neg (fun z => tp z.1)] at h; exact h) | (have e6 : ptR s = 6 := c_59; rw [if_pos ⟨tp, Or.inl e6⟩] at h; exact h) | (have e7 : ptR s = 7 := c_75; rw [if_pos ⟨tp, Or.inr e7⟩] at h; exact h) | (rw [if_neg (fun z => z.2.elim c_59 c_75)] at h; exact h))
  · have tp : 0 < s.2.2.2.2.1 := tp_pos (by omega) c_43
    refine a_aload_n dX10_factorEnds_46 rfl ?_
    refine a_getA (z := 87) kfX10_79 rfl rfl (st_64_34 hs) (by decide) (hlt hN (by decide)) dX10_factorEnds_47 ?_
    refine a_aload_n dX10_factorEnds_50 rfl ?_
    refine a_getI kfX10_141 rfl rfl (by decide) (hlt hN (by decide)) dX10_factorEnds_51 ?_
    rw [wr_tp]
    refine a_iconst (v := 1) dX10_factorEnds_54 (by decide) ?_
    refine a_isub dX10_factorEnds_55 ?_
    rw [show nI s.2.2.2.2.1 - 1 = nI (s.2.2.2.2.1 - 1) from pk_sub (b := 1) tp]
    refine a_iald rfl (by decide) (hlt hN (by decide)) (show vp_in _ 40 from vp_in_nI (by omega) (by decide)) dX10_factorEnds_56 ?_
    rw [nI_clamp (by omega), wr_r (by decide)]
    refine a_bipush (v := 6) dX10_factorEnds_57 (by decide) ?_
    refine a_icmp_eq (tgt := 78) dX10_factorEnds_59 (by decide) (fun c_59 => ?_) (fun c_59 => ?_)
    · refine a_aload_n dX10_factorEnds_78 rfl ?_
      refine a_callV (mc1 := 0) (ms1 := 0) (As := []) kpX10_joins kmX10_166 (by decide) rfl (Nat.le_of_ble_eq_true rfl) rfl (by decide) rfl (by decide) (hlt hN (by decide)) (Nat.le_of_ble_eq_true rfl) (Nat.le_of_ble_eq_true rfl) (Nat.le_of_ble_eq_true rfl) dX10_factorEnds_79 (w_X10_joins (M := M) hn he (by omega) (by omega) (by omega) hN (by exact hs) ?_)
      refine a_vret dX10_factorEnds_82 rfl (by unfold feE at h; first | (rw [if_neg (fun z => tp z.1)] at h; exact h) | (have e6 : ptR s = 6 := c_59; rw [if_pos ⟨tp, Or.inl e6⟩] at h; exact h) | (have e7 : ptR s = 7 := c_75; rw [if_pos ⟨tp, Or.inr e7⟩] at h; exact h) | (rw [if_neg (fun z => z.2.elim c_59 c_75)] at h; exact h))
    · refine a_aload_n dX10_factorEnds_62 rfl ?_
      refine a_getA (z := 87) kfX10_79 rfl rfl (st_64_34 hs) (by decide) (hlt hN (by decide)) dX10_factorEnds_63 ?_
      refine a_aload_n dX10_factorEnds_66 rfl ?_
      refine a_getI kfX10_141 rfl rfl (by decide) (hlt hN (by decide)) dX10_factorEnds_67 ?_
      rw [wr_tp]
      refine a_iconst (v := 1) dX10_factorEnds_70 (by decide) ?_
      refine a_isub dX10_factorEnds_71 ?_
      rw [show nI s.2.2.2.2.1 - 1 = nI (s.2.2.2.2.1 - 1) from pk_sub (b := 1) tp]
      refine a_iald rfl (by decide) (hlt hN (by decide)) (show vp_in _ 40 from vp_in_nI (by omega) (by decide)) dX10_factorEnds_72 ?_
      rw [nI_clamp (by omega), wr_r (by decide)]
      refine a_bipush (v := 7) dX10_factorEnds_73 (by decide) ?_
      refine a_icmp_ne (tgt := 82) dX10_factorEnds_75 (by decide) (fun c_75 => ?_) (fun c_75 => ?_)
      · refine a_vret dX10_factorEnds_82 rfl (by unfold feE at h; first | (rw [if_neg (fun z => tp z.1)] at h; exact h) | (have e6 : ptR s = 6 := c_59; rw [if_pos ⟨tp, Or.inl e6⟩] at h; exact h) | (have e7 : ptR s = 7 := c_75; rw [if_pos ⟨tp, Or.inr e7⟩] at h; exact h) | (rw [if_neg (fun z => z.2.elim c_59 c_75)] at h; exact h))
      · refine a_aload_n dX10_factorEnds_78 rfl ?_
        refine a_callV (mc1 := 0) (ms1 := 0) (As := []) kpX10_joins kmX10_166 (by decide) rfl (Nat.le_of_ble_eq_true rfl) rfl (by decide) rfl (by decide) (hlt hN (by decide)) (Nat.le_of_ble_eq_true rfl) (Nat.le_of_ble_eq_true rfl) (Nat.le_of_ble_eq_true rfl) dX10_factorEnds_79 (w_X10_joins (M := M) hn he (by omega) (by omega) (by omega) hN (by exact hs) ?_)
        refine a_vret dX10_factorEnds_82 rfl (by unfold feE at h; first | (rw [if_neg (fun z => tp z.1)] at h; exact h) | (have e6 : ptR s = 6 := c_59; rw [if_pos ⟨tp, Or.inl e6⟩] at h; exact h) | (have e7 : ptR s = 7 := c_75; rw [if_pos ⟨tp, Or.inr e7⟩] at h; exact h) | (rw [if_neg (fun z => z.2.elim c_59 c_75)] at h; exact h))
theorem fe_0 {r : Nat} {s : RS} (h : ¬ (0 < s.2.2.2.2.1 ∧ ptR s = 3)) : feL r s = s := by
  cases r with
  | zero => rfl
  | succ r => exact if_neg h
theorem l_X10_factorEnds {M : Mem} {N : Nat} {Q : Option Value → Nat → Mem → Prop} {n : Nat} (hn : n ≤ 40) (he : rI M 64 23 = nI n) (hN : 94 ≤ N) (hs : Str M.2.2.1) : ∀ (r : Nat) (s : RS), s.2.2.2.2.1 ≤ r → s.2.2.2.1 + s.2.2.2.2.1 ≤ 40 → Q none N (wr M (feE (feL r s))) → AW mX10_factorEnds 2 0 0 N 0 [(0, .ref 64)] [] (wr M s) Q := by
  intro r
  induction r with
  | zero =>
    intro s hr hmt h
    refine a_aload_n dX10_factorEnds_0 rfl ?_
    refine a_getI kfX10_141 rfl rfl (by decide) (hlt hN (by decide)) dX10_factorEnds_1 ?_
    rw [wr_tp]
    refine a_if_le (tgt := 39) dX10_factorEnds_4 (by decide) (fun c_4 => ?_) (fun c_4 => ?_)
    · have tp : ¬ 0 < s.2.2.2.2.1 := tp_npos (by omega) c_4
      first
      | (rw [show feL 0 s = s from fe_0 (fun z => tp z.1)] at h; exact e_X10_factorEnds hn he hmt hN (by exact hs) h)
      | (rw [show feL 0 s = s from fe_0 (fun z => c_19 z.2)] at h; exact e_X10_factorEnds hn he hmt hN (by exact hs) h)
    · have tp : 0 < s.2.2.2.2.1 := tp_pos (by omega) c_4
      refine a_aload_n dX10_factorEnds_7 rfl ?_
      refine a_getA (z := 87) kfX10_79 rfl rfl (st_64_34 hs) (by decide) (hlt hN (by decide)) dX10_factorEnds_8 ?_
      refine a_aload_n dX10_factorEnds_11 rfl ?_
      refine a_getI kfX10_141 rfl rfl (by decide) (hlt hN (by decide)) dX10_factorEnds_12 ?_
      rw [wr_tp]
      refine a_iconst (v := 1) dX10_factorEnds_15 (by decide) ?_
      refine a_isub dX10_factorEnds_16 ?_
      rw [show nI s.2.2.2.2.1 - 1 = nI (s.2.2.2.2.1 - 1) from pk_sub (b := 1) tp]
      refine a_iald rfl (by decide) (hlt hN (by decide)) (show vp_in _ 40 from vp_in_nI (by omega) (by decide)) dX10_factorEnds_17 ?_
      rw [nI_clamp (by omega), wr_r (by decide)]
      refine a_iconst (v := 3) dX10_factorEnds_18 (by decide) ?_
      refine a_icmp_ne (tgt := 39) dX10_factorEnds_19 (by decide) (fun c_19 => ?_) (fun c_19 => ?_)
      · first
        | (rw [show feL 0 s = s from fe_0 (fun z => tp z.1)] at h; exact e_X10_factorEnds hn he hmt hN (by exact hs) h)
        | (rw [show feL 0 s = s from fe_0 (fun z => c_19 z.2)] at h; exact e_X10_factorEnds hn he hmt hN (by exact hs) h)
      · refine a_aload_n dX10_factorEnds_22 rfl ?_
        refine a_callV (mc1 := 0) (ms1 := 0) (As := []) kpX10_joins kmX10_166 (by decide) rfl (Nat.le_of_ble_eq_true rfl) rfl (by decide) rfl (by decide) (hlt hN (by decide)) (Nat.le_of_ble_eq_true rfl) (Nat.le_of_ble_eq_true rfl) (Nat.le_of_ble_eq_true rfl) dX10_factorEnds_23 (w_X10_joins (M := M) hn he (by omega) (by omega) (by omega) hN (by exact hs) ?_)
        refine a_aload_n dX10_factorEnds_26 rfl ?_
        refine a_dup dX10_factorEnds_27 rfl ?_
        refine a_getI kfX10_148 rfl rfl (by decide) (hlt hN (by decide)) dX10_factorEnds_28 ?_
        rw [wr_op]
        refine a_iconst (v := 1) dX10_factorEnds_31 (by decide) ?_
        refine a_isub dX10_factorEnds_32 ?_
        refine a_putI kfX10_148 rfl rfl rfl (by decide) (hlt hN (by decide)) dX10_factorEnds_33 ?_
        rw [wr_sop]
        refine a_goto (tgt := 0) dX10_factorEnds_36 (by decide) ?_
        exact absurd tp (by omega)
  | succ r ih =>
    intro s hr hmt h
    refine a_aload_n dX10_factorEnds_0 rfl ?_
    refine a_getI kfX10_141 rfl rfl (by decide) (hlt hN (by decide)) dX10_factorEnds_1 ?_
    rw [wr_tp]
    refine a_if_le (tgt := 39) dX10_factorEnds_4 (by decide) (fun c_4 => ?_) (fun c_4 => ?_)
    · have tp : ¬ 0 < s.2.2.2.2.1 := tp_npos (by omega) c_4
      first
      | (rw [show feL (r + 1) s = s from fe_0 (fun z => tp z.1)] at h; exact e_X10_factorEnds hn he hmt hN (by exact hs) h)
      | (rw [show feL (r + 1) s = s from fe_0 (fun z => c_19 z.2)] at h; exact e_X10_factorEnds hn he hmt hN (by exact hs) h)
    · have tp : 0 < s.2.2.2.2.1 := tp_pos (by omega) c_4
      refine a_aload_n dX10_factorEnds_7 rfl ?_
      refine a_getA (z := 87) kfX10_79 rfl rfl (st_64_34 hs) (by decide) (hlt hN (by decide)) dX10_factorEnds_8 ?_
      refine a_aload_n dX10_factorEnds_11 rfl ?_
      refine a_getI kfX10_141 rfl rfl (by decide) (hlt hN (by decide)) dX10_factorEnds_12 ?_
      rw [wr_tp]
      refine a_iconst (v := 1) dX10_factorEnds_15 (by decide) ?_
      refine a_isub dX10_factorEnds_16 ?_
      rw [show nI s.2.2.2.2.1 - 1 = nI (s.2.2.2.2.1 - 1) from pk_sub (b := 1) tp]
      refine a_iald rfl (by decide) (hlt hN (by decide)) (show vp_in _ 40 from vp_in_nI (by omega) (by decide)) dX10_factorEnds_17 ?_
      rw [nI_clamp (by omega), wr_r (by decide)]
      refine a_iconst (v := 3) dX10_factorEnds_18 (by decide) ?_
      refine a_icmp_ne (tgt := 39) dX10_factorEnds_19 (by decide) (fun c_19 => ?_) (fun c_19 => ?_)
      · first
        | (rw [show feL (r + 1) s = s from fe_0 (fun z => tp z.1)] at h; exact e_X10_factorEnds hn he hmt hN (by exact hs) h)
        | (rw [show feL (r + 1) s = s from fe_0 (fun z => c_19 z.2)] at h; exact e_X10_factorEnds hn he hmt hN (by exact hs) h)
      · refine a_aload_n dX10_factorEnds_22 rfl ?_
        refine a_callV (mc1 := 0) (ms1 := 0) (As := []) kpX10_joins kmX10_166 (by decide) rfl (Nat.le_of_ble_eq_true rfl) rfl (by decide) rfl (by decide) (hlt hN (by decide)) (Nat.le_of_ble_eq_true rfl) (Nat.le_of_ble_eq_true rfl) (Nat.le_of_ble_eq_true rfl) dX10_factorEnds_23 (w_X10_joins (M := M) hn he (by omega) (by omega) (by omega) hN (by exact hs) ?_)
        refine a_aload_n dX10_factorEnds_26 rfl ?_
        refine a_dup dX10_factorEnds_27 rfl ?_
        refine a_getI kfX10_148 rfl rfl (by decide) (hlt hN (by decide)) dX10_factorEnds_28 ?_
        rw [wr_op]
        refine a_iconst (v := 1) dX10_factorEnds_31 (by decide) ?_
        refine a_isub dX10_factorEnds_32 ?_
        refine a_putI kfX10_148 rfl rfl rfl (by decide) (hlt hN (by decide)) dX10_factorEnds_33 ?_
        rw [wr_sop]
        refine a_goto (tgt := 0) dX10_factorEnds_36 (by decide) ?_
        refine ih _ (by show s.2.2.2.2.1 - 1 ≤ r; omega) (by show s.2.2.2.1 + 1 + (s.2.2.2.2.1 - 1) ≤ 40; omega) (by rw [show feL (r + 1) s = feL r (opD (joR s)) from if_pos ⟨tp, c_19⟩] at h; exact h)
theorem w_X10_factorEnds {M : Mem} {N : Nat} {Q : Option Value → Nat → Mem → Prop} {n : Nat} (hn : n ≤ 40) (he : rI M 64 23 = nI n) {s : RS} (hmt : s.2.2.2.1 + s.2.2.2.2.1 ≤ 40) (hN : 94 ≤ N) (hs : Str M.2.2.1) (h : Q none N (wr M (feR s))) : AW mX10_factorEnds 2 0 0 N 0 [(0, .ref 64)] [] (wr M s) Q := l_X10_factorEnds hn he hN hs _ s (Nat.le_refl _) hmt h
theorem w_X10_sumEnds {M : Mem} {N : Nat} {Q : Option Value → Nat → Mem → Prop} {n : Nat} (hn : n ≤ 40) (he : rI M 64 23 = nI n) {s : RS} (hmt : s.2.2.2.1 + s.2.2.2.2.1 ≤ 40)  (hN : 94 ≤ N) (hs : Str M.2.2.1) (h : Q (none) N (wr M (seR s))) : AW mX10_sumEnds 2 0 0 N 0 [(0, .ref 64)] [] (wr M s) Q := by
  refine a_aload_n dX10_sumEnds_0 rfl ?_
  refine a_getI kfX10_141 rfl rfl (by decide) (hlt hN (by decide)) dX10_sumEnds_1 ?_
  rw [wr_tp]
  refine a_if_le (tgt := 41) dX10_sumEnds_4 (by decide) (fun c_4 => ?_) (fun c_4 => ?_)
  · have tp : ¬ 0 < s.2.2.2.2.1 := tp_npos (by omega) c_4
    refine a_vret dX10_sumEnds_41 rfl (by unfold seR at h; first | (rw [if_neg (fun z => tp z.1)] at h; exact h) | (have e6 : ptR s = 4 := c_19; rw [if_pos ⟨tp, Or.inl e6⟩] at h; exact h) | (have e7 : ptR s = 5 := c_34; rw [if_pos ⟨tp, Or.inr e7⟩] at h; exact h) | (rw [if_neg (fun z => z.2.elim c_19 c_34)] at h; exact h))
  · have tp : 0 < s.2.2.2.2.1 := tp_pos (by omega) c_4
    refine a_aload_n dX10_sumEnds_7 rfl ?_
    refine a_getA (z := 87) kfX10_79 rfl rfl (st_64_34 hs) (by decide) (hlt hN (by decide)) dX10_sumEnds_8 ?_
    refine a_aload_n dX10_sumEnds_11 rfl ?_
    refine a_getI kfX10_141 rfl rfl (by decide) (hlt hN (by decide)) dX10_sumEnds_12 ?_
    rw [wr_tp]
    refine a_iconst (v := 1) dX10_sumEnds_15 (by decide) ?_
    refine a_isub dX10_sumEnds_16 ?_
    rw [show nI s.2.2.2.2.1 - 1 = nI (s.2.2.2.2.1 - 1) from pk_sub (b := 1) tp]
    refine a_iald rfl (by decide) (hlt hN (by decide)) (show vp_in _ 40 from vp_in_nI (by omega) (by decide)) dX10_sumEnds_17 ?_
    rw [nI_clamp (by omega), wr_r (by decide)]
    refine a_iconst (v := 4) dX10_sumEnds_18 (by decide) ?_
    refine a_icmp_eq (tgt := 37) dX10_sumEnds_19 (by decide) (fun c_19 => ?_) (fun c_19 => ?_)
    · refine a_aload_n dX10_sumEnds_37 rfl ?_
      refine a_callV (mc1 := 0) (ms1 := 0) (As := []) kpX10_joins kmX10_166 (by decide) rfl (Nat.le_of_ble_eq_true rfl) rfl (by decide) rfl (by decide) (hlt hN (by decide)) (Nat.le_of_ble_eq_true rfl) (Nat.le_of_ble_eq_true rfl) (Nat.le_of_ble_eq_true rfl) dX10_sumEnds_38 (w_X10_joins (M := M) hn he (by omega) (by omega) (by omega) hN (by exact hs) ?_)
      refine a_vret dX10_sumEnds_41 rfl (by unfold seR at h; first | (rw [if_neg (fun z => tp z.1)] at h; exact h) | (have e6 : ptR s = 4 := c_19; rw [if_pos ⟨tp, Or.inl e6⟩] at h; exact h) | (have e7 : ptR s = 5 := c_34; rw [if_pos ⟨tp, Or.inr e7⟩] at h; exact h) | (rw [if_neg (fun z => z.2.elim c_19 c_34)] at h; exact h))
    · refine a_aload_n dX10_sumEnds_22 rfl ?_
      refine a_getA (z := 87) kfX10_79 rfl rfl (st_64_34 hs) (by decide) (hlt hN (by decide)) dX10_sumEnds_23 ?_
      refine a_aload_n dX10_sumEnds_26 rfl ?_
      refine a_getI kfX10_141 rfl rfl (by decide) (hlt hN (by decide)) dX10_sumEnds_27 ?_
      rw [wr_tp]
      refine a_iconst (v := 1) dX10_sumEnds_30 (by decide) ?_
      refine a_isub dX10_sumEnds_31 ?_
      rw [show nI s.2.2.2.2.1 - 1 = nI (s.2.2.2.2.1 - 1) from pk_sub (b := 1) tp]
      refine a_iald rfl (by decide) (hlt hN (by decide)) (show vp_in _ 40 from vp_in_nI (by omega) (by decide)) dX10_sumEnds_32 ?_
      rw [nI_clamp (by omega), wr_r (by decide)]
      refine a_iconst (v := 5) dX10_sumEnds_33 (by decide) ?_
      refine a_icmp_ne (tgt := 41) dX10_sumEnds_34 (by decide) (fun c_34 => ?_) (fun c_34 => ?_)
      · refine a_vret dX10_sumEnds_41 rfl (by unfold seR at h; first | (rw [if_neg (fun z => tp z.1)] at h; exact h) | (have e6 : ptR s = 4 := c_19; rw [if_pos ⟨tp, Or.inl e6⟩] at h; exact h) | (have e7 : ptR s = 5 := c_34; rw [if_pos ⟨tp, Or.inr e7⟩] at h; exact h) | (rw [if_neg (fun z => z.2.elim c_19 c_34)] at h; exact h))
      · refine a_aload_n dX10_sumEnds_37 rfl ?_
        refine a_callV (mc1 := 0) (ms1 := 0) (As := []) kpX10_joins kmX10_166 (by decide) rfl (Nat.le_of_ble_eq_true rfl) rfl (by decide) rfl (by decide) (hlt hN (by decide)) (Nat.le_of_ble_eq_true rfl) (Nat.le_of_ble_eq_true rfl) (Nat.le_of_ble_eq_true rfl) dX10_sumEnds_38 (w_X10_joins (M := M) hn he (by omega) (by omega) (by omega) hN (by exact hs) ?_)
        refine a_vret dX10_sumEnds_41 rfl (by unfold seR at h; first | (rw [if_neg (fun z => tp z.1)] at h; exact h) | (have e6 : ptR s = 4 := c_19; rw [if_pos ⟨tp, Or.inl e6⟩] at h; exact h) | (have e7 : ptR s = 5 := c_34; rw [if_pos ⟨tp, Or.inr e7⟩] at h; exact h) | (rw [if_neg (fun z => z.2.elim c_19 c_34)] at h; exact h))

def joF (c : Int32) : Int32 := if c = 43 then 4 else if c = 45 then 5 else if c = 42 then 6 else if c = 47 then 7 else -1
theorem w_X10_joinOf {M : Mem} {N : Nat} {Q : Option Value → Nat → Mem → Prop} {c : Int32}  (h : Q (some (.int (joF c))) N (M)) : AW mX10_joinOf 0 0 0 N 0 [(0, .int c)] [] M Q := by
  refine a_iload_n dX10_joinOf_0 rfl ?_
  refine a_bipush (v := 43) dX10_joinOf_1 (by decide) ?_
  refine a_icmp_ne (tgt := 10) dX10_joinOf_3 (by decide) (fun c_3 => ?_) (fun c_3 => ?_)
  · refine a_iload_n dX10_joinOf_10 rfl ?_
    refine a_bipush (v := 45) dX10_joinOf_11 (by decide) ?_
    refine a_icmp_ne (tgt := 20) dX10_joinOf_13 (by decide) (fun c_13 => ?_) (fun c_13 => ?_)
    · refine a_iload_n dX10_joinOf_20 rfl ?_
      refine a_bipush (v := 42) dX10_joinOf_21 (by decide) ?_
      refine a_icmp_ne (tgt := 31) dX10_joinOf_23 (by decide) (fun c_23 => ?_) (fun c_23 => ?_)
      · refine a_iload_n dX10_joinOf_31 rfl ?_
        refine a_bipush (v := 47) dX10_joinOf_32 (by decide) ?_
        refine a_icmp_ne (tgt := 42) dX10_joinOf_34 (by decide) (fun c_34 => ?_) (fun c_34 => ?_)
        · refine a_iconst (v := (-1)) dX10_joinOf_42 (by decide) ?_
          refine a_iret dX10_joinOf_43 rfl (ret_i (by unfold joF; first | (rw [if_pos c_3]) | (rw [if_neg c_3, if_pos c_13]) | (rw [if_neg c_3, if_neg c_13, if_pos c_23]) | (rw [if_neg c_3, if_neg c_13, if_neg c_23, if_pos c_34]) | (rw [if_neg c_3, if_neg c_13, if_neg c_23, if_neg c_34])) h)
        · refine a_bipush (v := 7) dX10_joinOf_37 (by decide) ?_
          refine a_goto (tgt := 43) dX10_joinOf_39 (by decide) ?_
          refine a_iret dX10_joinOf_43 rfl (ret_i (by unfold joF; first | (rw [if_pos c_3]) | (rw [if_neg c_3, if_pos c_13]) | (rw [if_neg c_3, if_neg c_13, if_pos c_23]) | (rw [if_neg c_3, if_neg c_13, if_neg c_23, if_pos c_34]) | (rw [if_neg c_3, if_neg c_13, if_neg c_23, if_neg c_34])) h)
      · refine a_bipush (v := 6) dX10_joinOf_26 (by decide) ?_
        refine a_goto (tgt := 43) dX10_joinOf_28 (by decide) ?_
        refine a_iret dX10_joinOf_43 rfl (ret_i (by unfold joF; first | (rw [if_pos c_3]) | (rw [if_neg c_3, if_pos c_13]) | (rw [if_neg c_3, if_neg c_13, if_pos c_23]) | (rw [if_neg c_3, if_neg c_13, if_neg c_23, if_pos c_34]) | (rw [if_neg c_3, if_neg c_13, if_neg c_23, if_neg c_34])) h)
    · refine a_iconst (v := 5) dX10_joinOf_16 (by decide) ?_
      refine a_goto (tgt := 43) dX10_joinOf_17 (by decide) ?_
      refine a_iret dX10_joinOf_43 rfl (ret_i (by unfold joF; first | (rw [if_pos c_3]) | (rw [if_neg c_3, if_pos c_13]) | (rw [if_neg c_3, if_neg c_13, if_pos c_23]) | (rw [if_neg c_3, if_neg c_13, if_neg c_23, if_pos c_34]) | (rw [if_neg c_3, if_neg c_13, if_neg c_23, if_neg c_34])) h)
  · refine a_iconst (v := 4) dX10_joinOf_6 (by decide) ?_
    refine a_goto (tgt := 43) dX10_joinOf_7 (by decide) ?_
    refine a_iret dX10_joinOf_43 rfl (ret_i (by unfold joF; first | (rw [if_pos c_3]) | (rw [if_neg c_3, if_pos c_13]) | (rw [if_neg c_3, if_neg c_13, if_pos c_23]) | (rw [if_neg c_3, if_neg c_13, if_neg c_23, if_pos c_34]) | (rw [if_neg c_3, if_neg c_13, if_neg c_23, if_neg c_34])) h)

