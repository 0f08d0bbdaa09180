/-! the parser: where it is, its fault, how many steps, steps, operands, order -/
abbrev CS : Type := Nat × Int32 × Nat × (Nat → Int32) × (Nat → Int32) × (Nat → Int32)
def wq (M : Mem) (f : Nat) (s : CS) : Mem := (fun a j => if a = f + 5 then (if j = 1 then nI s.1 else if j = 2 then s.2.1 else M.1 a j) else if a = f then (if j = 4 then nI s.2.2.1 else M.1 a j) else if a = f + 2 then s.2.2.2.1 j else if a = f + 3 then s.2.2.2.2.1 j else if a = f + 4 then s.2.2.2.2.2 j else M.1 a j, M.2)
def CIn (m : Nat) (s : CS) : Prop := s.1 ≤ m ∧ s.2.2.1 ≤ m
theorem wq_p {M : Mem} {f : Nat} {s : CS} : rI (wq M f s) (f + 5) 1 = nI s.1 := by
  show (if f + 5 = f + 5 then _ else _) = _
  rw [if_pos rfl]
  rfl
theorem wq_e {M : Mem} {f : Nat} {s : CS} : rI (wq M f s) (f + 5) 2 = s.2.1 := by
  show (if f + 5 = f + 5 then _ else _) = _
  rw [if_pos rfl]
  rfl
theorem wq_z {M : Mem} {f : Nat} {s : CS} : rI (wq M f s) f 4 = nI s.2.2.1 := by
  show (if f = f + 5 then _ else _) = _
  rw [if_neg (by omega)]
  show (if f = f then _ else _) = _
  rw [if_pos rfl]
  rfl
theorem wq_t {M : Mem} {f j : Nat} {s : CS} : rI (wq M f s) (f + 1) j = rI M (f + 1) j := by
  show (if f + 1 = f + 5 then _ else if f + 1 = f then _ else if f + 1 = f + 2 then _ else if f + 1 = f + 3 then _ else if f + 1 = f + 4 then _ else _) = _
  rw [if_neg (by omega), if_neg (by omega), if_neg (by omega), if_neg (by omega), if_neg (by omega)]
  rfl
theorem wq_sE {M : Mem} {f : Nat} {s : CS} {v : Int32} : sI (wq M f s) (f + 5) 2 v = wq M f (s.1, v, s.2.2) := by
  refine Prod.ext ?_ rfl
  funext a j
  show (if a = f + 5 ∧ j = 2 then v else (wq M f s).1 a j) = _
  by_cases ha : a = f + 5
  · subst ha
    by_cases hj : j = 2
    · subst hj; rw [if_pos ⟨rfl, rfl⟩]; exact (wq_e (s := (s.1, v, s.2.2))).symm
    · rw [if_neg (fun z => hj z.2)]
      show (if f + 5 = f + 5 then (if j = 1 then _ else if j = 2 then _ else _) else _) = (if f + 5 = f + 5 then (if j = 1 then _ else if j = 2 then _ else _) else _)
      rw [if_pos rfl, if_pos rfl, if_neg hj, if_neg hj]
  · rw [if_neg (fun z => ha z.1)]
    show (if a = f + 5 then _ else _) = (if a = f + 5 then _ else _)
    rw [if_neg ha, if_neg ha]
theorem wq_sP {M : Mem} {f k : Nat} {s : CS} : sI (wq M f s) (f + 5) 1 (nI k) = wq M f (k, s.2) := by
  refine Prod.ext ?_ rfl
  funext a j
  show (if a = f + 5 ∧ j = 1 then nI k else (wq M f s).1 a j) = _
  by_cases ha : a = f + 5
  · subst ha
    by_cases hj : j = 1
    · subst hj; rw [if_pos ⟨rfl, rfl⟩]; exact (wq_p (s := (k, s.2))).symm
    · rw [if_neg (fun z => hj z.2)]
      show (if f + 5 = f + 5 then (if j = 1 then _ else if j = 2 then _ else _) else _) = (if f + 5 = f + 5 then (if j = 1 then _ else if j = 2 then _ else _) else _)
      rw [if_pos rfl, if_pos rfl, if_neg hj, if_neg hj]
  · rw [if_neg (fun z => ha z.1)]
    show (if a = f + 5 then _ else _) = (if a = f + 5 then _ else _)
    rw [if_neg ha, if_neg ha]
def upC (r : Nat → Int32) (k : Nat) (v : Int32) : Nat → Int32 := fun j => if j = k then v else r j
def adC (m pl : Nat) (st op : Int32) (s : CS) : CS := if pl < m ∧ s.2.2.1 < m then (s.1, s.2.1, s.2.2.1 + 1, upC s.2.2.2.1 pl st, upC s.2.2.2.2.1 pl op, upC s.2.2.2.2.2 s.2.2.1 (nI pl)) else s
theorem wq_ad {M : Mem} {f m pl : Nat} {st op : Int32} {s : CS} : adS (wq M f s) f m pl s.2.2.1 st op = wq M f (adC m pl st op s) := by
  unfold adS adC
  by_cases c : pl < m ∧ s.2.2.1 < m
  · rw [if_pos c, if_pos c]
    refine Prod.ext ?_ rfl
    funext a j
    show (if a = f ∧ j = 4 then _ else if a = f + 4 ∧ j = s.2.2.1 then _ else if a = f + 3 ∧ j = pl then _ else if a = f + 2 ∧ j = pl then _ else (wq M f s).1 a j) = _
    unfold wq upC
    dsimp only
    by_cases h5 : a = f + 5
    · subst h5
      rw [if_neg (by omega), if_neg (by omega), if_neg (by omega), if_neg (by omega), if_pos rfl, if_pos rfl]
    · rw [if_neg h5, if_neg h5]
      by_cases h0 : a = f
      · subst h0
        by_cases hj : j = 4
        · subst hj; rw [if_pos ⟨rfl, rfl⟩, if_pos rfl, if_pos rfl]
        · rw [if_neg (fun z => hj z.2), if_neg (by omega), if_neg (by omega), if_neg (by omega), if_pos rfl, if_pos rfl, if_neg hj, if_neg hj]
      · rw [if_neg (fun z => h0 z.1), if_neg h0, if_neg h0]
        by_cases h2 : a = f + 2
        · subst h2
          rw [if_neg (by omega), if_neg (by omega), if_pos rfl, if_pos rfl]
          by_cases hj : j = pl
          · rw [if_pos ⟨rfl, hj⟩, if_pos hj]
          · rw [if_neg (fun z => hj z.2), if_neg hj]
        · by_cases h3 : a = f + 3
          · subst h3
            rw [if_neg (by omega), if_neg h2, if_neg h2, if_pos rfl, if_pos rfl]
            by_cases hj : j = pl
            · rw [if_pos ⟨rfl, hj⟩, if_pos hj]
            · rw [if_neg (fun z => hj z.2), if_neg (fun z => h2 z.1), if_neg hj]
          · rw [if_neg h2, if_neg h2, if_neg h3, if_neg h3]
            by_cases h4 : a = f + 4
            · subst h4
              rw [if_pos rfl, if_pos rfl]
              by_cases hj : j = s.2.2.1
              · rw [if_pos ⟨rfl, hj⟩, if_pos hj]
              · rw [if_neg (fun z => hj z.2), if_neg (fun z => h3 z.1), if_neg (fun z => h2 z.1), if_neg hj]
            · rw [if_neg (fun z => h4 z.1), if_neg (fun z => h3 z.1), if_neg (fun z => h2 z.1), if_neg h4, if_neg h4]
  · rw [if_neg c, if_neg c]
theorem adC_in {m pl : Nat} {st op : Int32} {s : CS} (h : CIn m s) : CIn m (adC m pl st op s) := by
  unfold adC
  split
  · rename_i c; exact ⟨h.1, c.2⟩
  · exact h
theorem w_addC {M : Mem} {N : Nat} {Q : Option Value → Nat → Mem → Prop} {f m pl : Nat} {st op : Int32} {s : CS} (hf : FoR f N) (hm : FoF M.2.2 f m) (hs : CIn m s) (hp : pl ≤ m) (h : Q none N (wq M f (adC m pl st op s))) : AW mX2_addStep 0 0 0 N 0 [(0, .ref f), (1, .int (nI pl)), (2, .int st), (3, .int op)] [] (wq M f s) Q :=
  w_X2_addStep (M := wq M f s) hf (by exact hm) (by have := fo_40 hm; omega) wq_z (by have := fo_40 hm; have := hs.2; omega) (by rw [wq_ad]; exact h)
def nxC (t : Nat → Int32) (m : Nat) (s : CS) : Int32 := if s.2.1 = 0 then (if s.1 < m then t s.1 else -1) else -1
def flC (r : Int32) (s : CS) : CS := if s.2.1 = 0 then (s.1, 100 * r + nI s.1, s.2.2) else s
def avC (s : CS) : CS := (s.1 + 1, s.2)
def pwC (t : Nat → Int32) (m : Nat) (lo hi : Int32) (s : CS) : Int32 × CS := if nxC t m s < lo ∨ hi < nxC t m s then (lo, flC 1 s) else (nxC t m s, avC s)
def psC (t : Nat → Int32) (m : Nat) (d : Int32) (s : CS) : CS := (pwC t m d d s).2
theorem nx_lt {t : Nat → Int32} {m : Nat} {s : CS} (h : ¬ nxC t m s = -1) : s.1 < m ∧ s.2.1 = 0 := by
  unfold nxC at h
  split at h
  · split at h
    · exact ⟨by assumption, by assumption⟩
    · exact absurd rfl h
  · exact absurd rfl h
theorem avC_in {t : Nat → Int32} {m : Nat} {s : CS} (h : CIn m s) (k : ¬ nxC t m s = -1) : CIn m (avC s) := ⟨(nx_lt k).1, h.2⟩
theorem flC_in {m : Nat} {r : Int32} {s : CS} (h : CIn m s) : CIn m (flC r s) := by unfold flC; split; exact h; exact h
theorem pwC_in {t : Nat → Int32} {m : Nat} {lo hi : Int32} {s : CS} (h : CIn m s) (h0 : 0 ≤ lo) : CIn m (pwC t m lo hi s).2 := by
  unfold pwC
  split
  · exact flC_in h
  · rename_i c
    refine avC_in (t := t) h (fun z => c (Or.inl ?_))
    rw [z]
    rw [Int32.le_iff_toInt_le, tI_0] at h0
    rw [Int32.lt_iff_toInt_lt, tI_m1]
    omega
theorem psC_in {t : Nat → Int32} {m : Nat} {d : Int32} {s : CS} (h : CIn m s) (h0 : 0 ≤ d) : CIn m (psC t m d s) := pwC_in h h0
theorem w_byteC {M : Mem} {N : Nat} {Q : Option Value → Nat → Mem → Prop} {f m : Nat} {s : CS} (hf : FoR f N) (hm : FoF M.2.2 f m) (hi : CIn m s) (h : Q (some (.int (if s.1 < m then rI M (f + 1) s.1 else -1))) N (wq M f s)) : AW mX2_byteAt 0 0 0 N 0 [(0, .ref f), (1, .int (nI s.1))] [] (wq M f s) Q := by
  by_cases c : s.1 < m
  · rw [if_pos c] at h
    exact w_X2_byteAt (M := wq M f s) hf (by exact hm) c (by rw [wq_t]; exact h)
  · rw [if_neg c] at h
    exact w_X2_byteAt_out (M := wq M f s) hf (by exact hm) (by omega) (by have := fo_40 hm; have := hi.1; omega) h
theorem w_X6_next {M : Mem} {N : Nat} {Q : Option Value → Nat → Mem → Prop} {f m : Nat} (hf : FoR f N) (hm : FoF M.2.2 f m) (hpa : PaA M.2.2.1 f) (h5 : f + 5 < N) {s : CS} (hi : CIn m s)  (h : Q (some (.int (nxC (rI M (f + 1)) m s))) N ((wq M f s))) : AW mX6_next 1 0 0 N 0 [(0, .ref (f + 5))] [] (wq M f s) Q := by
  refine a_aload_n dX6_next_0 rfl ?_
  refine a_getI kfX6_35 (pa_k hf) rfl (pa_two hf) h5 dX6_next_1 ?_
  rw [wq_e]
  refine a_if_ne (tgt := 21) dX6_next_4 (by decide) (fun c_4 => ?_) (fun c_4 => ?_)
  · refine a_iconst (v := (-1)) dX6_next_21 (by decide) ?_
    refine a_iret dX6_next_22 rfl (ret_i (by unfold nxC; first | exact if_pos c_4 | exact if_neg c_4) h)
  · refine a_aload_n dX6_next_7 rfl ?_
    refine a_getA (z := f) kfX6_9 (pa_k hf) rfl (pa_0 hpa) (pa_two hf) h5 dX6_next_8 ?_
    refine a_aload_n dX6_next_11 rfl ?_
    refine a_getI kfX6_22 (pa_k hf) rfl (pa_two hf) h5 dX6_next_12 ?_
    rw [wq_p]
    refine a_callV (mc1 := 0) (ms1 := 0) (As := [_]) kpX2_byteAt kmX6_38 (by decide) rfl (Nat.le_of_ble_eq_true rfl) (fo_k hf) (by decide) rfl (fo_two hf) (fo_lt hf) (Nat.le_of_ble_eq_true rfl) (Nat.le_of_ble_eq_true rfl) (Nat.le_of_ble_eq_true rfl) dX6_next_15 (w_byteC hf hm hi ?_)
    refine a_goto (tgt := 22) dX6_next_18 (by decide) ?_
    refine a_iret dX6_next_22 rfl (ret_i (by unfold nxC; first | exact if_pos c_4 | exact if_neg c_4) h)

theorem w_X6_fail {M : Mem} {N : Nat} {Q : Option Value → Nat → Mem → Prop} {f m : Nat} (hf : FoR f N) (hm : FoF M.2.2 f m) (hpa : PaA M.2.2.1 f) (h5 : f + 5 < N) {s : CS} (hi : CIn m s) {r : Int32}  (h : Q (none) N (wq M f (flC r s))) : AW mX6_fail 0 0 0 N 0 [(0, .ref (f + 5)), (1, .int r)] [] (wq M f s) Q := by
  refine a_aload_n dX6_fail_0 rfl ?_
  refine a_getI kfX6_35 (pa_k hf) rfl (pa_two hf) h5 dX6_fail_1 ?_
  rw [wq_e]
  refine a_if_ne (tgt := 20) dX6_fail_4 (by decide) (fun c_4 => ?_) (fun c_4 => ?_)
  · refine a_vret dX6_fail_20 rfl (by unfold flC at h; first | (rw [if_pos c_4] at h; rw [wq_sE]; exact h) | (rw [if_neg c_4] at h; exact h))
  · refine a_aload_n dX6_fail_7 rfl ?_
    refine a_bipush (v := 100) dX6_fail_8 (by decide) ?_
    refine a_iload_n dX6_fail_10 rfl ?_
    refine a_imul dX6_fail_11 ?_
    refine a_aload_n dX6_fail_12 rfl ?_
    refine a_getI kfX6_22 (pa_k hf) rfl (pa_two hf) h5 dX6_fail_13 ?_
    rw [wq_p]
    refine a_iadd dX6_fail_16 ?_
    refine a_putI kfX6_35 (pa_k hf) rfl rfl (pa_two hf) h5 dX6_fail_17 ?_
    refine a_vret dX6_fail_20 rfl (by unfold flC at h; first | (rw [if_pos c_4] at h; rw [wq_sE]; exact h) | (rw [if_neg c_4] at h; exact h))

theorem i32lt {x y : Int32} (h : ¬ x ≤ y) : y < x := by
  rw [Int32.le_iff_toInt_le] at h
  rw [Int32.lt_iff_toInt_lt]
  omega
theorem i32nlt {x y : Int32} (h : x ≤ y) : ¬ y < x := by
  rw [Int32.le_iff_toInt_le] at h
  rw [Int32.lt_iff_toInt_lt]
  omega
theorem w_X6_passWithin {M : Mem} {N : Nat} {Q : Option Value → Nat → Mem → Prop} {f m : Nat} (hf : FoR f N) (hm : FoF M.2.2 f m) (hpa : PaA M.2.2.1 f) (h5 : f + 5 < N) {s : CS} (hi : CIn m s) {lo hi2 : Int32}  (h : Q (some (.int (pwC (rI M (f + 1)) m lo hi2 s).1)) N (wq M f (pwC (rI M (f + 1)) m lo hi2 s).2)) : AW mX6_passWithin 2 0 0 N 0 [(0, .ref (f + 5)), (1, .int lo), (2, .int hi2)] [] (wq M f s) Q := by
  refine a_aload_n dX6_passWithin_0 rfl ?_
  refine a_callV (mc1 := 0) (ms1 := 0) (As := []) kpX6_next kmX6_46 (by decide) rfl (Nat.le_of_ble_eq_true rfl) (pa_k hf) (by decide) rfl (pa_two hf) h5 (Nat.le_of_ble_eq_true rfl) (Nat.le_of_ble_eq_true rfl) (Nat.le_of_ble_eq_true rfl) dX6_passWithin_1 (w_X6_next hf hm hpa h5 hi ?_)
  refine a_istore_n dX6_passWithin_4 (by decide) ?_
  refine a_iload_n dX6_passWithin_5 rfl ?_
  refine a_iload_n dX6_passWithin_6 rfl ?_
  refine a_icmp_lt (tgt := 15) dX6_passWithin_7 (by decide) (fun c_7 => ?_) (fun c_7 => ?_)
  · refine a_aload_n dX6_passWithin_15 rfl ?_
    refine a_iconst (v := 1) dX6_passWithin_16 (by decide) ?_
    refine a_callV (mc1 := 0) (ms1 := 0) (As := [_]) kpX6_fail kmX6_32 (by decide) rfl (Nat.le_of_ble_eq_true rfl) (pa_k hf) (by decide) rfl (pa_two hf) h5 (Nat.le_of_ble_eq_true rfl) (Nat.le_of_ble_eq_true rfl) (Nat.le_of_ble_eq_true rfl) dX6_passWithin_17 (w_X6_fail hf hm hpa h5 hi ?_)
    refine a_iload_n dX6_passWithin_20 rfl ?_
    refine a_iret dX6_passWithin_21 rfl (by unfold pwC at h; first | (rw [if_pos (Or.inl c_7)] at h; exact h) | (rw [if_pos (Or.inr (i32lt c_12))] at h; exact h) | (rw [if_neg (fun z => z.elim c_7 (fun y => i32nlt c_12 y))] at h; exact h))
  · refine a_iload_n dX6_passWithin_10 rfl ?_
    refine a_iload_n dX6_passWithin_11 rfl ?_
    refine a_icmp_le (tgt := 22) dX6_passWithin_12 (by decide) (fun c_12 => ?_) (fun c_12 => ?_)
    · refine a_aload_n dX6_passWithin_22 rfl ?_
      refine a_dup dX6_passWithin_23 rfl ?_
      refine a_getI kfX6_22 (pa_k hf) rfl (pa_two hf) h5 dX6_passWithin_24 ?_
      rw [wq_p]
      refine a_iconst (v := 1) dX6_passWithin_27 (by decide) ?_
      refine a_iadd dX6_passWithin_28 ?_
      rw [nI_1]
      refine a_putI kfX6_22 (pa_k hf) rfl rfl (pa_two hf) h5 dX6_passWithin_29 ?_
      rw [wq_sP]
      refine a_iload_n dX6_passWithin_32 rfl ?_
      refine a_iret dX6_passWithin_33 rfl (by unfold pwC at h; first | (rw [if_pos (Or.inl c_7)] at h; exact h) | (rw [if_pos (Or.inr (i32lt c_12))] at h; exact h) | (rw [if_neg (fun z => z.elim c_7 (fun y => i32nlt c_12 y))] at h; exact h))
    · refine a_aload_n dX6_passWithin_15 rfl ?_
      refine a_iconst (v := 1) dX6_passWithin_16 (by decide) ?_
      refine a_callV (mc1 := 0) (ms1 := 0) (As := [_]) kpX6_fail kmX6_32 (by decide) rfl (Nat.le_of_ble_eq_true rfl) (pa_k hf) (by decide) rfl (pa_two hf) h5 (Nat.le_of_ble_eq_true rfl) (Nat.le_of_ble_eq_true rfl) (Nat.le_of_ble_eq_true rfl) dX6_passWithin_17 (w_X6_fail hf hm hpa h5 hi ?_)
      refine a_iload_n dX6_passWithin_20 rfl ?_
      refine a_iret dX6_passWithin_21 rfl (by unfold pwC at h; first | (rw [if_pos (Or.inl c_7)] at h; exact h) | (rw [if_pos (Or.inr (i32lt c_12))] at h; exact h) | (rw [if_neg (fun z => z.elim c_7 (fun y => i32nlt c_12 y))] at h; exact h))

theorem w_X6_pass {M : Mem} {N : Nat} {Q : Option Value → Nat → Mem → Prop} {f m : Nat} (hf : FoR f N) (hm : FoF M.2.2 f m) (hpa : PaA M.2.2.1 f) (h5 : f + 5 < N) {s : CS} (hi : CIn m s) {d : Int32}  (h : Q (none) N (wq M f (psC (rI M (f + 1)) m d s))) : AW mX6_pass 3 0 0 N 0 [(0, .ref (f + 5)), (1, .int d)] [] (wq M f s) Q := by
  refine a_aload_n dX6_pass_0 rfl ?_
  refine a_iload_n dX6_pass_1 rfl ?_
  refine a_iload_n dX6_pass_2 rfl ?_
  refine a_callV (mc1 := 0) (ms1 := 0) (As := [_, _]) kpX6_passWithin kmX6_42 (by decide) rfl (Nat.le_of_ble_eq_true rfl) (pa_k hf) (by decide) rfl (pa_two hf) h5 (Nat.le_of_ble_eq_true rfl) (Nat.le_of_ble_eq_true rfl) (Nat.le_of_ble_eq_true rfl) dX6_pass_3 (w_X6_passWithin hf hm hpa h5 hi ?_)
  refine a_pop dX6_pass_6 rfl ?_
  refine a_vret dX6_pass_7 rfl h

theorem w_X6_isDigit {M : Mem} {N : Nat} {Q : Option Value → Nat → Mem → Prop} {x : Int32}  (h : Q (some (.int (bI (48 ≤ x.toInt ∧ x.toInt ≤ 57)))) N (M)) : AW mX6_isDigit 0 0 0 N 0 [(0, .int x)] [] M Q := by
  refine a_iload_n dX6_isDigit_0 rfl ?_
  refine a_bipush (v := 48) dX6_isDigit_1 (by decide) ?_
  refine a_icmp_lt (tgt := 16) dX6_isDigit_3 (by decide) (fun c_3 => ?_) (fun c_3 => ?_)
  · refine a_iconst (v := 0) dX6_isDigit_16 (by decide) ?_
    refine a_zret dX6_isDigit_17 rfl (by decide) (ret_f (by simp only [Int32.lt_iff_toInt_lt, Int32.le_iff_toInt_le, ← Int32.toInt_inj, bI_z, bI_nz, tI_m9999, tI_m2, tI_m1, tI_0, tI_1, tI_2, tI_3, tI_4, tI_5, tI_6, tI_7, tI_8, tI_9, tI_10, tI_11, tI_16, tI_20, tI_24, tI_31, tI_32, tI_40, tI_41, tI_42, tI_43, tI_44, tI_45, tI_47, tI_48, tI_49, tI_56, tI_57, tI_58, tI_60, tI_61, tI_63, tI_64, tI_65, tI_72, tI_77, tI_83, tI_100, tI_127, tI_164, tI_255, tI_384, tI_9999, tI_15360] at c_3 ⊢; omega) h)
  · refine a_iload_n dX6_isDigit_6 rfl ?_
    refine a_bipush (v := 57) dX6_isDigit_7 (by decide) ?_
    refine a_icmp_gt (tgt := 16) dX6_isDigit_9 (by decide) (fun c_9 => ?_) (fun c_9 => ?_)
    · refine a_iconst (v := 0) dX6_isDigit_16 (by decide) ?_
      refine a_zret dX6_isDigit_17 rfl (by decide) (ret_f (by simp only [Int32.lt_iff_toInt_lt, Int32.le_iff_toInt_le, ← Int32.toInt_inj, bI_z, bI_nz, tI_m9999, tI_m2, tI_m1, tI_0, tI_1, tI_2, tI_3, tI_4, tI_5, tI_6, tI_7, tI_8, tI_9, tI_10, tI_11, tI_16, tI_20, tI_24, tI_31, tI_32, tI_40, tI_41, tI_42, tI_43, tI_44, tI_45, tI_47, tI_48, tI_49, tI_56, tI_57, tI_58, tI_60, tI_61, tI_63, tI_64, tI_65, tI_72, tI_77, tI_83, tI_100, tI_127, tI_164, tI_255, tI_384, tI_9999, tI_15360] at c_3 c_9 ⊢; omega) h)
    · refine a_iconst (v := 1) dX6_isDigit_12 (by decide) ?_
      refine a_goto (tgt := 17) dX6_isDigit_13 (by decide) ?_
      refine a_zret dX6_isDigit_17 rfl (by decide) (ret_t (by simp only [Int32.lt_iff_toInt_lt, Int32.le_iff_toInt_le, ← Int32.toInt_inj, bI_z, bI_nz, tI_m9999, tI_m2, tI_m1, tI_0, tI_1, tI_2, tI_3, tI_4, tI_5, tI_6, tI_7, tI_8, tI_9, tI_10, tI_11, tI_16, tI_20, tI_24, tI_31, tI_32, tI_40, tI_41, tI_42, tI_43, tI_44, tI_45, tI_47, tI_48, tI_49, tI_56, tI_57, tI_58, tI_60, tI_61, tI_63, tI_64, tI_65, tI_72, tI_77, tI_83, tI_100, tI_127, tI_164, tI_255, tI_384, tI_9999, tI_15360] at c_3 c_9 ⊢; omega) h)

def dig (x : Int32) : Prop := 48 ≤ x.toInt ∧ x.toInt ≤ 57
def nuL (t : Nat → Int32) (m : Nat) : Nat → Int32 → CS → Int32 × CS
  | 0, v, s => (v, s)
  | r + 1, v, s => if 48 ≤ (nxC t m s).toInt ∧ (nxC t m s).toInt ≤ 57 then nuL t m r (10 * v + nxC t m s - 48) (avC s) else (v, s)
def nuC (t : Nat → Int32) (m : Nat) (s : CS) : CS := adC m s.1 1 (nuL t m 4 0 s).1 (nuL t m 4 0 s).2
theorem nd_m1 {x : Int32} (h : 48 ≤ x.toInt ∧ x.toInt ≤ 57) : ¬ x = -1 := by
  rintro rfl
  exact absurd h.1 (by decide)
theorem nuL_in {t : Nat → Int32} {m : Nat} : ∀ (r : Nat) (v : Int32) {s : CS}, CIn m s → CIn m (nuL t m r v s).2
  | 0, _, _, h => h
  | r + 1, v, s, h => by
    unfold nuL
    split
    · rename_i c; exact nuL_in r _ (avC_in (t := t) h (nd_m1 c))
    · exact h
theorem nuC_in {t : Nat → Int32} {m : Nat} {s : CS} (h : CIn m s) : CIn m (nuC t m s) := adC_in (nuL_in 4 0 h)
theorem l_X6_readNumber {M : Mem} {N : Nat} {Q : Option Value → Nat → Mem → Prop} {f m p0 : Nat} (hf : FoR f N) (hm : FoF M.2.2 f m) (hpa : PaA M.2.2.1 f) (h5 : f + 5 < N) (hp0 : p0 ≤ m) : ∀ (r k : Nat) (v : Int32) (s : CS), k + r = 4 → CIn m s → Q none N (wq M f (adC m p0 1 (nuL (rI M (f + 1)) m r v s).1 (nuL (rI M (f + 1)) m r v s).2)) → AW mX6_readNumber 2 0 0 N 9 [(0, .ref (f + 5)), (1, .int (nI p0)), (2, .int v), (3, .int (nI k))] [] (wq M f s) Q := by
  intro r
  induction r with
  | zero =>
    intro k v s hk hi h
    obtain rfl : k = 4 := by omega
    refine a_iload_n dX6_readNumber_9 rfl ?_
    refine a_iconst (v := 4) dX6_readNumber_10 (by decide) ?_
    refine a_icmp_ge (tgt := 53) dX6_readNumber_11 (by decide) (fun c_11 => ?_) (fun c_11 => absurd (nI_le (a := 4) (b := 4) (by omega) (by decide)) c_11)
    refine a_aload_n dX6_readNumber_53 rfl ?_
    refine a_getA (z := f) kfX6_9 (pa_k hf) rfl (pa_0 hpa) (pa_two hf) h5 dX6_readNumber_54 ?_
    refine a_iload_n dX6_readNumber_57 rfl ?_
    refine a_iconst (v := 1) dX6_readNumber_58 (by decide) ?_
    refine a_iload_n dX6_readNumber_59 rfl ?_
    refine a_callV (mc1 := 0) (ms1 := 0) (As := [_, _, _]) kpX2_addStep kmX6_52 (by decide) rfl (Nat.le_of_ble_eq_true rfl) (fo_k hf) (by decide) rfl (fo_two hf) (fo_lt hf) (Nat.le_of_ble_eq_true rfl) (Nat.le_of_ble_eq_true rfl) (Nat.le_of_ble_eq_true rfl) dX6_readNumber_60 (w_addC hf hm (by exact hi) hp0 ?_)
    refine a_vret dX6_readNumber_63 rfl h
  | succ r ih =>
    intro k v s hk hi h
    refine a_iload_n dX6_readNumber_9 rfl ?_
    refine a_iconst (v := 4) dX6_readNumber_10 (by decide) ?_
    refine a_icmp_ge (tgt := 53) dX6_readNumber_11 (by decide) (fun c_11 => absurd c_11 (nI_ge (b := 4) (by omega) (by decide))) (fun c_11 => ?_)
    refine a_aload_n dX6_readNumber_14 rfl ?_
    refine a_callV (mc1 := 0) (ms1 := 0) (As := []) kpX6_next kmX6_46 (by decide) rfl (Nat.le_of_ble_eq_true rfl) (pa_k hf) (by decide) rfl (pa_two hf) h5 (Nat.le_of_ble_eq_true rfl) (Nat.le_of_ble_eq_true rfl) (Nat.le_of_ble_eq_true rfl) dX6_readNumber_15 (w_X6_next hf hm hpa h5 hi ?_)
    refine a_callS (mc1 := 0) (ms1 := 0) (As := [_]) kpX6_isDigit kmX6_68 (by decide) rfl (Nat.le_of_ble_eq_true rfl) (Nat.le_of_ble_eq_true rfl) (Nat.le_of_ble_eq_true rfl) (Nat.le_of_ble_eq_true rfl) dX6_readNumber_18 (w_X6_isDigit ?_)
    refine a_if_eq (tgt := 53) dX6_readNumber_21 (by decide) (fun c_21 => ?_) (fun c_21 => ?_)
    · refine a_aload_n dX6_readNumber_53 rfl ?_
      refine a_getA (z := f) kfX6_9 (pa_k hf) rfl (pa_0 hpa) (pa_two hf) h5 dX6_readNumber_54 ?_
      refine a_iload_n dX6_readNumber_57 rfl ?_
      refine a_iconst (v := 1) dX6_readNumber_58 (by decide) ?_
      refine a_iload_n dX6_readNumber_59 rfl ?_
      refine a_callV (mc1 := 0) (ms1 := 0) (As := [_, _, _]) kpX2_addStep kmX6_52 (by decide) rfl (Nat.le_of_ble_eq_true rfl) (fo_k hf) (by decide) rfl (fo_two hf) (fo_lt hf) (Nat.le_of_ble_eq_true rfl) (Nat.le_of_ble_eq_true rfl) (Nat.le_of_ble_eq_true rfl) dX6_readNumber_60 (w_addC hf hm (by exact hi) hp0 ?_)
      refine a_vret dX6_readNumber_63 rfl (by rw [show nuL (rI M (f + 1)) m (r + 1) v s = (v, s) from if_neg (bI_z.mp c_21)] at h; exact h)
    · refine a_bipush (v := 10) dX6_readNumber_24 (by decide) ?_
      refine a_iload_n dX6_readNumber_26 rfl ?_
      refine a_imul dX6_readNumber_27 ?_
      refine a_aload_n dX6_readNumber_28 rfl ?_
      refine a_callV (mc1 := 0) (ms1 := 0) (As := []) kpX6_next kmX6_46 (by decide) rfl (Nat.le_of_ble_eq_true rfl) (pa_k hf) (by decide) rfl (pa_two hf) h5 (Nat.le_of_ble_eq_true rfl) (Nat.le_of_ble_eq_true rfl) (Nat.le_of_ble_eq_true rfl) dX6_readNumber_29 (w_X6_next hf hm hpa h5 hi ?_)
      refine a_iadd dX6_readNumber_32 ?_
      refine a_bipush (v := 48) dX6_readNumber_33 (by decide) ?_
      refine a_isub dX6_readNumber_35 ?_
      refine a_istore_n dX6_readNumber_36 (by decide) ?_
      refine a_aload_n dX6_readNumber_37 rfl ?_
      refine a_dup dX6_readNumber_38 rfl ?_
      refine a_getI kfX6_22 (pa_k hf) rfl (pa_two hf) h5 dX6_readNumber_39 ?_
      rw [wq_p]
      refine a_iconst (v := 1) dX6_readNumber_42 (by decide) ?_
      refine a_iadd dX6_readNumber_43 ?_
      rw [nI_1]
      refine a_putI kfX6_22 (pa_k hf) rfl rfl (pa_two hf) h5 dX6_readNumber_44 ?_
      rw [wq_sP]
      refine a_iinc dX6_readNumber_47 rfl rfl (by decide) ?_
      refine a_goto (tgt := 9) dX6_readNumber_50 (by decide) ?_
      rw [show nI k + Int32.ofInt 1 = nI (k + 1) from nI_1 k]
      refine AW.sub (L' := [(0, .ref (f + 5)), (1, .int (nI p0)), (2, .int (10 * v + nxC (rI M (f + 1)) m s - 48)), (3, .int (nI (k + 1)))]) rfl ?_
      exact ih (k + 1) _ (avC s) (by omega) (avC_in (t := (rI M (f + 1))) hi (nd_m1 (bI_nz.mp c_21))) (by rw [show nuL (rI M (f + 1)) m (r + 1) v s = nuL (rI M (f + 1)) m r (10 * v + nxC (rI M (f + 1)) m s - 48) (avC s) from if_pos (bI_nz.mp c_21)] at h; exact h)
theorem w_X6_readNumber {M : Mem} {N : Nat} {Q : Option Value → Nat → Mem → Prop} {f m : Nat} (hf : FoR f N) (hm : FoF M.2.2 f m) (hpa : PaA M.2.2.1 f) (h5 : f + 5 < N) {s : CS} (hi : CIn m s)  (h : Q (none) N (wq M f (nuC (rI M (f + 1)) m s))) : AW mX6_readNumber 2 0 0 N 0 [(0, .ref (f + 5))] [] (wq M f s) Q := by
  refine a_aload_n dX6_readNumber_0 rfl ?_
  refine a_getI kfX6_22 (pa_k hf) rfl (pa_two hf) h5 dX6_readNumber_1 ?_
  rw [wq_p]
  refine a_istore_n dX6_readNumber_4 (by decide) ?_
  refine a_iconst (v := 0) dX6_readNumber_5 (by decide) ?_
  refine a_istore_n dX6_readNumber_6 (by decide) ?_
  refine a_iconst (v := 0) dX6_readNumber_7 (by decide) ?_
  refine a_istore_n dX6_readNumber_8 (by decide) ?_
  refine AW.sub (L' := [(0, .ref (f + 5)), (1, .int (nI s.1)), (2, .int 0), (3, .int (nI 0))]) rfl ?_
  exact l_X6_readNumber hf hm hpa h5 hi.1 4 0 0 s (by omega) hi h

def ceC (t : Nat → Int32) (m : Nat) (st : Int32) (s : CS) : CS := adC m s.1 st (8 * ((pwC t m 49 56 (pwC t m 65 72 s).2).1 - 49) + ((pwC t m 65 72 s).1 - 65)) (pwC t m 49 56 (pwC t m 65 72 s).2).2
theorem ceC_in {t : Nat → Int32} {m : Nat} {st : Int32} {s : CS} (h : CIn m s) : CIn m (ceC t m st s) := adC_in (pwC_in (pwC_in h (by decide)) (by decide))
def reC (t : Nat → Int32) (m : Nat) (s : CS) : CS := adC m s.1 5 0 (psC t m 41 (ceC t m 3 (psC t m 58 (ceC t m 3 (psC t m 40 (psC t m 83 s))))))
theorem reC_in {t : Nat → Int32} {m : Nat} {s : CS} (h : CIn m s) : CIn m (reC t m s) := adC_in (psC_in (ceC_in (psC_in (ceC_in (psC_in (psC_in h (by decide)) (by decide))) (by decide))) (by decide))
theorem w_X6_readCell {M : Mem} {N : Nat} {Q : Option Value → Nat → Mem → Prop} {f m : Nat} (hf : FoR f N) (hm : FoF M.2.2 f m) (hpa : PaA M.2.2.1 f) (h5 : f + 5 < N) {s : CS} (hi : CIn m s) {st : Int32}  (h : Q (none) N (wq M f (ceC (rI M (f + 1)) m st s))) : AW mX6_readCell 3 0 0 N 0 [(0, .ref (f + 5)), (1, .int st)] [] (wq M f s) Q := by
  refine a_aload_n dX6_readCell_0 rfl ?_
  refine a_getI kfX6_22 (pa_k hf) rfl (pa_two hf) h5 dX6_readCell_1 ?_
  rw [wq_p]
  refine a_istore_n dX6_readCell_4 (by decide) ?_
  refine a_aload_n dX6_readCell_5 rfl ?_
  refine a_bipush (v := 65) dX6_readCell_6 (by decide) ?_
  refine a_bipush (v := 72) dX6_readCell_8 (by decide) ?_
  refine a_callV (mc1 := 0) (ms1 := 0) (As := [_, _]) kpX6_passWithin kmX6_42 (by decide) rfl (Nat.le_of_ble_eq_true rfl) (pa_k hf) (by decide) rfl (pa_two hf) h5 (Nat.le_of_ble_eq_true rfl) (Nat.le_of_ble_eq_true rfl) (Nat.le_of_ble_eq_true rfl) dX6_readCell_10 (w_X6_passWithin hf hm hpa h5 hi ?_)
  refine a_bipush (v := 65) dX6_readCell_13 (by decide) ?_
  refine a_isub dX6_readCell_15 ?_
  refine a_istore_n dX6_readCell_16 (by decide) ?_
  refine a_aload_n dX6_readCell_17 rfl ?_
  refine a_bipush (v := 49) dX6_readCell_18 (by decide) ?_
  refine a_bipush (v := 56) dX6_readCell_20 (by decide) ?_
  refine a_callV (mc1 := 0) (ms1 := 0) (As := [_, _]) kpX6_passWithin kmX6_42 (by decide) rfl (Nat.le_of_ble_eq_true rfl) (pa_k hf) (by decide) rfl (pa_two hf) h5 (Nat.le_of_ble_eq_true rfl) (Nat.le_of_ble_eq_true rfl) (Nat.le_of_ble_eq_true rfl) dX6_readCell_22 (w_X6_passWithin hf hm hpa h5 (pwC_in hi (by decide)) ?_)
  refine a_bipush (v := 49) dX6_readCell_25 (by decide) ?_
  refine a_isub dX6_readCell_27 ?_
  refine a_istore dX6_readCell_28 (by decide) ?_
  refine a_aload_n dX6_readCell_30 rfl ?_
  refine a_getA (z := f) kfX6_9 (pa_k hf) rfl (pa_0 hpa) (pa_two hf) h5 dX6_readCell_31 ?_
  refine a_iload_n dX6_readCell_34 rfl ?_
  refine a_iload_n dX6_readCell_35 rfl ?_
  refine a_bipush (v := 8) dX6_readCell_36 (by decide) ?_
  refine a_iload dX6_readCell_38 rfl ?_
  refine a_imul dX6_readCell_40 ?_
  refine a_iload_n dX6_readCell_41 rfl ?_
  refine a_iadd dX6_readCell_42 ?_
  refine a_callV (mc1 := 0) (ms1 := 0) (As := [_, _, _]) kpX2_addStep kmX6_52 (by decide) rfl (Nat.le_of_ble_eq_true rfl) (fo_k hf) (by decide) rfl (fo_two hf) (fo_lt hf) (Nat.le_of_ble_eq_true rfl) (Nat.le_of_ble_eq_true rfl) (Nat.le_of_ble_eq_true rfl) dX6_readCell_43 (w_addC hf hm (pwC_in (pwC_in hi (by decide)) (by decide)) hi.1 ?_)
  refine a_vret dX6_readCell_46 rfl h

theorem w_X6_readRectangle {M : Mem} {N : Nat} {Q : Option Value → Nat → Mem → Prop} {f m : Nat} (hf : FoR f N) (hm : FoF M.2.2 f m) (hpa : PaA M.2.2.1 f) (h5 : f + 5 < N) {s : CS} (hi : CIn m s)  (h : Q (none) N (wq M f (reC (rI M (f + 1)) m s))) : AW mX6_readRectangle 4 0 0 N 0 [(0, .ref (f + 5))] [] (wq M f s) Q := by
  refine a_aload_n dX6_readRectangle_0 rfl ?_
  refine a_getI kfX6_22 (pa_k hf) rfl (pa_two hf) h5 dX6_readRectangle_1 ?_
  rw [wq_p]
  refine a_istore_n dX6_readRectangle_4 (by decide) ?_
  refine a_aload_n dX6_readRectangle_5 rfl ?_
  refine a_bipush (v := 83) dX6_readRectangle_6 (by decide) ?_
  refine a_callV (mc1 := 0) (ms1 := 0) (As := [_]) kpX6_pass kmX6_15 (by decide) rfl (Nat.le_of_ble_eq_true rfl) (pa_k hf) (by decide) rfl (pa_two hf) h5 (Nat.le_of_ble_eq_true rfl) (Nat.le_of_ble_eq_true rfl) (Nat.le_of_ble_eq_true rfl) dX6_readRectangle_8 (w_X6_pass hf hm hpa h5 hi ?_)
  refine a_aload_n dX6_readRectangle_11 rfl ?_
  refine a_bipush (v := 40) dX6_readRectangle_12 (by decide) ?_
  refine a_callV (mc1 := 0) (ms1 := 0) (As := [_]) kpX6_pass kmX6_15 (by decide) rfl (Nat.le_of_ble_eq_true rfl) (pa_k hf) (by decide) rfl (pa_two hf) h5 (Nat.le_of_ble_eq_true rfl) (Nat.le_of_ble_eq_true rfl) (Nat.le_of_ble_eq_true rfl) dX6_readRectangle_14 (w_X6_pass hf hm hpa h5 (psC_in hi (by decide)) ?_)
  refine a_aload_n dX6_readRectangle_17 rfl ?_
  refine a_iconst (v := 3) dX6_readRectangle_18 (by decide) ?_
  refine a_callV (mc1 := 0) (ms1 := 0) (As := [_]) kpX6_readCell kmX6_75 (by decide) rfl (Nat.le_of_ble_eq_true rfl) (pa_k hf) (by decide) rfl (pa_two hf) h5 (Nat.le_of_ble_eq_true rfl) (Nat.le_of_ble_eq_true rfl) (Nat.le_of_ble_eq_true rfl) dX6_readRectangle_19 (w_X6_readCell hf hm hpa h5 (psC_in (psC_in hi (by decide)) (by decide)) ?_)
  refine a_aload_n dX6_readRectangle_22 rfl ?_
  refine a_bipush (v := 58) dX6_readRectangle_23 (by decide) ?_
  refine a_callV (mc1 := 0) (ms1 := 0) (As := [_]) kpX6_pass kmX6_15 (by decide) rfl (Nat.le_of_ble_eq_true rfl) (pa_k hf) (by decide) rfl (pa_two hf) h5 (Nat.le_of_ble_eq_true rfl) (Nat.le_of_ble_eq_true rfl) (Nat.le_of_ble_eq_true rfl) dX6_readRectangle_25 (w_X6_pass hf hm hpa h5 (ceC_in (psC_in (psC_in hi (by decide)) (by decide))) ?_)
  refine a_aload_n dX6_readRectangle_28 rfl ?_
  refine a_iconst (v := 3) dX6_readRectangle_29 (by decide) ?_
  refine a_callV (mc1 := 0) (ms1 := 0) (As := [_]) kpX6_readCell kmX6_75 (by decide) rfl (Nat.le_of_ble_eq_true rfl) (pa_k hf) (by decide) rfl (pa_two hf) h5 (Nat.le_of_ble_eq_true rfl) (Nat.le_of_ble_eq_true rfl) (Nat.le_of_ble_eq_true rfl) dX6_readRectangle_30 (w_X6_readCell hf hm hpa h5 (psC_in (ceC_in (psC_in (psC_in hi (by decide)) (by decide))) (by decide)) ?_)
  refine a_aload_n dX6_readRectangle_33 rfl ?_
  refine a_bipush (v := 41) dX6_readRectangle_34 (by decide) ?_
  refine a_callV (mc1 := 0) (ms1 := 0) (As := [_]) kpX6_pass kmX6_15 (by decide) rfl (Nat.le_of_ble_eq_true rfl) (pa_k hf) (by decide) rfl (pa_two hf) h5 (Nat.le_of_ble_eq_true rfl) (Nat.le_of_ble_eq_true rfl) (Nat.le_of_ble_eq_true rfl) dX6_readRectangle_36 (w_X6_pass hf hm hpa h5 (ceC_in (psC_in (ceC_in (psC_in (psC_in hi (by decide)) (by decide))) (by decide))) ?_)
  refine a_aload_n dX6_readRectangle_39 rfl ?_
  refine a_getA (z := f) kfX6_9 (pa_k hf) rfl (pa_0 hpa) (pa_two hf) h5 dX6_readRectangle_40 ?_
  refine a_iload_n dX6_readRectangle_43 rfl ?_
  refine a_iconst (v := 5) dX6_readRectangle_44 (by decide) ?_
  refine a_iconst (v := 0) dX6_readRectangle_45 (by decide) ?_
  refine a_callV (mc1 := 0) (ms1 := 0) (As := [_, _, _]) kpX2_addStep kmX6_52 (by decide) rfl (Nat.le_of_ble_eq_true rfl) (fo_k hf) (by decide) rfl (fo_two hf) (fo_lt hf) (Nat.le_of_ble_eq_true rfl) (Nat.le_of_ble_eq_true rfl) (Nat.le_of_ble_eq_true rfl) dX6_readRectangle_46 (w_addC hf hm (psC_in (ceC_in (psC_in (ceC_in (psC_in (psC_in hi (by decide)) (by decide))) (by decide))) (by decide)) hi.1 ?_)
  refine a_vret dX6_readRectangle_49 rfl h

