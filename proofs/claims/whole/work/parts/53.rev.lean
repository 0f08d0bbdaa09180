/-! the reference's hand (93; 64 slots 46, 47) and what its cells are (91, 92) -/
def we (M : Mem) (V : FS) (s : MS) : Mem := (fun a j => if a = 64 then (if j = 46 then nI s.2.1 else if j = 47 then s.2.2 else M.1 a j) else if a = 92 then V.2 j else M.1 a j, fun a j => if a = 91 then V.1 j else if a = 93 then s.1 j else M.2.1 a j, M.2.2)
theorem we_id {M : Mem} {h : Nat} {e : Int32} (hh : rI M 64 46 = nI h) (he : rI M 64 47 = e) : we M (rJ M 91, rI M 92) (rJ M 93, h, e) = M := by
  refine Prod.ext ?_ (Prod.ext ?_ rfl)
  · funext a j
    show (if a = 64 then (if j = 46 then nI h else if j = 47 then e else M.1 a j) else if a = 92 then M.1 92 j else M.1 a j) = M.1 a j
    by_cases ha : a = 64
    · rw [if_pos ha]
      by_cases hj : j = 46
      · rw [if_pos hj, ← hh, ha, hj]; rfl
      · rw [if_neg hj]
        by_cases hj2 : j = 47
        · rw [if_pos hj2, ← he, ha, hj2]; rfl
        · rw [if_neg hj2]
    · rw [if_neg ha]
      by_cases h2 : a = 92
      · rw [if_pos h2, h2]
      · rw [if_neg h2]
  · funext a j
    show (if a = 91 then M.2.1 91 j else if a = 93 then M.2.1 93 j else M.2.1 a j) = M.2.1 a j
    by_cases ha : a = 91
    · rw [if_pos ha, ha]
    · rw [if_neg ha]
      by_cases h2 : a = 93
      · rw [if_pos h2, h2]
      · rw [if_neg h2]
theorem we_h {M : Mem} {V : FS} {s : MS} : rI (we M V s) 64 46 = nI s.2.1 := rfl
theorem we_w {M : Mem} {V : FS} {s : MS} : rI (we M V s) 64 47 = s.2.2 := rfl
theorem we_v {M : Mem} {V : FS} {s : MS} {j : Nat} : rJ (we M V s) 91 j = V.1 j := rfl
theorem we_e {M : Mem} {V : FS} {s : MS} {j : Nat} : rI (we M V s) 92 j = V.2 j := rfl
theorem we_s {M : Mem} {V : FS} {s : MS} {j : Nat} : rJ (we M V s) 93 j = s.1 j := rfl
theorem we_I {M : Mem} {V : FS} {s : MS} {a j : Nat} (h : a ≠ 64) (h2 : a ≠ 92) : rI (we M V s) a j = rI M a j := by
  show (if a = 64 then _ else if a = 92 then _ else _) = _
  rw [if_neg h, if_neg h2]; rfl
theorem we_I64 {M : Mem} {V : FS} {s : MS} {j : Nat} (h : j ≠ 46) (h2 : j ≠ 47) : rI (we M V s) 64 j = rI M 64 j := by
  show (if 64 = 64 then (if j = 46 then nI s.2.1 else if j = 47 then s.2.2 else M.1 64 j) else if 64 = 92 then V.2 j else M.1 64 j) = M.1 64 j
  rw [if_pos rfl, if_neg h, if_neg h2]
theorem we_J {M : Mem} {V : FS} {s : MS} {a j : Nat} (h : a ≠ 91) (h2 : a ≠ 93) : rJ (we M V s) a j = rJ M a j := by
  show (if a = 91 then _ else if a = 93 then _ else _) = _
  rw [if_neg h, if_neg h2]; rfl
theorem we_sh {M : Mem} {V : FS} {s : MS} {h : Nat} : sI (we M V s) 64 46 (nI h) = we M V (s.1, h, s.2.2) := by
  unfold sI we up2
  refine Prod.ext ?_ rfl
  funext a j
  by_cases ha : a = 64
  · subst ha; by_cases hj : j = 46 <;> simp [hj]
  · simp [ha]
theorem we_sw {M : Mem} {V : FS} {s : MS} {e : Int32} : sI (we M V s) 64 47 e = we M V (s.1, s.2.1, e) := by
  unfold sI we up2
  refine Prod.ext ?_ rfl
  funext a j
  by_cases ha : a = 64
  · subst ha; by_cases hj : j = 46
    · subst hj; simp
    · by_cases hj2 : j = 47 <;> simp [hj, hj2]
  · simp [ha]
theorem we_ss {M : Mem} {V : FS} {s : MS} {k : Nat} {x : Int64} : sJ (we M V s) 93 k x = we M V (fun j => if j = k then x else s.1 j, s.2) := by
  unfold sJ we up2
  refine Prod.ext rfl (Prod.ext ?_ rfl)
  funext a j
  by_cases ha : a = 93
  · subst ha; by_cases hj : j = k <;> simp [hj]
  · simp [ha]
theorem we_sv {M : Mem} {V : FS} {s : MS} {k : Nat} {x : Int64} : sJ (we M V s) 91 k x = we M (fun j => if j = k then x else V.1 j, V.2) s := by
  unfold sJ we up2
  refine Prod.ext rfl (Prod.ext ?_ rfl)
  funext a j
  by_cases ha : a = 91
  · subst ha; by_cases hj : j = k <;> simp [hj]
  · simp [ha]
theorem we_se {M : Mem} {V : FS} {s : MS} {k : Nat} {x : Int32} : sI (we M V s) 92 k x = we M (V.1, fun j => if j = k then x else V.2 j) s := by
  unfold sI we up2
  refine Prod.ext ?_ rfl
  funext a j
  by_cases ha : a = 92
  · subst ha; by_cases hj : j = k <;> simp [hj]
  · simp [ha]
def pR (s : MS) (x : Int64) (e : Int32) : MS := (fun j => if j = s.2.1 then x else s.1 j, s.2.1 + 1, e)
def rC (s : MS) (x : Int64) : MS := pR s x (if GRT < x ∨ x < -1000000000000 then 3 else s.2.2)
theorem rC_1 {s : MS} {x : Int64} (h : GRT < x ∨ x < -1000000000000) : rC s x = pR s x 3 := by unfold rC; rw [if_pos h]
theorem rC_0 {s : MS} {x : Int64} (h : ¬ (GRT < x ∨ x < -1000000000000)) : rC s x = pR s x s.2.2 := by unfold rC; rw [if_neg h]
def absR (x : Int64) : Int64 := if x < 0 then -x else x
def maxR (x y : Int64) : Int64 := if y < x then x else y
def fqR (x y : Int64) : Int64 := if ¬ x - x / y * y = 0 ∧ ¬ (x < 0 ↔ y < 0) then x / y - 1 else x / y
def rT (s : MS) (a b : Int64) : MS := if ¬ absR a = 0 ∧ 1000000000000 / absR a < absR b then (s.1, s.2.1, 3) else rC s (a * b)
def rP (s : MS) (a b : Int64) : MS := if b = 0 then (s.1, s.2.1, 2) else rC s (fqR a b)
def dn2 (s : MS) : MS := (s.1, s.2.1 - 2, s.2.2)
def rW (s : MS) (k : Int32) : MS := if k = 4 then rC (dn2 s) (s.1 (s.2.1 - 2) + s.1 (s.2.1 - 1)) else if k = 5 then rC (dn2 s) (s.1 (s.2.1 - 2) - s.1 (s.2.1 - 1)) else if k = 6 then rT (dn2 s) (s.1 (s.2.1 - 2)) (s.1 (s.2.1 - 1)) else if k = 7 then rP (dn2 s) (s.1 (s.2.1 - 2)) (s.1 (s.2.1 - 1)) else rC (dn2 s) (maxR (s.1 (s.2.1 - 2)) (s.1 (s.2.1 - 1)))
theorem pg4 {x : Int64} (h : 0 ≤ lg_cmp x (-1000000000000)) : ¬ x < -1000000000000 := by
  rw [lg_cmp_ge, Int64.le_iff_toInt_le] at h
  rw [Int64.lt_iff_toInt_lt]
  omega
theorem pg5 {x : Int64} (h : ¬ 0 ≤ lg_cmp x (-1000000000000)) : x < -1000000000000 := by
  rw [lg_cmp_ge, Int64.le_iff_toInt_le] at h
  rw [Int64.lt_iff_toInt_lt]
  omega
theorem lg0 {x : Int64} (h : 0 ≤ lg_cmp x 0) : ¬ x < 0 := by
  rw [lg_cmp_ge, Int64.le_iff_toInt_le] at h
  rw [Int64.lt_iff_toInt_lt]
  omega
theorem lg0n {x : Int64} (h : ¬ 0 ≤ lg_cmp x 0) : x < 0 := by
  rw [lg_cmp_ge, Int64.le_iff_toInt_le] at h
  rw [Int64.lt_iff_toInt_lt]
  omega
theorem w_X10_comes {M : Mem} {N : Nat} {Q : Option Value → Nat → Mem → Prop} {V : FS} {s : MS} (hh : s.2.1 < 40) {x : Int64}  (hN : 94 ≤ N) (hs : Str M.2.2.1) (h : Q (none) N (we M V (rC s x))) : AW mX10_comes 0 0 0 N 0 [(0, .ref 64), (1, .long x)] [] (we M V s) Q := by
  refine a_lload_n dX10_comes_0 rfl ?_
  refine a_ldc2 kkX10_259 dX10_comes_1 ?_
  refine a_lcmp dX10_comes_4 ?_
  refine a_if_gt (tgt := 16) dX10_comes_5 (by decide) (fun c_5 => ?_) (fun c_5 => ?_)
  · refine a_aload_n dX10_comes_16 rfl ?_
    refine a_iconst (v := 3) dX10_comes_17 (by decide) ?_
    refine a_putI kfX10_263 rfl rfl rfl (by decide) (hlt hN (by decide)) dX10_comes_18 ?_
    try rw [we_sw]
    refine a_aload_n dX10_comes_21 rfl ?_
    refine a_getA (z := 93) kfX10_101 rfl rfl (st_64_45 hs) (by decide) (hlt hN (by decide)) dX10_comes_22 ?_
    refine a_aload_n dX10_comes_25 rfl ?_
    refine a_getI kfX10_266 rfl rfl (by decide) (hlt hN (by decide)) dX10_comes_26 ?_
    rw [we_h]
    refine a_lload_n dX10_comes_29 rfl ?_
    refine a_last rfl (by decide) (hlt hN (by decide)) (show vp_in _ 40 from m40 hh) dX10_comes_30 ?_
    rw [nI_clamp (show s.2.1 < 2 ^ 31 by omega), we_ss]
    refine a_aload_n dX10_comes_31 rfl ?_
    refine a_dup dX10_comes_32 rfl ?_
    refine a_getI kfX10_266 rfl rfl (by decide) (hlt hN (by decide)) dX10_comes_33 ?_
    rw [we_h]
    refine a_iconst (v := 1) dX10_comes_36 (by decide) ?_
    refine a_iadd dX10_comes_37 ?_
    rw [show nI s.2.1 + 1 = nI (s.2.1 + 1) from nI_1 _]
    refine a_putI kfX10_266 rfl rfl rfl (by decide) (hlt hN (by decide)) dX10_comes_38 ?_
    rw [we_sh]
    refine a_vret dX10_comes_41 rfl (by first | (rw [rC_1 (Or.inl ((lg_cmp_gt _ _).mp c_5))] at h; exact h) | (rw [rC_1 (Or.inr (pg5 c_13))] at h; exact h) | (rw [rC_0 (fun z => z.elim (fun q => c_5 ((lg_cmp_gt _ _).mpr q)) (pg4 c_13))] at h; exact h))
  · refine a_lload_n dX10_comes_8 rfl ?_
    refine a_ldc2 kkX10_261 dX10_comes_9 ?_
    refine a_lcmp dX10_comes_12 ?_
    refine a_if_ge (tgt := 21) dX10_comes_13 (by decide) (fun c_13 => ?_) (fun c_13 => ?_)
    · try rw [we_sw]
      refine a_aload_n dX10_comes_21 rfl ?_
      refine a_getA (z := 93) kfX10_101 rfl rfl (st_64_45 hs) (by decide) (hlt hN (by decide)) dX10_comes_22 ?_
      refine a_aload_n dX10_comes_25 rfl ?_
      refine a_getI kfX10_266 rfl rfl (by decide) (hlt hN (by decide)) dX10_comes_26 ?_
      rw [we_h]
      refine a_lload_n dX10_comes_29 rfl ?_
      refine a_last rfl (by decide) (hlt hN (by decide)) (show vp_in _ 40 from m40 hh) dX10_comes_30 ?_
      rw [nI_clamp (show s.2.1 < 2 ^ 31 by omega), we_ss]
      refine a_aload_n dX10_comes_31 rfl ?_
      refine a_dup dX10_comes_32 rfl ?_
      refine a_getI kfX10_266 rfl rfl (by decide) (hlt hN (by decide)) dX10_comes_33 ?_
      rw [we_h]
      refine a_iconst (v := 1) dX10_comes_36 (by decide) ?_
      refine a_iadd dX10_comes_37 ?_
      rw [show nI s.2.1 + 1 = nI (s.2.1 + 1) from nI_1 _]
      refine a_putI kfX10_266 rfl rfl rfl (by decide) (hlt hN (by decide)) dX10_comes_38 ?_
      rw [we_sh]
      refine a_vret dX10_comes_41 rfl (by first | (rw [rC_1 (Or.inl ((lg_cmp_gt _ _).mp c_5))] at h; exact h) | (rw [rC_1 (Or.inr (pg5 c_13))] at h; exact h) | (rw [rC_0 (fun z => z.elim (fun q => c_5 ((lg_cmp_gt _ _).mpr q)) (pg4 c_13))] at h; exact h))
    · refine a_aload_n dX10_comes_16 rfl ?_
      refine a_iconst (v := 3) dX10_comes_17 (by decide) ?_
      refine a_putI kfX10_263 rfl rfl rfl (by decide) (hlt hN (by decide)) dX10_comes_18 ?_
      try rw [we_sw]
      refine a_aload_n dX10_comes_21 rfl ?_
      refine a_getA (z := 93) kfX10_101 rfl rfl (st_64_45 hs) (by decide) (hlt hN (by decide)) dX10_comes_22 ?_
      refine a_aload_n dX10_comes_25 rfl ?_
      refine a_getI kfX10_266 rfl rfl (by decide) (hlt hN (by decide)) dX10_comes_26 ?_
      rw [we_h]
      refine a_lload_n dX10_comes_29 rfl ?_
      refine a_last rfl (by decide) (hlt hN (by decide)) (show vp_in _ 40 from m40 hh) dX10_comes_30 ?_
      rw [nI_clamp (show s.2.1 < 2 ^ 31 by omega), we_ss]
      refine a_aload_n dX10_comes_31 rfl ?_
      refine a_dup dX10_comes_32 rfl ?_
      refine a_getI kfX10_266 rfl rfl (by decide) (hlt hN (by decide)) dX10_comes_33 ?_
      rw [we_h]
      refine a_iconst (v := 1) dX10_comes_36 (by decide) ?_
      refine a_iadd dX10_comes_37 ?_
      rw [show nI s.2.1 + 1 = nI (s.2.1 + 1) from nI_1 _]
      refine a_putI kfX10_266 rfl rfl rfl (by decide) (hlt hN (by decide)) dX10_comes_38 ?_
      rw [we_sh]
      refine a_vret dX10_comes_41 rfl (by first | (rw [rC_1 (Or.inl ((lg_cmp_gt _ _).mp c_5))] at h; exact h) | (rw [rC_1 (Or.inr (pg5 c_13))] at h; exact h) | (rw [rC_0 (fun z => z.elim (fun q => c_5 ((lg_cmp_gt _ _).mpr q)) (pg4 c_13))] at h; exact h))

theorem w_X10_times {M : Mem} {N : Nat} {Q : Option Value → Nat → Mem → Prop} {V : FS} {s : MS} (hh : s.2.1 < 40) {a b : Int64}  (hN : 94 ≤ N) (hs : Str M.2.2.1) (h : Q (none) N (we M V (rT s a b))) : AW mX10_times 1 0 0 N 0 [(0, .ref 64), (1, .long a), (3, .long b)] [] (we M V s) Q := by
  refine a_lload_n dX10_times_0 rfl ?_
  refine a_lconst (v := 0) dX10_times_1 (by decide) ?_
  refine a_lcmp dX10_times_2 ?_
  refine a_if_ge (tgt := 11) dX10_times_3 (by decide) (fun c_3 => ?_) (fun c_3 => ?_)
  · have a3 : absR a = a := if_neg (lg0 c_3)
    refine a_lload_n dX10_times_11 rfl ?_
    refine a_lstore dX10_times_12 (by decide) ?_
    refine a_lload_n dX10_times_14 rfl ?_
    refine a_lconst (v := 0) dX10_times_15 (by decide) ?_
    refine a_lcmp dX10_times_16 ?_
    refine a_if_ge (tgt := 25) dX10_times_17 (by decide) (fun c_17 => ?_) (fun c_17 => ?_)
    · have a17 : absR b = b := if_neg (lg0 c_17)
      refine a_lload_n dX10_times_25 rfl ?_
      refine a_lstore dX10_times_26 (by decide) ?_
      refine a_lload dX10_times_28 rfl ?_
      refine a_lconst (v := 0) dX10_times_30 (by decide) ?_
      refine a_lcmp dX10_times_31 ?_
      refine a_if_eq (tgt := 53) dX10_times_32 (by decide) (fun c_32 => ?_) (fun c_32 => ?_)
      · refine a_aload_n dX10_times_53 rfl ?_
        refine a_lload_n dX10_times_54 rfl ?_
        refine a_lload_n dX10_times_55 rfl ?_
        refine a_lmul dX10_times_56 ?_
        refine a_callV (mc1 := 0) (ms1 := 0) (As := [_]) kpX10_comes kmX10_269 (by decide) rfl (Nat.le_of_ble_eq_true rfl) rfl (by decide) rfl (by decide) (hlt hN (by decide)) (Nat.le_of_ble_eq_true rfl) (Nat.le_of_ble_eq_true rfl) (Nat.le_of_ble_eq_true rfl) dX10_times_57 (w_X10_comes hh hN (by exact hs) ?_)
        first
        | (rw [show rT s a b = rC s (a * b) from if_neg (fun z => z.1 (by rw [a3]; exact (lg_cmp_eq _ _).mp c_32))] at h)
        | (rw [show rT s a b = rC s (a * b) from if_neg (fun z => ltl_no c_44 (by rw [a3, a17] at z; exact z.2))] at h)
        refine a_vret dX10_times_60 rfl (by first | exact h | rw [show rT s a b = (s.1, s.2.1, 3) from if_pos (by rw [a3, a17]; exact ⟨(fun z => c_32 ((lg_cmp_eq _ _).mpr z)), ltl_ok c_44⟩)] at h; exact h)
      · refine a_lload dX10_times_35 rfl ?_
        refine a_ldc2 kkX10_259 dX10_times_37 ?_
        refine a_lload dX10_times_40 rfl ?_
        refine a_ldiv dX10_times_42 (fun z => c_32 ((lg_cmp_eq _ _).mpr z)) ?_
        refine a_lcmp dX10_times_43 ?_
        refine a_if_le (tgt := 53) dX10_times_44 (by decide) (fun c_44 => ?_) (fun c_44 => ?_)
        · refine a_aload_n dX10_times_53 rfl ?_
          refine a_lload_n dX10_times_54 rfl ?_
          refine a_lload_n dX10_times_55 rfl ?_
          refine a_lmul dX10_times_56 ?_
          refine a_callV (mc1 := 0) (ms1 := 0) (As := [_]) kpX10_comes kmX10_269 (by decide) rfl (Nat.le_of_ble_eq_true rfl) rfl (by decide) rfl (by decide) (hlt hN (by decide)) (Nat.le_of_ble_eq_true rfl) (Nat.le_of_ble_eq_true rfl) (Nat.le_of_ble_eq_true rfl) dX10_times_57 (w_X10_comes hh hN (by exact hs) ?_)
          first
          | (rw [show rT s a b = rC s (a * b) from if_neg (fun z => z.1 (by rw [a3]; exact (lg_cmp_eq _ _).mp c_32))] at h)
          | (rw [show rT s a b = rC s (a * b) from if_neg (fun z => ltl_no c_44 (by rw [a3, a17] at z; exact z.2))] at h)
          refine a_vret dX10_times_60 rfl (by first | exact h | rw [show rT s a b = (s.1, s.2.1, 3) from if_pos (by rw [a3, a17]; exact ⟨(fun z => c_32 ((lg_cmp_eq _ _).mpr z)), ltl_ok c_44⟩)] at h; exact h)
        · refine a_aload_n dX10_times_47 rfl ?_
          refine a_iconst (v := 3) dX10_times_48 (by decide) ?_
          refine a_putI kfX10_263 rfl rfl rfl (by decide) (hlt hN (by decide)) dX10_times_49 ?_
          rw [we_sw]
          refine a_vret dX10_times_52 rfl (by first | exact h | rw [show rT s a b = (s.1, s.2.1, 3) from if_pos (by rw [a3, a17]; exact ⟨(fun z => c_32 ((lg_cmp_eq _ _).mpr z)), ltl_ok c_44⟩)] at h; exact h)
    · have a17 : absR b = -b := if_pos (lg0n c_17)
      refine a_lload_n dX10_times_20 rfl ?_
      refine a_lneg dX10_times_21 ?_
      refine a_goto (tgt := 26) dX10_times_22 (by decide) ?_
      refine a_lstore dX10_times_26 (by decide) ?_
      refine a_lload dX10_times_28 rfl ?_
      refine a_lconst (v := 0) dX10_times_30 (by decide) ?_
      refine a_lcmp dX10_times_31 ?_
      refine a_if_eq (tgt := 53) dX10_times_32 (by decide) (fun c_32 => ?_) (fun c_32 => ?_)
      · refine a_aload_n dX10_times_53 rfl ?_
        refine a_lload_n dX10_times_54 rfl ?_
        refine a_lload_n dX10_times_55 rfl ?_
        refine a_lmul dX10_times_56 ?_
        refine a_callV (mc1 := 0) (ms1 := 0) (As := [_]) kpX10_comes kmX10_269 (by decide) rfl (Nat.le_of_ble_eq_true rfl) rfl (by decide) rfl (by decide) (hlt hN (by decide)) (Nat.le_of_ble_eq_true rfl) (Nat.le_of_ble_eq_true rfl) (Nat.le_of_ble_eq_true rfl) dX10_times_57 (w_X10_comes hh hN (by exact hs) ?_)
        first
        | (rw [show rT s a b = rC s (a * b) from if_neg (fun z => z.1 (by rw [a3]; exact (lg_cmp_eq _ _).mp c_32))] at h)
        | (rw [show rT s a b = rC s (a * b) from if_neg (fun z => ltl_no c_44 (by rw [a3, a17] at z; exact z.2))] at h)
        refine a_vret dX10_times_60 rfl (by first | exact h | rw [show rT s a b = (s.1, s.2.1, 3) from if_pos (by rw [a3, a17]; exact ⟨(fun z => c_32 ((lg_cmp_eq _ _).mpr z)), ltl_ok c_44⟩)] at h; exact h)
      · refine a_lload dX10_times_35 rfl ?_
        refine a_ldc2 kkX10_259 dX10_times_37 ?_
        refine a_lload dX10_times_40 rfl ?_
        refine a_ldiv dX10_times_42 (fun z => c_32 ((lg_cmp_eq _ _).mpr z)) ?_
        refine a_lcmp dX10_times_43 ?_
        refine a_if_le (tgt := 53) dX10_times_44 (by decide) (fun c_44 => ?_) (fun c_44 => ?_)
        · refine a_aload_n dX10_times_53 rfl ?_
          refine a_lload_n dX10_times_54 rfl ?_
          refine a_lload_n dX10_times_55 rfl ?_
          refine a_lmul dX10_times_56 ?_
          refine a_callV (mc1 := 0) (ms1 := 0) (As := [_]) kpX10_comes kmX10_269 (by decide) rfl (Nat.le_of_ble_eq_true rfl) rfl (by decide) rfl (by decide) (hlt hN (by decide)) (Nat.le_of_ble_eq_true rfl) (Nat.le_of_ble_eq_true rfl) (Nat.le_of_ble_eq_true rfl) dX10_times_57 (w_X10_comes hh hN (by exact hs) ?_)
          first
          | (rw [show rT s a b = rC s (a * b) from if_neg (fun z => z.1 (by rw [a3]; exact (lg_cmp_eq _ _).mp c_32))] at h)
          | (rw [show rT s a b = rC s (a * b) from if_neg (fun z => ltl_no c_44 (by rw [a3, a17] at z; exact z.2))] at h)
          refine a_vret dX10_times_60 rfl (by first | exact h | rw [show rT s a b = (s.1, s.2.1, 3) from if_pos (by rw [a3, a17]; exact ⟨(fun z => c_32 ((lg_cmp_eq _ _).mpr z)), ltl_ok c_44⟩)] at h; exact h)
        · refine a_aload_n dX10_times_47 rfl ?_
          refine a_iconst (v := 3) dX10_times_48 (by decide) ?_
          refine a_putI kfX10_263 rfl rfl rfl (by decide) (hlt hN (by decide)) dX10_times_49 ?_
          rw [we_sw]
          refine a_vret dX10_times_52 rfl (by first | exact h | rw [show rT s a b = (s.1, s.2.1, 3) from if_pos (by rw [a3, a17]; exact ⟨(fun z => c_32 ((lg_cmp_eq _ _).mpr z)), ltl_ok c_44⟩)] at h; exact h)
  · have a3 : absR a = -a := if_pos (lg0n c_3)
    refine a_lload_n dX10_times_6 rfl ?_
    refine a_lneg dX10_times_7 ?_
    refine a_goto (tgt := 12) dX10_times_8 (by decide) ?_
    refine a_lstore dX10_times_12 (by decide) ?_
    refine a_lload_n dX10_times_14 rfl ?_
    refine a_lconst (v := 0) dX10_times_15 (by decide) ?_
    refine a_lcmp dX10_times_16 ?_
    refine a_if_ge (tgt := 25) dX10_times_17 (by decide) (fun c_17 => ?_) (fun c_17 => ?_)
    · have a17 : absR b = b := if_neg (lg0 c_17)
      refine a_lload_n dX10_times_25 rfl ?_
      refine a_lstore dX10_times_26 (by decide) ?_
      refine a_lload dX10_times_28 rfl ?_
      refine a_lconst (v := 0) dX10_times_30 (by decide) ?_
      refine a_lcmp dX10_times_31 ?_
      refine a_if_eq (tgt := 53) dX10_times_32 (by decide) (fun c_32 => ?_) (fun c_32 => ?_)
      · refine a_aload_n dX10_times_53 rfl ?_
        refine a_lload_n dX10_times_54 rfl ?_
        refine a_lload_n dX10_times_55 rfl ?_
        refine a_lmul dX10_times_56 ?_
        refine a_callV (mc1 := 0) (ms1 := 0) (As := [_]) kpX10_comes kmX10_269 (by decide) rfl (Nat.le_of_ble_eq_true rfl) rfl (by decide) rfl (by decide) (hlt hN (by decide)) (Nat.le_of_ble_eq_true rfl) (Nat.le_of_ble_eq_true rfl) (Nat.le_of_ble_eq_true rfl) dX10_times_57 (w_X10_comes hh hN (by exact hs) ?_)
        first
        | (rw [show rT s a b = rC s (a * b) from if_neg (fun z => z.1 (by rw [a3]; exact (lg_cmp_eq _ _).mp c_32))] at h)
        | (rw [show rT s a b = rC s (a * b) from if_neg (fun z => ltl_no c_44 (by rw [a3, a17] at z; exact z.2))] at h)
        refine a_vret dX10_times_60 rfl (by first | exact h | rw [show rT s a b = (s.1, s.2.1, 3) from if_pos (by rw [a3, a17]; exact ⟨(fun z => c_32 ((lg_cmp_eq _ _).mpr z)), ltl_ok c_44⟩)] at h; exact h)
      · refine a_lload dX10_times_35 rfl ?_
        refine a_ldc2 kkX10_259 dX10_times_37 ?_
        refine a_lload dX10_times_40 rfl ?_
        refine a_ldiv dX10_times_42 (fun z => c_32 ((lg_cmp_eq _ _).mpr z)) ?_
        refine a_lcmp dX10_times_43 ?_
        refine a_if_le (tgt := 53) dX10_times_44 (by decide) (fun c_44 => ?_) (fun c_44 => ?_)
        · refine a_aload_n dX10_times_53 rfl ?_
          refine a_lload_n dX10_times_54 rfl ?_
          refine a_lload_n dX10_times_55 rfl ?_
          refine a_lmul dX10_times_56 ?_
          refine a_callV (mc1 := 0) (ms1 := 0) (As := [_]) kpX10_comes kmX10_269 (by decide) rfl (Nat.le_of_ble_eq_true rfl) rfl (by decide) rfl (by decide) (hlt hN (by decide)) (Nat.le_of_ble_eq_true rfl) (Nat.le_of_ble_eq_true rfl) (Nat.le_of_ble_eq_true rfl) dX10_times_57 (w_X10_comes hh hN (by exact hs) ?_)
          first
          | (rw [show rT s a b = rC s (a * b) from if_neg (fun z => z.1 (by rw [a3]; exact (lg_cmp_eq _ _).mp c_32))] at h)
          | (rw [show rT s a b = rC s (a * b) from if_neg (fun z => ltl_no c_44 (by rw [a3, a17] at z; exact z.2))] at h)
          refine a_vret dX10_times_60 rfl (by first | exact h | rw [show rT s a b = (s.1, s.2.1, 3) from if_pos (by rw [a3, a17]; exact ⟨(fun z => c_32 ((lg_cmp_eq _ _).mpr z)), ltl_ok c_44⟩)] at h; exact h)
        · refine a_aload_n dX10_times_47 rfl ?_
          refine a_iconst (v := 3) dX10_times_48 (by decide) ?_
          refine a_putI kfX10_263 rfl rfl rfl (by decide) (hlt hN (by decide)) dX10_times_49 ?_
          rw [we_sw]
          refine a_vret dX10_times_52 rfl (by first | exact h | rw [show rT s a b = (s.1, s.2.1, 3) from if_pos (by rw [a3, a17]; exact ⟨(fun z => c_32 ((lg_cmp_eq _ _).mpr z)), ltl_ok c_44⟩)] at h; exact h)
    · have a17 : absR b = -b := if_pos (lg0n c_17)
      refine a_lload_n dX10_times_20 rfl ?_
      refine a_lneg dX10_times_21 ?_
      refine a_goto (tgt := 26) dX10_times_22 (by decide) ?_
      refine a_lstore dX10_times_26 (by decide) ?_
      refine a_lload dX10_times_28 rfl ?_
      refine a_lconst (v := 0) dX10_times_30 (by decide) ?_
      refine a_lcmp dX10_times_31 ?_
      refine a_if_eq (tgt := 53) dX10_times_32 (by decide) (fun c_32 => ?_) (fun c_32 => ?_)
      · refine a_aload_n dX10_times_53 rfl ?_
        refine a_lload_n dX10_times_54 rfl ?_
        refine a_lload_n dX10_times_55 rfl ?_
        refine a_lmul dX10_times_56 ?_
        refine a_callV (mc1 := 0) (ms1 := 0) (As := [_]) kpX10_comes kmX10_269 (by decide) rfl (Nat.le_of_ble_eq_true rfl) rfl (by decide) rfl (by decide) (hlt hN (by decide)) (Nat.le_of_ble_eq_true rfl) (Nat.le_of_ble_eq_true rfl) (Nat.le_of_ble_eq_true rfl) dX10_times_57 (w_X10_comes hh hN (by exact hs) ?_)
        first
        | (rw [show rT s a b = rC s (a * b) from if_neg (fun z => z.1 (by rw [a3]; exact (lg_cmp_eq _ _).mp c_32))] at h)
        | (rw [show rT s a b = rC s (a * b) from if_neg (fun z => ltl_no c_44 (by rw [a3, a17] at z; exact z.2))] at h)
        refine a_vret dX10_times_60 rfl (by first | exact h | rw [show rT s a b = (s.1, s.2.1, 3) from if_pos (by rw [a3, a17]; exact ⟨(fun z => c_32 ((lg_cmp_eq _ _).mpr z)), ltl_ok c_44⟩)] at h; exact h)
      · refine a_lload dX10_times_35 rfl ?_
        refine a_ldc2 kkX10_259 dX10_times_37 ?_
        refine a_lload dX10_times_40 rfl ?_
        refine a_ldiv dX10_times_42 (fun z => c_32 ((lg_cmp_eq _ _).mpr z)) ?_
        refine a_lcmp dX10_times_43 ?_
        refine a_if_le (tgt := 53) dX10_times_44 (by decide) (fun c_44 => ?_) (fun c_44 => ?_)
        · refine a_aload_n dX10_times_53 rfl ?_
          refine a_lload_n dX10_times_54 rfl ?_
          refine a_lload_n dX10_times_55 rfl ?_
          refine a_lmul dX10_times_56 ?_
          refine a_callV (mc1 := 0) (ms1 := 0) (As := [_]) kpX10_comes kmX10_269 (by decide) rfl (Nat.le_of_ble_eq_true rfl) rfl (by decide) rfl (by decide) (hlt hN (by decide)) (Nat.le_of_ble_eq_true rfl) (Nat.le_of_ble_eq_true rfl) (Nat.le_of_ble_eq_true rfl) dX10_times_57 (w_X10_comes hh hN (by exact hs) ?_)
          first
          | (rw [show rT s a b = rC s (a * b) from if_neg (fun z => z.1 (by rw [a3]; exact (lg_cmp_eq _ _).mp c_32))] at h)
          | (rw [show rT s a b = rC s (a * b) from if_neg (fun z => ltl_no c_44 (by rw [a3, a17] at z; exact z.2))] at h)
          refine a_vret dX10_times_60 rfl (by first | exact h | rw [show rT s a b = (s.1, s.2.1, 3) from if_pos (by rw [a3, a17]; exact ⟨(fun z => c_32 ((lg_cmp_eq _ _).mpr z)), ltl_ok c_44⟩)] at h; exact h)
        · refine a_aload_n dX10_times_47 rfl ?_
          refine a_iconst (v := 3) dX10_times_48 (by decide) ?_
          refine a_putI kfX10_263 rfl rfl rfl (by decide) (hlt hN (by decide)) dX10_times_49 ?_
          rw [we_sw]
          refine a_vret dX10_times_52 rfl (by first | exact h | rw [show rT s a b = (s.1, s.2.1, 3) from if_pos (by rw [a3, a17]; exact ⟨(fun z => c_32 ((lg_cmp_eq _ _).mpr z)), ltl_ok c_44⟩)] at h; exact h)

theorem w_X10_parts {M : Mem} {N : Nat} {Q : Option Value → Nat → Mem → Prop} {V : FS} {s : MS} (hh : s.2.1 < 40) {a b : Int64}  (hN : 94 ≤ N) (hs : Str M.2.2.1) (h : Q (none) N (we M V (rP s a b))) : AW mX10_parts 1 0 0 N 0 [(0, .ref 64), (1, .long a), (3, .long b)] [] (we M V s) Q := by
  refine a_lload_n dX10_parts_0 rfl ?_
  refine a_lconst (v := 0) dX10_parts_1 (by decide) ?_
  refine a_lcmp dX10_parts_2 ?_
  refine a_if_ne (tgt := 12) dX10_parts_3 (by decide) (fun c_3 => ?_) (fun c_3 => ?_)
  · have p3 : ¬ b = 0 := fun z => c_3 ((lg_cmp_eq _ _).mpr z)
    refine a_lload_n dX10_parts_12 rfl ?_
    refine a_lload_n dX10_parts_13 rfl ?_
    refine a_ldiv dX10_parts_14 (fun z => c_3 ((lg_cmp_eq _ _).mpr z)) ?_
    refine a_lstore dX10_parts_15 (by decide) ?_
    refine a_aload_n dX10_parts_17 rfl ?_
    refine a_lload_n dX10_parts_18 rfl ?_
    refine a_lload_n dX10_parts_19 rfl ?_
    refine a_lrem dX10_parts_20 (fun z => c_3 ((lg_cmp_eq _ _).mpr z)) ?_
    refine a_lconst (v := 0) dX10_parts_21 (by decide) ?_
    refine a_lcmp dX10_parts_22 ?_
    refine a_if_eq (tgt := 58) dX10_parts_23 (by decide) (fun c_23 => ?_) (fun c_23 => ?_)
    · have p23 : a - a / b * b = 0 := (lg_cmp_eq _ _).mp c_23
      refine a_lload dX10_parts_58 rfl ?_
      refine a_callV (mc1 := 0) (ms1 := 0) (As := [_]) kpX10_comes kmX10_269 (by decide) rfl (Nat.le_of_ble_eq_true rfl) rfl (by decide) rfl (by decide) (hlt hN (by decide)) (Nat.le_of_ble_eq_true rfl) (Nat.le_of_ble_eq_true rfl) (Nat.le_of_ble_eq_true rfl) dX10_parts_60 (w_X10_comes hh hN (by exact hs) ?_)
      first
      | (have k : a - a / b * b = 0 := p23
         rw [show rP s a b = rC s (fqR a b) from if_neg p3, show fqR a b = a / b from if_neg (fun z => z.1 k)] at h)
      | (have k : a < 0 := p29
         have k2 : b < 0 := p40
         rw [show rP s a b = rC s (fqR a b) from if_neg p3, show fqR a b = a / b from if_neg (fun z => z.2 ⟨fun _ => k2, fun _ => k⟩)] at h)
      | (have k : a < 0 := p29
         have k2 : ¬ b < 0 := p40
         rw [show rP s a b = rC s (fqR a b) from if_neg p3, show fqR a b = a / b - 1 from if_pos ⟨p23, fun z => k2 (z.mp k)⟩] at h)
      | (have k : ¬ a < 0 := p29
         have k2 : b < 0 := p40
         rw [show rP s a b = rC s (fqR a b) from if_neg p3, show fqR a b = a / b - 1 from if_pos ⟨p23, fun z => k (z.mpr k2)⟩] at h)
      | (have k : ¬ a < 0 := p29
         have k2 : ¬ b < 0 := p40
         rw [show rP s a b = rC s (fqR a b) from if_neg p3, show fqR a b = a / b from if_neg (fun z => z.2 ⟨fun q => absurd q k, fun q => absurd q k2⟩)] at h)
      refine a_vret dX10_parts_63 rfl h
    · have p23 : ¬ a - a / b * b = 0 := fun z => c_23 ((lg_cmp_eq _ _).mpr z)
      refine a_lload_n dX10_parts_26 rfl ?_
      refine a_lconst (v := 0) dX10_parts_27 (by decide) ?_
      refine a_lcmp dX10_parts_28 ?_
      refine a_if_ge (tgt := 36) dX10_parts_29 (by decide) (fun c_29 => ?_) (fun c_29 => ?_)
      · have p29 : ¬ a < 0 := lg0 c_29
        refine a_iconst (v := 0) dX10_parts_36 (by decide) ?_
        refine a_lload_n dX10_parts_37 rfl ?_
        refine a_lconst (v := 0) dX10_parts_38 (by decide) ?_
        refine a_lcmp dX10_parts_39 ?_
        refine a_if_ge (tgt := 47) dX10_parts_40 (by decide) (fun c_40 => ?_) (fun c_40 => ?_)
        · have p40 : ¬ b < 0 := lg0 c_40
          refine a_iconst (v := 0) dX10_parts_47 (by decide) ?_
          refine a_icmp_eq (tgt := 58) dX10_parts_48 (by decide) (fun c_48 => ?_) (fun c_48 => absurd (rfl) c_48)
          refine a_lload dX10_parts_58 rfl ?_
          refine a_callV (mc1 := 0) (ms1 := 0) (As := [_]) kpX10_comes kmX10_269 (by decide) rfl (Nat.le_of_ble_eq_true rfl) rfl (by decide) rfl (by decide) (hlt hN (by decide)) (Nat.le_of_ble_eq_true rfl) (Nat.le_of_ble_eq_true rfl) (Nat.le_of_ble_eq_true rfl) dX10_parts_60 (w_X10_comes hh hN (by exact hs) ?_)
          first
          | (have k : a - a / b * b = 0 := p23
             rw [show rP s a b = rC s (fqR a b) from if_neg p3, show fqR a b = a / b from if_neg (fun z => z.1 k)] at h)
          | (have k : a < 0 := p29
             have k2 : b < 0 := p40
             rw [show rP s a b = rC s (fqR a b) from if_neg p3, show fqR a b = a / b from if_neg (fun z => z.2 ⟨fun _ => k2, fun _ => k⟩)] at h)
          | (have k : a < 0 := p29
             have k2 : ¬ b < 0 := p40
             rw [show rP s a b = rC s (fqR a b) from if_neg p3, show fqR a b = a / b - 1 from if_pos ⟨p23, fun z => k2 (z.mp k)⟩] at h)
          | (have k : ¬ a < 0 := p29
             have k2 : b < 0 := p40
             rw [show rP s a b = rC s (fqR a b) from if_neg p3, show fqR a b = a / b - 1 from if_pos ⟨p23, fun z => k (z.mpr k2)⟩] at h)
          | (have k : ¬ a < 0 := p29
             have k2 : ¬ b < 0 := p40
             rw [show rP s a b = rC s (fqR a b) from if_neg p3, show fqR a b = a / b from if_neg (fun z => z.2 ⟨fun q => absurd q k, fun q => absurd q k2⟩)] at h)
          refine a_vret dX10_parts_63 rfl h
        · have p40 : b < 0 := lg0n c_40
          refine a_iconst (v := 1) dX10_parts_43 (by decide) ?_
          refine a_goto (tgt := 48) dX10_parts_44 (by decide) ?_
          refine a_icmp_eq (tgt := 58) dX10_parts_48 (by decide) (fun c_48 => absurd c_48 (by decide)) (fun c_48 => ?_)
          refine a_lload dX10_parts_51 rfl ?_
          refine a_lconst (v := 1) dX10_parts_53 (by decide) ?_
          refine a_lsub dX10_parts_54 ?_
          refine a_goto (tgt := 60) dX10_parts_55 (by decide) ?_
          refine a_callV (mc1 := 0) (ms1 := 0) (As := [_]) kpX10_comes kmX10_269 (by decide) rfl (Nat.le_of_ble_eq_true rfl) rfl (by decide) rfl (by decide) (hlt hN (by decide)) (Nat.le_of_ble_eq_true rfl) (Nat.le_of_ble_eq_true rfl) (Nat.le_of_ble_eq_true rfl) dX10_parts_60 (w_X10_comes hh hN (by exact hs) ?_)
          first
          | (have k : a - a / b * b = 0 := p23
             rw [show rP s a b = rC s (fqR a b) from if_neg p3, show fqR a b = a / b from if_neg (fun z => z.1 k)] at h)
          | (have k : a < 0 := p29
             have k2 : b < 0 := p40
             rw [show rP s a b = rC s (fqR a b) from if_neg p3, show fqR a b = a / b from if_neg (fun z => z.2 ⟨fun _ => k2, fun _ => k⟩)] at h)
          | (have k : a < 0 := p29
             have k2 : ¬ b < 0 := p40
             rw [show rP s a b = rC s (fqR a b) from if_neg p3, show fqR a b = a / b - 1 from if_pos ⟨p23, fun z => k2 (z.mp k)⟩] at h)
          | (have k : ¬ a < 0 := p29
             have k2 : b < 0 := p40
             rw [show rP s a b = rC s (fqR a b) from if_neg p3, show fqR a b = a / b - 1 from if_pos ⟨p23, fun z => k (z.mpr k2)⟩] at h)
          | (have k : ¬ a < 0 := p29
             have k2 : ¬ b < 0 := p40
             rw [show rP s a b = rC s (fqR a b) from if_neg p3, show fqR a b = a / b from if_neg (fun z => z.2 ⟨fun q => absurd q k, fun q => absurd q k2⟩)] at h)
          refine a_vret dX10_parts_63 rfl h
      · have p29 : a < 0 := lg0n c_29
        refine a_iconst (v := 1) dX10_parts_32 (by decide) ?_
        refine a_goto (tgt := 37) dX10_parts_33 (by decide) ?_
        refine a_lload_n dX10_parts_37 rfl ?_
        refine a_lconst (v := 0) dX10_parts_38 (by decide) ?_
        refine a_lcmp dX10_parts_39 ?_
        refine a_if_ge (tgt := 47) dX10_parts_40 (by decide) (fun c_40 => ?_) (fun c_40 => ?_)
        · have p40 : ¬ b < 0 := lg0 c_40
          refine a_iconst (v := 0) dX10_parts_47 (by decide) ?_
          refine a_icmp_eq (tgt := 58) dX10_parts_48 (by decide) (fun c_48 => absurd c_48 (by decide)) (fun c_48 => ?_)
          refine a_lload dX10_parts_51 rfl ?_
          refine a_lconst (v := 1) dX10_parts_53 (by decide) ?_
          refine a_lsub dX10_parts_54 ?_
          refine a_goto (tgt := 60) dX10_parts_55 (by decide) ?_
          refine a_callV (mc1 := 0) (ms1 := 0) (As := [_]) kpX10_comes kmX10_269 (by decide) rfl (Nat.le_of_ble_eq_true rfl) rfl (by decide) rfl (by decide) (hlt hN (by decide)) (Nat.le_of_ble_eq_true rfl) (Nat.le_of_ble_eq_true rfl) (Nat.le_of_ble_eq_true rfl) dX10_parts_60 (w_X10_comes hh hN (by exact hs) ?_)
          first
          | (have k : a - a / b * b = 0 := p23
             rw [show rP s a b = rC s (fqR a b) from if_neg p3, show fqR a b = a / b from if_neg (fun z => z.1 k)] at h)
          | (have k : a < 0 := p29
             have k2 : b < 0 := p40
             rw [show rP s a b = rC s (fqR a b) from if_neg p3, show fqR a b = a / b from if_neg (fun z => z.2 ⟨fun _ => k2, fun _ => k⟩)] at h)
          | (have k : a < 0 := p29
             have k2 : ¬ b < 0 := p40
             rw [show rP s a b = rC s (fqR a b) from if_neg p3, show fqR a b = a / b - 1 from if_pos ⟨p23, fun z => k2 (z.mp k)⟩] at h)
          | (have k : ¬ a < 0 := p29
             have k2 : b < 0 := p40
             rw [show rP s a b = rC s (fqR a b) from if_neg p3, show fqR a b = a / b - 1 from if_pos ⟨p23, fun z => k (z.mpr k2)⟩] at h)
          | (have k : ¬ a < 0 := p29
             have k2 : ¬ b < 0 := p40
             rw [show rP s a b = rC s (fqR a b) from if_neg p3, show fqR a b = a / b from if_neg (fun z => z.2 ⟨fun q => absurd q k, fun q => absurd q k2⟩)] at h)
          refine a_vret dX10_parts_63 rfl h
        · have p40 : b < 0 := lg0n c_40
          refine a_iconst (v := 1) dX10_parts_43 (by decide) ?_
          refine a_goto (tgt := 48) dX10_parts_44 (by decide) ?_
          refine a_icmp_eq (tgt := 58) dX10_parts_48 (by decide) (fun c_48 => ?_) (fun c_48 => absurd (rfl) c_48)
          refine a_lload dX10_parts_58 rfl ?_
          refine a_callV (mc1 := 0) (ms1 := 0) (As := [_]) kpX10_comes kmX10_269 (by decide) rfl (Nat.le_of_ble_eq_true rfl) rfl (by decide) rfl (by decide) (hlt hN (by decide)) (Nat.le_of_ble_eq_true rfl) (Nat.le_of_ble_eq_true rfl) (Nat.le_of_ble_eq_true rfl) dX10_parts_60 (w_X10_comes hh hN (by exact hs) ?_)
          first
          | (have k : a - a / b * b = 0 := p23
             rw [show rP s a b = rC s (fqR a b) from if_neg p3, show fqR a b = a / b from if_neg (fun z => z.1 k)] at h)
          | (have k : a < 0 := p29
             have k2 : b < 0 := p40
             rw [show rP s a b = rC s (fqR a b) from if_neg p3, show fqR a b = a / b from if_neg (fun z => z.2 ⟨fun _ => k2, fun _ => k⟩)] at h)
          | (have k : a < 0 := p29
             have k2 : ¬ b < 0 := p40
             rw [show rP s a b = rC s (fqR a b) from if_neg p3, show fqR a b = a / b - 1 from if_pos ⟨p23, fun z => k2 (z.mp k)⟩] at h)
          | (have k : ¬ a < 0 := p29
             have k2 : b < 0 := p40
             rw [show rP s a b = rC s (fqR a b) from if_neg p3, show fqR a b = a / b - 1 from if_pos ⟨p23, fun z => k (z.mpr k2)⟩] at h)
          | (have k : ¬ a < 0 := p29
             have k2 : ¬ b < 0 := p40
             rw [show rP s a b = rC s (fqR a b) from if_neg p3, show fqR a b = a / b from if_neg (fun z => z.2 ⟨fun q => absurd q k, fun q => absurd q k2⟩)] at h)
          refine a_vret dX10_parts_63 rfl h
  · refine a_aload_n dX10_parts_6 rfl ?_
    refine a_iconst (v := 2) dX10_parts_7 (by decide) ?_
    refine a_putI kfX10_263 rfl rfl rfl (by decide) (hlt hN (by decide)) dX10_parts_8 ?_
    rw [we_sw]
    refine a_vret dX10_parts_11 rfl (by rw [show rP s a b = (s.1, s.2.1, 2) from if_pos ((lg_cmp_eq _ _).mp c_3)] at h; exact h)

theorem w_X10_two {M : Mem} {N : Nat} {Q : Option Value → Nat → Mem → Prop} {V : FS} {s : MS} (hh : s.2.1 ≤ 40) (h2 : 2 ≤ s.2.1) {k : Int32} (hk : k = 4 ∨ k = 5 ∨ k = 6 ∨ k = 7 ∨ k = 8)  (hN : 94 ≤ N) (hs : Str M.2.2.1) (h : Q (none) N (we M V (rW s k))) : AW mX10_two 2 0 0 N 0 [(0, .ref 64), (1, .int k)] [] (we M V s) Q := by
  have e2 : nI s.2.1 - 2 = nI (s.2.1 - 2) := pk_sub (a := s.2.1) (b := 2) (by omega)
  have e1 : nI (dn2 s).2.1 + 1 = nI (s.2.1 - 1) := by rw [nI_1]; exact congrArg nI (show s.2.1 - 2 + 1 = s.2.1 - 1 by omega)
  refine a_aload_n dX10_two_0 rfl ?_
  refine a_dup dX10_two_1 rfl ?_
  refine a_getI kfX10_266 rfl rfl (by decide) (hlt hN (by decide)) dX10_two_2 ?_
  rw [we_h]
  refine a_iconst (v := 2) dX10_two_5 (by decide) ?_
  refine a_isub dX10_two_6 ?_
  rw [e2]
  refine a_putI kfX10_266 rfl rfl rfl (by decide) (hlt hN (by decide)) dX10_two_7 ?_
  rw [we_sh]
  rw [show we M V (s.1, s.2.1 - 2, s.2.2) = we M V (dn2 s) from rfl]
  refine a_aload_n dX10_two_10 rfl ?_
  refine a_getA (z := 93) kfX10_101 rfl rfl (st_64_45 hs) (by decide) (hlt hN (by decide)) dX10_two_11 ?_
  refine a_aload_n dX10_two_14 rfl ?_
  refine a_getI kfX10_266 rfl rfl (by decide) (hlt hN (by decide)) dX10_two_15 ?_
  rw [we_h]
  refine a_lald rfl (by decide) (hlt hN (by decide)) (show vp_in _ 40 from m40 (show s.2.1 - 2 < 40 by omega)) dX10_two_18 ?_
  rw [show (nI (dn2 s).2.1).toNatClampNeg = s.2.1 - 2 from nI_clamp (show s.2.1 - 2 < 2 ^ 31 by omega), we_s, show (dn2 s).1 (s.2.1 - 2) = s.1 (s.2.1 - 2) from rfl]
  refine a_lstore_n dX10_two_19 (by decide) ?_
  refine a_aload_n dX10_two_20 rfl ?_
  refine a_getA (z := 93) kfX10_101 rfl rfl (st_64_45 hs) (by decide) (hlt hN (by decide)) dX10_two_21 ?_
  refine a_aload_n dX10_two_24 rfl ?_
  refine a_getI kfX10_266 rfl rfl (by decide) (hlt hN (by decide)) dX10_two_25 ?_
  rw [we_h]
  refine a_iconst (v := 1) dX10_two_28 (by decide) ?_
  refine a_iadd dX10_two_29 ?_
  rw [e1]
  refine a_lald rfl (by decide) (hlt hN (by decide)) (show vp_in _ 40 from m40 (show s.2.1 - 1 < 40 by omega)) dX10_two_30 ?_
  rw [nI_clamp (show s.2.1 - 1 < 2 ^ 31 by omega), we_s, show (dn2 s).1 (s.2.1 - 1) = s.1 (s.2.1 - 1) from rfl]
  refine a_lstore dX10_two_31 (by decide) ?_
  refine a_iload_n dX10_two_33 rfl ?_
  rcases hk with rfl | rfl | rfl | rfl | rfl
  · refine a_tableIn (off := 30) (tgt := 64) dX10_two_34 (by decide) (by decide) (by decide) (by decide) ?_
    refine a_aload_n dX10_two_64 rfl ?_
    refine a_lload_n dX10_two_65 rfl ?_
    refine a_lload dX10_two_66 rfl ?_
    refine a_ladd dX10_two_68 ?_
    refine a_callV (mc1 := 0) (ms1 := 0) (As := [_]) kpX10_comes kmX10_269 (by decide) rfl (Nat.le_of_ble_eq_true rfl) rfl (by decide) rfl (by decide) (hlt hN (by decide)) (Nat.le_of_ble_eq_true rfl) (Nat.le_of_ble_eq_true rfl) (Nat.le_of_ble_eq_true rfl) dX10_two_69 (w_X10_comes (s := dn2 s) (show s.2.1 - 2 < 40 by omega) hN (by exact hs) ?_)
    refine a_goto (tgt := 123) dX10_two_72 (by decide) ?_
    refine a_vret dX10_two_123 rfl (by first | exact h | (rw [show rW s 8 = rC (dn2 s) (maxR (s.1 (s.2.1 - 2)) (s.1 (s.2.1 - 1))) from rfl, em] at h; exact h))
  · refine a_tableIn (off := 41) (tgt := 75) dX10_two_34 (by decide) (by decide) (by decide) (by decide) ?_
    refine a_aload_n dX10_two_75 rfl ?_
    refine a_lload_n dX10_two_76 rfl ?_
    refine a_lload dX10_two_77 rfl ?_
    refine a_lsub dX10_two_79 ?_
    refine a_callV (mc1 := 0) (ms1 := 0) (As := [_]) kpX10_comes kmX10_269 (by decide) rfl (Nat.le_of_ble_eq_true rfl) rfl (by decide) rfl (by decide) (hlt hN (by decide)) (Nat.le_of_ble_eq_true rfl) (Nat.le_of_ble_eq_true rfl) (Nat.le_of_ble_eq_true rfl) dX10_two_80 (w_X10_comes (s := dn2 s) (show s.2.1 - 2 < 40 by omega) hN (by exact hs) ?_)
    refine a_goto (tgt := 123) dX10_two_83 (by decide) ?_
    refine a_vret dX10_two_123 rfl (by first | exact h | (rw [show rW s 8 = rC (dn2 s) (maxR (s.1 (s.2.1 - 2)) (s.1 (s.2.1 - 1))) from rfl, em] at h; exact h))
  · refine a_tableIn (off := 52) (tgt := 86) dX10_two_34 (by decide) (by decide) (by decide) (by decide) ?_
    refine a_aload_n dX10_two_86 rfl ?_
    refine a_lload_n dX10_two_87 rfl ?_
    refine a_lload dX10_two_88 rfl ?_
    refine a_callV (mc1 := 0) (ms1 := 0) (As := [_, _]) kpX10_times kmX10_273 (by decide) rfl (Nat.le_of_ble_eq_true rfl) rfl (by decide) rfl (by decide) (hlt hN (by decide)) (Nat.le_of_ble_eq_true rfl) (Nat.le_of_ble_eq_true rfl) (Nat.le_of_ble_eq_true rfl) dX10_two_90 (w_X10_times (s := dn2 s) (show s.2.1 - 2 < 40 by omega) hN (by exact hs) ?_)
    refine a_goto (tgt := 123) dX10_two_93 (by decide) ?_
    refine a_vret dX10_two_123 rfl (by first | exact h | (rw [show rW s 8 = rC (dn2 s) (maxR (s.1 (s.2.1 - 2)) (s.1 (s.2.1 - 1))) from rfl, em] at h; exact h))
  · refine a_tableIn (off := 62) (tgt := 96) dX10_two_34 (by decide) (by decide) (by decide) (by decide) ?_
    refine a_aload_n dX10_two_96 rfl ?_
    refine a_lload_n dX10_two_97 rfl ?_
    refine a_lload dX10_two_98 rfl ?_
    refine a_callV (mc1 := 0) (ms1 := 0) (As := [_, _]) kpX10_parts kmX10_277 (by decide) rfl (Nat.le_of_ble_eq_true rfl) rfl (by decide) rfl (by decide) (hlt hN (by decide)) (Nat.le_of_ble_eq_true rfl) (Nat.le_of_ble_eq_true rfl) (Nat.le_of_ble_eq_true rfl) dX10_two_100 (w_X10_parts (s := dn2 s) (show s.2.1 - 2 < 40 by omega) hN (by exact hs) ?_)
    refine a_goto (tgt := 123) dX10_two_103 (by decide) ?_
    refine a_vret dX10_two_123 rfl (by first | exact h | (rw [show rW s 8 = rC (dn2 s) (maxR (s.1 (s.2.1 - 2)) (s.1 (s.2.1 - 1))) from rfl, em] at h; exact h))
  · refine a_tableOut (tgt := 106) dX10_two_34 (by decide) (by decide) ?_
    refine a_aload_n dX10_two_106 rfl ?_
    refine a_lload_n dX10_two_107 rfl ?_
    refine a_lload dX10_two_108 rfl ?_
    refine a_lcmp dX10_two_110 ?_
    refine a_if_le (tgt := 118) dX10_two_111 (by decide) (fun c_111 => ?_) (fun c_111 => ?_)
    · have em : maxR (s.1 (s.2.1 - 2)) (s.1 (s.2.1 - 1)) = s.1 (s.2.1 - 1) := if_neg (ltl_no c_111)
      refine a_lload dX10_two_118 rfl ?_
      refine a_callV (mc1 := 0) (ms1 := 0) (As := [_]) kpX10_comes kmX10_269 (by decide) rfl (Nat.le_of_ble_eq_true rfl) rfl (by decide) rfl (by decide) (hlt hN (by decide)) (Nat.le_of_ble_eq_true rfl) (Nat.le_of_ble_eq_true rfl) (Nat.le_of_ble_eq_true rfl) dX10_two_120 (w_X10_comes (s := dn2 s) (show s.2.1 - 2 < 40 by omega) hN (by exact hs) ?_)
      refine a_vret dX10_two_123 rfl (by first | exact h | (rw [show rW s 8 = rC (dn2 s) (maxR (s.1 (s.2.1 - 2)) (s.1 (s.2.1 - 1))) from rfl, em] at h; exact h))
    · have em : maxR (s.1 (s.2.1 - 2)) (s.1 (s.2.1 - 1)) = s.1 (s.2.1 - 2) := if_pos (ltl_ok c_111)
      refine a_lload_n dX10_two_114 rfl ?_
      refine a_goto (tgt := 120) dX10_two_115 (by decide) ?_
      refine a_callV (mc1 := 0) (ms1 := 0) (As := [_]) kpX10_comes kmX10_269 (by decide) rfl (Nat.le_of_ble_eq_true rfl) rfl (by decide) rfl (by decide) (hlt hN (by decide)) (Nat.le_of_ble_eq_true rfl) (Nat.le_of_ble_eq_true rfl) (Nat.le_of_ble_eq_true rfl) dX10_two_120 (w_X10_comes (s := dn2 s) (show s.2.1 - 2 < 40 by omega) hN (by exact hs) ?_)
      refine a_vret dX10_two_123 rfl (by first | exact h | (rw [show rW s 8 = rC (dn2 s) (maxR (s.1 (s.2.1 - 2)) (s.1 (s.2.1 - 1))) from rfl, em] at h; exact h))

theorem w_X10_names {M : Mem} {N : Nat} {Q : Option Value → Nat → Mem → Prop} {V : FS} {s : MS} (hh : s.2.1 < 40) {c : Nat} (hc : c < 64)  (hN : 94 ≤ N) (hs : Str M.2.2.1) (h : Q (none) N (we M V (pR s (V.1 c) (V.2 c)))) : AW mX10_names 0 0 0 N 0 [(0, .ref 64), (1, .int (nI c))] [] (we M V s) Q := by
  refine a_aload_n dX10_names_0 rfl ?_
  refine a_aload_n dX10_names_1 rfl ?_
  refine a_getA (z := 92) kfX10_98 rfl rfl (st_64_44 hs) (by decide) (hlt hN (by decide)) dX10_names_2 ?_
  refine a_iload_n dX10_names_5 rfl ?_
  refine a_iald rfl (by decide) (hlt hN (by decide)) (show vp_in _ 64 from j64_in hc) dX10_names_6 ?_
  rw [j64_c hc, we_e]
  refine a_putI kfX10_263 rfl rfl rfl (by decide) (hlt hN (by decide)) dX10_names_7 ?_
  rw [we_sw]
  refine a_aload_n dX10_names_10 rfl ?_
  refine a_getA (z := 93) kfX10_101 rfl rfl (st_64_45 hs) (by decide) (hlt hN (by decide)) dX10_names_11 ?_
  refine a_aload_n dX10_names_14 rfl ?_
  refine a_getI kfX10_266 rfl rfl (by decide) (hlt hN (by decide)) dX10_names_15 ?_
  rw [we_h]
  refine a_aload_n dX10_names_18 rfl ?_
  refine a_getA (z := 91) kfX10_95 rfl rfl (st_64_43 hs) (by decide) (hlt hN (by decide)) dX10_names_19 ?_
  refine a_iload_n dX10_names_22 rfl ?_
  refine a_lald rfl (by decide) (hlt hN (by decide)) (show vp_in _ 64 from j64_in hc) dX10_names_23 ?_
  rw [j64_c hc, we_v]
  refine a_last rfl (by decide) (hlt hN (by decide)) (show vp_in _ 40 from m40 hh) dX10_names_24 ?_
  rw [nI_clamp (show s.2.1 < 2 ^ 31 by omega), we_ss]
  refine a_aload_n dX10_names_25 rfl ?_
  refine a_dup dX10_names_26 rfl ?_
  refine a_getI kfX10_266 rfl rfl (by decide) (hlt hN (by decide)) dX10_names_27 ?_
  rw [we_h]
  refine a_iconst (v := 1) dX10_names_30 (by decide) ?_
  refine a_iadd dX10_names_31 ?_
  rw [show nI s.2.1 + 1 = nI (s.2.1 + 1) from nI_1 _]
  refine a_putI kfX10_266 rfl rfl rfl (by decide) (hlt hN (by decide)) dX10_names_32 ?_
  rw [we_sh]
  refine a_vret dX10_names_35 rfl h

