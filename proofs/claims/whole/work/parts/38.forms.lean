/-! formulas are made -/
def NFo (f : Nat) : Prop := ∃ k, f = 94 + 6 * k
theorem nf_k {f : Nat} (h : NFo f) : KD f = 2 := by obtain ⟨k, rfl⟩ := h; exact kd_fo k 0 (by decide)
theorem nf_k1 {f : Nat} (h : NFo f) : KD (f + 1) = 11 := by obtain ⟨k, rfl⟩ := h; exact kd_fo k 1 (by decide)
theorem nf_k2 {f : Nat} (h : NFo f) : KD (f + 1 + 1) = 11 := by obtain ⟨k, rfl⟩ := h; exact kd_fo k 2 (by decide)
theorem nf_k3 {f : Nat} (h : NFo f) : KD (f + 1 + 1 + 1) = 11 := by obtain ⟨k, rfl⟩ := h; exact kd_fo k 3 (by decide)
theorem nf_k4 {f : Nat} (h : NFo f) : KD (f + 1 + 1 + 1 + 1) = 11 := by obtain ⟨k, rfl⟩ := h; exact kd_fo k 4 (by decide)
theorem nf_k5 {f : Nat} (h : NFo f) : KD (f + 5) = 6 := by obtain ⟨k, rfl⟩ := h; exact kd_fo k 5 (by decide)
theorem nf_94 {f : Nat} (h : NFo f) : 94 ≤ f := by obtain ⟨k, rfl⟩ := h; omega
theorem nf_two {f : Nat} (h : NFo f) : 2 ≤ f := by have := nf_94 h; omega
theorem ln_mk {M : Mem} {N n : Nat} (h : 94 ≤ N) : ln (mk M N n) N = n := by
  rw [ln_94 h]
  show (if N = N then n else _) = n
  rw [if_pos rfl]
theorem max_0 {m : Nat} (h : m ≤ 40) : maxI (nI m) 0 = nI m := by
  unfold maxI
  rw [if_neg (nI_pos (by omega))]
/-- the new formula's memory -/
def nwF (M : Mem) (f m : Nat) : Mem := sA (mk (sA (mk (sA (mk (sA (mk M (f + 1) m) f 0 (some (f + 1))) (f + 1 + 1) m) f 1 (some (f + 1 + 1))) (f + 1 + 1 + 1) m) f 2 (some (f + 1 + 1 + 1))) (f + 1 + 1 + 1 + 1) m) f 3 (some (f + 1 + 1 + 1 + 1))
theorem w_X2_init {M : Mem} {Q : Option Value → Nat → Mem → Prop} {f m : Nat} (hf : NFo f) (hm : m ≤ 40) (h : Q none (f + 1 + 1 + 1 + 1 + 1) (nwF M f m)) : AW mX2_init 1 4 (4 * m) (f + 1) 0 [(0, .ref f), (1, .int (nI m))] [] M Q := by
  have h94 := nf_94 hf
  refine a_aload_n dX2_init_0 rfl ?_
  refine a_objInit koX2_3 (Nat.le_of_ble_eq_true rfl) dX2_init_1 ?_
  refine a_iload_n dX2_init_4 rfl ?_
  refine a_iconst (v := 0) dX2_init_5 (by decide) ?_
  refine a_callS (mc1 := 4) (ms1 := (4 * m)) (As := [_, _]) kpJ9_max_7cf53 kmX2_9 (by decide) rfl (Nat.le_of_ble_eq_true rfl) (Nat.le_of_ble_eq_true rfl) (show 0 + 4 ≤ 4 by decide) (show 0 + 4 * m ≤ 4 * m by omega) dX2_init_6 (w_J9_max_7cf53 ?_)
  rw [max_0 hm]
  refine a_istore_n dX2_init_9 (by decide) ?_
  refine a_aload_n dX2_init_10 rfl ?_
  refine a_iload_n dX2_init_11 rfl ?_
  refine a_newa (atype := .int) ka_int (nf_k1 hf) (by decide) (nI_pos (by omega)) (nI_clamp (by omega)) (by omega) (ln_mk (by omega)) (show 3 + 1 ≤ 4 from Nat.le_refl _) (show 3 * m + m ≤ 4 * m by omega) dX2_init_12 ?_
  refine a_putA kfX2_15 (nf_k hf) rfl rfl rfl rfl (nf_two hf) (by omega) dX2_init_14 ?_
  refine a_aload_n dX2_init_17 rfl ?_
  refine a_iload_n dX2_init_18 rfl ?_
  refine a_newa (atype := .int) ka_int (nf_k2 hf) (by decide) (nI_pos (by omega)) (nI_clamp (by omega)) (by omega) (ln_mk (by omega)) (show 2 + 1 ≤ 3 from Nat.le_refl _) (show 2 * m + m ≤ 3 * m by omega) dX2_init_19 ?_
  refine a_putA kfX2_21 (nf_k hf) rfl rfl rfl rfl (nf_two hf) (by omega) dX2_init_21 ?_
  refine a_aload_n dX2_init_24 rfl ?_
  refine a_iload_n dX2_init_25 rfl ?_
  refine a_newa (atype := .int) ka_int (nf_k3 hf) (by decide) (nI_pos (by omega)) (nI_clamp (by omega)) (by omega) (ln_mk (by omega)) (show 1 + 1 ≤ 2 from Nat.le_refl _) (show 1 * m + m ≤ 2 * m by omega) dX2_init_26 ?_
  refine a_putA kfX2_24 (nf_k hf) rfl rfl rfl rfl (nf_two hf) (by omega) dX2_init_28 ?_
  refine a_aload_n dX2_init_31 rfl ?_
  refine a_iload_n dX2_init_32 rfl ?_
  refine a_newa (atype := .int) ka_int (nf_k4 hf) (by decide) (nI_pos (by omega)) (nI_clamp (by omega)) (by omega) (ln_mk (by omega)) (show 0 + 1 ≤ 1 from Nat.le_refl _) (show 0 * m + m ≤ 1 * m by omega) dX2_init_33 ?_
  refine a_putA kfX2_27 (nf_k hf) rfl rfl rfl rfl (nf_two hf) (by omega) dX2_init_35 ?_
  refine a_vret dX2_init_38 rfl h
theorem w_X6_init {M : Mem} {N : Nat} {Q : Option Value → Nat → Mem → Prop} {p f : Nat} (hk : KD p = 6) (hp2 : 2 ≤ p) (hpN : p < N) (h : Q none N (sA M p 0 (some f))) : AW mX6_init 1 0 0 N 0 [(0, .ref p), (1, .ref f)] [] M Q := by
  refine a_aload_n dX6_init_0 rfl ?_
  refine a_objInit koX6_3 (Nat.le_of_ble_eq_true rfl) dX6_init_1 ?_
  refine a_aload_n dX6_init_4 rfl ?_
  refine a_aload_n dX6_init_5 rfl ?_
  refine a_putA kfX6_9 hk rfl rfl rfl rfl hp2 hpN dX6_init_6 ?_
  refine a_vret dX6_init_9 rfl h
theorem w_X0_init {M : Mem} {N : Nat} {Q : Option Value → Nat → Mem → Prop} {q : Nat} (hk : KD q = 0) (hq2 : 2 ≤ q) (hqN : q < N) (h : Q none N (sI M q 0 (-1))) : AW mX0_init 1 0 0 N 0 [(0, .ref q)] [] M Q := by
  refine a_aload_n dX0_init_0 rfl ?_
  refine a_objInit koX0_3 (Nat.le_of_ble_eq_true rfl) dX0_init_1 ?_
  refine a_aload_n dX0_init_4 rfl ?_
  refine a_iconst (v := (-1)) dX0_init_5 (by decide) ?_
  refine a_putI kfX0_9 hk rfl rfl hq2 hqN dX0_init_6 ?_
  refine a_vret dX0_init_9 rfl h
