/-- the formula f: its rows' references and lengths -/
def FoF (F : (Nat → Nat → Option Nat) × (Nat → Nat)) (f n : Nat) : Prop := FoA F.1 f ∧ F.2 (f + 1) = n ∧ F.2 (f + 2) = n ∧ F.2 (f + 3) = n ∧ F.2 (f + 4) = n ∧ n ≤ 40
theorem ln_94 {M : Mem} {q : Nat} (h : 94 ≤ q) : ln M q = M.2.2.2 q := by unfold ln rL; rw [if_neg (by omega)]
theorem fo_94 {f N : Nat} (h : FoR f N) : 94 ≤ f := by obtain ⟨k, rfl, -⟩ := h; omega
theorem fo_ln1 {M : Mem} {f n N : Nat} (h : FoR f N) (hm : FoF M.2.2 f n) : ln M (f + 1) = n := by have := fo_94 h; rw [ln_94 (by omega)]; exact hm.2.1
theorem fo_lv1 {M : Mem} {f n N : Nat} (h : FoR f N) (hm : FoF M.2.2 f n) : Int32.ofNat (ln M (f + 1)) = nI n := by rw [fo_ln1 h hm]; rfl
theorem fo_in1 {M : Mem} {f n N p : Nat} (h : FoR f N) (hm : FoF M.2.2 f n) (hp : p < n) : vp_in (nI p) (ln M (f + 1)) := by rw [fo_ln1 h hm]; have := hm.2.2.2.2.2; exact vp_in_nI hp (by omega)
theorem fo_ln2 {M : Mem} {f n N : Nat} (h : FoR f N) (hm : FoF M.2.2 f n) : ln M (f + 2) = n := by have := fo_94 h; rw [ln_94 (by omega)]; exact hm.2.2.1
theorem fo_lv2 {M : Mem} {f n N : Nat} (h : FoR f N) (hm : FoF M.2.2 f n) : Int32.ofNat (ln M (f + 2)) = nI n := by rw [fo_ln2 h hm]; rfl
theorem fo_in2 {M : Mem} {f n N p : Nat} (h : FoR f N) (hm : FoF M.2.2 f n) (hp : p < n) : vp_in (nI p) (ln M (f + 2)) := by rw [fo_ln2 h hm]; have := hm.2.2.2.2.2; exact vp_in_nI hp (by omega)
theorem fo_ln3 {M : Mem} {f n N : Nat} (h : FoR f N) (hm : FoF M.2.2 f n) : ln M (f + 3) = n := by have := fo_94 h; rw [ln_94 (by omega)]; exact hm.2.2.2.1
theorem fo_lv3 {M : Mem} {f n N : Nat} (h : FoR f N) (hm : FoF M.2.2 f n) : Int32.ofNat (ln M (f + 3)) = nI n := by rw [fo_ln3 h hm]; rfl
theorem fo_in3 {M : Mem} {f n N p : Nat} (h : FoR f N) (hm : FoF M.2.2 f n) (hp : p < n) : vp_in (nI p) (ln M (f + 3)) := by rw [fo_ln3 h hm]; have := hm.2.2.2.2.2; exact vp_in_nI hp (by omega)
theorem fo_ln4 {M : Mem} {f n N : Nat} (h : FoR f N) (hm : FoF M.2.2 f n) : ln M (f + 4) = n := by have := fo_94 h; rw [ln_94 (by omega)]; exact hm.2.2.2.2.1
theorem fo_lv4 {M : Mem} {f n N : Nat} (h : FoR f N) (hm : FoF M.2.2 f n) : Int32.ofNat (ln M (f + 4)) = nI n := by rw [fo_ln4 h hm]; rfl
theorem fo_in4 {M : Mem} {f n N p : Nat} (h : FoR f N) (hm : FoF M.2.2 f n) (hp : p < n) : vp_in (nI p) (ln M (f + 4)) := by rw [fo_ln4 h hm]; have := hm.2.2.2.2.2; exact vp_in_nI hp (by omega)
theorem fo_40 {M : Mem} {f n : Nat} (hm : FoF M.2.2 f n) : n ≤ 40 := hm.2.2.2.2.2
/-- a whole row put anew -/
def sR (M : Mem) (q : Nat) (r : Nat → Int32) : Mem := (fun a j => if a = q then r j else M.1 a j, M.2)
theorem sI_sR {M : Mem} {q k : Nat} {r : Nat → Int32} {v : Int32} : sI (sR M q r) q k v = sR M q (fun j => if j = k then v else r j) := by
  unfold sI sR up2
  congr 1
  funext a j
  by_cases ha : a = q
  · subst ha; by_cases hj : j = k <;> simp [hj]
  · simp [ha]
theorem sR_id {M : Mem} {q : Nat} {r : Nat → Int32} (h : ∀ j, r j = rI M q j) : sR M q r = M := by
  unfold sR
  refine Prod.ext ?_ rfl
  funext a j
  show (if a = q then r j else M.1 a j) = M.1 a j
  by_cases ha : a = q
  · subst ha; rw [if_pos rfl, h]; rfl
  · rw [if_neg ha]
theorem sI_as {M : Mem} {q k : Nat} {v : Int32} : sI M q k v = sR M q (fun j => if j = k then v else rI M q j) := by
  rw [← sI_sR, sR_id (fun _ => rfl)]
theorem sR_congr {M : Mem} {q : Nat} {r r' : Nat → Int32} (h : ∀ j, r j = r' j) : sR M q r = sR M q r' := by rw [show r = r' from funext h]
theorem rI_sR {M : Mem} {q a j : Nat} {r : Nat → Int32} : rI (sR M q r) a j = if a = q then r j else rI M a j := rfl
theorem rI_sI {M : Mem} {q k a j : Nat} {v : Int32} : rI (sI M q k v) a j = if a = q ∧ j = k then v else rI M a j := rfl
theorem rI_sJ {M : Mem} {q k a j : Nat} {v : Int64} : rI (sJ M q k v) a j = rI M a j := rfl
theorem rJ_sJ {M : Mem} {q k a j : Nat} {v : Int64} : rJ (sJ M q k v) a j = if a = q ∧ j = k then v else rJ M a j := rfl
theorem rJ_sI {M : Mem} {q k a j : Nat} {v : Int32} : rJ (sI M q k v) a j = rJ M a j := rfl
theorem rJ_sR {M : Mem} {q a j : Nat} {r : Nat → Int32} : rJ (sR M q r) a j = rJ M a j := rfl
theorem rA_sI {M : Mem} {q k a j : Nat} {v : Int32} : rA (sI M q k v) a j = rA M a j := rfl
theorem rA_sJ {M : Mem} {q k a j : Nat} {v : Int64} : rA (sJ M q k v) a j = rA M a j := rfl
theorem rA_sA {M : Mem} {q k a j : Nat} {v : Option Nat} : rA (sA M q k v) a j = if a = q ∧ j = k then v else rA M a j := rfl
theorem w_X2_length {M : Mem} {N : Nat} {Q : Option Value → Nat → Mem → Prop} {f n : Nat} (hf : FoR f N) (hm : FoF M.2.2 f n)  (h : Q (some (.int (nI n))) N (M)) : AW mX2_length 0 0 0 N 0 [(0, .ref f)] [] M Q := by
  refine a_aload_n dX2_length_0 rfl ?_
  refine a_getA (z := (f + 1)) kfX2_15 (fo_k hf) rfl (fo_0 hm.1) (fo_two hf) (fo_lt hf) dX2_length_1 ?_
  refine a_alen (fo_k0 hf) (by decide) (fo_two0 hf) (fo_lt0 hf) (fo_lv1 hf hm) dX2_length_4 ?_
  refine a_iret dX2_length_5 rfl h

theorem w_X2_byteAt {M : Mem} {N : Nat} {Q : Option Value → Nat → Mem → Prop} {f n : Nat} (hf : FoR f N) (hm : FoF M.2.2 f n) {p : Nat} (hp : p < n)  (h : Q (some (.int (rI M (f + 1) p))) N (M)) : AW mX2_byteAt 0 0 0 N 0 [(0, .ref f), (1, .int (nI p))] [] M Q := by
  refine a_iload_n dX2_byteAt_0 rfl ?_
  refine a_if_lt (tgt := 22) dX2_byteAt_1 (by decide) (fun c_1 => absurd c_1 (nI_pos (by have := fo_40 hm; omega))) (fun c_1 => ?_)
  refine a_iload_n dX2_byteAt_4 rfl ?_
  refine a_aload_n dX2_byteAt_5 rfl ?_
  refine a_getA (z := (f + 1)) kfX2_15 (fo_k hf) rfl (fo_0 hm.1) (fo_two hf) (fo_lt hf) dX2_byteAt_6 ?_
  refine a_alen (fo_k0 hf) (by decide) (fo_two0 hf) (fo_lt0 hf) (fo_lv1 hf hm) dX2_byteAt_9 ?_
  refine a_icmp_ge (tgt := 22) dX2_byteAt_10 (by decide) (fun c_10 => absurd c_10 (nI_ge hp (by have := fo_40 hm; omega))) (fun c_10 => ?_)
  refine a_aload_n dX2_byteAt_13 rfl ?_
  refine a_getA (z := (f + 1)) kfX2_15 (fo_k hf) rfl (fo_0 hm.1) (fo_two hf) (fo_lt hf) dX2_byteAt_14 ?_
  refine a_iload_n dX2_byteAt_17 rfl ?_
  refine a_iald (fo_k0 hf) (fo_two0 hf) (fo_lt0 hf) (fo_in1 hf hm hp) dX2_byteAt_18 ?_
  refine a_goto (tgt := 23) dX2_byteAt_19 (by decide) ?_
  refine a_iret dX2_byteAt_23 rfl (by rw [nI_clamp (by have := fo_40 hm; omega)]; exact h)

theorem w_X2_stepAt {M : Mem} {N : Nat} {Q : Option Value → Nat → Mem → Prop} {f n : Nat} (hf : FoR f N) (hm : FoF M.2.2 f n) {p : Nat} (hp : p < n)  (h : Q (some (.int (rI M (f + 2) p))) N (M)) : AW mX2_stepAt 0 0 0 N 0 [(0, .ref f), (1, .int (nI p))] [] M Q := by
  refine a_iload_n dX2_stepAt_0 rfl ?_
  refine a_if_lt (tgt := 22) dX2_stepAt_1 (by decide) (fun c_1 => absurd c_1 (nI_pos (by have := fo_40 hm; omega))) (fun c_1 => ?_)
  refine a_iload_n dX2_stepAt_4 rfl ?_
  refine a_aload_n dX2_stepAt_5 rfl ?_
  refine a_getA (z := (f + 2)) kfX2_21 (fo_k hf) rfl (fo_1 hm.1) (fo_two hf) (fo_lt hf) dX2_stepAt_6 ?_
  refine a_alen (fo_k1 hf) (by decide) (fo_two1 hf) (fo_lt1 hf) (fo_lv2 hf hm) dX2_stepAt_9 ?_
  refine a_icmp_ge (tgt := 22) dX2_stepAt_10 (by decide) (fun c_10 => absurd c_10 (nI_ge hp (by have := fo_40 hm; omega))) (fun c_10 => ?_)
  refine a_aload_n dX2_stepAt_13 rfl ?_
  refine a_getA (z := (f + 2)) kfX2_21 (fo_k hf) rfl (fo_1 hm.1) (fo_two hf) (fo_lt hf) dX2_stepAt_14 ?_
  refine a_iload_n dX2_stepAt_17 rfl ?_
  refine a_iald (fo_k1 hf) (fo_two1 hf) (fo_lt1 hf) (fo_in2 hf hm hp) dX2_stepAt_18 ?_
  refine a_goto (tgt := 23) dX2_stepAt_19 (by decide) ?_
  refine a_iret dX2_stepAt_23 rfl (by rw [nI_clamp (by have := fo_40 hm; omega)]; exact h)

theorem w_X2_operandAt {M : Mem} {N : Nat} {Q : Option Value → Nat → Mem → Prop} {f n : Nat} (hf : FoR f N) (hm : FoF M.2.2 f n) {p : Nat} (hp : p < n)  (h : Q (some (.int (rI M (f + 3) p))) N (M)) : AW mX2_operandAt 0 0 0 N 0 [(0, .ref f), (1, .int (nI p))] [] M Q := by
  refine a_iload_n dX2_operandAt_0 rfl ?_
  refine a_if_lt (tgt := 22) dX2_operandAt_1 (by decide) (fun c_1 => absurd c_1 (nI_pos (by have := fo_40 hm; omega))) (fun c_1 => ?_)
  refine a_iload_n dX2_operandAt_4 rfl ?_
  refine a_aload_n dX2_operandAt_5 rfl ?_
  refine a_getA (z := (f + 3)) kfX2_24 (fo_k hf) rfl (fo_2 hm.1) (fo_two hf) (fo_lt hf) dX2_operandAt_6 ?_
  refine a_alen (fo_k2 hf) (by decide) (fo_two2 hf) (fo_lt2 hf) (fo_lv3 hf hm) dX2_operandAt_9 ?_
  refine a_icmp_ge (tgt := 22) dX2_operandAt_10 (by decide) (fun c_10 => absurd c_10 (nI_ge hp (by have := fo_40 hm; omega))) (fun c_10 => ?_)
  refine a_aload_n dX2_operandAt_13 rfl ?_
  refine a_getA (z := (f + 3)) kfX2_24 (fo_k hf) rfl (fo_2 hm.1) (fo_two hf) (fo_lt hf) dX2_operandAt_14 ?_
  refine a_iload_n dX2_operandAt_17 rfl ?_
  refine a_iald (fo_k2 hf) (fo_two2 hf) (fo_lt2 hf) (fo_in3 hf hm hp) dX2_operandAt_18 ?_
  refine a_goto (tgt := 23) dX2_operandAt_19 (by decide) ?_
  refine a_iret dX2_operandAt_23 rfl (by rw [nI_clamp (by have := fo_40 hm; omega)]; exact h)

theorem w_X2_byteAt_out {M : Mem} {N : Nat} {Q : Option Value → Nat → Mem → Prop} {f n : Nat} (hf : FoR f N) (hm : FoF M.2.2 f n) {p : Nat} (hp : n ≤ p) (hp2 : p < 2147483648)  (h : Q (some (.int (-1))) N (M)) : AW mX2_byteAt 0 0 0 N 0 [(0, .ref f), (1, .int (nI p))] [] M Q := by
  refine a_iload_n dX2_byteAt_0 rfl ?_
  refine a_if_lt (tgt := 22) dX2_byteAt_1 (by decide) (fun c_1 => absurd c_1 (nI_pos (by omega))) (fun c_1 => ?_)
  refine a_iload_n dX2_byteAt_4 rfl ?_
  refine a_aload_n dX2_byteAt_5 rfl ?_
  refine a_getA (z := (f + 1)) kfX2_15 (fo_k hf) rfl (fo_0 hm.1) (fo_two hf) (fo_lt hf) dX2_byteAt_6 ?_
  refine a_alen (fo_k0 hf) (by decide) (fo_two0 hf) (fo_lt0 hf) (fo_lv1 hf hm) dX2_byteAt_9 ?_
  refine a_icmp_ge (tgt := 22) dX2_byteAt_10 (by decide) (fun c_10 => ?_) (fun c_10 => absurd (nI_le hp (by omega)) c_10)
  refine a_iconst (v := (-1)) dX2_byteAt_22 (by decide) ?_
  refine a_iret dX2_byteAt_23 rfl h

theorem w_X2_putByte {M : Mem} {N : Nat} {Q : Option Value → Nat → Mem → Prop} {f n : Nat} (hf : FoR f N) (hm : FoF M.2.2 f n) {p : Nat} (hp : p < n) {v : Int32}  (h : Q (none) N (sI M (f + 1) p v)) : AW mX2_putByte 0 0 0 N 0 [(0, .ref f), (1, .int (nI p)), (2, .int v)] [] M Q := by
  refine a_iload_n dX2_putByte_0 rfl ?_
  refine a_if_lt (tgt := 20) dX2_putByte_1 (by decide) (fun c_1 => absurd c_1 (nI_pos (by have := fo_40 hm; omega))) (fun c_1 => ?_)
  refine a_iload_n dX2_putByte_4 rfl ?_
  refine a_aload_n dX2_putByte_5 rfl ?_
  refine a_getA (z := (f + 1)) kfX2_15 (fo_k hf) rfl (fo_0 hm.1) (fo_two hf) (fo_lt hf) dX2_putByte_6 ?_
  refine a_alen (fo_k0 hf) (by decide) (fo_two0 hf) (fo_lt0 hf) (fo_lv1 hf hm) dX2_putByte_9 ?_
  refine a_icmp_ge (tgt := 20) dX2_putByte_10 (by decide) (fun c_10 => absurd c_10 (nI_ge hp (by have := fo_40 hm; omega))) (fun c_10 => ?_)
  refine a_aload_n dX2_putByte_13 rfl ?_
  refine a_getA (z := (f + 1)) kfX2_15 (fo_k hf) rfl (fo_0 hm.1) (fo_two hf) (fo_lt hf) dX2_putByte_14 ?_
  refine a_iload_n dX2_putByte_17 rfl ?_
  refine a_iload_n dX2_putByte_18 rfl ?_
  refine a_iast (fo_k0 hf) (fo_two0 hf) (fo_lt0 hf) (fo_in1 hf hm hp) dX2_putByte_19 ?_
  refine a_vret dX2_putByte_20 rfl (by rw [nI_clamp (by have := fo_40 hm; omega)]; exact h)

theorem w_X2_putByte_out {M : Mem} {N : Nat} {Q : Option Value → Nat → Mem → Prop} {f n : Nat} (hf : FoR f N) (hm : FoF M.2.2 f n) {p : Nat} (hp : n ≤ p) (hp2 : p < 2147483648) {v : Int32}  (h : Q (none) N (M)) : AW mX2_putByte 0 0 0 N 0 [(0, .ref f), (1, .int (nI p)), (2, .int v)] [] M Q := by
  refine a_iload_n dX2_putByte_0 rfl ?_
  refine a_if_lt (tgt := 20) dX2_putByte_1 (by decide) (fun c_1 => absurd c_1 (nI_pos (by omega))) (fun c_1 => ?_)
  refine a_iload_n dX2_putByte_4 rfl ?_
  refine a_aload_n dX2_putByte_5 rfl ?_
  refine a_getA (z := (f + 1)) kfX2_15 (fo_k hf) rfl (fo_0 hm.1) (fo_two hf) (fo_lt hf) dX2_putByte_6 ?_
  refine a_alen (fo_k0 hf) (by decide) (fo_two0 hf) (fo_lt0 hf) (fo_lv1 hf hm) dX2_putByte_9 ?_
  refine a_icmp_ge (tgt := 20) dX2_putByte_10 (by decide) (fun c_10 => ?_) (fun c_10 => absurd (nI_le hp (by omega)) c_10)
  refine a_vret dX2_putByte_20 rfl h

theorem w_X2_countSteps {M : Mem} {N : Nat} {Q : Option Value → Nat → Mem → Prop} {f n : Nat} (hf : FoR f N) (hm : FoF M.2.2 f n)  (h : Q (some (.int (rI M f 4))) N (M)) : AW mX2_countSteps 0 0 0 N 0 [(0, .ref f)] [] M Q := by
  refine a_aload_n dX2_countSteps_0 rfl ?_
  refine a_getI kfX2_38 (fo_k hf) rfl (fo_two hf) (fo_lt hf) dX2_countSteps_1 ?_
  refine a_iret dX2_countSteps_4 rfl h

theorem w_X2_placeOf {M : Mem} {N : Nat} {Q : Option Value → Nat → Mem → Prop} {f n : Nat} (hf : FoR f N) (hm : FoF M.2.2 f n) {sz i : Nat} (hsz : rI M f 4 = nI sz) (hi : i < sz) (hsn : sz ≤ n)  (h : Q (some (.int (rI M (f + 4) i))) N (M)) : AW mX2_placeOf 0 0 0 N 0 [(0, .ref f), (1, .int (nI i))] [] M Q := by
  refine a_iload_n dX2_placeOf_0 rfl ?_
  refine a_if_lt (tgt := 30) dX2_placeOf_1 (by decide) (fun c_1 => absurd c_1 (nI_pos (by have := fo_40 hm; omega))) (fun c_1 => ?_)
  refine a_iload_n dX2_placeOf_4 rfl ?_
  refine a_aload_n dX2_placeOf_5 rfl ?_
  refine a_getI kfX2_38 (fo_k hf) rfl (fo_two hf) (fo_lt hf) dX2_placeOf_6 ?_
  refine a_icmp_ge (tgt := 30) dX2_placeOf_9 (by decide) (fun c_9 => absurd c_9 (by rw [hsz]; exact nI_ge hi (by have := fo_40 hm; omega))) (fun c_9 => ?_)
  refine a_iload_n dX2_placeOf_12 rfl ?_
  refine a_aload_n dX2_placeOf_13 rfl ?_
  refine a_getA (z := (f + 4)) kfX2_27 (fo_k hf) rfl (fo_3 hm.1) (fo_two hf) (fo_lt hf) dX2_placeOf_14 ?_
  refine a_alen (fo_k3 hf) (by decide) (fo_two3 hf) (fo_lt3 hf) (fo_lv4 hf hm) dX2_placeOf_17 ?_
  refine a_icmp_ge (tgt := 30) dX2_placeOf_18 (by decide) (fun c_18 => absurd c_18 (nI_ge (by omega) (by have := fo_40 hm; omega))) (fun c_18 => ?_)
  refine a_aload_n dX2_placeOf_21 rfl ?_
  refine a_getA (z := (f + 4)) kfX2_27 (fo_k hf) rfl (fo_3 hm.1) (fo_two hf) (fo_lt hf) dX2_placeOf_22 ?_
  refine a_iload_n dX2_placeOf_25 rfl ?_
  refine a_iald (fo_k3 hf) (fo_two3 hf) (fo_lt3 hf) (fo_in4 hf hm (by omega)) dX2_placeOf_26 ?_
  refine a_goto (tgt := 31) dX2_placeOf_27 (by decide) ?_
  refine a_iret dX2_placeOf_31 rfl (by rw [nI_clamp (by have := fo_40 hm; omega)]; exact h)

/-- what addStep leaves -/
def adS (M : Mem) (f n p sz : Nat) (s o : Int32) : Mem := if p < n ∧ sz < n then sI (sI (sI (sI M (f + 2) p s) (f + 3) p o) (f + 4) sz (nI p)) f 4 (nI (sz + 1)) else M
theorem w_X2_addStep_in {M : Mem} {N : Nat} {Q : Option Value → Nat → Mem → Prop} {f n : Nat} (hf : FoR f N) (hm : FoF M.2.2 f n) {p sz : Nat} {s o : Int32} (hp2 : p < 1000) (hsz : rI M f 4 = nI sz) (hs2 : sz < 1000) (hp : p < n) (hi : sz < n)  (h : Q (none) N (adS M f n p sz s o)) : AW mX2_addStep 0 0 0 N 0 [(0, .ref f), (1, .int (nI p)), (2, .int s), (3, .int o)] [] M Q := by
  have hclp : (nI p).toNatClampNeg = p := nI_clamp (by omega)
  have hcls : (nI sz).toNatClampNeg = sz := nI_clamp (by omega)
  have e4 : rI (sI (sI M (f + 2) p s) (f + 3) p o) f 4 = nI sz := by rw [rI_sI, if_neg (by omega), rI_sI, if_neg (by omega)]; exact hsz
  have e5 : rI (sI (sI (sI M (f + 2) p s) (f + 3) p o) (f + 4) sz (nI p)) f 4 = nI sz := by rw [rI_sI, if_neg (by omega)]; exact e4
  refine a_iload_n dX2_addStep_0 rfl ?_
  refine a_if_lt (tgt := 75) dX2_addStep_1 (by decide) (fun c_1 => absurd c_1 (nI_pos (by have := fo_40 hm; omega))) (fun c_1 => ?_)
  refine a_iload_n dX2_addStep_4 rfl ?_
  refine a_aload_n dX2_addStep_5 rfl ?_
  refine a_getA (z := (f + 2)) kfX2_21 (fo_k hf) rfl (fo_1 hm.1) (fo_two hf) (fo_lt hf) dX2_addStep_6 ?_
  refine a_alen (fo_k1 hf) (by decide) (fo_two1 hf) (fo_lt1 hf) (fo_lv2 hf hm) dX2_addStep_9 ?_
  refine a_icmp_ge (tgt := 75) dX2_addStep_10 (by decide) (fun c_10 => absurd c_10 (nI_ge hp (by have := fo_40 hm; omega))) (fun c_10 => ?_)
  refine a_iload_n dX2_addStep_13 rfl ?_
  refine a_aload_n dX2_addStep_14 rfl ?_
  refine a_getA (z := (f + 3)) kfX2_24 (fo_k hf) rfl (fo_2 hm.1) (fo_two hf) (fo_lt hf) dX2_addStep_15 ?_
  refine a_alen (fo_k2 hf) (by decide) (fo_two2 hf) (fo_lt2 hf) (fo_lv3 hf hm) dX2_addStep_18 ?_
  refine a_icmp_ge (tgt := 75) dX2_addStep_19 (by decide) (fun c_19 => absurd c_19 (nI_ge hp (by have := fo_40 hm; omega))) (fun c_19 => ?_)
  refine a_aload_n dX2_addStep_22 rfl ?_
  refine a_getI kfX2_38 (fo_k hf) rfl (fo_two hf) (fo_lt hf) dX2_addStep_23 ?_
  refine a_if_lt (tgt := 75) dX2_addStep_26 (by decide) (fun c_26 => absurd c_26 (by rw [hsz]; exact nI_pos (by omega))) (fun c_26 => ?_)
  refine a_aload_n dX2_addStep_29 rfl ?_
  refine a_getI kfX2_38 (fo_k hf) rfl (fo_two hf) (fo_lt hf) dX2_addStep_30 ?_
  refine a_aload_n dX2_addStep_33 rfl ?_
  refine a_getA (z := (f + 4)) kfX2_27 (fo_k hf) rfl (fo_3 hm.1) (fo_two hf) (fo_lt hf) dX2_addStep_34 ?_
  refine a_alen (fo_k3 hf) (by decide) (fo_two3 hf) (fo_lt3 hf) (fo_lv4 hf hm) dX2_addStep_37 ?_
  refine a_icmp_ge (tgt := 75) dX2_addStep_38 (by decide) (fun c_38 => absurd c_38 (by rw [hsz]; exact nI_ge hi (by have := fo_40 hm; omega))) (fun c_38 => ?_)
  refine a_aload_n dX2_addStep_41 rfl ?_
  refine a_getA (z := (f + 2)) kfX2_21 (fo_k hf) rfl (fo_1 hm.1) (fo_two hf) (fo_lt hf) dX2_addStep_42 ?_
  refine a_iload_n dX2_addStep_45 rfl ?_
  refine a_iload_n dX2_addStep_46 rfl ?_
  refine a_iast (fo_k1 hf) (fo_two1 hf) (fo_lt1 hf) (fo_in2 hf hm hp) dX2_addStep_47 ?_
  refine a_aload_n dX2_addStep_48 rfl ?_
  refine a_getA (z := (f + 3)) kfX2_24 (fo_k hf) rfl (fo_2 hm.1) (fo_two hf) (fo_lt hf) dX2_addStep_49 ?_
  refine a_iload_n dX2_addStep_52 rfl ?_
  refine a_iload_n dX2_addStep_53 rfl ?_
  refine a_iast (fo_k2 hf) (fo_two2 hf) (fo_lt2 hf) (fo_in3 hf hm hp) dX2_addStep_54 ?_
  refine a_aload_n dX2_addStep_55 rfl ?_
  refine a_getA (z := (f + 4)) kfX2_27 (fo_k hf) rfl (fo_3 hm.1) (fo_two hf) (fo_lt hf) dX2_addStep_56 ?_
  refine a_aload_n dX2_addStep_59 rfl ?_
  refine a_getI kfX2_38 (fo_k hf) rfl (fo_two hf) (fo_lt hf) dX2_addStep_60 ?_
  refine a_iload_n dX2_addStep_63 rfl ?_
  refine a_iast (fo_k3 hf) (fo_two3 hf) (fo_lt3 hf) (by rw [hclp, e4]; exact fo_in4 hf hm hi) dX2_addStep_64 ?_
  refine a_aload_n dX2_addStep_65 rfl ?_
  refine a_dup dX2_addStep_66 rfl ?_
  refine a_getI kfX2_38 (fo_k hf) rfl (fo_two hf) (fo_lt hf) dX2_addStep_67 ?_
  refine a_iconst (v := 1) dX2_addStep_70 (by decide) ?_
  refine a_iadd dX2_addStep_71 ?_
  refine a_putI kfX2_38 (fo_k hf) rfl rfl (fo_two hf) (fo_lt hf) dX2_addStep_72 ?_
  refine a_vret dX2_addStep_75 rfl (by simp only [hclp, e4, hcls, e5, nI_1]; unfold adS at h; rw [if_pos ⟨hp, hi⟩] at h; exact h)

theorem w_X2_addStep_out {M : Mem} {N : Nat} {Q : Option Value → Nat → Mem → Prop} {f n : Nat} (hf : FoR f N) (hm : FoF M.2.2 f n) {p sz : Nat} {s o : Int32} (hp2 : p < 1000) (hsz : rI M f 4 = nI sz) (hs2 : sz < 1000) (hp : n ≤ p)  (h : Q (none) N (adS M f n p sz s o)) : AW mX2_addStep 0 0 0 N 0 [(0, .ref f), (1, .int (nI p)), (2, .int s), (3, .int o)] [] M Q := by
  refine a_iload_n dX2_addStep_0 rfl ?_
  refine a_if_lt (tgt := 75) dX2_addStep_1 (by decide) (fun c_1 => absurd c_1 (nI_pos (by omega))) (fun c_1 => ?_)
  refine a_iload_n dX2_addStep_4 rfl ?_
  refine a_aload_n dX2_addStep_5 rfl ?_
  refine a_getA (z := (f + 2)) kfX2_21 (fo_k hf) rfl (fo_1 hm.1) (fo_two hf) (fo_lt hf) dX2_addStep_6 ?_
  refine a_alen (fo_k1 hf) (by decide) (fo_two1 hf) (fo_lt1 hf) (fo_lv2 hf hm) dX2_addStep_9 ?_
  refine a_icmp_ge (tgt := 75) dX2_addStep_10 (by decide) (fun c_10 => ?_) (fun c_10 => absurd (nI_le hp (by omega)) c_10)
  refine a_vret dX2_addStep_75 rfl (by unfold adS at h; rw [if_neg (by omega)] at h; exact h)

theorem w_X2_addStep_full {M : Mem} {N : Nat} {Q : Option Value → Nat → Mem → Prop} {f n : Nat} (hf : FoR f N) (hm : FoF M.2.2 f n) {p sz : Nat} {s o : Int32} (hp2 : p < 1000) (hsz : rI M f 4 = nI sz) (hs2 : sz < 1000) (hp : p < n) (hi : n ≤ sz)  (h : Q (none) N (adS M f n p sz s o)) : AW mX2_addStep 0 0 0 N 0 [(0, .ref f), (1, .int (nI p)), (2, .int s), (3, .int o)] [] M Q := by
  refine a_iload_n dX2_addStep_0 rfl ?_
  refine a_if_lt (tgt := 75) dX2_addStep_1 (by decide) (fun c_1 => absurd c_1 (nI_pos (by have := fo_40 hm; omega))) (fun c_1 => ?_)
  refine a_iload_n dX2_addStep_4 rfl ?_
  refine a_aload_n dX2_addStep_5 rfl ?_
  refine a_getA (z := (f + 2)) kfX2_21 (fo_k hf) rfl (fo_1 hm.1) (fo_two hf) (fo_lt hf) dX2_addStep_6 ?_
  refine a_alen (fo_k1 hf) (by decide) (fo_two1 hf) (fo_lt1 hf) (fo_lv2 hf hm) dX2_addStep_9 ?_
  refine a_icmp_ge (tgt := 75) dX2_addStep_10 (by decide) (fun c_10 => absurd c_10 (nI_ge hp (by have := fo_40 hm; omega))) (fun c_10 => ?_)
  refine a_iload_n dX2_addStep_13 rfl ?_
  refine a_aload_n dX2_addStep_14 rfl ?_
  refine a_getA (z := (f + 3)) kfX2_24 (fo_k hf) rfl (fo_2 hm.1) (fo_two hf) (fo_lt hf) dX2_addStep_15 ?_
  refine a_alen (fo_k2 hf) (by decide) (fo_two2 hf) (fo_lt2 hf) (fo_lv3 hf hm) dX2_addStep_18 ?_
  refine a_icmp_ge (tgt := 75) dX2_addStep_19 (by decide) (fun c_19 => absurd c_19 (nI_ge hp (by have := fo_40 hm; omega))) (fun c_19 => ?_)
  refine a_aload_n dX2_addStep_22 rfl ?_
  refine a_getI kfX2_38 (fo_k hf) rfl (fo_two hf) (fo_lt hf) dX2_addStep_23 ?_
  refine a_if_lt (tgt := 75) dX2_addStep_26 (by decide) (fun c_26 => absurd c_26 (by rw [hsz]; exact nI_pos (by omega))) (fun c_26 => ?_)
  refine a_aload_n dX2_addStep_29 rfl ?_
  refine a_getI kfX2_38 (fo_k hf) rfl (fo_two hf) (fo_lt hf) dX2_addStep_30 ?_
  refine a_aload_n dX2_addStep_33 rfl ?_
  refine a_getA (z := (f + 4)) kfX2_27 (fo_k hf) rfl (fo_3 hm.1) (fo_two hf) (fo_lt hf) dX2_addStep_34 ?_
  refine a_alen (fo_k3 hf) (by decide) (fo_two3 hf) (fo_lt3 hf) (fo_lv4 hf hm) dX2_addStep_37 ?_
  refine a_icmp_ge (tgt := 75) dX2_addStep_38 (by decide) (fun c_38 => ?_) (fun c_38 => absurd (by rw [hsz]; exact nI_le hi (by omega)) c_38)
  refine a_vret dX2_addStep_75 rfl (by unfold adS at h; rw [if_neg (by omega)] at h; exact h)

theorem w_X2_addStep {M : Mem} {N : Nat} {Q : Option Value → Nat → Mem → Prop} {f n : Nat} (hf : FoR f N) (hm : FoF M.2.2 f n) {p sz : Nat} {s o : Int32} (hp2 : p < 1000) (hsz : rI M f 4 = nI sz) (hs2 : sz < 1000) (h : Q none N (adS M f n p sz s o)) : AW mX2_addStep 0 0 0 N 0 [(0, .ref f), (1, .int (nI p)), (2, .int s), (3, .int o)] [] M Q := by
  rcases Nat.lt_or_ge p n with hp | hp
  · rcases Nat.lt_or_ge sz n with hi | hi
    · exact w_X2_addStep_in hf hm hp2 hsz hs2 hp hi h
    · exact w_X2_addStep_full hf hm hp2 hsz hs2 hp hi h
  · exact w_X2_addStep_out hf hm hp2 hsz hs2 hp h
def sgn (s : Int32) : Prop := s.toInt = 43 ∨ s.toInt = 45 ∨ s.toInt = 42 ∨ s.toInt = 47
theorem sgn_dec : ∀ s : Int32, sgn s ∨ ¬ sgn s := fun s => Classical.em _
/-- a step, an operand, as the change q has it -/
def chS (M : Mem) (q f p : Nat) : Int32 := if nI p = rI M q 0 then (if (rI M (f + 2) p).toInt = 43 ∨ (rI M (f + 2) p).toInt = 45 ∨ (rI M (f + 2) p).toInt = 42 ∨ (rI M (f + 2) p).toInt = 47 then rI M q 1 else rI M (f + 2) p) else rI M (f + 2) p
def chO (M : Mem) (q f p : Nat) : Int32 := if nI p = rI M q 0 then rI M q 1 else rI M (f + 3) p
theorem w_X0_set {M : Mem} {N : Nat} {Q : Option Value → Nat → Mem → Prop} (hN : 94 ≤ N) {q : Nat} (hq : ChR q) {a b : Int32}  (h : Q (none) N (sI (sI M q 0 a) q 1 b)) : AW mX0_set 0 0 0 N 0 [(0, .ref q), (1, .int a), (2, .int b)] [] M Q := by
  refine a_aload_n dX0_set_0 rfl ?_
  refine a_iload_n dX0_set_1 rfl ?_
  refine a_putI kfX0_9 (ch_k hq) rfl rfl (ch_two hq) (ch_lt hq hN) dX0_set_2 ?_
  refine a_aload_n dX0_set_5 rfl ?_
  refine a_iload_n dX0_set_6 rfl ?_
  refine a_putI kfX0_15 (ch_k hq) rfl rfl (ch_two hq) (ch_lt hq hN) dX0_set_7 ?_
  refine a_vret dX0_set_10 rfl h

theorem w_X0_stepOf {M : Mem} {N : Nat} {Q : Option Value → Nat → Mem → Prop} (hN : 94 ≤ N) {q : Nat} (hq : ChR q) {f n : Nat} (hf : FoR f N) (hm : FoF M.2.2 f n) {p : Nat} (hp : p < n)  (h : Q (some (.int (chS M q f p))) N (M)) : AW mX0_stepOf 1 0 0 N 0 [(0, .ref q), (1, .ref f), (2, .int (nI p))] [] M Q := by
  refine a_aload_n dX0_stepOf_0 rfl ?_
  refine a_iload_n dX0_stepOf_1 rfl ?_
  refine a_callV (mc1 := 0) (ms1 := 0) (As := [_]) kpX2_stepAt kmX0_18 (by decide) rfl (Nat.le_of_ble_eq_true rfl) (fo_k hf) (by decide) rfl (fo_two hf) (fo_lt hf) (Nat.le_of_ble_eq_true rfl) (Nat.le_of_ble_eq_true rfl) (Nat.le_of_ble_eq_true rfl) dX0_stepOf_2 (w_X2_stepAt hf hm hp ?_)
  refine a_istore_n dX0_stepOf_5 (by decide) ?_
  refine a_iload_n dX0_stepOf_6 rfl ?_
  refine a_aload_n dX0_stepOf_7 rfl ?_
  refine a_getI kfX0_9 (ch_k hq) rfl (ch_two hq) (ch_lt hq hN) dX0_stepOf_8 ?_
  refine a_icmp_ne (tgt := 28) dX0_stepOf_11 (by decide) (fun c_11 => ?_) (fun c_11 => ?_)
  · refine a_iload_n dX0_stepOf_28 rfl ?_
    refine a_iret dX0_stepOf_29 rfl (ret_i (by unfold chS; first | exact if_neg c_11 | (rw [if_pos c_11]; exact if_neg (bI_z.mp c_18)) | (rw [if_pos c_11]; exact if_pos (bI_nz.mp c_18))) h)
  · refine a_iload_n dX0_stepOf_14 rfl ?_
    refine a_callSN (host := "SheetMarker") (mc1 := 0) (ms1 := 0) (As := [_]) kpX9_isSign (by decide +kernel) (by decide) rfl (Nat.le_of_ble_eq_true rfl) (Nat.le_of_ble_eq_true rfl) (Nat.le_of_ble_eq_true rfl) (Nat.le_of_ble_eq_true rfl) dX0_stepOf_15 (w_X9_isSign ?_)
    refine a_if_eq (tgt := 28) dX0_stepOf_18 (by decide) (fun c_18 => ?_) (fun c_18 => ?_)
    · refine a_iload_n dX0_stepOf_28 rfl ?_
      refine a_iret dX0_stepOf_29 rfl (ret_i (by unfold chS; first | exact if_neg c_11 | (rw [if_pos c_11]; exact if_neg (bI_z.mp c_18)) | (rw [if_pos c_11]; exact if_pos (bI_nz.mp c_18))) h)
    · refine a_aload_n dX0_stepOf_21 rfl ?_
      refine a_getI kfX0_15 (ch_k hq) rfl (ch_two hq) (ch_lt hq hN) dX0_stepOf_22 ?_
      refine a_goto (tgt := 29) dX0_stepOf_25 (by decide) ?_
      refine a_iret dX0_stepOf_29 rfl (ret_i (by unfold chS; first | exact if_neg c_11 | (rw [if_pos c_11]; exact if_neg (bI_z.mp c_18)) | (rw [if_pos c_11]; exact if_pos (bI_nz.mp c_18))) h)

theorem w_X0_operandOf {M : Mem} {N : Nat} {Q : Option Value → Nat → Mem → Prop} (hN : 94 ≤ N) {q : Nat} (hq : ChR q) {f n : Nat} (hf : FoR f N) (hm : FoF M.2.2 f n) {p : Nat} (hp : p < n)  (h : Q (some (.int (chO M q f p))) N (M)) : AW mX0_operandOf 1 0 0 N 0 [(0, .ref q), (1, .ref f), (2, .int (nI p))] [] M Q := by
  refine a_iload_n dX0_operandOf_0 rfl ?_
  refine a_aload_n dX0_operandOf_1 rfl ?_
  refine a_getI kfX0_9 (ch_k hq) rfl (ch_two hq) (ch_lt hq hN) dX0_operandOf_2 ?_
  refine a_icmp_ne (tgt := 15) dX0_operandOf_5 (by decide) (fun c_5 => ?_) (fun c_5 => ?_)
  · refine a_aload_n dX0_operandOf_15 rfl ?_
    refine a_iload_n dX0_operandOf_16 rfl ?_
    refine a_callV (mc1 := 0) (ms1 := 0) (As := [_]) kpX2_operandAt kmX0_28 (by decide) rfl (Nat.le_of_ble_eq_true rfl) (fo_k hf) (by decide) rfl (fo_two hf) (fo_lt hf) (Nat.le_of_ble_eq_true rfl) (Nat.le_of_ble_eq_true rfl) (Nat.le_of_ble_eq_true rfl) dX0_operandOf_17 (w_X2_operandAt hf hm hp ?_)
    refine a_iret dX0_operandOf_20 rfl (ret_i (by unfold chO; first | exact if_pos (by simp_all) | exact if_neg (by simp_all)) h)
  · refine a_aload_n dX0_operandOf_8 rfl ?_
    refine a_getI kfX0_15 (ch_k hq) rfl (ch_two hq) (ch_lt hq hN) dX0_operandOf_9 ?_
    refine a_goto (tgt := 20) dX0_operandOf_12 (by decide) ?_
    refine a_iret dX0_operandOf_20 rfl (ret_i (by unfold chO; first | exact if_pos (by simp_all) | exact if_neg (by simp_all)) h)

