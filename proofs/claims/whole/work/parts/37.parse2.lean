/-- a product's signs and factors, F reads a factor; a sum's -/
def prL (t : Nat → Int32) (m : Nat) (F : CS → CS) : Nat → CS → CS
  | 0, s => s
  | r + 1, s => if nxC t m s = 42 ∨ nxC t m s = 47 then prL t m F r (adC m s.1 (nxC t m s) 0 (F (avC s))) else s
def prC (t : Nat → Int32) (m : Nat) (F : CS → CS) (s : CS) : CS := prL t m F 40 (F s)
def suL (t : Nat → Int32) (m : Nat) (F : CS → CS) : Nat → CS → CS
  | 0, s => s
  | r + 1, s => if nxC t m s = 43 ∨ nxC t m s = 45 then suL t m F r (adC m s.1 (nxC t m s) 0 (F (avC s))) else s
def suC (t : Nat → Int32) (m : Nat) (F : CS → CS) (s : CS) : CS := suL t m (prC t m F) 40 (prC t m F s)
def neC (t : Nat → Int32) (m : Nat) (F : CS → CS) (s : CS) : CS := adC m s.1 4 0 (F (psC t m 45 s))
def grC (t : Nat → Int32) (m : Nat) (G : CS → CS) (s : CS) : CS := adC m s.1 6 0 (psC t m 41 (G (psC t m 44 (G (psC t m 40 (psC t m 77 s))))))
def faB (t : Nat → Int32) (m : Nat) (s : CS) : CS := if 48 ≤ (nxC t m s).toInt ∧ (nxC t m s).toInt ≤ 57 then nuC t m s else ceC t m 2 s
/-- a factor, d more may be opened -/
def faC (t : Nat → Int32) (m : Nat) : Nat → CS → CS
  | 0, s => if nxC t m s = 45 ∨ nxC t m s = 40 ∨ nxC t m s = 83 ∨ nxC t m s = 77 then flC 2 s else faB t m s
  | d + 1, s => if nxC t m s = 45 then neC t m (faC t m d) s else if nxC t m s = 40 then psC t m 41 (suC t m (faC t m d) (psC t m 40 s)) else if nxC t m s = 83 then reC t m s else if nxC t m s = 77 then grC t m (suC t m (faC t m d)) s else faB t m s
def paC (t : Nat → Int32) (m : Nat) (s : CS) : CS := suC t m (faC t m 6) (psC t m 61 s)
def pzC (t : Nat → Int32) (m : Nat) (s : CS) : CS := if (paC t m s).1 < m then flC 1 (paC t m s) else paC t m s
theorem sg_m1 {x : Int32} {a b : Int32} (h : x = a ∨ x = b) (ha : ¬ a = -1) (hb : ¬ b = -1) : ¬ x = -1 := by
  rcases h with rfl | rfl
  · exact ha
  · exact hb
theorem prL_in {t : Nat → Int32} {m : Nat} {F : CS → CS} (hF : ∀ s, CIn m s → CIn m (F s)) : ∀ (r : Nat) {s : CS}, CIn m s → CIn m (prL t m F r s)
  | 0, _, h => h
  | r + 1, s, h => by
    unfold prL
    split
    · rename_i c; exact prL_in hF r (adC_in (hF _ (avC_in (t := t) h (sg_m1 c (by decide) (by decide)))))
    · exact h
theorem prC_in {t : Nat → Int32} {m : Nat} {F : CS → CS} (hF : ∀ s, CIn m s → CIn m (F s)) {s : CS} (h : CIn m s) : CIn m (prC t m F s) := prL_in hF 40 (hF _ h)
theorem suL_in {t : Nat → Int32} {m : Nat} {F : CS → CS} (hF : ∀ s, CIn m s → CIn m (F s)) : ∀ (r : Nat) {s : CS}, CIn m s → CIn m (suL t m F r s)
  | 0, _, h => h
  | r + 1, s, h => by
    unfold suL
    split
    · rename_i c; exact suL_in hF r (adC_in (hF _ (avC_in (t := t) h (sg_m1 c (by decide) (by decide)))))
    · exact h
theorem suC_in {t : Nat → Int32} {m : Nat} {F : CS → CS} (hF : ∀ s, CIn m s → CIn m (F s)) {s : CS} (h : CIn m s) : CIn m (suC t m F s) := suL_in (fun s => prC_in hF) 40 (prC_in hF h)
theorem faB_in {t : Nat → Int32} {m : Nat} {s : CS} (h : CIn m s) : CIn m (faB t m s) := by
  unfold faB
  split
  · exact nuC_in h
  · exact ceC_in h
theorem faC_in {t : Nat → Int32} {m : Nat} : ∀ (d : Nat) (s : CS), CIn m s → CIn m (faC t m d s)
  | 0, s, h => by
    unfold faC
    split
    · exact flC_in h
    · exact faB_in h
  | d + 1, s, h => by
    unfold faC
    split
    · exact adC_in (faC_in d _ (psC_in h (by decide)))
    · split
      · exact psC_in (suC_in (faC_in d) (psC_in h (by decide))) (by decide)
      · split
        · exact reC_in h
        · split
          · exact adC_in (psC_in (suC_in (faC_in d) (psC_in (suC_in (faC_in d) (psC_in (psC_in h (by decide)) (by decide))) (by decide))) (by decide))
          · exact faB_in h
/-- the callee reads as F does -/
def Rds (μ : MD) (D : Nat) (o : Int32) (M : Mem) (N f m : Nat) (F : CS → CS) : Prop := ∀ (s : CS) (Q : Option Value → Nat → Mem → Prop), CIn m s → Q none N (wq M f (F s)) → AW μ D 0 0 N 0 [(0, .ref (f + 5)), (1, .int o)] [] (wq M f s) Q
theorem l_X6_readProduct {M : Mem} {N : Nat} {Q : Option Value → Nat → Mem → Prop} {f m D : Nat} {od : Int32} (hf : FoR f N) (hm : FoF M.2.2 f m) (hpa : PaA M.2.2.1 f) (h5 : f + 5 < N) {F : CS → CS} (hFi : ∀ s, CIn m s → CIn m (F s)) (hD : 1 ≤ D) (hR : Rds mX6_readFactor D od M N f m F) : ∀ (r k : Nat) (s : CS), k + r = 40 → CIn m s → Q none N (wq M f (prL (rI M (f + 1)) m F r s)) → AW mX6_readProduct (D + 1) 0 0 N 7 [(0, .ref (f + 5)), (1, .int od), (2, .int (nI k))] [] (wq M f s) Q := by
  intro r
  induction r with
  | zero =>
    intro k s hk hi h
    obtain rfl : k = 40 := by omega
    refine a_iload_n dX6_readProduct_7 rfl ?_
    refine a_bipush (v := 40) dX6_readProduct_8 (by decide) ?_
    refine a_icmp_ge (tgt := 74) dX6_readProduct_10 (by decide) (fun c_10 => ?_) (fun c_10 => absurd (nI_le (a := 40) (b := 40) (by omega) (by decide)) c_10)
    refine a_vret dX6_readProduct_74 rfl h
  | succ r ih =>
    intro k s hk hi h
    refine a_iload_n dX6_readProduct_7 rfl ?_
    refine a_bipush (v := 40) dX6_readProduct_8 (by decide) ?_
    refine a_icmp_ge (tgt := 74) dX6_readProduct_10 (by decide) (fun c_10 => absurd c_10 (nI_ge (b := 40) (by omega) (by decide))) (fun c_10 => ?_)
    refine a_aload_n dX6_readProduct_13 rfl ?_
    refine a_callV (mc1 := 0) (ms1 := 0) (As := []) kpX6_next kmX6_46 (by omega) rfl (Nat.le_of_ble_eq_true rfl) (pa_k hf) (by decide) rfl (pa_two hf) h5 (Nat.le_of_ble_eq_true rfl) (Nat.le_of_ble_eq_true rfl) (Nat.le_of_ble_eq_true rfl) dX6_readProduct_14 (w_X6_next hf hm hpa h5 hi ?_)
    refine a_bipush (v := 42) dX6_readProduct_17 (by decide) ?_
    refine a_icmp_eq (tgt := 31) dX6_readProduct_19 (by decide) (fun c_19 => ?_) (fun c_19 => ?_)
    · have sg : nxC (rI M (f + 1)) m s = 42 ∨ nxC (rI M (f + 1)) m s = 47 := Or.inl c_19
      refine a_aload_n dX6_readProduct_31 rfl ?_
      refine a_getI kfX6_22 (pa_k hf) rfl (pa_two hf) h5 dX6_readProduct_32 ?_
      rw [wq_p]
      refine a_istore_n dX6_readProduct_35 (by decide) ?_
      refine a_aload_n dX6_readProduct_36 rfl ?_
      refine a_callV (mc1 := 0) (ms1 := 0) (As := []) kpX6_next kmX6_46 (by omega) rfl (Nat.le_of_ble_eq_true rfl) (pa_k hf) (by decide) rfl (pa_two hf) h5 (Nat.le_of_ble_eq_true rfl) (Nat.le_of_ble_eq_true rfl) (Nat.le_of_ble_eq_true rfl) dX6_readProduct_37 (w_X6_next hf hm hpa h5 hi ?_)
      refine a_istore dX6_readProduct_40 (by decide) ?_
      refine a_aload_n dX6_readProduct_42 rfl ?_
      refine a_dup dX6_readProduct_43 rfl ?_
      refine a_getI kfX6_22 (pa_k hf) rfl (pa_two hf) h5 dX6_readProduct_44 ?_
      rw [wq_p]
      refine a_iconst (v := 1) dX6_readProduct_47 (by decide) ?_
      refine a_iadd dX6_readProduct_48 ?_
      rw [nI_1]
      refine a_putI kfX6_22 (pa_k hf) rfl rfl (pa_two hf) h5 dX6_readProduct_49 ?_
      rw [wq_sP]
      refine a_aload_n dX6_readProduct_52 rfl ?_
      refine a_iload_n dX6_readProduct_53 rfl ?_
      refine a_callV (mc1 := 0) (ms1 := 0) (As := [_]) kpX6_readFactor kmX6_56 (by omega) rfl (Nat.le_of_ble_eq_true rfl) (pa_k hf) (by decide) rfl (pa_two hf) h5 (Nat.le_of_ble_eq_true rfl) (Nat.le_of_ble_eq_true rfl) (Nat.le_of_ble_eq_true rfl) dX6_readProduct_54 (hR (avC s) _ (avC_in (t := (rI M (f + 1))) hi (sg_m1 sg (by decide) (by decide))) ?_)
      refine a_aload_n dX6_readProduct_57 rfl ?_
      refine a_getA (z := f) kfX6_9 (pa_k hf) rfl (pa_0 hpa) (pa_two hf) h5 dX6_readProduct_58 ?_
      refine a_iload_n dX6_readProduct_61 rfl ?_
      refine a_iload dX6_readProduct_62 rfl ?_
      refine a_iconst (v := 0) dX6_readProduct_64 (by decide) ?_
      refine a_callV (mc1 := 0) (ms1 := 0) (As := [_, _, _]) kpX2_addStep kmX6_52 (by omega) rfl (Nat.le_of_ble_eq_true rfl) (fo_k hf) (by decide) rfl (fo_two hf) (fo_lt hf) (Nat.le_of_ble_eq_true rfl) (Nat.le_of_ble_eq_true rfl) (Nat.le_of_ble_eq_true rfl) dX6_readProduct_65 (w_addC hf hm (hFi _ (avC_in (t := (rI M (f + 1))) hi (sg_m1 sg (by decide) (by decide)))) hi.1 ?_)
      refine a_iinc dX6_readProduct_68 rfl rfl (by decide) ?_
      refine a_goto (tgt := 7) dX6_readProduct_71 (by decide) ?_
      rw [show nI k + Int32.ofInt 1 = nI (k + 1) from nI_1 k]
      refine AW.sub (L' := [(0, .ref (f + 5)), (1, .int od), (2, .int (nI (k + 1)))]) rfl ?_
      exact ih (k + 1) (adC m s.1 (nxC (rI M (f + 1)) m s) 0 (F (avC s))) (by omega) (adC_in (hFi _ (avC_in (t := (rI M (f + 1))) hi (sg_m1 sg (by decide) (by decide))))) (by rw [show prL (rI M (f + 1)) m F (r + 1) s = prL (rI M (f + 1)) m F r (adC m s.1 (nxC (rI M (f + 1)) m s) 0 (F (avC s))) from if_pos sg] at h; exact h)
    · refine a_aload_n dX6_readProduct_22 rfl ?_
      refine a_callV (mc1 := 0) (ms1 := 0) (As := []) kpX6_next kmX6_46 (by omega) rfl (Nat.le_of_ble_eq_true rfl) (pa_k hf) (by decide) rfl (pa_two hf) h5 (Nat.le_of_ble_eq_true rfl) (Nat.le_of_ble_eq_true rfl) (Nat.le_of_ble_eq_true rfl) dX6_readProduct_23 (w_X6_next hf hm hpa h5 hi ?_)
      refine a_bipush (v := 47) dX6_readProduct_26 (by decide) ?_
      refine a_icmp_ne (tgt := 74) dX6_readProduct_28 (by decide) (fun c_28 => ?_) (fun c_28 => ?_)
      · refine a_vret dX6_readProduct_74 rfl (by rw [show prL (rI M (f + 1)) m F (r + 1) s = s from if_neg (fun z => z.elim c_19 c_28)] at h; exact h)
      · have sg : nxC (rI M (f + 1)) m s = 42 ∨ nxC (rI M (f + 1)) m s = 47 := Or.inr c_28
        refine a_aload_n dX6_readProduct_31 rfl ?_
        refine a_getI kfX6_22 (pa_k hf) rfl (pa_two hf) h5 dX6_readProduct_32 ?_
        rw [wq_p]
        refine a_istore_n dX6_readProduct_35 (by decide) ?_
        refine a_aload_n dX6_readProduct_36 rfl ?_
        refine a_callV (mc1 := 0) (ms1 := 0) (As := []) kpX6_next kmX6_46 (by omega) rfl (Nat.le_of_ble_eq_true rfl) (pa_k hf) (by decide) rfl (pa_two hf) h5 (Nat.le_of_ble_eq_true rfl) (Nat.le_of_ble_eq_true rfl) (Nat.le_of_ble_eq_true rfl) dX6_readProduct_37 (w_X6_next hf hm hpa h5 hi ?_)
        refine a_istore dX6_readProduct_40 (by decide) ?_
        refine a_aload_n dX6_readProduct_42 rfl ?_
        refine a_dup dX6_readProduct_43 rfl ?_
        refine a_getI kfX6_22 (pa_k hf) rfl (pa_two hf) h5 dX6_readProduct_44 ?_
        rw [wq_p]
        refine a_iconst (v := 1) dX6_readProduct_47 (by decide) ?_
        refine a_iadd dX6_readProduct_48 ?_
        rw [nI_1]
        refine a_putI kfX6_22 (pa_k hf) rfl rfl (pa_two hf) h5 dX6_readProduct_49 ?_
        rw [wq_sP]
        refine a_aload_n dX6_readProduct_52 rfl ?_
        refine a_iload_n dX6_readProduct_53 rfl ?_
        refine a_callV (mc1 := 0) (ms1 := 0) (As := [_]) kpX6_readFactor kmX6_56 (by omega) rfl (Nat.le_of_ble_eq_true rfl) (pa_k hf) (by decide) rfl (pa_two hf) h5 (Nat.le_of_ble_eq_true rfl) (Nat.le_of_ble_eq_true rfl) (Nat.le_of_ble_eq_true rfl) dX6_readProduct_54 (hR (avC s) _ (avC_in (t := (rI M (f + 1))) hi (sg_m1 sg (by decide) (by decide))) ?_)
        refine a_aload_n dX6_readProduct_57 rfl ?_
        refine a_getA (z := f) kfX6_9 (pa_k hf) rfl (pa_0 hpa) (pa_two hf) h5 dX6_readProduct_58 ?_
        refine a_iload_n dX6_readProduct_61 rfl ?_
        refine a_iload dX6_readProduct_62 rfl ?_
        refine a_iconst (v := 0) dX6_readProduct_64 (by decide) ?_
        refine a_callV (mc1 := 0) (ms1 := 0) (As := [_, _, _]) kpX2_addStep kmX6_52 (by omega) rfl (Nat.le_of_ble_eq_true rfl) (fo_k hf) (by decide) rfl (fo_two hf) (fo_lt hf) (Nat.le_of_ble_eq_true rfl) (Nat.le_of_ble_eq_true rfl) (Nat.le_of_ble_eq_true rfl) dX6_readProduct_65 (w_addC hf hm (hFi _ (avC_in (t := (rI M (f + 1))) hi (sg_m1 sg (by decide) (by decide)))) hi.1 ?_)
        refine a_iinc dX6_readProduct_68 rfl rfl (by decide) ?_
        refine a_goto (tgt := 7) dX6_readProduct_71 (by decide) ?_
        rw [show nI k + Int32.ofInt 1 = nI (k + 1) from nI_1 k]
        refine AW.sub (L' := [(0, .ref (f + 5)), (1, .int od), (2, .int (nI (k + 1)))]) rfl ?_
        exact ih (k + 1) (adC m s.1 (nxC (rI M (f + 1)) m s) 0 (F (avC s))) (by omega) (adC_in (hFi _ (avC_in (t := (rI M (f + 1))) hi (sg_m1 sg (by decide) (by decide))))) (by rw [show prL (rI M (f + 1)) m F (r + 1) s = prL (rI M (f + 1)) m F r (adC m s.1 (nxC (rI M (f + 1)) m s) 0 (F (avC s))) from if_pos sg] at h; exact h)
theorem w_X6_readProduct {M : Mem} {N : Nat} {f m D : Nat} {od : Int32} (hf : FoR f N) (hm : FoF M.2.2 f m) (hpa : PaA M.2.2.1 f) (h5 : f + 5 < N) {F : CS → CS} (hFi : ∀ s, CIn m s → CIn m (F s)) (hD : 1 ≤ D) (hR : Rds mX6_readFactor D od M N f m F) : Rds mX6_readProduct (D + 1) od M N f m (fun s => prC (rI M (f + 1)) m F s) := by
  intro s Q hi h
  refine a_aload_n dX6_readProduct_0 rfl ?_
  refine a_iload_n dX6_readProduct_1 rfl ?_
  refine a_callV (mc1 := 0) (ms1 := 0) (As := [_]) kpX6_readFactor kmX6_56 (by omega) rfl (Nat.le_of_ble_eq_true rfl) (pa_k hf) (by decide) rfl (pa_two hf) h5 (Nat.le_of_ble_eq_true rfl) (Nat.le_of_ble_eq_true rfl) (Nat.le_of_ble_eq_true rfl) dX6_readProduct_2 (hR s _ hi ?_)
  refine a_iconst (v := 0) dX6_readProduct_5 (by decide) ?_
  refine a_istore_n dX6_readProduct_6 (by decide) ?_
  refine AW.sub (L' := [(0, .ref (f + 5)), (1, .int od), (2, .int (nI 0))]) rfl ?_
  exact l_X6_readProduct hf hm hpa h5 hFi hD hR 40 0 _ (by omega) (hFi _ hi) h
theorem l_X6_readSum {M : Mem} {N : Nat} {Q : Option Value → Nat → Mem → Prop} {f m D : Nat} {od : Int32} (hf : FoR f N) (hm : FoF M.2.2 f m) (hpa : PaA M.2.2.1 f) (h5 : f + 5 < N) {F : CS → CS} (hFi : ∀ s, CIn m s → CIn m (F s)) (hD : 1 ≤ D) (hR : Rds mX6_readProduct D od M N f m F) : ∀ (r k : Nat) (s : CS), k + r = 40 → CIn m s → Q none N (wq M f (suL (rI M (f + 1)) m F r s)) → AW mX6_readSum (D + 1) 0 0 N 7 [(0, .ref (f + 5)), (1, .int od), (2, .int (nI k))] [] (wq M f s) Q := by
  intro r
  induction r with
  | zero =>
    intro k s hk hi h
    obtain rfl : k = 40 := by omega
    refine a_iload_n dX6_readSum_7 rfl ?_
    refine a_bipush (v := 40) dX6_readSum_8 (by decide) ?_
    refine a_icmp_ge (tgt := 74) dX6_readSum_10 (by decide) (fun c_10 => ?_) (fun c_10 => absurd (nI_le (a := 40) (b := 40) (by omega) (by decide)) c_10)
    refine a_vret dX6_readSum_74 rfl h
  | succ r ih =>
    intro k s hk hi h
    refine a_iload_n dX6_readSum_7 rfl ?_
    refine a_bipush (v := 40) dX6_readSum_8 (by decide) ?_
    refine a_icmp_ge (tgt := 74) dX6_readSum_10 (by decide) (fun c_10 => absurd c_10 (nI_ge (b := 40) (by omega) (by decide))) (fun c_10 => ?_)
    refine a_aload_n dX6_readSum_13 rfl ?_
    refine a_callV (mc1 := 0) (ms1 := 0) (As := []) kpX6_next kmX6_46 (by omega) rfl (Nat.le_of_ble_eq_true rfl) (pa_k hf) (by decide) rfl (pa_two hf) h5 (Nat.le_of_ble_eq_true rfl) (Nat.le_of_ble_eq_true rfl) (Nat.le_of_ble_eq_true rfl) dX6_readSum_14 (w_X6_next hf hm hpa h5 hi ?_)
    refine a_bipush (v := 43) dX6_readSum_17 (by decide) ?_
    refine a_icmp_eq (tgt := 31) dX6_readSum_19 (by decide) (fun c_19 => ?_) (fun c_19 => ?_)
    · have sg : nxC (rI M (f + 1)) m s = 43 ∨ nxC (rI M (f + 1)) m s = 45 := Or.inl c_19
      refine a_aload_n dX6_readSum_31 rfl ?_
      refine a_getI kfX6_22 (pa_k hf) rfl (pa_two hf) h5 dX6_readSum_32 ?_
      rw [wq_p]
      refine a_istore_n dX6_readSum_35 (by decide) ?_
      refine a_aload_n dX6_readSum_36 rfl ?_
      refine a_callV (mc1 := 0) (ms1 := 0) (As := []) kpX6_next kmX6_46 (by omega) rfl (Nat.le_of_ble_eq_true rfl) (pa_k hf) (by decide) rfl (pa_two hf) h5 (Nat.le_of_ble_eq_true rfl) (Nat.le_of_ble_eq_true rfl) (Nat.le_of_ble_eq_true rfl) dX6_readSum_37 (w_X6_next hf hm hpa h5 hi ?_)
      refine a_istore dX6_readSum_40 (by decide) ?_
      refine a_aload_n dX6_readSum_42 rfl ?_
      refine a_dup dX6_readSum_43 rfl ?_
      refine a_getI kfX6_22 (pa_k hf) rfl (pa_two hf) h5 dX6_readSum_44 ?_
      rw [wq_p]
      refine a_iconst (v := 1) dX6_readSum_47 (by decide) ?_
      refine a_iadd dX6_readSum_48 ?_
      rw [nI_1]
      refine a_putI kfX6_22 (pa_k hf) rfl rfl (pa_two hf) h5 dX6_readSum_49 ?_
      rw [wq_sP]
      refine a_aload_n dX6_readSum_52 rfl ?_
      refine a_iload_n dX6_readSum_53 rfl ?_
      refine a_callV (mc1 := 0) (ms1 := 0) (As := [_]) kpX6_readProduct kmX6_49 (by omega) rfl (Nat.le_of_ble_eq_true rfl) (pa_k hf) (by decide) rfl (pa_two hf) h5 (Nat.le_of_ble_eq_true rfl) (Nat.le_of_ble_eq_true rfl) (Nat.le_of_ble_eq_true rfl) dX6_readSum_54 (hR (avC s) _ (avC_in (t := (rI M (f + 1))) hi (sg_m1 sg (by decide) (by decide))) ?_)
      refine a_aload_n dX6_readSum_57 rfl ?_
      refine a_getA (z := f) kfX6_9 (pa_k hf) rfl (pa_0 hpa) (pa_two hf) h5 dX6_readSum_58 ?_
      refine a_iload_n dX6_readSum_61 rfl ?_
      refine a_iload dX6_readSum_62 rfl ?_
      refine a_iconst (v := 0) dX6_readSum_64 (by decide) ?_
      refine a_callV (mc1 := 0) (ms1 := 0) (As := [_, _, _]) kpX2_addStep kmX6_52 (by omega) rfl (Nat.le_of_ble_eq_true rfl) (fo_k hf) (by decide) rfl (fo_two hf) (fo_lt hf) (Nat.le_of_ble_eq_true rfl) (Nat.le_of_ble_eq_true rfl) (Nat.le_of_ble_eq_true rfl) dX6_readSum_65 (w_addC hf hm (hFi _ (avC_in (t := (rI M (f + 1))) hi (sg_m1 sg (by decide) (by decide)))) hi.1 ?_)
      refine a_iinc dX6_readSum_68 rfl rfl (by decide) ?_
      refine a_goto (tgt := 7) dX6_readSum_71 (by decide) ?_
      rw [show nI k + Int32.ofInt 1 = nI (k + 1) from nI_1 k]
      refine AW.sub (L' := [(0, .ref (f + 5)), (1, .int od), (2, .int (nI (k + 1)))]) rfl ?_
      exact ih (k + 1) (adC m s.1 (nxC (rI M (f + 1)) m s) 0 (F (avC s))) (by omega) (adC_in (hFi _ (avC_in (t := (rI M (f + 1))) hi (sg_m1 sg (by decide) (by decide))))) (by rw [show suL (rI M (f + 1)) m F (r + 1) s = suL (rI M (f + 1)) m F r (adC m s.1 (nxC (rI M (f + 1)) m s) 0 (F (avC s))) from if_pos sg] at h; exact h)
    · refine a_aload_n dX6_readSum_22 rfl ?_
      refine a_callV (mc1 := 0) (ms1 := 0) (As := []) kpX6_next kmX6_46 (by omega) rfl (Nat.le_of_ble_eq_true rfl) (pa_k hf) (by decide) rfl (pa_two hf) h5 (Nat.le_of_ble_eq_true rfl) (Nat.le_of_ble_eq_true rfl) (Nat.le_of_ble_eq_true rfl) dX6_readSum_23 (w_X6_next hf hm hpa h5 hi ?_)
      refine a_bipush (v := 45) dX6_readSum_26 (by decide) ?_
      refine a_icmp_ne (tgt := 74) dX6_readSum_28 (by decide) (fun c_28 => ?_) (fun c_28 => ?_)
      · refine a_vret dX6_readSum_74 rfl (by rw [show suL (rI M (f + 1)) m F (r + 1) s = s from if_neg (fun z => z.elim c_19 c_28)] at h; exact h)
      · have sg : nxC (rI M (f + 1)) m s = 43 ∨ nxC (rI M (f + 1)) m s = 45 := Or.inr c_28
        refine a_aload_n dX6_readSum_31 rfl ?_
        refine a_getI kfX6_22 (pa_k hf) rfl (pa_two hf) h5 dX6_readSum_32 ?_
        rw [wq_p]
        refine a_istore_n dX6_readSum_35 (by decide) ?_
        refine a_aload_n dX6_readSum_36 rfl ?_
        refine a_callV (mc1 := 0) (ms1 := 0) (As := []) kpX6_next kmX6_46 (by omega) rfl (Nat.le_of_ble_eq_true rfl) (pa_k hf) (by decide) rfl (pa_two hf) h5 (Nat.le_of_ble_eq_true rfl) (Nat.le_of_ble_eq_true rfl) (Nat.le_of_ble_eq_true rfl) dX6_readSum_37 (w_X6_next hf hm hpa h5 hi ?_)
        refine a_istore dX6_readSum_40 (by decide) ?_
        refine a_aload_n dX6_readSum_42 rfl ?_
        refine a_dup dX6_readSum_43 rfl ?_
        refine a_getI kfX6_22 (pa_k hf) rfl (pa_two hf) h5 dX6_readSum_44 ?_
        rw [wq_p]
        refine a_iconst (v := 1) dX6_readSum_47 (by decide) ?_
        refine a_iadd dX6_readSum_48 ?_
        rw [nI_1]
        refine a_putI kfX6_22 (pa_k hf) rfl rfl (pa_two hf) h5 dX6_readSum_49 ?_
        rw [wq_sP]
        refine a_aload_n dX6_readSum_52 rfl ?_
        refine a_iload_n dX6_readSum_53 rfl ?_
        refine a_callV (mc1 := 0) (ms1 := 0) (As := [_]) kpX6_readProduct kmX6_49 (by omega) rfl (Nat.le_of_ble_eq_true rfl) (pa_k hf) (by decide) rfl (pa_two hf) h5 (Nat.le_of_ble_eq_true rfl) (Nat.le_of_ble_eq_true rfl) (Nat.le_of_ble_eq_true rfl) dX6_readSum_54 (hR (avC s) _ (avC_in (t := (rI M (f + 1))) hi (sg_m1 sg (by decide) (by decide))) ?_)
        refine a_aload_n dX6_readSum_57 rfl ?_
        refine a_getA (z := f) kfX6_9 (pa_k hf) rfl (pa_0 hpa) (pa_two hf) h5 dX6_readSum_58 ?_
        refine a_iload_n dX6_readSum_61 rfl ?_
        refine a_iload dX6_readSum_62 rfl ?_
        refine a_iconst (v := 0) dX6_readSum_64 (by decide) ?_
        refine a_callV (mc1 := 0) (ms1 := 0) (As := [_, _, _]) kpX2_addStep kmX6_52 (by omega) rfl (Nat.le_of_ble_eq_true rfl) (fo_k hf) (by decide) rfl (fo_two hf) (fo_lt hf) (Nat.le_of_ble_eq_true rfl) (Nat.le_of_ble_eq_true rfl) (Nat.le_of_ble_eq_true rfl) dX6_readSum_65 (w_addC hf hm (hFi _ (avC_in (t := (rI M (f + 1))) hi (sg_m1 sg (by decide) (by decide)))) hi.1 ?_)
        refine a_iinc dX6_readSum_68 rfl rfl (by decide) ?_
        refine a_goto (tgt := 7) dX6_readSum_71 (by decide) ?_
        rw [show nI k + Int32.ofInt 1 = nI (k + 1) from nI_1 k]
        refine AW.sub (L' := [(0, .ref (f + 5)), (1, .int od), (2, .int (nI (k + 1)))]) rfl ?_
        exact ih (k + 1) (adC m s.1 (nxC (rI M (f + 1)) m s) 0 (F (avC s))) (by omega) (adC_in (hFi _ (avC_in (t := (rI M (f + 1))) hi (sg_m1 sg (by decide) (by decide))))) (by rw [show suL (rI M (f + 1)) m F (r + 1) s = suL (rI M (f + 1)) m F r (adC m s.1 (nxC (rI M (f + 1)) m s) 0 (F (avC s))) from if_pos sg] at h; exact h)
theorem w_X6_readSum {M : Mem} {N : Nat} {f m D : Nat} {od : Int32} (hf : FoR f N) (hm : FoF M.2.2 f m) (hpa : PaA M.2.2.1 f) (h5 : f + 5 < N) {F : CS → CS} (hFi : ∀ s, CIn m s → CIn m (F s)) (hD : 1 ≤ D) (hR : Rds mX6_readProduct D od M N f m F) : Rds mX6_readSum (D + 1) od M N f m (fun s => suL (rI M (f + 1)) m F 40 (F s)) := by
  intro s Q hi h
  refine a_aload_n dX6_readSum_0 rfl ?_
  refine a_iload_n dX6_readSum_1 rfl ?_
  refine a_callV (mc1 := 0) (ms1 := 0) (As := [_]) kpX6_readProduct kmX6_49 (by omega) rfl (Nat.le_of_ble_eq_true rfl) (pa_k hf) (by decide) rfl (pa_two hf) h5 (Nat.le_of_ble_eq_true rfl) (Nat.le_of_ble_eq_true rfl) (Nat.le_of_ble_eq_true rfl) dX6_readSum_2 (hR s _ hi ?_)
  refine a_iconst (v := 0) dX6_readSum_5 (by decide) ?_
  refine a_istore_n dX6_readSum_6 (by decide) ?_
  refine AW.sub (L' := [(0, .ref (f + 5)), (1, .int od), (2, .int (nI 0))]) rfl ?_
  exact l_X6_readSum hf hm hpa h5 hFi hD hR 40 0 _ (by omega) (hFi _ hi) h
theorem w_X6_readNegative {M : Mem} {N : Nat} {f m D : Nat} {od : Int32} (hf : FoR f N) (hm : FoF M.2.2 f m) (hpa : PaA M.2.2.1 f) (h5 : f + 5 < N) {F : CS → CS} (hFi : ∀ s, CIn m s → CIn m (F s)) (hD : 4 ≤ D) (hR : Rds mX6_readFactor D od M N f m F) : Rds mX6_readNegative (D + 1) od M N f m (neC (rI M (f + 1)) m F) := by
  intro s Q hi h
  refine a_aload_n dX6_readNegative_0 rfl ?_
  refine a_getI kfX6_22 (pa_k hf) rfl (pa_two hf) h5 dX6_readNegative_1 ?_
  rw [wq_p]
  refine a_istore_n dX6_readNegative_4 (by decide) ?_
  refine a_aload_n dX6_readNegative_5 rfl ?_
  refine a_bipush (v := 45) dX6_readNegative_6 (by decide) ?_
  refine a_callV (mc1 := 0) (ms1 := 0) (As := [_]) kpX6_pass kmX6_15 (by omega) rfl (Nat.le_of_ble_eq_true rfl) (pa_k hf) (by decide) rfl (pa_two hf) h5 (Nat.le_of_ble_eq_true rfl) (Nat.le_of_ble_eq_true rfl) (Nat.le_of_ble_eq_true rfl) dX6_readNegative_8 (w_X6_pass hf hm hpa h5 hi ?_)
  refine a_aload_n dX6_readNegative_11 rfl ?_
  refine a_iload_n dX6_readNegative_12 rfl ?_
  refine a_callV (mc1 := 0) (ms1 := 0) (As := [_]) kpX6_readFactor kmX6_56 (by omega) rfl (Nat.le_of_ble_eq_true rfl) (pa_k hf) (by decide) rfl (pa_two hf) h5 (Nat.le_of_ble_eq_true rfl) (Nat.le_of_ble_eq_true rfl) (Nat.le_of_ble_eq_true rfl) dX6_readNegative_13 (hR _ _ (psC_in hi (by decide)) ?_)
  refine a_aload_n dX6_readNegative_16 rfl ?_
  refine a_getA (z := f) kfX6_9 (pa_k hf) rfl (pa_0 hpa) (pa_two hf) h5 dX6_readNegative_17 ?_
  refine a_iload_n dX6_readNegative_20 rfl ?_
  refine a_iconst (v := 4) dX6_readNegative_21 (by decide) ?_
  refine a_iconst (v := 0) dX6_readNegative_22 (by decide) ?_
  refine a_callV (mc1 := 0) (ms1 := 0) (As := [_, _, _]) kpX2_addStep kmX6_52 (by omega) rfl (Nat.le_of_ble_eq_true rfl) (fo_k hf) (by decide) rfl (fo_two hf) (fo_lt hf) (Nat.le_of_ble_eq_true rfl) (Nat.le_of_ble_eq_true rfl) (Nat.le_of_ble_eq_true rfl) dX6_readNegative_23 (w_addC hf hm (hFi _ (psC_in hi (by decide))) hi.1 ?_)
  refine a_vret dX6_readNegative_26 rfl h
theorem w_X6_readGreater {M : Mem} {N : Nat} {f m D : Nat} {od : Int32} (hf : FoR f N) (hm : FoF M.2.2 f m) (hpa : PaA M.2.2.1 f) (h5 : f + 5 < N) {F : CS → CS} (hFi : ∀ s, CIn m s → CIn m (F s)) (hD : 4 ≤ D) (hR : Rds mX6_readSum D od M N f m F) : Rds mX6_readGreater (D + 1) od M N f m (grC (rI M (f + 1)) m F) := by
  intro s Q hi h
  refine a_aload_n dX6_readGreater_0 rfl ?_
  refine a_getI kfX6_22 (pa_k hf) rfl (pa_two hf) h5 dX6_readGreater_1 ?_
  rw [wq_p]
  refine a_istore_n dX6_readGreater_4 (by decide) ?_
  refine a_aload_n dX6_readGreater_5 rfl ?_
  refine a_bipush (v := 77) dX6_readGreater_6 (by decide) ?_
  refine a_callV (mc1 := 0) (ms1 := 0) (As := [_]) kpX6_pass kmX6_15 (by omega) rfl (Nat.le_of_ble_eq_true rfl) (pa_k hf) (by decide) rfl (pa_two hf) h5 (Nat.le_of_ble_eq_true rfl) (Nat.le_of_ble_eq_true rfl) (Nat.le_of_ble_eq_true rfl) dX6_readGreater_8 (w_X6_pass hf hm hpa h5 hi ?_)
  refine a_aload_n dX6_readGreater_11 rfl ?_
  refine a_bipush (v := 40) dX6_readGreater_12 (by decide) ?_
  refine a_callV (mc1 := 0) (ms1 := 0) (As := [_]) kpX6_pass kmX6_15 (by omega) rfl (Nat.le_of_ble_eq_true rfl) (pa_k hf) (by decide) rfl (pa_two hf) h5 (Nat.le_of_ble_eq_true rfl) (Nat.le_of_ble_eq_true rfl) (Nat.le_of_ble_eq_true rfl) dX6_readGreater_14 (w_X6_pass hf hm hpa h5 (psC_in hi (by decide)) ?_)
  refine a_aload_n dX6_readGreater_17 rfl ?_
  refine a_iload_n dX6_readGreater_18 rfl ?_
  refine a_callV (mc1 := 0) (ms1 := 0) (As := [_]) kpX6_readSum kmX6_19 (by omega) rfl (Nat.le_of_ble_eq_true rfl) (pa_k hf) (by decide) rfl (pa_two hf) h5 (Nat.le_of_ble_eq_true rfl) (Nat.le_of_ble_eq_true rfl) (Nat.le_of_ble_eq_true rfl) dX6_readGreater_19 (hR _ _ (psC_in (psC_in hi (by decide)) (by decide)) ?_)
  refine a_aload_n dX6_readGreater_22 rfl ?_
  refine a_bipush (v := 44) dX6_readGreater_23 (by decide) ?_
  refine a_callV (mc1 := 0) (ms1 := 0) (As := [_]) kpX6_pass kmX6_15 (by omega) rfl (Nat.le_of_ble_eq_true rfl) (pa_k hf) (by decide) rfl (pa_two hf) h5 (Nat.le_of_ble_eq_true rfl) (Nat.le_of_ble_eq_true rfl) (Nat.le_of_ble_eq_true rfl) dX6_readGreater_25 (w_X6_pass hf hm hpa h5 (hFi _ (psC_in (psC_in hi (by decide)) (by decide))) ?_)
  refine a_aload_n dX6_readGreater_28 rfl ?_
  refine a_iload_n dX6_readGreater_29 rfl ?_
  refine a_callV (mc1 := 0) (ms1 := 0) (As := [_]) kpX6_readSum kmX6_19 (by omega) rfl (Nat.le_of_ble_eq_true rfl) (pa_k hf) (by decide) rfl (pa_two hf) h5 (Nat.le_of_ble_eq_true rfl) (Nat.le_of_ble_eq_true rfl) (Nat.le_of_ble_eq_true rfl) dX6_readGreater_30 (hR _ _ (psC_in (hFi _ (psC_in (psC_in hi (by decide)) (by decide))) (by decide)) ?_)
  refine a_aload_n dX6_readGreater_33 rfl ?_
  refine a_bipush (v := 41) dX6_readGreater_34 (by decide) ?_
  refine a_callV (mc1 := 0) (ms1 := 0) (As := [_]) kpX6_pass kmX6_15 (by omega) rfl (Nat.le_of_ble_eq_true rfl) (pa_k hf) (by decide) rfl (pa_two hf) h5 (Nat.le_of_ble_eq_true rfl) (Nat.le_of_ble_eq_true rfl) (Nat.le_of_ble_eq_true rfl) dX6_readGreater_36 (w_X6_pass hf hm hpa h5 (hFi _ (psC_in (hFi _ (psC_in (psC_in hi (by decide)) (by decide))) (by decide))) ?_)
  refine a_aload_n dX6_readGreater_39 rfl ?_
  refine a_getA (z := f) kfX6_9 (pa_k hf) rfl (pa_0 hpa) (pa_two hf) h5 dX6_readGreater_40 ?_
  refine a_iload_n dX6_readGreater_43 rfl ?_
  refine a_bipush (v := 6) dX6_readGreater_44 (by decide) ?_
  refine a_iconst (v := 0) dX6_readGreater_46 (by decide) ?_
  refine a_callV (mc1 := 0) (ms1 := 0) (As := [_, _, _]) kpX2_addStep kmX6_52 (by omega) rfl (Nat.le_of_ble_eq_true rfl) (fo_k hf) (by decide) rfl (fo_two hf) (fo_lt hf) (Nat.le_of_ble_eq_true rfl) (Nat.le_of_ble_eq_true rfl) (Nat.le_of_ble_eq_true rfl) dX6_readGreater_47 (w_addC hf hm (psC_in (hFi _ (psC_in (hFi _ (psC_in (psC_in hi (by decide)) (by decide))) (by decide))) (by decide)) hi.1 ?_)
  refine a_vret dX6_readGreater_50 rfl h
theorem nne {p : Prop} (h : ¬ ¬ p) : p := Classical.byContradiction h
theorem w_X6_readFactor_0 {M : Mem} {N : Nat} {f m : Nat} (hf : FoR f N) (hm : FoF M.2.2 f m) (hpa : PaA M.2.2.1 f) (h5 : f + 5 < N)  : Rds mX6_readFactor 5 6 M N f m (faC (rI M (f + 1)) m 0) := by
  intro s Q hi h
  refine a_aload_n dX6_readFactor_0 rfl ?_
  refine a_callV (mc1 := 0) (ms1 := 0) (As := []) kpX6_next kmX6_46 (by omega) rfl (Nat.le_of_ble_eq_true rfl) (pa_k hf) (by decide) rfl (pa_two hf) h5 (Nat.le_of_ble_eq_true rfl) (Nat.le_of_ble_eq_true rfl) (Nat.le_of_ble_eq_true rfl) dX6_readFactor_1 (w_X6_next hf hm hpa h5 hi ?_)
  refine a_istore_n dX6_readFactor_4 (by decide) ?_
  refine a_iload_n dX6_readFactor_5 rfl ?_
  refine a_bipush (v := 6) dX6_readFactor_6 (by decide) ?_
  refine a_icmp_lt (tgt := 43) dX6_readFactor_8 (by decide) (fun c_8 => absurd c_8 (by decide)) (fun c_8 => ?_)
  refine a_iload_n dX6_readFactor_11 rfl ?_
  refine a_bipush (v := 45) dX6_readFactor_12 (by decide) ?_
  refine a_icmp_eq (tgt := 35) dX6_readFactor_14 (by decide) (fun c_14 => ?_) (fun c_14 => ?_)
  · refine a_aload_n dX6_readFactor_35 rfl ?_
    refine a_iconst (v := 2) dX6_readFactor_36 (by decide) ?_
    refine a_callV (mc1 := 0) (ms1 := 0) (As := [_]) kpX6_fail kmX6_32 (by omega) rfl (Nat.le_of_ble_eq_true rfl) (pa_k hf) (by decide) rfl (pa_two hf) h5 (Nat.le_of_ble_eq_true rfl) (Nat.le_of_ble_eq_true rfl) (Nat.le_of_ble_eq_true rfl) dX6_readFactor_37 (w_X6_fail hf hm hpa h5 hi ?_)
    refine a_goto (tgt := 135) dX6_readFactor_40 (by decide) ?_
    refine a_vret dX6_readFactor_135 rfl (by unfold faC at h; first | (rw [if_pos (by first | exact Or.inl c_14 | exact Or.inr (Or.inl c_20) | exact Or.inr (Or.inr (Or.inl c_26)) | exact Or.inr (Or.inr (Or.inr c_32))), ] at h; exact h) | (rw [if_neg (fun z => z.elim c_14 (fun z => z.elim c_20 (fun z => z.elim c_26 c_32)))] at h; unfold faB at h; first | (rw [if_pos (bI_nz.mp c_120)] at h; exact h) | (rw [if_neg (bI_z.mp c_120)] at h; exact h)))
  · refine a_iload_n dX6_readFactor_17 rfl ?_
    refine a_bipush (v := 40) dX6_readFactor_18 (by decide) ?_
    refine a_icmp_eq (tgt := 35) dX6_readFactor_20 (by decide) (fun c_20 => ?_) (fun c_20 => ?_)
    · refine a_aload_n dX6_readFactor_35 rfl ?_
      refine a_iconst (v := 2) dX6_readFactor_36 (by decide) ?_
      refine a_callV (mc1 := 0) (ms1 := 0) (As := [_]) kpX6_fail kmX6_32 (by omega) rfl (Nat.le_of_ble_eq_true rfl) (pa_k hf) (by decide) rfl (pa_two hf) h5 (Nat.le_of_ble_eq_true rfl) (Nat.le_of_ble_eq_true rfl) (Nat.le_of_ble_eq_true rfl) dX6_readFactor_37 (w_X6_fail hf hm hpa h5 hi ?_)
      refine a_goto (tgt := 135) dX6_readFactor_40 (by decide) ?_
      refine a_vret dX6_readFactor_135 rfl (by unfold faC at h; first | (rw [if_pos (by first | exact Or.inl c_14 | exact Or.inr (Or.inl c_20) | exact Or.inr (Or.inr (Or.inl c_26)) | exact Or.inr (Or.inr (Or.inr c_32))), ] at h; exact h) | (rw [if_neg (fun z => z.elim c_14 (fun z => z.elim c_20 (fun z => z.elim c_26 c_32)))] at h; unfold faB at h; first | (rw [if_pos (bI_nz.mp c_120)] at h; exact h) | (rw [if_neg (bI_z.mp c_120)] at h; exact h)))
    · refine a_iload_n dX6_readFactor_23 rfl ?_
      refine a_bipush (v := 83) dX6_readFactor_24 (by decide) ?_
      refine a_icmp_eq (tgt := 35) dX6_readFactor_26 (by decide) (fun c_26 => ?_) (fun c_26 => ?_)
      · refine a_aload_n dX6_readFactor_35 rfl ?_
        refine a_iconst (v := 2) dX6_readFactor_36 (by decide) ?_
        refine a_callV (mc1 := 0) (ms1 := 0) (As := [_]) kpX6_fail kmX6_32 (by omega) rfl (Nat.le_of_ble_eq_true rfl) (pa_k hf) (by decide) rfl (pa_two hf) h5 (Nat.le_of_ble_eq_true rfl) (Nat.le_of_ble_eq_true rfl) (Nat.le_of_ble_eq_true rfl) dX6_readFactor_37 (w_X6_fail hf hm hpa h5 hi ?_)
        refine a_goto (tgt := 135) dX6_readFactor_40 (by decide) ?_
        refine a_vret dX6_readFactor_135 rfl (by unfold faC at h; first | (rw [if_pos (by first | exact Or.inl c_14 | exact Or.inr (Or.inl c_20) | exact Or.inr (Or.inr (Or.inl c_26)) | exact Or.inr (Or.inr (Or.inr c_32))), ] at h; exact h) | (rw [if_neg (fun z => z.elim c_14 (fun z => z.elim c_20 (fun z => z.elim c_26 c_32)))] at h; unfold faB at h; first | (rw [if_pos (bI_nz.mp c_120)] at h; exact h) | (rw [if_neg (bI_z.mp c_120)] at h; exact h)))
      · refine a_iload_n dX6_readFactor_29 rfl ?_
        refine a_bipush (v := 77) dX6_readFactor_30 (by decide) ?_
        refine a_icmp_ne (tgt := 43) dX6_readFactor_32 (by decide) (fun c_32 => ?_) (fun c_32 => ?_)
        · refine a_iload_n dX6_readFactor_43 rfl ?_
          refine a_bipush (v := 45) dX6_readFactor_44 (by decide) ?_
          refine a_icmp_ne (tgt := 59) dX6_readFactor_46 (by decide) (fun c_46 => ?_) (fun c_46 => absurd c_46 (fun z => c_14 z))
          refine a_iload_n dX6_readFactor_59 rfl ?_
          refine a_bipush (v := 40) dX6_readFactor_60 (by decide) ?_
          refine a_icmp_ne (tgt := 87) dX6_readFactor_62 (by decide) (fun c_62 => ?_) (fun c_62 => absurd c_62 (fun z => c_20 z))
          refine a_iload_n dX6_readFactor_87 rfl ?_
          refine a_bipush (v := 83) dX6_readFactor_88 (by decide) ?_
          refine a_icmp_ne (tgt := 100) dX6_readFactor_90 (by decide) (fun c_90 => ?_) (fun c_90 => absurd c_90 (fun z => c_26 z))
          refine a_iload_n dX6_readFactor_100 rfl ?_
          refine a_bipush (v := 77) dX6_readFactor_101 (by decide) ?_
          refine a_icmp_ne (tgt := 116) dX6_readFactor_103 (by decide) (fun c_103 => ?_) (fun c_103 => absurd c_103 (fun z => c_32 z))
          refine a_iload_n dX6_readFactor_116 rfl ?_
          refine a_callS (mc1 := 0) (ms1 := 0) (As := [_]) kpX6_isDigit kmX6_68 (by omega) rfl (Nat.le_of_ble_eq_true rfl) (Nat.le_of_ble_eq_true rfl) (Nat.le_of_ble_eq_true rfl) (Nat.le_of_ble_eq_true rfl) dX6_readFactor_117 (w_X6_isDigit ?_)
          refine a_if_eq (tgt := 130) dX6_readFactor_120 (by decide) (fun c_120 => ?_) (fun c_120 => ?_)
          · refine a_aload_n dX6_readFactor_130 rfl ?_
            refine a_iconst (v := 2) dX6_readFactor_131 (by decide) ?_
            refine a_callV (mc1 := 0) (ms1 := 0) (As := [_]) kpX6_readCell kmX6_75 (by omega) rfl (Nat.le_of_ble_eq_true rfl) (pa_k hf) (by decide) rfl (pa_two hf) h5 (Nat.le_of_ble_eq_true rfl) (Nat.le_of_ble_eq_true rfl) (Nat.le_of_ble_eq_true rfl) dX6_readFactor_132 (w_X6_readCell hf hm hpa h5 hi ?_)
            refine a_vret dX6_readFactor_135 rfl (by unfold faC at h; first | (rw [if_pos (by first | exact Or.inl c_14 | exact Or.inr (Or.inl c_20) | exact Or.inr (Or.inr (Or.inl c_26)) | exact Or.inr (Or.inr (Or.inr c_32))), ] at h; exact h) | (rw [if_neg (fun z => z.elim c_14 (fun z => z.elim c_20 (fun z => z.elim c_26 c_32)))] at h; unfold faB at h; first | (rw [if_pos (bI_nz.mp c_120)] at h; exact h) | (rw [if_neg (bI_z.mp c_120)] at h; exact h)))
          · refine a_aload_n dX6_readFactor_123 rfl ?_
            refine a_callV (mc1 := 0) (ms1 := 0) (As := []) kpX6_readNumber kmX6_72 (by omega) rfl (Nat.le_of_ble_eq_true rfl) (pa_k hf) (by decide) rfl (pa_two hf) h5 (Nat.le_of_ble_eq_true rfl) (Nat.le_of_ble_eq_true rfl) (Nat.le_of_ble_eq_true rfl) dX6_readFactor_124 (w_X6_readNumber hf hm hpa h5 hi ?_)
            refine a_goto (tgt := 135) dX6_readFactor_127 (by decide) ?_
            refine a_vret dX6_readFactor_135 rfl (by unfold faC at h; first | (rw [if_pos (by first | exact Or.inl c_14 | exact Or.inr (Or.inl c_20) | exact Or.inr (Or.inr (Or.inl c_26)) | exact Or.inr (Or.inr (Or.inr c_32))), ] at h; exact h) | (rw [if_neg (fun z => z.elim c_14 (fun z => z.elim c_20 (fun z => z.elim c_26 c_32)))] at h; unfold faB at h; first | (rw [if_pos (bI_nz.mp c_120)] at h; exact h) | (rw [if_neg (bI_z.mp c_120)] at h; exact h)))
        · refine a_aload_n dX6_readFactor_35 rfl ?_
          refine a_iconst (v := 2) dX6_readFactor_36 (by decide) ?_
          refine a_callV (mc1 := 0) (ms1 := 0) (As := [_]) kpX6_fail kmX6_32 (by omega) rfl (Nat.le_of_ble_eq_true rfl) (pa_k hf) (by decide) rfl (pa_two hf) h5 (Nat.le_of_ble_eq_true rfl) (Nat.le_of_ble_eq_true rfl) (Nat.le_of_ble_eq_true rfl) dX6_readFactor_37 (w_X6_fail hf hm hpa h5 hi ?_)
          refine a_goto (tgt := 135) dX6_readFactor_40 (by decide) ?_
          refine a_vret dX6_readFactor_135 rfl (by unfold faC at h; first | (rw [if_pos (by first | exact Or.inl c_14 | exact Or.inr (Or.inl c_20) | exact Or.inr (Or.inr (Or.inl c_26)) | exact Or.inr (Or.inr (Or.inr c_32))), ] at h; exact h) | (rw [if_neg (fun z => z.elim c_14 (fun z => z.elim c_20 (fun z => z.elim c_26 c_32)))] at h; unfold faB at h; first | (rw [if_pos (bI_nz.mp c_120)] at h; exact h) | (rw [if_neg (bI_z.mp c_120)] at h; exact h)))
theorem w_X6_readFactor_1 {M : Mem} {N : Nat} {f m : Nat} (hf : FoR f N) (hm : FoF M.2.2 f m) (hpa : PaA M.2.2.1 f) (h5 : f + 5 < N) {d o D : Nat} (hD : 5 ≤ D) (ho : o < 6) (hR : Rds mX6_readFactor D (nI (o + 1)) M N f m (faC (rI M (f + 1)) m d)) : Rds mX6_readFactor (D + 4) (nI o) M N f m (faC (rI M (f + 1)) m (d + 1)) := by
  have hSu : Rds mX6_readSum (D + 1 + 1) (nI (o + 1)) M N f m (suC (rI M (f + 1)) m (faC (rI M (f + 1)) m d)) := w_X6_readSum hf hm hpa h5 (fun s => prC_in (faC_in d)) (by omega) (w_X6_readProduct hf hm hpa h5 (faC_in d) (by omega) hR)
  have hGr := w_X6_readGreater hf hm hpa h5 (fun s => suC_in (faC_in d)) (by omega) hSu
  have hNe := w_X6_readNegative hf hm hpa h5 (faC_in d) (by omega) hR
  intro s Q hi h
  refine a_aload_n dX6_readFactor_0 rfl ?_
  refine a_callV (mc1 := 0) (ms1 := 0) (As := []) kpX6_next kmX6_46 (by omega) rfl (Nat.le_of_ble_eq_true rfl) (pa_k hf) (by decide) rfl (pa_two hf) h5 (Nat.le_of_ble_eq_true rfl) (Nat.le_of_ble_eq_true rfl) (Nat.le_of_ble_eq_true rfl) dX6_readFactor_1 (w_X6_next hf hm hpa h5 hi ?_)
  refine a_istore_n dX6_readFactor_4 (by decide) ?_
  refine a_iload_n dX6_readFactor_5 rfl ?_
  refine a_bipush (v := 6) dX6_readFactor_6 (by decide) ?_
  refine a_icmp_lt (tgt := 43) dX6_readFactor_8 (by decide) (fun c_8 => ?_) (fun c_8 => absurd (nI_lt (b := 6) ho (by decide)) c_8)
  refine a_iload_n dX6_readFactor_43 rfl ?_
  refine a_bipush (v := 45) dX6_readFactor_44 (by decide) ?_
  refine a_icmp_ne (tgt := 59) dX6_readFactor_46 (by decide) (fun c_46 => ?_) (fun c_46 => ?_)
  · refine a_iload_n dX6_readFactor_59 rfl ?_
    refine a_bipush (v := 40) dX6_readFactor_60 (by decide) ?_
    refine a_icmp_ne (tgt := 87) dX6_readFactor_62 (by decide) (fun c_62 => ?_) (fun c_62 => ?_)
    · refine a_iload_n dX6_readFactor_87 rfl ?_
      refine a_bipush (v := 83) dX6_readFactor_88 (by decide) ?_
      refine a_icmp_ne (tgt := 100) dX6_readFactor_90 (by decide) (fun c_90 => ?_) (fun c_90 => ?_)
      · refine a_iload_n dX6_readFactor_100 rfl ?_
        refine a_bipush (v := 77) dX6_readFactor_101 (by decide) ?_
        refine a_icmp_ne (tgt := 116) dX6_readFactor_103 (by decide) (fun c_103 => ?_) (fun c_103 => ?_)
        · refine a_iload_n dX6_readFactor_116 rfl ?_
          refine a_callS (mc1 := 0) (ms1 := 0) (As := [_]) kpX6_isDigit kmX6_68 (by omega) rfl (Nat.le_of_ble_eq_true rfl) (Nat.le_of_ble_eq_true rfl) (Nat.le_of_ble_eq_true rfl) (Nat.le_of_ble_eq_true rfl) dX6_readFactor_117 (w_X6_isDigit ?_)
          refine a_if_eq (tgt := 130) dX6_readFactor_120 (by decide) (fun c_120 => ?_) (fun c_120 => ?_)
          · refine a_aload_n dX6_readFactor_130 rfl ?_
            refine a_iconst (v := 2) dX6_readFactor_131 (by decide) ?_
            refine a_callV (mc1 := 0) (ms1 := 0) (As := [_]) kpX6_readCell kmX6_75 (by omega) rfl (Nat.le_of_ble_eq_true rfl) (pa_k hf) (by decide) rfl (pa_two hf) h5 (Nat.le_of_ble_eq_true rfl) (Nat.le_of_ble_eq_true rfl) (Nat.le_of_ble_eq_true rfl) dX6_readFactor_132 (w_X6_readCell hf hm hpa h5 hi ?_)
            refine a_vret dX6_readFactor_135 rfl (by unfold faC at h; first | (rw [if_pos c_46] at h; exact h) | (rw [if_neg c_46, if_pos c_62] at h; exact h) | (rw [if_neg c_46, if_neg c_62, if_pos c_90] at h; exact h) | (rw [if_neg c_46, if_neg c_62, if_neg c_90, if_pos c_103] at h; exact h) | (rw [if_neg c_46, if_neg c_62, if_neg c_90, if_neg c_103] at h; unfold faB at h; first | (rw [if_pos (bI_nz.mp c_120)] at h; exact h) | (rw [if_neg (bI_z.mp c_120)] at h; exact h)))
          · refine a_aload_n dX6_readFactor_123 rfl ?_
            refine a_callV (mc1 := 0) (ms1 := 0) (As := []) kpX6_readNumber kmX6_72 (by omega) rfl (Nat.le_of_ble_eq_true rfl) (pa_k hf) (by decide) rfl (pa_two hf) h5 (Nat.le_of_ble_eq_true rfl) (Nat.le_of_ble_eq_true rfl) (Nat.le_of_ble_eq_true rfl) dX6_readFactor_124 (w_X6_readNumber hf hm hpa h5 hi ?_)
            refine a_goto (tgt := 135) dX6_readFactor_127 (by decide) ?_
            refine a_vret dX6_readFactor_135 rfl (by unfold faC at h; first | (rw [if_pos c_46] at h; exact h) | (rw [if_neg c_46, if_pos c_62] at h; exact h) | (rw [if_neg c_46, if_neg c_62, if_pos c_90] at h; exact h) | (rw [if_neg c_46, if_neg c_62, if_neg c_90, if_pos c_103] at h; exact h) | (rw [if_neg c_46, if_neg c_62, if_neg c_90, if_neg c_103] at h; unfold faB at h; first | (rw [if_pos (bI_nz.mp c_120)] at h; exact h) | (rw [if_neg (bI_z.mp c_120)] at h; exact h)))
        · refine a_aload_n dX6_readFactor_106 rfl ?_
          refine a_iload_n dX6_readFactor_107 rfl ?_
          refine a_iconst (v := 1) dX6_readFactor_108 (by decide) ?_
          refine a_iadd dX6_readFactor_109 ?_
          rw [nI_1]
          refine a_callV (mc1 := 0) (ms1 := 0) (As := [_]) kpX6_readGreater kmX6_65 (by omega) rfl (Nat.le_of_ble_eq_true rfl) (pa_k hf) (by decide) rfl (pa_two hf) h5 (Nat.le_of_ble_eq_true rfl) (Nat.le_of_ble_eq_true rfl) (Nat.le_of_ble_eq_true rfl) dX6_readFactor_110 (hGr _ _ hi ?_)
          refine a_goto (tgt := 135) dX6_readFactor_113 (by decide) ?_
          refine a_vret dX6_readFactor_135 rfl (by unfold faC at h; first | (rw [if_pos c_46] at h; exact h) | (rw [if_neg c_46, if_pos c_62] at h; exact h) | (rw [if_neg c_46, if_neg c_62, if_pos c_90] at h; exact h) | (rw [if_neg c_46, if_neg c_62, if_neg c_90, if_pos c_103] at h; exact h) | (rw [if_neg c_46, if_neg c_62, if_neg c_90, if_neg c_103] at h; unfold faB at h; first | (rw [if_pos (bI_nz.mp c_120)] at h; exact h) | (rw [if_neg (bI_z.mp c_120)] at h; exact h)))
      · refine a_aload_n dX6_readFactor_93 rfl ?_
        refine a_callV (mc1 := 0) (ms1 := 0) (As := []) kpX6_readRectangle kmX6_62 (by omega) rfl (Nat.le_of_ble_eq_true rfl) (pa_k hf) (by decide) rfl (pa_two hf) h5 (Nat.le_of_ble_eq_true rfl) (Nat.le_of_ble_eq_true rfl) (Nat.le_of_ble_eq_true rfl) dX6_readFactor_94 (w_X6_readRectangle hf hm hpa h5 hi ?_)
        refine a_goto (tgt := 135) dX6_readFactor_97 (by decide) ?_
        refine a_vret dX6_readFactor_135 rfl (by unfold faC at h; first | (rw [if_pos c_46] at h; exact h) | (rw [if_neg c_46, if_pos c_62] at h; exact h) | (rw [if_neg c_46, if_neg c_62, if_pos c_90] at h; exact h) | (rw [if_neg c_46, if_neg c_62, if_neg c_90, if_pos c_103] at h; exact h) | (rw [if_neg c_46, if_neg c_62, if_neg c_90, if_neg c_103] at h; unfold faB at h; first | (rw [if_pos (bI_nz.mp c_120)] at h; exact h) | (rw [if_neg (bI_z.mp c_120)] at h; exact h)))
    · refine a_aload_n dX6_readFactor_65 rfl ?_
      refine a_bipush (v := 40) dX6_readFactor_66 (by decide) ?_
      refine a_callV (mc1 := 0) (ms1 := 0) (As := [_]) kpX6_pass kmX6_15 (by omega) rfl (Nat.le_of_ble_eq_true rfl) (pa_k hf) (by decide) rfl (pa_two hf) h5 (Nat.le_of_ble_eq_true rfl) (Nat.le_of_ble_eq_true rfl) (Nat.le_of_ble_eq_true rfl) dX6_readFactor_68 (w_X6_pass hf hm hpa h5 hi ?_)
      refine a_aload_n dX6_readFactor_71 rfl ?_
      refine a_iload_n dX6_readFactor_72 rfl ?_
      refine a_iconst (v := 1) dX6_readFactor_73 (by decide) ?_
      refine a_iadd dX6_readFactor_74 ?_
      rw [nI_1]
      refine a_callV (mc1 := 0) (ms1 := 0) (As := [_]) kpX6_readSum kmX6_19 (by omega) rfl (Nat.le_of_ble_eq_true rfl) (pa_k hf) (by decide) rfl (pa_two hf) h5 (Nat.le_of_ble_eq_true rfl) (Nat.le_of_ble_eq_true rfl) (Nat.le_of_ble_eq_true rfl) dX6_readFactor_75 (hSu _ _ (psC_in hi (by decide)) ?_)
      refine a_aload_n dX6_readFactor_78 rfl ?_
      refine a_bipush (v := 41) dX6_readFactor_79 (by decide) ?_
      refine a_callV (mc1 := 0) (ms1 := 0) (As := [_]) kpX6_pass kmX6_15 (by omega) rfl (Nat.le_of_ble_eq_true rfl) (pa_k hf) (by decide) rfl (pa_two hf) h5 (Nat.le_of_ble_eq_true rfl) (Nat.le_of_ble_eq_true rfl) (Nat.le_of_ble_eq_true rfl) dX6_readFactor_81 (w_X6_pass hf hm hpa h5 (suC_in (faC_in d) (psC_in hi (by decide))) ?_)
      refine a_goto (tgt := 135) dX6_readFactor_84 (by decide) ?_
      refine a_vret dX6_readFactor_135 rfl (by unfold faC at h; first | (rw [if_pos c_46] at h; exact h) | (rw [if_neg c_46, if_pos c_62] at h; exact h) | (rw [if_neg c_46, if_neg c_62, if_pos c_90] at h; exact h) | (rw [if_neg c_46, if_neg c_62, if_neg c_90, if_pos c_103] at h; exact h) | (rw [if_neg c_46, if_neg c_62, if_neg c_90, if_neg c_103] at h; unfold faB at h; first | (rw [if_pos (bI_nz.mp c_120)] at h; exact h) | (rw [if_neg (bI_z.mp c_120)] at h; exact h)))
  · refine a_aload_n dX6_readFactor_49 rfl ?_
    refine a_iload_n dX6_readFactor_50 rfl ?_
    refine a_iconst (v := 1) dX6_readFactor_51 (by decide) ?_
    refine a_iadd dX6_readFactor_52 ?_
    rw [nI_1]
    refine a_callV (mc1 := 0) (ms1 := 0) (As := [_]) kpX6_readNegative kmX6_59 (by omega) rfl (Nat.le_of_ble_eq_true rfl) (pa_k hf) (by decide) rfl (pa_two hf) h5 (Nat.le_of_ble_eq_true rfl) (Nat.le_of_ble_eq_true rfl) (Nat.le_of_ble_eq_true rfl) dX6_readFactor_53 (hNe _ _ hi ?_)
    refine a_goto (tgt := 135) dX6_readFactor_56 (by decide) ?_
    refine a_vret dX6_readFactor_135 rfl (by unfold faC at h; first | (rw [if_pos c_46] at h; exact h) | (rw [if_neg c_46, if_pos c_62] at h; exact h) | (rw [if_neg c_46, if_neg c_62, if_pos c_90] at h; exact h) | (rw [if_neg c_46, if_neg c_62, if_neg c_90, if_pos c_103] at h; exact h) | (rw [if_neg c_46, if_neg c_62, if_neg c_90, if_neg c_103] at h; unfold faB at h; first | (rw [if_pos (bI_nz.mp c_120)] at h; exact h) | (rw [if_neg (bI_z.mp c_120)] at h; exact h)))
theorem w_X6_readFactor {M : Mem} {N : Nat} {f m : Nat} (hf : FoR f N) (hm : FoF M.2.2 f m) (hpa : PaA M.2.2.1 f) (h5 : f + 5 < N) : ∀ (d o : Nat), o + d = 6 → Rds mX6_readFactor (5 + 4 * d) (nI o) M N f m (faC (rI M (f + 1)) m d)
  | 0, o, h => by
    obtain rfl : o = 6 := by omega
    exact w_X6_readFactor_0 hf hm hpa h5
  | d + 1, o, h => w_X6_readFactor_1 (D := 5 + 4 * d) hf hm hpa h5 (by omega) (by omega) (w_X6_readFactor hf hm hpa h5 d (o + 1) (by omega))
theorem w_X6_readSumC {M : Mem} {N : Nat} {f m D : Nat} {od : Int32} (hf : FoR f N) (hm : FoF M.2.2 f m) (hpa : PaA M.2.2.1 f) (h5 : f + 5 < N) {F : CS → CS} (hFi : ∀ s, CIn m s → CIn m (F s)) (hD : 1 ≤ D) (hR : Rds mX6_readFactor D od M N f m F) : Rds mX6_readSum (D + 1 + 1) od M N f m (suC (rI M (f + 1)) m F) := w_X6_readSum hf hm hpa h5 (fun s => prC_in hFi) (by omega) (w_X6_readProduct hf hm hpa h5 hFi (by omega) hR)
theorem plt {M : Mem} {f m : Nat} {s : CS} (hm : FoF M.2.2 f m) (h : CIn m s) (c : ¬ nI m ≤ nI s.1) : s.1 < m := by
  have := fo_40 hm
  have := h.1
  rw [nI_leI (by omega) (by omega)] at c
  omega
theorem pnlt {M : Mem} {f m : Nat} {s : CS} (hm : FoF M.2.2 f m) (h : CIn m s) (c : nI m ≤ nI s.1) : ¬ s.1 < m := by
  have := fo_40 hm
  have := h.1
  rw [nI_leI (by omega) (by omega)] at c
  omega
theorem w_X6_parse {M : Mem} {N : Nat} {Q : Option Value → Nat → Mem → Prop} {f m : Nat} (hf : FoR f N) (hm : FoF M.2.2 f m) (hpa : PaA M.2.2.1 f) (h5 : f + 5 < N) {s : CS} (hi : CIn m s) (h : Q (some (.int (pzC (rI M (f + 1)) m s).2.1)) N (wq M f (pzC (rI M (f + 1)) m s))) : AW mX6_parse 32 0 0 N 0 [(0, .ref (f + 5))] [] (wq M f s) Q := by
  refine a_aload_n dX6_parse_0 rfl ?_
  refine a_bipush (v := 61) dX6_parse_1 (by decide) ?_
  refine a_callV (mc1 := 0) (ms1 := 0) (As := [_]) kpX6_pass kmX6_15 (by decide) rfl (Nat.le_of_ble_eq_true rfl) (pa_k hf) (by decide) rfl (pa_two hf) h5 (Nat.le_of_ble_eq_true rfl) (Nat.le_of_ble_eq_true rfl) (Nat.le_of_ble_eq_true rfl) dX6_parse_3 (w_X6_pass hf hm hpa h5 hi ?_)
  refine a_aload_n dX6_parse_6 rfl ?_
  refine a_iconst (v := 0) dX6_parse_7 (by decide) ?_
  refine a_callV (mc1 := 0) (ms1 := 0) (As := [_]) kpX6_readSum kmX6_19 (by decide) rfl (Nat.le_of_ble_eq_true rfl) (pa_k hf) (by decide) rfl (pa_two hf) h5 (Nat.le_of_ble_eq_true rfl) (Nat.le_of_ble_eq_true rfl) (Nat.le_of_ble_eq_true rfl) dX6_parse_8 (w_X6_readSumC (D := 29) (od := nI 0) hf hm hpa h5 (faC_in 6) (by omega) (w_X6_readFactor hf hm hpa h5 6 0 rfl) _ _ (psC_in hi (by decide)) ?_)
  refine a_aload_n dX6_parse_11 rfl ?_
  refine a_getI kfX6_22 (pa_k hf) rfl (pa_two hf) h5 dX6_parse_12 ?_
  rw [wq_p]
  refine a_aload_n dX6_parse_15 rfl ?_
  refine a_getA (z := f) kfX6_9 (pa_k hf) rfl (pa_0 hpa) (pa_two hf) h5 dX6_parse_16 ?_
  refine a_callV (mc1 := 0) (ms1 := 0) (As := []) kpX2_length kmX6_26 (by decide) rfl (Nat.le_of_ble_eq_true rfl) (fo_k hf) (by decide) rfl (fo_two hf) (fo_lt hf) (Nat.le_of_ble_eq_true rfl) (Nat.le_of_ble_eq_true rfl) (Nat.le_of_ble_eq_true rfl) dX6_parse_19 (w_X2_length hf (by exact hm) ?_)
  refine a_icmp_ge (tgt := 30) dX6_parse_22 (by decide) (fun c_22 => ?_) (fun c_22 => ?_)
  · refine a_aload_n dX6_parse_30 rfl ?_
    refine a_getI kfX6_35 (pa_k hf) rfl (pa_two hf) h5 dX6_parse_31 ?_
    refine a_iret dX6_parse_34 rfl (by rw [wq_e]; unfold pzC paC at h; first | (rw [if_pos (plt hm (suC_in (faC_in 6) (psC_in hi (by decide))) c_22)] at h; exact h) | (rw [if_neg (pnlt hm (suC_in (faC_in 6) (psC_in hi (by decide))) c_22)] at h; exact h))
  · refine a_aload_n dX6_parse_25 rfl ?_
    refine a_iconst (v := 1) dX6_parse_26 (by decide) ?_
    refine a_callV (mc1 := 0) (ms1 := 0) (As := [_]) kpX6_fail kmX6_32 (by decide) rfl (Nat.le_of_ble_eq_true rfl) (pa_k hf) (by decide) rfl (pa_two hf) h5 (Nat.le_of_ble_eq_true rfl) (Nat.le_of_ble_eq_true rfl) (Nat.le_of_ble_eq_true rfl) dX6_parse_27 (w_X6_fail hf hm hpa h5 (suC_in (faC_in 6) (psC_in hi (by decide))) ?_)
    refine a_aload_n dX6_parse_30 rfl ?_
    refine a_getI kfX6_35 (pa_k hf) rfl (pa_two hf) h5 dX6_parse_31 ?_
    refine a_iret dX6_parse_34 rfl (by rw [wq_e]; unfold pzC paC at h; first | (rw [if_pos (plt hm (suC_in (faC_in 6) (psC_in hi (by decide))) c_22)] at h; exact h) | (rw [if_neg (pnlt hm (suC_in (faC_in 6) (psC_in hi (by decide))) c_22)] at h; exact h))
