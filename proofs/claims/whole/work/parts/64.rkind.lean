/-! the reference's kinds -/
def KU (M M' : Mem) : Prop := M'.2.2 = M.2.2 ∧ (∀ a j, a ≠ 81 → a ≠ 89 → a ≠ 92 → ¬ (a = 64 ∧ (j = 21 ∨ j = 37 ∨ j = 38 ∨ j = 39 ∨ j = 40 ∨ j = 46 ∨ j = 47 ∨ j = 49 ∨ j = 50 ∨ j = 51)) → rI M' a j = rI M a j) ∧ (∀ a j, a ≠ 80 → a ≠ 90 → a ≠ 91 → a ≠ 93 → ¬ (a = 64 ∧ j = 48) → rJ M' a j = rJ M a j)
theorem KU.refl {M : Mem} : KU M M := ⟨rfl, fun _ _ _ _ _ _ => rfl, fun _ _ _ _ _ _ _ => rfl⟩
theorem KU.trans {M M' M'' : Mem} (h : KU M M') (k : KU M' M'') : KU M M'' := ⟨k.1.trans h.1, fun a j p q r s => (k.2.1 a j p q r s).trans (h.2.1 a j p q r s), fun a j p q r s t => (k.2.2 a j p q r s t).trans (h.2.2 a j p q r s t)⟩
theorem KT.ku {M M' : Mem} (h : KT M M') : KU M M' := ⟨h.1, fun a j p q r s => h.2.1 a j p q r (by omega), h.2.2⟩
theorem KS.ku {M M' : Mem} (h : KS M M') : KU M M' := ⟨h.1, fun a j _ q r s => h.2.1 a j q r (by omega), fun a j _ q r s t => h.2.2 a j q r s t⟩
theorem KS.symm {M M' : Mem} (h : KS M M') : KS M' M := ⟨h.1.symm, fun a j p q r => (h.2.1 a j p q r).symm, fun a j p q r s => (h.2.2 a j p q r s).symm⟩
theorem AlP.ks {M M1 : Mem} (ks : KS M M1) (h36 : rI M 64 36 = -1) (hg : GA M) {i c W : Nat} (hi : i < 6) {rt : Int32} : AlP M1 i c rt W ↔ AlP M i c rt W := by
  have h36' : rI M1 64 36 = -1 := by rw [ks.2.1 64 36 (by omega) (by omega) (by omega)]; exact h36
  unfold AlP
  constructor
  · intro k w hw
    have := k w hw
    rw [ks.j80.1, ks.j80.2] at this
    exact (ks.symm.sm h36' hi).an hi (ks.ga h36 hg) (Or.inr ks.symm.j80) this
  · intro k w hw
    have := k w hw
    rw [ks.j80.1, ks.j80.2]
    exact (ks.sm h36 hi).an hi hg (Or.inr ks.j80) this
theorem SFn.ks {M M1 : Mem} (ks : KS M M1) {i c W p e n : Nat} {s2 m : Int32} : SFn M1 i c W p e s2 n m ↔ SFn M i c W p e s2 n m := by
  unfold SFn
  rw [FnR.ks ks, ks.2.1 74 _ (by omega) (by omega) (by omega), ks.2.1 75 _ (by omega) (by omega) (by omega)]
theorem KS.mn {M M1 : Mem} (ks : KS M M1) {k : Nat} : mnR M1 k = mnR M k := by unfold mnR; rw [ks.2.1 70 _ (by omega) (by omega) (by omega)]
theorem SlY.ks {M M1 : Mem} (ks : KS M M1) {i c W sz : Nat} {a t : Int32} : SlY M1 i c W sz a t ↔ SlY M i c W sz a t := by
  unfold SlY
  simp only [SFn.ks ks, ks.mn]
theorem SlN.ks {M M1 : Mem} (ks : KS M M1) {i c W sz : Nat} : SlN M1 i c W sz ↔ SlN M i c W sz := by
  unfold SlN
  simp only [SFn.ks ks, ks.mn]
/-- the formula's size and places -/
def FoK (M : Mem) (k : Nat) : Prop := (∃ sz, sz ≤ 40 ∧ rI M 68 k = nI sz) ∧ ∀ e, e < mnR M k → ∀ p, p < 40 → rI M 75 (40 * k + e) = nI p → rI M 71 (40 * k + e) = 2
/-- the reference's cells are in order, with W worlds -/
def RfI (M : Mem) (W : Nat) : Prop := GA M ∧ rI M 64 36 = -1 ∧ W ≤ 6 ∧ rI M 64 17 = nI W ∧ FrI M W ∧ ∀ k, k < 384 → (rI M 66 k = 0 ∨ rI M 66 k = 1 ∨ rI M 66 k = 2) ∧ (rI M 66 k = 2 → FoK M k)
theorem KU.mn {M M' : Mem} (h : KU M M') {k : Nat} : mnR M' k = mnR M k := by unfold mnR; rw [h.2.1 70 _ (by omega) (by omega) (by omega) (by omega)]
theorem RfI.ku {M M' : Mem} {W : Nat} (h : KU M M') (r : RfI M W) (f : FrI M' W) : RfI M' W := by
  obtain ⟨hg, h36, hW6, hW, -, ha⟩ := r
  have k36 : rI M' 64 36 = -1 := by rw [h.2.1 64 36 (by omega) (by omega) (by omega) (by omega)]; exact h36
  refine ⟨GA_un (fun a j p q => h.2.1 a j (by omega) (by omega) (by omega) (by omega)) (fun j => h.2.2 76 j (by omega) (by omega) (by omega) (by omega) (by omega)) h36 k36 hg, k36, hW6, by rw [h.2.1 64 17 (by omega) (by omega) (by omega) (by omega)]; exact hW, f, fun k hk => ?_⟩
  unfold FoK
  rw [h.2.1 66 k (by omega) (by omega) (by omega) (by omega), h.2.1 68 k (by omega) (by omega) (by omega) (by omega), h.mn]
  refine ⟨(ha k hk).1, fun z => ⟨((ha k hk).2 z).1, fun e he p hp q => ?_⟩⟩
  rw [h.2.1 75 _ (by omega) (by omega) (by omega) (by omega)] at q
  rw [h.2.1 71 _ (by omega) (by omega) (by omega) (by omega)]
  exact ((ha k hk).2 z).2 e he p hp q
def TyP (M : Mem) (i c W : Nat) : Prop := ∃ w, w < W ∧ rI M 81 (64 * w + c) = 0 ∧ rJ M 80 (64 * w + c) = (rI M 67 (64 * i + c)).toInt64
def KdR (M : Mem) (i c W : Nat) (k a t : Int32) : Prop := (rI M 66 (64 * i + c) = 0 ∧ k = 0) ∨ (rI M 66 (64 * i + c) = 1 ∧ ((k = 2 ∧ TyP M i c W) ∨ (k = 5 ∧ ¬ TyP M i c W))) ∨ (rI M 66 (64 * i + c) = 2 ∧ ((k = 1 ∧ AlP M i c 0 W) ∨ (¬ AlP M i c 0 W ∧ ((k = 3 ∧ AlP M i c 1 W) ∨ (¬ AlP M i c 1 W ∧ ((k = 4 ∧ ∃ sz, sz ≤ 40 ∧ rI M 68 (64 * i + c) = nI sz ∧ SlY M i c W sz a t) ∨ (k = 5 ∧ ∃ sz, sz ≤ 40 ∧ rI M 68 (64 * i + c) = nI sz ∧ SlN M i c W sz)))))))
/-- the kinds, places and options are these, whatever the scratch -/
def KK (M : Mem) (i W : Nat) (κ α τ : Nat → Int32) : Prop := ∀ M' x k a t, x < 64 → 0 < (rI M 78 x).toInt → KU M M' → RfI M' W → (¬ rI M' 66 (64 * i + x) = 0 → TaskOK M' W) → KdR M' i x W k a t → k = κ x ∧ (k = 4 → a = α x ∧ t = τ x)
theorem KK.ku {M M1 : Mem} {i W : Nat} {κ α τ : Nat → Int32} (h : KU M M1) (k : KK M i W κ α τ) : KK M1 i W κ α τ := fun M' x k' a t hx hw hu => k M' x k' a t hx (by rw [← h.2.1 78 x (by omega) (by omega) (by omega) (by omega)]; exact hw) (h.trans hu)
theorem fin_k {Q : Option Value → Nat → Mem → Prop} {N : Nat} {M : Mem} {κ α τ : Nat → Int32} {c : Nat} {k a t : Int32} (kd : k = κ c ∧ (k = 4 → a = α c ∧ t = τ c)) (h : (κ c = 4 → a = α c ∧ t = τ c) → Q (some (.int (κ c))) N M) : Q (some (.int k)) N M := by
  obtain ⟨e, f⟩ := kd
  rw [e] at f ⊢
  exact h f
/-- alike, from any memory of the search -/
theorem w_al {M M1 : Mem} {N : Nat} {Q : Option Value → Nat → Mem → Prop} (ks : KS M M1) {i c W : Nat} {rt : Int32} (hi : i < 6) (hc : c < 64) (hW6 : W ≤ 6) (hg : GA M) (h36 : rI M 64 36 = -1) (hW : rI M 64 17 = nI W) (htk : TaskOK M W) (hwn : 0 < (rI M 78 c).toInt) (hf : ¬ rI M 64 21 = 0) (hN : 94 ≤ N) (hs : Str M1.2.2.1) (h : ∀ M'' b, KS M M'' → (b = 1 ∧ AlP M i c rt W ∨ b = 0 ∧ ¬ AlP M i c rt W) → Q (some (.int b)) N M'') : AW mX10_isAlike 8 0 0 N 0 [(0, .ref 64), (1, .int (nI i)), (2, .int (nI c)), (3, .int rt)] [] M1 Q := by
  have kI := fun a j p q r => ks.2.1 a j p q r
  refine w_X10_isAlike_f hi hc hW6 (ks.ga h36 hg) (by rw [kI 64 17 (by omega) (by omega) (by omega)]; exact hW) (ks.task h36 hg htk) (by rw [kI 78 c (by omega) (by omega) (by omega)]; exact hwn) (by rw [kI 64 21 (by omega) (by omega) (by omega)]; exact hf) hN hs (fun M'' b hk hb => h M'' b (ks.trans hk.ks) ?_)
  rw [AlP.ks ks h36 hg hi] at hb
  exact hb
theorem w_is {M M1 : Mem} {N : Nat} {Q : Option Value → Nat → Mem → Prop} (ks : KS M M1) {i c W sz : Nat} (hi1 : 1 ≤ i) (hi : i < 6) (hc : c < 64) (hW6 : W ≤ 6) (hg : GA M) (h36 : rI M 64 36 = -1) (hW : rI M 64 17 = nI W) (htk : TaskOK M W) (hwn : 0 < (rI M 78 c).toInt) (hf : ¬ rI M 64 21 = 0) (h2 : rI M 66 (64 * i + c) = 2) (hsz : rI M 68 (64 * i + c) = nI sz) (hz4 : sz ≤ 40) (hpl : ∀ e, e < mnR M (64 * i + c) → ∀ p, p < 40 → rI M 75 (40 * (64 * i + c) + e) = nI p → rI M 71 (40 * (64 * i + c) + e) = 2) (hN : 94 ≤ N) (hs : Str M1.2.2.1) (h : ∀ M'' x, KS M M'' → ((x = 1 ∧ SlY M i c W sz (rI M'' 64 50) (rI M'' 64 51)) ∨ (x = 0 ∧ SlN M i c W sz)) → Q (some (.int x)) N M'') : AW mX10_isSlip 11 0 0 N 0 [(0, .ref 64), (1, .int (nI i)), (2, .int (nI c))] [] M1 Q := by
  have kI := fun a j p q r => ks.2.1 a j p q r
  refine w_X10_isSlip hi1 hi hc hW6 (ks.ga h36 hg) (by rw [kI 64 36 (by omega) (by omega) (by omega)]; exact h36) (by rw [kI 64 17 (by omega) (by omega) (by omega)]; exact hW) (ks.task h36 hg htk) (by rw [kI 78 c (by omega) (by omega) (by omega)]; exact hwn) (by rw [kI 64 21 (by omega) (by omega) (by omega)]; exact hf) (by rw [kI 66 _ (by omega) (by omega) (by omega)]; exact h2) (by rw [kI 68 _ (by omega) (by omega) (by omega)]; exact hsz) hz4 (fun e he p hp q => ?_) hN hs (fun M'' x hk hx => h M'' x (ks.trans hk) ?_)
  · rw [ks.mn] at he
    rw [kI 75 _ (by omega) (by omega) (by omega)] at q
    rw [kI 71 _ (by omega) (by omega) (by omega)]
    exact hpl e he p hp q
  · rw [SlY.ks ks, SlN.ks ks] at hx
    exact hx
theorem l_X10_kindW {M : Mem} {N : Nat} {Q : Option Value → Nat → Mem → Prop} {i c W : Nat} (hi : i < 6) (hc : c < 64) (hW6 : W ≤ 6) (hW : rI M 64 17 = nI W) (hN : 94 ≤ N) (hs : Str M.2.2.1) (h2 : TyP M i c W → Q (some (.int 2)) N M) (h5 : ¬ TyP M i c W → Q (some (.int 5)) N M) : ∀ (r w : Nat), w + r = W → (∀ w', w' < w → rI M 81 (64 * w' + c) = 0 → ¬ rJ M 80 (64 * w' + c) = (rI M 67 (64 * i + c)).toInt64) → AW mX10_kindOf 12 0 0 N 35 [(0, .ref 64), (2, .int (nI c)), (3, .int (nI (64 * i + c))), (4, .int (nI w))] [] M Q := by
  intro r
  induction r with
  | zero =>
    intro w hkk h1
    obtain rfl : w = W := by omega
    refine a_iload dX10_kindOf_35 rfl ?_
    refine a_aload_n dX10_kindOf_37 rfl ?_
    refine a_getI kfX10_210 rfl rfl (by decide) (hlt hN (by decide)) dX10_kindOf_38 ?_
    rw [hW]
    refine a_icmp_ge (tgt := 90) dX10_kindOf_41 (by decide) (fun c_41 => ?_) (fun c_41 => absurd (nI_le (by omega) (by omega)) c_41)
    refine a_iconst (v := 5) dX10_kindOf_90 (by decide) ?_
    refine a_iret dX10_kindOf_91 rfl (h5 (fun ⟨w', hw', z⟩ => h1 w' hw' z.1 z.2))
  | succ r ih =>
    intro w hkk h1
    refine a_iload dX10_kindOf_35 rfl ?_
    refine a_aload_n dX10_kindOf_37 rfl ?_
    refine a_getI kfX10_210 rfl rfl (by decide) (hlt hN (by decide)) dX10_kindOf_38 ?_
    rw [hW]
    refine a_icmp_ge (tgt := 90) dX10_kindOf_41 (by decide) (fun c_41 => absurd c_41 (nI_ge (by omega) (by omega))) (fun c_41 => ?_)
    refine a_aload_n dX10_kindOf_44 rfl ?_
    refine a_getA (z := 81) kfX10_61 rfl rfl (st_64_20 hs) (by decide) (hlt hN (by decide)) dX10_kindOf_45 ?_
    refine a_bipush (v := 64) dX10_kindOf_48 (by decide) ?_
    refine a_iload dX10_kindOf_50 rfl ?_
    refine a_imul dX10_kindOf_52 ?_
    refine a_iload_n dX10_kindOf_53 rfl ?_
    refine a_iadd dX10_kindOf_54 ?_
    rw [show (64 : Int32) * nI w + nI c = nI (64 * w + c) from i64]
    refine a_iald rfl (by decide) (hlt hN (by decide)) (show vp_in _ 384 from vp_in_nI (by omega) (by decide)) dX10_kindOf_55 ?_
    rw [nI_clamp (by omega)]
    refine a_if_ne (tgt := 84) dX10_kindOf_56 (by decide) (fun c_56 => ?_) (fun c_56 => ?_)
    · have zz : rI M 81 (64 * w + c) = 0 → ¬ rJ M 80 (64 * w + c) = (rI M 67 (64 * i + c)).toInt64 := fun z => absurd z c_56
      refine a_iinc dX10_kindOf_84 rfl rfl (by decide) ?_
      refine a_goto (tgt := 35) dX10_kindOf_87 (by decide) ?_
      rw [show nI w + Int32.ofInt 1 = nI (w + 1) from nI_1 w]
      refine AW.sub (L' := [(0, .ref 64), (2, .int (nI c)), (3, .int (nI (64 * i + c))), (4, .int (nI (w + 1)))]) rfl (ih (w + 1) (by omega) (fun w' hw' => ?_))
      by_cases e : w' = w
      · subst e
        exact zz
      · exact h1 w' (by omega)
    · refine a_aload_n dX10_kindOf_59 rfl ?_
      refine a_getA (z := 80) kfX10_58 rfl rfl (st_64_19 hs) (by decide) (hlt hN (by decide)) dX10_kindOf_60 ?_
      refine a_bipush (v := 64) dX10_kindOf_63 (by decide) ?_
      refine a_iload dX10_kindOf_65 rfl ?_
      refine a_imul dX10_kindOf_67 ?_
      refine a_iload_n dX10_kindOf_68 rfl ?_
      refine a_iadd dX10_kindOf_69 ?_
      rw [show (64 : Int32) * nI w + nI c = nI (64 * w + c) from i64]
      refine a_lald rfl (by decide) (hlt hN (by decide)) (show vp_in _ 384 from vp_in_nI (by omega) (by decide)) dX10_kindOf_70 ?_
      rw [nI_clamp (by omega)]
      refine a_aload_n dX10_kindOf_71 rfl ?_
      refine a_getA (z := 67) kfX10_17 rfl rfl (st_64_3 hs) (by decide) (hlt hN (by decide)) dX10_kindOf_72 ?_
      refine a_iload_n dX10_kindOf_75 rfl ?_
      refine a_iald rfl (by decide) (hlt hN (by decide)) (show vp_in _ 384 from vp_in_nI (by omega) (by decide)) dX10_kindOf_76 ?_
      rw [nI_clamp (by omega)]
      refine a_i2l dX10_kindOf_77 rfl ?_
      refine a_lcmp dX10_kindOf_78 ?_
      refine a_if_ne (tgt := 84) dX10_kindOf_79 (by decide) (fun c_79 => ?_) (fun c_79 => ?_)
      · have zz : rI M 81 (64 * w + c) = 0 → ¬ rJ M 80 (64 * w + c) = (rI M 67 (64 * i + c)).toInt64 := fun _ z => c_79 ((lg_cmp_eq _ _).mpr z)
        refine a_iinc dX10_kindOf_84 rfl rfl (by decide) ?_
        refine a_goto (tgt := 35) dX10_kindOf_87 (by decide) ?_
        rw [show nI w + Int32.ofInt 1 = nI (w + 1) from nI_1 w]
        refine AW.sub (L' := [(0, .ref 64), (2, .int (nI c)), (3, .int (nI (64 * i + c))), (4, .int (nI (w + 1)))]) rfl (ih (w + 1) (by omega) (fun w' hw' => ?_))
        by_cases e : w' = w
        · subst e
          exact zz
        · exact h1 w' (by omega)
      · refine a_iconst (v := 2) dX10_kindOf_82 (by decide) ?_
        refine a_iret dX10_kindOf_83 rfl (h2 ⟨w, by omega, c_56, (lg_cmp_eq _ _).mp c_79⟩)
theorem w_X10_kindOf {M : Mem} {N : Nat} {Q : Option Value → Nat → Mem → Prop} {i c W : Nat} {κ α τ : Nat → Int32} (hi1 : 1 ≤ i) (hi : i < 6) (hc : c < 64) (hwn : 0 < (rI M 78 c).toInt) (hR : RfI M W) (hK : KK M i W κ α τ) (hN : 94 ≤ N) (hs : Str M.2.2.1) (h : ∀ M'', KU M M'' → RfI M'' W → (κ c = 4 → rI M'' 64 50 = α c ∧ rI M'' 64 51 = τ c) → Q (some (.int (κ c))) N M'') : AW mX10_kindOf 12 0 0 N 0 [(0, .ref 64), (1, .int (nI i)), (2, .int (nI c))] [] M Q := by
  obtain ⟨hg, h36, hW6, hW, hfr, hall⟩ := id hR
  have hkk := hall (64 * i + c) (by omega)
  refine a_bipush (v := 64) dX10_kindOf_0 (by decide) ?_
  refine a_iload_n dX10_kindOf_2 rfl ?_
  refine a_imul dX10_kindOf_3 ?_
  refine a_iload_n dX10_kindOf_4 rfl ?_
  refine a_iadd dX10_kindOf_5 ?_
  rw [i64]
  refine a_istore_n dX10_kindOf_6 (by decide) ?_
  refine a_aload_n dX10_kindOf_7 rfl ?_
  refine a_getA (z := 66) kfX10_13 rfl rfl (st_64_2 hs) (by decide) (hlt hN (by decide)) dX10_kindOf_8 ?_
  refine a_iload_n dX10_kindOf_11 rfl ?_
  refine a_iald rfl (by decide) (hlt hN (by decide)) (show vp_in _ 384 from vp_in_nI (by omega) (by decide)) dX10_kindOf_12 ?_
  rw [nI_clamp (by omega)]
  refine a_if_ne (tgt := 18) dX10_kindOf_13 (by decide) (fun c_13 => ?_) (fun c_13 => ?_)
  · refine a_aload_n dX10_kindOf_18 rfl ?_
    refine a_getA (z := 66) kfX10_13 rfl rfl (st_64_2 hs) (by decide) (hlt hN (by decide)) dX10_kindOf_19 ?_
    refine a_iload_n dX10_kindOf_22 rfl ?_
    refine a_iald rfl (by decide) (hlt hN (by decide)) (show vp_in _ 384 from vp_in_nI (by omega) (by decide)) dX10_kindOf_23 ?_
    rw [nI_clamp (by omega)]
    refine a_iconst (v := 1) dX10_kindOf_24 (by decide) ?_
    refine a_icmp_ne (tgt := 92) dX10_kindOf_25 (by decide) (fun c_25 => ?_) (fun c_25 => ?_)
    · have h2 : rI M 66 (64 * i + c) = 2 := (hkk.1.resolve_left c_13).resolve_left c_25
      refine a_aload_n dX10_kindOf_92 rfl ?_
      refine a_iload_n dX10_kindOf_93 rfl ?_
      refine a_iload_n dX10_kindOf_94 rfl ?_
      refine a_iconst (v := 0) dX10_kindOf_95 (by decide) ?_
      refine a_callV (mc1 := 0) (ms1 := 0) (As := [_, _, _]) kpX10_isAlike kmX10_315 (by decide) rfl (Nat.le_of_ble_eq_true rfl) rfl (by decide) rfl (by decide) (hlt hN (by decide)) (Nat.le_of_ble_eq_true rfl) (Nat.le_of_ble_eq_true rfl) (Nat.le_of_ble_eq_true rfl) dX10_kindOf_96 (w_X10_isAlike (rt := 0) hi hc hW6 hg hW hfr hwn hN (by exact hs) (fun M' M1 b hk hf ht hp ha => ?_))
      have hR' := hR.ku hk.ku (fun _ => ht)
      obtain ⟨hg', h36', -, hW', -, -⟩ := id hR'
      have ksM1 := hp.ks
      have hs' : Str M1.2.2.1 := by rw [hp.1, hk.1]; exact hs
      have h2' : rI M' 66 (64 * i + c) = 2 := by rw [hk.2.1 66 (64 * i + c) (by omega) (by omega) (by omega) (by omega)]; exact h2
      have hwn' : 0 < (rI M' 78 c).toInt := by rw [hk.2.1 78 c (by omega) (by omega) (by omega) (by omega)]; exact hwn
      refine a_if_eq (tgt := 104) dX10_kindOf_99 (by decide) (fun c_99 => ?_) (fun c_99 => ?_)
      · have b0 : b = 0 := c_99
        have na := (ha.resolve_left (fun z => absurd (z.1.symm.trans b0) (by decide))).2
        refine a_aload_n dX10_kindOf_104 rfl ?_
        refine a_iload_n dX10_kindOf_105 rfl ?_
        refine a_iload_n dX10_kindOf_106 rfl ?_
        refine a_iconst (v := 1) dX10_kindOf_107 (by decide) ?_
        refine a_callV (mc1 := 0) (ms1 := 0) (As := [_, _, _]) kpX10_isAlike kmX10_315 (by decide) rfl (Nat.le_of_ble_eq_true rfl) rfl (by decide) rfl (by decide) (hlt hN (by decide)) (Nat.le_of_ble_eq_true rfl) (Nat.le_of_ble_eq_true rfl) (Nat.le_of_ble_eq_true rfl) dX10_kindOf_108 (w_al (rt := 1) ksM1 hi hc hW6 hg' h36' hW' ht hwn' hf hN hs' (fun M2 b2 ksM2 ha2 => ?_))
        obtain ⟨⟨sz, hz4, hsz⟩, hpl⟩ := (hR'.2.2.2.2.2 (64 * i + c) (by omega)).2 h2'
        refine a_if_eq (tgt := 116) dX10_kindOf_111 (by decide) (fun c_111 => ?_) (fun c_111 => ?_)
        · have b20 : b2 = 0 := c_111
          have na2 := (ha2.resolve_left (fun z => absurd (z.1.symm.trans b20) (by decide))).2
          refine a_aload_n dX10_kindOf_116 rfl ?_
          refine a_iload_n dX10_kindOf_117 rfl ?_
          refine a_iload_n dX10_kindOf_118 rfl ?_
          refine a_callV (mc1 := 0) (ms1 := 0) (As := [_, _]) kpX10_isSlip kmX10_338 (by decide) rfl (Nat.le_of_ble_eq_true rfl) rfl (by decide) rfl (by decide) (hlt hN (by decide)) (Nat.le_of_ble_eq_true rfl) (Nat.le_of_ble_eq_true rfl) (Nat.le_of_ble_eq_true rfl) dX10_kindOf_119 (w_is ksM2 hi1 hi hc hW6 hg' h36' hW' ht hwn' hf h2' hsz hz4 hpl hN (by rw [ksM2.1, hk.1]; exact hs) (fun M3 x ksM3 hx => ?_))
          refine a_if_eq (tgt := 129) dX10_kindOf_122 (by decide) (fun c_122 => ?_) (fun c_122 => ?_)
          · have x0 : x = 0 := c_122
            have sn := (hx.resolve_left (fun z => absurd (z.1.symm.trans x0) (by decide))).2
            refine a_iconst (v := 5) dX10_kindOf_129 (by decide) ?_
            refine a_iret dX10_kindOf_130 rfl (fin_k (hK M' c 5 _ _ hc hwn hk.ku hR' (fun _ => ht) (Or.inr (Or.inr ⟨h2', Or.inr ⟨na, Or.inr ⟨na2, Or.inr ⟨rfl, sz, hz4, hsz, sn⟩⟩⟩⟩))) (h M3 (hk.ku.trans ksM3.ku) (hR'.ku ksM3.ku (fun _ => ksM3.task h36' hg' ht))))
          · have x0 : ¬ x = 0 := c_122
            have sy := (hx.resolve_right (fun z => x0 z.1)).2
            refine a_iconst (v := 4) dX10_kindOf_125 (by decide) ?_
            refine a_goto (tgt := 130) dX10_kindOf_126 (by decide) ?_
            refine a_iret dX10_kindOf_130 rfl (fin_k (hK M' c 4 _ _ hc hwn hk.ku hR' (fun _ => ht) (Or.inr (Or.inr ⟨h2', Or.inr ⟨na, Or.inr ⟨na2, Or.inl ⟨rfl, sz, hz4, hsz, sy⟩⟩⟩⟩))) (h M3 (hk.ku.trans ksM3.ku) (hR'.ku ksM3.ku (fun _ => ksM3.task h36' hg' ht))))
        · have b20 : ¬ b2 = 0 := c_111
          have ya2 := (ha2.resolve_right (fun z => b20 z.1)).2
          refine a_iconst (v := 3) dX10_kindOf_114 (by decide) ?_
          refine a_iret dX10_kindOf_115 rfl (fin_k (hK M' c 3 _ _ hc hwn hk.ku hR' (fun _ => ht) (Or.inr (Or.inr ⟨h2', Or.inr ⟨na, Or.inl ⟨rfl, ya2⟩⟩⟩))) (h M2 (hk.ku.trans ksM2.ku) (hR'.ku ksM2.ku (fun _ => ksM2.task h36' hg' ht))))
      · have b0 : ¬ b = 0 := c_99
        have ya := (ha.resolve_right (fun z => b0 z.1)).2
        refine a_iconst (v := 1) dX10_kindOf_102 (by decide) ?_
        refine a_iret dX10_kindOf_103 rfl (fin_k (hK M' c 1 _ _ hc hwn hk.ku hR' (fun _ => ht) (Or.inr (Or.inr ⟨h2', Or.inl ⟨rfl, ya⟩⟩))) (h M1 (hk.ku.trans ksM1.ku) (hR'.ku ksM1.ku (fun _ => ksM1.task h36' hg' ht))))
    · refine a_aload_n dX10_kindOf_28 rfl ?_
      refine a_callV (mc1 := 0) (ms1 := 0) (As := []) kpX10_tasks kmX10_292 (by decide) rfl (Nat.le_of_ble_eq_true rfl) rfl (by decide) rfl (by decide) (hlt hN (by decide)) (Nat.le_of_ble_eq_true rfl) (Nat.le_of_ble_eq_true rfl) (Nat.le_of_ble_eq_true rfl) dX10_kindOf_29 (w_X10_tasks hg hW6 hW hfr hN (by exact hs) (fun M' hk hf ht => ?_))
      refine a_iconst (v := 0) dX10_kindOf_32 (by decide) ?_
      refine a_istore dX10_kindOf_33 (by decide) ?_
      have hs' : Str M'.2.2.1 := by rw [hk.1]; exact hs
      have hR' := hR.ku hk.ku (fun _ => ht)
      have kd := hK M' c
      refine AW.sub (L' := [(0, .ref 64), (2, .int (nI c)), (3, .int (nI (64 * i + c))), (4, .int (nI 0))]) rfl (l_X10_kindW hi hc hW6 hR'.2.2.2.1 hN hs' (fun ty => fin_k (kd 2 _ _ hc hwn hk.ku hR' (fun _ => ht) (Or.inr (Or.inl ⟨by rw [hk.2.1 66 (64 * i + c) (by omega) (by omega) (by omega) (by omega)]; exact c_25, Or.inl ⟨rfl, ty⟩⟩))) (h M' hk.ku hR')) (fun ty => fin_k (kd 5 _ _ hc hwn hk.ku hR' (fun _ => ht) (Or.inr (Or.inl ⟨by rw [hk.2.1 66 (64 * i + c) (by omega) (by omega) (by omega) (by omega)]; exact c_25, Or.inr ⟨rfl, ty⟩⟩))) (h M' hk.ku hR')) W 0 (by omega) (fun w' z => absurd z (Nat.not_lt_zero _)))
  · refine a_iconst (v := 0) dX10_kindOf_16 (by decide) ?_
    refine a_iret dX10_kindOf_17 rfl (fin_k (hK M c 0 _ _ hc hwn KU.refl hR (fun z => absurd c_13 z) (Or.inl ⟨c_13, rfl⟩)) (h M KU.refl hR))
