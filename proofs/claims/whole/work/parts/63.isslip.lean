theorem FnR.ks {M M1 : Mem} (ks : KS M M1) {q i c W n : Nat} {s2 m : Int32} : FnR M1 q i c W s2 n m ↔ FnR M q i c W s2 n m := by
  unfold FnR
  rw [ks.2.1 71 q (by omega) (by omega) (by omega), ks.2.1 72 q (by omega) (by omega) (by omega), ks.2.1 73 q (by omega) (by omega) (by omega)]
  constructor
  · rintro ⟨o', a', b', h, k⟩
    exact ⟨o', a', b', h, (AlP.k0 ks.cg ks.c80).mp k⟩
  · rintro ⟨o', a', b', h, k⟩
    exact ⟨o', a', b', h, (AlP.k0 ks.cg ks.c80).mpr k⟩
theorem KS.row {M M1 : Mem} (ks : KS M M1) {q : Nat} (h : RowK M q) : RowK M1 q := by
  unfold RowK
  rw [ks.2.1 71 q (by omega) (by omega) (by omega), ks.2.1 72 q (by omega) (by omega) (by omega), ks.2.1 73 q (by omega) (by omega) (by omega)]
  exact h
theorem KS.task {M M1 : Mem} (ks : KS M M1) (h36 : rI M 64 36 = -1) (hg : GA M) {W : Nat} (h : TaskOK M W) : TaskOK M1 W := (ks.sm h36 (by decide)).task hg ks.j80 h
/-- the search at one step, from any memory of the search -/
theorem w_sl {M M1 : Mem} {N : Nat} {Q : Option Value → Nat → Mem → Prop} (ks : KS M M1) {i c e W : Nat} {p s2 : Int32} (hi1 : 1 ≤ i) (hi : i < 6) (hc : c < 64) (he : e < 40) (hW6 : W ≤ 6) (hg : GA M) (h36 : rI M 64 36 = -1) (hW : rI M 64 17 = nI W) (htk : TaskOK M W) (hwn : 0 < (rI M 78 c).toInt) (hf : ¬ rI M 64 21 = 0) (hrow : RowK M (40 * (64 * i + c) + e)) (hs2 : s2 = 0 ∨ rI M 71 (40 * (64 * i + c) + e) = 2) (hN : 94 ≤ N) (hs : Str M1.2.2.1) (h : ∀ M'' x, KS M M'' → ((x = 1 ∧ ∃ n m, FnR M (40 * (64 * i + c) + e) i c W s2 n m ∧ (∀ n' m', n' < n → ¬ FnR M (40 * (64 * i + c) + e) i c W s2 n' m') ∧ rI M'' 64 50 = p ∧ rI M'' 64 51 = m) ∨ (x = 0 ∧ ∀ n m, ¬ FnR M (40 * (64 * i + c) + e) i c W s2 n m)) → Q (some (.int x)) N M'') : AW mX10_slips 10 0 0 N 0 [(0, .ref 64), (1, .int (nI i)), (2, .int (nI c)), (3, .int (nI e)), (4, .int p), (5, .int s2)] [] M1 Q := by
  have kI := fun a j p q r => ks.2.1 a j p q r
  refine w_X10_slips hi1 hi hc he hW6 (ks.ga h36 hg) (by rw [kI 64 36 (by omega) (by omega) (by omega)]; exact h36) (by rw [kI 64 17 (by omega) (by omega) (by omega)]; exact hW) (ks.task h36 hg htk) (by rw [kI 78 c (by omega) (by omega) (by omega)]; exact hwn) (by rw [kI 64 21 (by omega) (by omega) (by omega)]; exact hf) (ks.row hrow) (by rw [kI 71 _ (by omega) (by omega) (by omega)]; exact hs2) hN hs (fun M'' x hk hx => h M'' x (ks.trans hk) ?_)
  simp only [FnR.ks ks] at hx
  exact hx
/-- a slip of the cell: at the place p, at the step e, its option n makes m -/
def SFn (M : Mem) (i c W p e : Nat) (s2 : Int32) (n : Nat) (m : Int32) : Prop := (s2 = 0 ∧ rI M 74 (40 * (64 * i + c) + e) = nI p ∨ s2 = 1 ∧ rI M 75 (40 * (64 * i + c) + e) = nI p) ∧ FnR M (40 * (64 * i + c) + e) i c W s2 n m
def SlY (M : Mem) (i c W sz : Nat) (a t : Int32) : Prop := ∃ p e s2 n m, p < sz ∧ e < mnR M (64 * i + c) ∧ SFn M i c W p e s2 n m ∧ (∀ p' e' s2' n' m', p' < p → e' < mnR M (64 * i + c) → ¬ SFn M i c W p' e' s2' n' m') ∧ (∀ n' m', n' < n → ¬ SFn M i c W p e s2 n' m') ∧ a = nI p ∧ t = m
def SlN (M : Mem) (i c W sz : Nat) : Prop := ∀ p e s2 n m, p < sz → e < mnR M (64 * i + c) → ¬ SFn M i c W p e s2 n m
theorem l_X10_isSlipE {M : Mem} {N : Nat} {Q : Option Value → Nat → Mem → Prop} {p : Nat} {i c W sz : Nat} (hi1 : 1 ≤ i) (hi : i < 6) (hc : c < 64) (hW6 : W ≤ 6) (hg : GA M) (h36 : rI M 64 36 = -1) (hW : rI M 64 17 = nI W) (htk : TaskOK M W) (hwn : 0 < (rI M 78 c).toInt) (hf : ¬ rI M 64 21 = 0) (h2 : rI M 66 (64 * i + c) = 2) (hsz : rI M 68 (64 * i + c) = nI sz) (hz4 : sz ≤ 40) (hpl : ∀ e, e < mnR M (64 * i + c) → ∀ p, p < 40 → rI M 75 (40 * (64 * i + c) + e) = nI p → rI M 71 (40 * (64 * i + c) + e) = 2) (hp : p < sz) (hprev : ∀ p' e' s2' n' m', p' < p → e' < mnR M (64 * i + c) → ¬ SFn M i c W p' e' s2' n' m') (hN : 94 ≤ N) (hs : Str M.2.2.1) (h : ∀ M'' x, KS M M'' → ((x = 1 ∧ SlY M i c W sz (rI M'' 64 50) (rI M'' 64 51)) ∨ (x = 0 ∧ SlN M i c W sz)) → Q (some (.int x)) N M'') (kk : ∀ M'', KS M M'' → (∀ e' s2 n m, e' < mnR M (64 * i + c) → ¬ SFn M i c W p e' s2 n m) → AW mX10_isSlip 11 0 0 N 107 [(0, .ref 64), (1, .int (nI i)), (2, .int (nI c)), (3, .int (nI (64 * i + c))), (4, .int (nI p))] [] M'' Q) : ∀ (r e : Nat) (M' : Mem), e + r = mnR M (64 * i + c) → KS M M' → (∀ e' s2 n m, e' < e → ¬ SFn M i c W p e' s2 n m) → AW mX10_isSlip 11 0 0 N 24 [(0, .ref 64), (1, .int (nI i)), (2, .int (nI c)), (3, .int (nI (64 * i + c))), (4, .int (nI p)), (5, .int (nI e))] [] M' Q := by
  intro r
  induction r with
  | zero =>
    intro e M' hkk hk h1
    obtain rfl : e = mnR M (64 * i + c) := by omega
    have hs' : Str M'.2.2.1 := by rw [hk.1]; exact hs
    have hgk := hg (64 * i + c) (by omega) h2
    have hm4 := hgk.1.1
    have hmy := hgk.1.2.1
    refine a_iload dX10_isSlip_24 rfl ?_
    refine a_aload_n dX10_isSlip_26 rfl ?_
    refine a_getA (z := 70) kfX10_26 rfl rfl (st_64_6 hs') (by decide) (hlt hN (by decide)) dX10_isSlip_27 ?_
    refine a_iload_n dX10_isSlip_30 rfl ?_
    refine a_iald rfl (by decide) (hlt hN (by decide)) (show vp_in _ 384 from vp_in_nI (by omega) (by decide)) dX10_isSlip_31 ?_
    rw [nI_clamp (by omega), hk.2.1 70 _ (by omega) (by omega) (by omega)]
    rw [hmy]
    refine a_icmp_ge (tgt := 107) dX10_isSlip_32 (by decide) (fun c_32 => ?_) (fun c_32 => absurd (nI_le (by omega) (by omega)) c_32)
    exact AW.sub (L' := [(0, .ref 64), (1, .int (nI i)), (2, .int (nI c)), (3, .int (nI (64 * i + c))), (4, .int (nI p))]) rfl (kk M' hk h1)
  | succ r ih =>
    intro e M' hkk hk h1
    have hs' : Str M'.2.2.1 := by rw [hk.1]; exact hs
    have hgk := hg (64 * i + c) (by omega) h2
    have hm4 := hgk.1.1
    have hmy := hgk.1.2.1
    have he : e < mnR M (64 * i + c) := by omega
    have hrow := hg.row h36 (show (64 * i + c) < 384 by omega) h2 he
    refine a_iload dX10_isSlip_24 rfl ?_
    refine a_aload_n dX10_isSlip_26 rfl ?_
    refine a_getA (z := 70) kfX10_26 rfl rfl (st_64_6 hs') (by decide) (hlt hN (by decide)) dX10_isSlip_27 ?_
    refine a_iload_n dX10_isSlip_30 rfl ?_
    refine a_iald rfl (by decide) (hlt hN (by decide)) (show vp_in _ 384 from vp_in_nI (by omega) (by decide)) dX10_isSlip_31 ?_
    rw [nI_clamp (by omega), hk.2.1 70 _ (by omega) (by omega) (by omega)]
    rw [hmy]
    refine a_icmp_ge (tgt := 107) dX10_isSlip_32 (by decide) (fun c_32 => absurd c_32 (nI_ge (by omega) (by omega))) (fun c_32 => ?_)
    refine a_aload_n dX10_isSlip_35 rfl ?_
    refine a_getA (z := 74) kfX10_38 rfl rfl (st_64_10 hs') (by decide) (hlt hN (by decide)) dX10_isSlip_36 ?_
    refine a_bipush (v := 40) dX10_isSlip_39 (by decide) ?_
    refine a_iload_n dX10_isSlip_41 rfl ?_
    refine a_imul dX10_isSlip_42 ?_
    refine a_iload dX10_isSlip_43 rfl ?_
    refine a_iadd dX10_isSlip_45 ?_
    rw [k40]
    refine a_iald rfl (by decide) (hlt hN (by decide)) (show vp_in _ 15360 from vp_in_nI (by omega) (by decide)) dX10_isSlip_46 ?_
    rw [nI_clamp (by omega), hk.2.1 74 _ (by omega) (by omega) (by omega)]
    refine a_iload dX10_isSlip_47 rfl ?_
    refine a_icmp_ne (tgt := 68) dX10_isSlip_49 (by decide) (fun c_49 => ?_) (fun c_49 => ?_)
    · have p49 : ¬ rI M 74 (40 * (64 * i + c) + e) = nI p := c_49
      have z0 : ∀ n m, rI M 74 (40 * (64 * i + c) + e) = nI p → ¬ FnR M (40 * (64 * i + c) + e) i c W 0 n m := fun _ _ z => absurd z p49
      refine a_aload_n dX10_isSlip_68 rfl ?_
      refine a_getA (z := 75) kfX10_41 rfl rfl (st_64_11 hs') (by decide) (hlt hN (by decide)) dX10_isSlip_69 ?_
      refine a_bipush (v := 40) dX10_isSlip_72 (by decide) ?_
      refine a_iload_n dX10_isSlip_74 rfl ?_
      refine a_imul dX10_isSlip_75 ?_
      refine a_iload dX10_isSlip_76 rfl ?_
      refine a_iadd dX10_isSlip_78 ?_
      rw [k40]
      refine a_iald rfl (by decide) (hlt hN (by decide)) (show vp_in _ 15360 from vp_in_nI (by omega) (by decide)) dX10_isSlip_79 ?_
      rw [nI_clamp (by omega), hk.2.1 75 _ (by omega) (by omega) (by omega)]
      refine a_iload dX10_isSlip_80 rfl ?_
      refine a_icmp_ne (tgt := 101) dX10_isSlip_82 (by decide) (fun c_82 => ?_) (fun c_82 => ?_)
      · have p82 : ¬ rI M 75 (40 * (64 * i + c) + e) = nI p := c_82
        have z1 : ∀ n m, rI M 75 (40 * (64 * i + c) + e) = nI p → ¬ FnR M (40 * (64 * i + c) + e) i c W 1 n m := fun _ _ z => absurd z p82
        refine a_iinc dX10_isSlip_101 rfl rfl (by decide) ?_
        refine a_goto (tgt := 24) dX10_isSlip_104 (by decide) ?_
        rw [show nI e + Int32.ofInt 1 = nI (e + 1) from nI_1 e]
        refine AW.sub (L' := [(0, .ref 64), (1, .int (nI i)), (2, .int (nI c)), (3, .int (nI (64 * i + c))), (4, .int (nI p)), (5, .int (nI (e + 1)))]) rfl (ih (e + 1) _ (by omega) (by assumption) (fun e' s2 n m he' sf => ?_))
        by_cases en : e' = e
        · subst en
          rcases sf with ⟨⟨rfl, z⟩ | ⟨rfl, z⟩, f⟩
          · exact z0 n m z f
          · exact z1 n m z f
        · exact h1 e' s2 n m (by omega) sf
      · have p82 : rI M 75 (40 * (64 * i + c) + e) = nI p := c_82
        refine a_aload_n dX10_isSlip_85 rfl ?_
        refine a_iload_n dX10_isSlip_86 rfl ?_
        refine a_iload_n dX10_isSlip_87 rfl ?_
        refine a_iload dX10_isSlip_88 rfl ?_
        refine a_iload dX10_isSlip_90 rfl ?_
        refine a_iconst (v := 1) dX10_isSlip_92 (by decide) ?_
        refine a_callV (mc1 := 0) (ms1 := 0) (As := [_, _, _, _, _]) kpX10_slips kmX10_334 (by decide) rfl (Nat.le_of_ble_eq_true rfl) rfl (by decide) rfl (by decide) (hlt hN (by decide)) (Nat.le_of_ble_eq_true rfl) (Nat.le_of_ble_eq_true rfl) (Nat.le_of_ble_eq_true rfl) dX10_isSlip_93 (w_sl hk (s2 := 1) hi1 hi hc (show e < 40 by omega) hW6 hg h36 hW htk hwn hf hrow (Or.inr (hpl e he p (by omega) p82)) hN (by rw [hk.1]; assumption) (fun Mb x2 hkb hxb => ?_))
        refine a_if_eq (tgt := 101) dX10_isSlip_96 (by decide) (fun c_96 => ?_) (fun c_96 => ?_)
        · have p96 : x2 = 0 := c_96
          have z1 : ∀ n m, rI M 75 (40 * (64 * i + c) + e) = nI p → ¬ FnR M (40 * (64 * i + c) + e) i c W 1 n m := fun n m _ => (hxb.resolve_left (fun z => absurd (z.1.symm.trans p96) (by decide))).2 n m
          refine a_iinc dX10_isSlip_101 rfl rfl (by decide) ?_
          refine a_goto (tgt := 24) dX10_isSlip_104 (by decide) ?_
          rw [show nI e + Int32.ofInt 1 = nI (e + 1) from nI_1 e]
          refine AW.sub (L' := [(0, .ref 64), (1, .int (nI i)), (2, .int (nI c)), (3, .int (nI (64 * i + c))), (4, .int (nI p)), (5, .int (nI (e + 1)))]) rfl (ih (e + 1) _ (by omega) (by assumption) (fun e' s2 n m he' sf => ?_))
          by_cases en : e' = e
          · subst en
            rcases sf with ⟨⟨rfl, z⟩ | ⟨rfl, z⟩, f⟩
            · exact z0 n m z f
            · exact z1 n m z f
          · exact h1 e' s2 n m (by omega) sf
        · have p96 : ¬ x2 = 0 := c_96
          obtain ⟨-, n0, m0, hfn, hmin, h50, h51⟩ := hxb.resolve_right (fun z => p96 z.1)
          refine a_iconst (v := 1) dX10_isSlip_99 (by decide) ?_
          refine a_zret dX10_isSlip_100 rfl (by decide) (h _ 1 hkb (Or.inl ⟨rfl, p, e, 1, _, _, hp, he, ⟨Or.inr ⟨rfl, p82⟩, hfn⟩, hprev, fun n' m' hn' sf => hmin n' m' hn' sf.2, h50, h51⟩))
    · have p49 : rI M 74 (40 * (64 * i + c) + e) = nI p := c_49
      refine a_aload_n dX10_isSlip_52 rfl ?_
      refine a_iload_n dX10_isSlip_53 rfl ?_
      refine a_iload_n dX10_isSlip_54 rfl ?_
      refine a_iload dX10_isSlip_55 rfl ?_
      refine a_iload dX10_isSlip_57 rfl ?_
      refine a_iconst (v := 0) dX10_isSlip_59 (by decide) ?_
      refine a_callV (mc1 := 0) (ms1 := 0) (As := [_, _, _, _, _]) kpX10_slips kmX10_334 (by decide) rfl (Nat.le_of_ble_eq_true rfl) rfl (by decide) rfl (by decide) (hlt hN (by decide)) (Nat.le_of_ble_eq_true rfl) (Nat.le_of_ble_eq_true rfl) (Nat.le_of_ble_eq_true rfl) dX10_isSlip_60 (w_sl hk (s2 := 0) hi1 hi hc (show e < 40 by omega) hW6 hg h36 hW htk hwn hf hrow (Or.inl rfl) hN (by rw [hk.1]; assumption) (fun Ma x1 hka hxa => ?_))
      have hs' : Str Ma.2.2.1 := by rw [hka.1]; assumption
      refine a_if_eq (tgt := 68) dX10_isSlip_63 (by decide) (fun c_63 => ?_) (fun c_63 => ?_)
      · have p63 : x1 = 0 := c_63
        have z0 : ∀ n m, rI M 74 (40 * (64 * i + c) + e) = nI p → ¬ FnR M (40 * (64 * i + c) + e) i c W 0 n m := fun n m _ => (hxa.resolve_left (fun z => absurd (z.1.symm.trans p63) (by decide))).2 n m
        refine a_aload_n dX10_isSlip_68 rfl ?_
        refine a_getA (z := 75) kfX10_41 rfl rfl (st_64_11 hs') (by decide) (hlt hN (by decide)) dX10_isSlip_69 ?_
        refine a_bipush (v := 40) dX10_isSlip_72 (by decide) ?_
        refine a_iload_n dX10_isSlip_74 rfl ?_
        refine a_imul dX10_isSlip_75 ?_
        refine a_iload dX10_isSlip_76 rfl ?_
        refine a_iadd dX10_isSlip_78 ?_
        rw [k40]
        refine a_iald rfl (by decide) (hlt hN (by decide)) (show vp_in _ 15360 from vp_in_nI (by omega) (by decide)) dX10_isSlip_79 ?_
        rw [nI_clamp (by omega), hka.2.1 75 _ (by omega) (by omega) (by omega)]
        refine a_iload dX10_isSlip_80 rfl ?_
        refine a_icmp_ne (tgt := 101) dX10_isSlip_82 (by decide) (fun c_82 => ?_) (fun c_82 => ?_)
        · have p82 : ¬ rI M 75 (40 * (64 * i + c) + e) = nI p := c_82
          have z1 : ∀ n m, rI M 75 (40 * (64 * i + c) + e) = nI p → ¬ FnR M (40 * (64 * i + c) + e) i c W 1 n m := fun _ _ z => absurd z p82
          refine a_iinc dX10_isSlip_101 rfl rfl (by decide) ?_
          refine a_goto (tgt := 24) dX10_isSlip_104 (by decide) ?_
          rw [show nI e + Int32.ofInt 1 = nI (e + 1) from nI_1 e]
          refine AW.sub (L' := [(0, .ref 64), (1, .int (nI i)), (2, .int (nI c)), (3, .int (nI (64 * i + c))), (4, .int (nI p)), (5, .int (nI (e + 1)))]) rfl (ih (e + 1) _ (by omega) (by assumption) (fun e' s2 n m he' sf => ?_))
          by_cases en : e' = e
          · subst en
            rcases sf with ⟨⟨rfl, z⟩ | ⟨rfl, z⟩, f⟩
            · exact z0 n m z f
            · exact z1 n m z f
          · exact h1 e' s2 n m (by omega) sf
        · have p82 : rI M 75 (40 * (64 * i + c) + e) = nI p := c_82
          refine a_aload_n dX10_isSlip_85 rfl ?_
          refine a_iload_n dX10_isSlip_86 rfl ?_
          refine a_iload_n dX10_isSlip_87 rfl ?_
          refine a_iload dX10_isSlip_88 rfl ?_
          refine a_iload dX10_isSlip_90 rfl ?_
          refine a_iconst (v := 1) dX10_isSlip_92 (by decide) ?_
          refine a_callV (mc1 := 0) (ms1 := 0) (As := [_, _, _, _, _]) kpX10_slips kmX10_334 (by decide) rfl (Nat.le_of_ble_eq_true rfl) rfl (by decide) rfl (by decide) (hlt hN (by decide)) (Nat.le_of_ble_eq_true rfl) (Nat.le_of_ble_eq_true rfl) (Nat.le_of_ble_eq_true rfl) dX10_isSlip_93 (w_sl hka (s2 := 1) hi1 hi hc (show e < 40 by omega) hW6 hg h36 hW htk hwn hf hrow (Or.inr (hpl e he p (by omega) p82)) hN (by rw [hka.1]; assumption) (fun Mb x2 hkb hxb => ?_))
          refine a_if_eq (tgt := 101) dX10_isSlip_96 (by decide) (fun c_96 => ?_) (fun c_96 => ?_)
          · have p96 : x2 = 0 := c_96
            have z1 : ∀ n m, rI M 75 (40 * (64 * i + c) + e) = nI p → ¬ FnR M (40 * (64 * i + c) + e) i c W 1 n m := fun n m _ => (hxb.resolve_left (fun z => absurd (z.1.symm.trans p96) (by decide))).2 n m
            refine a_iinc dX10_isSlip_101 rfl rfl (by decide) ?_
            refine a_goto (tgt := 24) dX10_isSlip_104 (by decide) ?_
            rw [show nI e + Int32.ofInt 1 = nI (e + 1) from nI_1 e]
            refine AW.sub (L' := [(0, .ref 64), (1, .int (nI i)), (2, .int (nI c)), (3, .int (nI (64 * i + c))), (4, .int (nI p)), (5, .int (nI (e + 1)))]) rfl (ih (e + 1) _ (by omega) (by assumption) (fun e' s2 n m he' sf => ?_))
            by_cases en : e' = e
            · subst en
              rcases sf with ⟨⟨rfl, z⟩ | ⟨rfl, z⟩, f⟩
              · exact z0 n m z f
              · exact z1 n m z f
            · exact h1 e' s2 n m (by omega) sf
          · have p96 : ¬ x2 = 0 := c_96
            obtain ⟨-, n0, m0, hfn, hmin, h50, h51⟩ := hxb.resolve_right (fun z => p96 z.1)
            refine a_iconst (v := 1) dX10_isSlip_99 (by decide) ?_
            refine a_zret dX10_isSlip_100 rfl (by decide) (h _ 1 hkb (Or.inl ⟨rfl, p, e, 1, _, _, hp, he, ⟨Or.inr ⟨rfl, p82⟩, hfn⟩, hprev, fun n' m' hn' sf => hmin n' m' hn' sf.2, h50, h51⟩))
      · have p63 : ¬ x1 = 0 := c_63
        obtain ⟨-, n0, m0, hfn, hmin, h50, h51⟩ := hxa.resolve_right (fun z => p63 z.1)
        refine a_iconst (v := 1) dX10_isSlip_66 (by decide) ?_
        refine a_zret dX10_isSlip_67 rfl (by decide) (h _ 1 hka (Or.inl ⟨rfl, p, e, 0, _, _, hp, he, ⟨Or.inl ⟨rfl, p49⟩, hfn⟩, hprev, fun n' m' hn' sf => hmin n' m' hn' sf.2, h50, h51⟩))
theorem l_X10_isSlipP {M : Mem} {N : Nat} {Q : Option Value → Nat → Mem → Prop} {i c W sz : Nat} (hi1 : 1 ≤ i) (hi : i < 6) (hc : c < 64) (hW6 : W ≤ 6) (hg : GA M) (h36 : rI M 64 36 = -1) (hW : rI M 64 17 = nI W) (htk : TaskOK M W) (hwn : 0 < (rI M 78 c).toInt) (hf : ¬ rI M 64 21 = 0) (h2 : rI M 66 (64 * i + c) = 2) (hsz : rI M 68 (64 * i + c) = nI sz) (hz4 : sz ≤ 40) (hpl : ∀ e, e < mnR M (64 * i + c) → ∀ p, p < 40 → rI M 75 (40 * (64 * i + c) + e) = nI p → rI M 71 (40 * (64 * i + c) + e) = 2) (hN : 94 ≤ N) (hs : Str M.2.2.1) (h : ∀ M'' x, KS M M'' → ((x = 1 ∧ SlY M i c W sz (rI M'' 64 50) (rI M'' 64 51)) ∨ (x = 0 ∧ SlN M i c W sz)) → Q (some (.int x)) N M'') : ∀ (r p : Nat) (M' : Mem), p + r = sz → KS M M' → (∀ p' e' s2' n' m', p' < p → e' < mnR M (64 * i + c) → ¬ SFn M i c W p' e' s2' n' m') → AW mX10_isSlip 11 0 0 N 10 [(0, .ref 64), (1, .int (nI i)), (2, .int (nI c)), (3, .int (nI (64 * i + c))), (4, .int (nI p))] [] M' Q := by
  intro r
  induction r with
  | zero =>
    intro p M' hkk hk h1
    obtain rfl : p = sz := by omega
    have hs' : Str M'.2.2.1 := by rw [hk.1]; exact hs
    have hgk := hg (64 * i + c) (by omega) h2
    have hm4 := hgk.1.1
    have hmy := hgk.1.2.1
    refine a_iload dX10_isSlip_10 rfl ?_
    refine a_aload_n dX10_isSlip_12 rfl ?_
    refine a_getA (z := 68) kfX10_20 rfl rfl (st_64_4 hs') (by decide) (hlt hN (by decide)) dX10_isSlip_13 ?_
    refine a_iload_n dX10_isSlip_16 rfl ?_
    refine a_iald rfl (by decide) (hlt hN (by decide)) (show vp_in _ 384 from vp_in_nI (by omega) (by decide)) dX10_isSlip_17 ?_
    rw [nI_clamp (by omega), hk.2.1 68 _ (by omega) (by omega) (by omega)]
    rw [hsz]
    refine a_icmp_ge (tgt := 113) dX10_isSlip_18 (by decide) (fun c_18 => ?_) (fun c_18 => absurd (nI_le (by omega) (by omega)) c_18)
    refine a_iconst (v := 0) dX10_isSlip_113 (by decide) ?_
    refine a_zret dX10_isSlip_114 rfl (by decide) (h M' 0 hk (Or.inr ⟨rfl, fun p e s2 n m hp he => h1 p e s2 n m hp he⟩))
  | succ r ih =>
    intro p M' hkk hk h1
    have hs' : Str M'.2.2.1 := by rw [hk.1]; exact hs
    have hgk := hg (64 * i + c) (by omega) h2
    have hm4 := hgk.1.1
    have hmy := hgk.1.2.1
    refine a_iload dX10_isSlip_10 rfl ?_
    refine a_aload_n dX10_isSlip_12 rfl ?_
    refine a_getA (z := 68) kfX10_20 rfl rfl (st_64_4 hs') (by decide) (hlt hN (by decide)) dX10_isSlip_13 ?_
    refine a_iload_n dX10_isSlip_16 rfl ?_
    refine a_iald rfl (by decide) (hlt hN (by decide)) (show vp_in _ 384 from vp_in_nI (by omega) (by decide)) dX10_isSlip_17 ?_
    rw [nI_clamp (by omega), hk.2.1 68 _ (by omega) (by omega) (by omega)]
    rw [hsz]
    refine a_icmp_ge (tgt := 113) dX10_isSlip_18 (by decide) (fun c_18 => absurd c_18 (nI_ge (by omega) (by omega))) (fun c_18 => ?_)
    refine a_iconst (v := 0) dX10_isSlip_21 (by decide) ?_
    refine a_istore dX10_isSlip_22 (by decide) ?_
    refine AW.sub (L' := [(0, .ref 64), (1, .int (nI i)), (2, .int (nI c)), (3, .int (nI (64 * i + c))), (4, .int (nI p)), (5, .int (nI 0))]) rfl (l_X10_isSlipE hi1 hi hc hW6 hg h36 hW htk hwn hf h2 hsz hz4 hpl (show p < sz by omega) h1 hN hs h (fun Ma hka za => ?_) (mnR M (64 * i + c)) 0 _ (by omega) hk (fun e' s2 n m z => absurd z (Nat.not_lt_zero _)))
    refine a_iinc dX10_isSlip_107 rfl rfl (by decide) ?_
    refine a_goto (tgt := 10) dX10_isSlip_110 (by decide) ?_
    rw [show nI p + Int32.ofInt 1 = nI (p + 1) from nI_1 p]
    refine AW.sub (L' := [(0, .ref 64), (1, .int (nI i)), (2, .int (nI c)), (3, .int (nI (64 * i + c))), (4, .int (nI (p + 1)))]) rfl (ih (p + 1) Ma (by omega) hka (fun p' e' s2' n' m' hp' he' => ?_))
    by_cases en : p' = p
    · subst en; exact za e' s2' n' m' he'
    · exact h1 p' e' s2' n' m' (by omega) he'
theorem w_X10_isSlip {M : Mem} {N : Nat} {Q : Option Value → Nat → Mem → Prop} {i c W sz : Nat} (hi1 : 1 ≤ i) (hi : i < 6) (hc : c < 64) (hW6 : W ≤ 6) (hg : GA M) (h36 : rI M 64 36 = -1) (hW : rI M 64 17 = nI W) (htk : TaskOK M W) (hwn : 0 < (rI M 78 c).toInt) (hf : ¬ rI M 64 21 = 0) (h2 : rI M 66 (64 * i + c) = 2) (hsz : rI M 68 (64 * i + c) = nI sz) (hz4 : sz ≤ 40) (hpl : ∀ e, e < mnR M (64 * i + c) → ∀ p, p < 40 → rI M 75 (40 * (64 * i + c) + e) = nI p → rI M 71 (40 * (64 * i + c) + e) = 2)  (hN : 94 ≤ N) (hs : Str M.2.2.1) (h : ∀ M'' x, KS M M'' → ((x = 1 ∧ SlY M i c W sz (rI M'' 64 50) (rI M'' 64 51)) ∨ (x = 0 ∧ SlN M i c W sz)) → Q (some (.int x)) N M'')  : AW mX10_isSlip 11 0 0 N 0 [(0, .ref 64), (1, .int (nI i)), (2, .int (nI c))] [] M Q := by
  refine a_bipush (v := 64) dX10_isSlip_0 (by decide) ?_
  refine a_iload_n dX10_isSlip_2 rfl ?_
  refine a_imul dX10_isSlip_3 ?_
  refine a_iload_n dX10_isSlip_4 rfl ?_
  refine a_iadd dX10_isSlip_5 ?_
  rw [i64]
  refine a_istore_n dX10_isSlip_6 (by decide) ?_
  refine a_iconst (v := 0) dX10_isSlip_7 (by decide) ?_
  refine a_istore dX10_isSlip_8 (by decide) ?_
  exact AW.sub (L' := [(0, .ref 64), (1, .int (nI i)), (2, .int (nI c)), (3, .int (nI (64 * i + c))), (4, .int (nI 0))]) rfl (l_X10_isSlipP hi1 hi hc hW6 hg h36 hW htk hwn hf h2 hsz hz4 hpl hN hs h sz 0 M (by omega) KS.refl (fun p' e' s2' n' m' z => absurd z (Nat.not_lt_zero _)))

