/-! the reference's texts, and what comes to a cell -/
def T1 (M : Mem) (j k : Nat) : Prop := rI M 66 j = 2 ∧ rI M 66 k = 2 ∧ rI M 68 j = rI M 68 k ∧ ∀ p, p < (rI M 68 j).toNatClampNeg → rI M 69 (40 * j + p) = rI M 69 (40 * k + p)
theorem l_X10_areOne {M : Mem} {N : Nat} {Q : Option Value → Nat → Mem → Prop} {j k sz : Nat} (hj : j < 384) (hk3 : k < 384) (hz4 : sz ≤ 40) (ez : rI M 68 j = nI sz) (e1 : rI M 66 j = 2) (e2 : rI M 66 k = 2) (e3 : rI M 68 j = rI M 68 k) (hN : 94 ≤ N) (hs : Str M.2.2.1) (h : ∀ x, (x = 1 ∧ T1 M j k ∨ x = 0 ∧ ¬ T1 M j k) → Q (some (.int x)) N M) : ∀ (r p : Nat), p + r = sz → (∀ q, q < p → rI M 69 (40 * j + q) = rI M 69 (40 * k + q)) → AW mX10_areOneText 0 0 0 N 39 [(0, .ref 64), (1, .int (nI j)), (2, .int (nI k)), (3, .int (nI p))] [] M Q := by
  intro r
  induction r with
  | zero =>
    intro p hkk h1
    have ezc : (rI M 68 j).toNatClampNeg = sz := by rw [ez]; exact nI_clamp (by omega)
    obtain rfl : p = sz := by omega
    refine a_iload_n dX10_areOneText_39 rfl ?_
    refine a_aload_n dX10_areOneText_40 rfl ?_
    refine a_getA (z := 68) kfX10_20 rfl rfl (st_64_4 hs) (by decide) (hlt hN (by decide)) dX10_areOneText_41 ?_
    refine a_iload_n dX10_areOneText_44 rfl ?_
    refine a_iald rfl (by decide) (hlt hN (by decide)) (show vp_in _ 384 from vp_in_nI (by omega) (by decide)) dX10_areOneText_45 ?_
    rw [nI_clamp (by omega), ez]
    refine a_icmp_ge (tgt := 82) dX10_areOneText_46 (by decide) (fun c_46 => ?_) (fun c_46 => absurd (nI_le (by omega) (by omega)) c_46)
    refine a_iconst (v := 1) dX10_areOneText_82 (by decide) ?_
    refine a_zret dX10_areOneText_83 rfl (by decide) (h 1 (Or.inl ⟨rfl, e1, e2, e3, fun q hq => h1 q (by rw [ezc] at hq; exact hq)⟩))
  | succ r ih =>
    intro p hkk h1
    have ezc : (rI M 68 j).toNatClampNeg = sz := by rw [ez]; exact nI_clamp (by omega)
    refine a_iload_n dX10_areOneText_39 rfl ?_
    refine a_aload_n dX10_areOneText_40 rfl ?_
    refine a_getA (z := 68) kfX10_20 rfl rfl (st_64_4 hs) (by decide) (hlt hN (by decide)) dX10_areOneText_41 ?_
    refine a_iload_n dX10_areOneText_44 rfl ?_
    refine a_iald rfl (by decide) (hlt hN (by decide)) (show vp_in _ 384 from vp_in_nI (by omega) (by decide)) dX10_areOneText_45 ?_
    rw [nI_clamp (by omega), ez]
    refine a_icmp_ge (tgt := 82) dX10_areOneText_46 (by decide) (fun c_46 => absurd c_46 (nI_ge (by omega) (by omega))) (fun c_46 => ?_)
    refine a_aload_n dX10_areOneText_49 rfl ?_
    refine a_getA (z := 69) kfX10_23 rfl rfl (st_64_5 hs) (by decide) (hlt hN (by decide)) dX10_areOneText_50 ?_
    refine a_bipush (v := 40) dX10_areOneText_53 (by decide) ?_
    refine a_iload_n dX10_areOneText_55 rfl ?_
    refine a_imul dX10_areOneText_56 ?_
    refine a_iload_n dX10_areOneText_57 rfl ?_
    refine a_iadd dX10_areOneText_58 ?_
    rw [k40]
    refine a_bald rfl (by decide) (hlt hN (by decide)) (show vp_in _ 15360 from vp_in_nI (by omega) (by decide)) dX10_areOneText_59 ?_
    rw [nI_clamp (by omega)]
    refine a_aload_n dX10_areOneText_60 rfl ?_
    refine a_getA (z := 69) kfX10_23 rfl rfl (st_64_5 hs) (by decide) (hlt hN (by decide)) dX10_areOneText_61 ?_
    refine a_bipush (v := 40) dX10_areOneText_64 (by decide) ?_
    refine a_iload_n dX10_areOneText_66 rfl ?_
    refine a_imul dX10_areOneText_67 ?_
    refine a_iload_n dX10_areOneText_68 rfl ?_
    refine a_iadd dX10_areOneText_69 ?_
    rw [k40]
    refine a_bald rfl (by decide) (hlt hN (by decide)) (show vp_in _ 15360 from vp_in_nI (by omega) (by decide)) dX10_areOneText_70 ?_
    rw [nI_clamp (by omega)]
    refine a_icmp_eq (tgt := 76) dX10_areOneText_71 (by decide) (fun c_71 => ?_) (fun c_71 => ?_)
    · refine a_iinc dX10_areOneText_76 rfl rfl (by decide) ?_
      refine a_goto (tgt := 39) dX10_areOneText_79 (by decide) ?_
      rw [show nI p + Int32.ofInt 1 = nI (p + 1) from nI_1 p]
      refine AW.sub (L' := [(0, .ref 64), (1, .int (nI j)), (2, .int (nI k)), (3, .int (nI (p + 1)))]) rfl (ih (p + 1) (by omega) (fun q hq => ?_))
      by_cases e : q = p
      · subst e; exact c_71
      · exact h1 q (by omega)
    · refine a_iconst (v := 0) dX10_areOneText_74 (by decide) ?_
      refine a_zret dX10_areOneText_75 rfl (by decide) (h 0 (Or.inr ⟨rfl, fun z => c_71 (z.2.2.2 p (by rw [ezc]; omega))⟩))
theorem w_X10_areOneText {M : Mem} {N : Nat} {Q : Option Value → Nat → Mem → Prop} {j k : Nat} (hj : j < 384) (hk3 : k < 384) (hsz : rI M 66 j = 2 → ∃ sz, sz ≤ 40 ∧ rI M 68 j = nI sz)  (hN : 94 ≤ N) (hs : Str M.2.2.1) (h : ∀ x, (x = 1 ∧ T1 M j k ∨ x = 0 ∧ ¬ T1 M j k) → Q (some (.int x)) N M)  : AW mX10_areOneText 0 0 0 N 0 [(0, .ref 64), (1, .int (nI j)), (2, .int (nI k))] [] M Q := by
  refine a_aload_n dX10_areOneText_0 rfl ?_
  refine a_getA (z := 66) kfX10_13 rfl rfl (st_64_2 hs) (by decide) (hlt hN (by decide)) dX10_areOneText_1 ?_
  refine a_iload_n dX10_areOneText_4 rfl ?_
  refine a_iald rfl (by decide) (hlt hN (by decide)) (show vp_in _ 384 from vp_in_nI (by omega) (by decide)) dX10_areOneText_5 ?_
  rw [nI_clamp (by omega)]
  refine a_iconst (v := 2) dX10_areOneText_6 (by decide) ?_
  refine a_icmp_ne (tgt := 35) dX10_areOneText_7 (by decide) (fun c_7 => ?_) (fun c_7 => ?_)
  · refine a_iconst (v := 0) dX10_areOneText_35 (by decide) ?_
    refine a_zret dX10_areOneText_36 rfl (by decide) (h 0 (Or.inr ⟨rfl, fun z => c_7 z.1⟩))
  · refine a_aload_n dX10_areOneText_10 rfl ?_
    refine a_getA (z := 66) kfX10_13 rfl rfl (st_64_2 hs) (by decide) (hlt hN (by decide)) dX10_areOneText_11 ?_
    refine a_iload_n dX10_areOneText_14 rfl ?_
    refine a_iald rfl (by decide) (hlt hN (by decide)) (show vp_in _ 384 from vp_in_nI (by omega) (by decide)) dX10_areOneText_15 ?_
    rw [nI_clamp (by omega)]
    refine a_iconst (v := 2) dX10_areOneText_16 (by decide) ?_
    refine a_icmp_ne (tgt := 35) dX10_areOneText_17 (by decide) (fun c_17 => ?_) (fun c_17 => ?_)
    · refine a_iconst (v := 0) dX10_areOneText_35 (by decide) ?_
      refine a_zret dX10_areOneText_36 rfl (by decide) (h 0 (Or.inr ⟨rfl, fun z => c_17 z.2.1⟩))
    · refine a_aload_n dX10_areOneText_20 rfl ?_
      refine a_getA (z := 68) kfX10_20 rfl rfl (st_64_4 hs) (by decide) (hlt hN (by decide)) dX10_areOneText_21 ?_
      refine a_iload_n dX10_areOneText_24 rfl ?_
      refine a_iald rfl (by decide) (hlt hN (by decide)) (show vp_in _ 384 from vp_in_nI (by omega) (by decide)) dX10_areOneText_25 ?_
      rw [nI_clamp (by omega)]
      refine a_aload_n dX10_areOneText_26 rfl ?_
      refine a_getA (z := 68) kfX10_20 rfl rfl (st_64_4 hs) (by decide) (hlt hN (by decide)) dX10_areOneText_27 ?_
      refine a_iload_n dX10_areOneText_30 rfl ?_
      refine a_iald rfl (by decide) (hlt hN (by decide)) (show vp_in _ 384 from vp_in_nI (by omega) (by decide)) dX10_areOneText_31 ?_
      rw [nI_clamp (by omega)]
      refine a_icmp_eq (tgt := 37) dX10_areOneText_32 (by decide) (fun c_32 => ?_) (fun c_32 => ?_)
      · refine a_iconst (v := 0) dX10_areOneText_37 (by decide) ?_
        refine a_istore_n dX10_areOneText_38 (by decide) ?_
        obtain ⟨sz, hz4, ez⟩ := hsz c_7
        exact AW.sub (L' := [(0, .ref 64), (1, .int (nI j)), (2, .int (nI k)), (3, .int (nI 0))]) rfl (l_X10_areOne hj hk3 hz4 ez c_7 c_17 c_32 hN hs h sz 0 (by omega) (fun q z => absurd z (Nat.not_lt_zero _)))
      · refine a_iconst (v := 0) dX10_areOneText_35 (by decide) ?_
        refine a_zret dX10_areOneText_36 rfl (by decide) (h 0 (Or.inr ⟨rfl, fun z => c_32 z.2.2.1⟩))

theorem l_X10_copied {M : Mem} {N : Nat} {Q : Option Value → Nat → Mem → Prop} {a b : Nat} (ha1 : 1 ≤ a) (ha : a < 6) (hb1 : 1 ≤ b) (hb6 : b < 6) {fa : Nat → Bool} (hfa : ∀ x, x < 64 → (fa x = true ↔ rI M 77 x = 0 ∧ T1 M (64 * a + x) (64 * b + x) ∧ ¬ T1 M x (64 * a + x))) (hsz : ∀ k, k < 384 → rI M 66 k = 2 → ∃ sz, sz ≤ 40 ∧ rI M 68 k = nI sz) {v : Int32} (hN : 94 ≤ N) (hs : Str M.2.2.1) (h : Q (some (.int (pkV fa v))) N M) : ∀ (r x : Nat), x + r = 64 → (pkF fa v x).2 = none → AW mX10_copied 2 0 0 N 31 [(0, .ref 64), (1, .int (nI a)), (2, .int (nI b)), (3, .int v), (4, .int (nI (pkF fa v x).1)), (5, .int (nI x))] [] M Q := by
  intro r
  induction r with
  | zero =>
    intro x hkk hinv
    obtain rfl : x = 64 := by omega
    refine a_iload dX10_copied_31 rfl ?_
    refine a_bipush (v := 64) dX10_copied_33 (by decide) ?_
    refine a_icmp_ge (tgt := 106) dX10_copied_35 (by decide) (fun c_35 => ?_) (fun c_35 => absurd (nI_le (a := 64) (b := 64) (by omega) (by decide)) c_35)
    refine a_iconst (v := (-1)) dX10_copied_106 (by decide) ?_
    refine a_iret dX10_copied_107 rfl (by rw [pkV_0 hinv] at h; exact h)
  | succ r ih =>
    intro x hkk hinv
    have hx : x < 64 := by omega
    refine a_iload dX10_copied_31 rfl ?_
    refine a_bipush (v := 64) dX10_copied_33 (by decide) ?_
    refine a_icmp_ge (tgt := 106) dX10_copied_35 (by decide) (fun c_35 => absurd c_35 (nI_ge (b := 64) (by omega) (by decide))) (fun c_35 => ?_)
    refine a_aload_n dX10_copied_38 rfl ?_
    refine a_getA (z := 77) kfX10_48 rfl rfl (st_64_13 hs) (by decide) (hlt hN (by decide)) dX10_copied_39 ?_
    refine a_iload dX10_copied_42 rfl ?_
    refine a_zald rfl (by decide) (hlt hN (by decide)) (show vp_in _ 64 from j64_in hx) dX10_copied_44 ?_
    rw [j64_c hx]
    refine a_if_ne (tgt := 100) dX10_copied_45 (by decide) (fun c_45 => ?_) (fun c_45 => ?_)
    · have p45 : ¬ rI M 77 x = 0 := c_45
      refine a_iinc dX10_copied_100 rfl rfl (by decide) ?_
      refine a_goto (tgt := 31) dX10_copied_103 (by decide) ?_
      rw [show nI x + Int32.ofInt 1 = nI (x + 1) from nI_1 x]
      first
      | (have q : ¬ rI M 77 x = 0 := p45
         have e := pkF_0 (fa := fa) (i := v) hinv (fun z => q ((hfa x hx).mp z).1)
         refine AW.sub (L' := [(0, .ref 64), (1, .int (nI a)), (2, .int (nI b)), (3, .int v), (4, .int (nI (pkF fa v x).1)), (5, .int (nI (x + 1)))]) rfl ?_
         rw [show nI (pkF fa v x).1 = nI (pkF fa v (x + 1)).1 from by rw [e]]
         exact ih (x + 1) (by omega) (by rw [e]))
      | (have q : y1 = 0 := p66
         have e := pkF_0 (fa := fa) (i := v) hinv (fun z => (hy1.resolve_left (fun u => absurd (u.1.symm.trans q) (by decide))).2 ((hfa x hx).mp z).2.1)
         refine AW.sub (L' := [(0, .ref 64), (1, .int (nI a)), (2, .int (nI b)), (3, .int v), (4, .int (nI (pkF fa v x).1)), (5, .int (nI (x + 1)))]) rfl ?_
         rw [show nI (pkF fa v x).1 = nI (pkF fa v (x + 1)).1 from by rw [e]]
         exact ih (x + 1) (by omega) (by rw [e]))
      | (have q : ¬ y2 = 0 := p82
         have e := pkF_0 (fa := fa) (i := v) hinv (fun z => ((hfa x hx).mp z).2.2 (hy2.resolve_right (fun u => q u.1)).2)
         refine AW.sub (L' := [(0, .ref 64), (1, .int (nI a)), (2, .int (nI b)), (3, .int v), (4, .int (nI (pkF fa v x).1)), (5, .int (nI (x + 1)))]) rfl ?_
         rw [show nI (pkF fa v x).1 = nI (pkF fa v (x + 1)).1 from by rw [e]]
         exact ih (x + 1) (by omega) (by rw [e]))
      | (have q : ¬ nI (pkF fa v x).1 = v := p91
         rw [show nI (pkF fa v x).1 + Int32.ofInt 1 = nI ((pkF fa v x).1 + 1) from nI_1 _]
         have e := pkF_1 (fa := fa) (i := v) hinv yes q
         refine AW.sub (L' := [(0, .ref 64), (1, .int (nI a)), (2, .int (nI b)), (3, .int v), (4, .int (nI ((pkF fa v x).1 + 1))), (5, .int (nI (x + 1)))]) rfl ?_
         rw [show nI ((pkF fa v x).1 + 1) = nI (pkF fa v (x + 1)).1 from by rw [e]]
         exact ih (x + 1) (by omega) (by rw [e]))
    · have p45 : rI M 77 x = 0 := c_45
      refine a_aload_n dX10_copied_48 rfl ?_
      refine a_bipush (v := 64) dX10_copied_49 (by decide) ?_
      refine a_iload_n dX10_copied_51 rfl ?_
      refine a_imul dX10_copied_52 ?_
      refine a_iload dX10_copied_53 rfl ?_
      refine a_iadd dX10_copied_55 ?_
      rw [show (64 : Int32) * nI a + nI x = nI (64 * a + x) from i64]
      refine a_bipush (v := 64) dX10_copied_56 (by decide) ?_
      refine a_iload_n dX10_copied_58 rfl ?_
      refine a_imul dX10_copied_59 ?_
      refine a_iload dX10_copied_60 rfl ?_
      refine a_iadd dX10_copied_62 ?_
      rw [show (64 : Int32) * nI b + nI x = nI (64 * b + x) from i64]
      refine a_callV (mc1 := 0) (ms1 := 0) (As := [_, _]) kpX10_areOneText kmX10_350 (by decide) rfl (Nat.le_of_ble_eq_true rfl) rfl (by decide) rfl (by decide) (hlt hN (by decide)) (Nat.le_of_ble_eq_true rfl) (Nat.le_of_ble_eq_true rfl) (Nat.le_of_ble_eq_true rfl) dX10_copied_63 (w_X10_areOneText (j := 64 * a + x) (k := 64 * b + x) (by omega) (by omega) (hsz _ (by omega)) hN (by exact hs) (fun y1 hy1 => ?_))
      refine a_if_eq (tgt := 100) dX10_copied_66 (by decide) (fun c_66 => ?_) (fun c_66 => ?_)
      · have p66 : y1 = 0 := c_66
        refine a_iinc dX10_copied_100 rfl rfl (by decide) ?_
        refine a_goto (tgt := 31) dX10_copied_103 (by decide) ?_
        rw [show nI x + Int32.ofInt 1 = nI (x + 1) from nI_1 x]
        first
        | (have q : ¬ rI M 77 x = 0 := p45
           have e := pkF_0 (fa := fa) (i := v) hinv (fun z => q ((hfa x hx).mp z).1)
           refine AW.sub (L' := [(0, .ref 64), (1, .int (nI a)), (2, .int (nI b)), (3, .int v), (4, .int (nI (pkF fa v x).1)), (5, .int (nI (x + 1)))]) rfl ?_
           rw [show nI (pkF fa v x).1 = nI (pkF fa v (x + 1)).1 from by rw [e]]
           exact ih (x + 1) (by omega) (by rw [e]))
        | (have q : y1 = 0 := p66
           have e := pkF_0 (fa := fa) (i := v) hinv (fun z => (hy1.resolve_left (fun u => absurd (u.1.symm.trans q) (by decide))).2 ((hfa x hx).mp z).2.1)
           refine AW.sub (L' := [(0, .ref 64), (1, .int (nI a)), (2, .int (nI b)), (3, .int v), (4, .int (nI (pkF fa v x).1)), (5, .int (nI (x + 1)))]) rfl ?_
           rw [show nI (pkF fa v x).1 = nI (pkF fa v (x + 1)).1 from by rw [e]]
           exact ih (x + 1) (by omega) (by rw [e]))
        | (have q : ¬ y2 = 0 := p82
           have e := pkF_0 (fa := fa) (i := v) hinv (fun z => ((hfa x hx).mp z).2.2 (hy2.resolve_right (fun u => q u.1)).2)
           refine AW.sub (L' := [(0, .ref 64), (1, .int (nI a)), (2, .int (nI b)), (3, .int v), (4, .int (nI (pkF fa v x).1)), (5, .int (nI (x + 1)))]) rfl ?_
           rw [show nI (pkF fa v x).1 = nI (pkF fa v (x + 1)).1 from by rw [e]]
           exact ih (x + 1) (by omega) (by rw [e]))
        | (have q : ¬ nI (pkF fa v x).1 = v := p91
           rw [show nI (pkF fa v x).1 + Int32.ofInt 1 = nI ((pkF fa v x).1 + 1) from nI_1 _]
           have e := pkF_1 (fa := fa) (i := v) hinv yes q
           refine AW.sub (L' := [(0, .ref 64), (1, .int (nI a)), (2, .int (nI b)), (3, .int v), (4, .int (nI ((pkF fa v x).1 + 1))), (5, .int (nI (x + 1)))]) rfl ?_
           rw [show nI ((pkF fa v x).1 + 1) = nI (pkF fa v (x + 1)).1 from by rw [e]]
           exact ih (x + 1) (by omega) (by rw [e]))
      · have p66 : ¬ y1 = 0 := c_66
        refine a_aload_n dX10_copied_69 rfl ?_
        refine a_iload dX10_copied_70 rfl ?_
        refine a_bipush (v := 64) dX10_copied_72 (by decide) ?_
        refine a_iload_n dX10_copied_74 rfl ?_
        refine a_imul dX10_copied_75 ?_
        refine a_iload dX10_copied_76 rfl ?_
        refine a_iadd dX10_copied_78 ?_
        rw [show (64 : Int32) * nI a + nI x = nI (64 * a + x) from i64]
        refine a_callV (mc1 := 0) (ms1 := 0) (As := [_, _]) kpX10_areOneText kmX10_350 (by decide) rfl (Nat.le_of_ble_eq_true rfl) rfl (by decide) rfl (by decide) (hlt hN (by decide)) (Nat.le_of_ble_eq_true rfl) (Nat.le_of_ble_eq_true rfl) (Nat.le_of_ble_eq_true rfl) dX10_copied_79 (w_X10_areOneText (j := x) (k := 64 * a + x) (by omega) (by omega) (hsz _ (by omega)) hN (by exact hs) (fun y2 hy2 => ?_))
        refine a_if_eq (tgt := 88) dX10_copied_82 (by decide) (fun c_82 => ?_) (fun c_82 => ?_)
        · have p82 : y2 = 0 := c_82
          have yes : fa x = true := (hfa x hx).mpr ⟨p45, (hy1.resolve_right (fun u => p66 u.1)).2, (hy2.resolve_left (fun u => absurd (u.1.symm.trans p82) (by decide))).2⟩
          refine a_iload dX10_copied_88 rfl ?_
          refine a_iload_n dX10_copied_90 rfl ?_
          refine a_icmp_ne (tgt := 97) dX10_copied_91 (by decide) (fun c_91 => ?_) (fun c_91 => ?_)
          · have p91 : ¬ nI (pkF fa v x).1 = v := c_91
            refine a_iinc dX10_copied_97 rfl rfl (by decide) ?_
            refine a_iinc dX10_copied_100 rfl rfl (by decide) ?_
            refine a_goto (tgt := 31) dX10_copied_103 (by decide) ?_
            rw [show nI x + Int32.ofInt 1 = nI (x + 1) from nI_1 x]
            first
            | (have q : ¬ rI M 77 x = 0 := p45
               have e := pkF_0 (fa := fa) (i := v) hinv (fun z => q ((hfa x hx).mp z).1)
               refine AW.sub (L' := [(0, .ref 64), (1, .int (nI a)), (2, .int (nI b)), (3, .int v), (4, .int (nI (pkF fa v x).1)), (5, .int (nI (x + 1)))]) rfl ?_
               rw [show nI (pkF fa v x).1 = nI (pkF fa v (x + 1)).1 from by rw [e]]
               exact ih (x + 1) (by omega) (by rw [e]))
            | (have q : y1 = 0 := p66
               have e := pkF_0 (fa := fa) (i := v) hinv (fun z => (hy1.resolve_left (fun u => absurd (u.1.symm.trans q) (by decide))).2 ((hfa x hx).mp z).2.1)
               refine AW.sub (L' := [(0, .ref 64), (1, .int (nI a)), (2, .int (nI b)), (3, .int v), (4, .int (nI (pkF fa v x).1)), (5, .int (nI (x + 1)))]) rfl ?_
               rw [show nI (pkF fa v x).1 = nI (pkF fa v (x + 1)).1 from by rw [e]]
               exact ih (x + 1) (by omega) (by rw [e]))
            | (have q : ¬ y2 = 0 := p82
               have e := pkF_0 (fa := fa) (i := v) hinv (fun z => ((hfa x hx).mp z).2.2 (hy2.resolve_right (fun u => q u.1)).2)
               refine AW.sub (L' := [(0, .ref 64), (1, .int (nI a)), (2, .int (nI b)), (3, .int v), (4, .int (nI (pkF fa v x).1)), (5, .int (nI (x + 1)))]) rfl ?_
               rw [show nI (pkF fa v x).1 = nI (pkF fa v (x + 1)).1 from by rw [e]]
               exact ih (x + 1) (by omega) (by rw [e]))
            | (have q : ¬ nI (pkF fa v x).1 = v := p91
               rw [show nI (pkF fa v x).1 + Int32.ofInt 1 = nI ((pkF fa v x).1 + 1) from nI_1 _]
               have e := pkF_1 (fa := fa) (i := v) hinv yes q
               refine AW.sub (L' := [(0, .ref 64), (1, .int (nI a)), (2, .int (nI b)), (3, .int v), (4, .int (nI ((pkF fa v x).1 + 1))), (5, .int (nI (x + 1)))]) rfl ?_
               rw [show nI ((pkF fa v x).1 + 1) = nI (pkF fa v (x + 1)).1 from by rw [e]]
               exact ih (x + 1) (by omega) (by rw [e]))
          · have p91 : nI (pkF fa v x).1 = v := c_91
            refine a_iload dX10_copied_94 rfl ?_
            refine a_iret dX10_copied_96 rfl (by rw [pkV_1 hx hinv yes p91] at h; exact h)
        · have p82 : ¬ y2 = 0 := c_82
          refine a_goto (tgt := 100) dX10_copied_85 (by decide) ?_
          refine a_iinc dX10_copied_100 rfl rfl (by decide) ?_
          refine a_goto (tgt := 31) dX10_copied_103 (by decide) ?_
          rw [show nI x + Int32.ofInt 1 = nI (x + 1) from nI_1 x]
          first
          | (have q : ¬ rI M 77 x = 0 := p45
             have e := pkF_0 (fa := fa) (i := v) hinv (fun z => q ((hfa x hx).mp z).1)
             refine AW.sub (L' := [(0, .ref 64), (1, .int (nI a)), (2, .int (nI b)), (3, .int v), (4, .int (nI (pkF fa v x).1)), (5, .int (nI (x + 1)))]) rfl ?_
             rw [show nI (pkF fa v x).1 = nI (pkF fa v (x + 1)).1 from by rw [e]]
             exact ih (x + 1) (by omega) (by rw [e]))
          | (have q : y1 = 0 := p66
             have e := pkF_0 (fa := fa) (i := v) hinv (fun z => (hy1.resolve_left (fun u => absurd (u.1.symm.trans q) (by decide))).2 ((hfa x hx).mp z).2.1)
             refine AW.sub (L' := [(0, .ref 64), (1, .int (nI a)), (2, .int (nI b)), (3, .int v), (4, .int (nI (pkF fa v x).1)), (5, .int (nI (x + 1)))]) rfl ?_
             rw [show nI (pkF fa v x).1 = nI (pkF fa v (x + 1)).1 from by rw [e]]
             exact ih (x + 1) (by omega) (by rw [e]))
          | (have q : ¬ y2 = 0 := p82
             have e := pkF_0 (fa := fa) (i := v) hinv (fun z => ((hfa x hx).mp z).2.2 (hy2.resolve_right (fun u => q u.1)).2)
             refine AW.sub (L' := [(0, .ref 64), (1, .int (nI a)), (2, .int (nI b)), (3, .int v), (4, .int (nI (pkF fa v x).1)), (5, .int (nI (x + 1)))]) rfl ?_
             rw [show nI (pkF fa v x).1 = nI (pkF fa v (x + 1)).1 from by rw [e]]
             exact ih (x + 1) (by omega) (by rw [e]))
          | (have q : ¬ nI (pkF fa v x).1 = v := p91
             rw [show nI (pkF fa v x).1 + Int32.ofInt 1 = nI ((pkF fa v x).1 + 1) from nI_1 _]
             have e := pkF_1 (fa := fa) (i := v) hinv yes q
             refine AW.sub (L' := [(0, .ref 64), (1, .int (nI a)), (2, .int (nI b)), (3, .int v), (4, .int (nI ((pkF fa v x).1 + 1))), (5, .int (nI (x + 1)))]) rfl ?_
             rw [show nI ((pkF fa v x).1 + 1) = nI (pkF fa v (x + 1)).1 from by rw [e]]
             exact ih (x + 1) (by omega) (by rw [e]))
theorem w_X10_copied {M : Mem} {N : Nat} {Q : Option Value → Nat → Mem → Prop} {a b : Nat} (ha1 : 1 ≤ a) (ha : a < 6) (hb1 : 1 ≤ b) (hb6 : b < 6) (hab : ¬ a = b) {fa : Nat → Bool} (hfa : ∀ x, x < 64 → (fa x = true ↔ rI M 77 x = 0 ∧ T1 M (64 * a + x) (64 * b + x) ∧ ¬ T1 M x (64 * a + x))) (hsz : ∀ k, k < 384 → rI M 66 k = 2 → ∃ sz, sz ≤ 40 ∧ rI M 68 k = nI sz) {v : Int32} (hv : 0 ≤ v)  (hN : 94 ≤ N) (hs : Str M.2.2.1) (h : Q (some (.int (pkV fa v))) N M)  : AW mX10_copied 2 0 0 N 0 [(0, .ref 64), (1, .int (nI a)), (2, .int (nI b)), (3, .int v)] [] M Q := by
  refine a_iload_n dX10_copied_0 rfl ?_
  refine a_callS (mc1 := 0) (ms1 := 0) (As := [_]) kpX10_isPupil kmX10_341 (by decide) rfl (Nat.le_of_ble_eq_true rfl) (Nat.le_of_ble_eq_true rfl) (Nat.le_of_ble_eq_true rfl) (Nat.le_of_ble_eq_true rfl) dX10_copied_1 (w_X10_isPupil ?_)
  refine a_if_eq (tgt := 23) dX10_copied_4 (by decide) (fun c_4 => absurd c_4 (fun z => bI_z.mp z ⟨by rw [nIt (by omega)]; omega, by rw [nIt (by omega)]; omega⟩)) (fun c_4 => ?_)
  refine a_iload_n dX10_copied_7 rfl ?_
  refine a_callS (mc1 := 0) (ms1 := 0) (As := [_]) kpX10_isPupil kmX10_341 (by decide) rfl (Nat.le_of_ble_eq_true rfl) (Nat.le_of_ble_eq_true rfl) (Nat.le_of_ble_eq_true rfl) (Nat.le_of_ble_eq_true rfl) dX10_copied_8 (w_X10_isPupil ?_)
  refine a_if_eq (tgt := 23) dX10_copied_11 (by decide) (fun c_11 => absurd c_11 (fun z => bI_z.mp z ⟨by rw [nIt (by omega)]; omega, by rw [nIt (by omega)]; omega⟩)) (fun c_11 => ?_)
  refine a_iload_n dX10_copied_14 rfl ?_
  refine a_iload_n dX10_copied_15 rfl ?_
  refine a_icmp_eq (tgt := 23) dX10_copied_16 (by decide) (fun c_16 => absurd c_16 (fun z => hab ((nI_eq (by omega) (by omega)).mp z))) (fun c_16 => ?_)
  refine a_iload_n dX10_copied_19 rfl ?_
  refine a_if_ge (tgt := 25) dX10_copied_20 (by decide) (fun c_20 => ?_) (fun c_20 => absurd hv c_20)
  refine a_iconst (v := 0) dX10_copied_25 (by decide) ?_
  refine a_istore dX10_copied_26 (by decide) ?_
  refine a_iconst (v := 0) dX10_copied_28 (by decide) ?_
  refine a_istore dX10_copied_29 (by decide) ?_
  exact (AW.sub (L' := [(0, .ref 64), (1, .int (nI a)), (2, .int (nI b)), (3, .int v), (4, .int (nI 0)), (5, .int (nI 0))]) rfl (l_X10_copied ha1 ha hb1 hb6 hfa hsz hN hs h 64 0 (by omega) rfl))

theorem w_X10_copied_o {M : Mem} {N : Nat} {Q : Option Value → Nat → Mem → Prop} {s t v : Int32} (ho : ¬ ((1 ≤ s.toInt ∧ s.toInt < 6) ∧ (1 ≤ t.toInt ∧ t.toInt < 6) ∧ ¬ s = t ∧ 0 ≤ v))  (hN : 94 ≤ N) (hs : Str M.2.2.1) (h : Q (some (.int (-1))) N (M)) : AW mX10_copied 2 0 0 N 0 [(0, .ref 64), (1, .int s), (2, .int t), (3, .int v)] [] M Q := by
  refine a_iload_n dX10_copied_0 rfl ?_
  refine a_callS (mc1 := 0) (ms1 := 0) (As := [_]) kpX10_isPupil kmX10_341 (by decide) rfl (Nat.le_of_ble_eq_true rfl) (Nat.le_of_ble_eq_true rfl) (Nat.le_of_ble_eq_true rfl) (Nat.le_of_ble_eq_true rfl) dX10_copied_1 (w_X10_isPupil ?_)
  refine a_if_eq (tgt := 23) dX10_copied_4 (by decide) (fun c_4 => ?_) (fun c_4 => ?_)
  · refine a_iconst (v := (-1)) dX10_copied_23 (by decide) ?_
    refine a_iret dX10_copied_24 rfl h
  · refine a_iload_n dX10_copied_7 rfl ?_
    refine a_callS (mc1 := 0) (ms1 := 0) (As := [_]) kpX10_isPupil kmX10_341 (by decide) rfl (Nat.le_of_ble_eq_true rfl) (Nat.le_of_ble_eq_true rfl) (Nat.le_of_ble_eq_true rfl) (Nat.le_of_ble_eq_true rfl) dX10_copied_8 (w_X10_isPupil ?_)
    refine a_if_eq (tgt := 23) dX10_copied_11 (by decide) (fun c_11 => ?_) (fun c_11 => ?_)
    · refine a_iconst (v := (-1)) dX10_copied_23 (by decide) ?_
      refine a_iret dX10_copied_24 rfl h
    · refine a_iload_n dX10_copied_14 rfl ?_
      refine a_iload_n dX10_copied_15 rfl ?_
      refine a_icmp_eq (tgt := 23) dX10_copied_16 (by decide) (fun c_16 => ?_) (fun c_16 => ?_)
      · refine a_iconst (v := (-1)) dX10_copied_23 (by decide) ?_
        refine a_iret dX10_copied_24 rfl h
      · refine a_iload_n dX10_copied_19 rfl ?_
        refine a_if_ge (tgt := 25) dX10_copied_20 (by decide) (fun c_20 => absurd c_20 (fun z => ho ⟨bI_nz.mp c_4, bI_nz.mp c_11, c_16, z⟩)) (fun c_20 => ?_)
        refine a_iconst (v := (-1)) dX10_copied_23 (by decide) ?_
        refine a_iret dX10_copied_24 rfl h

/-- x comes to c by needing -/
def Ch (nd : Nat → Int64) (x c : Nat) : Prop := ∀ P : Nat → Prop, (∀ y, y < 64 → hb (nd x) (nI y) = true → P y) → (∀ y, y < 64 → P y → ∀ z, z < 64 → hb (nd y) (nI z) = true → P z) → P c
def I3 (nd : Nat → Int64) (x : Nat) (s : OS) : Prop := (∀ y, y < 64 → hb (nd x) (nI y) = true → hb s.1 (nI y) = true) ∧ (∀ y, y < 64 → hb s.2.1 (nI y) = true → hb s.1 (nI y) = true ∧ ∀ z, z < 64 → hb (nd y) (nI z) = true → hb s.1 (nI z) = true) ∧ (∀ y, y < 64 → hb s.1 (nI y) = true → Ch nd x y)
theorem o1A_I3 {nd : Nat → Int64} {x y : Nat} (hy : y < 64) {s : OS} (h : I3 nd x s) : I3 nd x (o1A nd y s) := by
  unfold o1A
  split
  · next k =>
    split
    · exact h
    · refine ⟨fun u hu q => (hb_orI hu).mpr (Or.inl (h.1 u hu q)), fun u hu q => ?_, fun u hu q => ?_⟩
      · by_cases e : u = y
        · subst e
          exact ⟨(hb_orI hu).mpr (Or.inl k), fun z hz q => (hb_orI hz).mpr (Or.inr q)⟩
        · obtain ⟨a, b⟩ := h.2.1 u hu (((hb_orb hu hy).mp q).resolve_right e)
          exact ⟨(hb_orI hu).mpr (Or.inl a), fun z hz q => (hb_orI hz).mpr (Or.inl (b z hz q))⟩
      · rcases (hb_orI hu).mp q with q | q
        · exact h.2.2 u hu q
        · exact fun P p1 p2 => p2 y hy (h.2.2 y hy k P p1 p2) u hu q
  · exact h
theorem o1W_I3 {nd : Nat → Int64} {x : Nat} {s : OS} (h : I3 nd x s) : ∀ y, y ≤ 64 → I3 nd x (o1W nd y s)
  | 0, _ => h
  | y + 1, hy => o1A_I3 (by omega) (o1W_I3 h y (by omega))
theorem I3_end {nd : Nat → Int64} {x c : Nat} (hc : c < 64) {s : OS} (h : I3 nd x s) (e : s.1 = s.2.1) : hb s.1 (nI c) = true ↔ Ch nd x c := by
  refine ⟨h.2.2 c hc, fun k => ?_⟩
  exact k (fun y => y < 64 → hb s.1 (nI y) = true) (fun y hy q _ => h.1 y hy q) (fun y hy p z hz q _ => (h.2.1 y hy (by rw [← e]; exact p hy)).2 z hz q) hc
theorem l_X10_comesW {M : Mem} {N : Nat} {Q : Option Value → Nat → Mem → Prop} {i c : Nat} (hi : i < 6) (hw : ∀ j, j < 64 → rI M 66 (64 * i + j) = 2 → RWF M (64 * i + j)) {s : OS} (hN : 94 ≤ N) (hs : Str M.2.2.1) (h : AW mX10_comesTo 5 0 0 N 11 [(0, .ref 64), (1, .int (nI i)), (3, .int (nI c)), (4, .long (o1W (nR M i) 64 s).1), (6, .long (o1W (nR M i) 64 s).2.1)] [] M Q) : ∀ (r y : Nat), y + r = 64 → AW mX10_comesTo 5 0 0 N 22 [(0, .ref 64), (1, .int (nI i)), (3, .int (nI c)), (4, .long (o1W (nR M i) y s).1), (6, .long (o1W (nR M i) y s).2.1), (8, .int (nI y))] [] M Q := by
  intro r
  induction r with
  | zero =>
    intro y hk
    obtain rfl : y = 64 := by omega
    refine a_iload dX10_comesTo_22 rfl ?_
    refine a_bipush (v := 64) dX10_comesTo_24 (by decide) ?_
    refine a_icmp_ge (tgt := 79) dX10_comesTo_26 (by decide) (fun c_26 => ?_) (fun c_26 => absurd (nI_le (a := 64) (b := 64) (by omega) (by decide)) c_26)
    refine a_goto (tgt := 11) dX10_comesTo_79 (by decide) ?_
    exact AW.sub (L' := [(0, .ref 64), (1, .int (nI i)), (3, .int (nI c)), (4, .long (o1W (nR M i) 64 s).1), (6, .long (o1W (nR M i) 64 s).2.1)]) rfl h
  | succ r ih =>
    intro y hk
    have hy : y < 64 := by omega
    refine a_iload dX10_comesTo_22 rfl ?_
    refine a_bipush (v := 64) dX10_comesTo_24 (by decide) ?_
    refine a_icmp_ge (tgt := 79) dX10_comesTo_26 (by decide) (fun c_26 => absurd c_26 (nI_ge (b := 64) (by omega) (by decide))) (fun c_26 => ?_)
    refine a_lload dX10_comesTo_29 rfl ?_
    refine a_iload dX10_comesTo_31 rfl ?_
    refine a_callS (mc1 := 0) (ms1 := 0) (As := [_, _]) kpX10_has kmX10_242 (by decide) rfl (Nat.le_of_ble_eq_true rfl) (Nat.le_of_ble_eq_true rfl) (Nat.le_of_ble_eq_true rfl) (Nat.le_of_ble_eq_true rfl) dX10_comesTo_33 (w_X10_has hy ?_)
    refine a_if_eq (tgt := 73) dX10_comesTo_36 (by decide) (fun c_36 => ?_) (fun c_36 => ?_)
    · have p36 : ¬ hb (o1W (nR M i) y s).1 (nI y) = true := bI_z.mp c_36
      refine a_iinc dX10_comesTo_73 rfl rfl (by decide) ?_
      refine a_goto (tgt := 22) dX10_comesTo_76 (by decide) ?_
      rw [show nI y + Int32.ofInt 1 = nI (y + 1) from nI_1 y]
      first
      | (have q0 : ¬ hb (o1W (nR M i) y s).1 (nI y) = true := p36
         have e : (o1W (nR M i) (y + 1) s) = (o1W (nR M i) y s) := if_neg q0
         rw [← e]
         exact AW.sub (L' := [(0, .ref 64), (1, .int (nI i)), (3, .int (nI c)), (4, .long (o1W (nR M i) (y + 1) s).1), (6, .long (o1W (nR M i) (y + 1) s).2.1), (8, .int (nI (y + 1)))]) rfl (ih (y + 1) (by omega)))
      | (have q1 : hb (o1W (nR M i) y s).2.1 (nI y) = true := p46
         have e : (o1W (nR M i) (y + 1) s) = (o1W (nR M i) y s) := (if_pos p36).trans (if_pos q1)
         rw [← e]
         exact AW.sub (L' := [(0, .ref 64), (1, .int (nI i)), (3, .int (nI c)), (4, .long (o1W (nR M i) (y + 1) s).1), (6, .long (o1W (nR M i) (y + 1) s).2.1), (8, .int (nI (y + 1)))]) rfl (ih (y + 1) (by omega)))
      | (have e : (o1W (nR M i) (y + 1) s) = (((o1W (nR M i) y s).1 ||| nR M i y, (o1W (nR M i) y s).2.1 ||| bitL (nI y), fun j => if j = y then nR M i y else (o1W (nR M i) y s).2.2.1 j, 1) : OS) := (if_pos p36).trans (if_neg p46)
         have ih2 := ih (y + 1) (by omega)
         rw [e] at ih2
         exact AW.sub (L' := [(0, .ref 64), (1, .int (nI i)), (3, .int (nI c)), (4, .long (((o1W (nR M i) y s).1 ||| nR M i y, (o1W (nR M i) y s).2.1 ||| bitL (nI y), fun j => if j = y then nR M i y else (o1W (nR M i) y s).2.2.1 j, 1) : OS).1), (6, .long (((o1W (nR M i) y s).1 ||| nR M i y, (o1W (nR M i) y s).2.1 ||| bitL (nI y), fun j => if j = y then nR M i y else (o1W (nR M i) y s).2.2.1 j, 1) : OS).2.1), (8, .int (nI (y + 1)))]) rfl ih2)
    · have p36 : hb (o1W (nR M i) y s).1 (nI y) = true := bI_nz.mp c_36
      refine a_lload dX10_comesTo_39 rfl ?_
      refine a_iload dX10_comesTo_41 rfl ?_
      refine a_callS (mc1 := 0) (ms1 := 0) (As := [_, _]) kpX10_has kmX10_242 (by decide) rfl (Nat.le_of_ble_eq_true rfl) (Nat.le_of_ble_eq_true rfl) (Nat.le_of_ble_eq_true rfl) (Nat.le_of_ble_eq_true rfl) dX10_comesTo_43 (w_X10_has hy ?_)
      refine a_if_eq (tgt := 52) dX10_comesTo_46 (by decide) (fun c_46 => ?_) (fun c_46 => ?_)
      · have p46 : ¬ hb (o1W (nR M i) y s).2.1 (nI y) = true := bI_z.mp c_46
        refine a_lload dX10_comesTo_52 rfl ?_
        refine a_lconst (v := 1) dX10_comesTo_54 (by decide) ?_
        refine a_iload dX10_comesTo_55 rfl ?_
        refine a_lshl dX10_comesTo_57 rfl ?_
        rw [bitL_sh hy]
        refine a_lor dX10_comesTo_58 ?_
        refine a_lstore dX10_comesTo_59 (by decide) ?_
        refine a_lload dX10_comesTo_61 rfl ?_
        refine a_aload_n dX10_comesTo_63 rfl ?_
        refine a_iload_n dX10_comesTo_64 rfl ?_
        refine a_iload dX10_comesTo_65 rfl ?_
        refine a_callV (mc1 := 0) (ms1 := 0) (As := [_, _]) kpX10_needs kmX10_250 (by decide) rfl (Nat.le_of_ble_eq_true rfl) rfl (by decide) rfl (by decide) (hlt hN (by decide)) (Nat.le_of_ble_eq_true rfl) (Nat.le_of_ble_eq_true rfl) (Nat.le_of_ble_eq_true rfl) dX10_comesTo_67 (w_X10_needs hi hy (hw y hy) hN (by exact hs) ?_)
        refine a_lor dX10_comesTo_70 ?_
        refine a_lstore dX10_comesTo_71 (by decide) ?_
        refine a_iinc dX10_comesTo_73 rfl rfl (by decide) ?_
        refine a_goto (tgt := 22) dX10_comesTo_76 (by decide) ?_
        rw [show nI y + Int32.ofInt 1 = nI (y + 1) from nI_1 y]
        first
        | (have q0 : ¬ hb (o1W (nR M i) y s).1 (nI y) = true := p36
           have e : (o1W (nR M i) (y + 1) s) = (o1W (nR M i) y s) := if_neg q0
           rw [← e]
           exact AW.sub (L' := [(0, .ref 64), (1, .int (nI i)), (3, .int (nI c)), (4, .long (o1W (nR M i) (y + 1) s).1), (6, .long (o1W (nR M i) (y + 1) s).2.1), (8, .int (nI (y + 1)))]) rfl (ih (y + 1) (by omega)))
        | (have q1 : hb (o1W (nR M i) y s).2.1 (nI y) = true := p46
           have e : (o1W (nR M i) (y + 1) s) = (o1W (nR M i) y s) := (if_pos p36).trans (if_pos q1)
           rw [← e]
           exact AW.sub (L' := [(0, .ref 64), (1, .int (nI i)), (3, .int (nI c)), (4, .long (o1W (nR M i) (y + 1) s).1), (6, .long (o1W (nR M i) (y + 1) s).2.1), (8, .int (nI (y + 1)))]) rfl (ih (y + 1) (by omega)))
        | (have e : (o1W (nR M i) (y + 1) s) = (((o1W (nR M i) y s).1 ||| nR M i y, (o1W (nR M i) y s).2.1 ||| bitL (nI y), fun j => if j = y then nR M i y else (o1W (nR M i) y s).2.2.1 j, 1) : OS) := (if_pos p36).trans (if_neg p46)
           have ih2 := ih (y + 1) (by omega)
           rw [e] at ih2
           exact AW.sub (L' := [(0, .ref 64), (1, .int (nI i)), (3, .int (nI c)), (4, .long (((o1W (nR M i) y s).1 ||| nR M i y, (o1W (nR M i) y s).2.1 ||| bitL (nI y), fun j => if j = y then nR M i y else (o1W (nR M i) y s).2.2.1 j, 1) : OS).1), (6, .long (((o1W (nR M i) y s).1 ||| nR M i y, (o1W (nR M i) y s).2.1 ||| bitL (nI y), fun j => if j = y then nR M i y else (o1W (nR M i) y s).2.2.1 j, 1) : OS).2.1), (8, .int (nI (y + 1)))]) rfl ih2)
      · have p46 : hb (o1W (nR M i) y s).2.1 (nI y) = true := bI_nz.mp c_46
        refine a_goto (tgt := 73) dX10_comesTo_49 (by decide) ?_
        refine a_iinc dX10_comesTo_73 rfl rfl (by decide) ?_
        refine a_goto (tgt := 22) dX10_comesTo_76 (by decide) ?_
        rw [show nI y + Int32.ofInt 1 = nI (y + 1) from nI_1 y]
        first
        | (have q0 : ¬ hb (o1W (nR M i) y s).1 (nI y) = true := p36
           have e : (o1W (nR M i) (y + 1) s) = (o1W (nR M i) y s) := if_neg q0
           rw [← e]
           exact AW.sub (L' := [(0, .ref 64), (1, .int (nI i)), (3, .int (nI c)), (4, .long (o1W (nR M i) (y + 1) s).1), (6, .long (o1W (nR M i) (y + 1) s).2.1), (8, .int (nI (y + 1)))]) rfl (ih (y + 1) (by omega)))
        | (have q1 : hb (o1W (nR M i) y s).2.1 (nI y) = true := p46
           have e : (o1W (nR M i) (y + 1) s) = (o1W (nR M i) y s) := (if_pos p36).trans (if_pos q1)
           rw [← e]
           exact AW.sub (L' := [(0, .ref 64), (1, .int (nI i)), (3, .int (nI c)), (4, .long (o1W (nR M i) (y + 1) s).1), (6, .long (o1W (nR M i) (y + 1) s).2.1), (8, .int (nI (y + 1)))]) rfl (ih (y + 1) (by omega)))
        | (have e : (o1W (nR M i) (y + 1) s) = (((o1W (nR M i) y s).1 ||| nR M i y, (o1W (nR M i) y s).2.1 ||| bitL (nI y), fun j => if j = y then nR M i y else (o1W (nR M i) y s).2.2.1 j, 1) : OS) := (if_pos p36).trans (if_neg p46)
           have ih2 := ih (y + 1) (by omega)
           rw [e] at ih2
           exact AW.sub (L' := [(0, .ref 64), (1, .int (nI i)), (3, .int (nI c)), (4, .long (((o1W (nR M i) y s).1 ||| nR M i y, (o1W (nR M i) y s).2.1 ||| bitL (nI y), fun j => if j = y then nR M i y else (o1W (nR M i) y s).2.2.1 j, 1) : OS).1), (6, .long (((o1W (nR M i) y s).1 ||| nR M i y, (o1W (nR M i) y s).2.1 ||| bitL (nI y), fun j => if j = y then nR M i y else (o1W (nR M i) y s).2.2.1 j, 1) : OS).2.1), (8, .int (nI (y + 1)))]) rfl ih2)
theorem l_X10_comesR {M : Mem} {N : Nat} {Q : Option Value → Nat → Mem → Prop} {i x c : Nat} (hi : i < 6) (hx : x < 64) (hc : c < 64) (hw : ∀ j, j < 64 → rI M 66 (64 * i + j) = 2 → RWF M (64 * i + j)) (hN : 94 ≤ N) (hs : Str M.2.2.1) (h : ∀ b, (b = 1 ∧ Ch (nR M i) x c ∨ b = 0 ∧ ¬ Ch (nR M i) x c) → Q (some (.int b)) N M) : ∀ (r : Nat) (s : OS), 64 < cnt s.2.1 64 + r → I3 (nR M i) x s → AW mX10_comesTo 5 0 0 N 11 [(0, .ref 64), (1, .int (nI i)), (3, .int (nI c)), (4, .long s.1), (6, .long s.2.1)] [] M Q := by
  intro r
  induction r with
  | zero =>
    intro s hr inv
    have := cnt_le (s := s.2.1) 64
    omega
  | succ r ih =>
    intro s hr inv
    by_cases e0 : s.1 = s.2.1
    · refine a_lload dX10_comesTo_11 rfl ?_
      refine a_lload dX10_comesTo_13 rfl ?_
      refine a_lcmp dX10_comesTo_15 ?_
      refine a_if_eq (tgt := 82) dX10_comesTo_16 (by decide) (fun c_16 => ?_) (fun c_16 => absurd ((lg_cmp_eq _ _).mpr e0) c_16)
      refine a_lload dX10_comesTo_82 rfl ?_
      refine a_iload_n dX10_comesTo_84 rfl ?_
      refine a_callS (mc1 := 0) (ms1 := 0) (As := [_, _]) kpX10_has kmX10_242 (by decide) rfl (Nat.le_of_ble_eq_true rfl) (Nat.le_of_ble_eq_true rfl) (Nat.le_of_ble_eq_true rfl) (Nat.le_of_ble_eq_true rfl) dX10_comesTo_85 (w_X10_has hc ?_)
      refine a_zret dX10_comesTo_88 rfl bI_01 (h _ (by by_cases q : hb s.1 (nI c) = true; exact Or.inl ⟨bI_t q, (I3_end hc inv e0).mp q⟩; exact Or.inr ⟨bI_f q, fun z => q ((I3_end hc inv e0).mpr z)⟩))
    · have hr2 : 64 < cnt (o1W (nR M i) 64 (s.1, s.2.1, s.2.2.1, (0 : Int32))).2.1 64 + r := by
        rcases o1W_more (nd := (nR M i)) (s := (s.1, s.2.1, s.2.2.1, (0 : Int32))) rfl 64 (Nat.le_refl _) with ⟨-, k⟩ | ⟨-, k⟩
        · exact absurd (hb_ext (fun z hz => ⟨k z hz, fun q => (inv.2.1 z hz q).1⟩)) e0
        · have k2 : cnt s.2.1 64 + 1 ≤ _ := k
          omega
      refine a_lload dX10_comesTo_11 rfl ?_
      refine a_lload dX10_comesTo_13 rfl ?_
      refine a_lcmp dX10_comesTo_15 ?_
      refine a_if_eq (tgt := 82) dX10_comesTo_16 (by decide) (fun c_16 => absurd c_16 (fun z => e0 ((lg_cmp_eq _ _).mp z))) (fun c_16 => ?_)
      refine a_iconst (v := 0) dX10_comesTo_19 (by decide) ?_
      refine a_istore dX10_comesTo_20 (by decide) ?_
      refine AW.sub (L' := [(0, .ref 64), (1, .int (nI i)), (3, .int (nI c)), (4, .long (s.1, s.2.1, s.2.2.1, (0 : Int32)).1), (6, .long (s.1, s.2.1, s.2.2.1, (0 : Int32)).2.1), (8, .int (nI 0))]) rfl (l_X10_comesW hi hw (s := (s.1, s.2.1, s.2.2.1, (0 : Int32))) hN hs ?_ 64 0 (by omega))
      exact ih _ hr2 (o1W_I3 (s := (s.1, s.2.1, s.2.2.1, (0 : Int32))) inv 64 (Nat.le_refl _))
theorem w_X10_comesTo {M : Mem} {N : Nat} {Q : Option Value → Nat → Mem → Prop} {i x c : Nat} (hi : i < 6) (hx : x < 64) (hc : c < 64) (hw : ∀ j, j < 64 → rI M 66 (64 * i + j) = 2 → RWF M (64 * i + j))  (hN : 94 ≤ N) (hs : Str M.2.2.1) (h : ∀ b, (b = 1 ∧ Ch (nR M i) x c ∨ b = 0 ∧ ¬ Ch (nR M i) x c) → Q (some (.int b)) N M)  : AW mX10_comesTo 5 0 0 N 0 [(0, .ref 64), (1, .int (nI i)), (2, .int (nI x)), (3, .int (nI c))] [] M Q := by
  refine a_aload_n dX10_comesTo_0 rfl ?_
  refine a_iload_n dX10_comesTo_1 rfl ?_
  refine a_iload_n dX10_comesTo_2 rfl ?_
  refine a_callV (mc1 := 0) (ms1 := 0) (As := [_, _]) kpX10_needs kmX10_250 (by decide) rfl (Nat.le_of_ble_eq_true rfl) rfl (by decide) rfl (by decide) (hlt hN (by decide)) (Nat.le_of_ble_eq_true rfl) (Nat.le_of_ble_eq_true rfl) (Nat.le_of_ble_eq_true rfl) dX10_comesTo_3 (w_X10_needs hi hx (hw x hx) hN (by exact hs) ?_)
  refine a_lstore dX10_comesTo_6 (by decide) ?_
  refine a_lconst (v := 0) dX10_comesTo_8 (by decide) ?_
  refine a_lstore dX10_comesTo_9 (by decide) ?_
  exact AW.sub (L' := [(0, .ref 64), (1, .int (nI i)), (3, .int (nI c)), (4, .long ((nR M i x, 0, fun _ => 0, 0) : OS).1), (6, .long ((nR M i x, 0, fun _ => 0, 0) : OS).2.1)]) rfl (l_X10_comesR hi hx hc hw hN hs h 65 ((nR M i x, 0, fun _ => 0, 0) : OS) (by omega) ⟨fun y hy q => q, fun y hy q => absurd q (by show ¬ hb 0 (nI y) = true; rw [hb_0 hy]; decide), fun y hy q P p1 _ => p1 y hy q⟩)

