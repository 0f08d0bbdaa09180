def llF (M : Mem) (g2 v : Nat) (x : Int64) : Nat → FS → FS
  | 0, s => s
  | c + 1, s => if hb x (nI c) = true then fup (llF M g2 v x c s) (v * 64 + c) (rJ M (g2 + 2) (v * 64 + c)) (rI M (g2 + 3) (v * 64 + c)) else llF M g2 v x c s
theorem l_X1_layLent {M : Mem} {N : Nat} {Q : Option Value → Nat → Mem → Prop} {s : FS} {g g2 v : Nat} {x : Int64} (hg : FgR g) (hg2 : FgR g2) (hne : g2 ≠ g) (hv : v < 6) (hN : 94 ≤ N) (hs : Str M.2.2.1) (h : Q none N (wf M g (llF M g2 v x 64 s))) : ∀ (r k : Nat), k + r = 64 → AW mX1_layLent 2 0 0 N 3 [(0, .ref g), (1, .long x), (3, .ref g2), (4, .int (nI v)), (5, .int (nI k))] [] (wf M g (llF M g2 v x k s)) Q := by
  intro r
  induction r with
  | zero =>
    intro k hk
    refine a_iload dX1_layLent_3 rfl ?_
    refine a_bipush (v := 64) dX1_layLent_5 (by decide) ?_
    refine a_icmp_ge (tgt := 52) dX1_layLent_7 (by decide) (fun c_7 => ?_) (fun c_7 => absurd (nI_le (a := 64) (by omega) (by omega)) c_7)
    refine a_vret dX1_layLent_52 rfl (by rw [show k = 64 by omega]; exact h)
  | succ r ih =>
    intro k hk
    refine a_iload dX1_layLent_3 rfl ?_
    refine a_bipush (v := 64) dX1_layLent_5 (by decide) ?_
    refine a_icmp_ge (tgt := 52) dX1_layLent_7 (by decide) (fun c_7 => absurd c_7 (nI_ge (b := 64) (by omega) (by decide))) (fun c_7 => ?_)
    refine a_lload_n dX1_layLent_10 rfl ?_
    refine a_iload dX1_layLent_11 rfl ?_
    refine a_callSN (host := "SheetMarker") (mc1 := 0) (ms1 := 0) (As := [_]) kpX9_bit (by decide +kernel) (by decide) rfl (Nat.le_of_ble_eq_true rfl) (Nat.le_of_ble_eq_true rfl) (Nat.le_of_ble_eq_true rfl) (Nat.le_of_ble_eq_true rfl) dX1_layLent_13 (w_X9_bit ?_)
    refine a_land dX1_layLent_16 ?_
    refine a_lconst (v := 0) dX1_layLent_17 (by decide) ?_
    refine a_lcmp dX1_layLent_18 ?_
    refine a_if_eq (tgt := 46) dX1_layLent_19 (by decide) (fun c_19 => ?_) (fun c_19 => ?_)
    · try rw [wf_P]
      refine a_iinc dX1_layLent_46 rfl rfl (by decide) ?_
      refine a_goto (tgt := 3) dX1_layLent_49 (by decide) ?_
      first | rw [show wf M g (fup (llF M g2 v x k s) (v * 64 + k) (rJ M (g2 + 2) (v * 64 + k)) (rI M (g2 + 3) (v * 64 + k))) = wf M g (llF M g2 v x (k + 1) s) from by show _ = wf M g (if _ then _ else _); rw [if_pos (hb_iff.mpr (fun z => c_19 ((lg_cmp_eq _ _).mpr z)))]] | rw [show wf M g (llF M g2 v x k s) = wf M g (llF M g2 v x (k + 1) s) from by show _ = wf M g (if _ then _ else _); rw [if_neg (fun z => hb_iff.mp z ((lg_cmp_eq _ _).mp c_19))]]
      rw [show nI k + Int32.ofInt 1 = nI (k + 1) from nI_1 k]
      refine AW.sub (L' := [(0, .ref g), (1, .long x), (3, .ref g2), (4, .int (nI v)), (5, .int (nI (k + 1)))]) rfl ?_
      exact ih (k + 1) (by omega)
    · refine a_aload_n dX1_layLent_22 rfl ?_
      refine a_iload dX1_layLent_23 rfl ?_
      refine a_iload dX1_layLent_25 rfl ?_
      refine a_aload_n dX1_layLent_27 rfl ?_
      refine a_iload dX1_layLent_28 rfl ?_
      refine a_iload dX1_layLent_30 rfl ?_
      refine a_callV (mc1 := 0) (ms1 := 0) (As := [_, _]) kpX1_figureAt kmX1_41 (by decide) rfl (Nat.le_of_ble_eq_true rfl) (fg_k hg2) (by decide) rfl (fg_two hg2) (fg_lt hg2 hN) (Nat.le_of_ble_eq_true rfl) (Nat.le_of_ble_eq_true rfl) (Nat.le_of_ble_eq_true rfl) dX1_layLent_32 (w_X1_figureAt hg2 hv (show k < 64 by omega) hN (by exact hs) ?_)
      rw [wf_rJ (show g2 + 2 ≠ g + 2 by omega)]
      refine a_aload_n dX1_layLent_35 rfl ?_
      refine a_iload dX1_layLent_36 rfl ?_
      refine a_iload dX1_layLent_38 rfl ?_
      refine a_callV (mc1 := 0) (ms1 := 0) (As := [_, _]) kpX1_errorAt kmX1_37 (by decide) rfl (Nat.le_of_ble_eq_true rfl) (fg_k hg2) (by decide) rfl (fg_two hg2) (fg_lt hg2 hN) (Nat.le_of_ble_eq_true rfl) (Nat.le_of_ble_eq_true rfl) (Nat.le_of_ble_eq_true rfl) dX1_layLent_40 (w_X1_errorAt hg2 hv (show k < 64 by omega) hN (by exact hs) ?_)
      rw [wf_rI (show g2 + 3 ≠ g + 3 by omega)]
      refine a_callV (mc1 := 0) (ms1 := 0) (As := [_, _, _, _]) kpX1_put kmX1_109 (by decide) rfl (Nat.le_of_ble_eq_true rfl) (fg_k hg) (by decide) rfl (fg_two hg) (fg_lt hg hN) (Nat.le_of_ble_eq_true rfl) (Nat.le_of_ble_eq_true rfl) (Nat.le_of_ble_eq_true rfl) dX1_layLent_43 (w_X1_put hg hv (show k < 64 by omega) hN (by exact hs) ?_)
      try rw [wf_P]
      refine a_iinc dX1_layLent_46 rfl rfl (by decide) ?_
      refine a_goto (tgt := 3) dX1_layLent_49 (by decide) ?_
      first | rw [show wf M g (fup (llF M g2 v x k s) (v * 64 + k) (rJ M (g2 + 2) (v * 64 + k)) (rI M (g2 + 3) (v * 64 + k))) = wf M g (llF M g2 v x (k + 1) s) from by show _ = wf M g (if _ then _ else _); rw [if_pos (hb_iff.mpr (fun z => c_19 ((lg_cmp_eq _ _).mpr z)))]] | rw [show wf M g (llF M g2 v x k s) = wf M g (llF M g2 v x (k + 1) s) from by show _ = wf M g (if _ then _ else _); rw [if_neg (fun z => hb_iff.mp z ((lg_cmp_eq _ _).mp c_19))]]
      rw [show nI k + Int32.ofInt 1 = nI (k + 1) from nI_1 k]
      refine AW.sub (L' := [(0, .ref g), (1, .long x), (3, .ref g2), (4, .int (nI v)), (5, .int (nI (k + 1)))]) rfl ?_
      exact ih (k + 1) (by omega)
theorem w_X1_layLent {M : Mem} {N : Nat} {Q : Option Value → Nat → Mem → Prop} {s : FS} {g g2 v : Nat} {x : Int64} (hg : FgR g) (hg2 : FgR g2) (hne : g2 ≠ g) (hv : v < 6)  (hN : 94 ≤ N) (hs : Str M.2.2.1) (h : Q (none) N (wf M g (llF M g2 v x 64 s))) : AW mX1_layLent 2 0 0 N 0 [(0, .ref g), (1, .long x), (3, .ref g2), (4, .int (nI v))] [] (wf M g s) Q := by
  refine a_iconst (v := 0) dX1_layLent_0 (by decide) ?_
  refine a_istore dX1_layLent_1 (by decide) ?_
  refine AW.sub (L' := [(0, .ref g), (1, .long x), (3, .ref g2), (4, .int (nI v)), (5, .int (nI 0))]) rfl ?_
  exact l_X1_layLent hg hg2 hne hv hN hs h 64 0 (by omega)

/-! steps that can all be done -/
def WFo (M : Mem) (q f z : Nat) (pl : Nat → Nat) : Prop := ∀ i, i < z → (chS M q f (pl i) = 1 ∨ chS M q f (pl i) = 3 ∨ chS M q f (pl i) = 2 ∨ chS M q f (pl i) = 4 ∨ chS M q f (pl i) = 5 ∨ chS M q f (pl i) = 43 ∨ chS M q f (pl i) = 45 ∨ chS M q f (pl i) = 42 ∨ chS M q f (pl i) = 47 ∨ chS M q f (pl i) = 6) ∧ (chS M q f (pl i) = 2 ∨ chS M q f (pl i) = 3 → ∃ c, c < 64 ∧ chO M q f (pl i) = nI c) ∧ (chS M q f (pl i) = 5 → ∃ m, i = m + 2 ∧ chS M q f (pl (m + 1)) = 3 ∧ chS M q f (pl m) = 3)
theorem pushS_le {s : MS} {x : Int64} : (pushS s x).2.1 ≤ s.2.1 + 1 := by
  unfold pushS
  split
  · exact Nat.le_succ _
  · split
    · exact Nat.le_refl _
    · exact Nat.le_succ _
theorem popS_le {s : MS} : (popS s).2.1 ≤ s.2.1 := by
  unfold popS
  split
  · exact Nat.le_refl _
  · exact Nat.sub_le _ _
theorem pushpop_le {s : MS} {x : Int64} : (pushS (popS s) x).2.1 ≤ max s.2.1 1 := by
  have h1 := pushS_le (s := popS s) (x := x)
  have h2 : (popS s).2.1 = s.2.1 - 1 := by
    unfold popS
    split
    · omega
    · rfl
  omega
theorem prF_le {M : Mem} {g v : Nat} {C : Int64} {s : MS} : ∀ k, (prF M g v C k s).2.1 ≤ max s.2.1 1
  | 0 => Nat.le_max_left _ _
  | k + 1 => by
    have ih := prF_le (M := M) (g := g) (v := v) (C := C) (s := s) k
    show (prStep M g v C k (prF M g v C k s)).2.1 ≤ _
    unfold prStep
    split
    · split
      · have := pushpop_le (s := ((prF M g v C k s).1, (prF M g v C k s).2.1, rI M (g + 3) (v * 64 + k))) (x := popV ((prF M g v C k s).1, (prF M g v C k s).2.1, rI M (g + 3) (v * 64 + k)) + rJ M (g + 2) (v * 64 + k))
        simp only at this
        omega
      · exact ih
    · exact ih
theorem mulS_le {s : MS} {a b : Int64} : (mulS s a b).2.1 ≤ s.2.1 + 1 := by
  unfold mulS
  split
  · exact Nat.le_succ _
  · exact pushS_le
theorem divS_le {s : MS} {a b : Int64} : (divS s a b).2.1 ≤ s.2.1 + 1 := by
  unfold divS
  split
  · exact Nat.le_succ _
  · exact pushS_le
theorem joinS_le {s : MS} {k : Int32} : (joinS s k).2.1 ≤ s.2.1 + 1 := by
  have h2 : (popS (popS s)).2.1 ≤ s.2.1 := Nat.le_trans popS_le popS_le
  have key : ∀ t : MS, t.2.1 ≤ (popS (popS s)).2.1 + 1 → t.2.1 ≤ s.2.1 + 1 := fun t h => by omega
  unfold joinS
  dsimp only
  split
  · exact key _ pushS_le
  · split
    · exact key _ pushS_le
    · split
      · exact key _ mulS_le
      · split
        · exact key _ divS_le
        · exact key _ pushS_le
theorem rkA_le {M : Mem} {q f g v p : Nat} {s : MS} : (rkA M q f g v p s).2.1 ≤ s.2.1 + 1 := by
  unfold rkA
  split
  · exact pushS_le
  · split
    · unfold pcS
      split
      · exact pushS_le
      · exact Nat.le_succ _
    · split
      · have h1 := pushS_le (s := popS s) (x := -(popV s))
        have h2 := popS_le (s := s)
        omega
      · split
        · have h1 := prF_le (M := M) (g := g) (v := v) (C := rcL (popV (popS s)).toInt32.toNatClampNeg (popV s).toInt32.toNatClampNeg) (s := pushS (popS (popS s)) 0) 64
          have h2 := pushS_le (s := popS (popS s)) (x := 0)
          have h3 : (popS (popS s)).2.1 ≤ s.2.1 := Nat.le_trans popS_le popS_le
          omega
        · exact joinS_le
theorem rkF_le {M : Mem} {q f g v : Nat} {pl : Nat → Nat} {s : MS} : ∀ i, (rkF M q f g v pl i s).2.1 ≤ s.2.1 + i
  | 0 => Nat.le_refl _
  | i + 1 => by
    have ih := rkF_le (M := M) (q := q) (f := f) (g := g) (v := v) (pl := pl) (s := s) i
    have h2 := rkA_le (M := M) (q := q) (f := f) (g := g) (v := v) (p := pl i) (s := rkF M q f g v pl i s)
    unfold rkF
    split <;> omega
theorem nIL_small {c : Nat} (hc : c < 64) : ¬ (GRT < (nI c).toInt64 ∨ (nI c).toInt64 < -1000000000000) := by
  have e : ((nI c).toInt64).toInt = c := by rw [Int32.toInt_toInt64, nIt (by omega)]
  rw [Int64.lt_iff_toInt_lt, Int64.lt_iff_toInt_lt, e]
  have e1 : (GRT : Int64).toInt = 1000000000000 := by decide +kernel
  have e2 : (-1000000000000 : Int64).toInt = -1000000000000 := by decide +kernel
  rw [e1, e2]
  omega
theorem push_c {s : MS} {c : Nat} (hc : c < 64) (h : s.2.1 < 40) : pushS s (nI c).toInt64 = (fun j => if j = s.2.1 then (nI c).toInt64 else s.1 j, s.2.1 + 1, s.2.2) := by
  unfold pushS
  rw [if_neg (nIL_small hc), if_pos h]
theorem rkF_e0 {M : Mem} {q f g v : Nat} {pl : Nat → Nat} {s : MS} {i r : Nat} (h : (rkF M q f g v pl (i + r) s).2.2 = 0) : (rkF M q f g v pl i s).2.2 = 0 := by
  by_cases hz : (rkF M q f g v pl i s).2.2 = 0
  · exact hz
  · rw [rkF_stop hz] at h
    exact h
theorem toI32_c {c : Nat} (hc : c < 64) : ((nI c).toInt64).toInt32 = nI c := by
  rw [nI_l (by omega), lN_i]
theorem hall_of {M : Mem} {q f g v z : Nat} {pl : Nat → Nat} {s : MS} (hw : WFo M q f z pl) (hz : z ≤ 40) (h0 : s.2.1 = 0) : ∀ i, i < z → (rkF M q f g v pl i s).2.2 = 0 → stOK M q f (pl i) (rkF M q f g v pl i s) := by
  intro i hi he
  obtain ⟨ha, hb, hc⟩ := hw i hi
  unfold stOK
  rcases ha with e | e | e | e | e | e | e | e | e | e
  · exact Or.inl e
  · exact Or.inr (Or.inl e)
  · exact Or.inr (Or.inr (Or.inl ⟨e, hb (Or.inl e)⟩))
  · exact Or.inr (Or.inr (Or.inr (Or.inl e)))
  · refine Or.inr (Or.inr (Or.inr (Or.inr (Or.inl ⟨e, ?_⟩))))
    obtain ⟨m, rfl, k1, k0⟩ := hc e
    obtain ⟨a, ha, ea⟩ := (hw m (by omega)).2.1 (Or.inr k0)
    obtain ⟨b, hb, eb⟩ := (hw (m + 1) (by omega)).2.1 (Or.inr k1)
    have e1 : (rkF M q f g v pl (m + 1) s).2.2 = 0 := rkF_e0 (r := 1) he
    have e0 : (rkF M q f g v pl m s).2.2 = 0 := rkF_e0 (r := 1) e1
    have hm := rkF_le (M := M) (q := q) (f := f) (g := g) (v := v) (pl := pl) (s := s) m
    have s1 : rkF M q f g v pl (m + 1) s = pushS (rkF M q f g v pl m s) (nI a).toInt64 := by
      show (if _ then _ else _) = _
      rw [if_pos e0]
      unfold rkA
      rw [if_pos (Or.inr k0), ea]
    rw [push_c ha (by omega)] at s1
    have s2 : rkF M q f g v pl (m + 2) s = pushS (rkF M q f g v pl (m + 1) s) (nI b).toInt64 := by
      show (if _ then _ else _) = _
      rw [if_pos e1]
      unfold rkA
      rw [if_pos (Or.inr k1), eb]
    rw [push_c hb (by rw [s1]; show (rkF M q f g v pl m s).2.1 + 1 < 40; omega), s1] at s2
    refine ⟨a, b, ha, hb, ?_, ?_⟩
    · rw [s2]
      simp [popV, toI32_c hb]
    · rw [s2]
      simp [popV, popS, toI32_c ha]
  · exact Or.inr (Or.inr (Or.inr (Or.inr (Or.inr (Or.inl e)))))
  · exact Or.inr (Or.inr (Or.inr (Or.inr (Or.inr (Or.inr (Or.inl e))))))
  · exact Or.inr (Or.inr (Or.inr (Or.inr (Or.inr (Or.inr (Or.inr (Or.inl e)))))))
  · exact Or.inr (Or.inr (Or.inr (Or.inr (Or.inr (Or.inr (Or.inr (Or.inr (Or.inl e))))))))
  · exact Or.inr (Or.inr (Or.inr (Or.inr (Or.inr (Or.inr (Or.inr (Or.inr (Or.inr e))))))))
