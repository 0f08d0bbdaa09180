/-- the order's entries are cells -/
def POK (t : PS) : Prop := t.2.2 ≤ 64 ∧ ∀ i, i < t.2.2 → ∃ c, c < 64 ∧ t.2.1 i = nI c
theorem appP_ok {t : PS} {c : Nat} (hc : c < 64) (h : POK t) : POK (appP t (nI c)) := by
  refine ⟨appP_n h.1, ?_⟩
  unfold appP
  split
  · intro i hi
    show ∃ c', c' < 64 ∧ (if i = t.2.2 then nI c else t.2.1 i) = nI c'
    by_cases hit : i = t.2.2
    · exact ⟨c, hc, by rw [if_pos hit]⟩
    · obtain ⟨c', h1, h2⟩ := h.2 i (by have : i < t.2.2 + 1 := hi; omega)
      exact ⟨c', h1, by rw [if_neg hit]; exact h2⟩
  · exact h.2
theorem plA_ok {M : Mem} {q c : Nat} {sub : Int32} {t : PS} (hc : c < 64) (h : POK t) : POK (plA M q sub c t) := by
  unfold plA
  split
  · split
    · exact h
    · split
      · exact appP_ok hc h
      · exact h
  · exact h
theorem plW_ok {M : Mem} {q : Nat} {sub : Int32} {t : PS} (h : POK t) : ∀ c, c ≤ 64 → POK (plW M q sub c t)
  | 0, _ => h
  | c + 1, hc => plA_ok (by omega) (plW_ok h c (by omega))
theorem plR_ok {M : Mem} {q : Nat} {sub : Int32} : ∀ (r : Nat) {t : PS}, POK t → POK (plR M q sub r t)
  | 0, _, h => h
  | r + 1, t, h => by
    unfold plR
    split
    · exact plW_ok h 64 (Nat.le_refl _)
    · exact plR_ok r (plW_ok h 64 (Nat.le_refl _))
theorem plE_ok {M : Mem} {q : Nat} {sub : Int32} {t : PS} (hsub : sub = -1 ∨ ∃ c, c < 64 ∧ sub = nI c) (h : POK t) : POK (plE M q sub t) := by
  unfold plE
  split
  · exact h
  · rename_i hs
    obtain ⟨c, hc, rfl⟩ := hsub.resolve_left hs
    split
    · split
      · exact appP_ok hc h
      · exact h
    · exact h
/-- the order as it stands in memory -/
def odF (M : Mem) (g : Nat) : Nat → Nat := fun i => (rI M (g + 4) i).toNatClampNeg
def tdF (M : Mem) (g : Nat) : Nat := (rI M g 6).toNatClampNeg
def ODK (M : Mem) (g : Nat) : Prop := rI M g 6 = nI (tdF M g) ∧ tdF M g ≤ 64 ∧ ∀ i, i < tdF M g → odF M g i < 64 ∧ rI M (g + 4) i = nI (odF M g i)
theorem ODK_wp {M : Mem} {g : Nat} {t : PS} (h : POK t) : ODK (wp M g t) g := by
  have e : tdF (wp M g t) g = t.2.2 := by unfold tdF; rw [wp_rN]; exact nI_clamp (by have := h.1; omega)
  refine ⟨by rw [e, wp_rN], by rw [e]; exact h.1, fun i hi => ?_⟩
  rw [e] at hi
  obtain ⟨c, hc, ec⟩ := h.2 i hi
  have e2 : odF (wp M g t) g i = c := by unfold odF; rw [wp_rO, ec]; exact nI_clamp (by omega)
  rw [e2, wp_rO]
  exact ⟨hc, ec⟩
theorem odF_sm {M M' : Mem} {g : Nat} (hg : FgR g) (h : Smf g M M') : odF M' g = odF M g ∧ tdF M' g = tdF M g := by
  have fx := fg_x hg
  refine ⟨?_, ?_⟩
  · funext i
    unfold odF
    rw [h.1 _ _ fx.2.2.1 fx.2.2.2.1]
  · unfold tdF
    rw [h.1 _ _ fx.1 fx.2.1]
theorem ODK.sm {M M' : Mem} {g : Nat} (hg : FgR g) (h : Smf g M M') (k : ODK M g) : ODK M' g := by
  have fx := fg_x hg
  obtain ⟨e1, e2⟩ := odF_sm hg h
  unfold ODK
  rw [e1, e2, h.1 _ _ fx.1 fx.2.1]
  exact ⟨k.1, k.2.1, fun i hi => ⟨(k.2.2 i hi).1, (h.1 _ _ fx.2.2.1 fx.2.2.2.1).trans (k.2.2 i hi).2⟩⟩
/-- every formula of the sheet q can be done under the change c -/
def SFK (M : Mem) (N c q : Nat) : Prop := ∀ j f, j < 64 → rA M (q + 4) j = some f → FOK M N c f
theorem SFK.sm {M M' : Mem} {g N c q : Nat} (hg : FgR g) (hc : c ≠ 45 ∧ c ≠ g + 3) (h : Smf g M M') (k : SFK M N c q) : SFK M' N c q := fun j f hj hf => (k j f hj (by unfold rA at hf ⊢; rw [h.2.2] at hf; exact hf)).sm h hg hc
noncomputable def rcW (g q v : Nat) (M : Mem) : Mem := folF g q v (odF M g) (tdF M g) (wf M g (lyF M q v 64 (rJ M (g + 2), rI M (g + 3))))
noncomputable def rcO (g q : Nat) : Nat → Mem → Mem
  | 0, M => M
  | v + 1, M => rcW g q v (rcO g q v M)
noncomputable def rrW (g q g2 : Nat) (x : Int64) (v : Nat) (M : Mem) : Mem := folF g q v (odF M g) (tdF M g) (wf M g (llF M g2 v x 64 (lyF M q v 64 (rJ M (g + 2), rI M (g + 3)))))
noncomputable def rrO (g q g2 : Nat) (x : Int64) : Nat → Mem → Mem
  | 0, M => M
  | v + 1, M => rrW g q g2 x v (rrO g q g2 x v M)
theorem rcO_same {g q : Nat} {M : Mem} : ∀ v, Smf g M (rcO g q v M)
  | 0 => Smf.rf
  | v + 1 => ((rcO_same v).tr wf_same).tr (folF_same _)
theorem rrO_same {g q g2 : Nat} {x : Int64} {M : Mem} : ∀ v, Smf g M (rrO g q g2 x v M)
  | 0 => Smf.rf
  | v + 1 => ((rrO_same v).tr wf_same).tr (folF_same _)
theorem isw_t {v n : Nat} {x : Int32} (hx : x = nI n) (hn : n ≤ 6) (hv : v < n) : ¬ (bI (0 ≤ (nI v).toInt ∧ (nI v).toInt < x.toInt) = 0) := by rw [bI_nz, hx, nIt (by omega), nIt (by omega)]; omega
theorem isw_f {v n : Nat} {x : Int32} (hx : x = nI n) (hn : n ≤ 6) (hv : v < 6) (hnv : n ≤ v) : bI (0 ≤ (nI v).toInt ∧ (nI v).toInt < x.toInt) = 0 := by rw [bI_z, hx, nIt (by omega), nIt (by omega)]; omega
theorem l_X1_reckonOwn {M : Mem} {N : Nat} {Q : Option Value → Nat → Mem → Prop} {g q : Nat} (hg : FgR g) (hq : ShR q) {n : Nat} (hn : rI M 5 4 = nI n) (hn6 : n ≤ 6) (hod : ODK M g) (hsf : SFK M N (g + 1) q) (hN : 94 ≤ N) (hs : Str M.2.2.1) (h : Q none N (rcO g q n M)) : ∀ (r k : Nat), k + r = n → AW mX1_reckonOwn 5 0 0 N 24 [(0, .ref g), (1, .ref q), (2, .int (nI k))] [] (rcO g q k M) Q := by
  intro r
  induction r with
  | zero =>
    intro k hk
    have sm := rcO_same (g := g) (q := q) (M := M) k
    have fx := fg_x hg
    have g5 : 5 ≠ 45 ∧ 5 ≠ g + 3 := ⟨by decide, by rcases hg with rfl | rfl | rfl <;> decide⟩
    have hn2 : rI (rcO g q k M) 5 4 = nI n := (sm.1 _ _ g5.1 g5.2).trans hn
    have hs2 : Str (rcO g q k M).2.2.1 := by rw [sm.2.2]; exact hs
    have hs := hs2
    rcases Nat.lt_or_ge k 6 with hk6 | hk6
    · refine a_iload_n dX1_reckonOwn_24 rfl ?_
      refine a_bipush (v := 6) dX1_reckonOwn_25 (by decide) ?_
      refine a_icmp_ge (tgt := 59) dX1_reckonOwn_27 (by decide) (fun c_27 => absurd c_27 (nI_ge (b := 6) hk6 (by decide))) (fun c_27 => ?_)
      refine a_aload_n dX1_reckonOwn_30 rfl ?_
      refine a_getA (z := 5) kfX1_9 (fg_k hg) rfl (fg_0 hs hg) (fg_two hg) (fg_lt hg hN) dX1_reckonOwn_31 ?_
      refine a_iload_n dX1_reckonOwn_34 rfl ?_
      refine a_callV (mc1 := 0) (ms1 := 0) (As := [_]) kpX4_isWorld kmX1_66 (by decide) rfl (Nat.le_of_ble_eq_true rfl) rfl (by decide) rfl (by decide) (hlt hN (by decide)) (Nat.le_of_ble_eq_true rfl) (Nat.le_of_ble_eq_true rfl) (Nat.le_of_ble_eq_true rfl) dX1_reckonOwn_35 (w_X4_isWorld hN hs ?_)
      refine a_if_eq (tgt := 59) dX1_reckonOwn_38 (by decide) (fun c_38 => ?_) (fun c_38 => absurd (isw_f hn2 hn6 hk6 (by omega)) c_38)
      refine a_vret dX1_reckonOwn_59 rfl (by rw [show k = n by omega]; exact h)
    · refine a_iload_n dX1_reckonOwn_24 rfl ?_
      refine a_bipush (v := 6) dX1_reckonOwn_25 (by decide) ?_
      refine a_icmp_ge (tgt := 59) dX1_reckonOwn_27 (by decide) (fun c_27 => ?_) (fun c_27 => absurd (nI_le (a := 6) (by omega) (by omega)) c_27)
      refine a_vret dX1_reckonOwn_59 rfl (by rw [show k = n by omega]; exact h)
  | succ r ih =>
    intro k hk
    have sm := rcO_same (g := g) (q := q) (M := M) k
    have fx := fg_x hg
    have g5 : 5 ≠ 45 ∧ 5 ≠ g + 3 := ⟨by decide, by rcases hg with rfl | rfl | rfl <;> decide⟩
    have hn2 : rI (rcO g q k M) 5 4 = nI n := (sm.1 _ _ g5.1 g5.2).trans hn
    have hs2 : Str (rcO g q k M).2.2.1 := by rw [sm.2.2]; exact hs
    have hs := hs2
    have hkn : k < n := by omega
    have hod2 := hod.sm hg sm
    have hsf2 := hsf.sm hg ⟨fx.2.2.2.2.1, fx.2.2.2.2.2.1⟩ sm
    refine a_iload_n dX1_reckonOwn_24 rfl ?_
    refine a_bipush (v := 6) dX1_reckonOwn_25 (by decide) ?_
    refine a_icmp_ge (tgt := 59) dX1_reckonOwn_27 (by decide) (fun c_27 => absurd c_27 (nI_ge (b := 6) (by omega) (by decide))) (fun c_27 => ?_)
    refine a_aload_n dX1_reckonOwn_30 rfl ?_
    refine a_getA (z := 5) kfX1_9 (fg_k hg) rfl (fg_0 hs hg) (fg_two hg) (fg_lt hg hN) dX1_reckonOwn_31 ?_
    refine a_iload_n dX1_reckonOwn_34 rfl ?_
    refine a_callV (mc1 := 0) (ms1 := 0) (As := [_]) kpX4_isWorld kmX1_66 (by decide) rfl (Nat.le_of_ble_eq_true rfl) rfl (by decide) rfl (by decide) (hlt hN (by decide)) (Nat.le_of_ble_eq_true rfl) (Nat.le_of_ble_eq_true rfl) (Nat.le_of_ble_eq_true rfl) dX1_reckonOwn_35 (w_X4_isWorld hN hs ?_)
    refine a_if_eq (tgt := 59) dX1_reckonOwn_38 (by decide) (fun c_38 => absurd c_38 (isw_t hn2 hn6 hkn)) (fun c_38 => ?_)
    rw [← wf_id (M := rcO g q k M) (g := g)]
    refine a_aload_n dX1_reckonOwn_41 rfl ?_
    refine a_aload_n dX1_reckonOwn_42 rfl ?_
    refine a_iload_n dX1_reckonOwn_43 rfl ?_
    refine a_callV (mc1 := 0) (ms1 := 0) (As := [_, _]) kpX1_layHeld kmX1_70 (by decide) rfl (Nat.le_of_ble_eq_true rfl) (fg_k hg) (by decide) rfl (fg_two hg) (fg_lt hg hN) (Nat.le_of_ble_eq_true rfl) (Nat.le_of_ble_eq_true rfl) (Nat.le_of_ble_eq_true rfl) dX1_reckonOwn_44 (w_X1_layHeld hg hq (show k < 6 by omega) (by rw [hn2, nIt (by omega)]; omega) hN (by exact hs) ?_)
    refine a_aload_n dX1_reckonOwn_47 rfl ?_
    refine a_aload_n dX1_reckonOwn_48 rfl ?_
    refine a_iload_n dX1_reckonOwn_49 rfl ?_
    refine a_callV (mc1 := 0) (ms1 := 0) (As := [_, _]) kpX1_follow kmX1_74 (by decide) rfl (Nat.le_of_ble_eq_true rfl) (fg_k hg) (by decide) rfl (fg_two hg) (fg_lt hg hN) (Nat.le_of_ble_eq_true rfl) (Nat.le_of_ble_eq_true rfl) (Nat.le_of_ble_eq_true rfl) dX1_reckonOwn_50 (w_X1_follow (M := (wf (rcO g q k M) g (lyF (rcO g q k M) q k 64 (rJ (rcO g q k M) (g + 2), rI (rcO g q k M) (g + 3))))) (T := tdF (wf (rcO g q k M) g (lyF (rcO g q k M) q k 64 (rJ (rcO g q k M) (g + 2), rI (rcO g q k M) (g + 3)))) g) (od := odF (wf (rcO g q k M) g (lyF (rcO g q k M) q k 64 (rJ (rcO g q k M) (g + 2), rI (rcO g q k M) (g + 3)))) g) hg hq (show k < 6 by omega) (hod2.sm hg wf_same).1 (hod2.sm hg wf_same).2.1 (hod2.sm hg wf_same).2.2 (fun i f hi hf => (hsf2.sm hg ⟨fx.2.2.2.2.1, fx.2.2.2.2.2.1⟩ wf_same) _ f ((hod2.sm hg wf_same).2.2 i hi).1 hf) hN hs ?_)
    refine a_iinc dX1_reckonOwn_53 rfl rfl (by decide) ?_
    refine a_goto (tgt := 24) dX1_reckonOwn_56 (by decide) ?_
    rw [(odF_sm hg wf_same).1, (odF_sm hg wf_same).2]
    rw [show folF g q k (odF (rcO g q k M) g) (tdF (rcO g q k M) g) (wf (rcO g q k M) g (lyF (rcO g q k M) q k 64 (rJ (rcO g q k M) (g + 2), rI (rcO g q k M) (g + 3)))) = rcO g q (k + 1) M from rfl]
    rw [show nI k + Int32.ofInt 1 = nI (k + 1) from nI_1 k]
    refine AW.sub (L' := [(0, .ref g), (1, .ref q), (2, .int (nI (k + 1)))]) rfl ?_
    exact ih (k + 1) (by omega)
noncomputable def rkO (M : Mem) (g q n : Nat) : Mem := rcO g q n (plT M g q (rJ M 5 2 ||| (rJ M q 5 ^^^ (-1))) (-1))
theorem plT_ok {M : Mem} {g q : Nat} {x : Int64} {sub : Int32} (hsub : sub = -1 ∨ ∃ c, c < 64 ∧ sub = nI c) : ODK (plT M g q x sub) g := ODK_wp (plE_ok hsub (plR_ok 64 ⟨Nat.zero_le _, fun i hi => absurd hi (Nat.not_lt_zero _)⟩))
theorem plT_I {M : Mem} {g q a j : Nat} {x : Int64} {sub : Int32} (h : a ≠ g) (h2 : a ≠ g + 4) : rI (plT M g q x sub) a j = rI M a j := wp_rI h h2
theorem plT_J {M : Mem} {g q a j : Nat} {x : Int64} {sub : Int32} (h : a ≠ g) : rJ (plT M g q x sub) a j = rJ M a j := wp_rJ h
/-- what is the same behind a plan -/
theorem FOK.pl {M : Mem} {N g q c f : Nat} {x : Int64} {sub : Int32} (hg : FgR g) (hc : c ≠ g ∧ c ≠ g + 4) (k : FOK M N c f) : FOK (plT M g q x sub) N c f := by
  obtain ⟨hf, n, h1, ⟨h2, h3, h4⟩, h5⟩ := k
  have h94 := fo_94 hf
  have hg3 : g + 4 < 94 := by rcases hg with rfl | rfl | rfl <;> decide
  have eI : ∀ a j, 94 ≤ a → rI (plT M g q x sub) a j = rI M a j := fun a j ha => plT_I (by omega) (by omega)
  have e1 : zF (plT M g q x sub) f = zF M f := by unfold zF; rw [eI _ _ h94]
  have e2 : plF (plT M g q x sub) f = plF M f := by funext i; unfold plF; rw [eI _ _ (by omega)]
  have eS : ∀ p, chS (plT M g q x sub) c f p = chS M c f p := fun p => by unfold chS; rw [plT_I hc.1 hc.2, plT_I hc.1 hc.2, eI _ _ (by omega)]
  have eO : ∀ p, chO (plT M g q x sub) c f p = chO M c f p := fun p => by unfold chO; rw [plT_I hc.1 hc.2, plT_I hc.1 hc.2, eI _ _ (by omega)]
  refine ⟨hf, n, h1, ?_, ?_⟩
  · rw [e1, e2]
    exact ⟨(eI _ _ h94).trans h2, h3, fun i hi => ⟨(h4 i hi).1, (eI _ _ (by omega)).trans (h4 i hi).2⟩⟩
  · rw [e1, e2]
    intro i hi
    simp only [eS, eO]
    exact h5 i hi
theorem SFK.pl {M : Mem} {N g q q2 c : Nat} {x : Int64} {sub : Int32} (hg : FgR g) (hc : c ≠ g ∧ c ≠ g + 4) (k : SFK M N c q) : SFK (plT M g q2 x sub) N c q := fun j f hj hf => (k j f hj hf).pl hg hc
theorem fg_y {g : Nat} (h : FgR g) : (g + 1 ≠ g ∧ g + 1 ≠ g + 4) ∧ 5 ≠ g ∧ 5 ≠ g + 4 := by rcases h with rfl | rfl | rfl <;> decide
theorem w_X1_reckonOwn {M : Mem} {N : Nat} {Q : Option Value → Nat → Mem → Prop} {g q : Nat} (hg : FgR g) (hq : ShR q) {n : Nat} (hn : rI M 5 4 = nI n) (hn6 : n ≤ 6) (hsf : SFK M N (g + 1) q)  (hN : 94 ≤ N) (hs : Str M.2.2.1) (h : Q (none) N (rkO M g q n)) : AW mX1_reckonOwn 5 0 0 N 0 [(0, .ref g), (1, .ref q)] [] M Q := by
  refine a_aload_n dX1_reckonOwn_0 rfl ?_
  refine a_aload_n dX1_reckonOwn_1 rfl ?_
  refine a_aload_n dX1_reckonOwn_2 rfl ?_
  refine a_getA (z := 5) kfX1_9 (fg_k hg) rfl (fg_0 hs hg) (fg_two hg) (fg_lt hg hN) dX1_reckonOwn_3 ?_
  refine a_callV (mc1 := 0) (ms1 := 0) (As := []) kpX4_inputs kmX1_51 (by decide) rfl (Nat.le_of_ble_eq_true rfl) rfl (by decide) rfl (by decide) (hlt hN (by decide)) (Nat.le_of_ble_eq_true rfl) (Nat.le_of_ble_eq_true rfl) (Nat.le_of_ble_eq_true rfl) dX1_reckonOwn_6 (w_X4_inputs hN hs ?_)
  refine a_aload_n dX1_reckonOwn_9 rfl ?_
  refine a_callV (mc1 := 0) (ms1 := 0) (As := []) kpX7_reckoned kmX1_57 (by decide) rfl (Nat.le_of_ble_eq_true rfl) (sh_k hq) (by decide) rfl (sh_two hq) (sh_lt hq hN) (Nat.le_of_ble_eq_true rfl) (Nat.le_of_ble_eq_true rfl) (Nat.le_of_ble_eq_true rfl) dX1_reckonOwn_10 (w_X7_reckoned hq hN hs ?_)
  refine a_ldc2 kkX1_49 dX1_reckonOwn_13 ?_
  refine a_lxor dX1_reckonOwn_16 ?_
  refine a_lor dX1_reckonOwn_17 ?_
  refine a_iconst (v := (-1)) dX1_reckonOwn_18 (by decide) ?_
  refine a_callV (mc1 := 0) (ms1 := 0) (As := [_, _, _]) kpX1_plan kmX1_62 (by decide) rfl (Nat.le_of_ble_eq_true rfl) (fg_k hg) (by decide) rfl (fg_two hg) (fg_lt hg hN) (Nat.le_of_ble_eq_true rfl) (Nat.le_of_ble_eq_true rfl) (Nat.le_of_ble_eq_true rfl) dX1_reckonOwn_19 (w_X1_plan_n hg hq hN hs ?_)
  refine a_iconst (v := 0) dX1_reckonOwn_22 (by decide) ?_
  refine a_istore_n dX1_reckonOwn_23 (by decide) ?_
  refine AW.sub (L' := [(0, .ref g), (1, .ref q), (2, .int (nI 0))]) rfl ?_
  exact l_X1_reckonOwn hg hq ((plT_I (fg_y hg).2.1 (fg_y hg).2.2).trans hn) hn6 (plT_ok (Or.inl rfl)) (hsf.pl hg (fg_y hg).1) hN (by exact hs) h n 0 (by omega)

theorem l_X1_reckonRight {M : Mem} {N : Nat} {Q : Option Value → Nat → Mem → Prop} {g q : Nat} (hg : FgR g) (hq : ShR q) {g2 : Nat} (hg2 : FgR g2) (hne : g2 ≠ g) {x : Int64} {sb : Int32} {n : Nat} (hn : rI M 5 4 = nI n) (hn6 : n ≤ 6) (hod : ODK M g) (hsf : SFK M N (g + 1) q) (hN : 94 ≤ N) (hs : Str M.2.2.1) (h : Q none N (rrO g q g2 x n M)) : ∀ (r k : Nat), k + r = n → AW mX1_reckonRight 5 0 0 N 46 [(0, .ref g), (1, .ref q), (2, .int sb), (3, .ref g2), (4, .long x), (6, .int (nI k))] [] (rrO g q g2 x k M) Q := by
  intro r
  induction r with
  | zero =>
    intro k hk
    have sm := rrO_same (g := g) (q := q) (g2 := g2) (x := x) (M := M) k
    have fx := fg_x hg
    have g5 : 5 ≠ 45 ∧ 5 ≠ g + 3 := ⟨by decide, by rcases hg with rfl | rfl | rfl <;> decide⟩
    have hn2 : rI (rrO g q g2 x k M) 5 4 = nI n := (sm.1 _ _ g5.1 g5.2).trans hn
    have hs2 : Str (rrO g q g2 x k M).2.2.1 := by rw [sm.2.2]; exact hs
    have hs := hs2
    rcases Nat.lt_or_ge k 6 with hk6 | hk6
    · refine a_iload dX1_reckonRight_46 rfl ?_
      refine a_bipush (v := 6) dX1_reckonRight_48 (by decide) ?_
      refine a_icmp_ge (tgt := 94) dX1_reckonRight_50 (by decide) (fun c_50 => absurd c_50 (nI_ge (b := 6) hk6 (by decide))) (fun c_50 => ?_)
      refine a_aload_n dX1_reckonRight_53 rfl ?_
      refine a_getA (z := 5) kfX1_9 (fg_k hg) rfl (fg_0 hs hg) (fg_two hg) (fg_lt hg hN) dX1_reckonRight_54 ?_
      refine a_iload dX1_reckonRight_57 rfl ?_
      refine a_callV (mc1 := 0) (ms1 := 0) (As := [_]) kpX4_isWorld kmX1_66 (by decide) rfl (Nat.le_of_ble_eq_true rfl) rfl (by decide) rfl (by decide) (hlt hN (by decide)) (Nat.le_of_ble_eq_true rfl) (Nat.le_of_ble_eq_true rfl) (Nat.le_of_ble_eq_true rfl) dX1_reckonRight_59 (w_X4_isWorld hN hs ?_)
      refine a_if_eq (tgt := 94) dX1_reckonRight_62 (by decide) (fun c_62 => ?_) (fun c_62 => absurd (isw_f hn2 hn6 hk6 (by omega)) c_62)
      refine a_vret dX1_reckonRight_94 rfl (by rw [show k = n by omega]; exact h)
    · refine a_iload dX1_reckonRight_46 rfl ?_
      refine a_bipush (v := 6) dX1_reckonRight_48 (by decide) ?_
      refine a_icmp_ge (tgt := 94) dX1_reckonRight_50 (by decide) (fun c_50 => ?_) (fun c_50 => absurd (nI_le (a := 6) (by omega) (by omega)) c_50)
      refine a_vret dX1_reckonRight_94 rfl (by rw [show k = n by omega]; exact h)
  | succ r ih =>
    intro k hk
    have sm := rrO_same (g := g) (q := q) (g2 := g2) (x := x) (M := M) k
    have fx := fg_x hg
    have g5 : 5 ≠ 45 ∧ 5 ≠ g + 3 := ⟨by decide, by rcases hg with rfl | rfl | rfl <;> decide⟩
    have hn2 : rI (rrO g q g2 x k M) 5 4 = nI n := (sm.1 _ _ g5.1 g5.2).trans hn
    have hs2 : Str (rrO g q g2 x k M).2.2.1 := by rw [sm.2.2]; exact hs
    have hs := hs2
    have hkn : k < n := by omega
    have hod2 := hod.sm hg sm
    have hsf2 := hsf.sm hg ⟨fx.2.2.2.2.1, fx.2.2.2.2.2.1⟩ sm
    refine a_iload dX1_reckonRight_46 rfl ?_
    refine a_bipush (v := 6) dX1_reckonRight_48 (by decide) ?_
    refine a_icmp_ge (tgt := 94) dX1_reckonRight_50 (by decide) (fun c_50 => absurd c_50 (nI_ge (b := 6) (by omega) (by decide))) (fun c_50 => ?_)
    refine a_aload_n dX1_reckonRight_53 rfl ?_
    refine a_getA (z := 5) kfX1_9 (fg_k hg) rfl (fg_0 hs hg) (fg_two hg) (fg_lt hg hN) dX1_reckonRight_54 ?_
    refine a_iload dX1_reckonRight_57 rfl ?_
    refine a_callV (mc1 := 0) (ms1 := 0) (As := [_]) kpX4_isWorld kmX1_66 (by decide) rfl (Nat.le_of_ble_eq_true rfl) rfl (by decide) rfl (by decide) (hlt hN (by decide)) (Nat.le_of_ble_eq_true rfl) (Nat.le_of_ble_eq_true rfl) (Nat.le_of_ble_eq_true rfl) dX1_reckonRight_59 (w_X4_isWorld hN hs ?_)
    refine a_if_eq (tgt := 94) dX1_reckonRight_62 (by decide) (fun c_62 => absurd c_62 (isw_t hn2 hn6 hkn)) (fun c_62 => ?_)
    rw [← wf_id (M := rrO g q g2 x k M) (g := g)]
    refine a_aload_n dX1_reckonRight_65 rfl ?_
    refine a_aload_n dX1_reckonRight_66 rfl ?_
    refine a_iload dX1_reckonRight_67 rfl ?_
    refine a_callV (mc1 := 0) (ms1 := 0) (As := [_, _]) kpX1_layHeld kmX1_70 (by decide) rfl (Nat.le_of_ble_eq_true rfl) (fg_k hg) (by decide) rfl (fg_two hg) (fg_lt hg hN) (Nat.le_of_ble_eq_true rfl) (Nat.le_of_ble_eq_true rfl) (Nat.le_of_ble_eq_true rfl) dX1_reckonRight_69 (w_X1_layHeld hg hq (show k < 6 by omega) (by rw [hn2, nIt (by omega)]; omega) hN (by exact hs) ?_)
    refine a_aload_n dX1_reckonRight_72 rfl ?_
    refine a_lload dX1_reckonRight_73 rfl ?_
    refine a_aload_n dX1_reckonRight_75 rfl ?_
    refine a_iload dX1_reckonRight_76 rfl ?_
    refine a_callV (mc1 := 0) (ms1 := 0) (As := [_, _, _]) kpX1_layLent kmX1_84 (by decide) rfl (Nat.le_of_ble_eq_true rfl) (fg_k hg) (by decide) rfl (fg_two hg) (fg_lt hg hN) (Nat.le_of_ble_eq_true rfl) (Nat.le_of_ble_eq_true rfl) (Nat.le_of_ble_eq_true rfl) dX1_reckonRight_78 (w_X1_layLent (M := (rrO g q g2 x k M)) hg hg2 hne (show k < 6 by omega) hN hs ?_)
    refine a_aload_n dX1_reckonRight_81 rfl ?_
    refine a_aload_n dX1_reckonRight_82 rfl ?_
    refine a_iload dX1_reckonRight_83 rfl ?_
    refine a_callV (mc1 := 0) (ms1 := 0) (As := [_, _]) kpX1_follow kmX1_74 (by decide) rfl (Nat.le_of_ble_eq_true rfl) (fg_k hg) (by decide) rfl (fg_two hg) (fg_lt hg hN) (Nat.le_of_ble_eq_true rfl) (Nat.le_of_ble_eq_true rfl) (Nat.le_of_ble_eq_true rfl) dX1_reckonRight_85 (w_X1_follow (M := (wf (rrO g q g2 x k M) g (llF (rrO g q g2 x k M) g2 k x 64 (lyF (rrO g q g2 x k M) q k 64 (rJ (rrO g q g2 x k M) (g + 2), rI (rrO g q g2 x k M) (g + 3)))))) (T := tdF (wf (rrO g q g2 x k M) g (llF (rrO g q g2 x k M) g2 k x 64 (lyF (rrO g q g2 x k M) q k 64 (rJ (rrO g q g2 x k M) (g + 2), rI (rrO g q g2 x k M) (g + 3))))) g) (od := odF (wf (rrO g q g2 x k M) g (llF (rrO g q g2 x k M) g2 k x 64 (lyF (rrO g q g2 x k M) q k 64 (rJ (rrO g q g2 x k M) (g + 2), rI (rrO g q g2 x k M) (g + 3))))) g) hg hq (show k < 6 by omega) (hod2.sm hg wf_same).1 (hod2.sm hg wf_same).2.1 (hod2.sm hg wf_same).2.2 (fun i f hi hf => (hsf2.sm hg ⟨fx.2.2.2.2.1, fx.2.2.2.2.2.1⟩ wf_same) _ f ((hod2.sm hg wf_same).2.2 i hi).1 hf) hN hs ?_)
    refine a_iinc dX1_reckonRight_88 rfl rfl (by decide) ?_
    refine a_goto (tgt := 46) dX1_reckonRight_91 (by decide) ?_
    rw [(odF_sm hg wf_same).1, (odF_sm hg wf_same).2]
    rw [show folF g q k (odF (rrO g q g2 x k M) g) (tdF (rrO g q g2 x k M) g) (wf (rrO g q g2 x k M) g (llF (rrO g q g2 x k M) g2 k x 64 (lyF (rrO g q g2 x k M) q k 64 (rJ (rrO g q g2 x k M) (g + 2), rI (rrO g q g2 x k M) (g + 3))))) = rrO g q g2 x (k + 1) M from rfl]
    rw [show nI k + Int32.ofInt 1 = nI (k + 1) from nI_1 k]
    refine AW.sub (L' := [(0, .ref g), (1, .ref q), (2, .int sb), (3, .ref g2), (4, .long x), (6, .int (nI (k + 1)))]) rfl ?_
    exact ih (k + 1) (by omega)
noncomputable def rkR (M : Mem) (g q g2 c n : Nat) : Mem := rrO g q g2 (rJ M 5 3 &&& (bitL (nI c) ^^^ (-1))) n (plT M g q (rJ M 5 2 ||| (rJ M q 5 ^^^ (-1)) ||| (rJ M 5 3 &&& (bitL (nI c) ^^^ (-1)))) (nI c))
theorem w_X1_reckonRight {M : Mem} {N : Nat} {Q : Option Value → Nat → Mem → Prop} {g2 c : Nat} (hg2 : FgR g2) (hc : c < 64) {g q : Nat} (hg : FgR g) (hq : ShR q) (hne : g2 ≠ g) {n : Nat} (hn : rI M 5 4 = nI n) (hn6 : n ≤ 6) (hsf : SFK M N (g + 1) q)  (hN : 94 ≤ N) (hs : Str M.2.2.1) (h : Q (none) N (rkR M g q g2 c n)) : AW mX1_reckonRight 5 0 0 N 0 [(0, .ref g), (1, .ref q), (2, .int (nI c)), (3, .ref g2)] [] M Q := by
  refine a_aload_n dX1_reckonRight_0 rfl ?_
  refine a_getA (z := 5) kfX1_9 (fg_k hg) rfl (fg_0 hs hg) (fg_two hg) (fg_lt hg hN) dX1_reckonRight_1 ?_
  refine a_callV (mc1 := 0) (ms1 := 0) (As := []) kpX4_wanted kmX1_77 (by decide) rfl (Nat.le_of_ble_eq_true rfl) rfl (by decide) rfl (by decide) (hlt hN (by decide)) (Nat.le_of_ble_eq_true rfl) (Nat.le_of_ble_eq_true rfl) (Nat.le_of_ble_eq_true rfl) dX1_reckonRight_4 (w_X4_wanted hN hs ?_)
  refine a_iload_n dX1_reckonRight_7 rfl ?_
  refine a_callSN (host := "SheetMarker") (mc1 := 0) (ms1 := 0) (As := [_]) kpX9_bit (by decide +kernel) (by decide) rfl (Nat.le_of_ble_eq_true rfl) (Nat.le_of_ble_eq_true rfl) (Nat.le_of_ble_eq_true rfl) (Nat.le_of_ble_eq_true rfl) dX1_reckonRight_8 (w_X9_bit ?_)
  refine a_ldc2 kkX1_49 dX1_reckonRight_11 ?_
  refine a_lxor dX1_reckonRight_14 ?_
  refine a_land dX1_reckonRight_15 ?_
  refine a_lstore dX1_reckonRight_16 (by decide) ?_
  refine a_aload_n dX1_reckonRight_18 rfl ?_
  refine a_aload_n dX1_reckonRight_19 rfl ?_
  refine a_aload_n dX1_reckonRight_20 rfl ?_
  refine a_getA (z := 5) kfX1_9 (fg_k hg) rfl (fg_0 hs hg) (fg_two hg) (fg_lt hg hN) dX1_reckonRight_21 ?_
  refine a_callV (mc1 := 0) (ms1 := 0) (As := []) kpX4_inputs kmX1_51 (by decide) rfl (Nat.le_of_ble_eq_true rfl) rfl (by decide) rfl (by decide) (hlt hN (by decide)) (Nat.le_of_ble_eq_true rfl) (Nat.le_of_ble_eq_true rfl) (Nat.le_of_ble_eq_true rfl) dX1_reckonRight_24 (w_X4_inputs hN hs ?_)
  refine a_aload_n dX1_reckonRight_27 rfl ?_
  refine a_callV (mc1 := 0) (ms1 := 0) (As := []) kpX7_reckoned kmX1_57 (by decide) rfl (Nat.le_of_ble_eq_true rfl) (sh_k hq) (by decide) rfl (sh_two hq) (sh_lt hq hN) (Nat.le_of_ble_eq_true rfl) (Nat.le_of_ble_eq_true rfl) (Nat.le_of_ble_eq_true rfl) dX1_reckonRight_28 (w_X7_reckoned hq hN hs ?_)
  refine a_ldc2 kkX1_49 dX1_reckonRight_31 ?_
  refine a_lxor dX1_reckonRight_34 ?_
  refine a_lor dX1_reckonRight_35 ?_
  refine a_lload dX1_reckonRight_36 rfl ?_
  refine a_lor dX1_reckonRight_38 ?_
  refine a_iload_n dX1_reckonRight_39 rfl ?_
  refine a_callV (mc1 := 0) (ms1 := 0) (As := [_, _, _]) kpX1_plan kmX1_62 (by decide) rfl (Nat.le_of_ble_eq_true rfl) (fg_k hg) (by decide) rfl (fg_two hg) (fg_lt hg hN) (Nat.le_of_ble_eq_true rfl) (Nat.le_of_ble_eq_true rfl) (Nat.le_of_ble_eq_true rfl) dX1_reckonRight_40 (w_X1_plan_c hg hq hc hN hs ?_)
  refine a_iconst (v := 0) dX1_reckonRight_43 (by decide) ?_
  refine a_istore dX1_reckonRight_44 (by decide) ?_
  refine AW.sub (L' := [(0, .ref g), (1, .ref q), (2, .int (nI c)), (3, .ref g2), (4, .long (rJ M 5 3 &&& (bitL (nI c) ^^^ (-1)))), (6, .int (nI 0))]) rfl ?_
  exact l_X1_reckonRight hg hq hg2 hne ((plT_I (fg_y hg).2.1 (fg_y hg).2.2).trans hn) hn6 (plT_ok (Or.inr ⟨c, hc, rfl⟩)) (hsf.pl hg (fg_y hg).1) hN (by exact hs) h n 0 (by omega)

