theorem w_X5_reckonW {M : Mem} {N : Nat} {Q : Option Value → Nat → Mem → Prop} {q f n z : Nat} {pl : Nat → Nat} (hq : ChR q) (hf : FoR f N) (hm : FoF M.2.2 f n) (hz : FoS M f n z pl) {g v : Nat} (hg : FgR g) (hv : v < 6) (hw : WFo M q f z pl) (hN : 94 ≤ N) (hs : Str M.2.2.1) (h : Q none N (rkE M (rkF M q f g v pl z (rJ M 46, 0, 0)))) : AW mX5_reckon 3 0 0 N 0 [(0, .ref 45), (1, .ref f), (2, .ref q), (3, .ref g), (4, .int (nI v))] [] M Q :=
  w_X5_reckon hq hf hm hz hg hv (hall_of hw (Nat.le_trans hz.2.1 (fo_40 hm)) rfl) hN hs h
def plF (M : Mem) (f : Nat) : Nat → Nat := fun i => (rI M (f + 4) i).toNatClampNeg
def zF (M : Mem) (f : Nat) : Nat := (rI M f 4).toNatClampNeg
/-- a formula that stands in a sheet, under the change q -/
def FOK (M : Mem) (N q f : Nat) : Prop := FoR f N ∧ ∃ n, FoF M.2.2 f n ∧ FoS M f n (zF M f) (plF M f) ∧ WFo M q f (zF M f) (plF M f)
/-- the same but for scratch: the machine, and the figures g -/
def Smf (g : Nat) (M M' : Mem) : Prop := (∀ a j, a ≠ 45 → a ≠ g + 3 → rI M' a j = rI M a j) ∧ (∀ a j, a ≠ 45 → a ≠ 46 → a ≠ g + 2 → rJ M' a j = rJ M a j) ∧ M'.2.2 = M.2.2
theorem Smf.rf {g : Nat} {M : Mem} : Smf g M M := ⟨fun _ _ _ _ => rfl, fun _ _ _ _ _ => rfl, rfl⟩
theorem Smf.tr {g : Nat} {M M1 M2 : Mem} (h : Smf g M M1) (k : Smf g M1 M2) : Smf g M M2 := ⟨fun a j h1 h2 => (k.1 a j h1 h2).trans (h.1 a j h1 h2), fun a j h1 h2 h3 => (k.2.1 a j h1 h2 h3).trans (h.2.1 a j h1 h2 h3), k.2.2.trans h.2.2⟩
theorem rkE_same {g : Nat} {M : Mem} {s : MS} : Smf g M (rkE M s) := by
  unfold rkE
  split
  · exact ⟨fun a j h1 _ => by rw [rI_sJ]; exact wm_rI h1, fun a j h1 h2 _ => by rw [rJ_sJ, if_neg (fun z => h1 z.1)]; exact wm_rJ h2, rfl⟩
  · exact ⟨fun a j h1 _ => by rw [rI_sJ]; exact wm_rI h1, fun a j h1 h2 _ => by rw [rJ_sJ, if_neg (fun z => h1 z.1)]; exact wm_rJ h2, rfl⟩
theorem put_same {g k : Nat} {M : Mem} {x : Int64} {e : Int32} : Smf g M (sI (sJ M (g + 2) k x) (g + 3) k e) :=
  ⟨fun a j _ h2 => by rw [rI_sI, if_neg (fun z => h2 z.1), rI_sJ], fun a j _ _ h3 => by rw [rJ_sI, rJ_sJ, if_neg (fun z => h3 z.1)], rfl⟩
theorem wf_same {g : Nat} {M : Mem} {s : FS} : Smf g M (wf M g s) := ⟨fun _ _ _ h => wf_rI h, fun _ _ _ _ h => wf_rJ h, rfl⟩
theorem chS_sm {g q f p : Nat} {M M' : Mem} (h : Smf g M M') (hg : FgR g) (hq : q ≠ 45 ∧ q ≠ g + 3) (hf : 94 ≤ f) : chS M' q f p = chS M q f p := by
  have hg3 : g + 3 < 94 := by rcases hg with rfl | rfl | rfl <;> decide
  unfold chS
  rw [h.1 _ _ hq.1 hq.2, h.1 _ _ hq.1 hq.2, h.1 _ _ (by omega) (by omega)]
theorem chO_sm {g q f p : Nat} {M M' : Mem} (h : Smf g M M') (hg : FgR g) (hq : q ≠ 45 ∧ q ≠ g + 3) (hf : 94 ≤ f) : chO M' q f p = chO M q f p := by
  have hg3 : g + 3 < 94 := by rcases hg with rfl | rfl | rfl <;> decide
  unfold chO
  rw [h.1 _ _ hq.1 hq.2, h.1 _ _ hq.1 hq.2, h.1 _ _ (by omega) (by omega)]
theorem FOK.sm {g N q f : Nat} {M M' : Mem} (h : Smf g M M') (hg : FgR g) (hq : q ≠ 45 ∧ q ≠ g + 3) (k : FOK M N q f) : FOK M' N q f := by
  obtain ⟨hf, n, h1, ⟨h2, h3, h4⟩, h5⟩ := k
  have h94 := fo_94 hf
  have hg3 : g + 3 < 94 := by rcases hg with rfl | rfl | rfl <;> decide
  have e1 : zF M' f = zF M f := by unfold zF; rw [h.1 _ _ (by omega) (by omega)]
  have e2 : plF M' f = plF M f := by funext i; unfold plF; rw [h.1 _ _ (by omega) (by omega)]
  refine ⟨hf, n, by rw [h.2.2]; exact h1, ?_, ?_⟩
  · rw [e1, e2]
    exact ⟨(h.1 _ _ (by omega) (by omega)).trans h2, h3, fun i hi => ⟨(h4 i hi).1, (h.1 _ _ (by omega) (by omega)).trans (h4 i hi).2⟩⟩
  · rw [e1, e2]
    intro i hi
    obtain ⟨k1, k2, k3⟩ := h5 i hi
    simp only [chS_sm h hg hq h94, chO_sm h hg hq h94]
    exact ⟨k1, k2, k3⟩
noncomputable def folB (g v f c : Nat) (M : Mem) : Mem := sI (sJ (rkE M (rkF M (g + 1) f g v (plF M f) (zF M f) (rJ M 46, 0, 0))) (g + 2) (v * 64 + c) (rJ (rkE M (rkF M (g + 1) f g v (plF M f) (zF M f) (rJ M 46, 0, 0))) 45 3)) (g + 3) (v * 64 + c) (rI (rkE M (rkF M (g + 1) f g v (plF M f) (zF M f) (rJ M 46, 0, 0))) 45 2)
noncomputable def folA (g q v c : Nat) (M : Mem) : Mem := match rA M (q + 4) c with
  | none => M
  | some f => folB g v f c M
noncomputable def folF (g q v : Nat) (od : Nat → Nat) : Nat → Mem → Mem
  | 0, M => M
  | i + 1, M => folA g q v (od i) (folF g q v od i M)
theorem folB_same {g v f c : Nat} {M : Mem} : Smf g M (folB g v f c M) := rkE_same.tr put_same
theorem folA_same {g q v c : Nat} {M : Mem} : Smf g M (folA g q v c M) := by
  unfold folA
  split
  · exact Smf.rf
  · exact folB_same
theorem folF_same {g q v : Nat} {od : Nat → Nat} {M : Mem} : ∀ i, Smf g M (folF g q v od i M)
  | 0 => Smf.rf
  | i + 1 => (folF_same i).tr folA_same
theorem fg_x {g : Nat} (h : FgR g) : g ≠ 45 ∧ g ≠ g + 3 ∧ g + 4 ≠ 45 ∧ g + 4 ≠ g + 3 ∧ g + 1 ≠ 45 ∧ g + 1 ≠ g + 3 ∧ g + 4 ≠ 46 ∧ g + 3 < 94 := by rcases h with rfl | rfl | rfl <;> decide
theorem l_X1_follow {M : Mem} {N : Nat} {Q : Option Value → Nat → Mem → Prop} {g q v T : Nat} {od : Nat → Nat} (hg : FgR g) (hq : ShR q) (hv : v < 6) (hT : rI M g 6 = nI T) (hT6 : T ≤ 64) (hod : ∀ i, i < T → od i < 64 ∧ rI M (g + 4) i = nI (od i)) (hfok : ∀ i f, i < T → rA M (q + 4) (od i) = some f → FOK M N (g + 1) f) (hN : 94 ≤ N) (hs : Str M.2.2.1) (h : Q none N (folF g q v od T M)) : ∀ (r k : Nat), k + r = T → AW mX1_follow 4 0 0 N 2 [(0, .ref g), (1, .ref q), (2, .int (nI v)), (3, .int (nI k))] [] (folF g q v od k M) Q := by
  intro r
  induction r with
  | zero =>
    intro k hk
    have sm := folF_same (g := g) (q := q) (v := v) (od := od) (M := M) k
    have fx := fg_x hg
    have hT2 : rI (folF g q v od k M) g 6 = nI T := (sm.1 _ _ fx.1 fx.2.1).trans hT
    have hs2 : Str (folF g q v od k M).2.2.1 := by rw [sm.2.2]; exact hs
    have hs := hs2
    refine a_iload_n dX1_follow_2 rfl ?_
    refine a_aload_n dX1_follow_3 rfl ?_
    refine a_getI kfX1_88 (fg_k hg) rfl (fg_two hg) (fg_lt hg hN) dX1_follow_4 ?_
    refine a_icmp_ge (tgt := 82) dX1_follow_7 (by decide) (fun c_7 => ?_) (fun c_7 => absurd (by rw [hT2]; exact nI_le (by omega) (by omega)) c_7)
    refine a_vret dX1_follow_82 rfl (by rw [show k = T by omega]; exact h)
  | succ r ih =>
    intro k hk
    have sm := folF_same (g := g) (q := q) (v := v) (od := od) (M := M) k
    have fx := fg_x hg
    have hT2 : rI (folF g q v od k M) g 6 = nI T := (sm.1 _ _ fx.1 fx.2.1).trans hT
    have hs2 : Str (folF g q v od k M).2.2.1 := by rw [sm.2.2]; exact hs
    have hs := hs2
    have hk6 : k < T := by omega
    have hc6 := (hod k hk6).1
    have eo : rI (folF g q v od k M) (g + 4) k = nI (od k) := (sm.1 _ _ fx.2.2.1 fx.2.2.2.1).trans (hod k hk6).2
    have fk : ∀ f, rA (folF g q v od k M) (q + 4) (od k) = some f → FOK (folF g q v od k M) N (g + 1) f := fun f hf => (hfok k f hk6 (by rw [show rA (folF g q v od k M) (q + 4) (od k) = rA M (q + 4) (od k) from by unfold rA; rw [sm.2.2]] at hf; exact hf)).sm sm hg ⟨fx.2.2.2.2.1, fx.2.2.2.2.2.1⟩
    have nxt : ∀ (f : Nat), rA (folF g q v od k M) (q + 4) (od k) = some f → folB g v f (od k) (folF g q v od k M) = folF g q v od (k + 1) M := fun f hf => by show _ = folA g q v (od k) (folF g q v od k M); unfold folA; rw [hf]
    refine a_iload_n dX1_follow_2 rfl ?_
    refine a_aload_n dX1_follow_3 rfl ?_
    refine a_getI kfX1_88 (fg_k hg) rfl (fg_two hg) (fg_lt hg hN) dX1_follow_4 ?_
    refine a_icmp_ge (tgt := 82) dX1_follow_7 (by decide) (fun c_7 => absurd c_7 (by rw [hT2]; exact nI_ge hk6 (by omega))) (fun c_7 => ?_)
    refine a_iload_n dX1_follow_10 rfl ?_
    refine a_aload_n dX1_follow_11 rfl ?_
    refine a_getA (z := (g + 4)) kfX1_34 (fg_k hg) rfl (fg_5 hs hg) (fg_two hg) (fg_lt hg hN) dX1_follow_12 ?_
    refine a_alen (fg_k5 hg) (by decide) (fg_two5 hg) (fg_lt5 hg hN) (fg_lv5 hg) dX1_follow_15 ?_
    refine a_icmp_ge (tgt := 82) dX1_follow_16 (by decide) (fun c_16 => absurd c_16 (nI_ge (b := 64) (by omega) (by decide))) (fun c_16 => ?_)
    refine a_aload_n dX1_follow_19 rfl ?_
    refine a_aload_n dX1_follow_20 rfl ?_
    refine a_getA (z := (g + 4)) kfX1_34 (fg_k hg) rfl (fg_5 hs hg) (fg_two hg) (fg_lt hg hN) dX1_follow_21 ?_
    refine a_iload_n dX1_follow_24 rfl ?_
    refine a_iald (fg_k5 hg) (fg_two5 hg) (fg_lt5 hg hN) (by rw [fg_ln5 hg]; exact j64_in (by omega)) dX1_follow_25 ?_
    rw [j64_c (show k < 64 by omega), eo]
    refine a_callV (mc1 := 0) (ms1 := 0) (As := [_]) kpX7_formulaAt kmX1_120 (by decide) rfl (Nat.le_of_ble_eq_true rfl) (sh_k hq) (by decide) rfl (sh_two hq) (sh_lt hq hN) (Nat.le_of_ble_eq_true rfl) (Nat.le_of_ble_eq_true rfl) (Nat.le_of_ble_eq_true rfl) dX1_follow_26 (w_X7_formulaAt hq hc6 hN hs2 ?_)
    refine a_rv (fun ho_26 => ?_) (fun f_26 ho_26 => ?_)
    · refine a_astoreN dX1_follow_29 (by decide) ?_
      refine a_aloadN dX1_follow_31 rfl ?_
      refine a_ifnullN (tgt := 76) dX1_follow_33 (by decide) ?_
      refine a_iinc dX1_follow_76 rfl rfl (by decide) ?_
      refine a_goto (tgt := 2) dX1_follow_79 (by decide) ?_
      rw [show folF g q v od k M = folF g q v od (k + 1) M from by show _ = folA g q v (od k) (folF g q v od k M); unfold folA; rw [ho_26]]
      rw [show nI k + Int32.ofInt 1 = nI (k + 1) from nI_1 k]
      refine AW.sub (L' := [(0, .ref g), (1, .ref q), (2, .int (nI v)), (3, .int (nI (k + 1)))]) rfl ?_
      exact ih (k + 1) (by omega)
    · obtain ⟨hf, n, hm, hz, hw⟩ := fk f_26 ho_26
      refine a_astore dX1_follow_29 (by decide) ?_
      refine a_aload dX1_follow_31 rfl ?_
      refine a_ifnull dX1_follow_33 ?_
      refine a_aload_n dX1_follow_36 rfl ?_
      refine a_getA (z := 45) kfX1_15 (fg_k hg) rfl (fg_1 hs hg) (fg_two hg) (fg_lt hg hN) dX1_follow_37 ?_
      refine a_aload dX1_follow_40 rfl ?_
      refine a_aload_n dX1_follow_42 rfl ?_
      refine a_getA (z := (g + 1)) kfX1_22 (fg_k hg) rfl (fg_2 hs hg) (fg_two hg) (fg_lt hg hN) dX1_follow_43 ?_
      refine a_aload_n dX1_follow_46 rfl ?_
      refine a_iload_n dX1_follow_47 rfl ?_
      refine a_callV (mc1 := 0) (ms1 := 0) (As := [_, _, _, _]) kpX5_reckon kmX1_124 (by decide) rfl (Nat.le_of_ble_eq_true rfl) rfl (by decide) rfl (by decide) (hlt hN (by decide)) (Nat.le_of_ble_eq_true rfl) (Nat.le_of_ble_eq_true rfl) (Nat.le_of_ble_eq_true rfl) dX1_follow_48 (w_X5_reckonW (fg_ch hg) hf hm hz hg hv hw hN hs2 ?_)
      have eo2 : rI (rkE (folF g q v od k M) (rkF (folF g q v od k M) (g + 1) f_26 g v (plF (folF g q v od k M) f_26) (zF (folF g q v od k M) f_26) (rJ (folF g q v od k M) 46, 0, 0))) (g + 4) k = nI (od k) := ((rkE_same (g := g)).1 _ _ fx.2.2.1 fx.2.2.2.1).trans eo
      have hs3 : Str (rkE (folF g q v od k M) (rkF (folF g q v od k M) (g + 1) f_26 g v (plF (folF g q v od k M) f_26) (zF (folF g q v od k M) f_26) (rJ (folF g q v od k M) 46, 0, 0))).2.2.1 := by rw [(rkE_same (g := g)).2.2]; exact hs2
      have hs := hs3
      refine a_aload_n dX1_follow_51 rfl ?_
      refine a_iload_n dX1_follow_52 rfl ?_
      refine a_aload_n dX1_follow_53 rfl ?_
      refine a_getA (z := (g + 4)) kfX1_34 (fg_k hg) rfl (fg_5 hs hg) (fg_two hg) (fg_lt hg hN) dX1_follow_54 ?_
      refine a_iload_n dX1_follow_57 rfl ?_
      refine a_iald (fg_k5 hg) (fg_two5 hg) (fg_lt5 hg hN) (by rw [fg_ln5 hg]; exact j64_in (by omega)) dX1_follow_58 ?_
      rw [j64_c (show k < 64 by omega), eo2]
      refine a_aload_n dX1_follow_59 rfl ?_
      refine a_getA (z := 45) kfX1_15 (fg_k hg) rfl (fg_1 hs hg) (fg_two hg) (fg_lt hg hN) dX1_follow_60 ?_
      refine a_callV (mc1 := 0) (ms1 := 0) (As := []) kpX5_result kmX1_130 (by decide) rfl (Nat.le_of_ble_eq_true rfl) rfl (by decide) rfl (by decide) (hlt hN (by decide)) (Nat.le_of_ble_eq_true rfl) (Nat.le_of_ble_eq_true rfl) (Nat.le_of_ble_eq_true rfl) dX1_follow_63 (w_X5_result hN hs3 ?_)
      refine a_aload_n dX1_follow_66 rfl ?_
      refine a_getA (z := 45) kfX1_15 (fg_k hg) rfl (fg_1 hs hg) (fg_two hg) (fg_lt hg hN) dX1_follow_67 ?_
      refine a_callV (mc1 := 0) (ms1 := 0) (As := []) kpX5_errorMet kmX1_133 (by decide) rfl (Nat.le_of_ble_eq_true rfl) rfl (by decide) rfl (by decide) (hlt hN (by decide)) (Nat.le_of_ble_eq_true rfl) (Nat.le_of_ble_eq_true rfl) (Nat.le_of_ble_eq_true rfl) dX1_follow_70 (w_X5_errorMet hN hs3 ?_)
      refine a_callV (mc1 := 0) (ms1 := 0) (As := [_, _, _, _]) kpX1_put kmX1_109 (by decide) rfl (Nat.le_of_ble_eq_true rfl) (fg_k hg) (by decide) rfl (fg_two hg) (fg_lt hg hN) (Nat.le_of_ble_eq_true rfl) (Nat.le_of_ble_eq_true rfl) (Nat.le_of_ble_eq_true rfl) dX1_follow_73 (w_X1_put hg hv hc6 hN hs3 ?_)
      refine a_iinc dX1_follow_76 rfl rfl (by decide) ?_
      refine a_goto (tgt := 2) dX1_follow_79 (by decide) ?_
      show AW mX1_follow 4 0 0 N _ _ [] (folB g v f_26 (od k) (folF g q v od k M)) Q
      rw [nxt f_26 ho_26]
      rw [show nI k + Int32.ofInt 1 = nI (k + 1) from nI_1 k]
      refine AW.sub (L' := [(0, .ref g), (1, .ref q), (2, .int (nI v)), (3, .int (nI (k + 1)))]) rfl ?_
      exact ih (k + 1) (by omega)
theorem w_X1_follow {M : Mem} {N : Nat} {Q : Option Value → Nat → Mem → Prop} {g q v T : Nat} {od : Nat → Nat} (hg : FgR g) (hq : ShR q) (hv : v < 6) (hT : rI M g 6 = nI T) (hT6 : T ≤ 64) (hod : ∀ i, i < T → od i < 64 ∧ rI M (g + 4) i = nI (od i)) (hfok : ∀ i f, i < T → rA M (q + 4) (od i) = some f → FOK M N (g + 1) f)  (hN : 94 ≤ N) (hs : Str M.2.2.1) (h : Q (none) N (folF g q v od T M)) : AW mX1_follow 4 0 0 N 0 [(0, .ref g), (1, .ref q), (2, .int (nI v))] [] M Q := by
  refine a_iconst (v := 0) dX1_follow_0 (by decide) ?_
  refine a_istore_n dX1_follow_1 (by decide) ?_
  refine AW.sub (L' := [(0, .ref g), (1, .ref q), (2, .int (nI v)), (3, .int (nI 0))]) rfl ?_
  exact l_X1_follow hg hq hv hT hT6 hod hfok hN hs h T 0 (by omega)

