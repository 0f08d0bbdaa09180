/-- the same but for scratch; J: the task's and the pupil's own figures stay, too -/
def Sx (M M' : Mem) : Prop := (∀ a j, (a < 45 ∨ a = 48 ∨ a = 53 ∨ a = 58 ∨ 64 ≤ a) → rI M' a j = rI M a j) ∧ (∀ a j, (a < 45 ∨ 64 ≤ a) → rJ M' a j = rJ M a j) ∧ M'.2.2 = M.2.2
def Jw (M M' : Mem) : Prop := (∀ a j, (a < 45 ∨ (47 ≤ a ∧ a ≤ 56) ∨ a = 58 ∨ 64 ≤ a) → rI M' a j = rI M a j) ∧ (∀ a j, (a < 45 ∨ (47 ≤ a ∧ a ≤ 56) ∨ 64 ≤ a) → rJ M' a j = rJ M a j) ∧ M'.2.2 = M.2.2
theorem Sx.rf {M : Mem} : Sx M M := ⟨fun _ _ _ => rfl, fun _ _ _ => rfl, rfl⟩
theorem Jw.rf {M : Mem} : Jw M M := ⟨fun _ _ _ => rfl, fun _ _ _ => rfl, rfl⟩
theorem Sx.tr {M M1 M2 : Mem} (h : Sx M M1) (k : Sx M1 M2) : Sx M M2 := ⟨fun a j h1 => (k.1 a j h1).trans (h.1 a j h1), fun a j h1 => (k.2.1 a j h1).trans (h.2.1 a j h1), k.2.2.trans h.2.2⟩
theorem Jw.tr {M M1 M2 : Mem} (h : Jw M M1) (k : Jw M1 M2) : Jw M M2 := ⟨fun a j h1 => (k.1 a j h1).trans (h.1 a j h1), fun a j h1 => (k.2.1 a j h1).trans (h.2.1 a j h1), k.2.2.trans h.2.2⟩
theorem Jw.sx {M M' : Mem} (h : Jw M M') : Sx M M' := ⟨fun a j z => h.1 a j (by omega), fun a j z => h.2.1 a j (by omega), h.2.2⟩
theorem Sc.jw {M M' : Mem} (h : Sc M M') : Jw M M' := ⟨fun a j z => h.1 a j (by omega) (by omega), fun a j z => h.2.1 a j (by omega) (by omega), h.2.2⟩
theorem Smf.jw {M M' : Mem} (h : Smf 57 M M') : Jw M M' := ⟨fun a j z => h.1 a j (by omega) (by omega), fun a j z => h.2.1 a j (by omega) (by omega) (by omega), h.2.2⟩
theorem Smf.sx {M M' : Mem} {g : Nat} (hg : FgR g) (h : Smf g M M') : Sx M M' := by
  rcases hg with rfl | rfl | rfl <;> exact ⟨fun a j z => h.1 a j (by omega) (by omega), fun a j z => h.2.1 a j (by omega) (by omega) (by omega), h.2.2⟩
theorem plT_jw {M : Mem} {q : Nat} {x : Int64} {sub : Int32} : Jw M (plT M 57 q x sub) := ⟨fun a j z => plT_I (by omega) (by omega), fun a j z => plT_J (by omega), rfl⟩
theorem plT_sx {M : Mem} {g q : Nat} {x : Int64} {sub : Int32} (hg : FgR g) : Sx M (plT M g q x sub) := by
  rcases hg with rfl | rfl | rfl <;> exact ⟨fun a j z => plT_I (by omega) (by omega), fun a j z => plT_J (by omega), rfl⟩
theorem rkO_sx {M : Mem} {g q n : Nat} (hg : FgR g) : Sx M (rkO M g q n) := (plT_sx hg).tr ((rcO_same n).sx hg)
theorem rkR_sx {M : Mem} {g q g2 c n : Nat} (hg : FgR g) : Sx M (rkR M g q g2 c n) := (plT_sx hg).tr ((rrO_same n).sx hg)
theorem rkR_jw {M : Mem} {q g2 c n : Nat} : Jw M (rkR M 57 q g2 c n) := plT_jw.tr (rrO_same n).jw
/-- sheets' formulas are well made; the plain changes change nothing; n worlds -/
def SFW (M : Mem) (N q : Nat) : Prop := ∀ j f, j < 64 → rA M (q + 4) j = some f → FRW M N f ∧ FRP M f
def Bas (M : Mem) (N n : Nat) : Prop := rI M 5 4 = nI n ∧ n ≤ 6 ∧ (∀ s, s < 6 → SFW M N (9 + 6 * s)) ∧ (∀ g, FgR g → rI M (g + 1) 0 = -1)
theorem SFW.eq {M M' : Mem} {N q : Nat} (e2 : ∀ a j, 94 ≤ a → rI M' a j = rI M a j) (e3 : M'.2.2 = M.2.2) (h : SFW M N q) : SFW M' N q := by
  intro j f hj hf
  obtain ⟨h1, h2⟩ := h j f hj (by unfold rA at hf ⊢; rw [e3] at hf; exact hf)
  have h94 := fo_94 h1.1
  exact ⟨FRW.eq e2 e3 h1, fun p hp k => by rw [e2 _ _ (by omega)] at k ⊢; exact h2 p hp k⟩
theorem Bas.sx {M M' : Mem} {N n : Nat} (e : Sx M M') (h : Bas M N n) : Bas M' N n := by
  obtain ⟨h1, h2, h3, h4⟩ := h
  refine ⟨(e.1 _ _ (by decide)).trans h1, h2, fun s hs => (h3 s hs).eq (fun a j ha => e.1 _ _ (by omega)) e.2.2, fun g hg => ?_⟩
  rw [e.1 _ _ (by rcases hg with rfl | rfl | rfl <;> decide)]
  exact h4 g hg
theorem ckN {M : Mem} {q f : Nat} (h : rI M q 0 = -1) : ChK M q f := by
  intro p hp e
  rw [h] at e
  have := congrArg Int32.toInt e
  rw [nIt (by omega)] at this
  exact absurd this (by show ¬ ((p : Int) = -1); omega)
theorem Bas.sf {M : Mem} {N n g s : Nat} (h : Bas M N n) (hg : FgR g) (hs : s < 6) : SFK M N (g + 1) (9 + 6 * s) := fun j f hj hf => (h.2.2.1 s hs j f hj hf).1.ok (ckN (h.2.2.2 g hg))
def lenF (M : Mem) (f : Nat) : Nat := M.2.2.2 (f + 1)
theorem lenF_of {M : Mem} {N f : Nat} (h : FRW M N f) : FoF M.2.2 f (lenF M f) := by
  obtain ⟨hf, n, h1, -⟩ := h
  have e : lenF M f = n := h1.2.1
  rw [e]; exact h1
/-- the kind that is told -/
noncomputable def jdK (M : Mem) (q c n : Nat) : Int32 := match rA M (q + 4) c with
  | none => jnF M q c n
  | some f => if alk M 52 c n then 1 else if alk (rkR M 57 q 47 c n) 57 c n then 3 else match slP (rkR M 57 q 47 c n) f c n (lenF M f) with
    | none => 5
    | some _ => 4
noncomputable def jdS (M : Mem) (q c n : Nat) : Option (Nat × Int32) := match rA M (q + 4) c with
  | none => none
  | some f => slP (rkR M 57 q 47 c n) f c n (lenF M f)
theorem jdK_n {M : Mem} {q c n : Nat} (h : rA M (q + 4) c = none) : jdK M q c n = jnF M q c n := by unfold jdK; rw [h]
theorem jdK_1 {M : Mem} {q c n f : Nat} (h : rA M (q + 4) c = some f) (h1 : alk M 52 c n) : jdK M q c n = 1 := by unfold jdK; rw [h]; exact if_pos h1
theorem jdK_3 {M : Mem} {q c n f : Nat} (h : rA M (q + 4) c = some f) (h1 : ¬ alk M 52 c n) (h3 : alk (rkR M 57 q 47 c n) 57 c n) : jdK M q c n = 3 := by unfold jdK; rw [h]; exact (if_neg h1).trans (if_pos h3)
theorem jdK_4 {M : Mem} {q c n f : Nat} {r : Nat × Int32} (h : rA M (q + 4) c = some f) (h1 : ¬ alk M 52 c n) (h3 : ¬ alk (rkR M 57 q 47 c n) 57 c n) (h4 : slP (rkR M 57 q 47 c n) f c n (lenF M f) = some r) : jdK M q c n = 4 := by unfold jdK; rw [h]; refine (if_neg h1).trans ((if_neg h3).trans ?_); rw [h4]
theorem jdK_5 {M : Mem} {q c n f : Nat} (h : rA M (q + 4) c = some f) (h1 : ¬ alk M 52 c n) (h3 : ¬ alk (rkR M 57 q 47 c n) 57 c n) (h4 : slP (rkR M 57 q 47 c n) f c n (lenF M f) = none) : jdK M q c n = 5 := by unfold jdK; rw [h]; refine (if_neg h1).trans ((if_neg h3).trans ?_); rw [h4]
theorem jdS_s {M : Mem} {q c n f : Nat} (h : rA M (q + 4) c = some f) : jdS M q c n = slP (rkR M 57 q 47 c n) f c n (lenF M f) := by unfold jdS; rw [h]
theorem sheetR {s : Nat} (h : s < 6) : ShR (9 + 6 * s) := ⟨s, h, rfl⟩
theorem w_X3_judge {M : Mem} {N : Nat} {Q : Option Value → Nat → Mem → Prop} {s c n : Nat} (hs6 : s < 6) (hc : c < 64) (hB : Bas M N n)  (hN : 94 ≤ N) (hs : Str M.2.2.1) (h : ∀ M', Jw M M' → (∀ r, jdS M (9 + 6 * s) c n = some r → jdK M (9 + 6 * s) c n = 4 → rI M' 62 6 = nI r.1 ∧ rI M' 62 7 = r.2) → Q (some (.int (jdK M (9 + 6 * s) c n))) N M') : AW mX3_judge 6 0 0 N 0 [(0, .ref 62), (1, .ref (9 + 6 * s)), (2, .int (nI c))] [] M Q := by
  have hn := hB.1
  have hn6 := hB.2.1
  refine a_aload_n dX3_judge_0 rfl ?_
  refine a_iload_n dX3_judge_1 rfl ?_
  refine a_callV (mc1 := 0) (ms1 := 0) (As := [_]) kpX7_formulaAt kmX3_49 (by decide) rfl (Nat.le_of_ble_eq_true rfl) (sh_k (sheetR hs6)) (by decide) rfl (sh_two (sheetR hs6)) (sh_lt (sheetR hs6) hN) (Nat.le_of_ble_eq_true rfl) (Nat.le_of_ble_eq_true rfl) (Nat.le_of_ble_eq_true rfl) dX3_judge_2 (w_X7_formulaAt (sheetR hs6) hc hN hs ?_)
  refine a_rv (fun ho_2 => ?_) (fun f_2 ho_2 => ?_)
  · refine a_astore_nN dX3_judge_5 (by decide) ?_
    refine a_aload_nN dX3_judge_6 rfl ?_
    refine a_ifnonnullN dX3_judge_7 ?_
    refine a_aload_n dX3_judge_10 rfl ?_
    refine a_aload_n dX3_judge_11 rfl ?_
    refine a_iload_n dX3_judge_12 rfl ?_
    refine a_callV (mc1 := 0) (ms1 := 0) (As := [_, _]) kpX3_judgeNumber kmX3_55 (by decide) rfl (Nat.le_of_ble_eq_true rfl) rfl (by decide) rfl (by decide) (hlt hN (by decide)) (Nat.le_of_ble_eq_true rfl) (Nat.le_of_ble_eq_true rfl) (Nat.le_of_ble_eq_true rfl) dX3_judge_13 (w_X3_judgeNumber (sheetR hs6) hc hn hn6 hN hs ?_)
    refine a_iret dX3_judge_16 rfl (ret_i (jdK_n ho_2) (h M Jw.rf (fun r z _ => by unfold jdS at z; rw [ho_2] at z; cases z)))
  · obtain ⟨hF, hr⟩ := hB.2.2.1 s hs6 c f_2 hc ho_2
    have hf := hF.1
    have hm := lenF_of hF
    have hB1 : Bas (rkR M 57 (9 + 6 * s) 47 c n) N n := hB.sx (rkR_sx FgR57)
    have hF1 : FRW (rkR M 57 (9 + 6 * s) 47 c n) N f_2 := FRW.eq (M := M) (fun a j ha => (rkR_sx FgR57).1 _ _ (by omega)) (rkR_sx FgR57).2.2 hF
    have hr1 : FRP (rkR M 57 (9 + 6 * s) 47 c n) f_2 := ((SFW.eq (M := M) (q := 9 + 6 * s) (fun a j ha => (rkR_sx FgR57).1 _ _ (by omega)) (rkR_sx FgR57).2.2 (hB.2.2.1 s hs6)) c f_2 hc (by unfold rA; rw [(rkR_sx FgR57).2.2]; exact ho_2)).2
    refine a_astore_n dX3_judge_5 (by decide) ?_
    refine a_aload_n dX3_judge_6 rfl ?_
    refine a_ifnonnull (tgt := 17) dX3_judge_7 (by decide) ?_
    refine a_aload_n dX3_judge_17 rfl ?_
    refine a_aload_n dX3_judge_18 rfl ?_
    refine a_getA (z := 52) kfX3_23 rfl rfl (st_62_4 hs) (by decide) (hlt hN (by decide)) dX3_judge_19 ?_
    refine a_iload_n dX3_judge_22 rfl ?_
    refine a_callV (mc1 := 0) (ms1 := 0) (As := [_, _]) kpX3_isAlike kmX3_59 (by decide) rfl (Nat.le_of_ble_eq_true rfl) rfl (by decide) rfl (by decide) (hlt hN (by decide)) (Nat.le_of_ble_eq_true rfl) (Nat.le_of_ble_eq_true rfl) (Nat.le_of_ble_eq_true rfl) dX3_judge_23 (w_X3_isAlike FgR52 hc hn hn6 hN hs ?_)
    refine a_if_eq (tgt := 31) dX3_judge_26 (by decide) (fun c_26 => ?_) (fun c_26 => ?_)
    · refine a_aload_n dX3_judge_31 rfl ?_
      refine a_getA (z := 57) kfX3_26 rfl rfl (st_62_5 hs) (by decide) (hlt hN (by decide)) dX3_judge_32 ?_
      refine a_aload_n dX3_judge_35 rfl ?_
      refine a_iload_n dX3_judge_36 rfl ?_
      refine a_aload_n dX3_judge_37 rfl ?_
      refine a_getA (z := 47) kfX3_19 rfl rfl (st_62_3 hs) (by decide) (hlt hN (by decide)) dX3_judge_38 ?_
      refine a_callV (mc1 := 0) (ms1 := 0) (As := [_, _, _]) kpX1_reckonRight kmX3_63 (by decide) rfl (Nat.le_of_ble_eq_true rfl) rfl (by decide) rfl (by decide) (hlt hN (by decide)) (Nat.le_of_ble_eq_true rfl) (Nat.le_of_ble_eq_true rfl) (Nat.le_of_ble_eq_true rfl) dX3_judge_41 (w_X1_reckonRight FgR47 hc FgR57 (sheetR hs6) (by decide) hn hn6 (hB.sf FgR57 hs6) hN hs ?_)
      replace hs : Str (rkR M 57 (9 + 6 * s) 47 c n).2.2.1 := by rw [(rkR_sx FgR57).2.2]; exact hs
      refine a_aload_n dX3_judge_44 rfl ?_
      refine a_aload_n dX3_judge_45 rfl ?_
      refine a_getA (z := 57) kfX3_26 rfl rfl (st_62_5 hs) (by decide) (hlt hN (by decide)) dX3_judge_46 ?_
      refine a_iload_n dX3_judge_49 rfl ?_
      refine a_callV (mc1 := 0) (ms1 := 0) (As := [_, _]) kpX3_isAlike kmX3_59 (by decide) rfl (Nat.le_of_ble_eq_true rfl) rfl (by decide) rfl (by decide) (hlt hN (by decide)) (Nat.le_of_ble_eq_true rfl) (Nat.le_of_ble_eq_true rfl) (Nat.le_of_ble_eq_true rfl) dX3_judge_50 (w_X3_isAlike (M := (rkR M 57 (9 + 6 * s) 47 c n)) FgR57 hc hB1.1 hn6 hN (by exact hs) ?_)
      refine a_if_eq (tgt := 58) dX3_judge_53 (by decide) (fun c_53 => ?_) (fun c_53 => ?_)
      · refine a_aload_n dX3_judge_58 rfl ?_
        refine a_aload_n dX3_judge_59 rfl ?_
        refine a_iload_n dX3_judge_60 rfl ?_
        refine a_callV (mc1 := 0) (ms1 := 0) (As := [_, _]) kpX3_findsSlip kmX3_67 (by decide) rfl (Nat.le_of_ble_eq_true rfl) rfl (by decide) rfl (by decide) (hlt hN (by decide)) (Nat.le_of_ble_eq_true rfl) (Nat.le_of_ble_eq_true rfl) (Nat.le_of_ble_eq_true rfl) dX3_judge_61 (w_X3_findsSlip (M := (rkR M 57 (9 + 6 * s) 47 c n)) (m := lenF M f_2) hf (by rw [(rkR_sx FgR57).2.2]; exact hm) hF1 hr1 hc hB1.1 hn6 hN (by exact hs) (fun M2 sc2 => ⟨fun hno => ?_, fun r hr => ?_⟩))
        · have hs2 : Str M2.2.2.1 := by rw [sc2.2.2]; exact hs
          refine a_if_eq (tgt := 71) dX3_judge_64 (by decide) (fun c_64 => ?_) (fun c_64 => absurd rfl c_64)
          refine a_iconst (v := 5) dX3_judge_71 (by decide) ?_
          refine a_iret dX3_judge_72 rfl ?_
          have e5 := jdK_5 ho_2 (bI_z.mp c_26) (bI_z.mp c_53) hno
          have := h M2 (rkR_jw.tr sc2.jw) (fun r _ z => absurd (e5.symm.trans z) (by decide))
          rw [e5] at this
          exact this
        · refine a_if_eq (tgt := 71) dX3_judge_64 (by decide) (fun c_64 => absurd c_64 (by decide)) (fun c_64 => ?_)
          refine a_iconst (v := 4) dX3_judge_67 (by decide) ?_
          refine a_goto (tgt := 72) dX3_judge_68 (by decide) ?_
          refine a_iret dX3_judge_72 rfl ?_
          have e4 := jdK_4 ho_2 (bI_z.mp c_26) (bI_z.mp c_53) hr
          have jw : Jw M2 (sI (sI M2 62 6 (nI r.1)) 62 7 r.2) := ⟨fun a j z => by rw [rI_sI, if_neg (by omega), rI_sI, if_neg (by omega)], fun a j z => rfl, rfl⟩
          have := h (sI (sI M2 62 6 (nI r.1)) 62 7 r.2) ((rkR_jw.tr sc2.jw).tr jw) (fun r' hr' _ => by
            rw [jdS_s ho_2, hr] at hr'
            cases hr'
            exact ⟨by rw [rI_sI, if_neg (by decide), rI_sI, if_pos ⟨rfl, rfl⟩], by rw [rI_sI, if_pos ⟨rfl, rfl⟩]⟩)
          rw [e4] at this
          exact this
      · refine a_iconst (v := 3) dX3_judge_56 (by decide) ?_
        refine a_iret dX3_judge_57 rfl (ret_i (jdK_3 ho_2 (bI_z.mp c_26) (bI_nz.mp c_53)) (h (rkR M 57 (9 + 6 * s) 47 c n) rkR_jw (fun r _ z => absurd ((jdK_3 ho_2 (bI_z.mp c_26) (bI_nz.mp c_53)).symm.trans z) (by decide))))
    · refine a_iconst (v := 1) dX3_judge_29 (by decide) ?_
      refine a_iret dX3_judge_30 rfl (ret_i (jdK_1 ho_2 (bI_nz.mp c_26)) (h M Jw.rf (fun r _ z => absurd ((jdK_1 ho_2 (bI_nz.mp c_26)).symm.trans z) (by decide))))

theorem w_X3_open {M : Mem} {N : Nat} {Q : Option Value → Nat → Mem → Prop} {s n : Nat} (hs6 : s < 6) (hB : Bas M N n)  (hN : 94 ≤ N) (hs : Str M.2.2.1) (h : Q (none) N (rkO (rkO M 47 9 n) 52 (9 + 6 * s) n)) : AW mX3_open 6 0 0 N 0 [(0, .ref 62), (1, .ref 9), (2, .ref (9 + 6 * s))] [] M Q := by
  have hn := hB.1
  have hn6 := hB.2.1
  refine a_aload_n dX3_open_0 rfl ?_
  refine a_ifnull dX3_open_1 ?_
  refine a_aload_n dX3_open_4 rfl ?_
  refine a_ifnull dX3_open_5 ?_
  refine a_aload_n dX3_open_8 rfl ?_
  refine a_getA (z := 47) kfX3_19 rfl rfl (st_62_3 hs) (by decide) (hlt hN (by decide)) dX3_open_9 ?_
  refine a_aload_n dX3_open_12 rfl ?_
  refine a_callV (mc1 := 0) (ms1 := 0) (As := [_]) kpX1_reckonOwn kmX3_43 (by decide) rfl (Nat.le_of_ble_eq_true rfl) rfl (by decide) rfl (by decide) (hlt hN (by decide)) (Nat.le_of_ble_eq_true rfl) (Nat.le_of_ble_eq_true rfl) (Nat.le_of_ble_eq_true rfl) dX3_open_13 (w_X1_reckonOwn FgR47 (sheetR (s := 0) (by decide)) hn hn6 (hB.sf FgR47 (s := 0) (by decide)) hN hs ?_)
  refine a_aload_n dX3_open_16 rfl ?_
  have hs0 := hs
  replace hs : Str (rkO M 47 9 n).2.2.1 := by rw [(rkO_sx FgR47).2.2]; exact hs0
  refine a_getA (z := 52) kfX3_23 rfl rfl (st_62_4 hs) (by decide) (hlt hN (by decide)) dX3_open_17 ?_
  refine a_aload_n dX3_open_20 rfl ?_
  refine a_callV (mc1 := 0) (ms1 := 0) (As := [_]) kpX1_reckonOwn kmX3_43 (by decide) rfl (Nat.le_of_ble_eq_true rfl) rfl (by decide) rfl (by decide) (hlt hN (by decide)) (Nat.le_of_ble_eq_true rfl) (Nat.le_of_ble_eq_true rfl) (Nat.le_of_ble_eq_true rfl) dX3_open_21 (w_X1_reckonOwn (M := rkO M 47 9 n) FgR52 (sheetR hs6) (hB.sx (rkO_sx FgR47)).1 hn6 ((hB.sx (rkO_sx FgR47)).sf FgR52 hs6) hN (by exact hs) ?_)
  refine a_vret dX3_open_24 rfl h

