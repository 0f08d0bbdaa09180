/-! the reference reads -/
def RdR (n : Nat) (t : Nat → Int32) (σ : RS) : Prop := ((pzC t n cs0).2.1 = 0 ∧ Rel n 6 (pzC t n cs0) σ ∧ σ.2.2.2.2.1 = 0 ∧ htR (rwT σ 82) σ.2.2.2.1 = 1) ∨ (¬ (pzC t n cs0).2.1 = 0 ∧ BdR n σ (pzC t n cs0).2.1)
def rs0 (M : Mem) (ba : Nat) : RS := (0, 0, ba, 0, 0, 0, M.1)
theorem rd_start {M : Mem} {e : Int32} {ba : Nat} (hb : rI M 64 25 = nI ba) : sI (sI (sI (sI (sI (sI M 64 23 e) 64 22 0) 64 24 0) 64 26 0) 64 27 0) 64 28 0 = wr (sI M 64 23 e) (rs0 M ba) := by
  refine Prod.ext ?_ rfl
  funext a j
  show up2 (up2 (up2 (up2 (up2 (up2 M.1 64 23 e) 64 22 0) 64 24 0) 64 26 0) 64 27 0) 64 28 0 a j = (if a = 64 then (if j = 22 then nI 0 else if j = 24 then nI 0 else if j = 25 then nI ba else if j = 26 then nI 0 else if j = 27 then nI 0 else if j = 28 then 0 else up2 M.1 64 23 e a j) else if 82 ≤ a ∧ a ≤ 88 then M.1 a j else up2 M.1 64 23 e a j)
  unfold up2
  by_cases ha : a = 64
  · subst ha
    rw [if_pos rfl]
    by_cases j22 : j = 22
    · subst j22; rfl
    · by_cases j24 : j = 24
      · subst j24; rfl
      · by_cases j25 : j = 25
        · subst j25; exact hb
        · by_cases j26 : j = 26
          · subst j26; rfl
          · by_cases j27 : j = 27
            · subst j27; rfl
            · by_cases j28 : j = 28
              · subst j28; rfl
              · simp only [j22, j24, j25, j26, j27, j28, and_false, if_false]
  · simp only [ha, false_and, if_false]
    split <;> rfl
theorem rel_0 {M : Mem} {ba n : Nat} (hn : 1 ≤ n) : Rel n 6 (avC cs0) (avR (rs0 M ba)) := by
  refine ⟨rfl, rfl, rfl, rfl, Nat.le_refl _, Nat.le_refl _, hn, ⟨fun k hk => absurd hk (Nat.not_lt_zero _), fun k _ hk => absurd hk (Nat.not_lt_zero _), fun p hp => absurd rfl hp⟩, ⟨fun _ => 0, rfl, rfl, fun i hi => absurd hi (Nat.not_lt_zero _)⟩, fun i hi => absurd hi (Nat.not_lt_zero _)⟩
theorem reads_go {M : Mem} {N : Nat} {Q : Option Value → Nat → Mem → Prop} {n ba : Nat} {t : Nat → Int32} (C : Ctx M N n t) (h : ∀ σ, RdR n t σ → Q none N (wr M σ)) {M0 : Mem} : AWh M N Q n 1 (muR (rI M 65) n 61 (rs0 M0 ba)) := by
  have h4 := C.2.2.2.1
  have T := C.2.2.2
  have epz : ∀ co, FZ (paC t n cs0) co → FZ (pzC t n cs0) co := fun co z => by
    unfold pzC
    split
    · rw [fl_f z.1]; exact z
    · exact z
  have ebd : ∀ co, Bd t n (paC t n cs0) co → FZ (pzC t n cs0) co := fun co z => by
    rcases z with z | ⟨z1, z2, -, z4⟩
    · exact epz co z
    · unfold pzC
      rw [if_pos z2, fl_0 z1, c100]
      exact ⟨cnz (by omega) (by omega), z4.symm⟩
  have fin : ∀ co σ, FZ (pzC t n cs0) co → BdR n σ co → Q none N (wr M σ) := fun co σ z b => h σ (Or.inr ⟨z.1, by rw [z.2]; exact b⟩)
  rcases mu_sim T (c := 61) (by decide) (s := cs0) (σ := rs0 M0 ba) rfl rfl rfl (Nat.zero_le _) with ⟨m1, m2, m3, m4⟩ | ⟨co, m1, m2⟩
  · rw [m3]
    have m1' : 0 < n := m1
    have epa : paC t n cs0 = suC t n (faC t n 6) (avC cs0) := by unfold paC; rw [m4]
    have hR := rel_0 (M := M0) (ba := ba) (show 1 ≤ n from m1')
    refine simS C (simP C (simF C 6)) _ _ hR (fun z => absurd z (Nat.lt_irrefl 0)) (fun σ1 hR1 hN1 => ?_) (fun co b σ bb => fin co σ (ebd co (by rw [epa]; exact b)) bb)
    rw [← epa] at hR1 hN1
    have tp0 : σ1.2.2.2.2.1 = 0 := hN1.2.2.2.2.1
    have hm := hR1.mt
    have h7 := hR1.2.2.2.2.2.2.1
    have hh : htR (rwT σ1 82) σ1.2.2.2.1 = 1 := hN1.2.2.2.2.2.2.2.2
    by_cases e : σ1.1 = n
    · refine rd_138e h4 C.1 (by rw [hR1.2.1]; decide) (by omega) rfl e C.2.1 C.2.2.1 ?_
      rw [if_neg (by omega)]
      have e2 : pzC t n cs0 = paC t n cs0 := if_neg (by have := hR1.2.2.1; omega)
      exact h σ1 (Or.inl ⟨by rw [e2]; exact hR1.1, by rw [e2]; exact hR1, tp0, hh⟩)
    · have l : (paC t n cs0).1 < n := by have := hR1.2.2.1; omega
      have e2 : FZ (pzC t n cs0) (nI (100 + (paC t n cs0).1)) := by
        unfold pzC
        rw [if_pos l, fl_0 hR1.1, c100]
        exact ⟨cnz (by omega) (by omega), rfl⟩
      exact nm_fail C hR1 (fun z => by have := z.2.1; omega) (fun z => by have := z.2.1; omega) (Or.inr e) (fin _ _ e2 (fl_bd hR1))
  · have e1 : FZ (paC t n cs0) co := by unfold paC; exact FZ.su m1
    exact bad_w C m2 (fin co _ (epz co e1) m2)
theorem w_X10_reads {M : Mem} {N : Nat} {Q : Option Value → Nat → Mem → Prop} {n : Nat} {t : Nat → Int32} (T : TxO t (rI M 65) n)  (hN : 94 ≤ N) (hs : Str M.2.2.1) (h : ∀ σ, RdR n t σ → Q none N (wr (sI M 64 23 (nI n)) σ)) : AW mX10_reads 4 0 0 N 0 [(0, .ref 64), (1, .int (nI n))] [] M Q := by
  obtain ⟨ba, hba⟩ := nI_surj (rI M 64 25)
  have e65 : rI (sI M 64 23 (nI n)) 65 = rI M 65 := rfl
  refine a_aload_n dX10_reads_0 rfl ?_
  refine a_iload_n dX10_reads_1 rfl ?_
  refine a_putI kfX10_129 rfl rfl rfl (by decide) (hlt hN (by decide)) dX10_reads_2 ?_
  refine a_aload_n dX10_reads_5 rfl ?_
  refine a_iconst (v := 0) dX10_reads_6 (by decide) ?_
  refine a_putI kfX10_126 rfl rfl rfl (by decide) (hlt hN (by decide)) dX10_reads_7 ?_
  refine a_aload_n dX10_reads_10 rfl ?_
  refine a_iconst (v := 0) dX10_reads_11 (by decide) ?_
  refine a_putI kfX10_132 rfl rfl rfl (by decide) (hlt hN (by decide)) dX10_reads_12 ?_
  refine a_aload_n dX10_reads_15 rfl ?_
  refine a_iconst (v := 0) dX10_reads_16 (by decide) ?_
  refine a_putI kfX10_138 rfl rfl rfl (by decide) (hlt hN (by decide)) dX10_reads_17 ?_
  refine a_aload_n dX10_reads_20 rfl ?_
  refine a_iconst (v := 0) dX10_reads_21 (by decide) ?_
  refine a_putI kfX10_141 rfl rfl rfl (by decide) (hlt hN (by decide)) dX10_reads_22 ?_
  refine a_aload_n dX10_reads_25 rfl ?_
  refine a_iconst (v := 0) dX10_reads_26 (by decide) ?_
  refine a_putI kfX10_148 rfl rfl rfl (by decide) (hlt hN (by decide)) dX10_reads_27 ?_
  rw [rd_start hba]
  refine a_aload_n dX10_reads_30 rfl ?_
  refine a_bipush (v := 61) dX10_reads_31 (by decide) ?_
  refine a_callV (mc1 := 0) (ms1 := 0) (As := [_]) kpX10_must kmX10_172 (by decide) rfl (Nat.le_of_ble_eq_true rfl) rfl (by decide) rfl (by decide) (hlt hN (by decide)) (Nat.le_of_ble_eq_true rfl) (Nat.le_of_ble_eq_true rfl) (Nat.le_of_ble_eq_true rfl) dX10_reads_33 (w_X10_must (M := sI M 64 23 (nI n)) T.1 rfl (Nat.zero_lt_succ _) (Nat.zero_lt_succ _) hN (by exact hs) ?_)
  refine a_iconst (v := 1) dX10_reads_36 (by decide) ?_
  refine a_istore_n dX10_reads_37 (by decide) ?_
  refine a_iconst (v := 1) dX10_reads_38 (by decide) ?_
  refine a_istore_n dX10_reads_39 (by decide) ?_
  refine AW.sub (L' := [(0, .ref 64), (1, .int (nI n)), (2, .int 1), (3, .int 1)]) rfl ?_
  exact reads_go (M := sI M 64 23 (nI n)) ⟨rfl, hN, hs, by rw [e65]; exact T⟩ h

