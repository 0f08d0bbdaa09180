/-! the start -/
noncomputable def bgM (M : Mem) : Mem := rfM (mk (enM (shS (stM (mk M 2 0)) 6)) 64 0)
set_option maxRecDepth 100000 in
set_option maxHeartbeats 4000000 in
theorem bg_I (M : Mem) : (∀ p, rI (bgM M) 66 p = 0) ∧ (∀ p, rI (bgM M) 67 p = 0) ∧ (∀ p, rI (bgM M) 77 p = 0) ∧ (∀ p, rI (bgM M) 78 p = 0) ∧ (∀ p, rI (bgM M) 79 p = 0) ∧ (∀ p, rI (bgM M) 6 p = 0) ∧ (∀ p, rI (bgM M) 7 p = 0) ∧ rI (bgM M) 5 4 = 0 ∧ rI (bgM M) 3 1 = 0 ∧ rI (bgM M) 64 1 = 0 ∧ rI (bgM M) 64 15 = 0 ∧ rI (bgM M) 64 16 = 0 ∧ rI (bgM M) 64 17 = 0 ∧ rI (bgM M) 64 21 = 0 ∧ rI (bgM M) 64 36 = -1 ∧ rI (bgM M) 48 0 = -1 ∧ rI (bgM M) 53 0 = -1 ∧ rI (bgM M) 58 0 = -1 :=
  ⟨fun _ => rfl, fun _ => rfl, fun _ => rfl, fun _ => rfl, fun _ => rfl, fun _ => rfl, fun _ => rfl, rfl, rfl, rfl, rfl, rfl, rfl, rfl, rfl, rfl, rfl, rfl⟩
set_option maxRecDepth 100000 in
set_option maxHeartbeats 4000000 in
theorem bg_J (M : Mem) : rJ (bgM M) 5 2 = 0 ∧ rJ (bgM M) 5 3 = 0 := ⟨rfl, rfl⟩
set_option maxRecDepth 100000 in
set_option maxHeartbeats 4000000 in
theorem bg_S (M : Mem) : ∀ i, i < 6 → (∀ p, rI (bgM M) (9 + 6 * i + 2) p = 0) ∧ (∀ p, rI (bgM M) (9 + 6 * i + 3) p = 0) ∧ rI (bgM M) (9 + 6 * i + 1) 0 = -1 ∧ rJ (bgM M) (9 + 6 * i) 5 = 0 ∧ (∀ p, rJ (bgM M) (9 + 6 * i + 5) p = 0) ∧ ∀ p, rA (bgM M) (9 + 6 * i + 4) p = none
  | 0, _ => ⟨fun _ => rfl, fun _ => rfl, rfl, rfl, fun _ => rfl, fun _ => rfl⟩
  | 1, _ => ⟨fun _ => rfl, fun _ => rfl, rfl, rfl, fun _ => rfl, fun _ => rfl⟩
  | 2, _ => ⟨fun _ => rfl, fun _ => rfl, rfl, rfl, fun _ => rfl, fun _ => rfl⟩
  | 3, _ => ⟨fun _ => rfl, fun _ => rfl, rfl, rfl, fun _ => rfl, fun _ => rfl⟩
  | 4, _ => ⟨fun _ => rfl, fun _ => rfl, rfl, rfl, fun _ => rfl, fun _ => rfl⟩
  | 5, _ => ⟨fun _ => rfl, fun _ => rfl, rfl, rfl, fun _ => rfl, fun _ => rfl⟩
set_option maxRecDepth 100000 in
set_option maxHeartbeats 4000000 in
theorem bg_L (M : Mem) : (bgM M).2.2.2 0 = M.2.2.2 0 := rfl
set_option maxRecDepth 100000 in
set_option maxHeartbeats 4000000 in
theorem bg_T (M : Mem) : Str (bgM M).2.2.1 := by
  unfold Str RTL
  exact List.forall_mem_cons.mpr ⟨rfl, List.forall_mem_cons.mpr ⟨rfl, List.forall_mem_cons.mpr ⟨rfl, List.forall_mem_cons.mpr ⟨rfl, List.forall_mem_cons.mpr ⟨rfl, List.forall_mem_cons.mpr ⟨rfl, List.forall_mem_cons.mpr ⟨rfl, List.forall_mem_cons.mpr ⟨rfl, List.forall_mem_cons.mpr ⟨rfl, List.forall_mem_cons.mpr ⟨rfl, List.forall_mem_cons.mpr ⟨rfl, List.forall_mem_cons.mpr ⟨rfl, List.forall_mem_cons.mpr ⟨rfl, List.forall_mem_cons.mpr ⟨rfl, List.forall_mem_cons.mpr ⟨rfl, List.forall_mem_cons.mpr ⟨rfl, List.forall_mem_cons.mpr ⟨rfl, List.forall_mem_cons.mpr ⟨rfl, List.forall_mem_cons.mpr ⟨rfl, List.forall_mem_cons.mpr ⟨rfl, List.forall_mem_cons.mpr ⟨rfl, List.forall_mem_cons.mpr ⟨rfl, List.forall_mem_cons.mpr ⟨rfl, List.forall_mem_cons.mpr ⟨rfl, List.forall_mem_cons.mpr ⟨rfl, List.forall_mem_cons.mpr ⟨rfl, List.forall_mem_cons.mpr ⟨rfl, List.forall_mem_cons.mpr ⟨rfl, List.forall_mem_cons.mpr ⟨rfl, List.forall_mem_cons.mpr ⟨rfl, List.forall_mem_cons.mpr ⟨rfl, List.forall_mem_cons.mpr ⟨rfl, List.forall_mem_cons.mpr ⟨rfl, List.forall_mem_cons.mpr ⟨rfl, List.forall_mem_cons.mpr ⟨rfl, List.forall_mem_cons.mpr ⟨rfl, List.forall_mem_cons.mpr ⟨rfl, List.forall_mem_cons.mpr ⟨rfl, List.forall_mem_cons.mpr ⟨rfl, List.forall_mem_cons.mpr ⟨rfl, List.forall_mem_cons.mpr ⟨rfl, List.forall_mem_cons.mpr ⟨rfl, List.forall_mem_cons.mpr ⟨rfl, List.forall_mem_cons.mpr ⟨rfl, List.forall_mem_cons.mpr ⟨rfl, List.forall_mem_cons.mpr ⟨rfl, List.forall_mem_cons.mpr ⟨rfl, List.forall_mem_cons.mpr ⟨rfl, List.forall_mem_cons.mpr ⟨rfl, List.forall_mem_cons.mpr ⟨rfl, List.forall_mem_cons.mpr ⟨rfl, List.forall_mem_cons.mpr ⟨rfl, List.forall_mem_cons.mpr ⟨rfl, List.forall_mem_cons.mpr ⟨rfl, List.forall_mem_cons.mpr ⟨rfl, List.forall_mem_cons.mpr ⟨rfl, List.forall_mem_cons.mpr ⟨rfl, List.forall_mem_cons.mpr ⟨rfl, List.forall_mem_cons.mpr ⟨rfl, List.forall_mem_cons.mpr ⟨rfl, List.forall_mem_cons.mpr ⟨rfl, List.forall_mem_cons.mpr ⟨rfl, List.forall_mem_cons.mpr ⟨rfl, List.forall_mem_cons.mpr ⟨rfl, List.forall_mem_cons.mpr ⟨rfl, List.forall_mem_cons.mpr ⟨rfl, List.forall_mem_cons.mpr ⟨rfl, List.forall_mem_cons.mpr ⟨rfl, List.forall_mem_cons.mpr ⟨rfl, List.forall_mem_cons.mpr ⟨rfl, List.forall_mem_cons.mpr ⟨rfl, List.forall_mem_cons.mpr ⟨rfl, List.forall_mem_cons.mpr ⟨rfl, List.forall_mem_cons.mpr ⟨rfl, List.forall_mem_cons.mpr ⟨rfl, List.forall_mem_cons.mpr ⟨rfl, List.forall_mem_cons.mpr ⟨rfl, List.forall_mem_cons.mpr ⟨rfl, List.forall_mem_cons.mpr ⟨rfl, List.forall_mem_cons.mpr ⟨rfl, List.forall_mem_cons.mpr ⟨rfl, List.forall_mem_cons.mpr ⟨rfl, List.forall_mem_cons.mpr ⟨rfl, List.forall_mem_cons.mpr ⟨rfl, List.forall_mem_cons.mpr ⟨rfl, List.forall_mem_cons.mpr ⟨rfl, List.forall_mem_cons.mpr ⟨rfl, List.forall_mem_cons.mpr ⟨rfl, List.forall_mem_cons.mpr ⟨rfl, List.forall_mem_cons.mpr ⟨rfl, List.forall_mem_cons.mpr ⟨rfl, List.forall_mem_cons.mpr ⟨rfl, List.forall_mem_cons.mpr ⟨rfl, List.forall_mem_cons.mpr ⟨rfl, List.forall_mem_cons.mpr ⟨rfl, List.forall_mem_cons.mpr ⟨rfl, List.forall_mem_cons.mpr ⟨rfl, List.forall_mem_cons.mpr ⟨rfl, List.forall_mem_cons.mpr ⟨rfl, List.forall_mem_cons.mpr ⟨rfl, (fun _ h => absurd h List.not_mem_nil)⟩⟩⟩⟩⟩⟩⟩⟩⟩⟩⟩⟩⟩⟩⟩⟩⟩⟩⟩⟩⟩⟩⟩⟩⟩⟩⟩⟩⟩⟩⟩⟩⟩⟩⟩⟩⟩⟩⟩⟩⟩⟩⟩⟩⟩⟩⟩⟩⟩⟩⟩⟩⟩⟩⟩⟩⟩⟩⟩⟩⟩⟩⟩⟩⟩⟩⟩⟩⟩⟩⟩⟩⟩⟩⟩⟩⟩⟩⟩⟩⟩⟩⟩⟩⟩⟩⟩⟩⟩⟩⟩⟩⟩⟩⟩⟩⟩⟩⟩⟩
theorem bg_inv (M : Mem) : Inv (bgM M) 94 0 0 := by
  obtain ⟨i66, i67, i77, i78, i79, i6, i7, i54, i31, i641, i15, i16, i17, i21, i36, i48, i53, i58⟩ := bg_I M
  obtain ⟨j2, j3⟩ := bg_J M
  have hs := bg_S M
  obtain ⟨Z, eZ⟩ : ∃ Z, Z = bgM M := ⟨_, rfl⟩
  have st := bg_T M
  rw [← eZ] at i66 i67 i77 i78 i79 i6 i7 i54 i31 i641 i15 i16 i17 i21 i36 i48 i53 i58 j2 j3 hs st ⊢
  have S : ∀ i, i < 6 → ∀ j, j < 64 → ShC Z i j := fun i hi j hj => by
    obtain ⟨s2, s3, s1, sJ, s5, sA⟩ := hs i hi
    have h0 : rI Z 66 (64 * i + j) = 0 := i66 _
    refine ⟨(s2 j).trans h0.symm, Or.inl h0, ⟨fun z => ?_, fun z => absurd (h0.symm.trans z) (by decide)⟩, fun z => absurd (h0.symm.trans z) (by decide), fun _ => s3 j, fun z => absurd (h0.symm.trans z) (by decide), fun _ => ⟨sA j, s5 j⟩, fun z => absurd (h0.symm.trans z) (by decide)⟩
    rw [sJ, hb_0 hj] at z
    exact absurd z (by decide)
  refine ⟨⟨i54.trans nI_0.symm, by decide, fun s h j f _ e => ?_, fun g hg => ?_⟩, RfI.of S i36 (by decide) (i17.trans nI_0.symm) i21, ⟨fun c hc => ?_, fun c hc => ?_, fun w c _ _ => ?_, fun c _ => ?_, fun c hc z => ?_⟩, S, st, ⟨0, rfl⟩, fun s h => (hs s h).2.2.1, ⟨i31.trans nI_0.symm, i641.trans nI_0.symm, by decide, fun p hp => absurd hp (Nat.not_lt_zero p)⟩, ?_⟩
  · rw [(hs s h).2.2.2.2.2 j] at e
    cases e
  · rcases hg with rfl | rfl | rfl
    · exact i48
    · exact i53
    · exact i58
  · rw [j2, hb_0 hc, i77]
    exact ⟨fun z => absurd z (by decide), fun z => absurd rfl z⟩
  · rw [j3, hb_0 hc, i78]
    exact ⟨fun z => absurd z (by decide), fun z => absurd z (by decide)⟩
  · rw [i6, i79]
  · rw [i7, i78]
  · rw [j2, hb_0 hc] at z
    exact absurd z (by decide)
  · have c0 : ∀ k, k ≤ 64 → cnt 0 k = 0 := by
      intro k
      induction k with
      | zero => intro _; rfl
      | succ k ih =>
        intro h
        unfold cnt
        rw [ih (by omega), hb_0 (by omega)]
        rfl
    unfold Cn
    rw [j2, j3, c0 64 (Nat.le_refl _), i15, i16]
    exact ⟨nI_0.symm, by decide, nI_0.symm, by decide⟩
