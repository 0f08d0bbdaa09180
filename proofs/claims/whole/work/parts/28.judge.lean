/-! formulas that are well made -/
def WFr (M : Mem) (f z : Nat) (pl : Nat → Nat) : Prop := ∀ i, i < z → stA (rI M (f + 2) (pl i)) ∧ (rI M (f + 2) (pl i) = 2 ∨ rI M (f + 2) (pl i) = 3 → ∃ c, c < 64 ∧ rI M (f + 3) (pl i) = nI c) ∧ (rI M (f + 2) (pl i) = 5 → ∃ m, i = m + 2 ∧ rI M (f + 2) (pl (m + 1)) = 3 ∧ rI M (f + 2) (pl m) = 3)
def FRW (M : Mem) (N f : Nat) : Prop := FoR f N ∧ ∃ n, FoF M.2.2 f n ∧ FoS M f n (zF M f) (plF M f) ∧ WFr M f (zF M f) (plF M f)
/-- the change q fits the formula f -/
def ChK (M : Mem) (q f : Nat) : Prop := ∀ p, p < 40 → nI p = rI M q 0 → (sgn (rI M (f + 2) p) → sgn (rI M q 1)) ∧ (rI M (f + 2) p = 2 ∨ rI M (f + 2) p = 3 → ∃ c, c < 64 ∧ rI M q 1 = nI c)
theorem sgn_iff {s : Int32} : sgn s ↔ s = 43 ∨ s = 45 ∨ s = 42 ∨ s = 47 := by
  unfold sgn
  rw [← Int32.toInt_inj, ← Int32.toInt_inj, ← Int32.toInt_inj, ← Int32.toInt_inj]
  exact Iff.rfl
theorem chS_raw {M : Mem} {q f p : Nat} (hp : p < 40) (h : ChK M q f) : chS M q f p = rI M (f + 2) p ∨ (sgn (rI M (f + 2) p) ∧ sgn (chS M q f p)) := by
  unfold chS
  split
  · rename_i e
    split
    · rename_i e2
      exact Or.inr ⟨e2, (h p hp e).1 e2⟩
    · exact Or.inl rfl
  · exact Or.inl rfl
theorem chO_c {M : Mem} {q f p : Nat} (hp : p < 40) (h : ChK M q f) (k : rI M (f + 2) p = 2 ∨ rI M (f + 2) p = 3) (r : ∃ c, c < 64 ∧ rI M (f + 3) p = nI c) : ∃ c, c < 64 ∧ chO M q f p = nI c := by
  unfold chO
  split
  · rename_i e
    exact (h p hp e).2 k
  · exact r
theorem sgn_ne {s : Int32} (h : sgn s) : ¬ s = 2 ∧ ¬ s = 3 ∧ ¬ s = 5 := by
  rcases sgn_iff.mp h with rfl | rfl | rfl | rfl <;> decide
theorem FRW.ok {M : Mem} {N q f : Nat} (h : FRW M N f) (hc : ChK M q f) : FOK M N q f := by
  obtain ⟨hf, n, h1, h2, h3⟩ := h
  have h40 : ∀ i, i < zF M f → plF M f i < 40 := fun i hi => Nat.lt_of_lt_of_le (h2.2.2 i hi).1 (fo_40 h1)
  refine ⟨hf, n, h1, h2, fun i hi => ?_⟩
  obtain ⟨a1, a2, a3⟩ := h3 i hi
  rcases chS_raw (p := plF M f i) (h40 i hi) hc with e | ⟨e1, e2⟩
  · refine ⟨by rw [e]; exact a1, fun k => ?_, fun k => ?_⟩
    · rw [e] at k; exact chO_c (h40 i hi) hc k (a2 k)
    · rw [e] at k
      obtain ⟨m, rfl, k1, k2⟩ := a3 k
      refine ⟨m, rfl, ?_, ?_⟩
      · rcases chS_raw (p := plF M f (m + 1)) (h40 _ (by omega)) hc with e | ⟨e1, -⟩
        · rw [e]; exact k1
        · exact absurd k1 (sgn_ne e1).2.1
      · rcases chS_raw (p := plF M f m) (h40 _ (by omega)) hc with e | ⟨e1, -⟩
        · rw [e]; exact k2
        · exact absurd k2 (sgn_ne e1).2.1
  · refine ⟨?_, fun k => ?_, fun k => absurd k (sgn_ne e2).2.2⟩
    · rcases sgn_iff.mp e2 with e | e | e | e <;> rw [e] <;> decide
    · rcases k with k | k
      · exact absurd k (sgn_ne e2).1
      · exact absurd k (sgn_ne e2).2.1
theorem w_X2_needsW {M : Mem} {N : Nat} {Q : Option Value → Nat → Mem → Prop} {q f : Nat} (hk : FRW M N f) (hc : ChK M q f) (hq : ChR q) (hN : 94 ≤ N) (h : Q (some (.long (nsF (csF M q f) (zF M f)).1)) N M) : AW mX2_needs 2 0 0 N 0 [(0, .ref f), (1, .ref q)] [] M Q := by
  obtain ⟨hf, n, h1, h2, h3⟩ := hk
  have h40 : ∀ i, i < zF M f → plF M f i < 40 := fun i hi => Nat.lt_of_lt_of_le (h2.2.2 i hi).1 (fo_40 h1)
  refine w_X2_needs (z := zF M f) (pl := plF M f) hq hf h1 h2 (fun i hi => (h3 i hi).1) (fun i hi e => ?_) hN (by rw [ndF_ns]; exact h)
  obtain ⟨m, rfl, k1, k0⟩ := (h3 i hi).2.2 e
  obtain ⟨b, hb, eb⟩ := chO_c (p := plF M f (m + 1)) (h40 _ (by omega)) hc (Or.inr k1) ((h3 (m + 1) (by omega)).2.1 (Or.inr k1))
  obtain ⟨a, ha, ea⟩ := chO_c (p := plF M f m) (h40 _ (by omega)) hc (Or.inr k0) ((h3 m (by omega)).2.1 (Or.inr k0))
  refine ⟨a, b, ha, hb, ?_, ?_⟩
  · show (ndA M q f (plF M f (m + 1)) (ndA M q f (plF M f m) (ndF M q f (plF M f) m))).2.1 = nI a
    unfold ndA
    rw [if_neg (by rw [k1]; decide), if_pos k1, if_neg (by rw [k0]; decide), if_pos k0]
    exact ea
  · show (ndA M q f (plF M f (m + 1)) (ndF M q f (plF M f) (m + 1))).2.2 = nI b
    unfold ndA
    rw [if_neg (by rw [k1]; decide), if_pos k1]
    exact eb
/-- the same but for the machine -/
def Se (M M' : Mem) : Prop := (∀ a j, a ≠ 45 → rI M' a j = rI M a j) ∧ (∀ a j, a ≠ 45 → a ≠ 46 → rJ M' a j = rJ M a j) ∧ M'.2.2 = M.2.2
theorem Se.rf {M : Mem} : Se M M := ⟨fun _ _ _ => rfl, fun _ _ _ _ => rfl, rfl⟩
theorem Se.tr {M M1 M2 : Mem} (h : Se M M1) (k : Se M1 M2) : Se M M2 := ⟨fun a j h1 => (k.1 a j h1).trans (h.1 a j h1), fun a j h1 h2 => (k.2.1 a j h1 h2).trans (h.2.1 a j h1 h2), k.2.2.trans h.2.2⟩
theorem rkE_se {M : Mem} {s : MS} : Se M (rkE M s) := by
  unfold rkE
  split
  · exact ⟨fun a j h1 => by rw [rI_sJ]; exact wm_rI h1, fun a j h1 h2 => by rw [rJ_sJ, if_neg (fun z => h1 z.1)]; exact wm_rJ h2, rfl⟩
  · exact ⟨fun a j h1 => by rw [rI_sJ]; exact wm_rI h1, fun a j h1 h2 => by rw [rJ_sJ, if_neg (fun z => h1 z.1)]; exact wm_rJ h2, rfl⟩
theorem w_X5_reckonV {M : Mem} {N : Nat} {Q : Option Value → Nat → Mem → Prop} {q f : Nat} (hk : FOK M N q f) (hq : ChR q) {g v : Nat} (hg : FgR g) (hv : v < 6) (hN : 94 ≤ N) (hs : Str M.2.2.1) (h : ∀ M', Se M M' → rI M' 45 2 = (evM M q f g v).2 → rJ M' 45 3 = (evM M q f g v).1 → Q none N M') : AW mX5_reckon 3 0 0 N 0 [(0, .ref 45), (1, .ref f), (2, .ref q), (3, .ref g), (4, .int (nI v))] [] M Q := by
  obtain ⟨hf, n, h1, h2, h3⟩ := hk
  exact w_X5_reckonW hq hf h1 h2 hg hv h3 hN hs (h _ rkE_se rk_I rk_J)
/-- what an evaluation reads -/
theorem ev_cong {M M' : Mem} {q f g v : Nat} (e1 : ∀ j, rI M' q j = rI M q j) (e2 : ∀ a j, 94 ≤ a → rI M' a j = rI M a j) (hf : 94 ≤ f) : cdF M' q f = cdF M q f ∧ csF M' q f = csF M q f ∧ zF M' f = zF M f ∧ plF M' f = plF M f := by
  have ep : plF M' f = plF M f := by funext i; unfold plF; rw [e2 _ _ (by omega)]
  have eS : ∀ p, chS M' q f p = chS M q f p := fun p => by unfold chS; rw [e1, e1, e2 _ _ (by omega)]
  have eO : ∀ p, chO M' q f p = chO M q f p := fun p => by unfold chO; rw [e1, e1, e2 _ _ (by omega)]
  refine ⟨?_, ?_, by unfold zF; rw [e2 _ _ hf], ep⟩
  · unfold cdF; rw [ep]; simp only [eS, eO]
  · unfold csF; rw [ep]; simp only [eO]
    congr 1
    funext i
    rw [e2 _ _ (by omega)]
theorem FRW.eq {M M' : Mem} {N f : Nat} (e2 : ∀ a j, 94 ≤ a → rI M' a j = rI M a j) (e3 : M'.2.2 = M.2.2) (h : FRW M N f) : FRW M' N f := by
  obtain ⟨hf, n, h1, ⟨h2, h3, h4⟩, h5⟩ := h
  have h94 := fo_94 hf
  have ep : plF M' f = plF M f := by funext i; unfold plF; rw [e2 _ _ (by omega)]
  have ez : zF M' f = zF M f := by unfold zF; rw [e2 _ _ h94]
  refine ⟨hf, n, by rw [e3]; exact h1, ?_, ?_⟩
  · rw [ep, ez]
    exact ⟨(e2 _ _ h94).trans h2, h3, fun i hi => ⟨(h4 i hi).1, (e2 _ _ (by omega)).trans (h4 i hi).2⟩⟩
  · rw [ep, ez]
    intro i hi
    have := h5 i hi
    rw [e2 _ _ (by omega), e2 _ _ (by omega)]
    simp only [e2 (f + 2) _ (by omega)]
    exact this
theorem FRW.mN {M : Mem} {N N' f : Nat} (hN : N ≤ N') (h : FRW M N f) : FRW M N' f := by
  obtain ⟨⟨k, e, hk⟩, h⟩ := h
  exact ⟨⟨k, e, by omega⟩, h⟩
/-! what a place can be changed to -/
def nb0 (c : Nat) : Int32 := if 8 ≤ c then nI (c - 8) else -2
def nb1 (c : Nat) : Int32 := if c < 56 then nI (c + 8) else -2
def nb2 (c : Nat) : Int32 := if 0 < c % 8 then nI (c - 1) else -2
def nb3 (c : Nat) : Int32 := if c % 8 < 7 then nI (c + 1) else -2
def nbF (c k : Nat) : Int32 := if k = 0 then nb0 c else if k = 1 then nb1 c else if k = 2 then nb2 c else nb3 c
theorem w_X3_neighbour {M : Mem} {N : Nat} {Q : Option Value → Nat → Mem → Prop} {c k : Nat} (hc : c < 64) (hk : k < 4) (h : Q (some (.int (nbF c k))) N (M)) : AW mX3_neighbour 0 0 0 N 0 [(0, .int (nI c)), (1, .int (nI k))] [] M Q := by
  have e41 : nI (c / 8) ≤ (0 : Int32) ↔ c / 8 ≤ 0 := nI_leI (b := 0) (by omega) (by decide)
  have e57 : (7 : Int32) ≤ nI (c / 8) ↔ 7 ≤ c / 8 := nI_leI (a := 7) (by decide) (by omega)
  have e71 : nI (c % 8) ≤ (0 : Int32) ↔ c % 8 ≤ 0 := nI_leI (b := 0) (by omega) (by decide)
  have e86 : (7 : Int32) ≤ nI (c % 8) ↔ 7 ≤ c % 8 := nI_leI (a := 7) (by decide) (by omega)
  refine a_iload_n dX3_neighbour_0 rfl ?_
  refine a_bipush (v := 8) dX3_neighbour_1 (by decide) ?_
  refine a_idiv dX3_neighbour_3 (by decide) ?_
  rw [show nI c / 8 = nI (c / 8) from div8 hc]
  refine a_istore_n dX3_neighbour_4 (by decide) ?_
  refine a_iload_n dX3_neighbour_5 rfl ?_
  refine a_bipush (v := 8) dX3_neighbour_6 (by decide) ?_
  refine a_irem dX3_neighbour_8 (by decide) ?_
  rw [rem8 hc]
  refine a_istore_n dX3_neighbour_9 (by decide) ?_
  refine a_iload_n dX3_neighbour_10 rfl ?_
  rcases (show k = 0 ∨ k = 1 ∨ k = 2 ∨ k = 3 by omega) with rfl | rfl | rfl | rfl
  · refine a_tableIn (off := 29) (tgt := 40) dX3_neighbour_11 (by decide) (by decide) (by decide) (by decide) ?_
    refine a_iload_n dX3_neighbour_40 rfl ?_
    refine a_if_le (tgt := 51) dX3_neighbour_41 (by decide) (fun c_41 => ?_) (fun c_41 => ?_)
    · refine a_bipush (v := (-2)) dX3_neighbour_51 (by decide) ?_
      refine a_iret dX3_neighbour_53 rfl (by first | (have hp1 : 8 ≤ c := (by rw [e41] at c_41; omega); have hc1 : nb0 c = nI (c - 8) := if_pos hp1; exact ret_i (hc1.trans (pk_sub (a := c) (b := 8) hp1).symm) h) | (have hp1 : ¬ (8 ≤ c) := (by rw [e41] at c_41; omega); have hc1 : nb0 c = -2 := if_neg hp1; exact ret_i hc1 h))
    · refine a_iload_n dX3_neighbour_44 rfl ?_
      refine a_bipush (v := 8) dX3_neighbour_45 (by decide) ?_
      refine a_isub dX3_neighbour_47 ?_
      refine a_goto (tgt := 53) dX3_neighbour_48 (by decide) ?_
      refine a_iret dX3_neighbour_53 rfl (by first | (have hp1 : 8 ≤ c := (by rw [e41] at c_41; omega); have hc1 : nb0 c = nI (c - 8) := if_pos hp1; exact ret_i (hc1.trans (pk_sub (a := c) (b := 8) hp1).symm) h) | (have hp1 : ¬ (8 ≤ c) := (by rw [e41] at c_41; omega); have hc1 : nb0 c = -2 := if_neg hp1; exact ret_i hc1 h))
  · refine a_tableIn (off := 43) (tgt := 54) dX3_neighbour_11 (by decide) (by decide) (by decide) (by decide) ?_
    refine a_iload_n dX3_neighbour_54 rfl ?_
    refine a_bipush (v := 7) dX3_neighbour_55 (by decide) ?_
    refine a_icmp_ge (tgt := 67) dX3_neighbour_57 (by decide) (fun c_57 => ?_) (fun c_57 => ?_)
    · refine a_bipush (v := (-2)) dX3_neighbour_67 (by decide) ?_
      refine a_iret dX3_neighbour_69 rfl (by first | (have hp1 : c < 56 := (by rw [e57] at c_57; omega); have hc1 : nb1 c = nI (c + 8) := if_pos hp1; exact ret_i (hc1.trans (nI_add c 8).symm) h) | (have hp1 : ¬ (c < 56) := (by rw [e57] at c_57; omega); have hc1 : nb1 c = -2 := if_neg hp1; exact ret_i hc1 h))
    · refine a_iload_n dX3_neighbour_60 rfl ?_
      refine a_bipush (v := 8) dX3_neighbour_61 (by decide) ?_
      refine a_iadd dX3_neighbour_63 ?_
      refine a_goto (tgt := 69) dX3_neighbour_64 (by decide) ?_
      refine a_iret dX3_neighbour_69 rfl (by first | (have hp1 : c < 56 := (by rw [e57] at c_57; omega); have hc1 : nb1 c = nI (c + 8) := if_pos hp1; exact ret_i (hc1.trans (nI_add c 8).symm) h) | (have hp1 : ¬ (c < 56) := (by rw [e57] at c_57; omega); have hc1 : nb1 c = -2 := if_neg hp1; exact ret_i hc1 h))
  · refine a_tableIn (off := 59) (tgt := 70) dX3_neighbour_11 (by decide) (by decide) (by decide) (by decide) ?_
    refine a_iload_n dX3_neighbour_70 rfl ?_
    refine a_if_le (tgt := 80) dX3_neighbour_71 (by decide) (fun c_71 => ?_) (fun c_71 => ?_)
    · refine a_bipush (v := (-2)) dX3_neighbour_80 (by decide) ?_
      refine a_iret dX3_neighbour_82 rfl (by first | (have hp1 : 0 < c % 8 := (by rw [e71] at c_71; omega); have hc1 : nb2 c = nI (c - 1) := if_pos hp1; exact ret_i (hc1.trans (pk_sub (a := c) (b := 1) (by omega)).symm) h) | (have hp1 : ¬ (0 < c % 8) := (by rw [e71] at c_71; omega); have hc1 : nb2 c = -2 := if_neg hp1; exact ret_i hc1 h))
    · refine a_iload_n dX3_neighbour_74 rfl ?_
      refine a_iconst (v := 1) dX3_neighbour_75 (by decide) ?_
      refine a_isub dX3_neighbour_76 ?_
      refine a_goto (tgt := 82) dX3_neighbour_77 (by decide) ?_
      refine a_iret dX3_neighbour_82 rfl (by first | (have hp1 : 0 < c % 8 := (by rw [e71] at c_71; omega); have hc1 : nb2 c = nI (c - 1) := if_pos hp1; exact ret_i (hc1.trans (pk_sub (a := c) (b := 1) (by omega)).symm) h) | (have hp1 : ¬ (0 < c % 8) := (by rw [e71] at c_71; omega); have hc1 : nb2 c = -2 := if_neg hp1; exact ret_i hc1 h))
  · refine a_tableIn (off := 72) (tgt := 83) dX3_neighbour_11 (by decide) (by decide) (by decide) (by decide) ?_
    refine a_iload_n dX3_neighbour_83 rfl ?_
    refine a_bipush (v := 7) dX3_neighbour_84 (by decide) ?_
    refine a_icmp_ge (tgt := 95) dX3_neighbour_86 (by decide) (fun c_86 => ?_) (fun c_86 => ?_)
    · refine a_bipush (v := (-2)) dX3_neighbour_95 (by decide) ?_
      refine a_iret dX3_neighbour_97 rfl (by first | (have hp1 : c % 8 < 7 := (by rw [e86] at c_86; omega); have hc1 : nb3 c = nI (c + 1) := if_pos hp1; exact ret_i (hc1.trans (nI_add c 1).symm) h) | (have hp1 : ¬ (c % 8 < 7) := (by rw [e86] at c_86; omega); have hc1 : nb3 c = -2 := if_neg hp1; exact ret_i hc1 h))
    · refine a_iload_n dX3_neighbour_89 rfl ?_
      refine a_iconst (v := 1) dX3_neighbour_90 (by decide) ?_
      refine a_iadd dX3_neighbour_91 ?_
      refine a_goto (tgt := 97) dX3_neighbour_92 (by decide) ?_
      refine a_iret dX3_neighbour_97 rfl (by first | (have hp1 : c % 8 < 7 := (by rw [e86] at c_86; omega); have hc1 : nb3 c = nI (c + 1) := if_pos hp1; exact ret_i (hc1.trans (nI_add c 1).symm) h) | (have hp1 : ¬ (c % 8 < 7) := (by rw [e86] at c_86; omega); have hc1 : nb3 c = -2 := if_neg hp1; exact ret_i hc1 h))

def sgv (k : Nat) : Int32 := if k = 0 then 43 else if k = 1 then 45 else if k = 2 then 42 else 47
def opF (s o : Int32) (k : Nat) : Int32 := if s.toInt = 43 ∨ s.toInt = 45 ∨ s.toInt = 42 ∨ s.toInt = 47 then (if sgv k = s then -2 else sgv k) else if s = 1 then (if nI k = 0 then o + 1 else if nI k = 1 then o - 1 else -2) else if s = 2 ∨ s = 3 then nbF o.toNatClampNeg k else -2
theorem w_X3_option {M : Mem} {N : Nat} {Q : Option Value → Nat → Mem → Prop} {f n : Nat} (hf : FoR f N) (hm : FoF M.2.2 f n) {p k : Nat} (hp : p < n) (hk : k < 4) (ho : rI M (f + 2) p = 2 ∨ rI M (f + 2) p = 3 → ∃ c, c < 64 ∧ rI M (f + 3) p = nI c)  (h : Q (some (.int (opF (rI M (f + 2) p) (rI M (f + 3) p) k))) N (M)) : AW mX3_option 1 0 0 N 0 [(0, .ref f), (1, .int (nI p)), (2, .int (nI k))] [] M Q := by
  have hclp : (nI k).toNatClampNeg = k := nI_clamp (by omega)
  refine a_aload_n dX3_option_0 rfl ?_
  refine a_iload_n dX3_option_1 rfl ?_
  refine a_callV (mc1 := 0) (ms1 := 0) (As := [_]) kpX2_stepAt kmX3_90 (by decide) rfl (Nat.le_of_ble_eq_true rfl) (fo_k hf) (by decide) rfl (fo_two hf) (fo_lt hf) (Nat.le_of_ble_eq_true rfl) (Nat.le_of_ble_eq_true rfl) (Nat.le_of_ble_eq_true rfl) dX3_option_2 (w_X2_stepAt hf hm hp ?_)
  refine a_istore_n dX3_option_5 (by decide) ?_
  refine a_aload_n dX3_option_6 rfl ?_
  refine a_iload_n dX3_option_7 rfl ?_
  refine a_callV (mc1 := 0) (ms1 := 0) (As := [_]) kpX2_operandAt kmX3_134 (by decide) rfl (Nat.le_of_ble_eq_true rfl) (fo_k hf) (by decide) rfl (fo_two hf) (fo_lt hf) (Nat.le_of_ble_eq_true rfl) (Nat.le_of_ble_eq_true rfl) (Nat.le_of_ble_eq_true rfl) dX3_option_8 (w_X2_operandAt hf hm hp ?_)
  refine a_istore dX3_option_11 (by decide) ?_
  refine a_iload_n dX3_option_13 rfl ?_
  refine a_callSN (host := "SheetMarker") (mc1 := 0) (ms1 := 0) (As := [_]) kpX9_isSign (by decide +kernel) (by decide) rfl (Nat.le_of_ble_eq_true rfl) (Nat.le_of_ble_eq_true rfl) (Nat.le_of_ble_eq_true rfl) (Nat.le_of_ble_eq_true rfl) dX3_option_14 (w_X9_isSign ?_)
  refine a_if_eq (tgt := 52) dX3_option_17 (by decide) (fun c_17 => ?_) (fun c_17 => ?_)
  · refine a_iload_n dX3_option_52 rfl ?_
    refine a_iconst (v := 1) dX3_option_53 (by decide) ?_
    refine a_icmp_ne (tgt := 83) dX3_option_54 (by decide) (fun c_54 => ?_) (fun c_54 => ?_)
    · refine a_iload_n dX3_option_83 rfl ?_
      refine a_iconst (v := 2) dX3_option_84 (by decide) ?_
      refine a_icmp_eq (tgt := 93) dX3_option_85 (by decide) (fun c_85 => ?_) (fun c_85 => ?_)
      · obtain ⟨c, hc, ec⟩ := ho (Or.inl c_85)
        rw [ec]
        refine a_iload dX3_option_93 rfl ?_
        refine a_iload_n dX3_option_95 rfl ?_
        refine a_callS (mc1 := 0) (ms1 := 0) (As := [_, _]) kpX3_neighbour kmX3_144 (by decide) rfl (Nat.le_of_ble_eq_true rfl) (Nat.le_of_ble_eq_true rfl) (Nat.le_of_ble_eq_true rfl) (Nat.le_of_ble_eq_true rfl) dX3_option_96 (w_X3_neighbour hc hk ?_)
        refine a_goto (tgt := 104) dX3_option_99 (by decide) ?_
        refine a_iret dX3_option_104 rfl (ret_i (by unfold opF; first | (rw [if_pos (bI_nz.mp c_17), if_pos c_38]) | (rw [if_pos (bI_nz.mp c_17), if_neg c_38]) | (rw [if_neg (bI_z.mp c_17), if_pos c_54, if_pos c_58]) | (rw [if_neg (bI_z.mp c_17), if_pos c_54, if_neg c_58, if_pos c_70]) | (rw [if_neg (bI_z.mp c_17), if_pos c_54, if_neg c_58, if_neg c_70]) | (rw [if_neg (bI_z.mp c_17), if_neg c_54, if_pos (Or.inl c_85), ec, nI_clamp (by omega)]) | (rw [if_neg (bI_z.mp c_17), if_neg c_54, if_pos (Or.inr c_90), ec, nI_clamp (by omega)]) | (rw [if_neg (bI_z.mp c_17), if_neg c_54, if_neg (fun z => z.elim c_85 c_90)])) h)
      · refine a_iload_n dX3_option_88 rfl ?_
        refine a_iconst (v := 3) dX3_option_89 (by decide) ?_
        refine a_icmp_ne (tgt := 102) dX3_option_90 (by decide) (fun c_90 => ?_) (fun c_90 => ?_)
        · refine a_bipush (v := (-2)) dX3_option_102 (by decide) ?_
          refine a_iret dX3_option_104 rfl (ret_i (by unfold opF; first | (rw [if_pos (bI_nz.mp c_17), if_pos c_38]) | (rw [if_pos (bI_nz.mp c_17), if_neg c_38]) | (rw [if_neg (bI_z.mp c_17), if_pos c_54, if_pos c_58]) | (rw [if_neg (bI_z.mp c_17), if_pos c_54, if_neg c_58, if_pos c_70]) | (rw [if_neg (bI_z.mp c_17), if_pos c_54, if_neg c_58, if_neg c_70]) | (rw [if_neg (bI_z.mp c_17), if_neg c_54, if_pos (Or.inl c_85), ec, nI_clamp (by omega)]) | (rw [if_neg (bI_z.mp c_17), if_neg c_54, if_pos (Or.inr c_90), ec, nI_clamp (by omega)]) | (rw [if_neg (bI_z.mp c_17), if_neg c_54, if_neg (fun z => z.elim c_85 c_90)])) h)
        · obtain ⟨c, hc, ec⟩ := ho (Or.inr c_90)
          rw [ec]
          refine a_iload dX3_option_93 rfl ?_
          refine a_iload_n dX3_option_95 rfl ?_
          refine a_callS (mc1 := 0) (ms1 := 0) (As := [_, _]) kpX3_neighbour kmX3_144 (by decide) rfl (Nat.le_of_ble_eq_true rfl) (Nat.le_of_ble_eq_true rfl) (Nat.le_of_ble_eq_true rfl) (Nat.le_of_ble_eq_true rfl) dX3_option_96 (w_X3_neighbour hc hk ?_)
          refine a_goto (tgt := 104) dX3_option_99 (by decide) ?_
          refine a_iret dX3_option_104 rfl (ret_i (by unfold opF; first | (rw [if_pos (bI_nz.mp c_17), if_pos c_38]) | (rw [if_pos (bI_nz.mp c_17), if_neg c_38]) | (rw [if_neg (bI_z.mp c_17), if_pos c_54, if_pos c_58]) | (rw [if_neg (bI_z.mp c_17), if_pos c_54, if_neg c_58, if_pos c_70]) | (rw [if_neg (bI_z.mp c_17), if_pos c_54, if_neg c_58, if_neg c_70]) | (rw [if_neg (bI_z.mp c_17), if_neg c_54, if_pos (Or.inl c_85), ec, nI_clamp (by omega)]) | (rw [if_neg (bI_z.mp c_17), if_neg c_54, if_pos (Or.inr c_90), ec, nI_clamp (by omega)]) | (rw [if_neg (bI_z.mp c_17), if_neg c_54, if_neg (fun z => z.elim c_85 c_90)])) h)
    · refine a_iload_n dX3_option_57 rfl ?_
      refine a_if_ne (tgt := 68) dX3_option_58 (by decide) (fun c_58 => ?_) (fun c_58 => ?_)
      · refine a_iload_n dX3_option_68 rfl ?_
        refine a_iconst (v := 1) dX3_option_69 (by decide) ?_
        refine a_icmp_ne (tgt := 80) dX3_option_70 (by decide) (fun c_70 => ?_) (fun c_70 => ?_)
        · refine a_bipush (v := (-2)) dX3_option_80 (by decide) ?_
          refine a_iret dX3_option_82 rfl (ret_i (by unfold opF; first | (rw [if_pos (bI_nz.mp c_17), if_pos c_38]) | (rw [if_pos (bI_nz.mp c_17), if_neg c_38]) | (rw [if_neg (bI_z.mp c_17), if_pos c_54, if_pos c_58]) | (rw [if_neg (bI_z.mp c_17), if_pos c_54, if_neg c_58, if_pos c_70]) | (rw [if_neg (bI_z.mp c_17), if_pos c_54, if_neg c_58, if_neg c_70]) | (rw [if_neg (bI_z.mp c_17), if_neg c_54, if_pos (Or.inl c_85), ec, nI_clamp (by omega)]) | (rw [if_neg (bI_z.mp c_17), if_neg c_54, if_pos (Or.inr c_90), ec, nI_clamp (by omega)]) | (rw [if_neg (bI_z.mp c_17), if_neg c_54, if_neg (fun z => z.elim c_85 c_90)])) h)
        · refine a_iload dX3_option_73 rfl ?_
          refine a_iconst (v := 1) dX3_option_75 (by decide) ?_
          refine a_isub dX3_option_76 ?_
          refine a_goto (tgt := 82) dX3_option_77 (by decide) ?_
          refine a_iret dX3_option_82 rfl (ret_i (by unfold opF; first | (rw [if_pos (bI_nz.mp c_17), if_pos c_38]) | (rw [if_pos (bI_nz.mp c_17), if_neg c_38]) | (rw [if_neg (bI_z.mp c_17), if_pos c_54, if_pos c_58]) | (rw [if_neg (bI_z.mp c_17), if_pos c_54, if_neg c_58, if_pos c_70]) | (rw [if_neg (bI_z.mp c_17), if_pos c_54, if_neg c_58, if_neg c_70]) | (rw [if_neg (bI_z.mp c_17), if_neg c_54, if_pos (Or.inl c_85), ec, nI_clamp (by omega)]) | (rw [if_neg (bI_z.mp c_17), if_neg c_54, if_pos (Or.inr c_90), ec, nI_clamp (by omega)]) | (rw [if_neg (bI_z.mp c_17), if_neg c_54, if_neg (fun z => z.elim c_85 c_90)])) h)
      · refine a_iload dX3_option_61 rfl ?_
        refine a_iconst (v := 1) dX3_option_63 (by decide) ?_
        refine a_iadd dX3_option_64 ?_
        refine a_goto (tgt := 82) dX3_option_65 (by decide) ?_
        refine a_iret dX3_option_82 rfl (ret_i (by unfold opF; first | (rw [if_pos (bI_nz.mp c_17), if_pos c_38]) | (rw [if_pos (bI_nz.mp c_17), if_neg c_38]) | (rw [if_neg (bI_z.mp c_17), if_pos c_54, if_pos c_58]) | (rw [if_neg (bI_z.mp c_17), if_pos c_54, if_neg c_58, if_pos c_70]) | (rw [if_neg (bI_z.mp c_17), if_pos c_54, if_neg c_58, if_neg c_70]) | (rw [if_neg (bI_z.mp c_17), if_neg c_54, if_pos (Or.inl c_85), ec, nI_clamp (by omega)]) | (rw [if_neg (bI_z.mp c_17), if_neg c_54, if_pos (Or.inr c_90), ec, nI_clamp (by omega)]) | (rw [if_neg (bI_z.mp c_17), if_neg c_54, if_neg (fun z => z.elim c_85 c_90)])) h)
  · refine a_iload_n dX3_option_20 rfl ?_
    refine a_if_lt (tgt := 49) dX3_option_21 (by decide) (fun c_21 => absurd c_21 (nI_pos (by omega))) (fun c_21 => ?_)
    refine a_iload_n dX3_option_24 rfl ?_
    refine a_gets rfl rfl dX3_option_25 ?_
    refine a_sglen dX3_option_28 ?_
    refine a_icmp_ge (tgt := 49) dX3_option_29 (by decide) (fun c_29 => absurd c_29 (nI_ge (b := 4) hk (by decide))) (fun c_29 => ?_)
    refine a_gets rfl rfl dX3_option_32 ?_
    refine a_iload_n dX3_option_35 rfl ?_
    refine a_sgld (vp_in_nI hk (by decide)) rfl dX3_option_36 ?_
    rw [hclp, show (if k = 0 then (43 : Int32) else if k = 1 then 45 else if k = 2 then 42 else 47) = sgv k from rfl]
    refine a_iload_n dX3_option_37 rfl ?_
    refine a_icmp_eq (tgt := 49) dX3_option_38 (by decide) (fun c_38 => ?_) (fun c_38 => ?_)
    · refine a_bipush (v := (-2)) dX3_option_49 (by decide) ?_
      refine a_iret dX3_option_51 rfl (ret_i (by unfold opF; first | (rw [if_pos (bI_nz.mp c_17), if_pos c_38]) | (rw [if_pos (bI_nz.mp c_17), if_neg c_38]) | (rw [if_neg (bI_z.mp c_17), if_pos c_54, if_pos c_58]) | (rw [if_neg (bI_z.mp c_17), if_pos c_54, if_neg c_58, if_pos c_70]) | (rw [if_neg (bI_z.mp c_17), if_pos c_54, if_neg c_58, if_neg c_70]) | (rw [if_neg (bI_z.mp c_17), if_neg c_54, if_pos (Or.inl c_85), ec, nI_clamp (by omega)]) | (rw [if_neg (bI_z.mp c_17), if_neg c_54, if_pos (Or.inr c_90), ec, nI_clamp (by omega)]) | (rw [if_neg (bI_z.mp c_17), if_neg c_54, if_neg (fun z => z.elim c_85 c_90)])) h)
    · refine a_gets rfl rfl dX3_option_41 ?_
      refine a_iload_n dX3_option_44 rfl ?_
      refine a_sgld (vp_in_nI hk (by decide)) rfl dX3_option_45 ?_
      rw [hclp, show (if k = 0 then (43 : Int32) else if k = 1 then 45 else if k = 2 then 42 else 47) = sgv k from rfl]
      refine a_goto (tgt := 51) dX3_option_46 (by decide) ?_
      refine a_iret dX3_option_51 rfl (ret_i (by unfold opF; first | (rw [if_pos (bI_nz.mp c_17), if_pos c_38]) | (rw [if_pos (bI_nz.mp c_17), if_neg c_38]) | (rw [if_neg (bI_z.mp c_17), if_pos c_54, if_pos c_58]) | (rw [if_neg (bI_z.mp c_17), if_pos c_54, if_neg c_58, if_pos c_70]) | (rw [if_neg (bI_z.mp c_17), if_pos c_54, if_neg c_58, if_neg c_70]) | (rw [if_neg (bI_z.mp c_17), if_neg c_54, if_pos (Or.inl c_85), ec, nI_clamp (by omega)]) | (rw [if_neg (bI_z.mp c_17), if_neg c_54, if_pos (Or.inr c_90), ec, nI_clamp (by omega)]) | (rw [if_neg (bI_z.mp c_17), if_neg c_54, if_neg (fun z => z.elim c_85 c_90)])) h)

