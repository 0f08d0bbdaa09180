theorem PlK.free {s : CS} (h : PlK s) (h4 : s.1 ≤ 40) {x : Nat} (hx : s.1 ≤ x) (hx2 : x < 1000) : ∀ k, k < s.2.2.1 → ¬ pAt s k = nI x := fun k hk e => by
  obtain ⟨p, p1, p2⟩ := h.1 k hk
  have : p = x := (nI_eq (by omega) (by omega)).mp (p2.symm.trans e)
  omega
/-- a number or a cell read -/
theorem Rel.leaf {n d : Nat} {s : CS} {σ : RS} (h4 : n ≤ 40) (h : Rel n d s σ) {x : Nat} (h1 : s.1 + 1 ≤ x) (h2 : x ≤ n) {o st v : Int32} (hv : (o = 0 ∧ st = 1) ∨ (o = 1 ∧ st = 2 ∧ ∃ c, c < 64 ∧ v = nI c)) : Rel n d (adC n s.1 st v (x, s.2)) (puR o v 0 (nI σ.1) (-1) (x, σ.2)) ∧ Nxt s (adC n s.1 st v (x, s.2)) σ (puR o v 0 (nI σ.1) (-1) (x, σ.2)) 1 := by
  obtain ⟨r1, r2⟩ := h.at (x := x) (by omega) h2
  have hm := h.2.2.2.2.2.1
  have ha : adC n s.1 st v (x, s.2) = adT s.1 st v (x, s.2) := adC_eq (by omega) (by show s.2.2.1 < n; omega)
  rw [ha, ← h.2.2.1]
  have hf : ∀ k, k < s.2.2.1 → ¬ pAt s k = nI s.1 := h.2.2.2.2.2.2.2.1.free (by omega) (Nat.le_refl _) (by omega)
  have ho : o = 0 ∨ o = 1 ∨ o = 2 := by rcases hv with q | q <;> rw [q.1] <;> decide
  have hst : ¬ st = 0 := by rcases hv with ⟨-, q⟩ | ⟨-, q, -⟩ <;> rw [q] <;> decide
  have hw : wdT o = 1 := by unfold wdT; rw [if_neg (by rcases hv with q | q <;> rw [q.1] <;> decide)]
  have hrow : RowT (adT s.1 st v (x, s.2)) s.2.2.1 o v 0 (nI s.1) (-1) := by
    rcases hv with ⟨q, q2⟩ | ⟨q, q2, q3⟩
    · exact Or.inl ⟨q, (sAt_new (s := (x, s.2)) (by omega)).trans q2, oAt_new (s := (x, s.2)) (by omega), pAt_new (s := (x, s.2)), rfl⟩
    · exact Or.inr (Or.inl ⟨q, (sAt_new (s := (x, s.2)) (by omega)).trans q2, oAt_new (s := (x, s.2)) (by omega), pAt_new (s := (x, s.2)), rfl, q3⟩)
  exact ⟨Rel.one (x := s.1) r1 (by show s.1 < x; omega) hf h4 hst hw hrow (Or.inl ho) (by show s.2.2.1 + σ.2.2.2.2.1 + 2 ≤ x; omega), Nxt.one r2 (Nat.le_refl _) (by show s.1 < x; omega) (by rw [ht_1 ho]; exact congrArg (· + 1) r2.2.2.2.2.2.2.2.2)⟩
/-- a rectangle read -/
theorem Rel.rng {n d : Nat} {s : CS} {σ : RS} (h4 : n ≤ 40) (h : Rel n d s σ) (h2 : s.1 + 8 ≤ n) {v1 v2 : Int32} (hv1 : ∃ c, c < 64 ∧ v1 = nI c) (hv2 : ∃ c, c < 64 ∧ v2 = nI c) : Rel n d (adT s.1 5 0 (adT (s.1 + 5) 3 v2 (adT (s.1 + 2) 3 v1 (s.1 + 8, s.2)))) (puR 2 v1 v2 (nI (s.1 + 2)) (nI (s.1 + 5)) (s.1 + 8, σ.2)) ∧ Nxt s (adT s.1 5 0 (adT (s.1 + 5) 3 v2 (adT (s.1 + 2) 3 v1 (s.1 + 8, s.2)))) σ (puR 2 v1 v2 (nI (s.1 + 2)) (nI (s.1 + 5)) (s.1 + 8, σ.2)) 1 := by
  obtain ⟨r1, r2⟩ := h.at (x := s.1 + 8) (by omega) h2
  have hm := h.2.2.2.2.2.1
  have hP := h.2.2.2.2.2.2.2.1
  obtain ⟨a1, a2, a3, a4, a5, a6, a7, a8, a9, a10⟩ := r1
  obtain ⟨B0, hB0⟩ : ∃ B0 : CS, B0 = (s.1 + 8, s.2) := ⟨_, rfl⟩
  rw [← hB0] at a1 a3 a6 a7 a8 a9 r2 ⊢
  have e1 : B0.1 = s.1 + 8 := by rw [hB0]
  have ez : B0.2.2.1 = s.2.2.1 := by rw [hB0]
  have ep : ∀ k, pAt B0 k = pAt s k := fun k => by rw [hB0]; rfl
  have f0 : ∀ x, s.1 ≤ x → x < 1000 → ∀ k, k < B0.2.2.1 → ¬ pAt B0 k = nI x := fun x hx hx2 k hk => by rw [ep]; exact hP.free (by omega) hx hx2 k (by omega)
  have P1 : PlK (adT (s.1 + 2) 3 v1 B0) := a8.ad (by omega) (by omega) (f0 _ (by omega) (by omega))
  have f1 : ∀ x, s.1 ≤ x → x < 1000 → ¬ x = s.1 + 2 → ∀ k, k < (adT (s.1 + 2) 3 v1 B0).2.2.1 → ¬ pAt (adT (s.1 + 2) 3 v1 B0) k = nI x := fun x hx hx2 ne k hk e => by
    have hk2 : k < B0.2.2.1 + 1 := hk
    by_cases q : k = B0.2.2.1
    · rw [q, pAt_new] at e
      exact ne ((nI_eq (by omega) (by omega)).mp e).symm
    · rw [pAt_old (by omega)] at e
      exact f0 x hx hx2 k (by omega) e
  obtain ⟨B1, hB1⟩ : ∃ B1, B1 = adT (s.1 + 2) 3 v1 B0 := ⟨_, rfl⟩
  rw [← hB1] at P1 f1 ⊢
  have z1 : B1.2.2.1 = B0.2.2.1 + 1 := by rw [hB1]; rfl
  have e11 : B1.1 = s.1 + 8 := by rw [hB1]; exact e1
  have P2 : PlK (adT (s.1 + 5) 3 v2 B1) := P1.ad (by omega) (by omega) (f1 _ (by omega) (by omega) (by omega))
  have f2 : ∀ k, k < (adT (s.1 + 5) 3 v2 B1).2.2.1 → ¬ pAt (adT (s.1 + 5) 3 v2 B1) k = nI s.1 := fun k hk e => by
    have hk2 : k < B1.2.2.1 + 1 := hk
    by_cases q : k = B1.2.2.1
    · rw [q, pAt_new] at e
      have := (nI_eq (by omega) (by omega)).mp e
      omega
    · rw [pAt_old (by omega)] at e
      exact f1 s.1 (Nat.le_refl _) (by omega) (by omega) k (by omega) e
  obtain ⟨B2, hB2⟩ : ∃ B2, B2 = adT (s.1 + 5) 3 v2 B1 := ⟨_, rfl⟩
  rw [← hB2] at P2 f2 ⊢
  have z2 : B2.2.2.1 = B1.2.2.1 + 1 := by rw [hB2]; rfl
  have e12 : B2.1 = s.1 + 8 := by rw [hB2]; exact e11
  have P3 : PlK (adT s.1 5 0 B2) := P2.ad (by omega) (by omega) f2
  have s3 : ∀ k, k < B2.2.2.1 → sAt (adT s.1 5 0 B2) k = sAt B2 k ∧ oAt (adT s.1 5 0 B2) k = oAt B2 k := fun k hk => at_old P2 (by omega) (by omega) hk (f2 k hk)
  have s2 : ∀ k, k < B1.2.2.1 → sAt B2 k = sAt B1 k ∧ oAt B2 k = oAt B1 k := fun k hk => by rw [hB2]; exact at_old P1 (by omega) (by omega) hk (f1 _ (by omega) (by omega) (by omega) k hk)
  have p3 : ∀ k, k < B2.2.2.1 → pAt (adT s.1 5 0 B2) k = pAt B2 k := fun k hk => pAt_old hk
  have p2 : ∀ k, k < B1.2.2.1 → pAt B2 k = pAt B1 k := fun k hk => by rw [hB2]; exact pAt_old hk
  have hrow : RowT (adT s.1 5 0 B2) B0.2.2.1 2 v1 v2 (nI (s.1 + 2)) (nI (s.1 + 5)) := by
    refine Or.inr (Or.inr (Or.inl ⟨rfl, ?_, ?_, ?_, ?_, ?_, ?_, ?_, ?_⟩))
    · rw [(s3 _ (by omega)).1, (s2 _ (by omega)).1, hB1]; exact sAt_new (by omega)
    · rw [(s3 _ (by omega)).2, (s2 _ (by omega)).2, hB1]; exact oAt_new (by omega)
    · rw [p3 _ (by omega), p2 _ (by omega), hB1]; exact pAt_new
    · rw [(s3 _ (by omega)).1, ← z1, hB2]; exact sAt_new (by omega)
    · rw [(s3 _ (by omega)).2, ← z1, hB2]; exact oAt_new (by omega)
    · rw [p3 _ (by omega), ← z1, hB2]; exact pAt_new
    · rw [show B0.2.2.1 + 2 = B2.2.2.1 by omega]; exact sAt_new (by omega)
    · obtain ⟨c, hc, q⟩ := hv1
      obtain ⟨e, he, q'⟩ := hv2
      exact ⟨c, e, hc, he, q, q'⟩
  have hold : ∀ k o a b p q, k + wdT o ≤ B0.2.2.1 → RowT B0 k o a b p q → RowT (adT s.1 5 0 B2) k o a b p q := fun k o a b p q hk r => by
    have r1 : RowT B1 k o a b p q := by rw [hB1]; exact r.old a8 (by omega) (by omega) (f0 _ (by omega) (by omega)) hk
    have r2 : RowT B2 k o a b p q := by rw [hB2]; exact r1.old P1 (by omega) (by omega) (f1 _ (by omega) (by omega) (by omega)) (by omega)
    exact r2.old P2 (by omega) (by omega) f2 (by omega)
  obtain ⟨k1, k2, k3, k4, k5, k6, k7, k8, k9⟩ := r2
  refine ⟨⟨by rw [hB2, hB1]; exact a1, a2, e12, a4, a5, by show B2.2.2.1 + 1 + σ.2.2.2.2.1 + 1 ≤ B2.1; omega, by show B2.1 ≤ n; omega, P3, a9.add (by show B2.2.2.1 + 1 = _; rw [z2, z1]; rfl) hold hrow, a10.pu (Or.inl (Or.inr (Or.inr rfl)))⟩, by show s.1 ≤ B2.1; omega, by show s.2.2.1 ≤ B2.2.2.1 + 1; omega, fun k hk => ?_, fun k q1 q2 => ?_, k5, fun y hy => ⟨(pu_87 (by omega)).trans (k6 y hy).1, (pu_87 (by omega)).trans (k6 y hy).2⟩, Nat.le_succ_of_le k7, fun i hi => (pu_o (by show ¬ i = σ.2.2.2.1; omega)).trans (k8 i hi), ?_⟩
  · rw [p3 _ (by omega), p2 _ (by omega), hB1, pAt_old (by omega)]; exact ep k
  · have q3 : k < B2.2.2.1 + 1 := q2
    by_cases w0 : k = B2.2.2.1
    · exact ⟨s.1, Nat.le_refl _, by show s.1 < B2.1; omega, by rw [w0]; exact pAt_new⟩
    · rw [p3 _ (by omega)]
      by_cases w1 : k = B1.2.2.1
      · exact ⟨s.1 + 5, by omega, by show s.1 + 5 < B2.1; omega, by rw [w1, hB2]; exact pAt_new⟩
      · rw [p2 _ (by omega)]
        exact ⟨s.1 + 2, by omega, by show s.1 + 2 < B2.1; omega, by rw [show k = B0.2.2.1 by omega, hB1]; exact pAt_new⟩
  · show htR (rwT (puR 2 v1 v2 (nI (s.1 + 2)) (nI (s.1 + 5)) (s.1 + 8, σ.2)) 82) (σ.2.2.2.1 + 1) = _
    rw [ht_1 (σ := (s.1 + 8, σ.2)) (Or.inr (Or.inr rfl))]
    rfl
theorem nx_dig {t : Nat → Int32} {n : Nat} {s : CS} (h : s.2.1 = 0) : (48 ≤ (nxC t n s).toInt ∧ (nxC t n s).toInt ≤ 57) ↔ (s.1 < n ∧ dig (t s.1)) := by
  by_cases l : s.1 < n
  · rw [nx_i h l]; exact ⟨fun z => ⟨l, z⟩, fun z => z.2⟩
  · rw [nx_e l]; exact ⟨fun z => absurd z.1 (by decide), fun z => absurd z.1 l⟩
theorem hr_dig {t u : Nat → Int32} {n : Nat} (T : TxO t u n) {σ : RS} : (48 ≤ (hrR u n σ).toInt ∧ (hrR u n σ).toInt ≤ 57) ↔ (σ.1 < n ∧ dig (t σ.1)) := by
  by_cases l : σ.1 < n
  · rw [hr_i T l]; exact ⟨fun z => ⟨l, z⟩, fun z => z.2⟩
  · rw [hr_e l]; exact ⟨fun z => absurd z.1 (by decide), fun z => absurd z.1 l⟩
/-- a number or a cell: both readers -/
theorem simB {M : Mem} {N : Nat} {Q : Option Value → Nat → Mem → Prop} {n d : Nat} {t : Nat → Int32} (C : Ctx M N n t) {s : CS} {σ : RS} (hR : Rel n d s σ) (c1 : ¬ nxC t n s = 45) (c2 : ¬ nxC t n s = 40) (c3 : ¬ nxC t n s = 77) (c4 : ¬ nxC t n s = 83) (ok : ∀ σ1, Rel n d (faB t n s) σ1 → Nxt s (faB t n s) σ σ1 1 → AWh M N Q n 0 (feR σ1)) (bad : BadK M N Q t n (faB t n s)) : AWh M N Q n 1 σ := by
  have h4 := C.2.2.2.1
  have T := C.2.2.2
  have h7 := hR.2.2.2.2.2.2.1
  have ef : faR (rI M 65) n σ = (1, fbR (rI M 65) n σ) := by
    unfold faR
    rw [if_neg (fun z => c1 ((hR.hr C (by decide)).mp z)), if_neg (fun z => c2 ((hR.hr C (by decide)).mp z)), if_neg (fun z => c3 ((hR.hr C (by decide)).mp z)), if_neg (fun z => c4 ((hR.hr C (by decide)).mp z))]
  by_cases dg : s.1 < n ∧ dig (t s.1)
  · have eb : faB t n s = nuC t n s := if_pos ((nx_dig hR.1).mpr dg)
    have er : fbR (rI M 65) n σ = gdR (puR 0 (nrR (rI M 65) n σ).1 0 (nI σ.1) (-1)) (nrR (rI M 65) n σ).2 := if_pos ((hr_dig T).mpr (by rw [← hR.2.2.1]; exact dg))
    obtain ⟨x, v, k1, k2, k3, k4, k5⟩ := nu_sim T (p0 := s.1) 4 (n + 1) 0 s σ hR.1 hR.2.1 hR.2.2.1 h7 rfl (by omega)
    have hx : s.1 + 1 ≤ x := by
      rcases Nat.lt_or_ge s.1 x with l | l
      · exact l
      · exact absurd (k5 (by omega)) (fun z => z.elim (fun q => q dg) (by decide))
    have en : nuC t n s = adC n s.1 1 v (x, s.2) := by unfold nuC; rw [k3]
    have er2 : nrR (rI M 65) n σ = nrL (rI M 65) n s.1 (n + 1) 0 σ := by unfold nrR; rw [hR.2.2.1]
    rw [eb, en] at ok bad
    rcases k4 with ⟨q1, q2⟩ | ⟨q1, q2, q3, q4⟩
    · have e3 : fbR (rI M 65) n σ = puR 0 v 0 (nI σ.1) (-1) (x, σ.2) := by rw [er, er2, q1]; exact gdR_0 (σ := (x, σ.2)) hR.2.1
      obtain ⟨r1, r2⟩ := hR.leaf h4 hx k2 (o := 0) (st := 1) (v := v) (Or.inl ⟨rfl, rfl⟩)
      rw [e3] at ef
      have := r1.mt
      have h71 := r1.2.2.2.2.2.2.1
      exact rdW1 C hR ef r1.2.1 (by omega) (ok _ r1 r2)
    · have bz : ¬ (nrL (rI M 65) n s.1 (n + 1) 0 σ).2.2.1 = 0 := by rw [q3]; decide
      have e3 : fbR (rI M 65) n σ = (nrL (rI M 65) n s.1 (n + 1) 0 σ).2 := by rw [er, er2]; exact gdR_b bz
      rw [e3] at ef
      have hbr : BdR n (nrL (rI M 65) n s.1 (n + 1) 0 σ).2 (nI (100 + x)) := ⟨bz, by rw [q3]; decide, by rw [q4]; omega, by rw [q3, q4]⟩
      exact rdWb C hR ef hbr (bad _ (Bd.ad (s := (x, s.2)) (Or.inr ⟨hR.1, q1, q2, rfl⟩)) _ hbr)
  · have eb : faB t n s = ceC t n 2 s := if_neg (fun z => dg ((nx_dig hR.1).mp z))
    have er : fbR (rI M 65) n σ = gdR (puR 1 (clR (rI M 65) n σ).1 0 (nI σ.1) (-1)) (clR (rI M 65) n σ).2 := if_neg (fun z => dg (by rw [hR.2.2.1]; exact (hr_dig T).mp z))
    rw [eb] at ok bad
    rcases ce_sim T (st := 2) hR.1 hR.2.1 hR.2.2.1 h7 with ⟨k1, v, hv, k2, k3⟩ | ⟨co, ⟨k1, k2⟩, k3⟩
    · have e3 : fbR (rI M 65) n σ = puR 1 v 0 (nI σ.1) (-1) (s.1 + 2, σ.2) := by rw [er, k2]; exact gdR_0 (σ := (s.1 + 2, σ.2)) hR.2.1
      rw [k3] at ok
      obtain ⟨r1, r2⟩ := hR.leaf h4 (x := s.1 + 2) (by omega) k1 (o := 1) (st := 2) (v := v) (Or.inr ⟨rfl, rfl, hv⟩)
      rw [e3] at ef
      have := r1.mt
      have h71 := r1.2.2.2.2.2.2.1
      exact rdW1 C hR ef r1.2.1 (by omega) (ok _ r1 r2)
    · have e3 : fbR (rI M 65) n σ = (clR (rI M 65) n σ).2 := by rw [er]; exact gdR_b k3.1
      rw [e3] at ef
      exact rdWb C hR ef k3 (bad co (Or.inl ⟨k1, k2⟩) _ k3)
theorem opR_6 {w : Int32} {σ : RS} (h : σ.2.2.2.2.2.1 = 6) (b : σ.2.1 = 0) : opR w σ = avR (opU (waR w (-1) (σ.1, 2, σ.1, σ.2.2.2))) := by unfold opR; rw [if_pos h, flR_0 b]
theorem opR_n {w : Int32} {σ : RS} (h : ¬ σ.2.2.2.2.2.1 = 6) : opR w σ = avR (opU (waR w (-1) σ)) := by unfold opR; rw [if_neg h]
theorem faU_b {u : Nat → Int32} {n : Nat} {σ : RS} (h : ¬ σ.2.1 = 0) : faU u n σ = σ := by
  unfold faU faT
  rw [gdC_b h, gdR_b h, gdC_b h, gdR_b h, gdR_b h]
/-- no more may be opened -/
theorem simF0 {M : Mem} {N : Nat} {Q : Option Value → Nat → Mem → Prop} {n : Nat} {t : Nat → Int32} (C : Ctx M N n t) : SimF M N Q t n 0 := by
  intro s σ hR ok bad
  have h7 := hR.2.2.2.2.2.2.1
  have h4 := C.2.2.2.1
  by_cases c : nxC t n s = 45 ∨ nxC t n s = 40 ∨ nxC t n s = 83 ∨ nxC t n s = 77
  · have e : faC t n 0 s = flC 2 s := if_pos c
    rw [e, fl_0 hR.1, c200] at bad
    have o6 : σ.2.2.2.2.2.1 = 6 := hR.2.2.2.1
    have hb : ∀ σ', σ'.2.1 = 2 → σ'.2.2.1 = σ.1 → BdR n σ' (nI (200 + s.1)) := fun σ' q1 q2 => ⟨by rw [q1]; decide, by rw [q1]; decide, by rw [q2, ← hR.2.2.1]; omega, by rw [q1, q2, hR.2.2.1]⟩
    have go : ∀ v σ', faR (rI M 65) n σ = (v, σ') → σ'.2.1 = 2 → σ'.2.2.1 = σ.1 → AWh M N Q n 1 σ := fun v σ' q1 q2 q3 => rdWb C hR q1 (hb σ' q2 q3) (bad _ (Or.inl ⟨cnz (by omega) (by omega), rfl⟩) _ (hb σ' q2 q3))
    have e45 := hR.hr C (c := 45) (by decide)
    have e40 := hR.hr C (c := 40) (by decide)
    have e77 := hR.hr C (c := 77) (by decide)
    have e83 := hR.hr C (c := 83) (by decide)
    by_cases c1 : nxC t n s = 45
    · exact go 0 (opR 3 σ) (if_pos (e45.mpr c1)) (by rw [opR_6 o6 hR.2.1]; rfl) (by rw [opR_6 o6 hR.2.1]; rfl)
    · have n1 : ¬ hrR (rI M 65) n σ = 45 := fun z => c1 (e45.mp z)
      by_cases c2 : nxC t n s = 40
      · exact go 0 (opR 9 σ) ((if_neg n1).trans (if_pos (e40.mpr c2))) (by rw [opR_6 o6 hR.2.1]; rfl) (by rw [opR_6 o6 hR.2.1]; rfl)
      · have n2 : ¬ hrR (rI M 65) n σ = 40 := fun z => c2 (e40.mp z)
        by_cases c3 : nxC t n s = 77
        · have e2 : (opR 10 σ).2.1 = 2 := by rw [opR_6 o6 hR.2.1]; rfl
          have e3 : gdR (muR (rI M 65) n 40) (opR 10 σ) = opR 10 σ := gdR_b (by rw [e2]; decide)
          exact go 0 (opR 10 σ) ((if_neg n1).trans ((if_neg n2).trans ((if_pos (e77.mpr c3)).trans (by rw [e3])))) e2 (by rw [opR_6 o6 hR.2.1]; rfl)
        · have n3 : ¬ hrR (rI M 65) n σ = 77 := fun z => c3 (e77.mp z)
          have c4 : nxC t n s = 83 := by
            rcases c with q | q | q | q
            · exact absurd q c1
            · exact absurd q c2
            · exact q
            · exact absurd q c3
          have e2 : faS (rI M 65) n σ = avR (σ.1, 2, σ.1, σ.2.2.2) := by
            unfold faS
            rw [if_pos o6, flR_0 hR.2.1, gdR_b (σ := avR (σ.1, 2, σ.1, σ.2.2.2)) (show ¬ (2 : Nat) = 0 by decide), faU_b (σ := avR (σ.1, 2, σ.1, σ.2.2.2)) (show ¬ (2 : Nat) = 0 by decide)]
          exact go 1 (avR (σ.1, 2, σ.1, σ.2.2.2)) ((if_neg n1).trans ((if_neg n2).trans ((if_neg n3).trans ((if_pos (e83.mpr c4)).trans (by rw [e2]))))) rfl rfl
  · have e : faC t n 0 s = faB t n s := if_neg c
    rw [e] at ok bad
    exact simB C hR (fun z => c (Or.inl z)) (fun z => c (Or.inr (Or.inl z))) (fun z => c (Or.inr (Or.inr (Or.inr z)))) (fun z => c (Or.inr (Or.inr (Or.inl z)))) ok bad
