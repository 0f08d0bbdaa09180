theorem Nxt.trans {s s1 s2 : CS} {σ σ1 σ2 : RS} {a b : Nat} (h : Nxt s s1 σ σ1 a) (k : Nxt s1 s2 σ1 σ2 b) : Nxt s s2 σ σ2 (a + b) := by
  obtain ⟨h1, h2, h3, h4, h5, h6, h7, h8, h9⟩ := h
  obtain ⟨k1, k2, k3, k4, k5, k6, k7, k8, k9⟩ := k
  refine ⟨by omega, by omega, fun x hx => (k3 x (by omega)).trans (h3 x hx), fun x hx hx2 => ?_, k5.trans h5, fun x hx => ⟨(k6 x (by omega)).1.trans (h6 x hx).1, (k6 x (by omega)).2.trans (h6 x hx).2⟩, by omega, fun x hx => (k8 x (by omega)).trans (h8 x hx), by omega⟩
  by_cases q : x < s1.2.2.1
  · obtain ⟨p, p1, p2, p3⟩ := h4 x hx q
    exact ⟨p, p1, by omega, (k3 x q).trans p3⟩
  · obtain ⟨p, p1, p2, p3⟩ := k4 x (by omega) hx2
    exact ⟨p, by omega, p2, p3⟩
theorem Nxt.refl {s : CS} {σ : RS} : Nxt s s σ σ 0 := ⟨Nat.le_refl _, Nat.le_refl _, fun _ _ => rfl, fun k h1 h2 => absurd h2 (by omega), rfl, fun _ _ => ⟨rfl, rfl⟩, Nat.le_refl _, fun _ _ => rfl, rfl⟩
theorem PlK.up {s s' : CS} (h : PlK s) (e : s'.2.2 = s.2.2) (ha : s.1 ≤ s'.1) : PlK s' := by
  unfold PlK pAt at h ⊢
  rw [e]
  exact ⟨fun k hk => by obtain ⟨p, p1, p2⟩ := h.1 k hk; exact ⟨p, by omega, p2⟩, h.2⟩
/-- both go on to a place further on -/
theorem Rel.at {n d : Nat} {s : CS} {σ : RS} (h : Rel n d s σ) {x : Nat} (h1 : s.1 ≤ x) (h2 : x ≤ n) : Rel n d (x, s.2) (x, σ.2) ∧ Nxt s (x, s.2) σ (x, σ.2) 0 := by
  obtain ⟨a1, a2, a3, a4, a5, a6, a7, a8, a9, a10⟩ := h
  refine ⟨⟨a1, a2, rfl, a4, a5, by show s.2.2.1 + σ.2.2.2.2.1 + 1 ≤ x; omega, h2, a8.up rfl h1, a9.eq rfl rfl (fun _ _ _ _ => rfl), a10⟩, h1, Nat.le_refl _, fun _ _ => rfl, fun k q1 q2 => absurd q2 (by have : s.2.2.1 ≤ k := q1; show ¬ k < s.2.2.1; omega), rfl, fun _ _ => ⟨rfl, rfl⟩, Nat.le_refl _, fun _ _ => rfl, rfl⟩
/-- one step read, at the place x of s, behind what s1 has -/
theorem Rel.one {n d : Nat} {s : CS} {σ : RS} (h : Rel n d s σ) {x : Nat} (hx : x < s.1) (hf : ∀ k, k < s.2.2.1 → ¬ pAt s k = nI x) (h4 : n ≤ 40) {st op o a b p q : Int32} (hst : ¬ st = 0) (hw : wdT o = 1) (hr : RowT (adT x st op s) s.2.2.1 o a b p q) (ht : (o = 0 ∨ o = 1 ∨ o = 2) ∨ (o = 3 ∧ 1 ≤ htR (rwT σ 82) σ.2.2.2.1) ∨ ((o = 4 ∨ o = 5 ∨ o = 6 ∨ o = 7 ∨ o = 8) ∧ 2 ≤ htR (rwT σ 82) σ.2.2.2.1)) (hroom : s.2.2.1 + σ.2.2.2.2.1 + 2 ≤ s.1) : Rel n d (adT x st op s) (puR o a b p q σ) := by
  obtain ⟨a1, a2, a3, a4, a5, a6, a7, a8, a9, a10⟩ := h
  refine ⟨a1, a2, a3, a4, a5, by show s.2.2.1 + 1 + σ.2.2.2.2.1 + 1 ≤ s.1; omega, a7, a8.ad (by omega) hx hf, a9.add (by show s.2.2.1 + 1 = _; rw [hw]) (fun k o a b p q hk r => r.old a8 (by omega) (by omega) hf hk) hr, a10.pu ht⟩
theorem Nxt.one {s : CS} {σ : RS} {x : Nat} {st op o a b p q : Int32} {δ ε : Nat} {s0 : CS} {σ0 : RS} (h0 : Nxt s0 s σ0 σ δ) (h1 : s0.1 ≤ x) (h2 : x < s.1) (hh : htR (rwT (puR o a b p q σ) 82) (σ.2.2.2.1 + 1) = htR (rwT σ0 82) σ0.2.2.2.1 + ε) : Nxt s0 (adT x st op s) σ0 (puR o a b p q σ) ε := by
  obtain ⟨k1, k2, k3, k4, k5, k6, k7, k8, k9⟩ := h0
  refine ⟨k1, by show s0.2.2.1 ≤ s.2.2.1 + 1; omega, fun k hk => (pAt_old (by omega)).trans (k3 k hk), fun k q1 q2 => ?_, k5, fun y hy => ⟨(pu_87 (by omega)).trans (k6 y hy).1, (pu_87 (by omega)).trans (k6 y hy).2⟩, by show σ0.2.2.2.1 ≤ σ.2.2.2.1 + 1; omega, fun i hi => (pu_o (by omega)).trans (k8 i hi), hh⟩
  have q3 : k < s.2.2.1 + 1 := q2
  by_cases e : k = s.2.2.1
  · subst e
    exact ⟨x, h1, h2, pAt_new⟩
  · obtain ⟨p, p1, p2, p3⟩ := k4 k q1 (by omega)
    exact ⟨p, p1, p2, (pAt_old (by omega)).trans p3⟩
/-- what waits lies on the pile: w at pp -/
def Wai (w pp : Int32) (σ σ' : RS) : Prop := σ'.2.2.2.2.1 = σ.2.2.2.2.1 + 1 ∧ σ'.2.2.2.1 = σ.2.2.2.1 ∧ (∀ r i, r ≤ 86 → rwT σ' r i = rwT σ r i) ∧ rwT σ' 87 σ.2.2.2.2.1 = w ∧ rwT σ' 88 σ.2.2.2.2.1 = pp ∧ (∀ x, x < σ.2.2.2.2.1 → rwT σ' 87 x = rwT σ 87 x ∧ rwT σ' 88 x = rwT σ 88 x)
theorem wai_wa {w pp : Int32} {σ : RS} : Wai w pp σ (waR w pp σ) := by
  refine ⟨rfl, rfl, fun r i hr => ?_, ?_, ?_, fun x hx => ⟨?_, ?_⟩⟩
  · show up2 (up2 σ.2.2.2.2.2.2 87 σ.2.2.2.2.1 w) 88 σ.2.2.2.2.1 pp r i = _
    unfold up2
    rw [if_neg (by omega), if_neg (by omega)]; rfl
  · show up2 (up2 σ.2.2.2.2.2.2 87 σ.2.2.2.2.1 w) 88 σ.2.2.2.2.1 pp 87 σ.2.2.2.2.1 = _
    unfold up2
    rw [if_neg (by omega), if_pos ⟨rfl, rfl⟩]
  · show up2 (up2 σ.2.2.2.2.2.2 87 σ.2.2.2.2.1 w) 88 σ.2.2.2.2.1 pp 88 σ.2.2.2.2.1 = _
    unfold up2
    rw [if_pos ⟨rfl, rfl⟩]
  · show up2 (up2 σ.2.2.2.2.2.2 87 σ.2.2.2.2.1 w) 88 σ.2.2.2.2.1 pp 87 x = _
    unfold up2
    rw [if_neg (by omega), if_neg (by omega)]; rfl
  · show up2 (up2 σ.2.2.2.2.2.2 87 σ.2.2.2.2.1 w) 88 σ.2.2.2.2.1 pp 88 x = _
    unfold up2
    rw [if_neg (by omega), if_neg (by omega)]; rfl
/-- with w waiting -/
theorem Rel.wai {n d d' : Nat} {s : CS} {σ σ' : RS} (h : Rel n d s σ) {w pp : Int32} {x : Nat} (hx : s.1 + 1 ≤ x) (hn : x ≤ n) (k : Wai w pp σ σ') (hb : σ'.2.1 = 0) (ha : σ'.1 = x) (ho : σ'.2.2.2.2.2.1 = nI (6 - d')) (hd : d' ≤ 6) : Rel n d' (x, s.2) σ' := by
  obtain ⟨a1, a2, a3, a4, a5, a6, a7, a8, a9, a10⟩ := h
  obtain ⟨k1, k2, k3, k4, k5, k6⟩ := k
  refine ⟨a1, hb, ha.symm, ho, hd, by rw [k1]; show s.2.2.1 + (σ.2.2.2.2.1 + 1) + 1 ≤ x; omega, hn, a8.up rfl (by show s.1 ≤ x; omega), a9.eq rfl k2 (fun r i hr _ => k3 r i hr), ?_⟩
  rw [k2]
  exact WHK_cg (fun i _ => k3 82 i (by omega)) a10
/-- what waited is taken away; nothing is put -/
theorem Nxt.off {s s' s1 : CS} {σ σ' σ1 σ2 : RS} {w pp : Int32} {δ : Nat} (k : Wai w pp σ σ') (e : s'.2 = s.2) (ha : s.1 ≤ s'.1) (h : Nxt s' s1 σ' σ1 δ) (et : σ2.2.2.2.2.1 = σ1.2.2.2.2.1 - 1) (em : σ2.2.2.2.1 = σ1.2.2.2.1) (er : ∀ r i, rwT σ2 r i = rwT σ1 r i) : Nxt s s1 σ σ2 δ := by
  obtain ⟨k1, k2, k3, k4, k5, k6⟩ := k
  obtain ⟨h1, h2, h3, h4, h5, h6, h7, h8, h9⟩ := h
  have es : s'.2.2.1 = s.2.2.1 := by rw [e]
  have ep : ∀ k, pAt s' k = pAt s k := fun k => by unfold pAt; rw [e]
  have e82 : rwT σ2 82 = rwT σ1 82 := funext (er 82)
  refine ⟨by omega, by omega, fun k hk => (h3 k (by omega)).trans (ep k), fun k q1 q2 => ?_, by omega, fun x hx => ?_, by omega, fun i hi => ?_, ?_⟩
  · obtain ⟨p, p1, p2, p3⟩ := h4 k (by omega) q2
    exact ⟨p, by omega, p2, p3⟩
  · rw [er, er]
    exact ⟨(h6 x (by omega)).1.trans (k6 x hx).1, (h6 x (by omega)).2.trans (k6 x hx).2⟩
  · rw [er]
    exact (h8 i (by omega)).trans (k3 82 i (by omega))
  · rw [e82, em, h9, k2, htR_cg _ (fun i _ => k3 82 i (by omega))]
theorem Rel.off {n d : Nat} {s1 : CS} {σ1 σ2 : RS} {d' : Nat} (h : Rel n d s1 σ1) (eb : σ2.2.1 = 0) (ea : σ2.1 = σ1.1) (eo : σ2.2.2.2.2.2.1 = nI (6 - d')) (hd : d' ≤ 6) (et : σ2.2.2.2.2.1 = σ1.2.2.2.2.1 - 1) (em : σ2.2.2.2.1 = σ1.2.2.2.1) (er : ∀ r i, rwT σ2 r i = rwT σ1 r i) : Rel n d' s1 σ2 := by
  obtain ⟨a1, a2, a3, a4, a5, a6, a7, a8, a9, a10⟩ := h
  have e82 : rwT σ2 82 = rwT σ1 82 := funext (er 82)
  exact ⟨a1, eb, a3.trans ea.symm, eo, hd, by omega, a7, a8, a9.eq rfl em (fun r i _ _ => er r i), by rw [e82, em]; exact a10⟩
theorem td_r {σ : RS} {r i : Nat} : rwT (tdR σ) r i = rwT σ r i := rfl
/-- the pile's top after a part that kept it -/
theorem Wai.top {s' s1 : CS} {σ σ' σ1 : RS} {w pp : Int32} {δ : Nat} (k : Wai w pp σ σ') (h : Nxt s' s1 σ' σ1 δ) : 0 < σ1.2.2.2.2.1 ∧ ptR σ1 = w ∧ rwT σ1 88 (σ1.2.2.2.2.1 - 1) = pp ∧ σ1.2.2.2.2.1 = σ.2.2.2.2.1 + 1 := by
  obtain ⟨k1, k2, k3, k4, k5, k6⟩ := k
  obtain ⟨h1, h2, h3, h4, h5, h6, h7, h8, h9⟩ := h
  have e : σ1.2.2.2.2.1 = σ.2.2.2.2.1 + 1 := by omega
  have e2 : σ1.2.2.2.2.1 - 1 = σ.2.2.2.2.1 := by omega
  obtain ⟨q1, q2⟩ := h6 σ.2.2.2.2.1 (by omega)
  refine ⟨by omega, ?_, ?_, e⟩
  · show rwT σ1 87 (σ1.2.2.2.2.1 - 1) = w
    rw [e2, q1, k4]
  · rw [e2, q2, k5]
/-- a sign between two, or one ahead of one, behind its second part -/
theorem Rel.join {n d d1 d2 : Nat} {s s1 : CS} {σ σ' σ1 : RS} (h4 : n ≤ 40) (h : Rel n d s σ) (hat : s.1 < n) {w pp st : Int32} (k : Wai w pp σ σ') (hR : Rel n d1 s1 σ1) (hN : Nxt (avC s) s1 σ' σ1 1) (hst : ¬ st = 0) (hw : (w = 3 ∧ st = 4 ∧ pp = -1) ∨ ((w = 4 ∨ w = 5 ∨ w = 6 ∨ w = 7) ∧ st = sgR w ∧ pp = nI s.1 ∧ 1 ≤ htR (rwT σ 82) σ.2.2.2.1)) {σ3 : RS} (e3 : σ3 = joR σ1 ∨ σ3 = opD (joR σ1)) (ho : σ3.2.2.2.2.2.1 = nI (6 - d2)) (hd : d2 ≤ 6) : Rel n d2 (adC n s.1 st 0 s1) σ3 ∧ Nxt s (adC n s.1 st 0 s1) σ σ3 (if w = 3 then 1 else 0) := by
  obtain ⟨t1, t2, t3, t4⟩ := k.top hN
  have ej : joR σ1 = puR w 0 0 pp (-1) (tdR σ1) := by
    show puR (ptR σ1) 0 0 (rwT σ1 88 (σ1.2.2.2.2.1 - 1)) (-1) (tdR σ1) = _
    rw [t2, t3]
  have hoff : Rel n d1 s1 (tdR σ1) := hR.off hR.2.1 rfl hR.2.2.2.1 hR.2.2.2.2.1 rfl rfl (fun _ _ => rfl)
  have hnf : Nxt s s1 σ (tdR σ1) 1 := Nxt.off (s' := avC s) k rfl (Nat.le_succ _) hN rfl rfl (fun _ _ => rfl)
  have hs1 : s.1 + 1 ≤ s1.1 := hN.1
  have hsn := hR.2.2.2.2.2.2.1
  have hrm := hR.2.2.2.2.2.1
  have hold : ∀ k, k < s.2.2.1 → ¬ pAt s k = nI s.1 := fun k hk e => by
    obtain ⟨p, p1, p2⟩ := h.2.2.2.2.2.2.2.1.1 k hk
    have : p = s.1 := (nI_eq (by omega) (by omega)).mp (p2.symm.trans e)
    omega
  have hf : ∀ k, k < s1.2.2.1 → ¬ pAt s1 k = nI s.1 := hN.free (by omega) hR.2.2.2.2.2.2.2.1 (x := s.1) hold (Nat.lt_succ_self _)
  have had : adC n s.1 st 0 s1 = adT s.1 st 0 s1 := adC_eq hat (by omega)
  have hht : htR (rwT (tdR σ1) 82) (tdR σ1).2.2.2.1 = htR (rwT σ 82) σ.2.2.2.1 + 1 := hnf.2.2.2.2.2.2.2.2
  have wd1 : wdT w = 1 := by
    unfold wdT
    rcases hw with ⟨q, -⟩ | ⟨q | q | q | q, -⟩ <;> rw [q, if_neg (by decide)]
  have hrow : RowT (adT s.1 st 0 s1) s1.2.2.1 w 0 0 pp (-1) := by
    rcases hw with ⟨q1, q2, q3⟩ | ⟨q1, q2, q3, -⟩
    · exact Or.inr (Or.inr (Or.inr (Or.inl ⟨q1, (sAt_new (by omega)).trans q2, q3, rfl⟩)))
    · exact Or.inr (Or.inr (Or.inr (Or.inr (Or.inl ⟨q1, (sAt_new (by omega)).trans q2, pAt_new.trans q3.symm, rfl⟩))))
  have r1 := Rel.one (x := s.1) hoff (by omega) hf h4 (st := st) (op := 0) (o := w) (a := 0) (b := 0) (p := pp) (q := -1) hst wd1 hrow (by
    rcases hw with ⟨q1, -⟩ | ⟨q1, -, -, q4⟩
    · exact Or.inr (Or.inl ⟨q1, by omega⟩)
    · exact Or.inr (Or.inr ⟨by rcases q1 with q | q | q | q <;> rw [q] <;> decide, by omega⟩)) (by show s1.2.2.1 + (σ1.2.2.2.2.1 - 1) + 2 ≤ s1.1; omega)
  have n1 : Nxt s (adT s.1 st 0 s1) σ (puR w 0 0 pp (-1) (tdR σ1)) (if w = 3 then 1 else 0) := by
    refine Nxt.one hnf (Nat.le_refl _) (by omega) ?_
    rcases hw with ⟨q1, -⟩ | ⟨q1, -, -, q4⟩
    · subst q1
      rw [ht_3, hht]; rfl
    · rw [ht_2 (by rcases q1 with q | q | q | q <;> rw [q] <;> decide), hht, if_neg (by rcases q1 with q | q | q | q <;> rw [q] <;> decide)]
      omega
  rw [had]
  rw [ej] at e3
  rcases e3 with rfl | rfl
  · obtain ⟨a1, a2, a3, a4, a5, a6, a7, a8, a9, a10⟩ := r1
    exact ⟨⟨a1, a2, a3, ho, hd, a6, a7, a8, a9, a10⟩, n1⟩
  · obtain ⟨a1, a2, a3, a4, a5, a6, a7, a8, a9, a10⟩ := r1
    exact ⟨⟨a1, a2, a3, ho, hd, a6, a7, a8, a9.eq rfl rfl (fun _ _ _ _ => rfl), a10⟩, n1⟩
