theorem nm_fail {M : Mem} {N : Nat} {Q : Option Value → Nat → Mem → Prop} {n d : Nat} {t : Nat → Int32} (C : Ctx M N n t) {s : CS} {σ : RS} (hR : Rel n d s σ) (h1 : ¬ (hrR (rI M 65) n σ = 44 ∧ 0 < σ.2.2.2.2.1 ∧ ptR σ = 10)) (h2 : ¬ (hrR (rI M 65) n σ = 41 ∧ 0 < σ.2.2.2.2.1 ∧ (ptR σ = 9 ∨ ptR σ = 11))) (h3 : 0 < σ.2.2.2.2.1 ∨ ¬ σ.1 = n) (h : Q none N (wr M (flR 1 σ))) : NM M N Q n (-1) σ := by
  have h4 := C.2.2.2.1
  have hm := hR.mt
  have h7 := hR.2.2.2.2.2.2.1
  have ha := hR.2.2.1
  by_cases e : σ.1 = n
  · have tp := h3.resolve_right (fun z => z e)
    exact rd_138e h4 C.1 (by rw [hR.2.1]; decide) (by omega) rfl e C.2.1 C.2.2.1 (by rw [if_pos tp]; exact h)
  · exact rd_138o h4 C.1 rfl e (by omega) C.2.1 C.2.2.1 (rd_201n h4 C.1 hR.rb (by omega) h1 C.2.1 C.2.2.1 (rd_261n h4 C.1 hR.rb hR.2.1 (by omega) h2 C.2.1 C.2.2.1 h))
theorem nm_close {M : Mem} {N : Nat} {Q : Option Value → Nat → Mem → Prop} {n d : Nat} {t : Nat → Int32} (C : Ctx M N n t) {s : CS} {σ : RS} (hR : Rel n d s σ) (hl : s.1 < n) (hc : hrR (rI M 65) n σ = 41) (tp : 0 < σ.2.2.2.2.1) (h9 : ptR σ = 9 ∨ ptR σ = 11) (h : AWh M N Q n 0 (feR (avR (clS σ)))) : NM M N Q n (-1) σ := by
  have h4 := C.2.2.2.1
  have hm := hR.mt
  have h7 := hR.2.2.2.2.2.2.1
  have ha := hR.2.2.1
  exact rd_138o h4 C.1 rfl (by omega) (by omega) C.2.1 C.2.2.1 (rd_201n h4 C.1 hR.rb (by omega) (fun z => absurd (hc.symm.trans z.1) (by decide)) C.2.1 C.2.2.1 (rd_261c h4 C.1 hR.rb (by omega) hc tp h9 C.2.1 C.2.2.1 h))
theorem nm_comma {M : Mem} {N : Nat} {Q : Option Value → Nat → Mem → Prop} {n d : Nat} {t : Nat → Int32} (C : Ctx M N n t) {s : CS} {σ : RS} (hR : Rel n d s σ) (hl : s.1 < n) (hc : hrR (rI M 65) n σ = 44) (tp : 0 < σ.2.2.2.2.1) (h10 : ptR σ = 10) (h : AWh M N Q n 1 (cmR2 σ)) : NM M N Q n (-1) σ := by
  have h4 := C.2.2.2.1
  have hm := hR.mt
  have h7 := hR.2.2.2.2.2.2.1
  have ha := hR.2.2.1
  exact rd_138o h4 C.1 rfl (by omega) (by omega) C.2.1 C.2.2.1 (rd_201c h4 C.1 hR.rb (by omega) hc tp h10 C.2.1 C.2.2.1 h)
/-- a fault that stays -/
def FZ (s : CS) (co : Int32) : Prop := ¬ s.2.1 = 0 ∧ s.2.1 = co
theorem FZ.bd {t : Nat → Int32} {n : Nat} {s : CS} {co : Int32} (h : FZ s co) : Bd t n s co := Or.inl h
theorem FZ.ps {t : Nat → Int32} {n : Nat} {c : Int32} {s : CS} {co : Int32} (h : FZ s co) (h0 : 0 ≤ c.toInt) : FZ (psC t n c s) co := by rw [ps_f h.1 h0]; exact h
theorem FZ.ad {n p : Nat} {st op : Int32} {s : CS} {co : Int32} (h : FZ s co) : FZ (adC n p st op s) co := by
  unfold adC
  split
  · exact h
  · exact h
theorem FZ.ce {t : Nat → Int32} {n : Nat} {st : Int32} {s : CS} {co : Int32} (h : FZ s co) : FZ (ceC t n st s) co := ⟨by rw [ce_f h.1]; exact h.1, (ce_f h.1).trans h.2⟩
theorem FZ.su {t : Nat → Int32} {n d : Nat} {s : CS} {co : Int32} (h : FZ s co) : FZ (suC t n (faC t n d) s) co := by
  have b1 : FZ (faC t n d s) co := ⟨by rw [fa_f h.1]; exact h.1, (fa_f h.1 d).trans h.2⟩
  have b2 : Bd t n (faC t n d s) co := b1.bd
  unfold suC prC
  rw [b2.pr, b2.su]
  exact b1
theorem Bd.psz {t : Nat → Int32} {n : Nat} {c : Int32} {s : CS} {co : Int32} (h : Bd t n s co) (h4 : n ≤ 40) (h0 : 0 ≤ c.toInt) (hd : ¬ dig c) : FZ (psC t n c s) co := by
  rcases h with a | ⟨a, b, d, e⟩
  · exact FZ.ps a h0
  · rw [ps_no a h0 (fun z => hd (z.2 ▸ d))]
    exact ⟨cnz (by omega) (by omega), e.symm⟩
theorem ps_fz {t : Nat → Int32} {n : Nat} {c : Int32} {s : CS} (h : s.2.1 = 0) (h4 : n ≤ 40) (h7 : s.1 ≤ n) (h0 : 0 ≤ c.toInt) (hc : ¬ (s.1 < n ∧ t s.1 = c)) : FZ (psC t n c s) (nI (100 + s.1)) := by
  rw [ps_no h h0 hc]
  exact ⟨cnz (by omega) (by omega), rfl⟩
theorem fl_bd {n d : Nat} {s : CS} {σ : RS} (hR : Rel n d s σ) : BdR n (flR 1 σ) (nI (100 + s.1)) := by
  rw [flR_0 hR.2.1]
  have := hR.2.2.1
  have := hR.2.2.2.2.2.2.1
  exact ⟨show ¬ (1 : Nat) = 0 by decide, show (1 : Nat) ≤ 2 by decide, show σ.1 ≤ n + 1 by omega, by show nI (100 * 1 + σ.1) = _; rw [hR.2.2.1]⟩
theorem nx_c {t : Nat → Int32} {n : Nat} {s : CS} (h : s.2.1 = 0) {c : Int32} (h0 : 0 ≤ c.toInt) : nxC t n s = c ↔ (s.1 < n ∧ t s.1 = c) := by
  by_cases l : s.1 < n
  · rw [nx_i h l]; exact ⟨fun z => ⟨l, z⟩, fun z => z.2⟩
  · rw [nx_e l]
    exact ⟨fun z => by rw [← z] at h0; exact absurd h0 (by decide), fun z => absurd z.1 l⟩
theorem o6n {d : Nat} (h : d + 1 ≤ 6) : ¬ nI (6 - (d + 1)) = 6 := fun z => by
  have := (nI_eq (a := 6 - (d + 1)) (b := 6) (by omega) (by decide)).mp z
  omega
theorem o6u {d : Nat} (h : d + 1 ≤ 6) : nI (6 - (d + 1)) + 1 = nI (6 - d) := by rw [nI_1]; exact congrArg nI (by omega)
theorem o6d {d : Nat} (h : d + 1 ≤ 6) : nI (6 - d) - 1 = nI (6 - (d + 1)) := by rw [show (1 : Int32) = nI 1 from rfl, pk_sub (by omega)]; exact congrArg nI (by omega)
/-- something is opened: what waits -/
theorem Rel.opn {n d : Nat} {s : CS} {σ : RS} (hR : Rel n (d + 1) s σ) (w : Int32) {x : Nat} (hx : s.1 + 1 ≤ x) (hn : x ≤ n) : opR w σ = avR (opU (waR w (-1) σ)) ∧ Wai w (-1) σ (x, (opR w σ).2) ∧ Rel n d (x, s.2) (x, (opR w σ).2) := by
  have e := opR_n (w := w) (σ := σ) (by rw [hR.2.2.2.1]; exact o6n hR.2.2.2.2.1)
  rw [e]
  have hw : Wai w (-1) σ (x, (avR (opU (waR w (-1) σ))).2) := wai_wa
  exact ⟨rfl, hw, hR.wai hx hn hw hR.2.1 rfl (by show σ.2.2.2.2.2.1 + 1 = _; rw [hR.2.2.2.1]; exact o6u hR.2.2.2.2.1) (by have := hR.2.2.2.2.1; omega)⟩
/-- a factor, one more may be opened -/
theorem simFs {M : Mem} {N : Nat} {Q : Option Value → Nat → Mem → Prop} {n d : Nat} {t : Nat → Int32} (C : Ctx M N n t) (hF : SimF M N Q t n d) (hS : SimS M N Q t n d) : SimF M N Q t n (d + 1) := by
  intro s σ hR ok bad
  have h7 := hR.2.2.2.2.2.2.1
  have h4 := C.2.2.2.1
  have T := C.2.2.2
  have hd6 := hR.2.2.2.2.1
  have e45 := hR.hr C (c := 45) (by decide)
  have e40 := hR.hr C (c := 40) (by decide)
  have e77 := hR.hr C (c := 77) (by decide)
  have e83 := hR.hr C (c := 83) (by decide)
  by_cases c1 : nxC t n s = 45
  · obtain ⟨l, tc⟩ := (nx_c hR.1 (by decide)).mp c1
    have ef : faC t n (d + 1) s = adC n s.1 4 0 (faC t n d (avC s)) := (if_pos c1).trans (by unfold neC; rw [ps_ok hR.1 l tc])
    rw [ef] at ok bad
    obtain ⟨eo, hw, hR2⟩ := hR.opn 3 (x := s.1 + 1) (Nat.le_refl _) (by omega)
    have ex : (s.1 + 1, (opR 3 σ).2) = opR 3 σ := by rw [eo, hR.2.2.1]; rfl
    rw [ex] at hw hR2
    refine rdW0 C hR (if_pos (e45.mpr c1)) (by rw [hR2.2.1]; decide) (hF _ _ hR2 (fun σ1 hR1 hN1 => ?_) (fun co b => bad co b.ad))
    obtain ⟨t1, t2, -, -⟩ := hw.top hN1
    rw [feR_3 t1 t2]
    obtain ⟨r1, r2⟩ := Rel.join (st := 4) (d2 := d + 1) h4 hR l hw hR1 hN1 (by decide) (Or.inl ⟨rfl, rfl, rfl⟩) (σ3 := opD (joR σ1)) (Or.inr rfl) (by show σ1.2.2.2.2.2.1 - 1 = _; rw [hR1.2.2.2.1]; exact o6d hd6) hd6
    exact ok _ r1 r2
  · have n1 : ¬ hrR (rI M 65) n σ = 45 := fun z => c1 (e45.mp z)
    by_cases c2 : nxC t n s = 40
    · obtain ⟨l, tc⟩ := (nx_c hR.1 (by decide)).mp c2
      have ef : faC t n (d + 1) s = psC t n 41 (suC t n (faC t n d) (avC s)) := (if_neg c1).trans ((if_pos c2).trans (by rw [ps_ok hR.1 l tc]))
      rw [ef] at ok bad
      obtain ⟨eo, hw, hR2⟩ := hR.opn 9 (x := s.1 + 1) (Nat.le_refl _) (by omega)
      have ex : (s.1 + 1, (opR 9 σ).2) = opR 9 σ := by rw [eo, hR.2.2.1]; rfl
      rw [ex] at hw hR2
      obtain ⟨q1, q2, -, -⟩ := hw.top (Nxt.refl (s := avC s))
      refine rdW0 C hR ((if_neg n1).trans (if_pos (e40.mpr c2))) (by rw [hR2.2.1]; decide) (hS _ _ hR2 (fun _ => Or.inl q2) (fun σ1 hR1 hN1 => ?_) (fun co b => bad co (b.psz h4 (by decide) (ndg (by decide))).bd))
      have hR1 : Rel n d (suC t n (faC t n d) (avC s)) σ1 := hR1
      have hN1 : Nxt (avC s) (suC t n (faC t n d) (avC s)) (opR 9 σ) σ1 1 := hN1
      obtain ⟨t1, t2, -, -⟩ := hw.top hN1
      have h71 := hR1.2.2.2.2.2.2.1
      by_cases c : (suC t n (faC t n d) (avC s)).1 < n ∧ t (suC t n (faC t n d) (avC s)).1 = 41
      · have hc := (hR1.hr C (by decide)).mpr ((nx_c hR1.1 (c := 41) (by decide)).mpr c)
        refine nm_close C hR1 c.1 hc t1 (Or.inl t2) ?_
        have e3 : clS σ1 = opD (tdR σ1) := if_neg (fun z => absurd (show ptR σ1 = 11 from z) (by rw [t2]; decide))
        rw [ps_ok hR1.1 c.1 c.2] at ok
        rw [e3]
        have r1 : Rel n (d + 1) (suC t n (faC t n d) (avC s)) (opD (tdR σ1)) := hR1.off hR1.2.1 rfl (by show σ1.2.2.2.2.2.1 - 1 = _; rw [hR1.2.2.2.1]; exact o6d hd6) hd6 rfl rfl (fun _ _ => rfl)
        have r2 : Nxt s (suC t n (faC t n d) (avC s)) σ (opD (tdR σ1)) 1 := Nxt.off (s' := avC s) hw rfl (Nat.le_succ _) hN1 rfl rfl (fun _ _ => rfl)
        obtain ⟨r3, r4⟩ := r1.at (x := (suC t n (faC t n d) (avC s)).1 + 1) (Nat.le_succ _) c.1
        have e5 : ((suC t n (faC t n d) (avC s)).1 + 1, (opD (tdR σ1)).2) = avR (opD (tdR σ1)) := by rw [hR1.2.2.1]; rfl
        rw [e5] at r3 r4
        exact ok _ r3 (r2.trans r4)
      · refine nm_fail C hR1 (fun z => absurd z.2.2 (by rw [t2]; decide)) (fun z => c ((nx_c hR1.1 (by decide)).mp ((hR1.hr C (by decide)).mp z.1))) (Or.inl t1) (bad _ (ps_fz hR1.1 h4 h71 (by decide) c).bd _ (fl_bd hR1))
    · have n2 : ¬ hrR (rI M 65) n σ = 40 := fun z => c2 (e40.mp z)
      by_cases c3 : nxC t n s = 83
      · obtain ⟨l, tc⟩ := (nx_c hR.1 (by decide)).mp c3
        have n3 : ¬ hrR (rI M 65) n σ = 77 := fun z => absurd ((e77.mp z).symm.trans c3) (by decide)
        have ef : faC t n (d + 1) s = adC n s.1 5 0 (psC t n 41 (ceC t n 3 (psC t n 58 (ceC t n 3 (psC t n 40 (avC s)))))) := (if_neg c1).trans ((if_neg c2).trans ((if_pos c3).trans (by unfold reC; rw [ps_ok hR.1 l tc])))
        rw [ef] at ok bad
        have er : faR (rI M 65) n σ = (1, faU (rI M 65) n (gdR (muR (rI M 65) n 40) (avR σ))) := by
          unfold faR faS
          rw [if_neg n1, if_neg n2, if_neg n3, if_pos (e83.mpr c3), if_neg (by rw [hR.2.2.2.1]; exact o6n hd6)]
        rw [gdR_0 (σ := avR σ) hR.2.1] at er
        have ha : (avC s).1 = (avR σ).1 := by show s.1 + 1 = σ.1 + 1; rw [hR.2.2.1]
        rcases mu_sim T (c := 40) (by decide) (s := avC s) (σ := avR σ) hR.1 hR.2.1 ha l with ⟨m1, m2, m3, m4⟩ | ⟨co, m1, m2⟩
        · rw [m3] at er
          rw [m4] at ok bad
          have m1' : s.1 + 1 < n := m1
          have ha2 : (avC (avC s)).1 = (avR (avR σ)).1 := by show s.1 + 1 + 1 = σ.1 + 1 + 1; rw [hR.2.2.1]
          rcases ce_sim T (st := 3) (s := avC (avC s)) (σ := avR (avR σ)) hR.1 hR.2.1 ha2 m1 with ⟨k1, v1, hv1, k2, k3⟩ | ⟨co, k1, k2⟩
          · have e1 : faU (rI M 65) n (avR (avR σ)) = faT (rI M 65) n (nI (avR (avR σ)).1) v1 (s.1 + 4, σ.2) := by
              unfold faU
              rw [gdC_0 (σ := avR (avR σ)) hR.2.1, k2]
              rfl
            rw [e1] at er
            rw [k3] at ok bad
            have k1' : s.1 + 1 + 1 + 2 ≤ n := k1
            have a3 : adC n (avC (avC s)).1 3 v1 ((avC (avC s)).1 + 2, (avC (avC s)).2) = adT (s.1 + 2) 3 v1 (s.1 + 4, s.2) := adC_eq (s := (s.1 + 4, s.2)) (by omega) (by have := hR.2.2.2.2.2.1; show s.2.2.1 < n; omega)
            rw [a3] at ok bad
            obtain ⟨s3, hs3⟩ : ∃ s3, s3 = adT (s.1 + 2) 3 v1 (s.1 + 4, s.2) := ⟨_, rfl⟩
            rw [← hs3] at ok bad
            have s30 : s3.2.1 = 0 := by rw [hs3]; exact hR.1
            have s31 : s3.1 = s.1 + 4 := by rw [hs3]; rfl
            have s32 : s3.2.2.1 = s.2.2.1 + 1 := by rw [hs3]; rfl
            rcases mu_sim T (c := 58) (by decide) (s := s3) (σ := (s.1 + 4, σ.2)) s30 hR.2.1 s31 (by omega) with ⟨p1, p2, p3, p4⟩ | ⟨co, p1, p2⟩
            · rw [p4] at ok bad
              have g1 : gdR (muR (rI M 65) n 58) (s.1 + 4, σ.2) = (s.1 + 5, σ.2) := (gdR_0 (σ := (s.1 + 4, σ.2)) hR.2.1).trans p3
              rcases ce_sim T (st := 3) (s := avC s3) (σ := (s.1 + 5, σ.2)) s30 hR.2.1 (by show s3.1 + 1 = s.1 + 5; omega) (by show s3.1 + 1 ≤ n; omega) with ⟨w1, v2, hv2, w2, w3⟩ | ⟨co, w1, w2⟩
              · have w1' : s3.1 + 1 + 2 ≤ n := w1
                have g2 : gdC (rI M 65) n (s.1 + 5, σ.2) = (v2, (s.1 + 7, σ.2)) := (gdC_0 (σ := (s.1 + 5, σ.2)) hR.2.1).trans (by rw [w2]; show (v2, (s3.1 + 1 + 2, σ.2)) = _; rw [s31])
                rw [w3] at ok bad
                have a4 : adC n (avC s3).1 3 v2 ((avC s3).1 + 2, (avC s3).2) = adT (s.1 + 5) 3 v2 (s.1 + 7, s3.2) := by
                  show adC n (s3.1 + 1) 3 v2 (s3.1 + 1 + 2, s3.2) = _
                  rw [s31]
                  exact adC_eq (s := (s.1 + 7, s3.2)) (by omega) (by have := hR.2.2.2.2.2.1; show s3.2.2.1 < n; omega)
                rw [a4] at ok bad
                obtain ⟨s5, hs5⟩ : ∃ s5, s5 = adT (s.1 + 5) 3 v2 (s.1 + 7, s3.2) := ⟨_, rfl⟩
                rw [← hs5] at ok bad
                have s50 : s5.2.1 = 0 := by rw [hs5]; exact s30
                have s51 : s5.1 = s.1 + 7 := by rw [hs5]; rfl
                have s52 : s5.2.2.1 = s3.2.2.1 + 1 := by rw [hs5]; rfl
                rcases mu_sim T (c := 41) (by decide) (s := s5) (σ := (s.1 + 7, σ.2)) s50 hR.2.1 s51 (by omega) with ⟨y1, y2, y3, y4⟩ | ⟨co, y1, y2⟩
                · rw [y4] at ok
                  have g3 : gdR (muR (rI M 65) n 41) (s.1 + 7, σ.2) = (s.1 + 8, σ.2) := (gdR_0 (σ := (s.1 + 7, σ.2)) hR.2.1).trans y3
                  have e6 : faT (rI M 65) n (nI (avR (avR σ)).1) v1 (s.1 + 4, σ.2) = puR 2 v1 v2 (nI (s.1 + 2)) (nI (s.1 + 5)) (s.1 + 8, σ.2) := by
                    unfold faT
                    rw [g1, g2, g3, gdR_0 (σ := (s.1 + 8, σ.2)) hR.2.1]
                    show puR 2 v1 v2 (nI (σ.1 + 1 + 1)) _ _ = _
                    rw [← hR.2.2.1]
                  rw [e6] at er
                  have a5 : adC n s.1 5 0 (avC s5) = adT s.1 5 0 (adT (s.1 + 5) 3 v2 (adT (s.1 + 2) 3 v1 (s.1 + 8, s.2))) := by
                    rw [adC_eq (s := avC s5) l (by have := hR.2.2.2.2.2.1; show s5.2.2.1 < n; omega)]
                    have q1 : avC s5 = adT (s.1 + 5) 3 v2 (s.1 + 8, s3.2) := by rw [hs5]; rfl
                    rw [q1, hs3]
                    rfl
                  rw [a5] at ok
                  obtain ⟨r1, r2⟩ := hR.rng h4 (by omega) hv1 hv2
                  have := r1.mt
                  have h71 := r1.2.2.2.2.2.2.1
                  exact rdW1 C hR er r1.2.1 (by omega) (ok _ r1 r2)
                · have g3 : gdR (muR (rI M 65) n 41) (s.1 + 7, σ.2) = muR (rI M 65) n 41 (s.1 + 7, σ.2) := gdR_0 (σ := (s.1 + 7, σ.2)) hR.2.1
                  have e6 : faT (rI M 65) n (nI (avR (avR σ)).1) v1 (s.1 + 4, σ.2) = muR (rI M 65) n 41 (s.1 + 7, σ.2) := by
                    unfold faT
                    rw [g1, g2, g3, gdR_b y2.1]
                  rw [e6] at er
                  exact rdWb C hR er y2 (bad co (FZ.ad y1).bd _ y2)
              · have e6 : faT (rI M 65) n (nI (avR (avR σ)).1) v1 (s.1 + 4, σ.2) = (clR (rI M 65) n (s.1 + 5, σ.2)).2 := by
                  unfold faT
                  rw [g1, gdC_0 (σ := (s.1 + 5, σ.2)) hR.2.1, gdR_b w2.1, gdR_b w2.1]
                rw [e6] at er
                exact rdWb C hR er w2 (bad co (FZ.ad (FZ.ps w1 (by decide))).bd _ w2)
            · have g1 : gdR (muR (rI M 65) n 58) (s.1 + 4, σ.2) = muR (rI M 65) n 58 (s.1 + 4, σ.2) := gdR_0 (σ := (s.1 + 4, σ.2)) hR.2.1
              have e6 : faT (rI M 65) n (nI (avR (avR σ)).1) v1 (s.1 + 4, σ.2) = muR (rI M 65) n 58 (s.1 + 4, σ.2) := by
                unfold faT
                rw [g1, gdC_b p2.1, gdR_b p2.1, gdR_b p2.1]
              rw [e6] at er
              exact rdWb C hR er p2 (bad co (FZ.ad (FZ.ps (FZ.ce p1) (by decide))).bd _ p2)
          · have e1 : faU (rI M 65) n (avR (avR σ)) = (clR (rI M 65) n (avR (avR σ))).2 := by
              unfold faU
              rw [gdC_0 (σ := avR (avR σ)) hR.2.1]
              unfold faT
              rw [gdR_b k2.1, gdC_b k2.1, gdR_b k2.1, gdR_b k2.1]
            rw [e1] at er
            exact rdWb C hR er k2 (bad co (FZ.ad (FZ.ps (FZ.ce (FZ.ps k1 (by decide))) (by decide))).bd _ k2)
        · rw [faU_b m2.1] at er
          exact rdWb C hR er m2 (bad co (FZ.ad (FZ.ps (FZ.ce (FZ.ps (FZ.ce m1) (by decide))) (by decide))).bd _ m2)
      · by_cases c4 : nxC t n s = 77
        · obtain ⟨l, tc⟩ := (nx_c hR.1 (by decide)).mp c4
          have ef : faC t n (d + 1) s = adC n s.1 6 0 (psC t n 41 (suC t n (faC t n d) (psC t n 44 (suC t n (faC t n d) (psC t n 40 (avC s)))))) := (if_neg c1).trans ((if_neg c2).trans ((if_neg c3).trans ((if_pos c4).trans (by unfold grC; rw [ps_ok hR.1 l tc]))))
          rw [ef] at ok bad
          have er : faR (rI M 65) n σ = (0, gdR (muR (rI M 65) n 40) (opR 10 σ)) := (if_neg n1).trans ((if_neg n2).trans (if_pos (e77.mpr c4)))
          have eo := opR_n (w := 10) (σ := σ) (by rw [hR.2.2.2.1]; exact o6n hd6)
          have b0 : (opR 10 σ).2.1 = 0 := by rw [eo]; exact hR.2.1
          rw [gdR_0 b0] at er
          have ha : (avC s).1 = (opR 10 σ).1 := by rw [eo]; show s.1 + 1 = σ.1 + 1; rw [hR.2.2.1]
          rcases mu_sim T (c := 40) (by decide) (s := avC s) (σ := opR 10 σ) hR.1 b0 ha l with ⟨m1, m2, m3, m4⟩ | ⟨co, m1, m2⟩
          · rw [m3] at er
            rw [m4] at ok bad
            have m1' : s.1 + 1 < n := m1
            obtain ⟨-, hw, hR2⟩ := hR.opn 10 (x := s.1 + 2) (by omega) (by omega)
            have ex : (s.1 + 2, (opR 10 σ).2) = avR (opR 10 σ) := by rw [eo, hR.2.2.1]; rfl
            rw [ex] at hw hR2
            obtain ⟨q1, q2, -, -⟩ := hw.top (Nxt.refl (s := avC (avC s)))
            refine rdW0 C hR er (by rw [hR2.2.1]; decide) (hS _ _ hR2 (fun _ => Or.inr (Or.inl q2)) (fun σ3 hR3 hN3 => ?_) (fun co b => bad co (FZ.ad (FZ.ps (FZ.su (b.psz h4 (by decide) (ndg (by decide)))) (by decide))).bd))
            have eg : suC t n (faC t n d) (s.1 + 2, s.2) = suC t n (faC t n d) (avC (avC s)) := rfl
            rw [eg] at hR3 hN3
            obtain ⟨s3, hs3⟩ : ∃ s3, s3 = suC t n (faC t n d) (avC (avC s)) := ⟨_, rfl⟩
            rw [← hs3] at hR3 hN3 ok bad
            obtain ⟨t1, t2, t3, t4⟩ := hw.top hN3
            have h73 := hR3.2.2.2.2.2.2.1
            by_cases c : s3.1 < n ∧ t s3.1 = 44
            · have hc := (hR3.hr C (by decide)).mpr ((nx_c hR3.1 (c := 44) (by decide)).mpr c)
              rw [ps_ok hR3.1 c.1 c.2] at ok bad
              refine nm_comma C hR3 c.1 hc t1 t2 ?_
              have r3 : Rel n d s3 (tdR σ3) := hR3.off hR3.2.1 rfl hR3.2.2.2.1 hR3.2.2.2.2.1 rfl rfl (fun _ _ => rfl)
              have n3' : Nxt s s3 σ (tdR σ3) 1 := Nxt.off (s' := avC (avC s)) hw rfl (by show s.1 ≤ s.1 + 1 + 1; omega) hN3 rfl rfl (fun _ _ => rfl)
              have hw2 : Wai 11 (-1) (tdR σ3) (cmR2 σ3) := by
                refine ⟨by show σ3.2.2.2.2.1 = σ3.2.2.2.2.1 - 1 + 1; omega, rfl, fun r i hr => ?_, ?_, ?_, fun x hx => ⟨?_, ?_⟩⟩
                · show up2 σ3.2.2.2.2.2.2 87 (σ3.2.2.2.2.1 - 1) 11 r i = _
                  unfold up2
                  rw [if_neg (by omega)]; rfl
                · show up2 σ3.2.2.2.2.2.2 87 (σ3.2.2.2.2.1 - 1) 11 87 (σ3.2.2.2.2.1 - 1) = _
                  unfold up2
                  rw [if_pos ⟨rfl, rfl⟩]
                · show up2 σ3.2.2.2.2.2.2 87 (σ3.2.2.2.2.1 - 1) 11 88 (σ3.2.2.2.2.1 - 1) = _
                  unfold up2
                  rw [if_neg (by omega)]
                  exact t3
                · have hx2 : x < σ3.2.2.2.2.1 - 1 := hx
                  show up2 σ3.2.2.2.2.2.2 87 (σ3.2.2.2.2.1 - 1) 11 87 x = _
                  unfold up2
                  rw [if_neg (by omega)]; rfl
                · show up2 σ3.2.2.2.2.2.2 87 (σ3.2.2.2.2.1 - 1) 11 88 x = _
                  unfold up2
                  rw [if_neg (by omega)]; rfl
              have hR4 : Rel n d (avC s3) (cmR2 σ3) := r3.wai (x := s3.1 + 1) (Nat.le_refl _) c.1 hw2 hR3.2.1 (by show σ3.1 + 1 = s3.1 + 1; rw [hR3.2.2.1]) hR3.2.2.2.1 hR3.2.2.2.2.1
              obtain ⟨u1, u2, -, -⟩ := hw2.top (Nxt.refl (s := avC s3))
              refine hS _ _ hR4 (fun _ => Or.inr (Or.inr u2)) (fun σ5 hR5 hN5 => ?_) (fun co b => bad co (FZ.ad (b.psz h4 (by decide) (ndg (by decide)))).bd)
              obtain ⟨s5, hs5⟩ : ∃ s5, s5 = suC t n (faC t n d) (avC s3) := ⟨_, rfl⟩
              rw [← hs5] at hR5 hN5 ok bad
              obtain ⟨x1, x2, x3, x4⟩ := hw2.top hN5
              have h75 := hR5.2.2.2.2.2.2.1
              by_cases cc : s5.1 < n ∧ t s5.1 = 41
              · have hc2 := (hR5.hr C (by decide)).mpr ((nx_c hR5.1 (c := 41) (by decide)).mpr cc)
                rw [ps_ok hR5.1 cc.1 cc.2] at ok
                refine nm_close C hR5 cc.1 hc2 x1 (Or.inr x2) ?_
                have e3 : clS σ5 = puR 8 0 0 (-1) (-1) (opD (tdR σ5)) := if_pos (show ptR σ5 = 11 from x2)
                have r5 : Rel n (d + 1) s5 (opD (tdR σ5)) := hR5.off hR5.2.1 rfl (by show σ5.2.2.2.2.2.1 - 1 = _; rw [hR5.2.2.2.1]; exact o6d hd6) hd6 rfl rfl (fun _ _ => rfl)
                have n5' : Nxt s3 s5 (tdR σ3) (opD (tdR σ5)) 1 := Nxt.off (s' := avC s3) hw2 rfl (Nat.le_succ _) hN5 rfl rfl (fun _ _ => rfl)
                obtain ⟨r6, n6⟩ := r5.at (x := s5.1 + 1) (Nat.le_succ _) cc.1
                have nn : Nxt s (s5.1 + 1, s5.2) σ (s5.1 + 1, (opD (tdR σ5)).2) 2 := (n3'.trans n5').trans n6
                have hold : ∀ k, k < s.2.2.1 → ¬ pAt s k = nI s.1 := hR.2.2.2.2.2.2.2.1.free (by omega) (Nat.le_refl _) (by omega)
                have lo3 : s.1 + 1 + 1 ≤ s3.1 := hN3.1
                have lo5 : s3.1 + 1 ≤ s5.1 := hN5.1
                have hf : ∀ k, k < s5.2.2.1 → ¬ pAt (s5.1 + 1, s5.2) k = nI s.1 := by
                  have g3 : ∀ k, k < s3.2.2.1 → ¬ pAt s3 k = nI s.1 := Nxt.free (s := (s.1 + 1, s.2)) (s1 := s3) (σ := avR (opR 10 σ)) (σ1 := σ3) (δ := 1) ⟨by show s.1 + 1 ≤ s3.1; omega, hN3.2.1, hN3.2.2.1, fun k a b => by obtain ⟨p, p1, p2, p3⟩ := hN3.2.2.2.1 k a b; have p1' : s.1 + 1 + 1 ≤ p := p1; exact ⟨p, by show s.1 + 1 ≤ p; omega, p2, p3⟩, hN3.2.2.2.2⟩ (by omega) hR3.2.2.2.2.2.2.2.1 hold (Nat.lt_succ_self _)
                  exact Nxt.free (s := avC s3) hN5 (by omega) hR5.2.2.2.2.2.2.2.1 (x := s.1) g3 (by show s.1 < s3.1 + 1; omega)
                have rm := hR5.2.2.2.2.2.1
                have ha2 : adC n s.1 6 0 (avC s5) = adT s.1 6 0 (s5.1 + 1, s5.2) := adC_eq (s := avC s5) l (by show s5.2.2.1 < n; omega)
                rw [ha2] at ok
                have hrow : RowT (adT s.1 6 0 (s5.1 + 1, s5.2)) s5.2.2.1 8 0 0 (-1) (-1) := Or.inr (Or.inr (Or.inr (Or.inr (Or.inr ⟨rfl, sAt_new (s := (s5.1 + 1, s5.2)) (by omega), rfl, rfl⟩))))
                have hh : htR (rwT (s5.1 + 1, (opD (tdR σ5)).2) 82) (s5.1 + 1, (opD (tdR σ5)).2).2.2.2.1 = htR (rwT σ 82) σ.2.2.2.1 + 2 := nn.2.2.2.2.2.2.2.2
                have r7 := Rel.one (x := s.1) r6 (by show s.1 < s5.1 + 1; omega) hf h4 (st := 6) (op := 0) (o := 8) (a := 0) (b := 0) (p := -1) (q := -1) (by decide) rfl hrow (Or.inr (Or.inr ⟨by decide, by rw [hh]; omega⟩)) (by show s5.2.2.1 + (σ5.2.2.2.2.1 - 1) + 2 ≤ s5.1 + 1; omega)
                have n7 : Nxt s (adT s.1 6 0 (s5.1 + 1, s5.2)) σ (puR 8 0 0 (-1) (-1) (s5.1 + 1, (opD (tdR σ5)).2)) 1 := Nxt.one nn (Nat.le_refl _) (by show s.1 < s5.1 + 1; omega) (by rw [ht_2 (σ := (s5.1 + 1, (opD (tdR σ5)).2)) (by decide), hh]; omega)
                have e8 : avR (clS σ5) = puR 8 0 0 (-1) (-1) (s5.1 + 1, (opD (tdR σ5)).2) := by rw [e3, hR5.2.2.1]; rfl
                rw [e8]
                exact ok _ r7 n7
              · exact nm_fail C hR5 (fun z => absurd z.2.2 (by rw [x2]; decide)) (fun z => cc ((nx_c hR5.1 (by decide)).mp ((hR5.hr C (by decide)).mp z.1))) (Or.inl x1) (bad _ (FZ.ad (ps_fz hR5.1 h4 h75 (by decide) cc)).bd _ (fl_bd hR5))
            · exact nm_fail C hR3 (fun z => c ((nx_c hR3.1 (by decide)).mp ((hR3.hr C (by decide)).mp z.1))) (fun z => by rcases z.2.2 with q | q <;> exact absurd (t2.symm.trans q) (by decide)) (Or.inl t1) (bad _ (FZ.ad (FZ.ps (FZ.su (ps_fz hR3.1 h4 h73 (by decide) c)) (by decide))).bd _ (fl_bd hR3))
          · exact rdWb C hR er m2 (bad co (FZ.ad (FZ.ps (FZ.su (FZ.ps (FZ.su m1) (by decide))) (by decide))).bd _ m2)
        · have ef : faC t n (d + 1) s = faB t n s := (if_neg c1).trans ((if_neg c2).trans ((if_neg c3).trans (if_neg c4)))
          rw [ef] at ok bad
          exact simB C hR c1 c2 c4 c3 ok bad
theorem simF {M : Mem} {N : Nat} {Q : Option Value → Nat → Mem → Prop} {n : Nat} {t : Nat → Int32} (C : Ctx M N n t) : ∀ d, SimF M N Q t n d
  | 0 => simF0 C
  | d + 1 => simFs C (simF C d) (simS C (simP C (simF C d)))
