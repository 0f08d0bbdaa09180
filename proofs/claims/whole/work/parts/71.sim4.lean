/-! the reference's loop follows the class's readers -/
def Ctx (M : Mem) (N n : Nat) (t : Nat → Int32) : Prop := rI M 64 23 = nI n ∧ 94 ≤ N ∧ Str M.2.2.1 ∧ TxO t (rI M 65) n
abbrev NM (M : Mem) (N : Nat) (Q : Option Value → Nat → Mem → Prop) (n : Nat) (j : Int32) (σ : RS) : Prop := AW mX10_reads 4 0 0 N 138 [(0, .ref 64), (1, .int (nI n)), (2, .int 0), (3, .int 1), (4, .int j)] [] (wr M σ) Q
def BadK (M : Mem) (N : Nat) (Q : Option Value → Nat → Mem → Prop) (t : Nat → Int32) (n : Nat) (s : CS) : Prop := ∀ co, Bd t n s co → ∀ σ, BdR n σ co → Q none N (wr M σ)
theorem Rel.rb {n d : Nat} {s : CS} {σ : RS} (h : Rel n d s σ) : RB (n + 1) σ := ⟨by have := h.2.2.1; have := h.2.2.2.2.2.2.1; omega, by rw [h.2.1]; decide⟩
theorem bad_w {M : Mem} {N : Nat} {Q : Option Value → Nat → Mem → Prop} {n : Nat} {t : Nat → Int32} (C : Ctx M N n t) {σ : RS} {co w : Int32} (b : BdR n σ co) (h : Q none N (wr M σ)) : AWh M N Q n w σ := rd_E C.2.2.2.1 C.1 b.1 b.2.1 C.2.1 C.2.2.1 h
theorem rdW0 {M : Mem} {N : Nat} {Q : Option Value → Nat → Mem → Prop} {n d : Nat} {t : Nat → Int32} (C : Ctx M N n t) {s : CS} {σ σ' : RS} (h : Rel n d s σ) (e : faR (rI M 65) n σ = (0, σ')) (b : σ'.2.1 ≤ 2) (k : AWh M N Q n 1 σ') : AWh M N Q n 1 σ := by
  have hm := h.mt
  have h7 := h.2.2.2.2.2.2.1
  have h4 := C.2.2.2.1
  exact rd_W h4 C.1 h.rb (by omega) (by omega) (by rw [e]; exact b) (fun z => absurd (by rw [e] at z; exact z) (show ¬ (0 : Int32) = 1 by decide)) h.2.1 C.2.1 C.2.2.1 (fun _ => by rw [e]; exact k) (fun z => absurd (by rw [e] at z; exact z) (show ¬ (0 : Int32) = 1 by decide)) (fun z => absurd (by rw [e] at z; exact z) (show ¬ (0 : Int32) = 1 by decide))
theorem rdW1 {M : Mem} {N : Nat} {Q : Option Value → Nat → Mem → Prop} {n d : Nat} {t : Nat → Int32} (C : Ctx M N n t) {s : CS} {σ σ' : RS} (h : Rel n d s σ) (e : faR (rI M 65) n σ = (1, σ')) (b : σ'.2.1 = 0) (m : σ'.2.2.2.1 + σ'.2.2.2.2.1 ≤ 40) (k : AWh M N Q n 0 (feR σ')) : AWh M N Q n 1 σ := by
  have hm := h.mt
  have h7 := h.2.2.2.2.2.2.1
  have h4 := C.2.2.2.1
  exact rd_W h4 C.1 h.rb (by omega) (by omega) (by rw [e]; show σ'.2.1 ≤ 2; rw [b]; decide) (fun _ _ => by rw [e]; exact m) h.2.1 C.2.1 C.2.2.1 (fun z => absurd (by rw [e] at z; exact z) (show ¬ (1 : Int32) = 0 by decide)) (fun _ _ => by rw [e]; exact k) (fun _ z => absurd (show (faR (rI M 65) n σ).2.2.1 = 0 by rw [e]; exact b) z)
theorem rdWb {M : Mem} {N : Nat} {Q : Option Value → Nat → Mem → Prop} {n d : Nat} {t : Nat → Int32} (C : Ctx M N n t) {s : CS} {σ σ' : RS} {v co : Int32} (h : Rel n d s σ) (e : faR (rI M 65) n σ = (v, σ')) (b : BdR n σ' co) (k : Q none N (wr M σ')) : AWh M N Q n 1 σ := by
  have hm := h.mt
  have h7 := h.2.2.2.2.2.2.1
  have h4 := C.2.2.2.1
  exact rd_W h4 C.1 h.rb (by omega) (by omega) (by rw [e]; exact b.2.1) (fun _ z => absurd (by rw [e] at z; exact z) b.1) h.2.1 C.2.1 C.2.2.1 (fun _ => by rw [e]; exact bad_w C b k) (fun _ z => absurd (by rw [e] at z; exact z) b.1) (fun _ _ => by rw [e]; exact bad_w C b k)
def SimF (M : Mem) (N : Nat) (Q : Option Value → Nat → Mem → Prop) (t : Nat → Int32) (n d : Nat) : Prop := ∀ s σ, Rel n d s σ → (∀ σ1, Rel n d (faC t n d s) σ1 → Nxt s (faC t n d s) σ σ1 1 → AWh M N Q n 0 (feR σ1)) → BadK M N Q t n (faC t n d s) → AWh M N Q n 1 σ
def SimP (M : Mem) (N : Nat) (Q : Option Value → Nat → Mem → Prop) (t : Nat → Int32) (n d : Nat) : Prop := ∀ s σ, Rel n d s σ → (0 < σ.2.2.2.2.1 → ¬ (ptR σ = 3 ∨ ptR σ = 6 ∨ ptR σ = 7)) → (∀ σ1, Rel n d (prC t n (faC t n d) s) σ1 → Nxt s (prC t n (faC t n d) s) σ σ1 1 → ¬ nxC t n (prC t n (faC t n d) s) = 42 → ¬ nxC t n (prC t n (faC t n d) s) = 47 → AWh M N Q n 0 σ1) → BadK M N Q t n (prC t n (faC t n d) s) → AWh M N Q n 1 σ
def SimS (M : Mem) (N : Nat) (Q : Option Value → Nat → Mem → Prop) (t : Nat → Int32) (n d : Nat) : Prop := ∀ s σ, Rel n d s σ → (0 < σ.2.2.2.2.1 → ptR σ = 9 ∨ ptR σ = 10 ∨ ptR σ = 11) → (∀ σ1, Rel n d (suC t n (faC t n d) s) σ1 → Nxt s (suC t n (faC t n d) s) σ σ1 1 → NM M N Q n (-1) σ1) → BadK M N Q t n (suC t n (faC t n d) s) → AWh M N Q n 1 σ
/-- what stands next for both -/
theorem Rel.hr {M : Mem} {N n d : Nat} {t : Nat → Int32} (C : Ctx M N n t) {s : CS} {σ : RS} (h : Rel n d s σ) {c : Int32} (h0 : 0 < c.toInt) : hrR (rI M 65) n σ = c ↔ nxC t n s = c := by
  by_cases l : s.1 < n
  · rw [hr_i C.2.2.2 (by have := h.2.2.1; omega), nx_i h.1 l, h.2.2.1]
  · rw [hr_e (by have := h.2.2.1; omega), nx_e l]
    constructor
    · intro z; rw [← z] at h0; exact absurd h0 (by decide)
    · intro z; rw [← z] at h0; exact absurd h0 (by decide)
theorem joF_6 {c : Int32} : joF c = 6 ↔ c = 42 := by
  unfold joF
  by_cases a : c = 43
  · subst a; decide
  · rw [if_neg a]
    by_cases b : c = 45
    · subst b; decide
    · rw [if_neg b]
      by_cases d : c = 42
      · subst d; decide
      · rw [if_neg d]
        by_cases e : c = 47
        · subst e; decide
        · rw [if_neg e]; exact ⟨fun z => absurd z (by decide), fun z => absurd z d⟩
theorem joF_7 {c : Int32} : joF c = 7 ↔ c = 47 := by
  unfold joF
  by_cases a : c = 43
  · subst a; decide
  · rw [if_neg a]
    by_cases b : c = 45
    · subst b; decide
    · rw [if_neg b]
      by_cases d : c = 42
      · subst d; decide
      · rw [if_neg d]
        by_cases e : c = 47
        · subst e; decide
        · rw [if_neg e]; exact ⟨fun z => absurd z (by decide), fun z => absurd z e⟩
theorem joF_n {c : Int32} (h1 : ¬ c = 42) (h2 : ¬ c = 47) (h3 : ¬ c = 43) (h4 : ¬ c = 45) : joF c = -1 := by
  unfold joF
  rw [if_neg h3, if_neg h4, if_neg h1, if_neg h2]
theorem nx_ad {t : Nat → Int32} {n m p : Nat} {st op : Int32} {s : CS} : nxC t n (adC m p st op s) = nxC t n s := by unfold adC; split <;> rfl
theorem feR_no {σ : RS} (h : 0 < σ.2.2.2.2.1 → ¬ (ptR σ = 3 ∨ ptR σ = 6 ∨ ptR σ = 7)) : feR σ = σ := by
  have e1 : feL σ.2.2.2.2.1 σ = σ := by
    cases k : σ.2.2.2.2.1 with
    | zero => rfl
    | succ r => exact if_neg (fun z => h z.1 (Or.inl z.2))
  unfold feR
  rw [e1]
  exact if_neg (fun z => h z.1 (Or.inr z.2))
theorem feR_67 {σ : RS} (h0 : 0 < σ.2.2.2.2.1) (h : ptR σ = 6 ∨ ptR σ = 7) : feR σ = joR σ := by
  have e1 : feL σ.2.2.2.2.1 σ = σ := by
    cases k : σ.2.2.2.2.1 with
    | zero => rfl
    | succ r => exact if_neg (fun z => by rcases h with q | q <;> exact absurd (q.symm.trans z.2) (by decide))
  unfold feR
  rw [e1]
  exact if_pos ⟨h0, h⟩
theorem feR_3 {σ : RS} (h0 : 0 < σ.2.2.2.2.1) (h : ptR σ = 3) : feR σ = feR (opD (joR σ)) := by
  have e : (opD (joR σ)).2.2.2.2.1 = σ.2.2.2.2.1 - 1 := rfl
  unfold feR
  rw [e]
  cases k : σ.2.2.2.2.1 with
  | zero => rw [k] at h0; exact absurd h0 (Nat.lt_irrefl _)
  | succ r =>
    have e2 : feL (r + 1) σ = feL r (opD (joR σ)) := if_pos ⟨h0, h⟩
    rw [e2]
    rfl
theorem seR_no {σ : RS} (h : 0 < σ.2.2.2.2.1 → ¬ (ptR σ = 4 ∨ ptR σ = 5)) : seR σ = σ := if_neg (fun z => h z.1 z.2)
theorem seR_45 {σ : RS} (h0 : 0 < σ.2.2.2.2.1) (h : ptR σ = 4 ∨ ptR σ = 5) : seR σ = joR σ := if_pos ⟨h0, h⟩
theorem Nxt.top {s s1 : CS} {σ σ1 : RS} {δ : Nat} (h : Nxt s s1 σ σ1 δ) (p : 0 < σ.2.2.2.2.1) : ptR σ1 = ptR σ := by
  obtain ⟨-, -, -, -, h5, h6, -⟩ := h
  show rwT σ1 87 (σ1.2.2.2.2.1 - 1) = rwT σ 87 (σ.2.2.2.2.1 - 1)
  rw [h5]
  exact (h6 _ (by omega)).1
/-- a product -/
theorem simP {M : Mem} {N : Nat} {Q : Option Value → Nat → Mem → Prop} {n d : Nat} {t : Nat → Int32} (C : Ctx M N n t) (hF : SimF M N Q t n d) : SimP M N Q t n d := by
  intro s σ hR hnp ok bad
  have h4 := C.2.2.2.1
  have loop : ∀ r s1 σ1, Rel n d s1 σ1 → Nxt s s1 σ σ1 1 → n + 1 ≤ s1.1 + r → (∀ σ2, Rel n d (prL t n (faC t n d) r s1) σ2 → Nxt s (prL t n (faC t n d) r s1) σ σ2 1 → ¬ nxC t n (prL t n (faC t n d) r s1) = 42 → ¬ nxC t n (prL t n (faC t n d) r s1) = 47 → AWh M N Q n 0 σ2) → BadK M N Q t n (prL t n (faC t n d) r s1) → AWh M N Q n 0 σ1 := by
    intro r
    induction r with
    | zero =>
      intro s1 σ1 hR1 _ hr
      have := hR1.2.2.2.2.2.2.1
      omega
    | succ r ih =>
      intro s1 σ1 hR1 hN1 hr ok bad
      have hm := hR1.mt
      have h7 := hR1.2.2.2.2.2.2.1
      by_cases j : nxC t n s1 = 42 ∨ nxC t n s1 = 47
      · have lt : s1.1 < n := by
          by_cases l : s1.1 < n
          · exact l
          · rw [nx_e l] at j
            exact absurd j (by decide)
        have e : prL t n (faC t n d) (r + 1) s1 = prL t n (faC t n d) r (adC n s1.1 (nxC t n s1) 0 (faC t n d (avC s1))) := if_pos j
        rw [e] at ok bad
        have hj : joF (hrR (rI M 65) n σ1) = 6 ∨ joF (hrR (rI M 65) n σ1) = 7 := by
          rcases j with j | j
          · exact Or.inl (joF_6.mpr ((hR1.hr C (by decide)).mpr j))
          · exact Or.inr (joF_7.mpr ((hR1.hr C (by decide)).mpr j))
        have hsg : nxC t n s1 = sgR (joF (hrR (rI M 65) n σ1)) := by
          rcases j with j | j
          · rw [j, joF_6.mpr ((hR1.hr C (by decide)).mpr j)]; rfl
          · rw [j, joF_7.mpr ((hR1.hr C (by decide)).mpr j)]; rfl
        refine rd_Nm h4 C.1 hR1.rb hR1.2.1 (by omega) hj C.2.1 C.2.2.1 ?_
        have hw : Wai (joF (hrR (rI M 65) n σ1)) (nI σ1.1) σ1 (avR (waR (joF (hrR (rI M 65) n σ1)) (nI σ1.1) σ1)) := wai_wa
        have hR2 : Rel n d (avC s1) (avR (waR (joF (hrR (rI M 65) n σ1)) (nI σ1.1) σ1)) := hR1.wai (x := s1.1 + 1) (Nat.le_refl _) (by omega) hw hR1.2.1 (by show σ1.1 + 1 = s1.1 + 1; rw [hR1.2.2.1]) hR1.2.2.2.1 hR1.2.2.2.2.1
        refine hF _ _ hR2 (fun σ3 hR3 hN3 => ?_) (fun co b => bad co (by rw [(b.ad (pl := s1.1) (st := nxC t n s1) (op := 0)).pr]; exact b.ad))
        obtain ⟨t1, t2, -, -⟩ := hw.top hN3
        rw [feR_67 t1 (by rw [t2]; exact hj)]
        have hh : 1 ≤ htR (rwT σ1 82) σ1.2.2.2.1 := by rw [hN1.2.2.2.2.2.2.2.2]; omega
        obtain ⟨r1, r2⟩ := Rel.join (st := nxC t n s1) h4 hR1 lt hw hR3 hN3 (by rcases j with j | j <;> rw [j] <;> decide) (Or.inr ⟨by rcases hj with q | q <;> rw [q] <;> decide, hsg, by rw [hR1.2.2.1], hh⟩) (σ3 := joR σ3) (Or.inl rfl) hR3.2.2.2.1 hR3.2.2.2.2.1
        rw [if_neg (by rcases hj with q | q <;> rw [q] <;> decide)] at r2
        refine ih _ _ r1 (hN1.trans r2) ?_ ok bad
        have k1 : s1.1 + 1 ≤ (faC t n d (avC s1)).1 := hN3.1
        have k2 : (adC n s1.1 (nxC t n s1) 0 (faC t n d (avC s1))).1 = (faC t n d (avC s1)).1 := by unfold adC; split <;> rfl
        omega
      · have e : prL t n (faC t n d) (r + 1) s1 = s1 := if_neg j
        rw [e] at ok
        exact ok σ1 hR1 hN1 (fun z => j (Or.inl z)) (fun z => j (Or.inr z))
  refine hF s σ hR (fun σ1 hR1 hN1 => ?_) (fun co b => bad co (by show Bd t n (prL t n (faC t n d) 40 (faC t n d s)) co; rw [b.pr]; exact b))
  rw [feR_no (fun p => by
    have p' : 0 < σ.2.2.2.2.1 := by rw [← hN1.2.2.2.2.1]; exact p
    rw [hN1.top p']; exact hnp p')]
  have := hR1.2.2.2.2.2.1
  exact loop 40 _ _ hR1 hN1 (by omega) ok bad
/-- a sum -/
theorem simS {M : Mem} {N : Nat} {Q : Option Value → Nat → Mem → Prop} {n d : Nat} {t : Nat → Int32} (C : Ctx M N n t) (hP : SimP M N Q t n d) : SimS M N Q t n d := by
  intro s σ hR hnp ok bad
  have h4 := C.2.2.2.1
  have loop : ∀ r s1 σ1, Rel n d s1 σ1 → Nxt s s1 σ σ1 1 → ¬ nxC t n s1 = 42 → ¬ nxC t n s1 = 47 → n + 1 ≤ s1.1 + r → (∀ σ2, Rel n d (suL t n (prC t n (faC t n d)) r s1) σ2 → Nxt s (suL t n (prC t n (faC t n d)) r s1) σ σ2 1 → NM M N Q n (-1) σ2) → BadK M N Q t n (suL t n (prC t n (faC t n d)) r s1) → NM M N Q n (joF (hrR (rI M 65) n σ1)) σ1 := by
    intro r
    induction r with
    | zero =>
      intro s1 σ1 hR1 _ _ _ hr
      have := hR1.2.2.2.2.2.2.1
      omega
    | succ r ih =>
      intro s1 σ1 hR1 hN1 n42 n47 hr ok bad
      have hm := hR1.mt
      have h7 := hR1.2.2.2.2.2.2.1
      by_cases j : nxC t n s1 = 43 ∨ nxC t n s1 = 45
      · have lt : s1.1 < n := by
          by_cases l : s1.1 < n
          · exact l
          · rw [nx_e l] at j
            exact absurd j (by decide)
        have e : suL t n (prC t n (faC t n d)) (r + 1) s1 = suL t n (prC t n (faC t n d)) r (adC n s1.1 (nxC t n s1) 0 (prC t n (faC t n d) (avC s1))) := if_pos j
        rw [e] at ok bad
        have hj : joF (hrR (rI M 65) n σ1) = 4 ∨ joF (hrR (rI M 65) n σ1) = 5 := by
          rcases j with j | j
          · rw [(hR1.hr C (by decide)).mpr j]; exact Or.inl rfl
          · rw [(hR1.hr C (by decide)).mpr j]; exact Or.inr rfl
        have hsg : nxC t n s1 = sgR (joF (hrR (rI M 65) n σ1)) := by
          rcases j with j | j
          · rw [(hR1.hr C (by decide)).mpr j, j]; rfl
          · rw [(hR1.hr C (by decide)).mpr j, j]; rfl
        refine rd_138s h4 C.1 (by omega) (by rcases hj with q | q <;> rw [q] <;> decide) C.2.1 C.2.2.1 ?_
        have hw : Wai (joF (hrR (rI M 65) n σ1)) (nI σ1.1) σ1 (avR (waR (joF (hrR (rI M 65) n σ1)) (nI σ1.1) σ1)) := wai_wa
        have hR2 : Rel n d (avC s1) (avR (waR (joF (hrR (rI M 65) n σ1)) (nI σ1.1) σ1)) := hR1.wai (x := s1.1 + 1) (Nat.le_refl _) (by omega) hw hR1.2.1 (by show σ1.1 + 1 = s1.1 + 1; rw [hR1.2.2.1]) hR1.2.2.2.1 hR1.2.2.2.2.1
        obtain ⟨t1, t2, -, -⟩ := hw.top (Nxt.refl (s := avC s1))
        refine hP _ _ hR2 (fun _ => by rw [t2]; rcases hj with q | q <;> rw [q] <;> decide) (fun σ3 hR3 hN3 m42 m47 => ?_) (fun co b => bad co (by rw [(b.ad (pl := s1.1) (st := nxC t n s1) (op := 0)).su]; exact b.ad))
        have hm3 := hR3.mt
        have h73 := hR3.2.2.2.2.2.2.1
        obtain ⟨u1, u2, -, -⟩ := hw.top hN3
        refine rd_Na h4 C.1 hR3.rb hR3.2.1 (by omega) (fun z => ?_) C.2.1 C.2.2.1 ?_
        · rcases z with z | z
          · exact m42 ((hR3.hr C (by decide)).mp (joF_6.mp z))
          · exact m47 ((hR3.hr C (by decide)).mp (joF_7.mp z))
        rw [seR_45 u1 (by rw [u2]; exact hj)]
        have hh : 1 ≤ htR (rwT σ1 82) σ1.2.2.2.1 := by rw [hN1.2.2.2.2.2.2.2.2]; omega
        obtain ⟨r1, r2⟩ := Rel.join (st := nxC t n s1) h4 hR1 lt hw hR3 hN3 (by rcases j with j | j <;> rw [j] <;> decide) (Or.inr ⟨by rcases hj with q | q <;> rw [q] <;> decide, hsg, by rw [hR1.2.2.1], hh⟩) (σ3 := joR σ3) (Or.inl rfl) hR3.2.2.2.1 hR3.2.2.2.2.1
        rw [if_neg (by rcases hj with q | q <;> rw [q] <;> decide)] at r2
        refine ih _ _ r1 (hN1.trans r2) (by rw [nx_ad]; exact m42) (by rw [nx_ad]; exact m47) ?_ ok bad
        have k1 : s1.1 + 1 ≤ (prC t n (faC t n d) (avC s1)).1 := hN3.1
        have k2 : (adC n s1.1 (nxC t n s1) 0 (prC t n (faC t n d) (avC s1))).1 = (prC t n (faC t n d) (avC s1)).1 := by unfold adC; split <;> rfl
        omega
      · have e : suL t n (prC t n (faC t n d)) (r + 1) s1 = s1 := if_neg j
        rw [e] at ok
        have ej : joF (hrR (rI M 65) n σ1) = -1 := joF_n (fun z => n42 ((hR1.hr C (by decide)).mp z)) (fun z => n47 ((hR1.hr C (by decide)).mp z)) (fun z => j (Or.inl ((hR1.hr C (by decide)).mp z))) (fun z => j (Or.inr ((hR1.hr C (by decide)).mp z)))
        rw [ej]
        exact ok σ1 hR1 hN1
  refine hP s σ hR (fun p => by rcases hnp p with q | q | q <;> rw [q] <;> decide) (fun σ1 hR1 hN1 m42 m47 => ?_) (fun co b => bad co (by show Bd t n (suL t n (prC t n (faC t n d)) 40 (prC t n (faC t n d) s)) co; rw [b.su]; exact b))
  have hm := hR1.mt
  have h7 := hR1.2.2.2.2.2.2.1
  refine rd_Na h4 C.1 hR1.rb hR1.2.1 (by omega) (fun z => ?_) C.2.1 C.2.2.1 ?_
  · rcases z with z | z
    · exact m42 ((hR1.hr C (by decide)).mp (joF_6.mp z))
    · exact m47 ((hR1.hr C (by decide)).mp (joF_7.mp z))
  rw [seR_no (fun p => by
    have p' : 0 < σ.2.2.2.2.1 := by rw [← hN1.2.2.2.2.1]; exact p
    rw [hN1.top p']
    rcases hnp p' with q | q | q <;> rw [q] <;> decide)]
  exact loop 40 _ _ hR1 hN1 m42 m47 (by omega) ok bad
