/-! what the class's readers leave is well made -/
def StK (s : CS) : Prop := ∀ k, k < s.2.2.1 → stA (sAt s k) ∧ (sAt s k = 2 ∨ sAt s k = 3 → ∃ c, c < 64 ∧ oAt s k = nI c) ∧ (sAt s k = 5 → ∃ m, k = m + 2 ∧ sAt s (m + 1) = 3 ∧ sAt s m = 3) ∧ (sAt s k = 1 → 0 ≤ (oAt s k).toInt ∧ (oAt s k).toInt ≤ 9999)
def CW (t : Nat → Int32) (n : Nat) (s : CS) : Prop := s.2.1 = 0 ∧ s.1 ≤ n ∧ s.2.2.1 + 1 ≤ s.1 ∧ PlK s ∧ StK s ∧ ∀ j, j < s.1 → (t j).toInt < 128
def CN (s s1 : CS) : Prop := s.1 ≤ s1.1 ∧ s.2.2.1 ≤ s1.2.2.1 ∧ (∀ k, k < s.2.2.1 → pAt s1 k = pAt s k) ∧ (∀ k, s.2.2.1 ≤ k → k < s1.2.2.1 → ∃ p, s.1 ≤ p ∧ p < s1.1 ∧ pAt s1 k = nI p) ∧ s1.2.2.1 + s.1 ≤ s.2.2.1 + s1.1
theorem CN.refl {s : CS} : CN s s := ⟨Nat.le_refl _, Nat.le_refl _, fun _ _ => rfl, fun k h1 h2 => absurd h2 (by omega), Nat.le_refl _⟩
theorem CN.trans {s s1 s2 : CS} (h : CN s s1) (k : CN s1 s2) : CN s s2 := by
  obtain ⟨h1, h2, h3, h4, h5⟩ := h
  obtain ⟨k1, k2, k3, k4, k5⟩ := k
  refine ⟨by omega, by omega, fun x hx => (k3 x (by omega)).trans (h3 x hx), fun x hx hx2 => ?_, by omega⟩
  by_cases q : x < s1.2.2.1
  · obtain ⟨p, p1, p2, p3⟩ := h4 x hx q
    exact ⟨p, p1, by omega, (k3 x q).trans p3⟩
  · obtain ⟨p, p1, p2, p3⟩ := k4 x (by omega) hx2
    exact ⟨p, by omega, p2, p3⟩
theorem CW.at {t : Nat → Int32} {n : Nat} {s : CS} (h : CW t n s) {x : Nat} (h1 : s.1 ≤ x) (h2 : x ≤ n) (h3 : ∀ j, s.1 ≤ j → j < x → (t j).toInt < 128) : CW t n (x, s.2) ∧ CN s (x, s.2) := by
  obtain ⟨a1, a2, a3, a4, a5, a6⟩ := h
  refine ⟨⟨a1, h2, by show s.2.2.1 + 1 ≤ x; omega, a4.up rfl h1, a5, fun j hj => ?_⟩, h1, Nat.le_refl _, fun _ _ => rfl, fun k q1 q2 => absurd q2 (by have q3 : s.2.2.1 ≤ k := q1; show ¬ k < s.2.2.1; omega), by show s.2.2.1 + s.1 ≤ s.2.2.1 + x; omega⟩
  by_cases q : j < s.1
  · exact a6 j q
  · exact h3 j (by omega) hj
theorem CW.one {t : Nat → Int32} {n : Nat} {s : CS} (h4 : n ≤ 40) (h : CW t n s) {x : Nat} (hx : x < s.1) (hf : ∀ k, k < s.2.2.1 → ¬ pAt s k = nI x) {st op : Int32} (hst : ¬ st = 0) (ha : stA st) (hc : st = 2 ∨ st = 3 → ∃ c, c < 64 ∧ op = nI c) (h5 : st = 5 → ∃ m, s.2.2.1 = m + 2 ∧ sAt s (m + 1) = 3 ∧ sAt s m = 3) (h1 : st = 1 → 0 ≤ op.toInt ∧ op.toInt ≤ 9999) (hr : s.2.2.1 + 2 ≤ s.1) : CW t n (adT x st op s) := by
  obtain ⟨a1, a2, a3, a4, a5, a6⟩ := h
  have g : ∀ k, k < s.2.2.1 → sAt (adT x st op s) k = sAt s k ∧ oAt (adT x st op s) k = oAt s k := fun k hk => at_old a4 (by omega) (by omega) hk (hf k hk)
  refine ⟨a1, a2, by show s.2.2.1 + 1 + 1 ≤ s.1; omega, a4.ad (by omega) hx hf, fun k hk => ?_, a6⟩
  have hk2 : k < s.2.2.1 + 1 := hk
  by_cases e : k = s.2.2.1
  · subst e
    rw [sAt_new (by omega), oAt_new (by omega)]
    refine ⟨ha, hc, fun z => ?_, h1⟩
    obtain ⟨m, m1, m2, m3⟩ := h5 z
    exact ⟨m, m1, by rw [(g (m + 1) (by omega)).1]; exact m2, by rw [(g m (by omega)).1]; exact m3⟩
  · rw [(g k (by omega)).1, (g k (by omega)).2]
    obtain ⟨b1, b2, b3, b4⟩ := a5 k (by omega)
    refine ⟨b1, b2, fun z => ?_, b4⟩
    obtain ⟨m, m1, m2, m3⟩ := b3 z
    exact ⟨m, m1, by rw [(g (m + 1) (by omega)).1]; exact m2, by rw [(g m (by omega)).1]; exact m3⟩
theorem CN.one {s0 s : CS} (h : CN s0 s) {x : Nat} {st op : Int32} (h1 : s0.1 ≤ x) (h2 : x < s.1) (h3 : s.2.2.1 + 1 + s0.1 ≤ s0.2.2.1 + s.1) : CN s0 (adT x st op s) := by
  obtain ⟨k1, k2, k3, k4, k5⟩ := h
  refine ⟨k1, by show s0.2.2.1 ≤ s.2.2.1 + 1; omega, fun k hk => (pAt_old (by omega)).trans (k3 k hk), fun k q1 q2 => ?_, h3⟩
  have q3 : k < s.2.2.1 + 1 := q2
  by_cases e : k = s.2.2.1
  · subst e
    exact ⟨x, h1, h2, pAt_new⟩
  · obtain ⟨p, p1, p2, p3⟩ := k4 k q1 (by omega)
    exact ⟨p, p1, p2, (pAt_old (by omega)).trans p3⟩
theorem CN.free {s s1 : CS} (hN : CN s s1) (h4 : s1.1 < 1000) {x : Nat} (h1 : ∀ k, k < s.2.2.1 → ¬ pAt s k = nI x) (h2 : x < s.1) : ∀ k, k < s1.2.2.1 → ¬ pAt s1 k = nI x := by
  intro k hk e
  by_cases q : k < s.2.2.1
  · rw [hN.2.2.1 k q] at e
    exact h1 k q e
  · obtain ⟨p, hp, hp2, e2⟩ := hN.2.2.2.1 k (by omega) hk
    have hs : s.1 ≤ s1.1 := hN.1
    have : p = x := (nI_eq (by omega) (by omega)).mp (e2.symm.trans e)
    omega
/-- a step at the place of s, behind what follows it -/
theorem CW.pend {t : Nat → Int32} {n : Nat} (h4 : n ≤ 40) {s s1 : CS} (h : CW t n s) (hl : s.1 < n) (hN : CN (avC s) s1) (h1 : CW t n s1) {st op : Int32} (hst : ¬ st = 0) (ha : stA st) (hc : ¬ (st = 2 ∨ st = 3)) (h5 : ¬ st = 5) (h1' : ¬ st = 1 := by decide) : CW t n (adC n s.1 st op s1) ∧ CN s (adC n s.1 st op s1) := by
  have lo : s.1 + 1 ≤ s1.1 := hN.1
  have r3 : s1.2.2.1 + (s.1 + 1) ≤ s.2.2.1 + s1.1 := hN.2.2.2.2
  have a3 := h.2.2.1
  have n1 := h1.2.1
  have hold : ∀ k, k < s.2.2.1 → ¬ pAt s k = nI s.1 := h.2.2.2.1.free (by omega) (Nat.le_refl _) (by omega)
  have hf : ∀ k, k < s1.2.2.1 → ¬ pAt s1 k = nI s.1 := CN.free (s := avC s) hN (by omega) hold (Nat.lt_succ_self _)
  rw [adC_eq hl (by omega)]
  refine ⟨h1.one h4 (by omega) hf hst ha (fun z => absurd z hc) (fun z => absurd z h5) (fun z => absurd z h1') (by omega), CN.one (s0 := s) ?_ (Nat.le_refl _) (by omega) (by omega)⟩
  obtain ⟨k1, k2, k3, k4, k5⟩ := hN
  exact ⟨by omega, k2, k3, fun k a b => by obtain ⟨p, p1, p2, p3⟩ := k4 k a b; have p1' : s.1 + 1 ≤ p := p1; exact ⟨p, by omega, p2, p3⟩, by omega⟩
/-- where no fault comes out, none went in -/
theorem z_ps {t : Nat → Int32} {n : Nat} {c : Int32} {s : CS} (h0 : 0 ≤ c.toInt) (h : (psC t n c s).2.1 = 0) : s.2.1 = 0 := Classical.byContradiction (fun z => z (by rw [ps_f z h0] at h; exact h))
theorem z_ad {n p : Nat} {st op : Int32} {s : CS} (h : (adC n p st op s).2.1 = 0) : s.2.1 = 0 := by
  unfold adC at h
  split at h
  · exact h
  · exact h
theorem z_fa {t : Nat → Int32} {n d : Nat} {s : CS} (h : (faC t n d s).2.1 = 0) : s.2.1 = 0 := Classical.byContradiction (fun z => z (by rw [fa_f z] at h; exact h))
theorem z_su {t : Nat → Int32} {n d : Nat} {s : CS} (h : (suC t n (faC t n d) s).2.1 = 0) : s.2.1 = 0 := Classical.byContradiction (fun z => (FZ.su (t := t) (n := n) (d := d) (s := s) (co := s.2.1) ⟨z, rfl⟩).1 h)
theorem ps_in {t : Nat → Int32} {n : Nat} (h4 : n ≤ 40) {c : Int32} (h0 : 0 ≤ c.toInt) {s : CS} (hs : s.1 ≤ n) (h : (psC t n c s).2.1 = 0) : s.2.1 = 0 ∧ s.1 < n ∧ t s.1 = c ∧ psC t n c s = avC s := by
  have e := z_ps h0 h
  by_cases q : s.1 < n ∧ t s.1 = c
  · exact ⟨e, q.1, q.2, ps_ok e q.1 q.2⟩
  · rw [ps_no e h0 q] at h
    exact absurd h (cnz (by omega) (by omega))
theorem CW.ps {t : Nat → Int32} {n : Nat} (h4 : n ≤ 40) {c : Int32} (h0 : 0 ≤ c.toInt) (h8 : c.toInt < 128) {s : CS} (h : CW t n s) (hz : (psC t n c s).2.1 = 0) : s.1 < n ∧ t s.1 = c ∧ psC t n c s = avC s ∧ CW t n (avC s) ∧ CN s (avC s) := by
  obtain ⟨-, a, b, e⟩ := ps_in h4 h0 h.2.1 hz
  refine ⟨a, b, e, h.at (x := s.1 + 1) (Nat.le_succ _) a (fun j j1 j2 => ?_)⟩
  rw [show j = s.1 by omega, b]
  exact h8
theorem CW.nx {t : Nat → Int32} {n : Nat} {c : Int32} (h0 : 0 ≤ c.toInt) (h8 : c.toInt < 128) {s : CS} (h : CW t n s) (hc : nxC t n s = c) : s.1 < n ∧ CW t n (avC s) ∧ CN s (avC s) := by
  obtain ⟨a, b⟩ := (nx_c h.1 h0).mp hc
  refine ⟨a, h.at (x := s.1 + 1) (Nat.le_succ _) a (fun j j1 j2 => ?_)⟩
  rw [show j = s.1 by omega, b]
  exact h8
/-- readers that leave what is well made -/
def Gd (t : Nat → Int32) (n : Nat) (F : CS → CS) : Prop := (∀ s, (F s).2.1 = 0 → s.2.1 = 0) ∧ ∀ s, CW t n s → (F s).2.1 = 0 → CW t n (F s) ∧ CN s (F s)
theorem prL_z {t : Nat → Int32} {n : Nat} {F : CS → CS} : ∀ (r : Nat) (s : CS), (prL t n F r s).2.1 = 0 → s.2.1 = 0
  | 0, _, h => h
  | r + 1, s, h => Classical.byContradiction (fun z => z (by
      have b : Bd t n s s.2.1 := Or.inl ⟨z, rfl⟩
      rw [b.pr] at h
      exact h))
theorem suL_z {t : Nat → Int32} {n : Nat} {F : CS → CS} : ∀ (r : Nat) (s : CS), (suL t n F r s).2.1 = 0 → s.2.1 = 0
  | 0, _, h => h
  | r + 1, s, h => Classical.byContradiction (fun z => z (by
      have b : Bd t n s s.2.1 := Or.inl ⟨z, rfl⟩
      rw [b.su] at h
      exact h))
theorem Gd.pr {t : Nat → Int32} {n : Nat} (h4 : n ≤ 40) {F : CS → CS} (hF : Gd t n F) : Gd t n (prC t n F) := by
  refine ⟨fun s h => hF.1 s (prL_z 40 _ h), fun s hs h => ?_⟩
  have loop : ∀ r s1, CW t n s1 → CN s s1 → (prL t n F r s1).2.1 = 0 → CW t n (prL t n F r s1) ∧ CN s (prL t n F r s1) := by
    intro r
    induction r with
    | zero => exact fun s1 a b _ => ⟨a, b⟩
    | succ r ih =>
      intro s1 a b hz
      by_cases j : nxC t n s1 = 42 ∨ nxC t n s1 = 47
      · have e : prL t n F (r + 1) s1 = prL t n F r (adC n s1.1 (nxC t n s1) 0 (F (avC s1))) := if_pos j
        rw [e] at hz ⊢
        have fz := z_ad (prL_z r _ hz)
        obtain ⟨l, w1, w2⟩ : s1.1 < n ∧ CW t n (avC s1) ∧ CN s1 (avC s1) := by rcases j with j | j <;> exact a.nx (by decide) (by decide) j
        obtain ⟨x1, x2⟩ := hF.2 _ w1 fz
        obtain ⟨y1, y2⟩ := a.pend h4 l x2 x1 (st := nxC t n s1) (op := 0) (by rcases j with j | j <;> rw [j] <;> decide) (by rcases j with j | j <;> rw [j] <;> unfold stA <;> decide) (by rcases j with j | j <;> rw [j] <;> decide) (by rcases j with j | j <;> rw [j] <;> decide) (by rcases j with j | j <;> rw [j] <;> decide)
        exact ih _ y1 (b.trans y2) hz
      · have e : prL t n F (r + 1) s1 = s1 := if_neg j
        rw [e]
        exact ⟨a, b⟩
  have fz := prL_z 40 _ h
  obtain ⟨x1, x2⟩ := hF.2 s hs fz
  exact loop 40 _ x1 x2 h
theorem Gd.su {t : Nat → Int32} {n : Nat} (h4 : n ≤ 40) {F : CS → CS} (hF0 : Gd t n F) : Gd t n (suC t n F) := by
  have hF := hF0.pr h4
  refine ⟨fun s h => hF.1 s (suL_z 40 _ h), fun s hs h => ?_⟩
  have loop : ∀ r s1, CW t n s1 → CN s s1 → (suL t n (prC t n F) r s1).2.1 = 0 → CW t n (suL t n (prC t n F) r s1) ∧ CN s (suL t n (prC t n F) r s1) := by
    intro r
    induction r with
    | zero => exact fun s1 a b _ => ⟨a, b⟩
    | succ r ih =>
      intro s1 a b hz
      by_cases j : nxC t n s1 = 43 ∨ nxC t n s1 = 45
      · have e : suL t n (prC t n F) (r + 1) s1 = suL t n (prC t n F) r (adC n s1.1 (nxC t n s1) 0 (prC t n F (avC s1))) := if_pos j
        rw [e] at hz ⊢
        have fz := z_ad (suL_z r _ hz)
        obtain ⟨l, w1, w2⟩ : s1.1 < n ∧ CW t n (avC s1) ∧ CN s1 (avC s1) := by rcases j with j | j <;> exact a.nx (by decide) (by decide) j
        obtain ⟨x1, x2⟩ := hF.2 _ w1 fz
        obtain ⟨y1, y2⟩ := a.pend h4 l x2 x1 (st := nxC t n s1) (op := 0) (by rcases j with j | j <;> rw [j] <;> decide) (by rcases j with j | j <;> rw [j] <;> unfold stA <;> decide) (by rcases j with j | j <;> rw [j] <;> decide) (by rcases j with j | j <;> rw [j] <;> decide) (by rcases j with j | j <;> rw [j] <;> decide)
        exact ih _ y1 (b.trans y2) hz
      · have e : suL t n (prC t n F) (r + 1) s1 = s1 := if_neg j
        rw [e]
        exact ⟨a, b⟩
  have fz := suL_z 40 _ h
  obtain ⟨x1, x2⟩ := hF.2 s hs fz
  exact loop 40 _ x1 x2 h
theorem nuL_x {t : Nat → Int32} {n : Nat} : ∀ (r : Nat) (v : Int32) (s : CS), s.2.1 = 0 → s.1 ≤ n → ∃ x v', s.1 ≤ x ∧ x ≤ n ∧ nuL t n r v s = (v', (x, s.2)) ∧ (∀ j, s.1 ≤ j → j < x → (t j).toInt < 128) ∧ (0 < r → s.1 < n → dig (t s.1) → s.1 + 1 ≤ x)
  | 0, v, s, _, h2 => ⟨s.1, v, Nat.le_refl _, h2, rfl, fun j a b => absurd b (by omega), fun a => absurd a (Nat.lt_irrefl 0)⟩
  | r + 1, v, s, h1, h2 => by
    by_cases q : s.1 < n ∧ dig (t s.1)
    · have e : nuL t n (r + 1) v s = nuL t n r (10 * v + nxC t n s - 48) (avC s) := if_pos ((nx_dig h1).mpr q)
      obtain ⟨x, v', k1, k2, k3, k4, -⟩ := nuL_x (t := t) (n := n) r (10 * v + nxC t n s - 48) (avC s) h1 q.1
      have k1' : s.1 + 1 ≤ x := k1
      refine ⟨x, v', by omega, k2, e.trans k3, fun j a b => ?_, fun _ _ _ => k1'⟩
      by_cases z : j = s.1
      · have := q.2.2
        rw [z]; omega
      · exact k4 j (by show s.1 + 1 ≤ j; omega) b
    · have e : nuL t n (r + 1) v s = (v, s) := if_neg (fun z => q ((nx_dig h1).mp z))
      exact ⟨s.1, v, Nat.le_refl _, h2, e, fun j a b => absurd b (by omega), fun _ a b => absurd ⟨a, b⟩ q⟩
theorem nuL_b {t : Nat → Int32} {n : Nat} : ∀ (r : Nat) (v : Int32) (s : CS), s.2.1 = 0 → 0 ≤ v.toInt → (v.toInt + 1) * 10 ^ r ≤ 10000 → 0 ≤ (nuL t n r v s).1.toInt ∧ (nuL t n r v s).1.toInt ≤ 9999
  | 0, v, s, _, h0, h => ⟨h0, by have h2 : (v.toInt + 1) * 1 ≤ 10000 := h; show v.toInt ≤ 9999; omega⟩
  | r + 1, v, s, h1, h0, h => by
    by_cases q : s.1 < n ∧ dig (t s.1)
    · have e : nuL t n (r + 1) v s = nuL t n r (10 * v + nxC t n s - 48) (avC s) := if_pos ((nx_dig h1).mpr q)
      rw [e, nx_i h1 q.1]
      have ev := pos_nI h0
      have et := pos_nI (x := t s.1) (by have := q.2.1; omega)
      have q1 := q.2.1
      have q2 := q.2.2
      have p1 : (1 : Int) ≤ 10 ^ r := by
        have : 0 < (10 : Int) ^ r := Int.pow_pos (by decide)
        omega
      have h2 : (v.toInt + 1) * 10 * 10 ^ r ≤ 10000 := by
        rw [Int.mul_assoc, Int.mul_comm 10, ← Int.pow_succ]; exact h
      have hv : v.toInt ≤ 999 := by
        have h3 : (v.toInt + 1) * 10 * 1 ≤ (v.toInt + 1) * 10 * 10 ^ r := Int.mul_le_mul_of_nonneg_left p1 (by omega)
        omega
      have eq : 10 * v + t s.1 - 48 = nI (10 * v.toInt.toNat + (t s.1).toInt.toNat - 48) := by
        rw [ev, et, show (10 : Int32) = nI 10 from rfl, pk_mul, nI_add, show (48 : Int32) = nI 48 from rfl, pk_sub (by omega), ← ev, ← et]
      have ei : (10 * v + t s.1 - 48).toInt = 10 * v.toInt + (t s.1).toInt - 48 := by
        rw [eq, nIt (by omega)]
        omega
      refine nuL_b r _ (avC s) h1 (by rw [ei]; omega) ?_
      rw [ei]
      have h4 : (10 * v.toInt + (t s.1).toInt - 48 + 1) * 10 ^ r ≤ (v.toInt + 1) * 10 * 10 ^ r := Int.mul_le_mul_of_nonneg_right (by omega) (by omega)
      omega
    · have e : nuL t n (r + 1) v s = (v, s) := if_neg (fun z => q ((nx_dig h1).mp z))
      rw [e]
      refine ⟨h0, ?_⟩
      have p1 : (1 : Int) ≤ 10 ^ (r + 1) := by
        have : 0 < (10 : Int) ^ (r + 1) := Int.pow_pos (by decide)
        omega
      have h3 : (v.toInt + 1) * 1 ≤ (v.toInt + 1) * 10 ^ (r + 1) := Int.mul_le_mul_of_nonneg_left p1 (by omega)
      show v.toInt ≤ 9999
      omega
theorem ce_x {t : Nat → Int32} {n : Nat} (h4 : n ≤ 40) {st : Int32} {s : CS} (h1 : s.2.1 = 0) (h2 : s.1 ≤ n) (h : (ceC t n st s).2.1 = 0) : s.1 + 2 ≤ n ∧ (∀ j, s.1 ≤ j → j < s.1 + 2 → (t j).toInt < 128) ∧ ∃ v, (∃ c, c < 64 ∧ v = nI c) ∧ ceC t n st s = adC n s.1 st v (s.1 + 2, s.2) := by
  by_cases a : s.1 < n ∧ (65 : Int32).toInt ≤ (t s.1).toInt ∧ (t s.1).toInt ≤ (72 : Int32).toInt
  · have p1 : pwC t n 65 72 s = (t s.1, avC s) := pw_ok h1 a.1 a.2
    have a2 : 65 ≤ (t s.1).toInt ∧ (t s.1).toInt ≤ 72 := a.2
    by_cases b : (avC s).1 < n ∧ (49 : Int32).toInt ≤ (t (avC s).1).toInt ∧ (t (avC s).1).toInt ≤ (56 : Int32).toInt
    · have p2 : pwC t n 49 56 (avC s) = (t (s.1 + 1), avC (avC s)) := pw_ok (s := avC s) h1 b.1 b.2
      have b1 : s.1 + 1 < n := b.1
      have b2 : 49 ≤ (t (s.1 + 1)).toInt ∧ (t (s.1 + 1)).toInt ≤ 56 := b.2
      refine ⟨by omega, fun j j1 j2 => ?_, ceV (t s.1) (t (s.1 + 1)), ceV_c a2 b2, ?_⟩
      · rcases (show j = s.1 ∨ j = s.1 + 1 by omega) with q | q <;> rw [q] <;> omega
      · unfold ceC
        rw [p1, p2]
        rfl
    · have p2 : (pwC t n 49 56 (avC s)).2 = (s.1 + 1, nI (100 + (s.1 + 1)), s.2.2) := pw_no (s := avC s) h1 (by decide) b
      have e : (ceC t n st s).2.1 = nI (100 + (s.1 + 1)) := by
        unfold ceC
        rw [p1]
        show (adC n s.1 st _ (pwC t n 49 56 (avC s)).2).2.1 = _
        rw [p2]
        unfold adC
        split <;> rfl
      rw [e] at h
      exact absurd h (cnz (by omega) (by omega))
  · have p1 : (pwC t n 65 72 s).2 = (s.1, nI (100 + s.1), s.2.2) := pw_no h1 (by decide) a
    have nz : ¬ nI (100 + s.1) = 0 := cnz (by omega) (by omega)
    have e : (ceC t n st s).2.1 = nI (100 + s.1) := by
      unfold ceC
      rw [p1, pw_f (s := (s.1, nI (100 + s.1), s.2.2)) nz (by decide)]
      unfold adC
      split <;> rfl
    rw [e] at h
    exact absurd h nz
theorem CW.ce {t : Nat → Int32} {n : Nat} (h4 : n ≤ 40) {st : Int32} (hst : st = 2 ∨ st = 3) {s : CS} (h : CW t n s) (hz : (ceC t n st s).2.1 = 0) : CW t n (ceC t n st s) ∧ CN s (ceC t n st s) ∧ (ceC t n st s).2.2.1 = s.2.2.1 + 1 ∧ (ceC t n st s).1 = s.1 + 2 ∧ sAt (ceC t n st s) s.2.2.1 = st ∧ (∀ k, k < s.2.2.1 → sAt (ceC t n st s) k = sAt s k) := by
  obtain ⟨k1, k2, v, hv, k3⟩ := ce_x h4 h.1 h.2.1 hz
  have a3 := h.2.2.1
  obtain ⟨w1, w2⟩ := h.at (x := s.1 + 2) (by omega) k1 k2
  have hf : ∀ k, k < s.2.2.1 → ¬ pAt s k = nI s.1 := h.2.2.2.1.free (by omega) (Nat.le_refl _) (by omega)
  have e : adC n s.1 st v (s.1 + 2, s.2) = adT s.1 st v (s.1 + 2, s.2) := adC_eq (by omega) (by show s.2.2.1 < n; omega)
  rw [k3, e]
  refine ⟨w1.one h4 (by show s.1 < s.1 + 2; omega) hf (by rcases hst with q | q <;> rw [q] <;> decide) (by rcases hst with q | q <;> rw [q] <;> unfold stA <;> decide) (fun _ => hv) (fun z => absurd z (by rcases hst with q | q <;> rw [q] <;> decide)) (fun z => absurd z (by rcases hst with q | q <;> rw [q] <;> decide)) (by show s.2.2.1 + 2 ≤ s.1 + 2; omega), w2.one (Nat.le_refl _) (by show s.1 < s.1 + 2; omega) (by show s.2.2.1 + 1 + s.1 ≤ s.2.2.1 + (s.1 + 2); omega), rfl, rfl, sAt_new (s := (s.1 + 2, s.2)) (by omega), fun k hk => (at_old (s := (s.1 + 2, s.2)) w1.2.2.2.1 (by show s.1 + 2 < 1000; omega) (by omega) hk (hf k hk)).1⟩
theorem Gd.fb {t : Nat → Int32} {n : Nat} (h4 : n ≤ 40) {s : CS} (hs : CW t n s) (hz : (faB t n s).2.1 = 0) : CW t n (faB t n s) ∧ CN s (faB t n s) := by
  by_cases q : s.1 < n ∧ dig (t s.1)
  · have e : faB t n s = nuC t n s := if_pos ((nx_dig hs.1).mpr q)
    obtain ⟨x, v, k1, k2, k3, k4, k5⟩ := nuL_x (t := t) (n := n) 4 0 s hs.1 hs.2.1
    have k6 := k5 (by decide) q.1 q.2
    have a3 := hs.2.2.1
    have e2 : nuC t n s = adT s.1 1 v (x, s.2) := by unfold nuC; rw [k3]; exact adC_eq (by omega) (by show s.2.2.1 < n; omega)
    obtain ⟨w1, w2⟩ := hs.at k1 k2 k4
    have hf : ∀ k, k < s.2.2.1 → ¬ pAt s k = nI s.1 := hs.2.2.2.1.free (by omega) (Nat.le_refl _) (by omega)
    rw [e, e2]
    exact ⟨w1.one h4 (by show s.1 < x; omega) hf (by decide) (by unfold stA; decide) (fun z => absurd z (by decide)) (fun z => absurd z (by decide)) (fun _ => by have := nuL_b (t := t) (n := n) 4 0 s hs.1 (by decide) (by decide); rw [k3] at this; exact this) (by show s.2.2.1 + 2 ≤ x; omega), w2.one (Nat.le_refl _) (by show s.1 < x; omega) (by show s.2.2.1 + 1 + s.1 ≤ s.2.2.1 + x; omega)⟩
  · have e : faB t n s = ceC t n 2 s := if_neg (fun z => q ((nx_dig hs.1).mp z))
    rw [e] at hz ⊢
    obtain ⟨a, b, -⟩ := hs.ce h4 (Or.inl rfl) hz
    exact ⟨a, b⟩
theorem Gd.fa {t : Nat → Int32} {n : Nat} (h4 : n ≤ 40) : ∀ d, Gd t n (faC t n d)
  | 0 => by
    refine ⟨fun s h => z_fa h, fun s hs hz => ?_⟩
    by_cases c : nxC t n s = 45 ∨ nxC t n s = 40 ∨ nxC t n s = 83 ∨ nxC t n s = 77
    · have e : faC t n 0 s = flC 2 s := if_pos c
      rw [e, fl_0 hs.1, c200] at hz
      exact absurd hz (cnz (by have := hs.2.1; omega) (by omega))
    · have e : faC t n 0 s = faB t n s := if_neg c
      rw [e] at hz ⊢
      exact Gd.fb h4 hs hz
  | d + 1 => by
    have ih := Gd.fa (t := t) h4 d
    have is := ih.su h4
    refine ⟨fun s h => z_fa h, fun s hs hz => ?_⟩
    by_cases c1 : nxC t n s = 45
    · have e : faC t n (d + 1) s = neC t n (faC t n d) s := if_pos c1
      rw [e] at hz ⊢
      unfold neC at hz ⊢
      have z1 := z_ad hz
      obtain ⟨l, -, e2, w1, w2⟩ := hs.ps h4 (by decide) (by decide) (ih.1 _ z1)
      rw [e2] at z1 ⊢
      obtain ⟨x1, x2⟩ := ih.2 _ w1 z1
      exact hs.pend h4 l x2 x1 (by decide) (by unfold stA; decide) (by decide) (by decide)
    · by_cases c2 : nxC t n s = 40
      · have e : faC t n (d + 1) s = psC t n 41 (suC t n (faC t n d) (psC t n 40 s)) := (if_neg c1).trans (if_pos c2)
        rw [e] at hz ⊢
        have z1 := z_ps (by decide) hz
        obtain ⟨-, -, e2, w1, w2⟩ := hs.ps h4 (by decide) (by decide) (is.1 _ z1)
        rw [e2] at z1 hz ⊢
        obtain ⟨x1, x2⟩ := is.2 _ w1 z1
        obtain ⟨-, -, e3, y1, y2⟩ := x1.ps h4 (by decide) (by decide) hz
        rw [e3]
        exact ⟨y1, (w2.trans x2).trans y2⟩
      · by_cases c3 : nxC t n s = 83
        · have e : faC t n (d + 1) s = reC t n s := (if_neg c1).trans ((if_neg c2).trans (if_pos c3))
          rw [e] at hz ⊢
          unfold reC at hz ⊢
          have z1 := z_ad hz
          have z2 := z_ps (by decide) z1
          have z3 : (psC t n 58 (ceC t n 3 (psC t n 40 (psC t n 83 s)))).2.1 = 0 := Classical.byContradiction (fun q => q (by rw [ce_f q] at z2; exact z2))
          have z4 := z_ps (by decide) z3
          have z5 : (psC t n 40 (psC t n 83 s)).2.1 = 0 := Classical.byContradiction (fun q => q (by rw [ce_f q] at z4; exact z4))
          have z6 := z_ps (by decide) z5
          obtain ⟨l, -, e2, w1, w2⟩ := hs.ps h4 (by decide) (by decide) z6
          rw [e2] at z1 z2 z3 z4 z5 ⊢
          obtain ⟨-, -, e3, v1, v2⟩ := w1.ps h4 (by decide) (by decide) z5
          rw [e3] at z1 z2 z3 z4 ⊢
          obtain ⟨u1, u2, u3, u4, u5, u6⟩ := v1.ce h4 (Or.inr rfl) z4
          obtain ⟨a, ha⟩ : ∃ a, a = ceC t n 3 (avC (avC s)) := ⟨_, rfl⟩
          rw [← ha] at z1 z2 z3 u1 u2 u3 u4 u5 u6 ⊢
          obtain ⟨-, -, e4, b1, b2⟩ := u1.ps h4 (by decide) (by decide) z3
          rw [e4] at z1 z2 ⊢
          obtain ⟨p1, p2, p3, p4, p5, p6⟩ := b1.ce h4 (Or.inr rfl) z2
          obtain ⟨b, hb⟩ : ∃ b, b = ceC t n 3 (avC a) := ⟨_, rfl⟩
          rw [← hb] at z1 p1 p2 p3 p4 p5 p6 ⊢
          obtain ⟨-, -, e5, q1, q2⟩ := p1.ps h4 (by decide) (by decide) z1
          rw [e5]
          have sz : (avC b).2.2.1 = s.2.2.1 + 2 := by show b.2.2.1 = _; rw [p3]; show a.2.2.1 + 1 = _; rw [u3]; rfl
          have lt : (avC b).1 = s.1 + 8 := by show b.1 + 1 = _; rw [p4]; show a.1 + 1 + 2 + 1 = _; rw [u4]; rfl
          have a3 := hs.2.2.1
          have hN : CN (avC s) (avC b) := (v2.trans (u2.trans b2)).trans (p2.trans q2)
          have hold : ∀ k, k < s.2.2.1 → ¬ pAt s k = nI s.1 := hs.2.2.2.1.free (by have := hs.2.1; omega) (Nat.le_refl _) (by have := hs.2.1; omega)
          have nb := q1.2.1
          have hf : ∀ k, k < (avC b).2.2.1 → ¬ pAt (avC b) k = nI s.1 := CN.free (s := avC s) hN (by omega) hold (Nat.lt_succ_self _)
          have s0 : sAt (avC b) (s.2.2.1 + 1) = 3 := by
            show sAt b (s.2.2.1 + 1) = 3
            rw [show s.2.2.1 + 1 = (avC a).2.2.1 from (by show _ = a.2.2.1; rw [u3]; rfl)]
            exact p5
          have s1 : sAt (avC b) s.2.2.1 = 3 := by
            show sAt b s.2.2.1 = 3
            rw [p6 s.2.2.1 (by show s.2.2.1 < a.2.2.1; rw [u3]; exact Nat.lt_succ_self _)]
            exact u5
          rw [adC_eq l (by omega)]
          refine ⟨q1.one h4 (by omega) hf (by decide) (by unfold stA; decide) (fun z => absurd z (by decide)) (fun _ => ⟨s.2.2.1, sz, s0, s1⟩) (fun z => absurd z (by decide)) (by omega), CN.one (w2.trans hN) (Nat.le_refl _) (by omega) (by omega)⟩
        · by_cases c4 : nxC t n s = 77
          · have e : faC t n (d + 1) s = grC t n (suC t n (faC t n d)) s := (if_neg c1).trans ((if_neg c2).trans ((if_neg c3).trans (if_pos c4)))
            rw [e] at hz ⊢
            unfold grC at hz ⊢
            have z1 := z_ad hz
            have z2 := z_ps (by decide) z1
            have z3 := is.1 _ z2
            have z4 := z_ps (by decide) z3
            have z5 := is.1 _ z4
            have z6 := z_ps (by decide) z5
            obtain ⟨l, -, e2, w1, w2⟩ := hs.ps h4 (by decide) (by decide) z6
            rw [e2] at z1 z2 z3 z4 z5 ⊢
            obtain ⟨-, -, e3, v1, v2⟩ := w1.ps h4 (by decide) (by decide) z5
            rw [e3] at z1 z2 z3 z4 ⊢
            obtain ⟨x1, x2⟩ := is.2 _ v1 z4
            obtain ⟨-, -, e4, y1, y2⟩ := x1.ps h4 (by decide) (by decide) z3
            rw [e4] at z1 z2 ⊢
            obtain ⟨x3, x4⟩ := is.2 _ y1 z2
            obtain ⟨-, -, e5, y3, y4⟩ := x3.ps h4 (by decide) (by decide) z1
            rw [e5]
            exact hs.pend h4 l ((v2.trans (x2.trans y2)).trans (x4.trans y4)) y3 (by decide) (by unfold stA; decide) (by decide) (by decide)
          · have e : faC t n (d + 1) s = faB t n s := (if_neg c1).trans ((if_neg c2).trans ((if_neg c3).trans (if_neg c4)))
            rw [e] at hz ⊢
            exact Gd.fb h4 hs hz
/-- the whole text, read without a fault -/
theorem pz_wf {t : Nat → Int32} {n : Nat} (h4 : n ≤ 40) (h : (pzC t n cs0).2.1 = 0) : CW t n (pzC t n cs0) ∧ (pzC t n cs0).1 = n := by
  have z1 : (paC t n cs0).2.1 = 0 := by
    unfold pzC at h
    split at h
    · exact Classical.byContradiction (fun z => z (by rw [fl_f z] at h; exact h))
    · exact h
  have e : ¬ (paC t n cs0).1 < n := fun l => by
    unfold pzC at h
    rw [if_pos l, fl_0 z1, c100] at h
    exact absurd h (cnz (by omega) (by omega))
  have e2 : pzC t n cs0 = paC t n cs0 := if_neg e
  rw [e2]
  unfold paC at z1 e ⊢
  have is := (Gd.fa (t := t) h4 6).su h4
  obtain ⟨-, l, tc, e3⟩ := ps_in h4 (c := 61) (by decide) (s := cs0) (Nat.zero_le _) (is.1 _ z1)
  rw [e3] at z1 e ⊢
  have c0 : CW t n (avC cs0) := by
    refine ⟨rfl, l, Nat.le_refl _, ⟨fun k hk => absurd hk (Nat.not_lt_zero _), fun k _ hk => absurd hk (Nat.not_lt_zero _), fun p hp => absurd rfl hp⟩, fun k hk => absurd hk (Nat.not_lt_zero _), fun j hj => ?_⟩
    have hj2 : j < 0 + 1 := hj
    have tc2 : t 0 = 61 := tc
    rw [show j = 0 by omega, tc2]
    decide
  obtain ⟨w1, -⟩ := is.2 _ c0 z1
  exact ⟨w1, by have := w1.2.1; omega⟩
