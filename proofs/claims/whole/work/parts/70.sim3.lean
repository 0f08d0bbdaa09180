/-! bytes, faults -/
/-- the texts agree -/
def TxO (t u : Nat → Int32) (n : Nat) : Prop := n ≤ 40 ∧ ∀ j, j < n → u j &&& 255 = t j ∧ 0 ≤ (t j).toInt ∧ (t j).toInt ≤ 255
def Bd (t : Nat → Int32) (n : Nat) (s : CS) (code : Int32) : Prop := (¬ s.2.1 = 0 ∧ s.2.1 = code) ∨ (s.2.1 = 0 ∧ s.1 < n ∧ dig (t s.1) ∧ code = nI (100 + s.1))
/-- the reference is at a fault -/
def BdR (n : Nat) (σ : RS) (code : Int32) : Prop := ¬ σ.2.1 = 0 ∧ σ.2.1 ≤ 2 ∧ σ.2.2.1 ≤ n + 1 ∧ nI (100 * σ.2.1 + σ.2.2.1) = code
theorem nx_f {t : Nat → Int32} {n : Nat} {s : CS} (h : ¬ s.2.1 = 0) : nxC t n s = -1 := if_neg h
theorem nx_i {t : Nat → Int32} {n : Nat} {s : CS} (h : s.2.1 = 0) (h2 : s.1 < n) : nxC t n s = t s.1 := (if_pos h).trans (if_pos h2)
theorem nx_e {t : Nat → Int32} {n : Nat} {s : CS} (h2 : ¬ s.1 < n) : nxC t n s = -1 := by
  unfold nxC
  by_cases q : s.2.1 = 0
  · rw [if_pos q, if_neg h2]
  · rw [if_neg q]
theorem hr_i {t u : Nat → Int32} {n : Nat} {σ : RS} (T : TxO t u n) (h2 : σ.1 < n) : hrR u n σ = t σ.1 := (if_pos h2).trans (T.2 _ h2).1
theorem hr_e {u : Nat → Int32} {n : Nat} {σ : RS} (h2 : ¬ σ.1 < n) : hrR u n σ = 0 := if_neg h2
theorem fl_f {r : Int32} {s : CS} (h : ¬ s.2.1 = 0) : flC r s = s := if_neg h
theorem fl_0 {r : Int32} {s : CS} (h : s.2.1 = 0) : flC r s = (s.1, 100 * r + nI s.1, s.2.2) := if_pos h
theorem c100 {x : Nat} : (100 : Int32) * 1 + nI x = nI (100 + x) := by rw [show (100 : Int32) * 1 = nI 100 from rfl, nI_add]
theorem c200 {x : Nat} : (100 : Int32) * 2 + nI x = nI (200 + x) := by rw [show (100 : Int32) * 2 = nI 200 from rfl, nI_add]
theorem cnz {x : Nat} (h : x < 1000) (h0 : 0 < x) : ¬ nI x = 0 := fun z => by
  have := (nI_z (by omega)).mp z
  omega
theorem flR_0 {w : Nat} {σ : RS} (h : σ.2.1 = 0) : flR w σ = (σ.1, w, σ.1, σ.2.2.2) := if_pos h
theorem flR_b {w : Nat} {σ : RS} (h : ¬ σ.2.1 = 0) : flR w σ = σ := if_neg h
theorem gdR_b {F : RS → RS} {σ : RS} (h : ¬ σ.2.1 = 0) : gdR F σ = σ := if_neg h
theorem gdR_0 {F : RS → RS} {σ : RS} (h : σ.2.1 = 0) : gdR F σ = F σ := if_pos h
theorem gdC_b {u : Nat → Int32} {n : Nat} {σ : RS} (h : ¬ σ.2.1 = 0) : gdC u n σ = (0, σ) := if_neg h
theorem gdC_0 {u : Nat → Int32} {n : Nat} {σ : RS} (h : σ.2.1 = 0) : gdC u n σ = clR u n σ := if_pos h
theorem Bd.ad {t : Nat → Int32} {n pl : Nat} {st op : Int32} {s : CS} {c : Int32} (h : Bd t n s c) : Bd t n (adC n pl st op s) c := by
  unfold adC
  split
  · exact h
  · exact h
theorem ps_f {t : Nat → Int32} {n : Nat} {c : Int32} {s : CS} (h : ¬ s.2.1 = 0) (h0 : 0 ≤ c.toInt) : psC t n c s = s := by
  show (pwC t n c c s).2 = s
  unfold pwC
  rw [nx_f h, if_pos (Or.inl (by rw [Int32.lt_iff_toInt_lt]; show (-1 : Int) < _; omega))]
  exact fl_f h
theorem ps_ok {t : Nat → Int32} {n : Nat} {c : Int32} {s : CS} (h : s.2.1 = 0) (h2 : s.1 < n) (hc : t s.1 = c) : psC t n c s = avC s := by
  show (pwC t n c c s).2 = _
  unfold pwC
  rw [nx_i h h2, hc, if_neg (fun z => z.elim (fun q => by rw [Int32.lt_iff_toInt_lt] at q; omega) (fun q => by rw [Int32.lt_iff_toInt_lt] at q; omega))]
theorem i32_ne {a b : Int32} (h : ¬ a = b) : a < b ∨ b < a := by
  rw [Int32.lt_iff_toInt_lt, Int32.lt_iff_toInt_lt]
  rw [← Int32.toInt_inj] at h
  omega
theorem ps_no {t : Nat → Int32} {n : Nat} {c : Int32} {s : CS} (h : s.2.1 = 0) (h0 : 0 ≤ c.toInt) (hc : ¬ (s.1 < n ∧ t s.1 = c)) : psC t n c s = (s.1, nI (100 + s.1), s.2.2) := by
  show (pwC t n c c s).2 = _
  unfold pwC
  have k : nxC t n s < c ∨ c < nxC t n s := by
    by_cases q : s.1 < n
    · rw [nx_i h q]
      exact i32_ne (fun z => hc ⟨q, z⟩)
    · rw [nx_e q]
      exact Or.inl (by rw [Int32.lt_iff_toInt_lt]; show (-1 : Int) < _; omega)
  rw [if_pos k, fl_0 h, c100]
theorem Bd.ps {t : Nat → Int32} {n : Nat} {c : Int32} {s : CS} {co : Int32} (h : Bd t n s co) (h4 : n ≤ 40) (h0 : 0 ≤ c.toInt) (hd : ¬ dig c) : Bd t n (psC t n c s) co := by
  rcases h with ⟨a, b⟩ | ⟨a, b, d, e⟩
  · rw [ps_f a h0]
    exact Or.inl ⟨a, b⟩
  · rw [ps_no a h0 (fun z => hd (z.2 ▸ d))]
    exact Or.inl ⟨cnz (by omega) (by omega), e.symm⟩
theorem Bd.nx {t : Nat → Int32} {n : Nat} {s : CS} {co : Int32} (h : Bd t n s co) {c : Int32} (h0 : 0 ≤ c.toInt) (hd : ¬ dig c) : ¬ nxC t n s = c := by
  rcases h with ⟨a, b⟩ | ⟨a, b, d, e⟩
  · rw [nx_f a]
    intro z
    have := congrArg Int32.toInt z
    have e1 : ((-1 : Int32)).toInt = -1 := rfl
    omega
  · rw [nx_i a b]
    intro z
    exact hd (z ▸ d)
theorem prL_no {t : Nat → Int32} {n : Nat} {F : CS → CS} {s : CS} (h : ¬ nxC t n s = 42) (h2 : ¬ nxC t n s = 47) : ∀ r, prL t n F r s = s
  | 0 => rfl
  | r + 1 => if_neg (fun z => z.elim h h2)
theorem suL_no {t : Nat → Int32} {n : Nat} {F : CS → CS} {s : CS} (h : ¬ nxC t n s = 43) (h2 : ¬ nxC t n s = 45) : ∀ r, suL t n F r s = s
  | 0 => rfl
  | r + 1 => if_neg (fun z => z.elim h h2)
theorem ndg {c : Int32} (h : c.toInt < 48) : ¬ dig c := fun z => by unfold dig at z; omega
theorem Bd.pr {t : Nat → Int32} {n : Nat} {F : CS → CS} {s : CS} {co : Int32} (h : Bd t n s co) {r : Nat} : prL t n F r s = s := prL_no (h.nx (by decide) (ndg (by decide))) (h.nx (by decide) (ndg (by decide))) r
theorem Bd.su {t : Nat → Int32} {n : Nat} {F : CS → CS} {s : CS} {co : Int32} (h : Bd t n s co) {r : Nat} : suL t n F r s = s := suL_no (h.nx (by decide) (ndg (by decide))) (h.nx (by decide) (ndg (by decide))) r
theorem pw_f {t : Nat → Int32} {n : Nat} {a b : Int32} {s : CS} (h : ¬ s.2.1 = 0) (h0 : 0 ≤ a.toInt) : (pwC t n a b s).2 = s := by
  unfold pwC
  rw [nx_f h, if_pos (Or.inl (by rw [Int32.lt_iff_toInt_lt]; show (-1 : Int) < _; omega))]
  exact fl_f h
theorem ce_f {t : Nat → Int32} {n : Nat} {st : Int32} {s : CS} (h : ¬ s.2.1 = 0) : (ceC t n st s).2.1 = s.2.1 := by
  unfold ceC
  rw [pw_f (s := s) h (by decide), pw_f (s := s) h (by decide)]
  unfold adC
  split <;> rfl
theorem fa_f {t : Nat → Int32} {n : Nat} {s : CS} (h : ¬ s.2.1 = 0) : ∀ d, (faC t n d s).2.1 = s.2.1 := by
  have e : ∀ c : Int32, 0 ≤ c.toInt → ¬ nxC t n s = c := fun c h0 z => by
    rw [nx_f h] at z
    have := congrArg Int32.toInt z
    have e1 : ((-1 : Int32)).toInt = -1 := rfl
    omega
  have eb : faB t n s = ceC t n 2 s := if_neg (fun z => by
    rw [nx_f h] at z
    have e1 : ((-1 : Int32)).toInt = -1 := rfl
    omega)
  intro d
  cases d with
  | zero =>
    show (if _ then _ else _ : CS).2.1 = _
    rw [if_neg (fun z => z.elim (e _ (by decide)) (fun z => z.elim (e _ (by decide)) (fun z => z.elim (e _ (by decide)) (e _ (by decide))))), eb]
    exact ce_f h
  | succ d =>
    show (if _ then _ else if _ then _ else if _ then _ else if _ then _ else _ : CS).2.1 = _
    rw [if_neg (e _ (by decide)), if_neg (e _ (by decide)), if_neg (e _ (by decide)), if_neg (e _ (by decide)), eb]
    exact ce_f h
theorem su_f {t : Nat → Int32} {n d : Nat} {s : CS} {co : Int32} (h : ¬ s.2.1 = 0) (e : s.2.1 = co) : Bd t n (suC t n (faC t n d) s) co := by
  have b1 : Bd t n (faC t n d s) co := Or.inl ⟨by rw [fa_f h]; exact h, (fa_f h d).trans e⟩
  unfold suC prC
  rw [b1.pr, b1.su]
  exact b1
/-! a number -/
theorem nu_sim {t u : Nat → Int32} {n : Nat} (T : TxO t u n) {p0 : Nat} : ∀ (r R : Nat) (v : Int32) (s : CS) (σ : RS), s.2.1 = 0 → σ.2.1 = 0 → s.1 = σ.1 → s.1 ≤ n → s.1 + r = p0 + 4 → n < s.1 + R → ∃ x v', s.1 ≤ x ∧ x ≤ n ∧ nuL t n r v s = (v', (x, s.2)) ∧ ((nrL u n p0 R v σ = (v', (x, σ.2)) ∧ ¬ (x < n ∧ dig (t x)) ) ∨ (x < n ∧ dig (t x) ∧ (nrL u n p0 R v σ).2.2.1 = 1 ∧ (nrL u n p0 R v σ).2.2.2.1 = x)) ∧ (x = s.1 → ¬ (s.1 < n ∧ dig (t s.1)) ∨ r = 0) := by
  intro r
  induction r with
  | zero =>
    intro R v s σ h1 h2 h3 h4 h5 h6
    refine ⟨s.1, v, Nat.le_refl _, h4, rfl, ?_, fun _ => Or.inr rfl⟩
    obtain ⟨R, rfl⟩ : ∃ R', R = R' + 1 := ⟨R - 1, by omega⟩
    by_cases q : s.1 < n ∧ dig (t s.1)
    · refine Or.inr ⟨q.1, q.2, ?_⟩
      have e : nrL u n p0 (R + 1) v σ = nrL u n p0 R (10 * v + hrR u n σ - 48) (avR (flR 1 σ)) := by
        show (if _ then (if _ then nrL u n p0 R _ (avR (if _ then _ else _)) else _) else _) = _
        rw [if_pos h2, if_pos (by rw [hr_i T (by omega), ← h3]; exact q.2), if_pos (by omega)]
      have e2 : ∀ R w, nrL u n p0 R w (avR (flR 1 σ)) = (w, avR (flR 1 σ)) := fun R w => by
        cases R with
        | zero => rfl
        | succ R => exact if_neg (by show ¬ (flR 1 σ).2.1 = 0; rw [flR_0 h2]; exact (show ¬ (1 : Nat) = 0 by decide))
      rw [e, e2, flR_0 h2]
      exact ⟨rfl, h3.symm⟩
    · refine Or.inl ⟨?_, q⟩
      show (if _ then (if _ then _ else _) else _) = _
      rw [if_pos h2, if_neg (fun z => q ?_), h3]
      by_cases l : σ.1 < n
      · rw [hr_i T l] at z
        rw [h3]
        exact ⟨l, z⟩
      · rw [hr_e l] at z
        exact absurd z.1 (by decide)
  | succ r ih =>
    intro R v s σ h1 h2 h3 h4 h5 h6
    obtain ⟨R, rfl⟩ : ∃ R', R = R' + 1 := ⟨R - 1, by omega⟩
    by_cases q : s.1 < n ∧ dig (t s.1)
    · obtain ⟨x, v', k1, k2, k3, k4, k5⟩ := ih R (10 * v + t s.1 - 48) (avC s) (avR σ) h1 h2 (by show s.1 + 1 = σ.1 + 1; omega) (by show s.1 + 1 ≤ n; omega) (by show s.1 + 1 + r = p0 + 4; omega) (by show n < s.1 + 1 + R; omega)
      have e1 : nuL t n (r + 1) v s = nuL t n r (10 * v + t s.1 - 48) (avC s) := by
        show (if _ then _ else _) = _
        rw [nx_i h1 q.1, if_pos (show 48 ≤ (t s.1).toInt ∧ (t s.1).toInt ≤ 57 from q.2)]
      have e2 : nrL u n p0 (R + 1) v σ = nrL u n p0 R (10 * v + t s.1 - 48) (avR σ) := by
        show (if _ then (if _ then nrL u n p0 R _ (avR (if _ then _ else _)) else _) else _) = _
        rw [if_pos h2, hr_i T (by omega), ← h3, if_pos (show 48 ≤ (t s.1).toInt ∧ (t s.1).toInt ≤ 57 from q.2), if_neg (by omega)]
      have k1' : s.1 + 1 ≤ x := k1
      rw [e1, e2]
      exact ⟨x, v', by omega, k2, k3, k4, fun z => by omega⟩
    · refine ⟨s.1, v, Nat.le_refl _, h4, ?_, Or.inl ⟨?_, q⟩, fun _ => Or.inl q⟩
      · show (if _ then _ else _) = _
        rw [if_neg (fun z => q ?_)]
        by_cases l : s.1 < n
        · rw [nx_i h1 l] at z
          exact ⟨l, z⟩
        · rw [nx_e l] at z
          exact absurd z.1 (by decide)
      · show (if _ then (if _ then _ else _) else _) = _
        rw [if_pos h2, if_neg (fun z => q ?_), h3]
        by_cases l : σ.1 < n
        · rw [hr_i T l] at z
          rw [h3]
          exact ⟨l, z⟩
        · rw [hr_e l] at z
          exact absurd z.1 (by decide)
/-! a cell -/
/-- the byte at x is one of eight from b -/
def Eig (t : Nat → Int32) (n x b : Nat) : Prop := x < n ∧ (b : Int) ≤ (t x).toInt ∧ (t x).toInt ≤ (b : Int) + 7
theorem ck_ok {t u : Nat → Int32} {n : Nat} (T : TxO t u n) {b : Nat} (hb : b < 100) (b0 : 0 < b) {σ : RS} : ((0 ≤ (hrR u n σ - nI b).toInt ∧ (hrR u n σ - nI b).toInt ≤ 7) ↔ Eig t n σ.1 b) := by
  unfold Eig
  by_cases l : σ.1 < n
  · rw [hr_i T l]
    have h := (T.2 _ l).2
    have e := pos_nI h.1
    rw [e, pk_sub_toInt (by omega) (by omega), nIt (by omega)]
    omega
  · rw [hr_e l, show (0 : Int32) = nI 0 from rfl, pk_sub_toInt (by omega) (by omega)]
    omega
theorem pw_ok {t : Nat → Int32} {n : Nat} {a b : Int32} {s : CS} (h : s.2.1 = 0) (h2 : s.1 < n) (h3 : a.toInt ≤ (t s.1).toInt ∧ (t s.1).toInt ≤ b.toInt) : pwC t n a b s = (t s.1, avC s) := by
  unfold pwC
  rw [nx_i h h2, if_neg (fun z => by rw [Int32.lt_iff_toInt_lt, Int32.lt_iff_toInt_lt] at z; omega)]
theorem pw_no {t : Nat → Int32} {n : Nat} {a b : Int32} {s : CS} (h : s.2.1 = 0) (h0 : 0 ≤ a.toInt) (h3 : ¬ (s.1 < n ∧ a.toInt ≤ (t s.1).toInt ∧ (t s.1).toInt ≤ b.toInt)) : (pwC t n a b s).2 = (s.1, nI (100 + s.1), s.2.2) := by
  unfold pwC
  have k : nxC t n s < a ∨ b < nxC t n s := by
    by_cases q : s.1 < n
    · rw [nx_i h q, Int32.lt_iff_toInt_lt, Int32.lt_iff_toInt_lt]
      omega
    · rw [nx_e q]
      exact Or.inl (by rw [Int32.lt_iff_toInt_lt]; show (-1 : Int) < _; omega)
  rw [if_pos k, fl_0 h, c100]
def ceV (a b : Int32) : Int32 := 8 * (b - 49) + (a - 65)
theorem ceV_c {a b : Int32} (ha : 65 ≤ a.toInt ∧ a.toInt ≤ 72) (hb : 49 ≤ b.toInt ∧ b.toInt ≤ 56) : ∃ c, c < 64 ∧ ceV a b = nI c := by
  refine ⟨8 * (b.toInt.toNat - 49) + (a.toInt.toNat - 65), by omega, ?_⟩
  have ea := pos_nI (x := a) (by omega)
  have eb := pos_nI (x := b) (by omega)
  unfold ceV
  rw [ea, eb, show (49 : Int32) = nI 49 from rfl, show (65 : Int32) = nI 65 from rfl, pk_sub (by omega), pk_sub (by omega), show (8 : Int32) = nI 8 from rfl, pk_mul, nI_add, ← ea, ← eb]
/-- both read a cell, or fail alike -/
theorem ce_sim {t u : Nat → Int32} {n : Nat} (T : TxO t u n) {st : Int32} {s : CS} {σ : RS} (h1 : s.2.1 = 0) (h2 : σ.2.1 = 0) (h3 : s.1 = σ.1) (h4 : s.1 ≤ n) : (s.1 + 2 ≤ n ∧ ∃ v, (∃ c, c < 64 ∧ v = nI c) ∧ clR u n σ = (v, (s.1 + 2, σ.2)) ∧ ceC t n st s = adC n s.1 st v (s.1 + 2, s.2)) ∨ (∃ co, (¬ (ceC t n st s).2.1 = 0 ∧ (ceC t n st s).2.1 = co) ∧ BdR n (clR u n σ).2 co) := by
  have k65 : (0 ≤ (hrR u n σ - 65).toInt ∧ (hrR u n σ - 65).toInt ≤ 7) ↔ Eig t n σ.1 65 := ck_ok T (b := 65) (by omega) (by omega) (σ := σ)
  by_cases a : Eig t n s.1 65
  · have a' : Eig t n σ.1 65 := h3 ▸ a
    obtain ⟨a1, a2, a3⟩ := a
    have e1 : ckR u n 65 σ = avR σ := by unfold ckR; rw [if_pos (k65.mpr a')]
    have e1v : hrR u n σ = t s.1 := by rw [h3]; exact hr_i T (by omega)
    have p1 : pwC t n 65 72 s = (t s.1, avC s) := pw_ok h1 a1 ⟨a2, a3⟩
    have k49 : (0 ≤ (hrR u n (avR σ) - 49).toInt ∧ (hrR u n (avR σ) - 49).toInt ≤ 7) ↔ Eig t n (avR σ).1 49 := ck_ok T (b := 49) (by omega) (by omega) (σ := avR σ)
    by_cases b : Eig t n (s.1 + 1) 49
    · have b' : Eig t n (avR σ).1 49 := by show Eig t n (σ.1 + 1) 49; rw [← h3]; exact b
      obtain ⟨b1, b2, b3⟩ := b
      have p2 : pwC t n 49 56 (avC s) = (t (s.1 + 1), avC (avC s)) := pw_ok (s := avC s) h1 b1 ⟨b2, b3⟩
      refine Or.inl ⟨by omega, ceV (t s.1) (t (s.1 + 1)), ceV_c ⟨a2, a3⟩ ⟨b2, b3⟩, ?_, ?_⟩
      · unfold clR
        rw [e1]
        have e2 : ckR u n 49 (avR σ) = avR (avR σ) := by unfold ckR; rw [if_pos (k49.mpr b')]
        have e2v : hrR u n (avR σ) = t (s.1 + 1) := by rw [hr_i T (by show σ.1 + 1 < n; omega)]; show t (σ.1 + 1) = _; rw [h3]
        rw [e2, e2v, e1v]
        show (ceV (t s.1) (t (s.1 + 1)), (σ.1 + 1 + 1, σ.2)) = _
        rw [h3]
      · unfold ceC
        rw [p1, p2]
        rfl
    · have b' : ¬ Eig t n (avR σ).1 49 := by show ¬ Eig t n (σ.1 + 1) 49; rw [← h3]; exact b
      have p2 : (pwC t n 49 56 (avC s)).2 = (s.1 + 1, nI (100 + (s.1 + 1)), s.2.2) := pw_no (s := avC s) h1 (by decide) b
      refine Or.inr ⟨nI (100 + (s.1 + 1)), ?_, ?_⟩
      · have e : (ceC t n st s).2.1 = nI (100 + (s.1 + 1)) := by
          unfold ceC
          rw [p1]
          show (adC n s.1 st _ (pwC t n 49 56 (avC s)).2).2.1 = _
          rw [p2]
          unfold adC
          split <;> rfl
        rw [e]
        exact ⟨cnz (by have := T.1; omega) (by omega), rfl⟩
      · show BdR n (ckR u n 49 (ckR u n 65 σ)) _
        rw [e1]
        unfold ckR
        rw [if_neg (fun z => b' (k49.mp z)), flR_0 (σ := avR σ) h2]
        exact ⟨show ¬ (1 : Nat) = 0 by decide, show (1 : Nat) ≤ 2 by decide, show σ.1 + 1 ≤ n + 1 by omega, by show nI (100 * 1 + (σ.1 + 1)) = _; rw [h3]⟩
  · have a' : ¬ Eig t n σ.1 65 := h3 ▸ a
    have p1 : (pwC t n 65 72 s).2 = (s.1, nI (100 + s.1), s.2.2) := pw_no h1 (by decide) a
    have nz : ¬ nI (100 + s.1) = 0 := cnz (by have := T.1; omega) (by omega)
    refine Or.inr ⟨nI (100 + s.1), ?_, ?_⟩
    · have e : (ceC t n st s).2.1 = nI (100 + s.1) := by
        unfold ceC
        rw [p1, pw_f (s := (s.1, nI (100 + s.1), s.2.2)) nz (by decide)]
        unfold adC
        split <;> rfl
      rw [e]
      exact ⟨nz, rfl⟩
    · show BdR n (ckR u n 49 (ckR u n 65 σ)) _
      have e1 : ckR u n 65 σ = (σ.1 + 1, 1, σ.1, σ.2.2.2) := by unfold ckR; rw [if_neg (fun z => a' (k65.mp z)), flR_0 h2]; rfl
      have e2 : ∀ b, (ckR u n b (σ.1 + 1, 1, σ.1, σ.2.2.2)).2 = (1, σ.1, σ.2.2.2) := fun b => by
        unfold ckR
        split
        · rfl
        · rw [flR_b (by show ¬ (1 : Nat) = 0; decide)]; rfl
      rw [e1]
      unfold BdR
      rw [e2]
      exact ⟨show ¬ (1 : Nat) = 0 by decide, show (1 : Nat) ≤ 2 by decide, show σ.1 ≤ n + 1 by omega, by show nI (100 * 1 + σ.1) = _; rw [h3]⟩
/-- both pass a byte, or fail alike -/
theorem mu_sim {t u : Nat → Int32} {n : Nat} (T : TxO t u n) {c : Int32} (h0 : 0 ≤ c.toInt) {s : CS} {σ : RS} (h1 : s.2.1 = 0) (h2 : σ.2.1 = 0) (h3 : s.1 = σ.1) (h4 : s.1 ≤ n) : (s.1 < n ∧ t s.1 = c ∧ muR u n c σ = avR σ ∧ psC t n c s = avC s) ∨ (∃ co, (¬ (psC t n c s).2.1 = 0 ∧ (psC t n c s).2.1 = co) ∧ BdR n (muR u n c σ) co) := by
  by_cases q : s.1 < n ∧ t s.1 = c
  · refine Or.inl ⟨q.1, q.2, ?_, ps_ok h1 q.1 q.2⟩
    unfold muR
    rw [if_pos ⟨by rw [hr_i T (by omega), ← h3]; exact q.2, by omega⟩]
  · refine Or.inr ⟨nI (100 + s.1), ?_, ?_⟩
    · rw [ps_no h1 h0 q]
      exact ⟨cnz (by have := T.1; omega) (by omega), rfl⟩
    · unfold muR
      rw [if_neg (fun z => q ⟨by omega, by rw [h3, ← hr_i T z.2]; exact z.1⟩), flR_0 h2]
      exact ⟨show ¬ (1 : Nat) = 0 by decide, show (1 : Nat) ≤ 2 by decide, show σ.1 ≤ n + 1 by omega, by show nI (100 * 1 + σ.1) = _; rw [h3]⟩
