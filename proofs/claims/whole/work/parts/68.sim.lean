/-! the two readers side by side: what has been read -/
def pAt (s : CS) (k : Nat) : Int32 := s.2.2.2.2.2 k
def sAt (s : CS) (k : Nat) : Int32 := s.2.2.2.1 (s.2.2.2.2.2 k).toNatClampNeg
def oAt (s : CS) (k : Nat) : Int32 := s.2.2.2.2.1 (s.2.2.2.2.2 k).toNatClampNeg
/-- a row of the reference's, and the steps of the class from k on -/
def RowT (s : CS) (k : Nat) (o a b p q : Int32) : Prop := (o = 0 ∧ sAt s k = 1 ∧ oAt s k = a ∧ pAt s k = p ∧ q = -1) ∨ (o = 1 ∧ sAt s k = 2 ∧ oAt s k = a ∧ pAt s k = p ∧ q = -1 ∧ ∃ c, c < 64 ∧ a = nI c) ∨ (o = 2 ∧ sAt s k = 3 ∧ oAt s k = a ∧ pAt s k = p ∧ sAt s (k + 1) = 3 ∧ oAt s (k + 1) = b ∧ pAt s (k + 1) = q ∧ sAt s (k + 2) = 5 ∧ ∃ c e, c < 64 ∧ e < 64 ∧ a = nI c ∧ b = nI e) ∨ (o = 3 ∧ sAt s k = 4 ∧ p = -1 ∧ q = -1) ∨ ((o = 4 ∨ o = 5 ∨ o = 6 ∨ o = 7) ∧ sAt s k = sgR o ∧ pAt s k = p ∧ q = -1) ∨ (o = 8 ∧ sAt s k = 6 ∧ p = -1 ∧ q = -1)
def wdT (o : Int32) : Nat := if o = 2 then 3 else 1
def PlK (s : CS) : Prop := (∀ k, k < s.2.2.1 → ∃ p, p < s.1 ∧ pAt s k = nI p) ∧ (∀ k k', k < s.2.2.1 → k' < s.2.2.1 → pAt s k = pAt s k' → k = k') ∧ (∀ p, ¬ s.2.2.2.1 p = 0 → ∃ k, k < s.2.2.1 ∧ pAt s k = nI p)
def rwT (σ : RS) (r i : Nat) : Int32 := σ.2.2.2.2.2.2 r i
def Tk (s : CS) (σ : RS) : Prop := ∃ J : Nat → Nat, J 0 = 0 ∧ J σ.2.2.2.1 = s.2.2.1 ∧ ∀ i, i < σ.2.2.2.1 → RowT s (J i) (rwT σ 82 i) (rwT σ 83 i) (rwT σ 84 i) (rwT σ 85 i) (rwT σ 86 i) ∧ J (i + 1) = J i + wdT (rwT σ 82 i) ∧ J (i + 1) ≤ s.2.2.1
/-- the class's readers put p aside -/
def adT (pl : Nat) (st op : Int32) (s : CS) : CS := (s.1, s.2.1, s.2.2.1 + 1, upC s.2.2.2.1 pl st, upC s.2.2.2.2.1 pl op, upC s.2.2.2.2.2 s.2.2.1 (nI pl))
theorem adC_eq {m pl : Nat} {st op : Int32} {s : CS} (h : pl < m) (h2 : s.2.2.1 < m) : adC m pl st op s = adT pl st op s := if_pos ⟨h, h2⟩
theorem pAt_old {pl k : Nat} {st op : Int32} {s : CS} (h : k < s.2.2.1) : pAt (adT pl st op s) k = pAt s k := if_neg (by omega)
theorem pAt_new {pl : Nat} {st op : Int32} {s : CS} : pAt (adT pl st op s) s.2.2.1 = nI pl := if_pos rfl
theorem sAt_new {pl : Nat} {st op : Int32} {s : CS} (hp : pl < 1000) : sAt (adT pl st op s) s.2.2.1 = st := by
  show upC s.2.2.2.1 pl st (pAt (adT pl st op s) s.2.2.1).toNatClampNeg = st
  rw [pAt_new, nI_clamp (by omega)]
  exact if_pos rfl
theorem oAt_new {pl : Nat} {st op : Int32} {s : CS} (hp : pl < 1000) : oAt (adT pl st op s) s.2.2.1 = op := by
  show upC s.2.2.2.2.1 pl op (pAt (adT pl st op s) s.2.2.1).toNatClampNeg = op
  rw [pAt_new, nI_clamp (by omega)]
  exact if_pos rfl
theorem at_old {pl k : Nat} {st op : Int32} {s : CS} (hP : PlK s) (h4 : s.1 < 1000) (hp : pl < 1000) (h : k < s.2.2.1) (hf : ¬ pAt s k = nI pl) : sAt (adT pl st op s) k = sAt s k ∧ oAt (adT pl st op s) k = oAt s k := by
  obtain ⟨p, hp2, e⟩ := hP.1 k h
  have ne : ¬ p = pl := fun z => hf (by rw [e, z])
  have e2 : pAt (adT pl st op s) k = nI p := (pAt_old h).trans e
  constructor
  · show upC s.2.2.2.1 pl st (pAt (adT pl st op s) k).toNatClampNeg = s.2.2.2.1 (pAt s k).toNatClampNeg
    rw [e2, e, nI_clamp (by omega)]
    exact if_neg ne
  · show upC s.2.2.2.2.1 pl op (pAt (adT pl st op s) k).toNatClampNeg = s.2.2.2.2.1 (pAt s k).toNatClampNeg
    rw [e2, e, nI_clamp (by omega)]
    exact if_neg ne
theorem PlK.ad {pl : Nat} {st op : Int32} {s : CS} (hP : PlK s) (h4 : s.1 < 1000) (hp : pl < s.1) (hf : ∀ k, k < s.2.2.1 → ¬ pAt s k = nI pl) : PlK (adT pl st op s) := by
  refine ⟨fun k hk => ?_, fun k k' hk hk' e => ?_, fun p hn => ?_⟩
  · by_cases q : k = s.2.2.1
    · subst q; exact ⟨pl, hp, pAt_new⟩
    · have hk3 : k < s.2.2.1 + 1 := hk
      rw [pAt_old (by omega)]
      exact hP.1 k (by omega)
  · have hk3 : k < s.2.2.1 + 1 := hk
    have hk4 : k' < s.2.2.1 + 1 := hk'
    by_cases q : k = s.2.2.1
    · by_cases q' : k' = s.2.2.1
      · omega
      · rw [q, pAt_new, pAt_old (by omega)] at e
        exact absurd e.symm (hf k' (by omega))
    · by_cases q' : k' = s.2.2.1
      · rw [q', pAt_new, pAt_old (by omega)] at e
        exact absurd e (hf k (by omega))
      · rw [pAt_old (by omega), pAt_old (by omega)] at e
        exact hP.2.1 k k' (by omega) (by omega) e
  · by_cases q : p = pl
    · subst q; exact ⟨s.2.2.1, Nat.lt_succ_self _, pAt_new⟩
    · have hn2 : ¬ (if p = pl then st else s.2.2.2.1 p) = 0 := hn
      rw [if_neg q] at hn2
      obtain ⟨k, hk, e⟩ := hP.2.2 p hn2
      exact ⟨k, Nat.lt_succ_of_lt hk, (pAt_old hk).trans e⟩
theorem RowT.old {pl k : Nat} {st op : Int32} {s : CS} (hP : PlK s) (h4 : s.1 < 1000) (hp : pl < 1000) (hf : ∀ k, k < s.2.2.1 → ¬ pAt s k = nI pl) {o a b p q : Int32} (hk : k + wdT o ≤ s.2.2.1) (h : RowT s k o a b p q) : RowT (adT pl st op s) k o a b p q := by
  have w1 : 1 ≤ wdT o := by unfold wdT; split <;> omega
  have g := fun x (hx : x < s.2.2.1) => at_old (st := st) (op := op) hP h4 hp hx (hf x hx)
  have g2 := fun x (hx : x < s.2.2.1) => pAt_old (pl := pl) (st := st) (op := op) hx
  unfold RowT
  rw [(g k (by omega)).1, (g k (by omega)).2, g2 k (by omega)]
  rcases h with h | h | h | h | h | h
  · exact Or.inl h
  · exact Or.inr (Or.inl h)
  · have w3 : wdT o = 3 := by unfold wdT; rw [if_pos h.1]
    rw [(g (k + 1) (by omega)).1, (g (k + 1) (by omega)).2, g2 (k + 1) (by omega), (g (k + 2) (by omega)).1]
    exact Or.inr (Or.inr (Or.inl h))
  · exact Or.inr (Or.inr (Or.inr (Or.inl h)))
  · exact Or.inr (Or.inr (Or.inr (Or.inr (Or.inl h))))
  · exact Or.inr (Or.inr (Or.inr (Or.inr (Or.inr h))))
/-- the rows under a row put -/
theorem pu_o {o a b p q : Int32} {σ : RS} {r i : Nat} (h : ¬ i = σ.2.2.2.1) : rwT (puR o a b p q σ) r i = rwT σ r i := by
  show up2 (up2 (up2 (up2 (up2 σ.2.2.2.2.2.2 82 σ.2.2.2.1 o) 83 σ.2.2.2.1 a) 84 σ.2.2.2.1 b) 85 σ.2.2.2.1 p) 86 σ.2.2.2.1 q r i = _
  unfold up2
  rw [if_neg (fun z => h z.2), if_neg (fun z => h z.2), if_neg (fun z => h z.2), if_neg (fun z => h z.2), if_neg (fun z => h z.2)]
  rfl
theorem pu_n {o a b p q : Int32} {σ : RS} : rwT (puR o a b p q σ) 82 σ.2.2.2.1 = o ∧ rwT (puR o a b p q σ) 83 σ.2.2.2.1 = a ∧ rwT (puR o a b p q σ) 84 σ.2.2.2.1 = b ∧ rwT (puR o a b p q σ) 85 σ.2.2.2.1 = p ∧ rwT (puR o a b p q σ) 86 σ.2.2.2.1 = q := by
  refine ⟨?_, ?_, ?_, ?_, ?_⟩ <;> simp [rwT, puR, up2]
theorem pu_87 {o a b p q : Int32} {σ : RS} {r i : Nat} (h : 87 ≤ r) : rwT (puR o a b p q σ) r i = rwT σ r i := by
  show up2 (up2 (up2 (up2 (up2 σ.2.2.2.2.2.2 82 σ.2.2.2.1 o) 83 σ.2.2.2.1 a) 84 σ.2.2.2.1 b) 85 σ.2.2.2.1 p) 86 σ.2.2.2.1 q r i = _
  unfold up2
  rw [if_neg (by omega), if_neg (by omega), if_neg (by omega), if_neg (by omega), if_neg (by omega)]
  rfl
/-- the pile and the places do not touch what has been read -/
theorem Tk.eq {s s' : CS} {σ σ' : RS} (h : Tk s σ) (e : s'.2.2 = s.2.2) (em : σ'.2.2.2.1 = σ.2.2.2.1) (er : ∀ r i, r ≤ 86 → i < σ.2.2.2.1 → rwT σ' r i = rwT σ r i) : Tk s' σ' := by
  obtain ⟨J, j0, jm, hJ⟩ := h
  refine ⟨J, j0, by rw [em, jm, e], fun i hi => ?_⟩
  rw [em] at hi
  rw [er 82 i (by omega) hi, er 83 i (by omega) hi, er 84 i (by omega) hi, er 85 i (by omega) hi, er 86 i (by omega) hi, e]
  obtain ⟨a, b, c⟩ := hJ i hi
  refine ⟨?_, b, c⟩
  unfold RowT sAt oAt pAt at a ⊢
  rw [e]
  exact a
theorem Tk_J {s : CS} {J : Nat → Nat} {m : Nat} {w : Nat → Int32} (j0 : J 0 = 0) (hJ : ∀ i, i < m → J (i + 1) = J i + wdT (w i)) : ∀ i, i ≤ m → i ≤ J i
  | 0, _ => Nat.zero_le _
  | i + 1, hi => by
    have ih := Tk_J (s := s) j0 hJ i (by omega)
    have w1 : 1 ≤ wdT (w i) := by unfold wdT; split <;> omega
    rw [hJ i (by omega)]
    omega
theorem Tk.le {s : CS} {σ : RS} (h : Tk s σ) : σ.2.2.2.1 ≤ s.2.2.1 := by
  obtain ⟨J, j0, jm, hJ⟩ := h
  rw [← jm]
  exact Tk_J (s := s) (w := rwT σ 82) j0 (fun i hi => (hJ i hi).2.1) _ (Nat.le_refl _)
/-- one more row, of as many steps -/
theorem Tk.add {s s' : CS} {σ : RS} (h : Tk s σ) {o a b p q : Int32} (hsz : s'.2.2.1 = s.2.2.1 + wdT o) (hold : ∀ k o a b p q, k + wdT o ≤ s.2.2.1 → RowT s k o a b p q → RowT s' k o a b p q) (hn : RowT s' s.2.2.1 o a b p q) : Tk s' (puR o a b p q σ) := by
  obtain ⟨J, j0, jm, hJ⟩ := h
  refine ⟨fun i => if i ≤ σ.2.2.2.1 then J i else s'.2.2.1, (if_pos (Nat.zero_le _)).trans j0, if_neg (Nat.not_succ_le_self _), fun i hi => ?_⟩
  have hi2 : i < σ.2.2.2.1 + 1 := hi
  by_cases e : i = σ.2.2.2.1
  · subst e
    obtain ⟨e1, e2, e3, e4, e5⟩ := pu_n (o := o) (a := a) (b := b) (p := p) (q := q) (σ := σ)
    rw [e1, e2, e3, e4, e5]
    dsimp only
    rw [if_pos (Nat.le_refl _), if_neg (by omega), jm]
    exact ⟨hn, hsz, Nat.le_refl _⟩
  · obtain ⟨a1, a2, a3⟩ := hJ i (by omega)
    rw [pu_o e, pu_o e, pu_o e, pu_o e, pu_o e]
    dsimp only
    rw [if_pos (by omega), if_pos (by omega)]
    exact ⟨hold _ _ _ _ _ _ (by omega) a1, a2, by omega⟩
/-- heights -/
theorem ht_pu {o a b p q : Int32} {σ : RS} : htR (rwT (puR o a b p q σ) 82) σ.2.2.2.1 = htR (rwT σ 82) σ.2.2.2.1 := htR_cg _ (fun i hi => pu_o (by omega))
theorem WHK.pu {o a b p q : Int32} {σ : RS} (h : WHK (rwT σ 82) σ.2.2.2.1) (hn : (o = 0 ∨ o = 1 ∨ o = 2) ∨ (o = 3 ∧ 1 ≤ htR (rwT σ 82) σ.2.2.2.1) ∨ ((o = 4 ∨ o = 5 ∨ o = 6 ∨ o = 7 ∨ o = 8) ∧ 2 ≤ htR (rwT σ 82) σ.2.2.2.1)) : WHK (rwT (puR o a b p q σ) 82) (puR o a b p q σ).2.2.2.1 := by
  intro i hi
  have hi2 : i < σ.2.2.2.1 + 1 := hi
  by_cases e : i = σ.2.2.2.1
  · subst e
    rw [pu_n.1, ht_pu]
    exact hn
  · rw [pu_o e, htR_cg i (fun j hj => pu_o (by omega))]
    exact h i (by omega)
theorem ht_1 {o a b p q : Int32} {σ : RS} (h : o = 0 ∨ o = 1 ∨ o = 2) : htR (rwT (puR o a b p q σ) 82) (σ.2.2.2.1 + 1) = htR (rwT σ 82) σ.2.2.2.1 + 1 := by
  show (if _ then _ else _) = _
  rw [pu_n.1, if_pos h, ht_pu]
theorem ht_3 {a b p q : Int32} {σ : RS} : htR (rwT (puR 3 a b p q σ) 82) (σ.2.2.2.1 + 1) = htR (rwT σ 82) σ.2.2.2.1 := by
  show (if _ then _ else _) = _
  rw [pu_n.1, if_neg (by decide), if_pos rfl, ht_pu]
theorem ht_2 {o a b p q : Int32} {σ : RS} (h : o = 4 ∨ o = 5 ∨ o = 6 ∨ o = 7 ∨ o = 8) : htR (rwT (puR o a b p q σ) 82) (σ.2.2.2.1 + 1) = htR (rwT σ 82) σ.2.2.2.1 - 1 := by
  show (if _ then _ else _) = _
  rw [pu_n.1, if_neg (by rcases h with rfl | rfl | rfl | rfl | rfl <;> decide), if_neg (by rcases h with rfl | rfl | rfl | rfl | rfl <;> decide), ht_pu]
/-! the readers' states belong together -/
def Rel (n d : Nat) (s : CS) (σ : RS) : Prop := s.2.1 = 0 ∧ σ.2.1 = 0 ∧ s.1 = σ.1 ∧ σ.2.2.2.2.2.1 = nI (6 - d) ∧ d ≤ 6 ∧ s.2.2.1 + σ.2.2.2.2.1 + 1 ≤ s.1 ∧ s.1 ≤ n ∧ PlK s ∧ Tk s σ ∧ WHK (rwT σ 82) σ.2.2.2.1
def Nxt (s s1 : CS) (σ σ1 : RS) (δ : Nat) : Prop := s.1 ≤ s1.1 ∧ s.2.2.1 ≤ s1.2.2.1 ∧ (∀ k, k < s.2.2.1 → pAt s1 k = pAt s k) ∧ (∀ k, s.2.2.1 ≤ k → k < s1.2.2.1 → ∃ p, s.1 ≤ p ∧ p < s1.1 ∧ pAt s1 k = nI p) ∧ σ1.2.2.2.2.1 = σ.2.2.2.2.1 ∧ (∀ x, x < σ.2.2.2.2.1 → rwT σ1 87 x = rwT σ 87 x ∧ rwT σ1 88 x = rwT σ 88 x) ∧ σ.2.2.2.1 ≤ σ1.2.2.2.1 ∧ (∀ i, i < σ.2.2.2.1 → rwT σ1 82 i = rwT σ 82 i) ∧ htR (rwT σ1 82) σ1.2.2.2.1 = htR (rwT σ 82) σ.2.2.2.1 + δ
theorem Rel.mt {n d : Nat} {s : CS} {σ : RS} (h : Rel n d s σ) : σ.2.2.2.1 + σ.2.2.2.2.1 + 1 ≤ s.1 := by
  have := h.2.2.2.2.2.2.2.2.1.le
  have := h.2.2.2.2.2.1
  omega
/-- a place of their own for what comes behind the place x of s -/
theorem Nxt.free {s s1 : CS} {σ σ1 : RS} {δ : Nat} (hN : Nxt s s1 σ σ1 δ) (h4 : s1.1 < 1000) (hP1 : PlK s1) {x : Nat} (h1 : ∀ k, k < s.2.2.1 → ¬ pAt s k = nI x) (h2 : x < s.1) : ∀ k, k < s1.2.2.1 → ¬ pAt s1 k = nI x := by
  intro k hk e
  by_cases q : k < s.2.2.1
  · rw [hN.2.2.1 k q] at e
    exact h1 k q e
  · obtain ⟨p, hp, hp2, e2⟩ := hN.2.2.2.1 k (by omega) hk
    have hs : s.1 ≤ s1.1 := hN.1
    have : p = x := (nI_eq (by omega) (by omega)).mp (e2.symm.trans e)
    omega
