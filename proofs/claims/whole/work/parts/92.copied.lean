/-! copied and looks, alike for both -/
theorem FmR.tx {M : Mem} {f k : Nat} (h : FmR M f k) : lenF M f ≤ 40 ∧ rI M 68 k = nI (lenF M f) ∧ ∀ p, p < lenF M f → rI M (f + 1) p = rI M 69 (40 * k + p) := by
  obtain ⟨m, J, -, -, -, -, -, -, -, -, -, l40, e68, tx, -⟩ := h
  exact ⟨l40, e68, tx⟩
theorem tx_iff {M : Mem} {f g k k' : Nat} (hf : FmR M f k) (hg : FmR M g k') : txB M f (some g) = true ↔ rI M 68 k = rI M 68 k' ∧ ∀ p, p < (rI M 68 k).toNatClampNeg → rI M 69 (40 * k + p) = rI M 69 (40 * k' + p) := by
  obtain ⟨f1, f2, f3⟩ := hf.tx
  obtain ⟨g1, g2, g3⟩ := hg.tx
  rw [f2, g2, nI_clamp (by omega), nI_eq (by omega) (by omega)]
  show decide _ = true ↔ _
  rw [decide_eq_true_eq]
  constructor
  · rintro ⟨e, h⟩
    exact ⟨e, fun p hp => by rw [← f3 p hp, ← g3 p (by omega)]; exact h p hp⟩
  · rintro ⟨e, h⟩
    exact ⟨e, fun p hp => by rw [f3 p hp, g3 p (by omega)]; exact h p hp⟩
theorem T1_sy {M : Mem} {j k : Nat} : T1 M j k ↔ T1 M k j := by
  have g : ∀ j k, T1 M j k → T1 M k j := fun j k ⟨a, b, c, d⟩ => ⟨b, a, c.symm, fun p hp => (d p (by rw [c]; exact hp)).symm⟩
  exact ⟨g j k, g k j⟩
/-- the class's text test against another sheet -/
theorem tx_sh {M : Mem} {b f j k : Nat} (Sb : ShB M b) (hj : j < 64) (hf : FmR M f k) (h2 : rI M 66 k = 2) : txB M f (rA M (9 + 6 * b + 4) j) = true ↔ T1 M k (64 * b + j) := by
  obtain ⟨-, -, -, -, -, a6, a7, -⟩ := Sb j hj
  by_cases s2 : rI M 66 (64 * b + j) = 2
  · obtain ⟨g, g1, -, g3⟩ := a6 s2
    rw [g1, tx_iff hf g3]
    exact ⟨fun ⟨x, y⟩ => ⟨h2, s2, x, y⟩, fun ⟨_, _, x, y⟩ => ⟨x, y⟩⟩
  · rw [(a7 s2).1]
    exact ⟨fun z => absurd (show false = true from z) (by decide), fun z => absurd z.2.1 s2⟩
theorem co_iff {M : Mem} {a b : Nat} (S0 : ShB M 0) (Sa : ShB M a) (Sb : ShB M b) (L : LsB M) : ∀ x, x < 64 → (coF M a b x = true ↔ rI M 77 x = 0 ∧ T1 M (64 * a + x) (64 * b + x) ∧ ¬ T1 M x (64 * a + x)) := by
  intro x hx
  obtain ⟨-, -, -, -, -, a6, a7, -⟩ := Sa x hx
  have e77 : (!hb (rJ M 5 2) (nI x)) = true ↔ rI M 77 x = 0 := by
    rw [Bool.not_eq_true', ← Bool.not_eq_true, L.1 x hx]
    exact ⟨fun z => Classical.not_not.mp z, fun z q => q z⟩
  unfold coF
  rw [Bool.and_eq_true, e77]
  by_cases s2 : rI M 66 (64 * a + x) = 2
  · obtain ⟨f, f1, -, f3⟩ := a6 s2
    have e : shB M a b x = (txB M f (rA M (9 + 6 * b + 4) x) && !txB M f (rA M (9 + 4) x)) := by unfold shB; rw [f1]
    have t0 := tx_sh S0 hx f3 s2
    rw [show 64 * 0 + x = x by omega, show 9 + 6 * 0 + 4 = 9 + 4 from rfl] at t0
    rw [e, Bool.and_eq_true, tx_sh Sb hx f3 s2, Bool.not_eq_true', ← Bool.not_eq_true, t0, T1_sy (j := x)]
  · have e : shB M a b x = false := by unfold shB; rw [(a7 s2).1]
    rw [e]
    exact ⟨fun z => absurd z.2 (by decide), fun z => absurd z.2.1.1 s2⟩
theorem LsB.ws {M : Mem} (L : LsB M) : ∀ k, k ≤ 64 → wsF (rI M 7) k = wsF (rI M 78) k
  | 0, _ => rfl
  | k + 1, h => by
    show wsF (rI M 7) k + rI M 7 k = wsF (rI M 78) k + rI M 78 k
    rw [LsB.ws L k (by omega), L.2.2.2.1 k (by omega)]
