/-! the bits of a rectangle -/
theorem col_bit : ∀ l, l < 8 → ∀ r, r < 8 → l ≤ r → ∀ p, p < 8 → ∀ z, z < 64 → hb (colL l r <<< ((8 * nI p).toInt64 &&& 63)) (nI z) = decide (z / 8 = p ∧ l ≤ z % 8 ∧ z % 8 ≤ r) := by decide +kernel
theorem rcF_bit {l r : Nat} (hl : l < 8) (hr : r < 8) (h : l ≤ r) {t z : Nat} (hz : z < 64) : ∀ n, t + n ≤ 8 → (hb (rcF (colL l r) t n) (nI z) = true ↔ (t ≤ z / 8 ∧ z / 8 < t + n) ∧ l ≤ z % 8 ∧ z % 8 ≤ r)
  | 0, _ => by
    show hb 0 (nI z) = true ↔ _
    rw [hb_0 hz]
    exact ⟨fun q => absurd q (by decide), fun q => by omega⟩
  | n + 1, hn => by
    unfold rcF
    rw [hb_orI hz, rcF_bit hl hr h hz n (by omega), col_bit l hl r hr h (t + n) (by omega) z hz, decide_eq_true_eq]
    omega
theorem rcL_bit {a b z : Nat} (ha : a < 64) (hb6 : b < 64) (hz : z < 64) : hb (rcL a b) (nI z) = true ↔ iwP z a b := by
  unfold rcL
  rw [rcF_bit (by omega) (by omega) (by omega) hz _ (by omega)]
  unfold iwP btP
  omega
