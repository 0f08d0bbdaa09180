/-! cells that come to one, alike for both -/
theorem and_0i {a b : Int64} : ¬ a &&& b = 0 ↔ ∃ z, z < 64 ∧ hb a (nI z) = true ∧ hb b (nI z) = true := by
  constructor
  · intro h
    refine Classical.byContradiction (fun q => h (hb_ext (fun z hz => ?_)))
    rw [hb_and hz, hb_0 hz]
    exact ⟨fun k => absurd ⟨z, hz, k.1, k.2⟩ q, fun k => absurd k (by decide)⟩
  · rintro ⟨z, hz, k1, k2⟩ h
    have := (hb_and (a := a) (b := b) hz).mpr ⟨k1, k2⟩
    rw [h, hb_0 hz] at this
    exact absurd this (by decide)
theorem nR_cl {M : Mem} {i c z : Nat} (S : ShB M i) (L : LsB M) (h36 : rI M 64 36 = -1) (hi : i < 6) (hc : c < 64) (hz : z < 64) : hb (nR M i c) (nI z) = true ↔ ¬ hb (rJ M 5 2) (nI c) = true ∧ hb (rJ M (9 + 6 * i + 5) c) (nI z) = true := by
  obtain ⟨-, -, -, -, -, -, a7, a8⟩ := S c hc
  rw [nR36 h36 hi hc]
  by_cases s2 : rI M 66 (64 * i + c) = 2
  · rw [if_neg (fun q => q s2), a8 s2]
    by_cases n7 : rI M 77 c = 0
    · rw [if_neg (fun q => q n7)]
      exact ⟨fun k => ⟨fun q => (L.1 c hc).mp q n7, k⟩, fun k => k.2⟩
    · rw [if_pos n7, hb_0 hz]
      exact ⟨fun k => absurd k (by decide), fun k => absurd ((L.1 c hc).mpr n7) k.1⟩
  · rw [if_pos s2, (a7 s2).2, hb_0 hz]
    exact ⟨fun k => absurd k (by decide), fun k => absurd k.2 (by decide)⟩
theorem cmA_iff {M : Mem} {i c j y : Nat} {x : Int64} (S : ShB M i) (L : LsB M) (h36 : rI M 64 36 = -1) (hi : i < 6) (hc : c < 64) (hj : j < 64) (hy : y < 64) : hb (cmA M (9 + 6 * i) (nI j) c x) (nI y) = true ↔ hb x (nI y) = true ∨ (y = c ∧ ∃ z, z < 64 ∧ hb (nR M i c) (nI z) = true ∧ (hb x (nI z) = true ∨ z = j)) := by
  unfold cmA
  by_cases h1 : hb (rJ M 5 2) (nI c) = true
  · rw [if_pos h1]
    refine ⟨Or.inl, fun k => k.elim id (fun ⟨_, z, hz, k, _⟩ => absurd h1 ((nR_cl S L h36 hi hc hz).mp k).1)⟩
  · rw [if_neg h1]
    by_cases h2 : rJ M (9 + 6 * i + 5) c &&& (x ||| bitL (nI j)) = 0
    · rw [if_pos h2]
      refine ⟨Or.inl, fun k => k.elim id (fun ⟨_, z, hz, k, k2⟩ => absurd h2 (and_0i.mpr ⟨z, hz, ((nR_cl S L h36 hi hc hz).mp k).2, (hb_orb hz hj).mpr k2⟩))⟩
    · rw [if_neg h2, hb_orb hy hc]
      obtain ⟨z, hz, k1, k2⟩ := and_0i.mp h2
      refine ⟨fun k => k.imp id (fun e => ⟨e, z, hz, (nR_cl S L h36 hi hc hz).mpr ⟨h1, k1⟩, (hb_orb hz hj).mp k2⟩), fun k => k.imp id (fun e => e.1)⟩
theorem cmW_mono {M : Mem} {i j : Nat} {x : Int64} (S : ShB M i) (L : LsB M) (h36 : rI M 64 36 = -1) (hi : i < 6) (hj : j < 64) : ∀ r k, k + r ≤ 64 → ∀ y, y < 64 → hb (cmW M (9 + 6 * i) (nI j) k x) (nI y) = true → hb (cmW M (9 + 6 * i) (nI j) (k + r) x) (nI y) = true
  | 0, _, _, _, _, h => h
  | r + 1, k, hk, y, hy, h => (cmA_iff S L h36 hi (show k + r < 64 by omega) hj hy).mpr (Or.inl (cmW_mono S L h36 hi hj r k (by omega) y hy h))
theorem Ch_st {nd : Nat → Int64} {x c j : Nat} (hc : c < 64) (h1 : hb (nd x) (nI c) = true) (h : Ch nd c j ∨ c = j) : Ch nd x j := by
  intro P p1 p2
  have pc : P c := p1 c hc h1
  rcases h with h | h
  · exact h P (fun y hy k => p2 c hc pc y hy k) p2
  · rw [← h]; exact pc
theorem cmW_snd {M : Mem} {i j : Nat} {x : Int64} (S : ShB M i) (L : LsB M) (h36 : rI M 64 36 = -1) (hi : i < 6) (hj : j < 64) (hx : ∀ y, y < 64 → hb x (nI y) = true → Ch (nR M i) y j) : ∀ k, k ≤ 64 → ∀ y, y < 64 → hb (cmW M (9 + 6 * i) (nI j) k x) (nI y) = true → Ch (nR M i) y j
  | 0, _ => hx
  | k + 1, hk => fun y hy h => by
    have ih := cmW_snd S L h36 hi hj hx k (by omega)
    rcases (cmA_iff S L h36 hi (by omega) hj hy).mp h with q | ⟨e, z, hz, q1, q2⟩
    · exact ih y hy q
    · subst e
      exact Ch_st hz q1 (q2.imp (ih z hz) id)
theorem cmW_cl {M : Mem} {i j : Nat} {x : Int64} (S : ShB M i) (L : LsB M) (h36 : rI M 64 36 = -1) (hi : i < 6) (hj : j < 64) (hx : cmW M (9 + 6 * i) (nI j) 64 x = x) {c : Nat} (hc : c < 64) (h : ∃ z, z < 64 ∧ hb (nR M i c) (nI z) = true ∧ (hb x (nI z) = true ∨ z = j)) : hb x (nI c) = true := by
  have e : cmW M (9 + 6 * i) (nI j) c x = x := hb_ext (fun y hy => ⟨fun k => by
    have := cmW_mono S L h36 hi hj (64 - c) c (by omega) y hy k
    rw [show c + (64 - c) = 64 by omega, hx] at this
    exact this, fun k => by
    have := cmW_mono S L h36 hi hj c 0 (by omega) y hy k
    rw [show 0 + c = c by omega] at this
    exact this⟩)
  have h2 : hb (cmW M (9 + 6 * i) (nI j) (c + 1) x) (nI c) = true := by
    show hb (cmA M (9 + 6 * i) (nI j) c (cmW M (9 + 6 * i) (nI j) c x)) (nI c) = true
    rw [e]
    exact (cmA_iff S L h36 hi hc hj hc).mpr (Or.inr ⟨rfl, h⟩)
  have := cmW_mono S L h36 hi hj (63 - c) (c + 1) (by omega) c hc h2
  rw [show c + 1 + (63 - c) = 64 by omega, hx] at this
  exact this
theorem cmR_end {M : Mem} {i j : Nat} (S : ShB M i) (L : LsB M) (h36 : rI M 64 36 = -1) (hi : i < 6) (hj : j < 64) : ∀ (r : Nat) (x : Int64), (∀ y, y < 64 → hb x (nI y) = true → Ch (nR M i) y j) → (∀ y, y < 64 → hb (cmR M (9 + 6 * i) (nI j) r x) (nI y) = true → Ch (nR M i) y j) ∧ (cmW M (9 + 6 * i) (nI j) 64 (cmR M (9 + 6 * i) (nI j) r x) = cmR M (9 + 6 * i) (nI j) r x ∨ cnt x 64 + r ≤ cnt (cmR M (9 + 6 * i) (nI j) r x) 64)
  | 0, x, hx => ⟨hx, Or.inr (Nat.le_refl _)⟩
  | r + 1, x, hx => by
    have hs := cmW_snd S L h36 hi hj hx 64 (Nat.le_refl _)
    have mo : ∀ y, y < 64 → hb x (nI y) = true → hb (cmW M (9 + 6 * i) (nI j) 64 x) (nI y) = true := fun y hy k => by
      have := cmW_mono S L h36 hi hj 64 0 (by omega) y hy k
      rw [Nat.zero_add] at this
      exact this
    obtain ⟨x', hx'⟩ : ∃ x', x' = cmW M (9 + 6 * i) (nI j) 64 x := ⟨_, rfl⟩
    have e : cmR M (9 + 6 * i) (nI j) (r + 1) x = if x' = x then x' else cmR M (9 + 6 * i) (nI j) r x' := by rw [hx']; rfl
    rw [← hx'] at hs mo
    rw [e]
    by_cases q : x' = x
    · rw [if_pos q]
      refine ⟨hs, Or.inl ?_⟩
      rw [q] at hx' ⊢
      exact hx'.symm
    · rw [if_neg q]
      obtain ⟨a, b⟩ := cmR_end S L h36 hi hj r x' hs
      refine ⟨a, b.imp id (fun b => ?_)⟩
      have : ∃ y, y < 64 ∧ hb x' (nI y) = true ∧ ¬ hb x (nI y) = true := Classical.byContradiction (fun z => q (hb_ext (fun y hy => ⟨fun k => Classical.byContradiction (fun w => z ⟨y, hy, k, w⟩), mo y hy⟩)))
      obtain ⟨y, hy, k1, k2⟩ := this
      have l := cnt_lt (a := x) (b := x') 64 (Nat.le_refl _) hy mo k2 k1
      omega
/-- the class's cells that come to j are the reference's -/
theorem cm_ch {M : Mem} {i j : Nat} (S : ShB M i) (L : LsB M) (h36 : rI M 64 36 = -1) (hi : i < 6) (hj : j < 64) : ∀ x, x < 64 → (hb (cmR M (9 + 6 * i) (nI j) 64 0) (nI x) = true ↔ Ch (nR M i) x j) := by
  obtain ⟨h1, h2⟩ := cmR_end S L h36 hi hj 64 0 (fun y hy k => by rw [hb_0 hy] at k; exact absurd k (by decide))
  obtain ⟨s, hs⟩ : ∃ s, s = cmR M (9 + 6 * i) (nI j) 64 0 := ⟨_, rfl⟩
  rw [← hs] at h1 h2 ⊢
  intro x hx
  refine ⟨h1 x hx, fun h => ?_⟩
  rcases h2 with h2 | h2
  · refine Classical.byContradiction (fun n => ?_)
    have := h (fun y => ¬ (hb s (nI y) = true ∨ y = j)) (fun y hy k q => n (cmW_cl S L h36 hi hj h2 hx ⟨y, hy, k, q⟩)) (fun y hy k z hz k2 q => k (Or.inl (cmW_cl S L h36 hi hj h2 hy ⟨z, hz, k2, q⟩)))
    exact this (Or.inr rfl)
  · have l := cnt_le (s := s) 64
    exact cnt_full 64 (Nat.le_refl _) (by omega) x hx
