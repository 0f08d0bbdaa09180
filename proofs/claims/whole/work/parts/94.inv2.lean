/-! the reference's scratch -/
theorem ShB.wk {M X : Mem} {i : Nat} (h : ShB M i) (hi : i < 6) (e1 : ∀ a j, a < 45 → rI X a j = rI M a j) (e2 : ∀ a j, 65 ≤ a → a ≤ 79 → rI X a j = rI M a j) (e2' : ∀ a j, 94 ≤ a → rI X a j = rI M a j) (e3 : ∀ a j, a < 45 → rJ X a j = rJ M a j) (e4 : ∀ j, rJ X 76 j = rJ M 76 j) (e5 : X.2.2 = M.2.2) : ShB X i := by
  intro j hj
  obtain ⟨a1, a2, a3, a4, a5, a6, a7, a8⟩ := h j hj
  rw [e1 _ j (by omega), e2 66 _ (by omega) (by omega), e3 (9 + 6 * i) 5 (by omega), e1 (9 + 6 * i + 3) j (by omega), e2 67 _ (by omega) (by omega), e3 (9 + 6 * i + 5) j (by omega), e4]
  have eA : rA X (9 + 6 * i + 4) j = rA M (9 + 6 * i + 4) j := by unfold rA; rw [e5]
  rw [eA]
  refine ⟨a1, a2, a3, a4, a5, fun z => ?_, a7, a8⟩
  obtain ⟨f, f1, f2, f3⟩ := a6 z
  exact ⟨f, f1, f2, f3.eq (fun a ha _ => funext fun j => e2' a j (by omega)) (by unfold lenF; rw [e5]) (fun a x ha hb _ _ => e2 a x (by omega) (by omega)) (e4 _)⟩
theorem LsB.wk {M X : Mem} (h : LsB M) (e1 : ∀ a j, a < 45 → rI X a j = rI M a j) (e2 : ∀ a j, 65 ≤ a → a ≤ 79 → rI X a j = rI M a j) (e3 : ∀ a j, a < 45 → rJ X a j = rJ M a j) : LsB X := by
  obtain ⟨a1, a2, a3, a4, a5⟩ := h
  unfold LsB
  rw [e3 5 2 (by omega), e3 5 3 (by omega)]
  exact ⟨fun c hc => by rw [e2 77 c (by omega) (by omega)]; exact a1 c hc, fun c hc => by rw [e2 78 c (by omega) (by omega)]; exact a2 c hc, fun w c hw hc => by rw [e1 6 _ (by omega), e2 79 _ (by omega) (by omega)]; exact a3 w c hw hc, fun c hc => by rw [e1 7 c (by omega), e2 78 c (by omega) (by omega)]; exact a4 c hc, a5⟩
theorem Bas.wk {M M' : Mem} {N n : Nat} (e1 : ∀ a j, a < 64 → rI M' a j = rI M a j) (e2 : ∀ a j, 94 ≤ a → rI M' a j = rI M a j) (e3 : M'.2.2 = M.2.2) (h : Bas M N n) : Bas M' N n := by
  obtain ⟨h1, h2, h3, h4⟩ := h
  refine ⟨(e1 _ _ (by decide)).trans h1, h2, fun s hs => (h3 s hs).eq e2 e3, fun g hg => ?_⟩
  rw [e1 _ _ (by rcases hg with rfl | rfl | rfl <;> decide)]
  exact h4 g hg
theorem Inv.ku {M M' : Mem} {N W t : Nat} (k : KU M M') (r : RfI M' W) (h : Inv M N W t) : Inv M' N W t := by
  obtain ⟨h1, h2, h3, h4, h5, h6, h7, h8, h9⟩ := h
  have eI : ∀ a j, a < 64 → rI M' a j = rI M a j := fun a j q => k.2.1 a j (by omega) (by omega) (by omega) (by omega)
  have eR : ∀ a j, 65 ≤ a → a ≤ 79 → rI M' a j = rI M a j := fun a j p q => k.2.1 a j (by omega) (by omega) (by omega) (by omega)
  have eF : ∀ a j, 94 ≤ a → rI M' a j = rI M a j := fun a j p => k.2.1 a j (by omega) (by omega) (by omega) (by omega)
  have eJ : ∀ a j, a < 64 → rJ M' a j = rJ M a j := fun a j q => k.2.2 a j (by omega) (by omega) (by omega) (by omega) (by omega)
  have e76 : ∀ j, rJ M' 76 j = rJ M 76 j := fun j => k.2.2 76 j (by omega) (by omega) (by omega) (by omega) (by omega)
  refine ⟨h1.wk eI eF k.1, r, h3.wk (fun a j q => eI a j (by omega)) eR (fun a j q => eJ a j (by omega)), fun i hi => (h4 i hi).wk hi (fun a j q => eI a j (by omega)) eR eF (fun a j q => eJ a j (by omega)) e76 k.1, by rw [k.1]; exact h5, h6, fun s hs => by rw [eI _ _ (by omega)]; exact h7 s hs, h8.eq (fun a j q => by rcases q with rfl | rfl | rfl; exact eI _ _ (by omega); exact eI _ _ (by omega); exact eR _ _ (by omega) (by omega)) (k.2.1 64 1 (by omega) (by omega) (by omega) (by omega)), h9.eq (k.2.1 64 15 (by omega) (by omega) (by omega) (by omega)) (k.2.1 64 16 (by omega) (by omega) (by omega) (by omega)) (eJ 5 2 (by omega)) (eJ 5 3 (by omega))⟩
theorem Inv.jc {M : Mem} {N W t i : Nat} (h : Inv M N W t) (h1 : 1 ≤ i) (hi : i < 6) : JC M i W := ⟨h1, hi, h.1.2.1, h.2.2.2.1 0 (by decide), h.2.2.2.1 i hi, h.2.2.1, h.2.1.2.1, h.1.2.2.2⟩
