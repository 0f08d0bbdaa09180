/-! what holds between two calls -/
def Tp (M : Mem) (t : Nat) : Prop := rI M 3 1 = nI t ∧ rI M 64 1 = nI t ∧ t ≤ 60 ∧ ∀ p, p < t → rI M 65 p &&& 255 = rI M 4 p ∧ (rI M 65 p).toInt8.toInt32 = rI M 65 p ∧ 0 ≤ (rI M 4 p).toInt ∧ (rI M 4 p).toInt ≤ 255
def Cn (M : Mem) : Prop := rI M 64 15 = nI (cnt (rJ M 5 2) 64) ∧ cnt (rJ M 5 2) 64 ≤ 8 ∧ rI M 64 16 = nI (cnt (rJ M 5 3) 64) ∧ cnt (rJ M 5 3) 64 ≤ 16
def Inv (M : Mem) (N W t : Nat) : Prop := Bas M N W ∧ RfI M W ∧ LsB M ∧ (∀ i, i < 6 → ShB M i) ∧ Str M.2.2.1 ∧ NFo N ∧ (∀ s, s < 6 → rI M (9 + 6 * s + 1) 0 = -1) ∧ Tp M t ∧ Cn M
theorem RfI.hi {M M' : Mem} {W : Nat} (h1 : ∀ a j, 64 ≤ a → a < 94 → rI M' a j = rI M a j) (h2 : ∀ a j, 64 ≤ a → a < 94 → rJ M' a j = rJ M a j) (r : RfI M W) : RfI M' W := by
  obtain ⟨hg, h36, hW6, hW, fr, ha⟩ := r
  have k36 : rI M' 64 36 = -1 := by rw [h1 64 36 (by omega) (by omega)]; exact h36
  have e1 : ∀ a j, 65 ≤ a → a ≤ 79 → rI M' a j = rI M a j := fun a j p q => h1 a j (by omega) (by omega)
  have e2 : ∀ j, rJ M' 76 j = rJ M 76 j := fun j => h2 76 j (by omega) (by omega)
  have sm : SmS M M' 0 := Sm_un e1 e2 h36 k36 (by decide)
  have mn : ∀ k, mnR M' k = mnR M k := fun k => by unfold mnR; rw [h1 70 k (by omega) (by omega)]
  refine ⟨GA_un e1 e2 h36 k36 hg, k36, hW6, by rw [h1 64 17 (by omega) (by omega)]; exact hW, fun z => sm.task hg ⟨fun j => h2 80 j (by omega) (by omega), fun j => h1 81 j (by omega) (by omega)⟩ (fr (by rw [h1 64 21 (by omega) (by omega)] at z; exact z)), fun k hk => ?_⟩
  unfold FoK
  rw [h1 66 k (by omega) (by omega), h1 68 k (by omega) (by omega), mn]
  refine ⟨(ha k hk).1, fun z => ⟨((ha k hk).2 z).1, fun e he p hp q => ?_⟩⟩
  rw [h1 75 _ (by omega) (by omega)] at q
  rw [h1 71 _ (by omega) (by omega)]
  exact ((ha k hk).2 z).2 e he p hp q
theorem Tp.eq {M M' : Mem} {t : Nat} (h1 : ∀ a j, a = 3 ∨ a = 4 ∨ a = 65 → rI M' a j = rI M a j) (h2 : rI M' 64 1 = rI M 64 1) (h : Tp M t) : Tp M' t := by
  obtain ⟨a, b, c, d⟩ := h
  refine ⟨by rw [h1 3 1 (by omega)]; exact a, by rw [h2]; exact b, c, fun p hp => ?_⟩
  rw [h1 65 p (by omega), h1 4 p (by omega)]
  exact d p hp
theorem Cn.eq {M M' : Mem} (h1 : rI M' 64 15 = rI M 64 15) (h2 : rI M' 64 16 = rI M 64 16) (h3 : rJ M' 5 2 = rJ M 5 2) (h4 : rJ M' 5 3 = rJ M 5 3) (h : Cn M) : Cn M' := by
  unfold Cn at h ⊢
  rw [h1, h2, h3, h4]
  exact h
/-- the class's scratch -/
theorem Inv.sx {M M' : Mem} {N W t : Nat} (k : Sx M M') (h : Inv M N W t) : Inv M' N W t := by
  obtain ⟨h1, h2, h3, h4, h5, h6, h7, h8, h9⟩ := h
  refine ⟨h1.sx k, h2.hi (fun a j p _ => k.1 a j (by omega)) (fun a j p _ => k.2.1 a j (by omega)), k.lsb h3, fun i hi => k.shb hi (h4 i hi), by rw [k.2.2]; exact h5, h6, fun s hs => by rw [k.1 _ _ (by omega)]; exact h7 s hs, h8.eq (fun a j q => k.1 a j (by omega)) (k.1 64 1 (by omega)), h9.eq (k.1 64 15 (by omega)) (k.1 64 16 (by omega)) (k.2.1 5 2 (by omega)) (k.2.1 5 3 (by omega))⟩
