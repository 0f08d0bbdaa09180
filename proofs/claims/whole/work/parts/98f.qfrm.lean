/-! a change of what is kept -/
def ShC (M : Mem) (i j : Nat) : Prop := rI M (9 + 6 * i + 2) j = rI M 66 (64 * i + j) ∧ (rI M 66 (64 * i + j) = 0 ∨ rI M 66 (64 * i + j) = 1 ∨ rI M 66 (64 * i + j) = 2) ∧ (hb (rJ M (9 + 6 * i) 5) (nI j) = true ↔ rI M 66 (64 * i + j) = 2) ∧ (rI M 66 (64 * i + j) = 1 → rI M (9 + 6 * i + 3) j = rI M 67 (64 * i + j)) ∧ (rI M 66 (64 * i + j) = 0 → rI M (9 + 6 * i + 3) j = 0) ∧ (rI M 66 (64 * i + j) = 2 → ∃ f, rA M (9 + 6 * i + 4) j = some f ∧ 94 ≤ f ∧ FmR M f (64 * i + j)) ∧ (¬ rI M 66 (64 * i + j) = 2 → rA M (9 + 6 * i + 4) j = none ∧ rJ M (9 + 6 * i + 5) j = 0) ∧ (rI M 66 (64 * i + j) = 2 → rJ M (9 + 6 * i + 5) j = rJ M 76 (64 * i + j))
theorem ShC.cg {M X : Mem} {i j : Nat} (h : ShC M i j) (e2 : rI X (9 + 6 * i + 2) j = rI M (9 + 6 * i + 2) j) (e66 : rI X 66 (64 * i + j) = rI M 66 (64 * i + j)) (e5 : hb (rJ X (9 + 6 * i) 5) (nI j) = hb (rJ M (9 + 6 * i) 5) (nI j)) (e3 : rI X (9 + 6 * i + 3) j = rI M (9 + 6 * i + 3) j) (e67 : rI X 67 (64 * i + j) = rI M 67 (64 * i + j)) (e4 : rA X (9 + 6 * i + 4) j = rA M (9 + 6 * i + 4) j) (eJ : rJ X (9 + 6 * i + 5) j = rJ M (9 + 6 * i + 5) j) (e76 : rJ X 76 (64 * i + j) = rJ M 76 (64 * i + j)) (ef : ∀ f, rA M (9 + 6 * i + 4) j = some f → 94 ≤ f → FmR M f (64 * i + j) → FmR X f (64 * i + j)) : ShC X i j := by
  unfold ShC at h ⊢
  rw [e2, e66, e5, e3, e67, e4, eJ, e76]
  obtain ⟨a1, a2, a3, a4, a5, a6, a7, a8⟩ := h
  refine ⟨a1, a2, a3, a4, a5, fun z => ?_, a7, a8⟩
  obtain ⟨f, f1, f2, f3⟩ := a6 z
  exact ⟨f, f1, f2, ef f f1 f2 f3⟩
theorem FRW.lo {M X : Mem} {N N' f : Nat} (hN : N ≤ N') (eI : ∀ a j, f ≤ a → a ≤ f + 4 → rI X a j = rI M a j) (eA : ∀ j, rA X f j = rA M f j) (eL : ∀ a, f ≤ a → a ≤ f + 4 → X.2.2.2 a = M.2.2.2 a) (h : FRW M N f) : FRW X N' f := by
  obtain ⟨⟨k, k1, k2⟩, n, ⟨⟨o1, o2, o3, o4⟩, l1, l2, l3, l4, l5⟩, ⟨s1, s2, s3⟩, wf⟩ := h
  have ez : zF X f = zF M f := by unfold zF; rw [eI f 4 (by omega) (by omega)]
  have ep : plF X f = plF M f := funext fun i => by unfold plF; rw [eI (f + 4) i (by omega) (by omega)]
  have e2 : rI X (f + 2) = rI M (f + 2) := funext fun j => eI _ j (by omega) (by omega)
  have e3 : rI X (f + 3) = rI M (f + 3) := funext fun j => eI _ j (by omega) (by omega)
  refine ⟨⟨k, k1, by omega⟩, n, ⟨⟨(eA 0).trans o1, (eA 1).trans o2, (eA 2).trans o3, (eA 3).trans o4⟩, (eL _ (by omega) (by omega)).trans l1, (eL _ (by omega) (by omega)).trans l2, (eL _ (by omega) (by omega)).trans l3, (eL _ (by omega) (by omega)).trans l4, l5⟩, ?_, ?_⟩
  · rw [ez, ep]
    exact ⟨by rw [eI f 4 (by omega) (by omega)]; exact s1, s2, fun i hi => ⟨(s3 i hi).1, by rw [eI (f + 4) i (by omega) (by omega)]; exact (s3 i hi).2⟩⟩
  · rw [ez, ep]
    unfold WFr at wf ⊢
    rw [e2, e3]
    exact wf
theorem FRP.lo {M X : Mem} {f : Nat} (eI : ∀ a j, f ≤ a → a ≤ f + 4 → rI X a j = rI M a j) (h : FRP M f) : FRP X f := by
  have e2 : rI X (f + 2) = rI M (f + 2) := funext fun j => eI _ j (by omega) (by omega)
  have e3 : rI X (f + 3) = rI M (f + 3) := funext fun j => eI _ j (by omega) (by omega)
  unfold FRP at h ⊢
  rw [e2, e3]
  exact h
theorem FmR.fok {M : Mem} {f k : Nat} (h : FmR M f k) : FoK M k := by
  obtain ⟨t1, t2, -⟩ := h.tx
  obtain ⟨m, J, h1, h2, h3, h4, h5, -⟩ := h
  have e : mnR M k = m := by unfold mnR; rw [h2]; exact nI_clamp (by omega)
  refine ⟨⟨lenF M f, t1, t2⟩, fun i hi p hp q => ?_⟩
  rw [e] at hi
  obtain ⟨r, -, -⟩ := h5 i hi
  have no : ∀ {P : Prop}, r71 M 75 k i = -1 → P := fun z => absurd (q.symm.trans z) (nI_n1 (by omega))
  rcases r with ⟨-, -, -, -, z⟩ | ⟨-, -, -, -, z, -⟩ | ⟨z, -⟩ | ⟨-, -, -, z⟩ | ⟨-, -, -, z⟩ | ⟨-, -, -, z⟩
  · exact no z
  · exact no z
  · exact z
  · exact no z
  · exact no z
  · exact no z
theorem RfI.of {M : Mem} {W : Nat} (S : ∀ i, i < 6 → ∀ j, j < 64 → ShC M i j) (h36 : rI M 64 36 = -1) (hW : W ≤ 6) (h17 : rI M 64 17 = nI W) (h21 : rI M 64 21 = 0) : RfI M W := by
  have at' : ∀ k, k < 384 → ShC M (k / 64) (k % 64) ∧ 64 * (k / 64) + k % 64 = k := fun k hk => ⟨S _ (by omega) _ (by omega), by omega⟩
  refine ⟨fun k hk z => ?_, h36, hW, h17, fun z => absurd h21 z, fun k hk => ?_⟩
  · obtain ⟨⟨-, -, -, -, -, a6, -⟩, e⟩ := at' k hk
    rw [e] at a6
    obtain ⟨f, -, -, f3⟩ := a6 z
    exact f3.rfk h36 hk
  · obtain ⟨⟨-, a2, -, -, -, a6, -⟩, e⟩ := at' k hk
    rw [e] at a2 a6
    refine ⟨a2, fun z => ?_⟩
    obtain ⟨f, -, -, f3⟩ := a6 z
    exact f3.fok
/-- the reference's tables, whatever its tape -/
theorem RfI.h2 {M X : Mem} {W : Nat} (h1 : ∀ a j, 66 ≤ a → a ≤ 81 → rI X a j = rI M a j) (h64 : ∀ j, 29 ≤ j ∨ (15 ≤ j ∧ j ≤ 21) → rI X 64 j = rI M 64 j) (h76 : ∀ j, rJ X 76 j = rJ M 76 j) (h80 : ∀ j, rJ X 80 j = rJ M 80 j) (r : RfI M W) : RfI X W := by
  obtain ⟨hg, h36, hW6, hW, fr, ha⟩ := r
  obtain ⟨Y, eY⟩ : ∃ Y, Y = sR X 65 (rI M 65) := ⟨_, rfl⟩
  have yo : ∀ a j, ¬ a = 65 → rI Y a j = rI X a j := fun a j h => by rw [eY, rI_sR, if_neg h]
  have y65 : ∀ j, rI Y 65 j = rI M 65 j := fun j => by rw [eY, rI_sR, if_pos rfl]
  have yJ : ∀ a j, rJ Y a j = rJ X a j := fun a j => by rw [eY]; rfl
  have k36 : rI X 64 36 = -1 := by rw [h64 36 (by omega)]; exact h36
  have y36 : rI Y 64 36 = -1 := by rw [yo _ _ (by decide)]; exact k36
  have e1 : ∀ a j, 65 ≤ a → a ≤ 79 → rI Y a j = rI M a j := fun a j p q => by
    by_cases z : a = 65
    · rw [z]; exact y65 j
    · rw [yo a j z]; exact h1 a j (by omega) (by omega)
  have e2 : ∀ j, rJ Y 76 j = rJ M 76 j := fun j => (yJ 76 j).trans (h76 j)
  have sm : SmS M Y 0 := Sm_un e1 e2 h36 y36 (by decide)
  have mn : ∀ k, mnR X k = mnR M k := fun k => by unfold mnR; rw [h1 70 k (by omega) (by omega)]
  have gY : GA Y := GA_un e1 e2 h36 y36 hg
  have gX : GA X := by
    subst eY
    exact gY
  refine ⟨gX, k36, hW6, by rw [h64 17 (by omega)]; exact hW, fun z => ?_, fun k hk => ?_⟩
  · have tk : TaskOK Y W := sm.task hg ⟨fun j => (yJ 80 j).trans (h80 j), fun j => (yo 81 j (by decide)).trans (h1 81 j (by omega) (by omega))⟩ (fr (by rw [h64 21 (by omega)] at z; exact z))
    subst eY
    exact tk
  · unfold FoK
    rw [h1 66 k (by omega) (by omega), h1 68 k (by omega) (by omega), mn]
    refine ⟨(ha k hk).1, fun z => ⟨((ha k hk).2 z).1, fun e he p hp q => ?_⟩⟩
    rw [h1 75 _ (by omega) (by omega)] at q
    rw [h1 71 _ (by omega) (by omega)]
    exact ((ha k hk).2 z).2 e he p hp q
theorem LsB.lo {M X : Mem} (h : LsB M) (e1 : ∀ a j, a = 6 ∨ a = 7 ∨ a = 77 ∨ a = 78 ∨ a = 79 → rI X a j = rI M a j) (e2 : rJ X 5 2 = rJ M 5 2) (e3 : rJ X 5 3 = rJ M 5 3) : LsB X := by
  obtain ⟨a1, a2, a3, a4, a5⟩ := h
  unfold LsB
  rw [e2, e3]
  exact ⟨fun c hc => by rw [e1 77 c (by omega)]; exact a1 c hc, fun c hc => by rw [e1 78 c (by omega)]; exact a2 c hc, fun w c hw hc => by rw [e1 6 _ (by omega), e1 79 _ (by omega)]; exact a3 w c hw hc, fun c hc => by rw [e1 7 c (by omega), e1 78 c (by omega)]; exact a4 c hc, a5⟩
theorem rtl_ok : ∀ p ∈ RTL, p.1 < 94 ∧ ∀ i, i < 6 → ¬ p.1 = 9 + 6 * i + 4 := by decide +kernel
/-- one cell of one sheet is put anew -/
theorem inv_put {M X : Mem} {N N' W t t' i j : Nat} (I : Inv M N W t) (hi : i < 6) (hj : j < 64) (hNN : N ≤ N') (hNf : NFo N')
    (hI : ∀ a p, a < 94 → ¬ ((a = 9 + 6 * i + 2 ∨ a = 9 + 6 * i + 3) ∧ p = j) → ¬ ((a = 66 ∨ a = 67 ∨ a = 68 ∨ a = 70) ∧ p = 64 * i + j) → ¬ ((a = 69 ∨ 71 ≤ a ∧ a ≤ 75) ∧ 40 * (64 * i + j) ≤ p ∧ p < 40 * (64 * i + j) + 40) → ¬ (a = 64 ∧ (p = 1 ∨ 21 ≤ p ∧ p ≤ 28)) → ¬ (82 ≤ a ∧ a ≤ 88) → ¬ (a = 3 ∧ p = 1) → rI X a p = rI M a p)
    (hI' : ∀ a p, 94 ≤ a → a < N → rI X a p = rI M a p)
    (hJ : ∀ a p, a < 94 → ¬ (a = 9 + 6 * i ∧ p = 5) → ¬ (a = 9 + 6 * i + 5 ∧ p = j) → ¬ (a = 76 ∧ p = 64 * i + j) → rJ X a p = rJ M a p)
    (hA : ∀ a p, a < N → ¬ (a = 9 + 6 * i + 4 ∧ p = j) → rA X a p = rA M a p)
    (hL : ∀ a, 94 ≤ a → a < N → X.2.2.2 a = M.2.2.2 a)
    (hbt : ∀ x, x < 64 → ¬ x = j → hb (rJ X (9 + 6 * i) 5) (nI x) = hb (rJ M (9 + 6 * i) 5) (nI x))
    (h21 : rI X 64 21 = 0) (cel : ShC X i j) (nf : ∀ f, rA X (9 + 6 * i + 4) j = some f → FRW X N' f ∧ FRP X f) (tp : Tp X t') : Inv X N' W t' := by
  have hN := I.N9
  obtain ⟨⟨b1, b2, b3, b4⟩, hR, hLs, hS, hs, hNo, hch, hT, hC⟩ := id I
  have sA' : ∀ s x, s < 6 → ¬ (s = i ∧ x = j) → rA X (9 + 6 * s + 4) x = rA M (9 + 6 * s + 4) x := fun s x hs' n => hA _ _ (by omega) (by omega)
  have fr : ∀ s x f, s < 6 → x < 64 → rA M (9 + 6 * s + 4) x = some f → (∀ a p, f ≤ a → a ≤ f + 4 → rI X a p = rI M a p) ∧ (∀ p, rA X f p = rA M f p) ∧ (∀ a, f ≤ a → a ≤ f + 4 → X.2.2.2 a = M.2.2.2 a) := fun s x f hs' hx e => by
    obtain ⟨⟨⟨k, k1, k2⟩, -⟩, -⟩ := b3 s hs' x f hx e
    exact ⟨fun a p h1 h2 => hI' a p (by omega) (by omega), fun p => hA f p (by omega) (by omega), fun a h1 h2 => hL a (by omega) (by omega)⟩
  have S : ∀ s, s < 6 → ∀ x, x < 64 → ShC X s x := by
    intro s hs' x hx
    by_cases e : s = i ∧ x = j
    · rw [e.1, e.2]; exact cel
    · have ne : ¬ 64 * s + x = 64 * i + j := fun z => e ⟨by omega, by omega⟩
      refine ShC.cg (hS s hs' x hx) (hI _ _ (by omega) (by omega) (by omega) (by omega) (by omega) (by omega) (by omega)) (hI _ _ (by omega) (by omega) (by omega) (by omega) (by omega) (by omega) (by omega)) ?_ (hI _ _ (by omega) (by omega) (by omega) (by omega) (by omega) (by omega) (by omega)) (hI _ _ (by omega) (by omega) (by omega) (by omega) (by omega) (by omega) (by omega)) (sA' s x hs' e) (hJ _ _ (by omega) (by omega) (by omega) (by omega)) (hJ _ _ (by omega) (by omega) (by omega) (by omega)) (fun f f1 f2 f3 => ?_)
      · by_cases z : s = i
        · rw [z]; exact hbt x hx (fun w => e ⟨z, w⟩)
        · rw [hJ (9 + 6 * s) 5 (by omega) (by omega) (by omega) (by omega)]
      · obtain ⟨g1, g2, g3⟩ := fr s x f hs' hx f1
        refine f3.eq (fun a h1 h2 => funext fun p => g1 a p h1 h2) (g3 (f + 1) (by omega) (by omega)) (fun a p h1 h2 h3 h4 => ?_) (hJ _ _ (by omega) (by omega) (by omega) (by omega))
        by_cases q : a = 68 ∨ a = 70
        · have h5 := h3 q
          exact hI _ _ (by omega) (by omega) (by omega) (by omega) (by omega) (by omega) (by omega)
        · have h5 := h4 (by omega)
          exact hI _ _ (by omega) (by omega) (by omega) (by omega) (by omega) (by omega) (by omega)
  refine ⟨⟨?_, b2, fun s hs' x f hx e => ?_, fun g hg => ?_⟩, ?_, ?_, S, ?_, hNf, fun s hs' => ?_, tp, ?_⟩
  · rw [hI 5 4 (by omega) (by omega) (by omega) (by omega) (by omega) (by omega) (by omega)]; exact b1
  · by_cases z : s = i ∧ x = j
    · rw [z.1, z.2] at e
      exact nf f e
    · rw [sA' s x hs' z] at e
      obtain ⟨g1, g2, g3⟩ := fr s x f hs' hx e
      exact ⟨(b3 s hs' x f hx e).1.lo hNN g1 g2 g3, (b3 s hs' x f hx e).2.lo g1⟩
  · rw [hI (g + 1) 0 (by rcases hg with rfl | rfl | rfl <;> omega) (by rcases hg with rfl | rfl | rfl <;> omega) (by rcases hg with rfl | rfl | rfl <;> omega) (by rcases hg with rfl | rfl | rfl <;> omega) (by rcases hg with rfl | rfl | rfl <;> omega) (by rcases hg with rfl | rfl | rfl <;> omega) (by rcases hg with rfl | rfl | rfl <;> omega)]
    exact b4 g hg
  · exact RfI.of S ((hI 64 36 (by omega) (by omega) (by omega) (by omega) (by omega) (by omega) (by omega)).trans hR.2.1) b2 ((hI 64 17 (by omega) (by omega) (by omega) (by omega) (by omega) (by omega) (by omega)).trans hR.2.2.2.1) h21
  · exact hLs.lo (fun a p h => hI a p (by omega) (by omega) (by omega) (by omega) (by omega) (by omega) (by omega)) (hJ 5 2 (by omega) (by omega) (by omega) (by omega)) (hJ 5 3 (by omega) (by omega) (by omega) (by omega))
  · exact fun p hp => (hA p.1 p.2.1 (by have := (rtl_ok p hp).1; omega) (fun z => (rtl_ok p hp).2 i hi z.1)).trans (hs p hp)
  · rw [hI (9 + 6 * s + 1) 0 (by omega) (by omega) (by omega) (by omega) (by omega) (by omega) (by omega)]; exact hch s hs'
  · exact hC.eq (hI 64 15 (by omega) (by omega) (by omega) (by omega) (by omega) (by omega) (by omega)) (hI 64 16 (by omega) (by omega) (by omega) (by omega) (by omega) (by omega) (by omega)) (hJ 5 2 (by omega) (by omega) (by omega) (by omega)) (hJ 5 3 (by omega) (by omega) (by omega) (by omega))
/-- the lesson is put anew -/
theorem inv_les {M X : Mem} {N W W' t : Nat} (I : Inv M N W t)
    (hI : ∀ a p, ¬ (a = 5 ∧ p = 4) → ¬ (a = 6 ∨ a = 7 ∨ a = 77 ∨ a = 78 ∨ a = 79) → ¬ (a = 64 ∧ (p = 15 ∨ p = 16 ∨ p = 17 ∨ p = 21)) → rI X a p = rI M a p)
    (hJ : ∀ a p, ¬ (a = 5 ∧ (p = 2 ∨ p = 3)) → rJ X a p = rJ M a p) (hR : X.2.2 = M.2.2) (h21 : rI X 64 21 = 0) (h54 : rI X 5 4 = nI W') (hW : W' ≤ 6) (h17 : rI X 64 17 = nI W') (hL : LsB X) (hC : Cn X) : Inv X N W' t := by
  have hN := I.N9
  obtain ⟨⟨b1, b2, b3, b4⟩, hRf, hLs, hS, hs, hNo, hch, hT, hC0⟩ := id I
  have eA : ∀ a p, rA X a p = rA M a p := fun a p => by unfold rA; rw [hR]
  have S : ∀ s, s < 6 → ∀ x, x < 64 → ShC X s x := fun s hs' x hx =>
    ShC.cg (hS s hs' x hx) (hI _ _ (by omega) (by omega) (by omega)) (hI _ _ (by omega) (by omega) (by omega)) (by rw [hJ (9 + 6 * s) 5 (by omega)]) (hI _ _ (by omega) (by omega) (by omega)) (hI _ _ (by omega) (by omega) (by omega)) (eA _ _) (hJ _ _ (by omega)) (hJ _ _ (by omega)) (fun f f1 f2 f3 => f3.eq (fun a h1 h2 => funext fun p => hI a p (by omega) (by omega) (by omega)) (by unfold lenF; rw [hR]) (fun a p h1 h2 h3 h4 => hI a p (by omega) (by omega) (by omega)) (hJ _ _ (by omega)))
  refine ⟨⟨h54, hW, fun s hs' => (b3 s hs').eq (fun a p h => hI a p (by omega) (by omega) (by omega)) hR, fun g hg => ?_⟩, RfI.of S ((hI 64 36 (by omega) (by omega) (by omega)).trans hRf.2.1) hW h17 h21, hL, S, by rw [hR]; exact hs, hNo, fun s hs' => ?_, hT.eq (fun a p q => hI a p (by omega) (by omega) (by omega)) (hI 64 1 (by omega) (by omega) (by omega)), hC⟩
  · rw [hI (g + 1) 0 (by rcases hg with rfl | rfl | rfl <;> omega) (by rcases hg with rfl | rfl | rfl <;> omega) (by rcases hg with rfl | rfl | rfl <;> omega)]
    exact b4 g hg
  · rw [hI (9 + 6 * s + 1) 0 (by omega) (by omega) (by omega)]; exact hch s hs'
/-- tables as they were, another tape, new cells -/
theorem inv_keep {M X : Mem} {N N' W t t' : Nat} (I : Inv M N W t) (hNN : N ≤ N') (hNf : NFo N')
    (hI : ∀ a p, a < N → ¬ (a = 3 ∧ p = 1) → ¬ a = 4 → ¬ a = 65 → ¬ (a = 64 ∧ (p = 1 ∨ 22 ≤ p ∧ p ≤ 28)) → ¬ (82 ≤ a ∧ a ≤ 88) → rI X a p = rI M a p)
    (hJ : ∀ a p, a < N → rJ X a p = rJ M a p) (hA : ∀ a p, a < N → rA X a p = rA M a p) (hL : ∀ a, 94 ≤ a → a < N → X.2.2.2 a = M.2.2.2 a) (tp : Tp X t') : Inv X N' W t' := by
  have hN := I.N9
  obtain ⟨⟨b1, b2, b3, b4⟩, hR, hLs, hS, hs, hNo, hch, hT, hC⟩ := id I
  have fr : ∀ s x f, s < 6 → x < 64 → rA M (9 + 6 * s + 4) x = some f → (∀ a p, f ≤ a → a ≤ f + 4 → rI X a p = rI M a p) ∧ (∀ p, rA X f p = rA M f p) ∧ (∀ a, f ≤ a → a ≤ f + 4 → X.2.2.2 a = M.2.2.2 a) := fun s x f hs' hx e => by
    obtain ⟨⟨⟨k, k1, k2⟩, -⟩, -⟩ := b3 s hs' x f hx e
    exact ⟨fun a p h1 h2 => hI a p (by omega) (by omega) (by omega) (by omega) (by omega) (by omega), fun p => hA f p (by omega), fun a h1 h2 => hL a (by omega) (by omega)⟩
  have S : ∀ s, s < 6 → ∀ x, x < 64 → ShC X s x := by
    intro s hs' x hx
    refine ShC.cg (hS s hs' x hx) (hI _ _ (by omega) (by omega) (by omega) (by omega) (by omega) (by omega)) (hI _ _ (by omega) (by omega) (by omega) (by omega) (by omega) (by omega)) (by rw [hJ (9 + 6 * s) 5 (by omega)]) (hI _ _ (by omega) (by omega) (by omega) (by omega) (by omega) (by omega)) (hI _ _ (by omega) (by omega) (by omega) (by omega) (by omega) (by omega)) (hA _ _ (by omega)) (hJ _ _ (by omega)) (hJ _ _ (by omega)) (fun f f1 f2 f3 => ?_)
    obtain ⟨g1, g2, g3⟩ := fr s x f hs' hx f1
    exact f3.eq (fun a h1 h2 => funext fun p => g1 a p h1 h2) (g3 (f + 1) (by omega) (by omega)) (fun a p h1 h2 h3 h4 => hI a p (by omega) (by omega) (by omega) (by omega) (by omega) (by omega)) (hJ _ _ (by omega))
  refine ⟨⟨?_, b2, fun s hs' x f hx e => ?_, fun g hg => ?_⟩, ?_, ?_, S, ?_, hNf, fun s hs' => ?_, tp, ?_⟩
  · rw [hI 5 4 (by omega) (by omega) (by omega) (by omega) (by omega) (by omega)]; exact b1
  · rw [hA _ _ (by omega)] at e
    obtain ⟨g1, g2, g3⟩ := fr s x f hs' hx e
    exact ⟨(b3 s hs' x f hx e).1.lo hNN g1 g2 g3, (b3 s hs' x f hx e).2.lo g1⟩
  · rw [hI (g + 1) 0 (by rcases hg with rfl | rfl | rfl <;> omega) (by rcases hg with rfl | rfl | rfl <;> omega) (by rcases hg with rfl | rfl | rfl <;> omega) (by rcases hg with rfl | rfl | rfl <;> omega) (by rcases hg with rfl | rfl | rfl <;> omega) (by rcases hg with rfl | rfl | rfl <;> omega)]
    exact b4 g hg
  · exact hR.h2 (fun a p h1 h2 => hI a p (by omega) (by omega) (by omega) (by omega) (by omega) (by omega)) (fun p h => hI 64 p (by omega) (by omega) (by omega) (by omega) (by omega) (by omega)) (fun p => hJ 76 p (by omega)) (fun p => hJ 80 p (by omega))
  · exact hLs.lo (fun a p h => hI a p (by omega) (by omega) (by omega) (by omega) (by omega) (by omega)) (hJ 5 2 (by omega)) (hJ 5 3 (by omega))
  · exact fun p hp => (hA p.1 p.2.1 (by have := (rtl_ok p hp).1; omega)).trans (hs p hp)
  · rw [hI (9 + 6 * s + 1) 0 (by omega) (by omega) (by omega) (by omega) (by omega) (by omega)]; exact hch s hs'
  · exact hC.eq (hI 64 15 (by omega) (by omega) (by omega) (by omega) (by omega) (by omega)) (hI 64 16 (by omega) (by omega) (by omega) (by omega) (by omega) (by omega)) (hJ 5 2 (by omega)) (hJ 5 3 (by omega))
