/-! a formula of the class and rows of the reference that belong together -/
def csM (M : Mem) (f : Nat) : CS := (0, 0, zF M f, rI M (f + 2), rI M (f + 3), rI M (f + 4))
def r71 (M : Mem) (a k : Nat) (i : Nat) : Int32 := rI M a (40 * k + i)
def FmR (M : Mem) (f k : Nat) : Prop := ∃ (m : Nat) (J : Nat → Nat), m ≤ 40 ∧ rI M 70 k = nI m ∧ J 0 = 0 ∧ J m = zF M f ∧ (∀ i, i < m → RowT (csM M f) (J i) (r71 M 71 k i) (r71 M 72 k i) (r71 M 73 k i) (r71 M 74 k i) (r71 M 75 k i) ∧ J (i + 1) = J i + wdT (r71 M 71 k i) ∧ J (i + 1) ≤ zF M f) ∧ WHK (r71 M 71 k) m ∧ htR (r71 M 71 k) m = 1 ∧ rJ M 76 k = nmF (r71 M 71 k) (r71 M 72 k) (r71 M 73 k) m ∧ zF M f ≤ lenF M f ∧ lenF M f ≤ 40 ∧ rI M 68 k = nI (lenF M f) ∧ (∀ p, p < lenF M f → rI M (f + 1) p = rI M 69 (40 * k + p)) ∧ (∀ x, x < zF M f → ∃ p, p < lenF M f ∧ pAt (csM M f) x = nI p) ∧ (∀ x y, x < zF M f → y < zF M f → pAt (csM M f) x = pAt (csM M f) y → x = y) ∧ (∀ p, ¬ rI M (f + 2) p = 0 → ∃ x, x < zF M f ∧ pAt (csM M f) x = nI p) ∧ (∀ x, x < zF M f → sAt (csM M f) x = 1 → 0 ≤ (oAt (csM M f) x).toInt ∧ (oAt (csM M f) x).toInt ≤ 9999)
theorem RowT.E {M : Mem} {f k : Nat} {o a b p q : Int32} (h : RowT (csM M f) k o a b p q) {C : Cod} {z : Nat} (hz : k + wdT o ≤ z) (hC : ∀ x, x < z → C.1 x = sAt (csM M f) x ∧ C.2 x = oAt (csM M f) x) : RowE C k o a b := by
  have w1 : 1 ≤ wdT o := by unfold wdT; split <;> omega
  unfold RowE
  rw [(hC k (by omega)).1, (hC k (by omega)).2]
  rcases h with ⟨h1, h2, h3, -⟩ | ⟨h1, h2, h3, -, -, h4⟩ | ⟨h1, h2, h3, -, h5, h6, -, h8, h9⟩ | ⟨h1, h2, -⟩ | ⟨h1, h2, -⟩ | ⟨h1, h2, -⟩
  · exact Or.inl ⟨h1, h2, h3⟩
  · exact Or.inr (Or.inl ⟨h1, h2, h3, h4⟩)
  · have w3 : wdT o = 3 := if_pos h1
    rw [(hC (k + 1) (by omega)).1, (hC (k + 1) (by omega)).2, (hC (k + 2) (by omega)).1]
    exact Or.inr (Or.inr (Or.inl ⟨h1, h2, h3, h5, h6, h8, h9⟩))
  · exact Or.inr (Or.inr (Or.inr (Or.inl ⟨h1, h2⟩)))
  · exact Or.inr (Or.inr (Or.inr (Or.inr (Or.inl ⟨h1, h2⟩))))
  · exact Or.inr (Or.inr (Or.inr (Or.inr (Or.inr ⟨h1, h2⟩))))
theorem sg_no {o : Int32} (h : o = 4 ∨ o = 5 ∨ o = 6 ∨ o = 7) : ¬ sgR o = 2 ∧ ¬ sgR o = 3 ∧ ¬ sgR o = 5 ∧ ¬ o = 1 ∧ ¬ o = 2 := by rcases h with rfl | rfl | rfl | rfl <;> decide
theorem RowE.N {C : Cod} {k : Nat} {o a b : Int32} (h : RowE C k o a b) : RowN C k o a b := by
  rcases h with ⟨h1, h2, h3⟩ | ⟨h1, h2, h3, h4⟩ | ⟨h1, h2, h3, h5, h6, h8, h9⟩ | ⟨h1, h2⟩ | ⟨h1, h2⟩ | ⟨h1, h2⟩
  · exact Or.inr (Or.inr ⟨by rw [h1]; decide, by rw [h1]; decide, by rw [h2]; decide, by rw [h2]; decide, by rw [h2]; decide⟩)
  · exact Or.inl ⟨h1, h2, h3, h4⟩
  · exact Or.inr (Or.inl ⟨h1, h2, h3, h5, h6, h8, h9⟩)
  · exact Or.inr (Or.inr ⟨by rw [h1]; decide, by rw [h1]; decide, by rw [h2]; decide, by rw [h2]; decide, by rw [h2]; decide⟩)
  · obtain ⟨a1, a2, a3, a4, a5⟩ := sg_no h1
    exact Or.inr (Or.inr ⟨a4, a5, by rw [h2]; exact a1, by rw [h2]; exact a2, by rw [h2]; exact a3⟩)
  · exact Or.inr (Or.inr ⟨by rw [h1]; decide, by rw [h1]; decide, by rw [h2]; decide, by rw [h2]; decide, by rw [h2]; decide⟩)
theorem FmR.mn {M : Mem} {f k : Nat} (h : FmR M f k) : mnR M k ≤ 40 ∧ rI M 70 k = nI (mnR M k) := by
  obtain ⟨m, J, h1, h2, -⟩ := h
  have e : mnR M k = m := by unfold mnR; rw [h2]; exact nI_clamp (by omega)
  rw [e]
  exact ⟨h1, h2⟩
/-- the rows of an unchanged formula -/
theorem FmR.rfk {M : Mem} {f k : Nat} (h : FmR M f k) (h36 : rI M 64 36 = -1) (hk : k < 384) : RFK M k ∧ NmK M k := by
  obtain ⟨m, J, h1, h2, h3, h4, h5, h6, h7, h8, -⟩ := h
  have e : mnR M k = m := by unfold mnR; rw [h2]; exact nI_clamp (by omega)
  have ro : ∀ i, i < m → rOp M k i = r71 M 71 k i ∧ rAr M k i = r71 M 72 k i ∧ rA2 M k i = r71 M 73 k i := fun i hi => ro36 h36 hk (by omega)
  refine ⟨⟨by rw [e]; exact h1, by rw [e]; exact h2, ?_, ?_, ?_⟩, by unfold NmK; rw [e]; exact h8⟩
  · rw [e]
    exact WFK_cg ro (fun i hi => rowT_wf (h5 i hi).1)
  · rw [e]
    exact WHK_cg (fun i hi => (ro i hi).1) h6
  · rw [e, htR_cg m (fun i hi => (ro i hi).1)]
    exact h7
/-- stack entries in bounds -/
theorem rvF_inb {V : FS} (hV : BnV V) {o a b : Nat → Int32} {r : Nat → Int64} {m : Nat} (hf : WFK o a b m) (hw : WHK o m) : ∀ i, i ≤ m → (rvF V o a b r i).2.2 = 0 → ∀ j, j < (rvF V o a b r i).2.1 → Inb ((rvF V o a b r i).1 j)
  | 0, _, _ => fun j hj => absurd hj (Nat.not_lt_zero _)
  | i + 1, hi, h => by
    have ih := rvF_inb (r := r) hV hf hw i (by omega)
    have hht := rvF_h (V := V) (a := a) (b := b) (r := r) hw i (by omega)
    obtain ⟨σ, hσ⟩ : ∃ σ, σ = rvF V o a b r i := ⟨_, rfl⟩
    rw [← hσ] at ih hht
    have er : rvF V o a b r (i + 1) = if σ.2.2 = 0 then rvA V (o i) (a i) (b i) σ else σ := by rw [hσ]; rfl
    rw [er] at h ⊢
    by_cases z : σ.2.2 = 0
    · rw [if_pos z] at h ⊢
      have ih := ih z
      have hht := hht z
      have pin : ∀ (s : MS) (x : Int64) (e : Int32), (∀ j, j < s.2.1 → Inb (s.1 j)) → Inb x → ∀ j, j < (pR s x e).2.1 → Inb ((pR s x e).1 j) := fun s x e hs hx j hj => by
        have hj2 : j < s.2.1 + 1 := hj
        show Inb (if j = s.2.1 then x else s.1 j)
        by_cases q : j = s.2.1
        · rw [if_pos q]; exact hx
        · rw [if_neg q]; exact hs j (by omega)
      have cin : ∀ (s : MS) (x : Int64), (∀ j, j < s.2.1 → Inb (s.1 j)) → (rC s x).2.2 = 0 → ∀ j, j < (rC s x).2.1 → Inb ((rC s x).1 j) := fun s x hs hz => by
        by_cases c : Inb x
        · exact pin s x _ hs c
        · rw [rC_1 (Classical.not_not.mp c)] at hz
          exact absurd (show (3 : Int32) = 0 from hz) (by decide)
      have hd1 : ∀ j, j < (dn1 σ).2.1 → Inb ((dn1 σ).1 j) := fun j hj => ih j (by have hj2 : j < σ.2.1 - 1 := hj; omega)
      have hd2 : ∀ j, j < (dn2 σ).2.1 → Inb ((dn2 σ).1 j) := fun j hj => ih j (by have hj2 : j < σ.2.1 - 2 := hj; omega)
      unfold rvA at h ⊢
      by_cases c0 : o i = 0
      · rw [if_pos c0] at h ⊢
        exact cin _ _ ih h
      · rw [if_neg c0] at h ⊢
        by_cases c1 : o i = 1
        · rw [if_pos c1] at h ⊢
          obtain ⟨c, hc, e⟩ := (hf i (by omega)).1 c1
          rw [e, j64_c hc] at h ⊢
          exact pin _ _ _ ih ((hV c hc).1 h)
        · rw [if_neg c1] at h ⊢
          by_cases c2 : o i = 2
          · rw [if_pos c2] at h ⊢
            obtain ⟨c, e, hc, he, ea, eb⟩ := (hf i (by omega)).2 c2
            rw [ea, eb, j64_c hc, j64_c he] at h ⊢
            unfold rgE at h ⊢
            rw [z] at h ⊢
            have rin : ∀ x, x ≤ 64 → (rgL V c e 0 x).2 = 0 → Inb (rgL V c e 0 x).1 := by
              intro x
              induction x with
              | zero => exact fun _ _ => in_0
              | succ x ihx =>
                intro hx hz
                unfold rgL at hz ⊢
                by_cases q : (rgL V c e 0 x).2 = 0
                · rw [if_pos q] at hz ⊢
                  by_cases w : iwP x c e
                  · rw [if_pos w] at hz ⊢
                    unfold rgS at hz ⊢
                    by_cases v : V.2 x = 0
                    · rw [if_pos v] at hz
                      refine fun k => ?_
                      rw [if_pos k] at hz
                      exact absurd (show (3 : Int32) = 0 from hz) (by decide)
                    · rw [if_neg v] at hz
                      exact absurd hz v
                  · rw [if_neg w] at hz ⊢
                    exact ihx (by omega) hz
                · rw [if_neg q] at hz
                  exact absurd hz q
            obtain ⟨G, hG⟩ : ∃ G, G = rgL V c e 0 64 := ⟨_, rfl⟩
            have rin2 := rin 64 (Nat.le_refl _)
            rw [← hG] at h rin2 ⊢
            exact pin _ _ _ ih (rin2 h)
          · rw [if_neg c2] at h ⊢
            by_cases c3 : o i = 3
            · rw [if_pos c3] at h ⊢
              exact cin _ _ hd1 h
            · rw [if_neg c3] at h ⊢
              unfold rW at h ⊢
              split
              · next k => rw [if_pos k] at h; exact cin _ _ hd2 h
              · next k =>
                rw [if_neg k] at h
                split
                · next k => rw [if_pos k] at h; exact cin _ _ hd2 h
                · next k =>
                  rw [if_neg k] at h
                  split
                  · next k =>
                    rw [if_pos k] at h
                    unfold rT at h ⊢
                    split
                    · next y => rw [if_pos y] at h; exact absurd (show (3 : Int32) = 0 from h) (by decide)
                    · next y => rw [if_neg y] at h; exact cin _ _ hd2 h
                  · next k =>
                    rw [if_neg k] at h
                    split
                    · next k =>
                      rw [if_pos k] at h
                      unfold rP at h ⊢
                      split
                      · next y => rw [if_pos y] at h; exact absurd (show (2 : Int32) = 0 from h) (by decide)
                      · next y => rw [if_neg y] at h; exact cin _ _ hd2 h
                    · next k => rw [if_neg k] at h; exact cin _ _ hd2 h
    · rw [if_neg z] at h
      exact absurd h z
theorem ro_in {V : FS} (hV : BnV V) {o a b : Nat → Int32} {r : Nat → Int64} {m : Nat} (hf : WFK o a b m) (hw : WHK o m) (h1 : htR o m = 1) : ((roF (rvF V o a b r m)).2 = 0 → Inb (roF (rvF V o a b r m)).1) ∧ (¬ (roF (rvF V o a b r m)).2 = 0 → (roF (rvF V o a b r m)).1 = 0) := by
  refine ⟨fun h => ?_, ro_z⟩
  have e : (rvF V o a b r m).2.2 = 0 := Classical.byContradiction (fun z => z (by rw [roF_1 z] at h; exact h))
  rw [roF_0 e]
  exact rvF_inb hV hf hw m (Nat.le_refl _) e 0 (by rw [rvF_h hw m (Nat.le_refl _) e, h1]; exact Nat.zero_lt_one)
/-- what comes out of the class's formula is what comes out of the reference's -/
theorem FmR.ev {M M' : Mem} {f k g v : Nat} (hg : FgR g) (h : FmR M f k) (h36 : rI M 64 36 = -1) (hk : k < 384) (hu : rI M' (g + 1) 0 = -1) (e2 : rI M' (f + 2) = rI M (f + 2)) (e3 : rI M' (f + 3) = rI M (f + 3)) (e4 : rI M' (f + 4) = rI M (f + 4)) (ez : rI M' f 4 = rI M f 4) (hV : BnV (fgF M' g v)) : evM M' (g + 1) f g v = rvE M k (fgF M' g v) := by
  obtain ⟨r, -⟩ := h.rfk h36 hk
  obtain ⟨m, J, h1, h2, h3, h4, h5, h6, h7, h8, h9, h10, h11, h12, h13, -⟩ := h
  have e : mnR M k = m := by unfold mnR; rw [h2]; exact nI_clamp (by omega)
  have ro : ∀ i, i < m → rOp M k i = r71 M 71 k i ∧ rAr M k i = r71 M 72 k i ∧ rA2 M k i = r71 M 73 k i := fun i hi => ro36 h36 hk (by omega)
  have ezf : zF M' f = zF M f := by unfold zF; rw [ez]
  have epl : plF M' f = plF M f := by unfold plF; rw [e4]
  have np : ∀ p : Nat, p < 40 → ¬ nI p = rI M' (g + 1) 0 := fun p hp z => by
    rw [hu] at z
    have := congrArg Int32.toInt z
    rw [nIt (by omega)] at this
    have e1 : (-1 : Int32).toInt = -1 := rfl
    omega
  have hC : ∀ x, x < zF M f → (cdF M' (g + 1) f).1 x = sAt (csM M f) x ∧ (cdF M' (g + 1) f).2 x = oAt (csM M f) x := fun x hx => by
    obtain ⟨p, p1, p2⟩ := h13 x hx
    have p2' : rI M (f + 4) x = nI p := p2
    have pl : plF M' f x = p := by show (rI M' (f + 4) x).toNatClampNeg = p; rw [e4, p2']; exact nI_clamp (by omega)
    have n := np p (by omega)
    constructor
    · show chS M' (g + 1) f (plF M' f x) = rI M (f + 2) (rI M (f + 4) x).toNatClampNeg
      rw [pl, p2', nI_clamp (by omega), ← e2]
      exact if_neg n
    · show chO M' (g + 1) f (plF M' f x) = rI M (f + 3) (rI M (f + 4) x).toNatClampNeg
      rw [pl, p2', nI_clamp (by omega), ← e3]
      exact if_neg n
  unfold evM rvE
  rw [ezf, e, rvF_cg m ro, ← h4]
  exact ev_rv hV h3 h6 h7 (fun i hi => ⟨(h5 i hi).1.E (z := zF M f) (by have := (h5 i hi).2; omega) hC, (h5 i hi).2.1, by have := (h5 i hi).2.2; omega⟩)
/-- what the class's formula needs is what the reference's does -/
theorem FmR.ns {M M' : Mem} {f k q : Nat} (h : FmR M f k) (hu : rI M' q 0 = -1) (e2 : rI M' (f + 2) = rI M (f + 2)) (e3 : rI M' (f + 3) = rI M (f + 3)) (e4 : rI M' (f + 4) = rI M (f + 4)) (ez : rI M' f 4 = rI M f 4) : (nsF (csF M' q f) (zF M' f)).1 = rJ M 76 k := by
  obtain ⟨m, J, h1, h2, h3, h4, h5, h6, h7, h8, h9, h10, h11, h12, h13, -⟩ := h
  have ezf : zF M' f = zF M f := by unfold zF; rw [ez]
  have np : ∀ p : Nat, p < 40 → ¬ nI p = rI M' q 0 := fun p hp z => by
    rw [hu] at z
    have := congrArg Int32.toInt z
    rw [nIt (by omega)] at this
    have e1 : (-1 : Int32).toInt = -1 := rfl
    omega
  have hC : ∀ x, x < zF M f → (csF M' q f).1 x = sAt (csM M f) x ∧ (csF M' q f).2 x = oAt (csM M f) x := fun x hx => by
    obtain ⟨p, p1, p2⟩ := h13 x hx
    have p2' : rI M (f + 4) x = nI p := p2
    have pl : plF M' f x = p := by show (rI M' (f + 4) x).toNatClampNeg = p; rw [e4, p2']; exact nI_clamp (by omega)
    have n := np p (by omega)
    constructor
    · show rI M' (f + 2) (plF M' f x) = rI M (f + 2) (rI M (f + 4) x).toNatClampNeg
      rw [pl, p2', nI_clamp (by omega), ← e2]
    · show chO M' q f (plF M' f x) = rI M (f + 3) (rI M (f + 4) x).toNatClampNeg
      rw [pl, p2', nI_clamp (by omega), ← e3]
      exact if_neg n
  rw [ezf, ← h4, h8]
  exact ns_eq h3 (fun i hi => ⟨((h5 i hi).1.E (z := zF M f) (by have := (h5 i hi).2; omega) hC).N, (h5 i hi).2.1⟩)
/-- a formula's own memory -/
theorem FmR.eq {M M' : Mem} {f k : Nat} (h : FmR M f k) (hf : ∀ a, f ≤ a → a ≤ f + 4 → rI M' a = rI M a) (hl : lenF M' f = lenF M f) (hr : ∀ a i, 68 ≤ a → a ≤ 75 → (a = 68 ∨ a = 70 → i = k) → (a = 69 ∨ 71 ≤ a → 40 * k ≤ i ∧ i < 40 * k + 40) → rI M' a i = rI M a i) (h76 : rJ M' 76 k = rJ M 76 k) : FmR M' f k := by
  obtain ⟨m, J, h1, h2, h3, h4, h5, h6, h7, h8, h9, h10, h11, h12, h13, h14, h15, h16⟩ := h
  have ec : csM M' f = csM M f := by
    unfold csM zF
    rw [hf f (by omega) (by omega), hf (f + 2) (by omega) (by omega), hf (f + 3) (by omega) (by omega), hf (f + 4) (by omega) (by omega)]
  have ez : zF M' f = zF M f := by unfold zF; rw [hf f (by omega) (by omega)]
  have er : ∀ a i, 71 ≤ a → a ≤ 75 → i < m → r71 M' a k i = r71 M a k i := fun a i ha hb hi => hr a _ (by omega) (by omega) (fun z => by omega) (fun _ => by omega)
  refine ⟨m, J, h1, by rw [hr 70 k (by omega) (by omega) (fun _ => rfl) (fun z => by omega)]; exact h2, h3, by rw [ez]; exact h4, fun i hi => ?_, WHK_cg (fun i hi => er 71 i (by omega) (by omega) hi) h6, by rw [htR_cg m (fun i hi => er 71 i (by omega) (by omega) hi)]; exact h7, by rw [h76, h8]; exact nmF_cg m (fun i hi => ⟨(er 71 i (by omega) (by omega) hi).symm, (er 72 i (by omega) (by omega) hi).symm, (er 73 i (by omega) (by omega) hi).symm⟩), by rw [ez, hl]; exact h9, by rw [hl]; exact h10, by rw [hl, hr 68 k (by omega) (by omega) (fun _ => rfl) (fun z => by omega)]; exact h11, fun p hp => ?_, by rw [ez, hl, ec]; exact h13, by rw [ez, ec]; exact h14, by rw [ez, ec, hf (f + 2) (by omega) (by omega)]; exact h15, by rw [ez, ec]; exact h16⟩
  · rw [er 71 i (by omega) (by omega) hi, er 72 i (by omega) (by omega) hi, er 73 i (by omega) (by omega) hi, er 74 i (by omega) (by omega) hi, er 75 i (by omega) (by omega) hi, ec, ez]
    exact h5 i hi
  · rw [hl] at hp
    rw [hf (f + 1) (by omega) (by omega), hr 69 _ (by omega) (by omega) (fun z => by omega) (fun _ => by omega)]
    exact h12 p hp
