/-! slips: the class's changes are the reference's -/
/-- a change of one step: the code of the class, the rows of the reference -/
theorem chg_row {X : Mem} {f k m : Nat} {J : Nat → Nat} (h5 : ∀ i, i < m → RowT (csM X f) (J i) (r71 X 71 k i) (r71 X 72 k i) (r71 X 73 k i) (r71 X 74 k i) (r71 X 75 k i) ∧ J (i + 1) = J i + wdT (r71 X 71 k i) ∧ J (i + 1) ≤ zF X f) {C : Cod} {x : Nat} (hC : ∀ y, y < zF X f → ¬ y = x → C.1 y = sAt (csM X f) y ∧ C.2 y = oAt (csM X f) y) {e : Nat} (he : e < m) (hx : J e ≤ x ∧ x < J e + wdT (r71 X 71 k e)) {oe ae be : Int32} (hr : RowE C (J e) oe ae be) (hwd : wdT oe = wdT (r71 X 71 k e)) {o a b : Nat → Int32} (hoe : o e = oe ∧ a e = ae ∧ b e = be) (hoo : ∀ i, i < m → ¬ i = e → o i = r71 X 71 k i ∧ a i = r71 X 72 k i ∧ b i = r71 X 73 k i) : ∀ i, i < m → RowE C (J i) (o i) (a i) (b i) ∧ J (i + 1) = J i + wdT (o i) ∧ J (i + 1) ≤ zF X f := by
  have mono : ∀ i j, i ≤ j → j ≤ m → J i ≤ J j := by
    intro i j hij
    induction j with
    | zero => intro _; rw [show i = 0 by omega]; exact Nat.le_refl _
    | succ j ih =>
      intro hj
      by_cases q : i = j + 1
      · rw [q]; exact Nat.le_refl _
      · have := ih (by omega) (by omega)
        have := (h5 j (by omega)).2.1
        omega
  intro i hi
  obtain ⟨a1, a2, a3⟩ := h5 i hi
  by_cases q : i = e
  · subst q
    rw [hoe.1, hoe.2.1, hoe.2.2, hwd]
    exact ⟨hr, a2, a3⟩
  · obtain ⟨b1, b2, b3⟩ := hoo i hi q
    rw [b1, b2, b3]
    refine ⟨?_, a2, a3⟩
    have ne : ∀ y, J i ≤ y → y < J i + wdT (r71 X 71 k i) → ¬ y = x := fun y y1 y2 z => by
      rcases Nat.lt_or_ge i e with l | l
      · have := mono (i + 1) e l (by omega)
        omega
      · have := mono (e + 1) i (by omega) (by omega)
        have := (h5 e he).2.1
        omega
    have w1 : 1 ≤ wdT (r71 X 71 k i) := by unfold wdT; split <;> omega
    have g : ∀ y, J i ≤ y → y < J i + wdT (r71 X 71 k i) → C.1 y = sAt (csM X f) y ∧ C.2 y = oAt (csM X f) y := fun y y1 y2 => hC y (by omega) (ne y y1 y2)
    unfold RowE
    rw [(g (J i) (Nat.le_refl _) (by omega)).1, (g (J i) (Nat.le_refl _) (by omega)).2]
    rcases a1 with ⟨h1, h2, h3, -⟩ | ⟨h1, h2, h3, -, -, h4⟩ | ⟨h1, h2, h3, -, h5, h6, -, h8, h9⟩ | ⟨h1, h2, -⟩ | ⟨h1, h2, -⟩ | ⟨h1, h2, -⟩
    · exact Or.inl ⟨h1, h2, h3⟩
    · exact Or.inr (Or.inl ⟨h1, h2, h3, h4⟩)
    · have w3 : wdT (r71 X 71 k i) = 3 := if_pos h1
      rw [(g (J i + 1) (by omega) (by omega)).1, (g (J i + 1) (by omega) (by omega)).2, (g (J i + 2) (by omega) (by omega)).1]
      exact Or.inr (Or.inr (Or.inl ⟨h1, h2, h3, h5, h6, h8, h9⟩))
    · exact Or.inr (Or.inr (Or.inr (Or.inl ⟨h1, h2⟩)))
    · exact Or.inr (Or.inr (Or.inr (Or.inr (Or.inl ⟨h1, h2⟩))))
    · exact Or.inr (Or.inr (Or.inr (Or.inr (Or.inr ⟨h1, h2⟩))))
theorem sgn_sg {o : Int32} (h : o = 4 ∨ o = 5 ∨ o = 6 ∨ o = 7) : sgn (sgR o) := by unfold sgn; rcases h with rfl | rfl | rfl | rfl <;> decide
theorem nsgn {s : Int32} (h : s = 1 ∨ s = 2 ∨ s = 3 ∨ s = 4 ∨ s = 5 ∨ s = 6) : ¬ sgn s := by unfold sgn; rcases h with rfl | rfl | rfl | rfl | rfl | rfl <;> decide
/-- where the step at x of the formula belongs: row e, first or second place -/
def Bel (X : Mem) (f k : Nat) (J : Nat → Nat) (x e : Nat) (s2 : Int32) : Prop := (x = J e ∧ s2 = 0 ∧ ¬ r71 X 71 k e = 3 ∧ ¬ r71 X 71 k e = 8) ∨ (x = J e + 1 ∧ s2 = 1 ∧ r71 X 71 k e = 2)
theorem nb_bs : ∀ c, c < 64 → ∀ n, n < 4 → ((nbF c n = -2 ↔ bsI c n = -1) ∧ (¬ nbF c n = -2 → nbF c n = bsI c n)) := by decide +kernel
theorem sgv_sg : ∀ n, n < 4 → sgv n = sgR (nI (4 + n)) ∧ ¬ sgv n = -2 := by decide
theorem sgR_inj {o : Int32} (h : o = 4 ∨ o = 5 ∨ o = 6 ∨ o = 7) : ∀ n, n < 4 → (sgv n = sgR o ↔ nI (4 + n) = o) := by rcases h with rfl | rfl | rfl | rfl <;> decide
/-- the options of a step, for both -/
theorem opt_iff {X : Mem} {f k : Nat} {o a b p q : Int32} (hr : RowT (csM X f) k o a b p q) {x : Nat} {s2 : Int32} (hbl : (x = k ∧ s2 = 0 ∧ ¬ o = 3 ∧ ¬ o = 8) ∨ (x = k + 1 ∧ s2 = 1 ∧ o = 2)) (h1 : sAt (csM X f) x = 1 → 0 ≤ (oAt (csM X f) x).toInt ∧ (oAt (csM X f) x).toInt ≤ 9999) {n : Nat} (hn : n < 4) {m : Int32} : (opF (sAt (csM X f) x) (oAt (csM X f) x) n = m ∧ ¬ m = -2) ↔ ∃ o' a' b', OpR o a b s2 n m o' a' b' := by
  have cel : ∀ (st : Int32) (v : Int32) (cc : Nat), (st = 2 ∨ st = 3) → cc < 64 → v = nI cc → ((opF st v n = m ∧ ¬ m = -2) ↔ (m = bsI v.toNatClampNeg n ∧ ¬ m = -1)) := fun st v cc hst hcc hv => by
    have e : opF st v n = nbF cc n := by
      unfold opF
      rw [hv, j64_c hcc]
      rcases hst with rfl | rfl
      · rw [if_neg (by decide), if_neg (by decide), if_pos (Or.inl rfl)]
      · rw [if_neg (by decide), if_neg (by decide), if_pos (Or.inr rfl)]
    obtain ⟨b1, b2⟩ := nb_bs cc hcc n hn
    rw [e, hv, j64_c hcc]
    constructor
    · rintro ⟨rfl, h⟩
      exact ⟨b2 h, fun z => h (b1.mpr ((b2 h).symm.trans z))⟩
    · rintro ⟨rfl, h⟩
      have h2 : ¬ nbF cc n = -2 := fun z => h (b1.mp z)
      exact ⟨b2 h2, by rw [← b2 h2]; exact h2⟩
  have c2 : ∀ (st : Int32) (cc : Nat), (o = 1 ∨ o = 2) → (st = 2 ∨ st = 3) → cc < 64 → (if s2 = 0 then a else b) = nI cc → oAt (csM X f) x = (if s2 = 0 then a else b) → sAt (csM X f) x = st → ((opF (sAt (csM X f) x) (oAt (csM X f) x) n = m ∧ ¬ m = -2) ↔ ∃ o' a' b', OpR o a b s2 n m o' a' b') := fun st cc ho hst hcc hv ev es => by
    rw [es, ev, cel st _ cc hst hcc hv]
    constructor
    · rintro ⟨h, h2⟩
      exact ⟨o, _, _, Or.inr (Or.inr ⟨ho, hn, h, h2, rfl, rfl, rfl⟩)⟩
    · rintro ⟨o', a', b', h | h | h⟩
      · exact absurd h.1 (by rcases ho with z | z <;> rw [z] <;> decide)
      · exact absurd h.1 (by rcases ho with z | z <;> rw [z] <;> decide)
      · exact ⟨h.2.2.1, h.2.2.2.1⟩
  rcases hr with ⟨r1, r2, r3, -⟩ | ⟨r1, r2, r3, -, -, cc, hcc, r4⟩ | ⟨r1, r2, r3, -, r5, r6, -, -, cc, ce, hcc, hce, r8, r9⟩ | ⟨r1, -⟩ | ⟨r1, r2, -⟩ | ⟨r1, -⟩
  · obtain ⟨rfl, rfl, -, -⟩ := hbl.resolve_right (fun z => absurd (r1.symm.trans z.2.2) (by decide))
    have hb1 := h1 r2
    rw [r3] at hb1
    rw [r2, r3]
    have ea := pos_nI hb1.1
    have n1 : ¬ a + 1 = -2 := fun z => by
      rw [ea, nI_1] at z
      have := congrArg Int32.toInt z
      rw [nIt (by omega)] at this
      have e1 : (-2 : Int32).toInt = -2 := rfl
      omega
    have n2 : ¬ a - 1 = -2 := fun z => by
      have e2 : a = -2 + 1 := by rw [← z]; exact (Int32.sub_add_cancel a 1).symm
      rw [e2] at hb1
      exact absurd hb1.1 (by decide)
    have e : opF 1 a n = if n = 0 then a + 1 else if n = 1 then a - 1 else -2 := by
      unfold opF
      rw [if_neg (by decide), if_pos rfl]
      rcases (show n = 0 ∨ n = 1 ∨ n = 2 ∨ n = 3 by omega) with rfl | rfl | rfl | rfl <;> rfl
    rw [e]
    constructor
    · rintro ⟨h, h2⟩
      refine ⟨0, m, 0, Or.inr (Or.inl ⟨r1, ?_, rfl, rfl, rfl⟩)⟩
      by_cases q0 : n = 0
      · rw [if_pos q0] at h; exact Or.inl ⟨q0, h.symm⟩
      · rw [if_neg q0] at h
        by_cases q1 : n = 1
        · rw [if_pos q1] at h; exact Or.inr ⟨q1, h.symm⟩
        · rw [if_neg q1] at h; exact absurd h.symm h2
    · rintro ⟨o', a', b', h | h | h⟩
      · exact absurd h.1 (by rw [r1]; decide)
      · rcases h.2.1 with ⟨q0, q⟩ | ⟨q1, q⟩
        · rw [if_pos q0, q]; exact ⟨rfl, n1⟩
        · rw [if_neg (by omega), if_pos q1, q]; exact ⟨rfl, n2⟩
      · exact absurd h.1 (by rw [r1]; decide)
  · obtain ⟨rfl, rfl, -, -⟩ := hbl.resolve_right (fun z => absurd (r1.symm.trans z.2.2) (by decide))
    exact c2 2 cc (Or.inl r1) (Or.inl rfl) hcc ((if_pos rfl).trans r4) (r3.trans (if_pos rfl).symm) r2
  · rcases hbl with ⟨rfl, rfl, -, -⟩ | ⟨rfl, rfl, -⟩
    · exact c2 3 cc (Or.inr r1) (Or.inr rfl) hcc ((if_pos rfl).trans r8) (r3.trans (if_pos rfl).symm) r2
    · exact c2 3 ce (Or.inr r1) (Or.inr rfl) hce ((if_neg (by decide)).trans r9) (r6.trans (if_neg (by decide)).symm) r5
  · rcases hbl with ⟨-, -, z, -⟩ | ⟨-, -, z⟩
    · exact absurd r1 z
    · exact absurd (r1.symm.trans z) (by decide)
  · obtain ⟨rfl, rfl, -, -⟩ := hbl.resolve_right (fun z => absurd r1 (by rw [z.2.2]; decide))
    rw [r2]
    have es : opF (sgR o) (oAt (csM X f) x) n = if sgv n = sgR o then -2 else sgv n := by
      unfold opF
      rw [if_pos (show (sgR o).toInt = 43 ∨ (sgR o).toInt = 45 ∨ (sgR o).toInt = 42 ∨ (sgR o).toInt = 47 from sgn_sg r1)]
    rw [es]
    obtain ⟨g1, g2⟩ := sgv_sg n hn
    have g3 := sgR_inj r1 n hn
    constructor
    · rintro ⟨h, h2⟩
      by_cases q : sgv n = sgR o
      · rw [if_pos q] at h; exact absurd h.symm h2
      · rw [if_neg q] at h
        exact ⟨_, _, _, Or.inl ⟨r1, hn, fun z => q (g3.mpr z), h.symm.trans g1, rfl, rfl, rfl⟩⟩
    · rintro ⟨o', a', b', h | h | h⟩
      · have q : ¬ sgv n = sgR o := fun z => h.2.2.1 (g3.mp z)
        rw [if_neg q, h.2.2.2.1, ← g1]
        exact ⟨rfl, g2⟩
      · exact absurd h.1 (nsg0 r1)
      · exact absurd h.1 (nsg12 r1)
  · rcases hbl with ⟨-, -, -, z⟩ | ⟨-, -, z⟩
    · exact absurd r1 z
    · exact absurd (r1.symm.trans z) (by decide)
theorem nR_off {M : Mem} (h36 : rI M 64 36 = -1) {i x k e : Nat} {o a b : Int32} (hi : i < 6) (hx : x < 64) (hk : k < 384) (he : e < 40) (n : ¬ 64 * i + x = k) : nR (cgM M (40 * k + e) o a b) i x = nR M i x := by
  rw [nR36 h36 hi hx]
  unfold nR
  rw [cg_36, cg_o (by omega), cg_o (by omega), cg_J]
  split
  · rfl
  · split
    · rfl
    · split
      · rfl
      · next q =>
        rw [if_pos (by
          rw [Int32.lt_iff_toInt_lt, nIt (by omega), nIt (by omega)] at q
          rw [Int32.le_iff_toInt_le, nIt (by omega), nIt (by omega)]
          omega)]
/-- one change: like the task's for the class where the reference finds it alike -/
theorem so_al {X M' R : Mem} {i c W f m e x p n : Nat} {J : Nat → Nat} {s2 mm o' a' b' : Int32} (hi1 : 1 ≤ i) (hi : i < 6) (hc : c < 64) (hK : K0 X M') (h36 : rI X 64 36 = -1) (hg : GA M') (hS : ShB X i) (hL : LsB X) (h2 : rI X 66 (64 * i + c) = 2) (n77 : rI X 77 c = 0) (hR : SmD X R 57) (hT : RTab X M' i c W R) (hf : 94 ≤ f) (h5 : ∀ i', i' < m → RowT (csM X f) (J i') (r71 X 71 (64 * i + c) i') (r71 X 72 (64 * i + c) i') (r71 X 73 (64 * i + c) i') (r71 X 74 (64 * i + c) i') (r71 X 75 (64 * i + c) i') ∧ J (i' + 1) = J i' + wdT (r71 X 71 (64 * i + c) i') ∧ J (i' + 1) ≤ zF X f) (hm : m ≤ 40) (hmn : rI X 70 (64 * i + c) = nI m) (j0 : J 0 = 0) (jm : J m = zF X f) (hz : zF X f ≤ 40) (hpl : ∀ y, y < zF X f → ∃ p, p < 40 ∧ pAt (csM X f) y = nI p) (hds : ∀ y y', y < zF X f → y' < zF X f → pAt (csM X f) y = pAt (csM X f) y' → y = y') (he : e < m) (hxz : x < zF X f) (hpx : pAt (csM X f) x = nI p) (hp : p < 40) (hbl : (x = J e ∧ s2 = 0 ∧ ¬ r71 X 71 (64 * i + c) e = 3 ∧ ¬ r71 X 71 (64 * i + c) e = 8) ∨ (x = J e + 1 ∧ s2 = 1 ∧ r71 X 71 (64 * i + c) e = 2)) (ho : OpR (r71 X 71 (64 * i + c) e) (r71 X 72 (64 * i + c) e) (r71 X 73 (64 * i + c) e) s2 n mm o' a' b') (h47 : ∀ w, w < W → rJ X 49 (w * 64 + c) = rJ M' 80 (64 * w + c) ∧ rI X 50 (w * 64 + c) = rI M' 81 (64 * w + c)) : soP (chM R (nI p) mm) f c W ↔ AlP (cgM M' (40 * (64 * i + c) + e) o' a' b') i c 1 W := by
  obtain ⟨k, hk⟩ : ∃ k, k = 64 * i + c := ⟨_, rfl⟩
  rw [← hk] at h2 h5 hmn hbl ho ⊢
  have hk3 : k < 384 := by omega
  have k36 : rI M' 64 36 = -1 := by rw [hK.2.1 36 (by omega) (by omega)]; exact h36
  obtain ⟨Mc, hMc⟩ : ∃ Mc, Mc = cgM M' (40 * k + e) o' a' b' := ⟨_, rfl⟩
  obtain ⟨Rc, hRc⟩ : ∃ Rc, Rc = chM R (nI p) mm := ⟨_, rfl⟩
  rw [← hMc, ← hRc]
  have r71e : ∀ a x, 71 ≤ a → a ≤ 75 → rI M' a (40 * k + x) = r71 X a k x := fun a x h1 h2 => hK.1 a _ (by omega) (by omega)
  have hr := (h5 e he).1
  -- the change is one of its kind
  have hco : ChO M' (40 * k + e) o' a' b' := by
    unfold ChO
    rw [r71e 71 e (by omega) (by omega)]
    rcases ho with ⟨z1, z2, z3, z4, rfl, rfl, rfl⟩ | ⟨z1, z2, rfl, rfl, rfl⟩ | ⟨z1, z2, z3, z4, rfl, rfl, rfl⟩
    · exact Or.inl ⟨z1, n47 z2⟩
    · exact Or.inr (Or.inl ⟨z1, rfl⟩)
    · have hwf := rowT_wf hr
      rcases z1 with z | z
      · have s0 : s2 = 0 := by
          rcases hbl with ⟨-, q, -⟩ | ⟨-, -, q⟩
          · exact q
          · exact absurd (z.symm.trans q) (by decide)
        obtain ⟨cc, hcc, ecc⟩ := hwf.1 z
        rw [if_pos s0] at z3
        rw [ecc, j64_c hcc] at z3
        obtain ⟨d, hd, ed⟩ := bsI_c hcc (fun w => z4 (z3.trans w))
        refine Or.inr (Or.inr (Or.inl ⟨z, z, d, hd, ?_⟩))
        rw [if_pos s0, z3, ed]
      · obtain ⟨ca, cb, hca, hcb, eca, ecb⟩ := hwf.2 z
        by_cases s0 : s2 = 0
        · rw [if_pos s0, eca, j64_c hca] at z3
          obtain ⟨d, hd, ed⟩ := bsI_c hca (fun w => z4 (z3.trans w))
          refine Or.inr (Or.inr (Or.inr ⟨z, z, d, cb, hd, hcb, ?_, ?_⟩))
          · rw [if_pos s0, z3, ed]
          · rw [if_pos s0]; exact ecb
        · rw [if_neg s0, ecb, j64_c hcb] at z3
          obtain ⟨d, hd, ed⟩ := bsI_c hcb (fun w => z4 (z3.trans w))
          refine Or.inr (Or.inr (Or.inr ⟨z, z, ca, d, hca, hd, ?_, ?_⟩))
          · rw [if_neg s0]; exact eca
          · rw [if_neg s0, z3, ed]
  have gc : GA Mc := by rw [hMc]; exact GA_ch hg k36 hk3 (by omega) hco
  have e66 : rI Mc 66 k = 2 := by rw [hMc, cg_o (by omega), hK.1 66 k (by omega) (by omega)]; exact h2
  obtain ⟨⟨f1, f2, f3, f4, f5⟩, fn⟩ := gc k hk3 e66
  have emn : mnR Mc k = m := by
    unfold mnR
    rw [hMc, cg_o (by omega), hK.1 70 k (by omega) (by omega), hmn]
    exact nI_clamp (by omega)
  rw [emn] at f1 f3 f4 f5
  -- memory of the class
  have sR : ∀ a, 94 ≤ a → rI Rc a = rI X a := fun a ha => funext fun y => by
    rw [hRc]; unfold chM
    rw [rI_sI, if_neg (by omega), rI_sI, if_neg (by omega), hR.1 a y (by omega) (by omega) (by omega) (by omega)]
  have c0 : rI Rc 63 0 = nI p := by rw [hRc]; unfold chM; rw [rI_sI, if_neg (by omega), rI_sI, if_pos ⟨rfl, rfl⟩]
  have c1 : rI Rc 63 1 = mm := by rw [hRc]; unfold chM; rw [rI_sI, if_pos ⟨rfl, rfl⟩]
  have ezf : zF Rc f = zF X f := by unfold zF; rw [sR f hf]
  have plx : ∀ y p', pAt (csM X f) y = nI p' → p' < 40 → plF Rc f y = p' := fun y p' h h' => by
    have h2 : rI X (f + 4) y = nI p' := h
    show (rI Rc (f + 4) y).toNatClampNeg = p'
    rw [sR (f + 4) (by omega), h2]
    exact nI_clamp (by omega)
  have raw_s : ∀ y p', pAt (csM X f) y = nI p' → p' < 40 → rI X (f + 2) p' = sAt (csM X f) y ∧ rI X (f + 3) p' = oAt (csM X f) y := fun y p' h h' => by
    have h2 : rI X (f + 4) y = nI p' := h
    constructor
    · show _ = rI X (f + 2) (rI X (f + 4) y).toNatClampNeg
      rw [h2, nI_clamp (by omega)]
    · show _ = rI X (f + 3) (rI X (f + 4) y).toNatClampNeg
      rw [h2, nI_clamp (by omega)]
  have hCo : ∀ y, y < zF X f → ¬ y = x → (cdF Rc 63 f).1 y = sAt (csM X f) y ∧ (cdF Rc 63 f).2 y = oAt (csM X f) y := fun y hy n => by
    obtain ⟨p', p1, p2⟩ := hpl y hy
    have np : ¬ nI p' = rI Rc 63 0 := fun z => n (hds y x hy hxz (p2.trans (z.trans (c0.trans hpx.symm))))
    obtain ⟨g1, g2⟩ := raw_s y p' p2 p1
    constructor
    · show chS Rc 63 f (plF Rc f y) = _
      rw [plx y p' p2 p1]
      unfold chS
      rw [if_neg np, sR (f + 2) (by omega)]
      exact g1
    · show chO Rc 63 f (plF Rc f y) = _
      rw [plx y p' p2 p1]
      unfold chO
      rw [if_neg np, sR (f + 3) (by omega)]
      exact g2
  have hCx : (cdF Rc 63 f).2 x = mm ∧ (sgn (sAt (csM X f) x) → (cdF Rc 63 f).1 x = mm) ∧ (¬ sgn (sAt (csM X f) x) → (cdF Rc 63 f).1 x = sAt (csM X f) x) := by
    obtain ⟨g1, g2⟩ := raw_s x p hpx hp
    refine ⟨?_, fun z => ?_, fun z => ?_⟩
    · show chO Rc 63 f (plF Rc f x) = _
      rw [plx x p hpx hp]
      unfold chO
      rw [if_pos c0.symm, c1]
    · show chS Rc 63 f (plF Rc f x) = _
      rw [plx x p hpx hp]
      unfold chS
      rw [if_pos c0.symm, sR (f + 2) (by omega), g1, if_pos (show (sAt (csM X f) x).toInt = 43 ∨ _ from z), c1]
    · show chS Rc 63 f (plF Rc f x) = _
      rw [plx x p hpx hp]
      unfold chS
      rw [if_pos c0.symm, sR (f + 2) (by omega), g1, if_neg (show ¬ ((sAt (csM X f) x).toInt = 43 ∨ _) from z)]
  have hCs : ∀ y, y < zF X f → (csF Rc 63 f).1 y = sAt (csM X f) y ∧ (csF Rc 63 f).2 y = (cdF Rc 63 f).2 y := fun y hy => by
    obtain ⟨p', p1, p2⟩ := hpl y hy
    refine ⟨?_, rfl⟩
    show rI Rc (f + 2) (plF Rc f y) = _
    rw [plx y p' p2 p1, sR (f + 2) (by omega)]
    exact (raw_s y p' p2 p1).1
  -- the changed row
  obtain ⟨w1, w2⟩ := (h5 e he).2
  have hxr : J e ≤ x ∧ x < J e + wdT (r71 X 71 k e) := by
    rcases hbl with ⟨q, -⟩ | ⟨q, -, q3⟩
    · have : 1 ≤ wdT (r71 X 71 k e) := by unfold wdT; split <;> omega
      omega
    · have : wdT (r71 X 71 k e) = 3 := if_pos q3
      omega
  have hrowE : RowE (cdF Rc 63 f) (J e) o' a' b' ∧ RowN (csF Rc 63 f) (J e) o' a' b' ∧ wdT o' = wdT (r71 X 71 k e) := by
    rcases ho with ⟨z1, z2, z3, z4, rfl, rfl, rfl⟩ | ⟨z1, z2, rfl, rfl, rfl⟩ | ⟨z1, z2, z3, z4, rfl, rfl, rfl⟩
    · obtain ⟨rfl, -, -, -⟩ := hbl.resolve_right (fun q => absurd z1 (by rw [q.2.2]; decide))
      have es : sAt (csM X f) (J e) = sgR (r71 X 71 k e) := by
        rcases hr with q | q | q | q | q | q
        · exact absurd q.1 (nsg0 z1)
        · exact absurd (Or.inl q.1) (nsg12 z1)
        · exact absurd (Or.inr q.1) (nsg12 z1)
        · exact absurd z1 (by rw [q.1]; decide)
        · exact q.2.1
        · exact absurd z1 (by rw [q.1]; decide)
      have n4 := n47 z2
      obtain ⟨y1, y2, y3, y4, y5⟩ := sg_no n4
      obtain ⟨x1, x2, x3, -, x5⟩ := sg_no z1
      refine ⟨Or.inr (Or.inr (Or.inr (Or.inr (Or.inl ⟨n4, (hCx.2.1 (by rw [es]; exact sgn_sg z1)).trans z4⟩)))), Or.inr (Or.inr ⟨y4, y5, ?_, ?_, ?_⟩), ?_⟩
      · rw [(hCs _ hxz).1, es]; exact x1
      · rw [(hCs _ hxz).1, es]; exact x2
      · rw [(hCs _ hxz).1, es]; exact x3
      · unfold wdT; rw [if_neg y5, if_neg x5]
    · obtain ⟨rfl, -, -, -⟩ := hbl.resolve_right (fun q => absurd (z1.symm.trans q.2.2) (by decide))
      have es : sAt (csM X f) (J e) = 1 := by
        rcases hr with q | q | q | q | q | q
        · exact q.2.1
        · exact absurd (z1.symm.trans q.1) (by decide)
        · exact absurd (z1.symm.trans q.1) (by decide)
        · exact absurd (z1.symm.trans q.1) (by decide)
        · exact absurd q.1 (by rw [z1]; decide)
        · exact absurd (z1.symm.trans q.1) (by decide)
      refine ⟨Or.inl ⟨rfl, (hCx.2.2 (by rw [es]; exact nsgn (by decide))).trans es, hCx.1⟩, Or.inr (Or.inr ⟨by decide, by decide, ?_, ?_, ?_⟩), by rw [z1]⟩
      · rw [(hCs _ hxz).1, es]; decide
      · rw [(hCs _ hxz).1, es]; decide
      · rw [(hCs _ hxz).1, es]; decide
    · have hwf := rowT_wf hr
      rcases z1 with z | z
      · obtain ⟨rfl, s0, -, -⟩ := hbl.resolve_right (fun q => absurd (z.symm.trans q.2.2) (by decide))
        have es : sAt (csM X f) (J e) = 2 := by
          rcases hr with q | q | q | q | q | q
          · exact absurd (z.symm.trans q.1) (by decide)
          · exact q.2.1
          · exact absurd (z.symm.trans q.1) (by decide)
          · exact absurd (z.symm.trans q.1) (by decide)
          · exact absurd q.1 (by rw [z]; decide)
          · exact absurd (z.symm.trans q.1) (by decide)
        have hcell : ∃ d, d < 64 ∧ mm = nI d := by
          obtain ⟨cc, hcc, ecc⟩ := hwf.1 z
          rw [if_pos s0, ecc, j64_c hcc] at z3
          obtain ⟨d, hd, ed⟩ := bsI_c hcc (fun w => z4 (z3.trans w))
          exact ⟨d, hd, z3.trans ed⟩
        rw [if_pos s0]
        refine ⟨Or.inr (Or.inl ⟨z, (hCx.2.2 (by rw [es]; exact nsgn (by decide))).trans es, hCx.1, hcell⟩), Or.inl ⟨z, ?_, ?_, hcell⟩, rfl⟩
        · rw [(hCs _ hxz).1, es]
        · rw [(hCs _ hxz).2]; exact hCx.1
      · have w3 : wdT (r71 X 71 k e) = 3 := if_pos z
        obtain ⟨ca, cb, hca, hcb, eca, ecb⟩ := hwf.2 z
        obtain ⟨t1, t2, t3, t4, t5⟩ : sAt (csM X f) (J e) = 3 ∧ oAt (csM X f) (J e) = r71 X 72 k e ∧ sAt (csM X f) (J e + 1) = 3 ∧ oAt (csM X f) (J e + 1) = r71 X 73 k e ∧ sAt (csM X f) (J e + 2) = 5 := by
          rcases hr with q | q | q | q | q | q
          · exact absurd (z.symm.trans q.1) (by decide)
          · exact absurd (z.symm.trans q.1) (by decide)
          · exact ⟨q.2.1, q.2.2.1, q.2.2.2.2.1, q.2.2.2.2.2.1, q.2.2.2.2.2.2.2.1⟩
          · exact absurd (z.symm.trans q.1) (by decide)
          · exact absurd q.1 (by rw [z]; decide)
          · exact absurd (z.symm.trans q.1) (by decide)
        rcases hbl with ⟨rfl, s0, -, -⟩ | ⟨rfl, s1, -⟩
        · rw [if_pos s0, eca, j64_c hca] at z3
          obtain ⟨d, hd, ed⟩ := bsI_c hca (fun w => z4 (z3.trans w))
          rw [if_pos s0, if_pos s0]
          obtain ⟨g1, g2⟩ := hCo (J e + 1) (by omega) (by omega)
          obtain ⟨g3, -⟩ := hCo (J e + 2) (by omega) (by omega)
          refine ⟨Or.inr (Or.inr (Or.inl ⟨z, (hCx.2.2 (by rw [t1]; exact nsgn (by decide))).trans t1, hCx.1, g1.trans t3, g2.trans t4, g3.trans t5, d, cb, hd, hcb, z3.trans ed, ecb⟩)), Or.inr (Or.inl ⟨z, ?_, ?_, ?_, ?_, ?_, d, cb, hd, hcb, z3.trans ed, ecb⟩), rfl⟩
          · rw [(hCs _ hxz).1]; exact t1
          · rw [(hCs _ hxz).2]; exact hCx.1
          · rw [(hCs _ (by omega)).1]; exact t3
          · rw [(hCs _ (by omega)).2]; exact g2.trans t4
          · rw [(hCs _ (by omega)).1]; exact t5
        · have s0 : ¬ s2 = 0 := by rw [s1]; decide
          rw [if_neg s0, ecb, j64_c hcb] at z3
          obtain ⟨d, hd, ed⟩ := bsI_c hcb (fun w => z4 (z3.trans w))
          rw [if_neg s0, if_neg s0]
          obtain ⟨g1, g2⟩ := hCo (J e) (by omega) (by omega)
          obtain ⟨g3, -⟩ := hCo (J e + 2) (by omega) (by omega)
          refine ⟨Or.inr (Or.inr (Or.inl ⟨z, g1.trans t1, g2.trans t2, (hCx.2.2 (by rw [t3]; exact nsgn (by decide))).trans t3, hCx.1, g3.trans t5, ca, d, hca, hd, eca, z3.trans ed⟩)), Or.inr (Or.inl ⟨z, ?_, ?_, ?_, ?_, ?_, ca, d, hca, hd, eca, z3.trans ed⟩), rfl⟩
          · rw [(hCs _ (by omega)).1]; exact t1
          · rw [(hCs _ (by omega)).2]; exact g2.trans t2
          · rw [(hCs _ hxz).1]; exact t3
          · rw [(hCs _ hxz).2]; exact hCx.1
          · rw [(hCs _ (by omega)).1]; exact t5
  obtain ⟨hE, hN, hwd⟩ := hrowE
  have hoe : rOp Mc k e = o' ∧ rAr Mc k e = a' ∧ rA2 Mc k e = b' := by rw [hMc]; exact ⟨if_pos rfl, if_pos rfl, if_pos rfl⟩
  have hoo : ∀ i', i' < m → ¬ i' = e → rOp Mc k i' = r71 X 71 k i' ∧ rAr Mc k i' = r71 X 72 k i' ∧ rA2 Mc k i' = r71 X 73 k i' := fun i' h n => by
    have ne : ¬ rI Mc 64 36 = nI (40 * k + i') := by rw [hMc, cg_36, nI_eq (by omega) (by omega)]; omega
    obtain ⟨d1, d2, d3⟩ := rOp_no ne
    rw [d1, d2, d3, hMc, cg_o (by omega), cg_o (by omega), cg_o (by omega)]
    exact ⟨r71e 71 i' (by omega) (by omega), r71e 72 i' (by omega) (by omega), r71e 73 i' (by omega) (by omega)⟩
  have rows := chg_row h5 hCo he hxr hE hwd hoe hoo
  have nrows : ∀ i', i' < m → RowN (csF Rc 63 f) (J i') (rOp Mc k i') (rAr Mc k i') (rA2 Mc k i') ∧ J (i' + 1) = J i' + wdT (rOp Mc k i') := fun i' h => by
    refine ⟨?_, (rows i' h).2.1⟩
    by_cases q : i' = e
    · subst q
      rw [hoe.1, hoe.2.1, hoe.2.2]
      exact hN
    · -- untouched rows keep their codes
      have base := (rows i' h).1
      have w0 := (rows i' h).2
      have hw1 : 1 ≤ wdT (rOp Mc k i') := by unfold wdT; split <;> omega
      have eqs : ∀ y, J i' ≤ y → y < J i' + wdT (rOp Mc k i') → (csF Rc 63 f).1 y = (cdF Rc 63 f).1 y ∧ (csF Rc 63 f).2 y = (cdF Rc 63 f).2 y := fun y y1 y2 => by
        have yz : y < zF X f := by omega
        have nx : ¬ y = x := fun z => by
          have mono : ∀ a b, a ≤ b → b ≤ m → J a ≤ J b := by
            intro a b hab
            induction b with
            | zero => intro _; rw [show a = 0 by omega]; exact Nat.le_refl _
            | succ b ih =>
              intro hb'
              by_cases qq : a = b + 1
              · rw [qq]; exact Nat.le_refl _
              · have := ih (by omega) (by omega)
                have := (h5 b (by omega)).2.1
                omega
          rcases Nat.lt_or_ge i' e with l | l
          · have := mono (i' + 1) e l (by omega)
            omega
          · have := mono (e + 1) i' (by omega) (by omega)
            omega
        rw [(hCs y yz).1, (hCs y yz).2, (hCo y yz nx).1]
        exact ⟨rfl, rfl⟩
      have bn := base.N
      unfold RowN at bn ⊢
      obtain ⟨e1, e2⟩ := eqs (J i') (Nat.le_refl _) (by omega)
      rw [e1, e2]
      rcases bn with q1 | q2 | q3
      · exact Or.inl q1
      · have w3 : wdT (rOp Mc k i') = 3 := if_pos q2.1
        obtain ⟨e3, e4⟩ := eqs (J i' + 1) (by omega) (by omega)
        obtain ⟨e5, -⟩ := eqs (J i' + 2) (by omega) (by omega)
        rw [e3, e4, e5]
        exact Or.inr (Or.inl q2)
      · exact Or.inr (Or.inr q3)
  have hns : (nsF (csF Rc 63 f) (zF Rc f)).1 = nmM Mc k := by
    rw [ezf, ← jm, ns_eq j0 nrows]
    unfold nmM
    rw [show (rI Mc 70 k).toNatClampNeg = m from emn]
  have hfg : ∀ w, fgF Rc 57 w = fgF R 57 w := fun w => by
    unfold fgF
    rw [hRc]
    rfl
  have hB7 : rJ Rc 57 7 = rJ R 57 7 := by rw [hRc]; rfl
  -- the reference's view of the change
  have n78 : ¬ tdP X c c 1 := fun q => q.elim (fun y => y n77) (fun y => y.2.1 rfl)
  have gv0 : ¬ hb (gvR X (9 + 6 * i) c) (nI c) = true := fun z => ((gvR_iff hS hL hc hc).mp z).elim n78 (fun y => y (by rw [← hk]; exact h2))
  have tdc : ∀ y, tdP Mc y c 1 ↔ tdP X y c 1 := fun y => by
    rw [← hK.td]
    show (¬ rI Mc 77 y = 0 ∨ (¬ (1 : Int32) = 0 ∧ ¬ y = c ∧ 0 < (rI Mc 78 y).toInt)) ↔ _
    rw [hMc, cg_o (by omega), cg_o (by omega)]
  have ndc : ndR Mc i c 1 c = nmM Mc k := by
    unfold ndR
    rw [if_neg (fun z => n78 ((tdc c).mp z)), nR_eq hi hc (by rw [← hk, emn]; exact hm) (by rw [← hk]; exact fn) (by rw [← hk]; exact e66) (by rw [hMc, cg_o (by omega), hK.1 77 c (by omega) (by omega)]; exact n77), ← hk]
  have ndo : ∀ y, y < 64 → ¬ y = c → ndR Mc i c 1 y = ndR X i c 1 y := fun y hy n => by
    rw [← hK.nd]
    unfold ndR
    have t1 : tdP Mc y c 1 ↔ tdP M' y c 1 := (tdc y).trans hK.td.symm
    by_cases t : tdP M' y c 1
    · rw [if_pos t, if_pos (t1.mpr t)]
    · rw [if_neg t, if_neg (fun z => t (t1.mp z)), hMc, nR_off k36 hi hy hk3 (by omega) (by omega)]
  have stc : ∀ w V, stR Mc i c 1 w V c = rvE Mc k V := fun w V => by
    rw [stR_4 (by rw [hMc, cg_o (by omega), hK.1 77 c (by omega) (by omega)]; exact n77) (fun z => n78 ((tdc c).mp z)) (by rw [← hk]; exact e66), ← hk]
  have sto : ∀ w V y, y < 64 → ¬ y = c → stR Mc i c 1 w V y = stR M' i c 1 w V y := fun w V y hy n => by
    have t1 : tdP Mc y c 1 ↔ tdP M' y c 1 := (tdc y).trans hK.td.symm
    have e77 : rI Mc 77 y = rI M' 77 y := by rw [hMc, cg_o (by omega)]
    have e66' : rI Mc 66 (64 * i + y) = rI M' 66 (64 * i + y) := by rw [hMc, cg_o (by omega)]
    by_cases z : rI M' 77 y = 0
    · by_cases tt : tdP M' y c 1
      · rw [stR_2 z tt, stR_2 (e77.trans z) (t1.mpr tt), hMc, cg_J, cg_o (by omega)]
      · have tt' : ¬ tdP Mc y c 1 := fun q => tt (t1.mp q)
        by_cases d1 : rI M' 66 (64 * i + y) = 1
        · rw [stR_3 z tt d1, stR_3 (e77.trans z) tt' (e66'.trans d1), hMc, cg_o (by omega)]
        · by_cases d2 : rI M' 66 (64 * i + y) = 2
          · rw [stR_4 z tt d2, stR_4 (e77.trans z) tt' (e66'.trans d2)]
            have ops : OpS M' Mc (64 * i + y) := by
              refine ⟨by rw [hMc, cg_o (by omega)], fun j hj => ?_⟩
              have ne : ¬ rI Mc 64 36 = nI (40 * (64 * i + y) + j) := by rw [hMc, cg_36, nI_eq (by omega) (by omega)]; omega
              obtain ⟨g1, g2, g3⟩ := rOp_no ne
              obtain ⟨h1, h2, h3⟩ := ro36 k36 (show 64 * i + y < 384 by omega) hj
              rw [g1, g2, g3, h1, h2, h3, hMc, cg_o (by omega), cg_o (by omega), cg_o (by omega)]
              exact ⟨rfl, rfl, rfl⟩
            rw [ops.rv (hg _ (by omega) d2).1]
          · rw [stR_5 z tt d1 d2, stR_5 (e77.trans z) tt' (by rw [e66']; exact d1) (by rw [e66']; exact d2)]
    · rw [stR_1 z, stR_1 (by rw [e77]; exact z), hMc, cg_o (by omega)]
  obtain ⟨T1, T2⟩ := hT
  have nsc := ns_c hc (ndS_c hc gv0)
  have ans : ∀ w, w < W → Ans (ndR Mc i c 1) (stR Mc i c 1 w) c (soV Rc f w) := fun w hw => by
    obtain ⟨b1, b2, -⟩ := T2 w hw
    refine sub_ans (stR_cg hi (gc.at hi)) hc T1 (fun y hy n => (ndS_eq hi hS hL h36 hc y hy n).trans (ndo y hy n).symm) (ndS_c hc gv0) (V := fgF R 57 w) (fun z hz q => ?_) (fun q => ?_) (fun q => ?_)
    · have nz : ¬ z = c := fun y => nsc ((T1 c hc).mp (y ▸ q))
      rw [sto w _ z hz nz]
      exact b2 z hz q
    · rw [soV_1 (by rw [hns, hB7, ← ndc]; exact q), stc]
      show evV (fgF Rc 57 w) (cdF Rc 63 f) (zF Rc f) = rvE Mc k (fgF R 57 w)
      rw [hfg, ezf, ← jm, ev_rv b1 j0 f4 f5 (fun i' h => ⟨(rows i' h).1, (rows i' h).2.1, by have := (rows i' h).2.2; omega⟩)]
      unfold rvE
      rw [emn]
    · exact soV_0 (by rw [hns, hB7, ← ndc]; exact q)
  have tv : ∀ w, w < W → rJ Rc (47 + 2) (w * 64 + c) = rJ Mc 80 (64 * w + c) ∧ rI Rc (47 + 3) (w * 64 + c) = rI Mc 81 (64 * w + c) := fun w hw => by
    obtain ⟨k1, k2⟩ := h47 w hw
    constructor
    · rw [hMc, cg_J, ← k1, hRc]
      show rJ R 49 (w * 64 + c) = _
      exact hR.2.1 49 _ (by decide) (by decide) (by decide) (by decide)
    · rw [hMc, cg_o (by omega), ← k2, hRc]
      unfold chM
      rw [rI_sI, if_neg (by omega), rI_sI, if_neg (by omega)]
      exact hR.1 50 _ (by decide) (by decide) (by decide) (by decide)
  constructor
  · intro h w hw
    obtain ⟨q1, q2⟩ := h w hw
    obtain ⟨k1, k2⟩ := tv w hw
    have a := ans w hw
    rw [show soV Rc f w = (rJ Mc 80 (64 * w + c), rI Mc 81 (64 * w + c)) from Prod.ext (q2.trans k1) (q1.trans k2)] at a
    exact a
  · intro h w hw
    obtain ⟨k1, k2⟩ := tv w hw
    have e := Ans_uniq (stR_cg hi (gc.at hi)) hc (ans w hw) (h w hw)
    rw [k1, k2, e]
    exact ⟨rfl, rfl⟩
