/-! the subject's answer -/
theorem ns_c {ndS : Nat → Int64} {c : Nat} (hc : c < 64) (hs : hb (ndS c) (nI c) = true) : ¬ StP ndS c := fun h => St_nc h hc (Ch.one hc hs)
theorem sub_ans {nd ndS : Nat → Int64} {st : FS → Nat → Int64 × Int32} (cg : Cgr nd st) {c : Nat} (hc : c < 64) {B : Int64} (hB : ∀ z, z < 64 → (hb B (nI z) = true ↔ StP ndS z)) (hS : ∀ y, y < 64 → ¬ y = c → ndS y = nd y) (hs : hb (ndS c) (nI c) = true) {V : FS} (hV : ∀ z, z < 64 → hb B (nI z) = true → (V.1 z, V.2 z) = st V z) {p : Int64 × Int32} (h1 : nd c &&& (B ^^^ (-1)) = 0 → p = st V c) (h0 : ¬ nd c &&& (B ^^^ (-1)) = 0 → p = (0, 1)) : Ans nd st c p := by
  have nc := ns_c hc hs
  have nBc : ¬ hb B (nI c) = true := fun z => nc ((hB c hc).mp z)
  have key := sub_St hc hS hs
  by_cases k : nd c &&& (B ^^^ (-1)) = 0
  · have k2 := sub_iff.mp k
    have sP : StP nd c := key.mpr (fun z hz b => (hB z hz).mp (k2 z hz b))
    have cc : ¬ hb (nd c) (nI c) = true := fun z => nBc (k2 c hc z)
    have off : ∀ z, z < 64 → ¬ z = c → (if z = c then p.1 else V.1 z) = V.1 z ∧ (if z = c then p.2 else V.2 z) = V.2 z := fun z _ n => ⟨if_neg n, if_neg n⟩
    refine Or.inl ⟨sP, fun z => z = c ∨ hb B (nI z) = true, (fun z => if z = c then p.1 else V.1 z, fun z => if z = c then p.2 else V.2 z), Or.inl rfl, fun x hx s => ?_, ?_⟩
    · by_cases e : x = c
      · subst e
        refine ⟨?_, fun z hz b => Or.inr (k2 z hz b)⟩
        show ((if x = x then p.1 else V.1 x), (if x = x then p.2 else V.2 x)) = _
        rw [if_pos rfl, if_pos rfl]
        refine (show (p.1, p.2) = st V x from h1 k).trans ?_
        exact cg _ _ x hx (fun z hz b => by
          have n : ¬ z = x := fun w => cc (w ▸ b)
          exact ⟨(off z hz n).1.symm, (off z hz n).2.symm⟩)
      · have sB := s.resolve_left e
        have sS := (hB x hx).mp sB
        have out : ∀ z, z < 64 → hb (nd x) (nI z) = true → hb B (nI z) = true := fun z hz b => (hB z hz).mpr (StP_out sS z hz (by rw [hS x hx e]; exact b))
        refine ⟨?_, fun z hz b => Or.inr (out z hz b)⟩
        show ((if x = c then p.1 else V.1 x), (if x = c then p.2 else V.2 x)) = _
        rw [if_neg e, if_neg e, hV x hx sB]
        exact cg _ _ x hx (fun z hz b => by
          have n : ¬ z = c := fun w => nBc (w ▸ out z hz b)
          exact ⟨(off z hz n).1.symm, (off z hz n).2.symm⟩)
    · show ((if c = c then p.1 else V.1 c), (if c = c then p.2 else V.2 c)) = p
      rw [if_pos rfl, if_pos rfl]
  · refine Or.inr ⟨fun z => k (sub_iff.mpr (fun y hy b => (hB y hy).mpr (key.mp z y hy b))), h0 k⟩
theorem giv_ans {nd : Nat → Int64} {st : FS → Nat → Int64 × Int32} {c : Nat} (hc : c < 64) (h0 : nd c = 0) {V : FS} (hV : (V.1 c, V.2 c) = st V c) : Ans nd st c (V.1 c, V.2 c) := by
  have nz : ∀ z, z < 64 → ¬ hb (nd c) (nI z) = true := fun z hz b => by
    rw [h0, hb_0 hz] at b
    exact absurd b (by decide)
  exact Or.inl ⟨StP_in hc (fun z hz b => absurd b (nz z hz)), fun z => z = c, V, rfl, fun x _ s => by subst s; exact ⟨hV, fun z hz b => absurd b (nz z hz)⟩, rfl⟩
theorem ndS_eq {X : Mem} {i : Nat} (hi : i < 6) (hS : ShB X i) (hL : LsB X) (h36 : rI X 64 36 = -1) {c : Nat} (hc : c < 64) : ∀ y, y < 64 → ¬ y = c → ndG (gvR X (9 + 6 * i) c) (rJ X (9 + 6 * i + 5)) (nI c) y = ndR X i c 1 y := fun y hy n => by
  rw [nd_right hi hS hL h36 hc hy]
  unfold ndG
  rw [if_neg (show ¬ nI y = nI c from fun z => n ((nI_eq (by omega) (by omega)).mp z))]
theorem ndS_c {X : Mem} {q c : Nat} (hc : c < 64) (n : ¬ hb (gvR X q c) (nI c) = true) : hb (ndG (gvR X q c) (rJ X (q + 5)) (nI c) c) (nI c) = true := by
  unfold ndG
  rw [if_neg n, if_pos rfl, hb_bit hc hc]
  exact decide_eq_true rfl
/-- the right figure is the reference's right answer -/
theorem right_ans {X M' R : Mem} {i c W : Nat} (hi : i < 6) (hc : c < 64) (hS : ShB X i) (hL : LsB X) (h36 : rI X 64 36 = -1) (hK : K0 X M') (cg : ∀ w, Cgr (ndR M' i c 1) (stR M' i c 1 w)) (h : RTab X M' i c W R) : ∀ w, w < W → Ans (ndR M' i c 1) (stR M' i c 1 w) c ((fgF R 57 w).1 c, (fgF R 57 w).2 c) := by
  intro w hw
  have en : ndR M' i c 1 = ndR X i c 1 := hK.nd
  obtain ⟨h1, h2⟩ := h
  obtain ⟨-, b2, b3⟩ := h2 w hw
  by_cases g : hb (gvR X (9 + 6 * i) c) (nI c) = true
  · have sc : StP (ndG (gvR X (9 + 6 * i) c) (rJ X (9 + 6 * i + 5)) (nI c)) c := StP_in hc (fun z hz b => by
      unfold ndG at b
      rw [if_pos g, hb_0 hz] at b
      exact absurd b (by decide))
    exact giv_ans hc (by rw [en, nd_right hi hS hL h36 hc hc, if_pos g]) (b2 c hc ((h1 c hc).mpr sc))
  · obtain ⟨k1, k0⟩ := b3 g
    have e : ndR M' i c 1 c = rJ X (9 + 6 * i + 5) c := by rw [en, nd_right hi hS hL h36 hc hc, if_neg g]
    exact sub_ans (cg w) hc h1 (fun y hy n => by rw [en]; exact ndS_eq hi hS hL h36 hc y hy n) (ndS_c hc g) b2 (by rw [e]; exact k1) (by rw [e]; exact k0)
/-- the class's task figures are the reference's -/
theorem task_eq {M X M' : Mem} {W : Nat} (hS : ShB M 0) (hL : LsB M) (h36 : rI M 64 36 = -1) (hu : rI M 48 0 = -1) (hW : W ≤ 6) (hX : ∀ w x, x < 64 → (fgF X 47 w).1 x = (fgF (rkO M 47 9 W) 47 w).1 x ∧ (fgF X 47 w).2 x = (fgF (rkO M 47 9 W) 47 w).2 x) (hK : K0 M M') (hT : TaskOK M' W) (cg : ∀ x w, Cgr (ndR M' 0 x 0) (stR M' 0 x 0 w)) : ∀ w, w < W → ∀ x, x < 64 → 0 < (rI M 78 x).toInt → BnV (fgF X 47 w) ∧ (fgF X 47 w).1 x = rJ M' 80 (64 * w + x) ∧ (fgF X 47 w).2 x = rI M' 81 (64 * w + x) := by
  intro w hw x hx hp
  obtain ⟨-, -, a⟩ := own_ans (i := 0) (g := 47) (by decide) (Or.inl rfl) hS hL h36 hu hW x
  obtain ⟨b, d⟩ := a w hw
  have k := hT x hx (by rw [hK.1 78 x (by omega) (by omega)]; exact hp) w hw
  have d2 := d x hx
  rw [← hK.nd, ← hK.st (Or.inl rfl)] at d2
  have e := Ans_uniq (cg x w) hx d2 k
  exact ⟨fun y hy => by rw [(hX w y hy).1, (hX w y hy).2]; exact b y hy, (hX w x hx).1.trans (congrArg Prod.fst e), (hX w x hx).2.trans (congrArg Prod.snd e)⟩
theorem ShB.sm {M X : Mem} {i : Nat} (h : ShB M i) (hi : i < 6) (e1 : ∀ a j, a < 45 → rI X a j = rI M a j) (e2 : ∀ a j, 64 ≤ a → rI X a j = rI M a j) (e3 : ∀ a j, a < 45 → rJ X a j = rJ M a j) (e4 : ∀ a j, 64 ≤ a → rJ X a j = rJ M a j) (e5 : X.2.2 = M.2.2) : ShB X i := by
  intro j hj
  obtain ⟨a1, a2, a3, a4, a5, a6, a7, a8⟩ := h j hj
  rw [e1 _ j (by omega), e2 66 _ (by omega), e3 (9 + 6 * i) 5 (by omega), e1 (9 + 6 * i + 3) j (by omega), e2 67 _ (by omega), e3 (9 + 6 * i + 5) j (by omega), e4 76 _ (by omega)]
  have eA : rA X (9 + 6 * i + 4) j = rA M (9 + 6 * i + 4) j := by unfold rA; rw [e5]
  rw [eA]
  refine ⟨a1, a2, a3, a4, a5, fun z => ?_, a7, a8⟩
  obtain ⟨f, f1, f2, f3⟩ := a6 z
  exact ⟨f, f1, f2, f3.eq (fun a ha _ => funext fun j => e2 a j (by omega)) (by unfold lenF; rw [e5]) (fun a x ha _ _ _ => e2 a x (by omega)) (e4 76 _ (by omega))⟩
theorem LsB.sm {M X : Mem} (h : LsB M) (e1 : ∀ a j, a < 45 → rI X a j = rI M a j) (e2 : ∀ a j, 64 ≤ a → rI X a j = rI M a j) (e3 : ∀ a j, a < 45 → rJ X a j = rJ M a j) : LsB X := by
  obtain ⟨a1, a2, a3, a4, a5⟩ := h
  unfold LsB
  rw [e3 5 2 (by omega), e3 5 3 (by omega)]
  exact ⟨fun c hc => by rw [e2 77 c (by omega)]; exact a1 c hc, fun c hc => by rw [e2 78 c (by omega)]; exact a2 c hc, fun w c hw hc => by rw [e1 6 _ (by omega), e2 79 _ (by omega)]; exact a3 w c hw hc, fun c hc => by rw [e1 7 c (by omega), e2 78 c (by omega)]; exact a4 c hc, a5⟩
