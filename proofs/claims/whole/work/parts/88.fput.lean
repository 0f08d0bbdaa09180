/-! a formula that both readers have read -/
theorem by_eq : ∀ b : Int8, (b.toInt32 &&& 255).toInt < 128 → b.toInt32 = b.toInt32 &&& 255 := by
  rintro ⟨⟨⟨k⟩⟩⟩
  revert k
  decide +kernel
theorem by_eq2 {u t : Int32} (h8 : u.toInt8.toInt32 = u) (e : u &&& 255 = t) (h : t.toInt < 128) : u = t := by
  have k := by_eq u.toInt8
  rw [h8, e] at k
  exact k h
theorem cs_zF {M : Mem} {f : Nat} {s : CS} (h : s.2.2.1 ≤ 40) (ez : rI M f 4 = nI s.2.2.1) : zF M f = s.2.2.1 := by unfold zF; rw [ez]; exact nI_clamp (by omega)
theorem cs_M {M : Mem} {f : Nat} {s : CS} (h : s.2.2.1 ≤ 40) (ez : rI M f 4 = nI s.2.2.1) (e2 : rI M (f + 2) = s.2.2.2.1) (e3 : rI M (f + 3) = s.2.2.2.2.1) (e4 : rI M (f + 4) = s.2.2.2.2.2) : csM M f = (0, 0, s.2.2) := by
  unfold csM
  rw [cs_zF h ez, e2, e3, e4]
theorem fm_put {M' : Mem} {f k n m : Nat} {t : Nat → Int32} {s : CS} {σ : RS} (h4 : n ≤ 40) (w : CW t n s) (rl : Rel n 6 s σ) (hm : σ.2.2.2.1 = m) (m4 : m ≤ 40) (ht : htR (rwT σ 82) m = 1) (ez : rI M' f 4 = nI s.2.2.1) (e1 : ∀ p, p < n → rI M' (f + 1) p = t p) (e2 : rI M' (f + 2) = s.2.2.2.1) (e3 : rI M' (f + 3) = s.2.2.2.2.1) (e4 : rI M' (f + 4) = s.2.2.2.2.2) (el : lenF M' f = n) (r70 : rI M' 70 k = nI m) (r68 : rI M' 68 k = nI n) (r69 : ∀ p, p < n → rI M' 69 (40 * k + p) = t p) (hr : ∀ a i, 71 ≤ a → a ≤ 75 → i < m → rI M' a (40 * k + i) = rwT σ (a + 11) i) (r76 : rJ M' 76 k = nmF (rwT σ 82) (rwT σ 83) (rwT σ 84) m) : FmR M' f k := by
  obtain ⟨w1, w2, w3, w4, w5, w6⟩ := w
  obtain ⟨q1, q2, q3, q4, q5, q6, q7, q8, ⟨J, j0, jm, hJ⟩, q10⟩ := rl
  rw [hm] at jm hJ q10
  have z4 : s.2.2.1 ≤ 40 := by omega
  have ec := cs_M z4 ez e2 e3 e4
  have ezf := cs_zF z4 ez
  have er : ∀ a i, 71 ≤ a → a ≤ 75 → i < m → r71 M' a k i = rwT σ (a + 11) i := hr
  have eA : ∀ x, sAt (csM M' f) x = sAt s x ∧ oAt (csM M' f) x = oAt s x ∧ pAt (csM M' f) x = pAt s x := fun x => by rw [ec]; exact ⟨rfl, rfl, rfl⟩
  refine ⟨m, J, m4, r70, j0, by rw [ezf]; exact jm, fun i hi => ?_, WHK_cg (fun i hi => er 71 i (by omega) (by omega) hi) q10, by rw [htR_cg m (fun i hi => er 71 i (by omega) (by omega) hi)]; exact ht, by rw [r76]; exact nmF_cg m (fun i hi => ⟨(er 71 i (by omega) (by omega) hi).symm, (er 72 i (by omega) (by omega) hi).symm, (er 73 i (by omega) (by omega) hi).symm⟩), by rw [ezf, el]; omega, by rw [el]; exact h4, by rw [el]; exact r68, fun p hp => ?_, fun x hx => ?_, fun x y hx hy e => ?_, fun p hp => ?_, fun x hx h1 => ?_⟩
  · rw [er 71 i (by omega) (by omega) hi, er 72 i (by omega) (by omega) hi, er 73 i (by omega) (by omega) hi, er 74 i (by omega) (by omega) hi, er 75 i (by omega) (by omega) hi, ezf, ec]
    exact hJ i hi
  · rw [el] at hp
    rw [e1 p hp, r69 p hp]
  · rw [ezf] at hx
    obtain ⟨p, hp, e⟩ := w4.1 x hx
    exact ⟨p, by rw [el]; omega, (eA x).2.2.trans e⟩
  · rw [ezf] at hx hy
    rw [(eA x).2.2, (eA y).2.2] at e
    exact w4.2.1 x y hx hy e
  · rw [e2] at hp
    obtain ⟨x, hx, e⟩ := w4.2.2 p hp
    exact ⟨x, by rw [ezf]; exact hx, (eA x).2.2.trans e⟩
  · rw [ezf] at hx
    rw [(eA x).1] at h1
    rw [(eA x).2.1]
    exact (w5 x hx).2.2.2 h1
/-- the class's formula is well made -/
theorem fm_frw {M : Mem} {N f n : Nat} {t : Nat → Int32} {s : CS} (h4 : n ≤ 40) (w : CW t n s) (hf : FoR f N) (ho : FoF M.2.2 f n) (ez : rI M f 4 = nI s.2.2.1) (e2 : rI M (f + 2) = s.2.2.2.1) (e3 : rI M (f + 3) = s.2.2.2.2.1) (e4 : rI M (f + 4) = s.2.2.2.2.2) : FRW M N f ∧ FRP M f := by
  obtain ⟨w1, w2, w3, w4, w5, w6⟩ := w
  have z4 : s.2.2.1 ≤ 40 := by omega
  have ezf := cs_zF z4 ez
  have pl : ∀ i, plF M f i = (pAt s i).toNatClampNeg := fun i => by unfold plF; rw [e4]; rfl
  have sp : ∀ i, rI M (f + 2) (plF M f i) = sAt s i ∧ rI M (f + 3) (plF M f i) = oAt s i := fun i => by rw [pl, e2, e3]; exact ⟨rfl, rfl⟩
  refine ⟨⟨hf, n, ho, ⟨by rw [ezf]; exact ez, by rw [ezf]; omega, fun i hi => ?_⟩, fun i hi => ?_⟩, fun p hp h => ?_⟩
  · rw [ezf] at hi
    obtain ⟨p, hp, e⟩ := w4.1 i hi
    have e' : plF M f i = p := by rw [pl, e]; exact nI_clamp (by omega)
    rw [e', e4]
    exact ⟨by omega, e⟩
  · rw [ezf] at hi
    obtain ⟨h1, h2, h3, -⟩ := w5 i hi
    rw [(sp i).1, (sp i).2]
    refine ⟨h1, h2, fun h => ?_⟩
    obtain ⟨m, a, b, c⟩ := h3 h
    exact ⟨m, a, by rw [(sp (m + 1)).1]; exact b, by rw [(sp m).1]; exact c⟩
  · rw [e2, e3] at *
    obtain ⟨x, hx, e⟩ := w4.2.2 p (fun z => by rw [z] at h; rcases h with h | h <;> exact absurd h (by decide))
    have hs : sAt s x = s.2.2.2.1 p ∧ oAt s x = s.2.2.2.2.1 p := by
      unfold sAt oAt
      have e' : s.2.2.2.2.2 x = nI p := e
      rw [e', nI_clamp (by omega)]
      exact ⟨rfl, rfl⟩
    obtain ⟨-, h2, -⟩ := w5 x hx
    rw [hs.1, hs.2] at h2
    exact h2 h
/-- the memory at the parser's end -/
theorem fmE_r {M : Mem} {f n t : Nat} : rI (fmE M f n t) f 4 = nI (pzT M f n t).2.2.1 ∧ (∀ p, rI (fmE M f n t) (f + 1) p = rI (fmM M f n t) (f + 1) p) ∧ rI (fmE M f n t) (f + 2) = (pzT M f n t).2.2.2.1 ∧ rI (fmE M f n t) (f + 3) = (pzT M f n t).2.2.2.2.1 ∧ rI (fmE M f n t) (f + 4) = (pzT M f n t).2.2.2.2.2 := by
  refine ⟨wq_z, fun p => wq_t, ?_, ?_, ?_⟩ <;> funext j <;> simp [fmE, wq, rI]
theorem fmE_o {M : Mem} {f n t a j : Nat} (hf : 94 ≤ f) (hnt : n ≤ t) (h : ¬ (f ≤ a ∧ a ≤ f + 5)) : rI (fmE M f n t) a j = if a = 3 ∧ j = 1 then 0 else rI M a j := by
  have e : rI (fmE M f n t) a j = rI (fmM M f n t) a j := by
    show (if a = f + 5 then _ else if a = f then _ else if a = f + 2 then _ else if a = f + 3 then _ else if a = f + 4 then _ else (fmM M f n t).1 a j) = _
    rw [if_neg (by omega), if_neg (by omega), if_neg (by omega), if_neg (by omega), if_neg (by omega)]
    rfl
  rw [e, fmM_I hf hnt]
  by_cases c : a = 3 ∧ j = 1
  · rw [if_pos c, if_pos c]
  · rw [if_neg c, if_neg c, if_neg (by omega), if_neg (by omega)]
theorem fmE_J {M : Mem} {f n t a j : Nat} (h : ¬ (f ≤ a ∧ a ≤ f + 5)) : rJ (fmE M f n t) a j = rJ M a j := by
  have e : rJ (fmE M f n t) a j = rJ (fmM M f n t) a j := rfl
  rw [e, fmM_J, if_neg h]
theorem fmE_A {M : Mem} {f n t a j : Nat} (h : ¬ (f ≤ a ∧ a ≤ f + 5)) : rA (fmE M f n t) a j = rA M a j := by
  have e : rA (fmE M f n t) a j = rA (fmM M f n t) a j := rfl
  rw [e, fmM_A, if_neg (by omega), if_neg (by omega), if_neg (by omega)]
theorem fmE_L {M : Mem} {f n t a : Nat} (h : ¬ (f ≤ a ∧ a ≤ f + 5)) : (fmE M f n t).2.2.2 a = M.2.2.2 a := by
  have e : (fmE M f n t).2.2.2 a = (fmM M f n t).2.2.2 a := rfl
  rw [e, fmM_L, if_neg (by omega), if_neg (by omega), if_neg (by omega)]
theorem fmE_fof {M : Mem} {f n t : Nat} (hn : n ≤ 40) : FoF (fmE M f n t).2.2 f n := fm_fof hn
theorem fmE_str {M : Mem} {f n t : Nat} (hf : 94 ≤ f) (hs : Str M.2.2.1) : Str (fmE M f n t).2.2.1 := fmM_str hf hs
theorem fm_t {M : Mem} {f n t : Nat} (hf : 94 ≤ f) (hnt : n ≤ t) {p : Nat} (hp : p < n) : rI (fmM M f n t) (f + 1) p = rI M 4 p := by
  rw [fmM_I hf hnt, if_neg (by omega), if_pos rfl, if_pos hp]
