/-! sheets and lessons that belong together; the class's figures are the reference's answers -/
def ShB (M : Mem) (i : Nat) : Prop := ∀ j, j < 64 → rI M (9 + 6 * i + 2) j = rI M 66 (64 * i + j) ∧ (rI M 66 (64 * i + j) = 0 ∨ rI M 66 (64 * i + j) = 1 ∨ rI M 66 (64 * i + j) = 2) ∧ (hb (rJ M (9 + 6 * i) 5) (nI j) = true ↔ rI M 66 (64 * i + j) = 2) ∧ (rI M 66 (64 * i + j) = 1 → rI M (9 + 6 * i + 3) j = rI M 67 (64 * i + j)) ∧ (rI M 66 (64 * i + j) = 0 → rI M (9 + 6 * i + 3) j = 0) ∧ (rI M 66 (64 * i + j) = 2 → ∃ f, rA M (9 + 6 * i + 4) j = some f ∧ 94 ≤ f ∧ FmR M f (64 * i + j)) ∧ (¬ rI M 66 (64 * i + j) = 2 → rA M (9 + 6 * i + 4) j = none ∧ rJ M (9 + 6 * i + 5) j = 0) ∧ (rI M 66 (64 * i + j) = 2 → rJ M (9 + 6 * i + 5) j = rJ M 76 (64 * i + j))
def LsB (M : Mem) : Prop := (∀ c, c < 64 → (hb (rJ M 5 2) (nI c) = true ↔ ¬ rI M 77 c = 0)) ∧ (∀ c, c < 64 → (hb (rJ M 5 3) (nI c) = true ↔ 0 < (rI M 78 c).toInt)) ∧ (∀ w c, w < 6 → c < 64 → rI M 6 (w * 64 + c) = rI M 79 (64 * w + c)) ∧ (∀ c, c < 64 → rI M 7 c = rI M 78 c) ∧ (∀ c, c < 64 → hb (rJ M 5 2) (nI c) = true → ¬ hb (rJ M 5 3) (nI c) = true)
theorem ShB.rf {M : Mem} {i : Nat} (hi : i < 6) (h : ShB M i) (h36 : rI M 64 36 = -1) : ∀ j, j < 64 → rI M 66 (64 * i + j) = 2 → RFK M (64 * i + j) ∧ NmK M (64 * i + j) := fun j hj h2 => by
  obtain ⟨-, -, -, -, -, a, -⟩ := h j hj
  obtain ⟨f, -, -, b⟩ := a h2
  exact b.rfk h36 (by omega)
theorem ly_at {M : Mem} {q v : Nat} {s : FS} : ∀ c, (∀ j, j < c → (lyF M q v c s).1 (v * 64 + j) = (lyC M q v j).1 ∧ (lyF M q v c s).2 (v * 64 + j) = (lyC M q v j).2) ∧ (∀ x, ¬ (v * 64 ≤ x ∧ x < v * 64 + c) → (lyF M q v c s).1 x = s.1 x ∧ (lyF M q v c s).2 x = s.2 x)
  | 0 => ⟨fun j hj => absurd hj (Nat.not_lt_zero _), fun x _ => ⟨rfl, rfl⟩⟩
  | c + 1 => by
    obtain ⟨a, b⟩ := ly_at (M := M) (q := q) (v := v) (s := s) c
    refine ⟨fun j hj => ?_, fun x hx => ?_⟩
    · show (if v * 64 + j = v * 64 + c then _ else (lyF M q v c s).1 (v * 64 + j)) = _ ∧ (if v * 64 + j = v * 64 + c then _ else (lyF M q v c s).2 (v * 64 + j)) = _
      by_cases e : j = c
      · subst e
        rw [if_pos rfl, if_pos rfl]
        exact ⟨rfl, rfl⟩
      · rw [if_neg (by omega), if_neg (by omega)]
        exact a j (by omega)
    · show (if x = v * 64 + c then _ else (lyF M q v c s).1 x) = _ ∧ (if x = v * 64 + c then _ else (lyF M q v c s).2 x) = _
      rw [if_neg (by omega), if_neg (by omega)]
      exact b x (by omega)
theorem folB_J {g v f c : Nat} (hg : FgR g) {Y : Mem} {j : Nat} : rJ (folB g v f c Y) (g + 2) j = if j = v * 64 + c then (evM Y (g + 1) f g v).1 else rJ Y (g + 2) j := by
  have e := (rkE_same (g := 0) (M := Y) (s := rkF Y (g + 1) f g v (plF Y f) (zF Y f) (rJ Y 46, 0, 0))).2.1 (g + 2) j (by rcases hg with rfl | rfl | rfl <;> decide) (by rcases hg with rfl | rfl | rfl <;> decide) (by rcases hg with rfl | rfl | rfl <;> decide)
  unfold folB
  rw [rJ_sI, rJ_sJ, rk_J, e]
  by_cases q : j = v * 64 + c
  · rw [if_pos q, if_pos ⟨rfl, q⟩]
  · rw [if_neg q, if_neg (fun z => q z.2)]
theorem folB_I {g v f c : Nat} (hg : FgR g) {Y : Mem} {j : Nat} : rI (folB g v f c Y) (g + 3) j = if j = v * 64 + c then (evM Y (g + 1) f g v).2 else rI Y (g + 3) j := by
  have e := (rkE_same (g := 0) (M := Y) (s := rkF Y (g + 1) f g v (plF Y f) (zF Y f) (rJ Y 46, 0, 0))).1 (g + 3) j (by rcases hg with rfl | rfl | rfl <;> decide) (by rcases hg with rfl | rfl | rfl <;> decide)
  unfold folB
  rw [rI_sI, rk_I, rI_sJ, e]
  by_cases q : j = v * 64 + c
  · rw [if_pos q, if_pos ⟨rfl, q⟩]
  · rw [if_neg q, if_neg (fun z => q z.2)]
/-- the other worlds' figures stay -/
theorem fol_off {g q v : Nat} (hg : FgR g) {od : Nat → Nat} {Y : Mem} : ∀ t, (∀ t', t' < t → od t' < 64) → ∀ x, ¬ (v * 64 ≤ x ∧ x < v * 64 + 64) → rJ (folF g q v od t Y) (g + 2) x = rJ Y (g + 2) x ∧ rI (folF g q v od t Y) (g + 3) x = rI Y (g + 3) x
  | 0, _, _, _ => ⟨rfl, rfl⟩
  | t + 1, h, x, hx => by
    obtain ⟨a, b⟩ := fol_off hg (q := q) (v := v) (od := od) (Y := Y) t (fun t' ht => h t' (by omega)) x hx
    have ho := h t (Nat.lt_succ_self _)
    show rJ (folA g q v (od t) (folF g q v od t Y)) (g + 2) x = _ ∧ rI (folA g q v (od t) (folF g q v od t Y)) (g + 3) x = _
    unfold folA
    split
    · exact ⟨a, b⟩
    · rw [folB_J hg, folB_I hg, if_neg (by omega), if_neg (by omega)]
      exact ⟨a, b⟩
/-- what is the same for all figures' sake -/
def SmD (M X : Mem) (g : Nat) : Prop := (∀ a j, a ≠ 45 → a ≠ g + 3 → a ≠ g → a ≠ g + 4 → rI X a j = rI M a j) ∧ (∀ a j, a ≠ 45 → a ≠ 46 → a ≠ g + 2 → a ≠ g → rJ X a j = rJ M a j) ∧ X.2.2 = M.2.2
theorem SmD.of {M : Mem} {g : Nat} {s : PS} {X : Mem} (h : Smf g (wp M g s) X) : SmD M X g := ⟨fun a j h1 h2 h3 h4 => (h.1 a j h1 h2).trans (wp_rI h3 h4), fun a j h1 h2 h3 h4 => (h.2.1 a j h1 h2 h3).trans (wp_rJ h4), h.2.2⟩
/-- one world followed, over a laid table L -/
theorem fol_go {M : Mem} {i g v : Nat} (hi : i < 6) (hg : FgR g) (hS : ShB M i) (h36 : rI M 64 36 = -1) (hu : rI M (g + 1) 0 = -1) {st : FS → Nat → Int64 × Int32} {nd : Nat → Int64} (cg : Cgr nd st) {G : Nat → Prop} (hG : ∀ x, x < 64 → G x → nd x = 0) (hst : ∀ V x, x < 64 → ¬ G x → rI M 66 (64 * i + x) = 2 → st V x = rvE M (64 * i + x) V) {T : Nat} {r : Nat → Int32} {od : Nat → Nat} (ho : OrdG nd G T r) (hf : ∀ x, x < 64 → ¬ G x → rI M 66 (64 * i + x) = 2) (hod : ∀ t, t < T → r t = nI (od t) ∧ od t < 64) {Y : Mem} (hY : SmD M Y g) (hgG : ∀ y, y < 64 → G y → ((fgF Y g v).1 y, (fgF Y g v).2 y) = st (fgF Y g v) y) (hB : BnV (fgF Y g v)) (hc : ∀ y, y < 64 → ¬ G y → (fgF Y g v).1 y = 0 ∧ (fgF Y g v).2 y = 1) : ∀ t, t ≤ T → SmD M (folF g (9 + 6 * i) v od t Y) g ∧ (∀ y, y < 64 → G y → ((fgF (folF g (9 + 6 * i) v od t Y) g v).1 y, (fgF (folF g (9 + 6 * i) v od t Y) g v).2 y) = st (fgF (folF g (9 + 6 * i) v od t Y) g v) y) ∧ WInv st r t (fgF (folF g (9 + 6 * i) v od t Y) g v) ∧ BnV (fgF (folF g (9 + 6 * i) v od t Y) g v) ∧ (∀ y, y < 64 → ¬ G y → (∀ t', t' < t → ¬ r t' = nI y) → (fgF (folF g (9 + 6 * i) v od t Y) g v).1 y = 0 ∧ (fgF (folF g (9 + 6 * i) v od t Y) g v).2 y = 1)
  | 0, _ => ⟨hY, hgG, fun t' ht => absurd ht (Nat.not_lt_zero _), hB, fun y hy n _ => hc y hy n⟩
  | t + 1, htT => by
    obtain ⟨i1, i2, i3, i4, i5⟩ := fol_go hi hg hS h36 hu cg hG hst ho hf hod hY hgG hB hc t (by omega)
    obtain ⟨Z, hZ⟩ : ∃ Z, Z = folF g (9 + 6 * i) v od t Y := ⟨_, rfl⟩
    rw [← hZ] at i1 i2 i3 i4 i5
    obtain ⟨x, x1, x2, x3, x4⟩ := ho.1 t (by omega)
    obtain ⟨o1, o2⟩ := hod t (by omega)
    have ex : od t = x := (nI_eq (by omega) (by omega)).mp (o1.symm.trans x2)
    have s2 := hf x x1 x3
    obtain ⟨-, -, -, -, -, a, -⟩ := hS x x1
    obtain ⟨f, f1, f2, f3⟩ := a s2
    have eN : folF g (9 + 6 * i) v od (t + 1) Y = folB g v f x Z := by
      show folA g (9 + 6 * i) v (od t) (folF g (9 + 6 * i) v od t Y) = _
      rw [← hZ, ex]
      unfold folA
      have : rA Z (9 + 6 * i + 4) x = some f := by unfold rA at f1 ⊢; rw [i1.2.2]; exact f1
      rw [this]
    rw [eN]
    have hgr : g = 47 ∨ g = 52 ∨ g = 57 := hg
    have hev : evM Z (g + 1) f g v = rvE M (64 * i + x) (fgF Z g v) := f3.ev hg h36 (by omega) (by rw [i1.1 (g + 1) 0 (by omega) (by omega) (by omega) (by omega)]; exact hu) (funext fun j => i1.1 _ j (by omega) (by omega) (by omega) (by omega)) (funext fun j => i1.1 _ j (by omega) (by omega) (by omega) (by omega)) (funext fun j => i1.1 _ j (by omega) (by omega) (by omega) (by omega)) (i1.1 _ _ (by omega) (by omega) (by omega) (by omega)) i4
    have hv : ∀ y, y < 64 → ¬ y = x → (fgF (folB g v f x Z) g v).1 y = (fgF Z g v).1 y ∧ (fgF (folB g v f x Z) g v).2 y = (fgF Z g v).2 y := fun y hy n => by
      constructor
      · show rJ (folB g v f x Z) (g + 2) (v * 64 + y) = rJ Z (g + 2) (v * 64 + y)
        rw [folB_J hg, if_neg (by omega)]
      · show rI (folB g v f x Z) (g + 3) (v * 64 + y) = rI Z (g + 3) (v * 64 + y)
        rw [folB_I hg, if_neg (by omega)]
    have hk1 : (fgF (folB g v f x Z) g v).1 x = (rvE M (64 * i + x) (fgF Z g v)).1 := by
      show rJ (folB g v f x Z) (g + 2) (v * 64 + x) = _
      rw [folB_J hg, if_pos rfl, hev]
    have hk2 : (fgF (folB g v f x Z) g v).2 x = (rvE M (64 * i + x) (fgF Z g v)).2 := by
      show rI (folB g v f x Z) (g + 3) (v * 64 + x) = _
      rw [folB_I hg, if_pos rfl, hev]
    obtain ⟨w1, w2⟩ := wkG_step cg ho hG (by omega : t < T) x1 x2 i2 i3 hv (by rw [hk1, hk2, hst _ x x1 x3 s2])
    obtain ⟨rf, -⟩ := f3.rfk h36 (by omega)
    have rin := ro_in i4 (r := fun _ => 0) rf.2.2.1 rf.2.2.2.1 rf.2.2.2.2
    refine ⟨?_, w1, w2, fun y hy => ?_, fun y hy n hn => ?_⟩
    · have sm := folB_same (g := g) (v := v) (f := f) (c := x) (M := Z)
      exact ⟨fun a j h1 h2 h3 h4 => (sm.1 a j h1 h2).trans (i1.1 a j h1 h2 h3 h4), fun a j h1 h2 h3 h4 => (sm.2.1 a j h1 h2 h3).trans (i1.2.1 a j h1 h2 h3 h4), sm.2.2.trans i1.2.2⟩
    · by_cases e : y = x
      · subst e
        rw [hk1, hk2]
        exact rin
      · rw [(hv y hy e).1, (hv y hy e).2]
        exact i4 y hy
    · have e : ¬ y = x := fun z => hn t (Nat.lt_succ_self _) (z ▸ x2)
      rw [(hv y hy e).1, (hv y hy e).2]
      exact i5 y hy n (fun t' ht => hn t' (by omega))
/-- answers out of a table that was followed to its end -/
theorem fol_ans {st : FS → Nat → Int64 × Int32} {nd : Nat → Int64} {G : Nat → Prop} {T : Nat} {r : Nat → Int32} {V : FS} (ho : OrdG nd G T r) (hgG : ∀ y, y < 64 → G y → (V.1 y, V.2 y) = st V y) (hw : WInv st r T V) (hc : ∀ y, y < 64 → ¬ G y → (∀ t', t' < T → ¬ r t' = nI y) → V.1 y = 0 ∧ V.2 y = 1) (hs : ∀ z, z < 64 → (StP nd z ↔ G z ∨ ∃ t, t < T ∧ r t = nI z)) : ∀ c, c < 64 → Ans nd st c (V.1 c, V.2 c) := by
  intro c hcc
  by_cases k : StP nd c
  · refine Or.inl ⟨k, fun z => StP nd z, V, k, fun x hx s => ⟨?_, fun z hz b => StP_out s z hz b⟩, rfl⟩
    rcases (hs x hx).mp s with g | ⟨t, t1, t2⟩
    · exact hgG x hx g
    · exact hw t t1 x hx t2
  · obtain ⟨a, b⟩ := hc c hcc (fun g => k ((hs c hcc).mpr (Or.inl g))) (fun t ht e => k ((hs c hcc).mpr (Or.inr ⟨t, ht, e⟩)))
    exact Or.inr ⟨k, by rw [a, b]⟩
/-- what is given on a sheet as it stands -/
def gvO (M : Mem) (q : Nat) : Int64 := rJ M 5 2 ||| (rJ M q 5 ^^^ (-1))
theorem hb_not {a : Int64} {z : Nat} (hz : z < 64) : hb (a ^^^ (-1)) (nI z) = true ↔ ¬ hb a (nI z) = true := by
  rw [hb_bv hz, hb_bv hz, Int64.toBitVec_xor, BitVec.getLsbD_xor, show Int64.toBitVec (-1) = BitVec.allOnes 64 from rfl, BitVec.getLsbD_allOnes, decide_eq_true hz, Bool.xor_true]
  cases a.toBitVec.getLsbD z <;> decide
theorem gvO_iff {M : Mem} {i : Nat} (hS : ShB M i) (hL : LsB M) {z : Nat} (hz : z < 64) : hb (gvO M (9 + 6 * i)) (nI z) = true ↔ ¬ rI M 77 z = 0 ∨ ¬ rI M 66 (64 * i + z) = 2 := by
  unfold gvO
  rw [hb_orI hz, hb_not hz, hL.1 z hz, (hS z hz).2.2.1]
theorem nd_own {M : Mem} {i : Nat} (hi : i < 6) (hS : ShB M i) (hL : LsB M) (h36 : rI M 64 36 = -1) {c x : Nat} (hx : x < 64) : ndR M i c 0 x = ndG (gvO M (9 + 6 * i)) (rJ M (9 + 6 * i + 5)) (-1) x := by
  have ht : tdP M x c 0 ↔ ¬ rI M 77 x = 0 := ⟨fun h => h.resolve_right (fun z => z.1 rfl), Or.inl⟩
  unfold ndG
  rw [if_neg (show ¬ nI x = -1 from m1_no hx)]
  by_cases g : hb (gvO M (9 + 6 * i)) (nI x) = true
  · rw [if_pos g]
    unfold ndR
    by_cases t : tdP M x c 0
    · rw [if_pos t]
    · rw [if_neg t, nR36 h36 hi hx]
      have := ((gvO_iff hS hL hx).mp g).resolve_left (fun z => t (ht.mpr z))
      rw [if_pos this]
  · rw [if_neg g]
    have g2 : rI M 77 x = 0 := Classical.byContradiction (fun z => g ((gvO_iff hS hL hx).mpr (Or.inl z)))
    have g3 : rI M 66 (64 * i + x) = 2 := Classical.byContradiction (fun z => g ((gvO_iff hS hL hx).mpr (Or.inr z)))
    unfold ndR
    rw [if_neg (fun z => ht.mp z g2), nR36 h36 hi hx, if_neg (fun z => z g3), if_neg (fun z => z g2), (hS x hx).2.2.2.2.2.2.2 g3]
/-- the class's figures of a sheet as it stands, world by world -/
theorem own_ans {M : Mem} {i g W : Nat} (hi : i < 6) (hg : FgR g) (hS : ShB M i) (hL : LsB M) (h36 : rI M 64 36 = -1) (hu : rI M (g + 1) 0 = -1) (hW : W ≤ 6) (c : Nat) : SmD M (rkO M g (9 + 6 * i) W) g ∧ (∀ z, z < 64 → (hb (rJ (rkO M g (9 + 6 * i) W) g 7) (nI z) = true ↔ StP (ndR M i c 0) z)) ∧ ∀ w, w < W → BnV (fgF (rkO M g (9 + 6 * i) W) g w) ∧ ∀ x, x < 64 → Ans (ndR M i c 0) (stR M i c 0 w) x ((fgF (rkO M g (9 + 6 * i) W) g w).1 x, (fgF (rkO M g (9 + 6 * i) W) g w).2 x) := by
  have hgr : g = 47 ∨ g = 52 ∨ g = 57 := hg
  obtain ⟨gv, hgv⟩ : ∃ gv, gv = gvO M (9 + 6 * i) := ⟨_, rfl⟩
  obtain ⟨s, hs⟩ : ∃ s, s = plR M (9 + 6 * i) (-1) 64 (gv, rI M (g + 4), 0) := ⟨_, rfl⟩
  obtain ⟨hIP, hE⟩ := plR_E (M := M) (q := 9 + 6 * i) (sub := -1) (gv := gv) 64 (gv, rI M (g + 4), 0) IP.start (by omega)
  rw [← hs] at hIP hE
  have hSt := pl_St hIP hE
  have ePl : plT M g (9 + 6 * i) (rJ M 5 2 ||| (rJ M (9 + 6 * i) 5 ^^^ (-1))) (-1) = wp M g s := by
    unfold plT plE
    rw [if_pos rfl, hs, hgv]
    rfl
  have nde : ∀ x, x < 64 → ndR M i c 0 x = ndG gv (rJ M (9 + 6 * i + 5)) (-1) x := fun x hx => by rw [hgv]; exact nd_own hi hS hL h36 hx
  have hStP : ∀ z, z < 64 → (hb s.1 (nI z) = true ↔ StP (ndR M i c 0) z) := fun z hz => (hSt z hz).trans ⟨fun k => StP_cg nde k, fun k => StP_cg (fun y hy => (nde y hy).symm) k⟩
  obtain ⟨q1, q2, q3, q4, q5⟩ := hIP
  have hG : ∀ x, x < 64 → hb gv (nI x) = true → ndR M i c 0 x = 0 := fun x hx g => by rw [nde x hx]; exact if_pos g
  have hoG : OrdG (ndR M i c 0) (fun z => hb gv (nI z) = true) s.2.2 s.2.1 := by
    refine ⟨fun t ht => ?_, q3.2⟩
    obtain ⟨x, x1, x2, x3, x4⟩ := q3.1 t ht
    refine ⟨x, x1, x2, x3, fun z hz b => x4 z hz ?_⟩
    rw [nde x x1] at b
    unfold ndG at b
    rw [if_neg x3, if_neg (show ¬ nI x = -1 from m1_no x1)] at b
    exact b
  have hfm : ∀ x, x < 64 → ¬ hb gv (nI x) = true → rI M 77 x = 0 ∧ rI M 66 (64 * i + x) = 2 := fun x hx n => by
    rw [hgv] at n
    exact ⟨Classical.byContradiction (fun z => n ((gvO_iff hS hL hx).mpr (Or.inl z))), Classical.byContradiction (fun z => n ((gvO_iff hS hL hx).mpr (Or.inr z)))⟩
  have hT : s.2.2 ≤ 64 := by have := cnt_le (s := s.1) 64; omega
  have hst : ∀ w V x, x < 64 → ¬ hb gv (nI x) = true → rI M 66 (64 * i + x) = 2 → stR M i c 0 w V x = rvE M (64 * i + x) V := fun w V x hx n h2 => stR_4 (hfm x hx n).1 (fun z => z.elim (fun y => y (hfm x hx n).1) (fun y => y.1 rfl)) h2
  have od0 : ∀ X, Smf g (wp M g s) X → ∀ t, t < s.2.2 → s.2.1 t = nI (odF X g t) ∧ odF X g t < 64 := fun X hX t ht => by
    obtain ⟨x, x1, x2, -⟩ := q3.1 t ht
    have e : odF X g t = x := by
      show (rI X (g + 4) t).toNatClampNeg = x
      rw [hX.1 (g + 4) t (by omega) (by omega), wp_rO, x2]
      exact nI_clamp (by omega)
    rw [e]
    exact ⟨x2, x1⟩
  have td0 : ∀ X, Smf g (wp M g s) X → tdF X g = s.2.2 := fun X hX => by
    show (rI X g 6).toNatClampNeg = _
    rw [hX.1 g 6 (by omega) (by omega), wp_rN]
    exact nI_clamp (by omega)
  -- one world
  have one : ∀ X w, w < 6 → Smf g (wp M g s) X → Smf g (wp M g s) (rcW g (9 + 6 * i) w X) ∧ (∀ x, ¬ (w * 64 ≤ x ∧ x < w * 64 + 64) → rJ (rcW g (9 + 6 * i) w X) (g + 2) x = rJ X (g + 2) x ∧ rI (rcW g (9 + 6 * i) w X) (g + 3) x = rI X (g + 3) x) ∧ BnV (fgF (rcW g (9 + 6 * i) w X) g w) ∧ ∀ x, x < 64 → Ans (ndR M i c 0) (stR M i c 0 w) x ((fgF (rcW g (9 + 6 * i) w X) g w).1 x, (fgF (rcW g (9 + 6 * i) w X) g w).2 x) := by
    intro X w hw6 hX
    obtain ⟨Y, hY⟩ : ∃ Y, Y = wf X g (lyF X (9 + 6 * i) w 64 (rJ X (g + 2), rI X (g + 3))) := ⟨_, rfl⟩
    have hXY : Smf g X Y := by rw [hY]; exact wf_same
    have hXd := SmD.of hX
    have hYd : SmD M Y g := SmD.of (hX.tr hXY)
    obtain ⟨l1, l2⟩ := ly_at (M := X) (q := 9 + 6 * i) (v := w) (s := (rJ X (g + 2), rI X (g + 3))) 64
    have yv : ∀ y, y < 64 → (fgF Y g w).1 y = (lyC X (9 + 6 * i) w y).1 ∧ (fgF Y g w).2 y = (lyC X (9 + 6 * i) w y).2 := fun y hy => by
      constructor
      · show rJ Y (g + 2) (w * 64 + y) = _
        rw [hY, wf_rf]; exact (l1 y hy).1
      · show rI Y (g + 3) (w * 64 + y) = _
        rw [hY, wf_re]; exact (l1 y hy).2
    have ly : ∀ y, y < 64 → lyC X (9 + 6 * i) w y = if ¬ rI M 77 y = 0 then ((rI M 79 (64 * w + y)).toInt64, 0) else if rI M 66 (64 * i + y) = 2 then (0, 1) else ((rI M (9 + 6 * i + 3) y).toInt64, 0) := fun y hy => by
      unfold lyC
      have e5 : rJ X 5 2 = rJ M 5 2 := hXd.2.1 5 2 (by decide) (by decide) (by omega) (by omega)
      rw [e5, hXd.1 6 _ (by decide) (by omega) (by omega) (by omega), hXd.1 (9 + 6 * i + 2) y (by omega) (by omega) (by omega) (by omega), hXd.1 (9 + 6 * i + 3) y (by omega) (by omega) (by omega) (by omega), (hS y hy).1, hL.2.2.1 w y hw6 hy]
      by_cases z : ¬ rI M 77 y = 0
      · rw [if_pos z, if_pos ((hL.1 y hy).mpr z)]
      · rw [if_neg z, if_neg (fun k => z ((hL.1 y hy).mp k))]
    have num : ∀ y, y < 64 → rI M 77 y = 0 → ¬ rI M 66 (64 * i + y) = 2 → ∀ V, ((rI M (9 + 6 * i + 3) y).toInt64, (0 : Int32)) = stR M i c 0 w V y := fun y hy z n V => by
      have nt : ¬ tdP M y c 0 := fun k => k.elim (fun k => k z) (fun k => k.1 rfl)
      rcases (hS y hy).2.1 with k | k | k
      · rw [stR_5 z nt (by rw [k]; decide) (by rw [k]; decide), (hS y hy).2.2.2.2.1 k]; rfl
      · rw [stR_3 z nt k, (hS y hy).2.2.2.1 k]
      · exact absurd k n
    have hgG : ∀ y, y < 64 → hb gv (nI y) = true → ((fgF Y g w).1 y, (fgF Y g w).2 y) = stR M i c 0 w (fgF Y g w) y := fun y hy g => by
      rw [(yv y hy).1, (yv y hy).2, ly y hy]
      by_cases z : rI M 77 y = 0
      · rw [if_neg (fun k => k z)]
        have n : ¬ rI M 66 (64 * i + y) = 2 := by
          rw [hgv] at g
          exact ((gvO_iff hS hL hy).mp g).resolve_left (fun k => k z)
        rw [if_neg n]
        exact num y hy z n _
      · rw [if_pos z, stR_1 z]
    have hB : BnV (fgF Y g w) := fun y hy => by
      rw [(yv y hy).1, (yv y hy).2, ly y hy]
      by_cases z : ¬ rI M 77 y = 0
      · rw [if_pos z]
        exact ⟨fun _ => i32_in _, fun k => absurd rfl k⟩
      · rw [if_neg z]
        by_cases n : rI M 66 (64 * i + y) = 2
        · rw [if_pos n]
          exact ⟨fun k => absurd (show (1 : Int32) = 0 from k) (by decide), fun _ => rfl⟩
        · rw [if_neg n]
          exact ⟨fun _ => i32_in _, fun k => absurd rfl k⟩
    have hc0 : ∀ y, y < 64 → ¬ hb gv (nI y) = true → (fgF Y g w).1 y = 0 ∧ (fgF Y g w).2 y = 1 := fun y hy n => by
      rw [(yv y hy).1, (yv y hy).2, ly y hy, if_neg (fun k => k (hfm y hy n).1), if_pos (hfm y hy n).2]
      exact ⟨rfl, rfl⟩
    have eW : rcW g (9 + 6 * i) w X = folF g (9 + 6 * i) w (odF X g) s.2.2 Y := by unfold rcW; rw [td0 X hX, ← hY]
    rw [eW]
    obtain ⟨-, f2, f3, f4, f5⟩ := fol_go hi hg hS h36 hu (stR_cg hi (hS.rf hi h36)) hG (hst w) hoG (fun x hx n => (hfm x hx n).2) (od0 X hX) hYd hgG hB hc0 s.2.2 (Nat.le_refl _)
    refine ⟨(hX.tr hXY).tr (folF_same _), fun x hx => ?_, f4, fol_ans hoG f2 f3 f5 (fun z hz => (hStP z hz).symm.trans ⟨fun b => (q2 z hz b).elim Or.inl (fun k => Or.inr k.2), fun k => k.elim (q1 z hz) (fun ⟨t, t1, t2⟩ => by
      obtain ⟨y, y1, y2, y3⟩ := q4 t t1
      have : y = z := (nI_eq (by omega) (by omega)).mp (y2.symm.trans t2)
      exact this ▸ y3)⟩)⟩
    obtain ⟨a, b⟩ := fol_off hg (q := 9 + 6 * i) (v := w) (od := odF X g) (Y := Y) s.2.2 (fun t ht => (od0 X hX t ht).2) x hx
    rw [a, b, hY, wf_rf, wf_re]
    exact l2 x hx
  have all : ∀ v, v ≤ W → Smf g (wp M g s) (rcO g (9 + 6 * i) v (wp M g s)) ∧ ∀ w, w < v → BnV (fgF (rcO g (9 + 6 * i) v (wp M g s)) g w) ∧ ∀ x, x < 64 → Ans (ndR M i c 0) (stR M i c 0 w) x ((fgF (rcO g (9 + 6 * i) v (wp M g s)) g w).1 x, (fgF (rcO g (9 + 6 * i) v (wp M g s)) g w).2 x) := by
    intro v
    induction v with
    | zero => exact fun _ => ⟨Smf.rf, fun w hw => absurd hw (Nat.not_lt_zero _)⟩
    | succ v ih =>
      intro hv
      obtain ⟨a, b⟩ := ih (by omega)
      obtain ⟨o1, o2, o3, o4⟩ := one _ v (by omega) a
      refine ⟨o1, fun w hw => ?_⟩
      by_cases e : w = v
      · subst e; exact ⟨o3, o4⟩
      · have k : ∀ x, x < 64 → (fgF (rcO g (9 + 6 * i) (v + 1) (wp M g s)) g w).1 x = (fgF (rcO g (9 + 6 * i) v (wp M g s)) g w).1 x ∧ (fgF (rcO g (9 + 6 * i) (v + 1) (wp M g s)) g w).2 x = (fgF (rcO g (9 + 6 * i) v (wp M g s)) g w).2 x := fun x hx => o2 (w * 64 + x) (by omega)
        obtain ⟨b1, b2⟩ := b w (by omega)
        exact ⟨fun x hx => by rw [(k x hx).1, (k x hx).2]; exact b1 x hx, fun x hx => by rw [(k x hx).1, (k x hx).2]; exact b2 x hx⟩
  have eR : rkO M g (9 + 6 * i) W = rcO g (9 + 6 * i) W (wp M g s) := by unfold rkO; rw [ePl]
  rw [eR]
  obtain ⟨a, b⟩ := all W (Nat.le_refl _)
  refine ⟨SmD.of a, fun z hz => ?_, b⟩
  rw [a.2.1 g 7 (by omega) (by omega) (by omega), wp_rS]
  exact hStP z hz
