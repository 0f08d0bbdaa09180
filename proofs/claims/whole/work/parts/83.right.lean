/-! right figures for one cell -/
theorem ll_at {M : Mem} {g2 v : Nat} {x : Int64} {s : FS} : ∀ c, (∀ j, j < c → (llF M g2 v x c s).1 (v * 64 + j) = (if hb x (nI j) = true then rJ M (g2 + 2) (v * 64 + j) else s.1 (v * 64 + j)) ∧ (llF M g2 v x c s).2 (v * 64 + j) = (if hb x (nI j) = true then rI M (g2 + 3) (v * 64 + j) else s.2 (v * 64 + j))) ∧ (∀ y, ¬ (v * 64 ≤ y ∧ y < v * 64 + c) → (llF M g2 v x c s).1 y = s.1 y ∧ (llF M g2 v x c s).2 y = s.2 y)
  | 0 => ⟨fun j hj => absurd hj (Nat.not_lt_zero _), fun y _ => ⟨rfl, rfl⟩⟩
  | c + 1 => by
    obtain ⟨a, b⟩ := ll_at (M := M) (g2 := g2) (v := v) (x := x) (s := s) c
    have e : llF M g2 v x (c + 1) s = if hb x (nI c) = true then fup (llF M g2 v x c s) (v * 64 + c) (rJ M (g2 + 2) (v * 64 + c)) (rI M (g2 + 3) (v * 64 + c)) else llF M g2 v x c s := rfl
    rw [e]
    by_cases h : hb x (nI c) = true
    · rw [if_pos h]
      refine ⟨fun j hj => ?_, fun y hy => ?_⟩
      · show (if v * 64 + j = v * 64 + c then _ else (llF M g2 v x c s).1 (v * 64 + j)) = _ ∧ (if v * 64 + j = v * 64 + c then _ else (llF M g2 v x c s).2 (v * 64 + j)) = _
        by_cases q : j = c
        · subst q
          rw [if_pos rfl, if_pos rfl, if_pos h, if_pos h]
          exact ⟨rfl, rfl⟩
        · have ne : ¬ v * 64 + j = v * 64 + c := by omega
          rw [if_neg ne, if_neg ne]
          exact a j (by omega)
      · show (if y = v * 64 + c then _ else (llF M g2 v x c s).1 y) = _ ∧ (if y = v * 64 + c then _ else (llF M g2 v x c s).2 y) = _
        rw [if_neg (by omega), if_neg (by omega)]
        exact b y (by omega)
    · rw [if_neg h]
      refine ⟨fun j hj => ?_, fun y hy => b y (by omega)⟩
      by_cases q : j = c
      · subst q
        obtain ⟨k1, k2⟩ := b (v * 64 + j) (by omega)
        rw [k1, k2, if_neg h, if_neg h]
        exact ⟨rfl, rfl⟩
      · exact a j (by omega)
def lnR (M : Mem) (c : Nat) : Int64 := rJ M 5 3 &&& (bitL (nI c) ^^^ (-1))
def gvR (M : Mem) (q c : Nat) : Int64 := rJ M 5 2 ||| (rJ M q 5 ^^^ (-1)) ||| lnR M c
theorem hb_and {a b : Int64} {z : Nat} (hz : z < 64) : hb (a &&& b) (nI z) = true ↔ hb a (nI z) = true ∧ hb b (nI z) = true := by
  rw [hb_bv hz, hb_bv hz, hb_bv hz, Int64.toBitVec_and, BitVec.getLsbD_and, Bool.and_eq_true]
theorem lnR_iff {M : Mem} (hL : LsB M) {c z : Nat} (hc : c < 64) (hz : z < 64) : hb (lnR M c) (nI z) = true ↔ 0 < (rI M 78 z).toInt ∧ ¬ z = c := by
  unfold lnR
  rw [hb_and hz, hb_not hz, hb_bit hz hc, hL.2.1 z hz, decide_eq_true_eq]
theorem gvR_iff {M : Mem} {i : Nat} (hS : ShB M i) (hL : LsB M) {c z : Nat} (hc : c < 64) (hz : z < 64) : hb (gvR M (9 + 6 * i) c) (nI z) = true ↔ tdP M z c 1 ∨ ¬ rI M 66 (64 * i + z) = 2 := by
  unfold gvR
  rw [hb_orI hz, hb_orI hz, hb_not hz, hL.1 z hz, (hS z hz).2.2.1, lnR_iff hL hc hz]
  constructor
  · rintro ((h | h) | ⟨h, h2⟩)
    · exact Or.inl (Or.inl h)
    · exact Or.inr h
    · exact Or.inl (Or.inr ⟨by decide, h2, h⟩)
  · rintro ((h | ⟨-, h, h2⟩) | h)
    · exact Or.inl (Or.inl h)
    · exact Or.inr ⟨h2, h⟩
    · exact Or.inl (Or.inr h)
/-- the class's right figures, laid for c on sheet i -/
def RTab (X M' : Mem) (i c W : Nat) (R : Mem) : Prop := (∀ z, z < 64 → (hb (rJ R 57 7) (nI z) = true ↔ StP (ndG (gvR X (9 + 6 * i) c) (rJ X (9 + 6 * i + 5)) (nI c)) z)) ∧ ∀ w, w < W → BnV (fgF R 57 w) ∧ (∀ z, z < 64 → hb (rJ R 57 7) (nI z) = true → ((fgF R 57 w).1 z, (fgF R 57 w).2 z) = stR M' i c 1 w (fgF R 57 w) z) ∧ (¬ hb (gvR X (9 + 6 * i) c) (nI c) = true → (rJ X (9 + 6 * i + 5) c &&& (rJ R 57 7 ^^^ (-1)) = 0 → ((fgF R 57 w).1 c, (fgF R 57 w).2 c) = stR M' i c 1 w (fgF R 57 w) c) ∧ (¬ rJ X (9 + 6 * i + 5) c &&& (rJ R 57 7 ^^^ (-1)) = 0 → ((fgF R 57 w).1 c, (fgF R 57 w).2 c) = (0, 1)))
theorem nd_right {X : Mem} {i : Nat} (hi : i < 6) (hS : ShB X i) (hL : LsB X) (h36 : rI X 64 36 = -1) {c x : Nat} (hc : c < 64) (hx : x < 64) : ndR X i c 1 x = if hb (gvR X (9 + 6 * i) c) (nI x) = true then 0 else rJ X (9 + 6 * i + 5) x := by
  have g := gvR_iff hS hL hc hx
  unfold ndR
  by_cases t : tdP X x c 1
  · rw [if_pos t, if_pos (g.mpr (Or.inl t))]
  · rw [if_neg t, nR36 h36 hi hx]
    by_cases k : rI X 66 (64 * i + x) = 2
    · rw [if_neg (fun z => z k), if_neg (fun z => t (Or.inl z)), if_neg (fun z => (g.mp z).elim t (fun y => y k)), (hS x hx).2.2.2.2.2.2.2 k]
    · rw [if_pos k, if_pos (g.mpr (Or.inr k))]
theorem right_tab {X M' : Mem} {i c W : Nat} (hi : i < 6) (hc : c < 64) (hS : ShB X i) (hL : LsB X) (h36 : rI X 64 36 = -1) (hu : rI X 58 0 = -1) (hW : W ≤ 6) (hK : K0 X M') (hT : ∀ w, w < W → ∀ x, x < 64 → 0 < (rI X 78 x).toInt → BnV (fgF X 47 w) ∧ (fgF X 47 w).1 x = rJ M' 80 (64 * w + x) ∧ (fgF X 47 w).2 x = rI M' 81 (64 * w + x)) : SmD X (rkR X 57 (9 + 6 * i) 47 c W) 57 ∧ RTab X M' i c W (rkR X 57 (9 + 6 * i) 47 c W) := by
  have hg : FgR 57 := Or.inr (Or.inr rfl)
  obtain ⟨gv, hgv⟩ : ∃ gv, gv = gvR X (9 + 6 * i) c := ⟨_, rfl⟩
  obtain ⟨s, hs⟩ : ∃ s, s = plR X (9 + 6 * i) (nI c) 64 (gv, rI X (57 + 4), 0) := ⟨_, rfl⟩
  obtain ⟨hIP, hE⟩ := plR_E (M := X) (q := 9 + 6 * i) (sub := nI c) (gv := gv) 64 (gv, rI X (57 + 4), 0) IP.start (by omega)
  rw [← hs] at hIP hE
  have hSt := pl_St hIP hE
  obtain ⟨q1, q2, q3, q4, q5⟩ := hIP
  have gi : ∀ z, z < 64 → (hb gv (nI z) = true ↔ tdP X z c 1 ∨ ¬ rI X 66 (64 * i + z) = 2) := fun z hz => by rw [hgv]; exact gvR_iff hS hL hc hz
  have nde : ∀ x, x < 64 → ndR X i c 1 x = if hb gv (nI x) = true then 0 else rJ X (9 + 6 * i + 5) x := fun x hx => by rw [hgv]; exact nd_right hi hS hL h36 hc hx
  have csub : (nI c).toNatClampNeg = c := j64_c hc
  have cn1 : ¬ nI c = -1 := m1_no hc
  -- the order with the subject
  obtain ⟨t, ht⟩ : ∃ t, t = plE X (9 + 6 * i) (nI c) s := ⟨_, rfl⟩
  have gcs : ¬ hb gv (nI c) = true → ¬ hb s.1 (nI c) = true := fun n b => (q2 c hc b).elim n (fun k => k.1 rfl)
  have te : t = if s.1 &&& bitL (nI c) = 0 then (if rJ X (9 + 6 * i + 5) c &&& (s.1 ^^^ (-1)) = 0 then appP s (nI c) else s) else s := by
    rw [ht]
    unfold plE
    rw [if_neg cn1, csub]
  have hT64 : s.2.2 ≤ 64 := by have := cnt_le (s := s.1) 64; omega
  have hG : ∀ x, x < 64 → hb gv (nI x) = true → ndR X i c 1 x = 0 := fun x hx g => by rw [nde x hx]; exact if_pos g
  have no_c : ∀ t', t' < s.2.2 → ¬ hb gv (nI c) = true → ¬ s.2.1 t' = nI c := fun t' ht' n z => by
    obtain ⟨x, x1, x2, x3⟩ := q4 t' ht'
    have : x = c := (nI_eq (by omega) (by omega)).mp (x2.symm.trans z)
    exact gcs n (this ▸ x3)
  have o3 : OrdG (ndR X i c 1) (fun z => hb gv (nI z) = true) s.2.2 s.2.1 := by
    refine ⟨fun t' ht' => ?_, q3.2⟩
    obtain ⟨x, x1, x2, x3, x4⟩ := q3.1 t' ht'
    refine ⟨x, x1, x2, x3, fun z hz b => x4 z hz ?_⟩
    rw [nde x x1, if_neg x3] at b
    exact b
  have tcase : (t = s ∧ (hb gv (nI c) = true ∨ ¬ rJ X (9 + 6 * i + 5) c &&& (s.1 ^^^ (-1)) = 0)) ∨ (¬ hb gv (nI c) = true ∧ rJ X (9 + 6 * i + 5) c &&& (s.1 ^^^ (-1)) = 0 ∧ t = (s.1, (fun j => if j = s.2.2 then nI c else s.2.1 j), s.2.2 + 1)) := by
    by_cases a : s.1 &&& bitL (nI c) = 0
    · have nb := (bit_0 hc).mp a
      have ng : ¬ hb gv (nI c) = true := fun z => nb (q1 c hc z)
      rw [if_pos a] at te
      by_cases b : rJ X (9 + 6 * i + 5) c &&& (s.1 ^^^ (-1)) = 0
      · rw [if_pos b] at te
        have c1 := cnt_add hc nb 64 (Nat.le_refl _)
        rw [if_pos hc] at c1
        have c2 := cnt_le (s := s.1 ||| bitL (nI c)) 64
        exact Or.inr ⟨ng, b, te.trans (if_pos (by omega))⟩
      · rw [if_neg b] at te
        exact Or.inl ⟨te, Or.inr b⟩
    · rw [if_neg a] at te
      have yb : hb s.1 (nI c) = true := Classical.byContradiction (fun z => a ((bit_0 hc).mpr z))
      exact Or.inl ⟨te, Or.inl (Classical.byContradiction (fun z => gcs z yb))⟩
  have t1 : t.1 = s.1 := by rcases tcase with ⟨e, -⟩ | ⟨-, -, e⟩ <;> rw [e]
  have o4 : OrdG (ndR X i c 1) (fun z => hb gv (nI z) = true) t.2.2 t.2.1 := by
    rcases tcase with ⟨e, -⟩ | ⟨n, b, e⟩
    · rw [e]; exact o3
    · rw [e]
      refine o3.ap hc n (fun t' ht' => no_c t' ht' n) (fun z hz k => ?_)
      rw [nde c hc, if_neg n] at k
      rcases q2 z hz (sub_iff.mp b z hz k) with g | ⟨-, g⟩
      · exact Or.inl g
      · exact Or.inr g
  have tT : t.2.2 ≤ 64 := by
    rcases tcase with ⟨e, -⟩ | ⟨n, -, e⟩
    · rw [e]; exact hT64
    · have c1 := cnt_add hc (gcs n) 64 (Nat.le_refl _)
      rw [if_pos hc] at c1
      have c2 := cnt_le (s := s.1 ||| bitL (nI c)) 64
      rw [e]
      show s.2.2 + 1 ≤ 64
      omega
  have ts : ∀ z, z < 64 → hb s.1 (nI z) = true → hb gv (nI z) = true ∨ ∃ t', t' < t.2.2 ∧ t.2.1 t' = nI z := fun z hz b => by
    rcases q2 z hz b with g | ⟨-, t', k1, k2⟩
    · exact Or.inl g
    · refine Or.inr ⟨t', ?_, ?_⟩
      · rcases tcase with ⟨e, -⟩ | ⟨-, -, e⟩ <;> rw [e]
        · exact k1
        · exact Nat.lt_succ_of_lt k1
      · rcases tcase with ⟨e, -⟩ | ⟨-, -, e⟩ <;> rw [e]
        · exact k2
        · exact (if_neg (by omega)).trans k2
  have ePl : plT X 57 (9 + 6 * i) (rJ X 5 2 ||| (rJ X (9 + 6 * i) 5 ^^^ (-1)) ||| (rJ X 5 3 &&& (bitL (nI c) ^^^ (-1)))) (nI c) = wp X 57 t := by
    unfold plT
    rw [ht, hs, hgv]
    rfl
  have hfm : ∀ x, x < 64 → ¬ hb gv (nI x) = true → ¬ tdP X x c 1 ∧ rI X 66 (64 * i + x) = 2 := fun x hx n => ⟨fun z => n ((gi x hx).mpr (Or.inl z)), Classical.byContradiction (fun z => n ((gi x hx).mpr (Or.inr z)))⟩
  have e66 : ∀ k, rI M' 66 k = rI X 66 k := fun k => hK.1 66 k (by omega) (by omega)
  have e77 : ∀ k, rI M' 77 k = rI X 77 k := fun k => hK.1 77 k (by omega) (by omega)
  have hst : ∀ w V x, x < 64 → ¬ hb gv (nI x) = true → rI X 66 (64 * i + x) = 2 → stR M' i c 1 w V x = rvE X (64 * i + x) V := fun w V x hx n h2 => by
    rw [stR_4 (by rw [e77]; exact Classical.byContradiction (fun z => (hfm x hx n).1 (Or.inl z))) (fun z => (hfm x hx n).1 (hK.td.mp z)) (by rw [e66]; exact h2), hK.rv]
  have cgg : ∀ w, Cgr (ndR X i c 1) (stR M' i c 1 w) := fun w => by
    have := stR_cg (M := M') (i := i) (c := c) (rt := 1) (w := w) hi (fun j hj h2 => by
      rw [e66] at h2
      obtain ⟨-, -, -, -, -, a, -⟩ := hS j hj
      obtain ⟨f, -, -, f3⟩ := a h2
      have r := f3.rfk h36 (show 64 * i + j < 384 by omega)
      refine ⟨?_, ?_⟩
      · unfold RFK at r ⊢
        rw [hK.mn, hK.op.1, hK.op.2.1, hK.op.2.2, hK.1 70 _ (by omega) (by omega)]
        exact r.1
      · have rn := r.2
        unfold NmK at rn ⊢
        rw [hK.mn, hK.2.2, rn]
        exact nmF_cg _ (fun x _ => ⟨(hK.1 71 _ (by omega) (by omega)).symm, (hK.1 72 _ (by omega) (by omega)).symm, (hK.1 73 _ (by omega) (by omega)).symm⟩))
    rw [hK.nd] at this
    exact this
  have od0 : ∀ Z, Smf 57 (wp X 57 t) Z → ∀ t', t' < t.2.2 → t.2.1 t' = nI (odF Z 57 t') ∧ odF Z 57 t' < 64 := fun Z hZ t' ht' => by
    obtain ⟨x, x1, x2, -⟩ := o4.1 t' ht'
    have e : odF Z 57 t' = x := by
      show (rI Z (57 + 4) t').toNatClampNeg = x
      rw [hZ.1 (57 + 4) t' (by omega) (by omega), wp_rO, x2]
      exact nI_clamp (by omega)
    rw [e]
    exact ⟨x2, x1⟩
  have td0 : ∀ Z, Smf 57 (wp X 57 t) Z → tdF Z 57 = t.2.2 := fun Z hZ => by
    show (rI Z 57 6).toNatClampNeg = _
    rw [hZ.1 57 6 (by omega) (by omega), wp_rN]
    exact nI_clamp (by omega)
  have one : ∀ Z w, w < W → Smf 57 (wp X 57 t) Z → Smf 57 (wp X 57 t) (rrW 57 (9 + 6 * i) 47 (lnR X c) w Z) ∧ (∀ x, ¬ (w * 64 ≤ x ∧ x < w * 64 + 64) → rJ (rrW 57 (9 + 6 * i) 47 (lnR X c) w Z) (57 + 2) x = rJ Z (57 + 2) x ∧ rI (rrW 57 (9 + 6 * i) 47 (lnR X c) w Z) (57 + 3) x = rI Z (57 + 3) x) ∧ BnV (fgF (rrW 57 (9 + 6 * i) 47 (lnR X c) w Z) 57 w) ∧ (∀ z, z < 64 → (hb gv (nI z) = true ∨ ∃ t', t' < t.2.2 ∧ t.2.1 t' = nI z) → ((fgF (rrW 57 (9 + 6 * i) 47 (lnR X c) w Z) 57 w).1 z, (fgF (rrW 57 (9 + 6 * i) 47 (lnR X c) w Z) 57 w).2 z) = stR M' i c 1 w (fgF (rrW 57 (9 + 6 * i) 47 (lnR X c) w Z) 57 w) z) ∧ (∀ z, z < 64 → ¬ hb gv (nI z) = true → (∀ t', t' < t.2.2 → ¬ t.2.1 t' = nI z) → (fgF (rrW 57 (9 + 6 * i) 47 (lnR X c) w Z) 57 w).1 z = 0 ∧ (fgF (rrW 57 (9 + 6 * i) 47 (lnR X c) w Z) 57 w).2 z = 1) := by
    intro Z w hw hZ
    have hw6 : w < 6 := by omega
    obtain ⟨Y, hY⟩ : ∃ Y, Y = wf Z 57 (llF Z 47 w (lnR X c) 64 (lyF Z (9 + 6 * i) w 64 (rJ Z (57 + 2), rI Z (57 + 3)))) := ⟨_, rfl⟩
    have hZY : Smf 57 Z Y := by rw [hY]; exact wf_same
    have hZd := SmD.of hZ
    have hYd : SmD X Y 57 := SmD.of (hZ.tr hZY)
    obtain ⟨l1, l2⟩ := ly_at (M := Z) (q := 9 + 6 * i) (v := w) (s := (rJ Z (57 + 2), rI Z (57 + 3))) 64
    obtain ⟨m1, m2⟩ := ll_at (M := Z) (g2 := 47) (v := w) (x := lnR X c) (s := lyF Z (9 + 6 * i) w 64 (rJ Z (57 + 2), rI Z (57 + 3))) 64
    have z47 : ∀ y, rJ Z (47 + 2) y = rJ X (47 + 2) y ∧ rI Z (47 + 3) y = rI X (47 + 3) y := fun y => ⟨hZd.2.1 49 y (by decide) (by decide) (by decide) (by decide), hZd.1 50 y (by decide) (by decide) (by decide) (by decide)⟩
    have ly : ∀ y, y < 64 → lyC Z (9 + 6 * i) w y = if ¬ rI X 77 y = 0 then ((rI X 79 (64 * w + y)).toInt64, 0) else if rI X 66 (64 * i + y) = 2 then (0, 1) else ((rI X (9 + 6 * i + 3) y).toInt64, 0) := fun y hy => by
      unfold lyC
      have e5 : rJ Z 5 2 = rJ X 5 2 := hZd.2.1 5 2 (by decide) (by decide) (by omega) (by omega)
      rw [e5, hZd.1 6 _ (by decide) (by omega) (by omega) (by omega), hZd.1 (9 + 6 * i + 2) y (by omega) (by omega) (by omega) (by omega), hZd.1 (9 + 6 * i + 3) y (by omega) (by omega) (by omega) (by omega), (hS y hy).1, hL.2.2.1 w y hw6 hy]
      by_cases z : ¬ rI X 77 y = 0
      · rw [if_pos z, if_pos ((hL.1 y hy).mpr z)]
      · rw [if_neg z, if_neg (fun k => z ((hL.1 y hy).mp k))]
    have yv : ∀ y, y < 64 → (fgF Y 57 w).1 y = (if hb (lnR X c) (nI y) = true then rJ X (47 + 2) (w * 64 + y) else (lyC Z (9 + 6 * i) w y).1) ∧ (fgF Y 57 w).2 y = (if hb (lnR X c) (nI y) = true then rI X (47 + 3) (w * 64 + y) else (lyC Z (9 + 6 * i) w y).2) := fun y hy => by
      constructor
      · show rJ Y (57 + 2) (w * 64 + y) = _
        rw [hY, wf_rf, (m1 y hy).1, (z47 _).1, (l1 y hy).1]
      · show rI Y (57 + 3) (w * 64 + y) = _
        rw [hY, wf_re, (m1 y hy).2, (z47 _).2, (l1 y hy).2]
    have val : ∀ y, y < 64 → hb gv (nI y) = true → ((fgF Y 57 w).1 y, (fgF Y 57 w).2 y) = stR M' i c 1 w (fgF Y 57 w) y := fun y hy g => by
      rw [(yv y hy).1, (yv y hy).2]
      by_cases l : hb (lnR X c) (nI y) = true
      · rw [if_pos l, if_pos l]
        obtain ⟨l3, l4⟩ := (lnR_iff hL hc hy).mp l
        have n77 : rI X 77 y = 0 := Classical.byContradiction (fun z => hL.2.2.2.2 y hy ((hL.1 y hy).mpr z) ((hL.2.1 y hy).mpr l3))
        obtain ⟨-, k1, k2⟩ := hT w hw y hy l3
        rw [stR_2 (by rw [e77]; exact n77) (hK.td.mpr (Or.inr ⟨by decide, l4, l3⟩)), ← k1, ← k2]
        rfl
      · rw [if_neg l, if_neg l, ly y hy]
        by_cases z : rI X 77 y = 0
        · rw [if_neg (fun k => k z)]
          have nt : ¬ tdP X y c 1 := fun k => k.elim (fun k => k z) (fun k => l ((lnR_iff hL hc hy).mpr ⟨k.2.2, k.2.1⟩))
          have n : ¬ rI X 66 (64 * i + y) = 2 := ((gi y hy).mp g).resolve_left nt
          rw [if_neg n]
          have z' : rI M' 77 y = 0 := by rw [e77]; exact z
          have nt' : ¬ tdP M' y c 1 := fun k => nt (hK.td.mp k)
          rcases (hS y hy).2.1 with k | k | k
          · rw [stR_5 z' nt' (by rw [e66, k]; decide) (by rw [e66, k]; decide), (hS y hy).2.2.2.2.1 k]; rfl
          · rw [stR_3 z' nt' (by rw [e66]; exact k), (hS y hy).2.2.2.1 k, hK.1 67 _ (by omega) (by omega)]
          · exact absurd k n
        · rw [if_pos z, stR_1 (by rw [e77]; exact z), hK.1 79 _ (by omega) (by omega)]
    have hB : BnV (fgF Y 57 w) := fun y hy => by
      rw [(yv y hy).1, (yv y hy).2]
      by_cases l : hb (lnR X c) (nI y) = true
      · rw [if_pos l, if_pos l]
        exact (hT w hw y hy ((lnR_iff hL hc hy).mp l).1).1 y hy
      · rw [if_neg l, if_neg l, ly y hy]
        by_cases z : ¬ rI X 77 y = 0
        · rw [if_pos z]
          exact ⟨fun _ => i32_in _, fun k => absurd rfl k⟩
        · rw [if_neg z]
          by_cases n : rI X 66 (64 * i + y) = 2
          · rw [if_pos n]
            exact ⟨fun k => absurd (show (1 : Int32) = 0 from k) (by decide), fun _ => rfl⟩
          · rw [if_neg n]
            exact ⟨fun _ => i32_in _, fun k => absurd rfl k⟩
    have hc0 : ∀ y, y < 64 → ¬ hb gv (nI y) = true → (fgF Y 57 w).1 y = 0 ∧ (fgF Y 57 w).2 y = 1 := fun y hy n => by
      obtain ⟨n1, n2⟩ := hfm y hy n
      have l : ¬ hb (lnR X c) (nI y) = true := fun z => by
        obtain ⟨l3, l4⟩ := (lnR_iff hL hc hy).mp z
        exact n1 (Or.inr ⟨by decide, l4, l3⟩)
      rw [(yv y hy).1, (yv y hy).2, if_neg l, if_neg l, ly y hy, if_neg (fun k => n1 (Or.inl k)), if_pos n2]
      exact ⟨rfl, rfl⟩
    have eW : rrW 57 (9 + 6 * i) 47 (lnR X c) w Z = folF 57 (9 + 6 * i) w (odF Z 57) t.2.2 Y := by unfold rrW; rw [td0 Z hZ, ← hY]
    rw [eW]
    obtain ⟨-, f2, f3, f4, f5⟩ := fol_go hi hg hS h36 hu (cgg w) hG (hst w) o4 (fun x hx n => (hfm x hx n).2) (od0 Z hZ) hYd val hB hc0 t.2.2 (Nat.le_refl _)
    refine ⟨(hZ.tr hZY).tr (folF_same _), fun x hx => ?_, f4, fun z hz k => ?_, f5⟩
    · obtain ⟨a, b⟩ := fol_off hg (q := 9 + 6 * i) (v := w) (od := odF Z 57) (Y := Y) t.2.2 (fun t' ht' => (od0 Z hZ t' ht').2) x hx
      rw [a, b, hY, wf_rf, wf_re, (m2 x hx).1, (m2 x hx).2]
      exact l2 x hx
    · rcases k with k | ⟨t', k1, k2⟩
      · exact f2 z hz k
      · exact f3 t' k1 z hz k2
  have all : ∀ v, v ≤ W → Smf 57 (wp X 57 t) (rrO 57 (9 + 6 * i) 47 (lnR X c) v (wp X 57 t)) ∧ ∀ w, w < v → BnV (fgF (rrO 57 (9 + 6 * i) 47 (lnR X c) v (wp X 57 t)) 57 w) ∧ (∀ z, z < 64 → (hb gv (nI z) = true ∨ ∃ t', t' < t.2.2 ∧ t.2.1 t' = nI z) → ((fgF (rrO 57 (9 + 6 * i) 47 (lnR X c) v (wp X 57 t)) 57 w).1 z, (fgF (rrO 57 (9 + 6 * i) 47 (lnR X c) v (wp X 57 t)) 57 w).2 z) = stR M' i c 1 w (fgF (rrO 57 (9 + 6 * i) 47 (lnR X c) v (wp X 57 t)) 57 w) z) ∧ (∀ z, z < 64 → ¬ hb gv (nI z) = true → (∀ t', t' < t.2.2 → ¬ t.2.1 t' = nI z) → (fgF (rrO 57 (9 + 6 * i) 47 (lnR X c) v (wp X 57 t)) 57 w).1 z = 0 ∧ (fgF (rrO 57 (9 + 6 * i) 47 (lnR X c) v (wp X 57 t)) 57 w).2 z = 1) := by
    intro v
    induction v with
    | zero => exact fun _ => ⟨Smf.rf, fun w hw => absurd hw (Nat.not_lt_zero _)⟩
    | succ v ih =>
      intro hv
      obtain ⟨a, b⟩ := ih (by omega)
      obtain ⟨o1, o2, o3', o4', o5⟩ := one _ v (by omega) a
      refine ⟨o1, fun w hw => ?_⟩
      by_cases e : w = v
      · subst e; exact ⟨o3', o4', o5⟩
      · have k : ∀ x, x < 64 → (fgF (rrO 57 (9 + 6 * i) 47 (lnR X c) (v + 1) (wp X 57 t)) 57 w).1 x = (fgF (rrO 57 (9 + 6 * i) 47 (lnR X c) v (wp X 57 t)) 57 w).1 x ∧ (fgF (rrO 57 (9 + 6 * i) 47 (lnR X c) (v + 1) (wp X 57 t)) 57 w).2 x = (fgF (rrO 57 (9 + 6 * i) 47 (lnR X c) v (wp X 57 t)) 57 w).2 x := fun x hx => o2 (w * 64 + x) (by omega)
        obtain ⟨b1, b2, b3⟩ := b w (by omega)
        refine ⟨fun x hx => by rw [(k x hx).1, (k x hx).2]; exact b1 x hx, fun x hx g => ?_, fun x hx n1 n2 => by rw [(k x hx).1, (k x hx).2]; exact b3 x hx n1 n2⟩
        rw [(k x hx).1, (k x hx).2, b2 x hx g]
        exact cgg w _ _ x hx (fun y hy _ => ⟨(k y hy).1.symm, (k y hy).2.symm⟩)
  have eR : rkR X 57 (9 + 6 * i) 47 c W = rrO 57 (9 + 6 * i) 47 (lnR X c) W (wp X 57 t) := by unfold rkR; rw [ePl]; rfl
  rw [eR]
  obtain ⟨a, b⟩ := all W (Nat.le_refl _)
  have e7 : rJ (rrO 57 (9 + 6 * i) 47 (lnR X c) W (wp X 57 t)) 57 7 = s.1 := by rw [a.2.1 57 7 (by decide) (by decide) (by decide), wp_rS, t1]
  refine ⟨SmD.of a, ?_⟩
  unfold RTab
  rw [e7, ← hgv]
  refine ⟨hSt, fun w hw => ?_⟩
  obtain ⟨b1, b2, b3⟩ := b w hw
  refine ⟨b1, fun z hz k => b2 z hz (ts z hz k), fun n => ⟨fun k => b2 c hc (Or.inr ?_), fun k => ?_⟩⟩
  · rcases tcase with ⟨-, e⟩ | ⟨-, -, e⟩
    · exact absurd k (e.resolve_left n)
    · rw [e]
      exact ⟨s.2.2, Nat.lt_succ_self _, if_pos rfl⟩
  · rcases tcase with ⟨e, -⟩ | ⟨-, e, -⟩
    · obtain ⟨k1, k2⟩ := b3 c hc n (fun t' ht' => by rw [e] at ht' ⊢; exact no_c t' ht' n)
      rw [k1, k2]
    · exact absurd e k
