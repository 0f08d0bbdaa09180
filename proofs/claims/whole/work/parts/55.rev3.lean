/-! what a formula needs, bit by bit; reckoning looks at that alone -/
theorem rgF_iff {a b : Nat} {s : Int64} {z : Nat} (hz : z < 64) : ∀ x, x ≤ 64 → (hb (rgF a b s x) (nI z) = true ↔ hb s (nI z) = true ∨ (z < x ∧ iwP z a b))
  | 0, _ => ⟨Or.inl, fun h => h.elim id (fun q => absurd q.1 (Nat.not_lt_zero _))⟩
  | x + 1, hx => by
    have ih := rgF_iff (a := a) (b := b) (s := s) hz x (by omega)
    unfold rgF
    by_cases c : iwP x a b
    · rw [if_pos c, hb_orb hz (by omega), ih]
      constructor
      · rintro ((h | ⟨h, h2⟩) | h)
        · exact Or.inl h
        · exact Or.inr ⟨by omega, h2⟩
        · exact Or.inr ⟨by omega, h ▸ c⟩
      · rintro (h | ⟨h, h2⟩)
        · exact Or.inl (Or.inl h)
        · by_cases e : z = x
          · exact Or.inr e
          · exact Or.inl (Or.inr ⟨by omega, h2⟩)
    · rw [if_neg c, ih]
      constructor
      · rintro (h | ⟨h, h2⟩)
        · exact Or.inl h
        · exact Or.inr ⟨by omega, h2⟩
      · rintro (h | ⟨h, h2⟩)
        · exact Or.inl h
        · by_cases e : z = x
          · exact absurd (e ▸ h2) c
          · exact Or.inr ⟨by omega, h2⟩
/-- the operand names the cell -/
def nzP (o a b : Int32) (z : Nat) : Prop := (o = 1 ∧ a = nI z) ∨ (o = 2 ∧ iwP z a.toNatClampNeg b.toNatClampNeg)
theorem nmT_iff {o a b : Int32} {s : Int64} {z : Nat} (hz : z < 64) (hc : o = 1 → ∃ c, c < 64 ∧ a = nI c) : hb (nmT o a b s) (nI z) = true ↔ hb s (nI z) = true ∨ nzP o a b z := by
  unfold nmT nzP
  by_cases c : o = 1
  · obtain ⟨d, hd, e⟩ := hc c
    rw [if_pos c, e, hb_orb hz hd]
    have q : z = d ↔ nI d = nI z := by rw [nI_eq (by omega) (by omega)]; exact eq_comm
    rw [q]
    constructor
    · rintro (h | h)
      · exact Or.inl h
      · exact Or.inr (Or.inl ⟨c, h⟩)
    · rintro (h | ⟨_, h⟩ | ⟨h, _⟩)
      · exact Or.inl h
      · exact Or.inr h
      · exact absurd (c.symm.trans h) (by decide)
  · rw [if_neg c]
    by_cases d : o = 2
    · rw [if_pos d, rgF_iff hz 64 (Nat.le_refl _)]
      constructor
      · rintro (h | ⟨_, h⟩)
        · exact Or.inl h
        · exact Or.inr (Or.inr ⟨d, h⟩)
      · rintro (h | ⟨h, _⟩ | ⟨_, h⟩)
        · exact Or.inl h
        · exact absurd h c
        · exact Or.inr ⟨hz, h⟩
    · rw [if_neg d]
      exact ⟨Or.inl, fun h => h.elim id (fun q => q.elim (fun r => absurd r.1 c) (fun r => absurd r.1 d))⟩
theorem nmF_iff {o a b : Nat → Int32} {z : Nat} (hz : z < 64) : ∀ m, (∀ i, i < m → o i = 1 → ∃ c, c < 64 ∧ a i = nI c) → (hb (nmF o a b m) (nI z) = true ↔ ∃ i, i < m ∧ nzP (o i) (a i) (b i) z)
  | 0, _ => by
    show hb 0 (nI z) = true ↔ _
    rw [hb_0 hz]
    exact ⟨fun h => absurd h (by decide), fun ⟨i, h, _⟩ => absurd h (Nat.not_lt_zero _)⟩
  | m + 1, hc => by
    unfold nmF
    rw [nmT_iff hz (hc m (by omega)), nmF_iff hz m (fun i hi => hc i (by omega))]
    constructor
    · rintro (⟨i, h, h2⟩ | h)
      · exact ⟨i, by omega, h2⟩
      · exact ⟨m, by omega, h⟩
    · rintro ⟨i, h, h2⟩
      by_cases e : i = m
      · exact Or.inr (e ▸ h2)
      · exact Or.inl ⟨i, by omega, h2⟩
theorem nmF_cg {o a b o' a' b' : Nat → Int32} : ∀ m, (∀ i, i < m → o i = o' i ∧ a i = a' i ∧ b i = b' i) → nmF o a b m = nmF o' a' b' m
  | 0, _ => rfl
  | m + 1, h => by
    obtain ⟨e1, e2, e3⟩ := h m (by omega)
    show nmT (o m) (a m) (b m) (nmF o a b m) = nmT (o' m) (a' m) (b' m) (nmF o' a' b' m)
    rw [e1, e2, e3, nmF_cg m (fun i hi => h i (by omega))]
theorem Agm.pR {s t : MS} (h : Agm s t) (x : Int64) (e : Int32) : Agm (pR s x e) (pR t x e) := by
  refine ⟨congrArg (· + 1) h.1, rfl, fun j hj => ?_⟩
  show (if j = s.2.1 then x else s.1 j) = if j = t.2.1 then x else t.1 j
  rw [← h.1]
  by_cases q : j = s.2.1
  · rw [if_pos q, if_pos q]
  · rw [if_neg q, if_neg q]; exact h.2.2 j (by have : j < s.2.1 + 1 := hj; omega)
theorem Agm.rC {s t : MS} (h : Agm s t) (x : Int64) : Agm (rC s x) (rC t x) := by unfold Jvm.Pilot.CSheetMarkerLaw_law_r3556_1c36da.rC; rw [h.2.1]; exact h.pR _ _
theorem Agm.dn1 {s t : MS} (h : Agm s t) : Agm (dn1 s) (dn1 t) := ⟨congrArg (· - 1) h.1, h.2.1, fun j hj => h.2.2 j (by have : j < s.2.1 - 1 := hj; omega)⟩
theorem Agm.dn2 {s t : MS} (h : Agm s t) : Agm (dn2 s) (dn2 t) := ⟨congrArg (· - 2) h.1, h.2.1, fun j hj => h.2.2 j (by have : j < s.2.1 - 2 := hj; omega)⟩
theorem Agm.rW {s t : MS} (h : Agm s t) (h2 : 2 ≤ s.2.1) (k : Int32) : Agm (rW s k) (rW t k) := by
  unfold Jvm.Pilot.CSheetMarkerLaw_law_r3556_1c36da.rW rT rP
  rw [← h.1, ← h.2.2 (s.2.1 - 2) (by omega), ← h.2.2 (s.2.1 - 1) (by omega)]
  have d := h.dn2
  split
  · exact d.rC _
  · split
    · exact d.rC _
    · split
      · split
        · exact d.err 3
        · exact d.rC _
      · split
        · split
          · exact d.err 2
          · exact d.rC _
        · exact d.rC _
theorem rgL_cg {V V' : FS} {a b : Nat} {w : Int32} : ∀ x, (∀ z, z < x → iwP z a b → V.1 z = V'.1 z ∧ V.2 z = V'.2 z) → rgL V a b w x = rgL V' a b w x
  | 0, _ => rfl
  | x + 1, h => by
    unfold rgL
    rw [rgL_cg x (fun z hz => h z (by omega))]
    split
    · split
      · next c =>
        obtain ⟨e1, e2⟩ := h x (by omega) c
        unfold rgS
        rw [e1, e2]
      · rfl
    · rfl
theorem rvF_ag {V V' : FS} {o a b : Nat → Int32} {r r' : Nat → Int64} {m : Nat} (hw : WFK o a b m) (hh : WHK o m) (hV : ∀ z, z < 64 → hb (nmF o a b m) (nI z) = true → V.1 z = V'.1 z ∧ V.2 z = V'.2 z) : ∀ i, i ≤ m → Agm (rvF V o a b r i) (rvF V' o a b r' i)
  | 0, _ => ⟨rfl, rfl, fun j hj => absurd hj (Nat.not_lt_zero _)⟩
  | i + 1, hi => by
    have ih := rvF_ag (r := r) (r' := r') hw hh hV i (by omega)
    have hht := rvF_h (V := V) (a := a) (b := b) (r := r) hh i (by omega)
    have hn : ∀ z, z < 64 → nzP (o i) (a i) (b i) z → V.1 z = V'.1 z ∧ V.2 z = V'.2 z := fun z hz q => hV z hz ((nmF_iff hz m (fun i hi => (hw i hi).1)).mpr ⟨i, hi, q⟩)
    unfold rvF
    rw [← ih.2.1]
    split
    · next e0 =>
      have hh2 := hht e0
      unfold rvA
      split
      · exact ih.rC _
      · split
        · next c =>
          obtain ⟨d, hd, e⟩ := (hw i hi).1 c
          have k := hn d hd (Or.inl ⟨c, e⟩)
          rw [e, j64_c hd, k.1, k.2]
          exact ih.pR _ _
        · split
          · next c =>
            unfold rgE
            rw [← ih.2.1, rgL_cg 64 (fun z hz q => hn z hz (Or.inr ⟨c, q⟩))]
            exact ih.pR _ _
          · split
            · next c0 c1 c2 c3 =>
              have h1 : 1 ≤ htR o i := by
                rcases hh i hi with q | ⟨-, q⟩ | ⟨q, -⟩
                · exact absurd q (fun z => z.elim c0 (fun z => z.elim c1 c2))
                · exact q
                · exact absurd q (by rw [c3]; decide)
              rw [← ih.1, ← ih.2.2 _ (show (rvF V o a b r i).2.1 - 1 < (rvF V o a b r i).2.1 by omega)]
              exact ih.dn1.rC _
            · next c0 c1 c2 c3 =>
              have h2 : 2 ≤ htR o i := by
                rcases hh i hi with q | ⟨q, -⟩ | ⟨-, q⟩
                · exact absurd q (fun z => z.elim c0 (fun z => z.elim c1 c2))
                · exact absurd q c3
                · exact q
              exact ih.rW (by omega) _
    · exact ih
/-- what comes out of the reference's formula -/
def roF (s : MS) : Int64 × Int32 := if s.2.2 = 0 then (s.1 0, 0) else (0, s.2.2)
def mnR (M : Mem) (k : Nat) : Nat := (rI M 70 k).toNatClampNeg
def rvE (M : Mem) (k : Nat) (V : FS) : Int64 × Int32 := roF (rvF V (rOp M k) (rAr M k) (rA2 M k) (fun _ => 0) (mnR M k))
def RFK (M : Mem) (k : Nat) : Prop := mnR M k ≤ 40 ∧ rI M 70 k = nI (mnR M k) ∧ WFK (rOp M k) (rAr M k) (rA2 M k) (mnR M k) ∧ WHK (rOp M k) (mnR M k) ∧ htR (rOp M k) (mnR M k) = 1
def NmK (M : Mem) (k : Nat) : Prop := rJ M 76 k = nmF (fun i => rI M 71 (40 * k + i)) (fun i => rI M 72 (40 * k + i)) (fun i => rI M 73 (40 * k + i)) (mnR M k)
theorem RFK.wf {M : Mem} {k : Nat} (h : RFK M k) : RWF M k := ⟨mnR M k, h.1, h.2.1, h.2.2.1⟩
theorem rv_out {V V' : FS} {o a b : Nat → Int32} {r r' : Nat → Int64} {m : Nat} (hw : WFK o a b m) (hh : WHK o m) (h1 : htR o m = 1) (hV : ∀ z, z < 64 → hb (nmF o a b m) (nI z) = true → V.1 z = V'.1 z ∧ V.2 z = V'.2 z) : roF (rvF V o a b r m) = roF (rvF V' o a b r' m) := by
  have k := rvF_ag (r := r) (r' := r') hw hh hV m (Nat.le_refl _)
  have e := rvF_h (V := V) (a := a) (b := b) (r := r) hh m (Nat.le_refl _)
  unfold roF
  rw [← k.2.1]
  split
  · next c => rw [k.2.2 0 (by rw [e c, h1]; decide)]
  · rfl
theorem rOp_no {M : Mem} {k i : Nat} (h : ¬ rI M 64 36 = nI (40 * k + i)) : rOp M k i = rI M 71 (40 * k + i) ∧ rAr M k i = rI M 72 (40 * k + i) ∧ rA2 M k i = rI M 73 (40 * k + i) := ⟨if_neg h, if_neg h, if_neg h⟩
theorem nR_eq {M : Mem} {i x : Nat} (hi : i < 6) (hx : x < 64) (hm : mnR M (64 * i + x) ≤ 40) (hn : NmK M (64 * i + x)) (h2 : rI M 66 (64 * i + x) = 2) (h0 : rI M 77 x = 0) : nR M i x = nmM M (64 * i + x) := by
  have g : (∀ j, j < mnR M (64 * i + x) → ¬ rI M 64 36 = nI (40 * (64 * i + x) + j)) → rJ M 76 (64 * i + x) = nmM M (64 * i + x) := fun g => by
    rw [hn]
    exact nmF_cg _ (fun j hj => ⟨(rOp_no (g j hj)).1.symm, (rOp_no (g j hj)).2.1.symm, (rOp_no (g j hj)).2.2.symm⟩)
  unfold nR
  rw [if_neg (fun z => z h2), if_neg (fun z => z h0)]
  split
  · next c =>
    refine g (fun j hj z => ?_)
    rw [z, Int32.lt_iff_toInt_lt, nIt (by omega), nIt (by omega)] at c
    omega
  · split
    · next c =>
      refine g (fun j hj z => ?_)
      rw [z, Int32.le_iff_toInt_le, nIt (by omega), nIt (by omega)] at c
      omega
    · rfl
/-- one step: what a cell is by what the others are -/
def stR (M : Mem) (i c : Nat) (rt : Int32) (w : Nat) (V : FS) (x : Nat) : Int64 × Int32 :=
  if ¬ rI M 77 x = 0 then ((rI M 79 (64 * w + x)).toInt64, 0) else if tdP M x c rt then (rJ M 80 (64 * w + x), rI M 81 (64 * w + x)) else if rI M 66 (64 * i + x) = 1 then ((rI M 67 (64 * i + x)).toInt64, 0) else if rI M 66 (64 * i + x) = 2 then rvE M (64 * i + x) V else (0, 0)
def Cgr (nd : Nat → Int64) (st : FS → Nat → Int64 × Int32) : Prop := ∀ (V V' : FS) (x : Nat), x < 64 → (∀ z, z < 64 → hb (nd x) (nI z) = true → V.1 z = V'.1 z ∧ V.2 z = V'.2 z) → st V x = st V' x
def Sol (nd : Nat → Int64) (st : FS → Nat → Int64 × Int32) (c : Nat) (p : Int64 × Int32) : Prop := ∃ (S : Nat → Prop) (V : FS), S c ∧ (∀ x, x < 64 → S x → (V.1 x, V.2 x) = st V x ∧ ∀ z, z < 64 → hb (nd x) (nI z) = true → S z) ∧ (V.1 c, V.2 c) = p
theorem Sol_uniq {nd : Nat → Int64} {st : FS → Nat → Int64 × Int32} (cg : Cgr nd st) {c : Nat} (hc : c < 64) (hs : StP nd c) {p q : Int64 × Int32} (h : Sol nd st c p) (k : Sol nd st c q) : p = q := by
  obtain ⟨S, V, a1, a2, rfl⟩ := h
  obtain ⟨S', V', b1, b2, rfl⟩ := k
  refine hs (fun y => y < 64 → S y → S' y → (V.1 y, V.2 y) = (V'.1 y, V'.2 y)) (fun y hy p _ c1 c2 => ?_) hc a1 b1
  rw [(a2 y hy c1).1, (b2 y hy c2).1]
  refine cg V V' y hy (fun z hz q => ?_)
  have e := p z hz q hz ((a2 y hy c1).2 z hz q) ((b2 y hy c2).2 z hz q)
  exact ⟨congrArg Prod.fst e, congrArg Prod.snd e⟩
/-- the answer: what a settled cell is, or a circle -/
def Ans (nd : Nat → Int64) (st : FS → Nat → Int64 × Int32) (c : Nat) (p : Int64 × Int32) : Prop := (StP nd c ∧ Sol nd st c p) ∨ (¬ StP nd c ∧ p = (0, 1))
theorem Ans_uniq {nd : Nat → Int64} {st : FS → Nat → Int64 × Int32} (cg : Cgr nd st) {c : Nat} (hc : c < 64) {p q : Int64 × Int32} (h : Ans nd st c p) (k : Ans nd st c q) : p = q := by
  rcases h with ⟨a, b⟩ | ⟨a, b⟩
  · rcases k with ⟨a', b'⟩ | ⟨a', _⟩
    · exact Sol_uniq cg hc a b b'
    · exact absurd a a'
  · rcases k with ⟨a', _⟩ | ⟨_, b'⟩
    · exact absurd a' a
    · rw [b, b']
theorem stR_told {M : Mem} {i c : Nat} {rt : Int32} {w x : Nat} {V V' : FS} (h : tdP M x c rt) : stR M i c rt w V x = stR M i c rt w V' x := by
  unfold stR
  split
  · rfl
  · rfl
theorem stR_cg {M : Mem} {i c : Nat} {rt : Int32} {w : Nat} (hi : i < 6) (hr : ∀ j, j < 64 → rI M 66 (64 * i + j) = 2 → RFK M (64 * i + j) ∧ NmK M (64 * i + j)) : Cgr (ndR M i c rt) (stR M i c rt w) := by
  intro V V' x hx h
  by_cases t : tdP M x c rt
  · exact stR_told t
  · have e : ndR M i c rt x = nR M i x := if_neg t
    have h0 : rI M 77 x = 0 := Classical.byContradiction (fun z => t (Or.inl z))
    unfold stR
    have hn : ¬ ¬ rI M 77 x = 0 := fun z => z h0
    rw [if_neg hn, if_neg t, if_neg hn, if_neg t]
    split
    · rfl
    · split
      · next c2 =>
        obtain ⟨r, n⟩ := hr x hx c2
        rw [e, nR_eq hi hx r.1 n c2 h0] at h
        exact rv_out r.2.2.1 r.2.2.2.1 r.2.2.2.2 h
      · rfl
/-- as far as the order is worked -/
def WInv (st : FS → Nat → Int64 × Int32) (r : Nat → Int32) (t : Nat) (V : FS) : Prop := ∀ t', t' < t → ∀ y, y < 64 → r t' = nI y → (V.1 y, V.2 y) = st V y
theorem wk_step {nd : Nat → Int64} {st : FS → Nat → Int64 × Int32} (cg : Cgr nd st) {c T : Nat} {r : Nat → Int32} (ho : OrdOK nd c T r) {t x : Nat} (ht : t < T) (hx : x < 64) (e : r t = nI x) {V W V' : FS} (h : WInv st r t V) (hW : ∀ y, y < 64 → ¬ y = x → W.1 y = V.1 y ∧ W.2 y = V.2 y) (hV : ∀ y, y < 64 → ¬ y = x → V'.1 y = V.1 y ∧ V'.2 y = V.2 y) (hk : (V'.1 x, V'.2 x) = st W x) : WInv st r (t + 1) V' := by
  have ne : ∀ t', t' < T → ∀ y, y < 64 → r t' = nI y → ¬ t' = t → ¬ y = x := fun t' ht' y hy q n z => n (ho.2.2 t' t ht' ht (q.trans (z ▸ e.symm)))
  have nn : ∀ t', t' ≤ t → ∀ y, y < 64 → r t' = nI y → ∀ z, z < 64 → hb (nd y) (nI z) = true → ¬ z = x := fun t' ht' y hy q z hz b => by
    obtain ⟨u, hu, a, d⟩ := ho.2.1 t' (by omega)
    have e3 : u = y := (nI_eq (by omega) (by omega)).mp (a.symm.trans q)
    subst e3
    obtain ⟨t2, h2, k2⟩ := d z hz b
    exact ne t2 (by omega) z hz k2 (by omega)
  intro t' ht' y hy q
  by_cases z : t' = t
  · subst z
    have e3 : y = x := (nI_eq (by omega) (by omega)).mp (q.symm.trans e)
    subst e3
    rw [hk]
    refine cg _ _ y hy (fun z hz b => ?_)
    have n := nn t' (Nat.le_refl _) y hy q z hz b
    rw [(hW z hz n).1, (hW z hz n).2, (hV z hz n).1, (hV z hz n).2]
    exact ⟨rfl, rfl⟩
  · have n := ne t' (by omega) y hy q z
    rw [(hV y hy n).1, (hV y hy n).2, h t' (by omega) y hy q]
    refine cg _ _ y hy (fun z hz b => ?_)
    have n := nn t' (by omega) y hy q z hz b
    rw [(hV z hz n).1, (hV z hz n).2]
    exact ⟨rfl, rfl⟩
theorem wk_end {nd : Nat → Int64} {st : FS → Nat → Int64 × Int32} {c T : Nat} {r : Nat → Int32} (ho : OrdOK nd c T r) {V : FS} (h : WInv st r T V) : Sol nd st c (V.1 c, V.2 c) := by
  refine ⟨fun x => ∃ t, t < T ∧ r t = nI x, V, ho.1, fun x hx ⟨t, ht, e⟩ => ⟨h t ht x hx e, fun z hz b => ?_⟩, rfl⟩
  obtain ⟨y, hy, a, d⟩ := ho.2.1 t ht
  have e3 : y = x := (nI_eq (by omega) (by omega)).mp (a.symm.trans e)
  subst e3
  obtain ⟨t', h', k'⟩ := d z hz b
  exact ⟨t', by omega, k'⟩
