/-! the class's order: what it settles -/
/-- an order over what is given -/
def OrdG (nd : Nat → Int64) (G : Nat → Prop) (T : Nat) (r : Nat → Int32) : Prop := (∀ t, t < T → ∃ x, x < 64 ∧ r t = nI x ∧ ¬ G x ∧ ∀ z, z < 64 → hb (nd x) (nI z) = true → G z ∨ ∃ t', t' < t ∧ r t' = nI z) ∧ (∀ t t', t < T → t' < T → r t = r t' → t = t')
def IP (gv : Int64) (nd : Nat → Int64) (sub : Int32) (s : PS) : Prop := (∀ z, z < 64 → hb gv (nI z) = true → hb s.1 (nI z) = true) ∧ (∀ z, z < 64 → hb s.1 (nI z) = true → hb gv (nI z) = true ∨ (¬ nI z = sub ∧ ∃ t, t < s.2.2 ∧ s.2.1 t = nI z)) ∧ OrdG nd (fun z => hb gv (nI z) = true) s.2.2 s.2.1 ∧ (∀ t, t < s.2.2 → ∃ x, x < 64 ∧ s.2.1 t = nI x ∧ hb s.1 (nI x) = true) ∧ cnt s.1 64 = cnt gv 64 + s.2.2
theorem bit_0 {s : Int64} {c : Nat} (hc : c < 64) : s &&& bitL (nI c) = 0 ↔ ¬ hb s (nI c) = true := by
  rw [hb_iff]
  exact ⟨fun h z => z h, fun h => Classical.not_not.mp h⟩
theorem OrdG.ap {nd : Nat → Int64} {G : Nat → Prop} {T : Nat} {r : Nat → Int32} (h : OrdG nd G T r) {c : Nat} (hc : c < 64) (hg : ¬ G c) (hn : ∀ t, t < T → ¬ r t = nI c) (hd : ∀ z, z < 64 → hb (nd c) (nI z) = true → G z ∨ ∃ t', t' < T ∧ r t' = nI z) : OrdG nd G (T + 1) (fun j => if j = T then nI c else r j) := by
  refine ⟨fun t ht => ?_, fun t t' ht ht' e => ?_⟩
  · by_cases q : t = T
    · subst q
      refine ⟨c, hc, if_pos rfl, hg, fun z hz b => ?_⟩
      rcases hd z hz b with k | ⟨t', k1, k2⟩
      · exact Or.inl k
      · exact Or.inr ⟨t', k1, (if_neg (by omega)).trans k2⟩
    · obtain ⟨x, x1, x2, x3, x4⟩ := h.1 t (by omega)
      refine ⟨x, x1, (if_neg q).trans x2, x3, fun z hz b => ?_⟩
      rcases x4 z hz b with k | ⟨t', k1, k2⟩
      · exact Or.inl k
      · exact Or.inr ⟨t', k1, (if_neg (by omega)).trans k2⟩
  · have e2 : (if t = T then nI c else r t) = (if t' = T then nI c else r t') := e
    by_cases q : t = T
    · by_cases q' : t' = T
      · omega
      · rw [if_pos q, if_neg q'] at e2
        exact absurd e2.symm (hn t' (by omega))
    · by_cases q' : t' = T
      · rw [if_neg q, if_pos q'] at e2
        exact absurd e2 (hn t (by omega))
      · rw [if_neg q, if_neg q'] at e2
        exact h.2 t t' (by omega) (by omega) e2
theorem plA_I {M : Mem} {q : Nat} {sub : Int32} {gv : Int64} {c : Nat} (hc : c < 64) {s : PS} (h : IP gv (rJ M (q + 5)) sub s) : IP gv (rJ M (q + 5)) sub (plA M q sub c s) := by
  unfold plA
  split
  · next k =>
    split
    · exact h
    · next k2 =>
      split
      · next k3 =>
        obtain ⟨h1, h2, h3, h4, h5⟩ := h
        have nb := (bit_0 hc).mp k
        have sub3 := sub_iff.mp k3
        have c1 := cnt_add hc nb 64 (Nat.le_refl _)
        rw [if_pos hc] at c1
        have c2 := cnt_le (s := s.1 ||| bitL (nI c)) 64
        have hT : s.2.2 < 64 := by omega
        have e : appP (s.1 ||| bitL (nI c), s.2) (nI c) = (s.1 ||| bitL (nI c), (fun j => if j = s.2.2 then nI c else s.2.1 j), s.2.2 + 1) := if_pos hT
        rw [e]
        have hn : ∀ t, t < s.2.2 → ¬ s.2.1 t = nI c := fun t ht z => by
          obtain ⟨x, x1, x2, x3⟩ := h4 t ht
          have : x = c := (nI_eq (by omega) (by omega)).mp (x2.symm.trans z)
          exact nb (this ▸ x3)
        refine ⟨fun z hz b => (hb_orb hz hc).mpr (Or.inl (h1 z hz b)), fun z hz b => ?_, h3.ap hc (fun z => nb (h1 c hc z)) hn (fun z hz b => ?_), fun t ht => ?_, by show cnt (s.1 ||| bitL (nI c)) 64 = cnt gv 64 + (s.2.2 + 1); omega⟩
        · rcases (hb_orb hz hc).mp b with b | b
          · rcases h2 z hz b with k | ⟨k0, t, k1, k2⟩
            · exact Or.inl k
            · exact Or.inr ⟨k0, t, Nat.lt_succ_of_lt k1, (if_neg (by omega)).trans k2⟩
          · subst b
            exact Or.inr ⟨k2, s.2.2, Nat.lt_succ_self _, if_pos rfl⟩
        · rcases h2 z hz (sub3 z hz b) with k | ⟨-, k⟩
          · exact Or.inl k
          · exact Or.inr k
        · have ht2 : t < s.2.2 + 1 := ht
          by_cases e : t = s.2.2
          · exact ⟨c, hc, if_pos e, (hb_orb hc hc).mpr (Or.inr rfl)⟩
          · obtain ⟨x, x1, x2, x3⟩ := h4 t (by omega)
            exact ⟨x, x1, (if_neg e).trans x2, (hb_orb x1 hc).mpr (Or.inl x3)⟩
      · exact h
  · exact h
theorem plW_I {M : Mem} {q : Nat} {sub : Int32} {gv : Int64} {s : PS} (h : IP gv (rJ M (q + 5)) sub s) : ∀ c, c ≤ 64 → IP gv (rJ M (q + 5)) sub (plW M q sub c s)
  | 0, _ => h
  | c + 1, hc => plA_I (by omega) (plW_I h c (by omega))
theorem plA_sub {M : Mem} {q : Nat} {sub : Int32} {c : Nat} (hc : c < 64) {s : PS} : ∀ y, y < 64 → hb s.1 (nI y) = true → hb (plA M q sub c s).1 (nI y) = true := by
  intro y hy h
  unfold plA
  split
  · split
    · exact h
    · split
      · unfold appP
        split
        · exact (hb_orb hy hc).mpr (Or.inl h)
        · exact (hb_orb hy hc).mpr (Or.inl h)
      · exact h
  · exact h
theorem plW_more {M : Mem} {q : Nat} {sub : Int32} {s : PS} : ∀ c, c ≤ 64 → ((plW M q sub c s = s ∧ ∀ y, y < c → ¬ hb s.1 (nI y) = true → ¬ nI y = sub → ¬ rJ M (q + 5) y &&& (s.1 ^^^ (-1)) = 0) ∨ (cnt s.1 64 + 1 ≤ cnt (plW M q sub c s).1 64))
  | 0, _ => Or.inl ⟨rfl, fun y hy => absurd hy (Nat.not_lt_zero _)⟩
  | c + 1, hc => by
    have hc64 : c < 64 := by omega
    rcases plW_more (M := M) (q := q) (sub := sub) (s := s) c (by omega) with ⟨e, k⟩ | k
    · show (plA M q sub c (plW M q sub c s) = s ∧ _) ∨ _ ≤ cnt (plA M q sub c (plW M q sub c s)).1 64
      rw [e]
      unfold plA
      by_cases a : s.1 &&& bitL (nI c) = 0
      · rw [if_pos a]
        by_cases b : nI c = sub
        · rw [if_pos b]
          refine Or.inl ⟨rfl, fun y hy n1 n2 => ?_⟩
          by_cases z : y = c
          · subst z; exact absurd b n2
          · exact k y (by omega) n1 n2
        · rw [if_neg b]
          by_cases d : rJ M (q + 5) c &&& (s.1 ^^^ (-1)) = 0
          · rw [if_pos d]
            refine Or.inr ?_
            have e2 : (appP (s.1 ||| bitL (nI c), s.2) (nI c)).1 = s.1 ||| bitL (nI c) := by unfold appP; split <;> rfl
            rw [e2, cnt_add hc64 ((bit_0 hc64).mp a) 64 (Nat.le_refl _), if_pos hc64]
            exact Nat.le_refl _
          · rw [if_neg d]
            refine Or.inl ⟨rfl, fun y hy n1 n2 => ?_⟩
            by_cases z : y = c
            · subst z; exact d
            · exact k y (by omega) n1 n2
      · rw [if_neg a]
        refine Or.inl ⟨rfl, fun y hy n1 n2 => ?_⟩
        by_cases z : y = c
        · subst z; exact absurd ((bit_0 hc64).mpr n1) a
        · exact k y (by omega) n1 n2
    · exact Or.inr (Nat.le_trans k (cnt_mono 64 (Nat.le_refl _) (fun y hy => plA_sub hc64 y hy)))
theorem cnt_full {a : Int64} : ∀ k, k ≤ 64 → cnt a k = k → ∀ y, y < k → hb a (nI y) = true
  | 0, _, _ => fun y hy => absurd hy (Nat.not_lt_zero _)
  | k + 1, hk, h => fun y hy => by
    have l := cnt_le (s := a) k
    unfold cnt at h
    by_cases c : hb a (nI k) = true
    · rw [if_pos c] at h
      by_cases e : y = k
      · subst e; exact c
      · exact cnt_full k (by omega) (by omega) y (by omega)
    · rw [if_neg c] at h
      omega
/-- where it ends: nothing more settles -/
theorem plR_E {M : Mem} {q : Nat} {sub : Int32} {gv : Int64} : ∀ (r : Nat) (s : PS), IP gv (rJ M (q + 5)) sub s → 64 ≤ cnt s.1 64 + r → IP gv (rJ M (q + 5)) sub (plR M q sub r s) ∧ ∀ y, y < 64 → ¬ hb (plR M q sub r s).1 (nI y) = true → ¬ nI y = sub → ¬ rJ M (q + 5) y &&& ((plR M q sub r s).1 ^^^ (-1)) = 0 := by
  intro r
  induction r with
  | zero =>
    intro s h hr
    have := cnt_le (s := s.1) 64
    exact ⟨h, fun y hy n => absurd (cnt_full (a := s.1) 64 (Nat.le_refl _) (by omega) y hy) n⟩
  | succ r ih =>
    intro s h hr
    have h2 := plW_I h 64 (Nat.le_refl _)
    have e : plR M q sub (r + 1) s = if (plW M q sub 64 s).1 = s.1 then plW M q sub 64 s else plR M q sub r (plW M q sub 64 s) := rfl
    rw [e]
    rcases plW_more (M := M) (q := q) (sub := sub) (s := s) 64 (Nat.le_refl _) with ⟨k1, k2⟩ | k
    · rw [if_pos (by rw [k1]), k1]
      exact ⟨h, k2⟩
    · rw [if_neg (fun z => by rw [z] at k; omega)]
      exact ih _ h2 (by omega)
theorem IP.start {gv : Int64} {nd : Nat → Int64} {sub : Int32} {r : Nat → Int32} : IP gv nd sub (gv, r, 0) := ⟨fun _ _ h => h, fun _ _ h => Or.inl h, ⟨fun t ht => absurd ht (Nat.not_lt_zero _), fun t _ ht => absurd ht (Nat.not_lt_zero _)⟩, fun t ht => absurd ht (Nat.not_lt_zero _), rfl⟩
/-- needs, but what is given needs nothing and the subject never settles -/
def ndG (gv : Int64) (nd : Nat → Int64) (sub : Int32) (x : Nat) : Int64 := if hb gv (nI x) = true then 0 else if nI x = sub then bitL (nI x) else nd x
theorem pl_St {gv : Int64} {nd : Nat → Int64} {sub : Int32} {s : PS} (h : IP gv nd sub s) (he : ∀ y, y < 64 → ¬ hb s.1 (nI y) = true → ¬ nI y = sub → ¬ nd y &&& (s.1 ^^^ (-1)) = 0) : ∀ z, z < 64 → (hb s.1 (nI z) = true ↔ StP (ndG gv nd sub) z) := by
  obtain ⟨h1, h2, h3, h4, h5⟩ := h
  have gs : ∀ z, z < 64 → hb gv (nI z) = true → StP (ndG gv nd sub) z := fun z hz b => StP_in hz (fun y hy k => by
    unfold ndG at k
    rw [if_pos b, hb_0 hy] at k
    exact absurd k (by decide))
  have os : ∀ n t, t < n → t < s.2.2 → ∀ x, x < 64 → ¬ nI x = sub → s.2.1 t = nI x → StP (ndG gv nd sub) x := by
    intro n
    induction n with
    | zero => exact fun t h => absurd h (Nat.not_lt_zero _)
    | succ n ih =>
      intro t hn ht x hx ns e
      obtain ⟨y, y1, y2, y3, y4⟩ := h3.1 t ht
      have exy : x = y := (nI_eq (by omega) (by omega)).mp (e.symm.trans y2)
      subst exy
      refine StP_in hx (fun z hz k => ?_)
      unfold ndG at k
      rw [if_neg y3, if_neg ns] at k
      rcases y4 z hz k with g | ⟨t', t1, t2⟩
      · exact gs z hz g
      · obtain ⟨w, w1, w2, w3⟩ := h4 t' (by omega)
        have ewz : w = z := (nI_eq (by omega) (by omega)).mp (w2.symm.trans t2)
        subst ewz
        rcases h2 w hz w3 with g | ⟨g, -⟩
        · exact gs w hz g
        · exact ih t' (by omega) (by omega) w hz g t2
  intro z hz
  constructor
  · intro b
    rcases h2 z hz b with g | ⟨g, t, t1, t2⟩
    · exact gs z hz g
    · exact os (t + 1) t (Nat.lt_succ_self _) t1 z hz g t2
  · intro k
    refine k (fun y => y < 64 → hb s.1 (nI y) = true) (fun y hy p _ => ?_) hz
    by_cases g : hb gv (nI y) = true
    · exact h1 y hy g
    · by_cases ns : nI y = sub
      · exact p y hy (by unfold ndG; rw [if_neg g, if_pos ns, hb_bit hy hy]; exact decide_eq_true rfl) hy
      · refine Classical.byContradiction (fun n => he y hy n ns (sub_iff.mpr (fun w hw b => p w hw ?_ hw)))
        unfold ndG
        rw [if_neg g, if_neg ns]
        exact b
/-! no circle in what settles -/
theorem Ch.trans {nd : Nat → Int64} {x y z : Nat} (hy : y < 64) (h : Ch nd x y) (k : Ch nd y z) : Ch nd x z := fun P p1 p2 => k P (fun u hu b => p2 y hy (h P p1 p2) u hu b) p2
theorem Ch.one {nd : Nat → Int64} {x y : Nat} (hy : y < 64) (b : hb (nd x) (nI y) = true) : Ch nd x y := fun _ p1 _ => p1 y hy b
theorem Ch.first {nd : Nat → Int64} {x y : Nat} (h : Ch nd x y) : hb (nd x) (nI y) = true ∨ ∃ z, z < 64 ∧ hb (nd x) (nI z) = true ∧ Ch nd z y := by
  refine h (fun u => hb (nd x) (nI u) = true ∨ ∃ z, z < 64 ∧ hb (nd x) (nI z) = true ∧ Ch nd z u) (fun u hu b => Or.inl b) (fun u hu p w hw b => Or.inr ?_)
  rcases p with q | ⟨z, z1, z2, z3⟩
  · exact ⟨u, hu, q, Ch.one hw b⟩
  · exact ⟨z, z1, z2, z3.trans hu (Ch.one hw b)⟩
theorem St_nc {nd : Nat → Int64} {x : Nat} (h : StP nd x) : x < 64 → ¬ Ch nd x x := h (fun y => y < 64 → ¬ Ch nd y y) (fun y hy p _ c => by
  rcases c.first with q | ⟨z, z1, z2, z3⟩
  · exact p y hy q hy c
  · exact p z z1 z2 z1 (z3.trans hy (Ch.one z1 z2)))
/-- the subject settles when all that it needs settles without it -/
theorem sub_St {nd ndS : Nat → Int64} {c : Nat} (hc : c < 64) (hS : ∀ y, y < 64 → ¬ y = c → ndS y = nd y) (hs : hb (ndS c) (nI c) = true) : StP nd c ↔ ∀ z, z < 64 → hb (nd c) (nI z) = true → StP ndS z := by
  constructor
  · intro h z hz b
    have key : StP ndS z ∨ z = c ∨ Ch nd z c := (StP_out h z hz b) (fun y => y < 64 → StP ndS y ∨ y = c ∨ Ch nd y c) (fun y hy p _ => by
      by_cases e : y = c
      · exact Or.inr (Or.inl e)
      · by_cases a : ∀ w, w < 64 → hb (nd y) (nI w) = true → StP ndS w
        · exact Or.inl (StP_in hy (fun w hw k => a w hw (by rw [← hS y hy e]; exact k)))
        · refine Or.inr (Or.inr ?_)
          obtain ⟨w, hw⟩ := Classical.not_forall.mp a
          obtain ⟨w1, hw⟩ := Classical.not_imp.mp hw
          obtain ⟨w2, hw⟩ := Classical.not_imp.mp hw
          rcases p w w1 w2 w1 with q | q | q
          · exact absurd q hw
          · exact Ch.one hc (q ▸ w2)
          · exact (Ch.one w1 w2).trans w1 q) hz
    have nc := St_nc h hc
    rcases key with q | q | q
    · exact q
    · exact absurd (Ch.one hc (q ▸ b)) nc
    · exact absurd ((Ch.one hz b).trans hz q) nc
  · intro h
    have up : ∀ z, z < 64 → StP ndS z → StP nd z := fun z hz k => k (fun y => y < 64 → StP nd y) (fun y hy p _ => by
      by_cases e : y = c
      · subst e; exact p y hy hs hy
      · exact StP_in hy (fun w hw b => p w hw (by rw [hS y hy e]; exact b) hw)) hz
    exact StP_in hc (fun z hz b => up z hz (h z hz b))
/-- one more cell of the order is worked -/
theorem wkG_step {nd : Nat → Int64} {st : FS → Nat → Int64 × Int32} (cg : Cgr nd st) {G : Nat → Prop} {T : Nat} {r : Nat → Int32} (ho : OrdG nd G T r) (hG : ∀ x, x < 64 → G x → nd x = 0) {t x : Nat} (ht : t < T) (hx : x < 64) (e : r t = nI x) {V V' : FS} (hg : ∀ y, y < 64 → G y → (V.1 y, V.2 y) = st V y) (h : WInv st r t V) (hV : ∀ y, y < 64 → ¬ y = x → V'.1 y = V.1 y ∧ V'.2 y = V.2 y) (hk : (V'.1 x, V'.2 x) = st V x) : (∀ y, y < 64 → G y → (V'.1 y, V'.2 y) = st V' y) ∧ WInv st r (t + 1) V' := by
  have gx : ¬ G x := by
    obtain ⟨y, y1, y2, y3, -⟩ := ho.1 t ht
    have : x = y := (nI_eq (by omega) (by omega)).mp (e.symm.trans y2)
    exact this ▸ y3
  have ne : ∀ t', t' < T → ∀ y, y < 64 → r t' = nI y → ¬ t' = t → ¬ y = x := fun t' ht' y hy q n z => n (ho.2 t' t ht' ht (q.trans (z ▸ e.symm)))
  have nn : ∀ t', t' ≤ t → ∀ y, y < 64 → r t' = nI y → ∀ z, z < 64 → hb (nd y) (nI z) = true → ¬ z = x := fun t' ht' y hy q z hz b w => by
    obtain ⟨u, hu, a, -, d⟩ := ho.1 t' (by omega)
    have e3 : u = y := (nI_eq (by omega) (by omega)).mp (a.symm.trans q)
    subst e3
    rcases d z hz b with g | ⟨t2, h2, k2⟩
    · exact gx (w ▸ g)
    · exact ne t2 (by omega) z hz k2 (by omega) w
  refine ⟨fun y hy g => ?_, fun t' ht' y hy q => ?_⟩
  · have n : ¬ y = x := fun z => gx (z ▸ g)
    rw [(hV y hy n).1, (hV y hy n).2, hg y hy g]
    refine cg _ _ y hy (fun z hz b => ?_)
    rw [hG y hy g, hb_0 hz] at b
    exact absurd b (by decide)
  · by_cases z : t' = t
    · subst z
      have e3 : y = x := (nI_eq (by omega) (by omega)).mp (q.symm.trans e)
      subst e3
      rw [hk]
      refine cg _ _ y hy (fun z hz b => ?_)
      have n := nn t' (Nat.le_refl _) y hy q z hz b
      rw [(hV z hz n).1, (hV z hz n).2]
      exact ⟨rfl, rfl⟩
    · have n := ne t' (by omega) y hy q z
      rw [(hV y hy n).1, (hV y hy n).2, h t' (by omega) y hy q]
      refine cg _ _ y hy (fun z hz b => ?_)
      have n := nn t' (by omega) y hy q z hz b
      rw [(hV z hz n).1, (hV z hz n).2]
      exact ⟨rfl, rfl⟩
