/-! the class's steps and the reference's rows: needs, and what comes out -/
def RowN (C : Cod) (k : Nat) (o a b : Int32) : Prop := (o = 1 ∧ C.1 k = 2 ∧ C.2 k = a ∧ ∃ c, c < 64 ∧ a = nI c) ∨ (o = 2 ∧ C.1 k = 3 ∧ C.2 k = a ∧ C.1 (k + 1) = 3 ∧ C.2 (k + 1) = b ∧ C.1 (k + 2) = 5 ∧ ∃ c e, c < 64 ∧ e < 64 ∧ a = nI c ∧ b = nI e) ∨ (¬ o = 1 ∧ ¬ o = 2 ∧ ¬ C.1 k = 2 ∧ ¬ C.1 k = 3 ∧ ¬ C.1 k = 5)
theorem ns_nm {C : Cod} {o a b : Nat → Int32} {J : Nat → Nat} {m : Nat} (j0 : J 0 = 0) (hJ : ∀ i, i < m → RowN C (J i) (o i) (a i) (b i) ∧ J (i + 1) = J i + wdT (o i)) {z : Nat} (hz : z < 64) : ∀ i, i ≤ m → (hb (nsF C (J i)).1 (nI z) = true ↔ ∃ x, x < i ∧ nzP (o x) (a x) (b x) z)
  | 0, _ => by
    rw [j0]
    show hb 0 (nI z) = true ↔ _
    rw [hb_0 hz]
    exact ⟨fun q => absurd q (by decide), fun ⟨x, h, _⟩ => absurd h (Nat.not_lt_zero _)⟩
  | i + 1, hi => by
    have ih := ns_nm j0 hJ hz i (by omega)
    obtain ⟨hr, hw⟩ := hJ i (by omega)
    have key : hb (nsF C (J (i + 1))).1 (nI z) = true ↔ hb (nsF C (J i)).1 (nI z) = true ∨ nzP (o i) (a i) (b i) z := by
      rw [hw]
      rcases hr with ⟨h1, h2, h3, c, hc, h4⟩ | ⟨h1, h2, h3, h4, h5, h6, c, e, hc, he, h7, h8⟩ | ⟨h1, h2, h3, h4, h5⟩
      · rw [show wdT (o i) = 1 from if_neg (by rw [h1]; decide)]
        show hb (nsA (C.1 (J i)) (C.2 (J i)) (nsF C (J i))).1 (nI z) = true ↔ _
        unfold nsA nzP
        rw [if_pos h2, h3, h4, hb_orb hz hc]
        have q : z = c ↔ nI c = nI z := by rw [nI_eq (by omega) (by omega)]; exact eq_comm
        rw [q, h1]
        constructor
        · rintro (h | h)
          · exact Or.inl h
          · exact Or.inr (Or.inl ⟨rfl, h⟩)
        · rintro (h | ⟨_, h⟩ | ⟨h, _⟩)
          · exact Or.inl h
          · exact Or.inr h
          · exact absurd h (by decide)
      · rw [show wdT (o i) = 3 from if_pos h1]
        have e1 : nsF C (J i + 1) = ((nsF C (J i)).1, (nsF C (J i)).2.2, nI c) := by
          show nsA (C.1 (J i)) (C.2 (J i)) (nsF C (J i)) = _
          unfold nsA
          rw [if_neg (by rw [h2]; decide), if_pos h2, h3, h7]
        have e2 : nsF C (J i + 1 + 1) = ((nsF C (J i)).1, nI c, nI e) := by
          show nsA (C.1 (J i + 1)) (C.2 (J i + 1)) (nsF C (J i + 1)) = _
          unfold nsA
          rw [if_neg (by rw [h4]; decide), if_pos h4, h5, h8, e1]
        have e3 : nsF C (J i + 3) = ((nsF C (J i)).1 ||| rcL c e, nI c, nI e) := by
          show nsA (C.1 (J i + 2)) (C.2 (J i + 2)) (nsF C (J i + 1 + 1)) = _
          unfold nsA
          rw [if_neg (by rw [h6]; decide), if_neg (by rw [h6]; decide), if_pos h6, e2, j64_c hc, j64_c he]
        rw [e3, hb_orI hz, rcL_bit hc he hz]
        unfold nzP
        rw [h7, h8, j64_c hc, j64_c he, h1]
        constructor
        · rintro (h | h)
          · exact Or.inl h
          · exact Or.inr (Or.inr ⟨rfl, h⟩)
        · rintro (h | ⟨h, _⟩ | ⟨_, h⟩)
          · exact Or.inl h
          · exact absurd h (by decide)
          · exact Or.inr h
      · rw [show wdT (o i) = 1 from if_neg h2]
        show hb (nsA (C.1 (J i)) (C.2 (J i)) (nsF C (J i))).1 (nI z) = true ↔ _
        unfold nsA nzP
        rw [if_neg h3, if_neg h4, if_neg h5]
        exact ⟨Or.inl, fun q => q.elim id (fun q => q.elim (fun q => absurd q.1 h1) (fun q => absurd q.1 h2))⟩
    rw [key, ih]
    constructor
    · rintro (⟨x, h, h2⟩ | h)
      · exact ⟨x, by omega, h2⟩
      · exact ⟨i, by omega, h⟩
    · rintro ⟨x, h, h2⟩
      by_cases e : x = i
      · exact Or.inr (e ▸ h2)
      · exact Or.inl ⟨x, by omega, h2⟩
theorem ns_eq {C : Cod} {o a b : Nat → Int32} {J : Nat → Nat} {m : Nat} (j0 : J 0 = 0) (hJ : ∀ i, i < m → RowN C (J i) (o i) (a i) (b i) ∧ J (i + 1) = J i + wdT (o i)) : (nsF C (J m)).1 = nmF o a b m := by
  refine hb_ext (fun z hz => ?_)
  rw [ns_nm j0 hJ hz m (Nat.le_refl _), nmF_iff hz m (fun i hi => ?_)]
  intro h
  rcases (hJ i hi).1 with ⟨-, -, -, q⟩ | ⟨q, -⟩ | ⟨q, -⟩
  · exact q
  · exact absurd (h.symm.trans q) (by decide)
  · exact absurd h q
/-! what comes out -/
def RowE (C : Cod) (k : Nat) (o a b : Int32) : Prop := (o = 0 ∧ C.1 k = 1 ∧ C.2 k = a) ∨ (o = 1 ∧ C.1 k = 2 ∧ C.2 k = a ∧ ∃ c, c < 64 ∧ a = nI c) ∨ (o = 2 ∧ C.1 k = 3 ∧ C.2 k = a ∧ C.1 (k + 1) = 3 ∧ C.2 (k + 1) = b ∧ C.1 (k + 2) = 5 ∧ ∃ c e, c < 64 ∧ e < 64 ∧ a = nI c ∧ b = nI e) ∨ (o = 3 ∧ C.1 k = 4) ∨ ((o = 4 ∨ o = 5 ∨ o = 6 ∨ o = 7) ∧ C.1 k = sgR o) ∨ (o = 8 ∧ C.1 k = 6)
def Inb (x : Int64) : Prop := ¬ (GRT < x ∨ x < -1000000000000)
/-- figures in bounds; none beside an error -/
def BnV (V : FS) : Prop := ∀ c, c < 64 → (V.2 c = 0 → Inb (V.1 c)) ∧ (¬ V.2 c = 0 → V.1 c = 0)
def EvR (s σ : MS) : Prop := s.2.2 = σ.2.2 ∧ (σ.2.2 = 0 → s.2.1 = σ.2.1 ∧ ∀ j, j < s.2.1 → s.1 j = σ.1 j)
theorem push_in {s : MS} {x : Int64} (h : Inb x) (hh : s.2.1 < 40) : pushS s x = (fun j => if j = s.2.1 then x else s.1 j, s.2.1 + 1, s.2.2) := by
  unfold pushS
  rw [if_neg h, if_pos hh]
theorem push_out {s : MS} {x : Int64} (h : ¬ Inb x) : pushS s x = (s.1, s.2.1, 3) := if_pos (Classical.not_not.mp h)
theorem EvR.push {s σ : MS} (e : s.2.2 = 0) (h : EvR s σ) (hh : s.2.1 < 40) {x : Int64} : EvR (pushS s x) (rC σ x) := by
  have e2 : σ.2.2 = 0 := h.1.symm.trans e
  obtain ⟨h1, h2⟩ := h.2 e2
  by_cases c : Inb x
  · rw [push_in c hh, rC_0 c]
    refine ⟨h.1, fun _ => ⟨congrArg (· + 1) h1, fun j hj => ?_⟩⟩
    show (if j = s.2.1 then x else s.1 j) = if j = σ.2.1 then x else σ.1 j
    rw [← h1]
    by_cases q : j = s.2.1
    · rw [if_pos q, if_pos q]
    · rw [if_neg q, if_neg q]; exact h2 j (by have hj2 : j < s.2.1 + 1 := hj; omega)
  · rw [push_out c, rC_1 (Classical.not_not.mp c)]
    exact ⟨rfl, fun z => absurd (show (3 : Int32) = 0 from z) (by decide)⟩
theorem i32_in (a : Int32) : Inb a.toInt64 := by
  have h1 := Int32.toInt_lt a
  have h2 := Int32.le_toInt a
  intro z
  rw [Int64.lt_iff_toInt_lt, Int64.lt_iff_toInt_lt, Int32.toInt_toInt64] at z
  have e1 : (GRT : Int64).toInt = 1000000000000 := by decide
  have e2 : ((-1000000000000 : Int64)).toInt = -1000000000000 := by decide
  rw [e1, e2] at z
  omega
theorem in_0 : Inb 0 := by unfold Inb; decide
theorem pop_v {s : MS} (h : 1 ≤ s.2.1) : popV s = s.1 (s.2.1 - 1) := if_neg (by omega)
theorem pop_s {s : MS} (h : 1 ≤ s.2.1) : popS s = (s.1, s.2.1 - 1, s.2.2) := if_neg (by omega)
/-- the sum of a rectangle: the class's stack has it on top -/
theorem rect_ev {V : FS} (hV : BnV V) {c e : Nat} (hc : c < 64) (he : e < 64) {s : MS} (h1 : 1 ≤ s.2.1) (h40 : s.2.1 ≤ 40) (e0 : s.2.2 = 0) (t0 : s.1 (s.2.1 - 1) = 0) : ∀ x, x ≤ 64 → (evR V (rcL c e) x s).2.2 = (rgL V c e 0 x).2 ∧ ((rgL V c e 0 x).2 = 0 → (evR V (rcL c e) x s).2.1 = s.2.1 ∧ Inb (rgL V c e 0 x).1 ∧ (evR V (rcL c e) x s).1 (s.2.1 - 1) = (rgL V c e 0 x).1 ∧ ∀ j, j < s.2.1 - 1 → (evR V (rcL c e) x s).1 j = s.1 j)
  | 0, _ => ⟨e0, fun _ => ⟨rfl, in_0, t0, fun _ _ => rfl⟩⟩
  | x + 1, hx => by
    have hx64 : x < 64 := by omega
    obtain ⟨i1, i2⟩ := rect_ev hV hc he h1 h40 e0 t0 x (by omega)
    unfold evR rgL
    rw [i1]
    by_cases q : (rgL V c e 0 x).2 = 0
    · rw [if_pos q, if_pos q]
      obtain ⟨k1, k2, k3, k4⟩ := i2 q
      by_cases b : iwP x c e
      · rw [if_pos ((rcL_bit hc he hx64).mpr b), if_pos b]
        obtain ⟨P, hP⟩ : ∃ P, P = evR V (rcL c e) x s := ⟨_, rfl⟩
        rw [← hP] at k1 k3 k4 ⊢
        have hp1 : 1 ≤ P.2.1 := by omega
        have pv : popV (P.1, P.2.1, V.2 x) = (rgL V c e 0 x).1 := by rw [pop_v (s := (P.1, P.2.1, V.2 x)) hp1]; show P.1 (P.2.1 - 1) = _; rw [k1]; exact k3
        have ps : popS (P.1, P.2.1, V.2 x) = (P.1, P.2.1 - 1, V.2 x) := pop_s (s := (P.1, P.2.1, V.2 x)) hp1
        rw [pv, ps]
        unfold rgS
        by_cases z : V.2 x = 0
        · rw [if_pos z]
          by_cases w : Inb ((rgL V c e 0 x).1 + V.1 x)
          · rw [push_in w (by show P.2.1 - 1 < 40; omega), if_neg w]
            refine ⟨z, fun _ => ⟨by show P.2.1 - 1 + 1 = s.2.1; omega, w, ?_, fun j hj => ?_⟩⟩
            · show (if s.2.1 - 1 = P.2.1 - 1 then _ else P.1 (s.2.1 - 1)) = _
              rw [if_pos (by omega)]
            · show (if j = P.2.1 - 1 then _ else P.1 j) = _
              rw [if_neg (by omega)]
              exact k4 j hj
          · rw [push_out w, if_pos (Classical.not_not.mp w)]
            exact ⟨rfl, fun z => absurd (show (3 : Int32) = 0 from z) (by decide)⟩
        · rw [if_neg z, (hV x hx64).2 z]
          have ez : (rgL V c e 0 x).1 + 0 = (rgL V c e 0 x).1 := Int64.add_zero _
          rw [ez, push_in k2 (by show P.2.1 - 1 < 40; omega)]
          exact ⟨rfl, fun y => absurd y z⟩
      · rw [if_neg (fun y => b ((rcL_bit hc he hx64).mp y)), if_neg b]
        exact ⟨i1, i2⟩
    · rw [if_neg q, if_neg q]
      exact ⟨i1, i2⟩
theorem abs_eq {x : Int64} : absJ x = absR x := by
  unfold absJ absR
  by_cases h : x < 0
  · rw [if_pos h, if_neg (fun z => by rw [Int64.lt_iff_toInt_lt] at h; rw [Int64.le_iff_toInt_le] at z; omega)]
  · rw [if_neg h, if_pos (by rw [Int64.lt_iff_toInt_lt] at h; rw [Int64.le_iff_toInt_le]; omega)]
theorem max_eq {x y : Int64} : maxJ x y = maxR x y := by
  unfold maxJ maxR
  by_cases h : x < y
  · rw [if_pos h, if_neg (fun z => by rw [Int64.lt_iff_toInt_lt] at h z; omega)]
  · rw [if_neg h]
    by_cases g : y < x
    · rw [if_pos g]
    · rw [if_neg g]
      rw [Int64.lt_iff_toInt_lt] at h g
      exact Int64.toInt_inj.mp (by omega)
theorem ng_bv {x : Int64} : x < 0 ↔ x.toBitVec.msb = true := by
  rw [Int64.lt_iff_toInt_lt]
  show x.toBitVec.toInt < 0 ↔ _
  rw [BitVec.msb_eq_toInt, decide_eq_true_eq]
theorem fdv_eq {x y : Int64} : fdvJ x y = fqR x y := by
  have h1 : (x ^^^ y) < 0 ↔ ¬ (x < 0 ↔ y < 0) := by
    rw [ng_bv, ng_bv, ng_bv, Int64.toBitVec_xor, BitVec.msb_xor]
    cases x.toBitVec.msb <;> cases y.toBitVec.msb <;> decide
  have h2 : x / y * y = x ↔ x - x / y * y = 0 := ⟨fun h => by rw [h]; exact Int64.sub_self x, fun h => by
    have := Int64.sub_add_cancel x (x / y * y)
    rw [h, Int64.zero_add] at this
    exact this⟩
  unfold fdvJ fqR
  by_cases c : x - x / y * y = 0
  · rw [if_neg (fun z => z.2 (h2.mpr c)), if_neg (fun z => z.1 c)]
  · by_cases d : (x < 0 ↔ y < 0)
    · rw [if_neg (fun z => h1.mp z.1 d), if_neg (fun z => z.2 d)]
    · rw [if_pos ⟨h1.mpr d, fun z => c (h2.mp z)⟩, if_pos ⟨c, d⟩]
theorem EvR.join {s σ : MS} (e : s.2.2 = 0) (h : EvR s σ) (h2 : 2 ≤ s.2.1) (h40 : s.2.1 ≤ 40) {o : Int32} (ho : o = 4 ∨ o = 5 ∨ o = 6 ∨ o = 7 ∨ o = 8) {k : Int32} (hk : (o = 8 ∧ k = 6) ∨ (¬ o = 8 ∧ k = sgR o)) : EvR (joinS s k) (rW σ o) := by
  have e2 : σ.2.2 = 0 := h.1.symm.trans e
  obtain ⟨q1, q2⟩ := h.2 e2
  have p1 : popV s = s.1 (s.2.1 - 1) := pop_v (by omega)
  have p2 : popS s = (s.1, s.2.1 - 1, s.2.2) := pop_s (by omega)
  have p3 : popV (s.1, s.2.1 - 1, s.2.2) = s.1 (s.2.1 - 2) := pop_v (s := (s.1, s.2.1 - 1, s.2.2)) (by show 1 ≤ s.2.1 - 1; omega)
  have p4 : popS (s.1, s.2.1 - 1, s.2.2) = (s.1, s.2.1 - 2, s.2.2) := pop_s (s := (s.1, s.2.1 - 1, s.2.2)) (by show 1 ≤ s.2.1 - 1; omega)
  have hb : EvR (s.1, s.2.1 - 2, s.2.2) (dn2 σ) := ⟨h.1, fun _ => ⟨by show s.2.1 - 2 = σ.2.1 - 2; omega, fun j hj => q2 j (by have hj2 : j < s.2.1 - 2 := hj; omega)⟩⟩
  have l40 : (s.1, s.2.1 - 2, s.2.2).2.1 < 40 := by show s.2.1 - 2 < 40; omega
  have a1 : σ.1 (σ.2.1 - 2) = s.1 (s.2.1 - 2) := by rw [← q1]; exact (q2 _ (by omega)).symm
  have a2 : σ.1 (σ.2.1 - 1) = s.1 (s.2.1 - 1) := by rw [← q1]; exact (q2 _ (by omega)).symm
  have ej : joinS s k = if k = 43 then pushS (s.1, s.2.1 - 2, s.2.2) (s.1 (s.2.1 - 2) + s.1 (s.2.1 - 1)) else if k = 45 then pushS (s.1, s.2.1 - 2, s.2.2) (s.1 (s.2.1 - 2) - s.1 (s.2.1 - 1)) else if k = 42 then mulS (s.1, s.2.1 - 2, s.2.2) (s.1 (s.2.1 - 2)) (s.1 (s.2.1 - 1)) else if k = 47 then divS (s.1, s.2.1 - 2, s.2.2) (s.1 (s.2.1 - 2)) (s.1 (s.2.1 - 1)) else pushS (s.1, s.2.1 - 2, s.2.2) (maxJ (s.1 (s.2.1 - 2)) (s.1 (s.2.1 - 1))) := by
    unfold joinS
    simp only [p1, p2, p3, p4]
  rw [ej]
  unfold rW
  rw [a1, a2]
  rcases ho with rfl | rfl | rfl | rfl | rfl
  · obtain rfl : k = 43 := (hk.resolve_left (fun z => absurd z.1 (by decide))).2
    exact EvR.push (s := (s.1, s.2.1 - 2, s.2.2)) e hb l40
  · obtain rfl : k = 45 := (hk.resolve_left (fun z => absurd z.1 (by decide))).2
    exact EvR.push (s := (s.1, s.2.1 - 2, s.2.2)) e hb l40
  · obtain rfl : k = 42 := (hk.resolve_left (fun z => absurd z.1 (by decide))).2
    show EvR (mulS _ _ _) (rT _ _ _)
    unfold mulS rT
    rw [abs_eq, abs_eq]
    have nz : (¬ s.1 (s.2.1 - 2) = 0) ↔ ¬ absR (s.1 (s.2.1 - 2)) = 0 := by
      rw [← abs_eq]
      constructor
      · exact absJ_nz
      · intro z y
        exact z (by rw [y]; decide)
    by_cases c : ¬ s.1 (s.2.1 - 2) = 0 ∧ 1000000000000 / absR (s.1 (s.2.1 - 2)) < absR (s.1 (s.2.1 - 1))
    · rw [if_pos c, if_pos ⟨nz.mp c.1, c.2⟩]
      exact ⟨rfl, fun z => absurd (show (3 : Int32) = 0 from z) (by decide)⟩
    · rw [if_neg c, if_neg (fun z => c ⟨nz.mpr z.1, z.2⟩)]
      exact EvR.push (s := (s.1, s.2.1 - 2, s.2.2)) e hb l40
  · obtain rfl : k = 47 := (hk.resolve_left (fun z => absurd z.1 (by decide))).2
    show EvR (divS _ _ _) (rP _ _ _)
    unfold divS rP
    by_cases c : s.1 (s.2.1 - 1) = 0
    · rw [if_pos c, if_pos c]
      exact ⟨rfl, fun z => absurd (show (2 : Int32) = 0 from z) (by decide)⟩
    · rw [if_neg c, if_neg c, fdv_eq]
      exact EvR.push (s := (s.1, s.2.1 - 2, s.2.2)) e hb l40
  · obtain rfl : k = 6 := (hk.resolve_right (fun z => z.1 rfl)).2
    show EvR (pushS _ (maxJ _ _)) (rC _ (maxR _ _))
    rw [max_eq]
    exact EvR.push (s := (s.1, s.2.1 - 2, s.2.2)) e hb l40
theorem evF_err {V : FS} {C : Cod} {s : MS} {k : Nat} (h : ¬ (evF V C k s).2.2 = 0) : ∀ r, evF V C (k + r) s = evF V C k s
  | 0 => rfl
  | r + 1 => by
    have ih := evF_err h r
    show (if (evF V C (k + r) s).2.2 = 0 then _ else evF V C (k + r) s) = _
    rw [ih, if_neg h]
theorem ev_row {V : FS} (hV : BnV V) {C : Cod} {o a b : Nat → Int32} {J : Nat → Nat} {m : Nat} (j0 : J 0 = 0) (hw : WHK o m) (hJ : ∀ i, i < m → RowE C (J i) (o i) (a i) (b i) ∧ J (i + 1) = J i + wdT (o i) ∧ J (i + 1) ≤ 40) : ∀ i, i ≤ m → EvR (evF V C (J i) (fun _ => 0, 0, 0)) (rvF V o a b (fun _ => 0) i)
  | 0, _ => by rw [j0]; exact ⟨rfl, fun _ => ⟨rfl, fun j hj => absurd hj (Nat.not_lt_zero _)⟩⟩
  | i + 1, hi => by
    have ih := ev_row hV j0 hw hJ i (by omega)
    obtain ⟨hr, hwd, h40⟩ := hJ i (by omega)
    have hht := rvF_h (V := V) (a := a) (b := b) (r := fun _ => 0) hw i (by omega)
    have hle := htR_le (o := o) i
    have hJi : i ≤ J i := Tk_J (s := cs0) (w := o) (m := m) j0 (fun i hi => (hJ i hi).2.1) i (by omega)
    have w1 : 1 ≤ wdT (o i) := by unfold wdT; split <;> omega
    obtain ⟨S, hS⟩ : ∃ S, S = evF V C (J i) (fun _ => 0, 0, 0) := ⟨_, rfl⟩
    obtain ⟨σ, hσ⟩ : ∃ σ, σ = rvF V o a b (fun _ => 0) i := ⟨_, rfl⟩
    rw [← hS, ← hσ] at ih
    rw [← hσ] at hht
    have er : rvF V o a b (fun _ => 0) (i + 1) = if σ.2.2 = 0 then rvA V (o i) (a i) (b i) σ else σ := by rw [hσ]; rfl
    rw [er, hwd]
    by_cases z : σ.2.2 = 0
    · rw [if_pos z]
      have z' : S.2.2 = 0 := ih.1.trans z
      obtain ⟨q1, q2⟩ := ih.2 z
      have hh := hht z
      have sH : S.2.1 ≤ J i := by omega
      have ev1 : evF V C (J i + 1) (fun _ => 0, 0, 0) = evA V (C.1 (J i)) (C.2 (J i)) S := by
        show (if (evF V C (J i) _).2.2 = 0 then evA V _ _ (evF V C (J i) _) else evF V C (J i) _) = _
        rw [← hS, if_pos z']
      rcases hr with ⟨h1, h2, h3⟩ | ⟨h1, h2, h3, c, hc, h4⟩ | ⟨h1, h2, h3, h4, h5, h6, c, e, hc, he, h7, h8⟩ | ⟨h1, h2⟩ | ⟨h1, h2⟩ | ⟨h1, h2⟩
      · have wd : wdT (o i) = 1 := if_neg (by rw [h1]; decide)
        rw [wd, ev1, h2, h3, show rvA V (o i) (a i) (b i) σ = rC σ (a i).toInt64 from if_pos h1]
        show EvR (if (1 : Int32) = 1 ∨ (1 : Int32) = 3 then pushS S (a i).toInt64 else _) _
        rw [if_pos (Or.inl rfl)]
        exact ih.push z' (by omega)
      · have wd : wdT (o i) = 1 := if_neg (by rw [h1]; decide)
        rw [wd, ev1, h2, h3, h4]
        have e1 : rvA V (o i) (nI c) (b i) σ = pR σ (V.1 c) (V.2 c) := by
          unfold rvA
          rw [if_neg (by rw [h1]; decide), if_pos h1, j64_c hc]
        have e2 : evA V 2 (nI c) S = evC V c S := by
          unfold evA
          rw [if_neg (by decide), if_pos rfl, j64_c hc]
        rw [e1, e2]
        unfold evC
        by_cases y : V.2 c = 0
        · rw [if_pos y, push_in ((hV c hc).1 y) (by show S.2.1 < 40; omega)]
          refine ⟨y.symm, fun _ => ⟨congrArg (· + 1) q1, fun j hj => ?_⟩⟩
          show (if j = S.2.1 then V.1 c else S.1 j) = if j = σ.2.1 then V.1 c else σ.1 j
          rw [← q1]
          by_cases w : j = S.2.1
          · rw [if_pos w, if_pos w]
          · rw [if_neg w, if_neg w]; exact q2 j (by have hj2 : j < S.2.1 + 1 := hj; omega)
        · rw [if_neg y]
          exact ⟨rfl, fun w => absurd w y⟩
      · have wd : wdT (o i) = 3 := if_pos h1
        rw [wd] at hwd ⊢
        have s1 : evF V C (J i + 1) (fun _ => 0, 0, 0) = pushS S (nI c).toInt64 := by rw [ev1, h2, h3, h7]; exact if_pos (Or.inr rfl)
        rw [push_in (i32_in _) (by omega)] at s1
        have s2 : evF V C (J i + 1 + 1) (fun _ => 0, 0, 0) = pushS (fun j => if j = S.2.1 then (nI c).toInt64 else S.1 j, S.2.1 + 1, S.2.2) (nI e).toInt64 := by
          show (if (evF V C (J i + 1) _).2.2 = 0 then evA V (C.1 (J i + 1)) (C.2 (J i + 1)) (evF V C (J i + 1) _) else _) = _
          rw [s1, if_pos z', h4, h5, h8]
          exact if_pos (Or.inr rfl)
        rw [push_in (i32_in _) (by show S.2.1 + 1 < 40; omega)] at s2
        obtain ⟨T, hT⟩ : ∃ T : MS, T = (fun j => if j = S.2.1 + 1 then (nI e).toInt64 else (fun j => if j = S.2.1 then (nI c).toInt64 else S.1 j) j, S.2.1 + 1 + 1, S.2.2) := ⟨_, rfl⟩
        have s2' : evF V C (J i + 1 + 1) (fun _ => 0, 0, 0) = T := s2.trans hT.symm
        have tH : T.2.1 = S.2.1 + 2 := by rw [hT]
        have tE : T.2.2 = 0 := by rw [hT]; exact z'
        have t1 : T.1 (S.2.1 + 1) = (nI e).toInt64 := by rw [hT]; exact if_pos rfl
        have t2 : T.1 S.2.1 = (nI c).toInt64 := by rw [hT]; exact (if_neg (by omega)).trans (if_pos rfl)
        have t3 : ∀ j, j < S.2.1 → T.1 j = S.1 j := fun j hj => by rw [hT]; exact (if_neg (by omega)).trans (if_neg (by omega))
        have p1 : popV T = (nI e).toInt64 := by rw [pop_v (by omega), tH]; exact t1
        have p2 : popS T = (T.1, S.2.1 + 1, T.2.2) := by rw [pop_s (by omega), tH]; rfl
        have p3 : popV (T.1, S.2.1 + 1, T.2.2) = (nI c).toInt64 := by rw [pop_v (s := (T.1, S.2.1 + 1, T.2.2)) (by show 1 ≤ S.2.1 + 1; omega)]; exact t2
        have p4 : popS (T.1, S.2.1 + 1, T.2.2) = (T.1, S.2.1, T.2.2) := pop_s (s := (T.1, S.2.1 + 1, T.2.2)) (by show 1 ≤ S.2.1 + 1; omega)
        have b32 : ∀ x : Int32, x.toInt64.toInt32 = x := fun x => Int32.toInt32_toInt64 x
        have s3 : evF V C (J i + 3) (fun _ => 0, 0, 0) = evR V (rcL c e) 64 (fun j => if j = S.2.1 then 0 else T.1 j, S.2.1 + 1, T.2.2) := by
          show (if (evF V C (J i + 1 + 1) _).2.2 = 0 then evA V (C.1 (J i + 2)) (C.2 (J i + 2)) (evF V C (J i + 1 + 1) _) else _) = _
          rw [s2', if_pos tE, h6]
          have ea : ∀ op, evA V 5 op T = evR V (rcL (popV (popS T)).toInt32.toNatClampNeg (popV T).toInt32.toNatClampNeg) 64 (pushS (popS (popS T)) 0) := fun op => by
            unfold evA
            rw [if_neg (by decide), if_neg (by decide), if_neg (by decide), if_pos rfl]
          rw [ea, p1, p2, p3, p4, b32, b32, j64_c hc, j64_c he, push_in in_0 (by show S.2.1 < 40; omega)]
        rw [s3]
        have e1 : rvA V (o i) (a i) (b i) σ = rgE V c e σ := by
          unfold rvA
          rw [if_neg (by rw [h1]; decide), if_neg (by rw [h1]; decide), if_pos h1, h7, h8, j64_c hc, j64_c he]
        rw [e1]
        obtain ⟨r1, r2⟩ := rect_ev hV hc he (s := (fun j => if j = S.2.1 then 0 else T.1 j, S.2.1 + 1, T.2.2)) (by show 1 ≤ S.2.1 + 1; omega) (by show S.2.1 + 1 ≤ 40; omega) tE (if_pos rfl) 64 (Nat.le_refl _)
        unfold rgE
        rw [z]
        obtain ⟨G, hG⟩ : ∃ G, G = rgL V c e 0 64 := ⟨_, rfl⟩
        obtain ⟨P, hP⟩ : ∃ P, P = evR V (rcL c e) 64 (fun j => if j = S.2.1 then 0 else T.1 j, S.2.1 + 1, T.2.2) := ⟨_, rfl⟩
        rw [← hG, ← hP] at r1 r2
        rw [← hG, ← hP]
        refine ⟨r1, fun w => ?_⟩
        obtain ⟨k1, k2, k3, k4⟩ := r2 w
        refine ⟨k1.trans (congrArg (· + 1) q1), fun j hj => ?_⟩
        rw [k1] at hj
        have hj2 : j < S.2.1 + 1 := hj
        show _ = (if j = σ.2.1 then G.1 else σ.1 j)
        rw [← q1]
        by_cases y : j = S.2.1
        · rw [if_pos y, y]; exact k3
        · rw [if_neg y, k4 j (by show j < S.2.1 + 1 - 1; omega)]
          show (if j = S.2.1 then 0 else T.1 j) = _
          rw [if_neg y, t3 j (by omega)]
          exact q2 j (by omega)
      · have wd : wdT (o i) = 1 := if_neg (by rw [h1]; decide)
        have g1 : 1 ≤ htR o i := by
          rcases hw i (by omega) with q | ⟨-, q⟩ | ⟨q, -⟩
          · exact absurd q (by rw [h1]; decide)
          · exact q
          · exact absurd q (by rw [h1]; decide)
        rw [wd, ev1, h2]
        have e1 : rvA V (o i) (a i) (b i) σ = rC (dn1 σ) (-(σ.1 (σ.2.1 - 1))) := by
          unfold rvA
          rw [if_neg (by rw [h1]; decide), if_neg (by rw [h1]; decide), if_neg (by rw [h1]; decide), if_pos h1]
        have e2 : ∀ op, evA V 4 op S = pushS (popS S) (-(popV S)) := fun op => by
          unfold evA
          rw [if_neg (by decide), if_neg (by decide), if_pos rfl]
        rw [e1, e2, pop_v (by omega), pop_s (by omega), ← q1, ← q2 (S.2.1 - 1) (by omega)]
        exact EvR.push (s := (S.1, S.2.1 - 1, S.2.2)) (σ := dn1 σ) z' ⟨ih.1, fun _ => ⟨by show S.2.1 - 1 = σ.2.1 - 1; omega, fun j hj => q2 j (by have hj2 : j < S.2.1 - 1 := hj; omega)⟩⟩ (by show S.2.1 - 1 < 40; omega)
      · have wd : wdT (o i) = 1 := if_neg (by rcases h1 with q | q | q | q <;> rw [q] <;> decide)
        have g2 : 2 ≤ htR o i := by
          rcases hw i (by omega) with q | ⟨q, -⟩ | ⟨-, q⟩
          · exact absurd q (by rcases h1 with y | y | y | y <;> rw [y] <;> decide)
          · exact absurd q (by rcases h1 with y | y | y | y <;> rw [y] <;> decide)
          · exact q
        rw [wd, ev1, h2]
        have e1 : rvA V (o i) (a i) (b i) σ = rW σ (o i) := by
          unfold rvA
          rw [if_neg (by rcases h1 with y | y | y | y <;> rw [y] <;> decide), if_neg (by rcases h1 with y | y | y | y <;> rw [y] <;> decide), if_neg (by rcases h1 with y | y | y | y <;> rw [y] <;> decide), if_neg (by rcases h1 with y | y | y | y <;> rw [y] <;> decide)]
        have e2 : ∀ op, evA V (sgR (o i)) op S = joinS S (sgR (o i)) := fun op => by
          unfold evA
          rw [if_neg (by rcases h1 with y | y | y | y <;> rw [y] <;> decide), if_neg (by rcases h1 with y | y | y | y <;> rw [y] <;> decide), if_neg (by rcases h1 with y | y | y | y <;> rw [y] <;> decide), if_neg (by rcases h1 with y | y | y | y <;> rw [y] <;> decide)]
        rw [e1, e2]
        exact ih.join z' (by omega) (by omega) (by rcases h1 with y | y | y | y <;> rw [y] <;> decide) (Or.inr ⟨by rcases h1 with y | y | y | y <;> rw [y] <;> decide, rfl⟩)
      · have wd : wdT (o i) = 1 := if_neg (by rw [h1]; decide)
        have g2 : 2 ≤ htR o i := by
          rcases hw i (by omega) with q | ⟨q, -⟩ | ⟨-, q⟩
          · exact absurd q (by rw [h1]; decide)
          · exact absurd q (by rw [h1]; decide)
          · exact q
        rw [wd, ev1, h2]
        have e1 : rvA V (o i) (a i) (b i) σ = rW σ (o i) := by
          unfold rvA
          rw [if_neg (by rw [h1]; decide), if_neg (by rw [h1]; decide), if_neg (by rw [h1]; decide), if_neg (by rw [h1]; decide)]
        have e2 : ∀ op, evA V 6 op S = joinS S 6 := fun op => by
          unfold evA
          rw [if_neg (by decide), if_neg (by decide), if_neg (by decide), if_neg (by decide)]
        rw [e1, e2]
        exact ih.join z' (by omega) (by omega) (by rw [h1]; decide) (Or.inl ⟨h1, rfl⟩)
    · rw [if_neg z]
      have z' : ¬ S.2.2 = 0 := fun y => z (ih.1.symm.trans y)
      have e := evF_err (V := V) (C := C) (s := (fun _ => 0, 0, 0)) (k := J i) (by rw [← hS]; exact z') (wdT (o i))
      rw [e, ← hS]
      exact ih
theorem ev_rv {V : FS} (hV : BnV V) {C : Cod} {o a b : Nat → Int32} {J : Nat → Nat} {m : Nat} (j0 : J 0 = 0) (hw : WHK o m) (h1 : htR o m = 1) (hJ : ∀ i, i < m → RowE C (J i) (o i) (a i) (b i) ∧ J (i + 1) = J i + wdT (o i) ∧ J (i + 1) ≤ 40) : evV V C (J m) = roF (rvF V o a b (fun _ => 0) m) := by
  have k := ev_row hV j0 hw hJ m (Nat.le_refl _)
  have hh := rvF_h (V := V) (a := a) (b := b) (r := fun _ => 0) hw m (Nat.le_refl _)
  unfold evV evO roF
  rw [k.1]
  split
  · next c =>
    obtain ⟨q1, q2⟩ := k.2 c
    have h := hh c
    rw [pop_v (by omega), q2 _ (by omega), show (evF V C (J m) (fun _ => 0, 0, 0)).2.1 - 1 = 0 by omega]
  · rfl
