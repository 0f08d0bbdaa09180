/-! reckoning without a memory: steps and operands by number, figures by cell -/
abbrev Cod : Type := (Nat → Int32) × (Nat → Int32)
def evR (V : FS) (C : Int64) : Nat → MS → MS
  | 0, s => s
  | k + 1, s => if (evR V C k s).2.2 = 0 then (if hb C (nI k) = true then pushS (popS ((evR V C k s).1, (evR V C k s).2.1, V.2 k)) (popV ((evR V C k s).1, (evR V C k s).2.1, V.2 k) + V.1 k) else evR V C k s) else evR V C k s
def evC (V : FS) (k : Nat) (s : MS) : MS := if V.2 k = 0 then pushS (s.1, s.2.1, 0) (V.1 k) else (s.1, s.2.1, V.2 k)
def evA (V : FS) (st op : Int32) (s : MS) : MS := if st = 1 ∨ st = 3 then pushS s op.toInt64 else if st = 2 then evC V op.toNatClampNeg s else if st = 4 then pushS (popS s) (-(popV s)) else if st = 5 then evR V (rcL (popV (popS s)).toInt32.toNatClampNeg (popV s).toInt32.toNatClampNeg) 64 (pushS (popS (popS s)) 0) else joinS s st
def evF (V : FS) (k : Cod) : Nat → MS → MS
  | 0, s => s
  | i + 1, s => if (evF V k i s).2.2 = 0 then evA V (k.1 i) (k.2 i) (evF V k i s) else evF V k i s
def evO (s : MS) : Int64 × Int32 := if s.2.2 = 0 then (popV s, 0) else (0, s.2.2)
def evV (V : FS) (k : Cod) (z : Nat) : Int64 × Int32 := evO (evF V k z (fun _ => 0, 0, 0))
def fgF (M : Mem) (g v : Nat) : FS := (fun c => rJ M (g + 2) (v * 64 + c), fun c => rI M (g + 3) (v * 64 + c))
def cdF (M : Mem) (q f : Nat) : Cod := (fun i => chS M q f (plF M f i), fun i => chO M q f (plF M f i))
theorem prF_ev {M : Mem} {g v : Nat} {C : Int64} {s : MS} : ∀ k, prF M g v C k s = evR (fgF M g v) C k s
  | 0 => rfl
  | k + 1 => by
    unfold prF evR prStep
    rw [prF_ev k]
    rfl
theorem rkF_ev {M : Mem} {q f g v : Nat} {s : MS} : ∀ z, rkF M q f g v (plF M f) z s = evF (fgF M g v) (cdF M q f) z s
  | 0 => rfl
  | i + 1 => by
    unfold rkF evF
    rw [rkF_ev i]
    unfold rkA evA
    rw [prF_ev]
    rfl
/-- two machines that are alike as far as they are high -/
def Agm (s t : MS) : Prop := s.2.1 = t.2.1 ∧ s.2.2 = t.2.2 ∧ ∀ j, j < s.2.1 → s.1 j = t.1 j
theorem Agm.push {s t : MS} (h : Agm s t) (x : Int64) : Agm (pushS s x) (pushS t x) := by
  obtain ⟨h1, h2, h3⟩ := h
  unfold pushS
  by_cases c : GRT < x ∨ x < -1000000000000
  · rw [if_pos c, if_pos c]; exact ⟨h1, rfl, h3⟩
  · rw [if_neg c, if_neg c, ← h1]
    by_cases d : s.2.1 < 40
    · rw [if_pos d, if_pos d]
      refine ⟨rfl, h2, fun j hj => ?_⟩
      show (if j = s.2.1 then x else s.1 j) = if j = s.2.1 then x else t.1 j
      by_cases e : j = s.2.1
      · rw [if_pos e, if_pos e]
      · rw [if_neg e, if_neg e]; exact h3 j (by have : j < s.2.1 + 1 := hj; omega)
    · rw [if_neg d, if_neg d]; exact ⟨h1, h2, h3⟩
theorem Agm.pop {s t : MS} (h : Agm s t) : Agm (popS s) (popS t) := by
  obtain ⟨h1, h2, h3⟩ := h
  unfold popS
  rw [← h1]
  split
  · exact ⟨h1, h2, h3⟩
  · exact ⟨rfl, h2, fun j hj => h3 j (by have : j < s.2.1 - 1 := hj; omega)⟩
theorem Agm.val {s t : MS} (h : Agm s t) : popV s = popV t := by
  obtain ⟨h1, h2, h3⟩ := h
  unfold popV
  rw [← h1]
  split
  · rfl
  · exact h3 _ (by omega)
theorem Agm.err {s t : MS} (h : Agm s t) (e : Int32) : Agm (s.1, s.2.1, e) (t.1, t.2.1, e) := ⟨h.1, rfl, h.2.2⟩
theorem Agm.join {s t : MS} (h : Agm s t) (k : Int32) : Agm (joinS s k) (joinS t k) := by
  have e1 := h.val
  have e2 := h.pop.val
  have h2 := h.pop.pop
  show Agm (if k = 43 then pushS (popS (popS s)) (popV (popS s) + popV s) else if k = 45 then pushS (popS (popS s)) (popV (popS s) - popV s) else if k = 42 then mulS (popS (popS s)) (popV (popS s)) (popV s) else if k = 47 then divS (popS (popS s)) (popV (popS s)) (popV s) else pushS (popS (popS s)) (maxJ (popV (popS s)) (popV s))) (if k = 43 then pushS (popS (popS t)) (popV (popS t) + popV t) else if k = 45 then pushS (popS (popS t)) (popV (popS t) - popV t) else if k = 42 then mulS (popS (popS t)) (popV (popS t)) (popV t) else if k = 47 then divS (popS (popS t)) (popV (popS t)) (popV t) else pushS (popS (popS t)) (maxJ (popV (popS t)) (popV t)))
  rw [← e1, ← e2]
  unfold mulS divS
  split
  · exact h2.push _
  · split
    · exact h2.push _
    · split
      · split
        · exact h2.err _
        · exact h2.push _
      · split
        · split
          · exact h2.err _
          · exact h2.push _
        · exact h2.push _
theorem Agm.rect {s t : MS} (h : Agm s t) (V : FS) (C : Int64) : ∀ k, Agm (evR V C k s) (evR V C k t)
  | 0 => h
  | k + 1 => by
    have ih := Agm.rect h V C k
    unfold evR
    rw [← ih.2.1]
    split
    · split
      · rw [← (ih.err (V.2 k)).val]
        exact (ih.err _).pop.push _
      · exact ih
    · exact ih
theorem Agm.act {s t : MS} (h : Agm s t) (V : FS) (a b : Int32) : Agm (evA V a b s) (evA V a b t) := by
  unfold evA evC
  rw [← h.val, ← h.pop.val]
  split
  · exact h.push _
  · split
    · split
      · exact (h.err 0).push _
      · exact h.err _
    · split
      · exact h.pop.push _
      · split
        · exact (h.pop.pop.push 0).rect V _ 64
        · exact h.join _
theorem Agm.run {s t : MS} (h : Agm s t) (V : FS) (k : Cod) : ∀ z, Agm (evF V k z s) (evF V k z t)
  | 0 => h
  | i + 1 => by
    have ih := Agm.run h V k i
    unfold evF
    rw [← ih.2.1]
    split
    · exact ih.act V _ _
    · exact ih
theorem Agm.out {s t : MS} (h : Agm s t) : evO s = evO t := by
  unfold evO
  rw [← h.2.1, ← h.val]
theorem ev_base {V : FS} {k : Cod} {z : Nat} {b : Nat → Int64} : evO (evF V k z (b, 0, 0)) = evV V k z := (Agm.run (s := (b, 0, 0)) (t := (fun _ => 0, 0, 0)) ⟨rfl, rfl, fun j hj => absurd hj (Nat.not_lt_zero _)⟩ V k z).out
/-- what came out of a formula -/
def evM (M : Mem) (q f g v : Nat) : Int64 × Int32 := evV (fgF M g v) (cdF M q f) (zF M f)
theorem rkE_J {M M' : Mem} {s : MS} : rJ (rkE M s) 45 3 = (evO s).1 := by
  unfold rkE evO
  split
  · rw [rJ_sJ, if_pos ⟨rfl, rfl⟩]
  · rw [rJ_sJ, if_pos ⟨rfl, rfl⟩]
theorem rkE_I {M M' : Mem} {s : MS} : rI (rkE M s) 45 2 = (evO s).2 := by
  unfold rkE evO
  split
  · rename_i h
    rw [rI_sJ]
    show (popS s).2.2 = 0
    unfold popS
    split
    · exact h
    · exact h
  · rw [rI_sJ]
    rfl
theorem rk_J {M : Mem} {q f g v : Nat} : rJ (rkE M (rkF M q f g v (plF M f) (zF M f) (rJ M 46, 0, 0))) 45 3 = (evM M q f g v).1 := by
  rw [rkE_J (M' := M), rkF_ev, ev_base]; rfl
theorem rk_I {M : Mem} {q f g v : Nat} : rI (rkE M (rkF M q f g v (plF M f) (zF M f) (rJ M 46, 0, 0))) 45 2 = (evM M q f g v).2 := by
  rw [rkE_I (M' := M), rkF_ev, ev_base]; rfl
/-! what is needed, without a memory -/
def nsA (st op : Int32) (s : NS) : NS := if st = 2 then (s.1 ||| bitL op, s.2) else if st = 3 then (s.1, s.2.2, op) else if st = 5 then (s.1 ||| rcL s.2.1.toNatClampNeg s.2.2.toNatClampNeg, s.2) else s
def nsF (k : Cod) : Nat → NS
  | 0 => (0, 0, 0)
  | i + 1 => nsA (k.1 i) (k.2 i) (nsF k i)
def csF (M : Mem) (q f : Nat) : Cod := (fun i => rI M (f + 2) (plF M f i), fun i => chO M q f (plF M f i))
theorem ndF_ns {M : Mem} {q f : Nat} : ∀ z, ndF M q f (plF M f) z = nsF (csF M q f) z
  | 0 => rfl
  | i + 1 => by
    unfold ndF nsF
    rw [ndF_ns i]
    rfl
