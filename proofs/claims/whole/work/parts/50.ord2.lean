theorem o1A_sub {nd : Nat → Int64} {x : Nat} {s : OS} (hx : x < 64) : (∀ y, y < 64 → hb s.2.1 (nI y) = true → hb (o1A nd x s).2.1 (nI y) = true) ∧ (∀ y, y < 64 → hb s.1 (nI y) = true → hb (o1A nd x s).1 (nI y) = true) := by
  unfold o1A
  split
  · split
    · exact ⟨fun _ _ h => h, fun _ _ h => h⟩
    · exact ⟨fun y hy h => (hb_orb hy hx).mpr (Or.inl h), fun y hy h => by show hb (s.1 ||| nd x) (nI y) = true; rw [hb_or hy, h]; rfl⟩
  · exact ⟨fun _ _ h => h, fun _ _ h => h⟩
theorem o1W_sub {nd : Nat → Int64} {s : OS} : ∀ x, x ≤ 64 → (∀ y, y < 64 → hb s.2.1 (nI y) = true → hb (o1W nd x s).2.1 (nI y) = true) ∧ (∀ y, y < 64 → hb s.1 (nI y) = true → hb (o1W nd x s).1 (nI y) = true)
  | 0, _ => ⟨fun _ _ h => h, fun _ _ h => h⟩
  | x + 1, hx => by
    have ih := o1W_sub (nd := nd) (s := s) x (by omega)
    have a := o1A_sub (nd := nd) (x := x) (s := o1W nd x s) (by omega)
    exact ⟨fun y hy h => a.1 y hy (ih.1 y hy h), fun y hy h => a.2 y hy (ih.2 y hy h)⟩
/-- a walk that changes nothing, or one that gets on -/
theorem o1W_more {nd : Nat → Int64} {s : OS} (h0 : s.2.2.2 = 0) : ∀ x, x ≤ 64 → ((o1W nd x s = s ∧ ∀ y, y < x → hb s.1 (nI y) = true → hb s.2.1 (nI y) = true) ∨ ((o1W nd x s).2.2.2 = 1 ∧ cnt s.2.1 64 + 1 ≤ cnt (o1W nd x s).2.1 64))
  | 0, _ => Or.inl ⟨rfl, fun y hy => absurd hy (Nat.not_lt_zero _)⟩
  | x + 1, hx => by
    have hx64 : x < 64 := by omega
    rcases o1W_more h0 x (by omega) with ⟨e, k⟩ | ⟨e, k⟩
    · show (o1A nd x (o1W nd x s) = s ∧ _) ∨ ((o1A nd x (o1W nd x s)).2.2.2 = 1 ∧ _ ≤ cnt (o1A nd x (o1W nd x s)).2.1 64)
      rw [e]
      unfold o1A
      by_cases c : hb s.1 (nI x) = true
      · rw [if_pos c]
        by_cases d : hb s.2.1 (nI x) = true
        · rw [if_pos d]
          refine Or.inl ⟨rfl, fun y hy hh => ?_⟩
          by_cases q : y = x
          · subst q; exact d
          · exact k y (by omega) hh
        · rw [if_neg d]
          refine Or.inr ⟨rfl, ?_⟩
          show _ ≤ cnt (s.2.1 ||| bitL (nI x)) 64
          rw [cnt_add hx64 d 64 (Nat.le_refl _), if_pos hx64]
          exact Nat.le_refl _
      · rw [if_neg c]
        refine Or.inl ⟨rfl, fun y hy hh => ?_⟩
        by_cases q : y = x
        · subst q; exact absurd hh c
        · exact k y (by omega) hh
    · refine Or.inr ⟨?_, Nat.le_trans k (cnt_mono 64 (Nat.le_refl _) (fun y hy => (o1A_sub hx64).1 y hy))⟩
      show (o1A nd x (o1W nd x s)).2.2.2 = 1
      unfold o1A
      split
      · split
        · exact e
        · rfl
      · exact e
theorem l_X10_o1R {M : Mem} {N : Nat} {Q : Option Value → Nat → Mem → Prop} {i c : Nat} (hi : i < 6) (hc : c < 64) {rt : Int32} (hw : ∀ j, j < 64 → rI M 66 (64 * i + j) = 2 → RWF M (64 * i + j)) (hN : 94 ≤ N) (hs : Str M.2.2.1) : ∀ (r : Nat) (s : OS), (s.2.2.2 = 0 ∨ 64 < cnt s.2.1 64 + r) → ((o1R (ndR M i c rt) (r + 1) s).2.2.2 = (o1R (ndR M i c rt) (r + 1) s).2.2.2 → AW mX10_orders 5 0 0 N 114 [(0, .ref 64), (1, .int (nI i)), (2, .int (nI c)), (3, .int rt), (4, .long (o1R (ndR M i c rt) (r + 1) s).1)] [] (wn M (o1R (ndR M i c rt) (r + 1) s).2.2.1) Q) → AW mX10_orders 5 0 0 N 11 [(0, .ref 64), (1, .int (nI i)), (2, .int (nI c)), (3, .int rt), (4, .long s.1), (6, .long s.2.1), (8, .int s.2.2.2)] [] (wn M s.2.2.1) Q := by
  intro r
  induction r with
  | zero =>
    intro s hr h
    have e0 : s.2.2.2 = 0 := hr.resolve_right (by have := cnt_le (s := s.2.1) 64; omega)
    have r := 0
    refine a_iload dX10_orders_11 rfl ?_
    refine a_if_eq (tgt := 114) dX10_orders_13 (by decide) (fun c_13 => ?_) (fun c_13 => absurd e0 c_13)
    refine AW.sub (L' := [(0, .ref 64), (1, .int (nI i)), (2, .int (nI c)), (3, .int rt), (4, .long s.1)]) rfl ?_
    have e : o1R (ndR M i c rt) (0 + 1) s = s := if_pos e0
    rw [e] at h
    exact h rfl
  | succ r ih =>
    intro s hr h
    by_cases e0 : s.2.2.2 = 0
    · refine a_iload dX10_orders_11 rfl ?_
      refine a_if_eq (tgt := 114) dX10_orders_13 (by decide) (fun c_13 => ?_) (fun c_13 => absurd e0 c_13)
      refine AW.sub (L' := [(0, .ref 64), (1, .int (nI i)), (2, .int (nI c)), (3, .int rt), (4, .long s.1)]) rfl ?_
      have e : o1R (ndR M i c rt) (r + 1 + 1) s = s := if_pos e0
      rw [e] at h
      exact h rfl
    · have hr2 : ((o1W (ndR M i c rt) 64 (s.1, s.2.1, s.2.2.1, (0 : Int32)))).2.2.2 = 0 ∨ 64 < cnt ((o1W (ndR M i c rt) 64 (s.1, s.2.1, s.2.2.1, (0 : Int32)))).2.1 64 + r := by
        have hc1 := hr.resolve_left e0
        rcases o1W_more (nd := (ndR M i c rt)) (s := (s.1, s.2.1, s.2.2.1, (0 : Int32))) rfl 64 (Nat.le_refl _) with ⟨e, -⟩ | ⟨-, k⟩
        · exact Or.inl (by rw [e])
        · exact Or.inr (by have k2 : cnt s.2.1 64 + 1 ≤ _ := k; omega)
      refine a_iload dX10_orders_11 rfl ?_
      refine a_if_eq (tgt := 114) dX10_orders_13 (by decide) (fun c_13 => absurd c_13 e0) (fun c_13 => ?_)
      refine a_iconst (v := 0) dX10_orders_16 (by decide) ?_
      refine a_istore dX10_orders_17 (by decide) ?_
      refine a_iconst (v := 0) dX10_orders_19 (by decide) ?_
      refine a_istore dX10_orders_20 (by decide) ?_
      refine AW.sub (L' := [(0, .ref 64), (1, .int (nI i)), (2, .int (nI c)), (3, .int rt), (4, .long (s.1, s.2.1, s.2.2.1, (0 : Int32)).1), (6, .long (s.1, s.2.1, s.2.2.1, (0 : Int32)).2.1), (8, .int 0), (9, .int (nI 0))]) rfl ?_
      exact l_X10_o1W hi hc hw (s := (s.1, s.2.1, s.2.2.1, (0 : Int32))) hN hs (ih _ hr2 (fun he => by rw [show o1R (ndR M i c rt) (r + 1 + 1) s = o1R (ndR M i c rt) (r + 1) (o1W (ndR M i c rt) 64 (s.1, s.2.1, s.2.2.1, (0 : Int32))) from if_neg e0] at h; exact h he)) 64 0 (by omega)
