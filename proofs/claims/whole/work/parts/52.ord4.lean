/-! what settles -/
def StP (nd : Nat → Int64) (c : Nat) : Prop := ∀ P : Nat → Prop, (∀ y, y < 64 → (∀ z, z < 64 → hb (nd y) (nI z) = true → P z) → P y) → P c
theorem StP_in {nd : Nat → Int64} {x : Nat} (hx : x < 64) (h : ∀ z, z < 64 → hb (nd x) (nI z) = true → StP nd z) : StP nd x := fun P hp => hp x hx (fun z hz k => h z hz k P hp)
theorem StP_out {nd : Nat → Int64} {x : Nat} (h : StP nd x) : ∀ z, z < 64 → hb (nd x) (nI z) = true → StP nd z :=
  (h (fun y => StP nd y ∧ ∀ z, z < 64 → hb (nd y) (nI z) = true → StP nd z) (fun y hy k => ⟨StP_in hy (fun z hz q => (k z hz q).1), fun z hz q => (k z hz q).1⟩)).2
theorem hb_orI {a b : Int64} {x : Nat} (hx : x < 64) : hb (a ||| b) (nI x) = true ↔ hb a (nI x) = true ∨ hb b (nI x) = true := by rw [hb_or hx, Bool.or_eq_true]
theorem hb_ext {a b : Int64} (h : ∀ z, z < 64 → (hb a (nI z) = true ↔ hb b (nI z) = true)) : a = b := by
  refine Int64.toBitVec_inj.mp (BitVec.eq_of_getLsbD_eq (fun z hz => ?_))
  have := h z hz
  rw [hb_bv hz, hb_bv hz] at this
  exact Bool.eq_iff_iff.mpr this
theorem sub_iff {a b : Int64} : a &&& (b ^^^ (-1)) = 0 ↔ ∀ z, z < 64 → hb a (nI z) = true → hb b (nI z) = true := by
  have m1 : ∀ z, z < 64 → (Int64.toBitVec (-1)).getLsbD z = true := fun z hz => by
    rw [show Int64.toBitVec (-1) = BitVec.allOnes 64 from rfl, BitVec.getLsbD_allOnes]; exact decide_eq_true hz
  have g : ∀ z, z < 64 → (a &&& (b ^^^ (-1))).toBitVec.getLsbD z = (hb a (nI z) && !hb b (nI z)) := fun z hz => by
    rw [Int64.toBitVec_and, Int64.toBitVec_xor, BitVec.getLsbD_and, BitVec.getLsbD_xor, m1 z hz, hb_bv hz, hb_bv hz, Bool.xor_true]
  constructor
  · intro h z hz ha
    have e := g z hz
    rw [h, show (Int64.toBitVec 0).getLsbD z = false from by rw [show Int64.toBitVec 0 = 0#64 from rfl, BitVec.getLsbD_zero], ha] at e
    cases eb : hb b (nI z)
    · rw [eb] at e; exact absurd e (by decide)
    · rfl
  · intro h
    refine Int64.toBitVec_inj.mp (BitVec.eq_of_getLsbD_eq (fun z hz => ?_))
    rw [g z hz, show (Int64.toBitVec 0).getLsbD z = false from by rw [show Int64.toBitVec 0 = 0#64 from rfl, BitVec.getLsbD_zero]]
    have k := h z hz
    cases e1 : hb a (nI z)
    · rfl
    · rw [k e1]; rfl
/-! what is reached -/
def I1 (nd : Nat → Int64) (c : Nat) (s : OS) : Prop := hb s.1 (nI c) = true ∧ (∀ x, x < 64 → hb s.2.1 (nI x) = true → hb s.1 (nI x) = true ∧ s.2.2.1 x = nd x ∧ ∀ z, z < 64 → hb (nd x) (nI z) = true → hb s.1 (nI z) = true) ∧ (∀ x, x < 64 → hb s.1 (nI x) = true → StP nd c → StP nd x)
theorem o1A_I {nd : Nat → Int64} {c x : Nat} (hc : c < 64) (hx : x < 64) {s : OS} (h : I1 nd c s) : I1 nd c (o1A nd x s) := by
  unfold o1A
  split
  · next k =>
    split
    · exact h
    · refine ⟨(hb_orI hc).mpr (Or.inl h.1), fun y hy hd => ?_, fun y hy hd st => ?_⟩
      · by_cases e : y = x
        · subst e
          exact ⟨(hb_orI hy).mpr (Or.inl k), if_pos rfl, fun z hz q => (hb_orI hz).mpr (Or.inr q)⟩
        · obtain ⟨a, b, d⟩ := h.2.1 y hy (((hb_orb hy hx).mp hd).resolve_right e)
          exact ⟨(hb_orI hy).mpr (Or.inl a), (if_neg e).trans b, fun z hz q => (hb_orI hz).mpr (Or.inl (d z hz q))⟩
      · rcases (hb_orI hy).mp hd with q | q
        · exact h.2.2 y hy q st
        · exact StP_out (h.2.2 x hx k st) y hy q
  · exact h
theorem o1W_I {nd : Nat → Int64} {c : Nat} (hc : c < 64) {s : OS} (h : I1 nd c s) : ∀ x, x ≤ 64 → I1 nd c (o1W nd x s)
  | 0, _ => h
  | x + 1, hx => o1A_I hc (by omega) (o1W_I hc h x (by omega))
theorem o1R_I {nd : Nat → Int64} {c : Nat} (hc : c < 64) : ∀ (r : Nat) (s : OS), I1 nd c s → I1 nd c (o1R nd r s)
  | 0, _, h => h
  | r + 1, s, h => by
    show I1 nd c (if s.2.2.2 = 0 then s else o1R nd r (o1W nd 64 (s.1, s.2.1, s.2.2.1, 0)))
    split
    · exact h
    · exact o1R_I hc r _ (o1W_I hc (s := (s.1, s.2.1, s.2.2.1, 0)) h 64 (Nat.le_refl _))
theorem o1R_E {nd : Nat → Int64} : ∀ (r : Nat) (s : OS), (s.2.2.2 = 0 ∨ 64 < cnt s.2.1 64 + r) → (s.2.2.2 = 0 → ∀ y, y < 64 → hb s.1 (nI y) = true → hb s.2.1 (nI y) = true) → ∀ y, y < 64 → hb (o1R nd (r + 1) s).1 (nI y) = true → hb (o1R nd (r + 1) s).2.1 (nI y) = true := by
  intro r
  induction r with
  | zero =>
    intro s hr h
    have e0 : s.2.2.2 = 0 := hr.resolve_right (by have := cnt_le (s := s.2.1) 64; omega)
    rw [show o1R nd (0 + 1) s = s from if_pos e0]
    exact h e0
  | succ r ih =>
    intro s hr h
    by_cases e0 : s.2.2.2 = 0
    · rw [show o1R nd (r + 1 + 1) s = s from if_pos e0]
      exact h e0
    · rw [show o1R nd (r + 1 + 1) s = o1R nd (r + 1) (o1W nd 64 (s.1, s.2.1, s.2.2.1, 0)) from if_neg e0]
      have hc1 := hr.resolve_left e0
      rcases o1W_more (nd := nd) (s := (s.1, s.2.1, s.2.2.1, 0)) rfl 64 (Nat.le_refl _) with ⟨e, k⟩ | ⟨e, k⟩
      · exact ih _ (Or.inl (by rw [e])) (fun _ => by rw [e]; exact k)
      · exact ih _ (Or.inr (by have k2 : cnt s.2.1 64 + 1 ≤ _ := k; omega)) (fun z => absurd (e.symm.trans z) (by decide))
theorem cnt_0 : ∀ k, k ≤ 64 → cnt 0 k = 0
  | 0, _ => rfl
  | k + 1, hk => by
    unfold cnt
    rw [cnt_0 k (by omega), hb_0 (by omega)]
    rfl
/-! what is known -/
def I2 (st : Int64) (nd : Nat → Int64) (s : O2) : Prop := (∀ y, y < 64 → hb s.1 (nI y) = true → hb st (nI y) = true ∧ ∃ t, t < s.2.1 ∧ s.2.2.1 t = nI y) ∧ (∀ t, t < s.2.1 → ∃ x, x < 64 ∧ s.2.2.1 t = nI x ∧ hb s.1 (nI x) = true ∧ ∀ z, z < 64 → hb (nd x) (nI z) = true → ∃ t', t' < t ∧ s.2.2.1 t' = nI z) ∧ (∀ t t', t < s.2.1 → t' < s.2.1 → s.2.2.1 t = s.2.2.1 t' → t = t')
theorem o2A_I {st : Int64} {nd : Nat → Int64} {x : Nat} (hx : x < 64) {s : O2} (h : I2 st nd s) : I2 st nd (o2A st nd x s) := by
  unfold o2A
  split
  · next k =>
    split
    · exact h
    · next k2 =>
      split
      · next k3 =>
        have k4 := sub_iff.mp k3
        refine ⟨fun y hy hd => ?_, fun t ht => ?_, fun t t' ht ht' e => ?_⟩
        · by_cases e : y = x
          · subst e
            exact ⟨k, s.2.1, Nat.lt_succ_self _, if_pos rfl⟩
          · obtain ⟨a, t, b, d⟩ := h.1 y hy (((hb_orb hy hx).mp hd).resolve_right e)
            exact ⟨a, t, Nat.lt_succ_of_lt b, (if_neg (Nat.ne_of_lt b)).trans d⟩
        · by_cases e : t = s.2.1
          · subst e
            refine ⟨x, hx, if_pos rfl, (hb_orb hx hx).mpr (Or.inr rfl), fun z hz q => ?_⟩
            obtain ⟨-, t', b, d⟩ := h.1 z hz (k4 z hz q)
            exact ⟨t', b, (if_neg (Nat.ne_of_lt b)).trans d⟩
          · have ht2 : t < s.2.1 := by have ht3 : t < s.2.1 + 1 := ht; omega
            obtain ⟨y, hy, a, b, d⟩ := h.2.1 t ht2
            refine ⟨y, hy, (if_neg e).trans a, (hb_orb hy hx).mpr (Or.inl b), fun z hz q => ?_⟩
            obtain ⟨t', b', d'⟩ := d z hz q
            exact ⟨t', b', (if_neg (by omega)).trans d'⟩
        · have ht3 : t < s.2.1 + 1 := ht
          have ht4 : t' < s.2.1 + 1 := ht'
          have no : ∀ u, u < s.2.1 → ¬ s.2.2.1 u = nI x := fun u hu q => by
            obtain ⟨y, hy, a, b, -⟩ := h.2.1 u hu
            have exy : y = x := (nI_eq (by omega) (by omega)).mp (a.symm.trans q)
            exact k2 (exy ▸ b)
          have e2 : (if t = s.2.1 then nI x else s.2.2.1 t) = (if t' = s.2.1 then nI x else s.2.2.1 t') := e
          by_cases q : t = s.2.1
          · by_cases q' : t' = s.2.1
            · omega
            · rw [if_pos q, if_neg q'] at e2
              exact absurd e2.symm (no t' (by omega))
          · by_cases q' : t' = s.2.1
            · rw [if_neg q, if_pos q'] at e2
              exact absurd e2 (no t (by omega))
            · rw [if_neg q, if_neg q'] at e2
              exact h.2.2 t t' (by omega) (by omega) e2
      · exact h
  · exact h
theorem o2W_I {st : Int64} {nd : Nat → Int64} {s : O2} (h : I2 st nd s) : ∀ x, x ≤ 64 → I2 st nd (o2W st nd x s)
  | 0, _ => h
  | x + 1, hx => o2A_I (by omega) (o2W_I h x (by omega))
theorem o2R_I {st : Int64} {nd : Nat → Int64} : ∀ (r : Nat) (s : O2), I2 st nd s → I2 st nd (o2R st nd r s)
  | 0, _, h => h
  | r + 1, s, h => by
    show I2 st nd (if s.2.2.2 = 0 then s else o2R st nd r (o2W st nd 64 (s.1, s.2.1, s.2.2.1, 0)))
    split
    · exact h
    · exact o2R_I r _ (o2W_I (s := (s.1, s.2.1, s.2.2.1, 0)) h 64 (Nat.le_refl _))
theorem o2R_n {st : Int64} {nd : Nat → Int64} : ∀ (r : Nat) (s : O2), s.2.1 = cnt s.1 64 → (o2R st nd r s).2.1 = cnt (o2R st nd r s).1 64
  | 0, _, h => h
  | r + 1, s, h => by
    show (if s.2.2.2 = 0 then s else o2R st nd r (o2W st nd 64 (s.1, s.2.1, s.2.2.1, 0))).2.1 = cnt (if s.2.2.2 = 0 then s else o2R st nd r (o2W st nd 64 (s.1, s.2.1, s.2.2.1, 0))).1 64
    split
    · exact h
    · exact o2R_n r _ (o2W_n (s := (s.1, s.2.1, s.2.2.1, 0)) h 64 (Nat.le_refl _))
theorem o2R_E {st : Int64} {nd : Nat → Int64} : ∀ (r : Nat) (s : O2), (s.2.2.2 = 0 ∨ 64 < cnt s.1 64 + r) → (s.2.2.2 = 0 → ∀ y, y < 64 → hb st (nI y) = true → hb s.1 (nI y) = true ∨ ¬ nd y &&& (s.1 ^^^ (-1)) = 0) → ∀ y, y < 64 → hb st (nI y) = true → hb (o2R st nd (r + 1) s).1 (nI y) = true ∨ ¬ nd y &&& ((o2R st nd (r + 1) s).1 ^^^ (-1)) = 0 := by
  intro r
  induction r with
  | zero =>
    intro s hr h
    have e0 : s.2.2.2 = 0 := hr.resolve_right (by have := cnt_le (s := s.1) 64; omega)
    rw [show o2R st nd (0 + 1) s = s from if_pos e0]
    exact h e0
  | succ r ih =>
    intro s hr h
    by_cases e0 : s.2.2.2 = 0
    · rw [show o2R st nd (r + 1 + 1) s = s from if_pos e0]
      exact h e0
    · rw [show o2R st nd (r + 1 + 1) s = o2R st nd (r + 1) (o2W st nd 64 (s.1, s.2.1, s.2.2.1, 0)) from if_neg e0]
      have hc1 := hr.resolve_left e0
      rcases o2W_more (st := st) (nd := nd) (s := (s.1, s.2.1, s.2.2.1, 0)) rfl 64 (Nat.le_refl _) with ⟨e, k⟩ | ⟨e, k⟩
      · exact ih _ (Or.inl (by rw [e])) (fun _ => by rw [e]; exact k)
      · exact ih _ (Or.inr (by have k2 : cnt s.1 64 + 1 ≤ _ := k; omega)) (fun z => absurd (e.symm.trans z) (by decide))
/-- an order of what c needs, what is needed first -/
def OrdOK (nd : Nat → Int64) (c T : Nat) (r : Nat → Int32) : Prop := (∃ t, t < T ∧ r t = nI c) ∧ (∀ t, t < T → ∃ x, x < 64 ∧ r t = nI x ∧ ∀ z, z < 64 → hb (nd x) (nI z) = true → ∃ t', t' < t ∧ r t' = nI z) ∧ (∀ t t', t < T → t' < T → r t = r t' → t = t')
theorem Ord_St {nd : Nat → Int64} {c T : Nat} {r : Nat → Int32} (h : OrdOK nd c T r) : ∀ n t, t < n → t < T → ∀ x, x < 64 → r t = nI x → StP nd x
  | 0, _, h, _, _, _, _ => absurd h (Nat.not_lt_zero _)
  | n + 1, t, hn, ht, x, hx, e => by
    obtain ⟨y, hy, a, b⟩ := h.2.1 t ht
    have exy : x = y := (nI_eq (by omega) (by omega)).mp (e.symm.trans a)
    subst exy
    refine StP_in hx (fun z hz q => ?_)
    obtain ⟨t', b', d'⟩ := b z hz q
    exact Ord_St h n t' (by omega) (by omega) z hz d'
theorem ord_1 {nd : Nat → Int64} {c : Nat} (hc : c < 64) {s : OS} (h1 : I1 nd c s) {s2 : O2} {nd2 : Nat → Int64} (er : nd2 = s.2.2.1) (h2 : I2 s.1 nd2 s2) (e1 : ∀ y, y < 64 → hb s.1 (nI y) = true → hb s.2.1 (nI y) = true) (k : s2.1 = s.1) : OrdOK nd c s2.2.1 s2.2.2.1 := by
  subst er
  refine ⟨?_, fun t ht => ?_, h2.2.2⟩
  · exact (h2.1 c hc (by rw [k]; exact h1.1)).2
  · obtain ⟨x, hx, a, b, d⟩ := h2.2.1 t ht
    refine ⟨x, hx, a, ?_⟩
    rw [← (h1.2.1 x hx (e1 x hx (by rw [← k]; exact b))).2.1]
    exact d
theorem ord_0 {nd : Nat → Int64} {c : Nat} {s : OS} (h1 : I1 nd c s) {s2 : O2} {nd2 : Nat → Int64} (er : nd2 = s.2.2.1) (h2 : I2 s.1 nd2 s2) (e1 : ∀ y, y < 64 → hb s.1 (nI y) = true → hb s.2.1 (nI y) = true) (e2 : ∀ y, y < 64 → hb s.1 (nI y) = true → hb s2.1 (nI y) = true ∨ ¬ nd2 y &&& (s2.1 ^^^ (-1)) = 0) (k : ¬ s2.1 = s.1) : ¬ StP nd c := by
  subst er
  intro st
  refine k (hb_ext (fun z hz => ⟨fun q => (h2.1 z hz q).1, fun q => ?_⟩))
  refine (h1.2.2 z hz q st) (fun y => y < 64 → hb s.1 (nI y) = true → hb s2.1 (nI y) = true) (fun y hy p _ q => ?_) hz q
  obtain ⟨-, a, b⟩ := h1.2.1 y hy (e1 y hy q)
  refine (e2 y hy q).resolve_right (fun n => n (sub_iff.mpr (fun u hu w => ?_)))
  rw [a] at w
  exact p u hu w hu (b u hu w)
theorem l_X10_o114 {M : Mem} {N : Nat} {Q : Option Value → Nat → Mem → Prop} {i c : Nat} (hc : c < 64) {rt : Int32} (hN : 94 ≤ N) (hs : Str M.2.2.1) {s : OS} (h1 : I1 (ndR M i c rt) c s) (e1 : ∀ y, y < 64 → hb s.1 (nI y) = true → hb s.2.1 (nI y) = true) (h : ∀ b T (r : Nat → Int32) (nr : Nat → Int64), T ≤ 64 → (b = 1 ∧ StP (ndR M i c rt) c ∧ OrdOK (ndR M i c rt) c T r ∨ b = 0 ∧ ¬ StP (ndR M i c rt) c) → Q (some (.int b)) N (wo (wn M nr) T r)) : AW mX10_orders 5 0 0 N 114 [(0, .ref 64), (1, .int (nI i)), (2, .int (nI c)), (3, .int rt), (4, .long s.1)] [] (wn M s.2.2.1) Q := by
  refine a_lconst (v := 0) dX10_orders_114 (by decide) ?_
  refine a_lstore dX10_orders_115 (by decide) ?_
  refine a_aload_n dX10_orders_117 rfl ?_
  refine a_iconst (v := 0) dX10_orders_118 (by decide) ?_
  refine a_putI kfX10_254 rfl rfl rfl (by decide) (hlt hN (by decide)) dX10_orders_119 ?_
  refine a_iconst (v := 1) dX10_orders_122 (by decide) ?_
  refine a_istore dX10_orders_123 (by decide) ?_
  rw [wo_0]
  refine AW.sub (L' := [(0, .ref 64), (1, .int (nI i)), (2, .int (nI c)), (3, .int rt), (4, .long s.1), (8, .int ((0, 0, rI (wn M s.2.2.1) 89, 1) : O2).2.2.2), (9, .long ((0, 0, rI (wn M s.2.2.1) 89, 1) : O2).1)]) rfl ?_
  have er : rJ (wn M s.2.2.1) 90 = s.2.2.1 := funext (fun _ => wn_r)
  refine l_X10_o2R (M := (wn M s.2.2.1)) hN (by exact hs) 65 ((0, 0, rI (wn M s.2.2.1) 89, 1) : O2) (Or.inr (by omega)) (cnt_0 64 (Nat.le_refl _)).symm (fun _ => ?_)
  have h2 : I2 s.1 (rJ (wn M s.2.2.1) 90) (o2R s.1 (rJ (wn M s.2.2.1) 90) (65 + 1) ((0, 0, rI (wn M s.2.2.1) 89, 1) : O2)) := by
    exact o2R_I _ _ ⟨fun y hy q => absurd q (by show ¬ hb 0 (nI y) = true; rw [hb_0 hy]; decide), fun t ht => absurd ht (Nat.not_lt_zero _), fun t _ ht => absurd ht (Nat.not_lt_zero _)⟩
  have e2 := o2R_E (st := s.1) (nd := rJ (wn M s.2.2.1) 90) 65 ((0, 0, rI (wn M s.2.2.1) 89, 1) : O2) (Or.inr (by omega)) (fun z => absurd (show (1 : Int32) = 0 from z) (by decide))
  have hT : (o2R s.1 (rJ (wn M s.2.2.1) 90) (65 + 1) ((0, 0, rI (wn M s.2.2.1) 89, 1) : O2)).2.1 ≤ 64 := by rw [o2R_n _ _ (cnt_0 64 (Nat.le_refl _)).symm]; exact cnt_le 64
  refine a_lload dX10_orders_227 rfl ?_
  refine a_lload dX10_orders_229 rfl ?_
  refine a_lcmp dX10_orders_231 ?_
  refine a_if_ne (tgt := 239) dX10_orders_232 (by decide) (fun c_232 => ?_) (fun c_232 => ?_)
  · have o0 := ord_0 h1 er h2 e1 e2 (fun z => c_232 ((lg_cmp_eq _ _).mpr z))
    refine a_iconst (v := 0) dX10_orders_239 (by decide) ?_
    refine a_zret dX10_orders_240 rfl (by decide) (h _ _ _ _ hT (by first | exact Or.inl ⟨rfl, Ord_St o1 _ _ (Nat.lt_succ_self _) (Exists.choose_spec o1.1).1 c hc (Exists.choose_spec o1.1).2, o1⟩ | exact Or.inr ⟨rfl, o0⟩))
  · have o1 := ord_1 hc h1 er h2 e1 ((lg_cmp_eq _ _).mp c_232)
    refine a_iconst (v := 1) dX10_orders_235 (by decide) ?_
    refine a_goto (tgt := 240) dX10_orders_236 (by decide) ?_
    refine a_zret dX10_orders_240 rfl (by decide) (h _ _ _ _ hT (by first | exact Or.inl ⟨rfl, Ord_St o1 _ _ (Nat.lt_succ_self _) (Exists.choose_spec o1.1).1 c hc (Exists.choose_spec o1.1).2, o1⟩ | exact Or.inr ⟨rfl, o0⟩))
theorem w_X10_orders {M : Mem} {N : Nat} {Q : Option Value → Nat → Mem → Prop} {i c : Nat} (hi : i < 6) (hc : c < 64) {rt : Int32} (hw : ∀ j, j < 64 → rI M 66 (64 * i + j) = 2 → RWF M (64 * i + j)) (hN : 94 ≤ N) (hs : Str M.2.2.1) (h : ∀ b T (r : Nat → Int32) (nr : Nat → Int64), T ≤ 64 → (b = 1 ∧ StP (ndR M i c rt) c ∧ OrdOK (ndR M i c rt) c T r ∨ b = 0 ∧ ¬ StP (ndR M i c rt) c) → Q (some (.int b)) N (wo (wn M nr) T r)) : AW mX10_orders 5 0 0 N 0 [(0, .ref 64), (1, .int (nI i)), (2, .int (nI c)), (3, .int rt)] [] M Q := by
  refine a_lconst (v := 1) dX10_orders_0 (by decide) ?_
  refine a_iload_n dX10_orders_1 rfl ?_
  refine a_lshl dX10_orders_2 rfl ?_
  rw [bitL_sh hc]
  refine a_lstore dX10_orders_3 (by decide) ?_
  refine a_lconst (v := 0) dX10_orders_5 (by decide) ?_
  refine a_lstore dX10_orders_6 (by decide) ?_
  refine a_iconst (v := 1) dX10_orders_8 (by decide) ?_
  refine a_istore dX10_orders_9 (by decide) ?_
  refine AW.sub (L' := [(0, .ref 64), (1, .int (nI i)), (2, .int (nI c)), (3, .int rt), (4, .long ((bitL (nI c), 0, rJ M 90, 1) : OS).1), (6, .long ((bitL (nI c), 0, rJ M 90, 1) : OS).2.1), (8, .int ((bitL (nI c), 0, rJ M 90, 1) : OS).2.2.2)]) rfl ?_
  rw [show AW mX10_orders 5 0 0 N 11 [(0, .ref 64), (1, .int (nI i)), (2, .int (nI c)), (3, .int rt), (4, .long ((bitL (nI c), 0, rJ M 90, 1) : OS).1), (6, .long ((bitL (nI c), 0, rJ M 90, 1) : OS).2.1), (8, .int ((bitL (nI c), 0, rJ M 90, 1) : OS).2.2.2)] [] M Q = AW mX10_orders 5 0 0 N 11 [(0, .ref 64), (1, .int (nI i)), (2, .int (nI c)), (3, .int rt), (4, .long ((bitL (nI c), 0, rJ M 90, 1) : OS).1), (6, .long ((bitL (nI c), 0, rJ M 90, 1) : OS).2.1), (8, .int ((bitL (nI c), 0, rJ M 90, 1) : OS).2.2.2)] [] (wn M ((bitL (nI c), 0, rJ M 90, 1) : OS).2.2.1) Q from by rw [show ((bitL (nI c), 0, rJ M 90, 1) : OS).2.2.1 = rJ M 90 from rfl, wn_id]]
  refine l_X10_o1R hi hc hw hN hs 65 ((bitL (nI c), 0, rJ M 90, 1) : OS) (Or.inr (by omega)) (fun _ => ?_)
  have h1 : I1 (ndR M i c rt) c (o1R (ndR M i c rt) (65 + 1) ((bitL (nI c), 0, rJ M 90, 1) : OS)) := o1R_I hc _ _ ⟨(by show hb (bitL (nI c)) (nI c) = true; rw [hb_bit hc hc]; exact decide_eq_true rfl), (fun x hx q => absurd q (by show ¬ hb 0 (nI x) = true; rw [hb_0 hx]; decide)), (fun x hx q st => by have q2 : hb (bitL (nI c)) (nI x) = true := q; rw [hb_bit hx hc] at q2; exact of_decide_eq_true q2 ▸ st)⟩
  have e1 := o1R_E (nd := (ndR M i c rt)) 65 ((bitL (nI c), 0, rJ M 90, 1) : OS) (Or.inr (by omega)) (fun z => absurd (show (1 : Int32) = 0 from z) (by decide))
  exact l_X10_o114 hc hN hs h1 e1 h
