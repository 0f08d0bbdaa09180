/-! kinds: the class tells what the reference tells -/
abbrev GoC (R : Mem) (f c W p k : Nat) : Prop := ¬ opF (rI R (f + 2) p) (rI R (f + 3) p) k = -2 ∧ soP (chM R (nI p) (opF (rI R (f + 2) p) (rI R (f + 3) p) k)) f c W
theorem slI_s {R : Mem} {f c W p : Nat} : ∀ K, (∀ x, slI R f c W p K = some x → ∃ k, k < K ∧ opF (rI R (f + 2) p) (rI R (f + 3) p) k = x ∧ GoC R f c W p k ∧ ∀ k', k' < k → ¬ GoC R f c W p k') ∧ (slI R f c W p K = none → ∀ k, k < K → ¬ GoC R f c W p k)
  | 0 => ⟨fun x h => by exact absurd h (by show ¬ none = some x; exact nofun), fun _ k hk => absurd hk (Nat.not_lt_zero _)⟩
  | K + 1 => by
    obtain ⟨a, b⟩ := slI_s (R := R) (f := f) (c := c) (W := W) (p := p) K
    have e : slI R f c W p (K + 1) = (match slI R f c W p K with
      | some x => some x
      | none => if ¬ opF (rI R (f + 2) p) (rI R (f + 3) p) K = -2 ∧ soP (chM R (nI p) (opF (rI R (f + 2) p) (rI R (f + 3) p) K)) f c W then some (opF (rI R (f + 2) p) (rI R (f + 3) p) K) else none) := rfl
    rw [e]
    cases q : slI R f c W p K with
    | some y =>
      refine ⟨fun x h => ?_, fun h => absurd h nofun⟩
      obtain ⟨k, k1, k2, k3, k4⟩ := a y q
      have : y = x := Option.some.inj h
      subst this
      exact ⟨k, by omega, k2, k3, k4⟩
    | none =>
      have nb := b q
      by_cases g : GoC R f c W p K
      · refine ⟨fun x h => ?_, fun h => ?_⟩
        · have h2 : (if GoC R f c W p K then some (opF (rI R (f + 2) p) (rI R (f + 3) p) K) else none) = some x := h
          rw [if_pos g] at h2
          exact ⟨K, Nat.lt_succ_self _, Option.some.inj h2, g, nb⟩
        · have h2 : (if GoC R f c W p K then some (opF (rI R (f + 2) p) (rI R (f + 3) p) K) else none) = none := h
          rw [if_pos g] at h2
          exact absurd h2 nofun
      · refine ⟨fun x h => ?_, fun _ k hk => ?_⟩
        · have h2 : (if GoC R f c W p K then some (opF (rI R (f + 2) p) (rI R (f + 3) p) K) else none) = some x := h
          rw [if_neg g] at h2
          exact absurd h2 nofun
        · by_cases z : k = K
          · subst z; exact g
          · exact nb k (by omega)
def StC (R : Mem) (f c W p k : Nat) : Prop := ¬ rI R (f + 2) p = 0 ∧ k < 4 ∧ GoC R f c W p k
theorem slP_s {R : Mem} {f c W : Nat} : ∀ L, (∀ r, slP R f c W L = some r → r.1 < L ∧ ∃ k, StC R f c W r.1 k ∧ opF (rI R (f + 2) r.1) (rI R (f + 3) r.1) k = r.2 ∧ (∀ k', k' < k → ¬ StC R f c W r.1 k') ∧ ∀ p' k', p' < r.1 → ¬ StC R f c W p' k') ∧ (slP R f c W L = none → ∀ p k, p < L → ¬ StC R f c W p k)
  | 0 => ⟨fun r h => absurd h (by show ¬ none = some r; exact nofun), fun _ p k hp => absurd hp (Nat.not_lt_zero _)⟩
  | L + 1 => by
    obtain ⟨a, b⟩ := slP_s (R := R) (f := f) (c := c) (W := W) L
    have e : slP R f c W (L + 1) = (match slP R f c W L with
      | some r => some r
      | none => if rI R (f + 2) L = 0 then none else (slI R f c W L 4).map (fun x => (L, x))) := rfl
    rw [e]
    cases q : slP R f c W L with
    | some y =>
      refine ⟨fun r h => ?_, fun h => absurd h nofun⟩
      have : y = r := Option.some.inj h
      subst this
      obtain ⟨a1, a2⟩ := a y q
      exact ⟨by omega, a2⟩
    | none =>
      have nb := b q
      by_cases z : rI R (f + 2) L = 0
      · refine ⟨fun r h => ?_, fun _ p k hp => ?_⟩
        · have h2 : (if rI R (f + 2) L = 0 then none else (slI R f c W L 4).map (fun x => (L, x))) = some r := h
          rw [if_pos z] at h2
          exact absurd h2 nofun
        · by_cases y : p = L
          · subst y; exact fun w => w.1 z
          · exact nb p k (by omega)
      · obtain ⟨i1, i2⟩ := slI_s (R := R) (f := f) (c := c) (W := W) (p := L) 4
        cases w : slI R f c W L 4 with
        | some x =>
          obtain ⟨k, k1, k2, k3, k4⟩ := i1 x w
          refine ⟨fun r h => ?_, fun h => ?_⟩
          · have h2 : (if rI R (f + 2) L = 0 then none else (some x).map (fun x => (L, x))) = some r := h
            rw [if_neg z] at h2
            have : (L, x) = r := Option.some.inj h2
            subst this
            exact ⟨Nat.lt_succ_self _, k, ⟨z, k1, k3⟩, k2, fun k' hk' y => k4 k' hk' y.2.2, fun p' k' hp' => nb p' k' hp'⟩
          · have h2 : (if rI R (f + 2) L = 0 then none else (some x).map (fun x => (L, x))) = none := h
            rw [if_neg z] at h2
            exact absurd h2 nofun
        | none =>
          refine ⟨fun r h => ?_, fun _ p k hp => ?_⟩
          · have h2 : (if rI R (f + 2) L = 0 then none else (none : Option Int32).map (fun x => (L, x))) = some r := h
            rw [if_neg z] at h2
            exact absurd h2 nofun
          · by_cases y : p = L
            · subst y; exact fun v => i2 w k v.2.1 v.2.2
            · exact nb p k (by omega)
/-- which row a step belongs to -/
theorem J_row {J : Nat → Nat} {z : Nat} (j0 : J 0 = 0) : ∀ m, J m = z → ∀ x, x < z → (∀ i, i < m → J i ≤ J (i + 1)) → ∃ e, e < m ∧ J e ≤ x ∧ x < J (e + 1)
  | 0, h, x, hx, _ => by rw [j0] at h; omega
  | m + 1, h, x, hx, hm => by
    by_cases q : x < J m
    · obtain ⟨e, e1, e2, e3⟩ := J_row j0 m rfl x q (fun i hi => hm i (by omega))
      exact ⟨e, by omega, e2, e3⟩
    · exact ⟨m, Nat.lt_succ_self _, by omega, by omega⟩
theorem nI_n1 {p : Nat} (h : p < 1000) : ¬ nI p = -1 := fun z => by
  have := congrArg Int32.toInt z
  rw [nIt (by omega)] at this
  have e1 : (-1 : Int32).toInt = -1 := rfl
  omega
/-- the class's slips are the reference's -/
theorem sl_iff {X M' R : Mem} {i c W f p n : Nat} {mm : Int32} (hi1 : 1 ≤ i) (hi : i < 6) (hc : c < 64) (hK : K0 X M') (h36 : rI X 64 36 = -1) (hg : GA M') (hS : ShB X i) (hL : LsB X) (h2 : rI X 66 (64 * i + c) = 2) (n77 : rI X 77 c = 0) (hR : SmD X R 57) (hT : RTab X M' i c W R) (hf : 94 ≤ f) (hF : FmR X f (64 * i + c)) (h47 : ∀ w, w < W → rJ X 49 (w * 64 + c) = rJ M' 80 (64 * w + c) ∧ rI X 50 (w * 64 + c) = rI M' 81 (64 * w + c)) (hp : p < lenF X f) : (StC R f c W p n ∧ opF (rI R (f + 2) p) (rI R (f + 3) p) n = mm) ↔ ∃ e s2, e < mnR M' (64 * i + c) ∧ SFn M' i c W p e s2 n mm := by
  obtain ⟨m, J, h1, hmn, j0, jm, h5, h6, h7, h8, h9, h10, h11, h12, h13, h14, h15, h16⟩ := hF
  have em : mnR M' (64 * i + c) = m := by
    unfold mnR
    rw [hK.1 70 _ (by omega) (by omega), hmn]
    exact nI_clamp (by omega)
  rw [em]
  have sR : ∀ a, 94 ≤ a → rI R a = rI X a := fun a ha => funext fun y => hR.1 a y (by omega) (by omega) (by omega) (by omega)
  rw [show rI R (f + 2) = rI X (f + 2) from sR _ (by omega), show rI R (f + 3) = rI X (f + 3) from sR _ (by omega)]
  have hpl : ∀ y, y < zF X f → ∃ p, p < 40 ∧ pAt (csM X f) y = nI p := fun y hy => by
    obtain ⟨q, q1, q2⟩ := h13 y hy
    exact ⟨q, by omega, q2⟩
  have rawp : ∀ x, x < zF X f → pAt (csM X f) x = nI p → rI X (f + 2) p = sAt (csM X f) x ∧ rI X (f + 3) p = oAt (csM X f) x := fun x hx h => by
    have h2 : rI X (f + 4) x = nI p := h
    constructor
    · show _ = rI X (f + 2) (rI X (f + 4) x).toNatClampNeg
      rw [h2, nI_clamp (by omega)]
    · show _ = rI X (f + 3) (rI X (f + 4) x).toNatClampNeg
      rw [h2, nI_clamp (by omega)]
  have e71 : ∀ a x, 71 ≤ a → a ≤ 75 → rI M' a (40 * (64 * i + c) + x) = r71 X a (64 * i + c) x := fun a x h1 h2 => hK.1 a _ (by omega) (by omega)
  have al : ∀ {e x : Nat} {s2 o' a' b' : Int32}, e < m → x < zF X f → pAt (csM X f) x = nI p → ((x = J e ∧ s2 = 0 ∧ ¬ r71 X 71 (64 * i + c) e = 3 ∧ ¬ r71 X 71 (64 * i + c) e = 8) ∨ (x = J e + 1 ∧ s2 = 1 ∧ r71 X 71 (64 * i + c) e = 2)) → OpR (r71 X 71 (64 * i + c) e) (r71 X 72 (64 * i + c) e) (r71 X 73 (64 * i + c) e) s2 n mm o' a' b' → (soP (chM R (nI p) mm) f c W ↔ AlP (cgM M' (40 * (64 * i + c) + e) o' a' b') i c 1 W) := fun he hx hpx hb ho => so_al hi1 hi hc hK h36 hg hS hL h2 n77 hR hT hf h5 h1 hmn j0 jm (by omega) hpl h14 he hx hpx (by omega) hb ho h47
  constructor
  · rintro ⟨⟨s1, s2, s3, s4⟩, s5⟩
    rw [show rI R (f + 2) = rI X (f + 2) from sR _ (by omega)] at s1
    rw [show rI R (f + 2) = rI X (f + 2) from sR _ (by omega), show rI R (f + 3) = rI X (f + 3) from sR _ (by omega), s5] at s3 s4
    obtain ⟨x, x1, x2⟩ := h15 p s1
    obtain ⟨g1, g2⟩ := rawp x x1 x2
    rw [g1, g2] at s5
    obtain ⟨e, e1, e2, e3⟩ := J_row j0 m jm x x1 (fun y hy => by have := (h5 y hy).2.1; omega)
    obtain ⟨r1, r2, r3⟩ := h5 e e1
    have hb : ∃ s2 : Int32, ((x = J e ∧ s2 = 0 ∧ ¬ r71 X 71 (64 * i + c) e = 3 ∧ ¬ r71 X 71 (64 * i + c) e = 8) ∨ (x = J e + 1 ∧ s2 = 1 ∧ r71 X 71 (64 * i + c) e = 2)) ∧ ((s2 = 0 ∧ rI M' 74 (40 * (64 * i + c) + e) = nI p) ∨ (s2 = 1 ∧ rI M' 75 (40 * (64 * i + c) + e) = nI p)) := by
      rw [e71 74 e (by omega) (by omega), e71 75 e (by omega) (by omega)]
      have w1 : ¬ r71 X 71 (64 * i + c) e = 2 → x = J e := fun q => by
        have : wdT (r71 X 71 (64 * i + c) e) = 1 := if_neg q
        omega
      rcases r1 with q | q | q | q | q | q
      · have ex := w1 (by rw [q.1]; decide)
        exact ⟨0, Or.inl ⟨ex, rfl, by rw [q.1]; decide, by rw [q.1]; decide⟩, Or.inl ⟨rfl, q.2.2.2.1.symm.trans (ex ▸ x2)⟩⟩
      · have ex := w1 (by rw [q.1]; decide)
        exact ⟨0, Or.inl ⟨ex, rfl, by rw [q.1]; decide, by rw [q.1]; decide⟩, Or.inl ⟨rfl, q.2.2.2.1.symm.trans (ex ▸ x2)⟩⟩
      · have w3 : wdT (r71 X 71 (64 * i + c) e) = 3 := if_pos q.1
        rcases (show x = J e ∨ x = J e + 1 ∨ x = J e + 2 by omega) with ex | ex | ex
        · exact ⟨0, Or.inl ⟨ex, rfl, by rw [q.1]; decide, by rw [q.1]; decide⟩, Or.inl ⟨rfl, q.2.2.2.1.symm.trans (ex ▸ x2)⟩⟩
        · exact ⟨1, Or.inr ⟨ex, rfl, q.1⟩, Or.inr ⟨rfl, q.2.2.2.2.2.2.1.symm.trans (ex ▸ x2)⟩⟩
        · exfalso
          have es : sAt (csM X f) x = 5 := by rw [ex]; exact q.2.2.2.2.2.2.2.1
          rw [es] at s5
          have : opF 5 (oAt (csM X f) x) n = -2 := by unfold opF; rw [if_neg (by decide), if_neg (by decide), if_neg (by decide)]
          exact s3 (s5.symm.trans this)
      · exfalso
        have ex := w1 (by rw [q.1]; decide)
        rw [ex, q.2.1] at s5
        have : opF 4 (oAt (csM X f) (J e)) n = -2 := by unfold opF; rw [if_neg (by decide), if_neg (by decide), if_neg (by decide)]
        exact s3 (s5.symm.trans this)
      · have n2 : ¬ r71 X 71 (64 * i + c) e = 2 := fun z => nsg12 q.1 (Or.inr z)
        have ex := w1 n2
        exact ⟨0, Or.inl ⟨ex, rfl, by rcases q.1 with z | z | z | z <;> rw [z] <;> decide, by rcases q.1 with z | z | z | z <;> rw [z] <;> decide⟩, Or.inl ⟨rfl, q.2.2.1.symm.trans (ex ▸ x2)⟩⟩
      · exfalso
        have ex := w1 (by rw [q.1]; decide)
        rw [ex, q.2.1] at s5
        have : opF 6 (oAt (csM X f) (J e)) n = -2 := by unfold opF; rw [if_neg (by decide), if_neg (by decide), if_neg (by decide)]
        exact s3 (s5.symm.trans this)
    obtain ⟨t2, hbel, hpt⟩ := hb
    obtain ⟨o', a', b', ho⟩ := (opt_iff r1 hbel (h16 x x1) s2).mp ⟨s5, s3⟩
    refine ⟨e, t2, e1, hpt, o', a', b', ?_, (al e1 x1 x2 hbel ho).mp s4⟩
    rw [e71 71 e (by omega) (by omega), e71 72 e (by omega) (by omega), e71 73 e (by omega) (by omega)]
    exact ho
  · rintro ⟨e, t2, e1, hpt, o', a', b', ho, ha⟩
    rw [e71 71 e (by omega) (by omega), e71 72 e (by omega) (by omega), e71 73 e (by omega) (by omega)] at ho
    rw [e71 74 e (by omega) (by omega), e71 75 e (by omega) (by omega)] at hpt
    obtain ⟨r1, r2, r3⟩ := h5 e e1
    have hn4 : n < 4 := by
      rcases ho with q | q | q
      · exact q.2.1
      · rcases q.2.1 with ⟨z, -⟩ | ⟨z, -⟩ <;> omega
      · exact q.2.1
    have no38 : ¬ r71 X 71 (64 * i + c) e = 3 ∧ ¬ r71 X 71 (64 * i + c) e = 8 := by
      rcases ho with q | q | q
      · rcases q.1 with z | z | z | z <;> rw [z] <;> decide
      · rw [q.1]; decide
      · rcases q.1 with z | z <;> rw [z] <;> decide
    have w1 : 1 ≤ wdT (r71 X 71 (64 * i + c) e) := by unfold wdT; split <;> omega
    obtain ⟨x, hbel, x1, x2⟩ : ∃ x, ((x = J e ∧ t2 = 0 ∧ ¬ r71 X 71 (64 * i + c) e = 3 ∧ ¬ r71 X 71 (64 * i + c) e = 8) ∨ (x = J e + 1 ∧ t2 = 1 ∧ r71 X 71 (64 * i + c) e = 2)) ∧ x < zF X f ∧ pAt (csM X f) x = nI p := by
      rcases hpt with ⟨z, z2⟩ | ⟨z, z2⟩
      · refine ⟨J e, Or.inl ⟨rfl, z, no38⟩, by omega, ?_⟩
        rcases r1 with q | q | q | q | q | q
        · exact q.2.2.2.1.trans z2
        · exact q.2.2.2.1.trans z2
        · exact q.2.2.2.1.trans z2
        · exact absurd q.1 no38.1
        · exact q.2.2.1.trans z2
        · exact absurd q.1 no38.2
      · have o2 : r71 X 71 (64 * i + c) e = 2 := by
          have n1 := nI_n1 (p := p) (by omega)
          rcases r1 with q | q | q | q | q | q
          · exact absurd (z2.symm.trans q.2.2.2.2) n1
          · exact absurd (z2.symm.trans q.2.2.2.2.1) n1
          · exact q.1
          · exact absurd (z2.symm.trans q.2.2.2) n1
          · exact absurd (z2.symm.trans q.2.2.2) n1
          · exact absurd (z2.symm.trans q.2.2.2) n1
        have w3 : wdT (r71 X 71 (64 * i + c) e) = 3 := if_pos o2
        refine ⟨J e + 1, Or.inr ⟨rfl, z, o2⟩, by omega, ?_⟩
        rcases r1 with q | q | q | q | q | q
        · exact absurd (o2.symm.trans q.1) (by decide)
        · exact absurd (o2.symm.trans q.1) (by decide)
        · exact q.2.2.2.2.2.2.1.trans z2
        · exact absurd (o2.symm.trans q.1) (by decide)
        · exact absurd q.1 (by rw [o2]; decide)
        · exact absurd (o2.symm.trans q.1) (by decide)
    obtain ⟨g1, g2⟩ := rawp x x1 x2
    obtain ⟨k1, k2⟩ := (opt_iff r1 hbel (h16 x x1) hn4).mpr ⟨o', a', b', ho⟩
    have k3 := (al e1 x1 x2 hbel ho).mpr ha
    have nz : ¬ rI X (f + 2) p = 0 := fun z => by
      rw [← g1, z] at k1
      have : opF 0 (oAt (csM X f) x) n = -2 := by unfold opF; rw [if_neg (by decide), if_neg (by decide), if_neg (by decide)]
      exact k2 (k1.symm.trans this)
    rw [g1, g2]
    refine ⟨⟨by rw [sR _ (by omega)]; exact nz, hn4, ?_⟩, k1⟩
    unfold GoC
    rw [sR (f + 2) (by omega), sR (f + 3) (by omega), g1, g2, k1]
    exact ⟨k2, k3⟩
/-- a place is one row's alone -/
theorem pl_one {X M' : Mem} {i c W f p : Nat} (hK : K0 X M') (hF : FmR X f (64 * i + c)) (hp : p < 40) {e e' n n' : Nat} {s s' mm mm' : Int32} (he : e < mnR M' (64 * i + c)) (he' : e' < mnR M' (64 * i + c)) (h : SFn M' i c W p e s n mm) (h' : SFn M' i c W p e' s' n' mm') : e = e' ∧ s = s' := by
  obtain ⟨m, J, h1, hmn, j0, jm, h5, h6, h7, h8, h9, h10, h11, h12, h13, h14, h15, h16⟩ := hF
  have em : mnR M' (64 * i + c) = m := by
    unfold mnR
    rw [hK.1 70 _ (by omega) (by omega), hmn]
    exact nI_clamp (by omega)
  rw [em] at he he'
  have e71 : ∀ a x, 71 ≤ a → a ≤ 75 → rI M' a (40 * (64 * i + c) + x) = r71 X a (64 * i + c) x := fun a x h1 h2 => hK.1 a _ (by omega) (by omega)
  have key : ∀ (e n : Nat) (s mm : Int32), e < m → SFn M' i c W p e s n mm → ∃ x, x < zF X f ∧ pAt (csM X f) x = nI p ∧ ((x = J e ∧ s = 0) ∨ (x = J e + 1 ∧ s = 1 ∧ wdT (r71 X 71 (64 * i + c) e) = 3)) := fun e n s mm he h => by
    obtain ⟨hpt, o', a', b', ho, -⟩ := h
    rw [e71 71 e (by omega) (by omega), e71 72 e (by omega) (by omega), e71 73 e (by omega) (by omega)] at ho
    rw [e71 74 e (by omega) (by omega), e71 75 e (by omega) (by omega)] at hpt
    obtain ⟨r1, r2, r3⟩ := h5 e he
    have w1 : 1 ≤ wdT (r71 X 71 (64 * i + c) e) := by unfold wdT; split <;> omega
    have no38 : ¬ r71 X 71 (64 * i + c) e = 3 ∧ ¬ r71 X 71 (64 * i + c) e = 8 := by
      rcases ho with q | q | q
      · rcases q.1 with z | z | z | z <;> rw [z] <;> decide
      · rw [q.1]; decide
      · rcases q.1 with z | z <;> rw [z] <;> decide
    rcases hpt with ⟨z, z2⟩ | ⟨z, z2⟩
    · refine ⟨J e, by omega, ?_, Or.inl ⟨rfl, z⟩⟩
      rcases r1 with q | q | q | q | q | q
      · exact q.2.2.2.1.trans z2
      · exact q.2.2.2.1.trans z2
      · exact q.2.2.2.1.trans z2
      · exact absurd q.1 no38.1
      · exact q.2.2.1.trans z2
      · exact absurd q.1 no38.2
    · have n1 := nI_n1 (p := p) (by omega)
      rcases r1 with q | q | q | q | q | q
      · exact absurd (z2.symm.trans q.2.2.2.2) n1
      · exact absurd (z2.symm.trans q.2.2.2.2.1) n1
      · have w3 : wdT (r71 X 71 (64 * i + c) e) = 3 := if_pos q.1
        exact ⟨J e + 1, by omega, q.2.2.2.2.2.2.1.trans z2, Or.inr ⟨rfl, z, w3⟩⟩
      · exact absurd (z2.symm.trans q.2.2.2) n1
      · exact absurd (z2.symm.trans q.2.2.2) n1
      · exact absurd (z2.symm.trans q.2.2.2) n1
  obtain ⟨x, x1, x2, x3⟩ := key e n s mm he h
  obtain ⟨y, y1, y2, y3⟩ := key e' n' s' mm' he' h'
  have exy := h14 x y x1 y1 (x2.trans y2.symm)
  subst exy
  have mono : ∀ a b, a ≤ b → b ≤ m → J a ≤ J b := by
    intro a b hab
    induction b with
    | zero => intro _; rw [show a = 0 by omega]; exact Nat.le_refl _
    | succ b ih =>
      intro hb'
      by_cases qq : a = b + 1
      · rw [qq]; exact Nat.le_refl _
      · have := ih (by omega) (by omega)
        have := (h5 b (by omega)).2.1
        omega
  have st : ∀ a, a < m → J a + 1 ≤ J (a + 1) := fun a ha => by
    have := (h5 a ha).2.1
    have : 1 ≤ wdT (r71 X 71 (64 * i + c) a) := by unfold wdT; split <;> omega
    omega
  have ee : e = e' := by
    have r2 := (h5 e he).2.1
    have r2' := (h5 e' he').2.1
    have s1 := st e he
    have s2 := st e' he'
    rcases Nat.lt_trichotomy e e' with l | l | l
    · have := mono (e + 1) e' l (by omega)
      rcases x3 with ⟨q, -⟩ | ⟨q, -, q3⟩ <;> rcases y3 with ⟨q', -⟩ | ⟨q', -, q3'⟩ <;> omega
    · exact l
    · have := mono (e' + 1) e l (by omega)
      rcases x3 with ⟨q, -⟩ | ⟨q, -, q3⟩ <;> rcases y3 with ⟨q', -⟩ | ⟨q', -, q3'⟩ <;> omega
  subst ee
  refine ⟨rfl, ?_⟩
  rcases x3 with ⟨q, z⟩ | ⟨q, z, -⟩ <;> rcases y3 with ⟨q', z'⟩ | ⟨q', z', -⟩
  · rw [z, z']
  · omega
  · omega
  · rw [z, z']
