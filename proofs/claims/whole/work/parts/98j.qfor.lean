/-! one call of both: formula -/
def AlF (mC mR : MD) (dC dR : Nat) (LC LR : List (Nat × Value)) (M : Mem) (N : Nat) : Prop := ∃ (v : Int32) (N' : Nat), (N' = N ∨ N' = N + 6) ∧ ∀ Q : Option Value → Nat → Mem → Prop, (∀ M1, (∀ Q' : Option Value → Nat → Mem → Prop, (∀ M2 W t, Inv M2 N' W t → Q' (some (.int v)) N' M2) → AW mR dR 0 0 N' 0 LR [] M1 Q') → Q (some (.int v)) N' M1) → AW mC dC 6 168 N 0 LC [] M Q
theorem q_formula {M : Mem} {N W t : Nat} (I : Inv M N W t) (s c v : Int32) : AlF mX9_formula mX10_formula 33 6 [(0, .ref 2), (1, .int s), (2, .int c), (3, .int v)] [(0, .ref 64), (1, .int s), (2, .int c), (3, .int v)] M N := by
  have hN := I.N9
  obtain ⟨hB, hR, hL, hS, hs, hNo, hch, ⟨t1, t2, t3, t4⟩, hC⟩ := id I
  by_cases h1 : 0 ≤ s.toInt ∧ s.toInt < 6
  · obtain ⟨i, hi, rfl⟩ := rgI (n := 6) h1
    by_cases h2 : (0 ≤ c.toInt ∧ c.toInt < 64) ∧ (0 ≤ v.toInt ∧ v.toInt ≤ 40) ∧ v.toInt ≤ t
    · obtain ⟨j, hj, rfl⟩ := rgI (n := 64) h2.1
      obtain ⟨n, hn, rfl⟩ := rgI (s := v) (n := 41) ⟨by omega, by omega⟩
      have hn4 : n ≤ 40 := by omega
      have hnt : n ≤ t := by have := h2.2.2; rw [nIt (by omega)] at this; omega
      obtain ⟨kN, ekN⟩ := id hNo
      have hNf' : NFo (N + 6) := ⟨kN + 1, by omega⟩
      have hNR : FoR N (N + 6) := ⟨kN, ekN, by omega⟩
      obtain ⟨E, eE⟩ : ∃ E, E = fmE M N n t := ⟨_, rfl⟩
      obtain ⟨tt, ett⟩ : ∃ tt, tt = rI (fmM M N n t) (N + 1) := ⟨_, rfl⟩
      have epz : pzT M N n t = pzC tt n cs0 := by rw [ett]; rfl
      obtain ⟨r1, r2, r3, r4, r5⟩ := fmE_r (M := M) (f := N) (n := n) (t := t)
      rw [← eE, epz] at r1 r3 r4 r5
      rw [← eE, ← ett] at r2
      have ttp : ∀ p, p < n → tt p = rI M 4 p := fun p hp => by rw [ett]; exact fm_t hN hnt hp
      have EI : ∀ a p, a < N → rI E a p = if a = 3 ∧ p = 1 then 0 else rI M a p := fun a p h => by rw [eE]; exact fmE_o hN hnt (by omega)
      have EJ : ∀ a p, a < N → rJ E a p = rJ M a p := fun a p h => by rw [eE]; exact fmE_J (by omega)
      have EA : ∀ a p, a < N → rA E a p = rA M a p := fun a p h => by rw [eE]; exact fmE_A (by omega)
      have EL : ∀ a, a < N → E.2.2.2 a = M.2.2.2 a := fun a h => by rw [eE]; exact fmE_L (by omega)
      have Eo : FoF E.2.2 N n := by rw [eE]; exact fmE_fof hn4
      have Es : Str E.2.2.1 := by rw [eE]; exact fmE_str hN hs
      have T : TxO tt (rI M 65) n := ⟨hn4, fun p hp => by
        rw [ttp p hp]
        obtain ⟨q1, q2, q3⟩ := t4 p (by omega)
        exact ⟨q1, q3⟩⟩
      have cw : (pzC tt n cs0).2.1 = 0 → FRW E (N + 6) N ∧ FRP E N := fun z => fm_frw hn4 (pz_wf hn4 z).1 hNR Eo r1 r3 r4 r5
      refine ⟨(pzC tt n cs0).2.1, N + 6, Or.inr rfl, fun Q hQ => AW.rm (Nat.le_refl 6) (by omega : 4 * n + 8 ≤ 168) ?_⟩
      have E65 : rI E 65 = rI M 65 := funext fun p => by rw [EI 65 p (by omega), if_neg (by omega)]
      refine w_X9_formula_in hi hj hn4 hnt t3 t1 hNo (hch i hi) (fun z => ?_) hN hs (fun z => ?_) (fun z => ?_)
      · rw [epz] at z
        rw [← eE]
        exact (cw z).1
      · rw [epz] at z ⊢
        rw [← eE]
        refine hQ E (fun Q' hQ' => ?_)
        refine w_X10_formula_in (M := E) hi hj hn4 (tt := t) (t := tt) hnt t3 (by rw [EI 64 1 (by omega), if_neg (by omega)]; exact t2) (fun p hp => by rw [E65]; exact (t4 p (by omega)).2.1) (by rw [E65]; exact T) (by rw [EI 64 36 (by omega), if_neg (by omega)]; exact hR.2.1) (by omega) Es (fun X _ b => ?_) (fun X σ m z0 _ _ _ _ _ => absurd z0 z)
        obtain ⟨b1, b2, b3, b4⟩ := b
        refine hQ' X W 0 (inv_keep I (by omega) hNf' (fun a p q0 q1 q2 q3 q4 q5 => ?_) (fun a p q0 => (b3 a p).trans (EJ a p q0)) (fun a p q0 => ?_) (fun a _ q0 => by rw [b1]; exact EL a q0) ⟨?_, ?_, by omega, fun p hp => absurd hp (Nat.not_lt_zero p)⟩)
        · rw [b2 a p q4 q5, EI a p q0, if_neg q1]
        · have : rA X a p = rA E a p := by unfold rA; rw [b1]
          rw [this]; exact EA a p q0
        · rw [b2 3 1 (by omega) (by omega), EI 3 1 (by omega), if_pos ⟨rfl, rfl⟩]; exact nI_0.symm
        · rw [b4]; exact nI_0.symm
      · rw [epz] at z ⊢
        rw [← eE]
        obtain ⟨ns, ens⟩ : ∃ ns, ns = (nsF (csF E (9 + 6 * i + 1) N) (zF E N)).1 := ⟨_, rfl⟩
        rw [← ens]
        obtain ⟨P, eP⟩ : ∃ P, P = putS E (9 + 6 * i) j 2 0 (some N) ns := ⟨_, rfl⟩
        rw [← eP]
        have PI : ∀ a p, rI P a p = if a = 9 + 6 * i + 3 ∧ p = j then 0 else if a = 9 + 6 * i + 2 ∧ p = j then 2 else rI E a p := fun a p => by rw [eP]; exact pw_I
        have PJ : ∀ a p, rJ P a p = if a = 9 + 6 * i ∧ p = 5 then rJ E (9 + 6 * i) 5 ||| bitL (nI j) else if a = 9 + 6 * i + 5 ∧ p = j then ns else rJ E a p := fun a p => by rw [eP]; exact pw_J
        have PA : ∀ a p, rA P a p = if a = 9 + 6 * i + 4 ∧ p = j then some N else rA E a p := fun a p => by rw [eP]; exact pw_A
        have PL : P.2.2.2 = E.2.2.2 := by rw [eP]; rfl
        have Ps : Str P.2.2.1 := by rw [eP]; exact putS_str hi Es
        have P65 : rI P 65 = rI M 65 := by rw [← E65]; exact funext fun p => by rw [PI, if_neg (by omega), if_neg (by omega)]
        have P64 : ∀ p, rI P 64 p = rI M 64 p := fun p => by rw [PI, if_neg (by omega), if_neg (by omega), EI 64 p (by omega), if_neg (by omega)]
        refine hQ P (fun Q' hQ' => ?_)
        refine w_X10_formula_in (M := P) hi hj hn4 (tt := t) (t := tt) hnt t3 ((P64 1).trans t2) (fun p hp => by rw [P65]; exact (t4 p (by omega)).2.1) (by rw [P65]; exact T) ((P64 36).trans hR.2.1) (by omega) Ps (fun X z0 _ => absurd z z0) (fun X σ m _ m4 hm rl ht pu => ?_)
        obtain ⟨u1, u2, u3, u4, u5, u6, u7, u8, u9, u10, u11⟩ := pu
        have hX' : Inv X (N + 6) W 0 := by
          have XA : ∀ a p, rA X a p = rA P a p := fun a p => by unfold rA; rw [u1]
          have XL : X.2.2.2 = E.2.2.2 := by rw [u1]; exact PL
          have Xn : ∀ a p, N ≤ a → rI X a p = rI E a p := fun a p h => by
            rw [u2 a p (by omega) (by omega) (by omega) (by omega) (by omega), PI, if_neg (by omega), if_neg (by omega)]
          have ez : rI X N 4 = nI (pzC tt n cs0).2.2.1 := (Xn N 4 (Nat.le_refl _)).trans r1
          have e1 : ∀ p, p < n → rI X (N + 1) p = tt p := fun p hp => by rw [Xn (N + 1) p (by omega), r2 p]
          have e2 : rI X (N + 2) = (pzC tt n cs0).2.2.2.1 := (funext fun p => Xn (N + 2) p (by omega)).trans r3
          have e3 : rI X (N + 3) = (pzC tt n cs0).2.2.2.2.1 := (funext fun p => Xn (N + 3) p (by omega)).trans r4
          have e4 : rI X (N + 4) = (pzC tt n cs0).2.2.2.2.2 := (funext fun p => Xn (N + 4) p (by omega)).trans r5
          have XAn : ∀ p, rA X N p = rA E N p := fun p => by rw [XA, PA, if_neg (by omega)]
          have Xo : FoF X.2.2 N n := by
            obtain ⟨⟨o1, o2, o3, o4⟩, l1, l2, l3, l4, l5⟩ := Eo
            exact ⟨⟨(XAn 0).trans o1, (XAn 1).trans o2, (XAn 2).trans o3, (XAn 3).trans o4⟩, by rw [XL]; exact l1, by rw [XL]; exact l2, by rw [XL]; exact l3, by rw [XL]; exact l4, l5⟩
          have wf := pz_wf hn4 z
          have nf := fm_frw hn4 wf.1 hNR Xo ez e2 e3 e4
          have fm : FmR X N (64 * i + j) := fm_put hn4 wf.1 rl hm m4 ht ez e1 e2 e3 e4 Xo.2.1 u8 u7 (fun p hp => by
            rw [u9 p hp, PI, if_neg (by omega), if_neg (by omega), EI 65 p (by omega), if_neg (by omega)]
            have hb8 : (tt p).toInt < 128 := wf.1.2.2.2.2.2 p (by rw [wf.2]; exact hp)
            rw [ttp p hp] at hb8 ⊢
            exact by_eq2 (t4 p (by omega)).2.1 (t4 p (by omega)).1 hb8) u10 u11
          have hX1 : ∀ a p, a < 94 → ¬ ((a = 9 + 6 * i + 2 ∨ a = 9 + 6 * i + 3) ∧ p = j) → ¬ ((a = 66 ∨ a = 67 ∨ a = 68 ∨ a = 70) ∧ p = 64 * i + j) → ¬ ((a = 69 ∨ 71 ≤ a ∧ a ≤ 75) ∧ 40 * (64 * i + j) ≤ p ∧ p < 40 * (64 * i + j) + 40) → ¬ (a = 64 ∧ (p = 1 ∨ 21 ≤ p ∧ p ≤ 28)) → ¬ (82 ≤ a ∧ a ≤ 88) → ¬ (a = 3 ∧ p = 1) → rI X a p = rI M a p := fun a p q0 q1 q2 q3 q4 q5 q6 => by
            rw [u2 a p q4 q5 (by omega) (by omega) (by omega), PI, if_neg (by omega), if_neg (by omega), EI a p (by omega), if_neg q6]
          have xi2 : rI X (9 + 6 * i + 2) j = 2 := by rw [u2 _ _ (by omega) (by omega) (by omega) (by omega) (by omega), PI, if_neg (by omega), if_pos ⟨rfl, rfl⟩]
          have xJ5 : rJ X (9 + 6 * i) 5 = rJ M (9 + 6 * i) 5 ||| bitL (nI j) := by rw [u3 _ _ (by omega), PJ, if_pos ⟨rfl, rfl⟩, EJ _ _ (by omega)]
          have xAj : rA X (9 + 6 * i + 4) j = some N := by rw [XA, PA, if_pos ⟨rfl, rfl⟩]
          have xns : rJ X (9 + 6 * i + 5) j = ns := by rw [u3 _ _ (by omega), PJ, if_neg (by omega), if_pos ⟨rfl, rfl⟩]
          have ens2 : ns = rJ X 76 (64 * i + j) := by
            rw [ens]
            exact fm.ns (by rw [EI _ _ (by omega), if_neg (by omega)]; exact hch i hi) (r3.trans e2.symm) (r4.trans e3.symm) (r5.trans e4.symm) (r1.trans ez.symm)
          have no2 : ∀ {P : Prop}, rI X 66 (64 * i + j) = 1 ∨ rI X 66 (64 * i + j) = 0 → P := fun y => by
            rcases y with y | y
            · exact absurd (u6.symm.trans y) (by decide)
            · exact absurd (u6.symm.trans y) (by decide)
          refine inv_put I hi hj (by omega) hNf' hX1 (fun a p q0 q1 => ?_) (fun a p q0 q1 q2 q3 => ?_) (fun a p q0 q1 => ?_) (fun a _ q1 => by rw [XL]; exact EL a q1) (fun x hx hne => ?_) u5 ?_ (fun f hf => ?_) ⟨?_, ?_, by omega, fun p hp => absurd hp (Nat.not_lt_zero p)⟩
          · rw [u2 a p (by omega) (by omega) (by omega) (by omega) (by omega), PI, if_neg (by omega), if_neg (by omega), EI a p q1, if_neg (by omega)]
          · rw [u3 a p q3, PJ, if_neg q1, if_neg q2, EJ a p (by omega)]
          · rw [XA, PA, if_neg q1, EA a p q0]
          · rw [xJ5]
            exact Bool.eq_iff_iff.mpr ⟨fun y => ((hb_orb hx hj).mp y).resolve_right hne, fun y => (hb_orb hx hj).mpr (Or.inl y)⟩
          · exact ⟨xi2.trans u6.symm, Or.inr (Or.inr u6), ⟨fun _ => u6, fun _ => by rw [xJ5]; exact (hb_orb hj hj).mpr (Or.inr rfl)⟩, fun y => no2 (Or.inl y), fun y => no2 (Or.inr y), fun _ => ⟨N, xAj, hN, fm⟩, fun y => absurd u6 y, fun _ => xns.trans ens2⟩
          · rw [xAj] at hf
            cases hf
            exact nf
          · rw [u2 3 1 (by omega) (by omega) (by omega) (by omega) (by omega), PI, if_neg (by omega), if_neg (by omega), EI 3 1 (by omega), if_pos ⟨rfl, rfl⟩]; exact nI_0.symm
          · rw [u4]; exact nI_0.symm
        rw [z] at hQ'
        exact hQ' X W 0 hX'
    · exact ⟨-1, N, Or.inl rfl, fun Q hQ => AW.rm (Nat.zero_le _) (Nat.zero_le _) (w_X9_formula_o2 hi t1 t3 h2 hN hs (hQ M (fun Q' hQ' => w_X10_formula_out t3 t2 (fun z => h2 z.2) hN hs (hQ' M W t I))))⟩
  · exact ⟨-1, N, Or.inl rfl, fun Q hQ => AW.rm (Nat.zero_le _) (Nat.zero_le _) (w_X9_formula_o1 h1 hN hs (hQ M (fun Q' hQ' => w_X10_formula_out t3 t2 (fun z => h1 z.1) hN hs (hQ' M W t I))))⟩
