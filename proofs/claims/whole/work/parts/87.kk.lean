/-! kinds alike -/
def JC (M : Mem) (i W : Nat) : Prop := 1 ≤ i ∧ i < 6 ∧ W ≤ 6 ∧ ShB M 0 ∧ ShB M i ∧ LsB M ∧ rI M 64 36 = -1 ∧ ∀ g, FgR g → rI M (g + 1) 0 = -1
theorem Sx.shb {M X : Mem} (h : Sx M X) {i : Nat} (hi : i < 6) (k : ShB M i) : ShB X i := k.sm hi (fun a j ha => h.1 a j (Or.inl ha)) (fun a j ha => h.1 a j (by omega)) (fun a j ha => h.2.1 a j (Or.inl ha)) (fun a j ha => h.2.1 a j (Or.inr ha)) h.2.2
theorem Sx.lsb {M X : Mem} (h : Sx M X) (k : LsB M) : LsB X := k.sm (fun a j ha => h.1 a j (Or.inl ha)) (fun a j ha => h.1 a j (by omega)) (fun a j ha => h.2.1 a j (Or.inl ha))
theorem Sx.k0 {M X M' : Mem} (h : Sx M X) (k : K0 M M') : K0 X M' := ⟨fun a j p q => by rw [h.1 a j (by omega)]; exact k.1 a j p q, fun j p q => by rw [h.1 64 j (by omega)]; exact k.2.1 j p q, fun j => by rw [h.2.1 76 j (by omega)]; exact k.2.2 j⟩
theorem kd_eqX {M M' X : Mem} {i c W : Nat} {k a t : Int32} (hJ : JC M i W) (jx : Jw (opM M i W) X) (hK : K0 M M') (hg : GA M') (hT : ¬ rI M' 66 (64 * i + c) = 0 → TaskOK M' W) (hc : c < 64) (hwn : 0 < (rI M 78 c).toInt) (h : KdR M' i c W k a t) : k = jdK X (9 + 6 * i) c W ∧ (k = 4 → ∃ r, jdS X (9 + 6 * i) c W = some r ∧ a = nI r.1 ∧ t = r.2) := by
  obtain ⟨hi1, hi, hW, S0, Si, hL, h36, hu⟩ := hJ
  obtain ⟨X1, hX1⟩ : ∃ X1, X1 = rkO M 47 9 W := ⟨_, rfl⟩
  have sx : Sx M X := opM_sx.tr jx.sx
  obtain ⟨X0, hX⟩ : ∃ X0, X0 = opM M i W := ⟨_, rfl⟩
  have eX : X0 = rkO X1 52 (9 + 6 * i) W := by rw [hX, hX1]; rfl
  rw [← hX] at jx
  have sx1 : Sx M X1 := by rw [hX1]; exact rkO_sx FgR47
  have S1i := sx1.shb hi Si
  have SXi := sx.shb hi Si
  have L1 := sx1.lsb hL
  have LX := sx.lsb hL
  have k1 : K0 X1 M' := sx1.k0 hK
  have kX : K0 X M' := sx.k0 hK
  have u1 : rI X1 53 0 = -1 := by rw [sx1.1 53 0 (by omega)]; exact hu 52 FgR52
  have uX : rI X 58 0 = -1 := by rw [sx.1 58 0 (by omega)]; exact hu 57 FgR57
  have x36 : rI X 64 36 = -1 := by rw [sx.1 64 36 (by omega)]; exact h36
  have m36 : rI X1 64 36 = -1 := by rw [sx1.1 64 36 (by omega)]; exact h36
  obtain ⟨d52, -, own⟩ := own_ans (i := i) (g := 52) hi FgR52 S1i L1 m36 u1 hW c
  rw [← eX] at d52 own
  have t47 : ∀ w x, x < 64 → (fgF X 47 w).1 x = (fgF (rkO M 47 9 W) 47 w).1 x ∧ (fgF X 47 w).2 x = (fgF (rkO M 47 9 W) 47 w).2 x := fun w x _ => by
    rw [← hX1]
    exact ⟨(jx.2.1 49 _ (by decide)).trans (d52.2.1 49 _ (by decide) (by decide) (by decide) (by decide)), (jx.1 50 _ (by decide)).trans (d52.1 50 _ (by decide) (by decide) (by decide) (by decide))⟩
  have cg : ∀ rt w, Cgr (ndR M' i c rt) (stR M' i c rt w) := fun rt w => stR_cg hi (hg.at hi)
  have cg0 : ∀ x w, Cgr (ndR M' 0 x 0) (stR M' 0 x 0 w) := fun x w => stR_cg (by decide) (hg.at (by decide))
  have own' : ∀ w, w < W → Ans (ndR M' i c 0) (stR M' i c 0 w) c (rJ X 54 (w * 64 + c), rI X 55 (w * 64 + c)) := fun w hw => by
    have := (own w hw).2 c hc
    rw [← k1.nd, ← k1.st (Or.inl rfl)] at this
    rw [jx.2.1 54 _ (by decide), jx.1 55 _ (by decide)]
    exact this
  obtain ⟨a1, a2, a3, a4, a5, a6, a7, a8⟩ := SXi c hc
  have e66 : rI X 66 (64 * i + c) = rI M' 66 (64 * i + c) := (kX.1 66 _ (by omega) (by omega)).symm
  have n77 : rI X 77 c = 0 := Classical.byContradiction (fun z => LX.2.2.2.2 c hc ((LX.1 c hc).mpr z) ((LX.2.1 c hc).mpr (by rw [sx.1 78 c (by omega)]; exact hwn)))
  have task := fun (z : ¬ rI M' 66 (64 * i + c) = 0) => task_eq (X := X) S0 hL h36 (hu 47 FgR47) hW t47 hK (hT z) cg0
  have t80 : ¬ rI M' 66 (64 * i + c) = 0 → ∀ w, w < W → rJ X 49 (w * 64 + c) = rJ M' 80 (64 * w + c) ∧ rI X 50 (w * 64 + c) = rI M' 81 (64 * w + c) := fun z w hw => (task z w hw c hc hwn).2
  rcases h with ⟨z, hk⟩ | ⟨z, hk⟩ | ⟨z, hk⟩
  · obtain ⟨b1, -⟩ := a7 (by rw [e66, z]; decide)
    rw [jdK_n b1]
    refine ⟨hk.trans (if_pos (by rw [a1, e66, z])).symm, fun y => absurd (hk.symm.trans y) (by decide)⟩
  · have nz : ¬ rI M' 66 (64 * i + c) = 0 := by rw [z]; decide
    obtain ⟨b1, -⟩ := a7 (by rw [e66, z]; decide)
    rw [jdK_n b1]
    have ej : jnF X (9 + 6 * i) c W = if alo X 52 c W then 2 else 5 := if_neg (by rw [a1, e66, z]; decide)
    rw [ej]
    have nt : ¬ tdP M' c c 0 := fun q => q.elim (fun y => y (by rw [kX.1 77 c (by omega) (by omega)]; exact n77)) (fun y => y.1 rfl)
    have z77 : rI M' 77 c = 0 := by rw [kX.1 77 c (by omega) (by omega)]; exact n77
    have val : ∀ w, w < W → rJ X 54 (w * 64 + c) = (rI M' 67 (64 * i + c)).toInt64 ∧ rI X 55 (w * 64 + c) = 0 := fun w hw => by
      have nd0 : ndR M' i c 0 c = 0 := by
        unfold ndR
        rw [if_neg nt]
        unfold nR
        rw [if_pos (by rw [z]; decide)]
      have e := Ans_uniq (cg 0 w) hc (own' w hw) (giv_ans hc nd0 (V := (fun _ => (rI M' 67 (64 * i + c)).toInt64, fun _ => 0)) (by rw [stR_3 z77 nt z]))
      exact ⟨congrArg Prod.fst e, congrArg Prod.snd e⟩
    have iff : alo X 52 c W ↔ TyP M' i c W := by
      constructor
      · intro q
        obtain ⟨w, hw⟩ := Classical.not_forall.mp q
        obtain ⟨w1, hw⟩ := Classical.not_imp.mp hw
        obtain ⟨q1, q2⟩ := Classical.not_not.mp hw
        obtain ⟨v1, v2⟩ := val w w1
        obtain ⟨t1, t2⟩ := t80 nz w w1
        exact ⟨w, w1, t2.symm.trans (q1.symm.trans v2), t1.symm.trans (q2.symm.trans v1)⟩
      · rintro ⟨w, w1, w2, w3⟩ q
        obtain ⟨v1, v2⟩ := val w w1
        obtain ⟨t1, t2⟩ := t80 nz w w1
        exact q w w1 ⟨v2.trans (w2.symm.trans t2.symm), v1.trans (w3.symm.trans t1.symm)⟩
    rcases hk with ⟨hk, ty⟩ | ⟨hk, ty⟩
    · rw [if_pos (iff.mpr ty)]
      exact ⟨hk, fun y => absurd (hk.symm.trans y) (by decide)⟩
    · rw [if_neg (fun q => ty (iff.mp q))]
      exact ⟨hk, fun y => absurd (hk.symm.trans y) (by decide)⟩
  · have nz : ¬ rI M' 66 (64 * i + c) = 0 := by rw [z]; decide
    have x2 : rI X 66 (64 * i + c) = 2 := by rw [e66]; exact z
    obtain ⟨f, f1, f2, f3⟩ := a6 x2
    obtain ⟨R, hR⟩ : ∃ R, R = rkR X 57 (9 + 6 * i) 47 c W := ⟨_, rfl⟩
    obtain ⟨dR, rt⟩ := right_tab (M' := M') hi hc SXi LX x36 uX hW kX (fun w hw x hx hp => task nz w hw x hx (by rw [← sx.1 78 x (by omega)]; exact hp))
    rw [← hR] at dR rt
    have rans := right_ans hi hc SXi LX x36 kX (cg 1) rt
    have i0 : alk X 52 c W ↔ AlP M' i c 0 W := by
      constructor
      · intro q w hw
        obtain ⟨q1, q2⟩ := q w hw
        obtain ⟨t1, t2⟩ := t80 nz w hw
        have := own' w hw
        rw [show rJ X 54 (w * 64 + c) = rJ M' 80 (64 * w + c) from q2.trans t1, show rI X 55 (w * 64 + c) = rI M' 81 (64 * w + c) from q1.trans t2] at this
        exact this
      · intro q w hw
        have e := Ans_uniq (cg 0 w) hc (own' w hw) (q w hw)
        obtain ⟨t1, t2⟩ := t80 nz w hw
        exact ⟨(congrArg Prod.snd e).trans t2.symm, (congrArg Prod.fst e).trans t1.symm⟩
    have tR : ∀ w, w < W → rJ R 49 (w * 64 + c) = rJ M' 80 (64 * w + c) ∧ rI R 50 (w * 64 + c) = rI M' 81 (64 * w + c) := fun w hw => by
      obtain ⟨t1, t2⟩ := t80 nz w hw
      exact ⟨(dR.2.1 49 _ (by decide) (by decide) (by decide) (by decide)).trans t1, (dR.1 50 _ (by decide) (by decide) (by decide) (by decide)).trans t2⟩
    have i1 : alk R 57 c W ↔ AlP M' i c 1 W := by
      constructor
      · intro q w hw
        obtain ⟨q1, q2⟩ := q w hw
        obtain ⟨t1, t2⟩ := tR w hw
        have : Ans (ndR M' i c 1) (stR M' i c 1 w) c (rJ R 59 (w * 64 + c), rI R 60 (w * 64 + c)) := rans w hw
        rw [show rJ R 59 (w * 64 + c) = rJ M' 80 (64 * w + c) from q2.trans t1, show rI R 60 (w * 64 + c) = rI M' 81 (64 * w + c) from q1.trans t2] at this
        exact this
      · intro q w hw
        have e := Ans_uniq (cg 1 w) hc (rans w hw) (q w hw)
        obtain ⟨t1, t2⟩ := tR w hw
        exact ⟨(congrArg Prod.snd e).trans t2.symm, (congrArg Prod.fst e).trans t1.symm⟩
    rcases hk with ⟨hk, al⟩ | ⟨na, hk⟩
    · rw [jdK_1 f1 (i0.mpr al)]
      exact ⟨hk, fun y => absurd (hk.symm.trans y) (by decide)⟩
    · have na' : ¬ alk X 52 c W := fun q => na (i0.mp q)
      rcases hk with ⟨hk, al⟩ | ⟨nb, hk⟩
      · rw [jdK_3 f1 na' (by rw [← hR]; exact i1.mpr al)]
        exact ⟨hk, fun y => absurd (hk.symm.trans y) (by decide)⟩
      · have nb' : ¬ alk (rkR X 57 (9 + 6 * i) 47 c W) 57 c W := fun q => nb (i1.mp (by rw [hR]; exact q))
        obtain ⟨p1, p2⟩ := slP_s (R := R) (f := f) (c := c) (W := W) (lenF X f)
        have sl := fun (p n : Nat) (mm : Int32) (hp : p < lenF X f) => sl_iff (n := n) (mm := mm) hi1 hi hc kX x36 hg SXi LX x2 n77 dR rt f2 f3 (t80 nz) hp
        have l40 : lenF X f ≤ 40 := by obtain ⟨m, J, -, -, -, -, -, -, -, -, -, q, -⟩ := f3; exact q
        have esz : ∀ sz, sz ≤ 40 → rI M' 68 (64 * i + c) = nI sz → sz = lenF X f := fun sz h4 e => by
          obtain ⟨m, J, -, -, -, -, -, -, -, -, -, -, q, -⟩ := f3
          rw [kX.1 68 _ (by omega) (by omega), q] at e
          exact ((nI_eq (by omega) (by omega)).mp e).symm
        rcases hk with ⟨hk, sz, h4, hsz, sy⟩ | ⟨hk, sz, h4, hsz, sn⟩
        · obtain rfl := esz sz h4 hsz
          obtain ⟨p, e, s2, n, mm, y1, y2, y3, y4, y5, y6, y7⟩ := sy
          obtain ⟨g1, g2⟩ := (sl p n mm y1).mpr ⟨e, s2, y2, y3⟩
          cases q : slP R f c W (lenF X f) with
          | none => exact absurd g1 (p2 q p n y1)
          | some r =>
            obtain ⟨r1, kk, r2, r3, r4, r5⟩ := p1 r q
            have pr : p = r.1 := by
              rcases Nat.lt_trichotomy p r.1 with l | l | l
              · exact absurd g1 (r5 p n l)
              · exact l
              · exfalso
                obtain ⟨e', s', z1, z2⟩ := (sl r.1 kk r.2 r1).mp ⟨r2, r3⟩
                exact y4 r.1 e' s' kk r.2 l z1 z2
            have nk : n = kk := by
              rcases Nat.lt_trichotomy n kk with l | l | l
              · exact absurd (pr ▸ g1) (r4 n l)
              · exact l
              · exfalso
                obtain ⟨e', s', z1, z2⟩ := (sl r.1 kk r.2 r1).mp ⟨r2, r3⟩
                rw [← pr] at z2
                obtain ⟨w1, w2⟩ := pl_one kX f3 (by omega) y2 z1 y3 z2
                subst w1
                subst w2
                exact y5 kk r.2 l z2
            have mr : mm = r.2 := by rw [← g2, ← r3, pr, nk]
            refine ⟨?_, fun _ => ⟨r, ?_, by rw [y6, pr], by rw [y7, mr]⟩⟩
            · rw [jdK_4 f1 na' nb' (by rw [← hR]; exact q)]
              exact hk
            · rw [jdS_s f1, ← hR]
              exact q
        · obtain rfl := esz sz h4 hsz
          cases q : slP R f c W (lenF X f) with
          | none =>
            rw [jdK_5 f1 na' nb' (by rw [← hR]; exact q)]
            exact ⟨hk, fun y => absurd (hk.symm.trans y) (by decide)⟩
          | some r =>
            exfalso
            obtain ⟨r1, kk, r2, r3, -⟩ := p1 r q
            obtain ⟨e', s', z1, z2⟩ := (sl r.1 kk r.2 r1).mp ⟨r2, r3⟩
            exact sn r.1 e' s' kk r.2 r1 z1 z2
theorem kd_eq {M M' : Mem} {i c W : Nat} {k a t : Int32} (hJ : JC M i W) (hK : K0 M M') (hg : GA M') (hT : ¬ rI M' 66 (64 * i + c) = 0 → TaskOK M' W) (hc : c < 64) (hwn : 0 < (rI M 78 c).toInt) (h : KdR M' i c W k a t) : k = jdK (opM M i W) (9 + 6 * i) c W ∧ (k = 4 → ∃ r, jdS (opM M i W) (9 + 6 * i) c W = some r ∧ a = nI r.1 ∧ t = r.2) := kd_eqX hJ Jw.rf hK hg hT hc hwn h

