/-! kinds alike, whatever the scratch -/
theorem KdR.ks {M M1 : Mem} (ks : KS M M1) (h36 : rI M 64 36 = -1) (hg : GA M) {i c W : Nat} (hi : i < 6) {k a t : Int32} (h : KdR M i c W k a t) : KdR M1 i c W k a t := by
  have e66 : rI M1 66 (64 * i + c) = rI M 66 (64 * i + c) := ks.2.1 66 _ (by omega) (by omega) (by omega)
  have e68 : rI M1 68 (64 * i + c) = rI M 68 (64 * i + c) := ks.2.1 68 _ (by omega) (by omega) (by omega)
  have ety : TyP M1 i c W ↔ TyP M i c W := by
    unfold TyP
    simp only [ks.j80.1, ks.j80.2, ks.2.1 67 (64 * i + c) (by omega) (by omega) (by omega)]
  unfold KdR at h ⊢
  rw [e66, e68, ety, AlP.ks ks h36 hg hi, AlP.ks ks h36 hg hi]
  simp only [SlY.ks ks, SlN.ks ks]
  exact h
/-- the reference's memory with M's change -/
def czM (M M' : Mem) : Mem := sI (sI (sI M' 64 37 (rI M 64 37)) 64 38 (rI M 64 38)) 64 39 (rI M 64 39)
theorem cz_o {M M' : Mem} {a j : Nat} (h : ¬ (a = 64 ∧ (j = 37 ∨ j = 38 ∨ j = 39))) : rI (czM M M') a j = rI M' a j := by
  unfold czM
  rw [rI_sI, if_neg (by omega), rI_sI, if_neg (by omega), rI_sI, if_neg (by omega)]
theorem cz_ks {M M' : Mem} : KS M' (czM M M') := ⟨rfl, fun a j _ _ h => cz_o (by omega), fun _ _ _ _ _ _ => rfl⟩
def K1 (M M' : Mem) : Prop := (∀ a j, 65 ≤ a → a ≤ 79 → rI M' a j = rI M a j) ∧ (∀ j, j ≤ 36 → ¬ (21 ≤ j ∧ j ≤ 35) → rI M' 64 j = rI M 64 j) ∧ (∀ j, rJ M' 76 j = rJ M 76 j)
theorem cz_k0 {M M' : Mem} (h : K1 M M') : K0 M (czM M M') := by
  refine ⟨fun a j p q => by rw [cz_o (by omega)]; exact h.1 a j p q, fun j p q => ?_, h.2.2⟩
  by_cases e : j = 37 ∨ j = 38 ∨ j = 39
  · rcases e with rfl | rfl | rfl
    · unfold czM
      rw [rI_sI, if_neg (by omega), rI_sI, if_neg (by omega), rI_sI, if_pos ⟨rfl, rfl⟩]
    · unfold czM
      rw [rI_sI, if_neg (by omega), rI_sI, if_pos ⟨rfl, rfl⟩]
    · unfold czM
      rw [rI_sI, if_pos ⟨rfl, rfl⟩]
  · rw [cz_o (by omega)]
    exact h.2.1 j (by omega) q
theorem kd_eqK {M M' X : Mem} {i c W : Nat} {k a t : Int32} (hJ : JC M i W) (jx : Jw (opM M i W) X) (hK : K1 M M') (hg : GA M') (hT : ¬ rI M' 66 (64 * i + c) = 0 → TaskOK M' W) (hc : c < 64) (hwn : 0 < (rI M 78 c).toInt) (h : KdR M' i c W k a t) : k = jdK X (9 + 6 * i) c W ∧ (k = 4 → ∃ r, jdS X (9 + 6 * i) c W = some r ∧ a = nI r.1 ∧ t = r.2) := by
  have h36 : rI M' 64 36 = -1 := by
    obtain ⟨-, -, -, -, -, -, q, -⟩ := hJ
    rw [hK.2.1 36 (by omega) (by omega)]
    exact q
  have ks : KS M' (czM M M') := cz_ks
  exact kd_eqX hJ jx (cz_k0 hK) (ks.ga h36 hg) (fun z => ks.task h36 hg (hT (by rw [cz_o (by omega)] at z; exact z))) hc hwn (h.ks ks h36 hg (by obtain ⟨-, q, -⟩ := hJ; exact q))
theorem lst_n {P : Nat → Prop} : ∀ n, P n → ∃ m, P m ∧ ∀ k, k < m → ¬ P k := by
  intro n
  induction n using Nat.strongRecOn with
  | ind n ih =>
    intro h
    by_cases q : ∃ k, k < n ∧ P k
    · obtain ⟨k, hk, p⟩ := q
      exact ih k hk p
    · exact ⟨n, h, fun k hk p => q ⟨k, hk, p⟩⟩
/-- there is a kind -/
theorem Kd_ex {M : Mem} {i c W : Nat} (h : rI M 66 (64 * i + c) = 0 ∨ rI M 66 (64 * i + c) = 1 ∨ rI M 66 (64 * i + c) = 2) (hf : rI M 66 (64 * i + c) = 2 → ∃ sz, sz ≤ 40 ∧ rI M 68 (64 * i + c) = nI sz) : ∃ k a t, KdR M i c W k a t := by
  rcases h with z | z | z
  · exact ⟨0, 0, 0, Or.inl ⟨z, rfl⟩⟩
  · by_cases q : TyP M i c W
    · exact ⟨2, 0, 0, Or.inr (Or.inl ⟨z, Or.inl ⟨rfl, q⟩⟩)⟩
    · exact ⟨5, 0, 0, Or.inr (Or.inl ⟨z, Or.inr ⟨rfl, q⟩⟩)⟩
  · by_cases q0 : AlP M i c 0 W
    · exact ⟨1, 0, 0, Or.inr (Or.inr ⟨z, Or.inl ⟨rfl, q0⟩⟩)⟩
    · by_cases q1 : AlP M i c 1 W
      · exact ⟨3, 0, 0, Or.inr (Or.inr ⟨z, Or.inr ⟨q0, Or.inl ⟨rfl, q1⟩⟩⟩)⟩
      · obtain ⟨sz, h4, hsz⟩ := hf z
        by_cases q : ∃ p, p < sz ∧ ∃ e s2 n m, e < mnR M (64 * i + c) ∧ SFn M i c W p e s2 n m
        · obtain ⟨p0, hp0⟩ := q
          obtain ⟨p, ⟨hp, e, s2, n0, m0, he, hs0⟩, hmin⟩ := lst_n (P := fun p => p < sz ∧ ∃ e s2 n m, e < mnR M (64 * i + c) ∧ SFn M i c W p e s2 n m) p0 hp0
          obtain ⟨n, ⟨m, hs⟩, hn⟩ := lst_n (P := fun n => ∃ m, SFn M i c W p e s2 n m) n0 ⟨m0, hs0⟩
          exact ⟨4, nI p, m, Or.inr (Or.inr ⟨z, Or.inr ⟨q0, Or.inr ⟨q1, Or.inl ⟨rfl, sz, h4, hsz, p, e, s2, n, m, hp, he, hs, fun p' e' s2' n' m' l he' k => hmin p' l ⟨by omega, e', s2', n', m', he', k⟩, fun n' m' l k => hn n' l ⟨m', k⟩, rfl, rfl⟩⟩⟩⟩)⟩
        · exact ⟨5, 0, 0, Or.inr (Or.inr ⟨z, Or.inr ⟨q0, Or.inr ⟨q1, Or.inr ⟨rfl, sz, h4, hsz, fun p e s2 n m hp he k => q ⟨p, hp, e, s2, n, m, he, k⟩⟩⟩⟩⟩)⟩
/-- the reference's memory with the task's figures of the class -/
noncomputable def tkM (M : Mem) (W : Nat) : Mem := (fun a j => if a = 81 then rI (rkO M 47 9 W) 50 j else M.1 a j, fun a j => if a = 80 then rJ (rkO M 47 9 W) 49 j else M.2.1 a j, M.2.2)
theorem tk_k0 {M : Mem} {W : Nat} : K0 M (tkM M W) := by
  refine ⟨fun a j p q => ?_, fun j p q => ?_, fun j => ?_⟩
  · show (if a = 81 then rI (rkO M 47 9 W) 50 j else M.1 a j) = M.1 a j
    exact if_neg (by omega)
  · show (if 64 = 81 then rI (rkO M 47 9 W) 50 j else M.1 64 j) = M.1 64 j
    exact if_neg (by omega)
  · show (if 76 = 80 then rJ (rkO M 47 9 W) 49 j else M.2.1 76 j) = M.2.1 76 j
    exact if_neg (by omega)
theorem tk_ok {M : Mem} {W : Nat} (S0 : ShB M 0) (hL : LsB M) (h36 : rI M 64 36 = -1) (hu : rI M 48 0 = -1) (hW : W ≤ 6) : TaskOK (tkM M W) W := by
  intro c hc hp w hw
  obtain ⟨-, -, own⟩ := own_ans (i := 0) (g := 47) (by decide) FgR47 S0 hL h36 hu hW c
  have := (own w hw).2 c hc
  have k0 : K0 M (tkM M W) := tk_k0
  rw [← k0.nd, ← k0.st (Or.inl rfl)] at this
  unfold AnT
  have e80 : rJ (tkM M W) 80 (64 * w + c) = rJ (rkO M 47 9 W) 49 (w * 64 + c) := by
    rw [Nat.mul_comm w 64]
    show (if 80 = 80 then rJ (rkO M 47 9 W) 49 (64 * w + c) else M.2.1 80 (64 * w + c)) = _
    exact if_pos rfl
  have e81 : rI (tkM M W) 81 (64 * w + c) = rI (rkO M 47 9 W) 50 (w * 64 + c) := by
    rw [Nat.mul_comm w 64]
    show (if 81 = 81 then rI (rkO M 47 9 W) 50 (64 * w + c) else M.1 81 (64 * w + c)) = _
    exact if_pos rfl
  rw [e80, e81]
  exact this
/-- the kind stays, whatever the class's scratch -/
theorem jd_jw {M X : Mem} {i c W : Nat} (hJ : JC M i W) (hR : RfI M W) (jx : Jw (opM M i W) X) (hc : c < 64) (hwn : 0 < (rI M 78 c).toInt) : jdK X (9 + 6 * i) c W = jdK (opM M i W) (9 + 6 * i) c W := by
  obtain ⟨hi1, hi, hW, S0, Si, hL, h36, hu⟩ := id hJ
  have k0 : K0 M (tkM M W) := tk_k0
  have hg : GA (tkM M W) := k0.ga hR.1
  have tk : TaskOK (tkM M W) W := tk_ok S0 hL h36 (hu 47 FgR47) hW
  obtain ⟨r1, r2⟩ := hR.2.2.2.2.2 (64 * i + c) (by omega)
  obtain ⟨k, a, t, kd⟩ := Kd_ex (M := tkM M W) (i := i) (c := c) (W := W) (by rw [k0.1 66 _ (by omega) (by omega)]; exact r1) (fun z => by
    rw [k0.1 66 _ (by omega) (by omega)] at z
    rw [k0.1 68 _ (by omega) (by omega)]
    exact (r2 z).1)
  have x1 := (kd_eqX hJ jx k0 hg (fun _ => tk) hc hwn kd).1
  have x2 := (kd_eqX hJ Jw.rf k0 hg (fun _ => tk) hc hwn kd).1
  exact x1.symm.trans x2
noncomputable def kpO (M : Mem) (i W : Nat) (c : Nat) : Int32 := jdK (opM M i W) (9 + 6 * i) c W
noncomputable def apO (M : Mem) (i W : Nat) (c : Nat) : Int32 := match jdS (opM M i W) (9 + 6 * i) c W with
  | some r => nI r.1
  | none => 0
noncomputable def tpO (M : Mem) (i W : Nat) (c : Nat) : Int32 := match jdS (opM M i W) (9 + 6 * i) c W with
  | some r => r.2
  | none => 0
/-- the reference's kinds are the class's, from any memory that keeps the reference's cells -/
theorem kk_ok {M M1 : Mem} {i W : Nat} (hJ : JC M i W) (h1 : ∀ a j, 64 ≤ a → rI M1 a j = rI M a j) (h2 : ∀ a j, 64 ≤ a → rJ M1 a j = rJ M a j) : KK M1 i W (kpO M i W) (apO M i W) (tpO M i W) := by
  intro M' x k a t hx hw hu hr ht hd
  have k1 : K1 M M' := ⟨fun a j p q => by rw [hu.2.1 a j (by omega) (by omega) (by omega) (by omega)]; exact h1 a j (by omega), fun j p q => by rw [hu.2.1 64 j (by omega) (by omega) (by omega) (by omega)]; exact h1 64 j (by omega), fun j => by rw [hu.2.2 76 j (by omega) (by omega) (by omega) (by omega) (by omega)]; exact h2 76 j (by omega)⟩
  rw [h1 78 x (by omega)] at hw
  obtain ⟨e1, e2⟩ := kd_eqK hJ Jw.rf k1 hr.1 ht hx hw hd
  refine ⟨e1, fun z => ?_⟩
  obtain ⟨r, r1, r2, r3⟩ := e2 z
  unfold apO tpO
  rw [r1]
  exact ⟨r2, r3⟩
theorem slF_ap {M : Mem} {i W c : Nat} {w : Int32} (hw : w = 0 ∨ w = 1) : slF (opM M i W) (9 + 6 * i) c W w = if kpO M i W c = 4 then (if w = 0 then apO M i W c else tpO M i W c) else -1 := by
  by_cases z : jdK (opM M i W) (9 + 6 * i) c W = 4
  · obtain ⟨r, hr⟩ := jdK_r z
    have z2 : kpO M i W c = 4 := z
    unfold slF apO tpO
    rw [if_pos z, if_pos z2, hr]
  · rw [slF_1 z]
    exact (if_neg (show ¬ kpO M i W c = 4 from z)).symm
