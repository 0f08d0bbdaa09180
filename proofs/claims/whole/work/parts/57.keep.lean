/-! what the reference's reckoning keeps -/
theorem nI_surj (e : Int32) : ∃ h, e = nI h := ⟨e.toBitVec.toNat, by
  refine Int32.toBitVec_inj.mp ?_
  show e.toBitVec = (Int32.ofNat e.toBitVec.toNat).toBitVec
  rw [Int32.toBitVec_ofNat', BitVec.ofNat_toNat, BitVec.setWidth_eq]⟩
/-- what stands of the sheets -/
def K0 (M M' : Mem) : Prop := (∀ a j, 65 ≤ a → a ≤ 79 → rI M' a j = rI M a j) ∧ (∀ j, j ≤ 39 → ¬ (21 ≤ j ∧ j ≤ 35) → rI M' 64 j = rI M 64 j) ∧ (∀ j, rJ M' 76 j = rJ M 76 j)
/-- all but the scratch of a reckoning -/
def Kp (M M' : Mem) : Prop := M'.2.2 = M.2.2 ∧ (∀ a j, a ≠ 89 → a ≠ 92 → ¬ (a = 64 ∧ (j = 40 ∨ j = 46 ∨ j = 47 ∨ j = 49)) → rI M' a j = rI M a j) ∧ (∀ a j, a ≠ 90 → a ≠ 91 → a ≠ 93 → ¬ (a = 64 ∧ j = 48) → rJ M' a j = rJ M a j)
/-- all but that and the task's figures -/
def KT (M M' : Mem) : Prop := M'.2.2 = M.2.2 ∧ (∀ a j, a ≠ 81 → a ≠ 89 → a ≠ 92 → ¬ (a = 64 ∧ (j = 21 ∨ j = 40 ∨ j = 46 ∨ j = 47 ∨ j = 49)) → rI M' a j = rI M a j) ∧ (∀ a j, a ≠ 80 → a ≠ 90 → a ≠ 91 → a ≠ 93 → ¬ (a = 64 ∧ j = 48) → rJ M' a j = rJ M a j)
theorem Kp.refl {M : Mem} : Kp M M := ⟨rfl, fun _ _ _ _ _ => rfl, fun _ _ _ _ _ _ => rfl⟩
theorem KT.refl {M : Mem} : KT M M := ⟨rfl, fun _ _ _ _ _ _ => rfl, fun _ _ _ _ _ _ _ => rfl⟩
theorem Kp.trans {M M' M'' : Mem} (h : Kp M M') (k : Kp M' M'') : Kp M M'' := ⟨k.1.trans h.1, fun a j p q r => (k.2.1 a j p q r).trans (h.2.1 a j p q r), fun a j p q r s => (k.2.2 a j p q r s).trans (h.2.2 a j p q r s)⟩
theorem KT.trans {M M' M'' : Mem} (h : KT M M') (k : KT M' M'') : KT M M'' := ⟨k.1.trans h.1, fun a j p q r s => (k.2.1 a j p q r s).trans (h.2.1 a j p q r s), fun a j p q r s t => (k.2.2 a j p q r s t).trans (h.2.2 a j p q r s t)⟩
theorem Kp.kt {M M' : Mem} (h : Kp M M') : KT M M' := ⟨h.1, fun a j _ q r s => h.2.1 a j q r (fun z => s ⟨z.1, Or.inr z.2⟩), fun a j _ q r s t => h.2.2 a j q r s t⟩
theorem KT.k0 {M M' : Mem} (h : KT M M') : K0 M M' := ⟨fun a j p q => h.2.1 a j (by omega) (by omega) (by omega) (by omega), fun j p q => h.2.1 64 j (by omega) (by omega) (by omega) (by omega), fun j => h.2.2 76 j (by omega) (by omega) (by omega) (by omega) (by omega)⟩
theorem Kp.k0 {M M' : Mem} (h : Kp M M') : K0 M M' := h.kt.k0
theorem Kp.ord {M : Mem} {nr : Nat → Int64} {T : Nat} {r : Nat → Int32} : Kp M (wo (wn M nr) T r) := by
  refine ⟨rfl, fun a j p q r => ?_, fun a j p q r s => ?_⟩
  · by_cases e : a = 64
    · subst e
      exact wo_o64 (by omega)
    · exact wo_o e p
  · show (if a = 90 then nr j else M.2.1 a j) = _
    rw [if_neg p]; rfl
theorem Kp.wk {M : Mem} {V : FS} {s : MS} : Kp M (we M V s) := by
  refine ⟨rfl, fun a j p q r => ?_, fun a j p q r s => we_J q r⟩
  by_cases e : a = 64
  · subst e
    exact we_I64 (by omega) (by omega)
  · exact we_I e q
theorem Kp.ce {M : Mem} {v : Int32} : Kp M (sI M 64 49 v) := ⟨rfl, fun a j _ _ r => by rw [rI_sI, if_neg (by omega)], fun _ _ _ _ _ _ => rfl⟩
theorem Kp.cv {M : Mem} {v : Int64} : Kp M (sJ M 64 48 v) := ⟨rfl, fun _ _ _ _ _ => rfl, fun a j _ _ _ r => by rw [rJ_sJ, if_neg r]⟩
theorem K0.op {M M' : Mem} (h : K0 M M') : rOp M' = rOp M ∧ rAr M' = rAr M ∧ rA2 M' = rA2 M := by
  obtain ⟨h1, h2, h3⟩ := h
  refine ⟨?_, ?_, ?_⟩ <;> funext k i
  · show (if rI M' 64 36 = nI (40 * k + i) then rI M' 64 37 else rI M' 71 (40 * k + i)) = (if rI M 64 36 = nI (40 * k + i) then rI M 64 37 else rI M 71 (40 * k + i))
    rw [h2 36 (by omega) (by omega), h2 37 (by omega) (by omega), h1 71 _ (by omega) (by omega)]
  · show (if rI M' 64 36 = nI (40 * k + i) then rI M' 64 38 else rI M' 72 (40 * k + i)) = (if rI M 64 36 = nI (40 * k + i) then rI M 64 38 else rI M 72 (40 * k + i))
    rw [h2 36 (by omega) (by omega), h2 38 (by omega) (by omega), h1 72 _ (by omega) (by omega)]
  · show (if rI M' 64 36 = nI (40 * k + i) then rI M' 64 39 else rI M' 73 (40 * k + i)) = (if rI M 64 36 = nI (40 * k + i) then rI M 64 39 else rI M 73 (40 * k + i))
    rw [h2 36 (by omega) (by omega), h2 39 (by omega) (by omega), h1 73 _ (by omega) (by omega)]
theorem K0.mn {M M' : Mem} (h : K0 M M') {k : Nat} : mnR M' k = mnR M k := by unfold mnR; rw [h.1 70 k (by omega) (by omega)]
theorem K0.nm {M M' : Mem} (h : K0 M M') {k : Nat} : nmM M' k = nmM M k := by
  unfold nmM
  rw [h.op.1, h.op.2.1, h.op.2.2, h.1 70 k (by omega) (by omega)]
theorem K0.nR {M M' : Mem} (h : K0 M M') {i x : Nat} : nR M' i x = nR M i x := by
  unfold Jvm.Pilot.CSheetMarkerLaw_law_r3556_1c36da.nR
  rw [h.nm, h.1 66 _ (by omega) (by omega), h.1 77 _ (by omega) (by omega), h.2.1 36 (by omega) (by omega), h.2.2]
theorem K0.td {M M' : Mem} (h : K0 M M') {x c : Nat} {rt : Int32} : tdP M' x c rt ↔ tdP M x c rt := by
  show (¬ rI M' 77 x = 0 ∨ (¬ rt = 0 ∧ ¬ x = c ∧ 0 < (rI M' 78 x).toInt)) ↔ _
  rw [h.1 77 _ (by omega) (by omega), h.1 78 _ (by omega) (by omega)]
theorem K0.nd {M M' : Mem} (h : K0 M M') {i c : Nat} {rt : Int32} : ndR M' i c rt = ndR M i c rt := by
  funext x
  unfold ndR
  by_cases t : tdP M x c rt
  · rw [if_pos t, if_pos (h.td.mpr t)]
  · rw [if_neg t, if_neg (fun z => t (h.td.mp z)), h.nR]
theorem K0.rv {M M' : Mem} (h : K0 M M') {k : Nat} : rvE M' k = rvE M k := by
  funext V
  unfold rvE
  rw [h.op.1, h.op.2.1, h.op.2.2, h.mn]
theorem K0.st {M M' : Mem} (h : K0 M M') {i c w : Nat} {rt : Int32} (h80 : rt = 0 ∨ ((∀ j, rJ M' 80 j = rJ M 80 j) ∧ ∀ j, rI M' 81 j = rI M 81 j)) : stR M' i c rt w = stR M i c rt w := by
  funext V x
  have e77 := h.1 77 x (by omega) (by omega)
  have e66 := h.1 66 (64 * i + x) (by omega) (by omega)
  by_cases z : rI M 77 x = 0
  · have z' : rI M' 77 x = 0 := e77.trans z
    by_cases t : tdP M x c rt
    · rcases h80 with e | ⟨e1, e2⟩
      · subst e
        exact absurd t (fun q => q.elim (fun y => y z) (fun q => q.1 rfl))
      · rw [stR_2 z t, stR_2 z' (h.td.mpr t), e1, e2]
    · have t' : ¬ tdP M' x c rt := fun q => t (h.td.mp q)
      by_cases c1 : rI M 66 (64 * i + x) = 1
      · rw [stR_3 z t c1, stR_3 z' t' (e66.trans c1), h.1 67 _ (by omega) (by omega)]
      · by_cases c2 : rI M 66 (64 * i + x) = 2
        · rw [stR_4 z t c2, stR_4 z' t' (e66.trans c2), h.rv]
        · rw [stR_5 z t c1 c2, stR_5 z' t' (by rw [e66]; exact c1) (by rw [e66]; exact c2)]
  · rw [stR_1 z, stR_1 (by rw [e77]; exact z), h.1 79 _ (by omega) (by omega)]
/-- all formulas are well made -/
def GA (M : Mem) : Prop := ∀ k, k < 384 → rI M 66 k = 2 → RFK M k ∧ NmK M k
theorem K0.ga {M M' : Mem} (h : K0 M M') (g : GA M) : GA M' := by
  intro k hk h2
  rw [h.1 66 _ (by omega) (by omega)] at h2
  obtain ⟨a, b⟩ := g k hk h2
  refine ⟨?_, ?_⟩
  · unfold RFK at a ⊢
    rw [h.mn, h.op.1, h.op.2.1, h.op.2.2, h.1 70 k (by omega) (by omega)]
    exact a
  · unfold NmK at b ⊢
    rw [h.mn, h.2.2, b]
    exact nmF_cg _ (fun i _ => ⟨(h.1 71 _ (by omega) (by omega)).symm, (h.1 72 _ (by omega) (by omega)).symm, (h.1 73 _ (by omega) (by omega)).symm⟩)
theorem GA.at {M : Mem} (g : GA M) {i : Nat} (hi : i < 6) : ∀ j, j < 64 → rI M 66 (64 * i + j) = 2 → RFK M (64 * i + j) ∧ NmK M (64 * i + j) := fun j hj h => g (64 * i + j) (by omega) h
theorem GA.wf {M : Mem} (g : GA M) {i : Nat} (hi : i < 6) : ∀ j, j < 64 → rI M 66 (64 * i + j) = 2 → RWF M (64 * i + j) := fun j hj h => (g (64 * i + j) (by omega) h).1.wf
theorem Kp.j80 {M M' : Mem} (h : Kp M M') : (∀ j, rJ M' 80 j = rJ M 80 j) ∧ ∀ j, rI M' 81 j = rI M 81 j := ⟨fun j => h.2.2 80 j (by omega) (by omega) (by omega) (by omega), fun j => h.2.1 81 j (by omega) (by omega) (by omega)⟩
theorem Kp.an {M M' : Mem} (h : Kp M M') {i c w : Nat} {rt : Int32} {p : Int64 × Int32} (a : Ans (ndR M' i c rt) (stR M' i c rt w) c p) : Ans (ndR M i c rt) (stR M i c rt w) c p := by rw [h.k0.nd, h.k0.st (Or.inr h.j80)] at a; exact a
/-- works, from any memory -/
theorem w_X10_worksM {M : Mem} {N : Nat} {Q : Option Value → Nat → Mem → Prop} {i c w T : Nat} {rt : Int32} {r : Nat → Int32} (hi : i < 6) (hc : c < 64) (hw6 : w < 6) (hT4 : T ≤ 64) (hr : ∀ j, j < 64 → rI M 66 (64 * i + j) = 2 → RFK M (64 * i + j) ∧ NmK M (64 * i + j)) (hT : rI M 64 40 = nI T) (hrr : ∀ t, t < T → rI M 89 t = r t) (ho : OrdOK (ndR M i c rt) c T r) (hN : 94 ≤ N) (hs : Str M.2.2.1) (h : ∀ V s, Sol (ndR M i c rt) (stR M i c rt w) c (V.1 c, V.2 c) → Q none N (we M V s)) : AW mX10_works 5 0 0 N 0 [(0, .ref 64), (1, .int (nI i)), (2, .int (nI c)), (3, .int (nI w)), (4, .int rt)] [] M Q := by
  obtain ⟨g, eg⟩ := nI_surj (rI M 64 46)
  have k := w_X10_works (V := (rJ M 91, rI M 92)) (s := (rJ M 93, g, rI M 64 47)) hi hc hw6 hT4 hr hT hrr ho hN hs h
  rw [we_id eg rfl] at k
  exact k
