/-! a changed formula -/
def cgM (M : Mem) (q : Nat) (o a b : Int32) : Mem := sI (sI (sI (sI M 64 36 (nI q)) 64 37 o) 64 38 a) 64 39 b
/-- all but the scratch of a search for slips -/
def KS (M M' : Mem) : Prop := M'.2.2 = M.2.2 ∧ (∀ a j, a ≠ 89 → a ≠ 92 → ¬ (a = 64 ∧ (j = 37 ∨ j = 38 ∨ j = 39 ∨ j = 40 ∨ j = 46 ∨ j = 47 ∨ j = 49 ∨ j = 50 ∨ j = 51)) → rI M' a j = rI M a j) ∧ (∀ a j, a ≠ 90 → a ≠ 91 → a ≠ 93 → ¬ (a = 64 ∧ j = 48) → rJ M' a j = rJ M a j)
theorem KS.refl {M : Mem} : KS M M := ⟨rfl, fun _ _ _ _ _ => rfl, fun _ _ _ _ _ _ => rfl⟩
theorem KS.trans {M M' M'' : Mem} (h : KS M M') (k : KS M' M'') : KS M M'' := ⟨k.1.trans h.1, fun a j p q r => (k.2.1 a j p q r).trans (h.2.1 a j p q r), fun a j p q r s => (k.2.2 a j p q r s).trans (h.2.2 a j p q r s)⟩
theorem Kp.ks {M M' : Mem} (h : Kp M M') : KS M M' := ⟨h.1, fun a j p q r => h.2.1 a j p q (fun z => r ⟨z.1, by omega⟩), h.2.2⟩
theorem KS.sp {M : Mem} {v : Int32} : KS M (sI M 64 50 v) := ⟨rfl, fun a j _ _ r => by rw [rI_sI, if_neg (by omega)], fun _ _ _ _ _ _ => rfl⟩
theorem KS.st {M : Mem} {v : Int32} : KS M (sI M 64 51 v) := ⟨rfl, fun a j _ _ r => by rw [rI_sI, if_neg (by omega)], fun _ _ _ _ _ _ => rfl⟩
theorem cg_o {M : Mem} {q : Nat} {o a b : Int32} {c j : Nat} (h : ¬ (c = 64 ∧ (j = 36 ∨ j = 37 ∨ j = 38 ∨ j = 39))) : rI (cgM M q o a b) c j = rI M c j := by
  unfold cgM
  rw [rI_sI, if_neg (by omega), rI_sI, if_neg (by omega), rI_sI, if_neg (by omega), rI_sI, if_neg (by omega)]
theorem cg_36 {M : Mem} {q : Nat} {o a b : Int32} : rI (cgM M q o a b) 64 36 = nI q := rfl
theorem cg_37 {M : Mem} {q : Nat} {o a b : Int32} : rI (cgM M q o a b) 64 37 = o := rfl
theorem cg_38 {M : Mem} {q : Nat} {o a b : Int32} : rI (cgM M q o a b) 64 38 = a := rfl
theorem cg_39 {M : Mem} {q : Nat} {o a b : Int32} : rI (cgM M q o a b) 64 39 = b := rfl
theorem cg_J {M : Mem} {q : Nat} {o a b : Int32} {c j : Nat} : rJ (cgM M q o a b) c j = rJ M c j := rfl
theorem KS.back {M M' : Mem} {q : Nat} {o a b : Int32} (h36 : rI M 64 36 = -1) (h : Kp (cgM M q o a b) M') : KS M (sI M' 64 36 (-1)) := by
  refine ⟨h.1, fun c j p r s => ?_, fun c j p r s t => ?_⟩
  · rw [rI_sI]
    by_cases e : c = 64 ∧ j = 36
    · rw [if_pos e, e.1, e.2, h36]
    · rw [if_neg e, h.2.1 c j p r (by omega), cg_o (by omega)]
  · rw [rJ_sI, h.2.2 c j p r s t, cg_J]
theorem KS.cg {M M' : Mem} (h : KS M M') {q : Nat} {o a b : Int32} : K0 (cgM M q o a b) (cgM M' q o a b) := by
  refine ⟨fun c j p r => ?_, fun j p r => ?_, fun j => h.2.2 76 j (by omega) (by omega) (by omega) (by omega)⟩
  · rw [cg_o (by omega), cg_o (by omega), h.2.1 c j (by omega) (by omega) (by omega)]
  · by_cases e6 : j = 36
    · subst e6; rfl
    · by_cases e7 : j = 37
      · subst e7; rfl
      · by_cases e8 : j = 38
        · subst e8; rfl
        · by_cases e9 : j = 39
          · subst e9; rfl
          · rw [cg_o (by omega), cg_o (by omega), h.2.1 64 j (by omega) (by omega) (by omega)]
theorem KS.j80 {M M' : Mem} (h : KS M M') : (∀ j, rJ M' 80 j = rJ M 80 j) ∧ ∀ j, rI M' 81 j = rI M 81 j := ⟨fun j => h.2.2 80 j (by omega) (by omega) (by omega) (by omega), fun j => h.2.1 81 j (by omega) (by omega) (by omega)⟩
theorem KS.c80 {M M' : Mem} (h : KS M M') {q : Nat} {o a b : Int32} : (∀ j, rJ (cgM M' q o a b) 80 j = rJ (cgM M q o a b) 80 j) ∧ ∀ j, rI (cgM M' q o a b) 81 j = rI (cgM M q o a b) 81 j := ⟨fun j => by rw [cg_J, cg_J, h.j80.1], fun j => by rw [cg_o (by omega), cg_o (by omega), h.j80.2]⟩
theorem AlP.k0 {M M' : Mem} (h : K0 M M') (h80 : (∀ j, rJ M' 80 j = rJ M 80 j) ∧ ∀ j, rI M' 81 j = rI M 81 j) {i c W : Nat} {rt : Int32} : AlP M' i c rt W ↔ AlP M i c rt W := by
  unfold AlP
  constructor
  · intro k w hw
    have := k w hw
    rw [h.nd, h.st (Or.inr h80), h80.1, h80.2] at this
    exact this
  · intro k w hw
    have := k w hw
    rw [h.nd, h.st (Or.inr h80), h80.1, h80.2]
    exact this
theorem TaskOK.k0 {M M' : Mem} (h : K0 M M') (h80 : (∀ j, rJ M' 80 j = rJ M 80 j) ∧ ∀ j, rI M' 81 j = rI M 81 j) {W : Nat} (k : TaskOK M W) : TaskOK M' W := by
  intro c hc hp w hw
  rw [h.1 78 c (by omega) (by omega)] at hp
  have := k c hc hp w hw
  unfold AnT at this ⊢
  rw [h.nd, h.st (Or.inl rfl), h80.1, h80.2]
  exact this
/-! the same formulas, though not the same memory -/
theorem htR_cg {o o' : Nat → Int32} : ∀ m, (∀ i, i < m → o' i = o i) → htR o' m = htR o m
  | 0, _ => rfl
  | m + 1, h => by unfold htR; rw [h m (by omega), htR_cg m (fun i hi => h i (by omega))]
theorem rvF_cg {V : FS} {o a b o' a' b' : Nat → Int32} {r : Nat → Int64} : ∀ m, (∀ i, i < m → o' i = o i ∧ a' i = a i ∧ b' i = b i) → rvF V o' a' b' r m = rvF V o a b r m
  | 0, _ => rfl
  | m + 1, h => by
    obtain ⟨e1, e2, e3⟩ := h m (by omega)
    unfold rvF
    rw [e1, e2, e3, rvF_cg m (fun i hi => h i (by omega))]
theorem WHK_cg {o o' : Nat → Int32} {m : Nat} (h : ∀ i, i < m → o' i = o i) (k : WHK o m) : WHK o' m := by
  intro i hi
  rw [h i hi, htR_cg i (fun j hj => h j (by omega))]
  exact k i hi
theorem WFK_cg {o a b o' a' b' : Nat → Int32} {m : Nat} (h : ∀ i, i < m → o' i = o i ∧ a' i = a i ∧ b' i = b i) (k : WFK o a b m) : WFK o' a' b' m := by
  intro i hi
  rw [(h i hi).1, (h i hi).2.1, (h i hi).2.2]
  exact k i hi
def OpS (M M' : Mem) (k : Nat) : Prop := rI M' 70 k = rI M 70 k ∧ ∀ j, j < 40 → rOp M' k j = rOp M k j ∧ rAr M' k j = rAr M k j ∧ rA2 M' k j = rA2 M k j
theorem OpS.mn {M M' : Mem} {k : Nat} (h : OpS M M' k) : mnR M' k = mnR M k := by unfold mnR; rw [h.1]
theorem OpS.rf {M M' : Mem} {k : Nat} (h : OpS M M' k) (r : RFK M k) : RFK M' k := by
  obtain ⟨a, b, c, d, e⟩ := r
  refine ⟨?_, ?_, ?_, ?_, ?_⟩
  · rw [h.mn]; exact a
  · rw [h.mn, h.1]; exact b
  · rw [h.mn]; exact WFK_cg (fun i hi => h.2 i (by omega)) c
  · rw [h.mn]; exact WHK_cg (fun i hi => (h.2 i (by omega)).1) d
  · rw [h.mn, htR_cg _ (fun i hi => (h.2 i (by omega)).1)]; exact e
theorem OpS.rv {M M' : Mem} {k : Nat} (h : OpS M M' k) (r : RFK M k) : rvE M' k = rvE M k := by
  funext V
  unfold rvE
  rw [h.mn, rvF_cg _ (fun i hi => h.2 i (by have := r.1; omega))]
theorem StP_cg {nd nd' : Nat → Int64} {c : Nat} (h : ∀ y, y < 64 → nd' y = nd y) (k : StP nd c) : StP nd' c := fun P hp => k P (fun y hy q => hp y hy (fun z hz b => q z hz (by rw [← h y hy]; exact b)))
theorem Ans_cg {nd nd' : Nat → Int64} {st st' : FS → Nat → Int64 × Int32} {c : Nat} {p : Int64 × Int32} (h : ∀ y, y < 64 → nd' y = nd y) (g : ∀ V y, y < 64 → st' V y = st V y) (k : Ans nd st c p) : Ans nd' st' c p := by
  rcases k with ⟨a, S, V, b1, b2, b3⟩ | ⟨a, b⟩
  · refine Or.inl ⟨StP_cg h a, S, V, b1, fun x hx s => ?_, b3⟩
    rw [g V x hx, h x hx]
    exact b2 x hx s
  · exact Or.inr ⟨fun z => a (StP_cg (fun y hy => (h y hy).symm) z), b⟩
/-- sheet i holds the same -/
def SmS (M M' : Mem) (i : Nat) : Prop := (∀ a j, 65 ≤ a → a ≤ 79 → rI M' a j = rI M a j) ∧ ∀ x, x < 64 → OpS M M' (64 * i + x) ∧ nR M' i x = nR M i x
theorem SmS.td {M M' : Mem} {i : Nat} (h : SmS M M' i) {x c : Nat} {rt : Int32} : tdP M' x c rt ↔ tdP M x c rt := by
  show (¬ rI M' 77 x = 0 ∨ (¬ rt = 0 ∧ ¬ x = c ∧ 0 < (rI M' 78 x).toInt)) ↔ _
  rw [h.1 77 _ (by omega) (by omega), h.1 78 _ (by omega) (by omega)]
theorem SmS.nd {M M' : Mem} {i : Nat} (h : SmS M M' i) {c : Nat} {rt : Int32} : ∀ x, x < 64 → ndR M' i c rt x = ndR M i c rt x := by
  intro x hx
  unfold ndR
  by_cases t : tdP M x c rt
  · rw [if_pos t, if_pos (h.td.mpr t)]
  · rw [if_neg t, if_neg (fun z => t (h.td.mp z)), (h.2 x hx).2]
theorem SmS.st {M M' : Mem} {i : Nat} (hi : i < 6) (h : SmS M M' i) (hg : GA M) {c w : Nat} {rt : Int32} (h80 : rt = 0 ∨ ((∀ j, rJ M' 80 j = rJ M 80 j) ∧ ∀ j, rI M' 81 j = rI M 81 j)) : ∀ V x, x < 64 → stR M' i c rt w V x = stR M i c rt w V x := by
  intro V x hx
  have e77 := h.1 77 x (by omega) (by omega)
  have e66 := h.1 66 (64 * i + x) (by omega) (by omega)
  by_cases z : rI M 77 x = 0
  · have z' : rI M' 77 x = 0 := e77.trans z
    by_cases t : tdP M x c rt
    · rcases h80 with e | ⟨e1, e2⟩
      · subst e
        exact absurd t (fun q => q.elim (fun y => y z) (fun q => q.1 rfl))
      · rw [stR_2 z t, stR_2 z' (h.td.mpr t), e1, e2]
    · have t' : ¬ tdP M' x c rt := fun q => t (h.td.mp q)
      by_cases c1 : rI M 66 (64 * i + x) = 1
      · rw [stR_3 z t c1, stR_3 z' t' (e66.trans c1), h.1 67 _ (by omega) (by omega)]
      · by_cases c2 : rI M 66 (64 * i + x) = 2
        · rw [stR_4 z t c2, stR_4 z' t' (e66.trans c2), (h.2 x hx).1.rv (hg _ (by omega) c2).1]
        · rw [stR_5 z t c1 c2, stR_5 z' t' (by rw [e66]; exact c1) (by rw [e66]; exact c2)]
  · rw [stR_1 z, stR_1 (by rw [e77]; exact z), h.1 79 _ (by omega) (by omega)]
theorem SmS.an {M M' : Mem} {i : Nat} (hi : i < 6) (h : SmS M M' i) (hg : GA M) {c w : Nat} {rt : Int32} (h80 : rt = 0 ∨ ((∀ j, rJ M' 80 j = rJ M 80 j) ∧ ∀ j, rI M' 81 j = rI M 81 j)) {p : Int64 × Int32} (a : Ans (ndR M i c rt) (stR M i c rt w) c p) : Ans (ndR M' i c rt) (stR M' i c rt w) c p := Ans_cg h.nd (h.st hi hg h80) a
theorem SmS.task {M M' : Mem} (h : SmS M M' 0) (hg : GA M) (h80 : (∀ j, rJ M' 80 j = rJ M 80 j) ∧ ∀ j, rI M' 81 j = rI M 81 j) {W : Nat} (k : TaskOK M W) : TaskOK M' W := by
  intro c hc hp w hw
  rw [h.1 78 c (by omega) (by omega)] at hp
  have := k c hc hp w hw
  unfold AnT at this ⊢
  rw [h80.1, h80.2]
  exact h.an (by decide) hg (Or.inl rfl) this
/-- the unchanged memory -/
theorem r36 {M : Mem} (h36 : rI M 64 36 = -1) {k : Nat} (hk : k < 384) : rI M 64 36 < nI (40 * k) := by
  rw [h36, Int32.lt_iff_toInt_lt, nIt (by omega)]
  show (-1 : Int) < _
  omega
theorem ro36 {M : Mem} (h36 : rI M 64 36 = -1) {k j : Nat} (hk : k < 384) (hj : j < 40) : rOp M k j = rI M 71 (40 * k + j) ∧ rAr M k j = rI M 72 (40 * k + j) ∧ rA2 M k j = rI M 73 (40 * k + j) := rOp_no (by
  rw [h36]
  intro z
  have := congrArg Int32.toInt z
  rw [nIt (by omega)] at this
  have e : ((-1 : Int32)).toInt = -1 := by decide
  omega)
theorem nR36 {M : Mem} (h36 : rI M 64 36 = -1) {i x : Nat} (hi : i < 6) (hx : x < 64) : nR M i x = if ¬ rI M 66 (64 * i + x) = 2 then 0 else if ¬ rI M 77 x = 0 then 0 else rJ M 76 (64 * i + x) := by
  unfold nR
  rw [if_pos (r36 h36 (show 64 * i + x < 384 by omega))]
theorem Sm_un {M M' : Mem} (h : ∀ a j, 65 ≤ a → a ≤ 79 → rI M' a j = rI M a j) (hJ : ∀ j, rJ M' 76 j = rJ M 76 j) (h36 : rI M 64 36 = -1) (k36 : rI M' 64 36 = -1) {i : Nat} (hi : i < 6) : SmS M M' i := by
  refine ⟨h, fun x hx => ⟨⟨h 70 _ (by omega) (by omega), fun j hj => ?_⟩, ?_⟩⟩
  · obtain ⟨a, b, c⟩ := ro36 h36 (show 64 * i + x < 384 by omega) hj
    obtain ⟨a', b', c'⟩ := ro36 k36 (show 64 * i + x < 384 by omega) hj
    rw [a, b, c, a', b', c', h 71 _ (by omega) (by omega), h 72 _ (by omega) (by omega), h 73 _ (by omega) (by omega)]
    exact ⟨rfl, rfl, rfl⟩
  · rw [nR36 h36 hi hx, nR36 k36 hi hx, h 66 _ (by omega) (by omega), h 77 _ (by omega) (by omega), hJ]
theorem KS.sm {M M' : Mem} (h : KS M M') (h36 : rI M 64 36 = -1) {i : Nat} (hi : i < 6) : SmS M M' i := Sm_un (fun a j p q => h.2.1 a j (by omega) (by omega) (by omega)) (fun j => h.2.2 76 j (by omega) (by omega) (by omega) (by omega)) h36 (by rw [h.2.1 64 36 (by omega) (by omega) (by omega)]; exact h36) hi
theorem GA_un {M M' : Mem} (h : ∀ a j, 65 ≤ a → a ≤ 79 → rI M' a j = rI M a j) (hJ : ∀ j, rJ M' 76 j = rJ M 76 j) (h36 : rI M 64 36 = -1) (k36 : rI M' 64 36 = -1) (g : GA M) : GA M' := by
  intro k hk h2
  rw [h 66 _ (by omega) (by omega)] at h2
  have sm := ((Sm_un h hJ h36 k36 (show k / 64 < 6 by omega)).2 (k % 64) (by omega)).1
  rw [show 64 * (k / 64) + k % 64 = k by omega] at sm
  obtain ⟨a, b⟩ := g k hk h2
  refine ⟨sm.rf a, ?_⟩
  unfold NmK at b ⊢
  rw [sm.mn, hJ, b]
  exact nmF_cg _ (fun i _ => ⟨(h 71 _ (by omega) (by omega)).symm, (h 72 _ (by omega) (by omega)).symm, (h 73 _ (by omega) (by omega)).symm⟩)
theorem KS.ga {M M' : Mem} (h : KS M M') (h36 : rI M 64 36 = -1) (g : GA M) : GA M' := GA_un (fun a j p q => h.2.1 a j (by omega) (by omega) (by omega)) (fun j => h.2.2 76 j (by omega) (by omega) (by omega) (by omega)) h36 (by rw [h.2.1 64 36 (by omega) (by omega) (by omega)]; exact h36) g
/-- a change of pupil's sheets leaves the task's -/
theorem Sm_ch {M : Mem} (h36 : rI M 64 36 = -1) {q : Nat} (h1 : 40 * 64 ≤ q) (h2 : q < 15360) {o a b : Int32} : SmS M (cgM M q o a b) 0 := by
  refine ⟨fun c j p r => cg_o (by omega), fun x hx => ⟨⟨cg_o (by omega), fun j hj => ?_⟩, ?_⟩⟩
  · obtain ⟨e1, e2, e3⟩ := ro36 h36 (show 64 * 0 + x < 384 by omega) hj
    have n : ¬ rI (cgM M q o a b) 64 36 = nI (40 * (64 * 0 + x) + j) := by
      rw [cg_36, nI_eq (by omega) (by omega)]; omega
    obtain ⟨d1, d2, d3⟩ := rOp_no n
    rw [e1, e2, e3, d1, d2, d3, cg_o (by omega), cg_o (by omega), cg_o (by omega)]
    exact ⟨rfl, rfl, rfl⟩
  · rw [nR36 h36 (by decide) hx]
    unfold nR
    rw [cg_36, if_pos (show nI (40 * (64 * 0 + x) + 40) ≤ nI q by rw [Int32.le_iff_toInt_le, nIt (by omega), nIt (by omega)]; omega), cg_o (by omega), cg_o (by omega), cg_J]
    split
    · rfl
    · split
      · rfl
      · split <;> rfl
/-- the change is one of its kind -/
def ChO (M : Mem) (q : Nat) (o a b : Int32) : Prop := ((rI M 71 q = 4 ∨ rI M 71 q = 5 ∨ rI M 71 q = 6 ∨ rI M 71 q = 7) ∧ (o = 4 ∨ o = 5 ∨ o = 6 ∨ o = 7)) ∨ (rI M 71 q = 0 ∧ o = 0) ∨ (rI M 71 q = 1 ∧ o = 1 ∧ ∃ c, c < 64 ∧ a = nI c) ∨ (rI M 71 q = 2 ∧ o = 2 ∧ ∃ c e, c < 64 ∧ e < 64 ∧ a = nI c ∧ b = nI e)
theorem htR_ch {o o' : Nat → Int32} : ∀ m, (∀ i, i < m → o' i = o i ∨ ((o i = 4 ∨ o i = 5 ∨ o i = 6 ∨ o i = 7) ∧ (o' i = 4 ∨ o' i = 5 ∨ o' i = 6 ∨ o' i = 7))) → htR o' m = htR o m
  | 0, _ => rfl
  | m + 1, h => by
    unfold htR
    rw [htR_ch m (fun i hi => h i (by omega))]
    rcases h m (by omega) with e | ⟨e, e'⟩
    · rw [e]
    · have n : ∀ x : Int32, (x = 4 ∨ x = 5 ∨ x = 6 ∨ x = 7) → ¬ (x = 0 ∨ x = 1 ∨ x = 2) ∧ ¬ x = 3 := by
        intro x hx
        rcases hx with rfl | rfl | rfl | rfl <;> decide
      rw [if_neg (n _ e).1, if_neg (n _ e).2, if_neg (n _ e').1, if_neg (n _ e').2]
theorem GA_ch {M : Mem} (g : GA M) (h36 : rI M 64 36 = -1) {k i : Nat} (hk : k < 384) (hi : i < 40) {o a b : Int32} (hc : ChO M (40 * k + i) o a b) : GA (cgM M (40 * k + i) o a b) := by
  intro k' hk' h2
  rw [cg_o (by omega)] at h2
  obtain ⟨r, n⟩ := g k' hk' h2
  have em : mnR (cgM M (40 * k + i) o a b) k' = mnR M k' := by unfold mnR; rw [cg_o (by omega)]
  refine ⟨?_, ?_⟩
  · by_cases e : k' = k
    · subst e
      have hn : ∀ j, j < 40 → ¬ j = i → rOp (cgM M (40 * k' + i) o a b) k' j = rOp M k' j ∧ rAr (cgM M (40 * k' + i) o a b) k' j = rAr M k' j ∧ rA2 (cgM M (40 * k' + i) o a b) k' j = rA2 M k' j := fun j hj q => by
        have n : ¬ rI (cgM M (40 * k' + i) o a b) 64 36 = nI (40 * k' + j) := by
          rw [cg_36, nI_eq (by omega) (by omega)]; omega
        obtain ⟨d1, d2, d3⟩ := rOp_no n
        obtain ⟨e1, e2, e3⟩ := ro36 h36 hk' hj
        rw [e1, e2, e3, d1, d2, d3, cg_o (by omega), cg_o (by omega), cg_o (by omega)]
        exact ⟨rfl, rfl, rfl⟩
      have hp : rOp (cgM M (40 * k' + i) o a b) k' i = o ∧ rAr (cgM M (40 * k' + i) o a b) k' i = a ∧ rA2 (cgM M (40 * k' + i) o a b) k' i = b := ⟨if_pos rfl, if_pos rfl, if_pos rfl⟩
      have h0 := ro36 h36 hk' hi
      have hop : ∀ j, j < 40 → rOp (cgM M (40 * k' + i) o a b) k' j = rOp M k' j ∨ ((rOp M k' j = 4 ∨ rOp M k' j = 5 ∨ rOp M k' j = 6 ∨ rOp M k' j = 7) ∧ (rOp (cgM M (40 * k' + i) o a b) k' j = 4 ∨ rOp (cgM M (40 * k' + i) o a b) k' j = 5 ∨ rOp (cgM M (40 * k' + i) o a b) k' j = 6 ∨ rOp (cgM M (40 * k' + i) o a b) k' j = 7)) := fun j hj => by
        by_cases q : j = i
        · subst q
          rw [hp.1, h0.1]
          rcases hc with q | ⟨q, q'⟩ | ⟨q, q', -⟩ | ⟨q, q', -⟩
          · exact Or.inr q
          · exact Or.inl (q'.trans q.symm)
          · exact Or.inl (q'.trans q.symm)
          · exact Or.inl (q'.trans q.symm)
        · exact Or.inl (hn j hj q).1
      obtain ⟨r1, r2, r3, r4, r5⟩ := r
      have hto : ∀ m, m ≤ 40 → htR (rOp (cgM M (40 * k' + i) o a b) k') m = htR (rOp M k') m := fun m hm => by
        exact htR_ch m (fun j hj => hop j (by omega))
      refine ⟨by rw [em]; exact r1, by rw [em, cg_o (by omega)]; exact r2, ?_, ?_, by rw [em, hto _ r1]; exact r5⟩
      · rw [em]
        intro j hj
        by_cases q : j = i
        · subst q
          rw [hp.1, hp.2.1, hp.2.2]
          refine ⟨fun z => ?_, fun z => ?_⟩
          · rcases hc with ⟨-, q⟩ | ⟨-, q⟩ | ⟨-, -, q⟩ | ⟨-, q, -⟩
            · exact absurd q (by rw [z]; decide)
            · exact absurd (z.symm.trans q) (by decide)
            · exact q
            · exact absurd (z.symm.trans q) (by decide)
          · rcases hc with ⟨-, q⟩ | ⟨-, q⟩ | ⟨-, q, -⟩ | ⟨-, -, q⟩
            · exact absurd q (by rw [z]; decide)
            · exact absurd (z.symm.trans q) (by decide)
            · exact absurd (z.symm.trans q) (by decide)
            · exact q
        · rw [(hn j (by omega) q).1, (hn j (by omega) q).2.1, (hn j (by omega) q).2.2]
          exact r3 j hj
      · rw [em]
        intro j hj
        rw [hto j (by omega)]
        rcases hop j (by omega) with q | ⟨q, q'⟩
        · rw [q]; exact r4 j hj
        · refine Or.inr (Or.inr ⟨?_, ?_⟩)
          · rcases q' with z | z | z | z <;> rw [z] <;> decide
          · rcases r4 j hj with z | ⟨z, -⟩ | ⟨-, z⟩
            · exact absurd z (by rcases q with y | y | y | y <;> rw [y] <;> decide)
            · exact absurd z (by rcases q with y | y | y | y <;> rw [y] <;> decide)
            · exact z
    · refine OpS.rf (M := M) ⟨cg_o (by omega), fun j hj => ?_⟩ r
      have n : ¬ rI (cgM M (40 * k + i) o a b) 64 36 = nI (40 * k' + j) := by
        rw [cg_36, nI_eq (by omega) (by omega)]; omega
      obtain ⟨d1, d2, d3⟩ := rOp_no n
      obtain ⟨e1, e2, e3⟩ := ro36 h36 hk' hj
      rw [e1, e2, e3, d1, d2, d3, cg_o (by omega), cg_o (by omega), cg_o (by omega)]
      exact ⟨rfl, rfl, rfl⟩
  · unfold NmK at n ⊢
    rw [em, cg_J, n]
    exact nmF_cg _ (fun j _ => ⟨(cg_o (by omega)).symm, (cg_o (by omega)).symm, (cg_o (by omega)).symm⟩)
theorem w_X10_tries {M : Mem} {N : Nat} {Q : Option Value → Nat → Mem → Prop} {i c e W : Nat} {o a b : Int32} (hi1 : 1 ≤ i) (hi : i < 6) (hc : c < 64) (he : e < 40) (hW6 : W ≤ 6) (hg : GA (cgM M (40 * (64 * i + c) + e) o a b)) (h36 : rI M 64 36 = -1) (hW : rI M 64 17 = nI W) (htk : TaskOK (cgM M (40 * (64 * i + c) + e) o a b) W) (hwn : 0 < (rI M 78 c).toInt) (hf : ¬ rI M 64 21 = 0)  (hN : 94 ≤ N) (hs : Str M.2.2.1) (h : ∀ M'' x, KS M M'' → rI M'' 64 50 = rI M 64 50 → rI M'' 64 51 = rI M 64 51 → (x = 1 ∧ AlP (cgM M (40 * (64 * i + c) + e) o a b) i c 1 W ∨ x = 0 ∧ ¬ AlP (cgM M (40 * (64 * i + c) + e) o a b) i c 1 W) → Q (some (.int x)) N M'')  : AW mX10_tries 9 0 0 N 0 [(0, .ref 64), (1, .int (nI i)), (2, .int (nI c)), (3, .int (nI e)), (4, .int o), (5, .int a), (6, .int b)] [] M Q := by
  refine a_bipush (v := 64) dX10_tries_0 (by decide) ?_
  refine a_iload_n dX10_tries_2 rfl ?_
  refine a_imul dX10_tries_3 ?_
  refine a_iload_n dX10_tries_4 rfl ?_
  refine a_iadd dX10_tries_5 ?_
  rw [i64]
  refine a_istore dX10_tries_6 (by decide) ?_
  refine a_aload_n dX10_tries_8 rfl ?_
  refine a_bipush (v := 40) dX10_tries_9 (by decide) ?_
  refine a_iload dX10_tries_11 rfl ?_
  refine a_imul dX10_tries_13 ?_
  refine a_iload_n dX10_tries_14 rfl ?_
  refine a_iadd dX10_tries_15 ?_
  rw [show (40 : Int32) * nI (64 * i + c) + nI e = nI (40 * (64 * i + c) + e) from by rw [show (40 : Int32) = nI 40 from rfl, pk_mul, nI_add]]
  refine a_putI kfX10_85 rfl rfl rfl (by decide) (hlt hN (by decide)) dX10_tries_16 ?_
  refine a_aload_n dX10_tries_19 rfl ?_
  refine a_iload dX10_tries_20 rfl ?_
  refine a_putI kfX10_217 rfl rfl rfl (by decide) (hlt hN (by decide)) dX10_tries_22 ?_
  refine a_aload_n dX10_tries_25 rfl ?_
  refine a_iload dX10_tries_26 rfl ?_
  refine a_putI kfX10_220 rfl rfl rfl (by decide) (hlt hN (by decide)) dX10_tries_28 ?_
  refine a_aload_n dX10_tries_31 rfl ?_
  refine a_iload dX10_tries_32 rfl ?_
  refine a_putI kfX10_223 rfl rfl rfl (by decide) (hlt hN (by decide)) dX10_tries_34 ?_
  rw [show sI (sI (sI (sI M 64 36 (nI (40 * (64 * i + c) + e))) 64 37 o) 64 38 a) 64 39 b = (cgM M (40 * (64 * i + c) + e) o a b) from rfl]
  refine a_aload_n dX10_tries_37 rfl ?_
  refine a_iload_n dX10_tries_38 rfl ?_
  refine a_iload_n dX10_tries_39 rfl ?_
  refine a_iconst (v := 1) dX10_tries_40 (by decide) ?_
  refine a_callV (mc1 := 0) (ms1 := 0) (As := [_, _, _]) kpX10_isAlike kmX10_315 (by decide) rfl (Nat.le_of_ble_eq_true rfl) rfl (by decide) rfl (by decide) (hlt hN (by decide)) (Nat.le_of_ble_eq_true rfl) (Nat.le_of_ble_eq_true rfl) (Nat.le_of_ble_eq_true rfl) dX10_tries_41 (w_X10_isAlike_f hi hc hW6 hg (by rw [cg_o (by omega)]; exact hW) htk (by rw [cg_o (by omega)]; exact hwn) (by rw [cg_o (by omega)]; exact hf) hN (by exact hs) (fun M'' x hk hx => ?_))
  refine a_istore dX10_tries_44 (by decide) ?_
  refine a_aload_n dX10_tries_46 rfl ?_
  refine a_iconst (v := (-1)) dX10_tries_47 (by decide) ?_
  refine a_putI kfX10_85 rfl rfl rfl (by decide) (hlt hN (by decide)) dX10_tries_48 ?_
  refine a_iload dX10_tries_51 rfl ?_
  refine a_zret dX10_tries_53 rfl (hx.elim (fun q => Or.inr q.1) (fun q => Or.inl q.1)) (h _ x (KS.back h36 hk) (by rw [rI_sI, if_neg (by decide), hk.2.1 64 50 (by decide) (by decide) (by decide), cg_o (by decide)]) (by rw [rI_sI, if_neg (by decide), hk.2.1 64 51 (by decide) (by decide) (by decide), cg_o (by decide)]) hx)

