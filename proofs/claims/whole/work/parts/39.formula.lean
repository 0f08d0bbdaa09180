/-- the memory ahead of the parser's run: the formula f of n bytes, made of a tape of t -/
def fmA (M : Mem) (f n t : Nat) : Mem := sI (sR (nwF (mk M f 0) f n) (f + 1) (mvR (nwF (mk M f 0) f n) f n t)) 3 1 0
def fmM (M : Mem) (f n t : Nat) : Mem := sA (mk (fmA M f n t) (f + 5) 0) (f + 5) 0 (some f)
def cs0 : CS := (0, 0, 0, fun _ => 0, fun _ => 0, fun _ => 0)
def bigc (P : Prop) : Prop := P
theorem nwF_I {M : Mem} {f n a j : Nat} : rI (nwF (mk M f 0) f n) a j = if f ≤ a ∧ a ≤ f + 4 then 0 else rI M a j := by
  show (if a = f + 1 + 1 + 1 + 1 then (0 : Int32) else if a = f + 1 + 1 + 1 then 0 else if a = f + 1 + 1 then 0 else if a = f + 1 then 0 else if a = f then 0 else M.1 a j) = _
  by_cases c : f ≤ a ∧ a ≤ f + 4
  · rw [if_pos c]
    by_cases c4 : a = f + 1 + 1 + 1 + 1
    · rw [if_pos c4]
    · rw [if_neg c4]
      by_cases c3 : a = f + 1 + 1 + 1
      · rw [if_pos c3]
      · rw [if_neg c3]
        by_cases c2 : a = f + 1 + 1
        · rw [if_pos c2]
        · rw [if_neg c2]
          by_cases c1 : a = f + 1
          · rw [if_pos c1]
          · rw [if_neg c1, if_pos (by omega)]
  · rw [if_neg c, if_neg (by omega), if_neg (by omega), if_neg (by omega), if_neg (by omega), if_neg (by omega)]
    rfl
theorem nwF_J {M : Mem} {f n a j : Nat} : rJ (nwF (mk M f 0) f n) a j = if f ≤ a ∧ a ≤ f + 4 then 0 else rJ M a j := by
  show (if a = f + 1 + 1 + 1 + 1 then (0 : Int64) else if a = f + 1 + 1 + 1 then 0 else if a = f + 1 + 1 then 0 else if a = f + 1 then 0 else if a = f then 0 else M.2.1 a j) = _
  by_cases c : f ≤ a ∧ a ≤ f + 4
  · rw [if_pos c]
    by_cases c4 : a = f + 1 + 1 + 1 + 1
    · rw [if_pos c4]
    · rw [if_neg c4]
      by_cases c3 : a = f + 1 + 1 + 1
      · rw [if_pos c3]
      · rw [if_neg c3]
        by_cases c2 : a = f + 1 + 1
        · rw [if_pos c2]
        · rw [if_neg c2]
          by_cases c1 : a = f + 1
          · rw [if_pos c1]
          · rw [if_neg c1, if_pos (by omega)]
  · rw [if_neg c, if_neg (by omega), if_neg (by omega), if_neg (by omega), if_neg (by omega), if_neg (by omega)]
    rfl
theorem fmM_I {M : Mem} {f n t a j : Nat} (hf : 94 ≤ f) (hnt : n ≤ t) : rI (fmM M f n t) a j = if a = 3 ∧ j = 1 then 0 else if a = f + 1 then (if j < n then rI M 4 j else 0) else if f ≤ a ∧ a ≤ f + 5 then 0 else rI M a j := by
  show (if a = f + 5 then (0 : Int32) else if a = 3 ∧ j = 1 then 0 else if a = f + 1 then mvR (nwF (mk M f 0) f n) f n t j else rI (nwF (mk M f 0) f n) a j) = _
  by_cases c5 : a = f + 5
  · rw [if_pos c5, if_neg (by omega), if_neg (by omega), if_pos (by omega)]
  · rw [if_neg c5]
    by_cases c3 : a = 3 ∧ j = 1
    · rw [if_pos c3, if_pos c3]
    · rw [if_neg c3, if_neg c3]
      by_cases c1 : a = f + 1
      · rw [if_pos c1, if_pos c1]
        unfold mvR
        by_cases cj : j < n
        · rw [if_pos ⟨by omega, cj⟩, if_pos cj, nwF_I, if_neg (by omega)]
        · rw [if_neg (fun z => cj z.2), if_neg cj, nwF_I, if_pos (by omega)]
      · rw [if_neg c1, if_neg c1, nwF_I]
        by_cases c : f ≤ a ∧ a ≤ f + 4
        · rw [if_pos c, if_pos (by omega)]
        · rw [if_neg c, if_neg (by omega)]
theorem fmM_J {M : Mem} {f n t a j : Nat} : rJ (fmM M f n t) a j = if f ≤ a ∧ a ≤ f + 5 then 0 else rJ M a j := by
  show (if a = f + 5 then (0 : Int64) else rJ (nwF (mk M f 0) f n) a j) = _
  rw [nwF_J]
  by_cases c5 : a = f + 5
  · rw [if_pos c5, if_pos (by omega)]
  · rw [if_neg c5]
    by_cases c : f ≤ a ∧ a ≤ f + 4
    · rw [if_pos c, if_pos (by omega)]
    · rw [if_neg c, if_neg (by omega)]
theorem fmM_A {M : Mem} {f n t a j : Nat} : rA (fmM M f n t) a j = if a = f + 5 then (if j = 0 then some f else none) else if a = f ∧ j < 4 then some (f + 1 + j) else if f ≤ a ∧ a ≤ f + 4 then none else rA M a j := by
  show (if a = f + 5 ∧ j = 0 then some f else if a = f + 5 then none else if a = f ∧ j = 3 then some (f + 1 + 1 + 1 + 1) else if a = f + 1 + 1 + 1 + 1 then none else if a = f ∧ j = 2 then some (f + 1 + 1 + 1) else if a = f + 1 + 1 + 1 then none else if a = f ∧ j = 1 then some (f + 1 + 1) else if a = f + 1 + 1 then none else if a = f ∧ j = 0 then some (f + 1) else if a = f + 1 then none else if a = f then none else M.2.2.1 a j) = _
  by_cases c5 : a = f + 5
  · subst c5
    by_cases cj : j = 0
    · rw [if_pos ⟨rfl, cj⟩, if_pos rfl, if_pos cj]
    · rw [if_neg (fun z => cj z.2), if_pos rfl, if_pos rfl, if_neg cj]
  · rw [if_neg (fun z => c5 z.1), if_neg c5, if_neg c5]
    by_cases c0 : a = f
    · subst c0
      by_cases j0 : j = 0
      · subst j0; rw [if_neg (by omega), if_neg (by omega), if_neg (by omega), if_neg (by omega), if_neg (by omega), if_neg (by omega), if_pos ⟨rfl, rfl⟩, if_pos ⟨rfl, by omega⟩]
      · by_cases j1 : j = 1
        · subst j1; rw [if_neg (by omega), if_neg (by omega), if_neg (by omega), if_neg (by omega), if_pos ⟨rfl, rfl⟩, if_pos ⟨rfl, by omega⟩]
        · by_cases j2 : j = 2
          · subst j2; rw [if_neg (by omega), if_neg (by omega), if_pos ⟨rfl, rfl⟩, if_pos ⟨rfl, by omega⟩]
          · by_cases j3 : j = 3
            · subst j3; rw [if_pos ⟨rfl, rfl⟩, if_pos ⟨rfl, by omega⟩]
            · rw [if_neg (by omega), if_neg (by omega), if_neg (by omega), if_neg (by omega), if_neg (by omega), if_neg (by omega), if_neg (by omega), if_neg (by omega), if_pos rfl, if_neg (by omega), if_pos (by omega)]
    · simp only [c0, false_and, if_false]
      by_cases c : f ≤ a ∧ a ≤ f + 4
      · rw [if_pos c]
        by_cases c4 : a = f + 1 + 1 + 1 + 1
        · rw [if_pos c4]
        · rw [if_neg c4]
          by_cases c3 : a = f + 1 + 1 + 1
          · rw [if_pos c3]
          · rw [if_neg c3]
            by_cases c2 : a = f + 1 + 1
            · rw [if_pos c2]
            · rw [if_neg c2, if_pos (by omega)]
      · rw [if_neg c, if_neg (by omega), if_neg (by omega), if_neg (by omega), if_neg (by omega)]
        rfl
theorem fmM_L {M : Mem} {f n t a : Nat} : (fmM M f n t).2.2.2 a = if a = f + 5 then 0 else if a = f then 0 else if f + 1 ≤ a ∧ a ≤ f + 4 then n else M.2.2.2 a := by
  show (if a = f + 5 then 0 else if a = f + 1 + 1 + 1 + 1 then n else if a = f + 1 + 1 + 1 then n else if a = f + 1 + 1 then n else if a = f + 1 then n else if a = f then 0 else M.2.2.2 a) = _
  by_cases c5 : a = f + 5
  · rw [if_pos c5, if_pos c5]
  · rw [if_neg c5, if_neg c5]
    by_cases c0 : a = f
    · rw [if_neg (by omega), if_neg (by omega), if_neg (by omega), if_neg (by omega), if_pos c0, if_pos c0]
    · simp only [c0, if_false]
      by_cases c : f + 1 ≤ a ∧ a ≤ f + 4
      · rw [if_pos c]
        by_cases c4 : a = f + 1 + 1 + 1 + 1
        · rw [if_pos c4]
        · rw [if_neg c4]
          by_cases c3 : a = f + 1 + 1 + 1
          · rw [if_pos c3]
          · rw [if_neg c3]
            by_cases c2 : a = f + 1 + 1
            · rw [if_pos c2]
            · rw [if_neg c2, if_pos (by omega)]
      · rw [if_neg c, if_neg (by omega), if_neg (by omega), if_neg (by omega), if_neg (by omega)]
/-- the same memory as the parser's start -/
theorem fm_wq {M : Mem} {f n t : Nat} (hf : 94 ≤ f) (hnt : n ≤ t) : fmM M f n t = wq (fmM M f n t) f cs0 := by
  refine Prod.ext ?_ rfl
  funext a j
  have key : (fmM M f n t).1 a j = _ := fmM_I (a := a) (j := j) hf hnt
  have e : (wq (fmM M f n t) f cs0).1 a j = if a = f + 5 then (if j = 1 then nI 0 else if j = 2 then 0 else (fmM M f n t).1 a j) else if a = f then (if j = 4 then nI 0 else (fmM M f n t).1 a j) else if a = f + 2 then 0 else if a = f + 3 then 0 else if a = f + 4 then 0 else (fmM M f n t).1 a j := rfl
  rw [e, key]
  by_cases c5 : a = f + 5
  · rw [if_neg (by omega), if_neg (by omega), if_pos (by omega), if_pos c5]
    split
    · rfl
    · split <;> rfl
  · rw [if_neg c5]
    by_cases c0 : a = f
    · rw [if_neg (by omega), if_neg (by omega), if_pos (by omega), if_pos c0]
      split <;> rfl
    · rw [if_neg c0]
      by_cases c2 : a = f + 2
      · rw [if_pos c2, if_neg (by omega), if_neg (by omega), if_pos (by omega)]
      · rw [if_neg c2]
        by_cases c3 : a = f + 3
        · rw [if_pos c3, if_neg (by omega), if_neg (by omega), if_pos (by omega)]
        · rw [if_neg c3]
          by_cases c4 : a = f + 4
          · rw [if_pos c4, if_neg (by omega), if_neg (by omega), if_pos (by omega)]
          · rw [if_neg c4]
theorem fm_fof {M : Mem} {f n t : Nat} (hn : n ≤ 40) : FoF (fmM M f n t).2.2 f n := by
  refine ⟨⟨?_, ?_, ?_, ?_⟩, ?_, ?_, ?_, ?_, hn⟩
  · have : rA (fmM M f n t) f 0 = _ := fmM_A; exact this.trans (by rw [if_neg (by omega), if_pos ⟨rfl, by decide⟩])
  · have : rA (fmM M f n t) f 1 = _ := fmM_A; exact this.trans (by rw [if_neg (by omega), if_pos ⟨rfl, by decide⟩])
  · have : rA (fmM M f n t) f 2 = _ := fmM_A; exact this.trans (by rw [if_neg (by omega), if_pos ⟨rfl, by decide⟩])
  · have : rA (fmM M f n t) f 3 = _ := fmM_A; exact this.trans (by rw [if_neg (by omega), if_pos ⟨rfl, by decide⟩])
  · rw [fmM_L, if_neg (by omega), if_neg (by omega), if_pos (by omega)]
  · rw [fmM_L, if_neg (by omega), if_neg (by omega), if_pos (by omega)]
  · rw [fmM_L, if_neg (by omega), if_neg (by omega), if_pos (by omega)]
  · rw [fmM_L, if_neg (by omega), if_neg (by omega), if_pos (by omega)]
theorem fmA_fof {M : Mem} {f n t : Nat} (hn : n ≤ 40) : FoF (nwF (mk M f 0) f n).2.2 f n := by
  obtain ⟨⟨a1, a2, a3, a4⟩, b1, b2, b3, b4, b5⟩ := fm_fof (M := M) (f := f) (n := n) (t := t) hn
  have eA : ∀ j, (fmM M f n t).2.2.1 f j = (nwF (mk M f 0) f n).2.2.1 f j := fun j => by
    show (if f = f + 5 ∧ j = 0 then some f else if f = f + 5 then none else (nwF (mk M f 0) f n).2.2.1 f j) = _
    rw [if_neg (by omega), if_neg (by omega)]
  have eL : ∀ k, 0 < k → k < 5 → (fmM M f n t).2.2.2 (f + k) = (nwF (mk M f 0) f n).2.2.2 (f + k) := fun k h1 h2 => by
    show (if f + k = f + 5 then 0 else (nwF (mk M f 0) f n).2.2.2 (f + k)) = _
    rw [if_neg (by omega)]
  rw [eA] at a1 a2 a3 a4
  rw [eL _ (by decide) (by decide)] at b1 b2 b3 b4
  exact ⟨⟨a1, a2, a3, a4⟩, b1, b2, b3, b4, b5⟩
theorem rtl_94 : ∀ p ∈ RTL, p.1 < 94 := by decide +kernel
theorem nwF_str {M : Mem} {f n : Nat} (hf : 94 ≤ f) (hs : Str M.2.2.1) : Str (nwF (mk M f 0) f n).2.2.1 := by
  intro p hp
  have h94 := rtl_94 p hp
  have := hs p hp
  show (if p.1 = f ∧ p.2.1 = 3 then some (f + 1 + 1 + 1 + 1) else if p.1 = f + 1 + 1 + 1 + 1 then none else if p.1 = f ∧ p.2.1 = 2 then some (f + 1 + 1 + 1) else if p.1 = f + 1 + 1 + 1 then none else if p.1 = f ∧ p.2.1 = 1 then some (f + 1 + 1) else if p.1 = f + 1 + 1 then none else if p.1 = f ∧ p.2.1 = 0 then some (f + 1) else if p.1 = f + 1 then none else if p.1 = f then none else M.2.2.1 p.1 p.2.1) = _
  rw [if_neg (by omega), if_neg (by omega), if_neg (by omega), if_neg (by omega), if_neg (by omega), if_neg (by omega), if_neg (by omega), if_neg (by omega), if_neg (by omega)]
  exact this
theorem fmM_str {M : Mem} {f n t : Nat} (hf : 94 ≤ f) (hs : Str M.2.2.1) : Str (fmM M f n t).2.2.1 := by
  intro p hp
  have h94 := rtl_94 p hp
  show (if p.1 = f + 5 ∧ p.2.1 = 0 then some f else if p.1 = f + 5 then none else (nwF (mk M f 0) f n).2.2.1 p.1 p.2.1) = _
  rw [if_neg (by omega), if_neg (by omega)]
  exact nwF_str hf hs p hp
/-- where the parser ends on the tape's n bytes -/
def pzT (M : Mem) (f n t : Nat) : CS := pzC (rI (fmM M f n t) (f + 1)) n cs0
def fmE (M : Mem) (f n t : Nat) : Mem := wq (fmM M f n t) f (pzT M f n t)
theorem w_X9_formula_in {M : Mem} {N : Nat} {Q : Option Value → Nat → Mem → Prop} {i j n t : Nat} (hi : i < 6) (hj : j < 64) (hn : n ≤ 40) (hnt : n ≤ t) (ht6 : t ≤ 60) (ht : rI M 3 1 = nI t) (hNf : NFo N) (hu : rI M (9 + 6 * i + 1) 0 = -1) (hG : (pzT M N n t).2.1 = 0 → FRW (fmE M N n t) (N + 6) N) (hN : 94 ≤ N) (hs : Str M.2.2.1) (h1 : ¬ (pzT M N n t).2.1 = 0 → Q (some (.int (pzT M N n t).2.1)) (N + 6) (fmE M N n t)) (h0 : (pzT M N n t).2.1 = 0 → Q (some (.int (pzT M N n t).2.1)) (N + 6) (putS (fmE M N n t) (9 + 6 * i) j 2 0 (some N) (nsF (csF (fmE M N n t) (9 + 6 * i + 1) N) (zF (fmE M N n t) N)).1)) : AW mX9_formula 33 6 (4 * n + 8) N 0 [(0, .ref 2), (1, .int (nI i)), (2, .int (nI j)), (3, .int (nI n))] [] M Q := by
  have h94 := hN
  refine a_aload_n dX9_formula_0 rfl ?_
  refine a_iload_n dX9_formula_1 rfl ?_
  refine a_callV (mc1 := 6) (ms1 := (4 * n + 8)) (As := [_]) kpX9_sheetAt kmX9_69 (by decide) rfl (Nat.le_of_ble_eq_true rfl) rfl (by decide) rfl (by decide) (hlt hN (by decide)) (Nat.le_of_ble_eq_true rfl) (by omega) (by omega) dX9_formula_2 (w_X9_sheetAt hi hN hs ?_)
  refine a_astore dX9_formula_5 (by decide) ?_
  refine a_aload dX9_formula_7 rfl ?_
  refine a_ifnull dX9_formula_9 ?_
  refine a_iload_n dX9_formula_12 rfl ?_
  refine a_callS (mc1 := 6) (ms1 := (4 * n + 8)) (As := [_]) kpX9_isCell kmX9_73 (by decide) rfl (Nat.le_of_ble_eq_true rfl) (Nat.le_of_ble_eq_true rfl) (by omega) (by omega) dX9_formula_13 (w_X9_isCell ?_)
  refine a_if_eq (tgt := 40) dX9_formula_16 (by decide) (fun c_16 => absurd c_16 (cel_no hj)) (fun c_16 => ?_)
  refine a_iload_n dX9_formula_19 rfl ?_
  refine a_if_lt (tgt := 40) dX9_formula_20 (by decide) (fun c_20 => absurd c_20 (nI_pos (by omega))) (fun c_20 => ?_)
  refine a_iload_n dX9_formula_23 rfl ?_
  refine a_bipush (v := 40) dX9_formula_24 (by decide) ?_
  refine a_icmp_gt (tgt := 40) dX9_formula_26 (by decide) (fun c_26 => absurd c_26 (fun z => absurd ((nI_ltI (a := 40) (by decide) (by omega)).mp z) (by omega))) (fun c_26 => ?_)
  refine a_iload_n dX9_formula_29 rfl ?_
  refine a_aload_n dX9_formula_30 rfl ?_
  refine a_getA (z := 3) kfX9_10 rfl rfl (st_2_0 hs) (by decide) (hlt hN (by decide)) dX9_formula_31 ?_
  refine a_callV (mc1 := 6) (ms1 := (4 * n + 8)) (As := []) kpX8_length kmX9_65 (by decide) rfl (Nat.le_of_ble_eq_true rfl) rfl (by decide) rfl (by decide) (hlt hN (by decide)) (Nat.le_of_ble_eq_true rfl) (by omega) (by omega) dX9_formula_34 (w_X8_length hN hs ?_)
  refine a_icmp_le (tgt := 42) dX9_formula_37 (by decide) (fun c_37 => ?_) (fun c_37 => absurd (by rw [ht]; exact nI_le hnt (by omega)) c_37)
  refine a_new knX9_84 (nf_k hNf) (show 5 + 1 ≤ 6 by decide) (show (4 * n + 3) + 5 ≤ 4 * n + 8 by omega) dX9_formula_42 ?_
  refine a_dup dX9_formula_45 rfl ?_
  refine a_iload_n dX9_formula_46 rfl ?_
  refine a_callI (mc1 := 1) (ms1 := (3)) (As := [_]) kpX2_init kmX9_86 (by decide) rfl (Nat.le_of_ble_eq_true rfl) (Nat.le_of_ble_eq_true rfl) (by omega) (by omega) dX9_formula_47 (w_X2_init (M := mk M N 0) hNf hn ?_)
  have hs0 := hs
  have hs1 : Str (nwF (mk M N 0) N n).2.2.1 := nwF_str h94 hs
  have hs := hs1
  have hN0 := hN
  have hN5 : 94 ≤ N + 1 + 1 + 1 + 1 + 1 := by omega
  have hN := hN5
  have hf4 : FoR N (N + 1 + 1 + 1 + 1 + 1) := by obtain ⟨k, e⟩ := hNf; exact ⟨k, e, by omega⟩
  have ht1 : rI (nwF (mk M N 0) N n) 3 1 = nI t := by rw [nwF_I, if_neg (by omega)]; exact ht
  refine a_astore dX9_formula_50 (by decide) ?_
  refine a_aload_n dX9_formula_52 rfl ?_
  refine a_getA (z := 3) kfX9_10 rfl rfl (st_2_0 hs) (by decide) (hlt hN (by decide)) dX9_formula_53 ?_
  refine a_aload dX9_formula_56 rfl ?_
  refine a_callV (mc1 := 1) (ms1 := (3)) (As := [_]) kpX8_moveTo kmX9_88 (by decide) rfl (Nat.le_of_ble_eq_true rfl) rfl (by decide) rfl (by decide) (hlt hN (by decide)) (Nat.le_of_ble_eq_true rfl) (by omega) (by omega) dX9_formula_58 (w_X8_moveTo (M := nwF (mk M N 0) N n) hf4 (fmA_fof (t := t) hn) ht1 ht6 hN5 hs1 ?_)
  refine a_new knX9_92 (nf_k5 hNf) (show 0 + 1 ≤ 1 by decide) (show 0 + 3 ≤ 3 by decide) dX9_formula_61 ?_
  refine a_dup dX9_formula_64 rfl ?_
  refine a_aload dX9_formula_65 rfl ?_
  refine a_callI (mc1 := 0) (ms1 := 0) (As := [_]) kpX6_init kmX9_94 (by decide) rfl (Nat.le_of_ble_eq_true rfl) (Nat.le_of_ble_eq_true rfl) (Nat.le_of_ble_eq_true rfl) (Nat.le_of_ble_eq_true rfl) dX9_formula_67 (w_X6_init (nf_k5 hNf) (by omega) (by omega) ?_)
  have hf5 : FoR N (N + 1 + 1 + 1 + 1 + 1 + 1) := by obtain ⟨k, e⟩ := hNf; exact ⟨k, e, by omega⟩
  have hs2 : Str (fmM M N n t).2.2.1 := fmM_str h94 hs0
  have hpa : PaA (fmM M N n t).2.2.1 N := by
    have : rA (fmM M N n t) (N + 5) 0 = _ := fmM_A
    exact this.trans (by rw [if_pos rfl, if_pos rfl])
  have ewq := fm_wq (M := M) (f := N) (n := n) (t := t) h94 hnt
  show AW mX9_formula 33 0 0 (N + 6) 70 _ [.ref (N + 5)] (fmM M N n t) Q
  rw [ewq]
  refine a_callV (mc1 := 0) (ms1 := 0) (As := []) kpX6_parse kmX9_96 (by decide) rfl (Nat.le_of_ble_eq_true rfl) (nf_k5 hNf) (by decide) rfl (by omega) (by omega) (Nat.le_of_ble_eq_true rfl) (Nat.le_of_ble_eq_true rfl) (Nat.le_of_ble_eq_true rfl) dX9_formula_70 (w_X6_parse (M := fmM M N n t) (f := N) hf5 (fm_fof hn) (by exact hpa) (by omega) (s := cs0) ⟨Nat.zero_le _, Nat.zero_le _⟩ ?_)
  have hN6 : 94 ≤ N + 1 + 1 + 1 + 1 + 1 + 1 := by omega
  have hN := hN6
  have hs3 : Str (fmE M N n t).2.2.1 := hs2
  have hu2 : rI (fmE M N n t) (9 + 6 * i + 1) 0 = -1 := by
    have : rI (fmE M N n t) (9 + 6 * i + 1) 0 = rI (fmM M N n t) (9 + 6 * i + 1) 0 := by
      show (if 9 + 6 * i + 1 = N + 5 then _ else if 9 + 6 * i + 1 = N then _ else if 9 + 6 * i + 1 = N + 2 then _ else if 9 + 6 * i + 1 = N + 3 then _ else if 9 + 6 * i + 1 = N + 4 then _ else _) = _
      rw [if_neg (by omega), if_neg (by omega), if_neg (by omega), if_neg (by omega), if_neg (by omega)]
      rfl
    rw [this, fmM_I h94 hnt, if_neg (by omega), if_neg (by omega), if_neg (by omega)]
    exact hu
  refine a_istore dX9_formula_73 (by decide) ?_
  refine a_iload dX9_formula_75 rfl ?_
  refine a_if_ne (tgt := 88) dX9_formula_77 (by decide) (fun c_77 => ?_) (fun c_77 => ?_)
  · refine a_iload dX9_formula_88 rfl ?_
    refine a_iret dX9_formula_90 rfl (by first | exact h0 c_77 | exact h1 c_77)
  · refine a_aload dX9_formula_80 rfl ?_
    refine a_iload_n dX9_formula_82 rfl ?_
    refine a_aload dX9_formula_83 rfl ?_
    refine a_callV (mc1 := 0) (ms1 := 0) (As := [_, _]) kpX7_putFormula kmX9_99 (by decide) rfl (Nat.le_of_ble_eq_true rfl) (sh_k (sheetR hi)) (by decide) rfl (sh_two (sheetR hi)) (sh_lt (sheetR hi) hN) (Nat.le_of_ble_eq_true rfl) (Nat.le_of_ble_eq_true rfl) (Nat.le_of_ble_eq_true rfl) dX9_formula_85 (w_X7_putFormula (M := fmE M N n t) (sheetR hi) hj (hG c_77) hu2 (by omega) hs3 ?_)
    refine a_iload dX9_formula_88 rfl ?_
    refine a_iret dX9_formula_90 rfl (by first | exact h0 c_77 | exact h1 c_77)
