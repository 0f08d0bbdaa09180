/-- operands of cells are cells, at every place -/
def FRP (M : Mem) (f : Nat) : Prop := ∀ p, p < 40 → (rI M (f + 2) p = 2 ∨ rI M (f + 2) p = 3 → ∃ c, c < 64 ∧ rI M (f + 3) p = nI c)
theorem nbF_c {c k : Nat} (hc : c < 64) (h : ¬ nbF c k = -2) : ∃ d, d < 64 ∧ nbF c k = nI d := by
  unfold nbF at h ⊢
  split at h
  · rename_i e; rw [if_pos e]; unfold nb0 at h ⊢; split at h
    · rename_i e2; exact ⟨c - 8, by omega, if_pos e2⟩
    · exact absurd rfl h
  · rename_i e; rw [if_neg e]; split at h
    · rename_i e; rw [if_pos e]; unfold nb1 at h ⊢; split at h
      · rename_i e2; exact ⟨c + 8, by omega, if_pos e2⟩
      · exact absurd rfl h
    · rename_i e; rw [if_neg e]; split at h
      · rename_i e; rw [if_pos e]; unfold nb2 at h ⊢; split at h
        · rename_i e2; exact ⟨c - 1, by omega, if_pos e2⟩
        · exact absurd rfl h
      · rename_i e; rw [if_neg e]; unfold nb3 at h ⊢; split at h
        · rename_i e2; exact ⟨c + 1, by omega, if_pos e2⟩
        · exact absurd rfl h
theorem sgv_s (k : Nat) : sgn (sgv k) := by
  rw [sgn_iff]
  unfold sgv
  split
  · exact Or.inl rfl
  · split
    · exact Or.inr (Or.inl rfl)
    · split
      · exact Or.inr (Or.inr (Or.inl rfl))
      · exact Or.inr (Or.inr (Or.inr rfl))
theorem ckO {M : Mem} {f p k : Nat} (h94 : 94 ≤ f) (hp : p < 40) (hr : FRP M f) (hx : ¬ opF (rI M (f + 2) p) (rI M (f + 3) p) k = -2) : ChK (chM M (nI p) (opF (rI M (f + 2) p) (rI M (f + 3) p) k)) 63 f := by
  intro p' hp' e
  have e0 : rI (chM M (nI p) (opF (rI M (f + 2) p) (rI M (f + 3) p) k)) 63 0 = nI p := by
    unfold chM; rw [rI_sI, if_neg (by decide), rI_sI, if_pos ⟨rfl, rfl⟩]
  have e1 : rI (chM M (nI p) (opF (rI M (f + 2) p) (rI M (f + 3) p) k)) 63 1 = opF (rI M (f + 2) p) (rI M (f + 3) p) k := by
    unfold chM; rw [rI_sI, if_pos ⟨rfl, rfl⟩]
  have e2 : ∀ y, rI (chM M (nI p) y) (f + 2) p = rI M (f + 2) p := fun y => by
    unfold chM; rw [rI_sI, if_neg (by omega), rI_sI, if_neg (by omega)]
  rw [e0] at e
  obtain rfl : p' = p := (nI_eq (by omega) (by omega)).mp e
  rw [e1, e2]
  refine ⟨fun hs => ?_, fun hs => ?_⟩
  · unfold opF at hx ⊢
    unfold sgn at hs
    rw [if_pos hs] at hx ⊢
    split at hx
    · exact absurd rfl hx
    · rename_i z; rw [if_neg z]; exact sgv_s k
  · obtain ⟨c, hc, ec⟩ := hr p' hp hs
    have ns : ¬ ((rI M (f + 2) p').toInt = 43 ∨ (rI M (f + 2) p').toInt = 45 ∨ (rI M (f + 2) p').toInt = 42 ∨ (rI M (f + 2) p').toInt = 47) := by
      rcases hs with e | e <;> rw [e] <;> decide
    have n1 : ¬ rI M (f + 2) p' = 1 := by rcases hs with e | e <;> rw [e] <;> decide
    unfold opF at hx ⊢
    rw [if_neg ns, if_neg n1, if_pos hs, ec, nI_clamp (by omega)] at hx ⊢
    exact nbF_c hc hx
/-- the same but for the machine and the judge's change -/
def Sc (M M' : Mem) : Prop := (∀ a j, a ≠ 45 → ¬ (a = 63 ∧ j < 2) → rI M' a j = rI M a j) ∧ (∀ a j, a ≠ 45 → a ≠ 46 → rJ M' a j = rJ M a j) ∧ M'.2.2 = M.2.2
theorem Sc.rf {M : Mem} : Sc M M := ⟨fun _ _ _ _ => rfl, fun _ _ _ _ => rfl, rfl⟩
theorem Sc.tr {M M1 M2 : Mem} (h : Sc M M1) (k : Sc M1 M2) : Sc M M2 := ⟨fun a j h1 h2 => (k.1 a j h1 h2).trans (h.1 a j h1 h2), fun a j h1 h2 => (k.2.1 a j h1 h2).trans (h.2.1 a j h1 h2), k.2.2.trans h.2.2⟩
theorem Se.sc {M M' : Mem} (h : Se M M') : Sc M M' := ⟨fun a j h1 _ => h.1 a j h1, h.2.1, h.2.2⟩
theorem chM_sc {M : Mem} {p x : Int32} : Sc M (chM M p x) := ⟨fun a j _ h2 => by unfold chM; rw [rI_sI, if_neg (fun z => h2 ⟨z.1, by omega⟩), rI_sI, if_neg (fun z => h2 ⟨z.1, by omega⟩)], fun _ _ _ _ => rfl, rfl⟩
theorem Sc.ch {M M' : Mem} {p x : Int32} (h : Sc M M') : Se (chM M p x) (chM M' p x) := by
  refine ⟨fun a j h1 => ?_, h.2.1, h.2.2⟩
  unfold chM
  rw [rI_sI, rI_sI, rI_sI, rI_sI]
  by_cases c1 : a = 63 ∧ j = 1
  · rw [if_pos c1, if_pos c1]
  · rw [if_neg c1, if_neg c1]
    by_cases c0 : a = 63 ∧ j = 0
    · rw [if_pos c0, if_pos c0]
    · rw [if_neg c0, if_neg c0]
      exact h.1 a j h1 (fun z => by omega)
theorem soP_se {M M' : Mem} {f c n : Nat} (hf : 94 ≤ f) (h : Se M M') : soP M' f c n ↔ soP M f c n := by
  unfold soP
  simp only [soV_se hf h, h.1 (47 + 3) _ (by decide), h.2.1 (47 + 2) _ (by decide) (by decide)]
/-- the first of the changes of place p that is like the task's -/
noncomputable def slI (M : Mem) (f c n p : Nat) : Nat → Option Int32
  | 0 => none
  | k + 1 => match slI M f c n p k with
    | some x => some x
    | none => if ¬ opF (rI M (f + 2) p) (rI M (f + 3) p) k = -2 ∧ soP (chM M (nI p) (opF (rI M (f + 2) p) (rI M (f + 3) p) k)) f c n then some (opF (rI M (f + 2) p) (rI M (f + 3) p) k) else none
noncomputable def slP (M : Mem) (f c n : Nat) : Nat → Option (Nat × Int32)
  | 0 => none
  | p + 1 => match slP M f c n p with
    | some r => some r
    | none => if rI M (f + 2) p = 0 then none else (slI M f c n p 4).map (fun x => (p, x))
theorem slI_up {M : Mem} {f c n p k : Nat} {x : Int32} (h : slI M f c n p k = some x) : ∀ r, slI M f c n p (k + r) = some x
  | 0 => h
  | r + 1 => by
    show (match slI M f c n p (k + r) with
      | some x => some x
      | none => _) = some x
    rw [slI_up h r]
theorem slP_up {M : Mem} {f c n k : Nat} {x : Nat × Int32} (h : slP M f c n k = some x) : ∀ r, slP M f c n (k + r) = some x
  | 0 => h
  | r + 1 => by
    show (match slP M f c n (k + r) with
      | some x => some x
      | none => _) = some x
    rw [slP_up h r]
theorem slI_1 {M : Mem} {f c n p k : Nat} (h : slI M f c n p k = none) (hx : ¬ opF (rI M (f + 2) p) (rI M (f + 3) p) k = -2) (hs : soP (chM M (nI p) (opF (rI M (f + 2) p) (rI M (f + 3) p) k)) f c n) : slI M f c n p (k + 1) = some (opF (rI M (f + 2) p) (rI M (f + 3) p) k) := by
  show (match slI M f c n p k with
      | some x => some x
      | none => _) = _
  rw [h]
  exact if_pos ⟨hx, hs⟩
theorem slI_0 {M : Mem} {f c n p k : Nat} (h : slI M f c n p k = none) (hx : ¬ (¬ opF (rI M (f + 2) p) (rI M (f + 3) p) k = -2 ∧ soP (chM M (nI p) (opF (rI M (f + 2) p) (rI M (f + 3) p) k)) f c n)) : slI M f c n p (k + 1) = none := by
  show (match slI M f c n p k with
      | some x => some x
      | none => _) = _
  rw [h]
  exact if_neg hx
theorem slP_0 {M : Mem} {f c n p : Nat} (h : slP M f c n p = none) (hx : rI M (f + 2) p = 0 ∨ slI M f c n p 4 = none) : slP M f c n (p + 1) = none := by
  show (match slP M f c n p with
      | some x => some x
      | none => _) = _
  rw [h]
  show (if rI M (f + 2) p = 0 then none else (slI M f c n p 4).map (fun x => (p, x))) = none
  split
  · rfl
  · rename_i e; rw [hx.resolve_left e]; rfl
theorem slP_1 {M : Mem} {f c n p : Nat} {x : Int32} (h : slP M f c n p = none) (h0 : ¬ rI M (f + 2) p = 0) (hx : slI M f c n p 4 = some x) : slP M f c n (p + 1) = some (p, x) := by
  show (match slP M f c n p with
      | some x => some x
      | none => _) = _
  rw [h]
  show (if rI M (f + 2) p = 0 then none else (slI M f c n p 4).map (fun x => (p, x))) = _
  rw [if_neg h0, hx]
  rfl
theorem l_X3_slI {M : Mem} {N : Nat} {Q : Option Value → Nat → Mem → Prop} {f m c : Nat} (hf : FoR f N) (hmm : FoF M.2.2 f m) (hF : FRW M N f) (hr : FRP M f) (hc : c < 64) {n : Nat} (hn : rI M 5 4 = nI n) (hn6 : n ≤ 6) (hN : 94 ≤ N) (hs : Str M.2.2.1) {p : Nat} (hp : p < m) (hnx : slI M f c n p 4 = none → ∀ M', Sc M M' → AW mX3_findsSlip 5 0 0 N 82 [(0, .ref 62), (1, .ref f), (2, .int (nI c)), (3, .int (nI p))] [] M' Q) (hfd : ∀ x M', slI M f c n p 4 = some x → Sc M M' → Q (some (.int 1)) N (sI (sI M' 62 6 (nI p)) 62 7 x)) : ∀ (r k : Nat) (Mk : Mem), k + r = 4 → Sc M Mk → slI M f c n p k = none → AW mX3_findsSlip 5 0 0 N 28 [(0, .ref 62), (1, .ref f), (2, .int (nI c)), (3, .int (nI p)), (4, .int (nI 4)), (5, .int (nI k))] [] Mk Q := by
  intro r
  induction r with
  | zero =>
    intro k Mk hk sc hinv
    have h94 := fo_94 hf
    have hnk : rI Mk 5 4 = nI n := (sc.1 5 4 (by decide) (by decide)).trans hn
    have hsk : Str Mk.2.2.1 := by rw [sc.2.2]; exact hs
    have hm : FoF Mk.2.2 f m := by rw [sc.2.2]; exact hmm
    have hs := hsk
    obtain rfl : k = 4 := by omega
    refine a_iload dX3_findsSlip_28 rfl ?_
    refine a_iload dX3_findsSlip_30 rfl ?_
    refine a_icmp_ge (tgt := 82) dX3_findsSlip_32 (by decide) (fun c_32 => ?_) (fun c_32 => absurd (nI_le (a := 4) (b := 4) (by omega) (by decide)) c_32)
    refine AW.sub (L' := [(0, .ref 62), (1, .ref f), (2, .int (nI c)), (3, .int (nI p))]) rfl ?_
    exact hnx hinv _ sc
  | succ r ih =>
    intro k Mk hk sc hinv
    have h94 := fo_94 hf
    have hnk : rI Mk 5 4 = nI n := (sc.1 5 4 (by decide) (by decide)).trans hn
    have hsk : Str Mk.2.2.1 := by rw [sc.2.2]; exact hs
    have hm : FoF Mk.2.2 f m := by rw [sc.2.2]; exact hmm
    have hs := hsk
    have hk4 : k < 4 := by omega
    have m40 := fo_40 hmm
    have eR : ∀ a j, 94 ≤ a → rI Mk a j = rI M a j := fun a j ha => sc.1 _ _ (by omega) (by omega)
    have hFk : FRW Mk N f := FRW.eq (M := M) eR sc.2.2 hF
    have hrk : FRP Mk f := fun p hp h => by rw [eR _ _ (by omega)] at h ⊢; exact hr p hp h
    have eo : opF (rI Mk (f + 2) p) (rI Mk (f + 3) p) k = opF (rI M (f + 2) p) (rI M (f + 3) p) k := by rw [eR _ _ (by omega), eR _ _ (by omega)]
    refine a_iload dX3_findsSlip_28 rfl ?_
    refine a_iload dX3_findsSlip_30 rfl ?_
    refine a_icmp_ge (tgt := 82) dX3_findsSlip_32 (by decide) (fun c_32 => absurd c_32 (nI_ge (b := 4) (by omega) (by decide))) (fun c_32 => ?_)
    refine a_aload_n dX3_findsSlip_35 rfl ?_
    refine a_iload_n dX3_findsSlip_36 rfl ?_
    refine a_iload dX3_findsSlip_37 rfl ?_
    refine a_callS (mc1 := 0) (ms1 := 0) (As := [_, _, _]) kpX3_option kmX3_93 (by decide) rfl (Nat.le_of_ble_eq_true rfl) (Nat.le_of_ble_eq_true rfl) (Nat.le_of_ble_eq_true rfl) (Nat.le_of_ble_eq_true rfl) dX3_findsSlip_39 (w_X3_option (k := k) hf hm hp hk4 (hrk p (by omega)) ?_)
    rw [eo]
    refine a_istore dX3_findsSlip_42 (by decide) ?_
    refine a_iload dX3_findsSlip_44 rfl ?_
    refine a_bipush (v := (-2)) dX3_findsSlip_46 (by decide) ?_
    refine a_icmp_eq (tgt := 76) dX3_findsSlip_48 (by decide) (fun c_48 => ?_) (fun c_48 => ?_)
    · refine a_iinc dX3_findsSlip_76 rfl rfl (by decide) ?_
      refine a_goto (tgt := 28) dX3_findsSlip_79 (by decide) ?_
      rw [show nI k + Int32.ofInt 1 = nI (k + 1) from nI_1 k]
      refine AW.sub (L' := [(0, .ref 62), (1, .ref f), (2, .int (nI c)), (3, .int (nI p)), (4, .int (nI 4)), (5, .int (nI (k + 1)))]) rfl ?_
      first | exact ih (k + 1) _ (by omega) sc2 (slI_0 hinv (fun z => (bI_z.mp c_60) ((soP_se h94 sc.ch).mpr z.2))) | exact ih (k + 1) _ (by omega) sc (slI_0 hinv (fun z => z.1 c_48))
    · have hck : ChK (chM Mk (nI p) (opF (rI M (f + 2) p) (rI M (f + 3) p) k)) 63 f := by rw [← eo]; exact ckO h94 (by omega) hrk (by rw [eo]; exact c_48)
      refine a_aload_n dX3_findsSlip_51 rfl ?_
      refine a_aload_n dX3_findsSlip_52 rfl ?_
      refine a_iload_n dX3_findsSlip_53 rfl ?_
      refine a_iload dX3_findsSlip_54 rfl ?_
      refine a_iload_n dX3_findsSlip_56 rfl ?_
      refine a_callV (mc1 := 0) (ms1 := 0) (As := [_, _, _, _]) kpX3_isSoChanged kmX3_97 (by decide) rfl (Nat.le_of_ble_eq_true rfl) rfl (by decide) rfl (by decide) (hlt hN (by decide)) (Nat.le_of_ble_eq_true rfl) (Nat.le_of_ble_eq_true rfl) (Nat.le_of_ble_eq_true rfl) dX3_findsSlip_57 (w_X3_isSoChanged (M := Mk) hFk hck hc hnk hn6 hN hsk ?_)
      intro M2 s2
      have sc2 := sc.tr (chM_sc.tr s2.sc)
      have hs2 : Str M2.2.2.1 := by rw [sc2.2.2]; rw [sc.2.2] at hsk; exact hsk
      have hs := hs2
      refine a_if_eq (tgt := 76) dX3_findsSlip_60 (by decide) (fun c_60 => ?_) (fun c_60 => ?_)
      · refine a_iinc dX3_findsSlip_76 rfl rfl (by decide) ?_
        refine a_goto (tgt := 28) dX3_findsSlip_79 (by decide) ?_
        rw [show nI k + Int32.ofInt 1 = nI (k + 1) from nI_1 k]
        refine AW.sub (L' := [(0, .ref 62), (1, .ref f), (2, .int (nI c)), (3, .int (nI p)), (4, .int (nI 4)), (5, .int (nI (k + 1)))]) rfl ?_
        first | exact ih (k + 1) _ (by omega) sc2 (slI_0 hinv (fun z => (bI_z.mp c_60) ((soP_se h94 sc.ch).mpr z.2))) | exact ih (k + 1) _ (by omega) sc (slI_0 hinv (fun z => z.1 c_48))
      · refine a_aload_n dX3_findsSlip_63 rfl ?_
        refine a_iload_n dX3_findsSlip_64 rfl ?_
        refine a_putI kfX3_36 rfl rfl rfl (by decide) (hlt hN (by decide)) dX3_findsSlip_65 ?_
        refine a_aload_n dX3_findsSlip_68 rfl ?_
        refine a_iload dX3_findsSlip_69 rfl ?_
        refine a_putI kfX3_40 rfl rfl rfl (by decide) (hlt hN (by decide)) dX3_findsSlip_71 ?_
        refine a_iconst (v := 1) dX3_findsSlip_74 (by decide) ?_
        refine a_zret dX3_findsSlip_75 rfl (by decide) (hfd _ _ (by rw [show (4 : Nat) = (k + 1) + (3 - k) by omega]; exact slI_up (slI_1 hinv c_48 ((soP_se h94 sc.ch).mp (bI_nz.mp c_60))) _) sc2)
theorem l_X3_findsSlip {M : Mem} {N : Nat} {Q : Option Value → Nat → Mem → Prop} {f m c : Nat} (hf : FoR f N) (hmm : FoF M.2.2 f m) (hF : FRW M N f) (hr : FRP M f) (hc : c < 64) {n : Nat} (hn : rI M 5 4 = nI n) (hn6 : n ≤ 6) (hN : 94 ≤ N) (hs : Str M.2.2.1) (h : ∀ M', Sc M M' → (slP M f c n m = none → Q (some (.int 0)) N M') ∧ ∀ r, slP M f c n m = some r → Q (some (.int 1)) N (sI (sI M' 62 6 (nI r.1)) 62 7 r.2)) : ∀ (r k : Nat) (Mk : Mem), k + r = m → Sc M Mk → slP M f c n k = none → AW mX3_findsSlip 5 0 0 N 2 [(0, .ref 62), (1, .ref f), (2, .int (nI c)), (3, .int (nI k))] [] Mk Q := by
  intro r
  induction r with
  | zero =>
    intro k Mk hk sc hinv
    have h94 := fo_94 hf
    have hnk : rI Mk 5 4 = nI n := (sc.1 5 4 (by decide) (by decide)).trans hn
    have hsk : Str Mk.2.2.1 := by rw [sc.2.2]; exact hs
    have hm : FoF Mk.2.2 f m := by rw [sc.2.2]; exact hmm
    have hs := hsk
    have m40 := fo_40 hmm
    obtain rfl : k = m := by omega
    refine a_iload_n dX3_findsSlip_2 rfl ?_
    refine a_aload_n dX3_findsSlip_3 rfl ?_
    refine a_callV (mc1 := 0) (ms1 := 0) (As := []) kpX2_length kmX3_84 (by decide) rfl (Nat.le_of_ble_eq_true rfl) (fo_k hf) (by decide) rfl (fo_two hf) (fo_lt hf) (Nat.le_of_ble_eq_true rfl) (Nat.le_of_ble_eq_true rfl) (Nat.le_of_ble_eq_true rfl) dX3_findsSlip_4 (w_X2_length hf hm ?_)
    refine a_icmp_ge (tgt := 88) dX3_findsSlip_7 (by decide) (fun c_7 => ?_) (fun c_7 => absurd (nI_le (by omega) (by omega)) c_7)
    refine a_iconst (v := 0) dX3_findsSlip_88 (by decide) ?_
    refine a_zret dX3_findsSlip_89 rfl (by decide) ((h _ sc).1 hinv)
  | succ r ih =>
    intro k Mk hk sc hinv
    have hsM := hs
    have h94 := fo_94 hf
    have hnk : rI Mk 5 4 = nI n := (sc.1 5 4 (by decide) (by decide)).trans hn
    have hsk : Str Mk.2.2.1 := by rw [sc.2.2]; exact hs
    have hm : FoF Mk.2.2 f m := by rw [sc.2.2]; exact hmm
    have hs := hsk
    have m40 := fo_40 hmm
    have hkm : k < m := by omega
    have eR : rI Mk (f + 2) k = rI M (f + 2) k := sc.1 _ _ (by omega) (by omega)
    by_cases e0 : rI Mk (f + 2) k = 0
    · refine a_iload_n dX3_findsSlip_2 rfl ?_
      refine a_aload_n dX3_findsSlip_3 rfl ?_
      refine a_callV (mc1 := 0) (ms1 := 0) (As := []) kpX2_length kmX3_84 (by decide) rfl (Nat.le_of_ble_eq_true rfl) (fo_k hf) (by decide) rfl (fo_two hf) (fo_lt hf) (Nat.le_of_ble_eq_true rfl) (Nat.le_of_ble_eq_true rfl) (Nat.le_of_ble_eq_true rfl) dX3_findsSlip_4 (w_X2_length hf hm ?_)
      refine a_icmp_ge (tgt := 88) dX3_findsSlip_7 (by decide) (fun c_7 => absurd c_7 (nI_ge (by omega) (by omega))) (fun c_7 => ?_)
      refine a_aload_n dX3_findsSlip_10 rfl ?_
      refine a_iload_n dX3_findsSlip_11 rfl ?_
      refine a_callV (mc1 := 0) (ms1 := 0) (As := [_]) kpX2_stepAt kmX3_90 (by decide) rfl (Nat.le_of_ble_eq_true rfl) (fo_k hf) (by decide) rfl (fo_two hf) (fo_lt hf) (Nat.le_of_ble_eq_true rfl) (Nat.le_of_ble_eq_true rfl) (Nat.le_of_ble_eq_true rfl) dX3_findsSlip_12 (w_X2_stepAt hf hm hkm ?_)
      refine a_if_ne (tgt := 22) dX3_findsSlip_15 (by decide) (fun c_15 => absurd e0 c_15) (fun c_15 => ?_)
      refine a_iconst (v := 0) dX3_findsSlip_18 (by decide) ?_
      refine a_goto (tgt := 23) dX3_findsSlip_19 (by decide) ?_
      refine a_istore dX3_findsSlip_23 (by decide) ?_
      refine a_iconst (v := 0) dX3_findsSlip_25 (by decide) ?_
      refine a_istore dX3_findsSlip_26 (by decide) ?_
      refine a_iload dX3_findsSlip_28 rfl ?_
      refine a_iload dX3_findsSlip_30 rfl ?_
      refine a_icmp_ge (tgt := 82) dX3_findsSlip_32 (by decide) (fun c_32 => ?_) (fun c_32 => absurd (nI_le (a := 0) (b := 0) (by omega) (by decide)) c_32)
      refine a_iinc dX3_findsSlip_82 rfl rfl (by decide) ?_
      refine a_goto (tgt := 2) dX3_findsSlip_85 (by decide) ?_
      rw [show nI k + Int32.ofInt 1 = nI (k + 1) from nI_1 k]
      refine AW.sub (L' := [(0, .ref 62), (1, .ref f), (2, .int (nI c)), (3, .int (nI (k + 1)))]) rfl ?_
      exact ih (k + 1) _ (by omega) sc (slP_0 hinv (Or.inl (by rw [← eR]; exact e0)))
    · refine a_iload_n dX3_findsSlip_2 rfl ?_
      refine a_aload_n dX3_findsSlip_3 rfl ?_
      refine a_callV (mc1 := 0) (ms1 := 0) (As := []) kpX2_length kmX3_84 (by decide) rfl (Nat.le_of_ble_eq_true rfl) (fo_k hf) (by decide) rfl (fo_two hf) (fo_lt hf) (Nat.le_of_ble_eq_true rfl) (Nat.le_of_ble_eq_true rfl) (Nat.le_of_ble_eq_true rfl) dX3_findsSlip_4 (w_X2_length hf hm ?_)
      refine a_icmp_ge (tgt := 88) dX3_findsSlip_7 (by decide) (fun c_7 => absurd c_7 (nI_ge (by omega) (by omega))) (fun c_7 => ?_)
      refine a_aload_n dX3_findsSlip_10 rfl ?_
      refine a_iload_n dX3_findsSlip_11 rfl ?_
      refine a_callV (mc1 := 0) (ms1 := 0) (As := [_]) kpX2_stepAt kmX3_90 (by decide) rfl (Nat.le_of_ble_eq_true rfl) (fo_k hf) (by decide) rfl (fo_two hf) (fo_lt hf) (Nat.le_of_ble_eq_true rfl) (Nat.le_of_ble_eq_true rfl) (Nat.le_of_ble_eq_true rfl) dX3_findsSlip_12 (w_X2_stepAt hf hm hkm ?_)
      refine a_if_ne (tgt := 22) dX3_findsSlip_15 (by decide) (fun c_15 => ?_) (fun c_15 => absurd c_15 e0)
      refine a_iconst (v := 4) dX3_findsSlip_22 (by decide) ?_
      refine a_istore dX3_findsSlip_23 (by decide) ?_
      refine a_iconst (v := 0) dX3_findsSlip_25 (by decide) ?_
      refine a_istore dX3_findsSlip_26 (by decide) ?_
      refine AW.sub (L' := [(0, .ref 62), (1, .ref f), (2, .int (nI c)), (3, .int (nI k)), (4, .int (nI 4)), (5, .int (nI 0))]) rfl ?_
      refine l_X3_slI (M := M) hf hmm hF hr hc hn hn6 hN hsM (p := k) (by omega) (fun hno M' sc' => ?_) (fun x M' hx sc' => ?_) 4 0 Mk (by omega) sc rfl
      · refine a_iinc dX3_findsSlip_82 rfl rfl (by decide) ?_
        refine a_goto (tgt := 2) dX3_findsSlip_85 (by decide) ?_
        rw [show nI k + Int32.ofInt 1 = nI (k + 1) from nI_1 k]
        refine AW.sub (L' := [(0, .ref 62), (1, .ref f), (2, .int (nI c)), (3, .int (nI (k + 1)))]) rfl ?_
        exact ih (k + 1) _ (by omega) sc' (slP_0 hinv (Or.inr hno))
      · have e1 := slP_1 hinv (by rw [← eR]; exact e0) hx
        exact (h _ sc').2 (k, x) (by rw [show m = (k + 1) + (m - (k + 1)) by omega]; exact slP_up e1 _)
theorem w_X3_findsSlip {M : Mem} {N : Nat} {Q : Option Value → Nat → Mem → Prop} {f m c : Nat} (hf : FoR f N) (hmm : FoF M.2.2 f m) (hF : FRW M N f) (hr : FRP M f) (hc : c < 64) {n : Nat} (hn : rI M 5 4 = nI n) (hn6 : n ≤ 6) (hN : 94 ≤ N) (hs : Str M.2.2.1) (h : ∀ M', Sc M M' → (slP M f c n m = none → Q (some (.int 0)) N M') ∧ ∀ r, slP M f c n m = some r → Q (some (.int 1)) N (sI (sI M' 62 6 (nI r.1)) 62 7 r.2)) : AW mX3_findsSlip 5 0 0 N 0 [(0, .ref 62), (1, .ref f), (2, .int (nI c))] [] M Q := by
  refine a_iconst (v := 0) dX3_findsSlip_0 (by decide) ?_
  refine a_istore_n dX3_findsSlip_1 (by decide) ?_
  refine AW.sub (L' := [(0, .ref 62), (1, .ref f), (2, .int (nI c)), (3, .int (nI 0))]) rfl ?_
  exact l_X3_findsSlip hf hmm hF hr hc hn hn6 hN hs h m 0 M (by omega) Sc.rf rfl
