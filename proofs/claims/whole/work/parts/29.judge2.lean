/-- the figures g are the task's at c in all worlds -/
abbrev alk (M : Mem) (g c n : Nat) : Prop := ∀ w, w < n → rI M (g + 3) (w * 64 + c) = rI M (47 + 3) (w * 64 + c) ∧ rJ M (g + 2) (w * 64 + c) = rJ M (47 + 2) (w * 64 + c)
/-- in some world -/
abbrev alo (M : Mem) (g c n : Nat) : Prop := ¬ ∀ w, w < n → ¬ (rI M (g + 3) (w * 64 + c) = rI M (47 + 3) (w * 64 + c) ∧ rJ M (g + 2) (w * 64 + c) = rJ M (47 + 2) (w * 64 + c))
theorem FgR47 : FgR 47 := Or.inl rfl
theorem FgR52 : FgR 52 := Or.inr (Or.inl rfl)
theorem FgR57 : FgR 57 := Or.inr (Or.inr rfl)
theorem l_X3_isAlike {M : Mem} {N : Nat} {Q : Option Value → Nat → Mem → Prop} {g c : Nat} (hg : FgR g) (hc : c < 64) {n : Nat} (hn : rI M 5 4 = nI n) (hn6 : n ≤ 6) (hN : 94 ≤ N) (hs : Str M.2.2.1) (h : Q (some (.int (bI (alk M g c n)))) N M) : ∀ (r k : Nat), k + r = n → (∀ w, w < k → rI M (g + 3) (w * 64 + c) = rI M (47 + 3) (w * 64 + c) ∧ rJ M (g + 2) (w * 64 + c) = rJ M (47 + 2) (w * 64 + c)) → AW mX3_isAlike 2 0 0 N 2 [(0, .ref 62), (1, .ref g), (2, .int (nI c)), (3, .int (nI k))] [] M Q := by
  intro r
  induction r with
  | zero =>
    intro k hk hinv
    rcases Nat.lt_or_ge k 6 with hk6 | hk6
    · refine a_iload_n dX3_isAlike_2 rfl ?_
      refine a_bipush (v := 6) dX3_isAlike_3 (by decide) ?_
      refine a_icmp_ge (tgt := 40) dX3_isAlike_5 (by decide) (fun c_5 => absurd c_5 (nI_ge (b := 6) hk6 (by decide))) (fun c_5 => ?_)
      refine a_aload_n dX3_isAlike_8 rfl ?_
      refine a_getA (z := 5) kfX3_9 rfl rfl (st_62_0 hs) (by decide) (hlt hN (by decide)) dX3_isAlike_9 ?_
      refine a_iload_n dX3_isAlike_12 rfl ?_
      refine a_callV (mc1 := 0) (ms1 := 0) (As := [_]) kpX4_isWorld kmX3_75 (by decide) rfl (Nat.le_of_ble_eq_true rfl) rfl (by decide) rfl (by decide) (hlt hN (by decide)) (Nat.le_of_ble_eq_true rfl) (Nat.le_of_ble_eq_true rfl) (Nat.le_of_ble_eq_true rfl) dX3_isAlike_13 (w_X4_isWorld hN hs ?_)
      refine a_if_eq (tgt := 40) dX3_isAlike_16 (by decide) (fun c_16 => ?_) (fun c_16 => absurd (isw_f hn hn6 hk6 (by omega)) c_16)
      refine a_iconst (v := 1) dX3_isAlike_40 (by decide) ?_
      refine a_zret dX3_isAlike_41 rfl (by decide) (ret_t (fun w hw => hinv w (by omega)) h)
    · refine a_iload_n dX3_isAlike_2 rfl ?_
      refine a_bipush (v := 6) dX3_isAlike_3 (by decide) ?_
      refine a_icmp_ge (tgt := 40) dX3_isAlike_5 (by decide) (fun c_5 => ?_) (fun c_5 => absurd (nI_le (a := 6) (by omega) (by omega)) c_5)
      refine a_iconst (v := 1) dX3_isAlike_40 (by decide) ?_
      refine a_zret dX3_isAlike_41 rfl (by decide) (ret_t (fun w hw => hinv w (by omega)) h)
  | succ r ih =>
    intro k hk hinv
    have hkn : k < n := by omega
    refine a_iload_n dX3_isAlike_2 rfl ?_
    refine a_bipush (v := 6) dX3_isAlike_3 (by decide) ?_
    refine a_icmp_ge (tgt := 40) dX3_isAlike_5 (by decide) (fun c_5 => absurd c_5 (nI_ge (b := 6) (by omega) (by decide))) (fun c_5 => ?_)
    refine a_aload_n dX3_isAlike_8 rfl ?_
    refine a_getA (z := 5) kfX3_9 rfl rfl (st_62_0 hs) (by decide) (hlt hN (by decide)) dX3_isAlike_9 ?_
    refine a_iload_n dX3_isAlike_12 rfl ?_
    refine a_callV (mc1 := 0) (ms1 := 0) (As := [_]) kpX4_isWorld kmX3_75 (by decide) rfl (Nat.le_of_ble_eq_true rfl) rfl (by decide) rfl (by decide) (hlt hN (by decide)) (Nat.le_of_ble_eq_true rfl) (Nat.le_of_ble_eq_true rfl) (Nat.le_of_ble_eq_true rfl) dX3_isAlike_13 (w_X4_isWorld hN hs ?_)
    refine a_if_eq (tgt := 40) dX3_isAlike_16 (by decide) (fun c_16 => absurd c_16 (isw_t hn hn6 hkn)) (fun c_16 => ?_)
    refine a_aload_n dX3_isAlike_19 rfl ?_
    refine a_aload_n dX3_isAlike_20 rfl ?_
    refine a_getA (z := 47) kfX3_19 rfl rfl (st_62_3 hs) (by decide) (hlt hN (by decide)) dX3_isAlike_21 ?_
    refine a_iload_n dX3_isAlike_24 rfl ?_
    refine a_iload_n dX3_isAlike_25 rfl ?_
    refine a_callV (mc1 := 0) (ms1 := 0) (As := [_, _, _]) kpX1_isAlike kmX3_81 (by decide) rfl (Nat.le_of_ble_eq_true rfl) (fg_k hg) (by decide) rfl (fg_two hg) (fg_lt hg hN) (Nat.le_of_ble_eq_true rfl) (Nat.le_of_ble_eq_true rfl) (Nat.le_of_ble_eq_true rfl) dX3_isAlike_26 (w_X1_isAlike hg (show k < 6 by omega) hc FgR47 hN hs ?_)
    refine a_if_ne (tgt := 34) dX3_isAlike_29 (by decide) (fun c_29 => ?_) (fun c_29 => ?_)
    · refine a_iinc dX3_isAlike_34 rfl rfl (by decide) ?_
      refine a_goto (tgt := 2) dX3_isAlike_37 (by decide) ?_
      rw [show nI k + Int32.ofInt 1 = nI (k + 1) from nI_1 k]
      refine AW.sub (L' := [(0, .ref 62), (1, .ref g), (2, .int (nI c)), (3, .int (nI (k + 1)))]) rfl ?_
      exact ih (k + 1) (by omega) (fun w hw => by rcases Nat.lt_or_ge w k with z | z; exact hinv w z; rw [show w = k by omega]; exact bI_nz.mp c_29)
    · refine a_iconst (v := 0) dX3_isAlike_32 (by decide) ?_
      refine a_zret dX3_isAlike_33 rfl (by decide) (ret_f (fun z => bI_z.mp c_29 (z k hkn)) h)
theorem w_X3_isAlike {M : Mem} {N : Nat} {Q : Option Value → Nat → Mem → Prop} {g c : Nat} (hg : FgR g) (hc : c < 64) {n : Nat} (hn : rI M 5 4 = nI n) (hn6 : n ≤ 6)  (hN : 94 ≤ N) (hs : Str M.2.2.1) (h : Q (some (.int (bI (alk M g c n)))) N (M)) : AW mX3_isAlike 2 0 0 N 0 [(0, .ref 62), (1, .ref g), (2, .int (nI c))] [] M Q := by
  refine a_iconst (v := 0) dX3_isAlike_0 (by decide) ?_
  refine a_istore_n dX3_isAlike_1 (by decide) ?_
  refine AW.sub (L' := [(0, .ref 62), (1, .ref g), (2, .int (nI c)), (3, .int (nI 0))]) rfl ?_
  exact l_X3_isAlike hg hc hn hn6 hN hs h n 0 (by omega) (fun w hw => absurd hw (Nat.not_lt_zero _))

theorem l_X3_judgeNumber {M : Mem} {N : Nat} {Q : Option Value → Nat → Mem → Prop} {q c : Nat} (hq : ShR q) (hc : c < 64) {n : Nat} (hn : rI M 5 4 = nI n) (hn6 : n ≤ 6) (hN : 94 ≤ N) (hs : Str M.2.2.1) (h : Q (some (.int (if alo M 52 c n then 2 else 5))) N M) : ∀ (r k : Nat), k + r = n → (∀ w, w < k → ¬ (rI M (52 + 3) (w * 64 + c) = rI M (47 + 3) (w * 64 + c) ∧ rJ M (52 + 2) (w * 64 + c) = rJ M (47 + 2) (w * 64 + c))) → AW mX3_judgeNumber 2 0 0 N 12 [(0, .ref 62), (1, .ref q), (2, .int (nI c)), (3, .int (nI k))] [] M Q := by
  intro r
  induction r with
  | zero =>
    intro k hk hinv
    rcases Nat.lt_or_ge k 6 with hk6 | hk6
    · refine a_iload_n dX3_judgeNumber_12 rfl ?_
      refine a_bipush (v := 6) dX3_judgeNumber_13 (by decide) ?_
      refine a_icmp_ge (tgt := 53) dX3_judgeNumber_15 (by decide) (fun c_15 => absurd c_15 (nI_ge (b := 6) hk6 (by decide))) (fun c_15 => ?_)
      refine a_aload_n dX3_judgeNumber_18 rfl ?_
      refine a_getA (z := 5) kfX3_9 rfl rfl (st_62_0 hs) (by decide) (hlt hN (by decide)) dX3_judgeNumber_19 ?_
      refine a_iload_n dX3_judgeNumber_22 rfl ?_
      refine a_callV (mc1 := 0) (ms1 := 0) (As := [_]) kpX4_isWorld kmX3_75 (by decide) rfl (Nat.le_of_ble_eq_true rfl) rfl (by decide) rfl (by decide) (hlt hN (by decide)) (Nat.le_of_ble_eq_true rfl) (Nat.le_of_ble_eq_true rfl) (Nat.le_of_ble_eq_true rfl) dX3_judgeNumber_23 (w_X4_isWorld hN hs ?_)
      refine a_if_eq (tgt := 53) dX3_judgeNumber_26 (by decide) (fun c_26 => ?_) (fun c_26 => absurd (isw_f hn hn6 hk6 (by omega)) c_26)
      refine a_iconst (v := 5) dX3_judgeNumber_53 (by decide) ?_
      refine a_iret dX3_judgeNumber_54 rfl (ret_i (if_neg (fun z => z (fun w hw => hinv w (by omega)))) h)
    · refine a_iload_n dX3_judgeNumber_12 rfl ?_
      refine a_bipush (v := 6) dX3_judgeNumber_13 (by decide) ?_
      refine a_icmp_ge (tgt := 53) dX3_judgeNumber_15 (by decide) (fun c_15 => ?_) (fun c_15 => absurd (nI_le (a := 6) (by omega) (by omega)) c_15)
      refine a_iconst (v := 5) dX3_judgeNumber_53 (by decide) ?_
      refine a_iret dX3_judgeNumber_54 rfl (ret_i (if_neg (fun z => z (fun w hw => hinv w (by omega)))) h)
  | succ r ih =>
    intro k hk hinv
    have hkn : k < n := by omega
    refine a_iload_n dX3_judgeNumber_12 rfl ?_
    refine a_bipush (v := 6) dX3_judgeNumber_13 (by decide) ?_
    refine a_icmp_ge (tgt := 53) dX3_judgeNumber_15 (by decide) (fun c_15 => absurd c_15 (nI_ge (b := 6) (by omega) (by decide))) (fun c_15 => ?_)
    refine a_aload_n dX3_judgeNumber_18 rfl ?_
    refine a_getA (z := 5) kfX3_9 rfl rfl (st_62_0 hs) (by decide) (hlt hN (by decide)) dX3_judgeNumber_19 ?_
    refine a_iload_n dX3_judgeNumber_22 rfl ?_
    refine a_callV (mc1 := 0) (ms1 := 0) (As := [_]) kpX4_isWorld kmX3_75 (by decide) rfl (Nat.le_of_ble_eq_true rfl) rfl (by decide) rfl (by decide) (hlt hN (by decide)) (Nat.le_of_ble_eq_true rfl) (Nat.le_of_ble_eq_true rfl) (Nat.le_of_ble_eq_true rfl) dX3_judgeNumber_23 (w_X4_isWorld hN hs ?_)
    refine a_if_eq (tgt := 53) dX3_judgeNumber_26 (by decide) (fun c_26 => absurd c_26 (isw_t hn hn6 hkn)) (fun c_26 => ?_)
    refine a_aload_n dX3_judgeNumber_29 rfl ?_
    refine a_getA (z := 52) kfX3_23 rfl rfl (st_62_4 hs) (by decide) (hlt hN (by decide)) dX3_judgeNumber_30 ?_
    refine a_aload_n dX3_judgeNumber_33 rfl ?_
    refine a_getA (z := 47) kfX3_19 rfl rfl (st_62_3 hs) (by decide) (hlt hN (by decide)) dX3_judgeNumber_34 ?_
    refine a_iload_n dX3_judgeNumber_37 rfl ?_
    refine a_iload_n dX3_judgeNumber_38 rfl ?_
    refine a_callV (mc1 := 0) (ms1 := 0) (As := [_, _, _]) kpX1_isAlike kmX3_81 (by decide) rfl (Nat.le_of_ble_eq_true rfl) rfl (by decide) rfl (by decide) (hlt hN (by decide)) (Nat.le_of_ble_eq_true rfl) (Nat.le_of_ble_eq_true rfl) (Nat.le_of_ble_eq_true rfl) dX3_judgeNumber_39 (w_X1_isAlike FgR52 (show k < 6 by omega) hc FgR47 hN hs ?_)
    refine a_if_eq (tgt := 47) dX3_judgeNumber_42 (by decide) (fun c_42 => ?_) (fun c_42 => ?_)
    · refine a_iinc dX3_judgeNumber_47 rfl rfl (by decide) ?_
      refine a_goto (tgt := 12) dX3_judgeNumber_50 (by decide) ?_
      rw [show nI k + Int32.ofInt 1 = nI (k + 1) from nI_1 k]
      refine AW.sub (L' := [(0, .ref 62), (1, .ref q), (2, .int (nI c)), (3, .int (nI (k + 1)))]) rfl ?_
      exact ih (k + 1) (by omega) (fun w hw => by rcases Nat.lt_or_ge w k with z | z; exact hinv w z; rw [show w = k by omega]; exact bI_z.mp c_42)
    · refine a_iconst (v := 2) dX3_judgeNumber_45 (by decide) ?_
      refine a_iret dX3_judgeNumber_46 rfl (ret_i (if_pos (fun z => z k hkn (bI_nz.mp c_42))) h)
def jnF (M : Mem) (q c n : Nat) : Int32 := if rI M (q + 2) c = 0 then 0 else if alo M 52 c n then 2 else 5
theorem w_X3_judgeNumber {M : Mem} {N : Nat} {Q : Option Value → Nat → Mem → Prop} {q c : Nat} (hq : ShR q) (hc : c < 64) {n : Nat} (hn : rI M 5 4 = nI n) (hn6 : n ≤ 6)  (hN : 94 ≤ N) (hs : Str M.2.2.1) (h : Q (some (.int (jnF M q c n))) N (M)) : AW mX3_judgeNumber 2 0 0 N 0 [(0, .ref 62), (1, .ref q), (2, .int (nI c))] [] M Q := by
  refine a_aload_n dX3_judgeNumber_0 rfl ?_
  refine a_iload_n dX3_judgeNumber_1 rfl ?_
  refine a_callV (mc1 := 0) (ms1 := 0) (As := [_]) kpX7_heldAt kmX3_71 (by decide) rfl (Nat.le_of_ble_eq_true rfl) (sh_k hq) (by decide) rfl (sh_two hq) (sh_lt hq hN) (Nat.le_of_ble_eq_true rfl) (Nat.le_of_ble_eq_true rfl) (Nat.le_of_ble_eq_true rfl) dX3_judgeNumber_2 (w_X7_heldAt hq hc hN hs ?_)
  refine a_if_ne (tgt := 10) dX3_judgeNumber_5 (by decide) (fun c_5 => ?_) (fun c_5 => ?_)
  · refine a_iconst (v := 0) dX3_judgeNumber_10 (by decide) ?_
    refine a_istore_n dX3_judgeNumber_11 (by decide) ?_
    have h2 : Q (some (.int (if alo M 52 c n then 2 else 5))) N M := ret_i (if_neg c_5) h
    refine AW.sub (L' := [(0, .ref 62), (1, .ref q), (2, .int (nI c)), (3, .int (nI 0))]) rfl ?_
    exact l_X3_judgeNumber hq hc hn hn6 hN hs h2 n 0 (by omega) (fun w hw => absurd hw (Nat.not_lt_zero _))
  · refine a_iconst (v := 0) dX3_judgeNumber_8 (by decide) ?_
    refine a_iret dX3_judgeNumber_9 rfl (ret_i (if_pos c_5) h)

theorem w_X3_slipPlace {M : Mem} {N : Nat} {Q : Option Value → Nat → Mem → Prop}  (hN : 94 ≤ N) (hs : Str M.2.2.1) (h : Q (some (.int (rI M 62 6))) N (M)) : AW mX3_slipPlace 0 0 0 N 0 [(0, .ref 62)] [] M Q := by
  refine a_aload_n dX3_slipPlace_0 rfl ?_
  refine a_getI kfX3_36 rfl rfl (by decide) (hlt hN (by decide)) dX3_slipPlace_1 ?_
  refine a_iret dX3_slipPlace_4 rfl h

theorem w_X3_slipMade {M : Mem} {N : Nat} {Q : Option Value → Nat → Mem → Prop}  (hN : 94 ≤ N) (hs : Str M.2.2.1) (h : Q (some (.int (rI M 62 7))) N (M)) : AW mX3_slipMade 0 0 0 N 0 [(0, .ref 62)] [] M Q := by
  refine a_aload_n dX3_slipMade_0 rfl ?_
  refine a_getI kfX3_40 rfl rfl (by decide) (hlt hN (by decide)) dX3_slipMade_1 ?_
  refine a_iret dX3_slipMade_4 rfl h

/-- the judge's change set -/
def chM (M : Mem) (p x : Int32) : Mem := sI (sI M 63 0 p) 63 1 x
/-- what the changed formula f comes to in the world w -/
def soV (M : Mem) (f w : Nat) : Int64 × Int32 := if (nsF (csF M 63 f) (zF M f)).1 &&& (rJ M 57 7 ^^^ (-1)) = 0 then evM M 63 f 57 w else (0, 1)
abbrev soP (M : Mem) (f c n : Nat) : Prop := ∀ w, w < n → (soV M f w).2 = rI M (47 + 3) (w * 64 + c) ∧ (soV M f w).1 = rJ M (47 + 2) (w * 64 + c)
theorem soV_se {M M' : Mem} {f w : Nat} (hf : 94 ≤ f) (h : Se M M') : soV M' f w = soV M f w := by
  obtain ⟨e1, e2, e3, -⟩ := ev_cong (M := M) (M' := M') (q := 63) (f := f) (g := 57) (v := w) (fun j => h.1 _ _ (by decide)) (fun a j ha => h.1 _ _ (by omega)) hf
  unfold soV evM
  rw [e1, e2, e3, h.2.1 57 7 (by decide) (by decide)]
  have ef : fgF M' 57 w = fgF M 57 w := by
    unfold fgF
    congr 1
    · funext j; exact h.2.1 _ _ (by decide) (by decide)
    · funext j; exact h.1 _ _ (by decide)
  rw [ef]
theorem soV_0 {M : Mem} {f w : Nat} (h : ¬ (nsF (csF M 63 f) (zF M f)).1 &&& (rJ M 57 7 ^^^ (-1)) = 0) : soV M f w = (0, 1) := if_neg h
theorem soV_1 {M : Mem} {f w : Nat} (h : (nsF (csF M 63 f) (zF M f)).1 &&& (rJ M 57 7 ^^^ (-1)) = 0) : soV M f w = evM M 63 f 57 w := if_pos h
theorem FOK.se {M M' : Mem} {N q f : Nat} (hq : q ≠ 45) (e : Se M M') (h : FOK M N q f) : FOK M' N q f := by
  obtain ⟨hf, n, h1, ⟨h2, h3, h4⟩, h5⟩ := h
  have h94 := fo_94 hf
  have e2 : ∀ a j, 94 ≤ a → rI M' a j = rI M a j := fun a j ha => e.1 _ _ (by omega)
  have ep : plF M' f = plF M f := by funext i; unfold plF; rw [e2 _ _ (by omega)]
  have ez : zF M' f = zF M f := by unfold zF; rw [e2 _ _ h94]
  have eS : ∀ p, chS M' q f p = chS M q f p := fun p => by unfold chS; rw [e.1 _ _ hq, e.1 _ _ hq, e2 _ _ (by omega)]
  have eO : ∀ p, chO M' q f p = chO M q f p := fun p => by unfold chO; rw [e.1 _ _ hq, e.1 _ _ hq, e2 _ _ (by omega)]
  refine ⟨hf, n, by rw [e.2.2]; exact h1, ?_, ?_⟩
  · rw [ep, ez]
    exact ⟨(e2 _ _ h94).trans h2, h3, fun i hi => ⟨(h4 i hi).1, (e2 _ _ (by omega)).trans (h4 i hi).2⟩⟩
  · rw [ep, ez]
    intro i hi
    simp only [eS, eO]
    exact h5 i hi
theorem ch63 : ChR 63 := ⟨rfl, by decide, by decide⟩
theorem l_X3_isSoChanged {M : Mem} {N : Nat} {Q : Option Value → Nat → Mem → Prop} {f c : Nat} (hF : FOK M N 63 f) (hc : c < 64) {p x b : Int32} (hb : b = bI ((nsF (csF M 63 f) (zF M f)).1 &&& (rJ M 57 7 ^^^ (-1)) = 0)) {n : Nat} (hn : rI M 5 4 = nI n) (hn6 : n ≤ 6) (hN : 94 ≤ N) (hs : Str M.2.2.1) (h : ∀ M', Se M M' → Q (some (.int (bI (soP M f c n)))) N M') : ∀ (r k : Nat) (Mk : Mem), k + r = n → Se M Mk → (∀ w, w < k → (soV M f w).2 = rI M (47 + 3) (w * 64 + c) ∧ (soV M f w).1 = rJ M (47 + 2) (w * 64 + c)) → AW mX3_isSoChanged 4 0 0 N 29 [(0, .ref 62), (1, .ref f), (2, .int p), (3, .int x), (4, .int (nI c)), (5, .int b), (6, .int (nI k))] [] Mk Q := by
  intro r
  induction r with
  | zero =>
    intro k Mk hk se hinv
    have hf := hF.1
    have h94 := fo_94 hf
    have hnk : rI Mk 5 4 = nI n := (se.1 5 4 (by decide)).trans hn
    have hsk : Str Mk.2.2.1 := by rw [se.2.2]; exact hs
    have hs := hsk
    rcases Nat.lt_or_ge k 6 with hk6 | hk6
    · refine a_iload dX3_isSoChanged_29 rfl ?_
      refine a_bipush (v := 6) dX3_isSoChanged_31 (by decide) ?_
      refine a_icmp_ge (tgt := 136) dX3_isSoChanged_33 (by decide) (fun c_33 => absurd c_33 (nI_ge (b := 6) hk6 (by decide))) (fun c_33 => ?_)
      refine a_aload_n dX3_isSoChanged_36 rfl ?_
      refine a_getA (z := 5) kfX3_9 rfl rfl (st_62_0 hs) (by decide) (hlt hN (by decide)) dX3_isSoChanged_37 ?_
      refine a_iload dX3_isSoChanged_40 rfl ?_
      refine a_callV (mc1 := 0) (ms1 := 0) (As := [_]) kpX4_isWorld kmX3_75 (by decide) rfl (Nat.le_of_ble_eq_true rfl) rfl (by decide) rfl (by decide) (hlt hN (by decide)) (Nat.le_of_ble_eq_true rfl) (Nat.le_of_ble_eq_true rfl) (Nat.le_of_ble_eq_true rfl) dX3_isSoChanged_42 (w_X4_isWorld hN hsk ?_)
      refine a_if_eq (tgt := 136) dX3_isSoChanged_45 (by decide) (fun c_45 => ?_) (fun c_45 => absurd (isw_f hnk hn6 hk6 (by omega)) c_45)
      refine a_iconst (v := 1) dX3_isSoChanged_136 (by decide) ?_
      refine a_zret dX3_isSoChanged_137 rfl (by decide) (ret_t (fun w hw => hinv w (by omega)) (h _ se))
    · refine a_iload dX3_isSoChanged_29 rfl ?_
      refine a_bipush (v := 6) dX3_isSoChanged_31 (by decide) ?_
      refine a_icmp_ge (tgt := 136) dX3_isSoChanged_33 (by decide) (fun c_33 => ?_) (fun c_33 => absurd (nI_le (a := 6) (by omega) (by omega)) c_33)
      refine a_iconst (v := 1) dX3_isSoChanged_136 (by decide) ?_
      refine a_zret dX3_isSoChanged_137 rfl (by decide) (ret_t (fun w hw => hinv w (by omega)) (h _ se))
  | succ r ih =>
    intro k Mk hk se hinv
    have hf := hF.1
    have h94 := fo_94 hf
    have hnk : rI Mk 5 4 = nI n := (se.1 5 4 (by decide)).trans hn
    have hsk : Str Mk.2.2.1 := by rw [se.2.2]; exact hs
    have hs := hsk
    have hkn : k < n := by omega
    have hk6 : k < 6 := by omega
    refine a_iload dX3_isSoChanged_29 rfl ?_
    refine a_bipush (v := 6) dX3_isSoChanged_31 (by decide) ?_
    refine a_icmp_ge (tgt := 136) dX3_isSoChanged_33 (by decide) (fun c_33 => absurd c_33 (nI_ge (b := 6) (by omega) (by decide))) (fun c_33 => ?_)
    refine a_aload_n dX3_isSoChanged_36 rfl ?_
    refine a_getA (z := 5) kfX3_9 rfl rfl (st_62_0 hs) (by decide) (hlt hN (by decide)) dX3_isSoChanged_37 ?_
    refine a_iload dX3_isSoChanged_40 rfl ?_
    refine a_callV (mc1 := 0) (ms1 := 0) (As := [_]) kpX4_isWorld kmX3_75 (by decide) rfl (Nat.le_of_ble_eq_true rfl) rfl (by decide) rfl (by decide) (hlt hN (by decide)) (Nat.le_of_ble_eq_true rfl) (Nat.le_of_ble_eq_true rfl) (Nat.le_of_ble_eq_true rfl) dX3_isSoChanged_42 (w_X4_isWorld hN hsk ?_)
    refine a_if_eq (tgt := 136) dX3_isSoChanged_45 (by decide) (fun c_45 => absurd c_45 (isw_t hnk hn6 hkn)) (fun c_45 => ?_)
    refine a_iconst (v := 1) dX3_isSoChanged_48 (by decide) ?_
    refine a_istore dX3_isSoChanged_49 (by decide) ?_
    refine a_lconst (v := 0) dX3_isSoChanged_51 (by decide) ?_
    refine a_lstore dX3_isSoChanged_52 (by decide) ?_
    refine a_iload dX3_isSoChanged_54 rfl ?_
    refine a_if_eq (tgt := 95) dX3_isSoChanged_56 (by decide) (fun c_56 => ?_) (fun c_56 => ?_)
    · have hst : ¬ (nsF (csF M 63 f) (zF M f)).1 &&& (rJ M 57 7 ^^^ (-1)) = 0 := bI_z.mp (by rw [← hb]; exact c_56)
      have ev : soV M f k = (0, 1) := soV_0 hst
      have E : (1 : Int32) = (1 : Int32) := rfl
      have J : (0 : Int64) = 0 := rfl
      have hs2 := hsk
      have eE : rI Mk (47 + 3) (k * 64 + c) = rI M (47 + 3) (k * 64 + c) := se.1 _ _ (by decide)
      have eJ : rJ Mk (47 + 2) (k * 64 + c) = rJ M (47 + 2) (k * 64 + c) := se.2.1 _ _ (by decide) (by decide)
      refine a_iload dX3_isSoChanged_95 rfl ?_
      refine a_aload_n dX3_isSoChanged_97 rfl ?_
      refine a_getA (z := 47) kfX3_19 rfl rfl (st_62_3 hs) (by decide) (hlt hN (by decide)) dX3_isSoChanged_98 ?_
      refine a_iload dX3_isSoChanged_101 rfl ?_
      refine a_iload dX3_isSoChanged_103 rfl ?_
      refine a_callV (mc1 := 0) (ms1 := 0) (As := [_, _]) kpX1_errorAt kmX3_126 (by decide) rfl (Nat.le_of_ble_eq_true rfl) rfl (by decide) rfl (by decide) (hlt hN (by decide)) (Nat.le_of_ble_eq_true rfl) (Nat.le_of_ble_eq_true rfl) (Nat.le_of_ble_eq_true rfl) dX3_isSoChanged_105 (w_X1_errorAt FgR47 hk6 hc hN hs2 ?_)
      refine a_icmp_ne (tgt := 128) dX3_isSoChanged_108 (by decide) (fun c_108 => ?_) (fun c_108 => ?_)
      · refine a_iconst (v := 0) dX3_isSoChanged_128 (by decide) ?_
        refine a_zret dX3_isSoChanged_129 rfl (by decide) (ret_f (fun z => c_108 (by have := (z k hkn).1; rw [ev] at this; rw [E]; exact this.trans eE.symm)) (h _ (by first | exact se2 | exact se)))
      · refine a_lload dX3_isSoChanged_111 rfl ?_
        refine a_aload_n dX3_isSoChanged_113 rfl ?_
        refine a_getA (z := 47) kfX3_19 rfl rfl (st_62_3 hs) (by decide) (hlt hN (by decide)) dX3_isSoChanged_114 ?_
        refine a_iload dX3_isSoChanged_117 rfl ?_
        refine a_iload dX3_isSoChanged_119 rfl ?_
        refine a_callV (mc1 := 0) (ms1 := 0) (As := [_, _]) kpX1_figureAt kmX3_130 (by decide) rfl (Nat.le_of_ble_eq_true rfl) rfl (by decide) rfl (by decide) (hlt hN (by decide)) (Nat.le_of_ble_eq_true rfl) (Nat.le_of_ble_eq_true rfl) (Nat.le_of_ble_eq_true rfl) dX3_isSoChanged_121 (w_X1_figureAt FgR47 hk6 hc hN hs2 ?_)
        refine a_lcmp dX3_isSoChanged_124 ?_
        refine a_if_eq (tgt := 130) dX3_isSoChanged_125 (by decide) (fun c_125 => ?_) (fun c_125 => ?_)
        · refine a_iinc dX3_isSoChanged_130 rfl rfl (by decide) ?_
          refine a_goto (tgt := 29) dX3_isSoChanged_133 (by decide) ?_
          rw [show nI k + Int32.ofInt 1 = nI (k + 1) from nI_1 k]
          refine AW.sub (L' := [(0, .ref 62), (1, .ref f), (2, .int p), (3, .int x), (4, .int (nI c)), (5, .int b), (6, .int (nI (k + 1)))]) rfl ?_
          refine ih (k + 1) _ (by omega) (by first | exact se2 | exact se) (fun w hw => ?_)
          rcases Nat.lt_or_ge w k with z | z
          exact hinv w z
          rw [show w = k by omega, ev]
          exact ⟨E.symm.trans c_108 |>.trans eE, J.symm.trans ((lg_cmp_eq _ _).mp c_125) |>.trans eJ⟩
        · refine a_iconst (v := 0) dX3_isSoChanged_128 (by decide) ?_
          refine a_zret dX3_isSoChanged_129 rfl (by decide) (ret_f (fun z => c_125 ((lg_cmp_eq _ _).mpr (by have := (z k hkn).2; rw [ev] at this; rw [J]; exact this.trans eJ.symm))) (h _ (by first | exact se2 | exact se)))
    · have hst : (nsF (csF M 63 f) (zF M f)).1 &&& (rJ M 57 7 ^^^ (-1)) = 0 := bI_nz.mp (by rw [← hb]; exact c_56)
      have ev : soV M f k = evM M 63 f 57 k := soV_1 hst
      have hFk := hF.se (by decide) se
      have evk : evM Mk 63 f 57 k = evM M 63 f 57 k := by
        obtain ⟨e1, e2, e3, -⟩ := ev_cong (M := M) (M' := Mk) (q := 63) (f := f) (g := 57) (v := k) (fun j => se.1 _ _ (by decide)) (fun a j ha => se.1 _ _ (by omega)) h94
        have ef : fgF Mk 57 k = fgF M 57 k := by
          unfold fgF
          congr 1
          · funext j; exact se.2.1 _ _ (by decide) (by decide)
          · funext j; exact se.1 _ _ (by decide)
        unfold evM
        rw [e1, e3, ef]
      refine a_aload_n dX3_isSoChanged_59 rfl ?_
      refine a_getA (z := 45) kfX3_15 rfl rfl (st_62_1 hs) (by decide) (hlt hN (by decide)) dX3_isSoChanged_60 ?_
      refine a_aload_n dX3_isSoChanged_63 rfl ?_
      refine a_aload_n dX3_isSoChanged_64 rfl ?_
      refine a_getA (z := 63) kfX3_32 rfl rfl (st_62_2 hs) (by decide) (hlt hN (by decide)) dX3_isSoChanged_65 ?_
      refine a_aload_n dX3_isSoChanged_68 rfl ?_
      refine a_getA (z := 57) kfX3_26 rfl rfl (st_62_5 hs) (by decide) (hlt hN (by decide)) dX3_isSoChanged_69 ?_
      refine a_iload dX3_isSoChanged_72 rfl ?_
      refine a_callV (mc1 := 0) (ms1 := 0) (As := [_, _, _, _]) kpX5_reckon kmX3_113 (by decide) rfl (Nat.le_of_ble_eq_true rfl) rfl (by decide) rfl (by decide) (hlt hN (by decide)) (Nat.le_of_ble_eq_true rfl) (Nat.le_of_ble_eq_true rfl) (Nat.le_of_ble_eq_true rfl) dX3_isSoChanged_74 (w_X5_reckonV hFk ch63 FgR57 hk6 hN hsk ?_)
      intro M2 sk E J
      rw [evk] at E J
      have se2 := se.tr sk
      have hs2 : Str M2.2.2.1 := by rw [sk.2.2]; exact hsk
      have hs := hs2
      have eE : rI M2 (47 + 3) (k * 64 + c) = rI M (47 + 3) (k * 64 + c) := se2.1 _ _ (by decide)
      have eJ : rJ M2 (47 + 2) (k * 64 + c) = rJ M (47 + 2) (k * 64 + c) := se2.2.1 _ _ (by decide) (by decide)
      refine a_aload_n dX3_isSoChanged_77 rfl ?_
      refine a_getA (z := 45) kfX3_15 rfl rfl (st_62_1 hs) (by decide) (hlt hN (by decide)) dX3_isSoChanged_78 ?_
      refine a_callV (mc1 := 0) (ms1 := 0) (As := []) kpX5_errorMet kmX3_119 (by decide) rfl (Nat.le_of_ble_eq_true rfl) rfl (by decide) rfl (by decide) (hlt hN (by decide)) (Nat.le_of_ble_eq_true rfl) (Nat.le_of_ble_eq_true rfl) (Nat.le_of_ble_eq_true rfl) dX3_isSoChanged_81 (w_X5_errorMet hN hs2 ?_)
      refine a_istore dX3_isSoChanged_84 (by decide) ?_
      refine a_aload_n dX3_isSoChanged_86 rfl ?_
      refine a_getA (z := 45) kfX3_15 rfl rfl (st_62_1 hs) (by decide) (hlt hN (by decide)) dX3_isSoChanged_87 ?_
      refine a_callV (mc1 := 0) (ms1 := 0) (As := []) kpX5_result kmX3_122 (by decide) rfl (Nat.le_of_ble_eq_true rfl) rfl (by decide) rfl (by decide) (hlt hN (by decide)) (Nat.le_of_ble_eq_true rfl) (Nat.le_of_ble_eq_true rfl) (Nat.le_of_ble_eq_true rfl) dX3_isSoChanged_90 (w_X5_result hN hs2 ?_)
      refine a_lstore dX3_isSoChanged_93 (by decide) ?_
      refine a_iload dX3_isSoChanged_95 rfl ?_
      refine a_aload_n dX3_isSoChanged_97 rfl ?_
      refine a_getA (z := 47) kfX3_19 rfl rfl (st_62_3 hs) (by decide) (hlt hN (by decide)) dX3_isSoChanged_98 ?_
      refine a_iload dX3_isSoChanged_101 rfl ?_
      refine a_iload dX3_isSoChanged_103 rfl ?_
      refine a_callV (mc1 := 0) (ms1 := 0) (As := [_, _]) kpX1_errorAt kmX3_126 (by decide) rfl (Nat.le_of_ble_eq_true rfl) rfl (by decide) rfl (by decide) (hlt hN (by decide)) (Nat.le_of_ble_eq_true rfl) (Nat.le_of_ble_eq_true rfl) (Nat.le_of_ble_eq_true rfl) dX3_isSoChanged_105 (w_X1_errorAt FgR47 hk6 hc hN hs2 ?_)
      refine a_icmp_ne (tgt := 128) dX3_isSoChanged_108 (by decide) (fun c_108 => ?_) (fun c_108 => ?_)
      · refine a_iconst (v := 0) dX3_isSoChanged_128 (by decide) ?_
        refine a_zret dX3_isSoChanged_129 rfl (by decide) (ret_f (fun z => c_108 (by have := (z k hkn).1; rw [ev] at this; rw [E]; exact this.trans eE.symm)) (h _ (by first | exact se2 | exact se)))
      · refine a_lload dX3_isSoChanged_111 rfl ?_
        refine a_aload_n dX3_isSoChanged_113 rfl ?_
        refine a_getA (z := 47) kfX3_19 rfl rfl (st_62_3 hs) (by decide) (hlt hN (by decide)) dX3_isSoChanged_114 ?_
        refine a_iload dX3_isSoChanged_117 rfl ?_
        refine a_iload dX3_isSoChanged_119 rfl ?_
        refine a_callV (mc1 := 0) (ms1 := 0) (As := [_, _]) kpX1_figureAt kmX3_130 (by decide) rfl (Nat.le_of_ble_eq_true rfl) rfl (by decide) rfl (by decide) (hlt hN (by decide)) (Nat.le_of_ble_eq_true rfl) (Nat.le_of_ble_eq_true rfl) (Nat.le_of_ble_eq_true rfl) dX3_isSoChanged_121 (w_X1_figureAt FgR47 hk6 hc hN hs2 ?_)
        refine a_lcmp dX3_isSoChanged_124 ?_
        refine a_if_eq (tgt := 130) dX3_isSoChanged_125 (by decide) (fun c_125 => ?_) (fun c_125 => ?_)
        · refine a_iinc dX3_isSoChanged_130 rfl rfl (by decide) ?_
          refine a_goto (tgt := 29) dX3_isSoChanged_133 (by decide) ?_
          rw [show nI k + Int32.ofInt 1 = nI (k + 1) from nI_1 k]
          refine AW.sub (L' := [(0, .ref 62), (1, .ref f), (2, .int p), (3, .int x), (4, .int (nI c)), (5, .int b), (6, .int (nI (k + 1)))]) rfl ?_
          refine ih (k + 1) _ (by omega) (by first | exact se2 | exact se) (fun w hw => ?_)
          rcases Nat.lt_or_ge w k with z | z
          exact hinv w z
          rw [show w = k by omega, ev]
          exact ⟨E.symm.trans c_108 |>.trans eE, J.symm.trans ((lg_cmp_eq _ _).mp c_125) |>.trans eJ⟩
        · refine a_iconst (v := 0) dX3_isSoChanged_128 (by decide) ?_
          refine a_zret dX3_isSoChanged_129 rfl (by decide) (ret_f (fun z => c_125 ((lg_cmp_eq _ _).mpr (by have := (z k hkn).2; rw [ev] at this; rw [J]; exact this.trans eJ.symm))) (h _ (by first | exact se2 | exact se)))
theorem w_X3_isSoChanged {M : Mem} {N : Nat} {Q : Option Value → Nat → Mem → Prop} {f c p : Nat} {x : Int32} (hp : FRW M N f) (hck : ChK (chM M (nI p) x) 63 f) (hc : c < 64) {n : Nat} (hn : rI M 5 4 = nI n) (hn6 : n ≤ 6)  (hN : 94 ≤ N) (hs : Str M.2.2.1) (h : ∀ M', Se (chM M (nI p) x) M' → Q (some (.int (bI (soP (chM M (nI p) x) f c n)))) N M') : AW mX3_isSoChanged 4 0 0 N 0 [(0, .ref 62), (1, .ref f), (2, .int (nI p)), (3, .int x), (4, .int (nI c))] [] M Q := by
  have hf := hp.1
  have h94 := fo_94 hf
  have hp2 : FRW (chM M (nI p) x) N f := FRW.eq (M := M) (fun a j ha => by unfold chM; rw [rI_sI, if_neg (by omega), rI_sI, if_neg (by omega)]) rfl hp
  refine a_aload_n dX3_isSoChanged_0 rfl ?_
  refine a_getA (z := 63) kfX3_32 rfl rfl (st_62_2 hs) (by decide) (hlt hN (by decide)) dX3_isSoChanged_1 ?_
  refine a_iload_n dX3_isSoChanged_4 rfl ?_
  refine a_iload_n dX3_isSoChanged_5 rfl ?_
  refine a_callV (mc1 := 0) (ms1 := 0) (As := [_, _]) kpX0_set kmX3_101 (by decide) rfl (Nat.le_of_ble_eq_true rfl) rfl (by decide) rfl (by decide) (hlt hN (by decide)) (Nat.le_of_ble_eq_true rfl) (Nat.le_of_ble_eq_true rfl) (Nat.le_of_ble_eq_true rfl) dX3_isSoChanged_6 (w_X0_set hN ch63 ?_)
  refine a_aload_n dX3_isSoChanged_9 rfl ?_
  refine a_getA (z := 57) kfX3_26 rfl rfl (st_62_5 hs) (by decide) (hlt hN (by decide)) dX3_isSoChanged_10 ?_
  refine a_aload_n dX3_isSoChanged_13 rfl ?_
  refine a_aload_n dX3_isSoChanged_14 rfl ?_
  refine a_getA (z := 63) kfX3_32 rfl rfl (st_62_2 hs) (by decide) (hlt hN (by decide)) dX3_isSoChanged_15 ?_
  refine a_callV (mc1 := 0) (ms1 := 0) (As := [_]) kpX2_needs kmX3_105 (by decide) rfl (Nat.le_of_ble_eq_true rfl) (fo_k hf) (by decide) rfl (fo_two hf) (fo_lt hf) (Nat.le_of_ble_eq_true rfl) (Nat.le_of_ble_eq_true rfl) (Nat.le_of_ble_eq_true rfl) dX3_isSoChanged_18 (w_X2_needsW (M := (chM M (nI p) x)) hp2 hck ch63 hN ?_)
  refine a_callV (mc1 := 0) (ms1 := 0) (As := [_]) kpX1_settles kmX3_109 (by decide) rfl (Nat.le_of_ble_eq_true rfl) rfl (by decide) rfl (by decide) (hlt hN (by decide)) (Nat.le_of_ble_eq_true rfl) (Nat.le_of_ble_eq_true rfl) (Nat.le_of_ble_eq_true rfl) dX3_isSoChanged_21 (w_X1_settles (M := (chM M (nI p) x)) FgR57 hN (by exact hs) ?_)
  refine a_istore dX3_isSoChanged_24 (by decide) ?_
  refine a_iconst (v := 0) dX3_isSoChanged_26 (by decide) ?_
  refine a_istore dX3_isSoChanged_27 (by decide) ?_
  refine AW.sub (L' := [(0, .ref 62), (1, .ref f), (2, .int (nI p)), (3, .int x), (4, .int (nI c)), (5, .int (bI ((nsF (csF (chM M (nI p) x) 63 f) (zF (chM M (nI p) x) f)).1 &&& (rJ (chM M (nI p) x) 57 7 ^^^ (-1)) = 0))), (6, .int (nI 0))]) rfl ?_
  exact l_X3_isSoChanged (M := (chM M (nI p) x)) (hp2.ok hck) hc rfl (by unfold chM; rw [rI_sI, if_neg (by decide), rI_sI, if_neg (by decide)]; exact hn) hn6 hN (by exact hs) h n 0 _ (by omega) Se.rf (fun w hw => absurd hw (Nat.not_lt_zero _))

