/-- the formula f has z steps, at the places pl -/
def FoS (M : Mem) (f n z : Nat) (pl : Nat → Nat) : Prop := rI M f 4 = nI z ∧ z ≤ n ∧ ∀ i, i < z → pl i < n ∧ rI M (f + 4) i = nI (pl i)
theorem ch_n {q : Nat} (h : ChR q) : q ≠ 45 := by rintro rfl; exact absurd h.1 (by decide)
theorem chS_wm {M : Mem} {q f p : Nat} {s : MS} (hq : ChR q) (hf : 94 ≤ f) : chS (wm M s) q f p = chS M q f p := by
  unfold chS
  rw [wm_rI (ch_n hq), wm_rI (ch_n hq), wm_rI (by omega)]
theorem chO_wm {M : Mem} {q f p : Nat} {s : MS} (hq : ChR q) (hf : 94 ≤ f) : chO (wm M s) q f p = chO M q f p := by
  unfold chO
  rw [wm_rI (ch_n hq), wm_rI (ch_n hq), wm_rI (by omega)]
/-- the step at place p is one that can be done -/
def stOK (M : Mem) (q f p : Nat) (s : MS) : Prop := chS M q f p = 1 ∨ chS M q f p = 3 ∨ (chS M q f p = 2 ∧ ∃ c, c < 64 ∧ chO M q f p = nI c) ∨ chS M q f p = 4 ∨ (chS M q f p = 5 ∧ ∃ a b, a < 64 ∧ b < 64 ∧ (popV s).toInt32 = nI b ∧ (popV (popS s)).toInt32 = nI a) ∨ chS M q f p = 43 ∨ chS M q f p = 45 ∨ chS M q f p = 42 ∨ chS M q f p = 47 ∨ chS M q f p = 6
def rkA (M : Mem) (q f g v p : Nat) (s : MS) : MS := if chS M q f p = 1 ∨ chS M q f p = 3 then pushS s (chO M q f p).toInt64 else if chS M q f p = 2 then pcS M g (v * 64 + (chO M q f p).toNatClampNeg) s else if chS M q f p = 4 then pushS (popS s) (-(popV s)) else if chS M q f p = 5 then prF M g v (rcL (popV (popS s)).toInt32.toNatClampNeg (popV s).toInt32.toNatClampNeg) 64 (pushS (popS (popS s)) 0) else joinS s (chS M q f p)
def rkF (M : Mem) (q f g v : Nat) (pl : Nat → Nat) : Nat → MS → MS
  | 0, s => s
  | i + 1, s => if (rkF M q f g v pl i s).2.2 = 0 then rkA M q f g v (pl i) (rkF M q f g v pl i s) else rkF M q f g v pl i s
theorem rkA_h {M : Mem} {q f g v p : Nat} {s : MS} (h : s.2.1 ≤ 40) : (rkA M q f g v p s).2.1 ≤ 40 := by
  unfold rkA
  split
  · exact pushS_h h
  · split
    · exact pcS_h h
    · split
      · exact pushS_h (popS_h h)
      · split
        · exact prF_h (pushS_h (popS_h (popS_h h))) 64
        · exact joinS_h h
theorem rkF_h {M : Mem} {q f g v : Nat} {pl : Nat → Nat} {s : MS} (h : s.2.1 ≤ 40) : ∀ i, (rkF M q f g v pl i s).2.1 ≤ 40
  | 0 => h
  | i + 1 => by
    unfold rkF
    split
    · exact rkA_h (rkF_h h i)
    · exact rkF_h h i
theorem rkF_stop {M : Mem} {q f g v : Nat} {pl : Nat → Nat} {s : MS} {k : Nat} (h : ¬ (rkF M q f g v pl k s).2.2 = 0) : ∀ r, rkF M q f g v pl (k + r) s = rkF M q f g v pl k s
  | 0 => rfl
  | r + 1 => by
    show (if (rkF M q f g v pl (k + r) s).2.2 = 0 then _ else rkF M q f g v pl (k + r) s) = _
    rw [rkF_stop h r, if_neg h]
/-- the machine, and what came out, behind all steps -/
def rkE (M : Mem) (s : MS) : Mem := if s.2.2 = 0 then sJ (wm M (popS s)) 45 3 (popV s) else sJ (wm M s) 45 3 0
theorem wm_0 {M : Mem} : sI (sI M 45 1 0) 45 2 0 = wm M (rJ M 46, 0, 0) := by
  unfold sI wm up2
  refine Prod.ext ?_ (Prod.ext ?_ rfl)
  · funext a j
    by_cases ha : a = 45
    · subst ha; by_cases hj : j = 1
      · subst hj; simp [nI_0]
      · by_cases hj2 : j = 2 <;> simp [hj, hj2]
    · simp [ha]
  · funext a j
    by_cases ha : a = 46
    · subst ha; simp [rJ]
    · simp [ha]
theorem l_X5_reckon {M : Mem} {N : Nat} {Q : Option Value → Nat → Mem → Prop} {s : MS} (hh : s.2.1 ≤ 40) {q f n z : Nat} {pl : Nat → Nat} (hq : ChR q) (hf : FoR f N) (hm : FoF M.2.2 f n) (hz : FoS M f n z pl) {g v : Nat} (hg : FgR g) (hv : v < 6) (hall : ∀ i, i < z → (rkF M q f g v pl i s).2.2 = 0 → stOK M q f (pl i) (rkF M q f g v pl i s)) (hN : 94 ≤ N) (hs : Str M.2.2.1) (h : Q none N (rkE M (rkF M q f g v pl z s))) : ∀ (r k : Nat), k + r = z → AW mX5_reckon 3 0 0 N 13 [(0, .ref 45), (1, .ref f), (2, .ref q), (3, .ref g), (4, .int (nI v)), (5, .int (nI k))] [] (wm M (rkF M q f g v pl k s)) Q := by
  intro r
  induction r with
  | zero =>
    intro k hk
    have hf94 := fo_94 hf
    have hsz : rI (wm M (rkF M q f g v pl k s)) f 4 = nI z := by rw [wm_rI (by omega)]; exact hz.1
    have hn40 := fo_40 hm
    have hzn := hz.2.1
    obtain rfl : k = z := by omega
    refine a_iload dX5_reckon_13 rfl ?_
    refine a_aload_n dX5_reckon_15 rfl ?_
    refine a_callV (mc1 := 0) (ms1 := 0) (As := []) kpX2_countSteps kmX5_26 (by decide) rfl (Nat.le_of_ble_eq_true rfl) (fo_k hf) (by decide) rfl (fo_two hf) (fo_lt hf) (Nat.le_of_ble_eq_true rfl) (Nat.le_of_ble_eq_true rfl) (Nat.le_of_ble_eq_true rfl) dX5_reckon_16 (w_X2_countSteps hf (by exact hm) ?_)
    refine a_icmp_ge (tgt := 148) dX5_reckon_19 (by decide) (fun c_19 => ?_) (fun c_19 => absurd (by rw [hsz]; exact nI_le (by omega) (by omega)) c_19)
    skip
    refine a_aload_n dX5_reckon_148 rfl ?_
    refine a_aload_n dX5_reckon_149 rfl ?_
    refine a_getI kfX5_15 rfl rfl (by decide) (hlt hN (by decide)) dX5_reckon_150 ?_
    refine a_if_ne (tgt := 163) dX5_reckon_153 (by decide) (fun c_153 => ?_) (fun c_153 => ?_)
    · refine a_lconst (v := 0) dX5_reckon_163 (by decide) ?_
      refine a_putJ kfX5_19 rfl rfl rfl (by decide) (hlt hN (by decide)) dX5_reckon_164 ?_
      refine a_vret dX5_reckon_167 rfl (by unfold rkE at h; first | (rw [if_pos (by rw [wm_re] at c_153; exact c_153)] at h; exact h) | (rw [if_neg (by rw [wm_re] at c_153; exact c_153)] at h; exact h))
    · refine a_aload_n dX5_reckon_156 rfl ?_
      refine a_callV (mc1 := 0) (ms1 := 0) (As := []) kpX5_pop kmX5_53 (by decide) rfl (Nat.le_of_ble_eq_true rfl) rfl (by decide) rfl (by decide) (hlt hN (by decide)) (Nat.le_of_ble_eq_true rfl) (Nat.le_of_ble_eq_true rfl) (Nat.le_of_ble_eq_true rfl) dX5_reckon_157 (w_X5_pop (by exact rkF_h hh k) hN (by exact hs) ?_)
      refine a_goto (tgt := 164) dX5_reckon_160 (by decide) ?_
      refine a_putJ kfX5_19 rfl rfl rfl (by decide) (hlt hN (by decide)) dX5_reckon_164 ?_
      refine a_vret dX5_reckon_167 rfl (by unfold rkE at h; first | (rw [if_pos (by rw [wm_re] at c_153; exact c_153)] at h; exact h) | (rw [if_neg (by rw [wm_re] at c_153; exact c_153)] at h; exact h))
  | succ r ih =>
    intro k hk
    have hf94 := fo_94 hf
    have hsz : rI (wm M (rkF M q f g v pl k s)) f 4 = nI z := by rw [wm_rI (by omega)]; exact hz.1
    have hn40 := fo_40 hm
    have hzn := hz.2.1
    have hkz : k < z := by omega
    have nxt : ∀ {t : MS}, rkA M q f g v (pl k) (rkF M q f g v pl k s) = t → (rkF M q f g v pl k s).2.2 = 0 → wm M t = wm M (rkF M q f g v pl (k + 1) s) := fun ht h0 => by rw [← ht]; show _ = wm M (if (rkF M q f g v pl k s).2.2 = 0 then _ else _); rw [if_pos h0]
    refine a_iload dX5_reckon_13 rfl ?_
    refine a_aload_n dX5_reckon_15 rfl ?_
    refine a_callV (mc1 := 0) (ms1 := 0) (As := []) kpX2_countSteps kmX5_26 (by decide) rfl (Nat.le_of_ble_eq_true rfl) (fo_k hf) (by decide) rfl (fo_two hf) (fo_lt hf) (Nat.le_of_ble_eq_true rfl) (Nat.le_of_ble_eq_true rfl) (Nat.le_of_ble_eq_true rfl) dX5_reckon_16 (w_X2_countSteps hf (by exact hm) ?_)
    refine a_icmp_ge (tgt := 148) dX5_reckon_19 (by decide) (fun c_19 => absurd c_19 (by rw [hsz]; exact nI_ge hkz (by omega))) (fun c_19 => ?_)
    refine a_aload_n dX5_reckon_22 rfl ?_
    refine a_getI kfX5_15 rfl rfl (by decide) (hlt hN (by decide)) dX5_reckon_23 ?_
    refine a_if_ne (tgt := 148) dX5_reckon_26 (by decide) (fun c_26 => ?_) (fun c_26 => ?_)
    · have e0 : ¬ (rkF M q f g v pl k s).2.2 = 0 := by rw [wm_re] at c_26; exact c_26
      rw [show z = k + (z - k) by omega, rkF_stop e0] at h
      refine a_aload_n dX5_reckon_148 rfl ?_
      refine a_aload_n dX5_reckon_149 rfl ?_
      refine a_getI kfX5_15 rfl rfl (by decide) (hlt hN (by decide)) dX5_reckon_150 ?_
      refine a_if_ne (tgt := 163) dX5_reckon_153 (by decide) (fun c_153 => ?_) (fun c_153 => ?_)
      · refine a_lconst (v := 0) dX5_reckon_163 (by decide) ?_
        refine a_putJ kfX5_19 rfl rfl rfl (by decide) (hlt hN (by decide)) dX5_reckon_164 ?_
        refine a_vret dX5_reckon_167 rfl (by unfold rkE at h; first | (rw [if_pos (by rw [wm_re] at c_153; exact c_153)] at h; exact h) | (rw [if_neg (by rw [wm_re] at c_153; exact c_153)] at h; exact h))
      · refine a_aload_n dX5_reckon_156 rfl ?_
        refine a_callV (mc1 := 0) (ms1 := 0) (As := []) kpX5_pop kmX5_53 (by decide) rfl (Nat.le_of_ble_eq_true rfl) rfl (by decide) rfl (by decide) (hlt hN (by decide)) (Nat.le_of_ble_eq_true rfl) (Nat.le_of_ble_eq_true rfl) (Nat.le_of_ble_eq_true rfl) dX5_reckon_157 (w_X5_pop (by exact rkF_h hh k) hN (by exact hs) ?_)
        refine a_goto (tgt := 164) dX5_reckon_160 (by decide) ?_
        refine a_putJ kfX5_19 rfl rfl rfl (by decide) (hlt hN (by decide)) dX5_reckon_164 ?_
        refine a_vret dX5_reckon_167 rfl (by unfold rkE at h; first | (rw [if_pos (by rw [wm_re] at c_153; exact c_153)] at h; exact h) | (rw [if_neg (by rw [wm_re] at c_153; exact c_153)] at h; exact h))
    · have e0 : (rkF M q f g v pl k s).2.2 = 0 := by rw [wm_re] at c_26; exact c_26
      refine a_aload_n dX5_reckon_29 rfl ?_
      refine a_iload dX5_reckon_30 rfl ?_
      refine a_callV (mc1 := 0) (ms1 := 0) (As := [_]) kpX2_placeOf kmX5_32 (by decide) rfl (Nat.le_of_ble_eq_true rfl) (fo_k hf) (by decide) rfl (fo_two hf) (fo_lt hf) (Nat.le_of_ble_eq_true rfl) (Nat.le_of_ble_eq_true rfl) (Nat.le_of_ble_eq_true rfl) dX5_reckon_32 (w_X2_placeOf (sz := z) hf (by exact hm) hsz hkz hzn ?_)
      rw [wm_rI (by omega), (hz.2.2 k hkz).2]
      refine a_istore dX5_reckon_35 (by decide) ?_
      refine a_aload_n dX5_reckon_37 rfl ?_
      refine a_aload_n dX5_reckon_38 rfl ?_
      refine a_iload dX5_reckon_39 rfl ?_
      refine a_callV (mc1 := 0) (ms1 := 0) (As := [_, _]) kpX0_operandOf kmX5_36 (by decide) rfl (Nat.le_of_ble_eq_true rfl) (ch_k hq) (by decide) rfl (ch_two hq) (ch_lt hq hN) (Nat.le_of_ble_eq_true rfl) (Nat.le_of_ble_eq_true rfl) (Nat.le_of_ble_eq_true rfl) dX5_reckon_41 (w_X0_operandOf (p := pl k) hN hq hf (by exact hm) (hz.2.2 k hkz).1 ?_)
      rw [chO_wm hq hf94]
      refine a_istore dX5_reckon_44 (by decide) ?_
      refine a_aload_n dX5_reckon_46 rfl ?_
      refine a_aload_n dX5_reckon_47 rfl ?_
      refine a_iload dX5_reckon_48 rfl ?_
      refine a_callV (mc1 := 0) (ms1 := 0) (As := [_, _]) kpX0_stepOf kmX5_42 (by decide) rfl (Nat.le_of_ble_eq_true rfl) (ch_k hq) (by decide) rfl (ch_two hq) (ch_lt hq hN) (Nat.le_of_ble_eq_true rfl) (Nat.le_of_ble_eq_true rfl) (Nat.le_of_ble_eq_true rfl) dX5_reckon_50 (w_X0_stepOf (p := pl k) hN hq hf (by exact hm) (hz.2.2 k hkz).1 ?_)
      rw [chS_wm hq hf94]
      refine a_istore dX5_reckon_53 (by decide) ?_
      refine a_iload dX5_reckon_55 rfl ?_
      have hst := hall k hkz e0
      have eP := (hz.2.2 k hkz).2
      rcases hst with e | e | ⟨e, c, hc, eO⟩ | e | ⟨e, a, b, ha, hb, hpb, hpa⟩ | e | e | e | e | e
      · rw [e]
        refine a_tableIn (off := 35) (tgt := 92) dX5_reckon_57 (by decide) (by decide) (by decide) (by decide) ?_
        refine a_aload_n dX5_reckon_92 rfl ?_
        refine a_iload dX5_reckon_93 rfl ?_
        refine a_i2l dX5_reckon_95 rfl ?_
        refine a_callV (mc1 := 0) (ms1 := 0) (As := [_]) kpX5_push kmX5_45 (by decide) rfl (Nat.le_of_ble_eq_true rfl) rfl (by decide) rfl (by decide) (hlt hN (by decide)) (Nat.le_of_ble_eq_true rfl) (Nat.le_of_ble_eq_true rfl) (Nat.le_of_ble_eq_true rfl) dX5_reckon_96 (w_X5_push (by exact rkF_h hh k) hN (by exact hs) ?_)
        refine a_goto (tgt := 142) dX5_reckon_99 (by decide) ?_
        refine a_iinc dX5_reckon_142 rfl rfl (by decide) ?_
        refine a_goto (tgt := 13) dX5_reckon_145 (by decide) ?_
        rw [show nI k + Int32.ofInt 1 = nI (k + 1) from nI_1 k]
        refine AW.sub (L' := [(0, .ref 45), (1, .ref f), (2, .ref q), (3, .ref g), (4, .int (nI v)), (5, .int (nI (k + 1)))]) rfl ?_
        rw [nxt (by unfold rkA; rw [if_pos (Or.inl e)]) e0]
        exact ih (k + 1) (by omega)
      · rw [e]
        refine a_tableIn (off := 35) (tgt := 92) dX5_reckon_57 (by decide) (by decide) (by decide) (by decide) ?_
        refine a_aload_n dX5_reckon_92 rfl ?_
        refine a_iload dX5_reckon_93 rfl ?_
        refine a_i2l dX5_reckon_95 rfl ?_
        refine a_callV (mc1 := 0) (ms1 := 0) (As := [_]) kpX5_push kmX5_45 (by decide) rfl (Nat.le_of_ble_eq_true rfl) rfl (by decide) rfl (by decide) (hlt hN (by decide)) (Nat.le_of_ble_eq_true rfl) (Nat.le_of_ble_eq_true rfl) (Nat.le_of_ble_eq_true rfl) dX5_reckon_96 (w_X5_push (by exact rkF_h hh k) hN (by exact hs) ?_)
        refine a_goto (tgt := 142) dX5_reckon_99 (by decide) ?_
        refine a_iinc dX5_reckon_142 rfl rfl (by decide) ?_
        refine a_goto (tgt := 13) dX5_reckon_145 (by decide) ?_
        rw [show nI k + Int32.ofInt 1 = nI (k + 1) from nI_1 k]
        refine AW.sub (L' := [(0, .ref 45), (1, .ref f), (2, .ref q), (3, .ref g), (4, .int (nI v)), (5, .int (nI (k + 1)))]) rfl ?_
        rw [nxt (by unfold rkA; rw [if_pos (Or.inr e)]) e0]
        exact ih (k + 1) (by omega)
      · rw [e]
        rw [eO]
        refine a_tableIn (off := 45) (tgt := 102) dX5_reckon_57 (by decide) (by decide) (by decide) (by decide) ?_
        refine a_aload_n dX5_reckon_102 rfl ?_
        refine a_aload_n dX5_reckon_103 rfl ?_
        refine a_iload dX5_reckon_104 rfl ?_
        refine a_iload dX5_reckon_106 rfl ?_
        refine a_callV (mc1 := 0) (ms1 := 0) (As := [_, _, _]) kpX5_pushCell kmX5_49 (by decide) rfl (Nat.le_of_ble_eq_true rfl) rfl (by decide) rfl (by decide) (hlt hN (by decide)) (Nat.le_of_ble_eq_true rfl) (Nat.le_of_ble_eq_true rfl) (Nat.le_of_ble_eq_true rfl) dX5_reckon_108 (w_X5_pushCell (j := c) (by exact rkF_h hh k) hg hv hc hN (by exact hs) ?_)
        refine a_goto (tgt := 142) dX5_reckon_111 (by decide) ?_
        refine a_iinc dX5_reckon_142 rfl rfl (by decide) ?_
        refine a_goto (tgt := 13) dX5_reckon_145 (by decide) ?_
        rw [show nI k + Int32.ofInt 1 = nI (k + 1) from nI_1 k]
        refine AW.sub (L' := [(0, .ref 45), (1, .ref f), (2, .ref q), (3, .ref g), (4, .int (nI v)), (5, .int (nI (k + 1)))]) rfl ?_
        rw [nxt (t := pcS M g (v * 64 + c) (rkF M q f g v pl k s)) (by unfold rkA; rw [if_neg (by rw [e]; decide), if_pos e, eO, j64_c hc]) e0]
        exact ih (k + 1) (by omega)
      · rw [e]
        refine a_tableIn (off := 57) (tgt := 114) dX5_reckon_57 (by decide) (by decide) (by decide) (by decide) ?_
        refine a_aload_n dX5_reckon_114 rfl ?_
        refine a_aload_n dX5_reckon_115 rfl ?_
        refine a_callV (mc1 := 0) (ms1 := 0) (As := []) kpX5_pop kmX5_53 (by decide) rfl (Nat.le_of_ble_eq_true rfl) rfl (by decide) rfl (by decide) (hlt hN (by decide)) (Nat.le_of_ble_eq_true rfl) (Nat.le_of_ble_eq_true rfl) (Nat.le_of_ble_eq_true rfl) dX5_reckon_116 (w_X5_pop (by exact rkF_h hh k) hN (by exact hs) ?_)
        refine a_lneg dX5_reckon_119 ?_
        refine a_callV (mc1 := 0) (ms1 := 0) (As := [_]) kpX5_push kmX5_45 (by decide) rfl (Nat.le_of_ble_eq_true rfl) rfl (by decide) rfl (by decide) (hlt hN (by decide)) (Nat.le_of_ble_eq_true rfl) (Nat.le_of_ble_eq_true rfl) (Nat.le_of_ble_eq_true rfl) dX5_reckon_120 (w_X5_push (by exact popS_h (rkF_h hh k)) hN (by exact hs) ?_)
        refine a_goto (tgt := 142) dX5_reckon_123 (by decide) ?_
        refine a_iinc dX5_reckon_142 rfl rfl (by decide) ?_
        refine a_goto (tgt := 13) dX5_reckon_145 (by decide) ?_
        rw [show nI k + Int32.ofInt 1 = nI (k + 1) from nI_1 k]
        refine AW.sub (L' := [(0, .ref 45), (1, .ref f), (2, .ref q), (3, .ref g), (4, .int (nI v)), (5, .int (nI (k + 1)))]) rfl ?_
        rw [nxt (by unfold rkA; rw [if_neg (by rw [e]; decide), if_neg (by rw [e]; decide), if_pos e]) e0]
        exact ih (k + 1) (by omega)
      · rw [e]
        refine a_tableIn (off := 69) (tgt := 126) dX5_reckon_57 (by decide) (by decide) (by decide) (by decide) ?_
        refine a_aload_n dX5_reckon_126 rfl ?_
        refine a_aload_n dX5_reckon_127 rfl ?_
        refine a_iload dX5_reckon_128 rfl ?_
        refine a_callV (mc1 := 0) (ms1 := 0) (As := [_, _]) kpX5_pushRectangle kmX5_57 (by decide) rfl (Nat.le_of_ble_eq_true rfl) rfl (by decide) rfl (by decide) (hlt hN (by decide)) (Nat.le_of_ble_eq_true rfl) (Nat.le_of_ble_eq_true rfl) (Nat.le_of_ble_eq_true rfl) dX5_reckon_130 (w_X5_pushRectangle (a := a) (b := b) (by exact rkF_h hh k) hg hv ha hb hpb hpa hN (by exact hs) ?_)
        refine a_goto (tgt := 142) dX5_reckon_133 (by decide) ?_
        refine a_iinc dX5_reckon_142 rfl rfl (by decide) ?_
        refine a_goto (tgt := 13) dX5_reckon_145 (by decide) ?_
        rw [show nI k + Int32.ofInt 1 = nI (k + 1) from nI_1 k]
        refine AW.sub (L' := [(0, .ref 45), (1, .ref f), (2, .ref q), (3, .ref g), (4, .int (nI v)), (5, .int (nI (k + 1)))]) rfl ?_
        rw [nxt (t := prF M g v (rcL a b) 64 (pushS (popS (popS (rkF M q f g v pl k s))) 0)) (by unfold rkA; rw [if_neg (by rw [e]; decide), if_neg (by rw [e]; decide), if_neg (by rw [e]; decide), if_pos e, hpa, hpb, j64_c ha, j64_c hb]) e0]
        exact ih (k + 1) (by omega)
      · rw [e]
        refine a_tableOut (tgt := 136) dX5_reckon_57 (by decide) (by decide) ?_
        refine a_aload_n dX5_reckon_136 rfl ?_
        refine a_iload dX5_reckon_137 rfl ?_
        refine a_callV (mc1 := 0) (ms1 := 0) (As := [_]) kpX5_join kmX5_61 (by decide) rfl (Nat.le_of_ble_eq_true rfl) rfl (by decide) rfl (by decide) (hlt hN (by decide)) (Nat.le_of_ble_eq_true rfl) (Nat.le_of_ble_eq_true rfl) (Nat.le_of_ble_eq_true rfl) dX5_reckon_139 (w_X5_join (by exact rkF_h hh k) (by decide) hN (by exact hs) ?_)
        refine a_iinc dX5_reckon_142 rfl rfl (by decide) ?_
        refine a_goto (tgt := 13) dX5_reckon_145 (by decide) ?_
        rw [show nI k + Int32.ofInt 1 = nI (k + 1) from nI_1 k]
        refine AW.sub (L' := [(0, .ref 45), (1, .ref f), (2, .ref q), (3, .ref g), (4, .int (nI v)), (5, .int (nI (k + 1)))]) rfl ?_
        rw [nxt (t := joinS (rkF M q f g v pl k s) 43) (by unfold rkA; rw [if_neg (by rw [e]; decide), if_neg (by rw [e]; decide), if_neg (by rw [e]; decide), if_neg (by rw [e]; decide), e]) e0]
        exact ih (k + 1) (by omega)
      · rw [e]
        refine a_tableOut (tgt := 136) dX5_reckon_57 (by decide) (by decide) ?_
        refine a_aload_n dX5_reckon_136 rfl ?_
        refine a_iload dX5_reckon_137 rfl ?_
        refine a_callV (mc1 := 0) (ms1 := 0) (As := [_]) kpX5_join kmX5_61 (by decide) rfl (Nat.le_of_ble_eq_true rfl) rfl (by decide) rfl (by decide) (hlt hN (by decide)) (Nat.le_of_ble_eq_true rfl) (Nat.le_of_ble_eq_true rfl) (Nat.le_of_ble_eq_true rfl) dX5_reckon_139 (w_X5_join (by exact rkF_h hh k) (by decide) hN (by exact hs) ?_)
        refine a_iinc dX5_reckon_142 rfl rfl (by decide) ?_
        refine a_goto (tgt := 13) dX5_reckon_145 (by decide) ?_
        rw [show nI k + Int32.ofInt 1 = nI (k + 1) from nI_1 k]
        refine AW.sub (L' := [(0, .ref 45), (1, .ref f), (2, .ref q), (3, .ref g), (4, .int (nI v)), (5, .int (nI (k + 1)))]) rfl ?_
        rw [nxt (t := joinS (rkF M q f g v pl k s) 45) (by unfold rkA; rw [if_neg (by rw [e]; decide), if_neg (by rw [e]; decide), if_neg (by rw [e]; decide), if_neg (by rw [e]; decide), e]) e0]
        exact ih (k + 1) (by omega)
      · rw [e]
        refine a_tableOut (tgt := 136) dX5_reckon_57 (by decide) (by decide) ?_
        refine a_aload_n dX5_reckon_136 rfl ?_
        refine a_iload dX5_reckon_137 rfl ?_
        refine a_callV (mc1 := 0) (ms1 := 0) (As := [_]) kpX5_join kmX5_61 (by decide) rfl (Nat.le_of_ble_eq_true rfl) rfl (by decide) rfl (by decide) (hlt hN (by decide)) (Nat.le_of_ble_eq_true rfl) (Nat.le_of_ble_eq_true rfl) (Nat.le_of_ble_eq_true rfl) dX5_reckon_139 (w_X5_join (by exact rkF_h hh k) (by decide) hN (by exact hs) ?_)
        refine a_iinc dX5_reckon_142 rfl rfl (by decide) ?_
        refine a_goto (tgt := 13) dX5_reckon_145 (by decide) ?_
        rw [show nI k + Int32.ofInt 1 = nI (k + 1) from nI_1 k]
        refine AW.sub (L' := [(0, .ref 45), (1, .ref f), (2, .ref q), (3, .ref g), (4, .int (nI v)), (5, .int (nI (k + 1)))]) rfl ?_
        rw [nxt (t := joinS (rkF M q f g v pl k s) 42) (by unfold rkA; rw [if_neg (by rw [e]; decide), if_neg (by rw [e]; decide), if_neg (by rw [e]; decide), if_neg (by rw [e]; decide), e]) e0]
        exact ih (k + 1) (by omega)
      · rw [e]
        refine a_tableOut (tgt := 136) dX5_reckon_57 (by decide) (by decide) ?_
        refine a_aload_n dX5_reckon_136 rfl ?_
        refine a_iload dX5_reckon_137 rfl ?_
        refine a_callV (mc1 := 0) (ms1 := 0) (As := [_]) kpX5_join kmX5_61 (by decide) rfl (Nat.le_of_ble_eq_true rfl) rfl (by decide) rfl (by decide) (hlt hN (by decide)) (Nat.le_of_ble_eq_true rfl) (Nat.le_of_ble_eq_true rfl) (Nat.le_of_ble_eq_true rfl) dX5_reckon_139 (w_X5_join (by exact rkF_h hh k) (by decide) hN (by exact hs) ?_)
        refine a_iinc dX5_reckon_142 rfl rfl (by decide) ?_
        refine a_goto (tgt := 13) dX5_reckon_145 (by decide) ?_
        rw [show nI k + Int32.ofInt 1 = nI (k + 1) from nI_1 k]
        refine AW.sub (L' := [(0, .ref 45), (1, .ref f), (2, .ref q), (3, .ref g), (4, .int (nI v)), (5, .int (nI (k + 1)))]) rfl ?_
        rw [nxt (t := joinS (rkF M q f g v pl k s) 47) (by unfold rkA; rw [if_neg (by rw [e]; decide), if_neg (by rw [e]; decide), if_neg (by rw [e]; decide), if_neg (by rw [e]; decide), e]) e0]
        exact ih (k + 1) (by omega)
      · rw [e]
        refine a_tableOut (tgt := 136) dX5_reckon_57 (by decide) (by decide) ?_
        refine a_aload_n dX5_reckon_136 rfl ?_
        refine a_iload dX5_reckon_137 rfl ?_
        refine a_callV (mc1 := 0) (ms1 := 0) (As := [_]) kpX5_join kmX5_61 (by decide) rfl (Nat.le_of_ble_eq_true rfl) rfl (by decide) rfl (by decide) (hlt hN (by decide)) (Nat.le_of_ble_eq_true rfl) (Nat.le_of_ble_eq_true rfl) (Nat.le_of_ble_eq_true rfl) dX5_reckon_139 (w_X5_join (by exact rkF_h hh k) (by decide) hN (by exact hs) ?_)
        refine a_iinc dX5_reckon_142 rfl rfl (by decide) ?_
        refine a_goto (tgt := 13) dX5_reckon_145 (by decide) ?_
        rw [show nI k + Int32.ofInt 1 = nI (k + 1) from nI_1 k]
        refine AW.sub (L' := [(0, .ref 45), (1, .ref f), (2, .ref q), (3, .ref g), (4, .int (nI v)), (5, .int (nI (k + 1)))]) rfl ?_
        rw [nxt (t := joinS (rkF M q f g v pl k s) 6) (by unfold rkA; rw [if_neg (by rw [e]; decide), if_neg (by rw [e]; decide), if_neg (by rw [e]; decide), if_neg (by rw [e]; decide), e]) e0]
        exact ih (k + 1) (by omega)
theorem w_X5_reckon {M : Mem} {N : Nat} {Q : Option Value → Nat → Mem → Prop} {q f n z : Nat} {pl : Nat → Nat} (hq : ChR q) (hf : FoR f N) (hm : FoF M.2.2 f n) (hz : FoS M f n z pl) {g v : Nat} (hg : FgR g) (hv : v < 6) (hall : ∀ i, i < z → (rkF M q f g v pl i (rJ M 46, 0, 0)).2.2 = 0 → stOK M q f (pl i) (rkF M q f g v pl i (rJ M 46, 0, 0)))  (hN : 94 ≤ N) (hs : Str M.2.2.1) (h : Q (none) N (rkE M (rkF M q f g v pl z (rJ M 46, 0, 0)))) : AW mX5_reckon 3 0 0 N 0 [(0, .ref 45), (1, .ref f), (2, .ref q), (3, .ref g), (4, .int (nI v))] [] M Q := by
  refine a_aload_n dX5_reckon_0 rfl ?_
  refine a_iconst (v := 0) dX5_reckon_1 (by decide) ?_
  refine a_putI kfX5_23 rfl rfl rfl (by decide) (hlt hN (by decide)) dX5_reckon_2 ?_
  refine a_aload_n dX5_reckon_5 rfl ?_
  refine a_iconst (v := 0) dX5_reckon_6 (by decide) ?_
  refine a_putI kfX5_15 rfl rfl rfl (by decide) (hlt hN (by decide)) dX5_reckon_7 ?_
  refine a_iconst (v := 0) dX5_reckon_10 (by decide) ?_
  refine a_istore dX5_reckon_11 (by decide) ?_
  rw [wm_0]
  refine AW.sub (L' := [(0, .ref 45), (1, .ref f), (2, .ref q), (3, .ref g), (4, .int (nI v)), (5, .int (nI 0))]) rfl ?_
  exact l_X5_reckon (Nat.zero_le _) hq hf hm hz hg hv hall hN hs h z 0 (by omega)

