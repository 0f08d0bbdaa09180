/-- what is needed: the cells, the two last corners -/
abbrev NS : Type := Int64 × Int32 × Int32
def stA (k : Int32) : Prop := k = 1 ∨ k = 3 ∨ k = 2 ∨ k = 4 ∨ k = 5 ∨ k = 43 ∨ k = 45 ∨ k = 42 ∨ k = 47 ∨ k = 6
def ndA (M : Mem) (q f p : Nat) (s : NS) : NS := if rI M (f + 2) p = 2 then (s.1 ||| bitL (chO M q f p), s.2) else if rI M (f + 2) p = 3 then (s.1, s.2.2, chO M q f p) else if rI M (f + 2) p = 5 then (s.1 ||| rcL s.2.1.toNatClampNeg s.2.2.toNatClampNeg, s.2) else s
def ndF (M : Mem) (q f : Nat) (pl : Nat → Nat) : Nat → NS
  | 0 => (0, 0, 0)
  | i + 1 => ndA M q f (pl i) (ndF M q f pl i)
theorem l_X2_needs {M : Mem} {N : Nat} {Q : Option Value → Nat → Mem → Prop} {q f n z : Nat} {pl : Nat → Nat} (hq : ChR q) (hf : FoR f N) (hm : FoF M.2.2 f n) (hz : FoS M f n z pl) (hst : ∀ i, i < z → stA (rI M (f + 2) (pl i))) (hrc : ∀ i, i < z → rI M (f + 2) (pl i) = 5 → ∃ a b, a < 64 ∧ b < 64 ∧ (ndF M q f pl i).2.1 = nI a ∧ (ndF M q f pl i).2.2 = nI b) (hN : 94 ≤ N) (h : Q (some (.long (ndF M q f pl z).1)) N M) : ∀ (r k : Nat), k + r = z → AW mX2_needs 2 0 0 N 11 [(0, .ref f), (1, .ref q), (2, .long (ndF M q f pl k).1), (4, .int (ndF M q f pl k).2.1), (5, .int (ndF M q f pl k).2.2), (6, .int (nI k))] [] M Q := by
  intro r
  induction r with
  | zero =>
    intro k hk
    have hn40 := fo_40 hm
    have hzn := hz.2.1
    have hsz := hz.1
    refine a_iload dX2_needs_11 rfl ?_
    refine a_aload_n dX2_needs_13 rfl ?_
    refine a_getI kfX2_38 (fo_k hf) rfl (fo_two hf) (fo_lt hf) dX2_needs_14 ?_
    refine a_icmp_ge (tgt := 115) dX2_needs_17 (by decide) (fun c_17 => ?_) (fun c_17 => absurd (by rw [hsz]; exact nI_le (by omega) (by omega)) c_17)
    refine a_lload_n dX2_needs_115 rfl ?_
    refine a_lret dX2_needs_116 rfl (by rw [show k = z by omega]; exact h)
  | succ r ih =>
    intro k hk
    have hn40 := fo_40 hm
    have hzn := hz.2.1
    have hsz := hz.1
    have hkz : k < z := by omega
    refine a_iload dX2_needs_11 rfl ?_
    refine a_aload_n dX2_needs_13 rfl ?_
    refine a_getI kfX2_38 (fo_k hf) rfl (fo_two hf) (fo_lt hf) dX2_needs_14 ?_
    refine a_icmp_ge (tgt := 115) dX2_needs_17 (by decide) (fun c_17 => absurd c_17 (by rw [hsz]; exact nI_ge hkz (by omega))) (fun c_17 => ?_)
    refine a_aload_n dX2_needs_20 rfl ?_
    refine a_iload dX2_needs_21 rfl ?_
    refine a_callV (mc1 := 0) (ms1 := 0) (As := [_]) kpX2_placeOf kmX2_42 (by decide) rfl (Nat.le_of_ble_eq_true rfl) (fo_k hf) (by decide) rfl (fo_two hf) (fo_lt hf) (Nat.le_of_ble_eq_true rfl) (Nat.le_of_ble_eq_true rfl) (Nat.le_of_ble_eq_true rfl) dX2_needs_23 (w_X2_placeOf (sz := z) hf hm hsz hkz hzn ?_)
    rw [(hz.2.2 k hkz).2]
    refine a_istore dX2_needs_26 (by decide) ?_
    refine a_aload_n dX2_needs_28 rfl ?_
    refine a_iload dX2_needs_29 rfl ?_
    refine a_callV (mc1 := 0) (ms1 := 0) (As := [_]) kpX2_stepAt kmX2_45 (by decide) rfl (Nat.le_of_ble_eq_true rfl) (fo_k hf) (by decide) rfl (fo_two hf) (fo_lt hf) (Nat.le_of_ble_eq_true rfl) (Nat.le_of_ble_eq_true rfl) (Nat.le_of_ble_eq_true rfl) dX2_needs_31 (w_X2_stepAt (p := pl k) hf hm (hz.2.2 k hkz).1 ?_)
    rcases hst k hkz with e | e | e | e | e | e | e | e | e | e
    · rw [e]
      refine a_tableOut (tgt := 109) dX2_needs_34 (by decide) (by decide) ?_
      refine a_iinc dX2_needs_109 rfl rfl (by decide) ?_
      refine a_goto (tgt := 11) dX2_needs_112 (by decide) ?_
      have eN : ndF M q f pl (k + 1) = ndF M q f pl k := by show ndA M q f (pl k) (ndF M q f pl k) = _; exact (by unfold ndA; rw [if_neg (by rw [e]; decide), if_neg (by rw [e]; decide), if_neg (by rw [e]; decide)])
      rw [show nI k + Int32.ofInt 1 = nI (k + 1) from nI_1 k]
      refine AW.sub (L' := [(0, .ref f), (1, .ref q), (2, .long (ndF M q f pl (k + 1)).1), (4, .int (ndF M q f pl (k + 1)).2.1), (5, .int (ndF M q f pl (k + 1)).2.2), (6, .int (nI (k + 1)))]) (by rw [eN]; rfl) ?_
      exact ih (k + 1) (by omega)
    · rw [e]
      refine a_tableIn (off := 46) (tgt := 80) dX2_needs_34 (by decide) (by decide) (by decide) (by decide) ?_
      refine a_iload dX2_needs_80 rfl ?_
      refine a_istore dX2_needs_82 (by decide) ?_
      refine a_aload_n dX2_needs_84 rfl ?_
      refine a_aload_n dX2_needs_85 rfl ?_
      refine a_iload dX2_needs_86 rfl ?_
      refine a_callV (mc1 := 0) (ms1 := 0) (As := [_, _]) kpX0_operandOf kmX2_48 (by decide) rfl (Nat.le_of_ble_eq_true rfl) (ch_k hq) (by decide) rfl (ch_two hq) (ch_lt hq hN) (Nat.le_of_ble_eq_true rfl) (Nat.le_of_ble_eq_true rfl) (Nat.le_of_ble_eq_true rfl) dX2_needs_88 (w_X0_operandOf (p := pl k) hN hq hf hm (hz.2.2 k hkz).1 ?_)
      refine a_istore dX2_needs_91 (by decide) ?_
      refine a_goto (tgt := 109) dX2_needs_93 (by decide) ?_
      refine a_iinc dX2_needs_109 rfl rfl (by decide) ?_
      refine a_goto (tgt := 11) dX2_needs_112 (by decide) ?_
      have eN : ndF M q f pl (k + 1) = ((ndF M q f pl k).1, (ndF M q f pl k).2.2, chO M q f (pl k)) := by show ndA M q f (pl k) (ndF M q f pl k) = _; exact (by unfold ndA; rw [if_neg (by rw [e]; decide), if_pos e])
      rw [show nI k + Int32.ofInt 1 = nI (k + 1) from nI_1 k]
      refine AW.sub (L' := [(0, .ref f), (1, .ref q), (2, .long (ndF M q f pl (k + 1)).1), (4, .int (ndF M q f pl (k + 1)).2.1), (5, .int (ndF M q f pl (k + 1)).2.2), (6, .int (nI (k + 1)))]) (by rw [eN]; rfl) ?_
      exact ih (k + 1) (by omega)
    · rw [e]
      refine a_tableIn (off := 30) (tgt := 64) dX2_needs_34 (by decide) (by decide) (by decide) (by decide) ?_
      refine a_lload_n dX2_needs_64 rfl ?_
      refine a_aload_n dX2_needs_65 rfl ?_
      refine a_aload_n dX2_needs_66 rfl ?_
      refine a_iload dX2_needs_67 rfl ?_
      refine a_callV (mc1 := 0) (ms1 := 0) (As := [_, _]) kpX0_operandOf kmX2_48 (by decide) rfl (Nat.le_of_ble_eq_true rfl) (ch_k hq) (by decide) rfl (ch_two hq) (ch_lt hq hN) (Nat.le_of_ble_eq_true rfl) (Nat.le_of_ble_eq_true rfl) (Nat.le_of_ble_eq_true rfl) dX2_needs_69 (w_X0_operandOf (p := pl k) hN hq hf hm (hz.2.2 k hkz).1 ?_)
      refine a_callSN (host := "SheetMarker") (mc1 := 0) (ms1 := 0) (As := [_]) kpX9_bit (by decide +kernel) (by decide) rfl (Nat.le_of_ble_eq_true rfl) (Nat.le_of_ble_eq_true rfl) (Nat.le_of_ble_eq_true rfl) (Nat.le_of_ble_eq_true rfl) dX2_needs_72 (w_X9_bit ?_)
      refine a_lor dX2_needs_75 ?_
      refine a_lstore_n dX2_needs_76 (by decide) ?_
      refine a_goto (tgt := 109) dX2_needs_77 (by decide) ?_
      refine a_iinc dX2_needs_109 rfl rfl (by decide) ?_
      refine a_goto (tgt := 11) dX2_needs_112 (by decide) ?_
      have eN : ndF M q f pl (k + 1) = ((ndF M q f pl k).1 ||| bitL (chO M q f (pl k)), (ndF M q f pl k).2) := by show ndA M q f (pl k) (ndF M q f pl k) = _; exact (by unfold ndA; rw [if_pos e])
      rw [show nI k + Int32.ofInt 1 = nI (k + 1) from nI_1 k]
      refine AW.sub (L' := [(0, .ref f), (1, .ref q), (2, .long (ndF M q f pl (k + 1)).1), (4, .int (ndF M q f pl (k + 1)).2.1), (5, .int (ndF M q f pl (k + 1)).2.2), (6, .int (nI (k + 1)))]) (by rw [eN]; rfl) ?_
      exact ih (k + 1) (by omega)
    · rw [e]
      refine a_tableIn (off := 75) (tgt := 109) dX2_needs_34 (by decide) (by decide) (by decide) (by decide) ?_
      refine a_iinc dX2_needs_109 rfl rfl (by decide) ?_
      refine a_goto (tgt := 11) dX2_needs_112 (by decide) ?_
      have eN : ndF M q f pl (k + 1) = ndF M q f pl k := by show ndA M q f (pl k) (ndF M q f pl k) = _; exact (by unfold ndA; rw [if_neg (by rw [e]; decide), if_neg (by rw [e]; decide), if_neg (by rw [e]; decide)])
      rw [show nI k + Int32.ofInt 1 = nI (k + 1) from nI_1 k]
      refine AW.sub (L' := [(0, .ref f), (1, .ref q), (2, .long (ndF M q f pl (k + 1)).1), (4, .int (ndF M q f pl (k + 1)).2.1), (5, .int (ndF M q f pl (k + 1)).2.2), (6, .int (nI (k + 1)))]) (by rw [eN]; rfl) ?_
      exact ih (k + 1) (by omega)
    · rw [e]
      obtain ⟨a, b, ha, hb, ea, eb⟩ := hrc k hkz e
      rw [ea, eb]
      refine a_tableIn (off := 62) (tgt := 96) dX2_needs_34 (by decide) (by decide) (by decide) (by decide) ?_
      refine a_lload_n dX2_needs_96 rfl ?_
      refine a_iload dX2_needs_97 rfl ?_
      refine a_iload dX2_needs_99 rfl ?_
      refine a_callSN (host := "SheetMarker") (mc1 := 0) (ms1 := 0) (As := [_, _]) kpX9_rectangle (by decide +kernel) (by decide) rfl (Nat.le_of_ble_eq_true rfl) (Nat.le_of_ble_eq_true rfl) (Nat.le_of_ble_eq_true rfl) (Nat.le_of_ble_eq_true rfl) dX2_needs_101 (w_X9_rectangle ha hb ?_)
      refine a_lor dX2_needs_104 ?_
      refine a_lstore_n dX2_needs_105 (by decide) ?_
      refine a_goto (tgt := 109) dX2_needs_106 (by decide) ?_
      refine a_iinc dX2_needs_109 rfl rfl (by decide) ?_
      refine a_goto (tgt := 11) dX2_needs_112 (by decide) ?_
      have eN : ndF M q f pl (k + 1) = ((ndF M q f pl k).1 ||| rcL a b, (ndF M q f pl k).2) := by show ndA M q f (pl k) (ndF M q f pl k) = _; exact (by unfold ndA; rw [if_neg (by rw [e]; decide), if_neg (by rw [e]; decide), if_pos e, ea, eb, j64_c ha, j64_c hb])
      rw [show nI k + Int32.ofInt 1 = nI (k + 1) from nI_1 k]
      refine AW.sub (L' := [(0, .ref f), (1, .ref q), (2, .long (ndF M q f pl (k + 1)).1), (4, .int (ndF M q f pl (k + 1)).2.1), (5, .int (ndF M q f pl (k + 1)).2.2), (6, .int (nI (k + 1)))]) (by rw [eN]; simp only [ea, eb]; rfl) ?_
      exact ih (k + 1) (by omega)
    · rw [e]
      refine a_tableOut (tgt := 109) dX2_needs_34 (by decide) (by decide) ?_
      refine a_iinc dX2_needs_109 rfl rfl (by decide) ?_
      refine a_goto (tgt := 11) dX2_needs_112 (by decide) ?_
      have eN : ndF M q f pl (k + 1) = ndF M q f pl k := by show ndA M q f (pl k) (ndF M q f pl k) = _; exact (by unfold ndA; rw [if_neg (by rw [e]; decide), if_neg (by rw [e]; decide), if_neg (by rw [e]; decide)])
      rw [show nI k + Int32.ofInt 1 = nI (k + 1) from nI_1 k]
      refine AW.sub (L' := [(0, .ref f), (1, .ref q), (2, .long (ndF M q f pl (k + 1)).1), (4, .int (ndF M q f pl (k + 1)).2.1), (5, .int (ndF M q f pl (k + 1)).2.2), (6, .int (nI (k + 1)))]) (by rw [eN]; rfl) ?_
      exact ih (k + 1) (by omega)
    · rw [e]
      refine a_tableOut (tgt := 109) dX2_needs_34 (by decide) (by decide) ?_
      refine a_iinc dX2_needs_109 rfl rfl (by decide) ?_
      refine a_goto (tgt := 11) dX2_needs_112 (by decide) ?_
      have eN : ndF M q f pl (k + 1) = ndF M q f pl k := by show ndA M q f (pl k) (ndF M q f pl k) = _; exact (by unfold ndA; rw [if_neg (by rw [e]; decide), if_neg (by rw [e]; decide), if_neg (by rw [e]; decide)])
      rw [show nI k + Int32.ofInt 1 = nI (k + 1) from nI_1 k]
      refine AW.sub (L' := [(0, .ref f), (1, .ref q), (2, .long (ndF M q f pl (k + 1)).1), (4, .int (ndF M q f pl (k + 1)).2.1), (5, .int (ndF M q f pl (k + 1)).2.2), (6, .int (nI (k + 1)))]) (by rw [eN]; rfl) ?_
      exact ih (k + 1) (by omega)
    · rw [e]
      refine a_tableOut (tgt := 109) dX2_needs_34 (by decide) (by decide) ?_
      refine a_iinc dX2_needs_109 rfl rfl (by decide) ?_
      refine a_goto (tgt := 11) dX2_needs_112 (by decide) ?_
      have eN : ndF M q f pl (k + 1) = ndF M q f pl k := by show ndA M q f (pl k) (ndF M q f pl k) = _; exact (by unfold ndA; rw [if_neg (by rw [e]; decide), if_neg (by rw [e]; decide), if_neg (by rw [e]; decide)])
      rw [show nI k + Int32.ofInt 1 = nI (k + 1) from nI_1 k]
      refine AW.sub (L' := [(0, .ref f), (1, .ref q), (2, .long (ndF M q f pl (k + 1)).1), (4, .int (ndF M q f pl (k + 1)).2.1), (5, .int (ndF M q f pl (k + 1)).2.2), (6, .int (nI (k + 1)))]) (by rw [eN]; rfl) ?_
      exact ih (k + 1) (by omega)
    · rw [e]
      refine a_tableOut (tgt := 109) dX2_needs_34 (by decide) (by decide) ?_
      refine a_iinc dX2_needs_109 rfl rfl (by decide) ?_
      refine a_goto (tgt := 11) dX2_needs_112 (by decide) ?_
      have eN : ndF M q f pl (k + 1) = ndF M q f pl k := by show ndA M q f (pl k) (ndF M q f pl k) = _; exact (by unfold ndA; rw [if_neg (by rw [e]; decide), if_neg (by rw [e]; decide), if_neg (by rw [e]; decide)])
      rw [show nI k + Int32.ofInt 1 = nI (k + 1) from nI_1 k]
      refine AW.sub (L' := [(0, .ref f), (1, .ref q), (2, .long (ndF M q f pl (k + 1)).1), (4, .int (ndF M q f pl (k + 1)).2.1), (5, .int (ndF M q f pl (k + 1)).2.2), (6, .int (nI (k + 1)))]) (by rw [eN]; rfl) ?_
      exact ih (k + 1) (by omega)
    · rw [e]
      refine a_tableOut (tgt := 109) dX2_needs_34 (by decide) (by decide) ?_
      refine a_iinc dX2_needs_109 rfl rfl (by decide) ?_
      refine a_goto (tgt := 11) dX2_needs_112 (by decide) ?_
      have eN : ndF M q f pl (k + 1) = ndF M q f pl k := by show ndA M q f (pl k) (ndF M q f pl k) = _; exact (by unfold ndA; rw [if_neg (by rw [e]; decide), if_neg (by rw [e]; decide), if_neg (by rw [e]; decide)])
      rw [show nI k + Int32.ofInt 1 = nI (k + 1) from nI_1 k]
      refine AW.sub (L' := [(0, .ref f), (1, .ref q), (2, .long (ndF M q f pl (k + 1)).1), (4, .int (ndF M q f pl (k + 1)).2.1), (5, .int (ndF M q f pl (k + 1)).2.2), (6, .int (nI (k + 1)))]) (by rw [eN]; rfl) ?_
      exact ih (k + 1) (by omega)
theorem w_X2_needs {M : Mem} {N : Nat} {Q : Option Value → Nat → Mem → Prop} {q f n z : Nat} {pl : Nat → Nat} (hq : ChR q) (hf : FoR f N) (hm : FoF M.2.2 f n) (hz : FoS M f n z pl) (hst : ∀ i, i < z → stA (rI M (f + 2) (pl i))) (hrc : ∀ i, i < z → rI M (f + 2) (pl i) = 5 → ∃ a b, a < 64 ∧ b < 64 ∧ (ndF M q f pl i).2.1 = nI a ∧ (ndF M q f pl i).2.2 = nI b) (hN : 94 ≤ N)  (h : Q (some (.long (ndF M q f pl z).1)) N (M)) : AW mX2_needs 2 0 0 N 0 [(0, .ref f), (1, .ref q)] [] M Q := by
  refine a_lconst (v := 0) dX2_needs_0 (by decide) ?_
  refine a_lstore_n dX2_needs_1 (by decide) ?_
  refine a_iconst (v := 0) dX2_needs_2 (by decide) ?_
  refine a_istore dX2_needs_3 (by decide) ?_
  refine a_iconst (v := 0) dX2_needs_5 (by decide) ?_
  refine a_istore dX2_needs_6 (by decide) ?_
  refine a_iconst (v := 0) dX2_needs_8 (by decide) ?_
  refine a_istore dX2_needs_9 (by decide) ?_
  refine AW.sub (L' := [(0, .ref f), (1, .ref q), (2, .long (ndF M q f pl 0).1), (4, .int (ndF M q f pl 0).2.1), (5, .int (ndF M q f pl 0).2.2), (6, .int (nI 0))]) rfl ?_
  exact l_X2_needs hq hf hm hz hst hrc hN h z 0 (by omega)

