noncomputable def plE (M : Mem) (q : Nat) (sub : Int32) (t : PS) : PS := if sub = -1 then t else if t.1 &&& bitL sub = 0 then (if rJ M (q + 5) sub.toNatClampNeg &&& (t.1 ^^^ (-1)) = 0 then appP t sub else t) else t
noncomputable def plT (M : Mem) (g q : Nat) (gv : Int64) (sub : Int32) : Mem := wp M g (plE M q sub (plR M q sub 64 (gv, rI M (g + 4), 0)))
theorem l_X1_planE_n {M : Mem} {N : Nat} {Q : Option Value → Nat → Mem → Prop} {t : PS} (hn : t.2.2 ≤ 64) {g q : Nat} (hg : FgR g) (hq : ShR q) {gv : Int64} {sub : Int32} (hN : 94 ≤ N) (hs : Str M.2.2.1) (hsub : sub = -1) (h : Q none N (wp M g (plE M q sub t))) : AW mX1_plan 2 0 0 N 116 [(0, .ref g), (1, .ref q), (2, .long gv), (4, .int sub)] [] (wp M g t) Q := by
  unfold plE at h
  rw [if_pos hsub] at h
  refine a_iload dX1_plan_116 rfl ?_
  refine a_iconst (v := (-1)) dX1_plan_118 (by decide) ?_
  refine a_icmp_eq (tgt := 156) dX1_plan_119 (by decide) (fun c_119 => ?_) (fun c_119 => absurd hsub c_119)
  refine a_vret dX1_plan_156 rfl h
theorem l_X1_planE_c {M : Mem} {N : Nat} {Q : Option Value → Nat → Mem → Prop} {t : PS} (hn : t.2.2 ≤ 64) {g q : Nat} (hg : FgR g) (hq : ShR q) {gv : Int64} (hN : 94 ≤ N) (hs : Str M.2.2.1) {c : Nat} (hc : c < 64) (hsub : ¬ nI c = -1) (h : Q none N (wp M g (plE M q (nI c) t))) : AW mX1_plan 2 0 0 N 116 [(0, .ref g), (1, .ref q), (2, .long gv), (4, .int (nI c))] [] (wp M g t) Q := by
  unfold plE at h
  rw [if_neg hsub, j64_c hc] at h
  refine a_iload dX1_plan_116 rfl ?_
  refine a_iconst (v := (-1)) dX1_plan_118 (by decide) ?_
  refine a_icmp_eq (tgt := 156) dX1_plan_119 (by decide) (fun c_119 => absurd c_119 hsub) (fun c_119 => ?_)
  refine a_aload_n dX1_plan_122 rfl ?_
  refine a_getJ kfX1_45 (fg_k hg) rfl (fg_two hg) (fg_lt hg hN) dX1_plan_123 ?_
  refine a_iload dX1_plan_126 rfl ?_
  refine a_callSN (host := "SheetMarker") (mc1 := 0) (ms1 := 0) (As := [_]) kpX9_bit (by decide +kernel) (by decide) rfl (Nat.le_of_ble_eq_true rfl) (Nat.le_of_ble_eq_true rfl) (Nat.le_of_ble_eq_true rfl) (Nat.le_of_ble_eq_true rfl) dX1_plan_128 (w_X9_bit ?_)
  rw [wp_rS]
  refine a_land dX1_plan_131 ?_
  refine a_lconst (v := 0) dX1_plan_132 (by decide) ?_
  refine a_lcmp dX1_plan_133 ?_
  refine a_if_ne (tgt := 156) dX1_plan_134 (by decide) (fun c_134 => ?_) (fun c_134 => ?_)
  · refine a_vret dX1_plan_156 rfl (by first | exact h | (rw [if_neg (fun z => c_134 ((lg_cmp_eq _ _).mpr z))] at h; exact h) | (rw [if_pos ((lg_cmp_eq _ _).mp (Classical.not_not.mp (fun z => z c_134))), if_neg (bI_z.mp c_147)] at h; exact h) | (rw [if_pos ((lg_cmp_eq _ _).mp (Classical.not_not.mp (fun z => z c_134))), if_pos (bI_nz.mp c_147)] at h; exact h))
  · refine a_aload_n dX1_plan_137 rfl ?_
    refine a_aload_n dX1_plan_138 rfl ?_
    refine a_iload dX1_plan_139 rfl ?_
    refine a_callV (mc1 := 0) (ms1 := 0) (As := [_]) kpX7_needsAt kmX1_92 (by decide) rfl (Nat.le_of_ble_eq_true rfl) (sh_k hq) (by decide) rfl (sh_two hq) (sh_lt hq hN) (Nat.le_of_ble_eq_true rfl) (Nat.le_of_ble_eq_true rfl) (Nat.le_of_ble_eq_true rfl) dX1_plan_141 (w_X7_needsAt hq hc hN (by exact hs) ?_)
    rw [wp_rJ (sg_n hq hg (by decide)).1]
    refine a_callV (mc1 := 0) (ms1 := 0) (As := [_]) kpX1_settles kmX1_95 (by decide) rfl (Nat.le_of_ble_eq_true rfl) (fg_k hg) (by decide) rfl (fg_two hg) (fg_lt hg hN) (Nat.le_of_ble_eq_true rfl) (Nat.le_of_ble_eq_true rfl) (Nat.le_of_ble_eq_true rfl) dX1_plan_144 (w_X1_settles hg hN (by exact hs) ?_)
    rw [wp_rS]
    refine a_if_eq (tgt := 156) dX1_plan_147 (by decide) (fun c_147 => ?_) (fun c_147 => ?_)
    · refine a_vret dX1_plan_156 rfl (by first | exact h | (rw [if_neg (fun z => c_134 ((lg_cmp_eq _ _).mpr z))] at h; exact h) | (rw [if_pos ((lg_cmp_eq _ _).mp (Classical.not_not.mp (fun z => z c_134))), if_neg (bI_z.mp c_147)] at h; exact h) | (rw [if_pos ((lg_cmp_eq _ _).mp (Classical.not_not.mp (fun z => z c_134))), if_pos (bI_nz.mp c_147)] at h; exact h))
    · refine a_aload_n dX1_plan_150 rfl ?_
      refine a_iload dX1_plan_151 rfl ?_
      refine a_callV (mc1 := 0) (ms1 := 0) (As := [_]) kpX1_append kmX1_99 (by decide) rfl (Nat.le_of_ble_eq_true rfl) (fg_k hg) (by decide) rfl (fg_two hg) (fg_lt hg hN) (Nat.le_of_ble_eq_true rfl) (Nat.le_of_ble_eq_true rfl) (Nat.le_of_ble_eq_true rfl) dX1_plan_153 (w_X1_appP (by exact hn) hg hN hs ?_)
      refine a_vret dX1_plan_156 rfl (by first | exact h | (rw [if_neg (fun z => c_134 ((lg_cmp_eq _ _).mpr z))] at h; exact h) | (rw [if_pos ((lg_cmp_eq _ _).mp (Classical.not_not.mp (fun z => z c_134))), if_neg (bI_z.mp c_147)] at h; exact h) | (rw [if_pos ((lg_cmp_eq _ _).mp (Classical.not_not.mp (fun z => z c_134))), if_pos (bI_nz.mp c_147)] at h; exact h))
theorem w_X1_plan_n {M : Mem} {N : Nat} {Q : Option Value → Nat → Mem → Prop} {g q : Nat} (hg : FgR g) (hq : ShR q) {gv : Int64}  (hN : 94 ≤ N) (hs : Str M.2.2.1) (h : Q (none) N (plT M g q gv (-1))) : AW mX1_plan 2 0 0 N 0 [(0, .ref g), (1, .ref q), (2, .long gv), (4, .int (-1))] [] M Q := by
  refine a_aload_n dX1_plan_0 rfl ?_
  refine a_lload_n dX1_plan_1 rfl ?_
  refine a_putJ kfX1_45 (fg_k hg) rfl rfl (fg_two hg) (fg_lt hg hN) dX1_plan_2 ?_
  refine a_aload_n dX1_plan_5 rfl ?_
  refine a_iconst (v := 0) dX1_plan_6 (by decide) ?_
  refine a_putI kfX1_88 (fg_k hg) rfl rfl (fg_two hg) (fg_lt hg hN) dX1_plan_7 ?_
  refine a_iconst (v := 0) dX1_plan_10 (by decide) ?_
  refine a_istore dX1_plan_11 (by decide) ?_
  rw [wp_0]
  refine AW.sub (L' := [(0, .ref g), (1, .ref q), (2, .long gv), (4, .int (-1)), (5, .int (nI 0))]) rfl ?_
  exact l_X1_planR hg hq hN hs 64 0 _ (by omega) (Nat.zero_le _) (fun t ht => by subst ht; exact l_X1_planE_n (plR_n 64 (Nat.zero_le _)) hg hq hN hs rfl h)

theorem m1_no {c : Nat} (hc : c < 64) : ¬ nI c = -1 := fun z => by
  have := congrArg Int32.toInt z
  rw [nIt (by omega), tI_m1] at this
  omega
theorem w_X1_plan_c {M : Mem} {N : Nat} {Q : Option Value → Nat → Mem → Prop} {g q : Nat} (hg : FgR g) (hq : ShR q) {gv : Int64} {c : Nat} (hc : c < 64)  (hN : 94 ≤ N) (hs : Str M.2.2.1) (h : Q (none) N (plT M g q gv (nI c))) : AW mX1_plan 2 0 0 N 0 [(0, .ref g), (1, .ref q), (2, .long gv), (4, .int (nI c))] [] M Q := by
  refine a_aload_n dX1_plan_0 rfl ?_
  refine a_lload_n dX1_plan_1 rfl ?_
  refine a_putJ kfX1_45 (fg_k hg) rfl rfl (fg_two hg) (fg_lt hg hN) dX1_plan_2 ?_
  refine a_aload_n dX1_plan_5 rfl ?_
  refine a_iconst (v := 0) dX1_plan_6 (by decide) ?_
  refine a_putI kfX1_88 (fg_k hg) rfl rfl (fg_two hg) (fg_lt hg hN) dX1_plan_7 ?_
  refine a_iconst (v := 0) dX1_plan_10 (by decide) ?_
  refine a_istore dX1_plan_11 (by decide) ?_
  rw [wp_0]
  refine AW.sub (L' := [(0, .ref g), (1, .ref q), (2, .long gv), (4, .int (nI c)), (5, .int (nI 0))]) rfl ?_
  exact l_X1_planR hg hq hN hs 64 0 _ (by omega) (Nat.zero_le _) (fun t ht => by subst ht; exact l_X1_planE_c (plR_n 64 (Nat.zero_le _)) hg hq hN hs hc (m1_no hc) h)

/-! figures by their rows: the figures, the errors -/
abbrev FS : Type := (Nat → Int64) × (Nat → Int32)
def wf (M : Mem) (g : Nat) (s : FS) : Mem := (fun a j => if a = g + 3 then s.2 j else M.1 a j, fun a j => if a = g + 2 then s.1 j else M.2.1 a j, M.2.2)
theorem wf_rI {M : Mem} {g a j : Nat} {s : FS} (h : a ≠ g + 3) : rI (wf M g s) a j = rI M a j := by simp [rI, wf, h]
theorem wf_rJ {M : Mem} {g a j : Nat} {s : FS} (h : a ≠ g + 2) : rJ (wf M g s) a j = rJ M a j := by simp [rJ, wf, h]
theorem wf_re {M : Mem} {g j : Nat} {s : FS} : rI (wf M g s) (g + 3) j = s.2 j := by simp [rI, wf]
theorem wf_rf {M : Mem} {g j : Nat} {s : FS} : rJ (wf M g s) (g + 2) j = s.1 j := by simp [rJ, wf]
def fup (s : FS) (k : Nat) (x : Int64) (e : Int32) : FS := (fun j => if j = k then x else s.1 j, fun j => if j = k then e else s.2 j)
theorem wf_P {M : Mem} {g k : Nat} {s : FS} {x : Int64} {e : Int32} : sI (sJ (wf M g s) (g + 2) k x) (g + 3) k e = wf M g (fup s k x e) := by
  unfold sI sJ wf up2 fup
  refine Prod.ext ?_ (Prod.ext ?_ rfl)
  · funext a j
    by_cases ha : a = g + 3
    · subst ha; by_cases hj : j = k <;> simp [hj]
    · simp [ha]
  · funext a j
    by_cases ha : a = g + 2
    · subst ha; by_cases hj : j = k <;> simp [hj]
    · simp [ha]
theorem wf_id {M : Mem} {g : Nat} : wf M g (rJ M (g + 2), rI M (g + 3)) = M := by
  unfold wf
  refine Prod.ext ?_ (Prod.ext ?_ rfl)
  · funext a j
    by_cases ha : a = g + 3
    · subst ha; simp [rI]
    · simp [ha]
  · funext a j
    by_cases ha : a = g + 2
    · subst ha; simp [rJ]
    · simp [ha]
/-- what a cell holds by itself -/
def lyC (M : Mem) (q v c : Nat) : Int64 × Int32 := if hb (rJ M 5 2) (nI c) = true then ((rI M 6 (v * 64 + c)).toInt64, 0) else if rI M (q + 2) c = 2 then (0, 1) else ((rI M (q + 3) c).toInt64, 0)
def lyF (M : Mem) (q v : Nat) : Nat → FS → FS
  | 0, s => s
  | c + 1, s => fup (lyF M q v c s) (v * 64 + c) (lyC M q v c).1 (lyC M q v c).2
theorem sh_g {q g k a : Nat} (hq : ShR q) (hg : FgR g) (hk : k ≤ 5) : q + k ≠ g + 2 ∧ q + k ≠ g + 3 ∧ 5 ≠ g + 2 ∧ 5 ≠ g + 3 ∧ 6 ≠ g + 3 ∧ 5 ≠ g ∧ 5 ≠ g + 4 := by
  obtain ⟨s, h6, rfl⟩ := hq
  rcases hg with rfl | rfl | rfl <;> omega
theorem l_X1_layHeld {M : Mem} {N : Nat} {Q : Option Value → Nat → Mem → Prop} {s : FS} {g q : Nat} (hg : FgR g) (hq : ShR q) {v : Nat} (hv : v < 6) (hvw : (v : Int) < (rI M 5 4).toInt) (hN : 94 ≤ N) (hs : Str M.2.2.1) (h : Q none N (wf M g (lyF M q v 64 s))) : ∀ (r k : Nat), k + r = 64 → AW mX1_layHeld 2 0 0 N 2 [(0, .ref g), (1, .ref q), (2, .int (nI v)), (3, .int (nI k))] [] (wf M g (lyF M q v k s)) Q := by
  intro r
  induction r with
  | zero =>
    intro k hk
    refine a_iload_n dX1_layHeld_2 rfl ?_
    refine a_bipush (v := 64) dX1_layHeld_3 (by decide) ?_
    refine a_icmp_ge (tgt := 78) dX1_layHeld_5 (by decide) (fun c_5 => ?_) (fun c_5 => absurd (nI_le (a := 64) (by omega) (by omega)) c_5)
    refine a_vret dX1_layHeld_78 rfl (by rw [show k = 64 by omega]; exact h)
  | succ r ih =>
    intro k hk
    have hk6 : k < 64 := by omega
    have hvw2 : (v : Int) < (rI (wf M g (lyF M q v k s)) 5 4).toInt := by rw [wf_rI (sh_g (a := 0) hq hg (Nat.zero_le 5)).2.2.2.1]; exact hvw
    have nxt : ∀ {x : Int64} {e : Int32}, lyC M q v k = (x, e) → wf M g (fup (lyF M q v k s) (v * 64 + k) x e) = wf M g (lyF M q v (k + 1) s) := fun hxe => by rw [show lyF M q v (k + 1) s = fup (lyF M q v k s) (v * 64 + k) (lyC M q v k).1 (lyC M q v k).2 from rfl, hxe]
    refine a_iload_n dX1_layHeld_2 rfl ?_
    refine a_bipush (v := 64) dX1_layHeld_3 (by decide) ?_
    refine a_icmp_ge (tgt := 78) dX1_layHeld_5 (by decide) (fun c_5 => absurd c_5 (nI_ge (b := 64) (by omega) (by decide))) (fun c_5 => ?_)
    refine a_aload_n dX1_layHeld_8 rfl ?_
    refine a_getA (z := 5) kfX1_9 (fg_k hg) rfl (fg_0 hs hg) (fg_two hg) (fg_lt hg hN) dX1_layHeld_9 ?_
    refine a_iload_n dX1_layHeld_12 rfl ?_
    refine a_callV (mc1 := 0) (ms1 := 0) (As := [_]) kpX4_isInput kmX1_103 (by decide) rfl (Nat.le_of_ble_eq_true rfl) rfl (by decide) rfl (by decide) (hlt hN (by decide)) (Nat.le_of_ble_eq_true rfl) (Nat.le_of_ble_eq_true rfl) (Nat.le_of_ble_eq_true rfl) dX1_layHeld_13 (w_X4_isInput hN (by exact hs) ?_)
    rw [wf_rJ (sh_g (a := 0) hq hg (Nat.zero_le 5)).2.2.1]
    refine a_if_eq (tgt := 39) dX1_layHeld_16 (by decide) (fun c_16 => ?_) (fun c_16 => ?_)
    · refine a_aload_n dX1_layHeld_39 rfl ?_
      refine a_iload_n dX1_layHeld_40 rfl ?_
      refine a_callV (mc1 := 0) (ms1 := 0) (As := [_]) kpX7_heldAt kmX1_113 (by decide) rfl (Nat.le_of_ble_eq_true rfl) (sh_k hq) (by decide) rfl (sh_two hq) (sh_lt hq hN) (Nat.le_of_ble_eq_true rfl) (Nat.le_of_ble_eq_true rfl) (Nat.le_of_ble_eq_true rfl) dX1_layHeld_41 (w_X7_heldAt hq hk6 hN (by exact hs) ?_)
      rw [wf_rI (sh_g (a := 0) hq hg (show 2 ≤ 5 by decide)).2.1]
      refine a_iconst (v := 2) dX1_layHeld_44 (by decide) ?_
      refine a_icmp_ne (tgt := 59) dX1_layHeld_45 (by decide) (fun c_45 => ?_) (fun c_45 => ?_)
      · refine a_aload_n dX1_layHeld_59 rfl ?_
        refine a_iload_n dX1_layHeld_60 rfl ?_
        refine a_iload_n dX1_layHeld_61 rfl ?_
        refine a_aload_n dX1_layHeld_62 rfl ?_
        refine a_iload_n dX1_layHeld_63 rfl ?_
        refine a_callV (mc1 := 0) (ms1 := 0) (As := [_]) kpX7_numberAt kmX1_117 (by decide) rfl (Nat.le_of_ble_eq_true rfl) (sh_k hq) (by decide) rfl (sh_two hq) (sh_lt hq hN) (Nat.le_of_ble_eq_true rfl) (Nat.le_of_ble_eq_true rfl) (Nat.le_of_ble_eq_true rfl) dX1_layHeld_64 (w_X7_numberAt hq hk6 hN (by exact hs) ?_)
        rw [wf_rI (sh_g (a := 0) hq hg (show 3 ≤ 5 by decide)).2.1]
        refine a_i2l dX1_layHeld_67 rfl ?_
        refine a_iconst (v := 0) dX1_layHeld_68 (by decide) ?_
        refine a_callV (mc1 := 0) (ms1 := 0) (As := [_, _, _, _]) kpX1_put kmX1_109 (by decide) rfl (Nat.le_of_ble_eq_true rfl) (fg_k hg) (by decide) rfl (fg_two hg) (fg_lt hg hN) (Nat.le_of_ble_eq_true rfl) (Nat.le_of_ble_eq_true rfl) (Nat.le_of_ble_eq_true rfl) dX1_layHeld_69 (w_X1_put hg hv hk6 hN (by exact hs) ?_)
        refine a_iinc dX1_layHeld_72 rfl rfl (by decide) ?_
        refine a_goto (tgt := 2) dX1_layHeld_75 (by decide) ?_
        rw [wf_P]
        rw [show nI k + Int32.ofInt 1 = nI (k + 1) from nI_1 k]
        refine AW.sub (L' := [(0, .ref g), (1, .ref q), (2, .int (nI v)), (3, .int (nI (k + 1)))]) rfl ?_
        rw [nxt]
        · exact ih (k + 1) (by omega)
        unfold lyC
        first | rw [if_pos (bI_nz.mp c_16)] | rw [if_neg (bI_z.mp c_16), if_pos (Classical.not_not.mp (fun z => c_45 z))] | rw [if_neg (bI_z.mp c_16), if_pos c_45] | rw [if_neg (bI_z.mp c_16), if_neg c_45]
      · refine a_aload_n dX1_layHeld_48 rfl ?_
        refine a_iload_n dX1_layHeld_49 rfl ?_
        refine a_iload_n dX1_layHeld_50 rfl ?_
        refine a_lconst (v := 0) dX1_layHeld_51 (by decide) ?_
        refine a_iconst (v := 1) dX1_layHeld_52 (by decide) ?_
        refine a_callV (mc1 := 0) (ms1 := 0) (As := [_, _, _, _]) kpX1_put kmX1_109 (by decide) rfl (Nat.le_of_ble_eq_true rfl) (fg_k hg) (by decide) rfl (fg_two hg) (fg_lt hg hN) (Nat.le_of_ble_eq_true rfl) (Nat.le_of_ble_eq_true rfl) (Nat.le_of_ble_eq_true rfl) dX1_layHeld_53 (w_X1_put hg hv hk6 hN (by exact hs) ?_)
        refine a_goto (tgt := 72) dX1_layHeld_56 (by decide) ?_
        refine a_iinc dX1_layHeld_72 rfl rfl (by decide) ?_
        refine a_goto (tgt := 2) dX1_layHeld_75 (by decide) ?_
        rw [wf_P]
        rw [show nI k + Int32.ofInt 1 = nI (k + 1) from nI_1 k]
        refine AW.sub (L' := [(0, .ref g), (1, .ref q), (2, .int (nI v)), (3, .int (nI (k + 1)))]) rfl ?_
        rw [nxt]
        · exact ih (k + 1) (by omega)
        unfold lyC
        first | rw [if_pos (bI_nz.mp c_16)] | rw [if_neg (bI_z.mp c_16), if_pos (Classical.not_not.mp (fun z => c_45 z))] | rw [if_neg (bI_z.mp c_16), if_pos c_45] | rw [if_neg (bI_z.mp c_16), if_neg c_45]
    · refine a_aload_n dX1_layHeld_19 rfl ?_
      refine a_iload_n dX1_layHeld_20 rfl ?_
      refine a_iload_n dX1_layHeld_21 rfl ?_
      refine a_aload_n dX1_layHeld_22 rfl ?_
      refine a_getA (z := 5) kfX1_9 (fg_k hg) rfl (fg_0 hs hg) (fg_two hg) (fg_lt hg hN) dX1_layHeld_23 ?_
      refine a_iload_n dX1_layHeld_26 rfl ?_
      refine a_iload_n dX1_layHeld_27 rfl ?_
      refine a_callV (mc1 := 0) (ms1 := 0) (As := [_, _]) kpX4_given kmX1_106 (by decide) rfl (Nat.le_of_ble_eq_true rfl) rfl (by decide) rfl (by decide) (hlt hN (by decide)) (Nat.le_of_ble_eq_true rfl) (Nat.le_of_ble_eq_true rfl) (Nat.le_of_ble_eq_true rfl) dX1_layHeld_28 (w_X4_given hv (by exact hvw2) hk6 hN (by exact hs) ?_)
      rw [wf_rI (sh_g (a := 0) hq hg (Nat.zero_le 5)).2.2.2.2.1]
      refine a_i2l dX1_layHeld_31 rfl ?_
      refine a_iconst (v := 0) dX1_layHeld_32 (by decide) ?_
      refine a_callV (mc1 := 0) (ms1 := 0) (As := [_, _, _, _]) kpX1_put kmX1_109 (by decide) rfl (Nat.le_of_ble_eq_true rfl) (fg_k hg) (by decide) rfl (fg_two hg) (fg_lt hg hN) (Nat.le_of_ble_eq_true rfl) (Nat.le_of_ble_eq_true rfl) (Nat.le_of_ble_eq_true rfl) dX1_layHeld_33 (w_X1_put hg hv hk6 hN (by exact hs) ?_)
      refine a_goto (tgt := 72) dX1_layHeld_36 (by decide) ?_
      refine a_iinc dX1_layHeld_72 rfl rfl (by decide) ?_
      refine a_goto (tgt := 2) dX1_layHeld_75 (by decide) ?_
      rw [wf_P]
      rw [show nI k + Int32.ofInt 1 = nI (k + 1) from nI_1 k]
      refine AW.sub (L' := [(0, .ref g), (1, .ref q), (2, .int (nI v)), (3, .int (nI (k + 1)))]) rfl ?_
      rw [nxt]
      · exact ih (k + 1) (by omega)
      unfold lyC
      first | rw [if_pos (bI_nz.mp c_16)] | rw [if_neg (bI_z.mp c_16), if_pos (Classical.not_not.mp (fun z => c_45 z))] | rw [if_neg (bI_z.mp c_16), if_pos c_45] | rw [if_neg (bI_z.mp c_16), if_neg c_45]
theorem w_X1_layHeld {M : Mem} {N : Nat} {Q : Option Value → Nat → Mem → Prop} {s : FS} {g q : Nat} (hg : FgR g) (hq : ShR q) {v : Nat} (hv : v < 6) (hvw : (v : Int) < (rI M 5 4).toInt)  (hN : 94 ≤ N) (hs : Str M.2.2.1) (h : Q (none) N (wf M g (lyF M q v 64 s))) : AW mX1_layHeld 2 0 0 N 0 [(0, .ref g), (1, .ref q), (2, .int (nI v))] [] (wf M g s) Q := by
  refine a_iconst (v := 0) dX1_layHeld_0 (by decide) ?_
  refine a_istore_n dX1_layHeld_1 (by decide) ?_
  refine AW.sub (L' := [(0, .ref g), (1, .ref q), (2, .int (nI v)), (3, .int (nI 0))]) rfl ?_
  exact l_X1_layHeld hg hq hv hvw hN hs h 64 0 (by omega)

