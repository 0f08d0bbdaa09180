/-! THE PLAN of a sheet's cells: what is settled, the order, how many -/
abbrev PS : Type := Int64 × (Nat → Int32) × Nat
def wp (M : Mem) (g : Nat) (s : PS) : Mem := (fun a j => if a = g + 4 then s.2.1 j else if a = g ∧ j = 6 then nI s.2.2 else M.1 a j, fun a j => if a = g ∧ j = 7 then s.1 else M.2.1 a j, M.2.2)
theorem wp_rS {M : Mem} {g : Nat} {s : PS} : rJ (wp M g s) g 7 = s.1 := by simp [rJ, wp]
theorem wp_rN {M : Mem} {g : Nat} {s : PS} : rI (wp M g s) g 6 = nI s.2.2 := by simp [rI, wp]
theorem wp_rO {M : Mem} {g j : Nat} {s : PS} : rI (wp M g s) (g + 4) j = s.2.1 j := by simp [rI, wp]
theorem wp_rJ {M : Mem} {g a j : Nat} {s : PS} (h : a ≠ g) : rJ (wp M g s) a j = rJ M a j := by simp [rJ, wp, h]
theorem wp_rI {M : Mem} {g a j : Nat} {s : PS} (h : a ≠ g) (h2 : a ≠ g + 4) : rI (wp M g s) a j = rI M a j := by simp [rI, wp, h, h2]
theorem wp_S {M : Mem} {g : Nat} {s : PS} {x : Int64} : sJ (wp M g s) g 7 x = wp M g (x, s.2) := by
  unfold sJ wp up2
  refine Prod.ext rfl (Prod.ext ?_ rfl)
  funext a j
  by_cases ha : a = g ∧ j = 7 <;> simp [ha]
theorem wp_A {M : Mem} {g k : Nat} {s : PS} {c : Int32} : sI (sI (wp M g s) (g + 4) k c) g 6 (nI (k + 1)) = wp M g (s.1, (fun j => if j = k then c else s.2.1 j), k + 1) := by
  unfold sI wp up2
  refine Prod.ext ?_ rfl
  funext a j
  by_cases ha : a = g + 4
  · subst ha; by_cases hj : j = k <;> simp [hj]
  · by_cases hb : a = g ∧ j = 6
    · simp [hb]
    · simp [ha, hb]
theorem wp_0 {M : Mem} {g : Nat} {x : Int64} : sI (sJ M g 7 x) g 6 0 = wp M g (x, rI M (g + 4), 0) := by
  unfold sI sJ wp up2
  refine Prod.ext ?_ (Prod.ext ?_ rfl)
  · funext a j
    by_cases ha : a = g + 4
    · subst ha; simp [rI]
    · by_cases hb : a = g ∧ j = 6
      · simp [hb, nI_0]
      · simp [ha, hb]
  · funext a j
    by_cases ha : a = g ∧ j = 7 <;> simp [ha]
def appP (s : PS) (c : Int32) : PS := if s.2.2 < 64 then (s.1, (fun j => if j = s.2.2 then c else s.2.1 j), s.2.2 + 1) else s
theorem appP_n {s : PS} {c : Int32} (h : s.2.2 ≤ 64) : (appP s c).2.2 ≤ 64 := by
  unfold appP
  split
  · show s.2.2 + 1 ≤ 64
    omega
  · exact h
theorem w_X1_appP_o {M : Mem} {N : Nat} {Q : Option Value → Nat → Mem → Prop} {s : PS} (hn : s.2.2 ≤ 64) {g : Nat} (hg : FgR g) (h6 : s.2.2 < 64) {c : Int32}  (hN : 94 ≤ N) (hs : Str M.2.2.1) (h : Q (none) N (wp M g (appP s c))) : AW mX1_append 0 0 0 N 0 [(0, .ref g), (1, .int c)] [] (wp M g s) Q := by
  refine a_aload_n dX1_append_0 rfl ?_
  refine a_getI kfX1_88 (fg_k hg) rfl (fg_two hg) (fg_lt hg hN) dX1_append_1 ?_
  refine a_if_lt (tgt := 39) dX1_append_4 (by decide) (fun c_4 => absurd c_4 (by rw [wp_rN]; exact nI_pos (by omega))) (fun c_4 => ?_)
  refine a_aload_n dX1_append_7 rfl ?_
  refine a_getI kfX1_88 (fg_k hg) rfl (fg_two hg) (fg_lt hg hN) dX1_append_8 ?_
  refine a_aload_n dX1_append_11 rfl ?_
  refine a_getA (z := (g + 4)) kfX1_34 (fg_k hg) rfl (fg_5 hs hg) (fg_two hg) (fg_lt hg hN) dX1_append_12 ?_
  refine a_alen (fg_k5 hg) (by decide) (fg_two5 hg) (fg_lt5 hg hN) (fg_lv5 hg) dX1_append_15 ?_
  refine a_icmp_ge (tgt := 39) dX1_append_16 (by decide) (fun c_16 => absurd c_16 (by rw [wp_rN]; exact nI_ge (b := 64) h6 (by decide))) (fun c_16 => ?_)
  refine a_aload_n dX1_append_19 rfl ?_
  refine a_getA (z := (g + 4)) kfX1_34 (fg_k hg) rfl (fg_5 hs hg) (fg_two hg) (fg_lt hg hN) dX1_append_20 ?_
  refine a_aload_n dX1_append_23 rfl ?_
  refine a_getI kfX1_88 (fg_k hg) rfl (fg_two hg) (fg_lt hg hN) dX1_append_24 ?_
  refine a_iload_n dX1_append_27 rfl ?_
  refine a_iast (fg_k5 hg) (fg_two5 hg) (fg_lt5 hg hN) (by rw [wp_rN, fg_ln5 hg]; exact j64_in h6) dX1_append_28 ?_
  refine a_aload_n dX1_append_29 rfl ?_
  refine a_dup dX1_append_30 rfl ?_
  refine a_getI kfX1_88 (fg_k hg) rfl (fg_two hg) (fg_lt hg hN) dX1_append_31 ?_
  refine a_iconst (v := 1) dX1_append_34 (by decide) ?_
  refine a_iadd dX1_append_35 ?_
  refine a_putI kfX1_88 (fg_k hg) rfl rfl (fg_two hg) (fg_lt hg hN) dX1_append_36 ?_
  refine a_vret dX1_append_39 rfl (by rw [wp_rN, j64_c h6, rI_sI, if_neg (by omega), wp_rN, nI_1, wp_A]; unfold appP at h; rw [if_pos h6] at h; exact h)

theorem w_X1_appP_f {M : Mem} {N : Nat} {Q : Option Value → Nat → Mem → Prop} {s : PS} (hn : s.2.2 ≤ 64) {g : Nat} (hg : FgR g) (h6 : ¬ s.2.2 < 64) {c : Int32}  (hN : 94 ≤ N) (hs : Str M.2.2.1) (h : Q (none) N (wp M g (appP s c))) : AW mX1_append 0 0 0 N 0 [(0, .ref g), (1, .int c)] [] (wp M g s) Q := by
  refine a_aload_n dX1_append_0 rfl ?_
  refine a_getI kfX1_88 (fg_k hg) rfl (fg_two hg) (fg_lt hg hN) dX1_append_1 ?_
  refine a_if_lt (tgt := 39) dX1_append_4 (by decide) (fun c_4 => absurd c_4 (by rw [wp_rN]; exact nI_pos (by omega))) (fun c_4 => ?_)
  refine a_aload_n dX1_append_7 rfl ?_
  refine a_getI kfX1_88 (fg_k hg) rfl (fg_two hg) (fg_lt hg hN) dX1_append_8 ?_
  refine a_aload_n dX1_append_11 rfl ?_
  refine a_getA (z := (g + 4)) kfX1_34 (fg_k hg) rfl (fg_5 hs hg) (fg_two hg) (fg_lt hg hN) dX1_append_12 ?_
  refine a_alen (fg_k5 hg) (by decide) (fg_two5 hg) (fg_lt5 hg hN) (fg_lv5 hg) dX1_append_15 ?_
  refine a_icmp_ge (tgt := 39) dX1_append_16 (by decide) (fun c_16 => ?_) (fun c_16 => absurd (by rw [wp_rN]; exact nI_le (a := 64) (by omega) (by omega)) c_16)
  refine a_vret dX1_append_39 rfl (by unfold appP at h; rw [if_neg h6] at h; exact h)

theorem w_X1_appP {M : Mem} {N : Nat} {Q : Option Value → Nat → Mem → Prop} {s : PS} (hn : s.2.2 ≤ 64) {g : Nat} (hg : FgR g) {c : Int32} (hN : 94 ≤ N) (hs : Str M.2.2.1) (h : Q none N (wp M g (appP s c))) : AW mX1_append 0 0 0 N 0 [(0, .ref g), (1, .int c)] [] (wp M g s) Q := by
  by_cases h6 : s.2.2 < 64
  · exact w_X1_appP_o hn hg h6 hN hs h
  · exact w_X1_appP_f hn hg h6 hN hs h
/-- the cell c, if it can be settled now -/
def plC (s : PS) (x : Int64) (c : Nat) (sub : Int32) : Prop := s.1 &&& bitL (nI c) = 0 ∧ ¬ nI c = sub ∧ x &&& (s.1 ^^^ (-1)) = 0
noncomputable def plA (M : Mem) (q : Nat) (sub : Int32) (c : Nat) (s : PS) : PS := if s.1 &&& bitL (nI c) = 0 then (if nI c = sub then s else if rJ M (q + 5) c &&& (s.1 ^^^ (-1)) = 0 then appP (s.1 ||| bitL (nI c), s.2) (nI c) else s) else s
noncomputable def plW (M : Mem) (q : Nat) (sub : Int32) : Nat → PS → PS
  | 0, s => s
  | c + 1, s => plA M q sub c (plW M q sub c s)
noncomputable def plR (M : Mem) (q : Nat) (sub : Int32) : Nat → PS → PS
  | 0, s => s
  | r + 1, s => if (plW M q sub 64 s).1 = s.1 then plW M q sub 64 s else plR M q sub r (plW M q sub 64 s)
theorem plA_n {M : Mem} {q c : Nat} {sub : Int32} {s : PS} (h : s.2.2 ≤ 64) : (plA M q sub c s).2.2 ≤ 64 := by
  unfold plA
  split
  · split
    · exact h
    · split
      · exact appP_n h
      · exact h
  · exact h
theorem plW_n {M : Mem} {q : Nat} {sub : Int32} {s : PS} (h : s.2.2 ≤ 64) : ∀ c, (plW M q sub c s).2.2 ≤ 64
  | 0 => h
  | c + 1 => plA_n (plW_n h c)
theorem plR_n {M : Mem} {q : Nat} {sub : Int32} : ∀ (r : Nat) {s : PS}, s.2.2 ≤ 64 → (plR M q sub r s).2.2 ≤ 64
  | 0, _, h => h
  | r + 1, s, h => by
    unfold plR
    split
    · exact plW_n h 64
    · exact plR_n r (plW_n h 64)
theorem sg_n {q g k : Nat} (hq : ShR q) (hg : FgR g) (hk : k ≤ 5) : q + k ≠ g ∧ q + k ≠ g + 4 := by
  obtain ⟨s, h6, rfl⟩ := hq
  rcases hg with rfl | rfl | rfl <;> omega
theorem l_X1_planW {M : Mem} {N : Nat} {Q : Option Value → Nat → Mem → Prop} {s : PS} (hn : s.2.2 ≤ 64) {g q : Nat} (hg : FgR g) (hq : ShR q) {gv b6 : Int64} {sub rd : Int32} (hN : 94 ≤ N) (hs : Str M.2.2.1) (h : AW mX1_plan 2 0 0 N 97 [(0, .ref g), (1, .ref q), (2, .long gv), (4, .int sub), (5, .int rd), (6, .long b6)] [] (wp M g (plW M q sub 64 s)) Q) : ∀ (r k : Nat), k + r = 64 → AW mX1_plan 2 0 0 N 29 [(0, .ref g), (1, .ref q), (2, .long gv), (4, .int sub), (5, .int rd), (6, .long b6), (8, .int (nI k))] [] (wp M g (plW M q sub k s)) Q := by
  intro r
  induction r with
  | zero =>
    intro k hk
    refine a_iload dX1_plan_29 rfl ?_
    refine a_bipush (v := 64) dX1_plan_31 (by decide) ?_
    refine a_icmp_ge (tgt := 97) dX1_plan_33 (by decide) (fun c_33 => ?_) (fun c_33 => absurd (nI_le (a := 64) (by omega) (by omega)) c_33)
    rw [show k = 64 by omega]
    refine AW.sub (L' := [(0, .ref g), (1, .ref q), (2, .long gv), (4, .int sub), (5, .int rd), (6, .long b6)]) rfl ?_
    exact h
  | succ r ih =>
    intro k hk
    refine a_iload dX1_plan_29 rfl ?_
    refine a_bipush (v := 64) dX1_plan_31 (by decide) ?_
    refine a_icmp_ge (tgt := 97) dX1_plan_33 (by decide) (fun c_33 => absurd c_33 (nI_ge (b := 64) (by omega) (by decide))) (fun c_33 => ?_)
    refine a_aload_n dX1_plan_36 rfl ?_
    refine a_getJ kfX1_45 (fg_k hg) rfl (fg_two hg) (fg_lt hg hN) dX1_plan_37 ?_
    refine a_iload dX1_plan_40 rfl ?_
    rw [wp_rS]
    refine a_callSN (host := "SheetMarker") (mc1 := 0) (ms1 := 0) (As := [_]) kpX9_bit (by decide +kernel) (by decide) rfl (Nat.le_of_ble_eq_true rfl) (Nat.le_of_ble_eq_true rfl) (Nat.le_of_ble_eq_true rfl) (Nat.le_of_ble_eq_true rfl) dX1_plan_42 (w_X9_bit ?_)
    refine a_land dX1_plan_45 ?_
    refine a_lconst (v := 0) dX1_plan_46 (by decide) ?_
    refine a_lcmp dX1_plan_47 ?_
    refine a_if_ne (tgt := 91) dX1_plan_48 (by decide) (fun c_48 => ?_) (fun c_48 => ?_)
    · refine a_iinc dX1_plan_91 rfl rfl (by decide) ?_
      refine a_goto (tgt := 29) dX1_plan_94 (by decide) ?_
      first | rw [show wp M g (plW M q sub k s) = wp M g (plW M q sub (k + 1) s) from by show _ = wp M g (plA M q sub k (plW M q sub k s)); unfold plA; first | rw [if_neg (fun z => c_48 ((lg_cmp_eq _ _).mpr z))] | rw [if_pos c48, if_pos c_55] | rw [if_pos c48, if_neg c_55, if_neg (bI_z.mp c_68)]] | rw [show wp M g (appP ((plW M q sub k s).1 ||| bitL (nI k), (plW M q sub k s).2) (nI k)) = wp M g (plW M q sub (k + 1) s) from by show _ = wp M g (plA M q sub k (plW M q sub k s)); unfold plA; rw [if_pos c48, if_neg c_55, if_pos (bI_nz.mp c_68)]]
      rw [show nI k + Int32.ofInt 1 = nI (k + 1) from nI_1 k]
      refine AW.sub (L' := [(0, .ref g), (1, .ref q), (2, .long gv), (4, .int sub), (5, .int rd), (6, .long b6), (8, .int (nI (k + 1)))]) rfl ?_
      exact ih (k + 1) (by omega)
    · have c48 : (plW M q sub k s).1 &&& bitL (nI k) = 0 := by rw [lg_cmp_eq] at c_48; exact c_48
      refine a_iload dX1_plan_51 rfl ?_
      refine a_iload dX1_plan_53 rfl ?_
      refine a_icmp_eq (tgt := 91) dX1_plan_55 (by decide) (fun c_55 => ?_) (fun c_55 => ?_)
      · refine a_iinc dX1_plan_91 rfl rfl (by decide) ?_
        refine a_goto (tgt := 29) dX1_plan_94 (by decide) ?_
        first | rw [show wp M g (plW M q sub k s) = wp M g (plW M q sub (k + 1) s) from by show _ = wp M g (plA M q sub k (plW M q sub k s)); unfold plA; first | rw [if_neg (fun z => c_48 ((lg_cmp_eq _ _).mpr z))] | rw [if_pos c48, if_pos c_55] | rw [if_pos c48, if_neg c_55, if_neg (bI_z.mp c_68)]] | rw [show wp M g (appP ((plW M q sub k s).1 ||| bitL (nI k), (plW M q sub k s).2) (nI k)) = wp M g (plW M q sub (k + 1) s) from by show _ = wp M g (plA M q sub k (plW M q sub k s)); unfold plA; rw [if_pos c48, if_neg c_55, if_pos (bI_nz.mp c_68)]]
        rw [show nI k + Int32.ofInt 1 = nI (k + 1) from nI_1 k]
        refine AW.sub (L' := [(0, .ref g), (1, .ref q), (2, .long gv), (4, .int sub), (5, .int rd), (6, .long b6), (8, .int (nI (k + 1)))]) rfl ?_
        exact ih (k + 1) (by omega)
      · refine a_aload_n dX1_plan_58 rfl ?_
        refine a_aload_n dX1_plan_59 rfl ?_
        refine a_iload dX1_plan_60 rfl ?_
        refine a_callV (mc1 := 0) (ms1 := 0) (As := [_]) kpX7_needsAt kmX1_92 (by decide) rfl (Nat.le_of_ble_eq_true rfl) (sh_k hq) (by decide) rfl (sh_two hq) (sh_lt hq hN) (Nat.le_of_ble_eq_true rfl) (Nat.le_of_ble_eq_true rfl) (Nat.le_of_ble_eq_true rfl) dX1_plan_62 (w_X7_needsAt hq (show k < 64 by omega) hN (by exact hs) ?_)
        rw [wp_rJ (sg_n hq hg (by decide)).1]
        refine a_callV (mc1 := 0) (ms1 := 0) (As := [_]) kpX1_settles kmX1_95 (by decide) rfl (Nat.le_of_ble_eq_true rfl) (fg_k hg) (by decide) rfl (fg_two hg) (fg_lt hg hN) (Nat.le_of_ble_eq_true rfl) (Nat.le_of_ble_eq_true rfl) (Nat.le_of_ble_eq_true rfl) dX1_plan_65 (w_X1_settles hg hN (by exact hs) ?_)
        rw [wp_rS]
        refine a_if_eq (tgt := 91) dX1_plan_68 (by decide) (fun c_68 => ?_) (fun c_68 => ?_)
        · refine a_iinc dX1_plan_91 rfl rfl (by decide) ?_
          refine a_goto (tgt := 29) dX1_plan_94 (by decide) ?_
          first | rw [show wp M g (plW M q sub k s) = wp M g (plW M q sub (k + 1) s) from by show _ = wp M g (plA M q sub k (plW M q sub k s)); unfold plA; first | rw [if_neg (fun z => c_48 ((lg_cmp_eq _ _).mpr z))] | rw [if_pos c48, if_pos c_55] | rw [if_pos c48, if_neg c_55, if_neg (bI_z.mp c_68)]] | rw [show wp M g (appP ((plW M q sub k s).1 ||| bitL (nI k), (plW M q sub k s).2) (nI k)) = wp M g (plW M q sub (k + 1) s) from by show _ = wp M g (plA M q sub k (plW M q sub k s)); unfold plA; rw [if_pos c48, if_neg c_55, if_pos (bI_nz.mp c_68)]]
          rw [show nI k + Int32.ofInt 1 = nI (k + 1) from nI_1 k]
          refine AW.sub (L' := [(0, .ref g), (1, .ref q), (2, .long gv), (4, .int sub), (5, .int rd), (6, .long b6), (8, .int (nI (k + 1)))]) rfl ?_
          exact ih (k + 1) (by omega)
        · refine a_aload_n dX1_plan_71 rfl ?_
          refine a_dup dX1_plan_72 rfl ?_
          refine a_getJ kfX1_45 (fg_k hg) rfl (fg_two hg) (fg_lt hg hN) dX1_plan_73 ?_
          refine a_iload dX1_plan_76 rfl ?_
          refine a_callSN (host := "SheetMarker") (mc1 := 0) (ms1 := 0) (As := [_]) kpX9_bit (by decide +kernel) (by decide) rfl (Nat.le_of_ble_eq_true rfl) (Nat.le_of_ble_eq_true rfl) (Nat.le_of_ble_eq_true rfl) (Nat.le_of_ble_eq_true rfl) dX1_plan_78 (w_X9_bit ?_)
          refine a_lor dX1_plan_81 ?_
          refine a_putJ kfX1_45 (fg_k hg) rfl rfl (fg_two hg) (fg_lt hg hN) dX1_plan_82 ?_
          rw [wp_rS, wp_S]
          refine a_aload_n dX1_plan_85 rfl ?_
          refine a_iload dX1_plan_86 rfl ?_
          refine a_callV (mc1 := 0) (ms1 := 0) (As := [_]) kpX1_append kmX1_99 (by decide) rfl (Nat.le_of_ble_eq_true rfl) (fg_k hg) (by decide) rfl (fg_two hg) (fg_lt hg hN) (Nat.le_of_ble_eq_true rfl) (Nat.le_of_ble_eq_true rfl) (Nat.le_of_ble_eq_true rfl) dX1_plan_88 (w_X1_appP (s := ((plW M q sub k s).1 ||| bitL (nI k), (plW M q sub k s).2)) (by exact plW_n hn k) hg hN hs ?_)
          refine a_iinc dX1_plan_91 rfl rfl (by decide) ?_
          refine a_goto (tgt := 29) dX1_plan_94 (by decide) ?_
          first | rw [show wp M g (plW M q sub k s) = wp M g (plW M q sub (k + 1) s) from by show _ = wp M g (plA M q sub k (plW M q sub k s)); unfold plA; first | rw [if_neg (fun z => c_48 ((lg_cmp_eq _ _).mpr z))] | rw [if_pos c48, if_pos c_55] | rw [if_pos c48, if_neg c_55, if_neg (bI_z.mp c_68)]] | rw [show wp M g (appP ((plW M q sub k s).1 ||| bitL (nI k), (plW M q sub k s).2) (nI k)) = wp M g (plW M q sub (k + 1) s) from by show _ = wp M g (plA M q sub k (plW M q sub k s)); unfold plA; rw [if_pos c48, if_neg c_55, if_pos (bI_nz.mp c_68)]]
          rw [show nI k + Int32.ofInt 1 = nI (k + 1) from nI_1 k]
          refine AW.sub (L' := [(0, .ref g), (1, .ref q), (2, .long gv), (4, .int sub), (5, .int rd), (6, .long b6), (8, .int (nI (k + 1)))]) rfl ?_
          exact ih (k + 1) (by omega)
theorem l_X1_planR {M : Mem} {N : Nat} {Q : Option Value → Nat → Mem → Prop} {g q : Nat} (hg : FgR g) (hq : ShR q) {gv : Int64} {sub : Int32} (hN : 94 ≤ N) (hs : Str M.2.2.1) : ∀ (r k : Nat) (s : PS), k + r = 64 → s.2.2 ≤ 64 → (∀ t : PS, t = plR M q sub r s → AW mX1_plan 2 0 0 N 116 [(0, .ref g), (1, .ref q), (2, .long gv), (4, .int sub)] [] (wp M g t) Q) → AW mX1_plan 2 0 0 N 13 [(0, .ref g), (1, .ref q), (2, .long gv), (4, .int sub), (5, .int (nI k))] [] (wp M g s) Q := by
  intro r
  induction r with
  | zero =>
    intro k s hk hn h
    refine a_iload dX1_plan_13 rfl ?_
    refine a_bipush (v := 64) dX1_plan_15 (by decide) ?_
    refine a_icmp_ge (tgt := 116) dX1_plan_17 (by decide) (fun c_17 => ?_) (fun c_17 => absurd (nI_le (a := 64) (by omega) (by omega)) c_17)
    refine AW.sub (L' := [(0, .ref g), (1, .ref q), (2, .long gv), (4, .int sub)]) rfl ?_
    exact h _ rfl
  | succ r ih =>
    intro k s hk hn h
    refine a_iload dX1_plan_13 rfl ?_
    refine a_bipush (v := 64) dX1_plan_15 (by decide) ?_
    refine a_icmp_ge (tgt := 116) dX1_plan_17 (by decide) (fun c_17 => absurd c_17 (nI_ge (b := 64) (by omega) (by decide))) (fun c_17 => ?_)
    refine a_aload_n dX1_plan_20 rfl ?_
    refine a_getJ kfX1_45 (fg_k hg) rfl (fg_two hg) (fg_lt hg hN) dX1_plan_21 ?_
    refine a_lstore dX1_plan_24 (by decide) ?_
    refine a_iconst (v := 0) dX1_plan_26 (by decide) ?_
    refine a_istore dX1_plan_27 (by decide) ?_
    rw [wp_rS]
    refine AW.sub (L' := [(0, .ref g), (1, .ref q), (2, .long gv), (4, .int sub), (5, .int (nI k)), (6, .long s.1), (8, .int (nI 0))]) rfl ?_
    refine l_X1_planW hn hg hq hN hs ?_ 64 0 (by omega)
    refine a_aload_n dX1_plan_97 rfl ?_
    refine a_getJ kfX1_45 (fg_k hg) rfl (fg_two hg) (fg_lt hg hN) dX1_plan_98 ?_
    refine a_lload dX1_plan_101 rfl ?_
    refine a_lcmp dX1_plan_103 ?_
    refine a_if_ne (tgt := 110) dX1_plan_104 (by decide) (fun c_104 => ?_) (fun c_104 => ?_)
    · refine a_iinc dX1_plan_110 rfl rfl (by decide) ?_
      refine a_goto (tgt := 13) dX1_plan_113 (by decide) ?_
      rw [show nI k + Int32.ofInt 1 = nI (k + 1) from nI_1 k]
      refine AW.sub (L' := [(0, .ref g), (1, .ref q), (2, .long gv), (4, .int sub), (5, .int (nI (k + 1)))]) rfl ?_
      exact ih (k + 1) _ (by omega) (plW_n hn 64) (fun t ht => h t (by show t = (if _ then _ else _); rw [if_neg (fun z => c_104 (by rw [wp_rS]; exact (lg_cmp_eq _ _).mpr z))]; exact ht))
    · refine a_goto (tgt := 116) dX1_plan_107 (by decide) ?_
      refine AW.sub (L' := [(0, .ref g), (1, .ref q), (2, .long gv), (4, .int sub)]) rfl ?_
      exact h _ (by show _ = (if _ then _ else _); rw [if_pos (by rw [wp_rS] at c_104; exact (lg_cmp_eq _ _).mp (Classical.not_not.mp (fun z => z c_104)))])
