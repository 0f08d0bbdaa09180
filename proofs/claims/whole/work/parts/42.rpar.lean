/-! the reference's reader: at, bad, badAt, made, top, open, rows (cells 82 to 88) -/
abbrev RS : Type := Nat × Nat × Nat × Nat × Nat × Int32 × (Nat → Nat → Int32)
def wr (M : Mem) (s : RS) : Mem := (fun a j => if a = 64 then (if j = 22 then nI s.1 else if j = 24 then nI s.2.1 else if j = 25 then nI s.2.2.1 else if j = 26 then nI s.2.2.2.1 else if j = 27 then nI s.2.2.2.2.1 else if j = 28 then s.2.2.2.2.2.1 else M.1 a j) else if 82 ≤ a ∧ a ≤ 88 then s.2.2.2.2.2.2 a j else M.1 a j, M.2)
theorem wr_o {M : Mem} {s : RS} {a j : Nat} (h : a ≠ 64) (h2 : ¬ (82 ≤ a ∧ a ≤ 88)) : rI (wr M s) a j = rI M a j := by
  show (if a = 64 then _ else if 82 ≤ a ∧ a ≤ 88 then _ else _) = _
  rw [if_neg h, if_neg h2]
  rfl
theorem wr_r {M : Mem} {s : RS} {a j : Nat} (h2 : 82 ≤ a ∧ a ≤ 88) : rI (wr M s) a j = s.2.2.2.2.2.2 a j := by
  show (if a = 64 then _ else if 82 ≤ a ∧ a ≤ 88 then _ else _) = _
  rw [if_neg (by omega), if_pos h2]
theorem wr_s {M : Mem} {s : RS} {a j : Nat} {v : Int32} (h2 : 82 ≤ a ∧ a ≤ 88) : sI (wr M s) a j v = wr M (s.1, s.2.1, s.2.2.1, s.2.2.2.1, s.2.2.2.2.1, s.2.2.2.2.2.1, up2 s.2.2.2.2.2.2 a j v) := by
  refine Prod.ext ?_ rfl
  funext b k
  show (if b = a ∧ k = j then v else (wr M s).1 b k) = _
  unfold wr up2
  dsimp only
  by_cases hb : b = a ∧ k = j
  · rw [if_pos hb, if_neg (by omega), if_pos (by omega), if_pos hb]
  · rw [if_neg hb, if_neg hb]
theorem wr_at {M : Mem} {s : RS} : rI (wr M s) 64 22 = nI s.1 := rfl
theorem wr_sat {M : Mem} {s : RS} {v : Nat} : sI (wr M s) 64 22 (nI v) = wr M (v, s.2) := by
  refine Prod.ext ?_ rfl
  funext b k
  show (if b = 64 ∧ k = 22 then nI v else (wr M s).1 b k) = _
  unfold wr
  dsimp only
  by_cases hb : b = 64
  · subst hb
    by_cases hk : k = 22
    · subst hk; rfl
    · rw [if_neg (fun z => hk z.2), if_pos rfl, if_pos rfl]
      simp only [hk, if_false]
  · rw [if_neg (fun z => hb z.1), if_neg hb, if_neg hb]
theorem wr_bad {M : Mem} {s : RS} : rI (wr M s) 64 24 = nI s.2.1 := rfl
theorem wr_sbad {M : Mem} {s : RS} {v : Nat} : sI (wr M s) 64 24 (nI v) = wr M (s.1, v, s.2.2) := by
  refine Prod.ext ?_ rfl
  funext b k
  show (if b = 64 ∧ k = 24 then nI v else (wr M s).1 b k) = _
  unfold wr
  dsimp only
  by_cases hb : b = 64
  · subst hb
    by_cases hk : k = 24
    · subst hk; rfl
    · rw [if_neg (fun z => hk z.2), if_pos rfl, if_pos rfl]
      simp only [hk, if_false]
  · rw [if_neg (fun z => hb z.1), if_neg hb, if_neg hb]
theorem wr_ba {M : Mem} {s : RS} : rI (wr M s) 64 25 = nI s.2.2.1 := rfl
theorem wr_sba {M : Mem} {s : RS} {v : Nat} : sI (wr M s) 64 25 (nI v) = wr M (s.1, s.2.1, v, s.2.2.2) := by
  refine Prod.ext ?_ rfl
  funext b k
  show (if b = 64 ∧ k = 25 then nI v else (wr M s).1 b k) = _
  unfold wr
  dsimp only
  by_cases hb : b = 64
  · subst hb
    by_cases hk : k = 25
    · subst hk; rfl
    · rw [if_neg (fun z => hk z.2), if_pos rfl, if_pos rfl]
      simp only [hk, if_false]
  · rw [if_neg (fun z => hb z.1), if_neg hb, if_neg hb]
theorem wr_md {M : Mem} {s : RS} : rI (wr M s) 64 26 = nI s.2.2.2.1 := rfl
theorem wr_smd {M : Mem} {s : RS} {v : Nat} : sI (wr M s) 64 26 (nI v) = wr M (s.1, s.2.1, s.2.2.1, v, s.2.2.2.2) := by
  refine Prod.ext ?_ rfl
  funext b k
  show (if b = 64 ∧ k = 26 then nI v else (wr M s).1 b k) = _
  unfold wr
  dsimp only
  by_cases hb : b = 64
  · subst hb
    by_cases hk : k = 26
    · subst hk; rfl
    · rw [if_neg (fun z => hk z.2), if_pos rfl, if_pos rfl]
      simp only [hk, if_false]
  · rw [if_neg (fun z => hb z.1), if_neg hb, if_neg hb]
theorem wr_tp {M : Mem} {s : RS} : rI (wr M s) 64 27 = nI s.2.2.2.2.1 := rfl
theorem wr_stp {M : Mem} {s : RS} {v : Nat} : sI (wr M s) 64 27 (nI v) = wr M (s.1, s.2.1, s.2.2.1, s.2.2.2.1, v, s.2.2.2.2.2) := by
  refine Prod.ext ?_ rfl
  funext b k
  show (if b = 64 ∧ k = 27 then nI v else (wr M s).1 b k) = _
  unfold wr
  dsimp only
  by_cases hb : b = 64
  · subst hb
    by_cases hk : k = 27
    · subst hk; rfl
    · rw [if_neg (fun z => hk z.2), if_pos rfl, if_pos rfl]
      simp only [hk, if_false]
  · rw [if_neg (fun z => hb z.1), if_neg hb, if_neg hb]
theorem wr_op {M : Mem} {s : RS} : rI (wr M s) 64 28 = s.2.2.2.2.2.1 := rfl
theorem wr_sop {M : Mem} {s : RS} {v : Int32} : sI (wr M s) 64 28 v = wr M (s.1, s.2.1, s.2.2.1, s.2.2.2.1, s.2.2.2.2.1, v, s.2.2.2.2.2.2) := by
  refine Prod.ext ?_ rfl
  funext b k
  show (if b = 64 ∧ k = 28 then v else (wr M s).1 b k) = _
  unfold wr
  dsimp only
  by_cases hb : b = 64
  · subst hb
    by_cases hk : k = 28
    · subst hk; rfl
    · rw [if_neg (fun z => hk z.2), if_pos rfl, if_pos rfl]
      simp only [hk, if_false]
  · rw [if_neg (fun z => hb z.1), if_neg hb, if_neg hb]
theorem wr_en {M : Mem} {s : RS} : rI (wr M s) 64 23 = rI M 64 23 := rfl
/-- the byte that is here, of n -/
def hrR (u : Nat → Int32) (n : Nat) (s : RS) : Int32 := if s.1 < n then u s.1 &&& 255 else 0
def flR (w : Nat) (s : RS) : RS := if s.2.1 = 0 then (s.1, w, s.1, s.2.2.2) else s
def puR (o a b p q : Int32) (s : RS) : RS := (s.1, s.2.1, s.2.2.1, s.2.2.2.1 + 1, s.2.2.2.2.1, s.2.2.2.2.2.1, up2 (up2 (up2 (up2 (up2 s.2.2.2.2.2.2 82 s.2.2.2.1 o) 83 s.2.2.2.1 a) 84 s.2.2.2.1 b) 85 s.2.2.2.1 p) 86 s.2.2.2.1 q)
def waR (w p : Int32) (s : RS) : RS := (s.1, s.2.1, s.2.2.1, s.2.2.2.1, s.2.2.2.2.1 + 1, s.2.2.2.2.2.1, up2 (up2 s.2.2.2.2.2.2 87 s.2.2.2.2.1 w) 88 s.2.2.2.2.1 p)
def tdR (s : RS) : RS := (s.1, s.2.1, s.2.2.1, s.2.2.2.1, s.2.2.2.2.1 - 1, s.2.2.2.2.2)
def joR (s : RS) : RS := puR (s.2.2.2.2.2.2 87 (s.2.2.2.2.1 - 1)) 0 0 (s.2.2.2.2.2.2 88 (s.2.2.2.2.1 - 1)) (-1) (tdR s)
def avR (s : RS) : RS := (s.1 + 1, s.2)
def opU (s : RS) : RS := (s.1, s.2.1, s.2.2.1, s.2.2.2.1, s.2.2.2.2.1, s.2.2.2.2.2.1 + 1, s.2.2.2.2.2.2)
def opD (s : RS) : RS := (s.1, s.2.1, s.2.2.1, s.2.2.2.1, s.2.2.2.2.1, s.2.2.2.2.2.1 - 1, s.2.2.2.2.2.2)
def opR (w : Int32) (s : RS) : RS := avR (opU (waR w (-1) (if s.2.2.2.2.2.1 = 6 then flR 2 s else s)))
def muR (u : Nat → Int32) (n : Nat) (c : Int32) (s : RS) : RS := avR (if hrR u n s = c ∧ s.1 < n then s else flR 1 s)
theorem w_X10_here {M : Mem} {N : Nat} {Q : Option Value → Nat → Mem → Prop} {n : Nat} (hn : n ≤ 40) (he : rI M 64 23 = nI n) {s : RS} (hb1 : s.1 < 1000)  (hN : 94 ≤ N) (hs : Str M.2.2.1) (h : Q (some (.int (hrR (rI M 65) n s))) N ((wr M s))) : AW mX10_here 0 0 0 N 0 [(0, .ref 64)] [] (wr M s) Q := by
  have hlt_of : ¬ nI n ≤ nI s.1 → s.1 < n := fun c => by rw [nI_leI (by omega) (by omega)] at c; omega
  have hge_of : nI n ≤ nI s.1 → ¬ s.1 < n := fun c => by rw [nI_leI (by omega) (by omega)] at c; omega
  refine a_aload_n dX10_here_0 rfl ?_
  refine a_getI kfX10_126 rfl rfl (by decide) (hlt hN (by decide)) dX10_here_1 ?_
  refine a_aload_n dX10_here_4 rfl ?_
  refine a_getI kfX10_129 rfl rfl (by decide) (hlt hN (by decide)) dX10_here_5 ?_
  rw [wr_at, wr_en, he]
  refine a_icmp_ge (tgt := 27) dX10_here_8 (by decide) (fun c_8 => ?_) (fun c_8 => ?_)
  · refine a_iconst (v := 0) dX10_here_27 (by decide) ?_
    refine a_iret dX10_here_28 rfl (ret_i (by unfold hrR; first | exact if_pos (hlt_of c_8) | exact if_neg (hge_of c_8)) h)
  · refine a_aload_n dX10_here_11 rfl ?_
    refine a_getA (z := 65) kfX10_7 rfl rfl (st_64_0 hs) (by decide) (hlt hN (by decide)) dX10_here_12 ?_
    refine a_aload_n dX10_here_15 rfl ?_
    refine a_getI kfX10_126 rfl rfl (by decide) (hlt hN (by decide)) dX10_here_16 ?_
    rw [wr_at]
    refine a_bald rfl (by decide) (hlt hN (by decide)) (show vp_in _ 60 from vp_in_nI (by have := hlt_of c_8; omega) (by decide)) dX10_here_19 ?_
    rw [nI_clamp (by omega), wr_o (by decide) (by decide)]
    refine a_sipush (v := 255) dX10_here_20 (by decide) ?_
    refine a_iand dX10_here_23 ?_
    refine a_goto (tgt := 28) dX10_here_24 (by decide) ?_
    refine a_iret dX10_here_28 rfl (ret_i (by unfold hrR; first | exact if_pos (hlt_of c_8) | exact if_neg (hge_of c_8)) h)

theorem w_X10_fails {M : Mem} {N : Nat} {Q : Option Value → Nat → Mem → Prop} {n : Nat} (hn : n ≤ 40) (he : rI M 64 23 = nI n) {s : RS} {w : Nat} (hb2 : s.2.1 < 1000)  (hN : 94 ≤ N) (hs : Str M.2.2.1) (h : Q (none) N (wr M (flR w s))) : AW mX10_fails 0 0 0 N 0 [(0, .ref 64), (1, .int (nI w)), (2, .int (nI s.1))] [] (wr M s) Q := by
  refine a_aload_n dX10_fails_0 rfl ?_
  refine a_getI kfX10_132 rfl rfl (by decide) (hlt hN (by decide)) dX10_fails_1 ?_
  rw [wr_bad]
  refine a_if_le (tgt := 8) dX10_fails_4 (by decide) (fun c_4 => ?_) (fun c_4 => ?_)
  · refine a_aload_n dX10_fails_8 rfl ?_
    refine a_iload_n dX10_fails_9 rfl ?_
    refine a_putI kfX10_132 rfl rfl rfl (by decide) (hlt hN (by decide)) dX10_fails_10 ?_
    rw [wr_sbad]
    refine a_aload_n dX10_fails_13 rfl ?_
    refine a_iload_n dX10_fails_14 rfl ?_
    refine a_putI kfX10_135 rfl rfl rfl (by decide) (hlt hN (by decide)) dX10_fails_15 ?_
    rw [wr_sba]
    refine a_vret dX10_fails_18 rfl (by unfold flR at h; first | (rw [if_neg (fun z => c_4 (by rw [z]; decide))] at h; exact h) | (rw [if_pos (by rw [show (0 : Int32) = nI 0 from rfl, nI_leI (by omega) (by omega)] at c_4; omega)] at h; exact h))
  · refine a_vret dX10_fails_7 rfl (by unfold flR at h; first | (rw [if_neg (fun z => c_4 (by rw [z]; decide))] at h; exact h) | (rw [if_pos (by rw [show (0 : Int32) = nI 0 from rfl, nI_leI (by omega) (by omega)] at c_4; omega)] at h; exact h))

theorem w_X10_puts {M : Mem} {N : Nat} {Q : Option Value → Nat → Mem → Prop} {n : Nat} (hn : n ≤ 40) (he : rI M 64 23 = nI n) {s : RS} {o a b p q : Int32} (hm : s.2.2.2.1 < 40)  (hN : 94 ≤ N) (hs : Str M.2.2.1) (h : Q (none) N (wr M (puR o a b p q s))) : AW mX10_puts 0 0 0 N 0 [(0, .ref 64), (1, .int o), (2, .int a), (3, .int b), (4, .int p), (5, .int q)] [] (wr M s) Q := by
  refine a_aload_n dX10_puts_0 rfl ?_
  refine a_getA (z := 82) kfX10_64 rfl rfl (st_64_29 hs) (by decide) (hlt hN (by decide)) dX10_puts_1 ?_
  refine a_aload_n dX10_puts_4 rfl ?_
  refine a_getI kfX10_138 rfl rfl (by decide) (hlt hN (by decide)) dX10_puts_5 ?_
  rw [wr_md]
  try dsimp only
  refine a_iload_n dX10_puts_8 rfl ?_
  refine a_iast rfl (by decide) (hlt hN (by decide)) (show vp_in _ 40 from vp_in_nI (by exact hm) (by decide)) dX10_puts_9 ?_
  rw [nI_clamp (by omega), wr_s (by decide)]
  try dsimp only
  refine a_aload_n dX10_puts_10 rfl ?_
  refine a_getA (z := 83) kfX10_67 rfl rfl (st_64_30 hs) (by decide) (hlt hN (by decide)) dX10_puts_11 ?_
  refine a_aload_n dX10_puts_14 rfl ?_
  refine a_getI kfX10_138 rfl rfl (by decide) (hlt hN (by decide)) dX10_puts_15 ?_
  rw [wr_md]
  try dsimp only
  refine a_iload_n dX10_puts_18 rfl ?_
  refine a_iast rfl (by decide) (hlt hN (by decide)) (show vp_in _ 40 from vp_in_nI (by exact hm) (by decide)) dX10_puts_19 ?_
  rw [nI_clamp (by omega), wr_s (by decide)]
  try dsimp only
  refine a_aload_n dX10_puts_20 rfl ?_
  refine a_getA (z := 84) kfX10_70 rfl rfl (st_64_31 hs) (by decide) (hlt hN (by decide)) dX10_puts_21 ?_
  refine a_aload_n dX10_puts_24 rfl ?_
  refine a_getI kfX10_138 rfl rfl (by decide) (hlt hN (by decide)) dX10_puts_25 ?_
  rw [wr_md]
  try dsimp only
  refine a_iload_n dX10_puts_28 rfl ?_
  refine a_iast rfl (by decide) (hlt hN (by decide)) (show vp_in _ 40 from vp_in_nI (by exact hm) (by decide)) dX10_puts_29 ?_
  rw [nI_clamp (by omega), wr_s (by decide)]
  try dsimp only
  refine a_aload_n dX10_puts_30 rfl ?_
  refine a_getA (z := 85) kfX10_73 rfl rfl (st_64_32 hs) (by decide) (hlt hN (by decide)) dX10_puts_31 ?_
  refine a_aload_n dX10_puts_34 rfl ?_
  refine a_getI kfX10_138 rfl rfl (by decide) (hlt hN (by decide)) dX10_puts_35 ?_
  rw [wr_md]
  try dsimp only
  refine a_iload dX10_puts_38 rfl ?_
  refine a_iast rfl (by decide) (hlt hN (by decide)) (show vp_in _ 40 from vp_in_nI (by exact hm) (by decide)) dX10_puts_40 ?_
  rw [nI_clamp (by omega), wr_s (by decide)]
  try dsimp only
  refine a_aload_n dX10_puts_41 rfl ?_
  refine a_getA (z := 86) kfX10_76 rfl rfl (st_64_33 hs) (by decide) (hlt hN (by decide)) dX10_puts_42 ?_
  refine a_aload_n dX10_puts_45 rfl ?_
  refine a_getI kfX10_138 rfl rfl (by decide) (hlt hN (by decide)) dX10_puts_46 ?_
  rw [wr_md]
  try dsimp only
  refine a_iload dX10_puts_49 rfl ?_
  refine a_iast rfl (by decide) (hlt hN (by decide)) (show vp_in _ 40 from vp_in_nI (by exact hm) (by decide)) dX10_puts_51 ?_
  rw [nI_clamp (by omega), wr_s (by decide)]
  try dsimp only
  refine a_aload_n dX10_puts_52 rfl ?_
  refine a_dup dX10_puts_53 rfl ?_
  refine a_getI kfX10_138 rfl rfl (by decide) (hlt hN (by decide)) dX10_puts_54 ?_
  rw [wr_md]
  refine a_iconst (v := 1) dX10_puts_57 (by decide) ?_
  refine a_iadd dX10_puts_58 ?_
  rw [nI_1]
  refine a_putI kfX10_138 rfl rfl rfl (by decide) (hlt hN (by decide)) dX10_puts_59 ?_
  rw [wr_smd]
  refine a_vret dX10_puts_62 rfl h

theorem w_X10_waits {M : Mem} {N : Nat} {Q : Option Value → Nat → Mem → Prop} {n : Nat} (hn : n ≤ 40) (he : rI M 64 23 = nI n) {s : RS} {w p : Int32} (hm : s.2.2.2.2.1 < 40)  (hN : 94 ≤ N) (hs : Str M.2.2.1) (h : Q (none) N (wr M (waR w p s))) : AW mX10_waits 0 0 0 N 0 [(0, .ref 64), (1, .int w), (2, .int p)] [] (wr M s) Q := by
  refine a_aload_n dX10_waits_0 rfl ?_
  refine a_getA (z := 87) kfX10_79 rfl rfl (st_64_34 hs) (by decide) (hlt hN (by decide)) dX10_waits_1 ?_
  refine a_aload_n dX10_waits_4 rfl ?_
  refine a_getI kfX10_141 rfl rfl (by decide) (hlt hN (by decide)) dX10_waits_5 ?_
  rw [wr_tp]
  try dsimp only
  refine a_iload_n dX10_waits_8 rfl ?_
  refine a_iast rfl (by decide) (hlt hN (by decide)) (show vp_in _ 40 from vp_in_nI (by exact hm) (by decide)) dX10_waits_9 ?_
  rw [nI_clamp (by omega), wr_s (by decide)]
  try dsimp only
  refine a_aload_n dX10_waits_10 rfl ?_
  refine a_getA (z := 88) kfX10_82 rfl rfl (st_64_35 hs) (by decide) (hlt hN (by decide)) dX10_waits_11 ?_
  refine a_aload_n dX10_waits_14 rfl ?_
  refine a_getI kfX10_141 rfl rfl (by decide) (hlt hN (by decide)) dX10_waits_15 ?_
  rw [wr_tp]
  try dsimp only
  refine a_iload_n dX10_waits_18 rfl ?_
  refine a_iast rfl (by decide) (hlt hN (by decide)) (show vp_in _ 40 from vp_in_nI (by exact hm) (by decide)) dX10_waits_19 ?_
  rw [nI_clamp (by omega), wr_s (by decide)]
  try dsimp only
  refine a_aload_n dX10_waits_20 rfl ?_
  refine a_dup dX10_waits_21 rfl ?_
  refine a_getI kfX10_141 rfl rfl (by decide) (hlt hN (by decide)) dX10_waits_22 ?_
  rw [wr_tp]
  refine a_iconst (v := 1) dX10_waits_25 (by decide) ?_
  refine a_iadd dX10_waits_26 ?_
  rw [nI_1]
  refine a_putI kfX10_141 rfl rfl rfl (by decide) (hlt hN (by decide)) dX10_waits_27 ?_
  rw [wr_stp]
  refine a_vret dX10_waits_30 rfl h

theorem w_X10_joins {M : Mem} {N : Nat} {Q : Option Value → Nat → Mem → Prop} {n : Nat} (hn : n ≤ 40) (he : rI M 64 23 = nI n) {s : RS} (h1 : 1 ≤ s.2.2.2.2.1) (hm : s.2.2.2.1 < 40) (ht : s.2.2.2.2.1 ≤ 40)  (hN : 94 ≤ N) (hs : Str M.2.2.1) (h : Q (none) N (wr M (joR s))) : AW mX10_joins 1 0 0 N 0 [(0, .ref 64)] [] (wr M s) Q := by
  refine a_aload_n dX10_joins_0 rfl ?_
  refine a_dup dX10_joins_1 rfl ?_
  refine a_getI kfX10_141 rfl rfl (by decide) (hlt hN (by decide)) dX10_joins_2 ?_
  rw [wr_tp]
  refine a_iconst (v := 1) dX10_joins_5 (by decide) ?_
  refine a_isub dX10_joins_6 ?_
  rw [show nI s.2.2.2.2.1 - 1 = nI (s.2.2.2.2.1 - 1) from pk_sub (b := 1) h1]
  refine a_putI kfX10_141 rfl rfl rfl (by decide) (hlt hN (by decide)) dX10_joins_7 ?_
  rw [wr_stp]
  refine a_aload_n dX10_joins_10 rfl ?_
  refine a_aload_n dX10_joins_11 rfl ?_
  refine a_getA (z := 87) kfX10_79 rfl rfl (st_64_34 hs) (by decide) (hlt hN (by decide)) dX10_joins_12 ?_
  refine a_aload_n dX10_joins_15 rfl ?_
  refine a_getI kfX10_141 rfl rfl (by decide) (hlt hN (by decide)) dX10_joins_16 ?_
  rw [wr_tp]
  refine a_iald rfl (by decide) (hlt hN (by decide)) (show vp_in _ 40 from vp_in_nI (by show s.2.2.2.2.1 - 1 < _; omega) (by decide)) dX10_joins_19 ?_
  rw [nI_clamp (by show s.2.2.2.2.1 - 1 < _; omega), wr_r (by decide)]
  refine a_iconst (v := 0) dX10_joins_20 (by decide) ?_
  refine a_iconst (v := 0) dX10_joins_21 (by decide) ?_
  refine a_aload_n dX10_joins_22 rfl ?_
  refine a_getA (z := 88) kfX10_82 rfl rfl (st_64_35 hs) (by decide) (hlt hN (by decide)) dX10_joins_23 ?_
  refine a_aload_n dX10_joins_26 rfl ?_
  refine a_getI kfX10_141 rfl rfl (by decide) (hlt hN (by decide)) dX10_joins_27 ?_
  rw [wr_tp]
  refine a_iald rfl (by decide) (hlt hN (by decide)) (show vp_in _ 40 from vp_in_nI (by show s.2.2.2.2.1 - 1 < _; omega) (by decide)) dX10_joins_30 ?_
  rw [nI_clamp (by show s.2.2.2.2.1 - 1 < _; omega), wr_r (by decide)]
  refine a_iconst (v := (-1)) dX10_joins_31 (by decide) ?_
  refine a_callV (mc1 := 0) (ms1 := 0) (As := [_, _, _, _, _]) kpX10_puts kmX10_144 (by decide) rfl (Nat.le_of_ble_eq_true rfl) rfl (by decide) rfl (by decide) (hlt hN (by decide)) (Nat.le_of_ble_eq_true rfl) (Nat.le_of_ble_eq_true rfl) (Nat.le_of_ble_eq_true rfl) dX10_joins_32 (w_X10_puts (M := M) (s := tdR s) hn he (by exact hm) hN (by exact hs) ?_)
  refine a_vret dX10_joins_35 rfl h

theorem flR_1 {w : Nat} {s : RS} : (flR w s).1 = s.1 := by unfold flR; split <;> rfl
theorem flR_t {w : Nat} {s : RS} : (flR w s).2.2.2 = s.2.2.2 := by unfold flR; split <;> rfl
theorem e_X10_opens {M : Mem} {N : Nat} {Q : Option Value → Nat → Mem → Prop} {n : Nat} (hn : n ≤ 40) (he : rI M 64 23 = nI n) {s : RS} {w : Int32} (hm : s.2.2.2.2.1 < 40) (hN : 94 ≤ N) (hs : Str M.2.2.1) (h : Q none N (wr M (avR (opU (waR w (-1) s))))) : AW mX10_opens 1 0 0 N 18 [(0, .ref 64), (1, .int w)] [] (wr M s) Q := by
  refine a_aload_n dX10_opens_18 rfl ?_
  refine a_iload_n dX10_opens_19 rfl ?_
  refine a_iconst (v := (-1)) dX10_opens_20 (by decide) ?_
  refine a_callV (mc1 := 0) (ms1 := 0) (As := [_, _]) kpX10_waits kmX10_155 (by decide) rfl (Nat.le_of_ble_eq_true rfl) rfl (by decide) rfl (by decide) (hlt hN (by decide)) (Nat.le_of_ble_eq_true rfl) (Nat.le_of_ble_eq_true rfl) (Nat.le_of_ble_eq_true rfl) dX10_opens_21 (w_X10_waits (M := M) (s := s) hn he hm hN (by exact hs) ?_)
  refine a_aload_n dX10_opens_24 rfl ?_
  refine a_dup dX10_opens_25 rfl ?_
  refine a_getI kfX10_148 rfl rfl (by decide) (hlt hN (by decide)) dX10_opens_26 ?_
  rw [wr_op]
  refine a_iconst (v := 1) dX10_opens_29 (by decide) ?_
  refine a_iadd dX10_opens_30 ?_
  refine a_putI kfX10_148 rfl rfl rfl (by decide) (hlt hN (by decide)) dX10_opens_31 ?_
  rw [wr_sop]
  refine a_aload_n dX10_opens_34 rfl ?_
  refine a_dup dX10_opens_35 rfl ?_
  refine a_getI kfX10_126 rfl rfl (by decide) (hlt hN (by decide)) dX10_opens_36 ?_
  rw [wr_at]
  refine a_iconst (v := 1) dX10_opens_39 (by decide) ?_
  refine a_iadd dX10_opens_40 ?_
  rw [nI_1]
  refine a_putI kfX10_126 rfl rfl rfl (by decide) (hlt hN (by decide)) dX10_opens_41 ?_
  rw [wr_sat]
  refine a_vret dX10_opens_44 rfl h
theorem w_X10_opens {M : Mem} {N : Nat} {Q : Option Value → Nat → Mem → Prop} {n : Nat} (hn : n ≤ 40) (he : rI M 64 23 = nI n) {s : RS} {w : Int32} (hb1 : s.1 < 1000) (hb2 : s.2.1 < 1000) (hm : s.2.2.2.2.1 < 40)  (hN : 94 ≤ N) (hs : Str M.2.2.1) (h : Q (none) N (wr M (opR w s))) : AW mX10_opens 1 0 0 N 0 [(0, .ref 64), (1, .int w)] [] (wr M s) Q := by
  refine a_aload_n dX10_opens_0 rfl ?_
  refine a_getI kfX10_148 rfl rfl (by decide) (hlt hN (by decide)) dX10_opens_1 ?_
  refine a_bipush (v := 6) dX10_opens_4 (by decide) ?_
  rw [wr_op]
  refine a_icmp_ne (tgt := 18) dX10_opens_6 (by decide) (fun c_6 => ?_) (fun c_6 => ?_)
  · unfold opR at h
    first
    | (rw [if_pos c_6] at h; exact e_X10_opens hn he (by rw [flR_t]; exact hm) hN (by exact hs) h)
    | (rw [if_neg c_6] at h; exact e_X10_opens hn he hm hN (by exact hs) h)
  · refine a_aload_n dX10_opens_9 rfl ?_
    refine a_iconst (v := 2) dX10_opens_10 (by decide) ?_
    refine a_aload_n dX10_opens_11 rfl ?_
    refine a_getI kfX10_126 rfl rfl (by decide) (hlt hN (by decide)) dX10_opens_12 ?_
    rw [wr_at]
    refine a_callV (mc1 := 0) (ms1 := 0) (As := [_, _]) kpX10_fails kmX10_151 (by decide) rfl (Nat.le_of_ble_eq_true rfl) rfl (by decide) rfl (by decide) (hlt hN (by decide)) (Nat.le_of_ble_eq_true rfl) (Nat.le_of_ble_eq_true rfl) (Nat.le_of_ble_eq_true rfl) dX10_opens_15 (w_X10_fails (w := 2) (M := M) (s := s) hn he hb2 hN (by exact hs) ?_)
    unfold opR at h
    first
    | (rw [if_pos c_6] at h; exact e_X10_opens hn he (by rw [flR_t]; exact hm) hN (by exact hs) h)
    | (rw [if_neg c_6] at h; exact e_X10_opens hn he hm hN (by exact hs) h)

theorem e_X10_must {M : Mem} {N : Nat} {Q : Option Value → Nat → Mem → Prop} {n : Nat} (hn : n ≤ 40) (he : rI M 64 23 = nI n) {s : RS} {c : Int32} (hN : 94 ≤ N) (hs : Str M.2.2.1) (h : Q none N (wr M (avR s))) : AW mX10_must 1 0 0 N 28 [(0, .ref 64), (1, .int c)] [] (wr M s) Q := by
  refine a_aload_n dX10_must_28 rfl ?_
  refine a_dup dX10_must_29 rfl ?_
  refine a_getI kfX10_126 rfl rfl (by decide) (hlt hN (by decide)) dX10_must_30 ?_
  rw [wr_at]
  refine a_iconst (v := 1) dX10_must_33 (by decide) ?_
  refine a_iadd dX10_must_34 ?_
  rw [nI_1]
  refine a_putI kfX10_126 rfl rfl rfl (by decide) (hlt hN (by decide)) dX10_must_35 ?_
  rw [wr_sat]
  refine a_vret dX10_must_38 rfl h
theorem w_X10_must {M : Mem} {N : Nat} {Q : Option Value → Nat → Mem → Prop} {n : Nat} (hn : n ≤ 40) (he : rI M 64 23 = nI n) {s : RS} {c : Int32} (hb1 : s.1 < 1000) (hb2 : s.2.1 < 1000)  (hN : 94 ≤ N) (hs : Str M.2.2.1) (h : Q (none) N (wr M (muR (rI M 65) n c s))) : AW mX10_must 1 0 0 N 0 [(0, .ref 64), (1, .int c)] [] (wr M s) Q := by
  refine a_aload_n dX10_must_0 rfl ?_
  refine a_callV (mc1 := 0) (ms1 := 0) (As := []) kpX10_here kmX10_158 (by decide) rfl (Nat.le_of_ble_eq_true rfl) rfl (by decide) rfl (by decide) (hlt hN (by decide)) (Nat.le_of_ble_eq_true rfl) (Nat.le_of_ble_eq_true rfl) (Nat.le_of_ble_eq_true rfl) dX10_must_1 (w_X10_here (M := M) hn he hb1 hN hs ?_)
  refine a_iload_n dX10_must_4 rfl ?_
  refine a_icmp_ne (tgt := 19) dX10_must_5 (by decide) (fun c_5 => ?_) (fun c_5 => ?_)
  · refine a_aload_n dX10_must_19 rfl ?_
    refine a_iconst (v := 1) dX10_must_20 (by decide) ?_
    refine a_aload_n dX10_must_21 rfl ?_
    refine a_getI kfX10_126 rfl rfl (by decide) (hlt hN (by decide)) dX10_must_22 ?_
    rw [wr_at]
    refine a_callV (mc1 := 0) (ms1 := 0) (As := [_, _]) kpX10_fails kmX10_151 (by decide) rfl (Nat.le_of_ble_eq_true rfl) rfl (by decide) rfl (by decide) (hlt hN (by decide)) (Nat.le_of_ble_eq_true rfl) (Nat.le_of_ble_eq_true rfl) (Nat.le_of_ble_eq_true rfl) dX10_must_25 (w_X10_fails (w := 1) (M := M) (s := s) hn he hb2 hN (by exact hs) ?_)
    unfold muR at h
    first
    | (rw [if_pos ⟨c_5, (nI_ltI (by omega) (by omega)).mp c_16⟩] at h; exact e_X10_must hn he hN (by exact hs) h)
    | (rw [if_neg (fun z => c_5 z.1)] at h; exact e_X10_must hn he hN (by exact hs) h)
    | (rw [if_neg (fun z => c_16 ((nI_ltI (by omega) (by omega)).mpr z.2))] at h; exact e_X10_must hn he hN (by exact hs) h)
  · refine a_aload_n dX10_must_8 rfl ?_
    refine a_getI kfX10_126 rfl rfl (by decide) (hlt hN (by decide)) dX10_must_9 ?_
    refine a_aload_n dX10_must_12 rfl ?_
    refine a_getI kfX10_129 rfl rfl (by decide) (hlt hN (by decide)) dX10_must_13 ?_
    rw [wr_at, wr_en, he]
    refine a_icmp_lt (tgt := 28) dX10_must_16 (by decide) (fun c_16 => ?_) (fun c_16 => ?_)
    · unfold muR at h
      first
      | (rw [if_pos ⟨c_5, (nI_ltI (by omega) (by omega)).mp c_16⟩] at h; exact e_X10_must hn he hN (by exact hs) h)
      | (rw [if_neg (fun z => c_5 z.1)] at h; exact e_X10_must hn he hN (by exact hs) h)
      | (rw [if_neg (fun z => c_16 ((nI_ltI (by omega) (by omega)).mpr z.2))] at h; exact e_X10_must hn he hN (by exact hs) h)
    · refine a_aload_n dX10_must_19 rfl ?_
      refine a_iconst (v := 1) dX10_must_20 (by decide) ?_
      refine a_aload_n dX10_must_21 rfl ?_
      refine a_getI kfX10_126 rfl rfl (by decide) (hlt hN (by decide)) dX10_must_22 ?_
      rw [wr_at]
      refine a_callV (mc1 := 0) (ms1 := 0) (As := [_, _]) kpX10_fails kmX10_151 (by decide) rfl (Nat.le_of_ble_eq_true rfl) rfl (by decide) rfl (by decide) (hlt hN (by decide)) (Nat.le_of_ble_eq_true rfl) (Nat.le_of_ble_eq_true rfl) (Nat.le_of_ble_eq_true rfl) dX10_must_25 (w_X10_fails (w := 1) (M := M) (s := s) hn he hb2 hN (by exact hs) ?_)
      unfold muR at h
      first
      | (rw [if_pos ⟨c_5, (nI_ltI (by omega) (by omega)).mp c_16⟩] at h; exact e_X10_must hn he hN (by exact hs) h)
      | (rw [if_neg (fun z => c_5 z.1)] at h; exact e_X10_must hn he hN (by exact hs) h)
      | (rw [if_neg (fun z => c_16 ((nI_ltI (by omega) (by omega)).mpr z.2))] at h; exact e_X10_must hn he hN (by exact hs) h)

theorem w_X10_seesDigit {M : Mem} {N : Nat} {Q : Option Value → Nat → Mem → Prop} {n : Nat} (hn : n ≤ 40) (he : rI M 64 23 = nI n) {s : RS} (hb1 : s.1 < 1000)  (hN : 94 ≤ N) (hs : Str M.2.2.1) (h : Q (some (.int (bI (48 ≤ (hrR (rI M 65) n s).toInt ∧ (hrR (rI M 65) n s).toInt ≤ 57)))) N ((wr M s))) : AW mX10_seesDigit 1 0 0 N 0 [(0, .ref 64)] [] (wr M s) Q := by
  refine a_aload_n dX10_seesDigit_0 rfl ?_
  refine a_callV (mc1 := 0) (ms1 := 0) (As := []) kpX10_here kmX10_158 (by decide) rfl (Nat.le_of_ble_eq_true rfl) rfl (by decide) rfl (by decide) (hlt hN (by decide)) (Nat.le_of_ble_eq_true rfl) (Nat.le_of_ble_eq_true rfl) (Nat.le_of_ble_eq_true rfl) dX10_seesDigit_1 (w_X10_here (M := M) hn he hb1 hN hs ?_)
  refine a_bipush (v := 48) dX10_seesDigit_4 (by decide) ?_
  refine a_bipush (v := 57) dX10_seesDigit_6 (by decide) ?_
  refine a_callS (mc1 := 0) (ms1 := 0) (As := [_, _, _]) kpX10_lies kmX10_104 (by decide) rfl (Nat.le_of_ble_eq_true rfl) (Nat.le_of_ble_eq_true rfl) (Nat.le_of_ble_eq_true rfl) (Nat.le_of_ble_eq_true rfl) dX10_seesDigit_8 (w_X10_lies ?_)
  refine a_zret dX10_seesDigit_11 rfl bI_01 h

