/-! the reference's order: first what is reached, then what is known -/
abbrev OS : Type := Int64 × Int64 × (Nat → Int64) × Int32
def wn (M : Mem) (r : Nat → Int64) : Mem := (M.1, fun a j => if a = 90 then r j else M.2.1 a j, M.2.2)
theorem wn_id {M : Mem} : wn M (rJ M 90) = M := by
  refine Prod.ext rfl (Prod.ext ?_ rfl)
  funext a j
  show (if a = 90 then rJ M 90 j else M.2.1 a j) = _
  by_cases h : a = 90
  · subst h; rw [if_pos rfl]; rfl
  · rw [if_neg h]
theorem wn_s {M : Mem} {r : Nat → Int64} {x : Nat} {v : Int64} : sJ (wn M r) 90 x v = wn M (fun j => if j = x then v else r j) := by
  refine Prod.ext rfl (Prod.ext ?_ rfl)
  funext a j
  show (if a = 90 ∧ j = x then v else if a = 90 then r j else M.2.1 a j) = (if a = 90 then (if j = x then v else r j) else M.2.1 a j)
  by_cases h : a = 90
  · subst h
    rw [if_pos rfl, if_pos rfl]
    by_cases h2 : j = x
    · rw [if_pos ⟨rfl, h2⟩, if_pos h2]
    · rw [if_neg (fun z => h2 z.2), if_neg h2]
  · rw [if_neg (fun z => h z.1), if_neg h, if_neg h]
theorem wn_r {M : Mem} {r : Nat → Int64} {x : Nat} : rJ (wn M r) 90 x = r x := by
  show (if 90 = 90 then r x else M.2.1 90 x) = _
  rw [if_pos rfl]
theorem nR_wn {M : Mem} {r : Nat → Int64} {i x : Nat} : nR (wn M r) i x = nR M i x := rfl
/-- what x needs where it is told, or not -/
def ndR (M : Mem) (i c : Nat) (rt : Int32) (x : Nat) : Int64 := if tdP M x c rt then 0 else nR M i x
def o1A (nd : Nat → Int64) (x : Nat) (s : OS) : OS := if hb s.1 (nI x) = true then (if hb s.2.1 (nI x) = true then s else (s.1 ||| nd x, s.2.1 ||| bitL (nI x), fun j => if j = x then nd x else s.2.2.1 j, 1)) else s
def o1W (nd : Nat → Int64) : Nat → OS → OS
  | 0, s => s
  | x + 1, s => o1A nd x (o1W nd x s)
def o1R (nd : Nat → Int64) : Nat → OS → OS
  | 0, s => s
  | r + 1, s => if s.2.2.2 = 0 then s else o1R nd r (o1W nd 64 (s.1, s.2.1, s.2.2.1, 0))
/-- how many bits -/
def cnt (s : Int64) : Nat → Nat
  | 0 => 0
  | k + 1 => cnt s k + (if hb s (nI k) = true then 1 else 0)
theorem cnt_le {s : Int64} : ∀ k, cnt s k ≤ k
  | 0 => Nat.le_refl _
  | k + 1 => by
    have := cnt_le (s := s) k
    unfold cnt
    split <;> omega
theorem hb_or {a b : Int64} {x : Nat} (hx : x < 64) : hb (a ||| b) (nI x) = (hb a (nI x) || hb b (nI x)) := by
  rw [hb_bv hx, hb_bv hx, hb_bv hx, Int64.toBitVec_or, BitVec.getLsbD_or]
theorem hb_bit {x y : Nat} (hx : x < 64) (hy : y < 64) : hb (bitL (nI y)) (nI x) = decide (x = y) := by
  rw [hb_bv hx, bitL_bv hy, BitVec.getLsbD_twoPow]
  by_cases h : x = y
  · subst h; simp [hx]
  · simp [h]; omega
theorem hb_orb {a : Int64} {x y : Nat} (hx : x < 64) (hy : y < 64) : hb (a ||| bitL (nI y)) (nI x) = true ↔ hb a (nI x) = true ∨ x = y := by
  rw [hb_or hx, hb_bit hx hy, Bool.or_eq_true, decide_eq_true_eq]
theorem hb_0 {x : Nat} (hx : x < 64) : hb 0 (nI x) = false := by
  rw [hb_bv hx]
  show (0#64).getLsbD x = false
  rw [BitVec.getLsbD_zero]
theorem cnt_mono {a b : Int64} : ∀ k, k ≤ 64 → (∀ x, x < k → hb a (nI x) = true → hb b (nI x) = true) → cnt a k ≤ cnt b k
  | 0, _, _ => Nat.le_refl _
  | k + 1, hk, h => by
    have ih := cnt_mono k (by omega) (fun x hx => h x (by omega))
    have hh := h k (by omega)
    unfold cnt
    by_cases c : hb a (nI k) = true
    · rw [if_pos c, if_pos (hh c)]; omega
    · rw [if_neg c]; split <;> omega
theorem cnt_lt {a b : Int64} {y : Nat} : ∀ k, k ≤ 64 → y < k → (∀ x, x < k → hb a (nI x) = true → hb b (nI x) = true) → ¬ hb a (nI y) = true → hb b (nI y) = true → cnt a k + 1 ≤ cnt b k
  | 0, _, h, _, _, _ => absurd h (Nat.not_lt_zero _)
  | k + 1, hk, hy, h, h1, h2 => by
    unfold cnt
    by_cases e : y = k
    · subst e
      have := cnt_mono y (by omega) (fun x hx => h x (by omega))
      rw [if_neg h1, if_pos h2]
      omega
    · have ih := cnt_lt k (by omega) (by omega) (fun x hx => h x (by omega)) h1 h2
      have hh := h k (by omega)
      by_cases c : hb a (nI k) = true
      · rw [if_pos c, if_pos (hh c)]; omega
      · rw [if_neg c]; split <;> omega
theorem cnt_add {a : Int64} {y : Nat} (hy : y < 64) (h : ¬ hb a (nI y) = true) : ∀ k, k ≤ 64 → cnt (a ||| bitL (nI y)) k = cnt a k + (if y < k then 1 else 0)
  | 0, _ => rfl
  | k + 1, hk => by
    have ih := cnt_add hy h k (by omega)
    unfold cnt
    rw [ih]
    by_cases e : k = y
    · subst e
      rw [if_pos ((hb_orb hy hy).mpr (Or.inr rfl)), if_neg h, if_neg (by omega), if_pos (by omega)]
    · have hh : (hb (a ||| bitL (nI y)) (nI k) = true) ↔ hb a (nI k) = true := by
        rw [hb_orb (by omega) hy]
        exact ⟨fun z => z.resolve_right e, Or.inl⟩
      by_cases c : hb a (nI k) = true
      · rw [if_pos c, if_pos (hh.mpr c)]
        by_cases l : y < k
        · rw [if_pos l, if_pos (by omega)]
        · rw [if_neg l, if_neg (by omega)]
      · rw [if_neg c, if_neg (fun z => c (hh.mp z))]
        by_cases l : y < k
        · rw [if_pos l, if_pos (by omega)]
        · rw [if_neg l, if_neg (by omega)]
theorem l_X10_o1W {M : Mem} {N : Nat} {Q : Option Value → Nat → Mem → Prop} {i c : Nat} (hi : i < 6) (hc : c < 64) {rt : Int32} (hw : ∀ j, j < 64 → rI M 66 (64 * i + j) = 2 → RWF M (64 * i + j)) {s : OS} (hN : 94 ≤ N) (hs : Str M.2.2.1) (h : AW mX10_orders 5 0 0 N 11 [(0, .ref 64), (1, .int (nI i)), (2, .int (nI c)), (3, .int rt), (4, .long (o1W (ndR M i c rt) 64 s).1), (6, .long (o1W (ndR M i c rt) 64 s).2.1), (8, .int (o1W (ndR M i c rt) 64 s).2.2.2)] [] (wn M (o1W (ndR M i c rt) 64 s).2.2.1) Q) : ∀ (r x : Nat), x + r = 64 → AW mX10_orders 5 0 0 N 22 [(0, .ref 64), (1, .int (nI i)), (2, .int (nI c)), (3, .int rt), (4, .long (o1W (ndR M i c rt) x s).1), (6, .long (o1W (ndR M i c rt) x s).2.1), (8, .int (o1W (ndR M i c rt) x s).2.2.2), (9, .int (nI x))] [] (wn M (o1W (ndR M i c rt) x s).2.2.1) Q := by
  intro r
  induction r with
  | zero =>
    intro x hk
    obtain rfl : x = 64 := by omega
    refine a_iload dX10_orders_22 rfl ?_
    refine a_bipush (v := 64) dX10_orders_24 (by decide) ?_
    refine a_icmp_ge (tgt := 111) dX10_orders_26 (by decide) (fun c_26 => ?_) (fun c_26 => absurd (nI_le (a := 64) (b := 64) (by omega) (by decide)) c_26)
    refine a_goto (tgt := 11) dX10_orders_111 (by decide) ?_
    exact AW.sub (L' := [(0, .ref 64), (1, .int (nI i)), (2, .int (nI c)), (3, .int rt), (4, .long (o1W (ndR M i c rt) 64 s).1), (6, .long (o1W (ndR M i c rt) 64 s).2.1), (8, .int (o1W (ndR M i c rt) 64 s).2.2.2)]) rfl h
  | succ r ih =>
    intro x hk
    have hx : x < 64 := by omega
    refine a_iload dX10_orders_22 rfl ?_
    refine a_bipush (v := 64) dX10_orders_24 (by decide) ?_
    refine a_icmp_ge (tgt := 111) dX10_orders_26 (by decide) (fun c_26 => absurd c_26 (nI_ge (b := 64) (by omega) (by decide))) (fun c_26 => ?_)
    refine a_lload dX10_orders_29 rfl ?_
    refine a_iload dX10_orders_31 rfl ?_
    refine a_callS (mc1 := 0) (ms1 := 0) (As := [_, _]) kpX10_has kmX10_242 (by decide) rfl (Nat.le_of_ble_eq_true rfl) (Nat.le_of_ble_eq_true rfl) (Nat.le_of_ble_eq_true rfl) (Nat.le_of_ble_eq_true rfl) dX10_orders_33 (w_X10_has hx ?_)
    refine a_if_eq (tgt := 105) dX10_orders_36 (by decide) (fun c_36 => ?_) (fun c_36 => ?_)
    · refine a_iinc dX10_orders_105 rfl rfl (by decide) ?_
      refine a_goto (tgt := 22) dX10_orders_108 (by decide) ?_
      rw [show nI x + Int32.ofInt 1 = nI (x + 1) from nI_1 x]
      first
      | (have q1 : hb (o1W (ndR M i c rt) x s).2.1 (nI x) = true := bI_nz.mp c_46
         have e : (o1W (ndR M i c rt) (x + 1) s) = (o1W (ndR M i c rt) x s) := (if_pos (bI_nz.mp c_36)).trans (if_pos q1)
         rw [← e]
         refine AW.sub (L' := [(0, .ref 64), (1, .int (nI i)), (2, .int (nI c)), (3, .int rt), (4, .long (o1W (ndR M i c rt) (x + 1) s).1), (6, .long (o1W (ndR M i c rt) (x + 1) s).2.1), (8, .int (o1W (ndR M i c rt) (x + 1) s).2.2.2), (9, .int (nI (x + 1)))]) rfl ?_
         exact ih (x + 1) (by omega))
      | (have q1 : bI (hb (o1W (ndR M i c rt) x s).1 (nI x) = true) = 0 := c_36
         have e : (o1W (ndR M i c rt) (x + 1) s) = (o1W (ndR M i c rt) x s) := if_neg (bI_z.mp q1)
         rw [← e]
         refine AW.sub (L' := [(0, .ref 64), (1, .int (nI i)), (2, .int (nI c)), (3, .int rt), (4, .long (o1W (ndR M i c rt) (x + 1) s).1), (6, .long (o1W (ndR M i c rt) (x + 1) s).2.1), (8, .int (o1W (ndR M i c rt) (x + 1) s).2.2.2), (9, .int (nI (x + 1)))]) rfl ?_
         exact ih (x + 1) (by omega))
      | (have q1 : ¬ hb (o1W (ndR M i c rt) x s).2.1 (nI x) = true := bI_z.mp c_46
         have e : (o1W (ndR M i c rt) (x + 1) s) = ((o1W (ndR M i c rt) x s).1 ||| ndR M i c rt x, (o1W (ndR M i c rt) x s).2.1 ||| bitL (nI x), fun j => if j = x then ndR M i c rt x else (o1W (ndR M i c rt) x s).2.2.1 j, 1) := (if_pos (bI_nz.mp c_36)).trans (if_neg q1)
         rw [show (if x = x then ndR M i c rt x else (o1W (ndR M i c rt) x s).2.2.1 x) = ndR M i c rt x from if_pos rfl]
         have ih2 := ih (x + 1) (by omega)
         rw [e] at ih2
         exact AW.sub (L' := [(0, .ref 64), (1, .int (nI i)), (2, .int (nI c)), (3, .int rt), (4, .long ((o1W (ndR M i c rt) x s).1 ||| ndR M i c rt x, (o1W (ndR M i c rt) x s).2.1 ||| bitL (nI x), fun j => if j = x then ndR M i c rt x else (o1W (ndR M i c rt) x s).2.2.1 j, 1).1), (6, .long ((o1W (ndR M i c rt) x s).1 ||| ndR M i c rt x, (o1W (ndR M i c rt) x s).2.1 ||| bitL (nI x), fun j => if j = x then ndR M i c rt x else (o1W (ndR M i c rt) x s).2.2.1 j, 1).2.1), (8, .int 1), (9, .int (nI (x + 1)))]) rfl ih2)
    · refine a_lload dX10_orders_39 rfl ?_
      refine a_iload dX10_orders_41 rfl ?_
      refine a_callS (mc1 := 0) (ms1 := 0) (As := [_, _]) kpX10_has kmX10_242 (by decide) rfl (Nat.le_of_ble_eq_true rfl) (Nat.le_of_ble_eq_true rfl) (Nat.le_of_ble_eq_true rfl) (Nat.le_of_ble_eq_true rfl) dX10_orders_43 (w_X10_has hx ?_)
      refine a_if_eq (tgt := 52) dX10_orders_46 (by decide) (fun c_46 => ?_) (fun c_46 => ?_)
      · refine a_aload_n dX10_orders_52 rfl ?_
        refine a_getA (z := 90) kfX10_92 rfl rfl (st_64_42 hs) (by decide) (hlt hN (by decide)) dX10_orders_53 ?_
        refine a_iload dX10_orders_56 rfl ?_
        refine a_aload_n dX10_orders_58 rfl ?_
        refine a_iload dX10_orders_59 rfl ?_
        refine a_iload_n dX10_orders_61 rfl ?_
        refine a_iload_n dX10_orders_62 rfl ?_
        refine a_callV (mc1 := 0) (ms1 := 0) (As := [_, _, _]) kpX10_isTold kmX10_246 (by decide) rfl (Nat.le_of_ble_eq_true rfl) rfl (by decide) rfl (by decide) (hlt hN (by decide)) (Nat.le_of_ble_eq_true rfl) (Nat.le_of_ble_eq_true rfl) (Nat.le_of_ble_eq_true rfl) dX10_orders_63 (w_X10_isTold (M := (wn M (o1W (ndR M i c rt) x s).2.2.1)) hx hc hN (by exact hs) ?_)
        refine a_if_eq (tgt := 73) dX10_orders_66 (by decide) (fun c_66 => ?_) (fun c_66 => ?_)
        · have en : ndR M i c rt x = nR M i x := if_neg (bI_z.mp c_66)
          refine a_aload_n dX10_orders_73 rfl ?_
          refine a_iload_n dX10_orders_74 rfl ?_
          refine a_iload dX10_orders_75 rfl ?_
          refine a_callV (mc1 := 0) (ms1 := 0) (As := [_, _]) kpX10_needs kmX10_250 (by decide) rfl (Nat.le_of_ble_eq_true rfl) rfl (by decide) rfl (by decide) (hlt hN (by decide)) (Nat.le_of_ble_eq_true rfl) (Nat.le_of_ble_eq_true rfl) (Nat.le_of_ble_eq_true rfl) dX10_orders_77 (w_X10_needs (M := (wn M (o1W (ndR M i c rt) x s).2.2.1)) hi hx (by exact hw x hx) hN (by exact hs) ?_)
          rw [nR_wn]
          rw [← en]
          refine a_last rfl (by decide) (hlt hN (by decide)) (show vp_in _ 64 from j64_in hx) dX10_orders_80 ?_
          rw [j64_c hx, wn_s]
          refine a_lload dX10_orders_81 rfl ?_
          refine a_aload_n dX10_orders_83 rfl ?_
          refine a_getA (z := 90) kfX10_92 rfl rfl (st_64_42 hs) (by decide) (hlt hN (by decide)) dX10_orders_84 ?_
          refine a_iload dX10_orders_87 rfl ?_
          refine a_lald rfl (by decide) (hlt hN (by decide)) (show vp_in _ 64 from j64_in hx) dX10_orders_89 ?_
          rw [j64_c hx, wn_r]
          refine a_lor dX10_orders_90 ?_
          refine a_lstore dX10_orders_91 (by decide) ?_
          refine a_lload dX10_orders_93 rfl ?_
          refine a_lconst (v := 1) dX10_orders_95 (by decide) ?_
          refine a_iload dX10_orders_96 rfl ?_
          refine a_lshl dX10_orders_98 rfl ?_
          rw [bitL_sh hx]
          refine a_lor dX10_orders_99 ?_
          refine a_lstore dX10_orders_100 (by decide) ?_
          refine a_iconst (v := 1) dX10_orders_102 (by decide) ?_
          refine a_istore dX10_orders_103 (by decide) ?_
          refine a_iinc dX10_orders_105 rfl rfl (by decide) ?_
          refine a_goto (tgt := 22) dX10_orders_108 (by decide) ?_
          rw [show nI x + Int32.ofInt 1 = nI (x + 1) from nI_1 x]
          first
          | (have q1 : hb (o1W (ndR M i c rt) x s).2.1 (nI x) = true := bI_nz.mp c_46
             have e : (o1W (ndR M i c rt) (x + 1) s) = (o1W (ndR M i c rt) x s) := (if_pos (bI_nz.mp c_36)).trans (if_pos q1)
             rw [← e]
             refine AW.sub (L' := [(0, .ref 64), (1, .int (nI i)), (2, .int (nI c)), (3, .int rt), (4, .long (o1W (ndR M i c rt) (x + 1) s).1), (6, .long (o1W (ndR M i c rt) (x + 1) s).2.1), (8, .int (o1W (ndR M i c rt) (x + 1) s).2.2.2), (9, .int (nI (x + 1)))]) rfl ?_
             exact ih (x + 1) (by omega))
          | (have q1 : bI (hb (o1W (ndR M i c rt) x s).1 (nI x) = true) = 0 := c_36
             have e : (o1W (ndR M i c rt) (x + 1) s) = (o1W (ndR M i c rt) x s) := if_neg (bI_z.mp q1)
             rw [← e]
             refine AW.sub (L' := [(0, .ref 64), (1, .int (nI i)), (2, .int (nI c)), (3, .int rt), (4, .long (o1W (ndR M i c rt) (x + 1) s).1), (6, .long (o1W (ndR M i c rt) (x + 1) s).2.1), (8, .int (o1W (ndR M i c rt) (x + 1) s).2.2.2), (9, .int (nI (x + 1)))]) rfl ?_
             exact ih (x + 1) (by omega))
          | (have q1 : ¬ hb (o1W (ndR M i c rt) x s).2.1 (nI x) = true := bI_z.mp c_46
             have e : (o1W (ndR M i c rt) (x + 1) s) = ((o1W (ndR M i c rt) x s).1 ||| ndR M i c rt x, (o1W (ndR M i c rt) x s).2.1 ||| bitL (nI x), fun j => if j = x then ndR M i c rt x else (o1W (ndR M i c rt) x s).2.2.1 j, 1) := (if_pos (bI_nz.mp c_36)).trans (if_neg q1)
             rw [show (if x = x then ndR M i c rt x else (o1W (ndR M i c rt) x s).2.2.1 x) = ndR M i c rt x from if_pos rfl]
             have ih2 := ih (x + 1) (by omega)
             rw [e] at ih2
             exact AW.sub (L' := [(0, .ref 64), (1, .int (nI i)), (2, .int (nI c)), (3, .int rt), (4, .long ((o1W (ndR M i c rt) x s).1 ||| ndR M i c rt x, (o1W (ndR M i c rt) x s).2.1 ||| bitL (nI x), fun j => if j = x then ndR M i c rt x else (o1W (ndR M i c rt) x s).2.2.1 j, 1).1), (6, .long ((o1W (ndR M i c rt) x s).1 ||| ndR M i c rt x, (o1W (ndR M i c rt) x s).2.1 ||| bitL (nI x), fun j => if j = x then ndR M i c rt x else (o1W (ndR M i c rt) x s).2.2.1 j, 1).2.1), (8, .int 1), (9, .int (nI (x + 1)))]) rfl ih2)
        · have en : ndR M i c rt x = 0 := if_pos (bI_nz.mp c_66)
          refine a_lconst (v := 0) dX10_orders_69 (by decide) ?_
          refine a_goto (tgt := 80) dX10_orders_70 (by decide) ?_
          rw [← en]
          refine a_last rfl (by decide) (hlt hN (by decide)) (show vp_in _ 64 from j64_in hx) dX10_orders_80 ?_
          rw [j64_c hx, wn_s]
          refine a_lload dX10_orders_81 rfl ?_
          refine a_aload_n dX10_orders_83 rfl ?_
          refine a_getA (z := 90) kfX10_92 rfl rfl (st_64_42 hs) (by decide) (hlt hN (by decide)) dX10_orders_84 ?_
          refine a_iload dX10_orders_87 rfl ?_
          refine a_lald rfl (by decide) (hlt hN (by decide)) (show vp_in _ 64 from j64_in hx) dX10_orders_89 ?_
          rw [j64_c hx, wn_r]
          refine a_lor dX10_orders_90 ?_
          refine a_lstore dX10_orders_91 (by decide) ?_
          refine a_lload dX10_orders_93 rfl ?_
          refine a_lconst (v := 1) dX10_orders_95 (by decide) ?_
          refine a_iload dX10_orders_96 rfl ?_
          refine a_lshl dX10_orders_98 rfl ?_
          rw [bitL_sh hx]
          refine a_lor dX10_orders_99 ?_
          refine a_lstore dX10_orders_100 (by decide) ?_
          refine a_iconst (v := 1) dX10_orders_102 (by decide) ?_
          refine a_istore dX10_orders_103 (by decide) ?_
          refine a_iinc dX10_orders_105 rfl rfl (by decide) ?_
          refine a_goto (tgt := 22) dX10_orders_108 (by decide) ?_
          rw [show nI x + Int32.ofInt 1 = nI (x + 1) from nI_1 x]
          first
          | (have q1 : hb (o1W (ndR M i c rt) x s).2.1 (nI x) = true := bI_nz.mp c_46
             have e : (o1W (ndR M i c rt) (x + 1) s) = (o1W (ndR M i c rt) x s) := (if_pos (bI_nz.mp c_36)).trans (if_pos q1)
             rw [← e]
             refine AW.sub (L' := [(0, .ref 64), (1, .int (nI i)), (2, .int (nI c)), (3, .int rt), (4, .long (o1W (ndR M i c rt) (x + 1) s).1), (6, .long (o1W (ndR M i c rt) (x + 1) s).2.1), (8, .int (o1W (ndR M i c rt) (x + 1) s).2.2.2), (9, .int (nI (x + 1)))]) rfl ?_
             exact ih (x + 1) (by omega))
          | (have q1 : bI (hb (o1W (ndR M i c rt) x s).1 (nI x) = true) = 0 := c_36
             have e : (o1W (ndR M i c rt) (x + 1) s) = (o1W (ndR M i c rt) x s) := if_neg (bI_z.mp q1)
             rw [← e]
             refine AW.sub (L' := [(0, .ref 64), (1, .int (nI i)), (2, .int (nI c)), (3, .int rt), (4, .long (o1W (ndR M i c rt) (x + 1) s).1), (6, .long (o1W (ndR M i c rt) (x + 1) s).2.1), (8, .int (o1W (ndR M i c rt) (x + 1) s).2.2.2), (9, .int (nI (x + 1)))]) rfl ?_
             exact ih (x + 1) (by omega))
          | (have q1 : ¬ hb (o1W (ndR M i c rt) x s).2.1 (nI x) = true := bI_z.mp c_46
             have e : (o1W (ndR M i c rt) (x + 1) s) = ((o1W (ndR M i c rt) x s).1 ||| ndR M i c rt x, (o1W (ndR M i c rt) x s).2.1 ||| bitL (nI x), fun j => if j = x then ndR M i c rt x else (o1W (ndR M i c rt) x s).2.2.1 j, 1) := (if_pos (bI_nz.mp c_36)).trans (if_neg q1)
             rw [show (if x = x then ndR M i c rt x else (o1W (ndR M i c rt) x s).2.2.1 x) = ndR M i c rt x from if_pos rfl]
             have ih2 := ih (x + 1) (by omega)
             rw [e] at ih2
             exact AW.sub (L' := [(0, .ref 64), (1, .int (nI i)), (2, .int (nI c)), (3, .int rt), (4, .long ((o1W (ndR M i c rt) x s).1 ||| ndR M i c rt x, (o1W (ndR M i c rt) x s).2.1 ||| bitL (nI x), fun j => if j = x then ndR M i c rt x else (o1W (ndR M i c rt) x s).2.2.1 j, 1).1), (6, .long ((o1W (ndR M i c rt) x s).1 ||| ndR M i c rt x, (o1W (ndR M i c rt) x s).2.1 ||| bitL (nI x), fun j => if j = x then ndR M i c rt x else (o1W (ndR M i c rt) x s).2.2.1 j, 1).2.1), (8, .int 1), (9, .int (nI (x + 1)))]) rfl ih2)
      · refine a_goto (tgt := 105) dX10_orders_49 (by decide) ?_
        refine a_iinc dX10_orders_105 rfl rfl (by decide) ?_
        refine a_goto (tgt := 22) dX10_orders_108 (by decide) ?_
        rw [show nI x + Int32.ofInt 1 = nI (x + 1) from nI_1 x]
        first
        | (have q1 : hb (o1W (ndR M i c rt) x s).2.1 (nI x) = true := bI_nz.mp c_46
           have e : (o1W (ndR M i c rt) (x + 1) s) = (o1W (ndR M i c rt) x s) := (if_pos (bI_nz.mp c_36)).trans (if_pos q1)
           rw [← e]
           refine AW.sub (L' := [(0, .ref 64), (1, .int (nI i)), (2, .int (nI c)), (3, .int rt), (4, .long (o1W (ndR M i c rt) (x + 1) s).1), (6, .long (o1W (ndR M i c rt) (x + 1) s).2.1), (8, .int (o1W (ndR M i c rt) (x + 1) s).2.2.2), (9, .int (nI (x + 1)))]) rfl ?_
           exact ih (x + 1) (by omega))
        | (have q1 : bI (hb (o1W (ndR M i c rt) x s).1 (nI x) = true) = 0 := c_36
           have e : (o1W (ndR M i c rt) (x + 1) s) = (o1W (ndR M i c rt) x s) := if_neg (bI_z.mp q1)
           rw [← e]
           refine AW.sub (L' := [(0, .ref 64), (1, .int (nI i)), (2, .int (nI c)), (3, .int rt), (4, .long (o1W (ndR M i c rt) (x + 1) s).1), (6, .long (o1W (ndR M i c rt) (x + 1) s).2.1), (8, .int (o1W (ndR M i c rt) (x + 1) s).2.2.2), (9, .int (nI (x + 1)))]) rfl ?_
           exact ih (x + 1) (by omega))
        | (have q1 : ¬ hb (o1W (ndR M i c rt) x s).2.1 (nI x) = true := bI_z.mp c_46
           have e : (o1W (ndR M i c rt) (x + 1) s) = ((o1W (ndR M i c rt) x s).1 ||| ndR M i c rt x, (o1W (ndR M i c rt) x s).2.1 ||| bitL (nI x), fun j => if j = x then ndR M i c rt x else (o1W (ndR M i c rt) x s).2.2.1 j, 1) := (if_pos (bI_nz.mp c_36)).trans (if_neg q1)
           rw [show (if x = x then ndR M i c rt x else (o1W (ndR M i c rt) x s).2.2.1 x) = ndR M i c rt x from if_pos rfl]
           have ih2 := ih (x + 1) (by omega)
           rw [e] at ih2
           exact AW.sub (L' := [(0, .ref 64), (1, .int (nI i)), (2, .int (nI c)), (3, .int rt), (4, .long ((o1W (ndR M i c rt) x s).1 ||| ndR M i c rt x, (o1W (ndR M i c rt) x s).2.1 ||| bitL (nI x), fun j => if j = x then ndR M i c rt x else (o1W (ndR M i c rt) x s).2.2.1 j, 1).1), (6, .long ((o1W (ndR M i c rt) x s).1 ||| ndR M i c rt x, (o1W (ndR M i c rt) x s).2.1 ||| bitL (nI x), fun j => if j = x then ndR M i c rt x else (o1W (ndR M i c rt) x s).2.2.1 j, 1).2.1), (8, .int 1), (9, .int (nI (x + 1)))]) rfl ih2)
