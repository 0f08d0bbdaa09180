def rgS (V : FS) (x : Nat) (p : Int64 × Int32) : Int64 × Int32 := (p.1 + V.1 x, if V.2 x = 0 then (if GRT < p.1 + V.1 x ∨ p.1 + V.1 x < -1000000000000 then 3 else 0) else V.2 x)
def rgL (V : FS) (a b : Nat) (w : Int32) : Nat → Int64 × Int32
  | 0 => (0, w)
  | x + 1 => if (rgL V a b w x).2 = 0 then (if iwP x a b then rgS V x (rgL V a b w x) else rgL V a b w x) else rgL V a b w x
theorem rgL_stop {V : FS} {a b : Nat} {w : Int32} {x : Nat} (h : ¬ (rgL V a b w x).2 = 0) : ∀ k, rgL V a b w (x + k) = rgL V a b w x
  | 0 => rfl
  | k + 1 => by
    have ih := rgL_stop h k
    show (if (rgL V a b w (x + k)).2 = 0 then _ else rgL V a b w (x + k)) = _
    rw [ih, if_neg h]
def rgE (V : FS) (a b : Nat) (s : MS) : MS := pR s (rgL V a b s.2.2 64).1 (rgL V a b s.2.2 64).2
def dn1 (s : MS) : MS := (s.1, s.2.1 - 1, s.2.2)
def rvA (V : FS) (o a b : Int32) (s : MS) : MS := if o = 0 then rC s a.toInt64 else if o = 1 then pR s (V.1 a.toNatClampNeg) (V.2 a.toNatClampNeg) else if o = 2 then rgE V a.toNatClampNeg b.toNatClampNeg s else if o = 3 then rC (dn1 s) (-(s.1 (s.2.1 - 1))) else rW s o
def rvF (V : FS) (o a b : Nat → Int32) (r : Nat → Int64) : Nat → MS
  | 0 => (r, 0, 0)
  | i + 1 => if (rvF V o a b r i).2.2 = 0 then rvA V (o i) (a i) (b i) (rvF V o a b r i) else rvF V o a b r i
/-- how high the hand is -/
def htR (o : Nat → Int32) : Nat → Nat
  | 0 => 0
  | i + 1 => if o i = 0 ∨ o i = 1 ∨ o i = 2 then htR o i + 1 else if o i = 3 then htR o i else htR o i - 1
def WHK (o : Nat → Int32) (m : Nat) : Prop := ∀ i, i < m → (o i = 0 ∨ o i = 1 ∨ o i = 2) ∨ (o i = 3 ∧ 1 ≤ htR o i) ∨ ((o i = 4 ∨ o i = 5 ∨ o i = 6 ∨ o i = 7 ∨ o i = 8) ∧ 2 ≤ htR o i)
theorem htR_le {o : Nat → Int32} : ∀ i, htR o i ≤ i
  | 0 => Nat.le_refl _
  | i + 1 => by
    have := htR_le (o := o) i
    unfold htR
    split
    · omega
    · split <;> omega
theorem rC_h {s : MS} {x : Int64} : (rC s x).2.1 = s.2.1 + 1 := rfl
theorem rW_h {s : MS} {k : Int32} (hk : k = 4 ∨ k = 5 ∨ k = 6 ∨ k = 7 ∨ k = 8) (h2 : 2 ≤ s.2.1) (he : (rW s k).2.2 = 0) (h0 : s.2.2 = 0) : (rW s k).2.1 = s.2.1 - 1 := by
  have e : (dn2 s).2.1 + 1 = s.2.1 - 1 := by show s.2.1 - 2 + 1 = s.2.1 - 1; omega
  rcases hk with rfl | rfl | rfl | rfl | rfl
  · exact e
  · exact e
  · have k : (rT (dn2 s) (s.1 (s.2.1 - 2)) (s.1 (s.2.1 - 1))).2.2 = 0 := he
    show (rT (dn2 s) (s.1 (s.2.1 - 2)) (s.1 (s.2.1 - 1))).2.1 = _
    unfold rT at k ⊢
    split
    · next q => rw [if_pos q] at k; exact absurd (show (3 : Int32) = 0 from k) (by decide)
    · exact e
  · have k : (rP (dn2 s) (s.1 (s.2.1 - 2)) (s.1 (s.2.1 - 1))).2.2 = 0 := he
    show (rP (dn2 s) (s.1 (s.2.1 - 2)) (s.1 (s.2.1 - 1))).2.1 = _
    unfold rP at k ⊢
    split
    · next q => rw [if_pos q] at k; exact absurd (show (2 : Int32) = 0 from k) (by decide)
    · exact e
  · exact e
theorem rvF_h {V : FS} {o a b : Nat → Int32} {r : Nat → Int64} {m : Nat} (hw : WHK o m) : ∀ i, i ≤ m → (rvF V o a b r i).2.2 = 0 → (rvF V o a b r i).2.1 = htR o i
  | 0, _, _ => rfl
  | i + 1, hi, h => by
    have ih := rvF_h (V := V) (a := a) (b := b) (r := r) hw i (by omega)
    have e0 : (rvF V o a b r i).2.2 = 0 := by
      by_cases q : (rvF V o a b r i).2.2 = 0
      · exact q
      · have h2 : (if (rvF V o a b r i).2.2 = 0 then rvA V (o i) (a i) (b i) (rvF V o a b r i) else rvF V o a b r i).2.2 = 0 := h
        rw [if_neg q] at h2; exact h2
    have e := ih e0
    have h2 : (rvA V (o i) (a i) (b i) (rvF V o a b r i)).2.2 = 0 := by
      have h2 : (if (rvF V o a b r i).2.2 = 0 then rvA V (o i) (a i) (b i) (rvF V o a b r i) else rvF V o a b r i).2.2 = 0 := h
      rw [if_pos e0] at h2; exact h2
    show (if (rvF V o a b r i).2.2 = 0 then rvA V (o i) (a i) (b i) (rvF V o a b r i) else rvF V o a b r i).2.1 = htR o (i + 1)
    rw [if_pos e0]
    unfold htR
    rcases hw i (by omega) with q | ⟨q, q2⟩ | ⟨q, q2⟩
    · rw [if_pos q, ← e]
      rcases q with q | q | q
      · rw [show rvA V (o i) (a i) (b i) (rvF V o a b r i) = rC (rvF V o a b r i) (a i).toInt64 from if_pos q]; rfl
      · rw [show rvA V (o i) (a i) (b i) (rvF V o a b r i) = _ from if_neg (by rw [q]; decide), if_pos q]; rfl
      · rw [show rvA V (o i) (a i) (b i) (rvF V o a b r i) = _ from if_neg (by rw [q]; decide), if_neg (by rw [q]; decide), if_pos q]; rfl
    · rw [if_neg (by rw [q]; decide), if_pos q, show rvA V (o i) (a i) (b i) (rvF V o a b r i) = _ from if_neg (by rw [q]; decide), if_neg (by rw [q]; decide), if_neg (by rw [q]; decide), if_pos q]
      show (rvF V o a b r i).2.1 - 1 + 1 = _
      omega
    · have n : ¬ o i = 0 ∧ ¬ o i = 1 ∧ ¬ o i = 2 ∧ ¬ o i = 3 := by rcases q with q | q | q | q | q <;> rw [q] <;> decide
      have e3 : rvA V (o i) (a i) (b i) (rvF V o a b r i) = rW (rvF V o a b r i) (o i) := by unfold rvA; rw [if_neg n.1, if_neg n.2.1, if_neg n.2.2.1, if_neg n.2.2.2]
      rw [e3] at h2 ⊢
      rw [if_neg (fun z => z.elim n.1 (fun z => z.elim n.2.1 n.2.2.1)), if_neg n.2.2.2, rW_h q (by omega) h2 e0, e]
theorem rOp_we {M : Mem} {V : FS} {s : MS} {k i : Nat} : rOp (we M V s) k i = rOp M k i := rfl
theorem rAr_we {M : Mem} {V : FS} {s : MS} {k i : Nat} : rAr (we M V s) k i = rAr M k i := rfl
theorem rA2_we {M : Mem} {V : FS} {s : MS} {k i : Nat} : rA2 (we M V s) k i = rA2 M k i := rfl
theorem rvF_stop {V : FS} {o a b : Nat → Int32} {r : Nat → Int64} {i : Nat} (h : ¬ (rvF V o a b r i).2.2 = 0) : ∀ k, rvF V o a b r (i + k) = rvF V o a b r i
  | 0 => rfl
  | k + 1 => by
    have ih := rvF_stop h k
    show (if (rvF V o a b r (i + k)).2.2 = 0 then _ else rvF V o a b r (i + k)) = _
    rw [ih, if_neg h]
theorem l_X10_range {M : Mem} {N : Nat} {Q : Option Value → Nat → Mem → Prop} {V : FS} {s : MS} (hh : s.2.1 < 40) {a b : Nat} (ha : a < 64) (hb : b < 64) (hN : 94 ≤ N) (hs : Str M.2.2.1) (h : AW mX10_range 3 0 0 N 87 [(0, .ref 64), (3, .long (rgL V a b s.2.2 64).1)] [] (we M V (s.1, s.2.1, (rgL V a b s.2.2 64).2)) Q)  : ∀ (r x : Nat), x + r = 64 → AW mX10_range 3 0 0 N 5 [(0, .ref 64), (1, .int (nI a)), (2, .int (nI b)), (3, .long (rgL V a b s.2.2 x).1), (5, .int (nI x))] [] (we M V (s.1, s.2.1, (rgL V a b s.2.2 x).2)) Q := by
  intro r
  induction r with
  | zero =>
    intro x hk
    obtain rfl : x = 64 := by omega
    refine a_iload dX10_range_5 rfl ?_
    refine a_bipush (v := 64) dX10_range_7 (by decide) ?_
    refine a_icmp_ge (tgt := 87) dX10_range_9 (by decide) (fun c_9 => ?_) (fun c_9 => absurd (nI_le (a := 64) (b := 64) (by omega) (by decide)) c_9)
    exact AW.sub (L' := [(0, .ref 64), (3, .long (rgL V a b s.2.2 64).1)]) rfl h
  | succ r ih =>
    intro x hk
    have hx : x < 64 := by omega
    refine a_iload dX10_range_5 rfl ?_
    refine a_bipush (v := 64) dX10_range_7 (by decide) ?_
    refine a_icmp_ge (tgt := 87) dX10_range_9 (by decide) (fun c_9 => absurd c_9 (nI_ge (b := 64) (by omega) (by decide))) (fun c_9 => ?_)
    refine a_aload_n dX10_range_12 rfl ?_
    refine a_getI kfX10_263 rfl rfl (by decide) (hlt hN (by decide)) dX10_range_13 ?_
    rw [we_w]
    refine a_if_ne (tgt := 87) dX10_range_16 (by decide) (fun c_16 => ?_) (fun c_16 => ?_)
    · have p16 : ¬ (rgL V a b s.2.2 x).2 = 0 := c_16
      have es : (rgL V a b s.2.2 64) = (rgL V a b s.2.2 x) := by rw [← rgL_stop p16 (64 - x)]; exact congrArg _ (by omega)
      rw [es] at h
      exact AW.sub (L' := [(0, .ref 64), (3, .long (rgL V a b s.2.2 x).1)]) rfl h
    · have p16 : (rgL V a b s.2.2 x).2 = 0 := c_16
      refine a_iload dX10_range_19 rfl ?_
      refine a_iload_n dX10_range_21 rfl ?_
      refine a_iload_n dX10_range_22 rfl ?_
      refine a_callS (mc1 := 0) (ms1 := 0) (As := [_, _, _]) kpX10_isWithin kmX10_239 (by decide) rfl (Nat.le_of_ble_eq_true rfl) (Nat.le_of_ble_eq_true rfl) (Nat.le_of_ble_eq_true rfl) (Nat.le_of_ble_eq_true rfl) dX10_range_23 (w_X10_isWithin hx ha hb ?_)
      refine a_if_ne (tgt := 32) dX10_range_26 (by decide) (fun c_26 => ?_) (fun c_26 => ?_)
      · have p26 : iwP x a b := bI_nz.mp c_26
        refine a_aload_n dX10_range_32 rfl ?_
        refine a_aload_n dX10_range_33 rfl ?_
        refine a_getA (z := 92) kfX10_98 rfl rfl (st_64_44 hs) (by decide) (hlt hN (by decide)) dX10_range_34 ?_
        refine a_iload dX10_range_37 rfl ?_
        refine a_iald rfl (by decide) (hlt hN (by decide)) (show vp_in _ 64 from j64_in hx) dX10_range_39 ?_
        rw [j64_c hx, we_e]
        refine a_putI kfX10_263 rfl rfl rfl (by decide) (hlt hN (by decide)) dX10_range_40 ?_
        rw [we_sw]
        refine a_lload_n dX10_range_43 rfl ?_
        refine a_aload_n dX10_range_44 rfl ?_
        refine a_getA (z := 91) kfX10_95 rfl rfl (st_64_43 hs) (by decide) (hlt hN (by decide)) dX10_range_45 ?_
        refine a_iload dX10_range_48 rfl ?_
        refine a_lald rfl (by decide) (hlt hN (by decide)) (show vp_in _ 64 from j64_in hx) dX10_range_50 ?_
        rw [j64_c hx, we_v]
        refine a_ladd dX10_range_51 ?_
        refine a_lstore_n dX10_range_52 (by decide) ?_
        refine a_aload_n dX10_range_53 rfl ?_
        refine a_getI kfX10_263 rfl rfl (by decide) (hlt hN (by decide)) dX10_range_54 ?_
        rw [we_w]
        refine a_if_ne (tgt := 81) dX10_range_57 (by decide) (fun c_57 => ?_) (fun c_57 => ?_)
        · have p57 : ¬ V.2 x = 0 := c_57
          try rw [we_sw]
          refine a_iinc dX10_range_81 rfl rfl (by decide) ?_
          refine a_goto (tgt := 5) dX10_range_84 (by decide) ?_
          rw [show nI x + Int32.ofInt 1 = nI (x + 1) from nI_1 x]
          first
          | (have k : ¬ iwP x a b := p26
             have e : (rgL V a b s.2.2 (x + 1)) = (rgL V a b s.2.2 x) := (if_pos p16).trans (if_neg k)
             have ih2 := ih (x + 1) (by omega)
             rw [e] at ih2
             exact AW.sub (L' := [(0, .ref 64), (1, .int (nI a)), (2, .int (nI b)), (3, .long (rgL V a b s.2.2 x).1), (5, .int (nI (x + 1)))]) rfl ih2)
          | (have k : ¬ V.2 x = 0 := p57
             have e : (rgL V a b s.2.2 (x + 1)) = (((rgL V a b s.2.2 x).1 + V.1 x, V.2 x) : Int64 × Int32) := (if_pos p16).trans ((if_pos p26).trans (congrArg (Prod.mk _) (if_neg k)))
             have ih2 := ih (x + 1) (by omega)
             rw [e] at ih2
             exact AW.sub (L' := [(0, .ref 64), (1, .int (nI a)), (2, .int (nI b)), (3, .long (((rgL V a b s.2.2 x).1 + V.1 x, V.2 x) : Int64 × Int32).1), (5, .int (nI (x + 1)))]) rfl ih2)
          | (have k : GRT < (rgL V a b s.2.2 x).1 + V.1 x ∨ (rgL V a b s.2.2 x).1 + V.1 x < -1000000000000 := p65
             have e : (rgL V a b s.2.2 (x + 1)) = (((rgL V a b s.2.2 x).1 + V.1 x, 3) : Int64 × Int32) := (if_pos p16).trans ((if_pos p26).trans (congrArg (Prod.mk _) ((if_pos p57).trans (if_pos k))))
             have ih2 := ih (x + 1) (by omega)
             rw [e] at ih2
             exact AW.sub (L' := [(0, .ref 64), (1, .int (nI a)), (2, .int (nI b)), (3, .long (((rgL V a b s.2.2 x).1 + V.1 x, 3) : Int64 × Int32).1), (5, .int (nI (x + 1)))]) rfl ih2)
          | (have k : ¬ (GRT < (rgL V a b s.2.2 x).1 + V.1 x ∨ (rgL V a b s.2.2 x).1 + V.1 x < -1000000000000) := p65
             have e : (rgL V a b s.2.2 (x + 1)) = (((rgL V a b s.2.2 x).1 + V.1 x, V.2 x) : Int64 × Int32) := (if_pos p16).trans ((if_pos p26).trans (congrArg (Prod.mk _) (((if_pos p57).trans (if_neg k)).trans p57.symm)))
             have ih2 := ih (x + 1) (by omega)
             rw [e] at ih2
             exact AW.sub (L' := [(0, .ref 64), (1, .int (nI a)), (2, .int (nI b)), (3, .long (((rgL V a b s.2.2 x).1 + V.1 x, V.2 x) : Int64 × Int32).1), (5, .int (nI (x + 1)))]) rfl ih2)
        · have p57 : V.2 x = 0 := c_57
          refine a_lload_n dX10_range_60 rfl ?_
          refine a_ldc2 kkX10_259 dX10_range_61 ?_
          refine a_lcmp dX10_range_64 ?_
          refine a_if_gt (tgt := 76) dX10_range_65 (by decide) (fun c_65 => ?_) (fun c_65 => ?_)
          · have p65 : GRT < (rgL V a b s.2.2 x).1 + V.1 x ∨ (rgL V a b s.2.2 x).1 + V.1 x < -1000000000000 := Or.inl ((lg_cmp_gt _ _).mp c_65)
            refine a_aload_n dX10_range_76 rfl ?_
            refine a_iconst (v := 3) dX10_range_77 (by decide) ?_
            refine a_putI kfX10_263 rfl rfl rfl (by decide) (hlt hN (by decide)) dX10_range_78 ?_
            try rw [we_sw]
            refine a_iinc dX10_range_81 rfl rfl (by decide) ?_
            refine a_goto (tgt := 5) dX10_range_84 (by decide) ?_
            rw [show nI x + Int32.ofInt 1 = nI (x + 1) from nI_1 x]
            first
            | (have k : ¬ iwP x a b := p26
               have e : (rgL V a b s.2.2 (x + 1)) = (rgL V a b s.2.2 x) := (if_pos p16).trans (if_neg k)
               have ih2 := ih (x + 1) (by omega)
               rw [e] at ih2
               exact AW.sub (L' := [(0, .ref 64), (1, .int (nI a)), (2, .int (nI b)), (3, .long (rgL V a b s.2.2 x).1), (5, .int (nI (x + 1)))]) rfl ih2)
            | (have k : ¬ V.2 x = 0 := p57
               have e : (rgL V a b s.2.2 (x + 1)) = (((rgL V a b s.2.2 x).1 + V.1 x, V.2 x) : Int64 × Int32) := (if_pos p16).trans ((if_pos p26).trans (congrArg (Prod.mk _) (if_neg k)))
               have ih2 := ih (x + 1) (by omega)
               rw [e] at ih2
               exact AW.sub (L' := [(0, .ref 64), (1, .int (nI a)), (2, .int (nI b)), (3, .long (((rgL V a b s.2.2 x).1 + V.1 x, V.2 x) : Int64 × Int32).1), (5, .int (nI (x + 1)))]) rfl ih2)
            | (have k : GRT < (rgL V a b s.2.2 x).1 + V.1 x ∨ (rgL V a b s.2.2 x).1 + V.1 x < -1000000000000 := p65
               have e : (rgL V a b s.2.2 (x + 1)) = (((rgL V a b s.2.2 x).1 + V.1 x, 3) : Int64 × Int32) := (if_pos p16).trans ((if_pos p26).trans (congrArg (Prod.mk _) ((if_pos p57).trans (if_pos k))))
               have ih2 := ih (x + 1) (by omega)
               rw [e] at ih2
               exact AW.sub (L' := [(0, .ref 64), (1, .int (nI a)), (2, .int (nI b)), (3, .long (((rgL V a b s.2.2 x).1 + V.1 x, 3) : Int64 × Int32).1), (5, .int (nI (x + 1)))]) rfl ih2)
            | (have k : ¬ (GRT < (rgL V a b s.2.2 x).1 + V.1 x ∨ (rgL V a b s.2.2 x).1 + V.1 x < -1000000000000) := p65
               have e : (rgL V a b s.2.2 (x + 1)) = (((rgL V a b s.2.2 x).1 + V.1 x, V.2 x) : Int64 × Int32) := (if_pos p16).trans ((if_pos p26).trans (congrArg (Prod.mk _) (((if_pos p57).trans (if_neg k)).trans p57.symm)))
               have ih2 := ih (x + 1) (by omega)
               rw [e] at ih2
               exact AW.sub (L' := [(0, .ref 64), (1, .int (nI a)), (2, .int (nI b)), (3, .long (((rgL V a b s.2.2 x).1 + V.1 x, V.2 x) : Int64 × Int32).1), (5, .int (nI (x + 1)))]) rfl ih2)
          · refine a_lload_n dX10_range_68 rfl ?_
            refine a_ldc2 kkX10_261 dX10_range_69 ?_
            refine a_lcmp dX10_range_72 ?_
            refine a_if_ge (tgt := 81) dX10_range_73 (by decide) (fun c_73 => ?_) (fun c_73 => ?_)
            · have p65 : ¬ (GRT < (rgL V a b s.2.2 x).1 + V.1 x ∨ (rgL V a b s.2.2 x).1 + V.1 x < -1000000000000) := fun z => z.elim (fun q => c_65 ((lg_cmp_gt _ _).mpr q)) (pg4 c_73)
              try rw [we_sw]
              refine a_iinc dX10_range_81 rfl rfl (by decide) ?_
              refine a_goto (tgt := 5) dX10_range_84 (by decide) ?_
              rw [show nI x + Int32.ofInt 1 = nI (x + 1) from nI_1 x]
              first
              | (have k : ¬ iwP x a b := p26
                 have e : (rgL V a b s.2.2 (x + 1)) = (rgL V a b s.2.2 x) := (if_pos p16).trans (if_neg k)
                 have ih2 := ih (x + 1) (by omega)
                 rw [e] at ih2
                 exact AW.sub (L' := [(0, .ref 64), (1, .int (nI a)), (2, .int (nI b)), (3, .long (rgL V a b s.2.2 x).1), (5, .int (nI (x + 1)))]) rfl ih2)
              | (have k : ¬ V.2 x = 0 := p57
                 have e : (rgL V a b s.2.2 (x + 1)) = (((rgL V a b s.2.2 x).1 + V.1 x, V.2 x) : Int64 × Int32) := (if_pos p16).trans ((if_pos p26).trans (congrArg (Prod.mk _) (if_neg k)))
                 have ih2 := ih (x + 1) (by omega)
                 rw [e] at ih2
                 exact AW.sub (L' := [(0, .ref 64), (1, .int (nI a)), (2, .int (nI b)), (3, .long (((rgL V a b s.2.2 x).1 + V.1 x, V.2 x) : Int64 × Int32).1), (5, .int (nI (x + 1)))]) rfl ih2)
              | (have k : GRT < (rgL V a b s.2.2 x).1 + V.1 x ∨ (rgL V a b s.2.2 x).1 + V.1 x < -1000000000000 := p65
                 have e : (rgL V a b s.2.2 (x + 1)) = (((rgL V a b s.2.2 x).1 + V.1 x, 3) : Int64 × Int32) := (if_pos p16).trans ((if_pos p26).trans (congrArg (Prod.mk _) ((if_pos p57).trans (if_pos k))))
                 have ih2 := ih (x + 1) (by omega)
                 rw [e] at ih2
                 exact AW.sub (L' := [(0, .ref 64), (1, .int (nI a)), (2, .int (nI b)), (3, .long (((rgL V a b s.2.2 x).1 + V.1 x, 3) : Int64 × Int32).1), (5, .int (nI (x + 1)))]) rfl ih2)
              | (have k : ¬ (GRT < (rgL V a b s.2.2 x).1 + V.1 x ∨ (rgL V a b s.2.2 x).1 + V.1 x < -1000000000000) := p65
                 have e : (rgL V a b s.2.2 (x + 1)) = (((rgL V a b s.2.2 x).1 + V.1 x, V.2 x) : Int64 × Int32) := (if_pos p16).trans ((if_pos p26).trans (congrArg (Prod.mk _) (((if_pos p57).trans (if_neg k)).trans p57.symm)))
                 have ih2 := ih (x + 1) (by omega)
                 rw [e] at ih2
                 exact AW.sub (L' := [(0, .ref 64), (1, .int (nI a)), (2, .int (nI b)), (3, .long (((rgL V a b s.2.2 x).1 + V.1 x, V.2 x) : Int64 × Int32).1), (5, .int (nI (x + 1)))]) rfl ih2)
            · have p65 : GRT < (rgL V a b s.2.2 x).1 + V.1 x ∨ (rgL V a b s.2.2 x).1 + V.1 x < -1000000000000 := Or.inr (pg5 c_73)
              refine a_aload_n dX10_range_76 rfl ?_
              refine a_iconst (v := 3) dX10_range_77 (by decide) ?_
              refine a_putI kfX10_263 rfl rfl rfl (by decide) (hlt hN (by decide)) dX10_range_78 ?_
              try rw [we_sw]
              refine a_iinc dX10_range_81 rfl rfl (by decide) ?_
              refine a_goto (tgt := 5) dX10_range_84 (by decide) ?_
              rw [show nI x + Int32.ofInt 1 = nI (x + 1) from nI_1 x]
              first
              | (have k : ¬ iwP x a b := p26
                 have e : (rgL V a b s.2.2 (x + 1)) = (rgL V a b s.2.2 x) := (if_pos p16).trans (if_neg k)
                 have ih2 := ih (x + 1) (by omega)
                 rw [e] at ih2
                 exact AW.sub (L' := [(0, .ref 64), (1, .int (nI a)), (2, .int (nI b)), (3, .long (rgL V a b s.2.2 x).1), (5, .int (nI (x + 1)))]) rfl ih2)
              | (have k : ¬ V.2 x = 0 := p57
                 have e : (rgL V a b s.2.2 (x + 1)) = (((rgL V a b s.2.2 x).1 + V.1 x, V.2 x) : Int64 × Int32) := (if_pos p16).trans ((if_pos p26).trans (congrArg (Prod.mk _) (if_neg k)))
                 have ih2 := ih (x + 1) (by omega)
                 rw [e] at ih2
                 exact AW.sub (L' := [(0, .ref 64), (1, .int (nI a)), (2, .int (nI b)), (3, .long (((rgL V a b s.2.2 x).1 + V.1 x, V.2 x) : Int64 × Int32).1), (5, .int (nI (x + 1)))]) rfl ih2)
              | (have k : GRT < (rgL V a b s.2.2 x).1 + V.1 x ∨ (rgL V a b s.2.2 x).1 + V.1 x < -1000000000000 := p65
                 have e : (rgL V a b s.2.2 (x + 1)) = (((rgL V a b s.2.2 x).1 + V.1 x, 3) : Int64 × Int32) := (if_pos p16).trans ((if_pos p26).trans (congrArg (Prod.mk _) ((if_pos p57).trans (if_pos k))))
                 have ih2 := ih (x + 1) (by omega)
                 rw [e] at ih2
                 exact AW.sub (L' := [(0, .ref 64), (1, .int (nI a)), (2, .int (nI b)), (3, .long (((rgL V a b s.2.2 x).1 + V.1 x, 3) : Int64 × Int32).1), (5, .int (nI (x + 1)))]) rfl ih2)
              | (have k : ¬ (GRT < (rgL V a b s.2.2 x).1 + V.1 x ∨ (rgL V a b s.2.2 x).1 + V.1 x < -1000000000000) := p65
                 have e : (rgL V a b s.2.2 (x + 1)) = (((rgL V a b s.2.2 x).1 + V.1 x, V.2 x) : Int64 × Int32) := (if_pos p16).trans ((if_pos p26).trans (congrArg (Prod.mk _) (((if_pos p57).trans (if_neg k)).trans p57.symm)))
                 have ih2 := ih (x + 1) (by omega)
                 rw [e] at ih2
                 exact AW.sub (L' := [(0, .ref 64), (1, .int (nI a)), (2, .int (nI b)), (3, .long (((rgL V a b s.2.2 x).1 + V.1 x, V.2 x) : Int64 × Int32).1), (5, .int (nI (x + 1)))]) rfl ih2)
      · have p26 : ¬ iwP x a b := bI_z.mp c_26
        refine a_goto (tgt := 81) dX10_range_29 (by decide) ?_
        try rw [we_sw]
        refine a_iinc dX10_range_81 rfl rfl (by decide) ?_
        refine a_goto (tgt := 5) dX10_range_84 (by decide) ?_
        rw [show nI x + Int32.ofInt 1 = nI (x + 1) from nI_1 x]
        first
        | (have k : ¬ iwP x a b := p26
           have e : (rgL V a b s.2.2 (x + 1)) = (rgL V a b s.2.2 x) := (if_pos p16).trans (if_neg k)
           have ih2 := ih (x + 1) (by omega)
           rw [e] at ih2
           exact AW.sub (L' := [(0, .ref 64), (1, .int (nI a)), (2, .int (nI b)), (3, .long (rgL V a b s.2.2 x).1), (5, .int (nI (x + 1)))]) rfl ih2)
        | (have k : ¬ V.2 x = 0 := p57
           have e : (rgL V a b s.2.2 (x + 1)) = (((rgL V a b s.2.2 x).1 + V.1 x, V.2 x) : Int64 × Int32) := (if_pos p16).trans ((if_pos p26).trans (congrArg (Prod.mk _) (if_neg k)))
           have ih2 := ih (x + 1) (by omega)
           rw [e] at ih2
           exact AW.sub (L' := [(0, .ref 64), (1, .int (nI a)), (2, .int (nI b)), (3, .long (((rgL V a b s.2.2 x).1 + V.1 x, V.2 x) : Int64 × Int32).1), (5, .int (nI (x + 1)))]) rfl ih2)
        | (have k : GRT < (rgL V a b s.2.2 x).1 + V.1 x ∨ (rgL V a b s.2.2 x).1 + V.1 x < -1000000000000 := p65
           have e : (rgL V a b s.2.2 (x + 1)) = (((rgL V a b s.2.2 x).1 + V.1 x, 3) : Int64 × Int32) := (if_pos p16).trans ((if_pos p26).trans (congrArg (Prod.mk _) ((if_pos p57).trans (if_pos k))))
           have ih2 := ih (x + 1) (by omega)
           rw [e] at ih2
           exact AW.sub (L' := [(0, .ref 64), (1, .int (nI a)), (2, .int (nI b)), (3, .long (((rgL V a b s.2.2 x).1 + V.1 x, 3) : Int64 × Int32).1), (5, .int (nI (x + 1)))]) rfl ih2)
        | (have k : ¬ (GRT < (rgL V a b s.2.2 x).1 + V.1 x ∨ (rgL V a b s.2.2 x).1 + V.1 x < -1000000000000) := p65
           have e : (rgL V a b s.2.2 (x + 1)) = (((rgL V a b s.2.2 x).1 + V.1 x, V.2 x) : Int64 × Int32) := (if_pos p16).trans ((if_pos p26).trans (congrArg (Prod.mk _) (((if_pos p57).trans (if_neg k)).trans p57.symm)))
           have ih2 := ih (x + 1) (by omega)
           rw [e] at ih2
           exact AW.sub (L' := [(0, .ref 64), (1, .int (nI a)), (2, .int (nI b)), (3, .long (((rgL V a b s.2.2 x).1 + V.1 x, V.2 x) : Int64 × Int32).1), (5, .int (nI (x + 1)))]) rfl ih2)
theorem w_X10_range {M : Mem} {N : Nat} {Q : Option Value → Nat → Mem → Prop} {V : FS} {s : MS} (hh : s.2.1 < 40) {a b : Nat} (ha : a < 64) (hb : b < 64)  (hN : 94 ≤ N) (hs : Str M.2.2.1) (h : Q (none) N (we M V (rgE V a b s))) : AW mX10_range 3 0 0 N 0 [(0, .ref 64), (1, .int (nI a)), (2, .int (nI b))] [] (we M V s) Q := by
  refine a_lconst (v := 0) dX10_range_0 (by decide) ?_
  refine a_lstore_n dX10_range_1 (by decide) ?_
  refine a_iconst (v := 0) dX10_range_2 (by decide) ?_
  refine a_istore dX10_range_3 (by decide) ?_
  refine AW.sub (L' := [(0, .ref 64), (1, .int (nI a)), (2, .int (nI b)), (3, .long (rgL V a b s.2.2 0).1), (5, .int (nI 0))]) rfl (l_X10_range hh ha hb hN hs ?_ 64 0 (by omega))
  refine a_aload_n dX10_range_87 rfl ?_
  refine a_getA (z := 93) kfX10_101 rfl rfl (st_64_45 hs) (by decide) (hlt hN (by decide)) dX10_range_88 ?_
  refine a_aload_n dX10_range_91 rfl ?_
  refine a_getI kfX10_266 rfl rfl (by decide) (hlt hN (by decide)) dX10_range_92 ?_
  rw [we_h]
  refine a_lload_n dX10_range_95 rfl ?_
  refine a_last rfl (by decide) (hlt hN (by decide)) (show vp_in _ 40 from m40 hh) dX10_range_96 ?_
  rw [show (nI (s.1, s.2.1, (rgL V a b s.2.2 64).2).2.1).toNatClampNeg = s.2.1 from nI_clamp (show s.2.1 < 2 ^ 31 by omega), we_ss]
  refine a_aload_n dX10_range_97 rfl ?_
  refine a_dup dX10_range_98 rfl ?_
  refine a_getI kfX10_266 rfl rfl (by decide) (hlt hN (by decide)) dX10_range_99 ?_
  rw [we_h]
  refine a_iconst (v := 1) dX10_range_102 (by decide) ?_
  refine a_iadd dX10_range_103 ?_
  rw [show nI s.2.1 + 1 = nI (s.2.1 + 1) from nI_1 _]
  refine a_putI kfX10_266 rfl rfl rfl (by decide) (hlt hN (by decide)) dX10_range_104 ?_
  rw [we_sh]
  refine a_vret dX10_range_107 rfl (by unfold rgE at h; generalize rgL V a b s.2.2 64 = p at h ⊢; exact h)

theorem l_X10_reckons {M : Mem} {N : Nat} {Q : Option Value → Nat → Mem → Prop} {V : FS} {r0 : Nat → Int64} {k mn : Nat} (hk3 : k < 384) (hmn : mn ≤ 40) (hmy : rI M 70 k = nI mn) (hw : WFK (rOp M k) (rAr M k) (rA2 M k) mn) (hwh : WHK (rOp M k) mn) (hN : 94 ≤ N) (hs : Str M.2.2.1) (h : Q none N (we M V (rvF V (rOp M k) (rAr M k) (rA2 M k) r0 mn)))  : ∀ (r i : Nat), i + r = mn → AW mX10_reckons 4 0 0 N 12 [(0, .ref 64), (1, .int (nI k)), (2, .int (nI i))] [] (we M V (rvF V (rOp M k) (rAr M k) (rA2 M k) r0 i)) Q := by
  intro r
  induction r with
  | zero =>
    intro i hk
    obtain rfl : i = mn := by omega
    refine a_iload_n dX10_reckons_12 rfl ?_
    refine a_aload_n dX10_reckons_13 rfl ?_
    refine a_getA (z := 70) kfX10_26 rfl rfl (st_64_6 hs) (by decide) (hlt hN (by decide)) dX10_reckons_14 ?_
    refine a_iload_n dX10_reckons_17 rfl ?_
    refine a_iald rfl (by decide) (hlt hN (by decide)) (show vp_in _ 384 from vp_in_nI hk3 (by decide)) dX10_reckons_18 ?_
    rw [nI_clamp (by omega), we_I (by decide) (by decide), hmy]
    refine a_icmp_ge (tgt := 139) dX10_reckons_19 (by decide) (fun c_19 => ?_) (fun c_19 => absurd (nI_le (by omega) (by omega)) c_19)
    refine a_vret dX10_reckons_139 rfl h
  | succ r ih =>
    intro i hk
    refine a_iload_n dX10_reckons_12 rfl ?_
    refine a_aload_n dX10_reckons_13 rfl ?_
    refine a_getA (z := 70) kfX10_26 rfl rfl (st_64_6 hs) (by decide) (hlt hN (by decide)) dX10_reckons_14 ?_
    refine a_iload_n dX10_reckons_17 rfl ?_
    refine a_iald rfl (by decide) (hlt hN (by decide)) (show vp_in _ 384 from vp_in_nI hk3 (by decide)) dX10_reckons_18 ?_
    rw [nI_clamp (by omega), we_I (by decide) (by decide), hmy]
    refine a_icmp_ge (tgt := 139) dX10_reckons_19 (by decide) (fun c_19 => absurd c_19 (nI_ge (by omega) (by omega))) (fun c_19 => ?_)
    refine a_aload_n dX10_reckons_22 rfl ?_
    refine a_getI kfX10_263 rfl rfl (by decide) (hlt hN (by decide)) dX10_reckons_23 ?_
    rw [we_w]
    refine a_if_ne (tgt := 139) dX10_reckons_26 (by decide) (fun c_26 => ?_) (fun c_26 => ?_)
    · have p26 : ¬ (rvF V (rOp M k) (rAr M k) (rA2 M k) r0 i).2.2 = 0 := c_26
      have es : (rvF V (rOp M k) (rAr M k) (rA2 M k) r0 mn) = (rvF V (rOp M k) (rAr M k) (rA2 M k) r0 i) := by rw [← rvF_stop p26 (mn - i)]; exact congrArg _ (by omega)
      rw [es] at h
      refine a_vret dX10_reckons_139 rfl h
    · have p26 : (rvF V (rOp M k) (rAr M k) (rA2 M k) r0 i).2.2 = 0 := c_26
      have hht := rvF_h (V := V) (a := rAr M k) (b := rA2 M k) (r := r0) hwh i (by omega) p26
      have hle := htR_le (o := rOp M k) i
      have hlt40 : (rvF V (rOp M k) (rAr M k) (rA2 M k) r0 i).2.1 < 40 := by omega
      refine a_aload_n dX10_reckons_29 rfl ?_
      refine a_iload_n dX10_reckons_30 rfl ?_
      refine a_iload_n dX10_reckons_31 rfl ?_
      refine a_callV (mc1 := 0) (ms1 := 0) (As := [_, _]) kpX10_opOf kmX10_229 (by decide) rfl (Nat.le_of_ble_eq_true rfl) rfl (by decide) rfl (by decide) (hlt hN (by decide)) (Nat.le_of_ble_eq_true rfl) (Nat.le_of_ble_eq_true rfl) (Nat.le_of_ble_eq_true rfl) dX10_reckons_32 (w_X10_opOf hk3 (show i < 40 by omega) hN (by exact hs) ?_)
      rw [rOp_we]
      refine a_istore_n dX10_reckons_35 (by decide) ?_
      refine a_iload_n dX10_reckons_36 rfl ?_
      refine a_if_ne (tgt := 54) dX10_reckons_37 (by decide) (fun c_37 => ?_) (fun c_37 => ?_)
      · have o37 : ¬ rOp M k i = 0 := c_37
        refine a_iload_n dX10_reckons_54 rfl ?_
        refine a_iconst (v := 1) dX10_reckons_55 (by decide) ?_
        refine a_icmp_ne (tgt := 72) dX10_reckons_56 (by decide) (fun c_56 => ?_) (fun c_56 => ?_)
        · have o56 : ¬ rOp M k i = 1 := c_56
          refine a_iload_n dX10_reckons_72 rfl ?_
          refine a_iconst (v := 2) dX10_reckons_73 (by decide) ?_
          refine a_icmp_ne (tgt := 96) dX10_reckons_74 (by decide) (fun c_74 => ?_) (fun c_74 => ?_)
          · have o74 : ¬ rOp M k i = 2 := c_74
            refine a_iload_n dX10_reckons_96 rfl ?_
            refine a_iconst (v := 3) dX10_reckons_97 (by decide) ?_
            refine a_icmp_ne (tgt := 128) dX10_reckons_98 (by decide) (fun c_98 => ?_) (fun c_98 => ?_)
            · have o98 : ¬ rOp M k i = 3 := c_98
              obtain ⟨hop, hh2⟩ : (rOp M k i = 4 ∨ rOp M k i = 5 ∨ rOp M k i = 6 ∨ rOp M k i = 7 ∨ rOp M k i = 8) ∧ 2 ≤ htR (rOp M k) i := by
                rcases hwh i (by omega) with q | ⟨q, -⟩ | q
                · exact absurd q (fun z => z.elim o37 (fun z => z.elim o56 o74))
                · exact absurd q o98
                · exact q
              refine a_aload_n dX10_reckons_128 rfl ?_
              refine a_iload_n dX10_reckons_129 rfl ?_
              refine a_callV (mc1 := 0) (ms1 := 0) (As := [_]) kpX10_two kmX10_286 (by decide) rfl (Nat.le_of_ble_eq_true rfl) rfl (by decide) rfl (by decide) (hlt hN (by decide)) (Nat.le_of_ble_eq_true rfl) (Nat.le_of_ble_eq_true rfl) (Nat.le_of_ble_eq_true rfl) dX10_reckons_130 (w_X10_two (show (rvF V (rOp M k) (rAr M k) (rA2 M k) r0 i).2.1 ≤ 40 by omega) (show 2 ≤ (rvF V (rOp M k) (rAr M k) (rA2 M k) r0 i).2.1 by omega) hop hN (by exact hs) ?_)
              refine a_iinc dX10_reckons_133 rfl rfl (by decide) ?_
              refine a_goto (tgt := 12) dX10_reckons_136 (by decide) ?_
              rw [show nI i + Int32.ofInt 1 = nI (i + 1) from nI_1 i]
              have ih2 := ih (i + 1) (by omega)
              rw [show (rvF V (rOp M k) (rAr M k) (rA2 M k) r0 (i + 1)) = rvA V (rOp M k i) (rAr M k i) (rA2 M k i) (rvF V (rOp M k) (rAr M k) (rA2 M k) r0 i) from if_pos p26] at ih2
              first
              | (have q : rOp M k i = 0 := o37
                 rw [show rvA V (rOp M k i) (rAr M k i) (rA2 M k i) (rvF V (rOp M k) (rAr M k) (rA2 M k) r0 i) = _ from if_pos q] at ih2
                 exact AW.sub (L' := [(0, .ref 64), (1, .int (nI k)), (2, .int (nI (i + 1)))]) rfl ih2)
              | (have q : rOp M k i = 1 := o56
                 rw [show rvA V (rOp M k i) (rAr M k i) (rA2 M k i) (rvF V (rOp M k) (rAr M k) (rA2 M k) r0 i) = _ from if_neg o37, if_pos q, ea1] at ih2
                 exact AW.sub (L' := [(0, .ref 64), (1, .int (nI k)), (2, .int (nI (i + 1)))]) rfl ih2)
              | (have q : rOp M k i = 2 := o74
                 rw [show rvA V (rOp M k i) (rAr M k i) (rA2 M k i) (rvF V (rOp M k) (rAr M k) (rA2 M k) r0 i) = _ from if_neg o37, if_neg o56, if_pos q, ea2, eb2] at ih2
                 exact AW.sub (L' := [(0, .ref 64), (1, .int (nI k)), (2, .int (nI (i + 1)))]) rfl ih2)
              | (have q : rOp M k i = 3 := o98
                 rw [show rvA V (rOp M k i) (rAr M k i) (rA2 M k i) (rvF V (rOp M k) (rAr M k) (rA2 M k) r0 i) = _ from if_neg o37, if_neg o56, if_neg o74, if_pos q] at ih2
                 exact AW.sub (L' := [(0, .ref 64), (1, .int (nI k)), (2, .int (nI (i + 1)))]) rfl ih2)
              | (rw [show rvA V (rOp M k i) (rAr M k i) (rA2 M k i) (rvF V (rOp M k) (rAr M k) (rA2 M k) r0 i) = _ from if_neg o37, if_neg o56, if_neg o74, if_neg o98] at ih2
                 exact AW.sub (L' := [(0, .ref 64), (1, .int (nI k)), (2, .int (nI (i + 1)))]) rfl ih2)
            · have o98 : rOp M k i = 3 := c_98
              have hh1 : 1 ≤ htR (rOp M k) i := by
                rcases hwh i (by omega) with q | ⟨-, q⟩ | ⟨q, -⟩
                · exact absurd q (fun z => z.elim o37 (fun z => z.elim o56 o74))
                · exact q
                · exact absurd q (by rw [o98]; decide)
              refine a_aload_n dX10_reckons_101 rfl ?_
              refine a_dup dX10_reckons_102 rfl ?_
              refine a_getI kfX10_266 rfl rfl (by decide) (hlt hN (by decide)) dX10_reckons_103 ?_
              rw [we_h]
              refine a_iconst (v := 1) dX10_reckons_106 (by decide) ?_
              refine a_isub dX10_reckons_107 ?_
              rw [show nI (rvF V (rOp M k) (rAr M k) (rA2 M k) r0 i).2.1 - 1 = nI ((rvF V (rOp M k) (rAr M k) (rA2 M k) r0 i).2.1 - 1) from pk_sub (a := (rvF V (rOp M k) (rAr M k) (rA2 M k) r0 i).2.1) (b := 1) (by omega)]
              refine a_putI kfX10_266 rfl rfl rfl (by decide) (hlt hN (by decide)) dX10_reckons_108 ?_
              rw [we_sh]
              rw [show we M V ((rvF V (rOp M k) (rAr M k) (rA2 M k) r0 i).1, (rvF V (rOp M k) (rAr M k) (rA2 M k) r0 i).2.1 - 1, (rvF V (rOp M k) (rAr M k) (rA2 M k) r0 i).2.2) = we M V (dn1 (rvF V (rOp M k) (rAr M k) (rA2 M k) r0 i)) from rfl]
              refine a_aload_n dX10_reckons_111 rfl ?_
              refine a_aload_n dX10_reckons_112 rfl ?_
              refine a_getA (z := 93) kfX10_101 rfl rfl (st_64_45 hs) (by decide) (hlt hN (by decide)) dX10_reckons_113 ?_
              refine a_aload_n dX10_reckons_116 rfl ?_
              refine a_getI kfX10_266 rfl rfl (by decide) (hlt hN (by decide)) dX10_reckons_117 ?_
              rw [we_h]
              refine a_lald rfl (by decide) (hlt hN (by decide)) (show vp_in _ 40 from m40 (show (rvF V (rOp M k) (rAr M k) (rA2 M k) r0 i).2.1 - 1 < 40 by omega)) dX10_reckons_120 ?_
              rw [show (nI (dn1 (rvF V (rOp M k) (rAr M k) (rA2 M k) r0 i)).2.1).toNatClampNeg = (rvF V (rOp M k) (rAr M k) (rA2 M k) r0 i).2.1 - 1 from nI_clamp (show (rvF V (rOp M k) (rAr M k) (rA2 M k) r0 i).2.1 - 1 < 2 ^ 31 by omega), we_s]
              refine a_lneg dX10_reckons_121 ?_
              refine a_callV (mc1 := 0) (ms1 := 0) (As := [_]) kpX10_comes kmX10_269 (by decide) rfl (Nat.le_of_ble_eq_true rfl) rfl (by decide) rfl (by decide) (hlt hN (by decide)) (Nat.le_of_ble_eq_true rfl) (Nat.le_of_ble_eq_true rfl) (Nat.le_of_ble_eq_true rfl) dX10_reckons_122 (w_X10_comes (s := dn1 (rvF V (rOp M k) (rAr M k) (rA2 M k) r0 i)) (show (rvF V (rOp M k) (rAr M k) (rA2 M k) r0 i).2.1 - 1 < 40 by omega) hN (by exact hs) ?_)
              refine a_goto (tgt := 133) dX10_reckons_125 (by decide) ?_
              refine a_iinc dX10_reckons_133 rfl rfl (by decide) ?_
              refine a_goto (tgt := 12) dX10_reckons_136 (by decide) ?_
              rw [show nI i + Int32.ofInt 1 = nI (i + 1) from nI_1 i]
              have ih2 := ih (i + 1) (by omega)
              rw [show (rvF V (rOp M k) (rAr M k) (rA2 M k) r0 (i + 1)) = rvA V (rOp M k i) (rAr M k i) (rA2 M k i) (rvF V (rOp M k) (rAr M k) (rA2 M k) r0 i) from if_pos p26] at ih2
              first
              | (have q : rOp M k i = 0 := o37
                 rw [show rvA V (rOp M k i) (rAr M k i) (rA2 M k i) (rvF V (rOp M k) (rAr M k) (rA2 M k) r0 i) = _ from if_pos q] at ih2
                 exact AW.sub (L' := [(0, .ref 64), (1, .int (nI k)), (2, .int (nI (i + 1)))]) rfl ih2)
              | (have q : rOp M k i = 1 := o56
                 rw [show rvA V (rOp M k i) (rAr M k i) (rA2 M k i) (rvF V (rOp M k) (rAr M k) (rA2 M k) r0 i) = _ from if_neg o37, if_pos q, ea1] at ih2
                 exact AW.sub (L' := [(0, .ref 64), (1, .int (nI k)), (2, .int (nI (i + 1)))]) rfl ih2)
              | (have q : rOp M k i = 2 := o74
                 rw [show rvA V (rOp M k i) (rAr M k i) (rA2 M k i) (rvF V (rOp M k) (rAr M k) (rA2 M k) r0 i) = _ from if_neg o37, if_neg o56, if_pos q, ea2, eb2] at ih2
                 exact AW.sub (L' := [(0, .ref 64), (1, .int (nI k)), (2, .int (nI (i + 1)))]) rfl ih2)
              | (have q : rOp M k i = 3 := o98
                 rw [show rvA V (rOp M k i) (rAr M k i) (rA2 M k i) (rvF V (rOp M k) (rAr M k) (rA2 M k) r0 i) = _ from if_neg o37, if_neg o56, if_neg o74, if_pos q] at ih2
                 exact AW.sub (L' := [(0, .ref 64), (1, .int (nI k)), (2, .int (nI (i + 1)))]) rfl ih2)
              | (rw [show rvA V (rOp M k i) (rAr M k i) (rA2 M k i) (rvF V (rOp M k) (rAr M k) (rA2 M k) r0 i) = _ from if_neg o37, if_neg o56, if_neg o74, if_neg o98] at ih2
                 exact AW.sub (L' := [(0, .ref 64), (1, .int (nI k)), (2, .int (nI (i + 1)))]) rfl ih2)
          · have o74 : rOp M k i = 2 := c_74
            obtain ⟨c, e, hc, he, ea, eb⟩ := (hw i (by omega)).2 o74
            have ea2 : (rAr M k i).toNatClampNeg = c := by rw [ea]; exact j64_c hc
            have eb2 : (rA2 M k i).toNatClampNeg = e := by rw [eb]; exact j64_c he
            refine a_aload_n dX10_reckons_77 rfl ?_
            refine a_aload_n dX10_reckons_78 rfl ?_
            refine a_iload_n dX10_reckons_79 rfl ?_
            refine a_iload_n dX10_reckons_80 rfl ?_
            refine a_callV (mc1 := 0) (ms1 := 0) (As := [_, _]) kpX10_argOf kmX10_233 (by decide) rfl (Nat.le_of_ble_eq_true rfl) rfl (by decide) rfl (by decide) (hlt hN (by decide)) (Nat.le_of_ble_eq_true rfl) (Nat.le_of_ble_eq_true rfl) (Nat.le_of_ble_eq_true rfl) dX10_reckons_81 (w_X10_argOf hk3 (show i < 40 by omega) hN (by exact hs) ?_)
            rw [rAr_we, ea]
            refine a_aload_n dX10_reckons_84 rfl ?_
            refine a_iload_n dX10_reckons_85 rfl ?_
            refine a_iload_n dX10_reckons_86 rfl ?_
            refine a_callV (mc1 := 0) (ms1 := 0) (As := [_, _]) kpX10_arg2Of kmX10_236 (by decide) rfl (Nat.le_of_ble_eq_true rfl) rfl (by decide) rfl (by decide) (hlt hN (by decide)) (Nat.le_of_ble_eq_true rfl) (Nat.le_of_ble_eq_true rfl) (Nat.le_of_ble_eq_true rfl) dX10_reckons_87 (w_X10_arg2Of hk3 (show i < 40 by omega) hN (by exact hs) ?_)
            rw [rA2_we, eb]
            refine a_callV (mc1 := 0) (ms1 := 0) (As := [_, _]) kpX10_range kmX10_283 (by decide) rfl (Nat.le_of_ble_eq_true rfl) rfl (by decide) rfl (by decide) (hlt hN (by decide)) (Nat.le_of_ble_eq_true rfl) (Nat.le_of_ble_eq_true rfl) (Nat.le_of_ble_eq_true rfl) dX10_reckons_90 (w_X10_range hlt40 hc he hN (by exact hs) ?_)
            refine a_goto (tgt := 133) dX10_reckons_93 (by decide) ?_
            refine a_iinc dX10_reckons_133 rfl rfl (by decide) ?_
            refine a_goto (tgt := 12) dX10_reckons_136 (by decide) ?_
            rw [show nI i + Int32.ofInt 1 = nI (i + 1) from nI_1 i]
            have ih2 := ih (i + 1) (by omega)
            rw [show (rvF V (rOp M k) (rAr M k) (rA2 M k) r0 (i + 1)) = rvA V (rOp M k i) (rAr M k i) (rA2 M k i) (rvF V (rOp M k) (rAr M k) (rA2 M k) r0 i) from if_pos p26] at ih2
            first
            | (have q : rOp M k i = 0 := o37
               rw [show rvA V (rOp M k i) (rAr M k i) (rA2 M k i) (rvF V (rOp M k) (rAr M k) (rA2 M k) r0 i) = _ from if_pos q] at ih2
               exact AW.sub (L' := [(0, .ref 64), (1, .int (nI k)), (2, .int (nI (i + 1)))]) rfl ih2)
            | (have q : rOp M k i = 1 := o56
               rw [show rvA V (rOp M k i) (rAr M k i) (rA2 M k i) (rvF V (rOp M k) (rAr M k) (rA2 M k) r0 i) = _ from if_neg o37, if_pos q, ea1] at ih2
               exact AW.sub (L' := [(0, .ref 64), (1, .int (nI k)), (2, .int (nI (i + 1)))]) rfl ih2)
            | (have q : rOp M k i = 2 := o74
               rw [show rvA V (rOp M k i) (rAr M k i) (rA2 M k i) (rvF V (rOp M k) (rAr M k) (rA2 M k) r0 i) = _ from if_neg o37, if_neg o56, if_pos q, ea2, eb2] at ih2
               exact AW.sub (L' := [(0, .ref 64), (1, .int (nI k)), (2, .int (nI (i + 1)))]) rfl ih2)
            | (have q : rOp M k i = 3 := o98
               rw [show rvA V (rOp M k i) (rAr M k i) (rA2 M k i) (rvF V (rOp M k) (rAr M k) (rA2 M k) r0 i) = _ from if_neg o37, if_neg o56, if_neg o74, if_pos q] at ih2
               exact AW.sub (L' := [(0, .ref 64), (1, .int (nI k)), (2, .int (nI (i + 1)))]) rfl ih2)
            | (rw [show rvA V (rOp M k i) (rAr M k i) (rA2 M k i) (rvF V (rOp M k) (rAr M k) (rA2 M k) r0 i) = _ from if_neg o37, if_neg o56, if_neg o74, if_neg o98] at ih2
               exact AW.sub (L' := [(0, .ref 64), (1, .int (nI k)), (2, .int (nI (i + 1)))]) rfl ih2)
        · have o56 : rOp M k i = 1 := c_56
          obtain ⟨c, hc, ea⟩ := (hw i (by omega)).1 o56
          have ea1 : (rAr M k i).toNatClampNeg = c := by rw [ea]; exact j64_c hc
          refine a_aload_n dX10_reckons_59 rfl ?_
          refine a_aload_n dX10_reckons_60 rfl ?_
          refine a_iload_n dX10_reckons_61 rfl ?_
          refine a_iload_n dX10_reckons_62 rfl ?_
          refine a_callV (mc1 := 0) (ms1 := 0) (As := [_, _]) kpX10_argOf kmX10_233 (by decide) rfl (Nat.le_of_ble_eq_true rfl) rfl (by decide) rfl (by decide) (hlt hN (by decide)) (Nat.le_of_ble_eq_true rfl) (Nat.le_of_ble_eq_true rfl) (Nat.le_of_ble_eq_true rfl) dX10_reckons_63 (w_X10_argOf hk3 (show i < 40 by omega) hN (by exact hs) ?_)
          rw [rAr_we, ea]
          refine a_callV (mc1 := 0) (ms1 := 0) (As := [_]) kpX10_names kmX10_280 (by decide) rfl (Nat.le_of_ble_eq_true rfl) rfl (by decide) rfl (by decide) (hlt hN (by decide)) (Nat.le_of_ble_eq_true rfl) (Nat.le_of_ble_eq_true rfl) (Nat.le_of_ble_eq_true rfl) dX10_reckons_66 (w_X10_names hlt40 hc hN (by exact hs) ?_)
          refine a_goto (tgt := 133) dX10_reckons_69 (by decide) ?_
          refine a_iinc dX10_reckons_133 rfl rfl (by decide) ?_
          refine a_goto (tgt := 12) dX10_reckons_136 (by decide) ?_
          rw [show nI i + Int32.ofInt 1 = nI (i + 1) from nI_1 i]
          have ih2 := ih (i + 1) (by omega)
          rw [show (rvF V (rOp M k) (rAr M k) (rA2 M k) r0 (i + 1)) = rvA V (rOp M k i) (rAr M k i) (rA2 M k i) (rvF V (rOp M k) (rAr M k) (rA2 M k) r0 i) from if_pos p26] at ih2
          first
          | (have q : rOp M k i = 0 := o37
             rw [show rvA V (rOp M k i) (rAr M k i) (rA2 M k i) (rvF V (rOp M k) (rAr M k) (rA2 M k) r0 i) = _ from if_pos q] at ih2
             exact AW.sub (L' := [(0, .ref 64), (1, .int (nI k)), (2, .int (nI (i + 1)))]) rfl ih2)
          | (have q : rOp M k i = 1 := o56
             rw [show rvA V (rOp M k i) (rAr M k i) (rA2 M k i) (rvF V (rOp M k) (rAr M k) (rA2 M k) r0 i) = _ from if_neg o37, if_pos q, ea1] at ih2
             exact AW.sub (L' := [(0, .ref 64), (1, .int (nI k)), (2, .int (nI (i + 1)))]) rfl ih2)
          | (have q : rOp M k i = 2 := o74
             rw [show rvA V (rOp M k i) (rAr M k i) (rA2 M k i) (rvF V (rOp M k) (rAr M k) (rA2 M k) r0 i) = _ from if_neg o37, if_neg o56, if_pos q, ea2, eb2] at ih2
             exact AW.sub (L' := [(0, .ref 64), (1, .int (nI k)), (2, .int (nI (i + 1)))]) rfl ih2)
          | (have q : rOp M k i = 3 := o98
             rw [show rvA V (rOp M k i) (rAr M k i) (rA2 M k i) (rvF V (rOp M k) (rAr M k) (rA2 M k) r0 i) = _ from if_neg o37, if_neg o56, if_neg o74, if_pos q] at ih2
             exact AW.sub (L' := [(0, .ref 64), (1, .int (nI k)), (2, .int (nI (i + 1)))]) rfl ih2)
          | (rw [show rvA V (rOp M k i) (rAr M k i) (rA2 M k i) (rvF V (rOp M k) (rAr M k) (rA2 M k) r0 i) = _ from if_neg o37, if_neg o56, if_neg o74, if_neg o98] at ih2
             exact AW.sub (L' := [(0, .ref 64), (1, .int (nI k)), (2, .int (nI (i + 1)))]) rfl ih2)
      · have o37 : rOp M k i = 0 := c_37
        refine a_aload_n dX10_reckons_40 rfl ?_
        refine a_aload_n dX10_reckons_41 rfl ?_
        refine a_iload_n dX10_reckons_42 rfl ?_
        refine a_iload_n dX10_reckons_43 rfl ?_
        refine a_callV (mc1 := 0) (ms1 := 0) (As := [_, _]) kpX10_argOf kmX10_233 (by decide) rfl (Nat.le_of_ble_eq_true rfl) rfl (by decide) rfl (by decide) (hlt hN (by decide)) (Nat.le_of_ble_eq_true rfl) (Nat.le_of_ble_eq_true rfl) (Nat.le_of_ble_eq_true rfl) dX10_reckons_44 (w_X10_argOf hk3 (show i < 40 by omega) hN (by exact hs) ?_)
        rw [rAr_we]
        refine a_i2l dX10_reckons_47 rfl ?_
        refine a_callV (mc1 := 0) (ms1 := 0) (As := [_]) kpX10_comes kmX10_269 (by decide) rfl (Nat.le_of_ble_eq_true rfl) rfl (by decide) rfl (by decide) (hlt hN (by decide)) (Nat.le_of_ble_eq_true rfl) (Nat.le_of_ble_eq_true rfl) (Nat.le_of_ble_eq_true rfl) dX10_reckons_48 (w_X10_comes hlt40 hN (by exact hs) ?_)
        refine a_goto (tgt := 133) dX10_reckons_51 (by decide) ?_
        refine a_iinc dX10_reckons_133 rfl rfl (by decide) ?_
        refine a_goto (tgt := 12) dX10_reckons_136 (by decide) ?_
        rw [show nI i + Int32.ofInt 1 = nI (i + 1) from nI_1 i]
        have ih2 := ih (i + 1) (by omega)
        rw [show (rvF V (rOp M k) (rAr M k) (rA2 M k) r0 (i + 1)) = rvA V (rOp M k i) (rAr M k i) (rA2 M k i) (rvF V (rOp M k) (rAr M k) (rA2 M k) r0 i) from if_pos p26] at ih2
        first
        | (have q : rOp M k i = 0 := o37
           rw [show rvA V (rOp M k i) (rAr M k i) (rA2 M k i) (rvF V (rOp M k) (rAr M k) (rA2 M k) r0 i) = _ from if_pos q] at ih2
           exact AW.sub (L' := [(0, .ref 64), (1, .int (nI k)), (2, .int (nI (i + 1)))]) rfl ih2)
        | (have q : rOp M k i = 1 := o56
           rw [show rvA V (rOp M k i) (rAr M k i) (rA2 M k i) (rvF V (rOp M k) (rAr M k) (rA2 M k) r0 i) = _ from if_neg o37, if_pos q, ea1] at ih2
           exact AW.sub (L' := [(0, .ref 64), (1, .int (nI k)), (2, .int (nI (i + 1)))]) rfl ih2)
        | (have q : rOp M k i = 2 := o74
           rw [show rvA V (rOp M k i) (rAr M k i) (rA2 M k i) (rvF V (rOp M k) (rAr M k) (rA2 M k) r0 i) = _ from if_neg o37, if_neg o56, if_pos q, ea2, eb2] at ih2
           exact AW.sub (L' := [(0, .ref 64), (1, .int (nI k)), (2, .int (nI (i + 1)))]) rfl ih2)
        | (have q : rOp M k i = 3 := o98
           rw [show rvA V (rOp M k i) (rAr M k i) (rA2 M k i) (rvF V (rOp M k) (rAr M k) (rA2 M k) r0 i) = _ from if_neg o37, if_neg o56, if_neg o74, if_pos q] at ih2
           exact AW.sub (L' := [(0, .ref 64), (1, .int (nI k)), (2, .int (nI (i + 1)))]) rfl ih2)
        | (rw [show rvA V (rOp M k i) (rAr M k i) (rA2 M k i) (rvF V (rOp M k) (rAr M k) (rA2 M k) r0 i) = _ from if_neg o37, if_neg o56, if_neg o74, if_neg o98] at ih2
           exact AW.sub (L' := [(0, .ref 64), (1, .int (nI k)), (2, .int (nI (i + 1)))]) rfl ih2)
theorem w_X10_reckons {M : Mem} {N : Nat} {Q : Option Value → Nat → Mem → Prop} {V : FS} {s : MS} {k mn : Nat} (hk3 : k < 384) (hmn : mn ≤ 40) (hmy : rI M 70 k = nI mn) (hw : WFK (rOp M k) (rAr M k) (rA2 M k) mn) (hwh : WHK (rOp M k) mn)  (hN : 94 ≤ N) (hs : Str M.2.2.1) (h : Q (none) N (we M V (rvF V (rOp M k) (rAr M k) (rA2 M k) s.1 mn))) : AW mX10_reckons 4 0 0 N 0 [(0, .ref 64), (1, .int (nI k))] [] (we M V s) Q := by
  refine a_aload_n dX10_reckons_0 rfl ?_
  refine a_iconst (v := 0) dX10_reckons_1 (by decide) ?_
  refine a_putI kfX10_266 rfl rfl rfl (by decide) (hlt hN (by decide)) dX10_reckons_2 ?_
  rw [show sI (we M V s) 64 46 0 = sI (we M V s) 64 46 (nI 0) from rfl, we_sh]
  refine a_aload_n dX10_reckons_5 rfl ?_
  refine a_iconst (v := 0) dX10_reckons_6 (by decide) ?_
  refine a_putI kfX10_263 rfl rfl rfl (by decide) (hlt hN (by decide)) dX10_reckons_7 ?_
  rw [we_sw]
  refine a_iconst (v := 0) dX10_reckons_10 (by decide) ?_
  refine a_istore_n dX10_reckons_11 (by decide) ?_
  exact AW.sub (L' := [(0, .ref 64), (1, .int (nI k)), (2, .int (nI 0))]) rfl (l_X10_reckons hk3 hmn hmy hw hwh hN hs h mn 0 (by omega))

