/-! the reference's slips -/
def sgR (x : Int32) : Int32 := if x = 4 then 43 else if x = 5 then 45 else if x = 6 then 42 else 47
def bsI (c j : Nat) : Int32 := if j = 0 then (if 8 ≤ c then nI (c - 8) else -1) else if j = 1 then (if c < 56 then nI (c + 8) else -1) else if j = 2 then (if 0 < c % 8 then nI (c - 1) else -1) else (if c % 8 < 7 then nI (c + 1) else -1)
theorem bsI_c {c j : Nat} (hc : c < 64) (h : ¬ bsI c j = -1) : ∃ d, d < 64 ∧ bsI c j = nI d := by
  unfold bsI at h ⊢
  split
  · next e =>
    rw [if_pos e] at h
    split
    · exact ⟨c - 8, by omega, rfl⟩
    · next q => rw [if_neg q] at h; exact absurd rfl h
  · next e =>
    rw [if_neg e] at h
    split
    · next e =>
      rw [if_pos e] at h
      split
      · exact ⟨c + 8, by omega, rfl⟩
      · next q => rw [if_neg q] at h; exact absurd rfl h
    · next e =>
      rw [if_neg e] at h
      split
      · next e =>
        rw [if_pos e] at h
        split
        · exact ⟨c - 1, by omega, rfl⟩
        · next q => rw [if_neg q] at h; exact absurd rfl h
      · next e =>
        rw [if_neg e] at h
        split
        · exact ⟨c + 1, by omega, rfl⟩
        · next q => rw [if_neg q] at h; exact absurd rfl h
theorem w_X10_signOf {M : Mem} {N : Nat} {Q : Option Value → Nat → Mem → Prop} {x : Int32}  (h : Q (some (.int (sgR x))) N (M)) : AW mX10_signOf 0 0 0 N 0 [(0, .int x)] [] M Q := by
  refine a_iload_n dX10_signOf_0 rfl ?_
  refine a_iconst (v := 4) dX10_signOf_1 (by decide) ?_
  refine a_icmp_ne (tgt := 10) dX10_signOf_2 (by decide) (fun c_2 => ?_) (fun c_2 => ?_)
  · refine a_iload_n dX10_signOf_10 rfl ?_
    refine a_iconst (v := 5) dX10_signOf_11 (by decide) ?_
    refine a_icmp_ne (tgt := 20) dX10_signOf_12 (by decide) (fun c_12 => ?_) (fun c_12 => ?_)
    · refine a_iload_n dX10_signOf_20 rfl ?_
      refine a_bipush (v := 6) dX10_signOf_21 (by decide) ?_
      refine a_icmp_ne (tgt := 31) dX10_signOf_23 (by decide) (fun c_23 => ?_) (fun c_23 => ?_)
      · refine a_bipush (v := 47) dX10_signOf_31 (by decide) ?_
        refine a_iret dX10_signOf_33 rfl (by unfold sgR at h; first | (have e : x = 4 := c_2; rw [if_pos e] at h; exact h) | (have e : ¬ x = 4 := c_2; rw [if_neg e] at h; first | (have e : x = 5 := c_12; rw [if_pos e] at h; exact h) | (have e : ¬ x = 5 := c_12; rw [if_neg e] at h; first | (have e : x = 6 := c_23; rw [if_pos e] at h; exact h) | (have e : ¬ x = 6 := c_23; rw [if_neg e] at h; exact h))))
      · refine a_bipush (v := 42) dX10_signOf_26 (by decide) ?_
        refine a_goto (tgt := 33) dX10_signOf_28 (by decide) ?_
        refine a_iret dX10_signOf_33 rfl (by unfold sgR at h; first | (have e : x = 4 := c_2; rw [if_pos e] at h; exact h) | (have e : ¬ x = 4 := c_2; rw [if_neg e] at h; first | (have e : x = 5 := c_12; rw [if_pos e] at h; exact h) | (have e : ¬ x = 5 := c_12; rw [if_neg e] at h; first | (have e : x = 6 := c_23; rw [if_pos e] at h; exact h) | (have e : ¬ x = 6 := c_23; rw [if_neg e] at h; exact h))))
    · refine a_bipush (v := 45) dX10_signOf_15 (by decide) ?_
      refine a_goto (tgt := 33) dX10_signOf_17 (by decide) ?_
      refine a_iret dX10_signOf_33 rfl (by unfold sgR at h; first | (have e : x = 4 := c_2; rw [if_pos e] at h; exact h) | (have e : ¬ x = 4 := c_2; rw [if_neg e] at h; first | (have e : x = 5 := c_12; rw [if_pos e] at h; exact h) | (have e : ¬ x = 5 := c_12; rw [if_neg e] at h; first | (have e : x = 6 := c_23; rw [if_pos e] at h; exact h) | (have e : ¬ x = 6 := c_23; rw [if_neg e] at h; exact h))))
  · refine a_bipush (v := 43) dX10_signOf_5 (by decide) ?_
    refine a_goto (tgt := 33) dX10_signOf_7 (by decide) ?_
    refine a_iret dX10_signOf_33 rfl (by unfold sgR at h; first | (have e : x = 4 := c_2; rw [if_pos e] at h; exact h) | (have e : ¬ x = 4 := c_2; rw [if_neg e] at h; first | (have e : x = 5 := c_12; rw [if_pos e] at h; exact h) | (have e : ¬ x = 5 := c_12; rw [if_neg e] at h; first | (have e : x = 6 := c_23; rw [if_pos e] at h; exact h) | (have e : ¬ x = 6 := c_23; rw [if_neg e] at h; exact h))))

theorem w_X10_beside {M : Mem} {N : Nat} {Q : Option Value → Nat → Mem → Prop} {c j : Nat} (hc : c < 64) (hj : j < 4)  (h : Q (some (.int (bsI c j))) N (M)) : AW mX10_beside 0 0 0 N 0 [(0, .int (nI c)), (1, .int (nI j))] [] M Q := by
  have em := rem8 hc
  refine a_iload_n dX10_beside_0 rfl ?_
  rcases (show j = 0 ∨ j = 1 ∨ j = 2 ∨ j = 3 by omega) with rfl | rfl | rfl | rfl
  · refine a_tableIn (off := 27) (tgt := 28) dX10_beside_1 (by decide) (by decide) (by decide) (by decide) ?_
    refine a_iload_n dX10_beside_28 rfl ?_
    refine a_bipush (v := 8) dX10_beside_29 (by decide) ?_
    refine a_icmp_lt (tgt := 41) dX10_beside_31 (by decide) (fun c_31 => ?_) (fun c_31 => ?_)
    · have q31 : ¬ 8 ≤ c := by have k := c_31; rw [Int32.lt_iff_toInt_lt, nIt (by omega)] at k; have e8 : ((8 : Int32)).toInt = 8 := (by decide); omega
      refine a_iconst (v := (-1)) dX10_beside_41 (by decide) ?_
      refine a_iret dX10_beside_42 rfl (by rw [show bsI c 0 = _ from if_neg q31] at h; exact h)
    · have q31 : 8 ≤ c := by have k := c_31; rw [Int32.lt_iff_toInt_lt, nIt (by omega)] at k; have e8 : ((8 : Int32)).toInt = 8 := (by decide); omega
      refine a_iload_n dX10_beside_34 rfl ?_
      refine a_bipush (v := 8) dX10_beside_35 (by decide) ?_
      refine a_isub dX10_beside_37 ?_
      rw [show nI c - 8 = nI (c - 8) from pk_sub (a := c) (b := 8) (by omega)]
      refine a_goto (tgt := 42) dX10_beside_38 (by decide) ?_
      refine a_iret dX10_beside_42 rfl (by rw [show bsI c 0 = _ from if_pos q31] at h; exact h)
  · refine a_tableIn (off := 42) (tgt := 43) dX10_beside_1 (by decide) (by decide) (by decide) (by decide) ?_
    refine a_iload_n dX10_beside_43 rfl ?_
    refine a_bipush (v := 56) dX10_beside_44 (by decide) ?_
    refine a_icmp_ge (tgt := 56) dX10_beside_46 (by decide) (fun c_46 => ?_) (fun c_46 => ?_)
    · have q46 : ¬ c < 56 := by have k := c_46; rw [Int32.le_iff_toInt_le, nIt (by omega)] at k; have e8 : ((56 : Int32)).toInt = 56 := (by decide); omega
      refine a_iconst (v := (-1)) dX10_beside_56 (by decide) ?_
      refine a_iret dX10_beside_57 rfl (by rw [show bsI c 1 = _ from if_neg q46] at h; exact h)
    · have q46 : c < 56 := by have k := c_46; rw [Int32.le_iff_toInt_le, nIt (by omega)] at k; have e8 : ((56 : Int32)).toInt = 56 := (by decide); omega
      refine a_iload_n dX10_beside_49 rfl ?_
      refine a_bipush (v := 8) dX10_beside_50 (by decide) ?_
      refine a_iadd dX10_beside_52 ?_
      rw [show nI c + 8 = nI (c + 8) from nI_add c 8]
      refine a_goto (tgt := 57) dX10_beside_53 (by decide) ?_
      refine a_iret dX10_beside_57 rfl (by rw [show bsI c 1 = _ from if_pos q46] at h; exact h)
  · refine a_tableIn (off := 57) (tgt := 58) dX10_beside_1 (by decide) (by decide) (by decide) (by decide) ?_
    refine a_iload_n dX10_beside_58 rfl ?_
    refine a_bipush (v := 8) dX10_beside_59 (by decide) ?_
    refine a_irem dX10_beside_61 (by decide) ?_
    rw [em]
    refine a_if_le (tgt := 71) dX10_beside_62 (by decide) (fun c_62 => ?_) (fun c_62 => ?_)
    · have q62 : ¬ 0 < c % 8 := by have k := c_62; rw [Int32.le_iff_toInt_le, nIt (by omega)] at k; have e8 : ((0 : Int32)).toInt = 0 := (by decide); omega
      refine a_iconst (v := (-1)) dX10_beside_71 (by decide) ?_
      refine a_iret dX10_beside_72 rfl (by rw [show bsI c 2 = _ from if_neg q62] at h; exact h)
    · have q62 : 0 < c % 8 := by have k := c_62; rw [Int32.le_iff_toInt_le, nIt (by omega)] at k; have e8 : ((0 : Int32)).toInt = 0 := (by decide); omega
      refine a_iload_n dX10_beside_65 rfl ?_
      refine a_iconst (v := 1) dX10_beside_66 (by decide) ?_
      refine a_isub dX10_beside_67 ?_
      rw [show nI c - 1 = nI (c - 1) from pk_sub (a := c) (b := 1) (by omega)]
      refine a_goto (tgt := 72) dX10_beside_68 (by decide) ?_
      refine a_iret dX10_beside_72 rfl (by rw [show bsI c 2 = _ from if_pos q62] at h; exact h)
  · refine a_tableOut (tgt := 73) dX10_beside_1 (by decide) (by decide) ?_
    refine a_iload_n dX10_beside_73 rfl ?_
    refine a_bipush (v := 8) dX10_beside_74 (by decide) ?_
    refine a_irem dX10_beside_76 (by decide) ?_
    refine a_bipush (v := 7) dX10_beside_77 (by decide) ?_
    rw [em]
    refine a_icmp_ge (tgt := 88) dX10_beside_79 (by decide) (fun c_79 => ?_) (fun c_79 => ?_)
    · have q79 : ¬ c % 8 < 7 := by have k := c_79; rw [Int32.le_iff_toInt_le, nIt (by omega)] at k; have e8 : ((7 : Int32)).toInt = 7 := (by decide); omega
      refine a_iconst (v := (-1)) dX10_beside_88 (by decide) ?_
      refine a_iret dX10_beside_89 rfl (by rw [show bsI c 3 = _ from if_neg q79] at h; exact h)
    · have q79 : c % 8 < 7 := by have k := c_79; rw [Int32.le_iff_toInt_le, nIt (by omega)] at k; have e8 : ((7 : Int32)).toInt = 7 := (by decide); omega
      refine a_iload_n dX10_beside_82 rfl ?_
      refine a_iconst (v := 1) dX10_beside_83 (by decide) ?_
      refine a_iadd dX10_beside_84 ?_
      rw [show nI c + 1 = nI (c + 1) from nI_1 c]
      refine a_goto (tgt := 89) dX10_beside_85 (by decide) ?_
      refine a_iret dX10_beside_89 rfl (by rw [show bsI c 3 = _ from if_pos q79] at h; exact h)

/-- an option: what it makes, and the step that it makes -/
def OpR (o a b s2 : Int32) (n : Nat) (m o' a' b' : Int32) : Prop := ((o = 4 ∨ o = 5 ∨ o = 6 ∨ o = 7) ∧ n < 4 ∧ ¬ nI (4 + n) = o ∧ m = sgR (nI (4 + n)) ∧ o' = nI (4 + n) ∧ a' = 0 ∧ b' = 0) ∨ (o = 0 ∧ ((n = 0 ∧ m = a + 1) ∨ (n = 1 ∧ m = a - 1)) ∧ o' = 0 ∧ a' = m ∧ b' = 0) ∨ ((o = 1 ∨ o = 2) ∧ n < 4 ∧ m = bsI (if s2 = 0 then a else b).toNatClampNeg n ∧ ¬ m = -1 ∧ o' = o ∧ a' = (if s2 = 0 then m else a) ∧ b' = (if s2 = 0 then b else m))
def FnR (M : Mem) (q i c W : Nat) (s2 : Int32) (n : Nat) (m : Int32) : Prop := ∃ o' a' b', OpR (rI M 71 q) (rI M 72 q) (rI M 73 q) s2 n m o' a' b' ∧ AlP (cgM M q o' a' b') i c 1 W
/-- a step of a well made formula -/
def RowK (M : Mem) (q : Nat) : Prop := (rI M 71 q = 0 ∨ rI M 71 q = 1 ∨ rI M 71 q = 2 ∨ rI M 71 q = 3 ∨ rI M 71 q = 4 ∨ rI M 71 q = 5 ∨ rI M 71 q = 6 ∨ rI M 71 q = 7 ∨ rI M 71 q = 8) ∧ (rI M 71 q = 1 → ∃ c, c < 64 ∧ rI M 72 q = nI c) ∧ (rI M 71 q = 2 → ∃ c e, c < 64 ∧ e < 64 ∧ rI M 72 q = nI c ∧ rI M 73 q = nI e)
theorem GA.row {M : Mem} (g : GA M) (h36 : rI M 64 36 = -1) {k e : Nat} (hk : k < 384) (h2 : rI M 66 k = 2) (he : e < mnR M k) : RowK M (40 * k + e) := by
  obtain ⟨⟨r1, r2, r3, r4, r5⟩, -⟩ := g k hk h2
  obtain ⟨a, b, d⟩ := ro36 h36 hk (show e < 40 by omega)
  have w := r3 e he
  have w2 := r4 e he
  rw [a, b, d] at w
  rw [a] at w2
  refine ⟨?_, w.1, w.2⟩
  rcases w2 with (q | q | q) | ⟨q, -⟩ | ⟨(q | q | q | q | q), -⟩ <;> rw [q] <;> decide
/-- a try, from any memory of the search -/
theorem w_tr {M M1 : Mem} {N : Nat} {Q : Option Value → Nat → Mem → Prop} (ks : KS M M1) {i c e W : Nat} {o a b : Int32} (hi1 : 1 ≤ i) (hi : i < 6) (hc : c < 64) (he : e < 40) (hW6 : W ≤ 6) (hg : GA M) (h36 : rI M 64 36 = -1) (hW : rI M 64 17 = nI W) (htk : TaskOK M W) (hwn : 0 < (rI M 78 c).toInt) (hf : ¬ rI M 64 21 = 0) (hco : ChO M (40 * (64 * i + c) + e) o a b) (hN : 94 ≤ N) (hs : Str M1.2.2.1) (h : ∀ M'' x, KS M M'' → rI M'' 64 50 = rI M1 64 50 → rI M'' 64 51 = rI M1 64 51 → (x = 1 ∧ AlP (cgM M (40 * (64 * i + c) + e) o a b) i c 1 W ∨ x = 0 ∧ ¬ AlP (cgM M (40 * (64 * i + c) + e) o a b) i c 1 W) → Q (some (.int x)) N M'') : AW mX10_tries 9 0 0 N 0 [(0, .ref 64), (1, .int (nI i)), (2, .int (nI c)), (3, .int (nI e)), (4, .int o), (5, .int a), (6, .int b)] [] M1 Q := by
  have hg' := GA_ch hg h36 (show 64 * i + c < 384 by omega) he hco
  have ht' := (Sm_ch (o := o) (a := a) (b := b) h36 (show 40 * 64 ≤ 40 * (64 * i + c) + e by omega) (by omega)).task hg ⟨fun _ => cg_J, fun _ => cg_o (by omega)⟩ htk
  refine w_X10_tries hi1 hi hc he hW6 (ks.cg.ga hg') (by rw [ks.2.1 64 36 (by omega) (by omega) (by omega)]; exact h36) (by rw [ks.2.1 64 17 (by omega) (by omega) (by omega)]; exact hW) (TaskOK.k0 ks.cg ks.c80 ht') (by rw [ks.2.1 78 c (by omega) (by omega) (by omega)]; exact hwn) (by rw [ks.2.1 64 21 (by omega) (by omega) (by omega)]; exact hf) hN hs (fun M'' x hk h50 h51 hx => h M'' x (ks.trans hk) h50 h51 ?_)
  rw [AlP.k0 ks.cg ks.c80] at hx
  exact hx
theorem n4ne {n m : Nat} (hn : n < 4) (hm : m < 4) (h : nI (4 + n) = nI (4 + m)) : n = m := by
  have := (nI_eq (by omega) (by omega)).mp h
  omega
theorem n47 {n : Nat} (hn : n < 4) : nI (4 + n) = 4 ∨ nI (4 + n) = 5 ∨ nI (4 + n) = 6 ∨ nI (4 + n) = 7 := by
  rcases (show n = 0 ∨ n = 1 ∨ n = 2 ∨ n = 3 by omega) with rfl | rfl | rfl | rfl
  · exact Or.inl rfl
  · exact Or.inr (Or.inl rfl)
  · exact Or.inr (Or.inr (Or.inl rfl))
  · exact Or.inr (Or.inr (Or.inr rfl))
theorem nsg0 {o : Int32} (h : o = 4 ∨ o = 5 ∨ o = 6 ∨ o = 7) : ¬ o = 0 := by rcases h with rfl | rfl | rfl | rfl <;> decide
theorem nsg12 {o : Int32} (h : o = 4 ∨ o = 5 ∨ o = 6 ∨ o = 7) : ¬ (o = 1 ∨ o = 2) := by rcases h with rfl | rfl | rfl | rfl <;> decide
theorem n7f {n : Nat} (hn : n < 4) : ¬ (7 : Int32) < nI (4 + n) := by
  rcases (show n = 0 ∨ n = 1 ∨ n = 2 ∨ n = 3 by omega) with rfl | rfl | rfl | rfl <;> decide
theorem l_X10_slipS {M : Mem} {N : Nat} {Q : Option Value → Nat → Mem → Prop} {i c e W : Nat} {p s2 : Int32} (hi1 : 1 ≤ i) (hi : i < 6) (hc : c < 64) (he : e < 40) (hW6 : W ≤ 6) (hg : GA M) (h36 : rI M 64 36 = -1) (hW : rI M 64 17 = nI W) (htk : TaskOK M W) (hwn : 0 < (rI M 78 c).toInt) (hf : ¬ rI M 64 21 = 0) (hrow : RowK M (40 * (64 * i + c) + e)) (hs2 : s2 = 0 ∨ rI M 71 (40 * (64 * i + c) + e) = 2) (ho : (rI M 71 (40 * (64 * i + c) + e)) = 4 ∨ (rI M 71 (40 * (64 * i + c) + e)) = 5 ∨ (rI M 71 (40 * (64 * i + c) + e)) = 6 ∨ (rI M 71 (40 * (64 * i + c) + e)) = 7) (hN : 94 ≤ N) (hs : Str M.2.2.1) (h : ∀ M'' x, KS M M'' → ((x = 1 ∧ ∃ n m, FnR M (40 * (64 * i + c) + e) i c W s2 n m ∧ (∀ n' m', n' < n → ¬ FnR M (40 * (64 * i + c) + e) i c W s2 n' m') ∧ rI M'' 64 50 = p ∧ rI M'' 64 51 = m) ∨ (x = 0 ∧ ∀ n m, ¬ FnR M (40 * (64 * i + c) + e) i c W s2 n m)) → Q (some (.int x)) N M'') : ∀ (r' n : Nat) (M' : Mem), n + r' = 4 → KS M M' → rI M' 64 50 = p → (∀ n' m', n' < n → ¬ FnR M (40 * (64 * i + c) + e) i c W s2 n' m') → AW mX10_slips 10 0 0 N 44 [(0, .ref 64), (1, .int (nI i)), (2, .int (nI c)), (3, .int (nI e)), (4, .int p), (5, .int s2), (6, .int (nI (40 * (64 * i + c) + e))), (7, .int (rI M 71 (40 * (64 * i + c) + e))), (8, .int (nI (4 + n)))] [] M' Q := by
  intro r'
  induction r' with
  | zero =>
    intro n M' hkk hk h50 hpv
    obtain rfl : n = 4 := by omega
    have hs' : Str M'.2.2.1 := by rw [hk.1]; exact hs
    refine a_iload dX10_slips_44 rfl ?_
    refine a_bipush (v := 7) dX10_slips_46 (by decide) ?_
    refine a_icmp_gt (tgt := 89) dX10_slips_48 (by decide) (fun c_48 => ?_) (fun c_48 => absurd (by decide) c_48)
    refine a_goto (tgt := 282) dX10_slips_89 (by decide) ?_
    refine a_iconst (v := 0) dX10_slips_282 (by decide) ?_
    refine a_zret dX10_slips_283 rfl (by decide) (h M' 0 hk (Or.inr ⟨rfl, fun n m hf => by obtain ⟨o', a', b', ⟨-, z, -⟩ | ⟨z, -⟩ | ⟨z, -⟩, -⟩ := id hf; exact hpv n m z hf; exact nsg0 ho z; exact nsg12 ho z⟩))
  | succ r' ih =>
    intro n M' hkk hk h50 hpv
    have hs' : Str M'.2.2.1 := by rw [hk.1]; exact hs
    have hn4 : n < 4 := by omega
    refine a_iload dX10_slips_44 rfl ?_
    refine a_bipush (v := 7) dX10_slips_46 (by decide) ?_
    refine a_icmp_gt (tgt := 89) dX10_slips_48 (by decide) (fun c_48 => absurd c_48 (n7f hn4)) (fun c_48 => ?_)
    refine a_aload_n dX10_slips_51 rfl ?_
    refine a_iload dX10_slips_52 rfl ?_
    refine a_callS (mc1 := 0) (ms1 := 0) (As := [_]) kpX10_signOf kmX10_321 (by decide) rfl (Nat.le_of_ble_eq_true rfl) (Nat.le_of_ble_eq_true rfl) (Nat.le_of_ble_eq_true rfl) (Nat.le_of_ble_eq_true rfl) dX10_slips_54 (w_X10_signOf ?_)
    refine a_putI kfX10_324 rfl rfl rfl (by decide) (hlt hN (by decide)) dX10_slips_57 ?_
    refine a_iload dX10_slips_60 rfl ?_
    refine a_iload dX10_slips_62 rfl ?_
    refine a_icmp_eq (tgt := 83) dX10_slips_64 (by decide) (fun c_64 => ?_) (fun c_64 => ?_)
    · have p64 : nI (4 + n) = (rI M 71 (40 * (64 * i + c) + e)) := c_64
      refine a_iinc dX10_slips_83 rfl rfl (by decide) ?_
      refine a_goto (tgt := 44) dX10_slips_86 (by decide) ?_
      rw [show nI (4 + n) + Int32.ofInt 1 = nI (4 + (n + 1)) from nI_1 (4 + n)]
      first
      | (have q : nI (4 + n) = (rI M 71 (40 * (64 * i + c) + e)) := p64
         refine AW.sub (L' := [(0, .ref 64), (1, .int (nI i)), (2, .int (nI c)), (3, .int (nI e)), (4, .int p), (5, .int s2), (6, .int (nI (40 * (64 * i + c) + e))), (7, .int (rI M 71 (40 * (64 * i + c) + e))), (8, .int (nI (4 + (n + 1))))]) rfl (ih (n + 1) _ (by omega) (hk.trans KS.st) (by rw [rI_sI, if_neg (by decide)]; exact h50) (fun n' m' hn' hf' => ?_))
         by_cases en : n' = n
         · subst en
           obtain ⟨o', a', b', ⟨-, -, z, -⟩ | ⟨z, -⟩ | ⟨z, -⟩, -⟩ := hf'
           · exact z q
           · exact nsg0 ho z
           · exact nsg12 ho z
         · exact hpv n' m' (by omega) hf')
      | (have q : x = 0 := p78
         refine AW.sub (L' := [(0, .ref 64), (1, .int (nI i)), (2, .int (nI c)), (3, .int (nI e)), (4, .int p), (5, .int s2), (6, .int (nI (40 * (64 * i + c) + e))), (7, .int (rI M 71 (40 * (64 * i + c) + e))), (8, .int (nI (4 + (n + 1))))]) rfl (ih (n + 1) _ (by omega) hk2 (by rw [h50', rI_sI, if_neg (by decide)]; exact h50) (fun n' m' hn' hf' => ?_))
         by_cases en : n' = n
         · subst en
           obtain ⟨o', a', b', ⟨-, -, -, -, rfl, rfl, rfl⟩ | ⟨z, -⟩ | ⟨z, -⟩, ha⟩ := hf'
           · exact (hx.resolve_left (fun z => absurd (z.1.symm.trans q) (by decide))).2 ha
           · exact nsg0 ho z
           · exact nsg12 ho z
         · exact hpv n' m' (by omega) hf')
    · have p64 : ¬ nI (4 + n) = (rI M 71 (40 * (64 * i + c) + e)) := c_64
      refine a_aload_n dX10_slips_67 rfl ?_
      refine a_iload_n dX10_slips_68 rfl ?_
      refine a_iload_n dX10_slips_69 rfl ?_
      refine a_iload_n dX10_slips_70 rfl ?_
      refine a_iload dX10_slips_71 rfl ?_
      refine a_iconst (v := 0) dX10_slips_73 (by decide) ?_
      refine a_iconst (v := 0) dX10_slips_74 (by decide) ?_
      refine a_callV (mc1 := 0) (ms1 := 0) (As := [_, _, _, _, _, _]) kpX10_tries kmX10_327 (by decide) rfl (Nat.le_of_ble_eq_true rfl) rfl (by decide) rfl (by decide) (hlt hN (by decide)) (Nat.le_of_ble_eq_true rfl) (Nat.le_of_ble_eq_true rfl) (Nat.le_of_ble_eq_true rfl) dX10_slips_75 (w_tr (hk.trans KS.st) hi1 hi hc he hW6 hg h36 hW htk hwn hf (Or.inl ⟨ho, n47 hn4⟩) hN (by exact hs') (fun M'' x hk2 h50' h51 hx => ?_))
      refine a_if_eq (tgt := 83) dX10_slips_78 (by decide) (fun c_78 => ?_) (fun c_78 => ?_)
      · have p78 : x = 0 := c_78
        refine a_iinc dX10_slips_83 rfl rfl (by decide) ?_
        refine a_goto (tgt := 44) dX10_slips_86 (by decide) ?_
        rw [show nI (4 + n) + Int32.ofInt 1 = nI (4 + (n + 1)) from nI_1 (4 + n)]
        first
        | (have q : nI (4 + n) = (rI M 71 (40 * (64 * i + c) + e)) := p64
           refine AW.sub (L' := [(0, .ref 64), (1, .int (nI i)), (2, .int (nI c)), (3, .int (nI e)), (4, .int p), (5, .int s2), (6, .int (nI (40 * (64 * i + c) + e))), (7, .int (rI M 71 (40 * (64 * i + c) + e))), (8, .int (nI (4 + (n + 1))))]) rfl (ih (n + 1) _ (by omega) (hk.trans KS.st) (by rw [rI_sI, if_neg (by decide)]; exact h50) (fun n' m' hn' hf' => ?_))
           by_cases en : n' = n
           · subst en
             obtain ⟨o', a', b', ⟨-, -, z, -⟩ | ⟨z, -⟩ | ⟨z, -⟩, -⟩ := hf'
             · exact z q
             · exact nsg0 ho z
             · exact nsg12 ho z
           · exact hpv n' m' (by omega) hf')
        | (have q : x = 0 := p78
           refine AW.sub (L' := [(0, .ref 64), (1, .int (nI i)), (2, .int (nI c)), (3, .int (nI e)), (4, .int p), (5, .int s2), (6, .int (nI (40 * (64 * i + c) + e))), (7, .int (rI M 71 (40 * (64 * i + c) + e))), (8, .int (nI (4 + (n + 1))))]) rfl (ih (n + 1) _ (by omega) hk2 (by rw [h50', rI_sI, if_neg (by decide)]; exact h50) (fun n' m' hn' hf' => ?_))
           by_cases en : n' = n
           · subst en
             obtain ⟨o', a', b', ⟨-, -, -, -, rfl, rfl, rfl⟩ | ⟨z, -⟩ | ⟨z, -⟩, ha⟩ := hf'
             · exact (hx.resolve_left (fun z => absurd (z.1.symm.trans q) (by decide))).2 ha
             · exact nsg0 ho z
             · exact nsg12 ho z
           · exact hpv n' m' (by omega) hf')
      · have p78 : ¬ x = 0 := c_78
        refine a_iconst (v := 1) dX10_slips_81 (by decide) ?_
        refine a_zret dX10_slips_82 rfl (by decide) (h M'' 1 hk2 (Or.inl ⟨rfl, n, sgR (nI (4 + n)), ⟨nI (4 + n), 0, 0, Or.inl ⟨ho, hn4, p64, rfl, rfl, rfl, rfl⟩, (hx.resolve_right (fun z => p78 z.1)).2⟩, hpv, by rw [h50', rI_sI, if_neg (by decide)]; exact h50, by rw [h51, rI_sI, if_pos ⟨rfl, rfl⟩]⟩))
theorem l_X10_slipN {M : Mem} {N : Nat} {Q : Option Value → Nat → Mem → Prop} {i c e W : Nat} {p s2 : Int32} (hi1 : 1 ≤ i) (hi : i < 6) (hc : c < 64) (he : e < 40) (hW6 : W ≤ 6) (hg : GA M) (h36 : rI M 64 36 = -1) (hW : rI M 64 17 = nI W) (htk : TaskOK M W) (hwn : 0 < (rI M 78 c).toInt) (hf : ¬ rI M 64 21 = 0) (hrow : RowK M (40 * (64 * i + c) + e)) (hs2 : s2 = 0 ∨ rI M 71 (40 * (64 * i + c) + e) = 2) (ho : (rI M 71 (40 * (64 * i + c) + e)) = 0) (hN : 94 ≤ N) (hs : Str M.2.2.1) (h : ∀ M'' x, KS M M'' → ((x = 1 ∧ ∃ n m, FnR M (40 * (64 * i + c) + e) i c W s2 n m ∧ (∀ n' m', n' < n → ¬ FnR M (40 * (64 * i + c) + e) i c W s2 n' m') ∧ rI M'' 64 50 = p ∧ rI M'' 64 51 = m) ∨ (x = 0 ∧ ∀ n m, ¬ FnR M (40 * (64 * i + c) + e) i c W s2 n m)) → Q (some (.int x)) N M'') : ∀ (r' n : Nat) (M' : Mem), n + r' = 2 → KS M M' → rI M' 64 50 = p → (∀ n' m', n' < n → ¬ FnR M (40 * (64 * i + c) + e) i c W s2 n' m') → AW mX10_slips 10 0 0 N 100 [(0, .ref 64), (1, .int (nI i)), (2, .int (nI c)), (3, .int (nI e)), (4, .int p), (5, .int s2), (6, .int (nI (40 * (64 * i + c) + e))), (7, .int (rI M 71 (40 * (64 * i + c) + e))), (8, .int (nI n))] [] M' Q := by
  intro r'
  induction r' with
  | zero =>
    intro n M' hkk hk h50 hpv
    obtain rfl : n = 2 := by omega
    have hs' : Str M'.2.2.1 := by rw [hk.1]; exact hs
    refine a_iload dX10_slips_100 rfl ?_
    refine a_iconst (v := 2) dX10_slips_102 (by decide) ?_
    refine a_icmp_ge (tgt := 161) dX10_slips_103 (by decide) (fun c_103 => ?_) (fun c_103 => absurd (by decide) c_103)
    refine a_goto (tgt := 282) dX10_slips_161 (by decide) ?_
    refine a_iconst (v := 0) dX10_slips_282 (by decide) ?_
    refine a_zret dX10_slips_283 rfl (by decide) (h M' 0 hk (Or.inr ⟨rfl, fun n m hf => by obtain ⟨o', a', b', ⟨z, -⟩ | ⟨-, z, -⟩ | ⟨z, -⟩, -⟩ := id hf; exact nsg0 z ho; exact hpv n m (by rcases z with ⟨z, -⟩ | ⟨z, -⟩ <;> omega) hf; exact absurd z (by rw [ho]; decide)⟩))
  | succ r' ih =>
    intro n M' hkk hk h50 hpv
    have hs' : Str M'.2.2.1 := by rw [hk.1]; exact hs
    have hn4 : n < 2 := by omega
    refine a_iload dX10_slips_100 rfl ?_
    refine a_iconst (v := 2) dX10_slips_102 (by decide) ?_
    refine a_icmp_ge (tgt := 161) dX10_slips_103 (by decide) (fun c_103 => absurd c_103 (nI_ge (b := 2) hn4 (by decide))) (fun c_103 => ?_)
    refine a_aload_n dX10_slips_106 rfl ?_
    refine a_iload dX10_slips_107 rfl ?_
    refine a_if_ne (tgt := 124) dX10_slips_109 (by decide) (fun c_109 => ?_) (fun c_109 => ?_)
    · have p109 : ¬ n = 0 := fun z => c_109 (by rw [z]; rfl)
      refine a_aload_n dX10_slips_124 rfl ?_
      refine a_getA (z := 72) kfX10_32 rfl rfl (st_64_8 hs') (by decide) (hlt hN (by decide)) dX10_slips_125 ?_
      refine a_iload dX10_slips_128 rfl ?_
      refine a_iald rfl (by decide) (hlt hN (by decide)) (show vp_in _ 15360 from vp_in_nI (by omega) (by decide)) dX10_slips_130 ?_
      rw [nI_clamp (by omega), hk.2.1 72 _ (by omega) (by omega) (by omega)]
      refine a_iconst (v := 1) dX10_slips_131 (by decide) ?_
      refine a_isub dX10_slips_132 ?_
      obtain ⟨mk, hmke⟩ : ∃ mk : Int32, mk = (rI M 72 (40 * (64 * i + c) + e)) - 1 := ⟨_, rfl⟩
      rw [← hmke]
      have hmk : (n = 0 → mk = (rI M 72 (40 * (64 * i + c) + e)) + 1) ∧ (n = 1 → mk = (rI M 72 (40 * (64 * i + c) + e)) - 1) := ⟨fun z => absurd z p109, fun _ => hmke⟩
      refine a_putI kfX10_324 rfl rfl rfl (by decide) (hlt hN (by decide)) dX10_slips_133 ?_
      refine a_aload_n dX10_slips_136 rfl ?_
      refine a_iload_n dX10_slips_137 rfl ?_
      refine a_iload_n dX10_slips_138 rfl ?_
      refine a_iload_n dX10_slips_139 rfl ?_
      refine a_iload dX10_slips_140 rfl ?_
      refine a_aload_n dX10_slips_142 rfl ?_
      refine a_getI kfX10_324 rfl rfl (by decide) (hlt hN (by decide)) dX10_slips_143 ?_
      rw [show rI (sI M' 64 51 mk) 64 51 = mk from rfl]
      refine a_iconst (v := 0) dX10_slips_146 (by decide) ?_
      refine a_callV (mc1 := 0) (ms1 := 0) (As := [_, _, _, _, _, _]) kpX10_tries kmX10_327 (by decide) rfl (Nat.le_of_ble_eq_true rfl) rfl (by decide) rfl (by decide) (hlt hN (by decide)) (Nat.le_of_ble_eq_true rfl) (Nat.le_of_ble_eq_true rfl) (Nat.le_of_ble_eq_true rfl) dX10_slips_147 (w_tr (hk.trans KS.st) hi1 hi hc he hW6 hg h36 hW htk hwn hf (Or.inr (Or.inl ⟨ho, ho⟩)) hN (by exact hs') (fun M'' x hk2 h50' h51 hx => ?_))
      refine a_if_eq (tgt := 155) dX10_slips_150 (by decide) (fun c_150 => ?_) (fun c_150 => ?_)
      · have p150 : x = 0 := c_150
        refine a_iinc dX10_slips_155 rfl rfl (by decide) ?_
        refine a_goto (tgt := 100) dX10_slips_158 (by decide) ?_
        rw [show nI n + Int32.ofInt 1 = nI (n + 1) from nI_1 n]
        refine AW.sub (L' := [(0, .ref 64), (1, .int (nI i)), (2, .int (nI c)), (3, .int (nI e)), (4, .int p), (5, .int s2), (6, .int (nI (40 * (64 * i + c) + e))), (7, .int (rI M 71 (40 * (64 * i + c) + e))), (8, .int (nI (n + 1)))]) rfl (ih (n + 1) _ (by omega) hk2 (by rw [h50', rI_sI, if_neg (by decide)]; exact h50) (fun n' m' hn' hf' => ?_))
        by_cases en : n' = n
        · subst en
          obtain ⟨o', a', b', ⟨z, -⟩ | ⟨-, z, e1, e2, e3⟩ | ⟨z, -⟩, ha⟩ := hf'
          · exact nsg0 z ho
          · have em : m' = mk := by rcases z with ⟨z1, z2⟩ | ⟨z1, z2⟩
                                    · exact z2.trans (hmk.1 z1).symm
                                    · exact z2.trans (hmk.2 z1).symm
            rw [e1, e2, e3, em] at ha
            rw [ho] at hx
            exact (hx.resolve_left (fun z => absurd (z.1.symm.trans p150) (by decide))).2 ha
          · exact absurd z (by rw [ho]; decide)
        · exact hpv n' m' (by omega) hf'
      · have p150 : ¬ x = 0 := c_150
        refine a_iconst (v := 1) dX10_slips_153 (by decide) ?_
        refine a_zret dX10_slips_154 rfl (by decide) (h M'' 1 hk2 (Or.inl ⟨rfl, n, mk, ⟨(rI M 71 (40 * (64 * i + c) + e)), mk, 0, Or.inr (Or.inl ⟨ho, (by rcases (show n = 0 ∨ n = 1 by omega) with z | z; exact Or.inl ⟨z, hmk.1 z⟩; exact Or.inr ⟨z, hmk.2 z⟩), ho, rfl, rfl⟩), (hx.resolve_right (fun z => p150 z.1)).2⟩, hpv, by rw [h50', rI_sI, if_neg (by decide)]; exact h50, by rw [h51, rI_sI, if_pos ⟨rfl, rfl⟩]⟩))
    · have p109 : n = 0 := (nI_z (by omega)).mp c_109
      refine a_aload_n dX10_slips_112 rfl ?_
      refine a_getA (z := 72) kfX10_32 rfl rfl (st_64_8 hs') (by decide) (hlt hN (by decide)) dX10_slips_113 ?_
      refine a_iload dX10_slips_116 rfl ?_
      refine a_iald rfl (by decide) (hlt hN (by decide)) (show vp_in _ 15360 from vp_in_nI (by omega) (by decide)) dX10_slips_118 ?_
      rw [nI_clamp (by omega), hk.2.1 72 _ (by omega) (by omega) (by omega)]
      refine a_iconst (v := 1) dX10_slips_119 (by decide) ?_
      refine a_iadd dX10_slips_120 ?_
      obtain ⟨mk, hmke⟩ : ∃ mk : Int32, mk = (rI M 72 (40 * (64 * i + c) + e)) + 1 := ⟨_, rfl⟩
      rw [← hmke]
      have hmk : (n = 0 → mk = (rI M 72 (40 * (64 * i + c) + e)) + 1) ∧ (n = 1 → mk = (rI M 72 (40 * (64 * i + c) + e)) - 1) := ⟨fun _ => hmke, fun z => absurd (z.symm.trans p109) (by decide)⟩
      refine a_goto (tgt := 133) dX10_slips_121 (by decide) ?_
      refine a_putI kfX10_324 rfl rfl rfl (by decide) (hlt hN (by decide)) dX10_slips_133 ?_
      refine a_aload_n dX10_slips_136 rfl ?_
      refine a_iload_n dX10_slips_137 rfl ?_
      refine a_iload_n dX10_slips_138 rfl ?_
      refine a_iload_n dX10_slips_139 rfl ?_
      refine a_iload dX10_slips_140 rfl ?_
      refine a_aload_n dX10_slips_142 rfl ?_
      refine a_getI kfX10_324 rfl rfl (by decide) (hlt hN (by decide)) dX10_slips_143 ?_
      rw [show rI (sI M' 64 51 mk) 64 51 = mk from rfl]
      refine a_iconst (v := 0) dX10_slips_146 (by decide) ?_
      refine a_callV (mc1 := 0) (ms1 := 0) (As := [_, _, _, _, _, _]) kpX10_tries kmX10_327 (by decide) rfl (Nat.le_of_ble_eq_true rfl) rfl (by decide) rfl (by decide) (hlt hN (by decide)) (Nat.le_of_ble_eq_true rfl) (Nat.le_of_ble_eq_true rfl) (Nat.le_of_ble_eq_true rfl) dX10_slips_147 (w_tr (hk.trans KS.st) hi1 hi hc he hW6 hg h36 hW htk hwn hf (Or.inr (Or.inl ⟨ho, ho⟩)) hN (by exact hs') (fun M'' x hk2 h50' h51 hx => ?_))
      refine a_if_eq (tgt := 155) dX10_slips_150 (by decide) (fun c_150 => ?_) (fun c_150 => ?_)
      · have p150 : x = 0 := c_150
        refine a_iinc dX10_slips_155 rfl rfl (by decide) ?_
        refine a_goto (tgt := 100) dX10_slips_158 (by decide) ?_
        rw [show nI n + Int32.ofInt 1 = nI (n + 1) from nI_1 n]
        refine AW.sub (L' := [(0, .ref 64), (1, .int (nI i)), (2, .int (nI c)), (3, .int (nI e)), (4, .int p), (5, .int s2), (6, .int (nI (40 * (64 * i + c) + e))), (7, .int (rI M 71 (40 * (64 * i + c) + e))), (8, .int (nI (n + 1)))]) rfl (ih (n + 1) _ (by omega) hk2 (by rw [h50', rI_sI, if_neg (by decide)]; exact h50) (fun n' m' hn' hf' => ?_))
        by_cases en : n' = n
        · subst en
          obtain ⟨o', a', b', ⟨z, -⟩ | ⟨-, z, e1, e2, e3⟩ | ⟨z, -⟩, ha⟩ := hf'
          · exact nsg0 z ho
          · have em : m' = mk := by rcases z with ⟨z1, z2⟩ | ⟨z1, z2⟩
                                    · exact z2.trans (hmk.1 z1).symm
                                    · exact z2.trans (hmk.2 z1).symm
            rw [e1, e2, e3, em] at ha
            rw [ho] at hx
            exact (hx.resolve_left (fun z => absurd (z.1.symm.trans p150) (by decide))).2 ha
          · exact absurd z (by rw [ho]; decide)
        · exact hpv n' m' (by omega) hf'
      · have p150 : ¬ x = 0 := c_150
        refine a_iconst (v := 1) dX10_slips_153 (by decide) ?_
        refine a_zret dX10_slips_154 rfl (by decide) (h M'' 1 hk2 (Or.inl ⟨rfl, n, mk, ⟨(rI M 71 (40 * (64 * i + c) + e)), mk, 0, Or.inr (Or.inl ⟨ho, (by rcases (show n = 0 ∨ n = 1 by omega) with z | z; exact Or.inl ⟨z, hmk.1 z⟩; exact Or.inr ⟨z, hmk.2 z⟩), ho, rfl, rfl⟩), (hx.resolve_right (fun z => p150 z.1)).2⟩, hpv, by rw [h50', rI_sI, if_neg (by decide)]; exact h50, by rw [h51, rI_sI, if_pos ⟨rfl, rfl⟩]⟩))
theorem l_X10_slipC {M : Mem} {N : Nat} {Q : Option Value → Nat → Mem → Prop} {i c e W : Nat} {p s2 : Int32} (hi1 : 1 ≤ i) (hi : i < 6) (hc : c < 64) (he : e < 40) (hW6 : W ≤ 6) (hg : GA M) (h36 : rI M 64 36 = -1) (hW : rI M 64 17 = nI W) (htk : TaskOK M W) (hwn : 0 < (rI M 78 c).toInt) (hf : ¬ rI M 64 21 = 0) (hrow : RowK M (40 * (64 * i + c) + e)) (hs2 : s2 = 0 ∨ rI M 71 (40 * (64 * i + c) + e) = 2) (ho : (rI M 71 (40 * (64 * i + c) + e)) = 1 ∨ (rI M 71 (40 * (64 * i + c) + e)) = 2) (hN : 94 ≤ N) (hs : Str M.2.2.1) (h : ∀ M'' x, KS M M'' → ((x = 1 ∧ ∃ n m, FnR M (40 * (64 * i + c) + e) i c W s2 n m ∧ (∀ n' m', n' < n → ¬ FnR M (40 * (64 * i + c) + e) i c W s2 n' m') ∧ rI M'' 64 50 = p ∧ rI M'' 64 51 = m) ∨ (x = 0 ∧ ∀ n m, ¬ FnR M (40 * (64 * i + c) + e) i c W s2 n m)) → Q (some (.int x)) N M'') : ∀ (r' n : Nat) (M' : Mem), n + r' = 4 → KS M M' → rI M' 64 50 = p → (∀ n' m', n' < n → ¬ FnR M (40 * (64 * i + c) + e) i c W s2 n' m') → AW mX10_slips 10 0 0 N 179 [(0, .ref 64), (1, .int (nI i)), (2, .int (nI c)), (3, .int (nI e)), (4, .int p), (5, .int s2), (6, .int (nI (40 * (64 * i + c) + e))), (7, .int (rI M 71 (40 * (64 * i + c) + e))), (8, .int (nI n))] [] M' Q := by
  intro r'
  induction r' with
  | zero =>
    intro n M' hkk hk h50 hpv
    obtain rfl : n = 4 := by omega
    have hs' : Str M'.2.2.1 := by rw [hk.1]; exact hs
    refine a_iload dX10_slips_179 rfl ?_
    refine a_iconst (v := 4) dX10_slips_181 (by decide) ?_
    refine a_icmp_ge (tgt := 282) dX10_slips_182 (by decide) (fun c_182 => ?_) (fun c_182 => absurd (by decide) c_182)
    refine a_iconst (v := 0) dX10_slips_282 (by decide) ?_
    refine a_zret dX10_slips_283 rfl (by decide) (h M' 0 hk (Or.inr ⟨rfl, fun n m hf => by obtain ⟨o', a', b', ⟨z, -⟩ | ⟨z, -⟩ | ⟨-, z, -⟩, -⟩ := id hf; exact nsg12 z ho; exact absurd ho (by rw [z]; decide); exact hpv n m z hf⟩))
  | succ r' ih =>
    intro n M' hkk hk h50 hpv
    have hs' : Str M'.2.2.1 := by rw [hk.1]; exact hs
    have hn4 : n < 4 := by omega
    have acell : ∃ d, d < 64 ∧ (rI M 72 (40 * (64 * i + c) + e)) = nI d := by
      rcases ho with z | z
      · exact hrow.2.1 z
      · obtain ⟨ca, cb, hca, -, eca, -⟩ := hrow.2.2 z
        exact ⟨ca, hca, eca⟩
    have bcell : ¬ s2 = 0 → ∃ d, d < 64 ∧ (rI M 73 (40 * (64 * i + c) + e)) = nI d := fun z => by
      obtain ⟨ca, cb, -, hcb, -, ecb⟩ := hrow.2.2 (hs2.resolve_left z)
      exact ⟨cb, hcb, ecb⟩
    refine a_iload dX10_slips_179 rfl ?_
    refine a_iconst (v := 4) dX10_slips_181 (by decide) ?_
    refine a_icmp_ge (tgt := 282) dX10_slips_182 (by decide) (fun c_182 => absurd c_182 (nI_ge (b := 4) hn4 (by decide))) (fun c_182 => ?_)
    refine a_aload_n dX10_slips_185 rfl ?_
    refine a_iload dX10_slips_186 rfl ?_
    refine a_if_eq (tgt := 201) dX10_slips_188 (by decide) (fun c_188 => ?_) (fun c_188 => ?_)
    · have p188 : s2 = 0 := c_188
      obtain ⟨d, hd, ed⟩ := acell
      have hd2 : (if s2 = 0 then (rI M 72 (40 * (64 * i + c) + e)) else (rI M 73 (40 * (64 * i + c) + e))).toNatClampNeg = d := by rw [if_pos p188, ed]; exact j64_c hd
      refine a_aload_n dX10_slips_201 rfl ?_
      refine a_getA (z := 72) kfX10_32 rfl rfl (st_64_8 hs') (by decide) (hlt hN (by decide)) dX10_slips_202 ?_
      refine a_iload dX10_slips_205 rfl ?_
      refine a_iald rfl (by decide) (hlt hN (by decide)) (show vp_in _ 15360 from vp_in_nI (by omega) (by decide)) dX10_slips_207 ?_
      rw [nI_clamp (by omega), hk.2.1 72 _ (by omega) (by omega) (by omega)]
      rw [ed]
      refine a_iload dX10_slips_208 rfl ?_
      refine a_callS (mc1 := 0) (ms1 := 0) (As := [_, _]) kpX10_beside kmX10_331 (by decide) rfl (Nat.le_of_ble_eq_true rfl) (Nat.le_of_ble_eq_true rfl) (Nat.le_of_ble_eq_true rfl) (Nat.le_of_ble_eq_true rfl) dX10_slips_210 (w_X10_beside hd hn4 ?_)
      refine a_putI kfX10_324 rfl rfl rfl (by decide) (hlt hN (by decide)) dX10_slips_213 ?_
      refine a_aload_n dX10_slips_216 rfl ?_
      refine a_getI kfX10_324 rfl rfl (by decide) (hlt hN (by decide)) dX10_slips_217 ?_
      rw [show rI (sI M' 64 51 (bsI d n)) 64 51 = bsI d n from rfl]
      refine a_iconst (v := (-1)) dX10_slips_220 (by decide) ?_
      refine a_icmp_eq (tgt := 276) dX10_slips_221 (by decide) (fun c_221 => ?_) (fun c_221 => ?_)
      · have p221 : bsI d n = -1 := c_221
        refine a_iinc dX10_slips_276 rfl rfl (by decide) ?_
        refine a_goto (tgt := 179) dX10_slips_279 (by decide) ?_
        rw [show nI n + Int32.ofInt 1 = nI (n + 1) from nI_1 n]
        first
        | (have q : bsI d n = -1 := p221
           refine AW.sub (L' := [(0, .ref 64), (1, .int (nI i)), (2, .int (nI c)), (3, .int (nI e)), (4, .int p), (5, .int s2), (6, .int (nI (40 * (64 * i + c) + e))), (7, .int (rI M 71 (40 * (64 * i + c) + e))), (8, .int (nI (n + 1)))]) rfl (ih (n + 1) _ (by omega) (hk.trans KS.st) (by rw [rI_sI, if_neg (by decide)]; exact h50) (fun n' m' hn' hf' => ?_))
           by_cases en : n' = n
           · subst en
             obtain ⟨o', a', b', ⟨z, -⟩ | ⟨z, -⟩ | ⟨-, -, z, z2, -⟩, -⟩ := hf'
             · exact nsg12 z ho
             · exact absurd ho (by rw [z]; decide)
             · exact z2 (z.trans (by rw [hd2]; exact q))
           · exact hpv n' m' (by omega) hf')
        | (have q : x = 0 := p271
           refine AW.sub (L' := [(0, .ref 64), (1, .int (nI i)), (2, .int (nI c)), (3, .int (nI e)), (4, .int p), (5, .int s2), (6, .int (nI (40 * (64 * i + c) + e))), (7, .int (rI M 71 (40 * (64 * i + c) + e))), (8, .int (nI (n + 1)))]) rfl (ih (n + 1) _ (by omega) hk2 (by rw [h50', rI_sI, if_neg (by decide)]; exact h50) (fun n' m' hn' hf' => ?_))
           by_cases en : n' = n
           · subst en
             obtain ⟨o', a', b', ⟨z, -⟩ | ⟨z, -⟩ | ⟨-, -, z, z2, rfl, rfl, rfl⟩, ha⟩ := hf'
             · exact nsg12 z ho
             · exact absurd ho (by rw [z]; decide)
             · have em : m' = bsI d n' := z.trans (by rw [hd2])
               rw [em, h188a, h188b] at ha
               exact (hx.resolve_left (fun z => absurd (z.1.symm.trans q) (by decide))).2 ha
           · exact hpv n' m' (by omega) hf')
      · have p221 : ¬ bsI d n = -1 := c_221
        obtain ⟨d2, hdd, ed2⟩ := bsI_c hd p221
        refine a_aload_n dX10_slips_224 rfl ?_
        refine a_iload_n dX10_slips_225 rfl ?_
        refine a_iload_n dX10_slips_226 rfl ?_
        refine a_iload_n dX10_slips_227 rfl ?_
        refine a_iload dX10_slips_228 rfl ?_
        refine a_iload dX10_slips_230 rfl ?_
        refine a_if_eq (tgt := 245) dX10_slips_232 (by decide) (fun c_232 => ?_) (fun c_232 => absurd p188 c_232)
        refine a_aload_n dX10_slips_245 rfl ?_
        refine a_getI kfX10_324 rfl rfl (by decide) (hlt hN (by decide)) dX10_slips_246 ?_
        rw [show rI (sI M' 64 51 (bsI d n)) 64 51 = bsI d n from rfl]
        refine a_iload dX10_slips_249 rfl ?_
        refine a_if_eq (tgt := 261) dX10_slips_251 (by decide) (fun c_251 => ?_) (fun c_251 => absurd p188 c_251)
        refine a_aload_n dX10_slips_261 rfl ?_
        refine a_getA (z := 73) kfX10_35 rfl rfl (st_64_9 hs') (by decide) (hlt hN (by decide)) dX10_slips_262 ?_
        refine a_iload dX10_slips_265 rfl ?_
        refine a_iald rfl (by decide) (hlt hN (by decide)) (show vp_in _ 15360 from vp_in_nI (by omega) (by decide)) dX10_slips_267 ?_
        rw [show rI (sI M' 64 51 (bsI d n)) 73 _ = rI M' 73 _ from rfl]
        rw [nI_clamp (by omega), hk.2.1 73 _ (by omega) (by omega) (by omega)]
        have h188a : (if s2 = 0 then bsI d n else (rI M 72 (40 * (64 * i + c) + e))) = bsI d n := if_pos p188
        have h188b : (if s2 = 0 then (rI M 73 (40 * (64 * i + c) + e)) else bsI d n) = (rI M 73 (40 * (64 * i + c) + e)) := if_pos p188
        refine a_callV (mc1 := 0) (ms1 := 0) (As := [_, _, _, _, _, _]) kpX10_tries kmX10_327 (by decide) rfl (Nat.le_of_ble_eq_true rfl) rfl (by decide) rfl (by decide) (hlt hN (by decide)) (Nat.le_of_ble_eq_true rfl) (Nat.le_of_ble_eq_true rfl) (Nat.le_of_ble_eq_true rfl) dX10_slips_268 (w_tr (hk.trans KS.st) hi1 hi hc he hW6 hg h36 hW htk hwn hf (by
      first
      | (have z0 : s2 = 0 := p188
         rcases ho with z | z
         · exact Or.inr (Or.inr (Or.inl ⟨z, z, d2, hdd, ed2⟩))
         · obtain ⟨ca, cb, hca, hcb, eca, ecb⟩ := hrow.2.2 z
           exact Or.inr (Or.inr (Or.inr ⟨z, z, d2, cb, hdd, hcb, ed2, ecb⟩)))
      | (have z0 : ¬ s2 = 0 := p188
         have z := hs2.resolve_left z0
         obtain ⟨ca, cb, hca, hcb, eca, ecb⟩ := hrow.2.2 z
         exact Or.inr (Or.inr (Or.inr ⟨z, z, ca, d2, hca, hdd, eca, ed2⟩)))) hN (by exact hs') (fun M'' x hk2 h50' h51 hx => ?_))
        refine a_if_eq (tgt := 276) dX10_slips_271 (by decide) (fun c_271 => ?_) (fun c_271 => ?_)
        · have p271 : x = 0 := c_271
          refine a_iinc dX10_slips_276 rfl rfl (by decide) ?_
          refine a_goto (tgt := 179) dX10_slips_279 (by decide) ?_
          rw [show nI n + Int32.ofInt 1 = nI (n + 1) from nI_1 n]
          first
          | (have q : bsI d n = -1 := p221
             refine AW.sub (L' := [(0, .ref 64), (1, .int (nI i)), (2, .int (nI c)), (3, .int (nI e)), (4, .int p), (5, .int s2), (6, .int (nI (40 * (64 * i + c) + e))), (7, .int (rI M 71 (40 * (64 * i + c) + e))), (8, .int (nI (n + 1)))]) rfl (ih (n + 1) _ (by omega) (hk.trans KS.st) (by rw [rI_sI, if_neg (by decide)]; exact h50) (fun n' m' hn' hf' => ?_))
             by_cases en : n' = n
             · subst en
               obtain ⟨o', a', b', ⟨z, -⟩ | ⟨z, -⟩ | ⟨-, -, z, z2, -⟩, -⟩ := hf'
               · exact nsg12 z ho
               · exact absurd ho (by rw [z]; decide)
               · exact z2 (z.trans (by rw [hd2]; exact q))
             · exact hpv n' m' (by omega) hf')
          | (have q : x = 0 := p271
             refine AW.sub (L' := [(0, .ref 64), (1, .int (nI i)), (2, .int (nI c)), (3, .int (nI e)), (4, .int p), (5, .int s2), (6, .int (nI (40 * (64 * i + c) + e))), (7, .int (rI M 71 (40 * (64 * i + c) + e))), (8, .int (nI (n + 1)))]) rfl (ih (n + 1) _ (by omega) hk2 (by rw [h50', rI_sI, if_neg (by decide)]; exact h50) (fun n' m' hn' hf' => ?_))
             by_cases en : n' = n
             · subst en
               obtain ⟨o', a', b', ⟨z, -⟩ | ⟨z, -⟩ | ⟨-, -, z, z2, rfl, rfl, rfl⟩, ha⟩ := hf'
               · exact nsg12 z ho
               · exact absurd ho (by rw [z]; decide)
               · have em : m' = bsI d n' := z.trans (by rw [hd2])
                 rw [em, h188a, h188b] at ha
                 exact (hx.resolve_left (fun z => absurd (z.1.symm.trans q) (by decide))).2 ha
             · exact hpv n' m' (by omega) hf')
        · have p271 : ¬ x = 0 := c_271
          refine a_iconst (v := 1) dX10_slips_274 (by decide) ?_
          refine a_zret dX10_slips_275 rfl (by decide) (h M'' 1 hk2 (Or.inl ⟨rfl, n, bsI d n, ⟨(rI M 71 (40 * (64 * i + c) + e)), _, _, Or.inr (Or.inr ⟨ho, hn4, by rw [hd2], p221, rfl, h188a.symm, h188b.symm⟩), (hx.resolve_right (fun z => p271 z.1)).2⟩, hpv, by rw [h50', rI_sI, if_neg (by decide)]; exact h50, by rw [h51, rI_sI, if_pos ⟨rfl, rfl⟩]⟩))
    · have p188 : ¬ s2 = 0 := c_188
      obtain ⟨d, hd, ed⟩ := (bcell p188)
      have hd2 : (if s2 = 0 then (rI M 72 (40 * (64 * i + c) + e)) else (rI M 73 (40 * (64 * i + c) + e))).toNatClampNeg = d := by rw [if_neg p188, ed]; exact j64_c hd
      refine a_aload_n dX10_slips_191 rfl ?_
      refine a_getA (z := 73) kfX10_35 rfl rfl (st_64_9 hs') (by decide) (hlt hN (by decide)) dX10_slips_192 ?_
      refine a_iload dX10_slips_195 rfl ?_
      refine a_iald rfl (by decide) (hlt hN (by decide)) (show vp_in _ 15360 from vp_in_nI (by omega) (by decide)) dX10_slips_197 ?_
      rw [nI_clamp (by omega), hk.2.1 73 _ (by omega) (by omega) (by omega)]
      rw [ed]
      refine a_goto (tgt := 208) dX10_slips_198 (by decide) ?_
      refine a_iload dX10_slips_208 rfl ?_
      refine a_callS (mc1 := 0) (ms1 := 0) (As := [_, _]) kpX10_beside kmX10_331 (by decide) rfl (Nat.le_of_ble_eq_true rfl) (Nat.le_of_ble_eq_true rfl) (Nat.le_of_ble_eq_true rfl) (Nat.le_of_ble_eq_true rfl) dX10_slips_210 (w_X10_beside hd hn4 ?_)
      refine a_putI kfX10_324 rfl rfl rfl (by decide) (hlt hN (by decide)) dX10_slips_213 ?_
      refine a_aload_n dX10_slips_216 rfl ?_
      refine a_getI kfX10_324 rfl rfl (by decide) (hlt hN (by decide)) dX10_slips_217 ?_
      rw [show rI (sI M' 64 51 (bsI d n)) 64 51 = bsI d n from rfl]
      refine a_iconst (v := (-1)) dX10_slips_220 (by decide) ?_
      refine a_icmp_eq (tgt := 276) dX10_slips_221 (by decide) (fun c_221 => ?_) (fun c_221 => ?_)
      · have p221 : bsI d n = -1 := c_221
        refine a_iinc dX10_slips_276 rfl rfl (by decide) ?_
        refine a_goto (tgt := 179) dX10_slips_279 (by decide) ?_
        rw [show nI n + Int32.ofInt 1 = nI (n + 1) from nI_1 n]
        first
        | (have q : bsI d n = -1 := p221
           refine AW.sub (L' := [(0, .ref 64), (1, .int (nI i)), (2, .int (nI c)), (3, .int (nI e)), (4, .int p), (5, .int s2), (6, .int (nI (40 * (64 * i + c) + e))), (7, .int (rI M 71 (40 * (64 * i + c) + e))), (8, .int (nI (n + 1)))]) rfl (ih (n + 1) _ (by omega) (hk.trans KS.st) (by rw [rI_sI, if_neg (by decide)]; exact h50) (fun n' m' hn' hf' => ?_))
           by_cases en : n' = n
           · subst en
             obtain ⟨o', a', b', ⟨z, -⟩ | ⟨z, -⟩ | ⟨-, -, z, z2, -⟩, -⟩ := hf'
             · exact nsg12 z ho
             · exact absurd ho (by rw [z]; decide)
             · exact z2 (z.trans (by rw [hd2]; exact q))
           · exact hpv n' m' (by omega) hf')
        | (have q : x = 0 := p271
           refine AW.sub (L' := [(0, .ref 64), (1, .int (nI i)), (2, .int (nI c)), (3, .int (nI e)), (4, .int p), (5, .int s2), (6, .int (nI (40 * (64 * i + c) + e))), (7, .int (rI M 71 (40 * (64 * i + c) + e))), (8, .int (nI (n + 1)))]) rfl (ih (n + 1) _ (by omega) hk2 (by rw [h50', rI_sI, if_neg (by decide)]; exact h50) (fun n' m' hn' hf' => ?_))
           by_cases en : n' = n
           · subst en
             obtain ⟨o', a', b', ⟨z, -⟩ | ⟨z, -⟩ | ⟨-, -, z, z2, rfl, rfl, rfl⟩, ha⟩ := hf'
             · exact nsg12 z ho
             · exact absurd ho (by rw [z]; decide)
             · have em : m' = bsI d n' := z.trans (by rw [hd2])
               rw [em, h188a, h188b] at ha
               exact (hx.resolve_left (fun z => absurd (z.1.symm.trans q) (by decide))).2 ha
           · exact hpv n' m' (by omega) hf')
      · have p221 : ¬ bsI d n = -1 := c_221
        obtain ⟨d2, hdd, ed2⟩ := bsI_c hd p221
        refine a_aload_n dX10_slips_224 rfl ?_
        refine a_iload_n dX10_slips_225 rfl ?_
        refine a_iload_n dX10_slips_226 rfl ?_
        refine a_iload_n dX10_slips_227 rfl ?_
        refine a_iload dX10_slips_228 rfl ?_
        refine a_iload dX10_slips_230 rfl ?_
        refine a_if_eq (tgt := 245) dX10_slips_232 (by decide) (fun c_232 => absurd c_232 p188) (fun c_232 => ?_)
        refine a_aload_n dX10_slips_235 rfl ?_
        refine a_getA (z := 72) kfX10_32 rfl rfl (st_64_8 hs') (by decide) (hlt hN (by decide)) dX10_slips_236 ?_
        refine a_iload dX10_slips_239 rfl ?_
        refine a_iald rfl (by decide) (hlt hN (by decide)) (show vp_in _ 15360 from vp_in_nI (by omega) (by decide)) dX10_slips_241 ?_
        rw [show rI (sI M' 64 51 (bsI d n)) 72 _ = rI M' 72 _ from rfl]
        rw [nI_clamp (by omega), hk.2.1 72 _ (by omega) (by omega) (by omega)]
        refine a_goto (tgt := 249) dX10_slips_242 (by decide) ?_
        refine a_iload dX10_slips_249 rfl ?_
        refine a_if_eq (tgt := 261) dX10_slips_251 (by decide) (fun c_251 => absurd c_251 p188) (fun c_251 => ?_)
        refine a_aload_n dX10_slips_254 rfl ?_
        refine a_getI kfX10_324 rfl rfl (by decide) (hlt hN (by decide)) dX10_slips_255 ?_
        rw [show rI (sI M' 64 51 (bsI d n)) 64 51 = bsI d n from rfl]
        refine a_goto (tgt := 268) dX10_slips_258 (by decide) ?_
        have h188a : (if s2 = 0 then bsI d n else (rI M 72 (40 * (64 * i + c) + e))) = (rI M 72 (40 * (64 * i + c) + e)) := if_neg p188
        have h188b : (if s2 = 0 then (rI M 73 (40 * (64 * i + c) + e)) else bsI d n) = bsI d n := if_neg p188
        refine a_callV (mc1 := 0) (ms1 := 0) (As := [_, _, _, _, _, _]) kpX10_tries kmX10_327 (by decide) rfl (Nat.le_of_ble_eq_true rfl) rfl (by decide) rfl (by decide) (hlt hN (by decide)) (Nat.le_of_ble_eq_true rfl) (Nat.le_of_ble_eq_true rfl) (Nat.le_of_ble_eq_true rfl) dX10_slips_268 (w_tr (hk.trans KS.st) hi1 hi hc he hW6 hg h36 hW htk hwn hf (by
      first
      | (have z0 : s2 = 0 := p188
         rcases ho with z | z
         · exact Or.inr (Or.inr (Or.inl ⟨z, z, d2, hdd, ed2⟩))
         · obtain ⟨ca, cb, hca, hcb, eca, ecb⟩ := hrow.2.2 z
           exact Or.inr (Or.inr (Or.inr ⟨z, z, d2, cb, hdd, hcb, ed2, ecb⟩)))
      | (have z0 : ¬ s2 = 0 := p188
         have z := hs2.resolve_left z0
         obtain ⟨ca, cb, hca, hcb, eca, ecb⟩ := hrow.2.2 z
         exact Or.inr (Or.inr (Or.inr ⟨z, z, ca, d2, hca, hdd, eca, ed2⟩)))) hN (by exact hs') (fun M'' x hk2 h50' h51 hx => ?_))
        refine a_if_eq (tgt := 276) dX10_slips_271 (by decide) (fun c_271 => ?_) (fun c_271 => ?_)
        · have p271 : x = 0 := c_271
          refine a_iinc dX10_slips_276 rfl rfl (by decide) ?_
          refine a_goto (tgt := 179) dX10_slips_279 (by decide) ?_
          rw [show nI n + Int32.ofInt 1 = nI (n + 1) from nI_1 n]
          first
          | (have q : bsI d n = -1 := p221
             refine AW.sub (L' := [(0, .ref 64), (1, .int (nI i)), (2, .int (nI c)), (3, .int (nI e)), (4, .int p), (5, .int s2), (6, .int (nI (40 * (64 * i + c) + e))), (7, .int (rI M 71 (40 * (64 * i + c) + e))), (8, .int (nI (n + 1)))]) rfl (ih (n + 1) _ (by omega) (hk.trans KS.st) (by rw [rI_sI, if_neg (by decide)]; exact h50) (fun n' m' hn' hf' => ?_))
             by_cases en : n' = n
             · subst en
               obtain ⟨o', a', b', ⟨z, -⟩ | ⟨z, -⟩ | ⟨-, -, z, z2, -⟩, -⟩ := hf'
               · exact nsg12 z ho
               · exact absurd ho (by rw [z]; decide)
               · exact z2 (z.trans (by rw [hd2]; exact q))
             · exact hpv n' m' (by omega) hf')
          | (have q : x = 0 := p271
             refine AW.sub (L' := [(0, .ref 64), (1, .int (nI i)), (2, .int (nI c)), (3, .int (nI e)), (4, .int p), (5, .int s2), (6, .int (nI (40 * (64 * i + c) + e))), (7, .int (rI M 71 (40 * (64 * i + c) + e))), (8, .int (nI (n + 1)))]) rfl (ih (n + 1) _ (by omega) hk2 (by rw [h50', rI_sI, if_neg (by decide)]; exact h50) (fun n' m' hn' hf' => ?_))
             by_cases en : n' = n
             · subst en
               obtain ⟨o', a', b', ⟨z, -⟩ | ⟨z, -⟩ | ⟨-, -, z, z2, rfl, rfl, rfl⟩, ha⟩ := hf'
               · exact nsg12 z ho
               · exact absurd ho (by rw [z]; decide)
               · have em : m' = bsI d n' := z.trans (by rw [hd2])
                 rw [em, h188a, h188b] at ha
                 exact (hx.resolve_left (fun z => absurd (z.1.symm.trans q) (by decide))).2 ha
             · exact hpv n' m' (by omega) hf')
        · have p271 : ¬ x = 0 := c_271
          refine a_iconst (v := 1) dX10_slips_274 (by decide) ?_
          refine a_zret dX10_slips_275 rfl (by decide) (h M'' 1 hk2 (Or.inl ⟨rfl, n, bsI d n, ⟨(rI M 71 (40 * (64 * i + c) + e)), _, _, Or.inr (Or.inr ⟨ho, hn4, by rw [hd2], p221, rfl, h188a.symm, h188b.symm⟩), (hx.resolve_right (fun z => p271 z.1)).2⟩, hpv, by rw [h50', rI_sI, if_neg (by decide)]; exact h50, by rw [h51, rI_sI, if_pos ⟨rfl, rfl⟩]⟩))
theorem w_X10_slips {M : Mem} {N : Nat} {Q : Option Value → Nat → Mem → Prop} {i c e W : Nat} {p s2 : Int32} (hi1 : 1 ≤ i) (hi : i < 6) (hc : c < 64) (he : e < 40) (hW6 : W ≤ 6) (hg : GA M) (h36 : rI M 64 36 = -1) (hW : rI M 64 17 = nI W) (htk : TaskOK M W) (hwn : 0 < (rI M 78 c).toInt) (hf : ¬ rI M 64 21 = 0) (hrow : RowK M (40 * (64 * i + c) + e)) (hs2 : s2 = 0 ∨ rI M 71 (40 * (64 * i + c) + e) = 2)  (hN : 94 ≤ N) (hs : Str M.2.2.1) (h : ∀ M'' x, KS M M'' → ((x = 1 ∧ ∃ n m, FnR M (40 * (64 * i + c) + e) i c W s2 n m ∧ (∀ n' m', n' < n → ¬ FnR M (40 * (64 * i + c) + e) i c W s2 n' m') ∧ rI M'' 64 50 = p ∧ rI M'' 64 51 = m) ∨ (x = 0 ∧ ∀ n m, ¬ FnR M (40 * (64 * i + c) + e) i c W s2 n m)) → Q (some (.int x)) N M'')  : AW mX10_slips 10 0 0 N 0 [(0, .ref 64), (1, .int (nI i)), (2, .int (nI c)), (3, .int (nI e)), (4, .int p), (5, .int s2)] [] M Q := by
  refine a_bipush (v := 40) dX10_slips_0 (by decide) ?_
  refine a_bipush (v := 64) dX10_slips_2 (by decide) ?_
  refine a_iload_n dX10_slips_4 rfl ?_
  refine a_imul dX10_slips_5 ?_
  refine a_iload_n dX10_slips_6 rfl ?_
  refine a_iadd dX10_slips_7 ?_
  rw [i64]
  refine a_imul dX10_slips_8 ?_
  refine a_iload_n dX10_slips_9 rfl ?_
  refine a_iadd dX10_slips_10 ?_
  rw [k40]
  refine a_istore dX10_slips_11 (by decide) ?_
  refine a_aload_n dX10_slips_13 rfl ?_
  refine a_getA (z := 71) kfX10_29 rfl rfl (st_64_7 hs) (by decide) (hlt hN (by decide)) dX10_slips_14 ?_
  refine a_iload dX10_slips_17 rfl ?_
  refine a_iald rfl (by decide) (hlt hN (by decide)) (show vp_in _ 15360 from vp_in_nI (by omega) (by decide)) dX10_slips_19 ?_
  rw [nI_clamp (by omega)]
  refine a_istore dX10_slips_20 (by decide) ?_
  refine a_aload_n dX10_slips_22 rfl ?_
  refine a_iload dX10_slips_23 rfl ?_
  refine a_putI kfX10_318 rfl rfl rfl (by decide) (hlt hN (by decide)) dX10_slips_25 ?_
  refine a_iload dX10_slips_28 rfl ?_
  refine AW.sub (L' := [(0, .ref 64), (1, .int (nI i)), (2, .int (nI c)), (3, .int (nI e)), (4, .int p), (5, .int s2), (6, .int (nI (40 * (64 * i + c) + e))), (7, .int (rI M 71 (40 * (64 * i + c) + e)))]) rfl ?_
  rcases hrow.1 with q | q | q | q | q | q | q | q | q
  · refine a_iconst (v := 4) dX10_slips_30 (by decide) ?_
    refine a_icmp_lt (tgt := 92) dX10_slips_31 (by decide) (fun c_31 => ?_) (fun c_31 => absurd (by rw [q] <;> decide) c_31)
    refine a_iload dX10_slips_92 rfl ?_
    refine a_if_ne (tgt := 164) dX10_slips_94 (by decide) (fun c_94 => absurd (by rw [q] <;> decide) c_94) (fun c_94 => ?_)
    refine a_iconst (v := 0) dX10_slips_97 (by decide) ?_
    refine a_istore dX10_slips_98 (by decide) ?_
    refine AW.sub (L' := [(0, .ref 64), (1, .int (nI i)), (2, .int (nI c)), (3, .int (nI e)), (4, .int p), (5, .int s2), (6, .int (nI (40 * (64 * i + c) + e))), (7, .int (rI M 71 (40 * (64 * i + c) + e))), (8, .int (nI 0))]) rfl ?_
    exact l_X10_slipN hi1 hi hc he hW6 hg h36 hW htk hwn hf hrow hs2 q hN hs h 2 0 _ (by omega) KS.sp (by rw [rI_sI, if_pos ⟨rfl, rfl⟩]) (fun n' m' z => absurd z (Nat.not_lt_zero _))
  · refine a_iconst (v := 4) dX10_slips_30 (by decide) ?_
    refine a_icmp_lt (tgt := 92) dX10_slips_31 (by decide) (fun c_31 => ?_) (fun c_31 => absurd (by rw [q] <;> decide) c_31)
    refine a_iload dX10_slips_92 rfl ?_
    refine a_if_ne (tgt := 164) dX10_slips_94 (by decide) (fun c_94 => ?_) (fun c_94 => absurd c_94 (by rw [q] <;> decide))
    refine a_iload dX10_slips_164 rfl ?_
    refine a_iconst (v := 1) dX10_slips_166 (by decide) ?_
    refine a_icmp_eq (tgt := 176) dX10_slips_167 (by decide) (fun c_167 => ?_) (fun c_167 => absurd (by rw [q] <;> decide) c_167)
    refine a_iconst (v := 0) dX10_slips_176 (by decide) ?_
    refine a_istore dX10_slips_177 (by decide) ?_
    refine AW.sub (L' := [(0, .ref 64), (1, .int (nI i)), (2, .int (nI c)), (3, .int (nI e)), (4, .int p), (5, .int s2), (6, .int (nI (40 * (64 * i + c) + e))), (7, .int (rI M 71 (40 * (64 * i + c) + e))), (8, .int (nI 0))]) rfl ?_
    exact l_X10_slipC hi1 hi hc he hW6 hg h36 hW htk hwn hf hrow hs2 (Or.inl q) hN hs h 4 0 _ (by omega) KS.sp (by rw [rI_sI, if_pos ⟨rfl, rfl⟩]) (fun n' m' z => absurd z (Nat.not_lt_zero _))
  · refine a_iconst (v := 4) dX10_slips_30 (by decide) ?_
    refine a_icmp_lt (tgt := 92) dX10_slips_31 (by decide) (fun c_31 => ?_) (fun c_31 => absurd (by rw [q] <;> decide) c_31)
    refine a_iload dX10_slips_92 rfl ?_
    refine a_if_ne (tgt := 164) dX10_slips_94 (by decide) (fun c_94 => ?_) (fun c_94 => absurd c_94 (by rw [q] <;> decide))
    refine a_iload dX10_slips_164 rfl ?_
    refine a_iconst (v := 1) dX10_slips_166 (by decide) ?_
    refine a_icmp_eq (tgt := 176) dX10_slips_167 (by decide) (fun c_167 => absurd c_167 (by rw [q] <;> decide)) (fun c_167 => ?_)
    refine a_iload dX10_slips_170 rfl ?_
    refine a_iconst (v := 2) dX10_slips_172 (by decide) ?_
    refine a_icmp_ne (tgt := 282) dX10_slips_173 (by decide) (fun c_173 => absurd (by rw [q] <;> decide) c_173) (fun c_173 => ?_)
    refine a_iconst (v := 0) dX10_slips_176 (by decide) ?_
    refine a_istore dX10_slips_177 (by decide) ?_
    refine AW.sub (L' := [(0, .ref 64), (1, .int (nI i)), (2, .int (nI c)), (3, .int (nI e)), (4, .int p), (5, .int s2), (6, .int (nI (40 * (64 * i + c) + e))), (7, .int (rI M 71 (40 * (64 * i + c) + e))), (8, .int (nI 0))]) rfl ?_
    exact l_X10_slipC hi1 hi hc he hW6 hg h36 hW htk hwn hf hrow hs2 (Or.inr q) hN hs h 4 0 _ (by omega) KS.sp (by rw [rI_sI, if_pos ⟨rfl, rfl⟩]) (fun n' m' z => absurd z (Nat.not_lt_zero _))
  · refine a_iconst (v := 4) dX10_slips_30 (by decide) ?_
    refine a_icmp_lt (tgt := 92) dX10_slips_31 (by decide) (fun c_31 => ?_) (fun c_31 => absurd (by rw [q] <;> decide) c_31)
    refine a_iload dX10_slips_92 rfl ?_
    refine a_if_ne (tgt := 164) dX10_slips_94 (by decide) (fun c_94 => ?_) (fun c_94 => absurd c_94 (by rw [q] <;> decide))
    refine a_iload dX10_slips_164 rfl ?_
    refine a_iconst (v := 1) dX10_slips_166 (by decide) ?_
    refine a_icmp_eq (tgt := 176) dX10_slips_167 (by decide) (fun c_167 => absurd c_167 (by rw [q] <;> decide)) (fun c_167 => ?_)
    refine a_iload dX10_slips_170 rfl ?_
    refine a_iconst (v := 2) dX10_slips_172 (by decide) ?_
    refine a_icmp_ne (tgt := 282) dX10_slips_173 (by decide) (fun c_173 => ?_) (fun c_173 => absurd c_173 (by rw [q] <;> decide))
    refine a_iconst (v := 0) dX10_slips_282 (by decide) ?_
    refine a_zret dX10_slips_283 rfl (by decide) (h _ 0 KS.sp (Or.inr ⟨rfl, fun n m hf => by obtain ⟨o', a', b', ⟨z, -⟩ | ⟨z, -⟩ | ⟨z, -⟩, -⟩ := hf; exact absurd z (by rw [q] <;> decide); exact absurd z (by rw [q] <;> decide); exact absurd z (by rw [q] <;> decide)⟩))
  · refine a_iconst (v := 4) dX10_slips_30 (by decide) ?_
    refine a_icmp_lt (tgt := 92) dX10_slips_31 (by decide) (fun c_31 => absurd c_31 (by rw [q] <;> decide)) (fun c_31 => ?_)
    refine a_iload dX10_slips_34 rfl ?_
    refine a_bipush (v := 7) dX10_slips_36 (by decide) ?_
    refine a_icmp_gt (tgt := 92) dX10_slips_38 (by decide) (fun c_38 => absurd c_38 (by rw [q] <;> decide)) (fun c_38 => ?_)
    refine a_iconst (v := 4) dX10_slips_41 (by decide) ?_
    refine a_istore dX10_slips_42 (by decide) ?_
    refine AW.sub (L' := [(0, .ref 64), (1, .int (nI i)), (2, .int (nI c)), (3, .int (nI e)), (4, .int p), (5, .int s2), (6, .int (nI (40 * (64 * i + c) + e))), (7, .int (rI M 71 (40 * (64 * i + c) + e))), (8, .int (nI (4 + 0)))]) rfl ?_
    exact l_X10_slipS hi1 hi hc he hW6 hg h36 hW htk hwn hf hrow hs2 (Or.inl q) hN hs h 4 0 _ (by omega) KS.sp (by rw [rI_sI, if_pos ⟨rfl, rfl⟩]) (fun n' m' z => absurd z (Nat.not_lt_zero _))
  · refine a_iconst (v := 4) dX10_slips_30 (by decide) ?_
    refine a_icmp_lt (tgt := 92) dX10_slips_31 (by decide) (fun c_31 => absurd c_31 (by rw [q] <;> decide)) (fun c_31 => ?_)
    refine a_iload dX10_slips_34 rfl ?_
    refine a_bipush (v := 7) dX10_slips_36 (by decide) ?_
    refine a_icmp_gt (tgt := 92) dX10_slips_38 (by decide) (fun c_38 => absurd c_38 (by rw [q] <;> decide)) (fun c_38 => ?_)
    refine a_iconst (v := 4) dX10_slips_41 (by decide) ?_
    refine a_istore dX10_slips_42 (by decide) ?_
    refine AW.sub (L' := [(0, .ref 64), (1, .int (nI i)), (2, .int (nI c)), (3, .int (nI e)), (4, .int p), (5, .int s2), (6, .int (nI (40 * (64 * i + c) + e))), (7, .int (rI M 71 (40 * (64 * i + c) + e))), (8, .int (nI (4 + 0)))]) rfl ?_
    exact l_X10_slipS hi1 hi hc he hW6 hg h36 hW htk hwn hf hrow hs2 (Or.inr (Or.inl q)) hN hs h 4 0 _ (by omega) KS.sp (by rw [rI_sI, if_pos ⟨rfl, rfl⟩]) (fun n' m' z => absurd z (Nat.not_lt_zero _))
  · refine a_iconst (v := 4) dX10_slips_30 (by decide) ?_
    refine a_icmp_lt (tgt := 92) dX10_slips_31 (by decide) (fun c_31 => absurd c_31 (by rw [q] <;> decide)) (fun c_31 => ?_)
    refine a_iload dX10_slips_34 rfl ?_
    refine a_bipush (v := 7) dX10_slips_36 (by decide) ?_
    refine a_icmp_gt (tgt := 92) dX10_slips_38 (by decide) (fun c_38 => absurd c_38 (by rw [q] <;> decide)) (fun c_38 => ?_)
    refine a_iconst (v := 4) dX10_slips_41 (by decide) ?_
    refine a_istore dX10_slips_42 (by decide) ?_
    refine AW.sub (L' := [(0, .ref 64), (1, .int (nI i)), (2, .int (nI c)), (3, .int (nI e)), (4, .int p), (5, .int s2), (6, .int (nI (40 * (64 * i + c) + e))), (7, .int (rI M 71 (40 * (64 * i + c) + e))), (8, .int (nI (4 + 0)))]) rfl ?_
    exact l_X10_slipS hi1 hi hc he hW6 hg h36 hW htk hwn hf hrow hs2 (Or.inr (Or.inr (Or.inl q))) hN hs h 4 0 _ (by omega) KS.sp (by rw [rI_sI, if_pos ⟨rfl, rfl⟩]) (fun n' m' z => absurd z (Nat.not_lt_zero _))
  · refine a_iconst (v := 4) dX10_slips_30 (by decide) ?_
    refine a_icmp_lt (tgt := 92) dX10_slips_31 (by decide) (fun c_31 => absurd c_31 (by rw [q] <;> decide)) (fun c_31 => ?_)
    refine a_iload dX10_slips_34 rfl ?_
    refine a_bipush (v := 7) dX10_slips_36 (by decide) ?_
    refine a_icmp_gt (tgt := 92) dX10_slips_38 (by decide) (fun c_38 => absurd c_38 (by rw [q] <;> decide)) (fun c_38 => ?_)
    refine a_iconst (v := 4) dX10_slips_41 (by decide) ?_
    refine a_istore dX10_slips_42 (by decide) ?_
    refine AW.sub (L' := [(0, .ref 64), (1, .int (nI i)), (2, .int (nI c)), (3, .int (nI e)), (4, .int p), (5, .int s2), (6, .int (nI (40 * (64 * i + c) + e))), (7, .int (rI M 71 (40 * (64 * i + c) + e))), (8, .int (nI (4 + 0)))]) rfl ?_
    exact l_X10_slipS hi1 hi hc he hW6 hg h36 hW htk hwn hf hrow hs2 (Or.inr (Or.inr (Or.inr q))) hN hs h 4 0 _ (by omega) KS.sp (by rw [rI_sI, if_pos ⟨rfl, rfl⟩]) (fun n' m' z => absurd z (Nat.not_lt_zero _))
  · refine a_iconst (v := 4) dX10_slips_30 (by decide) ?_
    refine a_icmp_lt (tgt := 92) dX10_slips_31 (by decide) (fun c_31 => absurd c_31 (by rw [q] <;> decide)) (fun c_31 => ?_)
    refine a_iload dX10_slips_34 rfl ?_
    refine a_bipush (v := 7) dX10_slips_36 (by decide) ?_
    refine a_icmp_gt (tgt := 92) dX10_slips_38 (by decide) (fun c_38 => ?_) (fun c_38 => absurd (by rw [q] <;> decide) c_38)
    refine a_iload dX10_slips_92 rfl ?_
    refine a_if_ne (tgt := 164) dX10_slips_94 (by decide) (fun c_94 => ?_) (fun c_94 => absurd c_94 (by rw [q] <;> decide))
    refine a_iload dX10_slips_164 rfl ?_
    refine a_iconst (v := 1) dX10_slips_166 (by decide) ?_
    refine a_icmp_eq (tgt := 176) dX10_slips_167 (by decide) (fun c_167 => absurd c_167 (by rw [q] <;> decide)) (fun c_167 => ?_)
    refine a_iload dX10_slips_170 rfl ?_
    refine a_iconst (v := 2) dX10_slips_172 (by decide) ?_
    refine a_icmp_ne (tgt := 282) dX10_slips_173 (by decide) (fun c_173 => ?_) (fun c_173 => absurd c_173 (by rw [q] <;> decide))
    refine a_iconst (v := 0) dX10_slips_282 (by decide) ?_
    refine a_zret dX10_slips_283 rfl (by decide) (h _ 0 KS.sp (Or.inr ⟨rfl, fun n m hf => by obtain ⟨o', a', b', ⟨z, -⟩ | ⟨z, -⟩ | ⟨z, -⟩, -⟩ := hf; exact absurd z (by rw [q] <;> decide); exact absurd z (by rw [q] <;> decide); exact absurd z (by rw [q] <;> decide)⟩))

