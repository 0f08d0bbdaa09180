/-- the task's figures are the cell's own -/
def AlP (M : Mem) (i c : Nat) (rt : Int32) (W : Nat) : Prop := ∀ w, w < W → Ans (ndR M i c rt) (stR M i c rt w) c (rJ M 80 (64 * w + c), rI M 81 (64 * w + c))
theorem ro_z {s : MS} (h : ¬ (roF s).2 = 0) : (roF s).1 = 0 := by
  unfold roF at h ⊢
  split
  · next c => rw [if_pos c] at h; exact absurd rfl h
  · rfl
theorem stR_z {M : Mem} {i c : Nat} {rt : Int32} {w : Nat} {V : FS} (h : ¬ (stR M i c rt w V c).2 = 0) : (stR M i c rt w V c).1 = 0 := by
  by_cases z : rI M 77 c = 0
  · have t : ¬ tdP M c c rt := fun q => q.elim (fun y => y z) (fun q => q.2.1 rfl)
    by_cases c1 : rI M 66 (64 * i + c) = 1
    · rw [stR_3 z t c1] at h; exact absurd rfl h
    · by_cases c2 : rI M 66 (64 * i + c) = 2
      · rw [stR_4 z t c2] at h ⊢; exact ro_z h
      · rw [stR_5 z t c1 c2]
  · rw [stR_1 z] at h; exact absurd rfl h
theorem AnE {M : Mem} {i c : Nat} (hc : c < 64) {rt : Int32} {w : Nat} {p : Int64 × Int32} (a : Ans (ndR M i c rt) (stR M i c rt w) c p) (h : ¬ p.2 = 0) : p.1 = 0 := by
  rcases a with ⟨-, S, U, a1, a2, rfl⟩ | ⟨-, rfl⟩
  · have e := (a2 c hc a1).1
    rw [e] at h ⊢
    exact stR_z h
  · rfl
theorem i1_0 : ¬ (1 : Int32) = 0 := by decide
theorem l_X10_isAlike {M : Mem} {N : Nat} {Q : Option Value → Nat → Mem → Prop} {i c W : Nat} {rt : Int32} (hi : i < 6) (hc : c < 64) (hW6 : W ≤ 6) (hg : GA M) (hW : rI M 64 17 = nI W) (htk : TaskOK M W) (hwn : 0 < (rI M 78 c).toInt) {T : Nat} {r : Nat → Int32} {b : Int32} (hT4 : T ≤ 64) (hb : b = 1 ∧ StP (ndR M i c rt) c ∧ OrdOK (ndR M i c rt) c T r ∨ b = 0 ∧ ¬ StP (ndR M i c rt) c) (hN : 94 ≤ N) (hs : Str M.2.2.1) (h : ∀ M'' b, Kp M M'' → (b = 1 ∧ AlP M i c rt W ∨ b = 0 ∧ ¬ AlP M i c rt W) → Q (some (.int b)) N M'') : ∀ (r' w : Nat) (M' : Mem), w + r' = W → Kp M M' → rI M' 64 40 = nI T → (∀ t, t < T → rI M' 89 t = r t) → (∀ w', w' < w → Ans (ndR M i c rt) (stR M i c rt w') c (rJ M 80 (64 * w' + c), rI M 81 (64 * w' + c))) → AW mX10_isAlike 8 0 0 N 16 [(0, .ref 64), (1, .int (nI i)), (2, .int (nI c)), (3, .int rt), (4, .int b), (5, .int (nI w))] [] M' Q := by
  intro r'
  induction r' with
  | zero =>
    intro w M' hkk hk hT hrr h2
    obtain rfl : w = W := by omega
    have hs' : Str M'.2.2.1 := by rw [hk.1]; exact hs
    refine a_iload dX10_isAlike_16 rfl ?_
    refine a_aload_n dX10_isAlike_18 rfl ?_
    refine a_getI kfX10_210 rfl rfl (by decide) (hlt hN (by decide)) dX10_isAlike_19 ?_
    rw [hk.2.1 64 17 (by omega) (by omega) (by omega), hW]
    refine a_icmp_ge (tgt := 108) dX10_isAlike_22 (by decide) (fun c_22 => ?_) (fun c_22 => absurd (nI_le (by omega) (by omega)) c_22)
    refine a_iconst (v := 1) dX10_isAlike_108 (by decide) ?_
    refine a_zret dX10_isAlike_109 rfl (by decide) (h M' 1 hk (Or.inl ⟨rfl, h2⟩))
  | succ r' ih =>
    intro w M' hkk hk hT hrr h2
    have hs' : Str M'.2.2.1 := by rw [hk.1]; exact hs
    have hwW : w < W := by omega
    have cg := stR_cg (M := M) (c := c) (rt := rt) (w := w) hi (hg.at hi)
    have hte0 : ¬ (rI M 81 (64 * w + c)) = 0 → (rJ M 80 (64 * w + c)) = 0 := fun q => AnE hc (htk c hc hwn w hwW) q
    have e80 := hk.j80.1 (64 * w + c)
    have e81 := hk.j80.2 (64 * w + c)
    refine a_iload dX10_isAlike_16 rfl ?_
    refine a_aload_n dX10_isAlike_18 rfl ?_
    refine a_getI kfX10_210 rfl rfl (by decide) (hlt hN (by decide)) dX10_isAlike_19 ?_
    rw [hk.2.1 64 17 (by omega) (by omega) (by omega), hW]
    refine a_icmp_ge (tgt := 108) dX10_isAlike_22 (by decide) (fun c_22 => absurd c_22 (nI_ge (by omega) (by omega))) (fun c_22 => ?_)
    refine a_iload dX10_isAlike_25 rfl ?_
    refine a_if_eq (tgt := 39) dX10_isAlike_27 (by decide) (fun c_27 => ?_) (fun c_27 => ?_)
    · have p27 : b = 0 := c_27
      have hno : ¬ StP (ndR M i c rt) c := hb.elim (fun q => absurd (q.1.symm.trans p27) (by decide)) (fun q => q.2)
      obtain ⟨v0, hv0e⟩ : ∃ v0 : Int64, v0 = 0 := ⟨_, rfl⟩
      obtain ⟨e0, he0e⟩ : ∃ e0 : Int32, e0 = 1 := ⟨_, rfl⟩
      have hA : Ans (ndR M i c rt) (stR M i c rt w) c (v0, e0) := by rw [hv0e, he0e]; exact (Or.inr ⟨hno, rfl⟩)
      have hv0 : ¬ e0 = 0 → v0 = 0 := fun q => AnE hc hA q
      have hk2 := hk
      refine a_iload dX10_isAlike_39 rfl ?_
      refine a_if_eq (tgt := 53) dX10_isAlike_41 (by decide) (fun c_41 => ?_) (fun c_41 => absurd p27 c_41)
      refine a_iconst (v := 1) dX10_isAlike_53 (by decide) ?_
      refine a_istore dX10_isAlike_54 (by decide) ?_
      try rw [← he0e]
      refine a_iload dX10_isAlike_56 rfl ?_
      refine a_aload_n dX10_isAlike_58 rfl ?_
      refine a_getA (z := 81) kfX10_61 rfl rfl (st_64_20 hs') (by decide) (hlt hN (by decide)) dX10_isAlike_59 ?_
      refine a_bipush (v := 64) dX10_isAlike_62 (by decide) ?_
      refine a_iload dX10_isAlike_64 rfl ?_
      refine a_imul dX10_isAlike_66 ?_
      refine a_iload_n dX10_isAlike_67 rfl ?_
      refine a_iadd dX10_isAlike_68 ?_
      rw [show (64 : Int32) * nI w + nI c = nI (64 * w + c) from i64]
      refine a_iald rfl (by decide) (hlt hN (by decide)) (show vp_in _ 384 from vp_in_nI (by omega) (by decide)) dX10_isAlike_69 ?_
      first | rw [nI_clamp (by omega), e81] | rw [nI_clamp (by omega), show rI (we M' V s) 81 (64 * w + c) = rI M 81 (64 * w + c) from e81]
      refine a_icmp_ne (tgt := 100) dX10_isAlike_70 (by decide) (fun c_70 => ?_) (fun c_70 => ?_)
      · have p70 : ¬ e0 = (rI M 81 (64 * w + c)) := c_70
        refine a_iconst (v := 0) dX10_isAlike_100 (by decide) ?_
        refine a_zret dX10_isAlike_101 rfl (by decide) (h _ 0 hk2 (Or.inr ⟨rfl, fun al => p70 (congrArg Prod.snd (Ans_uniq cg hc hA (al w hwW)))⟩))
      · have p70 : e0 = (rI M 81 (64 * w + c)) := c_70
        refine a_iload dX10_isAlike_73 rfl ?_
        refine a_if_ne (tgt := 102) dX10_isAlike_75 (by decide) (fun c_75 => ?_) (fun c_75 => absurd c_75 (fun z => i1_0 (he0e.symm.trans z)))
        refine a_iinc dX10_isAlike_102 rfl rfl (by decide) ?_
        refine a_goto (tgt := 16) dX10_isAlike_105 (by decide) ?_
        rw [show nI w + Int32.ofInt 1 = nI (w + 1) from nI_1 w]
        refine AW.sub (L' := [(0, .ref 64), (1, .int (nI i)), (2, .int (nI c)), (3, .int rt), (4, .int b), (5, .int (nI (w + 1)))]) rfl ?_
        have hn : ((rJ M 80 (64 * w + c)), (rI M 81 (64 * w + c))) = ((v0, e0) : Int64 × Int32) := by
          first
          | (have k : ¬ e0 = 0 := c_75
             refine Prod.ext ?_ p70.symm
             show (rJ M 80 (64 * w + c)) = v0
             rw [hte0 (by rw [← p70]; exact k), hv0 k])
          | (have k : v0 = (rJ M 80 (64 * w + c)) := (lg_cmp_eq _ _).mp c_97
             exact Prod.ext k.symm p70.symm)
        refine ih (w + 1) _ (by omega) hk2 hT hrr (fun w' hw' => ?_)
        by_cases e : w' = w
        · subst e
          rw [hn]
          exact hA
        · exact h2 w' (by omega)
    · have p27 : ¬ b = 0 := c_27
      obtain ⟨-, hst, ho⟩ := hb.resolve_right (fun q => p27 q.1)
      refine a_aload_n dX10_isAlike_30 rfl ?_
      refine a_iload_n dX10_isAlike_31 rfl ?_
      refine a_iload_n dX10_isAlike_32 rfl ?_
      refine a_iload dX10_isAlike_33 rfl ?_
      refine a_iload_n dX10_isAlike_35 rfl ?_
      refine a_callV (mc1 := 0) (ms1 := 0) (As := [_, _, _, _]) kpX10_works kmX10_298 (by decide) rfl (Nat.le_of_ble_eq_true rfl) rfl (by decide) rfl (by decide) (hlt hN (by decide)) (Nat.le_of_ble_eq_true rfl) (Nat.le_of_ble_eq_true rfl) (Nat.le_of_ble_eq_true rfl) dX10_isAlike_36 (w_X10_worksM (M := M') (T := T) (r := r) hi hc (by omega) hT4 ((hk.k0.ga hg).at hi) hT hrr (by rw [hk.k0.nd]; exact ho) hN (by exact hs') (fun V s hsol => ?_))
      have hsol := hsol
      rw [hk.k0.nd, hk.k0.st (Or.inr hk.j80)] at hsol
      obtain ⟨v0, hv0e⟩ : ∃ v0 : Int64, v0 = V.1 c := ⟨_, rfl⟩
      obtain ⟨e0, he0e⟩ : ∃ e0 : Int32, e0 = V.2 c := ⟨_, rfl⟩
      have hA : Ans (ndR M i c rt) (stR M i c rt w) c (v0, e0) := by rw [hv0e, he0e]; exact (Or.inl ⟨hst, hsol⟩)
      have hv0 : ¬ e0 = 0 → v0 = 0 := fun q => AnE hc hA q
      have hk2 := (hk.trans (Kp.wk (V := V) (s := s)))
      refine a_iload dX10_isAlike_39 rfl ?_
      refine a_if_eq (tgt := 53) dX10_isAlike_41 (by decide) (fun c_41 => absurd c_41 p27) (fun c_41 => ?_)
      refine a_aload_n dX10_isAlike_44 rfl ?_
      refine a_getA (z := 92) kfX10_98 rfl rfl (st_64_44 hs') (by decide) (hlt hN (by decide)) dX10_isAlike_45 ?_
      refine a_iload_n dX10_isAlike_48 rfl ?_
      refine a_iald rfl (by decide) (hlt hN (by decide)) (show vp_in _ 64 from j64_in hc) dX10_isAlike_49 ?_
      rw [j64_c hc, we_e, ← he0e]
      refine a_goto (tgt := 54) dX10_isAlike_50 (by decide) ?_
      refine a_istore dX10_isAlike_54 (by decide) ?_
      try rw [← he0e]
      refine a_iload dX10_isAlike_56 rfl ?_
      refine a_aload_n dX10_isAlike_58 rfl ?_
      refine a_getA (z := 81) kfX10_61 rfl rfl (st_64_20 hs') (by decide) (hlt hN (by decide)) dX10_isAlike_59 ?_
      refine a_bipush (v := 64) dX10_isAlike_62 (by decide) ?_
      refine a_iload dX10_isAlike_64 rfl ?_
      refine a_imul dX10_isAlike_66 ?_
      refine a_iload_n dX10_isAlike_67 rfl ?_
      refine a_iadd dX10_isAlike_68 ?_
      rw [show (64 : Int32) * nI w + nI c = nI (64 * w + c) from i64]
      refine a_iald rfl (by decide) (hlt hN (by decide)) (show vp_in _ 384 from vp_in_nI (by omega) (by decide)) dX10_isAlike_69 ?_
      first | rw [nI_clamp (by omega), e81] | rw [nI_clamp (by omega), show rI (we M' V s) 81 (64 * w + c) = rI M 81 (64 * w + c) from e81]
      refine a_icmp_ne (tgt := 100) dX10_isAlike_70 (by decide) (fun c_70 => ?_) (fun c_70 => ?_)
      · have p70 : ¬ e0 = (rI M 81 (64 * w + c)) := c_70
        refine a_iconst (v := 0) dX10_isAlike_100 (by decide) ?_
        refine a_zret dX10_isAlike_101 rfl (by decide) (h _ 0 hk2 (Or.inr ⟨rfl, fun al => p70 (congrArg Prod.snd (Ans_uniq cg hc hA (al w hwW)))⟩))
      · have p70 : e0 = (rI M 81 (64 * w + c)) := c_70
        refine a_iload dX10_isAlike_73 rfl ?_
        refine a_if_ne (tgt := 102) dX10_isAlike_75 (by decide) (fun c_75 => ?_) (fun c_75 => ?_)
        · refine a_iinc dX10_isAlike_102 rfl rfl (by decide) ?_
          refine a_goto (tgt := 16) dX10_isAlike_105 (by decide) ?_
          rw [show nI w + Int32.ofInt 1 = nI (w + 1) from nI_1 w]
          refine AW.sub (L' := [(0, .ref 64), (1, .int (nI i)), (2, .int (nI c)), (3, .int rt), (4, .int b), (5, .int (nI (w + 1)))]) rfl ?_
          have hn : ((rJ M 80 (64 * w + c)), (rI M 81 (64 * w + c))) = ((v0, e0) : Int64 × Int32) := by
            first
            | (have k : ¬ e0 = 0 := c_75
               refine Prod.ext ?_ p70.symm
               show (rJ M 80 (64 * w + c)) = v0
               rw [hte0 (by rw [← p70]; exact k), hv0 k])
            | (have k : v0 = (rJ M 80 (64 * w + c)) := (lg_cmp_eq _ _).mp c_97
               exact Prod.ext k.symm p70.symm)
          refine ih (w + 1) _ (by omega) hk2 hT hrr (fun w' hw' => ?_)
          by_cases e : w' = w
          · subst e
            rw [hn]
            exact hA
          · exact h2 w' (by omega)
        · refine a_aload_n dX10_isAlike_78 rfl ?_
          refine a_getA (z := 91) kfX10_95 rfl rfl (st_64_43 hs') (by decide) (hlt hN (by decide)) dX10_isAlike_79 ?_
          refine a_iload_n dX10_isAlike_82 rfl ?_
          refine a_lald rfl (by decide) (hlt hN (by decide)) (show vp_in _ 64 from j64_in hc) dX10_isAlike_83 ?_
          rw [j64_c hc, we_v, ← hv0e]
          refine a_aload_n dX10_isAlike_84 rfl ?_
          refine a_getA (z := 80) kfX10_58 rfl rfl (st_64_19 hs') (by decide) (hlt hN (by decide)) dX10_isAlike_85 ?_
          refine a_bipush (v := 64) dX10_isAlike_88 (by decide) ?_
          refine a_iload dX10_isAlike_90 rfl ?_
          refine a_imul dX10_isAlike_92 ?_
          refine a_iload_n dX10_isAlike_93 rfl ?_
          refine a_iadd dX10_isAlike_94 ?_
          rw [show (64 : Int32) * nI w + nI c = nI (64 * w + c) from i64]
          refine a_lald rfl (by decide) (hlt hN (by decide)) (show vp_in _ 384 from vp_in_nI (by omega) (by decide)) dX10_isAlike_95 ?_
          rw [nI_clamp (by omega), show rJ (we M' V s) 80 (64 * w + c) = rJ M 80 (64 * w + c) from e80]
          refine a_lcmp dX10_isAlike_96 ?_
          refine a_if_eq (tgt := 102) dX10_isAlike_97 (by decide) (fun c_97 => ?_) (fun c_97 => ?_)
          · refine a_iinc dX10_isAlike_102 rfl rfl (by decide) ?_
            refine a_goto (tgt := 16) dX10_isAlike_105 (by decide) ?_
            rw [show nI w + Int32.ofInt 1 = nI (w + 1) from nI_1 w]
            refine AW.sub (L' := [(0, .ref 64), (1, .int (nI i)), (2, .int (nI c)), (3, .int rt), (4, .int b), (5, .int (nI (w + 1)))]) rfl ?_
            have hn : ((rJ M 80 (64 * w + c)), (rI M 81 (64 * w + c))) = ((v0, e0) : Int64 × Int32) := by
              first
              | (have k : ¬ e0 = 0 := c_75
                 refine Prod.ext ?_ p70.symm
                 show (rJ M 80 (64 * w + c)) = v0
                 rw [hte0 (by rw [← p70]; exact k), hv0 k])
              | (have k : v0 = (rJ M 80 (64 * w + c)) := (lg_cmp_eq _ _).mp c_97
                 exact Prod.ext k.symm p70.symm)
            refine ih (w + 1) _ (by omega) hk2 hT hrr (fun w' hw' => ?_)
            by_cases e : w' = w
            · subst e
              rw [hn]
              exact hA
            · exact h2 w' (by omega)
          · refine a_iconst (v := 0) dX10_isAlike_100 (by decide) ?_
            refine a_zret dX10_isAlike_101 rfl (by decide) (h _ 0 hk2 (Or.inr ⟨rfl, fun al => c_97 ((lg_cmp_eq _ _).mpr (congrArg Prod.fst (Ans_uniq cg hc hA (al w hwW))))⟩))
theorem l_X10_isAlike4 {M : Mem} {N : Nat} {Q : Option Value → Nat → Mem → Prop} {i c W : Nat} {rt : Int32} (hi : i < 6) (hc : c < 64) (hW6 : W ≤ 6) (hg : GA M) (hW : rI M 64 17 = nI W) (htk : TaskOK M W) (hwn : 0 < (rI M 78 c).toInt)  (hN : 94 ≤ N) (hs : Str M.2.2.1) (h : ∀ M'' b, Kp M M'' → (b = 1 ∧ AlP M i c rt W ∨ b = 0 ∧ ¬ AlP M i c rt W) → Q (some (.int b)) N M'')  : AW mX10_isAlike 8 0 0 N 4 [(0, .ref 64), (1, .int (nI i)), (2, .int (nI c)), (3, .int rt)] [] M Q := by
  refine a_aload_n dX10_isAlike_4 rfl ?_
  refine a_iload_n dX10_isAlike_5 rfl ?_
  refine a_iload_n dX10_isAlike_6 rfl ?_
  refine a_iload_n dX10_isAlike_7 rfl ?_
  refine a_callV (mc1 := 0) (ms1 := 0) (As := [_, _, _]) kpX10_orders kmX10_295 (by decide) rfl (Nat.le_of_ble_eq_true rfl) rfl (by decide) rfl (by decide) (hlt hN (by decide)) (Nat.le_of_ble_eq_true rfl) (Nat.le_of_ble_eq_true rfl) (Nat.le_of_ble_eq_true rfl) dX10_isAlike_8 (w_X10_orders hi hc (hg.wf hi) hN (by exact hs) (fun b T r nr hT4 hb => ?_))
  refine a_istore dX10_isAlike_11 (by decide) ?_
  refine a_iconst (v := 0) dX10_isAlike_13 (by decide) ?_
  refine a_istore dX10_isAlike_14 (by decide) ?_
  exact AW.sub (L' := [(0, .ref 64), (1, .int (nI i)), (2, .int (nI c)), (3, .int rt), (4, .int b), (5, .int (nI 0))]) rfl (l_X10_isAlike hi hc hW6 hg hW htk hwn hT4 hb hN hs h W 0 _ (by omega) Kp.ord wo_T (fun t _ => wo_r) (fun w hw => absurd hw (Nat.not_lt_zero _)))

theorem w_X10_isAlike {M : Mem} {N : Nat} {Q : Option Value → Nat → Mem → Prop} {i c W : Nat} {rt : Int32} (hi : i < 6) (hc : c < 64) (hW6 : W ≤ 6) (hg : GA M) (hW : rI M 64 17 = nI W) (hfr : FrI M W) (hwn : 0 < (rI M 78 c).toInt)  (hN : 94 ≤ N) (hs : Str M.2.2.1) (h : ∀ M' M'' b, KT M M' → ¬ rI M' 64 21 = 0 → TaskOK M' W → Kp M' M'' → (b = 1 ∧ AlP M' i c rt W ∨ b = 0 ∧ ¬ AlP M' i c rt W) → Q (some (.int b)) N M'')  : AW mX10_isAlike 8 0 0 N 0 [(0, .ref 64), (1, .int (nI i)), (2, .int (nI c)), (3, .int rt)] [] M Q := by
  refine a_aload_n dX10_isAlike_0 rfl ?_
  refine a_callV (mc1 := 0) (ms1 := 0) (As := []) kpX10_tasks kmX10_292 (by decide) rfl (Nat.le_of_ble_eq_true rfl) rfl (by decide) rfl (by decide) (hlt hN (by decide)) (Nat.le_of_ble_eq_true rfl) (Nat.le_of_ble_eq_true rfl) (Nat.le_of_ble_eq_true rfl) dX10_isAlike_1 (w_X10_tasks hg hW6 hW hfr hN hs (fun M' hk hf ht => ?_))
  have hs' : Str M'.2.2.1 := by rw [hk.1]; exact hs
  exact l_X10_isAlike4 hi hc hW6 (hk.k0.ga hg) (by rw [hk.2.1 64 17 (by omega) (by omega) (by omega) (by omega)]; exact hW) ht (by rw [hk.2.1 78 c (by omega) (by omega) (by omega) (by omega)]; exact hwn) hN hs' (fun M'' b hp ha => h M' M'' b hk hf ht hp ha)

theorem w_X10_tasks_f {M : Mem} {N : Nat} {Q : Option Value → Nat → Mem → Prop} (hf : ¬ rI M 64 21 = 0)  (hN : 94 ≤ N) (hs : Str M.2.2.1) (h : Q (none) N (M)) : AW mX10_tasks 0 0 0 N 0 [(0, .ref 64)] [] M Q := by
  refine a_aload_n dX10_tasks_0 rfl ?_
  refine a_getZ kfX10_122 rfl rfl (by decide) (hlt hN (by decide)) dX10_tasks_1 ?_
  refine a_if_eq (tgt := 8) dX10_tasks_4 (by decide) (fun c_4 => absurd c_4 hf) (fun c_4 => ?_)
  refine a_vret dX10_tasks_7 rfl h

theorem w_X10_isAlike_f {M : Mem} {N : Nat} {Q : Option Value → Nat → Mem → Prop} {i c W : Nat} {rt : Int32} (hi : i < 6) (hc : c < 64) (hW6 : W ≤ 6) (hg : GA M) (hW : rI M 64 17 = nI W) (htk : TaskOK M W) (hwn : 0 < (rI M 78 c).toInt) (hf : ¬ rI M 64 21 = 0)  (hN : 94 ≤ N) (hs : Str M.2.2.1) (h : ∀ M'' b, Kp M M'' → (b = 1 ∧ AlP M i c rt W ∨ b = 0 ∧ ¬ AlP M i c rt W) → Q (some (.int b)) N M'')  : AW mX10_isAlike 8 0 0 N 0 [(0, .ref 64), (1, .int (nI i)), (2, .int (nI c)), (3, .int rt)] [] M Q := by
  refine a_aload_n dX10_isAlike_0 rfl ?_
  refine a_callV (mc1 := 0) (ms1 := 0) (As := []) kpX10_tasks kmX10_292 (by decide) rfl (Nat.le_of_ble_eq_true rfl) rfl (by decide) rfl (by decide) (hlt hN (by decide)) (Nat.le_of_ble_eq_true rfl) (Nat.le_of_ble_eq_true rfl) (Nat.le_of_ble_eq_true rfl) dX10_isAlike_1 (w_X10_tasks_f hf hN hs ?_)
  exact l_X10_isAlike4 hi hc hW6 hg hW htk hwn hN hs h

