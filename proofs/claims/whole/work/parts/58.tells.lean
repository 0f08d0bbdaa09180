theorem l_X10_tells {M : Mem} {N : Nat} {Q : Option Value → Nat → Mem → Prop} {i c w : Nat} {rt : Int32} (hi : i < 6) (hc : c < 64) (hw6 : w < 6) (hg : GA M) (hN : 94 ≤ N) (hs : Str M.2.2.1) (h : ∀ M', Kp M M' → Ans (ndR M i c rt) (stR M i c rt w) c (rJ M' 64 48, rI M' 64 49) → Q none N M') : AW mX10_tells 7 0 0 N 9 [(0, .ref 64), (1, .int (nI i)), (2, .int (nI c)), (3, .int (nI w)), (4, .int rt)] [] M Q := by
  refine a_aload_n dX10_tells_9 rfl ?_
  refine a_iload_n dX10_tells_10 rfl ?_
  refine a_iload_n dX10_tells_11 rfl ?_
  refine a_iload dX10_tells_12 rfl ?_
  refine a_callV (mc1 := 0) (ms1 := 0) (As := [_, _, _]) kpX10_orders kmX10_295 (by decide) rfl (Nat.le_of_ble_eq_true rfl) rfl (by decide) rfl (by decide) (hlt hN (by decide)) (Nat.le_of_ble_eq_true rfl) (Nat.le_of_ble_eq_true rfl) (Nat.le_of_ble_eq_true rfl) dX10_tells_14 (w_X10_orders hi hc (hg.wf hi) hN (by exact hs) (fun b T r nr hT4 hb => ?_))
  refine a_istore dX10_tells_17 (by decide) ?_
  refine a_iload dX10_tells_19 rfl ?_
  refine a_if_eq (tgt := 33) dX10_tells_21 (by decide) (fun c_21 => ?_) (fun c_21 => ?_)
  · have p21 : b = 0 := c_21
    have hno : ¬ StP (ndR M i c rt) c := hb.elim (fun q => absurd (q.1.symm.trans p21) (by decide)) (fun q => q.2)
    refine a_aload_n dX10_tells_33 rfl ?_
    refine a_iload dX10_tells_34 rfl ?_
    refine a_if_eq (tgt := 48) dX10_tells_36 (by decide) (fun c_36 => ?_) (fun c_36 => absurd p21 c_36)
    refine a_iconst (v := 1) dX10_tells_48 (by decide) ?_
    refine a_putI kfX10_302 rfl rfl rfl (by decide) (hlt hN (by decide)) dX10_tells_49 ?_
    refine a_aload_n dX10_tells_52 rfl ?_
    refine a_iload dX10_tells_53 rfl ?_
    refine a_if_eq (tgt := 67) dX10_tells_55 (by decide) (fun c_55 => ?_) (fun c_55 => absurd p21 c_55)
    refine a_lconst (v := 0) dX10_tells_67 (by decide) ?_
    refine a_putJ kfX10_305 rfl rfl rfl (by decide) (hlt hN (by decide)) dX10_tells_68 ?_
    refine a_vret dX10_tells_71 rfl (h _ ((Kp.ord.trans Kp.ce).trans Kp.cv) (Or.inr ⟨hno, rfl⟩))
  · have p21 : ¬ b = 0 := c_21
    obtain ⟨-, hst, ho⟩ := hb.resolve_right (fun q => p21 q.1)
    refine a_aload_n dX10_tells_24 rfl ?_
    refine a_iload_n dX10_tells_25 rfl ?_
    refine a_iload_n dX10_tells_26 rfl ?_
    refine a_iload_n dX10_tells_27 rfl ?_
    refine a_iload dX10_tells_28 rfl ?_
    refine a_callV (mc1 := 0) (ms1 := 0) (As := [_, _, _, _]) kpX10_works kmX10_298 (by decide) rfl (Nat.le_of_ble_eq_true rfl) rfl (by decide) rfl (by decide) (hlt hN (by decide)) (Nat.le_of_ble_eq_true rfl) (Nat.le_of_ble_eq_true rfl) (Nat.le_of_ble_eq_true rfl) dX10_tells_30 (w_X10_worksM (T := T) (r := r) hi hc hw6 hT4 ((Kp.ord.k0.ga hg).at hi) wo_T (fun t _ => wo_r) (by rw [Kp.ord.k0.nd]; exact ho) hN (by exact hs) (fun V s hsol => ?_))
    have hsol := hsol
    rw [Kp.ord.k0.nd, Kp.ord.k0.st (Or.inr Kp.ord.j80)] at hsol
    refine a_aload_n dX10_tells_33 rfl ?_
    refine a_iload dX10_tells_34 rfl ?_
    refine a_if_eq (tgt := 48) dX10_tells_36 (by decide) (fun c_36 => absurd c_36 p21) (fun c_36 => ?_)
    refine a_aload_n dX10_tells_39 rfl ?_
    refine a_getA (z := 92) kfX10_98 rfl rfl (st_64_44 hs) (by decide) (hlt hN (by decide)) dX10_tells_40 ?_
    refine a_iload_n dX10_tells_43 rfl ?_
    refine a_iald rfl (by decide) (hlt hN (by decide)) (show vp_in _ 64 from j64_in hc) dX10_tells_44 ?_
    rw [j64_c hc, we_e]
    refine a_goto (tgt := 49) dX10_tells_45 (by decide) ?_
    refine a_putI kfX10_302 rfl rfl rfl (by decide) (hlt hN (by decide)) dX10_tells_49 ?_
    refine a_aload_n dX10_tells_52 rfl ?_
    refine a_iload dX10_tells_53 rfl ?_
    refine a_if_eq (tgt := 67) dX10_tells_55 (by decide) (fun c_55 => absurd c_55 p21) (fun c_55 => ?_)
    refine a_aload_n dX10_tells_58 rfl ?_
    refine a_getA (z := 91) kfX10_95 rfl rfl (st_64_43 hs) (by decide) (hlt hN (by decide)) dX10_tells_59 ?_
    refine a_iload_n dX10_tells_62 rfl ?_
    refine a_lald rfl (by decide) (hlt hN (by decide)) (show vp_in _ 64 from j64_in hc) dX10_tells_63 ?_
    rw [j64_c hc, show rJ (sI (we (wo (wn M nr) T r) V s) 64 49 (V.2 c)) 91 c = V.1 c from rfl]
    refine a_goto (tgt := 68) dX10_tells_64 (by decide) ?_
    refine a_putJ kfX10_305 rfl rfl rfl (by decide) (hlt hN (by decide)) dX10_tells_68 ?_
    refine a_vret dX10_tells_71 rfl (h _ (((Kp.ord.trans Kp.wk).trans Kp.ce).trans Kp.cv) (Or.inl ⟨hst, hsol⟩))
/-- the task's figures are laid for W worlds -/
def AnT (M M' : Mem) (c w : Nat) : Prop := Ans (ndR M 0 c 0) (stR M 0 c 0 w) c (rJ M' 80 (64 * w + c), rI M' 81 (64 * w + c))
def TaskOK (M : Mem) (W : Nat) : Prop := ∀ c, c < 64 → 0 < (rI M 78 c).toInt → ∀ w, w < W → AnT M M c w
def FrI (M : Mem) (W : Nat) : Prop := ¬ rI M 64 21 = 0 → TaskOK M W
theorem AnT.to {M M' : Mem} {c w : Nat} (h : KT M M') (a : AnT M M' c w) : AnT M' M' c w := by
  unfold AnT at a ⊢
  rw [h.k0.nd, h.k0.st (Or.inl rfl)]
  exact a
theorem AnT.kp {M M' M'' : Mem} {c w : Nat} (h : Kp M' M'') (a : AnT M M' c w) : AnT M M'' c w := by
  unfold AnT at a ⊢
  rw [h.j80.1, h.j80.2]
  exact a
theorem KT.st {M : Mem} {k : Nat} {v : Int64} {e : Int32} : KT M (sJ (sI M 81 k e) 80 k v) := ⟨rfl, fun a j p _ _ _ => by rw [rI_sJ, rI_sI, if_neg (fun z => p z.1)], fun a j p _ _ _ _ => by rw [rJ_sJ, if_neg (fun z => p z.1)]; rfl⟩
theorem KT.fr {M : Mem} : KT M (sI M 64 21 1) := ⟨rfl, fun a j _ _ _ p => by rw [rI_sI, if_neg (by omega)], fun _ _ _ _ _ _ _ => rfl⟩
theorem AnT.off {M M' : Mem} {c w c' w' : Nat} {v : Int64} {e : Int32} (hn : ¬ 64 * w + c = 64 * w' + c') (a : AnT M M' c w) : AnT M (sJ (sI M' 81 (64 * w' + c') e) 80 (64 * w' + c') v) c w := by
  unfold AnT at a ⊢
  rw [rJ_sJ, if_neg (fun z => hn z.2), rI_sJ, rI_sI, if_neg (fun z => hn z.2)]
  exact a
theorem AnT.on {M M' : Mem} {c w : Nat} {v : Int64} {e : Int32} (a : Ans (ndR M 0 c 0) (stR M 0 c 0 w) c (v, e)) : AnT M (sJ (sI M' 81 (64 * w + c) e) 80 (64 * w + c) v) c w := by
  unfold AnT
  rw [rJ_sJ, if_pos ⟨rfl, rfl⟩, rI_sJ, rI_sI, if_pos ⟨rfl, rfl⟩]
  exact a
theorem l_X10_tasksW {M : Mem} {N : Nat} {Q : Option Value → Nat → Mem → Prop} {c W T : Nat} {r : Nat → Int32} {b : Int32} (hc : c < 64) (hg : GA M) (hW6 : W ≤ 6) (hT4 : T ≤ 64) (hW : rI M 64 17 = nI W) (hb : b = 1 ∧ StP (ndR M 0 c 0) c ∧ OrdOK (ndR M 0 c 0) c T r ∨ b = 0 ∧ ¬ StP (ndR M 0 c 0) c) (hN : 94 ≤ N) (hs : Str M.2.2.1) (h : ∀ M', KT M M' → rI M' 64 21 = 1 → (∀ c', c' < c → 0 < (rI M 78 c').toInt → ∀ w', w' < W → AnT M M' c' w') → (∀ w', w' < W → AnT M M' c w') → AW mX10_tasks 6 0 0 N 118 [(0, .ref 64), (1, .int (nI c))] [] M' Q) : ∀ (r' w : Nat) (M' : Mem), w + r' = W → KT M M' → rI M' 64 21 = 1 → rI M' 64 40 = nI T → (∀ t, t < T → rI M' 89 t = r t) → (∀ c', c' < c → 0 < (rI M 78 c').toInt → ∀ w', w' < W → AnT M M' c' w') → (∀ w', w' < w → AnT M M' c w') → AW mX10_tasks 6 0 0 N 42 [(0, .ref 64), (1, .int (nI c)), (2, .int b), (3, .int (nI w))] [] M' Q := by
  intro r'
  induction r' with
  | zero =>
    intro w M' hkk hk hf hT hrr h1 h2
    obtain rfl : w = W := by omega
    have hs' : Str M'.2.2.1 := by rw [hk.1]; exact hs
    refine a_iload_n dX10_tasks_42 rfl ?_
    refine a_aload_n dX10_tasks_43 rfl ?_
    refine a_getI kfX10_210 rfl rfl (by decide) (hlt hN (by decide)) dX10_tasks_44 ?_
    rw [hk.2.1 64 17 (by omega) (by omega) (by omega) (by omega), hW]
    refine a_icmp_ge (tgt := 118) dX10_tasks_47 (by decide) (fun c_47 => ?_) (fun c_47 => absurd (nI_le (by omega) (by omega)) c_47)
    exact AW.sub (L' := [(0, .ref 64), (1, .int (nI c))]) rfl (h M' hk hf h1 h2)
  | succ r' ih =>
    intro w M' hkk hk hf hT hrr h1 h2
    have hs' : Str M'.2.2.1 := by rw [hk.1]; exact hs
    refine a_iload_n dX10_tasks_42 rfl ?_
    refine a_aload_n dX10_tasks_43 rfl ?_
    refine a_getI kfX10_210 rfl rfl (by decide) (hlt hN (by decide)) dX10_tasks_44 ?_
    rw [hk.2.1 64 17 (by omega) (by omega) (by omega) (by omega), hW]
    refine a_icmp_ge (tgt := 118) dX10_tasks_47 (by decide) (fun c_47 => absurd c_47 (nI_ge (by omega) (by omega))) (fun c_47 => ?_)
    refine a_iload_n dX10_tasks_50 rfl ?_
    refine a_if_eq (tgt := 62) dX10_tasks_51 (by decide) (fun c_51 => ?_) (fun c_51 => ?_)
    · have p51 : b = 0 := c_51
      have hno : ¬ StP (ndR M 0 c 0) c := hb.elim (fun q => absurd (q.1.symm.trans p51) (by decide)) (fun q => q.2)
      refine a_aload_n dX10_tasks_62 rfl ?_
      refine a_getA (z := 81) kfX10_61 rfl rfl (st_64_20 hs') (by decide) (hlt hN (by decide)) dX10_tasks_63 ?_
      refine a_bipush (v := 64) dX10_tasks_66 (by decide) ?_
      refine a_iload_n dX10_tasks_68 rfl ?_
      refine a_imul dX10_tasks_69 ?_
      refine a_iload_n dX10_tasks_70 rfl ?_
      refine a_iadd dX10_tasks_71 ?_
      rw [show (64 : Int32) * nI w + nI c = nI (64 * w + c) from i64]
      refine a_iload_n dX10_tasks_72 rfl ?_
      refine a_if_eq (tgt := 85) dX10_tasks_73 (by decide) (fun c_73 => ?_) (fun c_73 => absurd p51 c_73)
      refine a_iconst (v := 1) dX10_tasks_85 (by decide) ?_
      refine a_iast rfl (by decide) (hlt hN (by decide)) (show vp_in _ 384 from vp_in_nI (by omega) (by decide)) dX10_tasks_86 ?_
      rw [nI_clamp (by omega)]
      refine a_aload_n dX10_tasks_87 rfl ?_
      refine a_getA (z := 80) kfX10_58 rfl rfl (st_64_19 hs') (by decide) (hlt hN (by decide)) dX10_tasks_88 ?_
      refine a_bipush (v := 64) dX10_tasks_91 (by decide) ?_
      refine a_iload_n dX10_tasks_93 rfl ?_
      refine a_imul dX10_tasks_94 ?_
      refine a_iload_n dX10_tasks_95 rfl ?_
      refine a_iadd dX10_tasks_96 ?_
      rw [show (64 : Int32) * nI w + nI c = nI (64 * w + c) from i64]
      refine a_iload_n dX10_tasks_97 rfl ?_
      refine a_if_eq (tgt := 110) dX10_tasks_98 (by decide) (fun c_98 => ?_) (fun c_98 => absurd p51 c_98)
      refine a_lconst (v := 0) dX10_tasks_110 (by decide) ?_
      refine a_last rfl (by decide) (hlt hN (by decide)) (show vp_in _ 384 from vp_in_nI (by omega) (by decide)) dX10_tasks_111 ?_
      rw [nI_clamp (by omega)]
      refine a_iinc dX10_tasks_112 rfl rfl (by decide) ?_
      refine a_goto (tgt := 42) dX10_tasks_115 (by decide) ?_
      rw [show nI w + Int32.ofInt 1 = nI (w + 1) from nI_1 w]
      refine AW.sub (L' := [(0, .ref 64), (1, .int (nI c)), (2, .int b), (3, .int (nI (w + 1)))]) rfl ?_
      first
      | (have p : b = 0 := p51
         refine ih (w + 1) _ (by omega) (hk.trans KT.st) hf hT hrr (fun c' hc' q w' hw' => (h1 c' hc' q w' hw').off (by omega)) (fun w' hw' => ?_)
         by_cases e : w' = w
         · subst e
           exact AnT.on (Or.inr ⟨hno, rfl⟩)
         · exact (h2 w' (by omega)).off (by omega))
      | (have p : ¬ b = 0 := p51
         refine ih (w + 1) _ (by omega) ((hk.trans Kp.wk.kt).trans KT.st) hf hT hrr (fun c' hc' q w' hw' => ((h1 c' hc' q w' hw').kp Kp.wk).off (by omega)) (fun w' hw' => ?_)
         by_cases e : w' = w
         · subst e
           exact AnT.on (Or.inl ⟨hst, hsol⟩)
         · exact ((h2 w' (by omega)).kp Kp.wk).off (by omega))
    · have p51 : ¬ b = 0 := c_51
      obtain ⟨-, hst, ho⟩ := hb.resolve_right (fun q => p51 q.1)
      refine a_aload_n dX10_tasks_54 rfl ?_
      refine a_iconst (v := 0) dX10_tasks_55 (by decide) ?_
      refine a_iload_n dX10_tasks_56 rfl ?_
      refine a_iload_n dX10_tasks_57 rfl ?_
      refine a_iconst (v := 0) dX10_tasks_58 (by decide) ?_
      refine a_callV (mc1 := 0) (ms1 := 0) (As := [_, _, _, _]) kpX10_works kmX10_298 (by decide) rfl (Nat.le_of_ble_eq_true rfl) rfl (by decide) rfl (by decide) (hlt hN (by decide)) (Nat.le_of_ble_eq_true rfl) (Nat.le_of_ble_eq_true rfl) (Nat.le_of_ble_eq_true rfl) dX10_tasks_59 (w_X10_worksM (M := M') (i := 0) (T := T) (r := r) (by decide) hc (by omega) hT4 ((hk.k0.ga hg).at (by decide)) hT hrr (by rw [hk.k0.nd]; exact ho) hN (by exact hs') (fun V s hsol => ?_))
      have hsol := hsol
      rw [hk.k0.nd, hk.k0.st (Or.inl rfl)] at hsol
      refine a_aload_n dX10_tasks_62 rfl ?_
      refine a_getA (z := 81) kfX10_61 rfl rfl (st_64_20 hs') (by decide) (hlt hN (by decide)) dX10_tasks_63 ?_
      refine a_bipush (v := 64) dX10_tasks_66 (by decide) ?_
      refine a_iload_n dX10_tasks_68 rfl ?_
      refine a_imul dX10_tasks_69 ?_
      refine a_iload_n dX10_tasks_70 rfl ?_
      refine a_iadd dX10_tasks_71 ?_
      rw [show (64 : Int32) * nI w + nI c = nI (64 * w + c) from i64]
      refine a_iload_n dX10_tasks_72 rfl ?_
      refine a_if_eq (tgt := 85) dX10_tasks_73 (by decide) (fun c_73 => absurd c_73 p51) (fun c_73 => ?_)
      refine a_aload_n dX10_tasks_76 rfl ?_
      refine a_getA (z := 92) kfX10_98 rfl rfl (st_64_44 hs') (by decide) (hlt hN (by decide)) dX10_tasks_77 ?_
      refine a_iload_n dX10_tasks_80 rfl ?_
      refine a_iald rfl (by decide) (hlt hN (by decide)) (show vp_in _ 64 from j64_in hc) dX10_tasks_81 ?_
      rw [j64_c hc, we_e]
      refine a_goto (tgt := 86) dX10_tasks_82 (by decide) ?_
      refine a_iast rfl (by decide) (hlt hN (by decide)) (show vp_in _ 384 from vp_in_nI (by omega) (by decide)) dX10_tasks_86 ?_
      rw [nI_clamp (by omega)]
      refine a_aload_n dX10_tasks_87 rfl ?_
      refine a_getA (z := 80) kfX10_58 rfl rfl (st_64_19 hs') (by decide) (hlt hN (by decide)) dX10_tasks_88 ?_
      refine a_bipush (v := 64) dX10_tasks_91 (by decide) ?_
      refine a_iload_n dX10_tasks_93 rfl ?_
      refine a_imul dX10_tasks_94 ?_
      refine a_iload_n dX10_tasks_95 rfl ?_
      refine a_iadd dX10_tasks_96 ?_
      rw [show (64 : Int32) * nI w + nI c = nI (64 * w + c) from i64]
      refine a_iload_n dX10_tasks_97 rfl ?_
      refine a_if_eq (tgt := 110) dX10_tasks_98 (by decide) (fun c_98 => absurd c_98 p51) (fun c_98 => ?_)
      refine a_aload_n dX10_tasks_101 rfl ?_
      refine a_getA (z := 91) kfX10_95 rfl rfl (st_64_43 hs') (by decide) (hlt hN (by decide)) dX10_tasks_102 ?_
      refine a_iload_n dX10_tasks_105 rfl ?_
      refine a_lald rfl (by decide) (hlt hN (by decide)) (show vp_in _ 64 from j64_in hc) dX10_tasks_106 ?_
      rw [j64_c hc, show rJ (sI (we M' V s) 81 (64 * w + c) (V.2 c)) 91 c = V.1 c from rfl]
      refine a_goto (tgt := 111) dX10_tasks_107 (by decide) ?_
      refine a_last rfl (by decide) (hlt hN (by decide)) (show vp_in _ 384 from vp_in_nI (by omega) (by decide)) dX10_tasks_111 ?_
      rw [nI_clamp (by omega)]
      refine a_iinc dX10_tasks_112 rfl rfl (by decide) ?_
      refine a_goto (tgt := 42) dX10_tasks_115 (by decide) ?_
      rw [show nI w + Int32.ofInt 1 = nI (w + 1) from nI_1 w]
      refine AW.sub (L' := [(0, .ref 64), (1, .int (nI c)), (2, .int b), (3, .int (nI (w + 1)))]) rfl ?_
      first
      | (have p : b = 0 := p51
         refine ih (w + 1) _ (by omega) (hk.trans KT.st) hf hT hrr (fun c' hc' q w' hw' => (h1 c' hc' q w' hw').off (by omega)) (fun w' hw' => ?_)
         by_cases e : w' = w
         · subst e
           exact AnT.on (Or.inr ⟨hno, rfl⟩)
         · exact (h2 w' (by omega)).off (by omega))
      | (have p : ¬ b = 0 := p51
         refine ih (w + 1) _ (by omega) ((hk.trans Kp.wk.kt).trans KT.st) hf hT hrr (fun c' hc' q w' hw' => ((h1 c' hc' q w' hw').kp Kp.wk).off (by omega)) (fun w' hw' => ?_)
         by_cases e : w' = w
         · subst e
           exact AnT.on (Or.inl ⟨hst, hsol⟩)
         · exact ((h2 w' (by omega)).kp Kp.wk).off (by omega))
