theorem stR_1 {M : Mem} {i c : Nat} {rt : Int32} {w x : Nat} {V : FS} (h : ¬ rI M 77 x = 0) : stR M i c rt w V x = ((rI M 79 (64 * w + x)).toInt64, 0) := if_pos h
theorem stR_2 {M : Mem} {i c : Nat} {rt : Int32} {w x : Nat} {V : FS} (h : rI M 77 x = 0) (t : tdP M x c rt) : stR M i c rt w V x = (rJ M 80 (64 * w + x), rI M 81 (64 * w + x)) := (if_neg (fun z => z h)).trans (if_pos t)
theorem stR_3 {M : Mem} {i c : Nat} {rt : Int32} {w x : Nat} {V : FS} (h : rI M 77 x = 0) (t : ¬ tdP M x c rt) (k : rI M 66 (64 * i + x) = 1) : stR M i c rt w V x = ((rI M 67 (64 * i + x)).toInt64, 0) := (if_neg (fun z => z h)).trans ((if_neg t).trans (if_pos k))
theorem stR_4 {M : Mem} {i c : Nat} {rt : Int32} {w x : Nat} {V : FS} (h : rI M 77 x = 0) (t : ¬ tdP M x c rt) (k : rI M 66 (64 * i + x) = 2) : stR M i c rt w V x = rvE M (64 * i + x) V := (if_neg (fun z => z h)).trans ((if_neg t).trans ((if_neg (by rw [k]; decide)).trans (if_pos k)))
theorem stR_5 {M : Mem} {i c : Nat} {rt : Int32} {w x : Nat} {V : FS} (h : rI M 77 x = 0) (t : ¬ tdP M x c rt) (k : ¬ rI M 66 (64 * i + x) = 1) (k2 : ¬ rI M 66 (64 * i + x) = 2) : stR M i c rt w V x = (0, 0) := (if_neg (fun z => z h)).trans ((if_neg t).trans ((if_neg k).trans (if_neg k2)))
theorem rv_base {M : Mem} {k : Nat} {V : FS} {r : Nat → Int64} (h : RFK M k) : roF (rvF V (rOp M k) (rAr M k) (rA2 M k) r (mnR M k)) = rvE M k V := rv_out h.2.2.1 h.2.2.2.1 h.2.2.2.2 (fun _ _ _ => ⟨rfl, rfl⟩)
theorem roF_0 {s : MS} (h : s.2.2 = 0) : roF s = (s.1 0, 0) := if_pos h
theorem roF_1 {s : MS} (h : ¬ s.2.2 = 0) : roF s = (0, s.2.2) := if_neg h
theorem l_X10_works {M : Mem} {N : Nat} {Q : Option Value → Nat → Mem → Prop} {i c w T : Nat} {rt : Int32} {r : Nat → Int32} (hi : i < 6) (hc : c < 64) (hw6 : w < 6) (hT4 : T ≤ 64) (hr : ∀ j, j < 64 → rI M 66 (64 * i + j) = 2 → RFK M (64 * i + j) ∧ NmK M (64 * i + j)) (hT : rI M 64 40 = nI T) (hrr : ∀ t, t < T → rI M 89 t = r t) (ho : OrdOK (ndR M i c rt) c T r) (hN : 94 ≤ N) (hs : Str M.2.2.1) (h : ∀ V s, Sol (ndR M i c rt) (stR M i c rt w) c (V.1 c, V.2 c) → Q none N (we M V s)) (cg : Cgr (ndR M i c rt) (stR M i c rt w))  : ∀ (r' t : Nat) (V : FS) (s : MS), t + r' = T → WInv (stR M i c rt w) r t V → AW mX10_works 5 0 0 N 3 [(0, .ref 64), (1, .int (nI i)), (2, .int (nI c)), (3, .int (nI w)), (4, .int rt), (5, .int (nI t))] [] (we M V s) Q := by
  intro r'
  induction r' with
  | zero =>
    intro t V s hk hinv
    obtain rfl : t = T := by omega
    refine a_iload dX10_works_3 rfl ?_
    refine a_aload_n dX10_works_5 rfl ?_
    refine a_getI kfX10_254 rfl rfl (by decide) (hlt hN (by decide)) dX10_works_6 ?_
    rw [we_I64 (by decide) (by decide), hT]
    refine a_icmp_ge (tgt := 219) dX10_works_9 (by decide) (fun c_9 => ?_) (fun c_9 => absurd (nI_le (by omega) (by omega)) c_9)
    refine a_vret dX10_works_219 rfl (h V s (wk_end ho hinv))
  | succ r' ih =>
    intro t V s hk hinv
    have htT : t < T := by omega
    obtain ⟨x, hx, er, -⟩ := ho.2.1 t htT
    obtain ⟨V0, hV0e⟩ : ∃ V0 : FS, V0 = (fun j => if j = x then (0 : Int64) else V.1 j, fun j => if j = x then (0 : Int32) else V.2 j) := ⟨_, rfl⟩
    have hV0 : ∀ y, y < 64 → ¬ y = x → V0.1 y = V.1 y ∧ V0.2 y = V.2 y := fun y _ n => by rw [hV0e]; exact ⟨if_neg n, if_neg n⟩
    have hV1 : V0.1 x = 0 ∧ V0.2 x = 0 := by rw [hV0e]; exact ⟨if_pos rfl, if_pos rfl⟩
    refine a_iload dX10_works_3 rfl ?_
    refine a_aload_n dX10_works_5 rfl ?_
    refine a_getI kfX10_254 rfl rfl (by decide) (hlt hN (by decide)) dX10_works_6 ?_
    rw [we_I64 (by decide) (by decide), hT]
    refine a_icmp_ge (tgt := 219) dX10_works_9 (by decide) (fun c_9 => absurd c_9 (nI_ge htT (by omega))) (fun c_9 => ?_)
    refine a_aload_n dX10_works_12 rfl ?_
    refine a_getA (z := 89) kfX10_89 rfl rfl (st_64_41 hs) (by decide) (hlt hN (by decide)) dX10_works_13 ?_
    refine a_iload dX10_works_16 rfl ?_
    refine a_iald rfl (by decide) (hlt hN (by decide)) (show vp_in _ 64 from j64_in (by omega)) dX10_works_18 ?_
    rw [nI_clamp (show t < 2 ^ 31 by omega), we_I (by decide) (by decide), hrr t htT, er]
    refine a_istore dX10_works_19 (by decide) ?_
    refine a_bipush (v := 64) dX10_works_21 (by decide) ?_
    refine a_iload_n dX10_works_23 rfl ?_
    refine a_imul dX10_works_24 ?_
    refine a_iload dX10_works_25 rfl ?_
    refine a_iadd dX10_works_27 ?_
    rw [show (64 : Int32) * nI i + nI x = nI (64 * i + x) from i64]
    refine a_istore dX10_works_28 (by decide) ?_
    refine a_aload_n dX10_works_30 rfl ?_
    refine a_getA (z := 92) kfX10_98 rfl rfl (st_64_44 hs) (by decide) (hlt hN (by decide)) dX10_works_31 ?_
    refine a_iload dX10_works_34 rfl ?_
    refine a_iconst (v := 0) dX10_works_36 (by decide) ?_
    refine a_iast rfl (by decide) (hlt hN (by decide)) (show vp_in _ 64 from j64_in hx) dX10_works_37 ?_
    rw [j64_c hx, we_se]
    refine a_aload_n dX10_works_38 rfl ?_
    refine a_getA (z := 91) kfX10_95 rfl rfl (st_64_43 hs) (by decide) (hlt hN (by decide)) dX10_works_39 ?_
    refine a_iload dX10_works_42 rfl ?_
    refine a_lconst (v := 0) dX10_works_44 (by decide) ?_
    refine a_last rfl (by decide) (hlt hN (by decide)) (show vp_in _ 64 from j64_in hx) dX10_works_45 ?_
    rw [j64_c hx, we_sv]
    rw [show ((fun j => if j = x then (0 : Int64) else (V.1, fun j => if j = x then (0 : Int32) else V.2 j).1 j, (V.1, fun j => if j = x then (0 : Int32) else V.2 j).2) : FS) = V0 from hV0e.symm]
    refine a_aload_n dX10_works_46 rfl ?_
    refine a_getA (z := 77) kfX10_48 rfl rfl (st_64_13 hs) (by decide) (hlt hN (by decide)) dX10_works_47 ?_
    refine a_iload dX10_works_50 rfl ?_
    refine a_zald rfl (by decide) (hlt hN (by decide)) (show vp_in _ 64 from j64_in hx) dX10_works_52 ?_
    rw [j64_c hx, we_I (by decide) (by decide)]
    refine a_if_eq (tgt := 79) dX10_works_53 (by decide) (fun c_53 => ?_) (fun c_53 => ?_)
    · have p53 : rI M 77 x = 0 := c_53
      refine a_aload_n dX10_works_79 rfl ?_
      refine a_iload dX10_works_80 rfl ?_
      refine a_iload_n dX10_works_82 rfl ?_
      refine a_iload dX10_works_83 rfl ?_
      refine a_callV (mc1 := 0) (ms1 := 0) (As := [_, _, _]) kpX10_isTold kmX10_246 (by decide) rfl (Nat.le_of_ble_eq_true rfl) rfl (by decide) rfl (by decide) (hlt hN (by decide)) (Nat.le_of_ble_eq_true rfl) (Nat.le_of_ble_eq_true rfl) (Nat.le_of_ble_eq_true rfl) dX10_works_85 (w_X10_isTold (M := we M V0 s) hx hc hN (by exact hs) ?_)
      refine a_if_eq (tgt := 132) dX10_works_88 (by decide) (fun c_88 => ?_) (fun c_88 => ?_)
      · have p88 : ¬ tdP M x c rt := bI_z.mp c_88
        refine a_aload_n dX10_works_132 rfl ?_
        refine a_getA (z := 66) kfX10_13 rfl rfl (st_64_2 hs) (by decide) (hlt hN (by decide)) dX10_works_133 ?_
        refine a_iload dX10_works_136 rfl ?_
        refine a_iald rfl (by decide) (hlt hN (by decide)) (show vp_in _ 384 from vp_in_nI (by omega) (by decide)) dX10_works_138 ?_
        rw [nI_clamp (by omega), we_I (by decide) (by decide)]
        refine a_iconst (v := 1) dX10_works_139 (by decide) ?_
        refine a_icmp_ne (tgt := 161) dX10_works_140 (by decide) (fun c_140 => ?_) (fun c_140 => ?_)
        · have p140 : ¬ rI M 66 (64 * i + x) = 1 := c_140
          refine a_aload_n dX10_works_161 rfl ?_
          refine a_getA (z := 66) kfX10_13 rfl rfl (st_64_2 hs) (by decide) (hlt hN (by decide)) dX10_works_162 ?_
          refine a_iload dX10_works_165 rfl ?_
          refine a_iald rfl (by decide) (hlt hN (by decide)) (show vp_in _ 384 from vp_in_nI (by omega) (by decide)) dX10_works_167 ?_
          rw [nI_clamp (by omega), we_I (by decide) (by decide)]
          refine a_iconst (v := 2) dX10_works_168 (by decide) ?_
          refine a_icmp_ne (tgt := 213) dX10_works_169 (by decide) (fun c_169 => ?_) (fun c_169 => ?_)
          · have p169 : ¬ rI M 66 (64 * i + x) = 2 := c_169
            try rw [j64_c hx, we_sv]
            refine a_iinc dX10_works_213 rfl rfl (by decide) ?_
            refine a_goto (tgt := 3) dX10_works_216 (by decide) ?_
            rw [show nI t + Int32.ofInt 1 = nI (t + 1) from nI_1 t]
            refine AW.sub (L' := [(0, .ref 64), (1, .int (nI i)), (2, .int (nI c)), (3, .int (nI w)), (4, .int rt), (5, .int (nI (t + 1)))]) rfl (ih (t + 1) _ _ (by omega) (wk_step (W := V0) cg ho htT hx er hinv hV0 (fun y hy n => by simp [n, hV0 y hy n]) ?_))
            first
            | (have k : ¬ rI M 77 x = 0 := p53
               rw [stR_1 k]; simp [hV1])
            | (have k : rI M 77 x = 0 := p53
               first
               | (have t : tdP M x c rt := p88
                  rw [stR_2 k t]; simp)
               | (have t : ¬ tdP M x c rt := p88
                  first
                  | (have q : rI M 66 (64 * i + x) = 1 := p140
                     rw [stR_3 k t q]; simp [hV1])
                  | (have q2 : ¬ rI M 66 (64 * i + x) = 2 := p169
                     rw [stR_5 k t p140 q2]; simp [hV1])
                  | (have q2 : rI M 66 (64 * i + x) = 2 := p169
                     rw [stR_4 k t q2, ← rv_base (r := s.1) (hr x hx q2).1]
                     generalize rvF V0 (rOp M (64 * i + x)) (rAr M (64 * i + x)) (rA2 M (64 * i + x)) s.1 (mnR M (64 * i + x)) = P at *
                     first
                     | (have u : ¬ P.2.2 = 0 := p199
                        rw [roF_1 u]; simp)
                     | (have u : P.2.2 = 0 := p199
                        rw [roF_0 u]; simp [u]))))
          · have p169 : rI M 66 (64 * i + x) = 2 := c_169
            refine a_aload_n dX10_works_172 rfl ?_
            refine a_iload dX10_works_173 rfl ?_
            refine a_callV (mc1 := 0) (ms1 := 0) (As := [_]) kpX10_reckons kmX10_289 (by decide) rfl (Nat.le_of_ble_eq_true rfl) rfl (by decide) rfl (by decide) (hlt hN (by decide)) (Nat.le_of_ble_eq_true rfl) (Nat.le_of_ble_eq_true rfl) (Nat.le_of_ble_eq_true rfl) dX10_works_175 (w_X10_reckons (k := 64 * i + x) (mn := mnR M (64 * i + x)) (by omega) (hr x hx p169).1.1 (hr x hx p169).1.2.1 (hr x hx p169).1.2.2.1 (hr x hx p169).1.2.2.2.1 hN (by exact hs) ?_)
            refine a_aload_n dX10_works_178 rfl ?_
            refine a_getA (z := 92) kfX10_98 rfl rfl (st_64_44 hs) (by decide) (hlt hN (by decide)) dX10_works_179 ?_
            refine a_iload dX10_works_182 rfl ?_
            refine a_aload_n dX10_works_184 rfl ?_
            refine a_getI kfX10_263 rfl rfl (by decide) (hlt hN (by decide)) dX10_works_185 ?_
            rw [we_w]
            refine a_iast rfl (by decide) (hlt hN (by decide)) (show vp_in _ 64 from j64_in hx) dX10_works_188 ?_
            rw [j64_c hx, we_se]
            refine a_aload_n dX10_works_189 rfl ?_
            refine a_getA (z := 91) kfX10_95 rfl rfl (st_64_43 hs) (by decide) (hlt hN (by decide)) dX10_works_190 ?_
            refine a_iload dX10_works_193 rfl ?_
            refine a_aload_n dX10_works_195 rfl ?_
            refine a_getI kfX10_263 rfl rfl (by decide) (hlt hN (by decide)) dX10_works_196 ?_
            rw [we_w]
            refine a_if_ne (tgt := 211) dX10_works_199 (by decide) (fun c_199 => ?_) (fun c_199 => ?_)
            · have p199 : ¬ (rvF V0 (rOp M (64 * i + x)) (rAr M (64 * i + x)) (rA2 M (64 * i + x)) s.1 (mnR M (64 * i + x))).2.2 = 0 := c_199
              refine a_lconst (v := 0) dX10_works_211 (by decide) ?_
              refine a_last rfl (by decide) (hlt hN (by decide)) (show vp_in _ 64 from j64_in hx) dX10_works_212 ?_
              try rw [j64_c hx, we_sv]
              refine a_iinc dX10_works_213 rfl rfl (by decide) ?_
              refine a_goto (tgt := 3) dX10_works_216 (by decide) ?_
              rw [show nI t + Int32.ofInt 1 = nI (t + 1) from nI_1 t]
              refine AW.sub (L' := [(0, .ref 64), (1, .int (nI i)), (2, .int (nI c)), (3, .int (nI w)), (4, .int rt), (5, .int (nI (t + 1)))]) rfl (ih (t + 1) _ _ (by omega) (wk_step (W := V0) cg ho htT hx er hinv hV0 (fun y hy n => by simp [n, hV0 y hy n]) ?_))
              first
              | (have k : ¬ rI M 77 x = 0 := p53
                 rw [stR_1 k]; simp [hV1])
              | (have k : rI M 77 x = 0 := p53
                 first
                 | (have t : tdP M x c rt := p88
                    rw [stR_2 k t]; simp)
                 | (have t : ¬ tdP M x c rt := p88
                    first
                    | (have q : rI M 66 (64 * i + x) = 1 := p140
                       rw [stR_3 k t q]; simp [hV1])
                    | (have q2 : ¬ rI M 66 (64 * i + x) = 2 := p169
                       rw [stR_5 k t p140 q2]; simp [hV1])
                    | (have q2 : rI M 66 (64 * i + x) = 2 := p169
                       rw [stR_4 k t q2, ← rv_base (r := s.1) (hr x hx q2).1]
                       generalize rvF V0 (rOp M (64 * i + x)) (rAr M (64 * i + x)) (rA2 M (64 * i + x)) s.1 (mnR M (64 * i + x)) = P at *
                       first
                       | (have u : ¬ P.2.2 = 0 := p199
                          rw [roF_1 u]; simp)
                       | (have u : P.2.2 = 0 := p199
                          rw [roF_0 u]; simp [u]))))
            · have p199 : (rvF V0 (rOp M (64 * i + x)) (rAr M (64 * i + x)) (rA2 M (64 * i + x)) s.1 (mnR M (64 * i + x))).2.2 = 0 := c_199
              refine a_aload_n dX10_works_202 rfl ?_
              refine a_getA (z := 93) kfX10_101 rfl rfl (st_64_45 hs) (by decide) (hlt hN (by decide)) dX10_works_203 ?_
              refine a_iconst (v := 0) dX10_works_206 (by decide) ?_
              refine a_lald rfl (by decide) (hlt hN (by decide)) (show vp_in _ 40 from m40 (h := 0) (by decide)) dX10_works_207 ?_
              rw [we_s]
              refine a_goto (tgt := 212) dX10_works_208 (by decide) ?_
              refine a_last rfl (by decide) (hlt hN (by decide)) (show vp_in _ 64 from j64_in hx) dX10_works_212 ?_
              try rw [j64_c hx, we_sv]
              refine a_iinc dX10_works_213 rfl rfl (by decide) ?_
              refine a_goto (tgt := 3) dX10_works_216 (by decide) ?_
              rw [show nI t + Int32.ofInt 1 = nI (t + 1) from nI_1 t]
              refine AW.sub (L' := [(0, .ref 64), (1, .int (nI i)), (2, .int (nI c)), (3, .int (nI w)), (4, .int rt), (5, .int (nI (t + 1)))]) rfl (ih (t + 1) _ _ (by omega) (wk_step (W := V0) cg ho htT hx er hinv hV0 (fun y hy n => by simp [n, hV0 y hy n]) ?_))
              first
              | (have k : ¬ rI M 77 x = 0 := p53
                 rw [stR_1 k]; simp [hV1])
              | (have k : rI M 77 x = 0 := p53
                 first
                 | (have t : tdP M x c rt := p88
                    rw [stR_2 k t]; simp)
                 | (have t : ¬ tdP M x c rt := p88
                    first
                    | (have q : rI M 66 (64 * i + x) = 1 := p140
                       rw [stR_3 k t q]; simp [hV1])
                    | (have q2 : ¬ rI M 66 (64 * i + x) = 2 := p169
                       rw [stR_5 k t p140 q2]; simp [hV1])
                    | (have q2 : rI M 66 (64 * i + x) = 2 := p169
                       rw [stR_4 k t q2, ← rv_base (r := s.1) (hr x hx q2).1]
                       generalize rvF V0 (rOp M (64 * i + x)) (rAr M (64 * i + x)) (rA2 M (64 * i + x)) s.1 (mnR M (64 * i + x)) = P at *
                       first
                       | (have u : ¬ P.2.2 = 0 := p199
                          rw [roF_1 u]; simp)
                       | (have u : P.2.2 = 0 := p199
                          rw [roF_0 u]; simp [u]))))
        · have p140 : rI M 66 (64 * i + x) = 1 := c_140
          refine a_aload_n dX10_works_143 rfl ?_
          refine a_getA (z := 91) kfX10_95 rfl rfl (st_64_43 hs) (by decide) (hlt hN (by decide)) dX10_works_144 ?_
          refine a_iload dX10_works_147 rfl ?_
          refine a_aload_n dX10_works_149 rfl ?_
          refine a_getA (z := 67) kfX10_17 rfl rfl (st_64_3 hs) (by decide) (hlt hN (by decide)) dX10_works_150 ?_
          refine a_iload dX10_works_153 rfl ?_
          refine a_iald rfl (by decide) (hlt hN (by decide)) (show vp_in _ 384 from vp_in_nI (by omega) (by decide)) dX10_works_155 ?_
          rw [nI_clamp (by omega), we_I (by decide) (by decide)]
          refine a_i2l dX10_works_156 rfl ?_
          refine a_last rfl (by decide) (hlt hN (by decide)) (show vp_in _ 64 from j64_in hx) dX10_works_157 ?_
          rw [j64_c hx, we_sv]
          refine a_goto (tgt := 213) dX10_works_158 (by decide) ?_
          try rw [j64_c hx, we_sv]
          refine a_iinc dX10_works_213 rfl rfl (by decide) ?_
          refine a_goto (tgt := 3) dX10_works_216 (by decide) ?_
          rw [show nI t + Int32.ofInt 1 = nI (t + 1) from nI_1 t]
          refine AW.sub (L' := [(0, .ref 64), (1, .int (nI i)), (2, .int (nI c)), (3, .int (nI w)), (4, .int rt), (5, .int (nI (t + 1)))]) rfl (ih (t + 1) _ _ (by omega) (wk_step (W := V0) cg ho htT hx er hinv hV0 (fun y hy n => by simp [n, hV0 y hy n]) ?_))
          first
          | (have k : ¬ rI M 77 x = 0 := p53
             rw [stR_1 k]; simp [hV1])
          | (have k : rI M 77 x = 0 := p53
             first
             | (have t : tdP M x c rt := p88
                rw [stR_2 k t]; simp)
             | (have t : ¬ tdP M x c rt := p88
                first
                | (have q : rI M 66 (64 * i + x) = 1 := p140
                   rw [stR_3 k t q]; simp [hV1])
                | (have q2 : ¬ rI M 66 (64 * i + x) = 2 := p169
                   rw [stR_5 k t p140 q2]; simp [hV1])
                | (have q2 : rI M 66 (64 * i + x) = 2 := p169
                   rw [stR_4 k t q2, ← rv_base (r := s.1) (hr x hx q2).1]
                   generalize rvF V0 (rOp M (64 * i + x)) (rAr M (64 * i + x)) (rA2 M (64 * i + x)) s.1 (mnR M (64 * i + x)) = P at *
                   first
                   | (have u : ¬ P.2.2 = 0 := p199
                      rw [roF_1 u]; simp)
                   | (have u : P.2.2 = 0 := p199
                      rw [roF_0 u]; simp [u]))))
      · have p88 : tdP M x c rt := bI_nz.mp c_88
        refine a_aload_n dX10_works_91 rfl ?_
        refine a_getA (z := 91) kfX10_95 rfl rfl (st_64_43 hs) (by decide) (hlt hN (by decide)) dX10_works_92 ?_
        refine a_iload dX10_works_95 rfl ?_
        refine a_aload_n dX10_works_97 rfl ?_
        refine a_getA (z := 80) kfX10_58 rfl rfl (st_64_19 hs) (by decide) (hlt hN (by decide)) dX10_works_98 ?_
        refine a_bipush (v := 64) dX10_works_101 (by decide) ?_
        refine a_iload_n dX10_works_103 rfl ?_
        refine a_imul dX10_works_104 ?_
        refine a_iload dX10_works_105 rfl ?_
        refine a_iadd dX10_works_107 ?_
        rw [show (64 : Int32) * nI w + nI x = nI (64 * w + x) from i64]
        refine a_lald rfl (by decide) (hlt hN (by decide)) (show vp_in _ 384 from vp_in_nI (by omega) (by decide)) dX10_works_108 ?_
        rw [nI_clamp (by omega), we_J (by decide) (by decide)]
        refine a_last rfl (by decide) (hlt hN (by decide)) (show vp_in _ 64 from j64_in hx) dX10_works_109 ?_
        rw [j64_c hx, we_sv]
        refine a_aload_n dX10_works_110 rfl ?_
        refine a_getA (z := 92) kfX10_98 rfl rfl (st_64_44 hs) (by decide) (hlt hN (by decide)) dX10_works_111 ?_
        refine a_iload dX10_works_114 rfl ?_
        refine a_aload_n dX10_works_116 rfl ?_
        refine a_getA (z := 81) kfX10_61 rfl rfl (st_64_20 hs) (by decide) (hlt hN (by decide)) dX10_works_117 ?_
        refine a_bipush (v := 64) dX10_works_120 (by decide) ?_
        refine a_iload_n dX10_works_122 rfl ?_
        refine a_imul dX10_works_123 ?_
        refine a_iload dX10_works_124 rfl ?_
        refine a_iadd dX10_works_126 ?_
        rw [show (64 : Int32) * nI w + nI x = nI (64 * w + x) from i64]
        refine a_iald rfl (by decide) (hlt hN (by decide)) (show vp_in _ 384 from vp_in_nI (by omega) (by decide)) dX10_works_127 ?_
        rw [nI_clamp (by omega), we_I (by decide) (by decide)]
        refine a_iast rfl (by decide) (hlt hN (by decide)) (show vp_in _ 64 from j64_in hx) dX10_works_128 ?_
        rw [j64_c hx, we_se]
        refine a_goto (tgt := 213) dX10_works_129 (by decide) ?_
        try rw [j64_c hx, we_sv]
        refine a_iinc dX10_works_213 rfl rfl (by decide) ?_
        refine a_goto (tgt := 3) dX10_works_216 (by decide) ?_
        rw [show nI t + Int32.ofInt 1 = nI (t + 1) from nI_1 t]
        refine AW.sub (L' := [(0, .ref 64), (1, .int (nI i)), (2, .int (nI c)), (3, .int (nI w)), (4, .int rt), (5, .int (nI (t + 1)))]) rfl (ih (t + 1) _ _ (by omega) (wk_step (W := V0) cg ho htT hx er hinv hV0 (fun y hy n => by simp [n, hV0 y hy n]) ?_))
        first
        | (have k : ¬ rI M 77 x = 0 := p53
           rw [stR_1 k]; simp [hV1])
        | (have k : rI M 77 x = 0 := p53
           first
           | (have t : tdP M x c rt := p88
              rw [stR_2 k t]; simp)
           | (have t : ¬ tdP M x c rt := p88
              first
              | (have q : rI M 66 (64 * i + x) = 1 := p140
                 rw [stR_3 k t q]; simp [hV1])
              | (have q2 : ¬ rI M 66 (64 * i + x) = 2 := p169
                 rw [stR_5 k t p140 q2]; simp [hV1])
              | (have q2 : rI M 66 (64 * i + x) = 2 := p169
                 rw [stR_4 k t q2, ← rv_base (r := s.1) (hr x hx q2).1]
                 generalize rvF V0 (rOp M (64 * i + x)) (rAr M (64 * i + x)) (rA2 M (64 * i + x)) s.1 (mnR M (64 * i + x)) = P at *
                 first
                 | (have u : ¬ P.2.2 = 0 := p199
                    rw [roF_1 u]; simp)
                 | (have u : P.2.2 = 0 := p199
                    rw [roF_0 u]; simp [u]))))
    · have p53 : ¬ rI M 77 x = 0 := c_53
      refine a_aload_n dX10_works_56 rfl ?_
      refine a_getA (z := 91) kfX10_95 rfl rfl (st_64_43 hs) (by decide) (hlt hN (by decide)) dX10_works_57 ?_
      refine a_iload dX10_works_60 rfl ?_
      refine a_aload_n dX10_works_62 rfl ?_
      refine a_getA (z := 79) kfX10_55 rfl rfl (st_64_18 hs) (by decide) (hlt hN (by decide)) dX10_works_63 ?_
      refine a_bipush (v := 64) dX10_works_66 (by decide) ?_
      refine a_iload_n dX10_works_68 rfl ?_
      refine a_imul dX10_works_69 ?_
      refine a_iload dX10_works_70 rfl ?_
      refine a_iadd dX10_works_72 ?_
      rw [show (64 : Int32) * nI w + nI x = nI (64 * w + x) from i64]
      refine a_iald rfl (by decide) (hlt hN (by decide)) (show vp_in _ 384 from vp_in_nI (by omega) (by decide)) dX10_works_73 ?_
      rw [nI_clamp (by omega), we_I (by decide) (by decide)]
      refine a_i2l dX10_works_74 rfl ?_
      refine a_last rfl (by decide) (hlt hN (by decide)) (show vp_in _ 64 from j64_in hx) dX10_works_75 ?_
      rw [j64_c hx, we_sv]
      refine a_goto (tgt := 213) dX10_works_76 (by decide) ?_
      try rw [j64_c hx, we_sv]
      refine a_iinc dX10_works_213 rfl rfl (by decide) ?_
      refine a_goto (tgt := 3) dX10_works_216 (by decide) ?_
      rw [show nI t + Int32.ofInt 1 = nI (t + 1) from nI_1 t]
      refine AW.sub (L' := [(0, .ref 64), (1, .int (nI i)), (2, .int (nI c)), (3, .int (nI w)), (4, .int rt), (5, .int (nI (t + 1)))]) rfl (ih (t + 1) _ _ (by omega) (wk_step (W := V0) cg ho htT hx er hinv hV0 (fun y hy n => by simp [n, hV0 y hy n]) ?_))
      first
      | (have k : ¬ rI M 77 x = 0 := p53
         rw [stR_1 k]; simp [hV1])
      | (have k : rI M 77 x = 0 := p53
         first
         | (have t : tdP M x c rt := p88
            rw [stR_2 k t]; simp)
         | (have t : ¬ tdP M x c rt := p88
            first
            | (have q : rI M 66 (64 * i + x) = 1 := p140
               rw [stR_3 k t q]; simp [hV1])
            | (have q2 : ¬ rI M 66 (64 * i + x) = 2 := p169
               rw [stR_5 k t p140 q2]; simp [hV1])
            | (have q2 : rI M 66 (64 * i + x) = 2 := p169
               rw [stR_4 k t q2, ← rv_base (r := s.1) (hr x hx q2).1]
               generalize rvF V0 (rOp M (64 * i + x)) (rAr M (64 * i + x)) (rA2 M (64 * i + x)) s.1 (mnR M (64 * i + x)) = P at *
               first
               | (have u : ¬ P.2.2 = 0 := p199
                  rw [roF_1 u]; simp)
               | (have u : P.2.2 = 0 := p199
                  rw [roF_0 u]; simp [u]))))
theorem w_X10_works {M : Mem} {N : Nat} {Q : Option Value → Nat → Mem → Prop} {V : FS} {s : MS} {i c w T : Nat} {rt : Int32} {r : Nat → Int32} (hi : i < 6) (hc : c < 64) (hw6 : w < 6) (hT4 : T ≤ 64) (hr : ∀ j, j < 64 → rI M 66 (64 * i + j) = 2 → RFK M (64 * i + j) ∧ NmK M (64 * i + j)) (hT : rI M 64 40 = nI T) (hrr : ∀ t, t < T → rI M 89 t = r t) (ho : OrdOK (ndR M i c rt) c T r)  (hN : 94 ≤ N) (hs : Str M.2.2.1) (h : ∀ V s, Sol (ndR M i c rt) (stR M i c rt w) c (V.1 c, V.2 c) → Q none N (we M V s))  : AW mX10_works 5 0 0 N 0 [(0, .ref 64), (1, .int (nI i)), (2, .int (nI c)), (3, .int (nI w)), (4, .int rt)] [] (we M V s) Q := by
  refine a_iconst (v := 0) dX10_works_0 (by decide) ?_
  refine a_istore dX10_works_1 (by decide) ?_
  exact AW.sub (L' := [(0, .ref 64), (1, .int (nI i)), (2, .int (nI c)), (3, .int (nI w)), (4, .int rt), (5, .int (nI 0))]) rfl (l_X10_works hi hc hw6 hT4 hr hT hrr ho hN hs h (stR_cg hi hr) T 0 V s (by omega) (fun t ht => absurd ht (Nat.not_lt_zero _)))

