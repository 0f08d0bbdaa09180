/-! the reference's order, second: what is known -/
abbrev O2 : Type := Int64 × Nat × (Nat → Int32) × Int32
def wo (M : Mem) (T : Nat) (r : Nat → Int32) : Mem := sR (sI M 64 40 (nI T)) 89 r
theorem wo_0 {M : Mem} : sI M 64 40 0 = wo M 0 (rI M 89) := by
  unfold wo
  refine Eq.trans ?_ (sR_id (M := sI M 64 40 (nI 0)) (q := 89) (r := rI M 89) (fun j => by rw [rI_sI, if_neg (by omega)])).symm
  rfl
theorem wo_T {M : Mem} {T : Nat} {r : Nat → Int32} : rI (wo M T r) 64 40 = nI T := by unfold wo; rw [rI_sR, if_neg (by decide), rI_sI, if_pos ⟨rfl, rfl⟩]
theorem wo_r {M : Mem} {T j : Nat} {r : Nat → Int32} : rI (wo M T r) 89 j = r j := by unfold wo; rw [rI_sR, if_pos rfl]
theorem wo_o {M : Mem} {T a j : Nat} {r : Nat → Int32} (h : a ≠ 64) (h2 : a ≠ 89) : rI (wo M T r) a j = rI M a j := by unfold wo; rw [rI_sR, if_neg h2, rI_sI, if_neg (fun z => h z.1)]
theorem wo_o64 {M : Mem} {T j : Nat} {r : Nat → Int32} (h : j ≠ 40) : rI (wo M T r) 64 j = rI M 64 j := by unfold wo; rw [rI_sR, if_neg (by decide), rI_sI, if_neg (fun z => h z.2)]
theorem wo_s {M : Mem} {T k : Nat} {r : Nat → Int32} {v : Int32} : sI (wo M T r) 89 k v = wo M T (fun j => if j = k then v else r j) := by unfold wo; rw [sI_sR]
theorem wo_i {M : Mem} {T : Nat} {r : Nat → Int32} : sI (wo M T r) 64 40 (nI (T + 1)) = wo M (T + 1) r := by
  refine Prod.ext ?_ rfl
  funext a j
  show up2 (fun a j => if a = 89 then r j else up2 M.1 64 40 (nI T) a j) 64 40 (nI (T + 1)) a j = (if a = 89 then r j else up2 M.1 64 40 (nI (T + 1)) a j)
  show (if a = 64 ∧ j = 40 then nI (T + 1) else if a = 89 then r j else if a = 64 ∧ j = 40 then nI T else M.1 a j) = (if a = 89 then r j else if a = 64 ∧ j = 40 then nI (T + 1) else M.1 a j)
  by_cases h : a = 64 ∧ j = 40
  · rw [if_pos h, if_neg (by omega), if_pos h]
  · rw [if_neg h, if_neg h, if_neg h]
def o2A (st : Int64) (nd : Nat → Int64) (x : Nat) (s : O2) : O2 := if hb st (nI x) = true then (if hb s.1 (nI x) = true then s else if nd x &&& (s.1 ^^^ (-1)) = 0 then (s.1 ||| bitL (nI x), s.2.1 + 1, fun j => if j = s.2.1 then nI x else s.2.2.1 j, 1) else s) else s
def o2W (st : Int64) (nd : Nat → Int64) : Nat → O2 → O2
  | 0, s => s
  | x + 1, s => o2A st nd x (o2W st nd x s)
def o2R (st : Int64) (nd : Nat → Int64) : Nat → O2 → O2
  | 0, s => s
  | r + 1, s => if s.2.2.2 = 0 then s else o2R st nd r (o2W st nd 64 (s.1, s.2.1, s.2.2.1, 0))
theorem o2A_n {st : Int64} {nd : Nat → Int64} {x : Nat} (hx : x < 64) {s : O2} (h : s.2.1 = cnt s.1 64) : (o2A st nd x s).2.1 = cnt (o2A st nd x s).1 64 := by
  unfold o2A
  split
  · split
    · exact h
    · next c =>
      split
      · show s.2.1 + 1 = cnt (s.1 ||| bitL (nI x)) 64
        rw [cnt_add hx c 64 (Nat.le_refl _), if_pos hx, h]
      · exact h
  · exact h
theorem o2W_n {st : Int64} {nd : Nat → Int64} {s : O2} (h : s.2.1 = cnt s.1 64) : ∀ x, x ≤ 64 → (o2W st nd x s).2.1 = cnt (o2W st nd x s).1 64
  | 0, _ => h
  | x + 1, hx => o2A_n (by omega) (o2W_n h x (by omega))
theorem cnt_lt64 {a : Int64} {x : Nat} (hx : x < 64) (h : ¬ hb a (nI x) = true) : cnt a 64 < 64 := by
  have e := cnt_add hx h 64 (Nat.le_refl _)
  have := cnt_le (s := a ||| bitL (nI x)) 64
  rw [if_pos hx] at e
  omega
theorem o2W_more {st : Int64} {nd : Nat → Int64} {s : O2} (h0 : s.2.2.2 = 0) : ∀ x, x ≤ 64 → ((o2W st nd x s = s ∧ ∀ y, y < x → hb st (nI y) = true → hb s.1 (nI y) = true ∨ ¬ nd y &&& (s.1 ^^^ (-1)) = 0) ∨ ((o2W st nd x s).2.2.2 = 1 ∧ cnt s.1 64 + 1 ≤ cnt (o2W st nd x s).1 64))
  | 0, _ => Or.inl ⟨rfl, fun y hy => absurd hy (Nat.not_lt_zero _)⟩
  | x + 1, hx => by
    have hx64 : x < 64 := by omega
    rcases o2W_more h0 x (by omega) with ⟨e, k⟩ | ⟨e, k⟩
    · show (o2A st nd x (o2W st nd x s) = s ∧ _) ∨ ((o2A st nd x (o2W st nd x s)).2.2.2 = 1 ∧ _ ≤ cnt (o2A st nd x (o2W st nd x s)).1 64)
      rw [e]
      unfold o2A
      by_cases c : hb st (nI x) = true
      · rw [if_pos c]
        by_cases d : hb s.1 (nI x) = true
        · rw [if_pos d]
          refine Or.inl ⟨rfl, fun y hy hh => ?_⟩
          by_cases q : y = x
          · subst q; exact Or.inl d
          · exact k y (by omega) hh
        · rw [if_neg d]
          by_cases n : nd x &&& (s.1 ^^^ (-1)) = 0
          · rw [if_pos n]
            refine Or.inr ⟨rfl, ?_⟩
            show _ ≤ cnt (s.1 ||| bitL (nI x)) 64
            rw [cnt_add hx64 d 64 (Nat.le_refl _), if_pos hx64]
            exact Nat.le_refl _
          · rw [if_neg n]
            refine Or.inl ⟨rfl, fun y hy hh => ?_⟩
            by_cases q : y = x
            · subst q; exact Or.inr n
            · exact k y (by omega) hh
      · rw [if_neg c]
        refine Or.inl ⟨rfl, fun y hy hh => ?_⟩
        by_cases q : y = x
        · subst q; exact absurd hh c
        · exact k y (by omega) hh
    · have sub : ∀ y, y < 64 → hb (o2W st nd x s).1 (nI y) = true → hb (o2A st nd x (o2W st nd x s)).1 (nI y) = true := by
        intro y hy h
        unfold o2A
        split
        · split
          · exact h
          · split
            · exact (hb_orb hy hx64).mpr (Or.inl h)
            · exact h
        · exact h
      refine Or.inr ⟨?_, Nat.le_trans k (cnt_mono 64 (Nat.le_refl _) sub)⟩
      show (o2A st nd x (o2W st nd x s)).2.2.2 = 1
      unfold o2A
      split
      · split
        · exact e
        · split
          · rfl
          · exact e
      · exact e
theorem l_X10_o2W {M : Mem} {N : Nat} {Q : Option Value → Nat → Mem → Prop} {i c : Nat} {rt : Int32} {st : Int64} {s : O2} (hn : s.2.1 = cnt s.1 64) (hN : 94 ≤ N) (hs : Str M.2.2.1) (h : AW mX10_orders 5 0 0 N 125 [(0, .ref 64), (1, .int (nI i)), (2, .int (nI c)), (3, .int rt), (4, .long st), (8, .int (o2W st (rJ M 90) 64 s).2.2.2), (9, .long (o2W st (rJ M 90) 64 s).1)] [] (wo M (o2W st (rJ M 90) 64 s).2.1 (o2W st (rJ M 90) 64 s).2.2.1) Q) : ∀ (r x : Nat), x + r = 64 → AW mX10_orders 5 0 0 N 136 [(0, .ref 64), (1, .int (nI i)), (2, .int (nI c)), (3, .int rt), (4, .long st), (8, .int (o2W st (rJ M 90) x s).2.2.2), (9, .long (o2W st (rJ M 90) x s).1), (11, .int (nI x))] [] (wo M (o2W st (rJ M 90) x s).2.1 (o2W st (rJ M 90) x s).2.2.1) Q := by
  intro r
  induction r with
  | zero =>
    intro x hk
    obtain rfl : x = 64 := by omega
    refine a_iload dX10_orders_136 rfl ?_
    refine a_bipush (v := 64) dX10_orders_138 (by decide) ?_
    refine a_icmp_ge (tgt := 224) dX10_orders_140 (by decide) (fun c_140 => ?_) (fun c_140 => absurd (nI_le (a := 64) (b := 64) (by omega) (by decide)) c_140)
    refine a_goto (tgt := 125) dX10_orders_224 (by decide) ?_
    exact AW.sub (L' := [(0, .ref 64), (1, .int (nI i)), (2, .int (nI c)), (3, .int rt), (4, .long st), (8, .int (o2W st (rJ M 90) 64 s).2.2.2), (9, .long (o2W st (rJ M 90) 64 s).1)]) rfl h
  | succ r ih =>
    intro x hk
    have hx : x < 64 := by omega
    refine a_iload dX10_orders_136 rfl ?_
    refine a_bipush (v := 64) dX10_orders_138 (by decide) ?_
    refine a_icmp_ge (tgt := 224) dX10_orders_140 (by decide) (fun c_140 => absurd c_140 (nI_ge (b := 64) (by omega) (by decide))) (fun c_140 => ?_)
    refine a_lload dX10_orders_143 rfl ?_
    refine a_iload dX10_orders_145 rfl ?_
    refine a_callS (mc1 := 0) (ms1 := 0) (As := [_, _]) kpX10_has kmX10_242 (by decide) rfl (Nat.le_of_ble_eq_true rfl) (Nat.le_of_ble_eq_true rfl) (Nat.le_of_ble_eq_true rfl) (Nat.le_of_ble_eq_true rfl) dX10_orders_147 (w_X10_has hx ?_)
    refine a_if_eq (tgt := 218) dX10_orders_150 (by decide) (fun c_150 => ?_) (fun c_150 => ?_)
    · refine a_iinc dX10_orders_218 rfl rfl (by decide) ?_
      refine a_goto (tgt := 136) dX10_orders_221 (by decide) ?_
      rw [show nI x + Int32.ofInt 1 = nI (x + 1) from nI_1 x]
      first
      | (have q0 : bI (hb st (nI x) = true) = 0 := c_150
         have e : (o2W st (rJ M 90) (x + 1) s) = (o2W st (rJ M 90) x s) := if_neg (bI_z.mp q0)
         rw [← e]
         refine AW.sub (L' := [(0, .ref 64), (1, .int (nI i)), (2, .int (nI c)), (3, .int rt), (4, .long st), (8, .int (o2W st (rJ M 90) (x + 1) s).2.2.2), (9, .long (o2W st (rJ M 90) (x + 1) s).1), (11, .int (nI (x + 1)))]) rfl ?_
         exact ih (x + 1) (by omega))
      | (have q0 : ¬ bI (hb st (nI x) = true) = 0 := c_150
         have q1 : ¬ bI (hb (o2W st (rJ M 90) x s).1 (nI x) = true) = 0 := c_160
         have e : (o2W st (rJ M 90) (x + 1) s) = (o2W st (rJ M 90) x s) := (if_pos (bI_nz.mp q0)).trans (if_pos (bI_nz.mp q1))
         rw [← e]
         refine AW.sub (L' := [(0, .ref 64), (1, .int (nI i)), (2, .int (nI c)), (3, .int rt), (4, .long st), (8, .int (o2W st (rJ M 90) (x + 1) s).2.2.2), (9, .long (o2W st (rJ M 90) (x + 1) s).1), (11, .int (nI (x + 1)))]) rfl ?_
         exact ih (x + 1) (by omega))
      | (have q0 : ¬ bI (hb st (nI x) = true) = 0 := c_150
         have q1 : bI (hb (o2W st (rJ M 90) x s).1 (nI x) = true) = 0 := c_160
         have q2 : ¬ lg_cmp (rJ M 90 x &&& ((o2W st (rJ M 90) x s).1 ^^^ (-1))) 0 = 0 := c_179
         have e : (o2W st (rJ M 90) (x + 1) s) = (o2W st (rJ M 90) x s) := (if_pos (bI_nz.mp q0)).trans ((if_neg (bI_z.mp q1)).trans (if_neg (fun z => q2 ((lg_cmp_eq _ _).mpr z))))
         rw [← e]
         refine AW.sub (L' := [(0, .ref 64), (1, .int (nI i)), (2, .int (nI c)), (3, .int rt), (4, .long st), (8, .int (o2W st (rJ M 90) (x + 1) s).2.2.2), (9, .long (o2W st (rJ M 90) (x + 1) s).1), (11, .int (nI (x + 1)))]) rfl ?_
         exact ih (x + 1) (by omega))
      | (have e : (o2W st (rJ M 90) (x + 1) s) = (((o2W st (rJ M 90) x s).1 ||| bitL (nI x), (o2W st (rJ M 90) x s).2.1 + 1, fun j => if j = (o2W st (rJ M 90) x s).2.1 then nI x else (o2W st (rJ M 90) x s).2.2.1 j, 1) : O2) := (if_pos (bI_nz.mp c_150)).trans ((if_neg (bI_z.mp c_160)).trans (if_pos ((lg_cmp_eq _ _).mp c_179)))
         have ih2 := ih (x + 1) (by omega)
         rw [e] at ih2
         exact AW.sub (L' := [(0, .ref 64), (1, .int (nI i)), (2, .int (nI c)), (3, .int rt), (4, .long st), (8, .int 1), (9, .long (((o2W st (rJ M 90) x s).1 ||| bitL (nI x), (o2W st (rJ M 90) x s).2.1 + 1, fun j => if j = (o2W st (rJ M 90) x s).2.1 then nI x else (o2W st (rJ M 90) x s).2.2.1 j, 1) : O2).1), (11, .int (nI (x + 1)))]) rfl ih2)
    · refine a_lload dX10_orders_153 rfl ?_
      refine a_iload dX10_orders_155 rfl ?_
      refine a_callS (mc1 := 0) (ms1 := 0) (As := [_, _]) kpX10_has kmX10_242 (by decide) rfl (Nat.le_of_ble_eq_true rfl) (Nat.le_of_ble_eq_true rfl) (Nat.le_of_ble_eq_true rfl) (Nat.le_of_ble_eq_true rfl) dX10_orders_157 (w_X10_has hx ?_)
      refine a_if_ne (tgt := 218) dX10_orders_160 (by decide) (fun c_160 => ?_) (fun c_160 => ?_)
      · refine a_iinc dX10_orders_218 rfl rfl (by decide) ?_
        refine a_goto (tgt := 136) dX10_orders_221 (by decide) ?_
        rw [show nI x + Int32.ofInt 1 = nI (x + 1) from nI_1 x]
        first
        | (have q0 : bI (hb st (nI x) = true) = 0 := c_150
           have e : (o2W st (rJ M 90) (x + 1) s) = (o2W st (rJ M 90) x s) := if_neg (bI_z.mp q0)
           rw [← e]
           refine AW.sub (L' := [(0, .ref 64), (1, .int (nI i)), (2, .int (nI c)), (3, .int rt), (4, .long st), (8, .int (o2W st (rJ M 90) (x + 1) s).2.2.2), (9, .long (o2W st (rJ M 90) (x + 1) s).1), (11, .int (nI (x + 1)))]) rfl ?_
           exact ih (x + 1) (by omega))
        | (have q0 : ¬ bI (hb st (nI x) = true) = 0 := c_150
           have q1 : ¬ bI (hb (o2W st (rJ M 90) x s).1 (nI x) = true) = 0 := c_160
           have e : (o2W st (rJ M 90) (x + 1) s) = (o2W st (rJ M 90) x s) := (if_pos (bI_nz.mp q0)).trans (if_pos (bI_nz.mp q1))
           rw [← e]
           refine AW.sub (L' := [(0, .ref 64), (1, .int (nI i)), (2, .int (nI c)), (3, .int rt), (4, .long st), (8, .int (o2W st (rJ M 90) (x + 1) s).2.2.2), (9, .long (o2W st (rJ M 90) (x + 1) s).1), (11, .int (nI (x + 1)))]) rfl ?_
           exact ih (x + 1) (by omega))
        | (have q0 : ¬ bI (hb st (nI x) = true) = 0 := c_150
           have q1 : bI (hb (o2W st (rJ M 90) x s).1 (nI x) = true) = 0 := c_160
           have q2 : ¬ lg_cmp (rJ M 90 x &&& ((o2W st (rJ M 90) x s).1 ^^^ (-1))) 0 = 0 := c_179
           have e : (o2W st (rJ M 90) (x + 1) s) = (o2W st (rJ M 90) x s) := (if_pos (bI_nz.mp q0)).trans ((if_neg (bI_z.mp q1)).trans (if_neg (fun z => q2 ((lg_cmp_eq _ _).mpr z))))
           rw [← e]
           refine AW.sub (L' := [(0, .ref 64), (1, .int (nI i)), (2, .int (nI c)), (3, .int rt), (4, .long st), (8, .int (o2W st (rJ M 90) (x + 1) s).2.2.2), (9, .long (o2W st (rJ M 90) (x + 1) s).1), (11, .int (nI (x + 1)))]) rfl ?_
           exact ih (x + 1) (by omega))
        | (have e : (o2W st (rJ M 90) (x + 1) s) = (((o2W st (rJ M 90) x s).1 ||| bitL (nI x), (o2W st (rJ M 90) x s).2.1 + 1, fun j => if j = (o2W st (rJ M 90) x s).2.1 then nI x else (o2W st (rJ M 90) x s).2.2.1 j, 1) : O2) := (if_pos (bI_nz.mp c_150)).trans ((if_neg (bI_z.mp c_160)).trans (if_pos ((lg_cmp_eq _ _).mp c_179)))
           have ih2 := ih (x + 1) (by omega)
           rw [e] at ih2
           exact AW.sub (L' := [(0, .ref 64), (1, .int (nI i)), (2, .int (nI c)), (3, .int rt), (4, .long st), (8, .int 1), (9, .long (((o2W st (rJ M 90) x s).1 ||| bitL (nI x), (o2W st (rJ M 90) x s).2.1 + 1, fun j => if j = (o2W st (rJ M 90) x s).2.1 then nI x else (o2W st (rJ M 90) x s).2.2.1 j, 1) : O2).1), (11, .int (nI (x + 1)))]) rfl ih2)
      · refine a_aload_n dX10_orders_163 rfl ?_
        refine a_getA (z := 90) kfX10_92 rfl rfl (st_64_42 hs) (by decide) (hlt hN (by decide)) dX10_orders_164 ?_
        refine a_iload dX10_orders_167 rfl ?_
        refine a_lald rfl (by decide) (hlt hN (by decide)) (show vp_in _ 64 from j64_in hx) dX10_orders_169 ?_
        rw [j64_c hx]
        rw [show rJ (wo M (o2W st (rJ M 90) x s).2.1 (o2W st (rJ M 90) x s).2.2.1) 90 x = rJ M 90 x from rfl]
        refine a_lload dX10_orders_170 rfl ?_
        refine a_ldc2 kkX10_257 dX10_orders_172 ?_
        refine a_lxor dX10_orders_175 ?_
        refine a_land dX10_orders_176 ?_
        refine a_lconst (v := 0) dX10_orders_177 (by decide) ?_
        refine a_lcmp dX10_orders_178 ?_
        refine a_if_eq (tgt := 185) dX10_orders_179 (by decide) (fun c_179 => ?_) (fun c_179 => ?_)
        · have hT : (o2W st (rJ M 90) x s).2.1 < 64 := by rw [o2W_n hn x (by omega)]; exact cnt_lt64 hx (bI_z.mp c_160)
          refine a_aload_n dX10_orders_185 rfl ?_
          refine a_getA (z := 89) kfX10_89 rfl rfl (st_64_41 hs) (by decide) (hlt hN (by decide)) dX10_orders_186 ?_
          refine a_aload_n dX10_orders_189 rfl ?_
          refine a_getI kfX10_254 rfl rfl (by decide) (hlt hN (by decide)) dX10_orders_190 ?_
          rw [wo_T]
          refine a_iload dX10_orders_193 rfl ?_
          refine a_iast rfl (by decide) (hlt hN (by decide)) (show vp_in _ 64 from j64_in hT) dX10_orders_195 ?_
          rw [j64_c hT, wo_s]
          refine a_aload_n dX10_orders_196 rfl ?_
          refine a_dup dX10_orders_197 rfl ?_
          refine a_getI kfX10_254 rfl rfl (by decide) (hlt hN (by decide)) dX10_orders_198 ?_
          rw [wo_T]
          refine a_iconst (v := 1) dX10_orders_201 (by decide) ?_
          refine a_iadd dX10_orders_202 ?_
          rw [show nI (o2W st (rJ M 90) x s).2.1 + 1 = nI ((o2W st (rJ M 90) x s).2.1 + 1) from nI_1 _]
          refine a_putI kfX10_254 rfl rfl rfl (by decide) (hlt hN (by decide)) dX10_orders_203 ?_
          rw [wo_i]
          refine a_lload dX10_orders_206 rfl ?_
          refine a_lconst (v := 1) dX10_orders_208 (by decide) ?_
          refine a_iload dX10_orders_209 rfl ?_
          refine a_lshl dX10_orders_211 rfl ?_
          rw [bitL_sh hx]
          refine a_lor dX10_orders_212 ?_
          refine a_lstore dX10_orders_213 (by decide) ?_
          refine a_iconst (v := 1) dX10_orders_215 (by decide) ?_
          refine a_istore dX10_orders_216 (by decide) ?_
          refine a_iinc dX10_orders_218 rfl rfl (by decide) ?_
          refine a_goto (tgt := 136) dX10_orders_221 (by decide) ?_
          rw [show nI x + Int32.ofInt 1 = nI (x + 1) from nI_1 x]
          first
          | (have q0 : bI (hb st (nI x) = true) = 0 := c_150
             have e : (o2W st (rJ M 90) (x + 1) s) = (o2W st (rJ M 90) x s) := if_neg (bI_z.mp q0)
             rw [← e]
             refine AW.sub (L' := [(0, .ref 64), (1, .int (nI i)), (2, .int (nI c)), (3, .int rt), (4, .long st), (8, .int (o2W st (rJ M 90) (x + 1) s).2.2.2), (9, .long (o2W st (rJ M 90) (x + 1) s).1), (11, .int (nI (x + 1)))]) rfl ?_
             exact ih (x + 1) (by omega))
          | (have q0 : ¬ bI (hb st (nI x) = true) = 0 := c_150
             have q1 : ¬ bI (hb (o2W st (rJ M 90) x s).1 (nI x) = true) = 0 := c_160
             have e : (o2W st (rJ M 90) (x + 1) s) = (o2W st (rJ M 90) x s) := (if_pos (bI_nz.mp q0)).trans (if_pos (bI_nz.mp q1))
             rw [← e]
             refine AW.sub (L' := [(0, .ref 64), (1, .int (nI i)), (2, .int (nI c)), (3, .int rt), (4, .long st), (8, .int (o2W st (rJ M 90) (x + 1) s).2.2.2), (9, .long (o2W st (rJ M 90) (x + 1) s).1), (11, .int (nI (x + 1)))]) rfl ?_
             exact ih (x + 1) (by omega))
          | (have q0 : ¬ bI (hb st (nI x) = true) = 0 := c_150
             have q1 : bI (hb (o2W st (rJ M 90) x s).1 (nI x) = true) = 0 := c_160
             have q2 : ¬ lg_cmp (rJ M 90 x &&& ((o2W st (rJ M 90) x s).1 ^^^ (-1))) 0 = 0 := c_179
             have e : (o2W st (rJ M 90) (x + 1) s) = (o2W st (rJ M 90) x s) := (if_pos (bI_nz.mp q0)).trans ((if_neg (bI_z.mp q1)).trans (if_neg (fun z => q2 ((lg_cmp_eq _ _).mpr z))))
             rw [← e]
             refine AW.sub (L' := [(0, .ref 64), (1, .int (nI i)), (2, .int (nI c)), (3, .int rt), (4, .long st), (8, .int (o2W st (rJ M 90) (x + 1) s).2.2.2), (9, .long (o2W st (rJ M 90) (x + 1) s).1), (11, .int (nI (x + 1)))]) rfl ?_
             exact ih (x + 1) (by omega))
          | (have e : (o2W st (rJ M 90) (x + 1) s) = (((o2W st (rJ M 90) x s).1 ||| bitL (nI x), (o2W st (rJ M 90) x s).2.1 + 1, fun j => if j = (o2W st (rJ M 90) x s).2.1 then nI x else (o2W st (rJ M 90) x s).2.2.1 j, 1) : O2) := (if_pos (bI_nz.mp c_150)).trans ((if_neg (bI_z.mp c_160)).trans (if_pos ((lg_cmp_eq _ _).mp c_179)))
             have ih2 := ih (x + 1) (by omega)
             rw [e] at ih2
             exact AW.sub (L' := [(0, .ref 64), (1, .int (nI i)), (2, .int (nI c)), (3, .int rt), (4, .long st), (8, .int 1), (9, .long (((o2W st (rJ M 90) x s).1 ||| bitL (nI x), (o2W st (rJ M 90) x s).2.1 + 1, fun j => if j = (o2W st (rJ M 90) x s).2.1 then nI x else (o2W st (rJ M 90) x s).2.2.1 j, 1) : O2).1), (11, .int (nI (x + 1)))]) rfl ih2)
        · refine a_goto (tgt := 218) dX10_orders_182 (by decide) ?_
          refine a_iinc dX10_orders_218 rfl rfl (by decide) ?_
          refine a_goto (tgt := 136) dX10_orders_221 (by decide) ?_
          rw [show nI x + Int32.ofInt 1 = nI (x + 1) from nI_1 x]
          first
          | (have q0 : bI (hb st (nI x) = true) = 0 := c_150
             have e : (o2W st (rJ M 90) (x + 1) s) = (o2W st (rJ M 90) x s) := if_neg (bI_z.mp q0)
             rw [← e]
             refine AW.sub (L' := [(0, .ref 64), (1, .int (nI i)), (2, .int (nI c)), (3, .int rt), (4, .long st), (8, .int (o2W st (rJ M 90) (x + 1) s).2.2.2), (9, .long (o2W st (rJ M 90) (x + 1) s).1), (11, .int (nI (x + 1)))]) rfl ?_
             exact ih (x + 1) (by omega))
          | (have q0 : ¬ bI (hb st (nI x) = true) = 0 := c_150
             have q1 : ¬ bI (hb (o2W st (rJ M 90) x s).1 (nI x) = true) = 0 := c_160
             have e : (o2W st (rJ M 90) (x + 1) s) = (o2W st (rJ M 90) x s) := (if_pos (bI_nz.mp q0)).trans (if_pos (bI_nz.mp q1))
             rw [← e]
             refine AW.sub (L' := [(0, .ref 64), (1, .int (nI i)), (2, .int (nI c)), (3, .int rt), (4, .long st), (8, .int (o2W st (rJ M 90) (x + 1) s).2.2.2), (9, .long (o2W st (rJ M 90) (x + 1) s).1), (11, .int (nI (x + 1)))]) rfl ?_
             exact ih (x + 1) (by omega))
          | (have q0 : ¬ bI (hb st (nI x) = true) = 0 := c_150
             have q1 : bI (hb (o2W st (rJ M 90) x s).1 (nI x) = true) = 0 := c_160
             have q2 : ¬ lg_cmp (rJ M 90 x &&& ((o2W st (rJ M 90) x s).1 ^^^ (-1))) 0 = 0 := c_179
             have e : (o2W st (rJ M 90) (x + 1) s) = (o2W st (rJ M 90) x s) := (if_pos (bI_nz.mp q0)).trans ((if_neg (bI_z.mp q1)).trans (if_neg (fun z => q2 ((lg_cmp_eq _ _).mpr z))))
             rw [← e]
             refine AW.sub (L' := [(0, .ref 64), (1, .int (nI i)), (2, .int (nI c)), (3, .int rt), (4, .long st), (8, .int (o2W st (rJ M 90) (x + 1) s).2.2.2), (9, .long (o2W st (rJ M 90) (x + 1) s).1), (11, .int (nI (x + 1)))]) rfl ?_
             exact ih (x + 1) (by omega))
          | (have e : (o2W st (rJ M 90) (x + 1) s) = (((o2W st (rJ M 90) x s).1 ||| bitL (nI x), (o2W st (rJ M 90) x s).2.1 + 1, fun j => if j = (o2W st (rJ M 90) x s).2.1 then nI x else (o2W st (rJ M 90) x s).2.2.1 j, 1) : O2) := (if_pos (bI_nz.mp c_150)).trans ((if_neg (bI_z.mp c_160)).trans (if_pos ((lg_cmp_eq _ _).mp c_179)))
             have ih2 := ih (x + 1) (by omega)
             rw [e] at ih2
             exact AW.sub (L' := [(0, .ref 64), (1, .int (nI i)), (2, .int (nI c)), (3, .int rt), (4, .long st), (8, .int 1), (9, .long (((o2W st (rJ M 90) x s).1 ||| bitL (nI x), (o2W st (rJ M 90) x s).2.1 + 1, fun j => if j = (o2W st (rJ M 90) x s).2.1 then nI x else (o2W st (rJ M 90) x s).2.2.1 j, 1) : O2).1), (11, .int (nI (x + 1)))]) rfl ih2)
theorem l_X10_o2R {M : Mem} {N : Nat} {Q : Option Value → Nat → Mem → Prop} {i c : Nat} {rt : Int32} {st : Int64} (hN : 94 ≤ N) (hs : Str M.2.2.1) : ∀ (r : Nat) (s : O2), (s.2.2.2 = 0 ∨ 64 < cnt s.1 64 + r) → s.2.1 = cnt s.1 64 → ((o2R st (rJ M 90) (r + 1) s).2.2.2 = (o2R st (rJ M 90) (r + 1) s).2.2.2 → AW mX10_orders 5 0 0 N 227 [(4, .long st), (9, .long (o2R st (rJ M 90) (r + 1) s).1)] [] (wo M (o2R st (rJ M 90) (r + 1) s).2.1 (o2R st (rJ M 90) (r + 1) s).2.2.1) Q) → AW mX10_orders 5 0 0 N 125 [(0, .ref 64), (1, .int (nI i)), (2, .int (nI c)), (3, .int rt), (4, .long st), (8, .int s.2.2.2), (9, .long s.1)] [] (wo M s.2.1 s.2.2.1) Q := by
  intro r
  induction r with
  | zero =>
    intro s hr hn h
    have e0 : s.2.2.2 = 0 := hr.resolve_right (by have := cnt_le (s := s.1) 64; omega)
    refine a_iload dX10_orders_125 rfl ?_
    refine a_if_eq (tgt := 227) dX10_orders_127 (by decide) (fun c_127 => ?_) (fun c_127 => absurd e0 c_127)
    refine AW.sub (L' := [(4, .long st), (9, .long s.1)]) rfl ?_
    have e : o2R st (rJ M 90) (0 + 1) s = s := if_pos e0
    rw [e] at h
    exact h rfl
  | succ r ih =>
    intro s hr hn h
    by_cases e0 : s.2.2.2 = 0
    · refine a_iload dX10_orders_125 rfl ?_
      refine a_if_eq (tgt := 227) dX10_orders_127 (by decide) (fun c_127 => ?_) (fun c_127 => absurd e0 c_127)
      refine AW.sub (L' := [(4, .long st), (9, .long s.1)]) rfl ?_
      have e : o2R st (rJ M 90) (r + 1 + 1) s = s := if_pos e0
      rw [e] at h
      exact h rfl
    · have hr2 : (o2W st (rJ M 90) 64 (s.1, s.2.1, s.2.2.1, (0 : Int32))).2.2.2 = 0 ∨ 64 < cnt (o2W st (rJ M 90) 64 (s.1, s.2.1, s.2.2.1, (0 : Int32))).1 64 + r := by
        have hc1 := hr.resolve_left e0
        rcases o2W_more (st := st) (nd := rJ M 90) (s := (s.1, s.2.1, s.2.2.1, (0 : Int32))) rfl 64 (Nat.le_refl _) with ⟨e, -⟩ | ⟨-, k⟩
        · exact Or.inl (by rw [e])
        · exact Or.inr (by have k2 : cnt s.1 64 + 1 ≤ _ := k; omega)
      have hn2 : (o2W st (rJ M 90) 64 (s.1, s.2.1, s.2.2.1, (0 : Int32))).2.1 = cnt (o2W st (rJ M 90) 64 (s.1, s.2.1, s.2.2.1, (0 : Int32))).1 64 := o2W_n (s := (s.1, s.2.1, s.2.2.1, (0 : Int32))) hn 64 (Nat.le_refl _)
      refine a_iload dX10_orders_125 rfl ?_
      refine a_if_eq (tgt := 227) dX10_orders_127 (by decide) (fun c_127 => absurd c_127 e0) (fun c_127 => ?_)
      refine a_iconst (v := 0) dX10_orders_130 (by decide) ?_
      refine a_istore dX10_orders_131 (by decide) ?_
      refine a_iconst (v := 0) dX10_orders_133 (by decide) ?_
      refine a_istore dX10_orders_134 (by decide) ?_
      refine AW.sub (L' := [(0, .ref 64), (1, .int (nI i)), (2, .int (nI c)), (3, .int rt), (4, .long st), (8, .int 0), (9, .long (s.1, s.2.1, s.2.2.1, (0 : Int32)).1), (11, .int (nI 0))]) rfl ?_
      exact l_X10_o2W (s := (s.1, s.2.1, s.2.2.1, (0 : Int32))) hn hN hs (ih _ hr2 hn2 (fun he => by rw [show o2R st (rJ M 90) (r + 1 + 1) s = o2R st (rJ M 90) (r + 1) (o2W st (rJ M 90) 64 (s.1, s.2.1, s.2.2.1, (0 : Int32))) from if_neg e0] at h; exact h he)) 64 0 (by omega)
