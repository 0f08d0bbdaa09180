def gdR (F : RS → RS) (s : RS) : RS := if s.2.1 = 0 then F s else s
def gdC (u : Nat → Int32) (n : Nat) (s : RS) : Int32 × RS := if s.2.1 = 0 then clR u n s else (0, s)
theorem mu_t {u : Nat → Int32} {n : Nat} {c : Int32} {s : RS} : (muR u n c s).2.2.2 = s.2.2.2 := by
  unfold muR avR
  split
  · rfl
  · exact flR_t
theorem ck_t {u : Nat → Int32} {n : Nat} {c : Int32} {s : RS} : (ckR u n c s).2.2.2 = s.2.2.2 := by
  unfold ckR avR
  split
  · rfl
  · exact flR_t
theorem cl_t {u : Nat → Int32} {n : Nat} {s : RS} : (clR u n s).2.2.2.2 = s.2.2.2 := ck_t.trans ck_t
theorem gd_t {F : RS → RS} {s : RS} (h : (F s).2.2.2 = s.2.2.2) : (gdR F s).2.2.2 = s.2.2.2 := by unfold gdR; split; exact h; rfl
theorem gc_t {u : Nat → Int32} {n : Nat} {s : RS} : (gdC u n s).2.2.2.2 = s.2.2.2 := by unfold gdC; split; exact cl_t; rfl
theorem RB.gd {k k' : Nat} {F : RS → RS} {s : RS} (hk : k ≤ k') (h : RB k s) (hF : RB k' (F s)) : RB k' (gdR F s) := by unfold gdR; split; exact hF; exact h.up hk
theorem RB.gc {u : Nat → Int32} {n k : Nat} {s : RS} (h : RB k s) : RB (k + 2) (gdC u n s).2 := by unfold gdC; split; exact h.cl; exact h.up (by omega)
theorem nr_t {u : Nat → Int32} {n p0 : Nat} : ∀ (r : Nat) (v : Int32) (s : RS), (nrL u n p0 r v s).2.2.2.2 = s.2.2.2
  | 0, _, _ => rfl
  | r + 1, v, s => by
    unfold nrL
    split
    · split
      · rw [nr_t r]
        show (if s.1 = p0 + 4 then flR 1 s else s).2.2.2 = _
        split
        · exact flR_t
        · rfl
      · rfl
    · rfl
theorem e_fa182 {M : Mem} {N : Nat} {Q : Option Value → Nat → Mem → Prop} {n : Nat} (hn : n ≤ 40) (he : rI M 64 23 = nI n) {s : RS} (hb : RB 60 s) (hm : s.2.2.2.1 < 40) {x3 x4 x5 x6 : Int32} (hN : 94 ≤ N) (hs : Str M.2.2.1) (h : Q (some (.int 1)) N (wr M (gdR (puR 2 x4 x6 x3 x5) s))) : AW mX10_factor 3 0 0 N 182 [(0, .ref 64), (3, .int x3), (4, .int x4), (5, .int x5), (6, .int x6)] [] (wr M s) Q := by
  refine a_aload_n dX10_factor_182 rfl ?_
  refine a_getI kfX10_132 rfl rfl (by decide) (hlt hN (by decide)) dX10_factor_183 ?_
  rw [wr_bad]
  refine a_if_ne (tgt := 201) dX10_factor_186 (by decide) (fun c_186 => ?_) (fun c_186 => ?_)
  · have b0 : ¬ s.2.1 = 0 := fun z => c_186 (by rw [z]; rfl)
    refine a_iconst (v := 1) dX10_factor_201 (by decide) ?_
    refine a_zret dX10_factor_202 rfl (Or.inr rfl) (by unfold gdR at h; first | (have e : s.2.1 = 0 := b0; rw [if_pos e] at h; exact h) | (have e : ¬ s.2.1 = 0 := b0; rw [if_neg e] at h; exact h))
  · have b0 : s.2.1 = 0 := (nI_z (by have := hb.2; omega)).mp c_186
    refine a_aload_n dX10_factor_189 rfl ?_
    refine a_iconst (v := 2) dX10_factor_190 (by decide) ?_
    refine a_iload dX10_factor_191 rfl ?_
    refine a_iload dX10_factor_193 rfl ?_
    refine a_iload_n dX10_factor_195 rfl ?_
    refine a_iload dX10_factor_196 rfl ?_
    refine a_callV (mc1 := 0) (ms1 := 0) (As := [_, _, _, _, _]) kpX10_puts kmX10_144 (by decide) rfl (Nat.le_of_ble_eq_true rfl) rfl (by decide) rfl (by decide) (hlt hN (by decide)) (Nat.le_of_ble_eq_true rfl) (Nat.le_of_ble_eq_true rfl) (Nat.le_of_ble_eq_true rfl) dX10_factor_198 (w_X10_puts (M := M) (s := s) hn he hm hN (by exact hs) ?_)
    refine a_iconst (v := 1) dX10_factor_201 (by decide) ?_
    refine a_zret dX10_factor_202 rfl (Or.inr rfl) (by unfold gdR at h; first | (have e : s.2.1 = 0 := b0; rw [if_pos e] at h; exact h) | (have e : ¬ s.2.1 = 0 := b0; rw [if_neg e] at h; exact h))
theorem e_fa169 {M : Mem} {N : Nat} {Q : Option Value → Nat → Mem → Prop} {n : Nat} (hn : n ≤ 40) (he : rI M 64 23 = nI n) {s : RS} (hb : RB 59 s) (hm : s.2.2.2.1 < 40) {x3 x4 x5 x6 : Int32} (hN : 94 ≤ N) (hs : Str M.2.2.1) (h : Q (some (.int 1)) N (wr M (gdR (puR 2 x4 x6 x3 x5) (gdR (muR (rI M 65) n 41) s)))) : AW mX10_factor 3 0 0 N 169 [(0, .ref 64), (3, .int x3), (4, .int x4), (5, .int x5), (6, .int x6)] [] (wr M s) Q := by
  refine a_aload_n dX10_factor_169 rfl ?_
  refine a_getI kfX10_132 rfl rfl (by decide) (hlt hN (by decide)) dX10_factor_170 ?_
  rw [wr_bad]
  refine a_if_ne (tgt := 182) dX10_factor_173 (by decide) (fun c_173 => ?_) (fun c_173 => ?_)
  · have b0 : ¬ s.2.1 = 0 := fun z => c_173 (by rw [z]; rfl)
    refine AW.sub (L' := [(0, .ref 64), (3, .int x3), (4, .int x4), (5, .int x5), (6, .int x6)]) rfl ?_
    first
    | (have e : s.2.1 = 0 := b0
       have eg : gdR (muR (rI M 65) n 41) s = (muR (rI M 65) n 41) s := if_pos e
       rw [eg] at h
       exact e_fa182 hn he ((hb.mu).up (by omega)) (by rw [mu_t]; exact hm) hN (by exact hs) h)
    | (have e : ¬ s.2.1 = 0 := b0
       have eg : gdR (muR (rI M 65) n 41) s = s := if_neg e
       rw [eg] at h
       exact e_fa182 hn he (hb.up (by omega)) hm hN (by exact hs) h)
  · have b0 : s.2.1 = 0 := (nI_z (by have := hb.2; omega)).mp c_173
    refine a_aload_n dX10_factor_176 rfl ?_
    refine a_bipush (v := 41) dX10_factor_177 (by decide) ?_
    refine a_callV (mc1 := 0) (ms1 := 0) (As := [_]) kpX10_must kmX10_172 (by decide) rfl (Nat.le_of_ble_eq_true rfl) rfl (by decide) rfl (by decide) (hlt hN (by decide)) (Nat.le_of_ble_eq_true rfl) (Nat.le_of_ble_eq_true rfl) (Nat.le_of_ble_eq_true rfl) dX10_factor_179 (w_X10_must (M := M) (s := s) hn he (by have := hb.1; omega) (by have := hb.2; omega) hN (by exact hs) ?_)
    refine AW.sub (L' := [(0, .ref 64), (3, .int x3), (4, .int x4), (5, .int x5), (6, .int x6)]) rfl ?_
    first
    | (have e : s.2.1 = 0 := b0
       have eg : gdR (muR (rI M 65) n 41) s = (muR (rI M 65) n 41) s := if_pos e
       rw [eg] at h
       exact e_fa182 hn he ((hb.mu).up (by omega)) (by rw [mu_t]; exact hm) hN (by exact hs) h)
    | (have e : ¬ s.2.1 = 0 := b0
       have eg : gdR (muR (rI M 65) n 41) s = s := if_neg e
       rw [eg] at h
       exact e_fa182 hn he (hb.up (by omega)) hm hN (by exact hs) h)
theorem e_fa146 {M : Mem} {N : Nat} {Q : Option Value → Nat → Mem → Prop} {n : Nat} (hn : n ≤ 40) (he : rI M 64 23 = nI n) {s : RS} (hb : RB 57 s) (hm : s.2.2.2.1 < 40) {x3 x4 : Int32} (hN : 94 ≤ N) (hs : Str M.2.2.1) (h : Q (some (.int 1)) N (wr M (gdR (puR 2 x4 (gdC (rI M 65) n s).1 x3 (nI s.1)) (gdR (muR (rI M 65) n 41) (gdC (rI M 65) n s).2)))) : AW mX10_factor 3 0 0 N 146 [(0, .ref 64), (3, .int x3), (4, .int x4)] [] (wr M s) Q := by
  refine a_aload_n dX10_factor_146 rfl ?_
  refine a_getI kfX10_126 rfl rfl (by decide) (hlt hN (by decide)) dX10_factor_147 ?_
  rw [wr_at]
  refine a_istore dX10_factor_150 (by decide) ?_
  refine a_aload_n dX10_factor_152 rfl ?_
  refine a_getI kfX10_132 rfl rfl (by decide) (hlt hN (by decide)) dX10_factor_153 ?_
  rw [wr_bad]
  refine a_if_ne (tgt := 166) dX10_factor_156 (by decide) (fun c_156 => ?_) (fun c_156 => ?_)
  · have b0 : ¬ s.2.1 = 0 := fun z => c_156 (by rw [z]; rfl)
    refine a_iconst (v := 0) dX10_factor_166 (by decide) ?_
    refine a_istore dX10_factor_167 (by decide) ?_
    first
    | (have e : s.2.1 = 0 := b0
       have eg : gdC (rI M 65) n s = clR (rI M 65) n s := if_pos e
       rw [eg] at h
       refine AW.sub (L' := [(0, .ref 64), (3, .int x3), (4, .int x4), (5, .int (nI s.1)), (6, .int ((clR (rI M 65) n s).1))]) rfl ?_
       exact e_fa169 hn he ((hb.cl).up (by omega)) (by rw [cl_t]; exact hm) hN (by exact hs) h)
    | (have e : ¬ s.2.1 = 0 := b0
       have eg : gdC (rI M 65) n s = (0, s) := if_neg e
       rw [eg] at h
       refine AW.sub (L' := [(0, .ref 64), (3, .int x3), (4, .int x4), (5, .int (nI s.1)), (6, .int (0))]) rfl ?_
       exact e_fa169 hn he (hb.up (by omega)) hm hN (by exact hs) h)
  · have b0 : s.2.1 = 0 := (nI_z (by have := hb.2; omega)).mp c_156
    refine a_aload_n dX10_factor_159 rfl ?_
    refine a_callV (mc1 := 0) (ms1 := 0) (As := []) kpX10_readCell kmX10_175 (by decide) rfl (Nat.le_of_ble_eq_true rfl) rfl (by decide) rfl (by decide) (hlt hN (by decide)) (Nat.le_of_ble_eq_true rfl) (Nat.le_of_ble_eq_true rfl) (Nat.le_of_ble_eq_true rfl) dX10_factor_160 (w_X10_readCell (M := M) (s := s) hn he (hb.up (by omega)) hN (by exact hs) ?_)
    refine a_goto (tgt := 167) dX10_factor_163 (by decide) ?_
    refine a_istore dX10_factor_167 (by decide) ?_
    first
    | (have e : s.2.1 = 0 := b0
       have eg : gdC (rI M 65) n s = clR (rI M 65) n s := if_pos e
       rw [eg] at h
       refine AW.sub (L' := [(0, .ref 64), (3, .int x3), (4, .int x4), (5, .int (nI s.1)), (6, .int ((clR (rI M 65) n s).1))]) rfl ?_
       exact e_fa169 hn he ((hb.cl).up (by omega)) (by rw [cl_t]; exact hm) hN (by exact hs) h)
    | (have e : ¬ s.2.1 = 0 := b0
       have eg : gdC (rI M 65) n s = (0, s) := if_neg e
       rw [eg] at h
       refine AW.sub (L' := [(0, .ref 64), (3, .int x3), (4, .int x4), (5, .int (nI s.1)), (6, .int (0))]) rfl ?_
       exact e_fa169 hn he (hb.up (by omega)) hm hN (by exact hs) h)
theorem e_fa133 {M : Mem} {N : Nat} {Q : Option Value → Nat → Mem → Prop} {n : Nat} (hn : n ≤ 40) (he : rI M 64 23 = nI n) {s : RS} (hb : RB 56 s) (hm : s.2.2.2.1 < 40) {x3 x4 : Int32} (hN : 94 ≤ N) (hs : Str M.2.2.1) (h : Q (some (.int 1)) N (wr M (gdR (puR 2 x4 (gdC (rI M 65) n (gdR (muR (rI M 65) n 58) s)).1 x3 (nI ((gdR (muR (rI M 65) n 58) s)).1)) (gdR (muR (rI M 65) n 41) (gdC (rI M 65) n (gdR (muR (rI M 65) n 58) s)).2)))) : AW mX10_factor 3 0 0 N 133 [(0, .ref 64), (3, .int x3), (4, .int x4)] [] (wr M s) Q := by
  refine a_aload_n dX10_factor_133 rfl ?_
  refine a_getI kfX10_132 rfl rfl (by decide) (hlt hN (by decide)) dX10_factor_134 ?_
  rw [wr_bad]
  refine a_if_ne (tgt := 146) dX10_factor_137 (by decide) (fun c_137 => ?_) (fun c_137 => ?_)
  · have b0 : ¬ s.2.1 = 0 := fun z => c_137 (by rw [z]; rfl)
    refine AW.sub (L' := [(0, .ref 64), (3, .int x3), (4, .int x4)]) rfl ?_
    first
    | (have e : s.2.1 = 0 := b0
       have eg : gdR (muR (rI M 65) n 58) s = (muR (rI M 65) n 58) s := if_pos e
       rw [eg] at h
       exact e_fa146 hn he ((hb.mu).up (by omega)) (by rw [mu_t]; exact hm) hN (by exact hs) h)
    | (have e : ¬ s.2.1 = 0 := b0
       have eg : gdR (muR (rI M 65) n 58) s = s := if_neg e
       rw [eg] at h
       exact e_fa146 hn he (hb.up (by omega)) hm hN (by exact hs) h)
  · have b0 : s.2.1 = 0 := (nI_z (by have := hb.2; omega)).mp c_137
    refine a_aload_n dX10_factor_140 rfl ?_
    refine a_bipush (v := 58) dX10_factor_141 (by decide) ?_
    refine a_callV (mc1 := 0) (ms1 := 0) (As := [_]) kpX10_must kmX10_172 (by decide) rfl (Nat.le_of_ble_eq_true rfl) rfl (by decide) rfl (by decide) (hlt hN (by decide)) (Nat.le_of_ble_eq_true rfl) (Nat.le_of_ble_eq_true rfl) (Nat.le_of_ble_eq_true rfl) dX10_factor_143 (w_X10_must (M := M) (s := s) hn he (by have := hb.1; omega) (by have := hb.2; omega) hN (by exact hs) ?_)
    refine AW.sub (L' := [(0, .ref 64), (3, .int x3), (4, .int x4)]) rfl ?_
    first
    | (have e : s.2.1 = 0 := b0
       have eg : gdR (muR (rI M 65) n 58) s = (muR (rI M 65) n 58) s := if_pos e
       rw [eg] at h
       exact e_fa146 hn he ((hb.mu).up (by omega)) (by rw [mu_t]; exact hm) hN (by exact hs) h)
    | (have e : ¬ s.2.1 = 0 := b0
       have eg : gdR (muR (rI M 65) n 58) s = s := if_neg e
       rw [eg] at h
       exact e_fa146 hn he (hb.up (by omega)) hm hN (by exact hs) h)
def faT (u : Nat → Int32) (n : Nat) (x3 x4 : Int32) (s : RS) : RS := gdR (puR 2 x4 (gdC u n (gdR (muR u n 58) s)).1 x3 (nI (gdR (muR u n 58) s).1)) (gdR (muR u n 41) (gdC u n (gdR (muR u n 58) s)).2)
def faU (u : Nat → Int32) (n : Nat) (s : RS) : RS := faT u n (nI s.1) (gdC u n s).1 (gdC u n s).2
def faS (u : Nat → Int32) (n : Nat) (s : RS) : RS := faU u n (gdR (muR u n 40) (avR (if s.2.2.2.2.2.1 = 6 then flR 2 s else s)))
theorem e_fa111 {M : Mem} {N : Nat} {Q : Option Value → Nat → Mem → Prop} {n : Nat} (hn : n ≤ 40) (he : rI M 64 23 = nI n) {s : RS} (hb : RB 54 s) (hm : s.2.2.2.1 < 40) (hN : 94 ≤ N) (hs : Str M.2.2.1) (h : Q (some (.int 1)) N (wr M (faT (rI M 65) n (nI s.1) (gdC (rI M 65) n s).1 (gdC (rI M 65) n s).2))) : AW mX10_factor 3 0 0 N 111 [(0, .ref 64)] [] (wr M s) Q := by
  refine a_aload_n dX10_factor_111 rfl ?_
  refine a_getI kfX10_126 rfl rfl (by decide) (hlt hN (by decide)) dX10_factor_112 ?_
  rw [wr_at]
  refine a_istore_n dX10_factor_115 (by decide) ?_
  refine a_aload_n dX10_factor_116 rfl ?_
  refine a_getI kfX10_132 rfl rfl (by decide) (hlt hN (by decide)) dX10_factor_117 ?_
  rw [wr_bad]
  refine a_if_ne (tgt := 130) dX10_factor_120 (by decide) (fun c_120 => ?_) (fun c_120 => ?_)
  · have b0 : ¬ s.2.1 = 0 := fun z => c_120 (by rw [z]; rfl)
    refine a_iconst (v := 0) dX10_factor_130 (by decide) ?_
    refine a_istore dX10_factor_131 (by decide) ?_
    first
    | (have e : s.2.1 = 0 := b0
       have eg : gdC (rI M 65) n s = clR (rI M 65) n s := if_pos e
       rw [eg] at h
       refine AW.sub (L' := [(0, .ref 64), (3, .int (nI s.1)), (4, .int ((clR (rI M 65) n s).1))]) rfl ?_
       exact e_fa133 hn he ((hb.cl).up (by omega)) (by rw [cl_t]; exact hm) hN (by exact hs) h)
    | (have e : ¬ s.2.1 = 0 := b0
       have eg : gdC (rI M 65) n s = (0, s) := if_neg e
       rw [eg] at h
       refine AW.sub (L' := [(0, .ref 64), (3, .int (nI s.1)), (4, .int (0))]) rfl ?_
       exact e_fa133 hn he (hb.up (by omega)) hm hN (by exact hs) h)
  · have b0 : s.2.1 = 0 := (nI_z (by have := hb.2; omega)).mp c_120
    refine a_aload_n dX10_factor_123 rfl ?_
    refine a_callV (mc1 := 0) (ms1 := 0) (As := []) kpX10_readCell kmX10_175 (by decide) rfl (Nat.le_of_ble_eq_true rfl) rfl (by decide) rfl (by decide) (hlt hN (by decide)) (Nat.le_of_ble_eq_true rfl) (Nat.le_of_ble_eq_true rfl) (Nat.le_of_ble_eq_true rfl) dX10_factor_124 (w_X10_readCell (M := M) (s := s) hn he (hb.up (by omega)) hN (by exact hs) ?_)
    refine a_goto (tgt := 131) dX10_factor_127 (by decide) ?_
    refine a_istore dX10_factor_131 (by decide) ?_
    first
    | (have e : s.2.1 = 0 := b0
       have eg : gdC (rI M 65) n s = clR (rI M 65) n s := if_pos e
       rw [eg] at h
       refine AW.sub (L' := [(0, .ref 64), (3, .int (nI s.1)), (4, .int ((clR (rI M 65) n s).1))]) rfl ?_
       exact e_fa133 hn he ((hb.cl).up (by omega)) (by rw [cl_t]; exact hm) hN (by exact hs) h)
    | (have e : ¬ s.2.1 = 0 := b0
       have eg : gdC (rI M 65) n s = (0, s) := if_neg e
       rw [eg] at h
       refine AW.sub (L' := [(0, .ref 64), (3, .int (nI s.1)), (4, .int (0))]) rfl ?_
       exact e_fa133 hn he (hb.up (by omega)) hm hN (by exact hs) h)
theorem e_fa98 {M : Mem} {N : Nat} {Q : Option Value → Nat → Mem → Prop} {n : Nat} (hn : n ≤ 40) (he : rI M 64 23 = nI n) {s : RS} (hb : RB 53 s) (hm : s.2.2.2.1 < 40) (hN : 94 ≤ N) (hs : Str M.2.2.1) (h : Q (some (.int 1)) N (wr M (faU (rI M 65) n (gdR (muR (rI M 65) n 40) s)))) : AW mX10_factor 3 0 0 N 98 [(0, .ref 64)] [] (wr M s) Q := by
  refine a_aload_n dX10_factor_98 rfl ?_
  refine a_getI kfX10_132 rfl rfl (by decide) (hlt hN (by decide)) dX10_factor_99 ?_
  rw [wr_bad]
  refine a_if_ne (tgt := 111) dX10_factor_102 (by decide) (fun c_102 => ?_) (fun c_102 => ?_)
  · have b0 : ¬ s.2.1 = 0 := fun z => c_102 (by rw [z]; rfl)
    refine AW.sub (L' := [(0, .ref 64)]) rfl ?_
    first
    | (have e : s.2.1 = 0 := b0
       have eg : gdR (muR (rI M 65) n 40) s = (muR (rI M 65) n 40) s := if_pos e
       rw [eg] at h
       exact e_fa111 hn he ((hb.mu).up (by omega)) (by rw [mu_t]; exact hm) hN (by exact hs) h)
    | (have e : ¬ s.2.1 = 0 := b0
       have eg : gdR (muR (rI M 65) n 40) s = s := if_neg e
       rw [eg] at h
       exact e_fa111 hn he (hb.up (by omega)) hm hN (by exact hs) h)
  · have b0 : s.2.1 = 0 := (nI_z (by have := hb.2; omega)).mp c_102
    refine a_aload_n dX10_factor_105 rfl ?_
    refine a_bipush (v := 40) dX10_factor_106 (by decide) ?_
    refine a_callV (mc1 := 0) (ms1 := 0) (As := [_]) kpX10_must kmX10_172 (by decide) rfl (Nat.le_of_ble_eq_true rfl) rfl (by decide) rfl (by decide) (hlt hN (by decide)) (Nat.le_of_ble_eq_true rfl) (Nat.le_of_ble_eq_true rfl) (Nat.le_of_ble_eq_true rfl) dX10_factor_108 (w_X10_must (M := M) (s := s) hn he (by have := hb.1; omega) (by have := hb.2; omega) hN (by exact hs) ?_)
    refine AW.sub (L' := [(0, .ref 64)]) rfl ?_
    first
    | (have e : s.2.1 = 0 := b0
       have eg : gdR (muR (rI M 65) n 40) s = (muR (rI M 65) n 40) s := if_pos e
       rw [eg] at h
       exact e_fa111 hn he ((hb.mu).up (by omega)) (by rw [mu_t]; exact hm) hN (by exact hs) h)
    | (have e : ¬ s.2.1 = 0 := b0
       have eg : gdR (muR (rI M 65) n 40) s = s := if_neg e
       rw [eg] at h
       exact e_fa111 hn he (hb.up (by omega)) hm hN (by exact hs) h)
theorem e_fa88 {M : Mem} {N : Nat} {Q : Option Value → Nat → Mem → Prop} {n : Nat} (hn : n ≤ 40) (he : rI M 64 23 = nI n) {s : RS} (hb : RB 52 s) (hm : s.2.2.2.1 < 40) (hN : 94 ≤ N) (hs : Str M.2.2.1) (h : Q (some (.int 1)) N (wr M (faU (rI M 65) n (gdR (muR (rI M 65) n 40) (avR s))))) : AW mX10_factor 3 0 0 N 88 [(0, .ref 64)] [] (wr M s) Q := by
  refine a_aload_n dX10_factor_88 rfl ?_
  refine a_dup dX10_factor_89 rfl ?_
  refine a_getI kfX10_126 rfl rfl (by decide) (hlt hN (by decide)) dX10_factor_90 ?_
  rw [wr_at]
  refine a_iconst (v := 1) dX10_factor_93 (by decide) ?_
  refine a_iadd dX10_factor_94 ?_
  rw [nI_1]
  refine a_putI kfX10_126 rfl rfl rfl (by decide) (hlt hN (by decide)) dX10_factor_95 ?_
  rw [wr_sat]
  exact e_fa98 hn he (hb.av.up (by omega)) hm hN (by exact hs) h
theorem e_fa70 {M : Mem} {N : Nat} {Q : Option Value → Nat → Mem → Prop} {n : Nat} (hn : n ≤ 40) (he : rI M 64 23 = nI n) {s : RS} (hb : RB 52 s) (hm : s.2.2.2.1 < 40) (hN : 94 ≤ N) (hs : Str M.2.2.1) (h : Q (some (.int 1)) N (wr M (faS (rI M 65) n s))) : AW mX10_factor 3 0 0 N 70 [(0, .ref 64)] [] (wr M s) Q := by
  refine a_aload_n dX10_factor_70 rfl ?_
  refine a_getI kfX10_148 rfl rfl (by decide) (hlt hN (by decide)) dX10_factor_71 ?_
  refine a_bipush (v := 6) dX10_factor_74 (by decide) ?_
  rw [wr_op]
  refine a_icmp_ne (tgt := 88) dX10_factor_76 (by decide) (fun c_76 => ?_) (fun c_76 => ?_)
  · have b6 : ¬ s.2.2.2.2.2.1 = 6 := c_76
    unfold faS at h
    first
    | (have e : s.2.2.2.2.2.1 = 6 := b6
       rw [if_pos e] at h
       exact e_fa88 hn he (hb.fl (by decide)) (by rw [flR_t]; exact hm) hN (by exact hs) h)
    | (have e : ¬ s.2.2.2.2.2.1 = 6 := b6
       rw [if_neg e] at h
       exact e_fa88 hn he hb hm hN (by exact hs) h)
  · have b6 : s.2.2.2.2.2.1 = 6 := c_76
    refine a_aload_n dX10_factor_79 rfl ?_
    refine a_iconst (v := 2) dX10_factor_80 (by decide) ?_
    refine a_aload_n dX10_factor_81 rfl ?_
    refine a_getI kfX10_126 rfl rfl (by decide) (hlt hN (by decide)) dX10_factor_82 ?_
    rw [wr_at]
    refine a_callV (mc1 := 0) (ms1 := 0) (As := [_, _]) kpX10_fails kmX10_151 (by decide) rfl (Nat.le_of_ble_eq_true rfl) rfl (by decide) rfl (by decide) (hlt hN (by decide)) (Nat.le_of_ble_eq_true rfl) (Nat.le_of_ble_eq_true rfl) (Nat.le_of_ble_eq_true rfl) dX10_factor_85 (w_X10_fails (w := 2) (M := M) (s := s) hn he (by have := hb.2; omega) hN (by exact hs) ?_)
    unfold faS at h
    first
    | (have e : s.2.2.2.2.2.1 = 6 := b6
       rw [if_pos e] at h
       exact e_fa88 hn he (hb.fl (by decide)) (by rw [flR_t]; exact hm) hN (by exact hs) h)
    | (have e : ¬ s.2.2.2.2.2.1 = 6 := b6
       rw [if_neg e] at h
       exact e_fa88 hn he hb hm hN (by exact hs) h)
def fbR (u : Nat → Int32) (n : Nat) (s : RS) : RS := if 48 ≤ (hrR u n s).toInt ∧ (hrR u n s).toInt ≤ 57 then gdR (puR 0 (nrR u n s).1 0 (nI s.1) (-1)) (nrR u n s).2 else gdR (puR 1 (clR u n s).1 0 (nI s.1) (-1)) (clR u n s).2
def faR (u : Nat → Int32) (n : Nat) (s : RS) : Int32 × RS := if hrR u n s = 45 then (0, opR 3 s) else if hrR u n s = 40 then (0, opR 9 s) else if hrR u n s = 77 then (0, gdR (muR u n 40) (opR 10 s)) else if hrR u n s = 83 then (1, faS u n s) else (1, fbR u n s)
theorem op_b {w : Int32} {k : Nat} {s : RS} (h : RB k s) : RB (k + 1) (opR w s) := by
  unfold opR
  split
  · have := h.fl (w := 2) (by decide)
    exact ⟨Nat.succ_le_succ this.1, this.2⟩
  · exact ⟨Nat.succ_le_succ h.1, h.2⟩
theorem nrL_b {u : Nat → Int32} {n p0 : Nat} : ∀ (r : Nat) (v : Int32) (s : RS), RB (n + 1) s → RB (n + 1) (nrL u n p0 r v s).2
  | 0, _, _, h => h
  | r + 1, v, s, h => by
    unfold nrL
    split
    · split
      · rename_i c
        have hl := dig_lt c
        refine nrL_b r _ _ ?_
        split
        · exact ⟨by show (flR 1 s).1 + 1 ≤ n + 1; rw [flR_1]; omega, (h.fl (w := 1) (by decide)).2⟩
        · exact ⟨by show s.1 + 1 ≤ n + 1; omega, h.2⟩
      · exact h
    · exact h
theorem w_X10_factor {M : Mem} {N : Nat} {Q : Option Value → Nat → Mem → Prop} {n : Nat} (hn : n ≤ 40) (he : rI M 64 23 = nI n) {s : RS} (hb : RB (n + 1) s) (hm : s.2.2.2.1 < 40) (htp : s.2.2.2.2.1 < 40)  (hN : 94 ≤ N) (hs : Str M.2.2.1) (h : Q (some (.int (faR (rI M 65) n s).1)) N (wr M (faR (rI M 65) n s).2)) : AW mX10_factor 3 0 0 N 0 [(0, .ref 64)] [] (wr M s) Q := by
  refine a_aload_n dX10_factor_0 rfl ?_
  refine a_callV (mc1 := 0) (ms1 := 0) (As := []) kpX10_here kmX10_158 (by decide) rfl (Nat.le_of_ble_eq_true rfl) rfl (by decide) rfl (by decide) (hlt hN (by decide)) (Nat.le_of_ble_eq_true rfl) (Nat.le_of_ble_eq_true rfl) (Nat.le_of_ble_eq_true rfl) dX10_factor_1 (w_X10_here (M := M) hn he (by have := hb.1; omega) hN (by exact hs) ?_)
  refine a_istore_n dX10_factor_4 (by decide) ?_
  refine a_aload_n dX10_factor_5 rfl ?_
  refine a_getI kfX10_126 rfl rfl (by decide) (hlt hN (by decide)) dX10_factor_6 ?_
  rw [wr_at]
  refine a_istore_n dX10_factor_9 (by decide) ?_
  refine a_iload_n dX10_factor_10 rfl ?_
  refine a_bipush (v := 45) dX10_factor_11 (by decide) ?_
  refine a_icmp_ne (tgt := 23) dX10_factor_13 (by decide) (fun c_13 => ?_) (fun c_13 => ?_)
  · refine a_iload_n dX10_factor_23 rfl ?_
    refine a_bipush (v := 40) dX10_factor_24 (by decide) ?_
    refine a_icmp_ne (tgt := 37) dX10_factor_26 (by decide) (fun c_26 => ?_) (fun c_26 => ?_)
    · refine a_iload_n dX10_factor_37 rfl ?_
      refine a_bipush (v := 77) dX10_factor_38 (by decide) ?_
      refine a_icmp_ne (tgt := 64) dX10_factor_40 (by decide) (fun c_40 => ?_) (fun c_40 => ?_)
      · refine a_iload_n dX10_factor_64 rfl ?_
        refine a_bipush (v := 83) dX10_factor_65 (by decide) ?_
        refine a_icmp_ne (tgt := 203) dX10_factor_67 (by decide) (fun c_67 => ?_) (fun c_67 => ?_)
        · refine a_aload_n dX10_factor_203 rfl ?_
          refine a_callV (mc1 := 0) (ms1 := 0) (As := []) kpX10_seesDigit kmX10_162 (by decide) rfl (Nat.le_of_ble_eq_true rfl) rfl (by decide) rfl (by decide) (hlt hN (by decide)) (Nat.le_of_ble_eq_true rfl) (Nat.le_of_ble_eq_true rfl) (Nat.le_of_ble_eq_true rfl) dX10_factor_204 (w_X10_seesDigit (M := M) hn he (by have := hb.1; omega) hN (by exact hs) ?_)
          refine a_if_eq (tgt := 233) dX10_factor_207 (by decide) (fun c_207 => ?_) (fun c_207 => ?_)
          · refine a_aload_n dX10_factor_233 rfl ?_
            refine a_callV (mc1 := 0) (ms1 := 0) (As := []) kpX10_readCell kmX10_175 (by decide) rfl (Nat.le_of_ble_eq_true rfl) rfl (by decide) rfl (by decide) (hlt hN (by decide)) (Nat.le_of_ble_eq_true rfl) (Nat.le_of_ble_eq_true rfl) (Nat.le_of_ble_eq_true rfl) dX10_factor_234 (w_X10_readCell (M := M) (s := s) hn he (hb.up (by omega)) hN (by exact hs) ?_)
            refine a_istore_n dX10_factor_237 (by decide) ?_
            refine a_aload_n dX10_factor_238 rfl ?_
            refine a_getI kfX10_132 rfl rfl (by decide) (hlt hN (by decide)) dX10_factor_239 ?_
            rw [wr_bad]
            refine a_if_ne (tgt := 254) dX10_factor_242 (by decide) (fun c_242 => ?_) (fun c_242 => ?_)
            · have b3 : ¬ (clR (rI M 65) n s).2.2.1 = 0 := fun z => c_242 (by rw [z]; rfl)
              refine a_iconst (v := 1) dX10_factor_254 (by decide) ?_
              refine a_zret dX10_factor_255 rfl (Or.inr rfl) (by unfold faR at h; first | (have e : hrR (rI M 65) n s = 45 := c_13; rw [if_pos e] at h; exact h) | (have e : hrR (rI M 65) n s = 40 := c_26; rw [if_neg c_13, if_pos e] at h; exact h) | (have e : hrR (rI M 65) n s = 77 := c_40; have e2 : (opR 10 s).2.1 = 0 := b1; have eg : gdR (muR (rI M 65) n 40) (opR 10 s) = muR (rI M 65) n 40 (opR 10 s) := if_pos e2; rw [if_neg c_13, if_neg c_26, if_pos e, eg] at h; exact h) | (have e : hrR (rI M 65) n s = 77 := c_40; have e2 : ¬ (opR 10 s).2.1 = 0 := b1; have eg : gdR (muR (rI M 65) n 40) (opR 10 s) = opR 10 s := if_neg e2; rw [if_neg c_13, if_neg c_26, if_pos e, eg] at h; exact h) | (rw [if_neg c_13, if_neg c_26, if_neg c_40, if_neg c_67] at h; unfold fbR at h; first | (have e5 : (nrR (rI M 65) n s).2.2.1 = 0 := b2; rw [if_pos (bI_nz.mp c_207)] at h; unfold gdR at h; rw [if_pos e5] at h; exact h) | (have e5 : ¬ (nrR (rI M 65) n s).2.2.1 = 0 := b2; rw [if_pos (bI_nz.mp c_207)] at h; unfold gdR at h; rw [if_neg e5] at h; exact h) | (have e5 : (clR (rI M 65) n s).2.2.1 = 0 := b3; rw [if_neg (bI_z.mp c_207)] at h; unfold gdR at h; rw [if_pos e5] at h; exact h) | (have e5 : ¬ (clR (rI M 65) n s).2.2.1 = 0 := b3; rw [if_neg (bI_z.mp c_207)] at h; unfold gdR at h; rw [if_neg e5] at h; exact h)))
            · have b3 : (clR (rI M 65) n s).2.2.1 = 0 := (nI_z (by have := (hb.cl (u := (rI M 65)) (n := n)).2; omega)).mp c_242
              refine a_aload_n dX10_factor_245 rfl ?_
              refine a_iconst (v := 1) dX10_factor_246 (by decide) ?_
              refine a_iload_n dX10_factor_247 rfl ?_
              refine a_iconst (v := 0) dX10_factor_248 (by decide) ?_
              refine a_iload_n dX10_factor_249 rfl ?_
              refine a_iconst (v := (-1)) dX10_factor_250 (by decide) ?_
              refine a_callV (mc1 := 0) (ms1 := 0) (As := [_, _, _, _, _]) kpX10_puts kmX10_144 (by decide) rfl (Nat.le_of_ble_eq_true rfl) rfl (by decide) rfl (by decide) (hlt hN (by decide)) (Nat.le_of_ble_eq_true rfl) (Nat.le_of_ble_eq_true rfl) (Nat.le_of_ble_eq_true rfl) dX10_factor_251 (w_X10_puts (M := M) (s := (clR (rI M 65) n s).2) hn he (by rw [cl_t]; exact hm) hN (by exact hs) ?_)
              refine a_iconst (v := 1) dX10_factor_254 (by decide) ?_
              refine a_zret dX10_factor_255 rfl (Or.inr rfl) (by unfold faR at h; first | (have e : hrR (rI M 65) n s = 45 := c_13; rw [if_pos e] at h; exact h) | (have e : hrR (rI M 65) n s = 40 := c_26; rw [if_neg c_13, if_pos e] at h; exact h) | (have e : hrR (rI M 65) n s = 77 := c_40; have e2 : (opR 10 s).2.1 = 0 := b1; have eg : gdR (muR (rI M 65) n 40) (opR 10 s) = muR (rI M 65) n 40 (opR 10 s) := if_pos e2; rw [if_neg c_13, if_neg c_26, if_pos e, eg] at h; exact h) | (have e : hrR (rI M 65) n s = 77 := c_40; have e2 : ¬ (opR 10 s).2.1 = 0 := b1; have eg : gdR (muR (rI M 65) n 40) (opR 10 s) = opR 10 s := if_neg e2; rw [if_neg c_13, if_neg c_26, if_pos e, eg] at h; exact h) | (rw [if_neg c_13, if_neg c_26, if_neg c_40, if_neg c_67] at h; unfold fbR at h; first | (have e5 : (nrR (rI M 65) n s).2.2.1 = 0 := b2; rw [if_pos (bI_nz.mp c_207)] at h; unfold gdR at h; rw [if_pos e5] at h; exact h) | (have e5 : ¬ (nrR (rI M 65) n s).2.2.1 = 0 := b2; rw [if_pos (bI_nz.mp c_207)] at h; unfold gdR at h; rw [if_neg e5] at h; exact h) | (have e5 : (clR (rI M 65) n s).2.2.1 = 0 := b3; rw [if_neg (bI_z.mp c_207)] at h; unfold gdR at h; rw [if_pos e5] at h; exact h) | (have e5 : ¬ (clR (rI M 65) n s).2.2.1 = 0 := b3; rw [if_neg (bI_z.mp c_207)] at h; unfold gdR at h; rw [if_neg e5] at h; exact h)))
          · refine a_aload_n dX10_factor_210 rfl ?_
            refine a_callV (mc1 := 0) (ms1 := 0) (As := []) kpX10_readNumber kmX10_178 (by decide) rfl (Nat.le_of_ble_eq_true rfl) rfl (by decide) rfl (by decide) (hlt hN (by decide)) (Nat.le_of_ble_eq_true rfl) (Nat.le_of_ble_eq_true rfl) (Nat.le_of_ble_eq_true rfl) dX10_factor_211 (w_X10_readNumber (M := M) (s := s) hn he hb hN (by exact hs) ?_)
            refine a_istore_n dX10_factor_214 (by decide) ?_
            refine a_aload_n dX10_factor_215 rfl ?_
            refine a_getI kfX10_132 rfl rfl (by decide) (hlt hN (by decide)) dX10_factor_216 ?_
            rw [wr_bad]
            refine a_if_ne (tgt := 231) dX10_factor_219 (by decide) (fun c_219 => ?_) (fun c_219 => ?_)
            · have b2 : ¬ (nrR (rI M 65) n s).2.2.1 = 0 := fun z => c_219 (by rw [z]; rfl)
              refine a_iconst (v := 1) dX10_factor_231 (by decide) ?_
              refine a_zret dX10_factor_232 rfl (Or.inr rfl) (by unfold faR at h; first | (have e : hrR (rI M 65) n s = 45 := c_13; rw [if_pos e] at h; exact h) | (have e : hrR (rI M 65) n s = 40 := c_26; rw [if_neg c_13, if_pos e] at h; exact h) | (have e : hrR (rI M 65) n s = 77 := c_40; have e2 : (opR 10 s).2.1 = 0 := b1; have eg : gdR (muR (rI M 65) n 40) (opR 10 s) = muR (rI M 65) n 40 (opR 10 s) := if_pos e2; rw [if_neg c_13, if_neg c_26, if_pos e, eg] at h; exact h) | (have e : hrR (rI M 65) n s = 77 := c_40; have e2 : ¬ (opR 10 s).2.1 = 0 := b1; have eg : gdR (muR (rI M 65) n 40) (opR 10 s) = opR 10 s := if_neg e2; rw [if_neg c_13, if_neg c_26, if_pos e, eg] at h; exact h) | (rw [if_neg c_13, if_neg c_26, if_neg c_40, if_neg c_67] at h; unfold fbR at h; first | (have e5 : (nrR (rI M 65) n s).2.2.1 = 0 := b2; rw [if_pos (bI_nz.mp c_207)] at h; unfold gdR at h; rw [if_pos e5] at h; exact h) | (have e5 : ¬ (nrR (rI M 65) n s).2.2.1 = 0 := b2; rw [if_pos (bI_nz.mp c_207)] at h; unfold gdR at h; rw [if_neg e5] at h; exact h) | (have e5 : (clR (rI M 65) n s).2.2.1 = 0 := b3; rw [if_neg (bI_z.mp c_207)] at h; unfold gdR at h; rw [if_pos e5] at h; exact h) | (have e5 : ¬ (clR (rI M 65) n s).2.2.1 = 0 := b3; rw [if_neg (bI_z.mp c_207)] at h; unfold gdR at h; rw [if_neg e5] at h; exact h)))
            · have b2 : (nrR (rI M 65) n s).2.2.1 = 0 := (nI_z (by have := (nrL_b (u := (rI M 65)) (p0 := s.1) (n + 1) 0 s hb).2; show (nrL (rI M 65) n s.1 (n + 1) 0 s).2.2.1 < _; omega)).mp c_219
              refine a_aload_n dX10_factor_222 rfl ?_
              refine a_iconst (v := 0) dX10_factor_223 (by decide) ?_
              refine a_iload_n dX10_factor_224 rfl ?_
              refine a_iconst (v := 0) dX10_factor_225 (by decide) ?_
              refine a_iload_n dX10_factor_226 rfl ?_
              refine a_iconst (v := (-1)) dX10_factor_227 (by decide) ?_
              refine a_callV (mc1 := 0) (ms1 := 0) (As := [_, _, _, _, _]) kpX10_puts kmX10_144 (by decide) rfl (Nat.le_of_ble_eq_true rfl) rfl (by decide) rfl (by decide) (hlt hN (by decide)) (Nat.le_of_ble_eq_true rfl) (Nat.le_of_ble_eq_true rfl) (Nat.le_of_ble_eq_true rfl) dX10_factor_228 (w_X10_puts (M := M) (s := (nrR (rI M 65) n s).2) hn he (by show (nrL (rI M 65) n s.1 (n + 1) 0 s).2.2.2.2.1 < 40; rw [nr_t]; exact hm) hN (by exact hs) ?_)
              refine a_iconst (v := 1) dX10_factor_231 (by decide) ?_
              refine a_zret dX10_factor_232 rfl (Or.inr rfl) (by unfold faR at h; first | (have e : hrR (rI M 65) n s = 45 := c_13; rw [if_pos e] at h; exact h) | (have e : hrR (rI M 65) n s = 40 := c_26; rw [if_neg c_13, if_pos e] at h; exact h) | (have e : hrR (rI M 65) n s = 77 := c_40; have e2 : (opR 10 s).2.1 = 0 := b1; have eg : gdR (muR (rI M 65) n 40) (opR 10 s) = muR (rI M 65) n 40 (opR 10 s) := if_pos e2; rw [if_neg c_13, if_neg c_26, if_pos e, eg] at h; exact h) | (have e : hrR (rI M 65) n s = 77 := c_40; have e2 : ¬ (opR 10 s).2.1 = 0 := b1; have eg : gdR (muR (rI M 65) n 40) (opR 10 s) = opR 10 s := if_neg e2; rw [if_neg c_13, if_neg c_26, if_pos e, eg] at h; exact h) | (rw [if_neg c_13, if_neg c_26, if_neg c_40, if_neg c_67] at h; unfold fbR at h; first | (have e5 : (nrR (rI M 65) n s).2.2.1 = 0 := b2; rw [if_pos (bI_nz.mp c_207)] at h; unfold gdR at h; rw [if_pos e5] at h; exact h) | (have e5 : ¬ (nrR (rI M 65) n s).2.2.1 = 0 := b2; rw [if_pos (bI_nz.mp c_207)] at h; unfold gdR at h; rw [if_neg e5] at h; exact h) | (have e5 : (clR (rI M 65) n s).2.2.1 = 0 := b3; rw [if_neg (bI_z.mp c_207)] at h; unfold gdR at h; rw [if_pos e5] at h; exact h) | (have e5 : ¬ (clR (rI M 65) n s).2.2.1 = 0 := b3; rw [if_neg (bI_z.mp c_207)] at h; unfold gdR at h; rw [if_neg e5] at h; exact h)))
        · have e : hrR (rI M 65) n s = 83 := c_67
          have eg : faR (rI M 65) n s = (1, faS (rI M 65) n s) := (if_neg c_13).trans ((if_neg c_26).trans ((if_neg c_40).trans (if_pos e)))
          rw [eg] at h
          dsimp only at h
          refine AW.sub (L' := [(0, .ref 64)]) rfl ?_
          exact e_fa70 hn he (hb.up (by omega)) hm hN (by exact hs) h
      · refine a_aload_n dX10_factor_43 rfl ?_
        refine a_bipush (v := 10) dX10_factor_44 (by decide) ?_
        refine a_callV (mc1 := 0) (ms1 := 0) (As := [_]) kpX10_opens kmX10_169 (by decide) rfl (Nat.le_of_ble_eq_true rfl) rfl (by decide) rfl (by decide) (hlt hN (by decide)) (Nat.le_of_ble_eq_true rfl) (Nat.le_of_ble_eq_true rfl) (Nat.le_of_ble_eq_true rfl) dX10_factor_46 (w_X10_opens (M := M) hn he (by have := hb.1; omega) (by have := hb.2; omega) htp hN (by exact hs) ?_)
        refine a_aload_n dX10_factor_49 rfl ?_
        refine a_getI kfX10_132 rfl rfl (by decide) (hlt hN (by decide)) dX10_factor_50 ?_
        rw [wr_bad]
        refine a_if_ne (tgt := 62) dX10_factor_53 (by decide) (fun c_53 => ?_) (fun c_53 => ?_)
        · have b1 : ¬ (opR 10 s).2.1 = 0 := fun z => c_53 (by rw [z]; rfl)
          refine a_iconst (v := 0) dX10_factor_62 (by decide) ?_
          refine a_zret dX10_factor_63 rfl (Or.inl rfl) (by unfold faR at h; first | (have e : hrR (rI M 65) n s = 45 := c_13; rw [if_pos e] at h; exact h) | (have e : hrR (rI M 65) n s = 40 := c_26; rw [if_neg c_13, if_pos e] at h; exact h) | (have e : hrR (rI M 65) n s = 77 := c_40; have e2 : (opR 10 s).2.1 = 0 := b1; have eg : gdR (muR (rI M 65) n 40) (opR 10 s) = muR (rI M 65) n 40 (opR 10 s) := if_pos e2; rw [if_neg c_13, if_neg c_26, if_pos e, eg] at h; exact h) | (have e : hrR (rI M 65) n s = 77 := c_40; have e2 : ¬ (opR 10 s).2.1 = 0 := b1; have eg : gdR (muR (rI M 65) n 40) (opR 10 s) = opR 10 s := if_neg e2; rw [if_neg c_13, if_neg c_26, if_pos e, eg] at h; exact h) | (rw [if_neg c_13, if_neg c_26, if_neg c_40, if_neg c_67] at h; unfold fbR at h; first | (have e5 : (nrR (rI M 65) n s).2.2.1 = 0 := b2; rw [if_pos (bI_nz.mp c_207)] at h; unfold gdR at h; rw [if_pos e5] at h; exact h) | (have e5 : ¬ (nrR (rI M 65) n s).2.2.1 = 0 := b2; rw [if_pos (bI_nz.mp c_207)] at h; unfold gdR at h; rw [if_neg e5] at h; exact h) | (have e5 : (clR (rI M 65) n s).2.2.1 = 0 := b3; rw [if_neg (bI_z.mp c_207)] at h; unfold gdR at h; rw [if_pos e5] at h; exact h) | (have e5 : ¬ (clR (rI M 65) n s).2.2.1 = 0 := b3; rw [if_neg (bI_z.mp c_207)] at h; unfold gdR at h; rw [if_neg e5] at h; exact h)))
        · have b1 : (opR 10 s).2.1 = 0 := (nI_z (by have := (op_b (w := 10) hb).2; omega)).mp c_53
          refine a_aload_n dX10_factor_56 rfl ?_
          refine a_bipush (v := 40) dX10_factor_57 (by decide) ?_
          refine a_callV (mc1 := 0) (ms1 := 0) (As := [_]) kpX10_must kmX10_172 (by decide) rfl (Nat.le_of_ble_eq_true rfl) rfl (by decide) rfl (by decide) (hlt hN (by decide)) (Nat.le_of_ble_eq_true rfl) (Nat.le_of_ble_eq_true rfl) (Nat.le_of_ble_eq_true rfl) dX10_factor_59 (w_X10_must (M := M) (s := opR 10 s) hn he (by have := (op_b (w := 10) hb).1; omega) (by have := (op_b (w := 10) hb).2; omega) hN (by exact hs) ?_)
          refine a_iconst (v := 0) dX10_factor_62 (by decide) ?_
          refine a_zret dX10_factor_63 rfl (Or.inl rfl) (by unfold faR at h; first | (have e : hrR (rI M 65) n s = 45 := c_13; rw [if_pos e] at h; exact h) | (have e : hrR (rI M 65) n s = 40 := c_26; rw [if_neg c_13, if_pos e] at h; exact h) | (have e : hrR (rI M 65) n s = 77 := c_40; have e2 : (opR 10 s).2.1 = 0 := b1; have eg : gdR (muR (rI M 65) n 40) (opR 10 s) = muR (rI M 65) n 40 (opR 10 s) := if_pos e2; rw [if_neg c_13, if_neg c_26, if_pos e, eg] at h; exact h) | (have e : hrR (rI M 65) n s = 77 := c_40; have e2 : ¬ (opR 10 s).2.1 = 0 := b1; have eg : gdR (muR (rI M 65) n 40) (opR 10 s) = opR 10 s := if_neg e2; rw [if_neg c_13, if_neg c_26, if_pos e, eg] at h; exact h) | (rw [if_neg c_13, if_neg c_26, if_neg c_40, if_neg c_67] at h; unfold fbR at h; first | (have e5 : (nrR (rI M 65) n s).2.2.1 = 0 := b2; rw [if_pos (bI_nz.mp c_207)] at h; unfold gdR at h; rw [if_pos e5] at h; exact h) | (have e5 : ¬ (nrR (rI M 65) n s).2.2.1 = 0 := b2; rw [if_pos (bI_nz.mp c_207)] at h; unfold gdR at h; rw [if_neg e5] at h; exact h) | (have e5 : (clR (rI M 65) n s).2.2.1 = 0 := b3; rw [if_neg (bI_z.mp c_207)] at h; unfold gdR at h; rw [if_pos e5] at h; exact h) | (have e5 : ¬ (clR (rI M 65) n s).2.2.1 = 0 := b3; rw [if_neg (bI_z.mp c_207)] at h; unfold gdR at h; rw [if_neg e5] at h; exact h)))
    · refine a_aload_n dX10_factor_29 rfl ?_
      refine a_bipush (v := 9) dX10_factor_30 (by decide) ?_
      refine a_callV (mc1 := 0) (ms1 := 0) (As := [_]) kpX10_opens kmX10_169 (by decide) rfl (Nat.le_of_ble_eq_true rfl) rfl (by decide) rfl (by decide) (hlt hN (by decide)) (Nat.le_of_ble_eq_true rfl) (Nat.le_of_ble_eq_true rfl) (Nat.le_of_ble_eq_true rfl) dX10_factor_32 (w_X10_opens (M := M) hn he (by have := hb.1; omega) (by have := hb.2; omega) htp hN (by exact hs) ?_)
      refine a_iconst (v := 0) dX10_factor_35 (by decide) ?_
      refine a_zret dX10_factor_36 rfl (Or.inl rfl) (by unfold faR at h; first | (have e : hrR (rI M 65) n s = 45 := c_13; rw [if_pos e] at h; exact h) | (have e : hrR (rI M 65) n s = 40 := c_26; rw [if_neg c_13, if_pos e] at h; exact h) | (have e : hrR (rI M 65) n s = 77 := c_40; have e2 : (opR 10 s).2.1 = 0 := b1; have eg : gdR (muR (rI M 65) n 40) (opR 10 s) = muR (rI M 65) n 40 (opR 10 s) := if_pos e2; rw [if_neg c_13, if_neg c_26, if_pos e, eg] at h; exact h) | (have e : hrR (rI M 65) n s = 77 := c_40; have e2 : ¬ (opR 10 s).2.1 = 0 := b1; have eg : gdR (muR (rI M 65) n 40) (opR 10 s) = opR 10 s := if_neg e2; rw [if_neg c_13, if_neg c_26, if_pos e, eg] at h; exact h) | (rw [if_neg c_13, if_neg c_26, if_neg c_40, if_neg c_67] at h; unfold fbR at h; first | (have e5 : (nrR (rI M 65) n s).2.2.1 = 0 := b2; rw [if_pos (bI_nz.mp c_207)] at h; unfold gdR at h; rw [if_pos e5] at h; exact h) | (have e5 : ¬ (nrR (rI M 65) n s).2.2.1 = 0 := b2; rw [if_pos (bI_nz.mp c_207)] at h; unfold gdR at h; rw [if_neg e5] at h; exact h) | (have e5 : (clR (rI M 65) n s).2.2.1 = 0 := b3; rw [if_neg (bI_z.mp c_207)] at h; unfold gdR at h; rw [if_pos e5] at h; exact h) | (have e5 : ¬ (clR (rI M 65) n s).2.2.1 = 0 := b3; rw [if_neg (bI_z.mp c_207)] at h; unfold gdR at h; rw [if_neg e5] at h; exact h)))
  · refine a_aload_n dX10_factor_16 rfl ?_
    refine a_iconst (v := 3) dX10_factor_17 (by decide) ?_
    refine a_callV (mc1 := 0) (ms1 := 0) (As := [_]) kpX10_opens kmX10_169 (by decide) rfl (Nat.le_of_ble_eq_true rfl) rfl (by decide) rfl (by decide) (hlt hN (by decide)) (Nat.le_of_ble_eq_true rfl) (Nat.le_of_ble_eq_true rfl) (Nat.le_of_ble_eq_true rfl) dX10_factor_18 (w_X10_opens (M := M) hn he (by have := hb.1; omega) (by have := hb.2; omega) htp hN (by exact hs) ?_)
    refine a_iconst (v := 0) dX10_factor_21 (by decide) ?_
    refine a_zret dX10_factor_22 rfl (Or.inl rfl) (by unfold faR at h; first | (have e : hrR (rI M 65) n s = 45 := c_13; rw [if_pos e] at h; exact h) | (have e : hrR (rI M 65) n s = 40 := c_26; rw [if_neg c_13, if_pos e] at h; exact h) | (have e : hrR (rI M 65) n s = 77 := c_40; have e2 : (opR 10 s).2.1 = 0 := b1; have eg : gdR (muR (rI M 65) n 40) (opR 10 s) = muR (rI M 65) n 40 (opR 10 s) := if_pos e2; rw [if_neg c_13, if_neg c_26, if_pos e, eg] at h; exact h) | (have e : hrR (rI M 65) n s = 77 := c_40; have e2 : ¬ (opR 10 s).2.1 = 0 := b1; have eg : gdR (muR (rI M 65) n 40) (opR 10 s) = opR 10 s := if_neg e2; rw [if_neg c_13, if_neg c_26, if_pos e, eg] at h; exact h) | (rw [if_neg c_13, if_neg c_26, if_neg c_40, if_neg c_67] at h; unfold fbR at h; first | (have e5 : (nrR (rI M 65) n s).2.2.1 = 0 := b2; rw [if_pos (bI_nz.mp c_207)] at h; unfold gdR at h; rw [if_pos e5] at h; exact h) | (have e5 : ¬ (nrR (rI M 65) n s).2.2.1 = 0 := b2; rw [if_pos (bI_nz.mp c_207)] at h; unfold gdR at h; rw [if_neg e5] at h; exact h) | (have e5 : (clR (rI M 65) n s).2.2.1 = 0 := b3; rw [if_neg (bI_z.mp c_207)] at h; unfold gdR at h; rw [if_pos e5] at h; exact h) | (have e5 : ¬ (clR (rI M 65) n s).2.2.1 = 0 := b3; rw [if_neg (bI_z.mp c_207)] at h; unfold gdR at h; rw [if_neg e5] at h; exact h)))

