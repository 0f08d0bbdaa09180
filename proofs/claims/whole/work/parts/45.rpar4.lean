/-- the loop's head: wanting a factor (1) or not (0) -/
abbrev AWh (M : Mem) (N : Nat) (Q : Option Value → Nat → Mem → Prop) (n : Nat) (w : Int32) (s : RS) : Prop := AW mX10_reads 4 0 0 N 40 [(0, .ref 64), (1, .int (nI n)), (2, .int w), (3, .int 1)] [] (wr M s) Q
theorem rd_E {M : Mem} {N : Nat} {Q : Option Value → Nat → Mem → Prop} {n : Nat} (hn : n ≤ 40) (he : rI M 64 23 = nI n) {s : RS} {w : Int32} (hb : ¬ s.2.1 = 0) (hb2 : s.2.1 ≤ 2) (hN : 94 ≤ N) (hs : Str M.2.2.1) (h : Q none N (wr M s)) : AW mX10_reads 4 0 0 N 40 [(0, .ref 64), (1, .int (nI n)), (2, .int w), (3, .int 1)] [] (wr M s) Q := by
  refine a_iload_n dX10_reads_40 rfl ?_
  refine a_if_eq (tgt := 382) dX10_reads_41 (by decide) (fun c_41 => absurd c_41 (by decide)) (fun c_41 => ?_)
  refine a_aload_n dX10_reads_44 rfl ?_
  refine a_getI kfX10_132 rfl rfl (by decide) (hlt hN (by decide)) dX10_reads_45 ?_
  rw [wr_bad]
  refine a_if_ne (tgt := 382) dX10_reads_48 (by decide) (fun c_48 => ?_) (fun c_48 => absurd c_48 (fun z => hb ((nI_z (by omega)).mp z)))
  refine a_vret dX10_reads_382 rfl h
theorem rd_M {M : Mem} {N : Nat} {Q : Option Value → Nat → Mem → Prop} {n : Nat} (hn : n ≤ 40) (he : rI M 64 23 = nI n) {s : RS} {w : Int32} (hN : 94 ≤ N) (hs : Str M.2.2.1) (h : Q none N (wr M s)) : AW mX10_reads 4 0 0 N 40 [(0, .ref 64), (1, .int (nI n)), (2, .int w), (3, .int 0)] [] (wr M s) Q := by
  refine a_iload_n dX10_reads_40 rfl ?_
  refine a_if_eq (tgt := 382) dX10_reads_41 (by decide) (fun c_41 => ?_) (fun c_41 => absurd rfl c_41)
  refine a_vret dX10_reads_382 rfl h
theorem faR_01 {u : Nat → Int32} {n : Nat} {s : RS} : (faR u n s).1 = 0 ∨ (faR u n s).1 = 1 := by
  unfold faR
  split
  · exact Or.inl rfl
  · split
    · exact Or.inl rfl
    · split
      · exact Or.inl rfl
      · split
        · exact Or.inr rfl
        · exact Or.inr rfl
theorem rd_W {M : Mem} {N : Nat} {Q : Option Value → Nat → Mem → Prop} {n : Nat} (hn : n ≤ 40) (he : rI M 64 23 = nI n) {s : RS} (hb : RB (n + 1) s) (hm : s.2.2.2.1 < 40) (htp : s.2.2.2.2.1 < 40) (hb3 : (faR (rI M 65) n s).2.2.1 ≤ 2) (hmt : (faR (rI M 65) n s).1 = 1 → (faR (rI M 65) n s).2.2.1 = 0 → (faR (rI M 65) n s).2.2.2.2.1 + (faR (rI M 65) n s).2.2.2.2.2.1 ≤ 40) (b0 : s.2.1 = 0) (hN : 94 ≤ N) (hs : Str M.2.2.1) (h0 : (faR (rI M 65) n s).1 = 0 → AWh M N Q n 1 (faR (rI M 65) n s).2) (h1 : (faR (rI M 65) n s).1 = 1 → (faR (rI M 65) n s).2.2.1 = 0 → AWh M N Q n 0 (feR (faR (rI M 65) n s).2)) (h2 : (faR (rI M 65) n s).1 = 1 → ¬ (faR (rI M 65) n s).2.2.1 = 0 → AWh M N Q n 0 (faR (rI M 65) n s).2) : AWh M N Q n 1 s := by
  rcases faR_01 (u := (rI M 65)) (n := n) (s := s) with e0 | e1
  · refine a_iload_n dX10_reads_40 rfl ?_
    refine a_if_eq (tgt := 382) dX10_reads_41 (by decide) (fun c_41 => absurd c_41 (by decide)) (fun c_41 => ?_)
    refine a_aload_n dX10_reads_44 rfl ?_
    refine a_getI kfX10_132 rfl rfl (by decide) (hlt hN (by decide)) dX10_reads_45 ?_
    rw [wr_bad]
    refine a_if_ne (tgt := 382) dX10_reads_48 (by decide) (fun c_48 => absurd (by rw [b0]; rfl) c_48) (fun c_48 => ?_)
    refine a_iload_n dX10_reads_51 rfl ?_
    refine a_if_eq (tgt := 86) dX10_reads_52 (by decide) (fun c_52 => absurd c_52 (by decide)) (fun c_52 => ?_)
    refine a_aload_n dX10_reads_55 rfl ?_
    refine a_callV (mc1 := 0) (ms1 := 0) (As := []) kpX10_factor kmX10_181 (by decide) rfl (Nat.le_of_ble_eq_true rfl) rfl (by decide) rfl (by decide) (hlt hN (by decide)) (Nat.le_of_ble_eq_true rfl) (Nat.le_of_ble_eq_true rfl) (Nat.le_of_ble_eq_true rfl) dX10_reads_56 (w_X10_factor (M := M) hn he hb hm htp hN (by exact hs) ?_)
    refine a_if_ne (tgt := 66) dX10_reads_59 (by decide) (fun c_59 => absurd e0 c_59) (fun c_59 => ?_)
    refine a_iconst (v := 1) dX10_reads_62 (by decide) ?_
    refine a_goto (tgt := 67) dX10_reads_63 (by decide) ?_
    refine a_istore_n dX10_reads_67 (by decide) ?_
    refine a_iload_n dX10_reads_68 rfl ?_
    refine a_if_ne (tgt := 40) dX10_reads_69 (by decide) (fun c_69 => ?_) (fun c_69 => absurd c_69 (by decide))
    exact AW.sub (L' := [(0, .ref 64), (1, .int (nI n)), (2, .int 1), (3, .int 1)]) rfl (h0 e0)
  · refine a_iload_n dX10_reads_40 rfl ?_
    refine a_if_eq (tgt := 382) dX10_reads_41 (by decide) (fun c_41 => absurd c_41 (by decide)) (fun c_41 => ?_)
    refine a_aload_n dX10_reads_44 rfl ?_
    refine a_getI kfX10_132 rfl rfl (by decide) (hlt hN (by decide)) dX10_reads_45 ?_
    rw [wr_bad]
    refine a_if_ne (tgt := 382) dX10_reads_48 (by decide) (fun c_48 => absurd (by rw [b0]; rfl) c_48) (fun c_48 => ?_)
    refine a_iload_n dX10_reads_51 rfl ?_
    refine a_if_eq (tgt := 86) dX10_reads_52 (by decide) (fun c_52 => absurd c_52 (by decide)) (fun c_52 => ?_)
    refine a_aload_n dX10_reads_55 rfl ?_
    refine a_callV (mc1 := 0) (ms1 := 0) (As := []) kpX10_factor kmX10_181 (by decide) rfl (Nat.le_of_ble_eq_true rfl) rfl (by decide) rfl (by decide) (hlt hN (by decide)) (Nat.le_of_ble_eq_true rfl) (Nat.le_of_ble_eq_true rfl) (Nat.le_of_ble_eq_true rfl) dX10_reads_56 (w_X10_factor (M := M) hn he hb hm htp hN (by exact hs) ?_)
    refine a_if_ne (tgt := 66) dX10_reads_59 (by decide) (fun c_59 => ?_) (fun c_59 => absurd c_59 (by rw [e1]; decide))
    refine a_iconst (v := 0) dX10_reads_66 (by decide) ?_
    refine a_istore_n dX10_reads_67 (by decide) ?_
    refine a_iload_n dX10_reads_68 rfl ?_
    refine a_if_ne (tgt := 40) dX10_reads_69 (by decide) (fun c_69 => absurd rfl c_69) (fun c_69 => ?_)
    refine a_aload_n dX10_reads_72 rfl ?_
    refine a_getI kfX10_132 rfl rfl (by decide) (hlt hN (by decide)) dX10_reads_73 ?_
    rw [wr_bad]
    refine a_if_ne (tgt := 40) dX10_reads_76 (by decide) (fun c_76 => ?_) (fun c_76 => ?_)
    · first
      | exact AW.sub (L' := [(0, .ref 64), (1, .int (nI n)), (2, .int 0), (3, .int 1)]) rfl (h1 e1 ((nI_z (by omega)).mp c_76))
      | exact AW.sub (L' := [(0, .ref 64), (1, .int (nI n)), (2, .int 0), (3, .int 1)]) rfl (h2 e1 (fun z => c_76 (by rw [z]; rfl)))
    · refine a_aload_n dX10_reads_79 rfl ?_
      refine a_callV (mc1 := 0) (ms1 := 0) (As := []) kpX10_factorEnds kmX10_184 (by decide) rfl (Nat.le_of_ble_eq_true rfl) rfl (by decide) rfl (by decide) (hlt hN (by decide)) (Nat.le_of_ble_eq_true rfl) (Nat.le_of_ble_eq_true rfl) (Nat.le_of_ble_eq_true rfl) dX10_reads_80 (w_X10_factorEnds (M := M) (s := (faR (rI M 65) n s).2) hn he (hmt e1 ((nI_z (by omega)).mp c_76)) hN (by exact hs) ?_)
      refine a_goto (tgt := 40) dX10_reads_83 (by decide) ?_
      first
      | exact AW.sub (L' := [(0, .ref 64), (1, .int (nI n)), (2, .int 0), (3, .int 1)]) rfl (h1 e1 ((nI_z (by omega)).mp c_76))
      | exact AW.sub (L' := [(0, .ref 64), (1, .int (nI n)), (2, .int 0), (3, .int 1)]) rfl (h2 e1 (fun z => c_76 (by rw [z]; rfl)))
theorem rd_109 {M : Mem} {N : Nat} {Q : Option Value → Nat → Mem → Prop} {n : Nat} (hn : n ≤ 40) (he : rI M 64 23 = nI n) {s : RS} {j : Int32} (htp : s.2.2.2.2.1 < 40) (hN : 94 ≤ N) (hs : Str M.2.2.1) (h : AWh M N Q n 1 (avR (waR j (nI s.1) s))) : AW mX10_reads 4 0 0 N 109 [(0, .ref 64), (1, .int (nI n)), (2, .int 0), (3, .int 1), (4, .int j)] [] (wr M s) Q := by
  refine a_aload_n dX10_reads_109 rfl ?_
  refine a_iload dX10_reads_110 rfl ?_
  refine a_aload_n dX10_reads_112 rfl ?_
  refine a_getI kfX10_126 rfl rfl (by decide) (hlt hN (by decide)) dX10_reads_113 ?_
  rw [wr_at]
  refine a_callV (mc1 := 0) (ms1 := 0) (As := [_, _]) kpX10_waits kmX10_155 (by decide) rfl (Nat.le_of_ble_eq_true rfl) rfl (by decide) rfl (by decide) (hlt hN (by decide)) (Nat.le_of_ble_eq_true rfl) (Nat.le_of_ble_eq_true rfl) (Nat.le_of_ble_eq_true rfl) dX10_reads_116 (w_X10_waits (M := M) (s := s) hn he htp hN (by exact hs) ?_)
  refine a_aload_n dX10_reads_119 rfl ?_
  refine a_dup dX10_reads_120 rfl ?_
  refine a_getI kfX10_126 rfl rfl (by decide) (hlt hN (by decide)) dX10_reads_121 ?_
  rw [wr_at]
  refine a_iconst (v := 1) dX10_reads_124 (by decide) ?_
  refine a_iadd dX10_reads_125 ?_
  rw [nI_1]
  refine a_putI kfX10_126 rfl rfl rfl (by decide) (hlt hN (by decide)) dX10_reads_126 ?_
  rw [wr_sat]
  refine a_iconst (v := 1) dX10_reads_129 (by decide) ?_
  refine a_istore_n dX10_reads_130 (by decide) ?_
  refine a_goto (tgt := 40) dX10_reads_131 (by decide) ?_
  exact AW.sub (L' := [(0, .ref 64), (1, .int (nI n)), (2, .int 1), (3, .int 1)]) rfl h
theorem rd_144 {M : Mem} {N : Nat} {Q : Option Value → Nat → Mem → Prop} {n : Nat} (hn : n ≤ 40) (he : rI M 64 23 = nI n) {s : RS} {j : Int32} (htp : s.2.2.2.2.1 < 40) (hN : 94 ≤ N) (hs : Str M.2.2.1) (h : AWh M N Q n 1 (avR (waR j (nI s.1) s))) : AW mX10_reads 4 0 0 N 144 [(0, .ref 64), (1, .int (nI n)), (2, .int 0), (3, .int 1), (4, .int j)] [] (wr M s) Q := by
  refine a_aload_n dX10_reads_144 rfl ?_
  refine a_iload dX10_reads_145 rfl ?_
  refine a_aload_n dX10_reads_147 rfl ?_
  refine a_getI kfX10_126 rfl rfl (by decide) (hlt hN (by decide)) dX10_reads_148 ?_
  rw [wr_at]
  refine a_callV (mc1 := 0) (ms1 := 0) (As := [_, _]) kpX10_waits kmX10_155 (by decide) rfl (Nat.le_of_ble_eq_true rfl) rfl (by decide) rfl (by decide) (hlt hN (by decide)) (Nat.le_of_ble_eq_true rfl) (Nat.le_of_ble_eq_true rfl) (Nat.le_of_ble_eq_true rfl) dX10_reads_151 (w_X10_waits (M := M) (s := s) hn he htp hN (by exact hs) ?_)
  refine a_aload_n dX10_reads_154 rfl ?_
  refine a_dup dX10_reads_155 rfl ?_
  refine a_getI kfX10_126 rfl rfl (by decide) (hlt hN (by decide)) dX10_reads_156 ?_
  rw [wr_at]
  refine a_iconst (v := 1) dX10_reads_159 (by decide) ?_
  refine a_iadd dX10_reads_160 ?_
  rw [nI_1]
  refine a_putI kfX10_126 rfl rfl rfl (by decide) (hlt hN (by decide)) dX10_reads_161 ?_
  rw [wr_sat]
  refine a_iconst (v := 1) dX10_reads_164 (by decide) ?_
  refine a_istore_n dX10_reads_165 (by decide) ?_
  refine a_goto (tgt := 379) dX10_reads_166 (by decide) ?_
  refine a_goto (tgt := 40) dX10_reads_379 (by decide) ?_
  exact AW.sub (L' := [(0, .ref 64), (1, .int (nI n)), (2, .int 1), (3, .int 1)]) rfl h
theorem rd_180 {M : Mem} {N : Nat} {Q : Option Value → Nat → Mem → Prop} {n : Nat} (hn : n ≤ 40) (he : rI M 64 23 = nI n) {s : RS} (hb2 : s.2.1 ≤ 2) {j : Int32} (htp : s.2.2.2.2.1 ≤ 40) (hN : 94 ≤ N) (hs : Str M.2.2.1) (h : Q none N (wr M (if 0 < s.2.2.2.2.1 then flR 1 s else s))) : AW mX10_reads 4 0 0 N 180 [(0, .ref 64), (1, .int (nI n)), (2, .int 0), (3, .int 1), (4, .int j)] [] (wr M s) Q := by
  refine a_aload_n dX10_reads_180 rfl ?_
  refine a_getI kfX10_141 rfl rfl (by decide) (hlt hN (by decide)) dX10_reads_181 ?_
  rw [wr_tp]
  refine a_if_le (tgt := 196) dX10_reads_184 (by decide) (fun c_184 => ?_) (fun c_184 => ?_)
  · have tp : ¬ 0 < s.2.2.2.2.1 := tp_npos (by omega) c_184
    refine a_iconst (v := 0) dX10_reads_196 (by decide) ?_
    refine a_istore_n dX10_reads_197 (by decide) ?_
    refine a_goto (tgt := 379) dX10_reads_198 (by decide) ?_
    refine a_goto (tgt := 40) dX10_reads_379 (by decide) ?_
    refine AW.sub (L' := [(0, .ref 64), (1, .int (nI n)), (2, .int 0), (3, .int 0)]) rfl ?_
    first
    | (have e : ¬ 0 < s.2.2.2.2.1 := tp
       rw [if_neg e] at h
       exact rd_M hn he hN (by exact hs) h)
    | (have e : 0 < s.2.2.2.2.1 := tp
       rw [if_pos e] at h
       exact rd_M hn he hN (by exact hs) h)
  · have tp : 0 < s.2.2.2.2.1 := tp_pos (by omega) c_184
    refine a_aload_n dX10_reads_187 rfl ?_
    refine a_iconst (v := 1) dX10_reads_188 (by decide) ?_
    refine a_aload_n dX10_reads_189 rfl ?_
    refine a_getI kfX10_126 rfl rfl (by decide) (hlt hN (by decide)) dX10_reads_190 ?_
    rw [wr_at]
    refine a_callV (mc1 := 0) (ms1 := 0) (As := [_, _]) kpX10_fails kmX10_151 (by decide) rfl (Nat.le_of_ble_eq_true rfl) rfl (by decide) rfl (by decide) (hlt hN (by decide)) (Nat.le_of_ble_eq_true rfl) (Nat.le_of_ble_eq_true rfl) (Nat.le_of_ble_eq_true rfl) dX10_reads_193 (w_X10_fails (w := 1) (M := M) (s := s) hn he (by omega) hN (by exact hs) ?_)
    refine a_iconst (v := 0) dX10_reads_196 (by decide) ?_
    refine a_istore_n dX10_reads_197 (by decide) ?_
    refine a_goto (tgt := 379) dX10_reads_198 (by decide) ?_
    refine a_goto (tgt := 40) dX10_reads_379 (by decide) ?_
    refine AW.sub (L' := [(0, .ref 64), (1, .int (nI n)), (2, .int 0), (3, .int 0)]) rfl ?_
    first
    | (have e : ¬ 0 < s.2.2.2.2.1 := tp
       rw [if_neg e] at h
       exact rd_M hn he hN (by exact hs) h)
    | (have e : 0 < s.2.2.2.2.1 := tp
       rw [if_pos e] at h
       exact rd_M hn he hN (by exact hs) h)
theorem rd_370 {M : Mem} {N : Nat} {Q : Option Value → Nat → Mem → Prop} {n : Nat} (hn : n ≤ 40) (he : rI M 64 23 = nI n) {s : RS} (b0 : s.2.1 = 0) {j : Int32} (hN : 94 ≤ N) (hs : Str M.2.2.1) (h : Q none N (wr M (flR 1 s))) : AW mX10_reads 4 0 0 N 370 [(0, .ref 64), (1, .int (nI n)), (2, .int 0), (3, .int 1), (4, .int j)] [] (wr M s) Q := by
  refine a_aload_n dX10_reads_370 rfl ?_
  refine a_iconst (v := 1) dX10_reads_371 (by decide) ?_
  refine a_aload_n dX10_reads_372 rfl ?_
  refine a_getI kfX10_126 rfl rfl (by decide) (hlt hN (by decide)) dX10_reads_373 ?_
  rw [wr_at]
  refine a_callV (mc1 := 0) (ms1 := 0) (As := [_, _]) kpX10_fails kmX10_151 (by decide) rfl (Nat.le_of_ble_eq_true rfl) rfl (by decide) rfl (by decide) (hlt hN (by decide)) (Nat.le_of_ble_eq_true rfl) (Nat.le_of_ble_eq_true rfl) (Nat.le_of_ble_eq_true rfl) dX10_reads_376 (w_X10_fails (w := 1) (M := M) (s := s) hn he (by omega) hN (by exact hs) ?_)
  refine a_goto (tgt := 40) dX10_reads_379 (by decide) ?_
  have e1 : (flR 1 s).2.1 = 1 := by unfold flR; rw [if_pos b0]
  exact AW.sub (L' := [(0, .ref 64), (1, .int (nI n)), (2, .int 0), (3, .int 1)]) rfl (rd_E hn he (by rw [e1]; decide) (by rw [e1]; decide) hN (by exact hs) h)
def cmR2 (s : RS) : RS := (s.1 + 1, s.2.1, s.2.2.1, s.2.2.2.1, s.2.2.2.2.1, s.2.2.2.2.2.1, up2 s.2.2.2.2.2.2 87 (s.2.2.2.2.1 - 1) 11)
def clS (s : RS) : RS := if s.2.2.2.2.2.2 87 (s.2.2.2.2.1 - 1) = 11 then puR 8 0 0 (-1) (-1) (opD (tdR s)) else opD (tdR s)
theorem rd_201c {M : Mem} {N : Nat} {Q : Option Value → Nat → Mem → Prop} {n : Nat} (hn : n ≤ 40) (he : rI M 64 23 = nI n) {s : RS} (hb : RB (n + 1) s) {j : Int32} (htp : s.2.2.2.2.1 ≤ 40) (hc : hrR (rI M 65) n s = 44) (tp : 0 < s.2.2.2.2.1) (h10 : ptR s = 10) (hN : 94 ≤ N) (hs : Str M.2.2.1) (h : AWh M N Q n 1 (cmR2 s)) : AW mX10_reads 4 0 0 N 201 [(0, .ref 64), (1, .int (nI n)), (2, .int 0), (3, .int 1), (4, .int j)] [] (wr M s) Q := by
  refine a_aload_n dX10_reads_201 rfl ?_
  refine a_callV (mc1 := 0) (ms1 := 0) (As := []) kpX10_here kmX10_158 (by decide) rfl (Nat.le_of_ble_eq_true rfl) rfl (by decide) rfl (by decide) (hlt hN (by decide)) (Nat.le_of_ble_eq_true rfl) (Nat.le_of_ble_eq_true rfl) (Nat.le_of_ble_eq_true rfl) dX10_reads_202 (w_X10_here (M := M) hn he (by have := hb.1; omega) hN (by exact hs) ?_)
  refine a_bipush (v := 44) dX10_reads_205 (by decide) ?_
  refine a_icmp_ne (tgt := 261) dX10_reads_207 (by decide) (fun c_207 => absurd hc c_207) (fun c_207 => ?_)
  refine a_aload_n dX10_reads_210 rfl ?_
  refine a_getI kfX10_141 rfl rfl (by decide) (hlt hN (by decide)) dX10_reads_211 ?_
  rw [wr_tp]
  refine a_if_le (tgt := 261) dX10_reads_214 (by decide) (fun c_214 => absurd c_214 (fun z => tp_npos (by omega) z tp)) (fun c_214 => ?_)
  refine a_aload_n dX10_reads_217 rfl ?_
  refine a_getA (z := 87) kfX10_79 rfl rfl (st_64_34 hs) (by decide) (hlt hN (by decide)) dX10_reads_218 ?_
  refine a_aload_n dX10_reads_221 rfl ?_
  refine a_getI kfX10_141 rfl rfl (by decide) (hlt hN (by decide)) dX10_reads_222 ?_
  rw [wr_tp]
  refine a_iconst (v := 1) dX10_reads_225 (by decide) ?_
  refine a_isub dX10_reads_226 ?_
  rw [show nI s.2.2.2.2.1 - 1 = nI (s.2.2.2.2.1 - 1) from pk_sub (b := 1) tp]
  refine a_iald rfl (by decide) (hlt hN (by decide)) (show vp_in _ 40 from vp_in_nI (by omega) (by decide)) dX10_reads_227 ?_
  rw [nI_clamp (by omega), wr_r (by decide)]
  refine a_bipush (v := 10) dX10_reads_228 (by decide) ?_
  refine a_icmp_ne (tgt := 261) dX10_reads_230 (by decide) (fun c_230 => absurd h10 c_230) (fun c_230 => ?_)
  refine a_aload_n dX10_reads_233 rfl ?_
  refine a_getA (z := 87) kfX10_79 rfl rfl (st_64_34 hs) (by decide) (hlt hN (by decide)) dX10_reads_234 ?_
  refine a_aload_n dX10_reads_237 rfl ?_
  refine a_getI kfX10_141 rfl rfl (by decide) (hlt hN (by decide)) dX10_reads_238 ?_
  rw [wr_tp]
  refine a_iconst (v := 1) dX10_reads_241 (by decide) ?_
  refine a_isub dX10_reads_242 ?_
  rw [show nI s.2.2.2.2.1 - 1 = nI (s.2.2.2.2.1 - 1) from pk_sub (b := 1) tp]
  refine a_bipush (v := 11) dX10_reads_243 (by decide) ?_
  refine a_iast rfl (by decide) (hlt hN (by decide)) (show vp_in _ 40 from vp_in_nI (by omega) (by decide)) dX10_reads_245 ?_
  rw [nI_clamp (by omega), wr_s (by decide)]
  refine a_aload_n dX10_reads_246 rfl ?_
  refine a_dup dX10_reads_247 rfl ?_
  refine a_getI kfX10_126 rfl rfl (by decide) (hlt hN (by decide)) dX10_reads_248 ?_
  rw [wr_at]
  refine a_iconst (v := 1) dX10_reads_251 (by decide) ?_
  refine a_iadd dX10_reads_252 ?_
  try dsimp only
  rw [nI_1]
  refine a_putI kfX10_126 rfl rfl rfl (by decide) (hlt hN (by decide)) dX10_reads_253 ?_
  rw [wr_sat]
  refine a_iconst (v := 1) dX10_reads_256 (by decide) ?_
  refine a_istore_n dX10_reads_257 (by decide) ?_
  refine a_goto (tgt := 379) dX10_reads_258 (by decide) ?_
  refine a_goto (tgt := 40) dX10_reads_379 (by decide) ?_
  exact AW.sub (L' := [(0, .ref 64), (1, .int (nI n)), (2, .int 1), (3, .int 1)]) rfl h
theorem rd_201n {M : Mem} {N : Nat} {Q : Option Value → Nat → Mem → Prop} {n : Nat} (hn : n ≤ 40) (he : rI M 64 23 = nI n) {s : RS} (hb : RB (n + 1) s) {j : Int32} (htp : s.2.2.2.2.1 ≤ 40) (hc : ¬ (hrR (rI M 65) n s = 44 ∧ 0 < s.2.2.2.2.1 ∧ ptR s = 10)) (hN : 94 ≤ N) (hs : Str M.2.2.1) (h : AW mX10_reads 4 0 0 N 261 [(0, .ref 64), (1, .int (nI n)), (2, .int 0), (3, .int 1), (4, .int j)] [] (wr M s) Q) : AW mX10_reads 4 0 0 N 201 [(0, .ref 64), (1, .int (nI n)), (2, .int 0), (3, .int 1), (4, .int j)] [] (wr M s) Q := by
  refine a_aload_n dX10_reads_201 rfl ?_
  refine a_callV (mc1 := 0) (ms1 := 0) (As := []) kpX10_here kmX10_158 (by decide) rfl (Nat.le_of_ble_eq_true rfl) rfl (by decide) rfl (by decide) (hlt hN (by decide)) (Nat.le_of_ble_eq_true rfl) (Nat.le_of_ble_eq_true rfl) (Nat.le_of_ble_eq_true rfl) dX10_reads_202 (w_X10_here (M := M) hn he (by have := hb.1; omega) hN (by exact hs) ?_)
  refine a_bipush (v := 44) dX10_reads_205 (by decide) ?_
  refine a_icmp_ne (tgt := 261) dX10_reads_207 (by decide) (fun c_207 => ?_) (fun c_207 => ?_)
  · exact h
  · refine a_aload_n dX10_reads_210 rfl ?_
    refine a_getI kfX10_141 rfl rfl (by decide) (hlt hN (by decide)) dX10_reads_211 ?_
    rw [wr_tp]
    refine a_if_le (tgt := 261) dX10_reads_214 (by decide) (fun c_214 => ?_) (fun c_214 => ?_)
    · have tp : ¬ 0 < s.2.2.2.2.1 := tp_npos (by omega) c_214
      exact h
    · have tp : 0 < s.2.2.2.2.1 := tp_pos (by omega) c_214
      refine a_aload_n dX10_reads_217 rfl ?_
      refine a_getA (z := 87) kfX10_79 rfl rfl (st_64_34 hs) (by decide) (hlt hN (by decide)) dX10_reads_218 ?_
      refine a_aload_n dX10_reads_221 rfl ?_
      refine a_getI kfX10_141 rfl rfl (by decide) (hlt hN (by decide)) dX10_reads_222 ?_
      rw [wr_tp]
      refine a_iconst (v := 1) dX10_reads_225 (by decide) ?_
      refine a_isub dX10_reads_226 ?_
      rw [show nI s.2.2.2.2.1 - 1 = nI (s.2.2.2.2.1 - 1) from pk_sub (b := 1) tp]
      refine a_iald rfl (by decide) (hlt hN (by decide)) (show vp_in _ 40 from vp_in_nI (by omega) (by decide)) dX10_reads_227 ?_
      rw [nI_clamp (by omega), wr_r (by decide)]
      refine a_bipush (v := 10) dX10_reads_228 (by decide) ?_
      refine a_icmp_ne (tgt := 261) dX10_reads_230 (by decide) (fun c_230 => ?_) (fun c_230 => absurd c_230 (fun z => hc ⟨c_207, tp, z⟩))
      exact h
theorem rd_261n {M : Mem} {N : Nat} {Q : Option Value → Nat → Mem → Prop} {n : Nat} (hn : n ≤ 40) (he : rI M 64 23 = nI n) {s : RS} (hb : RB (n + 1) s) (b0 : s.2.1 = 0) {j : Int32} (htp : s.2.2.2.2.1 ≤ 40) (hc : ¬ (hrR (rI M 65) n s = 41 ∧ 0 < s.2.2.2.2.1 ∧ (ptR s = 9 ∨ ptR s = 11))) (hN : 94 ≤ N) (hs : Str M.2.2.1) (h : Q none N (wr M (flR 1 s))) : AW mX10_reads 4 0 0 N 261 [(0, .ref 64), (1, .int (nI n)), (2, .int 0), (3, .int 1), (4, .int j)] [] (wr M s) Q := by
  refine a_aload_n dX10_reads_261 rfl ?_
  refine a_callV (mc1 := 0) (ms1 := 0) (As := []) kpX10_here kmX10_158 (by decide) rfl (Nat.le_of_ble_eq_true rfl) rfl (by decide) rfl (by decide) (hlt hN (by decide)) (Nat.le_of_ble_eq_true rfl) (Nat.le_of_ble_eq_true rfl) (Nat.le_of_ble_eq_true rfl) dX10_reads_262 (w_X10_here (M := M) hn he (by have := hb.1; omega) hN (by exact hs) ?_)
  refine a_bipush (v := 41) dX10_reads_265 (by decide) ?_
  refine a_icmp_ne (tgt := 370) dX10_reads_267 (by decide) (fun c_267 => ?_) (fun c_267 => ?_)
  · exact rd_370 hn he b0 hN (by exact hs) h
  · refine a_aload_n dX10_reads_270 rfl ?_
    refine a_getI kfX10_141 rfl rfl (by decide) (hlt hN (by decide)) dX10_reads_271 ?_
    rw [wr_tp]
    refine a_if_le (tgt := 370) dX10_reads_274 (by decide) (fun c_274 => ?_) (fun c_274 => ?_)
    · have tp : ¬ 0 < s.2.2.2.2.1 := tp_npos (by omega) c_274
      exact rd_370 hn he b0 hN (by exact hs) h
    · have tp : 0 < s.2.2.2.2.1 := tp_pos (by omega) c_274
      refine a_aload_n dX10_reads_277 rfl ?_
      refine a_getA (z := 87) kfX10_79 rfl rfl (st_64_34 hs) (by decide) (hlt hN (by decide)) dX10_reads_278 ?_
      refine a_aload_n dX10_reads_281 rfl ?_
      refine a_getI kfX10_141 rfl rfl (by decide) (hlt hN (by decide)) dX10_reads_282 ?_
      rw [wr_tp]
      refine a_iconst (v := 1) dX10_reads_285 (by decide) ?_
      refine a_isub dX10_reads_286 ?_
      rw [show nI s.2.2.2.2.1 - 1 = nI (s.2.2.2.2.1 - 1) from pk_sub (b := 1) tp]
      refine a_iald rfl (by decide) (hlt hN (by decide)) (show vp_in _ 40 from vp_in_nI (by omega) (by decide)) dX10_reads_287 ?_
      rw [nI_clamp (by omega), wr_r (by decide)]
      refine a_bipush (v := 9) dX10_reads_288 (by decide) ?_
      refine a_icmp_eq (tgt := 309) dX10_reads_290 (by decide) (fun c_290 => absurd c_290 (fun z => hc ⟨c_267, tp, Or.inl z⟩)) (fun c_290 => ?_)
      refine a_aload_n dX10_reads_293 rfl ?_
      refine a_getA (z := 87) kfX10_79 rfl rfl (st_64_34 hs) (by decide) (hlt hN (by decide)) dX10_reads_294 ?_
      refine a_aload_n dX10_reads_297 rfl ?_
      refine a_getI kfX10_141 rfl rfl (by decide) (hlt hN (by decide)) dX10_reads_298 ?_
      rw [wr_tp]
      refine a_iconst (v := 1) dX10_reads_301 (by decide) ?_
      refine a_isub dX10_reads_302 ?_
      rw [show nI s.2.2.2.2.1 - 1 = nI (s.2.2.2.2.1 - 1) from pk_sub (b := 1) tp]
      refine a_iald rfl (by decide) (hlt hN (by decide)) (show vp_in _ 40 from vp_in_nI (by omega) (by decide)) dX10_reads_303 ?_
      rw [nI_clamp (by omega), wr_r (by decide)]
      refine a_bipush (v := 11) dX10_reads_304 (by decide) ?_
      refine a_icmp_ne (tgt := 370) dX10_reads_306 (by decide) (fun c_306 => ?_) (fun c_306 => absurd c_306 (fun z => hc ⟨c_267, tp, Or.inr z⟩))
      exact rd_370 hn he b0 hN (by exact hs) h
theorem rd_353 {M : Mem} {N : Nat} {Q : Option Value → Nat → Mem → Prop} {n : Nat} (hn : n ≤ 40) (he : rI M 64 23 = nI n) {s : RS} {j : Int32} (hmt : s.2.2.2.1 + s.2.2.2.2.1 ≤ 40) (hN : 94 ≤ N) (hs : Str M.2.2.1) (h : AWh M N Q n 0 (feR (avR s))) : AW mX10_reads 4 0 0 N 353 [(0, .ref 64), (1, .int (nI n)), (2, .int 0), (3, .int 1), (4, .int j)] [] (wr M s) Q := by
  refine a_aload_n dX10_reads_353 rfl ?_
  refine a_dup dX10_reads_354 rfl ?_
  refine a_getI kfX10_126 rfl rfl (by decide) (hlt hN (by decide)) dX10_reads_355 ?_
  rw [wr_at]
  refine a_iconst (v := 1) dX10_reads_358 (by decide) ?_
  refine a_iadd dX10_reads_359 ?_
  rw [nI_1]
  refine a_putI kfX10_126 rfl rfl rfl (by decide) (hlt hN (by decide)) dX10_reads_360 ?_
  rw [wr_sat]
  refine a_aload_n dX10_reads_363 rfl ?_
  refine a_callV (mc1 := 0) (ms1 := 0) (As := []) kpX10_factorEnds kmX10_184 (by decide) rfl (Nat.le_of_ble_eq_true rfl) rfl (by decide) rfl (by decide) (hlt hN (by decide)) (Nat.le_of_ble_eq_true rfl) (Nat.le_of_ble_eq_true rfl) (Nat.le_of_ble_eq_true rfl) dX10_reads_364 (w_X10_factorEnds (M := M) (s := avR s) hn he (by exact hmt) hN (by exact hs) ?_)
  refine a_goto (tgt := 379) dX10_reads_367 (by decide) ?_
  refine a_goto (tgt := 40) dX10_reads_379 (by decide) ?_
  exact AW.sub (L' := [(0, .ref 64), (1, .int (nI n)), (2, .int 0), (3, .int 1)]) rfl h
theorem rd_329 {M : Mem} {N : Nat} {Q : Option Value → Nat → Mem → Prop} {n : Nat} (hn : n ≤ 40) (he : rI M 64 23 = nI n) {s : RS} {j : Int32} (hmt : s.2.2.2.1 + s.2.2.2.2.1 < 40) (hN : 94 ≤ N) (hs : Str M.2.2.1) (h : AWh M N Q n 0 (feR (avR (if s.2.2.2.2.2.2 87 s.2.2.2.2.1 = 11 then puR 8 0 0 (-1) (-1) s else s)))) : AW mX10_reads 4 0 0 N 329 [(0, .ref 64), (1, .int (nI n)), (2, .int 0), (3, .int 1), (4, .int j)] [] (wr M s) Q := by
  refine a_aload_n dX10_reads_329 rfl ?_
  refine a_getA (z := 87) kfX10_79 rfl rfl (st_64_34 hs) (by decide) (hlt hN (by decide)) dX10_reads_330 ?_
  refine a_aload_n dX10_reads_333 rfl ?_
  refine a_getI kfX10_141 rfl rfl (by decide) (hlt hN (by decide)) dX10_reads_334 ?_
  rw [wr_tp]
  refine a_iald rfl (by decide) (hlt hN (by decide)) (show vp_in _ 40 from vp_in_nI (by omega) (by decide)) dX10_reads_337 ?_
  rw [nI_clamp (by omega), wr_r (by decide)]
  refine a_bipush (v := 11) dX10_reads_338 (by decide) ?_
  refine a_icmp_ne (tgt := 353) dX10_reads_340 (by decide) (fun c_340 => ?_) (fun c_340 => ?_)
  · have e : ¬ s.2.2.2.2.2.2 87 s.2.2.2.2.1 = 11 := c_340
    first
    | (have e2 : ¬ s.2.2.2.2.2.2 87 s.2.2.2.2.1 = 11 := e
       rw [if_neg e2] at h
       exact rd_353 hn he (by omega) hN (by exact hs) h)
    | (have e2 : s.2.2.2.2.2.2 87 s.2.2.2.2.1 = 11 := e
       rw [if_pos e2] at h
       exact rd_353 (s := puR 8 0 0 (-1) (-1) s) hn he (by show s.2.2.2.1 + 1 + s.2.2.2.2.1 ≤ 40; omega) hN (by exact hs) h)
  · have e : s.2.2.2.2.2.2 87 s.2.2.2.2.1 = 11 := c_340
    refine a_aload_n dX10_reads_343 rfl ?_
    refine a_bipush (v := 8) dX10_reads_344 (by decide) ?_
    refine a_iconst (v := 0) dX10_reads_346 (by decide) ?_
    refine a_iconst (v := 0) dX10_reads_347 (by decide) ?_
    refine a_iconst (v := (-1)) dX10_reads_348 (by decide) ?_
    refine a_iconst (v := (-1)) dX10_reads_349 (by decide) ?_
    refine a_callV (mc1 := 0) (ms1 := 0) (As := [_, _, _, _, _]) kpX10_puts kmX10_144 (by decide) rfl (Nat.le_of_ble_eq_true rfl) rfl (by decide) rfl (by decide) (hlt hN (by decide)) (Nat.le_of_ble_eq_true rfl) (Nat.le_of_ble_eq_true rfl) (Nat.le_of_ble_eq_true rfl) dX10_reads_350 (w_X10_puts (M := M) (s := s) hn he (by omega) hN (by exact hs) ?_)
    first
    | (have e2 : ¬ s.2.2.2.2.2.2 87 s.2.2.2.2.1 = 11 := e
       rw [if_neg e2] at h
       exact rd_353 hn he (by omega) hN (by exact hs) h)
    | (have e2 : s.2.2.2.2.2.2 87 s.2.2.2.2.1 = 11 := e
       rw [if_pos e2] at h
       exact rd_353 (s := puR 8 0 0 (-1) (-1) s) hn he (by show s.2.2.2.1 + 1 + s.2.2.2.2.1 ≤ 40; omega) hN (by exact hs) h)
theorem rd_261c {M : Mem} {N : Nat} {Q : Option Value → Nat → Mem → Prop} {n : Nat} (hn : n ≤ 40) (he : rI M 64 23 = nI n) {s : RS} (hb : RB (n + 1) s) {j : Int32} (hmt : s.2.2.2.1 + s.2.2.2.2.1 ≤ 40) (hc : hrR (rI M 65) n s = 41) (tp : 0 < s.2.2.2.2.1) (h9 : ptR s = 9 ∨ ptR s = 11) (hN : 94 ≤ N) (hs : Str M.2.2.1) (h : AWh M N Q n 0 (feR (avR (clS s)))) : AW mX10_reads 4 0 0 N 261 [(0, .ref 64), (1, .int (nI n)), (2, .int 0), (3, .int 1), (4, .int j)] [] (wr M s) Q := by
  refine a_aload_n dX10_reads_261 rfl ?_
  refine a_callV (mc1 := 0) (ms1 := 0) (As := []) kpX10_here kmX10_158 (by decide) rfl (Nat.le_of_ble_eq_true rfl) rfl (by decide) rfl (by decide) (hlt hN (by decide)) (Nat.le_of_ble_eq_true rfl) (Nat.le_of_ble_eq_true rfl) (Nat.le_of_ble_eq_true rfl) dX10_reads_262 (w_X10_here (M := M) hn he (by have := hb.1; omega) hN (by exact hs) ?_)
  refine a_bipush (v := 41) dX10_reads_265 (by decide) ?_
  refine a_icmp_ne (tgt := 370) dX10_reads_267 (by decide) (fun c_267 => absurd hc c_267) (fun c_267 => ?_)
  refine a_aload_n dX10_reads_270 rfl ?_
  refine a_getI kfX10_141 rfl rfl (by decide) (hlt hN (by decide)) dX10_reads_271 ?_
  rw [wr_tp]
  refine a_if_le (tgt := 370) dX10_reads_274 (by decide) (fun c_274 => absurd c_274 (fun z => tp_npos (by omega) z tp)) (fun c_274 => ?_)
  refine a_aload_n dX10_reads_277 rfl ?_
  refine a_getA (z := 87) kfX10_79 rfl rfl (st_64_34 hs) (by decide) (hlt hN (by decide)) dX10_reads_278 ?_
  refine a_aload_n dX10_reads_281 rfl ?_
  refine a_getI kfX10_141 rfl rfl (by decide) (hlt hN (by decide)) dX10_reads_282 ?_
  rw [wr_tp]
  refine a_iconst (v := 1) dX10_reads_285 (by decide) ?_
  refine a_isub dX10_reads_286 ?_
  rw [show nI s.2.2.2.2.1 - 1 = nI (s.2.2.2.2.1 - 1) from pk_sub (b := 1) tp]
  refine a_iald rfl (by decide) (hlt hN (by decide)) (show vp_in _ 40 from vp_in_nI (by omega) (by decide)) dX10_reads_287 ?_
  rw [nI_clamp (by omega), wr_r (by decide)]
  refine a_bipush (v := 9) dX10_reads_288 (by decide) ?_
  refine a_icmp_eq (tgt := 309) dX10_reads_290 (by decide) (fun c_290 => ?_) (fun c_290 => ?_)
  · refine a_aload_n dX10_reads_309 rfl ?_
    refine a_dup dX10_reads_310 rfl ?_
    refine a_getI kfX10_141 rfl rfl (by decide) (hlt hN (by decide)) dX10_reads_311 ?_
    rw [wr_tp]
    refine a_iconst (v := 1) dX10_reads_314 (by decide) ?_
    refine a_isub dX10_reads_315 ?_
    rw [show nI s.2.2.2.2.1 - 1 = nI (s.2.2.2.2.1 - 1) from pk_sub (b := 1) tp]
    refine a_putI kfX10_141 rfl rfl rfl (by decide) (hlt hN (by decide)) dX10_reads_316 ?_
    rw [wr_stp]
    refine a_aload_n dX10_reads_319 rfl ?_
    refine a_dup dX10_reads_320 rfl ?_
    refine a_getI kfX10_148 rfl rfl (by decide) (hlt hN (by decide)) dX10_reads_321 ?_
    rw [wr_op]
    refine a_iconst (v := 1) dX10_reads_324 (by decide) ?_
    refine a_isub dX10_reads_325 ?_
    refine a_putI kfX10_148 rfl rfl rfl (by decide) (hlt hN (by decide)) dX10_reads_326 ?_
    rw [wr_sop]
    exact rd_329 (s := opD (tdR s)) hn he (by show s.2.2.2.1 + (s.2.2.2.2.1 - 1) < 40; omega) hN (by exact hs) h
  · refine a_aload_n dX10_reads_293 rfl ?_
    refine a_getA (z := 87) kfX10_79 rfl rfl (st_64_34 hs) (by decide) (hlt hN (by decide)) dX10_reads_294 ?_
    refine a_aload_n dX10_reads_297 rfl ?_
    refine a_getI kfX10_141 rfl rfl (by decide) (hlt hN (by decide)) dX10_reads_298 ?_
    rw [wr_tp]
    refine a_iconst (v := 1) dX10_reads_301 (by decide) ?_
    refine a_isub dX10_reads_302 ?_
    rw [show nI s.2.2.2.2.1 - 1 = nI (s.2.2.2.2.1 - 1) from pk_sub (b := 1) tp]
    refine a_iald rfl (by decide) (hlt hN (by decide)) (show vp_in _ 40 from vp_in_nI (by omega) (by decide)) dX10_reads_303 ?_
    rw [nI_clamp (by omega), wr_r (by decide)]
    refine a_bipush (v := 11) dX10_reads_304 (by decide) ?_
    refine a_icmp_ne (tgt := 370) dX10_reads_306 (by decide) (fun c_306 => absurd (h9.resolve_left c_290) c_306) (fun c_306 => ?_)
    refine a_aload_n dX10_reads_309 rfl ?_
    refine a_dup dX10_reads_310 rfl ?_
    refine a_getI kfX10_141 rfl rfl (by decide) (hlt hN (by decide)) dX10_reads_311 ?_
    rw [wr_tp]
    refine a_iconst (v := 1) dX10_reads_314 (by decide) ?_
    refine a_isub dX10_reads_315 ?_
    rw [show nI s.2.2.2.2.1 - 1 = nI (s.2.2.2.2.1 - 1) from pk_sub (b := 1) tp]
    refine a_putI kfX10_141 rfl rfl rfl (by decide) (hlt hN (by decide)) dX10_reads_316 ?_
    rw [wr_stp]
    refine a_aload_n dX10_reads_319 rfl ?_
    refine a_dup dX10_reads_320 rfl ?_
    refine a_getI kfX10_148 rfl rfl (by decide) (hlt hN (by decide)) dX10_reads_321 ?_
    rw [wr_op]
    refine a_iconst (v := 1) dX10_reads_324 (by decide) ?_
    refine a_isub dX10_reads_325 ?_
    refine a_putI kfX10_148 rfl rfl rfl (by decide) (hlt hN (by decide)) dX10_reads_326 ?_
    rw [wr_sop]
    exact rd_329 (s := opD (tdR s)) hn he (by show s.2.2.2.1 + (s.2.2.2.2.1 - 1) < 40; omega) hN (by exact hs) h
theorem rd_Nm {M : Mem} {N : Nat} {Q : Option Value → Nat → Mem → Prop} {n : Nat} (hn : n ≤ 40) (he : rI M 64 23 = nI n) {s : RS} (hb : RB (n + 1) s) (b0 : s.2.1 = 0) (htp : s.2.2.2.2.1 < 40) (hj : joF (hrR (rI M 65) n s) = 6 ∨ joF (hrR (rI M 65) n s) = 7) (hN : 94 ≤ N) (hs : Str M.2.2.1) (h : AWh M N Q n 1 (avR (waR (joF (hrR (rI M 65) n s)) (nI s.1) s))) : AW mX10_reads 4 0 0 N 40 [(0, .ref 64), (1, .int (nI n)), (2, .int 0), (3, .int 1)] [] (wr M s) Q := by
  refine a_iload_n dX10_reads_40 rfl ?_
  refine a_if_eq (tgt := 382) dX10_reads_41 (by decide) (fun c_41 => absurd c_41 (by decide)) (fun c_41 => ?_)
  refine a_aload_n dX10_reads_44 rfl ?_
  refine a_getI kfX10_132 rfl rfl (by decide) (hlt hN (by decide)) dX10_reads_45 ?_
  rw [wr_bad]
  refine a_if_ne (tgt := 382) dX10_reads_48 (by decide) (fun c_48 => absurd (by rw [b0]; rfl) c_48) (fun c_48 => ?_)
  refine a_iload_n dX10_reads_51 rfl ?_
  refine a_if_eq (tgt := 86) dX10_reads_52 (by decide) (fun c_52 => ?_) (fun c_52 => absurd rfl c_52)
  refine a_aload_n dX10_reads_86 rfl ?_
  refine a_callV (mc1 := 0) (ms1 := 0) (As := []) kpX10_here kmX10_158 (by decide) rfl (Nat.le_of_ble_eq_true rfl) rfl (by decide) rfl (by decide) (hlt hN (by decide)) (Nat.le_of_ble_eq_true rfl) (Nat.le_of_ble_eq_true rfl) (Nat.le_of_ble_eq_true rfl) dX10_reads_87 (w_X10_here (M := M) hn he (by have := hb.1; omega) hN (by exact hs) ?_)
  refine a_callS (mc1 := 0) (ms1 := 0) (As := [_]) kpX10_joinOf kmX10_187 (by decide) rfl (Nat.le_of_ble_eq_true rfl) (Nat.le_of_ble_eq_true rfl) (Nat.le_of_ble_eq_true rfl) (Nat.le_of_ble_eq_true rfl) dX10_reads_90 (w_X10_joinOf ?_)
  refine a_istore dX10_reads_93 (by decide) ?_
  refine a_iload dX10_reads_95 rfl ?_
  refine a_bipush (v := 6) dX10_reads_97 (by decide) ?_
  refine a_icmp_eq (tgt := 109) dX10_reads_99 (by decide) (fun c_99 => ?_) (fun c_99 => ?_)
  · exact AW.sub (L' := [(0, .ref 64), (1, .int (nI n)), (2, .int 0), (3, .int 1), (4, .int (joF (hrR (rI M 65) n s)))]) rfl (rd_109 hn he htp hN (by exact hs) h)
  · refine a_iload dX10_reads_102 rfl ?_
    refine a_bipush (v := 7) dX10_reads_104 (by decide) ?_
    refine a_icmp_ne (tgt := 134) dX10_reads_106 (by decide) (fun c_106 => absurd (hj.resolve_left c_99) c_106) (fun c_106 => ?_)
    exact AW.sub (L' := [(0, .ref 64), (1, .int (nI n)), (2, .int 0), (3, .int 1), (4, .int (joF (hrR (rI M 65) n s)))]) rfl (rd_109 hn he htp hN (by exact hs) h)
theorem rd_Na {M : Mem} {N : Nat} {Q : Option Value → Nat → Mem → Prop} {n : Nat} (hn : n ≤ 40) (he : rI M 64 23 = nI n) {s : RS} (hb : RB (n + 1) s) (b0 : s.2.1 = 0) (hmt : s.2.2.2.1 + s.2.2.2.2.1 ≤ 40) (hj : ¬ (joF (hrR (rI M 65) n s) = 6 ∨ joF (hrR (rI M 65) n s) = 7)) (hN : 94 ≤ N) (hs : Str M.2.2.1) (h : AW mX10_reads 4 0 0 N 138 [(0, .ref 64), (1, .int (nI n)), (2, .int 0), (3, .int 1), (4, .int (joF (hrR (rI M 65) n s)))] [] (wr M (seR s)) Q) : AW mX10_reads 4 0 0 N 40 [(0, .ref 64), (1, .int (nI n)), (2, .int 0), (3, .int 1)] [] (wr M s) Q := by
  refine a_iload_n dX10_reads_40 rfl ?_
  refine a_if_eq (tgt := 382) dX10_reads_41 (by decide) (fun c_41 => absurd c_41 (by decide)) (fun c_41 => ?_)
  refine a_aload_n dX10_reads_44 rfl ?_
  refine a_getI kfX10_132 rfl rfl (by decide) (hlt hN (by decide)) dX10_reads_45 ?_
  rw [wr_bad]
  refine a_if_ne (tgt := 382) dX10_reads_48 (by decide) (fun c_48 => absurd (by rw [b0]; rfl) c_48) (fun c_48 => ?_)
  refine a_iload_n dX10_reads_51 rfl ?_
  refine a_if_eq (tgt := 86) dX10_reads_52 (by decide) (fun c_52 => ?_) (fun c_52 => absurd rfl c_52)
  refine a_aload_n dX10_reads_86 rfl ?_
  refine a_callV (mc1 := 0) (ms1 := 0) (As := []) kpX10_here kmX10_158 (by decide) rfl (Nat.le_of_ble_eq_true rfl) rfl (by decide) rfl (by decide) (hlt hN (by decide)) (Nat.le_of_ble_eq_true rfl) (Nat.le_of_ble_eq_true rfl) (Nat.le_of_ble_eq_true rfl) dX10_reads_87 (w_X10_here (M := M) hn he (by have := hb.1; omega) hN (by exact hs) ?_)
  refine a_callS (mc1 := 0) (ms1 := 0) (As := [_]) kpX10_joinOf kmX10_187 (by decide) rfl (Nat.le_of_ble_eq_true rfl) (Nat.le_of_ble_eq_true rfl) (Nat.le_of_ble_eq_true rfl) (Nat.le_of_ble_eq_true rfl) dX10_reads_90 (w_X10_joinOf ?_)
  refine a_istore dX10_reads_93 (by decide) ?_
  refine a_iload dX10_reads_95 rfl ?_
  refine a_bipush (v := 6) dX10_reads_97 (by decide) ?_
  refine a_icmp_eq (tgt := 109) dX10_reads_99 (by decide) (fun c_99 => absurd c_99 (fun z => hj (Or.inl z))) (fun c_99 => ?_)
  refine a_iload dX10_reads_102 rfl ?_
  refine a_bipush (v := 7) dX10_reads_104 (by decide) ?_
  refine a_icmp_ne (tgt := 134) dX10_reads_106 (by decide) (fun c_106 => ?_) (fun c_106 => absurd c_106 (fun z => hj (Or.inr z)))
  refine a_aload_n dX10_reads_134 rfl ?_
  refine a_callV (mc1 := 0) (ms1 := 0) (As := []) kpX10_sumEnds kmX10_191 (by decide) rfl (Nat.le_of_ble_eq_true rfl) rfl (by decide) rfl (by decide) (hlt hN (by decide)) (Nat.le_of_ble_eq_true rfl) (Nat.le_of_ble_eq_true rfl) (Nat.le_of_ble_eq_true rfl) dX10_reads_135 (w_X10_sumEnds (M := M) (s := s) hn he hmt hN (by exact hs) ?_)
  exact AW.sub (L' := [(0, .ref 64), (1, .int (nI n)), (2, .int 0), (3, .int 1), (4, .int (joF (hrR (rI M 65) n s)))]) rfl h
theorem rd_138s {M : Mem} {N : Nat} {Q : Option Value → Nat → Mem → Prop} {n : Nat} (hn : n ≤ 40) (he : rI M 64 23 = nI n) {s : RS} {j : Int32} (htp : s.2.2.2.2.1 < 40) (hj : ¬ j = -1) (hN : 94 ≤ N) (hs : Str M.2.2.1) (h : AWh M N Q n 1 (avR (waR j (nI s.1) s))) : AW mX10_reads 4 0 0 N 138 [(0, .ref 64), (1, .int (nI n)), (2, .int 0), (3, .int 1), (4, .int j)] [] (wr M s) Q := by
  refine a_iload dX10_reads_138 rfl ?_
  refine a_iconst (v := (-1)) dX10_reads_140 (by decide) ?_
  refine a_icmp_eq (tgt := 169) dX10_reads_141 (by decide) (fun c_141 => absurd c_141 hj) (fun c_141 => ?_)
  exact rd_144 hn he htp hN (by exact hs) h
theorem rd_138e {M : Mem} {N : Nat} {Q : Option Value → Nat → Mem → Prop} {n : Nat} (hn : n ≤ 40) (he : rI M 64 23 = nI n) {s : RS} (hb2 : s.2.1 ≤ 2) {j : Int32} (htp : s.2.2.2.2.1 ≤ 40) (hj : j = -1) (hat : s.1 = n) (hN : 94 ≤ N) (hs : Str M.2.2.1) (h : Q none N (wr M (if 0 < s.2.2.2.2.1 then flR 1 s else s))) : AW mX10_reads 4 0 0 N 138 [(0, .ref 64), (1, .int (nI n)), (2, .int 0), (3, .int 1), (4, .int j)] [] (wr M s) Q := by
  refine a_iload dX10_reads_138 rfl ?_
  refine a_iconst (v := (-1)) dX10_reads_140 (by decide) ?_
  refine a_icmp_eq (tgt := 169) dX10_reads_141 (by decide) (fun c_141 => ?_) (fun c_141 => absurd hj c_141)
  refine a_aload_n dX10_reads_169 rfl ?_
  refine a_getI kfX10_126 rfl rfl (by decide) (hlt hN (by decide)) dX10_reads_170 ?_
  refine a_aload_n dX10_reads_173 rfl ?_
  refine a_getI kfX10_129 rfl rfl (by decide) (hlt hN (by decide)) dX10_reads_174 ?_
  rw [wr_at, wr_en, he]
  refine a_icmp_ne (tgt := 201) dX10_reads_177 (by decide) (fun c_177 => absurd (by rw [hat]) c_177) (fun c_177 => ?_)
  exact rd_180 hn he hb2 htp hN (by exact hs) h
theorem rd_138o {M : Mem} {N : Nat} {Q : Option Value → Nat → Mem → Prop} {n : Nat} (hn : n ≤ 40) (he : rI M 64 23 = nI n) {s : RS} {j : Int32} (hj : j = -1) (hat : ¬ s.1 = n) (hb1 : s.1 < 1000) (hN : 94 ≤ N) (hs : Str M.2.2.1) (h : AW mX10_reads 4 0 0 N 201 [(0, .ref 64), (1, .int (nI n)), (2, .int 0), (3, .int 1), (4, .int j)] [] (wr M s) Q) : AW mX10_reads 4 0 0 N 138 [(0, .ref 64), (1, .int (nI n)), (2, .int 0), (3, .int 1), (4, .int j)] [] (wr M s) Q := by
  refine a_iload dX10_reads_138 rfl ?_
  refine a_iconst (v := (-1)) dX10_reads_140 (by decide) ?_
  refine a_icmp_eq (tgt := 169) dX10_reads_141 (by decide) (fun c_141 => ?_) (fun c_141 => absurd hj c_141)
  refine a_aload_n dX10_reads_169 rfl ?_
  refine a_getI kfX10_126 rfl rfl (by decide) (hlt hN (by decide)) dX10_reads_170 ?_
  refine a_aload_n dX10_reads_173 rfl ?_
  refine a_getI kfX10_129 rfl rfl (by decide) (hlt hN (by decide)) dX10_reads_174 ?_
  rw [wr_at, wr_en, he]
  refine a_icmp_ne (tgt := 201) dX10_reads_177 (by decide) (fun c_177 => ?_) (fun c_177 => absurd c_177 (fun z => hat ((nI_eq (by omega) (by omega)).mp z)))
  exact h
