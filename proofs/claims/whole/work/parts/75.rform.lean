/-! the reference puts a formula -/
def cpT (M : Mem) (k p : Nat) : Mem := sR M 69 (fun x => if 40 * k ≤ x ∧ x < 40 * k + p then rI M 65 (x - 40 * k) else rI M 69 x)
theorem cpT_0 {M : Mem} {k : Nat} : cpT M k 0 = M := sR_id (fun j => if_neg (by omega))
theorem cpT_s {M : Mem} {k p : Nat} : sI (cpT M k p) 69 (40 * k + p) (rI M 65 p) = cpT M k (p + 1) := by
  unfold cpT
  rw [sI_sR]
  refine sR_congr (fun x => ?_)
  by_cases e : x = 40 * k + p
  · subst e
    rw [if_pos rfl, if_pos (by omega), Nat.add_sub_cancel_left]
  · rw [if_neg e]
    by_cases q : 40 * k ≤ x ∧ x < 40 * k + p
    · rw [if_pos q, if_pos (by omega)]
    · rw [if_neg q, if_neg (by omega)]
theorem cpT_o {M : Mem} {k p a j : Nat} (h : a ≠ 69) : rI (cpT M k p) a j = rI M a j := by unfold cpT; rw [rI_sR, if_neg h]
theorem cpT_i {M : Mem} {k p n : Nat} (h : p < n) : rI (cpT M k n) 69 (40 * k + p) = rI M 65 p := by
  unfold cpT
  rw [rI_sR, if_pos rfl, if_pos (by omega), Nat.add_sub_cancel_left]
theorem cpT_x {M : Mem} {k n x : Nat} (h : ¬ (40 * k ≤ x ∧ x < 40 * k + n)) : rI (cpT M k n) 69 x = rI M 69 x := by
  unfold cpT
  rw [rI_sR, if_pos rfl, if_neg h]
def cpR (M : Mem) (k i : Nat) : Mem := (fun a x => if 71 ≤ a ∧ a ≤ 75 ∧ 40 * k ≤ x ∧ x < 40 * k + i then M.1 (a + 11) (x - 40 * k) else M.1 a x, M.2)
theorem cpR_0 {M : Mem} {k : Nat} : cpR M k 0 = M := by
  refine Prod.ext ?_ rfl
  funext a x
  exact if_neg (by omega)
theorem cpR_o {M : Mem} {k i a x : Nat} (h : ¬ (71 ≤ a ∧ a ≤ 75 ∧ 40 * k ≤ x ∧ x < 40 * k + i)) : rI (cpR M k i) a x = rI M a x := if_neg h
theorem cpR_i {M : Mem} {k i a x : Nat} (h : 71 ≤ a ∧ a ≤ 75) (hx : x < i) : rI (cpR M k i) a (40 * k + x) = rI M (a + 11) x := (if_pos (by omega)).trans (by rw [Nat.add_sub_cancel_left]; rfl)
theorem cpR_s {M : Mem} {k i : Nat} : sI (sI (sI (sI (sI (cpR M k i) 71 (40 * k + i) (rI M 82 i)) 72 (40 * k + i) (rI M 83 i)) 73 (40 * k + i) (rI M 84 i)) 74 (40 * k + i) (rI M 85 i)) 75 (40 * k + i) (rI M 86 i) = cpR M k (i + 1) := by
  refine Prod.ext ?_ rfl
  funext a x
  show up2 (up2 (up2 (up2 (up2 (cpR M k i).1 71 (40 * k + i) (rI M 82 i)) 72 (40 * k + i) (rI M 83 i)) 73 (40 * k + i) (rI M 84 i)) 74 (40 * k + i) (rI M 85 i)) 75 (40 * k + i) (rI M 86 i) a x = (if 71 ≤ a ∧ a ≤ 75 ∧ 40 * k ≤ x ∧ x < 40 * k + (i + 1) then M.1 (a + 11) (x - 40 * k) else M.1 a x)
  unfold up2
  by_cases e : x = 40 * k + i
  · subst e
    by_cases h : 71 ≤ a ∧ a ≤ 75
    · rw [if_pos (show 71 ≤ a ∧ a ≤ 75 ∧ 40 * k ≤ 40 * k + i ∧ 40 * k + i < 40 * k + (i + 1) by omega), Nat.add_sub_cancel_left]
      rcases (show a = 71 ∨ a = 72 ∨ a = 73 ∨ a = 74 ∨ a = 75 by omega) with rfl | rfl | rfl | rfl | rfl <;> simp [rI]
    · rw [if_neg (show ¬ (71 ≤ a ∧ a ≤ 75 ∧ 40 * k ≤ 40 * k + i ∧ 40 * k + i < 40 * k + (i + 1)) by omega), if_neg (by omega), if_neg (by omega), if_neg (by omega), if_neg (by omega), if_neg (by omega)]
      exact if_neg (by omega)
  · rw [if_neg (fun z => e z.2), if_neg (fun z => e z.2), if_neg (fun z => e z.2), if_neg (fun z => e z.2), if_neg (fun z => e z.2)]
    show (if 71 ≤ a ∧ a ≤ 75 ∧ 40 * k ≤ x ∧ x < 40 * k + i then M.1 (a + 11) (x - 40 * k) else M.1 a x) = _
    by_cases h : 71 ≤ a ∧ a ≤ 75 ∧ 40 * k ≤ x ∧ x < 40 * k + i
    · rw [if_pos h, if_pos (by omega)]
    · rw [if_neg h, if_neg (by omega)]
/-- what stands after a formula was put at k -/
def PutR (M : Mem) (k n m : Nat) (σ : RS) (M' : Mem) : Prop := M'.2.2 = M.2.2 ∧ (∀ a j, ¬ (a = 64 ∧ (j = 1 ∨ 21 ≤ j ∧ j ≤ 28)) → ¬ (82 ≤ a ∧ a ≤ 88) → ¬ ((a = 66 ∨ a = 68 ∨ a = 70) ∧ j = k) → ¬ (a = 69 ∧ 40 * k ≤ j ∧ j < 40 * k + n) → ¬ (71 ≤ a ∧ a ≤ 75 ∧ 40 * k ≤ j ∧ j < 40 * k + m) → rI M' a j = rI M a j) ∧ (∀ a j, ¬ (a = 76 ∧ j = k) → rJ M' a j = rJ M a j) ∧ rI M' 64 1 = 0 ∧ rI M' 64 21 = 0 ∧ rI M' 66 k = 2 ∧ rI M' 68 k = nI n ∧ rI M' 70 k = nI m ∧ (∀ p, p < n → rI M' 69 (40 * k + p) = rI M 65 p) ∧ (∀ a i, 71 ≤ a → a ≤ 75 → i < m → rI M' a (40 * k + i) = rwT σ (a + 11) i) ∧ rJ M' 76 k = nmF (rwT σ 82) (rwT σ 83) (rwT σ 84) m
/-- what stands after a fault -/
def BadM (M M' : Mem) : Prop := M'.2.2 = M.2.2 ∧ (∀ a j, ¬ (a = 64 ∧ (j = 1 ∨ 22 ≤ j ∧ j ≤ 28)) → ¬ (82 ≤ a ∧ a ≤ 88) → rI M' a j = rI M a j) ∧ (∀ a j, rJ M' a j = rJ M a j) ∧ rI M' 64 1 = 0
theorem wr_o64 {M : Mem} {σ : RS} {j : Nat} (h : ¬ (22 ≤ j ∧ j ≤ 28)) : rI (wr M σ) 64 j = rI M 64 j := by
  show (if 64 = 64 then (if j = 22 then nI σ.1 else if j = 24 then nI σ.2.1 else if j = 25 then nI σ.2.2.1 else if j = 26 then nI σ.2.2.2.1 else if j = 27 then nI σ.2.2.2.2.1 else if j = 28 then σ.2.2.2.2.2.1 else M.1 64 j) else if 82 ≤ 64 ∧ 64 ≤ 88 then σ.2.2.2.2.2.2 64 j else M.1 64 j) = M.1 64 j
  rw [if_pos rfl, if_neg (by omega), if_neg (by omega), if_neg (by omega), if_neg (by omega), if_neg (by omega), if_neg (by omega)]
theorem rowT_wf {s : CS} {k : Nat} {o a b p q : Int32} (h : RowT s k o a b p q) : (o = 1 → ∃ c, c < 64 ∧ a = nI c) ∧ (o = 2 → ∃ c e, c < 64 ∧ e < 64 ∧ a = nI c ∧ b = nI e) := by
  rcases h with ⟨h, -⟩ | ⟨h, -, -, -, -, h2⟩ | ⟨h, -, -, -, -, -, -, -, h2⟩ | ⟨h, -⟩ | ⟨h, -⟩ | ⟨h, -⟩
  · exact ⟨fun z => absurd (h.symm.trans z) (by decide), fun z => absurd (h.symm.trans z) (by decide)⟩
  · exact ⟨fun _ => h2, fun z => absurd (h.symm.trans z) (by decide)⟩
  · exact ⟨fun z => absurd (h.symm.trans z) (by decide), fun _ => h2⟩
  · exact ⟨fun z => absurd (h.symm.trans z) (by decide), fun z => absurd (h.symm.trans z) (by decide)⟩
  · exact ⟨fun z => absurd h (by rw [z]; decide), fun z => absurd h (by rw [z]; decide)⟩
  · exact ⟨fun z => absurd (h.symm.trans z) (by decide), fun z => absurd (h.symm.trans z) (by decide)⟩
theorem Tk.wf {s : CS} {σ : RS} (h : Tk s σ) : WFK (rwT σ 82) (rwT σ 83) (rwT σ 84) σ.2.2.2.1 := by
  obtain ⟨J, -, -, hJ⟩ := h
  exact fun i hi => rowT_wf (hJ i hi).1
theorem l_X10_fmT {M : Mem} {N : Nat} {Q : Option Value → Nat → Mem → Prop} {i j n : Nat} (hi : i < 6) (hj : j < 64) (hn : n ≤ 40) (hby : ∀ p, p < n → (rI M 65 p).toInt8.toInt32 = rI M 65 p) (hN : 94 ≤ N) (hs : Str M.2.2.1) (h : AW mX10_formula 6 0 0 N 123 [(0, .ref 64), (1, .int (nI i)), (2, .int (nI j)), (3, .int (nI n)), (4, .int (nI (64 * i + j))), (5, .int (nI n))] [] (cpT M (64 * i + j) n) Q) : ∀ (r p : Nat), p + r = n → AW mX10_formula 6 0 0 N 91 [(0, .ref 64), (1, .int (nI i)), (2, .int (nI j)), (3, .int (nI n)), (4, .int (nI (64 * i + j))), (5, .int (nI p))] [] (cpT M (64 * i + j) p) Q := by
  intro r
  induction r with
  | zero =>
    intro p hk
    obtain rfl : p = n := by omega
    refine a_iload dX10_formula_91 rfl ?_
    refine a_iload_n dX10_formula_93 rfl ?_
    refine a_icmp_ge (tgt := 123) dX10_formula_94 (by decide) (fun c_94 => ?_) (fun c_94 => absurd (nI_le (by omega) (by omega)) c_94)
    exact h
  | succ r ih =>
    intro p hk
    have hp : p < n := by omega
    refine a_iload dX10_formula_91 rfl ?_
    refine a_iload_n dX10_formula_93 rfl ?_
    refine a_icmp_ge (tgt := 123) dX10_formula_94 (by decide) (fun c_94 => absurd c_94 (nI_ge hp (by omega))) (fun c_94 => ?_)
    refine a_aload_n dX10_formula_97 rfl ?_
    refine a_getA (z := 69) kfX10_23 rfl rfl (st_64_5 hs) (by decide) (hlt hN (by decide)) dX10_formula_98 ?_
    refine a_bipush (v := 40) dX10_formula_101 (by decide) ?_
    refine a_iload dX10_formula_103 rfl ?_
    refine a_imul dX10_formula_105 ?_
    refine a_iload dX10_formula_106 rfl ?_
    refine a_iadd dX10_formula_108 ?_
    rw [k40]
    refine a_aload_n dX10_formula_109 rfl ?_
    refine a_getA (z := 65) kfX10_7 rfl rfl (st_64_0 hs) (by decide) (hlt hN (by decide)) dX10_formula_110 ?_
    refine a_iload dX10_formula_113 rfl ?_
    refine a_bald rfl (by decide) (hlt hN (by decide)) (show vp_in _ 60 from vp_in_nI (by omega) (by decide)) dX10_formula_115 ?_
    rw [nI_clamp (by omega), cpT_o (by decide)]
    refine a_bast rfl (by decide) (hlt hN (by decide)) (show vp_in _ 15360 from vp_in_nI (by omega) (by decide)) dX10_formula_116 ?_
    rw [nI_clamp (by omega), hby p hp, cpT_s]
    refine a_iinc dX10_formula_117 rfl rfl (by decide) ?_
    refine a_goto (tgt := 91) dX10_formula_120 (by decide) ?_
    rw [show nI p + Int32.ofInt 1 = nI (p + 1) from nI_1 p]
    exact AW.sub (L' := [(0, .ref 64), (1, .int (nI i)), (2, .int (nI j)), (3, .int (nI n)), (4, .int (nI (64 * i + j))), (5, .int (nI (p + 1)))]) rfl (ih (p + 1) (by omega))
theorem l_X10_fmR {M : Mem} {N : Nat} {Q : Option Value → Nat → Mem → Prop} {i j n : Nat} (hi : i < 6) (hj : j < 64) (hn : n ≤ 40) {m : Nat} (hm : m ≤ 40) (hmd : rI M 64 26 = nI m) (hN : 94 ≤ N) (hs : Str M.2.2.1) (h : AW mX10_formula 6 0 0 N 252 [(0, .ref 64), (1, .int (nI i)), (2, .int (nI j)), (3, .int (nI n)), (4, .int (nI (64 * i + j))), (5, .int (nI m))] [] (cpR M (64 * i + j) m) Q) : ∀ (r x : Nat), x + r = m → AW mX10_formula 6 0 0 N 137 [(0, .ref 64), (1, .int (nI i)), (2, .int (nI j)), (3, .int (nI n)), (4, .int (nI (64 * i + j))), (5, .int (nI x))] [] (cpR M (64 * i + j) x) Q := by
  intro r
  induction r with
  | zero =>
    intro x hk
    obtain rfl : x = m := by omega
    refine a_iload dX10_formula_137 rfl ?_
    refine a_aload_n dX10_formula_139 rfl ?_
    refine a_getI kfX10_138 rfl rfl (by decide) (hlt hN (by decide)) dX10_formula_140 ?_
    rw [show rI (cpR M (64 * i + j) x) 64 26 = rI M 64 26 from cpR_o (by omega), hmd]
    refine a_icmp_ge (tgt := 252) dX10_formula_143 (by decide) (fun c_143 => ?_) (fun c_143 => absurd (nI_le (by omega) (by omega)) c_143)
    exact h
  | succ r ih =>
    intro x hk
    have hx : x < m := by omega
    refine a_iload dX10_formula_137 rfl ?_
    refine a_aload_n dX10_formula_139 rfl ?_
    refine a_getI kfX10_138 rfl rfl (by decide) (hlt hN (by decide)) dX10_formula_140 ?_
    rw [show rI (cpR M (64 * i + j) x) 64 26 = rI M 64 26 from cpR_o (by omega), hmd]
    refine a_icmp_ge (tgt := 252) dX10_formula_143 (by decide) (fun c_143 => absurd c_143 (nI_ge hx (by omega))) (fun c_143 => ?_)
    refine a_aload_n dX10_formula_146 rfl ?_
    refine a_getA (z := 71) kfX10_29 rfl rfl (st_64_7 hs) (by decide) (hlt hN (by decide)) dX10_formula_147 ?_
    refine a_bipush (v := 40) dX10_formula_150 (by decide) ?_
    refine a_iload dX10_formula_152 rfl ?_
    refine a_imul dX10_formula_154 ?_
    refine a_iload dX10_formula_155 rfl ?_
    refine a_iadd dX10_formula_157 ?_
    rw [k40]
    refine a_aload_n dX10_formula_158 rfl ?_
    refine a_getA (z := 82) kfX10_64 rfl rfl (st_64_29 hs) (by decide) (hlt hN (by decide)) dX10_formula_159 ?_
    refine a_iload dX10_formula_162 rfl ?_
    refine a_iald rfl (by decide) (hlt hN (by decide)) (show vp_in _ 40 from m40 (by omega)) dX10_formula_164 ?_
    rw [nI_clamp (by omega), show rI (cpR M (64 * i + j) x) 82 x = rI M 82 x from by rw [cpR_o (by omega)]]
    refine a_iast rfl (by decide) (hlt hN (by decide)) (show vp_in _ 15360 from vp_in_nI (by omega) (by decide)) dX10_formula_165 ?_
    rw [nI_clamp (by omega)]
    refine a_aload_n dX10_formula_166 rfl ?_
    refine a_getA (z := 72) kfX10_32 rfl rfl (st_64_8 hs) (by decide) (hlt hN (by decide)) dX10_formula_167 ?_
    refine a_bipush (v := 40) dX10_formula_170 (by decide) ?_
    refine a_iload dX10_formula_172 rfl ?_
    refine a_imul dX10_formula_174 ?_
    refine a_iload dX10_formula_175 rfl ?_
    refine a_iadd dX10_formula_177 ?_
    rw [k40]
    refine a_aload_n dX10_formula_178 rfl ?_
    refine a_getA (z := 83) kfX10_67 rfl rfl (st_64_30 hs) (by decide) (hlt hN (by decide)) dX10_formula_179 ?_
    refine a_iload dX10_formula_182 rfl ?_
    refine a_iald rfl (by decide) (hlt hN (by decide)) (show vp_in _ 40 from m40 (by omega)) dX10_formula_184 ?_
    rw [nI_clamp (by omega), show rI (sI (cpR M (64 * i + j) x) 71 (40 * (64 * i + j) + x) (rI M 82 x)) 83 x = rI M 83 x from by rw [rI_sI, if_neg (by omega), cpR_o (by omega)]]
    refine a_iast rfl (by decide) (hlt hN (by decide)) (show vp_in _ 15360 from vp_in_nI (by omega) (by decide)) dX10_formula_185 ?_
    rw [nI_clamp (by omega)]
    refine a_aload_n dX10_formula_186 rfl ?_
    refine a_getA (z := 73) kfX10_35 rfl rfl (st_64_9 hs) (by decide) (hlt hN (by decide)) dX10_formula_187 ?_
    refine a_bipush (v := 40) dX10_formula_190 (by decide) ?_
    refine a_iload dX10_formula_192 rfl ?_
    refine a_imul dX10_formula_194 ?_
    refine a_iload dX10_formula_195 rfl ?_
    refine a_iadd dX10_formula_197 ?_
    rw [k40]
    refine a_aload_n dX10_formula_198 rfl ?_
    refine a_getA (z := 84) kfX10_70 rfl rfl (st_64_31 hs) (by decide) (hlt hN (by decide)) dX10_formula_199 ?_
    refine a_iload dX10_formula_202 rfl ?_
    refine a_iald rfl (by decide) (hlt hN (by decide)) (show vp_in _ 40 from m40 (by omega)) dX10_formula_204 ?_
    rw [nI_clamp (by omega), show rI (sI (sI (cpR M (64 * i + j) x) 71 (40 * (64 * i + j) + x) (rI M 82 x)) 72 (40 * (64 * i + j) + x) (rI M 83 x)) 84 x = rI M 84 x from by rw [rI_sI, if_neg (by omega), rI_sI, if_neg (by omega), cpR_o (by omega)]]
    refine a_iast rfl (by decide) (hlt hN (by decide)) (show vp_in _ 15360 from vp_in_nI (by omega) (by decide)) dX10_formula_205 ?_
    rw [nI_clamp (by omega)]
    refine a_aload_n dX10_formula_206 rfl ?_
    refine a_getA (z := 74) kfX10_38 rfl rfl (st_64_10 hs) (by decide) (hlt hN (by decide)) dX10_formula_207 ?_
    refine a_bipush (v := 40) dX10_formula_210 (by decide) ?_
    refine a_iload dX10_formula_212 rfl ?_
    refine a_imul dX10_formula_214 ?_
    refine a_iload dX10_formula_215 rfl ?_
    refine a_iadd dX10_formula_217 ?_
    rw [k40]
    refine a_aload_n dX10_formula_218 rfl ?_
    refine a_getA (z := 85) kfX10_73 rfl rfl (st_64_32 hs) (by decide) (hlt hN (by decide)) dX10_formula_219 ?_
    refine a_iload dX10_formula_222 rfl ?_
    refine a_iald rfl (by decide) (hlt hN (by decide)) (show vp_in _ 40 from m40 (by omega)) dX10_formula_224 ?_
    rw [nI_clamp (by omega), show rI (sI (sI (sI (cpR M (64 * i + j) x) 71 (40 * (64 * i + j) + x) (rI M 82 x)) 72 (40 * (64 * i + j) + x) (rI M 83 x)) 73 (40 * (64 * i + j) + x) (rI M 84 x)) 85 x = rI M 85 x from by rw [rI_sI, if_neg (by omega), rI_sI, if_neg (by omega), rI_sI, if_neg (by omega), cpR_o (by omega)]]
    refine a_iast rfl (by decide) (hlt hN (by decide)) (show vp_in _ 15360 from vp_in_nI (by omega) (by decide)) dX10_formula_225 ?_
    rw [nI_clamp (by omega)]
    refine a_aload_n dX10_formula_226 rfl ?_
    refine a_getA (z := 75) kfX10_41 rfl rfl (st_64_11 hs) (by decide) (hlt hN (by decide)) dX10_formula_227 ?_
    refine a_bipush (v := 40) dX10_formula_230 (by decide) ?_
    refine a_iload dX10_formula_232 rfl ?_
    refine a_imul dX10_formula_234 ?_
    refine a_iload dX10_formula_235 rfl ?_
    refine a_iadd dX10_formula_237 ?_
    rw [k40]
    refine a_aload_n dX10_formula_238 rfl ?_
    refine a_getA (z := 86) kfX10_76 rfl rfl (st_64_33 hs) (by decide) (hlt hN (by decide)) dX10_formula_239 ?_
    refine a_iload dX10_formula_242 rfl ?_
    refine a_iald rfl (by decide) (hlt hN (by decide)) (show vp_in _ 40 from m40 (by omega)) dX10_formula_244 ?_
    rw [nI_clamp (by omega), show rI (sI (sI (sI (sI (cpR M (64 * i + j) x) 71 (40 * (64 * i + j) + x) (rI M 82 x)) 72 (40 * (64 * i + j) + x) (rI M 83 x)) 73 (40 * (64 * i + j) + x) (rI M 84 x)) 74 (40 * (64 * i + j) + x) (rI M 85 x)) 86 x = rI M 86 x from by rw [rI_sI, if_neg (by omega), rI_sI, if_neg (by omega), rI_sI, if_neg (by omega), rI_sI, if_neg (by omega), cpR_o (by omega)]]
    refine a_iast rfl (by decide) (hlt hN (by decide)) (show vp_in _ 15360 from vp_in_nI (by omega) (by decide)) dX10_formula_245 ?_
    rw [nI_clamp (by omega), cpR_s]
    refine a_iinc dX10_formula_246 rfl rfl (by decide) ?_
    refine a_goto (tgt := 137) dX10_formula_249 (by decide) ?_
    rw [show nI x + Int32.ofInt 1 = nI (x + 1) from nI_1 x]
    exact AW.sub (L' := [(0, .ref 64), (1, .int (nI i)), (2, .int (nI j)), (3, .int (nI n)), (4, .int (nI (64 * i + j))), (5, .int (nI (x + 1)))]) rfl (ih (x + 1) (by omega))
theorem b01z {n : Nat} {t : Nat → Int32} {σ : RS} (h : RdR n t σ) (z : nI σ.2.1 ≤ 0) : σ.2.1 = 0 := by
  rcases h with ⟨-, h, -⟩ | ⟨-, -, h, -⟩
  · exact h.2.1
  · rw [Int32.le_iff_toInt_le, nIt (by omega)] at z
    have e : (0 : Int32).toInt = 0 := rfl
    omega
theorem fm_bad {M : Mem} {N : Nat} {Q : Option Value → Nat → Mem → Prop} {n : Nat} {t : Nat → Int32} {σ : RS} (hrd : RdR n t σ) (b : ¬ σ.2.1 = 0) (h1 : ∀ M', ¬ (pzC t n cs0).2.1 = 0 → BadM M M' → Q (some (.int (pzC t n cs0).2.1)) N M') : Q (some (.int (100 * nI σ.2.1 + nI σ.2.2.1))) N (wr (sI (sI M 64 1 0) 64 23 (nI n)) σ) := by
  rcases hrd with ⟨-, h, -⟩ | ⟨h, hb⟩
  · exact absurd h.2.1 b
  · have e : (100 : Int32) * nI σ.2.1 + nI σ.2.2.1 = (pzC t n cs0).2.1 := by
      rw [← hb.2.2.2, show (100 : Int32) = nI 100 from rfl, pk_mul, nI_add]
    rw [e]
    refine h1 _ h ⟨rfl, fun a j p q => ?_, fun a j => rfl, ?_⟩
    · by_cases e : a = 64
      · subst e
        rw [wr_o64 (by omega), rI_sI, if_neg (by omega), rI_sI, if_neg (by omega)]
      · rw [wr_o e (by omega), rI_sI, if_neg (by omega), rI_sI, if_neg (by omega)]
    · rw [wr_o64 (by omega), rI_sI, if_neg (by omega), rI_sI, if_pos ⟨rfl, rfl⟩]
theorem l_X10_fm64 {M : Mem} {N : Nat} {Q : Option Value → Nat → Mem → Prop} {i j n : Nat} (hi : i < 6) (hj : j < 64) (hn : n ≤ 40) {t : Nat → Int32} {σ : RS} {m : Nat} (hmm : σ.2.2.2.1 = m) (hm4 : m ≤ 40) (hz : (pzC t n cs0).2.1 = 0) (hht : htR (rwT σ 82) m = 1) (hRel : Rel n 6 (pzC t n cs0) σ) (hby : ∀ p, p < n → (rI M 65 p).toInt8.toInt32 = rI M 65 p) (h36 : rI M 64 36 = -1) (hN : 94 ≤ N) (hs : Str M.2.2.1) (h0 : ∀ M' σ m, (pzC t n cs0).2.1 = 0 → m ≤ 40 → σ.2.2.2.1 = m → Rel n 6 (pzC t n cs0) σ → htR (rwT σ 82) m = 1 → PutR M (64 * i + j) n m σ M' → Q (some (.int 0)) N M') : AW mX10_formula 6 0 0 N 64 [(0, .ref 64), (1, .int (nI i)), (2, .int (nI j)), (3, .int (nI n))] [] (wr (sI (sI M 64 1 0) 64 23 (nI n)) σ) Q := by
  refine a_bipush (v := 64) dX10_formula_64 (by decide) ?_
  refine a_iload_n dX10_formula_66 rfl ?_
  refine a_imul dX10_formula_67 ?_
  refine a_iload_n dX10_formula_68 rfl ?_
  refine a_iadd dX10_formula_69 ?_
  rw [i64]
  refine a_istore dX10_formula_70 (by decide) ?_
  refine a_aload_n dX10_formula_72 rfl ?_
  refine a_getA (z := 66) kfX10_13 rfl rfl (st_64_2 hs) (by decide) (hlt hN (by decide)) dX10_formula_73 ?_
  refine a_iload dX10_formula_76 rfl ?_
  refine a_iconst (v := 2) dX10_formula_78 (by decide) ?_
  refine a_iast rfl (by decide) (hlt hN (by decide)) (show vp_in _ 384 from vp_in_nI (by omega) (by decide)) dX10_formula_79 ?_
  rw [nI_clamp (by omega)]
  refine a_aload_n dX10_formula_80 rfl ?_
  refine a_getA (z := 68) kfX10_20 rfl rfl (st_64_4 hs) (by decide) (hlt hN (by decide)) dX10_formula_81 ?_
  refine a_iload dX10_formula_84 rfl ?_
  refine a_iload_n dX10_formula_86 rfl ?_
  refine a_iast rfl (by decide) (hlt hN (by decide)) (show vp_in _ 384 from vp_in_nI (by omega) (by decide)) dX10_formula_87 ?_
  rw [nI_clamp (by omega)]
  refine a_iconst (v := 0) dX10_formula_88 (by decide) ?_
  refine a_istore dX10_formula_89 (by decide) ?_
  refine AW.sub (L' := [(0, .ref 64), (1, .int (nI i)), (2, .int (nI j)), (3, .int (nI n)), (4, .int (nI (64 * i + j))), (5, .int (nI 0))]) rfl ?_
  rw [show AW mX10_formula 6 0 0 N 91 [(0, .ref 64), (1, .int (nI i)), (2, .int (nI j)), (3, .int (nI n)), (4, .int (nI (64 * i + j))), (5, .int (nI 0))] [] (sI (sI (wr (sI (sI M 64 1 0) 64 23 (nI n)) σ) 66 (64 * i + j) 2) 68 (64 * i + j) (nI n)) Q = AW mX10_formula 6 0 0 N 91 [(0, .ref 64), (1, .int (nI i)), (2, .int (nI j)), (3, .int (nI n)), (4, .int (nI (64 * i + j))), (5, .int (nI 0))] [] (cpT (sI (sI (wr (sI (sI M 64 1 0) 64 23 (nI n)) σ) 66 (64 * i + j) 2) 68 (64 * i + j) (nI n)) (64 * i + j) 0) Q from by rw [cpT_0]]
  refine l_X10_fmT hi hj hn (by exact hby) hN (by exact hs) ?_ n 0 (by omega)
  refine a_aload_n dX10_formula_123 rfl ?_
  refine a_getA (z := 70) kfX10_26 rfl rfl (st_64_6 hs) (by decide) (hlt hN (by decide)) dX10_formula_124 ?_
  refine a_iload dX10_formula_127 rfl ?_
  refine a_aload_n dX10_formula_129 rfl ?_
  refine a_getI kfX10_138 rfl rfl (by decide) (hlt hN (by decide)) dX10_formula_130 ?_
  rw [show rI (cpT (sI (sI (wr (sI (sI M 64 1 0) 64 23 (nI n)) σ) 66 (64 * i + j) 2) 68 (64 * i + j) (nI n)) (64 * i + j) n) 64 26 = nI σ.2.2.2.1 from rfl, hmm]
  refine a_iast rfl (by decide) (hlt hN (by decide)) (show vp_in _ 384 from vp_in_nI (by omega) (by decide)) dX10_formula_133 ?_
  rw [nI_clamp (by omega)]
  refine a_iconst (v := 0) dX10_formula_134 (by decide) ?_
  refine a_istore dX10_formula_135 (by decide) ?_
  refine AW.sub (L' := [(0, .ref 64), (1, .int (nI i)), (2, .int (nI j)), (3, .int (nI n)), (4, .int (nI (64 * i + j))), (5, .int (nI 0))]) rfl ?_
  rw [show AW mX10_formula 6 0 0 N 137 [(0, .ref 64), (1, .int (nI i)), (2, .int (nI j)), (3, .int (nI n)), (4, .int (nI (64 * i + j))), (5, .int (nI 0))] [] (sI (cpT (sI (sI (wr (sI (sI M 64 1 0) 64 23 (nI n)) σ) 66 (64 * i + j) 2) 68 (64 * i + j) (nI n)) (64 * i + j) n) 70 (64 * i + j) (nI m)) Q = AW mX10_formula 6 0 0 N 137 [(0, .ref 64), (1, .int (nI i)), (2, .int (nI j)), (3, .int (nI n)), (4, .int (nI (64 * i + j))), (5, .int (nI 0))] [] (cpR (sI (cpT (sI (sI (wr (sI (sI M 64 1 0) 64 23 (nI n)) σ) 66 (64 * i + j) 2) 68 (64 * i + j) (nI n)) (64 * i + j) n) 70 (64 * i + j) (nI m)) (64 * i + j) 0) Q from by rw [cpR_0]]
  refine l_X10_fmR hi hj hn hm4 (show rI (sI (cpT (sI (sI (wr (sI (sI M 64 1 0) 64 23 (nI n)) σ) 66 (64 * i + j) 2) 68 (64 * i + j) (nI n)) (64 * i + j) n) 70 (64 * i + j) (nI m)) 64 26 = nI m by rw [show rI (sI (cpT (sI (sI (wr (sI (sI M 64 1 0) 64 23 (nI n)) σ) 66 (64 * i + j) 2) 68 (64 * i + j) (nI n)) (64 * i + j) n) 70 (64 * i + j) (nI m)) 64 26 = nI σ.2.2.2.1 from rfl, hmm]) hN (by exact hs) ?_ m 0 (by omega)
  have e36 : rI (cpR (sI (cpT (sI (sI (wr (sI (sI M 64 1 0) 64 23 (nI n)) σ) 66 (64 * i + j) 2) 68 (64 * i + j) (nI n)) (64 * i + j) n) 70 (64 * i + j) (nI m)) (64 * i + j) m) 64 36 = -1 := h36
  have hrow : ∀ x, x < m → rOp (cpR (sI (cpT (sI (sI (wr (sI (sI M 64 1 0) 64 23 (nI n)) σ) 66 (64 * i + j) 2) 68 (64 * i + j) (nI n)) (64 * i + j) n) 70 (64 * i + j) (nI m)) (64 * i + j) m) (64 * i + j) x = rwT σ 82 x ∧ rAr (cpR (sI (cpT (sI (sI (wr (sI (sI M 64 1 0) 64 23 (nI n)) σ) 66 (64 * i + j) 2) 68 (64 * i + j) (nI n)) (64 * i + j) n) 70 (64 * i + j) (nI m)) (64 * i + j) m) (64 * i + j) x = rwT σ 83 x ∧ rA2 (cpR (sI (cpT (sI (sI (wr (sI (sI M 64 1 0) 64 23 (nI n)) σ) 66 (64 * i + j) 2) 68 (64 * i + j) (nI n)) (64 * i + j) n) 70 (64 * i + j) (nI m)) (64 * i + j) m) (64 * i + j) x = rwT σ 84 x := fun x hx => by
    obtain ⟨q1, q2, q3⟩ := ro36 e36 (show (64 * i + j) < 384 by omega) (show x < 40 by omega)
    rw [q1, q2, q3]
    exact ⟨cpR_i (by omega) hx, cpR_i (by omega) hx, cpR_i (by omega) hx⟩
  have hwf : WFK (rOp (cpR (sI (cpT (sI (sI (wr (sI (sI M 64 1 0) 64 23 (nI n)) σ) 66 (64 * i + j) 2) 68 (64 * i + j) (nI n)) (64 * i + j) n) 70 (64 * i + j) (nI m)) (64 * i + j) m) (64 * i + j)) (rAr (cpR (sI (cpT (sI (sI (wr (sI (sI M 64 1 0) 64 23 (nI n)) σ) 66 (64 * i + j) 2) 68 (64 * i + j) (nI n)) (64 * i + j) n) 70 (64 * i + j) (nI m)) (64 * i + j) m) (64 * i + j)) (rA2 (cpR (sI (cpT (sI (sI (wr (sI (sI M 64 1 0) 64 23 (nI n)) σ) 66 (64 * i + j) 2) 68 (64 * i + j) (nI n)) (64 * i + j) n) 70 (64 * i + j) (nI m)) (64 * i + j) m) (64 * i + j)) m := WFK_cg hrow (by rw [← hmm]; exact hRel.2.2.2.2.2.2.2.2.1.wf)
  refine a_aload_n dX10_formula_252 rfl ?_
  refine a_getA (z := 76) kfX10_44 rfl rfl (st_64_12 hs) (by decide) (hlt hN (by decide)) dX10_formula_253 ?_
  refine a_iload dX10_formula_256 rfl ?_
  refine a_aload_n dX10_formula_258 rfl ?_
  refine a_iload dX10_formula_259 rfl ?_
  refine a_callV (mc1 := 0) (ms1 := 0) (As := [_]) kpX10_names0 kmX10_197 (by decide) rfl (Nat.le_of_ble_eq_true rfl) rfl (by decide) rfl (by decide) (hlt hN (by decide)) (Nat.le_of_ble_eq_true rfl) (Nat.le_of_ble_eq_true rfl) (Nat.le_of_ble_eq_true rfl) dX10_formula_261 (w_X10_names0 (M := (cpR (sI (cpT (sI (sI (wr (sI (sI M 64 1 0) 64 23 (nI n)) σ) 66 (64 * i + j) 2) 68 (64 * i + j) (nI n)) (64 * i + j) n) 70 (64 * i + j) (nI m)) (64 * i + j) m)) (mn := m) (show (64 * i + j) < 384 by omega) hm4 (show rI (cpR (sI (cpT (sI (sI (wr (sI (sI M 64 1 0) 64 23 (nI n)) σ) 66 (64 * i + j) 2) 68 (64 * i + j) (nI n)) (64 * i + j) n) 70 (64 * i + j) (nI m)) (64 * i + j) m) 70 (64 * i + j) = nI m by rw [cpR_o (by omega), rI_sI, if_pos ⟨rfl, rfl⟩]) hwf hN (by exact hs) ?_)
  refine a_last rfl (by decide) (hlt hN (by decide)) (show vp_in _ 384 from vp_in_nI (by omega) (by decide)) dX10_formula_264 ?_
  rw [nI_clamp (by omega)]
  refine a_aload_n dX10_formula_265 rfl ?_
  refine a_iconst (v := 0) dX10_formula_266 (by decide) ?_
  refine a_putZ kfX10_122 rfl rfl rfl (by decide) (by decide) (hlt hN (by decide)) dX10_formula_267 ?_
  refine a_iconst (v := 0) dX10_formula_270 (by decide) ?_
  refine a_iret dX10_formula_271 rfl (h0 _ σ m hz hm4 hmm hRel hht ⟨rfl, fun a x p1 p2 p3 p4 p5 => by
        by_cases e : a = 64
        · subst e
          rw [rI_sI, if_neg (by omega)]
          show rI (wr (sI (sI M 64 1 0) 64 23 (nI n)) σ) 64 x = _
          rw [wr_o64 (by omega), rI_sI, if_neg (by omega), rI_sI, if_neg (by omega)]
        · rw [rI_sI, if_neg (by omega), rI_sJ, cpR_o p5, rI_sI, if_neg (by omega)]
          by_cases e9 : a = 69
          · subst e9
            rw [cpT_x (by omega), rI_sI, if_neg (by omega), rI_sI, if_neg (by omega), wr_o (by omega) (by omega), rI_sI, if_neg (by omega), rI_sI, if_neg (by omega)]
          · rw [cpT_o e9, rI_sI, if_neg (by omega), rI_sI, if_neg (by omega), wr_o (by omega) (by omega), rI_sI, if_neg (by omega), rI_sI, if_neg (by omega)], fun a x p1 => by rw [rJ_sI, rJ_sJ, if_neg p1]; rfl, rfl, rfl, by rw [rI_sI, if_neg (by omega), rI_sJ, cpR_o (by omega), rI_sI, if_neg (by omega), cpT_o (by omega), rI_sI, if_neg (by omega), rI_sI, if_pos ⟨rfl, rfl⟩], by rw [rI_sI, if_neg (by omega), rI_sJ, cpR_o (by omega), rI_sI, if_neg (by omega), cpT_o (by omega), rI_sI, if_pos ⟨rfl, rfl⟩], by rw [rI_sI, if_neg (by omega), rI_sJ, cpR_o (by omega), rI_sI, if_pos ⟨rfl, rfl⟩], fun p hp => by rw [rI_sI, if_neg (by omega), rI_sJ, cpR_o (by omega), rI_sI, if_neg (by omega), cpT_i hp]; rfl, fun a x a1 a2 hx => by rw [rI_sI, if_neg (by omega), rI_sJ, cpR_i ⟨a1, a2⟩ hx, rI_sI, if_neg (by omega), cpT_o (by omega), rI_sI, if_neg (by omega), rI_sI, if_neg (by omega), wr_r (by omega)]; rfl, by rw [rJ_sI, rJ_sJ, if_pos ⟨rfl, rfl⟩]; exact nmF_cg m hrow⟩)
theorem w_X10_formula_in {M : Mem} {N : Nat} {Q : Option Value → Nat → Mem → Prop} {i j n : Nat} (hi : i < 6) (hj : j < 64) (hn : n ≤ 40) {tt : Nat} {t : Nat → Int32} (hnt : n ≤ tt) (ht6 : tt ≤ 60) (ht : rI M 64 1 = nI tt) (hby : ∀ p, p < n → (rI M 65 p).toInt8.toInt32 = rI M 65 p) (T : TxO t (rI M 65) n) (h36 : rI M 64 36 = -1) (hN : 94 ≤ N) (hs : Str M.2.2.1) (h1 : ∀ M', ¬ (pzC t n cs0).2.1 = 0 → BadM M M' → Q (some (.int (pzC t n cs0).2.1)) N M') (h0 : ∀ M' σ m, (pzC t n cs0).2.1 = 0 → m ≤ 40 → σ.2.2.2.1 = m → Rel n 6 (pzC t n cs0) σ → htR (rwT σ 82) m = 1 → PutR M (64 * i + j) n m σ M' → Q (some (.int 0)) N M') : AW mX10_formula 6 0 0 N 0 [(0, .ref 64), (1, .int (nI i)), (2, .int (nI j)), (3, .int (nI n))] [] M Q := by
  refine a_iload_n dX10_formula_0 rfl ?_
  refine a_callS (mc1 := 0) (ms1 := 0) (As := [_]) kpX10_isSheet kmX10_115 (by decide) rfl (Nat.le_of_ble_eq_true rfl) (Nat.le_of_ble_eq_true rfl) (Nat.le_of_ble_eq_true rfl) (Nat.le_of_ble_eq_true rfl) dX10_formula_1 (w_X10_isSheet ?_)
  refine a_if_eq (tgt := 32) dX10_formula_4 (by decide) (fun c_4 => absurd c_4 (fun z => bI_z.mp z ⟨by rw [nIt (by omega)]; omega, by rw [nIt (by omega)]; omega⟩)) (fun c_4 => ?_)
  refine a_iload_n dX10_formula_7 rfl ?_
  refine a_callS (mc1 := 0) (ms1 := 0) (As := [_]) kpX10_isCell kmX10_119 (by decide) rfl (Nat.le_of_ble_eq_true rfl) (Nat.le_of_ble_eq_true rfl) (Nat.le_of_ble_eq_true rfl) (Nat.le_of_ble_eq_true rfl) dX10_formula_8 (w_X10_isCell ?_)
  refine a_if_eq (tgt := 32) dX10_formula_11 (by decide) (fun c_11 => absurd c_11 (fun z => bI_z.mp z ⟨by rw [nIt (by omega)]; omega, by rw [nIt (by omega)]; omega⟩)) (fun c_11 => ?_)
  refine a_iload_n dX10_formula_14 rfl ?_
  refine a_iconst (v := 0) dX10_formula_15 (by decide) ?_
  refine a_bipush (v := 40) dX10_formula_16 (by decide) ?_
  refine a_callS (mc1 := 0) (ms1 := 0) (As := [_, _, _]) kpX10_lies kmX10_104 (by decide) rfl (Nat.le_of_ble_eq_true rfl) (Nat.le_of_ble_eq_true rfl) (Nat.le_of_ble_eq_true rfl) (Nat.le_of_ble_eq_true rfl) dX10_formula_18 (w_X10_lies ?_)
  refine a_if_eq (tgt := 32) dX10_formula_21 (by decide) (fun c_21 => absurd c_21 (fun z => bI_z.mp z ⟨by rw [nIt (by omega)]; show (0 : Int) ≤ _; omega, by rw [nIt (by omega)]; show _ ≤ (40 : Int); omega⟩)) (fun c_21 => ?_)
  refine a_iload_n dX10_formula_24 rfl ?_
  refine a_aload_n dX10_formula_25 rfl ?_
  refine a_getI kfX10_108 rfl rfl (by decide) (hlt hN (by decide)) dX10_formula_26 ?_
  rw [ht]
  refine a_icmp_le (tgt := 34) dX10_formula_29 (by decide) (fun c_29 => ?_) (fun c_29 => absurd (nI_le hnt (by omega)) c_29)
  refine a_aload_n dX10_formula_34 rfl ?_
  refine a_iconst (v := 0) dX10_formula_35 (by decide) ?_
  refine a_putI kfX10_108 rfl rfl rfl (by decide) (hlt hN (by decide)) dX10_formula_36 ?_
  refine a_aload_n dX10_formula_39 rfl ?_
  refine a_iload_n dX10_formula_40 rfl ?_
  refine a_callV (mc1 := 0) (ms1 := 0) (As := [_]) kpX10_reads kmX10_194 (by decide) rfl (Nat.le_of_ble_eq_true rfl) rfl (by decide) rfl (by decide) (hlt hN (by decide)) (Nat.le_of_ble_eq_true rfl) (Nat.le_of_ble_eq_true rfl) (Nat.le_of_ble_eq_true rfl) dX10_formula_41 (w_X10_reads (M := sI M 64 1 0) (n := n) (t := t) T hN (by exact hs) (fun σ hrd => ?_))
  refine a_aload_n dX10_formula_44 rfl ?_
  refine a_getI kfX10_132 rfl rfl (by decide) (hlt hN (by decide)) dX10_formula_45 ?_
  rw [show rI (wr (sI (sI M 64 1 0) 64 23 (nI n)) σ) 64 24 = nI σ.2.1 from wr_bad]
  have p48z : nI σ.2.1 ≤ 0 → σ.2.1 = 0 := fun z => b01z hrd z
  have p48n : ¬ nI σ.2.1 ≤ 0 → ¬ σ.2.1 = 0 := fun z q => z (by rw [q]; decide)
  refine a_if_le (tgt := 64) dX10_formula_48 (by decide) (fun c_48 => ?_) (fun c_48 => ?_)
  · have p48 : σ.2.1 = 0 := p48z c_48
    obtain ⟨hz, hRel, htp, hht⟩ := hrd.resolve_right (fun z => z.2.1 p48)
    have hm := hRel.mt
    have h7 := hRel.2.2.2.2.2.2.1
    obtain ⟨m, hmm⟩ : ∃ m, m = σ.2.2.2.1 := ⟨_, rfl⟩
    exact l_X10_fm64 hi hj hn hmm.symm (by omega) hz (by rw [← hmm] at hht; exact hht) hRel hby h36 hN hs h0
  · have p48 : ¬ σ.2.1 = 0 := p48n c_48
    refine a_bipush (v := 100) dX10_formula_51 (by decide) ?_
    refine a_aload_n dX10_formula_53 rfl ?_
    refine a_getI kfX10_132 rfl rfl (by decide) (hlt hN (by decide)) dX10_formula_54 ?_
    refine a_imul dX10_formula_57 ?_
    refine a_aload_n dX10_formula_58 rfl ?_
    refine a_getI kfX10_135 rfl rfl (by decide) (hlt hN (by decide)) dX10_formula_59 ?_
    refine a_iadd dX10_formula_62 ?_
    rw [show rI (wr (sI (sI M 64 1 0) 64 23 (nI n)) σ) 64 24 = nI σ.2.1 from wr_bad, show rI (wr (sI (sI M 64 1 0) 64 23 (nI n)) σ) 64 25 = nI σ.2.2.1 from wr_ba]
    refine a_iret dX10_formula_63 rfl (fm_bad hrd p48 h1)
theorem w_X10_formula_out {M : Mem} {N : Nat} {Q : Option Value → Nat → Mem → Prop} {s c v : Int32} {tt : Nat} (ht6 : tt ≤ 60) (ht : rI M 64 1 = nI tt) (ho : ¬ ((0 ≤ s.toInt ∧ s.toInt < 6) ∧ (0 ≤ c.toInt ∧ c.toInt < 64) ∧ (0 ≤ v.toInt ∧ v.toInt ≤ 40) ∧ v.toInt ≤ tt))  (hN : 94 ≤ N) (hs : Str M.2.2.1) (h : Q (some (.int (-1))) N (M)) : AW mX10_formula 6 0 0 N 0 [(0, .ref 64), (1, .int s), (2, .int c), (3, .int v)] [] M Q := by
  refine a_iload_n dX10_formula_0 rfl ?_
  refine a_callS (mc1 := 0) (ms1 := 0) (As := [_]) kpX10_isSheet kmX10_115 (by decide) rfl (Nat.le_of_ble_eq_true rfl) (Nat.le_of_ble_eq_true rfl) (Nat.le_of_ble_eq_true rfl) (Nat.le_of_ble_eq_true rfl) dX10_formula_1 (w_X10_isSheet ?_)
  refine a_if_eq (tgt := 32) dX10_formula_4 (by decide) (fun c_4 => ?_) (fun c_4 => ?_)
  · refine a_iconst (v := (-1)) dX10_formula_32 (by decide) ?_
    refine a_iret dX10_formula_33 rfl h
  · refine a_iload_n dX10_formula_7 rfl ?_
    refine a_callS (mc1 := 0) (ms1 := 0) (As := [_]) kpX10_isCell kmX10_119 (by decide) rfl (Nat.le_of_ble_eq_true rfl) (Nat.le_of_ble_eq_true rfl) (Nat.le_of_ble_eq_true rfl) (Nat.le_of_ble_eq_true rfl) dX10_formula_8 (w_X10_isCell ?_)
    refine a_if_eq (tgt := 32) dX10_formula_11 (by decide) (fun c_11 => ?_) (fun c_11 => ?_)
    · refine a_iconst (v := (-1)) dX10_formula_32 (by decide) ?_
      refine a_iret dX10_formula_33 rfl h
    · refine a_iload_n dX10_formula_14 rfl ?_
      refine a_iconst (v := 0) dX10_formula_15 (by decide) ?_
      refine a_bipush (v := 40) dX10_formula_16 (by decide) ?_
      refine a_callS (mc1 := 0) (ms1 := 0) (As := [_, _, _]) kpX10_lies kmX10_104 (by decide) rfl (Nat.le_of_ble_eq_true rfl) (Nat.le_of_ble_eq_true rfl) (Nat.le_of_ble_eq_true rfl) (Nat.le_of_ble_eq_true rfl) dX10_formula_18 (w_X10_lies ?_)
      refine a_if_eq (tgt := 32) dX10_formula_21 (by decide) (fun c_21 => ?_) (fun c_21 => ?_)
      · refine a_iconst (v := (-1)) dX10_formula_32 (by decide) ?_
        refine a_iret dX10_formula_33 rfl h
      · refine a_iload_n dX10_formula_24 rfl ?_
        refine a_aload_n dX10_formula_25 rfl ?_
        refine a_getI kfX10_108 rfl rfl (by decide) (hlt hN (by decide)) dX10_formula_26 ?_
        rw [ht]
        refine a_icmp_le (tgt := 34) dX10_formula_29 (by decide) (fun c_29 => absurd c_29 (fun z => ho ⟨bI_nz.mp c_4, bI_nz.mp c_11, bI_nz.mp c_21, by rw [Int32.le_iff_toInt_le, nIt (by omega)] at z; exact z⟩)) (fun c_29 => ?_)
        refine a_iconst (v := (-1)) dX10_formula_32 (by decide) ?_
        refine a_iret dX10_formula_33 rfl h

