/-! the law's cases: one call of both -/
abbrev mL_law : MD := (yL_law, code, 4, some .boolean)
/-- the script stays as it is -/
theorem AW.scr {μ : MD} {d mc ms N pc : Nat} {L : List (Nat × Value)} {S : List Value} {M : Mem} {Q : Option Value → Nat → Mem → Prop} (k : AW μ d mc ms N pc L S M (fun r N' M' => (M'.2.2.2 0 = M.2.2.2 0 ∧ ∀ j, j < M.2.2.2 0 → M'.1 0 j = M.1 0 j) → Q r N' M')) : AW μ d mc ms N pc L S M Q := by
  intro g p l e R s m args below meth c H locs cells slots ls C hS hR hc hs hl T hT X
  obtain ⟨t, a1, o, b1, b2, ⟨⟨r, N', M', c1, c2, c3⟩, c4⟩, b4⟩ := k g p l e R s m args below meth c H locs cells slots ls C hS hR hc hs hl T hT X
  have e0 : wL g = M.2.2.2 0 := hR.1.2.1
  have e1 : M'.2.2.2 0 = M.2.2.2 0 := (show wL g = M'.2.2.2 0 from c3.1.2.1).symm.trans e0
  exact ⟨t, a1, o, b1, b2, ⟨⟨r, N', M', c1, c2 ⟨e1, fun j hj => (c3.1.2.2 j (by omega)).symm.trans (hR.1.2.2 j (by omega))⟩, c3⟩, c4⟩, b4⟩
theorem AlI.f {mC mR : MD} {dC dR : Nat} {LC LR : List (Nat × Value)} {M : Mem} {N : Nat} (h : AlI mC mR dC dR LC LR M N) : AlF mC mR dC dR LC LR M N := by
  obtain ⟨v, h⟩ := h
  exact ⟨v, N, Or.inl rfl, fun Q hQ => AW.rm (Nat.zero_le _) (Nat.zero_le _) (h Q hQ)⟩
def sx (M : Mem) (k d : Nat) : Int32 := rI M 0 (nI (6 * k) + nI d).toNatClampNeg
theorem sx_i {k d L : Nat} (hd : d < 6) (hk : 6 * k + 6 ≤ L) (hL : L ≤ 3072) {M : Mem} (hl : M.2.2.2 0 = L) : vp_in (nI (6 * k) + nI d) (ln M 0) := by
  rw [nI_add]
  have e : ln M 0 = L := hl
  rw [e]
  exact vp_in_nI (by omega) (by omega)
theorem sx_eq {k d L : Nat} (hd : d < 6) (hk : 6 * k + 6 ≤ L) (hL : L ≤ 3072) {M M1 : Mem} (hl : M.2.2.2 0 = L) (h : ∀ j, j < M.2.2.2 0 → M1.1 0 j = M.1 0 j) : rI M1 0 (nI (6 * k) + nI d).toNatClampNeg = sx M k d := by
  unfold sx
  rw [nI_add, nI_clamp (by omega)]
  exact h _ (by omega)
theorem c_feed {M : Mem} {N W t L k mc ms : Nat} {Q : Option Value → Nat → Mem → Prop} (I : Inv M N W t) (hl : M.2.2.2 0 = L) (hk : 6 * k + 6 ≤ L) (hL : L ≤ 3072) (kk : ∀ N2 W2 t2 M2, Inv M2 N2 W2 t2 → M2.2.2.2 0 = L → AW mL_law 100 mc ms N2 843 [(0, .ref 0), (1, .ref 2), (2, .ref 64), (3, .int (nI (6 * k)))] [] M2 Q) : AW mL_law 100 (mc + 6) (ms + 168) N 124 [(0, .ref 0), (1, .ref 2), (2, .ref 64), (3, .int (nI (6 * k)))] [] M Q := by
  obtain ⟨v, N1, hN1, hv⟩ := (q_feed I (sx M k 1) (sx M k 2) (sx M k 3) (sx M k 4) (sx M k 5)).f
  have hN : 94 ≤ N := I.N9
  refine a_aload_n dL_law_124 rfl ?_
  refine a_aload_n dL_law_125 rfl ?_
  refine a_iload_n dL_law_126 rfl ?_
  refine a_iconst (v := 1) dL_law_127 (by decide) ?_
  refine a_iadd dL_law_128 ?_
  refine a_sld (sx_i (d := 1) (by decide) hk hL hl) dL_law_129 ?_
  refine a_aload_n dL_law_130 rfl ?_
  refine a_iload_n dL_law_131 rfl ?_
  refine a_iconst (v := 2) dL_law_132 (by decide) ?_
  refine a_iadd dL_law_133 ?_
  refine a_sld (sx_i (d := 2) (by decide) hk hL hl) dL_law_134 ?_
  refine a_aload_n dL_law_135 rfl ?_
  refine a_iload_n dL_law_136 rfl ?_
  refine a_iconst (v := 3) dL_law_137 (by decide) ?_
  refine a_iadd dL_law_138 ?_
  refine a_sld (sx_i (d := 3) (by decide) hk hL hl) dL_law_139 ?_
  refine a_aload_n dL_law_140 rfl ?_
  refine a_iload_n dL_law_141 rfl ?_
  refine a_iconst (v := 4) dL_law_142 (by decide) ?_
  refine a_iadd dL_law_143 ?_
  refine a_sld (sx_i (d := 4) (by decide) hk hL hl) dL_law_144 ?_
  refine a_aload_n dL_law_145 rfl ?_
  refine a_iload_n dL_law_146 rfl ?_
  refine a_iconst (v := 5) dL_law_147 (by decide) ?_
  refine a_iadd dL_law_148 ?_
  refine a_sld (sx_i (d := 5) (by decide) hk hL hl) dL_law_149 ?_
  simp only [show rI M 0 (nI (6 * k) + 1).toNatClampNeg = sx M k 1 from rfl, show rI M 0 (nI (6 * k) + 2).toNatClampNeg = sx M k 2 from rfl, show rI M 0 (nI (6 * k) + 3).toNatClampNeg = sx M k 3 from rfl, show rI M 0 (nI (6 * k) + 4).toNatClampNeg = sx M k 4 from rfl, show rI M 0 (nI (6 * k) + 5).toNatClampNeg = sx M k 5 from rfl]
  refine a_callV (mc1 := mc) (ms1 := ms) (As := [_, _, _, _, _]) kpX9_feed kmL_13 (by decide) rfl (Nat.le_of_ble_eq_true rfl) rfl (by decide) rfl (by decide) (hlt hN (by decide)) (Nat.le_of_ble_eq_true rfl) (by omega) (by omega) dL_law_150 (AW.scr (hv _ (fun M1 hM1 hs1 => ?_)))
  replace hN : 94 ≤ N1 := by omega
  have hl1 : M1.2.2.2 0 = L := hs1.1.trans hl
  refine a_aload_n dL_law_153 rfl ?_
  refine a_aload_n dL_law_154 rfl ?_
  refine a_iload_n dL_law_155 rfl ?_
  refine a_iconst (v := 1) dL_law_156 (by decide) ?_
  refine a_iadd dL_law_157 ?_
  refine a_sld (sx_i (d := 1) (by decide) hk hL hl1) dL_law_158 ?_
  refine a_aload_n dL_law_159 rfl ?_
  refine a_iload_n dL_law_160 rfl ?_
  refine a_iconst (v := 2) dL_law_161 (by decide) ?_
  refine a_iadd dL_law_162 ?_
  refine a_sld (sx_i (d := 2) (by decide) hk hL hl1) dL_law_163 ?_
  refine a_aload_n dL_law_164 rfl ?_
  refine a_iload_n dL_law_165 rfl ?_
  refine a_iconst (v := 3) dL_law_166 (by decide) ?_
  refine a_iadd dL_law_167 ?_
  refine a_sld (sx_i (d := 3) (by decide) hk hL hl1) dL_law_168 ?_
  refine a_aload_n dL_law_169 rfl ?_
  refine a_iload_n dL_law_170 rfl ?_
  refine a_iconst (v := 4) dL_law_171 (by decide) ?_
  refine a_iadd dL_law_172 ?_
  refine a_sld (sx_i (d := 4) (by decide) hk hL hl1) dL_law_173 ?_
  refine a_aload_n dL_law_174 rfl ?_
  refine a_iload_n dL_law_175 rfl ?_
  refine a_iconst (v := 5) dL_law_176 (by decide) ?_
  refine a_iadd dL_law_177 ?_
  refine a_sld (sx_i (d := 5) (by decide) hk hL hl1) dL_law_178 ?_
  rw [show rI M1 0 (nI (6 * k) + 1).toNatClampNeg = sx M k 1 from sx_eq (d := 1) (by decide) hk hL hl hs1.2, show rI M1 0 (nI (6 * k) + 2).toNatClampNeg = sx M k 2 from sx_eq (d := 2) (by decide) hk hL hl hs1.2, show rI M1 0 (nI (6 * k) + 3).toNatClampNeg = sx M k 3 from sx_eq (d := 3) (by decide) hk hL hl hs1.2, show rI M1 0 (nI (6 * k) + 4).toNatClampNeg = sx M k 4 from sx_eq (d := 4) (by decide) hk hL hl hs1.2, show rI M1 0 (nI (6 * k) + 5).toNatClampNeg = sx M k 5 from sx_eq (d := 5) (by decide) hk hL hl hs1.2]
  refine a_callV (mc1 := mc) (ms1 := ms) (As := [_, _, _, _, _]) kpX10_feed kmL_17 (by decide) rfl (Nat.le_of_ble_eq_true rfl) rfl (by decide) rfl (by decide) (hlt hN (by decide)) (Nat.le_of_ble_eq_true rfl) (by omega) (by omega) dL_law_179 (AW.scr (hM1 _ (fun M2 W2 t2 I2 hs2 => ?_)))
  refine a_icmp_eq (tgt := 843) dL_law_182 (by decide) (fun c_182 => ?_) (fun c_182 => absurd rfl c_182)
  exact kk _ _ _ _ I2 (hs2.1.trans hl1)
theorem c_number {M : Mem} {N W t L k mc ms : Nat} {Q : Option Value → Nat → Mem → Prop} (I : Inv M N W t) (hl : M.2.2.2 0 = L) (hk : 6 * k + 6 ≤ L) (hL : L ≤ 3072) (kk : ∀ N2 W2 t2 M2, Inv M2 N2 W2 t2 → M2.2.2.2 0 = L → AW mL_law 100 mc ms N2 843 [(0, .ref 0), (1, .ref 2), (2, .ref 64), (3, .int (nI (6 * k)))] [] M2 Q) : AW mL_law 100 (mc + 6) (ms + 168) N 187 [(0, .ref 0), (1, .ref 2), (2, .ref 64), (3, .int (nI (6 * k)))] [] M Q := by
  obtain ⟨v, N1, hN1, hv⟩ := (q_number I (sx M k 1) (sx M k 2) (sx M k 3)).f
  have hN : 94 ≤ N := I.N9
  refine a_aload_n dL_law_187 rfl ?_
  refine a_aload_n dL_law_188 rfl ?_
  refine a_iload_n dL_law_189 rfl ?_
  refine a_iconst (v := 1) dL_law_190 (by decide) ?_
  refine a_iadd dL_law_191 ?_
  refine a_sld (sx_i (d := 1) (by decide) hk hL hl) dL_law_192 ?_
  refine a_aload_n dL_law_193 rfl ?_
  refine a_iload_n dL_law_194 rfl ?_
  refine a_iconst (v := 2) dL_law_195 (by decide) ?_
  refine a_iadd dL_law_196 ?_
  refine a_sld (sx_i (d := 2) (by decide) hk hL hl) dL_law_197 ?_
  refine a_aload_n dL_law_198 rfl ?_
  refine a_iload_n dL_law_199 rfl ?_
  refine a_iconst (v := 3) dL_law_200 (by decide) ?_
  refine a_iadd dL_law_201 ?_
  refine a_sld (sx_i (d := 3) (by decide) hk hL hl) dL_law_202 ?_
  simp only [show rI M 0 (nI (6 * k) + 1).toNatClampNeg = sx M k 1 from rfl, show rI M 0 (nI (6 * k) + 2).toNatClampNeg = sx M k 2 from rfl, show rI M 0 (nI (6 * k) + 3).toNatClampNeg = sx M k 3 from rfl]
  refine a_callV (mc1 := mc) (ms1 := ms) (As := [_, _, _]) kpX9_number kmL_18 (by decide) rfl (Nat.le_of_ble_eq_true rfl) rfl (by decide) rfl (by decide) (hlt hN (by decide)) (Nat.le_of_ble_eq_true rfl) (by omega) (by omega) dL_law_203 (AW.scr (hv _ (fun M1 hM1 hs1 => ?_)))
  replace hN : 94 ≤ N1 := by omega
  have hl1 : M1.2.2.2 0 = L := hs1.1.trans hl
  refine a_aload_n dL_law_206 rfl ?_
  refine a_aload_n dL_law_207 rfl ?_
  refine a_iload_n dL_law_208 rfl ?_
  refine a_iconst (v := 1) dL_law_209 (by decide) ?_
  refine a_iadd dL_law_210 ?_
  refine a_sld (sx_i (d := 1) (by decide) hk hL hl1) dL_law_211 ?_
  refine a_aload_n dL_law_212 rfl ?_
  refine a_iload_n dL_law_213 rfl ?_
  refine a_iconst (v := 2) dL_law_214 (by decide) ?_
  refine a_iadd dL_law_215 ?_
  refine a_sld (sx_i (d := 2) (by decide) hk hL hl1) dL_law_216 ?_
  refine a_aload_n dL_law_217 rfl ?_
  refine a_iload_n dL_law_218 rfl ?_
  refine a_iconst (v := 3) dL_law_219 (by decide) ?_
  refine a_iadd dL_law_220 ?_
  refine a_sld (sx_i (d := 3) (by decide) hk hL hl1) dL_law_221 ?_
  rw [show rI M1 0 (nI (6 * k) + 1).toNatClampNeg = sx M k 1 from sx_eq (d := 1) (by decide) hk hL hl hs1.2, show rI M1 0 (nI (6 * k) + 2).toNatClampNeg = sx M k 2 from sx_eq (d := 2) (by decide) hk hL hl hs1.2, show rI M1 0 (nI (6 * k) + 3).toNatClampNeg = sx M k 3 from sx_eq (d := 3) (by decide) hk hL hl hs1.2]
  refine a_callV (mc1 := mc) (ms1 := ms) (As := [_, _, _]) kpX10_number kmL_22 (by decide) rfl (Nat.le_of_ble_eq_true rfl) rfl (by decide) rfl (by decide) (hlt hN (by decide)) (Nat.le_of_ble_eq_true rfl) (by omega) (by omega) dL_law_222 (AW.scr (hM1 _ (fun M2 W2 t2 I2 hs2 => ?_)))
  refine a_icmp_eq (tgt := 843) dL_law_225 (by decide) (fun c_225 => ?_) (fun c_225 => absurd rfl c_225)
  exact kk _ _ _ _ I2 (hs2.1.trans hl1)
theorem c_formula {M : Mem} {N W t L k mc ms : Nat} {Q : Option Value → Nat → Mem → Prop} (I : Inv M N W t) (hl : M.2.2.2 0 = L) (hk : 6 * k + 6 ≤ L) (hL : L ≤ 3072) (kk : ∀ N2 W2 t2 M2, Inv M2 N2 W2 t2 → M2.2.2.2 0 = L → AW mL_law 100 mc ms N2 843 [(0, .ref 0), (1, .ref 2), (2, .ref 64), (3, .int (nI (6 * k)))] [] M2 Q) : AW mL_law 100 (mc + 6) (ms + 168) N 230 [(0, .ref 0), (1, .ref 2), (2, .ref 64), (3, .int (nI (6 * k)))] [] M Q := by
  obtain ⟨v, N1, hN1, hv⟩ := (q_formula I (sx M k 1) (sx M k 2) (sx M k 3))
  have hN : 94 ≤ N := I.N9
  refine a_aload_n dL_law_230 rfl ?_
  refine a_aload_n dL_law_231 rfl ?_
  refine a_iload_n dL_law_232 rfl ?_
  refine a_iconst (v := 1) dL_law_233 (by decide) ?_
  refine a_iadd dL_law_234 ?_
  refine a_sld (sx_i (d := 1) (by decide) hk hL hl) dL_law_235 ?_
  refine a_aload_n dL_law_236 rfl ?_
  refine a_iload_n dL_law_237 rfl ?_
  refine a_iconst (v := 2) dL_law_238 (by decide) ?_
  refine a_iadd dL_law_239 ?_
  refine a_sld (sx_i (d := 2) (by decide) hk hL hl) dL_law_240 ?_
  refine a_aload_n dL_law_241 rfl ?_
  refine a_iload_n dL_law_242 rfl ?_
  refine a_iconst (v := 3) dL_law_243 (by decide) ?_
  refine a_iadd dL_law_244 ?_
  refine a_sld (sx_i (d := 3) (by decide) hk hL hl) dL_law_245 ?_
  simp only [show rI M 0 (nI (6 * k) + 1).toNatClampNeg = sx M k 1 from rfl, show rI M 0 (nI (6 * k) + 2).toNatClampNeg = sx M k 2 from rfl, show rI M 0 (nI (6 * k) + 3).toNatClampNeg = sx M k 3 from rfl]
  refine a_callV (mc1 := mc) (ms1 := ms) (As := [_, _, _]) kpX9_formula kmL_23 (by decide) rfl (Nat.le_of_ble_eq_true rfl) rfl (by decide) rfl (by decide) (hlt hN (by decide)) (Nat.le_of_ble_eq_true rfl) (by omega) (by omega) dL_law_246 (AW.scr (hv _ (fun M1 hM1 hs1 => ?_)))
  replace hN : 94 ≤ N1 := by omega
  have hl1 : M1.2.2.2 0 = L := hs1.1.trans hl
  refine a_aload_n dL_law_249 rfl ?_
  refine a_aload_n dL_law_250 rfl ?_
  refine a_iload_n dL_law_251 rfl ?_
  refine a_iconst (v := 1) dL_law_252 (by decide) ?_
  refine a_iadd dL_law_253 ?_
  refine a_sld (sx_i (d := 1) (by decide) hk hL hl1) dL_law_254 ?_
  refine a_aload_n dL_law_255 rfl ?_
  refine a_iload_n dL_law_256 rfl ?_
  refine a_iconst (v := 2) dL_law_257 (by decide) ?_
  refine a_iadd dL_law_258 ?_
  refine a_sld (sx_i (d := 2) (by decide) hk hL hl1) dL_law_259 ?_
  refine a_aload_n dL_law_260 rfl ?_
  refine a_iload_n dL_law_261 rfl ?_
  refine a_iconst (v := 3) dL_law_262 (by decide) ?_
  refine a_iadd dL_law_263 ?_
  refine a_sld (sx_i (d := 3) (by decide) hk hL hl1) dL_law_264 ?_
  rw [show rI M1 0 (nI (6 * k) + 1).toNatClampNeg = sx M k 1 from sx_eq (d := 1) (by decide) hk hL hl hs1.2, show rI M1 0 (nI (6 * k) + 2).toNatClampNeg = sx M k 2 from sx_eq (d := 2) (by decide) hk hL hl hs1.2, show rI M1 0 (nI (6 * k) + 3).toNatClampNeg = sx M k 3 from sx_eq (d := 3) (by decide) hk hL hl hs1.2]
  refine a_callV (mc1 := mc) (ms1 := ms) (As := [_, _, _]) kpX10_formula kmL_27 (by decide) rfl (Nat.le_of_ble_eq_true rfl) rfl (by decide) rfl (by decide) (hlt hN (by decide)) (Nat.le_of_ble_eq_true rfl) (by omega) (by omega) dL_law_265 (AW.scr (hM1 _ (fun M2 W2 t2 I2 hs2 => ?_)))
  refine a_icmp_eq (tgt := 843) dL_law_268 (by decide) (fun c_268 => ?_) (fun c_268 => absurd rfl c_268)
  exact kk _ _ _ _ I2 (hs2.1.trans hl1)
theorem c_clear {M : Mem} {N W t L k mc ms : Nat} {Q : Option Value → Nat → Mem → Prop} (I : Inv M N W t) (hl : M.2.2.2 0 = L) (hk : 6 * k + 6 ≤ L) (hL : L ≤ 3072) (kk : ∀ N2 W2 t2 M2, Inv M2 N2 W2 t2 → M2.2.2.2 0 = L → AW mL_law 100 mc ms N2 843 [(0, .ref 0), (1, .ref 2), (2, .ref 64), (3, .int (nI (6 * k)))] [] M2 Q) : AW mL_law 100 (mc + 6) (ms + 168) N 273 [(0, .ref 0), (1, .ref 2), (2, .ref 64), (3, .int (nI (6 * k)))] [] M Q := by
  obtain ⟨v, N1, hN1, hv⟩ := (q_clear I (sx M k 1) (sx M k 2)).f
  have hN : 94 ≤ N := I.N9
  refine a_aload_n dL_law_273 rfl ?_
  refine a_aload_n dL_law_274 rfl ?_
  refine a_iload_n dL_law_275 rfl ?_
  refine a_iconst (v := 1) dL_law_276 (by decide) ?_
  refine a_iadd dL_law_277 ?_
  refine a_sld (sx_i (d := 1) (by decide) hk hL hl) dL_law_278 ?_
  refine a_aload_n dL_law_279 rfl ?_
  refine a_iload_n dL_law_280 rfl ?_
  refine a_iconst (v := 2) dL_law_281 (by decide) ?_
  refine a_iadd dL_law_282 ?_
  refine a_sld (sx_i (d := 2) (by decide) hk hL hl) dL_law_283 ?_
  simp only [show rI M 0 (nI (6 * k) + 1).toNatClampNeg = sx M k 1 from rfl, show rI M 0 (nI (6 * k) + 2).toNatClampNeg = sx M k 2 from rfl]
  refine a_callV (mc1 := mc) (ms1 := ms) (As := [_, _]) kpX9_clear kmL_28 (by decide) rfl (Nat.le_of_ble_eq_true rfl) rfl (by decide) rfl (by decide) (hlt hN (by decide)) (Nat.le_of_ble_eq_true rfl) (by omega) (by omega) dL_law_284 (AW.scr (hv _ (fun M1 hM1 hs1 => ?_)))
  replace hN : 94 ≤ N1 := by omega
  have hl1 : M1.2.2.2 0 = L := hs1.1.trans hl
  refine a_aload_n dL_law_287 rfl ?_
  refine a_aload_n dL_law_288 rfl ?_
  refine a_iload_n dL_law_289 rfl ?_
  refine a_iconst (v := 1) dL_law_290 (by decide) ?_
  refine a_iadd dL_law_291 ?_
  refine a_sld (sx_i (d := 1) (by decide) hk hL hl1) dL_law_292 ?_
  refine a_aload_n dL_law_293 rfl ?_
  refine a_iload_n dL_law_294 rfl ?_
  refine a_iconst (v := 2) dL_law_295 (by decide) ?_
  refine a_iadd dL_law_296 ?_
  refine a_sld (sx_i (d := 2) (by decide) hk hL hl1) dL_law_297 ?_
  rw [show rI M1 0 (nI (6 * k) + 1).toNatClampNeg = sx M k 1 from sx_eq (d := 1) (by decide) hk hL hl hs1.2, show rI M1 0 (nI (6 * k) + 2).toNatClampNeg = sx M k 2 from sx_eq (d := 2) (by decide) hk hL hl hs1.2]
  refine a_callV (mc1 := mc) (ms1 := ms) (As := [_, _]) kpX10_clear kmL_32 (by decide) rfl (Nat.le_of_ble_eq_true rfl) rfl (by decide) rfl (by decide) (hlt hN (by decide)) (Nat.le_of_ble_eq_true rfl) (by omega) (by omega) dL_law_298 (AW.scr (hM1 _ (fun M2 W2 t2 I2 hs2 => ?_)))
  refine a_icmp_eq (tgt := 843) dL_law_301 (by decide) (fun c_301 => ?_) (fun c_301 => absurd rfl c_301)
  exact kk _ _ _ _ I2 (hs2.1.trans hl1)
theorem c_input {M : Mem} {N W t L k mc ms : Nat} {Q : Option Value → Nat → Mem → Prop} (I : Inv M N W t) (hl : M.2.2.2 0 = L) (hk : 6 * k + 6 ≤ L) (hL : L ≤ 3072) (kk : ∀ N2 W2 t2 M2, Inv M2 N2 W2 t2 → M2.2.2.2 0 = L → AW mL_law 100 mc ms N2 843 [(0, .ref 0), (1, .ref 2), (2, .ref 64), (3, .int (nI (6 * k)))] [] M2 Q) : AW mL_law 100 (mc + 6) (ms + 168) N 306 [(0, .ref 0), (1, .ref 2), (2, .ref 64), (3, .int (nI (6 * k)))] [] M Q := by
  obtain ⟨v, N1, hN1, hv⟩ := (q_input I (sx M k 1)).f
  have hN : 94 ≤ N := I.N9
  refine a_aload_n dL_law_306 rfl ?_
  refine a_aload_n dL_law_307 rfl ?_
  refine a_iload_n dL_law_308 rfl ?_
  refine a_iconst (v := 1) dL_law_309 (by decide) ?_
  refine a_iadd dL_law_310 ?_
  refine a_sld (sx_i (d := 1) (by decide) hk hL hl) dL_law_311 ?_
  simp only [show rI M 0 (nI (6 * k) + 1).toNatClampNeg = sx M k 1 from rfl]
  refine a_callV (mc1 := mc) (ms1 := ms) (As := [_]) kpX9_input kmL_33 (by decide) rfl (Nat.le_of_ble_eq_true rfl) rfl (by decide) rfl (by decide) (hlt hN (by decide)) (Nat.le_of_ble_eq_true rfl) (by omega) (by omega) dL_law_312 (AW.scr (hv _ (fun M1 hM1 hs1 => ?_)))
  replace hN : 94 ≤ N1 := by omega
  have hl1 : M1.2.2.2 0 = L := hs1.1.trans hl
  refine a_aload_n dL_law_315 rfl ?_
  refine a_aload_n dL_law_316 rfl ?_
  refine a_iload_n dL_law_317 rfl ?_
  refine a_iconst (v := 1) dL_law_318 (by decide) ?_
  refine a_iadd dL_law_319 ?_
  refine a_sld (sx_i (d := 1) (by decide) hk hL hl1) dL_law_320 ?_
  rw [show rI M1 0 (nI (6 * k) + 1).toNatClampNeg = sx M k 1 from sx_eq (d := 1) (by decide) hk hL hl hs1.2]
  refine a_callV (mc1 := mc) (ms1 := ms) (As := [_]) kpX10_input kmL_37 (by decide) rfl (Nat.le_of_ble_eq_true rfl) rfl (by decide) rfl (by decide) (hlt hN (by decide)) (Nat.le_of_ble_eq_true rfl) (by omega) (by omega) dL_law_321 (AW.scr (hM1 _ (fun M2 W2 t2 I2 hs2 => ?_)))
  refine a_icmp_eq (tgt := 843) dL_law_324 (by decide) (fun c_324 => ?_) (fun c_324 => absurd rfl c_324)
  exact kk _ _ _ _ I2 (hs2.1.trans hl1)
theorem c_wants {M : Mem} {N W t L k mc ms : Nat} {Q : Option Value → Nat → Mem → Prop} (I : Inv M N W t) (hl : M.2.2.2 0 = L) (hk : 6 * k + 6 ≤ L) (hL : L ≤ 3072) (kk : ∀ N2 W2 t2 M2, Inv M2 N2 W2 t2 → M2.2.2.2 0 = L → AW mL_law 100 mc ms N2 843 [(0, .ref 0), (1, .ref 2), (2, .ref 64), (3, .int (nI (6 * k)))] [] M2 Q) : AW mL_law 100 (mc + 6) (ms + 168) N 329 [(0, .ref 0), (1, .ref 2), (2, .ref 64), (3, .int (nI (6 * k)))] [] M Q := by
  obtain ⟨v, N1, hN1, hv⟩ := (q_wants I (sx M k 1) (sx M k 2)).f
  have hN : 94 ≤ N := I.N9
  refine a_aload_n dL_law_329 rfl ?_
  refine a_aload_n dL_law_330 rfl ?_
  refine a_iload_n dL_law_331 rfl ?_
  refine a_iconst (v := 1) dL_law_332 (by decide) ?_
  refine a_iadd dL_law_333 ?_
  refine a_sld (sx_i (d := 1) (by decide) hk hL hl) dL_law_334 ?_
  refine a_aload_n dL_law_335 rfl ?_
  refine a_iload_n dL_law_336 rfl ?_
  refine a_iconst (v := 2) dL_law_337 (by decide) ?_
  refine a_iadd dL_law_338 ?_
  refine a_sld (sx_i (d := 2) (by decide) hk hL hl) dL_law_339 ?_
  simp only [show rI M 0 (nI (6 * k) + 1).toNatClampNeg = sx M k 1 from rfl, show rI M 0 (nI (6 * k) + 2).toNatClampNeg = sx M k 2 from rfl]
  refine a_callV (mc1 := mc) (ms1 := ms) (As := [_, _]) kpX9_wants kmL_38 (by decide) rfl (Nat.le_of_ble_eq_true rfl) rfl (by decide) rfl (by decide) (hlt hN (by decide)) (Nat.le_of_ble_eq_true rfl) (by omega) (by omega) dL_law_340 (AW.scr (hv _ (fun M1 hM1 hs1 => ?_)))
  replace hN : 94 ≤ N1 := by omega
  have hl1 : M1.2.2.2 0 = L := hs1.1.trans hl
  refine a_aload_n dL_law_343 rfl ?_
  refine a_aload_n dL_law_344 rfl ?_
  refine a_iload_n dL_law_345 rfl ?_
  refine a_iconst (v := 1) dL_law_346 (by decide) ?_
  refine a_iadd dL_law_347 ?_
  refine a_sld (sx_i (d := 1) (by decide) hk hL hl1) dL_law_348 ?_
  refine a_aload_n dL_law_349 rfl ?_
  refine a_iload_n dL_law_350 rfl ?_
  refine a_iconst (v := 2) dL_law_351 (by decide) ?_
  refine a_iadd dL_law_352 ?_
  refine a_sld (sx_i (d := 2) (by decide) hk hL hl1) dL_law_353 ?_
  rw [show rI M1 0 (nI (6 * k) + 1).toNatClampNeg = sx M k 1 from sx_eq (d := 1) (by decide) hk hL hl hs1.2, show rI M1 0 (nI (6 * k) + 2).toNatClampNeg = sx M k 2 from sx_eq (d := 2) (by decide) hk hL hl hs1.2]
  refine a_callV (mc1 := mc) (ms1 := ms) (As := [_, _]) kpX10_wants kmL_41 (by decide) rfl (Nat.le_of_ble_eq_true rfl) rfl (by decide) rfl (by decide) (hlt hN (by decide)) (Nat.le_of_ble_eq_true rfl) (by omega) (by omega) dL_law_354 (AW.scr (hM1 _ (fun M2 W2 t2 I2 hs2 => ?_)))
  refine a_icmp_eq (tgt := 843) dL_law_357 (by decide) (fun c_357 => ?_) (fun c_357 => absurd rfl c_357)
  exact kk _ _ _ _ I2 (hs2.1.trans hl1)
theorem c_world {M : Mem} {N W t L k mc ms : Nat} {Q : Option Value → Nat → Mem → Prop} (I : Inv M N W t) (hl : M.2.2.2 0 = L) (hk : 6 * k + 6 ≤ L) (hL : L ≤ 3072) (kk : ∀ N2 W2 t2 M2, Inv M2 N2 W2 t2 → M2.2.2.2 0 = L → AW mL_law 100 mc ms N2 843 [(0, .ref 0), (1, .ref 2), (2, .ref 64), (3, .int (nI (6 * k)))] [] M2 Q) : AW mL_law 100 (mc + 6) (ms + 168) N 362 [(0, .ref 0), (1, .ref 2), (2, .ref 64), (3, .int (nI (6 * k)))] [] M Q := by
  obtain ⟨v, N1, hN1, hv⟩ := (q_world I).f
  have hN : 94 ≤ N := I.N9
  refine a_aload_n dL_law_362 rfl ?_
  refine a_callV (mc1 := mc) (ms1 := ms) (As := []) kpX9_world kmL_42 (by decide) rfl (Nat.le_of_ble_eq_true rfl) rfl (by decide) rfl (by decide) (hlt hN (by decide)) (Nat.le_of_ble_eq_true rfl) (by omega) (by omega) dL_law_363 (AW.scr (hv _ (fun M1 hM1 hs1 => ?_)))
  replace hN : 94 ≤ N1 := by omega
  have hl1 : M1.2.2.2 0 = L := hs1.1.trans hl
  refine a_aload_n dL_law_366 rfl ?_
  refine a_callV (mc1 := mc) (ms1 := ms) (As := []) kpX10_world kmL_46 (by decide) rfl (Nat.le_of_ble_eq_true rfl) rfl (by decide) rfl (by decide) (hlt hN (by decide)) (Nat.le_of_ble_eq_true rfl) (by omega) (by omega) dL_law_367 (AW.scr (hM1 _ (fun M2 W2 t2 I2 hs2 => ?_)))
  refine a_icmp_eq (tgt := 843) dL_law_370 (by decide) (fun c_370 => ?_) (fun c_370 => absurd rfl c_370)
  exact kk _ _ _ _ I2 (hs2.1.trans hl1)
theorem c_give {M : Mem} {N W t L k mc ms : Nat} {Q : Option Value → Nat → Mem → Prop} (I : Inv M N W t) (hl : M.2.2.2 0 = L) (hk : 6 * k + 6 ≤ L) (hL : L ≤ 3072) (kk : ∀ N2 W2 t2 M2, Inv M2 N2 W2 t2 → M2.2.2.2 0 = L → AW mL_law 100 mc ms N2 843 [(0, .ref 0), (1, .ref 2), (2, .ref 64), (3, .int (nI (6 * k)))] [] M2 Q) : AW mL_law 100 (mc + 6) (ms + 168) N 375 [(0, .ref 0), (1, .ref 2), (2, .ref 64), (3, .int (nI (6 * k)))] [] M Q := by
  obtain ⟨v, N1, hN1, hv⟩ := (q_give I (sx M k 1) (sx M k 2) (sx M k 3)).f
  have hN : 94 ≤ N := I.N9
  refine a_aload_n dL_law_375 rfl ?_
  refine a_aload_n dL_law_376 rfl ?_
  refine a_iload_n dL_law_377 rfl ?_
  refine a_iconst (v := 1) dL_law_378 (by decide) ?_
  refine a_iadd dL_law_379 ?_
  refine a_sld (sx_i (d := 1) (by decide) hk hL hl) dL_law_380 ?_
  refine a_aload_n dL_law_381 rfl ?_
  refine a_iload_n dL_law_382 rfl ?_
  refine a_iconst (v := 2) dL_law_383 (by decide) ?_
  refine a_iadd dL_law_384 ?_
  refine a_sld (sx_i (d := 2) (by decide) hk hL hl) dL_law_385 ?_
  refine a_aload_n dL_law_386 rfl ?_
  refine a_iload_n dL_law_387 rfl ?_
  refine a_iconst (v := 3) dL_law_388 (by decide) ?_
  refine a_iadd dL_law_389 ?_
  refine a_sld (sx_i (d := 3) (by decide) hk hL hl) dL_law_390 ?_
  simp only [show rI M 0 (nI (6 * k) + 1).toNatClampNeg = sx M k 1 from rfl, show rI M 0 (nI (6 * k) + 2).toNatClampNeg = sx M k 2 from rfl, show rI M 0 (nI (6 * k) + 3).toNatClampNeg = sx M k 3 from rfl]
  refine a_callV (mc1 := mc) (ms1 := ms) (As := [_, _, _]) kpX9_give kmL_47 (by decide) rfl (Nat.le_of_ble_eq_true rfl) rfl (by decide) rfl (by decide) (hlt hN (by decide)) (Nat.le_of_ble_eq_true rfl) (by omega) (by omega) dL_law_391 (AW.scr (hv _ (fun M1 hM1 hs1 => ?_)))
  replace hN : 94 ≤ N1 := by omega
  have hl1 : M1.2.2.2 0 = L := hs1.1.trans hl
  refine a_aload_n dL_law_394 rfl ?_
  refine a_aload_n dL_law_395 rfl ?_
  refine a_iload_n dL_law_396 rfl ?_
  refine a_iconst (v := 1) dL_law_397 (by decide) ?_
  refine a_iadd dL_law_398 ?_
  refine a_sld (sx_i (d := 1) (by decide) hk hL hl1) dL_law_399 ?_
  refine a_aload_n dL_law_400 rfl ?_
  refine a_iload_n dL_law_401 rfl ?_
  refine a_iconst (v := 2) dL_law_402 (by decide) ?_
  refine a_iadd dL_law_403 ?_
  refine a_sld (sx_i (d := 2) (by decide) hk hL hl1) dL_law_404 ?_
  refine a_aload_n dL_law_405 rfl ?_
  refine a_iload_n dL_law_406 rfl ?_
  refine a_iconst (v := 3) dL_law_407 (by decide) ?_
  refine a_iadd dL_law_408 ?_
  refine a_sld (sx_i (d := 3) (by decide) hk hL hl1) dL_law_409 ?_
  rw [show rI M1 0 (nI (6 * k) + 1).toNatClampNeg = sx M k 1 from sx_eq (d := 1) (by decide) hk hL hl hs1.2, show rI M1 0 (nI (6 * k) + 2).toNatClampNeg = sx M k 2 from sx_eq (d := 2) (by decide) hk hL hl hs1.2, show rI M1 0 (nI (6 * k) + 3).toNatClampNeg = sx M k 3 from sx_eq (d := 3) (by decide) hk hL hl hs1.2]
  refine a_callV (mc1 := mc) (ms1 := ms) (As := [_, _, _]) kpX10_give kmL_50 (by decide) rfl (Nat.le_of_ble_eq_true rfl) rfl (by decide) rfl (by decide) (hlt hN (by decide)) (Nat.le_of_ble_eq_true rfl) (by omega) (by omega) dL_law_410 (AW.scr (hM1 _ (fun M2 W2 t2 I2 hs2 => ?_)))
  refine a_icmp_eq (tgt := 843) dL_law_413 (by decide) (fun c_413 => ?_) (fun c_413 => absurd rfl c_413)
  exact kk _ _ _ _ I2 (hs2.1.trans hl1)
theorem c_value {M : Mem} {N W t L k mc ms : Nat} {Q : Option Value → Nat → Mem → Prop} (I : Inv M N W t) (hl : M.2.2.2 0 = L) (hk : 6 * k + 6 ≤ L) (hL : L ≤ 3072) (kk : ∀ N2 W2 t2 M2, Inv M2 N2 W2 t2 → M2.2.2.2 0 = L → AW mL_law 100 mc ms N2 843 [(0, .ref 0), (1, .ref 2), (2, .ref 64), (3, .int (nI (6 * k)))] [] M2 Q) : AW mL_law 100 (mc + 6) (ms + 168) N 418 [(0, .ref 0), (1, .ref 2), (2, .ref 64), (3, .int (nI (6 * k)))] [] M Q := by
  obtain ⟨v, hv⟩ := q_value I (sx M k 1) (sx M k 2) (sx M k 3)
  have hN : 94 ≤ N := I.N9
  refine a_aload_n dL_law_418 rfl ?_
  refine a_aload_n dL_law_419 rfl ?_
  refine a_iload_n dL_law_420 rfl ?_
  refine a_iconst (v := 1) dL_law_421 (by decide) ?_
  refine a_iadd dL_law_422 ?_
  refine a_sld (sx_i (d := 1) (by decide) hk hL hl) dL_law_423 ?_
  refine a_aload_n dL_law_424 rfl ?_
  refine a_iload_n dL_law_425 rfl ?_
  refine a_iconst (v := 2) dL_law_426 (by decide) ?_
  refine a_iadd dL_law_427 ?_
  refine a_sld (sx_i (d := 2) (by decide) hk hL hl) dL_law_428 ?_
  refine a_aload_n dL_law_429 rfl ?_
  refine a_iload_n dL_law_430 rfl ?_
  refine a_iconst (v := 3) dL_law_431 (by decide) ?_
  refine a_iadd dL_law_432 ?_
  refine a_sld (sx_i (d := 3) (by decide) hk hL hl) dL_law_433 ?_
  simp only [show rI M 0 (nI (6 * k) + 1).toNatClampNeg = sx M k 1 from rfl, show rI M 0 (nI (6 * k) + 2).toNatClampNeg = sx M k 2 from rfl, show rI M 0 (nI (6 * k) + 3).toNatClampNeg = sx M k 3 from rfl]
  refine a_callV (mc1 := mc + 6) (ms1 := ms + 168) (As := [_, _, _]) kpX9_value kmL_51 (by decide) rfl (Nat.le_of_ble_eq_true rfl) rfl (by decide) rfl (by decide) (hlt hN (by decide)) (Nat.le_of_ble_eq_true rfl) (by omega) (by omega) dL_law_434 (AW.scr (hv _ (fun M1 hM1 hs1 => ?_)))
  have hl1 : M1.2.2.2 0 = L := hs1.1.trans hl
  refine a_aload_n dL_law_437 rfl ?_
  refine a_aload_n dL_law_438 rfl ?_
  refine a_iload_n dL_law_439 rfl ?_
  refine a_iconst (v := 1) dL_law_440 (by decide) ?_
  refine a_iadd dL_law_441 ?_
  refine a_sld (sx_i (d := 1) (by decide) hk hL hl1) dL_law_442 ?_
  refine a_aload_n dL_law_443 rfl ?_
  refine a_iload_n dL_law_444 rfl ?_
  refine a_iconst (v := 2) dL_law_445 (by decide) ?_
  refine a_iadd dL_law_446 ?_
  refine a_sld (sx_i (d := 2) (by decide) hk hL hl1) dL_law_447 ?_
  refine a_aload_n dL_law_448 rfl ?_
  refine a_iload_n dL_law_449 rfl ?_
  refine a_iconst (v := 3) dL_law_450 (by decide) ?_
  refine a_iadd dL_law_451 ?_
  refine a_sld (sx_i (d := 3) (by decide) hk hL hl1) dL_law_452 ?_
  rw [show rI M1 0 (nI (6 * k) + 1).toNatClampNeg = sx M k 1 from sx_eq (d := 1) (by decide) hk hL hl hs1.2, show rI M1 0 (nI (6 * k) + 2).toNatClampNeg = sx M k 2 from sx_eq (d := 2) (by decide) hk hL hl hs1.2, show rI M1 0 (nI (6 * k) + 3).toNatClampNeg = sx M k 3 from sx_eq (d := 3) (by decide) hk hL hl hs1.2]
  refine a_callV (mc1 := mc) (ms1 := ms) (As := [_, _, _]) kpX10_value kmL_55 (by decide) rfl (Nat.le_of_ble_eq_true rfl) rfl (by decide) rfl (by decide) (hlt hN (by decide)) (Nat.le_of_ble_eq_true rfl) (by omega) (by omega) dL_law_453 (AW.scr (hM1 _ (fun M2 W2 t2 I2 hs2 => ?_)))
  refine a_lcmp dL_law_456 ?_
  refine a_if_eq (tgt := 843) dL_law_457 (by decide) (fun c_457 => ?_) (fun c_457 => absurd ((lg_cmp_eq _ _).mpr rfl) c_457)
  exact kk _ _ _ _ I2 (hs2.1.trans hl1)
theorem c_error {M : Mem} {N W t L k mc ms : Nat} {Q : Option Value → Nat → Mem → Prop} (I : Inv M N W t) (hl : M.2.2.2 0 = L) (hk : 6 * k + 6 ≤ L) (hL : L ≤ 3072) (kk : ∀ N2 W2 t2 M2, Inv M2 N2 W2 t2 → M2.2.2.2 0 = L → AW mL_law 100 mc ms N2 843 [(0, .ref 0), (1, .ref 2), (2, .ref 64), (3, .int (nI (6 * k)))] [] M2 Q) : AW mL_law 100 (mc + 6) (ms + 168) N 462 [(0, .ref 0), (1, .ref 2), (2, .ref 64), (3, .int (nI (6 * k)))] [] M Q := by
  obtain ⟨v, N1, hN1, hv⟩ := (q_error I (sx M k 1) (sx M k 2) (sx M k 3)).f
  have hN : 94 ≤ N := I.N9
  refine a_aload_n dL_law_462 rfl ?_
  refine a_aload_n dL_law_463 rfl ?_
  refine a_iload_n dL_law_464 rfl ?_
  refine a_iconst (v := 1) dL_law_465 (by decide) ?_
  refine a_iadd dL_law_466 ?_
  refine a_sld (sx_i (d := 1) (by decide) hk hL hl) dL_law_467 ?_
  refine a_aload_n dL_law_468 rfl ?_
  refine a_iload_n dL_law_469 rfl ?_
  refine a_iconst (v := 2) dL_law_470 (by decide) ?_
  refine a_iadd dL_law_471 ?_
  refine a_sld (sx_i (d := 2) (by decide) hk hL hl) dL_law_472 ?_
  refine a_aload_n dL_law_473 rfl ?_
  refine a_iload_n dL_law_474 rfl ?_
  refine a_iconst (v := 3) dL_law_475 (by decide) ?_
  refine a_iadd dL_law_476 ?_
  refine a_sld (sx_i (d := 3) (by decide) hk hL hl) dL_law_477 ?_
  simp only [show rI M 0 (nI (6 * k) + 1).toNatClampNeg = sx M k 1 from rfl, show rI M 0 (nI (6 * k) + 2).toNatClampNeg = sx M k 2 from rfl, show rI M 0 (nI (6 * k) + 3).toNatClampNeg = sx M k 3 from rfl]
  refine a_callV (mc1 := mc) (ms1 := ms) (As := [_, _, _]) kpX9_error kmL_56 (by decide) rfl (Nat.le_of_ble_eq_true rfl) rfl (by decide) rfl (by decide) (hlt hN (by decide)) (Nat.le_of_ble_eq_true rfl) (by omega) (by omega) dL_law_478 (AW.scr (hv _ (fun M1 hM1 hs1 => ?_)))
  replace hN : 94 ≤ N1 := by omega
  have hl1 : M1.2.2.2 0 = L := hs1.1.trans hl
  refine a_aload_n dL_law_481 rfl ?_
  refine a_aload_n dL_law_482 rfl ?_
  refine a_iload_n dL_law_483 rfl ?_
  refine a_iconst (v := 1) dL_law_484 (by decide) ?_
  refine a_iadd dL_law_485 ?_
  refine a_sld (sx_i (d := 1) (by decide) hk hL hl1) dL_law_486 ?_
  refine a_aload_n dL_law_487 rfl ?_
  refine a_iload_n dL_law_488 rfl ?_
  refine a_iconst (v := 2) dL_law_489 (by decide) ?_
  refine a_iadd dL_law_490 ?_
  refine a_sld (sx_i (d := 2) (by decide) hk hL hl1) dL_law_491 ?_
  refine a_aload_n dL_law_492 rfl ?_
  refine a_iload_n dL_law_493 rfl ?_
  refine a_iconst (v := 3) dL_law_494 (by decide) ?_
  refine a_iadd dL_law_495 ?_
  refine a_sld (sx_i (d := 3) (by decide) hk hL hl1) dL_law_496 ?_
  rw [show rI M1 0 (nI (6 * k) + 1).toNatClampNeg = sx M k 1 from sx_eq (d := 1) (by decide) hk hL hl hs1.2, show rI M1 0 (nI (6 * k) + 2).toNatClampNeg = sx M k 2 from sx_eq (d := 2) (by decide) hk hL hl hs1.2, show rI M1 0 (nI (6 * k) + 3).toNatClampNeg = sx M k 3 from sx_eq (d := 3) (by decide) hk hL hl hs1.2]
  refine a_callV (mc1 := mc) (ms1 := ms) (As := [_, _, _]) kpX10_error kmL_59 (by decide) rfl (Nat.le_of_ble_eq_true rfl) rfl (by decide) rfl (by decide) (hlt hN (by decide)) (Nat.le_of_ble_eq_true rfl) (by omega) (by omega) dL_law_497 (AW.scr (hM1 _ (fun M2 W2 t2 I2 hs2 => ?_)))
  refine a_icmp_eq (tgt := 843) dL_law_500 (by decide) (fun c_500 => ?_) (fun c_500 => absurd rfl c_500)
  exact kk _ _ _ _ I2 (hs2.1.trans hl1)
theorem c_right {M : Mem} {N W t L k mc ms : Nat} {Q : Option Value → Nat → Mem → Prop} (I : Inv M N W t) (hl : M.2.2.2 0 = L) (hk : 6 * k + 6 ≤ L) (hL : L ≤ 3072) (kk : ∀ N2 W2 t2 M2, Inv M2 N2 W2 t2 → M2.2.2.2 0 = L → AW mL_law 100 mc ms N2 843 [(0, .ref 0), (1, .ref 2), (2, .ref 64), (3, .int (nI (6 * k)))] [] M2 Q) : AW mL_law 100 (mc + 6) (ms + 168) N 505 [(0, .ref 0), (1, .ref 2), (2, .ref 64), (3, .int (nI (6 * k)))] [] M Q := by
  obtain ⟨v, hv⟩ := q_right I (sx M k 1) (sx M k 2) (sx M k 3)
  have hN : 94 ≤ N := I.N9
  refine a_aload_n dL_law_505 rfl ?_
  refine a_aload_n dL_law_506 rfl ?_
  refine a_iload_n dL_law_507 rfl ?_
  refine a_iconst (v := 1) dL_law_508 (by decide) ?_
  refine a_iadd dL_law_509 ?_
  refine a_sld (sx_i (d := 1) (by decide) hk hL hl) dL_law_510 ?_
  refine a_aload_n dL_law_511 rfl ?_
  refine a_iload_n dL_law_512 rfl ?_
  refine a_iconst (v := 2) dL_law_513 (by decide) ?_
  refine a_iadd dL_law_514 ?_
  refine a_sld (sx_i (d := 2) (by decide) hk hL hl) dL_law_515 ?_
  refine a_aload_n dL_law_516 rfl ?_
  refine a_iload_n dL_law_517 rfl ?_
  refine a_iconst (v := 3) dL_law_518 (by decide) ?_
  refine a_iadd dL_law_519 ?_
  refine a_sld (sx_i (d := 3) (by decide) hk hL hl) dL_law_520 ?_
  simp only [show rI M 0 (nI (6 * k) + 1).toNatClampNeg = sx M k 1 from rfl, show rI M 0 (nI (6 * k) + 2).toNatClampNeg = sx M k 2 from rfl, show rI M 0 (nI (6 * k) + 3).toNatClampNeg = sx M k 3 from rfl]
  refine a_callV (mc1 := mc + 6) (ms1 := ms + 168) (As := [_, _, _]) kpX9_right kmL_60 (by decide) rfl (Nat.le_of_ble_eq_true rfl) rfl (by decide) rfl (by decide) (hlt hN (by decide)) (Nat.le_of_ble_eq_true rfl) (by omega) (by omega) dL_law_521 (AW.scr (hv _ (fun M1 hM1 hs1 => ?_)))
  have hl1 : M1.2.2.2 0 = L := hs1.1.trans hl
  refine a_aload_n dL_law_524 rfl ?_
  refine a_aload_n dL_law_525 rfl ?_
  refine a_iload_n dL_law_526 rfl ?_
  refine a_iconst (v := 1) dL_law_527 (by decide) ?_
  refine a_iadd dL_law_528 ?_
  refine a_sld (sx_i (d := 1) (by decide) hk hL hl1) dL_law_529 ?_
  refine a_aload_n dL_law_530 rfl ?_
  refine a_iload_n dL_law_531 rfl ?_
  refine a_iconst (v := 2) dL_law_532 (by decide) ?_
  refine a_iadd dL_law_533 ?_
  refine a_sld (sx_i (d := 2) (by decide) hk hL hl1) dL_law_534 ?_
  refine a_aload_n dL_law_535 rfl ?_
  refine a_iload_n dL_law_536 rfl ?_
  refine a_iconst (v := 3) dL_law_537 (by decide) ?_
  refine a_iadd dL_law_538 ?_
  refine a_sld (sx_i (d := 3) (by decide) hk hL hl1) dL_law_539 ?_
  rw [show rI M1 0 (nI (6 * k) + 1).toNatClampNeg = sx M k 1 from sx_eq (d := 1) (by decide) hk hL hl hs1.2, show rI M1 0 (nI (6 * k) + 2).toNatClampNeg = sx M k 2 from sx_eq (d := 2) (by decide) hk hL hl hs1.2, show rI M1 0 (nI (6 * k) + 3).toNatClampNeg = sx M k 3 from sx_eq (d := 3) (by decide) hk hL hl hs1.2]
  refine a_callV (mc1 := mc) (ms1 := ms) (As := [_, _, _]) kpX10_right kmL_63 (by decide) rfl (Nat.le_of_ble_eq_true rfl) rfl (by decide) rfl (by decide) (hlt hN (by decide)) (Nat.le_of_ble_eq_true rfl) (by omega) (by omega) dL_law_540 (AW.scr (hM1 _ (fun M2 W2 t2 I2 hs2 => ?_)))
  refine a_lcmp dL_law_543 ?_
  refine a_if_eq (tgt := 843) dL_law_544 (by decide) (fun c_544 => ?_) (fun c_544 => absurd ((lg_cmp_eq _ _).mpr rfl) c_544)
  exact kk _ _ _ _ I2 (hs2.1.trans hl1)
theorem c_rightError {M : Mem} {N W t L k mc ms : Nat} {Q : Option Value → Nat → Mem → Prop} (I : Inv M N W t) (hl : M.2.2.2 0 = L) (hk : 6 * k + 6 ≤ L) (hL : L ≤ 3072) (kk : ∀ N2 W2 t2 M2, Inv M2 N2 W2 t2 → M2.2.2.2 0 = L → AW mL_law 100 mc ms N2 843 [(0, .ref 0), (1, .ref 2), (2, .ref 64), (3, .int (nI (6 * k)))] [] M2 Q) : AW mL_law 100 (mc + 6) (ms + 168) N 549 [(0, .ref 0), (1, .ref 2), (2, .ref 64), (3, .int (nI (6 * k)))] [] M Q := by
  obtain ⟨v, N1, hN1, hv⟩ := (q_rightError I (sx M k 1) (sx M k 2) (sx M k 3)).f
  have hN : 94 ≤ N := I.N9
  refine a_aload_n dL_law_549 rfl ?_
  refine a_aload_n dL_law_550 rfl ?_
  refine a_iload_n dL_law_551 rfl ?_
  refine a_iconst (v := 1) dL_law_552 (by decide) ?_
  refine a_iadd dL_law_553 ?_
  refine a_sld (sx_i (d := 1) (by decide) hk hL hl) dL_law_554 ?_
  refine a_aload_n dL_law_555 rfl ?_
  refine a_iload_n dL_law_556 rfl ?_
  refine a_iconst (v := 2) dL_law_557 (by decide) ?_
  refine a_iadd dL_law_558 ?_
  refine a_sld (sx_i (d := 2) (by decide) hk hL hl) dL_law_559 ?_
  refine a_aload_n dL_law_560 rfl ?_
  refine a_iload_n dL_law_561 rfl ?_
  refine a_iconst (v := 3) dL_law_562 (by decide) ?_
  refine a_iadd dL_law_563 ?_
  refine a_sld (sx_i (d := 3) (by decide) hk hL hl) dL_law_564 ?_
  simp only [show rI M 0 (nI (6 * k) + 1).toNatClampNeg = sx M k 1 from rfl, show rI M 0 (nI (6 * k) + 2).toNatClampNeg = sx M k 2 from rfl, show rI M 0 (nI (6 * k) + 3).toNatClampNeg = sx M k 3 from rfl]
  refine a_callV (mc1 := mc) (ms1 := ms) (As := [_, _, _]) kpX9_rightError kmL_64 (by decide) rfl (Nat.le_of_ble_eq_true rfl) rfl (by decide) rfl (by decide) (hlt hN (by decide)) (Nat.le_of_ble_eq_true rfl) (by omega) (by omega) dL_law_565 (AW.scr (hv _ (fun M1 hM1 hs1 => ?_)))
  replace hN : 94 ≤ N1 := by omega
  have hl1 : M1.2.2.2 0 = L := hs1.1.trans hl
  refine a_aload_n dL_law_568 rfl ?_
  refine a_aload_n dL_law_569 rfl ?_
  refine a_iload_n dL_law_570 rfl ?_
  refine a_iconst (v := 1) dL_law_571 (by decide) ?_
  refine a_iadd dL_law_572 ?_
  refine a_sld (sx_i (d := 1) (by decide) hk hL hl1) dL_law_573 ?_
  refine a_aload_n dL_law_574 rfl ?_
  refine a_iload_n dL_law_575 rfl ?_
  refine a_iconst (v := 2) dL_law_576 (by decide) ?_
  refine a_iadd dL_law_577 ?_
  refine a_sld (sx_i (d := 2) (by decide) hk hL hl1) dL_law_578 ?_
  refine a_aload_n dL_law_579 rfl ?_
  refine a_iload_n dL_law_580 rfl ?_
  refine a_iconst (v := 3) dL_law_581 (by decide) ?_
  refine a_iadd dL_law_582 ?_
  refine a_sld (sx_i (d := 3) (by decide) hk hL hl1) dL_law_583 ?_
  rw [show rI M1 0 (nI (6 * k) + 1).toNatClampNeg = sx M k 1 from sx_eq (d := 1) (by decide) hk hL hl hs1.2, show rI M1 0 (nI (6 * k) + 2).toNatClampNeg = sx M k 2 from sx_eq (d := 2) (by decide) hk hL hl hs1.2, show rI M1 0 (nI (6 * k) + 3).toNatClampNeg = sx M k 3 from sx_eq (d := 3) (by decide) hk hL hl hs1.2]
  refine a_callV (mc1 := mc) (ms1 := ms) (As := [_, _, _]) kpX10_rightError kmL_67 (by decide) rfl (Nat.le_of_ble_eq_true rfl) rfl (by decide) rfl (by decide) (hlt hN (by decide)) (Nat.le_of_ble_eq_true rfl) (by omega) (by omega) dL_law_584 (AW.scr (hM1 _ (fun M2 W2 t2 I2 hs2 => ?_)))
  refine a_icmp_eq (tgt := 843) dL_law_587 (by decide) (fun c_587 => ?_) (fun c_587 => absurd rfl c_587)
  exact kk _ _ _ _ I2 (hs2.1.trans hl1)
theorem c_kind {M : Mem} {N W t L k mc ms : Nat} {Q : Option Value → Nat → Mem → Prop} (I : Inv M N W t) (hl : M.2.2.2 0 = L) (hk : 6 * k + 6 ≤ L) (hL : L ≤ 3072) (kk : ∀ N2 W2 t2 M2, Inv M2 N2 W2 t2 → M2.2.2.2 0 = L → AW mL_law 100 mc ms N2 843 [(0, .ref 0), (1, .ref 2), (2, .ref 64), (3, .int (nI (6 * k)))] [] M2 Q) : AW mL_law 100 (mc + 6) (ms + 168) N 592 [(0, .ref 0), (1, .ref 2), (2, .ref 64), (3, .int (nI (6 * k)))] [] M Q := by
  obtain ⟨v, N1, hN1, hv⟩ := (q_kind I (sx M k 1) (sx M k 2)).f
  have hN : 94 ≤ N := I.N9
  refine a_aload_n dL_law_592 rfl ?_
  refine a_aload_n dL_law_593 rfl ?_
  refine a_iload_n dL_law_594 rfl ?_
  refine a_iconst (v := 1) dL_law_595 (by decide) ?_
  refine a_iadd dL_law_596 ?_
  refine a_sld (sx_i (d := 1) (by decide) hk hL hl) dL_law_597 ?_
  refine a_aload_n dL_law_598 rfl ?_
  refine a_iload_n dL_law_599 rfl ?_
  refine a_iconst (v := 2) dL_law_600 (by decide) ?_
  refine a_iadd dL_law_601 ?_
  refine a_sld (sx_i (d := 2) (by decide) hk hL hl) dL_law_602 ?_
  simp only [show rI M 0 (nI (6 * k) + 1).toNatClampNeg = sx M k 1 from rfl, show rI M 0 (nI (6 * k) + 2).toNatClampNeg = sx M k 2 from rfl]
  refine a_callV (mc1 := mc) (ms1 := ms) (As := [_, _]) kpX9_kind kmL_68 (by decide) rfl (Nat.le_of_ble_eq_true rfl) rfl (by decide) rfl (by decide) (hlt hN (by decide)) (Nat.le_of_ble_eq_true rfl) (by omega) (by omega) dL_law_603 (AW.scr (hv _ (fun M1 hM1 hs1 => ?_)))
  replace hN : 94 ≤ N1 := by omega
  have hl1 : M1.2.2.2 0 = L := hs1.1.trans hl
  refine a_aload_n dL_law_606 rfl ?_
  refine a_aload_n dL_law_607 rfl ?_
  refine a_iload_n dL_law_608 rfl ?_
  refine a_iconst (v := 1) dL_law_609 (by decide) ?_
  refine a_iadd dL_law_610 ?_
  refine a_sld (sx_i (d := 1) (by decide) hk hL hl1) dL_law_611 ?_
  refine a_aload_n dL_law_612 rfl ?_
  refine a_iload_n dL_law_613 rfl ?_
  refine a_iconst (v := 2) dL_law_614 (by decide) ?_
  refine a_iadd dL_law_615 ?_
  refine a_sld (sx_i (d := 2) (by decide) hk hL hl1) dL_law_616 ?_
  rw [show rI M1 0 (nI (6 * k) + 1).toNatClampNeg = sx M k 1 from sx_eq (d := 1) (by decide) hk hL hl hs1.2, show rI M1 0 (nI (6 * k) + 2).toNatClampNeg = sx M k 2 from sx_eq (d := 2) (by decide) hk hL hl hs1.2]
  refine a_callV (mc1 := mc) (ms1 := ms) (As := [_, _]) kpX10_kind kmL_72 (by decide) rfl (Nat.le_of_ble_eq_true rfl) rfl (by decide) rfl (by decide) (hlt hN (by decide)) (Nat.le_of_ble_eq_true rfl) (by omega) (by omega) dL_law_617 (AW.scr (hM1 _ (fun M2 W2 t2 I2 hs2 => ?_)))
  refine a_icmp_eq (tgt := 843) dL_law_620 (by decide) (fun c_620 => ?_) (fun c_620 => absurd rfl c_620)
  exact kk _ _ _ _ I2 (hs2.1.trans hl1)
theorem c_points {M : Mem} {N W t L k mc ms : Nat} {Q : Option Value → Nat → Mem → Prop} (I : Inv M N W t) (hl : M.2.2.2 0 = L) (hk : 6 * k + 6 ≤ L) (hL : L ≤ 3072) (kk : ∀ N2 W2 t2 M2, Inv M2 N2 W2 t2 → M2.2.2.2 0 = L → AW mL_law 100 mc ms N2 843 [(0, .ref 0), (1, .ref 2), (2, .ref 64), (3, .int (nI (6 * k)))] [] M2 Q) : AW mL_law 100 (mc + 6) (ms + 168) N 625 [(0, .ref 0), (1, .ref 2), (2, .ref 64), (3, .int (nI (6 * k)))] [] M Q := by
  obtain ⟨v, N1, hN1, hv⟩ := (q_points I (sx M k 1) (sx M k 2)).f
  have hN : 94 ≤ N := I.N9
  refine a_aload_n dL_law_625 rfl ?_
  refine a_aload_n dL_law_626 rfl ?_
  refine a_iload_n dL_law_627 rfl ?_
  refine a_iconst (v := 1) dL_law_628 (by decide) ?_
  refine a_iadd dL_law_629 ?_
  refine a_sld (sx_i (d := 1) (by decide) hk hL hl) dL_law_630 ?_
  refine a_aload_n dL_law_631 rfl ?_
  refine a_iload_n dL_law_632 rfl ?_
  refine a_iconst (v := 2) dL_law_633 (by decide) ?_
  refine a_iadd dL_law_634 ?_
  refine a_sld (sx_i (d := 2) (by decide) hk hL hl) dL_law_635 ?_
  simp only [show rI M 0 (nI (6 * k) + 1).toNatClampNeg = sx M k 1 from rfl, show rI M 0 (nI (6 * k) + 2).toNatClampNeg = sx M k 2 from rfl]
  refine a_callV (mc1 := mc) (ms1 := ms) (As := [_, _]) kpX9_points kmL_73 (by decide) rfl (Nat.le_of_ble_eq_true rfl) rfl (by decide) rfl (by decide) (hlt hN (by decide)) (Nat.le_of_ble_eq_true rfl) (by omega) (by omega) dL_law_636 (AW.scr (hv _ (fun M1 hM1 hs1 => ?_)))
  replace hN : 94 ≤ N1 := by omega
  have hl1 : M1.2.2.2 0 = L := hs1.1.trans hl
  refine a_aload_n dL_law_639 rfl ?_
  refine a_aload_n dL_law_640 rfl ?_
  refine a_iload_n dL_law_641 rfl ?_
  refine a_iconst (v := 1) dL_law_642 (by decide) ?_
  refine a_iadd dL_law_643 ?_
  refine a_sld (sx_i (d := 1) (by decide) hk hL hl1) dL_law_644 ?_
  refine a_aload_n dL_law_645 rfl ?_
  refine a_iload_n dL_law_646 rfl ?_
  refine a_iconst (v := 2) dL_law_647 (by decide) ?_
  refine a_iadd dL_law_648 ?_
  refine a_sld (sx_i (d := 2) (by decide) hk hL hl1) dL_law_649 ?_
  rw [show rI M1 0 (nI (6 * k) + 1).toNatClampNeg = sx M k 1 from sx_eq (d := 1) (by decide) hk hL hl hs1.2, show rI M1 0 (nI (6 * k) + 2).toNatClampNeg = sx M k 2 from sx_eq (d := 2) (by decide) hk hL hl hs1.2]
  refine a_callV (mc1 := mc) (ms1 := ms) (As := [_, _]) kpX10_points kmL_76 (by decide) rfl (Nat.le_of_ble_eq_true rfl) rfl (by decide) rfl (by decide) (hlt hN (by decide)) (Nat.le_of_ble_eq_true rfl) (by omega) (by omega) dL_law_650 (AW.scr (hM1 _ (fun M2 W2 t2 I2 hs2 => ?_)))
  refine a_icmp_eq (tgt := 843) dL_law_653 (by decide) (fun c_653 => ?_) (fun c_653 => absurd rfl c_653)
  exact kk _ _ _ _ I2 (hs2.1.trans hl1)
theorem c_slip {M : Mem} {N W t L k mc ms : Nat} {Q : Option Value → Nat → Mem → Prop} (I : Inv M N W t) (hl : M.2.2.2 0 = L) (hk : 6 * k + 6 ≤ L) (hL : L ≤ 3072) (kk : ∀ N2 W2 t2 M2, Inv M2 N2 W2 t2 → M2.2.2.2 0 = L → AW mL_law 100 mc ms N2 843 [(0, .ref 0), (1, .ref 2), (2, .ref 64), (3, .int (nI (6 * k)))] [] M2 Q) : AW mL_law 100 (mc + 6) (ms + 168) N 658 [(0, .ref 0), (1, .ref 2), (2, .ref 64), (3, .int (nI (6 * k)))] [] M Q := by
  obtain ⟨v, N1, hN1, hv⟩ := (q_slip I (sx M k 1) (sx M k 2) (sx M k 3)).f
  have hN : 94 ≤ N := I.N9
  refine a_aload_n dL_law_658 rfl ?_
  refine a_aload_n dL_law_659 rfl ?_
  refine a_iload_n dL_law_660 rfl ?_
  refine a_iconst (v := 1) dL_law_661 (by decide) ?_
  refine a_iadd dL_law_662 ?_
  refine a_sld (sx_i (d := 1) (by decide) hk hL hl) dL_law_663 ?_
  refine a_aload_n dL_law_664 rfl ?_
  refine a_iload_n dL_law_665 rfl ?_
  refine a_iconst (v := 2) dL_law_666 (by decide) ?_
  refine a_iadd dL_law_667 ?_
  refine a_sld (sx_i (d := 2) (by decide) hk hL hl) dL_law_668 ?_
  refine a_aload_n dL_law_669 rfl ?_
  refine a_iload_n dL_law_670 rfl ?_
  refine a_iconst (v := 3) dL_law_671 (by decide) ?_
  refine a_iadd dL_law_672 ?_
  refine a_sld (sx_i (d := 3) (by decide) hk hL hl) dL_law_673 ?_
  simp only [show rI M 0 (nI (6 * k) + 1).toNatClampNeg = sx M k 1 from rfl, show rI M 0 (nI (6 * k) + 2).toNatClampNeg = sx M k 2 from rfl, show rI M 0 (nI (6 * k) + 3).toNatClampNeg = sx M k 3 from rfl]
  refine a_callV (mc1 := mc) (ms1 := ms) (As := [_, _, _]) kpX9_slip kmL_77 (by decide) rfl (Nat.le_of_ble_eq_true rfl) rfl (by decide) rfl (by decide) (hlt hN (by decide)) (Nat.le_of_ble_eq_true rfl) (by omega) (by omega) dL_law_674 (AW.scr (hv _ (fun M1 hM1 hs1 => ?_)))
  replace hN : 94 ≤ N1 := by omega
  have hl1 : M1.2.2.2 0 = L := hs1.1.trans hl
  refine a_aload_n dL_law_677 rfl ?_
  refine a_aload_n dL_law_678 rfl ?_
  refine a_iload_n dL_law_679 rfl ?_
  refine a_iconst (v := 1) dL_law_680 (by decide) ?_
  refine a_iadd dL_law_681 ?_
  refine a_sld (sx_i (d := 1) (by decide) hk hL hl1) dL_law_682 ?_
  refine a_aload_n dL_law_683 rfl ?_
  refine a_iload_n dL_law_684 rfl ?_
  refine a_iconst (v := 2) dL_law_685 (by decide) ?_
  refine a_iadd dL_law_686 ?_
  refine a_sld (sx_i (d := 2) (by decide) hk hL hl1) dL_law_687 ?_
  refine a_aload_n dL_law_688 rfl ?_
  refine a_iload_n dL_law_689 rfl ?_
  refine a_iconst (v := 3) dL_law_690 (by decide) ?_
  refine a_iadd dL_law_691 ?_
  refine a_sld (sx_i (d := 3) (by decide) hk hL hl1) dL_law_692 ?_
  rw [show rI M1 0 (nI (6 * k) + 1).toNatClampNeg = sx M k 1 from sx_eq (d := 1) (by decide) hk hL hl hs1.2, show rI M1 0 (nI (6 * k) + 2).toNatClampNeg = sx M k 2 from sx_eq (d := 2) (by decide) hk hL hl hs1.2, show rI M1 0 (nI (6 * k) + 3).toNatClampNeg = sx M k 3 from sx_eq (d := 3) (by decide) hk hL hl hs1.2]
  refine a_callV (mc1 := mc) (ms1 := ms) (As := [_, _, _]) kpX10_slip kmL_80 (by decide) rfl (Nat.le_of_ble_eq_true rfl) rfl (by decide) rfl (by decide) (hlt hN (by decide)) (Nat.le_of_ble_eq_true rfl) (by omega) (by omega) dL_law_693 (AW.scr (hM1 _ (fun M2 W2 t2 I2 hs2 => ?_)))
  refine a_icmp_eq (tgt := 843) dL_law_696 (by decide) (fun c_696 => ?_) (fun c_696 => absurd rfl c_696)
  exact kk _ _ _ _ I2 (hs2.1.trans hl1)
theorem c_fault {M : Mem} {N W t L k mc ms : Nat} {Q : Option Value → Nat → Mem → Prop} (I : Inv M N W t) (hl : M.2.2.2 0 = L) (hk : 6 * k + 6 ≤ L) (hL : L ≤ 3072) (kk : ∀ N2 W2 t2 M2, Inv M2 N2 W2 t2 → M2.2.2.2 0 = L → AW mL_law 100 mc ms N2 843 [(0, .ref 0), (1, .ref 2), (2, .ref 64), (3, .int (nI (6 * k)))] [] M2 Q) : AW mL_law 100 (mc + 6) (ms + 168) N 701 [(0, .ref 0), (1, .ref 2), (2, .ref 64), (3, .int (nI (6 * k)))] [] M Q := by
  obtain ⟨v, N1, hN1, hv⟩ := (q_fault I (sx M k 1) (sx M k 2)).f
  have hN : 94 ≤ N := I.N9
  refine a_aload_n dL_law_701 rfl ?_
  refine a_aload_n dL_law_702 rfl ?_
  refine a_iload_n dL_law_703 rfl ?_
  refine a_iconst (v := 1) dL_law_704 (by decide) ?_
  refine a_iadd dL_law_705 ?_
  refine a_sld (sx_i (d := 1) (by decide) hk hL hl) dL_law_706 ?_
  refine a_aload_n dL_law_707 rfl ?_
  refine a_iload_n dL_law_708 rfl ?_
  refine a_iconst (v := 2) dL_law_709 (by decide) ?_
  refine a_iadd dL_law_710 ?_
  refine a_sld (sx_i (d := 2) (by decide) hk hL hl) dL_law_711 ?_
  simp only [show rI M 0 (nI (6 * k) + 1).toNatClampNeg = sx M k 1 from rfl, show rI M 0 (nI (6 * k) + 2).toNatClampNeg = sx M k 2 from rfl]
  refine a_callV (mc1 := mc) (ms1 := ms) (As := [_, _]) kpX9_fault kmL_81 (by decide) rfl (Nat.le_of_ble_eq_true rfl) rfl (by decide) rfl (by decide) (hlt hN (by decide)) (Nat.le_of_ble_eq_true rfl) (by omega) (by omega) dL_law_712 (AW.scr (hv _ (fun M1 hM1 hs1 => ?_)))
  replace hN : 94 ≤ N1 := by omega
  have hl1 : M1.2.2.2 0 = L := hs1.1.trans hl
  refine a_aload_n dL_law_715 rfl ?_
  refine a_aload_n dL_law_716 rfl ?_
  refine a_iload_n dL_law_717 rfl ?_
  refine a_iconst (v := 1) dL_law_718 (by decide) ?_
  refine a_iadd dL_law_719 ?_
  refine a_sld (sx_i (d := 1) (by decide) hk hL hl1) dL_law_720 ?_
  refine a_aload_n dL_law_721 rfl ?_
  refine a_iload_n dL_law_722 rfl ?_
  refine a_iconst (v := 2) dL_law_723 (by decide) ?_
  refine a_iadd dL_law_724 ?_
  refine a_sld (sx_i (d := 2) (by decide) hk hL hl1) dL_law_725 ?_
  rw [show rI M1 0 (nI (6 * k) + 1).toNatClampNeg = sx M k 1 from sx_eq (d := 1) (by decide) hk hL hl hs1.2, show rI M1 0 (nI (6 * k) + 2).toNatClampNeg = sx M k 2 from sx_eq (d := 2) (by decide) hk hL hl hs1.2]
  refine a_callV (mc1 := mc) (ms1 := ms) (As := [_, _]) kpX10_fault kmL_84 (by decide) rfl (Nat.le_of_ble_eq_true rfl) rfl (by decide) rfl (by decide) (hlt hN (by decide)) (Nat.le_of_ble_eq_true rfl) (by omega) (by omega) dL_law_726 (AW.scr (hM1 _ (fun M2 W2 t2 I2 hs2 => ?_)))
  refine a_icmp_eq (tgt := 843) dL_law_729 (by decide) (fun c_729 => ?_) (fun c_729 => absurd rfl c_729)
  exact kk _ _ _ _ I2 (hs2.1.trans hl1)
theorem c_copied {M : Mem} {N W t L k mc ms : Nat} {Q : Option Value → Nat → Mem → Prop} (I : Inv M N W t) (hl : M.2.2.2 0 = L) (hk : 6 * k + 6 ≤ L) (hL : L ≤ 3072) (kk : ∀ N2 W2 t2 M2, Inv M2 N2 W2 t2 → M2.2.2.2 0 = L → AW mL_law 100 mc ms N2 843 [(0, .ref 0), (1, .ref 2), (2, .ref 64), (3, .int (nI (6 * k)))] [] M2 Q) : AW mL_law 100 (mc + 6) (ms + 168) N 734 [(0, .ref 0), (1, .ref 2), (2, .ref 64), (3, .int (nI (6 * k)))] [] M Q := by
  obtain ⟨v, N1, hN1, hv⟩ := (q_copied I (sx M k 1) (sx M k 2) (sx M k 3)).f
  have hN : 94 ≤ N := I.N9
  refine a_aload_n dL_law_734 rfl ?_
  refine a_aload_n dL_law_735 rfl ?_
  refine a_iload_n dL_law_736 rfl ?_
  refine a_iconst (v := 1) dL_law_737 (by decide) ?_
  refine a_iadd dL_law_738 ?_
  refine a_sld (sx_i (d := 1) (by decide) hk hL hl) dL_law_739 ?_
  refine a_aload_n dL_law_740 rfl ?_
  refine a_iload_n dL_law_741 rfl ?_
  refine a_iconst (v := 2) dL_law_742 (by decide) ?_
  refine a_iadd dL_law_743 ?_
  refine a_sld (sx_i (d := 2) (by decide) hk hL hl) dL_law_744 ?_
  refine a_aload_n dL_law_745 rfl ?_
  refine a_iload_n dL_law_746 rfl ?_
  refine a_iconst (v := 3) dL_law_747 (by decide) ?_
  refine a_iadd dL_law_748 ?_
  refine a_sld (sx_i (d := 3) (by decide) hk hL hl) dL_law_749 ?_
  simp only [show rI M 0 (nI (6 * k) + 1).toNatClampNeg = sx M k 1 from rfl, show rI M 0 (nI (6 * k) + 2).toNatClampNeg = sx M k 2 from rfl, show rI M 0 (nI (6 * k) + 3).toNatClampNeg = sx M k 3 from rfl]
  refine a_callV (mc1 := mc) (ms1 := ms) (As := [_, _, _]) kpX9_copied kmL_85 (by decide) rfl (Nat.le_of_ble_eq_true rfl) rfl (by decide) rfl (by decide) (hlt hN (by decide)) (Nat.le_of_ble_eq_true rfl) (by omega) (by omega) dL_law_750 (AW.scr (hv _ (fun M1 hM1 hs1 => ?_)))
  replace hN : 94 ≤ N1 := by omega
  have hl1 : M1.2.2.2 0 = L := hs1.1.trans hl
  refine a_aload_n dL_law_753 rfl ?_
  refine a_aload_n dL_law_754 rfl ?_
  refine a_iload_n dL_law_755 rfl ?_
  refine a_iconst (v := 1) dL_law_756 (by decide) ?_
  refine a_iadd dL_law_757 ?_
  refine a_sld (sx_i (d := 1) (by decide) hk hL hl1) dL_law_758 ?_
  refine a_aload_n dL_law_759 rfl ?_
  refine a_iload_n dL_law_760 rfl ?_
  refine a_iconst (v := 2) dL_law_761 (by decide) ?_
  refine a_iadd dL_law_762 ?_
  refine a_sld (sx_i (d := 2) (by decide) hk hL hl1) dL_law_763 ?_
  refine a_aload_n dL_law_764 rfl ?_
  refine a_iload_n dL_law_765 rfl ?_
  refine a_iconst (v := 3) dL_law_766 (by decide) ?_
  refine a_iadd dL_law_767 ?_
  refine a_sld (sx_i (d := 3) (by decide) hk hL hl1) dL_law_768 ?_
  rw [show rI M1 0 (nI (6 * k) + 1).toNatClampNeg = sx M k 1 from sx_eq (d := 1) (by decide) hk hL hl hs1.2, show rI M1 0 (nI (6 * k) + 2).toNatClampNeg = sx M k 2 from sx_eq (d := 2) (by decide) hk hL hl hs1.2, show rI M1 0 (nI (6 * k) + 3).toNatClampNeg = sx M k 3 from sx_eq (d := 3) (by decide) hk hL hl hs1.2]
  refine a_callV (mc1 := mc) (ms1 := ms) (As := [_, _, _]) kpX10_copied kmL_88 (by decide) rfl (Nat.le_of_ble_eq_true rfl) rfl (by decide) rfl (by decide) (hlt hN (by decide)) (Nat.le_of_ble_eq_true rfl) (by omega) (by omega) dL_law_769 (AW.scr (hM1 _ (fun M2 W2 t2 I2 hs2 => ?_)))
  refine a_icmp_eq (tgt := 843) dL_law_772 (by decide) (fun c_772 => ?_) (fun c_772 => absurd rfl c_772)
  exact kk _ _ _ _ I2 (hs2.1.trans hl1)
theorem c_look {M : Mem} {N W t L k mc ms : Nat} {Q : Option Value → Nat → Mem → Prop} (I : Inv M N W t) (hl : M.2.2.2 0 = L) (hk : 6 * k + 6 ≤ L) (hL : L ≤ 3072) (kk : ∀ N2 W2 t2 M2, Inv M2 N2 W2 t2 → M2.2.2.2 0 = L → AW mL_law 100 mc ms N2 843 [(0, .ref 0), (1, .ref 2), (2, .ref 64), (3, .int (nI (6 * k)))] [] M2 Q) : AW mL_law 100 (mc + 6) (ms + 168) N 777 [(0, .ref 0), (1, .ref 2), (2, .ref 64), (3, .int (nI (6 * k)))] [] M Q := by
  obtain ⟨v, N1, hN1, hv⟩ := (q_look I (sx M k 1) (sx M k 2) (sx M k 3)).f
  have hN : 94 ≤ N := I.N9
  refine a_aload_n dL_law_777 rfl ?_
  refine a_aload_n dL_law_778 rfl ?_
  refine a_iload_n dL_law_779 rfl ?_
  refine a_iconst (v := 1) dL_law_780 (by decide) ?_
  refine a_iadd dL_law_781 ?_
  refine a_sld (sx_i (d := 1) (by decide) hk hL hl) dL_law_782 ?_
  refine a_aload_n dL_law_783 rfl ?_
  refine a_iload_n dL_law_784 rfl ?_
  refine a_iconst (v := 2) dL_law_785 (by decide) ?_
  refine a_iadd dL_law_786 ?_
  refine a_sld (sx_i (d := 2) (by decide) hk hL hl) dL_law_787 ?_
  refine a_aload_n dL_law_788 rfl ?_
  refine a_iload_n dL_law_789 rfl ?_
  refine a_iconst (v := 3) dL_law_790 (by decide) ?_
  refine a_iadd dL_law_791 ?_
  refine a_sld (sx_i (d := 3) (by decide) hk hL hl) dL_law_792 ?_
  simp only [show rI M 0 (nI (6 * k) + 1).toNatClampNeg = sx M k 1 from rfl, show rI M 0 (nI (6 * k) + 2).toNatClampNeg = sx M k 2 from rfl, show rI M 0 (nI (6 * k) + 3).toNatClampNeg = sx M k 3 from rfl]
  refine a_callV (mc1 := mc) (ms1 := ms) (As := [_, _, _]) kpX9_look kmL_89 (by decide) rfl (Nat.le_of_ble_eq_true rfl) rfl (by decide) rfl (by decide) (hlt hN (by decide)) (Nat.le_of_ble_eq_true rfl) (by omega) (by omega) dL_law_793 (AW.scr (hv _ (fun M1 hM1 hs1 => ?_)))
  replace hN : 94 ≤ N1 := by omega
  have hl1 : M1.2.2.2 0 = L := hs1.1.trans hl
  refine a_aload_n dL_law_796 rfl ?_
  refine a_aload_n dL_law_797 rfl ?_
  refine a_iload_n dL_law_798 rfl ?_
  refine a_iconst (v := 1) dL_law_799 (by decide) ?_
  refine a_iadd dL_law_800 ?_
  refine a_sld (sx_i (d := 1) (by decide) hk hL hl1) dL_law_801 ?_
  refine a_aload_n dL_law_802 rfl ?_
  refine a_iload_n dL_law_803 rfl ?_
  refine a_iconst (v := 2) dL_law_804 (by decide) ?_
  refine a_iadd dL_law_805 ?_
  refine a_sld (sx_i (d := 2) (by decide) hk hL hl1) dL_law_806 ?_
  refine a_aload_n dL_law_807 rfl ?_
  refine a_iload_n dL_law_808 rfl ?_
  refine a_iconst (v := 3) dL_law_809 (by decide) ?_
  refine a_iadd dL_law_810 ?_
  refine a_sld (sx_i (d := 3) (by decide) hk hL hl1) dL_law_811 ?_
  rw [show rI M1 0 (nI (6 * k) + 1).toNatClampNeg = sx M k 1 from sx_eq (d := 1) (by decide) hk hL hl hs1.2, show rI M1 0 (nI (6 * k) + 2).toNatClampNeg = sx M k 2 from sx_eq (d := 2) (by decide) hk hL hl hs1.2, show rI M1 0 (nI (6 * k) + 3).toNatClampNeg = sx M k 3 from sx_eq (d := 3) (by decide) hk hL hl hs1.2]
  refine a_callV (mc1 := mc) (ms1 := ms) (As := [_, _, _]) kpX10_look kmL_92 (by decide) rfl (Nat.le_of_ble_eq_true rfl) rfl (by decide) rfl (by decide) (hlt hN (by decide)) (Nat.le_of_ble_eq_true rfl) (by omega) (by omega) dL_law_812 (AW.scr (hM1 _ (fun M2 W2 t2 I2 hs2 => ?_)))
  refine a_icmp_eq (tgt := 843) dL_law_815 (by decide) (fun c_815 => ?_) (fun c_815 => absurd rfl c_815)
  exact kk _ _ _ _ I2 (hs2.1.trans hl1)
theorem c_count {M : Mem} {N W t L k mc ms : Nat} {Q : Option Value → Nat → Mem → Prop} (I : Inv M N W t) (hl : M.2.2.2 0 = L) (hk : 6 * k + 6 ≤ L) (hL : L ≤ 3072) (kk : ∀ N2 W2 t2 M2, Inv M2 N2 W2 t2 → M2.2.2.2 0 = L → AW mL_law 100 mc ms N2 843 [(0, .ref 0), (1, .ref 2), (2, .ref 64), (3, .int (nI (6 * k)))] [] M2 Q) : AW mL_law 100 (mc + 6) (ms + 168) N 820 [(0, .ref 0), (1, .ref 2), (2, .ref 64), (3, .int (nI (6 * k)))] [] M Q := by
  obtain ⟨v, N1, hN1, hv⟩ := (q_count I (sx M k 1)).f
  have hN : 94 ≤ N := I.N9
  refine a_aload_n dL_law_820 rfl ?_
  refine a_aload_n dL_law_821 rfl ?_
  refine a_iload_n dL_law_822 rfl ?_
  refine a_iconst (v := 1) dL_law_823 (by decide) ?_
  refine a_iadd dL_law_824 ?_
  refine a_sld (sx_i (d := 1) (by decide) hk hL hl) dL_law_825 ?_
  simp only [show rI M 0 (nI (6 * k) + 1).toNatClampNeg = sx M k 1 from rfl]
  refine a_callV (mc1 := mc) (ms1 := ms) (As := [_]) kpX9_count kmL_93 (by decide) rfl (Nat.le_of_ble_eq_true rfl) rfl (by decide) rfl (by decide) (hlt hN (by decide)) (Nat.le_of_ble_eq_true rfl) (by omega) (by omega) dL_law_826 (AW.scr (hv _ (fun M1 hM1 hs1 => ?_)))
  replace hN : 94 ≤ N1 := by omega
  have hl1 : M1.2.2.2 0 = L := hs1.1.trans hl
  refine a_aload_n dL_law_829 rfl ?_
  refine a_aload_n dL_law_830 rfl ?_
  refine a_iload_n dL_law_831 rfl ?_
  refine a_iconst (v := 1) dL_law_832 (by decide) ?_
  refine a_iadd dL_law_833 ?_
  refine a_sld (sx_i (d := 1) (by decide) hk hL hl1) dL_law_834 ?_
  rw [show rI M1 0 (nI (6 * k) + 1).toNatClampNeg = sx M k 1 from sx_eq (d := 1) (by decide) hk hL hl hs1.2]
  refine a_callV (mc1 := mc) (ms1 := ms) (As := [_]) kpX10_count kmL_97 (by decide) rfl (Nat.le_of_ble_eq_true rfl) rfl (by decide) rfl (by decide) (hlt hN (by decide)) (Nat.le_of_ble_eq_true rfl) (by omega) (by omega) dL_law_835 (AW.scr (hM1 _ (fun M2 W2 t2 I2 hs2 => ?_)))
  refine a_icmp_eq (tgt := 843) dL_law_838 (by decide) (fun c_838 => ?_) (fun c_838 => absurd rfl c_838)
  exact kk _ _ _ _ I2 (hs2.1.trans hl1)
