/-- whether the formula f has the text of the other, if there is one -/
def txB (M : Mem) (f : Nat) (x : Option Nat) : Bool := match x with
  | none => false
  | some g => decide (lenF M f = lenF M g ∧ ∀ k, k < lenF M f → rI M (f + 1) k = rI M (g + 1) k)
def shB (M : Mem) (a b j : Nat) : Bool := match rA M (9 + 6 * a + 4) j with
  | none => false
  | some f => txB M f (rA M (9 + 6 * b + 4) j) && !txB M f (rA M (9 + 4) j)
theorem w_X2_hasTextO {M : Mem} {N : Nat} {Q : Option Value → Nat → Mem → Prop} {f : Nat} {x : Option Nat} (hf : FRW M N f) (hx : ∀ g, x = some g → FRW M N g) (h : Q (some (.int (bI (txB M f x = true)))) N M) : AW mX2_hasTextOf 1 0 0 N 0 [(0, .ref f), (1, rv x)] [] M Q := by
  cases x with
  | none => exact w_X2_hasTextOf_n hf.1 (lenF_of hf) (ret_i rfl h)
  | some g =>
    refine w_X2_hasTextOf hf.1 (lenF_of hf) (hx g rfl).1 (lenF_of (hx g rfl)) (ret_i ?_ h)
    unfold txB bI
    simp only [decide_eq_true_eq]
theorem Bas.fr {M : Mem} {N n i j f : Nat} (h : Bas M N n) (hi : i < 6) (hj : j < 64) (e : rA M (9 + 6 * i + 4) j = some f) : FRW M N f := (h.2.2.1 i hi j f hj e).1
theorem w_X9_isShared {M : Mem} {N : Nat} {Q : Option Value → Nat → Mem → Prop} {a b n : Nat} (ha : a < 6) (hb6 : b < 6) (hB : Bas M N n) {j : Nat} (hj : j < 64)  (hN : 94 ≤ N) (hs : Str M.2.2.1) (h : Q (some (.int (bI (shB M a b j = true)))) N (M)) : AW mX9_isShared 2 0 0 N 0 [(0, .ref 2), (1, .ref (9 + 6 * a)), (2, .ref (9 + 6 * b)), (3, .int (nI j))] [] M Q := by
  refine a_aload_n dX9_isShared_0 rfl ?_
  refine a_iconst (v := 0) dX9_isShared_1 (by decide) ?_
  refine a_callV (mc1 := 0) (ms1 := 0) (As := [_]) kpX9_sheetAt kmX9_69 (by decide) rfl (Nat.le_of_ble_eq_true rfl) rfl (by decide) rfl (by decide) (hlt hN (by decide)) (Nat.le_of_ble_eq_true rfl) (Nat.le_of_ble_eq_true rfl) (Nat.le_of_ble_eq_true rfl) dX9_isShared_2 (w_X9_sheetAt (i := 0) (by decide) hN hs ?_)
  refine a_astore dX9_isShared_5 (by decide) ?_
  refine a_aload_n dX9_isShared_7 rfl ?_
  refine a_iload_n dX9_isShared_8 rfl ?_
  refine a_callV (mc1 := 0) (ms1 := 0) (As := [_]) kpX7_formulaAt kmX9_190 (by decide) rfl (Nat.le_of_ble_eq_true rfl) (sh_k (sheetR ha)) (by decide) rfl (sh_two (sheetR ha)) (sh_lt (sheetR ha) hN) (Nat.le_of_ble_eq_true rfl) (Nat.le_of_ble_eq_true rfl) (Nat.le_of_ble_eq_true rfl) dX9_isShared_9 (w_X7_formulaAt (sheetR ha) hj hN hs ?_)
  refine a_rv (fun ho_9 => ?_) (fun f_9 ho_9 => ?_)
  · refine a_astoreN dX9_isShared_12 (by decide) ?_
    refine a_aload dX9_isShared_14 rfl ?_
    refine a_ifnull dX9_isShared_16 ?_
    refine a_aloadN dX9_isShared_19 rfl ?_
    refine a_ifnullN (tgt := 37) dX9_isShared_21 (by decide) ?_
    refine a_iconst (v := 0) dX9_isShared_37 (by decide) ?_
    refine a_zret dX9_isShared_38 rfl (by decide) (by first | exact ret_i (by unfold shB bI; rw [ho_9]; rfl) h | exact ret_i (by unfold shB bI; rw [ho_9]; simp only [Bool.and_eq_true, Bool.not_eq_true', Bool.not_eq_true]; first | (rw [if_neg (fun z => bI_z.mp c_34 z.1)]) | (rw [if_neg (fun z => absurd (bI_nz.mp c_50) (by rw [z.2]; decide))]) | (rw [if_pos ⟨bI_nz.mp c_34, Bool.not_eq_true _ |>.mp (bI_z.mp c_50)⟩])) h)
  · have hF : FRW M N f_9 := hB.fr ha hj ho_9
    refine a_astore dX9_isShared_12 (by decide) ?_
    refine a_aload dX9_isShared_14 rfl ?_
    refine a_ifnull dX9_isShared_16 ?_
    refine a_aload dX9_isShared_19 rfl ?_
    refine a_ifnull dX9_isShared_21 ?_
    refine a_aload dX9_isShared_24 rfl ?_
    refine a_aload_n dX9_isShared_26 rfl ?_
    refine a_iload_n dX9_isShared_27 rfl ?_
    refine a_callV (mc1 := 0) (ms1 := 0) (As := [_]) kpX7_formulaAt kmX9_190 (by decide) rfl (Nat.le_of_ble_eq_true rfl) (sh_k (sheetR hb6)) (by decide) rfl (sh_two (sheetR hb6)) (sh_lt (sheetR hb6) hN) (Nat.le_of_ble_eq_true rfl) (Nat.le_of_ble_eq_true rfl) (Nat.le_of_ble_eq_true rfl) dX9_isShared_28 (w_X7_formulaAt (sheetR hb6) hj hN hs ?_)
    refine a_rv (fun ho_28 => ?_) (fun f_28 ho_28 => ?_)
    · refine a_callV (mc1 := 0) (ms1 := 0) (As := [_]) kpX2_hasTextOf kmX9_212 (by decide) rfl (Nat.le_of_ble_eq_true rfl) (fo_k hF.1) (by decide) rfl (fo_two hF.1) (fo_lt hF.1) (Nat.le_of_ble_eq_true rfl) (Nat.le_of_ble_eq_true rfl) (Nat.le_of_ble_eq_true rfl) dX9_isShared_31 (w_X2_hasTextO (x := none) hF (fun g hg => by cases hg) ?_)
      rw [← ho_28]
      refine a_if_ne (tgt := 39) dX9_isShared_34 (by decide) (fun c_34 => ?_) (fun c_34 => ?_)
      · refine a_aload dX9_isShared_39 rfl ?_
        refine a_aload dX9_isShared_41 rfl ?_
        refine a_iload_n dX9_isShared_43 rfl ?_
        refine a_callV (mc1 := 0) (ms1 := 0) (As := [_]) kpX7_formulaAt kmX9_190 (by decide) rfl (Nat.le_of_ble_eq_true rfl) rfl (by decide) rfl (by decide) (hlt hN (by decide)) (Nat.le_of_ble_eq_true rfl) (Nat.le_of_ble_eq_true rfl) (Nat.le_of_ble_eq_true rfl) dX9_isShared_44 (w_X7_formulaAt (sheetR (s := 0) (by decide)) hj hN hs ?_)
        refine a_rv (fun ho_44 => ?_) (fun f_44 ho_44 => ?_)
        · refine a_callV (mc1 := 0) (ms1 := 0) (As := [_]) kpX2_hasTextOf kmX9_212 (by decide) rfl (Nat.le_of_ble_eq_true rfl) (fo_k hF.1) (by decide) rfl (fo_two hF.1) (fo_lt hF.1) (Nat.le_of_ble_eq_true rfl) (Nat.le_of_ble_eq_true rfl) (Nat.le_of_ble_eq_true rfl) dX9_isShared_47 (w_X2_hasTextO (x := none) hF (fun g hg => by cases hg) ?_)
          rw [← ho_44]
          refine a_if_ne (tgt := 57) dX9_isShared_50 (by decide) (fun c_50 => ?_) (fun c_50 => ?_)
          · refine a_iconst (v := 0) dX9_isShared_57 (by decide) ?_
            refine a_zret dX9_isShared_58 rfl (by decide) (by first | exact ret_i (by unfold shB bI; rw [ho_9]; rfl) h | exact ret_i (by unfold shB bI; rw [ho_9]; simp only [Bool.and_eq_true, Bool.not_eq_true', Bool.not_eq_true]; first | (rw [if_neg (fun z => bI_z.mp c_34 z.1)]) | (rw [if_neg (fun z => absurd (bI_nz.mp c_50) (by rw [z.2]; decide))]) | (rw [if_pos ⟨bI_nz.mp c_34, Bool.not_eq_true _ |>.mp (bI_z.mp c_50)⟩])) h)
          · refine a_iconst (v := 1) dX9_isShared_53 (by decide) ?_
            refine a_goto (tgt := 58) dX9_isShared_54 (by decide) ?_
            refine a_zret dX9_isShared_58 rfl (by decide) (by first | exact ret_i (by unfold shB bI; rw [ho_9]; rfl) h | exact ret_i (by unfold shB bI; rw [ho_9]; simp only [Bool.and_eq_true, Bool.not_eq_true', Bool.not_eq_true]; first | (rw [if_neg (fun z => bI_z.mp c_34 z.1)]) | (rw [if_neg (fun z => absurd (bI_nz.mp c_50) (by rw [z.2]; decide))]) | (rw [if_pos ⟨bI_nz.mp c_34, Bool.not_eq_true _ |>.mp (bI_z.mp c_50)⟩])) h)
        · have hG : FRW M N f_44 := hB.fr (i := 0) (by decide) hj ho_44
          refine a_callV (mc1 := 0) (ms1 := 0) (As := [_]) kpX2_hasTextOf kmX9_212 (by decide) rfl (Nat.le_of_ble_eq_true rfl) (fo_k hF.1) (by decide) rfl (fo_two hF.1) (fo_lt hF.1) (Nat.le_of_ble_eq_true rfl) (Nat.le_of_ble_eq_true rfl) (Nat.le_of_ble_eq_true rfl) dX9_isShared_47 (w_X2_hasTextO (x := some f_44) hF (fun g hg => by cases hg; exact hG) ?_)
          rw [← ho_44]
          refine a_if_ne (tgt := 57) dX9_isShared_50 (by decide) (fun c_50 => ?_) (fun c_50 => ?_)
          · refine a_iconst (v := 0) dX9_isShared_57 (by decide) ?_
            refine a_zret dX9_isShared_58 rfl (by decide) (by first | exact ret_i (by unfold shB bI; rw [ho_9]; rfl) h | exact ret_i (by unfold shB bI; rw [ho_9]; simp only [Bool.and_eq_true, Bool.not_eq_true', Bool.not_eq_true]; first | (rw [if_neg (fun z => bI_z.mp c_34 z.1)]) | (rw [if_neg (fun z => absurd (bI_nz.mp c_50) (by rw [z.2]; decide))]) | (rw [if_pos ⟨bI_nz.mp c_34, Bool.not_eq_true _ |>.mp (bI_z.mp c_50)⟩])) h)
          · refine a_iconst (v := 1) dX9_isShared_53 (by decide) ?_
            refine a_goto (tgt := 58) dX9_isShared_54 (by decide) ?_
            refine a_zret dX9_isShared_58 rfl (by decide) (by first | exact ret_i (by unfold shB bI; rw [ho_9]; rfl) h | exact ret_i (by unfold shB bI; rw [ho_9]; simp only [Bool.and_eq_true, Bool.not_eq_true', Bool.not_eq_true]; first | (rw [if_neg (fun z => bI_z.mp c_34 z.1)]) | (rw [if_neg (fun z => absurd (bI_nz.mp c_50) (by rw [z.2]; decide))]) | (rw [if_pos ⟨bI_nz.mp c_34, Bool.not_eq_true _ |>.mp (bI_z.mp c_50)⟩])) h)
      · refine a_iconst (v := 0) dX9_isShared_37 (by decide) ?_
        refine a_zret dX9_isShared_38 rfl (by decide) (by first | exact ret_i (by unfold shB bI; rw [ho_9]; rfl) h | exact ret_i (by unfold shB bI; rw [ho_9]; simp only [Bool.and_eq_true, Bool.not_eq_true', Bool.not_eq_true]; first | (rw [if_neg (fun z => bI_z.mp c_34 z.1)]) | (rw [if_neg (fun z => absurd (bI_nz.mp c_50) (by rw [z.2]; decide))]) | (rw [if_pos ⟨bI_nz.mp c_34, Bool.not_eq_true _ |>.mp (bI_z.mp c_50)⟩])) h)
    · have hG : FRW M N f_28 := hB.fr hb6 hj ho_28
      refine a_callV (mc1 := 0) (ms1 := 0) (As := [_]) kpX2_hasTextOf kmX9_212 (by decide) rfl (Nat.le_of_ble_eq_true rfl) (fo_k hF.1) (by decide) rfl (fo_two hF.1) (fo_lt hF.1) (Nat.le_of_ble_eq_true rfl) (Nat.le_of_ble_eq_true rfl) (Nat.le_of_ble_eq_true rfl) dX9_isShared_31 (w_X2_hasTextO (x := some f_28) hF (fun g hg => by cases hg; exact hG) ?_)
      rw [← ho_28]
      refine a_if_ne (tgt := 39) dX9_isShared_34 (by decide) (fun c_34 => ?_) (fun c_34 => ?_)
      · refine a_aload dX9_isShared_39 rfl ?_
        refine a_aload dX9_isShared_41 rfl ?_
        refine a_iload_n dX9_isShared_43 rfl ?_
        refine a_callV (mc1 := 0) (ms1 := 0) (As := [_]) kpX7_formulaAt kmX9_190 (by decide) rfl (Nat.le_of_ble_eq_true rfl) rfl (by decide) rfl (by decide) (hlt hN (by decide)) (Nat.le_of_ble_eq_true rfl) (Nat.le_of_ble_eq_true rfl) (Nat.le_of_ble_eq_true rfl) dX9_isShared_44 (w_X7_formulaAt (sheetR (s := 0) (by decide)) hj hN hs ?_)
        refine a_rv (fun ho_44 => ?_) (fun f_44 ho_44 => ?_)
        · refine a_callV (mc1 := 0) (ms1 := 0) (As := [_]) kpX2_hasTextOf kmX9_212 (by decide) rfl (Nat.le_of_ble_eq_true rfl) (fo_k hF.1) (by decide) rfl (fo_two hF.1) (fo_lt hF.1) (Nat.le_of_ble_eq_true rfl) (Nat.le_of_ble_eq_true rfl) (Nat.le_of_ble_eq_true rfl) dX9_isShared_47 (w_X2_hasTextO (x := none) hF (fun g hg => by cases hg) ?_)
          rw [← ho_44]
          refine a_if_ne (tgt := 57) dX9_isShared_50 (by decide) (fun c_50 => ?_) (fun c_50 => ?_)
          · refine a_iconst (v := 0) dX9_isShared_57 (by decide) ?_
            refine a_zret dX9_isShared_58 rfl (by decide) (by first | exact ret_i (by unfold shB bI; rw [ho_9]; rfl) h | exact ret_i (by unfold shB bI; rw [ho_9]; simp only [Bool.and_eq_true, Bool.not_eq_true', Bool.not_eq_true]; first | (rw [if_neg (fun z => bI_z.mp c_34 z.1)]) | (rw [if_neg (fun z => absurd (bI_nz.mp c_50) (by rw [z.2]; decide))]) | (rw [if_pos ⟨bI_nz.mp c_34, Bool.not_eq_true _ |>.mp (bI_z.mp c_50)⟩])) h)
          · refine a_iconst (v := 1) dX9_isShared_53 (by decide) ?_
            refine a_goto (tgt := 58) dX9_isShared_54 (by decide) ?_
            refine a_zret dX9_isShared_58 rfl (by decide) (by first | exact ret_i (by unfold shB bI; rw [ho_9]; rfl) h | exact ret_i (by unfold shB bI; rw [ho_9]; simp only [Bool.and_eq_true, Bool.not_eq_true', Bool.not_eq_true]; first | (rw [if_neg (fun z => bI_z.mp c_34 z.1)]) | (rw [if_neg (fun z => absurd (bI_nz.mp c_50) (by rw [z.2]; decide))]) | (rw [if_pos ⟨bI_nz.mp c_34, Bool.not_eq_true _ |>.mp (bI_z.mp c_50)⟩])) h)
        · have hG : FRW M N f_44 := hB.fr (i := 0) (by decide) hj ho_44
          refine a_callV (mc1 := 0) (ms1 := 0) (As := [_]) kpX2_hasTextOf kmX9_212 (by decide) rfl (Nat.le_of_ble_eq_true rfl) (fo_k hF.1) (by decide) rfl (fo_two hF.1) (fo_lt hF.1) (Nat.le_of_ble_eq_true rfl) (Nat.le_of_ble_eq_true rfl) (Nat.le_of_ble_eq_true rfl) dX9_isShared_47 (w_X2_hasTextO (x := some f_44) hF (fun g hg => by cases hg; exact hG) ?_)
          rw [← ho_44]
          refine a_if_ne (tgt := 57) dX9_isShared_50 (by decide) (fun c_50 => ?_) (fun c_50 => ?_)
          · refine a_iconst (v := 0) dX9_isShared_57 (by decide) ?_
            refine a_zret dX9_isShared_58 rfl (by decide) (by first | exact ret_i (by unfold shB bI; rw [ho_9]; rfl) h | exact ret_i (by unfold shB bI; rw [ho_9]; simp only [Bool.and_eq_true, Bool.not_eq_true', Bool.not_eq_true]; first | (rw [if_neg (fun z => bI_z.mp c_34 z.1)]) | (rw [if_neg (fun z => absurd (bI_nz.mp c_50) (by rw [z.2]; decide))]) | (rw [if_pos ⟨bI_nz.mp c_34, Bool.not_eq_true _ |>.mp (bI_z.mp c_50)⟩])) h)
          · refine a_iconst (v := 1) dX9_isShared_53 (by decide) ?_
            refine a_goto (tgt := 58) dX9_isShared_54 (by decide) ?_
            refine a_zret dX9_isShared_58 rfl (by decide) (by first | exact ret_i (by unfold shB bI; rw [ho_9]; rfl) h | exact ret_i (by unfold shB bI; rw [ho_9]; simp only [Bool.and_eq_true, Bool.not_eq_true', Bool.not_eq_true]; first | (rw [if_neg (fun z => bI_z.mp c_34 z.1)]) | (rw [if_neg (fun z => absurd (bI_nz.mp c_50) (by rw [z.2]; decide))]) | (rw [if_pos ⟨bI_nz.mp c_34, Bool.not_eq_true _ |>.mp (bI_z.mp c_50)⟩])) h)
      · refine a_iconst (v := 0) dX9_isShared_37 (by decide) ?_
        refine a_zret dX9_isShared_38 rfl (by decide) (by first | exact ret_i (by unfold shB bI; rw [ho_9]; rfl) h | exact ret_i (by unfold shB bI; rw [ho_9]; simp only [Bool.and_eq_true, Bool.not_eq_true', Bool.not_eq_true]; first | (rw [if_neg (fun z => bI_z.mp c_34 z.1)]) | (rw [if_neg (fun z => absurd (bI_nz.mp c_50) (by rw [z.2]; decide))]) | (rw [if_pos ⟨bI_nz.mp c_34, Bool.not_eq_true _ |>.mp (bI_z.mp c_50)⟩])) h)

def coF (M : Mem) (a b : Nat) : Nat → Bool := (fun k => !(hb (rJ M 5 2) (nI k)) && shB M a b k)
theorem coF_1 {M : Mem} {a b k : Nat} (h : ¬ hb (rJ M 5 2) (nI k) = true) (h2 : shB M a b k = true) : coF M a b k = true := by
  unfold coF
  simp [h, h2]
theorem coF_0 {M : Mem} {a b k : Nat} (h : hb (rJ M 5 2) (nI k) = true ∨ ¬ shB M a b k = true) : ¬ coF M a b k = true := by
  unfold coF
  rw [Bool.and_eq_true]
  rintro ⟨x, y⟩
  rcases h with h | h
  · rw [h] at x; exact absurd x (by decide)
  · exact h y
theorem l_X9_copied {M : Mem} {N : Nat} {Q : Option Value → Nat → Mem → Prop} {a b n : Nat} (ha : a < 6) (hb6 : b < 6) (hB : Bas M N n) {c : Int32} (hN : 94 ≤ N) (hs : Str M.2.2.1) (h : Q (some (.int (pkV (coF M a b) c))) N M) : ∀ (r k : Nat), k + r = 64 → (pkF (coF M a b) c k).2 = none → AW mX9_copied 3 0 0 N 41 [(0, .ref 2), (1, .int (nI a)), (2, .int (nI b)), (3, .int c), (4, .ref (9 + 6 * a)), (5, .ref (9 + 6 * b)), (6, .int (nI (pkF (coF M a b) c k).1)), (7, .int (nI k))] [] M Q := by
  intro r
  induction r with
  | zero =>
    intro k hk hinv
    obtain rfl : k = 64 := by omega
    refine a_iload dX9_copied_41 rfl ?_
    refine a_bipush (v := 64) dX9_copied_43 (by decide) ?_
    refine a_icmp_ge (tgt := 91) dX9_copied_45 (by decide) (fun c_45 => ?_) (fun c_45 => absurd (nI_le (a := 64) (b := 64) (by omega) (by decide)) c_45)
    refine a_iconst (v := (-1)) dX9_copied_91 (by decide) ?_
    refine a_iret dX9_copied_92 rfl (ret_i (pkV_0 hinv) h)
  | succ r ih =>
    intro k hk hinv
    have hk64 : k < 64 := by omega
    refine a_iload dX9_copied_41 rfl ?_
    refine a_bipush (v := 64) dX9_copied_43 (by decide) ?_
    refine a_icmp_ge (tgt := 91) dX9_copied_45 (by decide) (fun c_45 => absurd c_45 (nI_ge (b := 64) (by omega) (by decide))) (fun c_45 => ?_)
    refine a_aload_n dX9_copied_48 rfl ?_
    refine a_getA (z := 5) kfX9_19 rfl rfl (st_2_1 hs) (by decide) (hlt hN (by decide)) dX9_copied_49 ?_
    refine a_iload dX9_copied_52 rfl ?_
    refine a_callV (mc1 := 0) (ms1 := 0) (As := [_]) kpX4_isInput kmX9_110 (by decide) rfl (Nat.le_of_ble_eq_true rfl) rfl (by decide) rfl (by decide) (hlt hN (by decide)) (Nat.le_of_ble_eq_true rfl) (Nat.le_of_ble_eq_true rfl) (Nat.le_of_ble_eq_true rfl) dX9_copied_54 (w_X4_isInput hN hs ?_)
    refine a_if_ne (tgt := 85) dX9_copied_57 (by decide) (fun c_57 => ?_) (fun c_57 => ?_)
    · refine a_iinc dX9_copied_85 rfl rfl (by decide) ?_
      refine a_goto (tgt := 41) dX9_copied_88 (by decide) ?_
      first
      | (have e1 := pkF_1 hinv (coF_1 (bI_z.mp c_57) (bI_nz.mp c_70)) c_76
         rw [show nI k + Int32.ofInt 1 = nI (k + 1) from nI_1 k, show nI (pkF (coF M a b) c k).1 + Int32.ofInt 1 = nI ((pkF (coF M a b) c k).1 + 1) from nI_1 _, show (pkF (coF M a b) c k).1 + 1 = (pkF (coF M a b) c (k + 1)).1 by rw [e1]]
         refine AW.sub (L' := [(0, .ref 2), (1, .int (nI a)), (2, .int (nI b)), (3, .int c), (4, .ref (9 + 6 * a)), (5, .ref (9 + 6 * b)), (6, .int (nI (pkF (coF M a b) c (k + 1)).1)), (7, .int (nI (k + 1)))]) rfl ?_
         exact ih (k + 1) (by omega) (by rw [e1]))
      | (have e0 := pkF_0 (i := c) hinv (coF_0 (a := a) (b := b) (by first | exact Or.inr (bI_z.mp c_70) | exact Or.inl (bI_nz.mp c_57)))
         rw [show nI k + Int32.ofInt 1 = nI (k + 1) from nI_1 k, show (pkF (coF M a b) c k).1 = (pkF (coF M a b) c (k + 1)).1 by rw [e0]]
         refine AW.sub (L' := [(0, .ref 2), (1, .int (nI a)), (2, .int (nI b)), (3, .int c), (4, .ref (9 + 6 * a)), (5, .ref (9 + 6 * b)), (6, .int (nI (pkF (coF M a b) c (k + 1)).1)), (7, .int (nI (k + 1)))]) rfl ?_
         exact ih (k + 1) (by omega) (by rw [e0]))
    · refine a_aload_n dX9_copied_60 rfl ?_
      refine a_aload dX9_copied_61 rfl ?_
      refine a_aload dX9_copied_63 rfl ?_
      refine a_iload dX9_copied_65 rfl ?_
      refine a_callV (mc1 := 0) (ms1 := 0) (As := [_, _, _]) kpX9_isShared kmX9_183 (by decide) rfl (Nat.le_of_ble_eq_true rfl) rfl (by decide) rfl (by decide) (hlt hN (by decide)) (Nat.le_of_ble_eq_true rfl) (Nat.le_of_ble_eq_true rfl) (Nat.le_of_ble_eq_true rfl) dX9_copied_67 (w_X9_isShared ha hb6 hB hk64 hN hs ?_)
      refine a_if_eq (tgt := 85) dX9_copied_70 (by decide) (fun c_70 => ?_) (fun c_70 => ?_)
      · refine a_iinc dX9_copied_85 rfl rfl (by decide) ?_
        refine a_goto (tgt := 41) dX9_copied_88 (by decide) ?_
        first
        | (have e1 := pkF_1 hinv (coF_1 (bI_z.mp c_57) (bI_nz.mp c_70)) c_76
           rw [show nI k + Int32.ofInt 1 = nI (k + 1) from nI_1 k, show nI (pkF (coF M a b) c k).1 + Int32.ofInt 1 = nI ((pkF (coF M a b) c k).1 + 1) from nI_1 _, show (pkF (coF M a b) c k).1 + 1 = (pkF (coF M a b) c (k + 1)).1 by rw [e1]]
           refine AW.sub (L' := [(0, .ref 2), (1, .int (nI a)), (2, .int (nI b)), (3, .int c), (4, .ref (9 + 6 * a)), (5, .ref (9 + 6 * b)), (6, .int (nI (pkF (coF M a b) c (k + 1)).1)), (7, .int (nI (k + 1)))]) rfl ?_
           exact ih (k + 1) (by omega) (by rw [e1]))
        | (have e0 := pkF_0 (i := c) hinv (coF_0 (a := a) (b := b) (by first | exact Or.inr (bI_z.mp c_70) | exact Or.inl (bI_nz.mp c_57)))
           rw [show nI k + Int32.ofInt 1 = nI (k + 1) from nI_1 k, show (pkF (coF M a b) c k).1 = (pkF (coF M a b) c (k + 1)).1 by rw [e0]]
           refine AW.sub (L' := [(0, .ref 2), (1, .int (nI a)), (2, .int (nI b)), (3, .int c), (4, .ref (9 + 6 * a)), (5, .ref (9 + 6 * b)), (6, .int (nI (pkF (coF M a b) c (k + 1)).1)), (7, .int (nI (k + 1)))]) rfl ?_
           exact ih (k + 1) (by omega) (by rw [e0]))
      · refine a_iload dX9_copied_73 rfl ?_
        refine a_iload_n dX9_copied_75 rfl ?_
        refine a_icmp_ne (tgt := 82) dX9_copied_76 (by decide) (fun c_76 => ?_) (fun c_76 => ?_)
        · refine a_iinc dX9_copied_82 rfl rfl (by decide) ?_
          refine a_iinc dX9_copied_85 rfl rfl (by decide) ?_
          refine a_goto (tgt := 41) dX9_copied_88 (by decide) ?_
          first
          | (have e1 := pkF_1 hinv (coF_1 (bI_z.mp c_57) (bI_nz.mp c_70)) c_76
             rw [show nI k + Int32.ofInt 1 = nI (k + 1) from nI_1 k, show nI (pkF (coF M a b) c k).1 + Int32.ofInt 1 = nI ((pkF (coF M a b) c k).1 + 1) from nI_1 _, show (pkF (coF M a b) c k).1 + 1 = (pkF (coF M a b) c (k + 1)).1 by rw [e1]]
             refine AW.sub (L' := [(0, .ref 2), (1, .int (nI a)), (2, .int (nI b)), (3, .int c), (4, .ref (9 + 6 * a)), (5, .ref (9 + 6 * b)), (6, .int (nI (pkF (coF M a b) c (k + 1)).1)), (7, .int (nI (k + 1)))]) rfl ?_
             exact ih (k + 1) (by omega) (by rw [e1]))
          | (have e0 := pkF_0 (i := c) hinv (coF_0 (a := a) (b := b) (by first | exact Or.inr (bI_z.mp c_70) | exact Or.inl (bI_nz.mp c_57)))
             rw [show nI k + Int32.ofInt 1 = nI (k + 1) from nI_1 k, show (pkF (coF M a b) c k).1 = (pkF (coF M a b) c (k + 1)).1 by rw [e0]]
             refine AW.sub (L' := [(0, .ref 2), (1, .int (nI a)), (2, .int (nI b)), (3, .int c), (4, .ref (9 + 6 * a)), (5, .ref (9 + 6 * b)), (6, .int (nI (pkF (coF M a b) c (k + 1)).1)), (7, .int (nI (k + 1)))]) rfl ?_
             exact ih (k + 1) (by omega) (by rw [e0]))
        · refine a_iload dX9_copied_79 rfl ?_
          refine a_iret dX9_copied_81 rfl (ret_i (pkV_1 hk64 hinv (coF_1 (bI_z.mp c_57) (bI_nz.mp c_70)) c_76) h)
theorem w_X9_copied {M : Mem} {N : Nat} {Q : Option Value → Nat → Mem → Prop} {a b n : Nat} (ha : a < 6) (hb6 : b < 6) (hB : Bas M N n) (a0 : 0 < a) (b0 : 0 < b) (hab : ¬ a = b) {c : Int32} (hw : 0 ≤ c)  (hN : 94 ≤ N) (hs : Str M.2.2.1) (h : Q (some (.int (pkV (coF M a b) c))) N (M)) : AW mX9_copied 3 0 0 N 0 [(0, .ref 2), (1, .int (nI a)), (2, .int (nI b)), (3, .int c)] [] M Q := by
  refine a_aload_n dX9_copied_0 rfl ?_
  refine a_iload_n dX9_copied_1 rfl ?_
  refine a_callV (mc1 := 0) (ms1 := 0) (As := [_]) kpX9_pupilAt kmX9_158 (by decide) rfl (Nat.le_of_ble_eq_true rfl) rfl (by decide) rfl (by decide) (hlt hN (by decide)) (Nat.le_of_ble_eq_true rfl) (Nat.le_of_ble_eq_true rfl) (Nat.le_of_ble_eq_true rfl) dX9_copied_2 (w_X9_pupilAt ha a0 hN hs ?_)
  refine a_astore dX9_copied_5 (by decide) ?_
  refine a_aload_n dX9_copied_7 rfl ?_
  refine a_iload_n dX9_copied_8 rfl ?_
  refine a_callV (mc1 := 0) (ms1 := 0) (As := [_]) kpX9_pupilAt kmX9_158 (by decide) rfl (Nat.le_of_ble_eq_true rfl) rfl (by decide) rfl (by decide) (hlt hN (by decide)) (Nat.le_of_ble_eq_true rfl) (Nat.le_of_ble_eq_true rfl) (Nat.le_of_ble_eq_true rfl) dX9_copied_9 (w_X9_pupilAt hb6 b0 hN hs ?_)
  refine a_astore dX9_copied_12 (by decide) ?_
  refine a_aload dX9_copied_14 rfl ?_
  refine a_ifnull dX9_copied_16 ?_
  refine a_aload dX9_copied_19 rfl ?_
  refine a_ifnull dX9_copied_21 ?_
  refine a_iload_n dX9_copied_24 rfl ?_
  refine a_iload_n dX9_copied_25 rfl ?_
  refine a_icmp_eq (tgt := 33) dX9_copied_26 (by decide) (fun c_26 => absurd c_26 (fun z => hab ((nI_eq (by omega) (by omega)).mp z))) (fun c_26 => ?_)
  refine a_iload_n dX9_copied_29 rfl ?_
  refine a_if_ge (tgt := 35) dX9_copied_30 (by decide) (fun c_30 => ?_) (fun c_30 => absurd hw c_30)
  refine a_iconst (v := 0) dX9_copied_35 (by decide) ?_
  refine a_istore dX9_copied_36 (by decide) ?_
  refine a_iconst (v := 0) dX9_copied_38 (by decide) ?_
  refine a_istore dX9_copied_39 (by decide) ?_
  refine AW.sub (L' := [(0, .ref 2), (1, .int (nI a)), (2, .int (nI b)), (3, .int c), (4, .ref (9 + 6 * a)), (5, .ref (9 + 6 * b)), (6, .int 0), (7, .int (nI 0))]) rfl ?_
  exact l_X9_copied ha hb6 hB hN hs h 64 0 (by omega) rfl

theorem w_X9_copied_o1 {M : Mem} {N : Nat} {Q : Option Value → Nat → Mem → Prop} {s t c : Int32} (hc : ¬ (1 ≤ s.toInt ∧ s.toInt < 6)) (hct : ¬ (1 ≤ t.toInt ∧ t.toInt < 6))  (hN : 94 ≤ N) (hs : Str M.2.2.1) (h : Q (some (.int (-1))) N (M)) : AW mX9_copied 3 0 0 N 0 [(0, .ref 2), (1, .int s), (2, .int t), (3, .int c)] [] M Q := by
  refine a_aload_n dX9_copied_0 rfl ?_
  refine a_iload_n dX9_copied_1 rfl ?_
  refine a_callV (mc1 := 0) (ms1 := 0) (As := [_]) kpX9_pupilAt kmX9_158 (by decide) rfl (Nat.le_of_ble_eq_true rfl) rfl (by decide) rfl (by decide) (hlt hN (by decide)) (Nat.le_of_ble_eq_true rfl) (Nat.le_of_ble_eq_true rfl) (Nat.le_of_ble_eq_true rfl) dX9_copied_2 (w_X9_pupilAt_out hc hN hs ?_)
  refine a_astoreN dX9_copied_5 (by decide) ?_
  refine a_aload_n dX9_copied_7 rfl ?_
  refine a_iload_n dX9_copied_8 rfl ?_
  refine a_callV (mc1 := 0) (ms1 := 0) (As := [_]) kpX9_pupilAt kmX9_158 (by decide) rfl (Nat.le_of_ble_eq_true rfl) rfl (by decide) rfl (by decide) (hlt hN (by decide)) (Nat.le_of_ble_eq_true rfl) (Nat.le_of_ble_eq_true rfl) (Nat.le_of_ble_eq_true rfl) dX9_copied_9 (w_X9_pupilAt_out hct hN hs ?_)
  refine a_astoreN dX9_copied_12 (by decide) ?_
  refine a_aloadN dX9_copied_14 rfl ?_
  refine a_ifnullN (tgt := 33) dX9_copied_16 (by decide) ?_
  refine a_iconst (v := (-1)) dX9_copied_33 (by decide) ?_
  refine a_iret dX9_copied_34 rfl h

theorem w_X9_copied_o2 {M : Mem} {N : Nat} {Q : Option Value → Nat → Mem → Prop} {b : Nat} {s c : Int32} (hc : ¬ (1 ≤ s.toInt ∧ s.toInt < 6)) (hb6 : b < 6) (b0 : 0 < b)  (hN : 94 ≤ N) (hs : Str M.2.2.1) (h : Q (some (.int (-1))) N (M)) : AW mX9_copied 3 0 0 N 0 [(0, .ref 2), (1, .int s), (2, .int (nI b)), (3, .int c)] [] M Q := by
  refine a_aload_n dX9_copied_0 rfl ?_
  refine a_iload_n dX9_copied_1 rfl ?_
  refine a_callV (mc1 := 0) (ms1 := 0) (As := [_]) kpX9_pupilAt kmX9_158 (by decide) rfl (Nat.le_of_ble_eq_true rfl) rfl (by decide) rfl (by decide) (hlt hN (by decide)) (Nat.le_of_ble_eq_true rfl) (Nat.le_of_ble_eq_true rfl) (Nat.le_of_ble_eq_true rfl) dX9_copied_2 (w_X9_pupilAt_out hc hN hs ?_)
  refine a_astoreN dX9_copied_5 (by decide) ?_
  refine a_aload_n dX9_copied_7 rfl ?_
  refine a_iload_n dX9_copied_8 rfl ?_
  refine a_callV (mc1 := 0) (ms1 := 0) (As := [_]) kpX9_pupilAt kmX9_158 (by decide) rfl (Nat.le_of_ble_eq_true rfl) rfl (by decide) rfl (by decide) (hlt hN (by decide)) (Nat.le_of_ble_eq_true rfl) (Nat.le_of_ble_eq_true rfl) (Nat.le_of_ble_eq_true rfl) dX9_copied_9 (w_X9_pupilAt hb6 b0 hN hs ?_)
  refine a_astore dX9_copied_12 (by decide) ?_
  refine a_aloadN dX9_copied_14 rfl ?_
  refine a_ifnullN (tgt := 33) dX9_copied_16 (by decide) ?_
  refine a_iconst (v := (-1)) dX9_copied_33 (by decide) ?_
  refine a_iret dX9_copied_34 rfl h

theorem w_X9_copied_o3 {M : Mem} {N : Nat} {Q : Option Value → Nat → Mem → Prop} {a : Nat} {t c : Int32} (hct : ¬ (1 ≤ t.toInt ∧ t.toInt < 6)) (ha : a < 6) (a0 : 0 < a)  (hN : 94 ≤ N) (hs : Str M.2.2.1) (h : Q (some (.int (-1))) N (M)) : AW mX9_copied 3 0 0 N 0 [(0, .ref 2), (1, .int (nI a)), (2, .int t), (3, .int c)] [] M Q := by
  refine a_aload_n dX9_copied_0 rfl ?_
  refine a_iload_n dX9_copied_1 rfl ?_
  refine a_callV (mc1 := 0) (ms1 := 0) (As := [_]) kpX9_pupilAt kmX9_158 (by decide) rfl (Nat.le_of_ble_eq_true rfl) rfl (by decide) rfl (by decide) (hlt hN (by decide)) (Nat.le_of_ble_eq_true rfl) (Nat.le_of_ble_eq_true rfl) (Nat.le_of_ble_eq_true rfl) dX9_copied_2 (w_X9_pupilAt ha a0 hN hs ?_)
  refine a_astore dX9_copied_5 (by decide) ?_
  refine a_aload_n dX9_copied_7 rfl ?_
  refine a_iload_n dX9_copied_8 rfl ?_
  refine a_callV (mc1 := 0) (ms1 := 0) (As := [_]) kpX9_pupilAt kmX9_158 (by decide) rfl (Nat.le_of_ble_eq_true rfl) rfl (by decide) rfl (by decide) (hlt hN (by decide)) (Nat.le_of_ble_eq_true rfl) (Nat.le_of_ble_eq_true rfl) (Nat.le_of_ble_eq_true rfl) dX9_copied_9 (w_X9_pupilAt_out hct hN hs ?_)
  refine a_astoreN dX9_copied_12 (by decide) ?_
  refine a_aload dX9_copied_14 rfl ?_
  refine a_ifnull dX9_copied_16 ?_
  refine a_aloadN dX9_copied_19 rfl ?_
  refine a_ifnullN (tgt := 33) dX9_copied_21 (by decide) ?_
  refine a_iconst (v := (-1)) dX9_copied_33 (by decide) ?_
  refine a_iret dX9_copied_34 rfl h

theorem w_X9_copied_o4 {M : Mem} {N : Nat} {Q : Option Value → Nat → Mem → Prop} {a b : Nat} {c : Int32} (ha : a < 6) (a0 : 0 < a) (hb6 : b < 6) (b0 : 0 < b) (hw : ¬ (¬ a = b ∧ 0 ≤ c))  (hN : 94 ≤ N) (hs : Str M.2.2.1) (h : Q (some (.int (-1))) N (M)) : AW mX9_copied 3 0 0 N 0 [(0, .ref 2), (1, .int (nI a)), (2, .int (nI b)), (3, .int c)] [] M Q := by
  refine a_aload_n dX9_copied_0 rfl ?_
  refine a_iload_n dX9_copied_1 rfl ?_
  refine a_callV (mc1 := 0) (ms1 := 0) (As := [_]) kpX9_pupilAt kmX9_158 (by decide) rfl (Nat.le_of_ble_eq_true rfl) rfl (by decide) rfl (by decide) (hlt hN (by decide)) (Nat.le_of_ble_eq_true rfl) (Nat.le_of_ble_eq_true rfl) (Nat.le_of_ble_eq_true rfl) dX9_copied_2 (w_X9_pupilAt ha a0 hN hs ?_)
  refine a_astore dX9_copied_5 (by decide) ?_
  refine a_aload_n dX9_copied_7 rfl ?_
  refine a_iload_n dX9_copied_8 rfl ?_
  refine a_callV (mc1 := 0) (ms1 := 0) (As := [_]) kpX9_pupilAt kmX9_158 (by decide) rfl (Nat.le_of_ble_eq_true rfl) rfl (by decide) rfl (by decide) (hlt hN (by decide)) (Nat.le_of_ble_eq_true rfl) (Nat.le_of_ble_eq_true rfl) (Nat.le_of_ble_eq_true rfl) dX9_copied_9 (w_X9_pupilAt hb6 b0 hN hs ?_)
  refine a_astore dX9_copied_12 (by decide) ?_
  refine a_aload dX9_copied_14 rfl ?_
  refine a_ifnull dX9_copied_16 ?_
  refine a_aload dX9_copied_19 rfl ?_
  refine a_ifnull dX9_copied_21 ?_
  refine a_iload_n dX9_copied_24 rfl ?_
  refine a_iload_n dX9_copied_25 rfl ?_
  refine a_icmp_eq (tgt := 33) dX9_copied_26 (by decide) (fun c_26 => ?_) (fun c_26 => ?_)
  · refine a_iconst (v := (-1)) dX9_copied_33 (by decide) ?_
    refine a_iret dX9_copied_34 rfl h
  · refine a_iload_n dX9_copied_29 rfl ?_
    refine a_if_ge (tgt := 35) dX9_copied_30 (by decide) (fun c_30 => absurd c_30 (fun z => hw ⟨fun e => c_26 (by rw [e]), z⟩)) (fun c_30 => ?_)
    refine a_iconst (v := (-1)) dX9_copied_33 (by decide) ?_
    refine a_iret dX9_copied_34 rfl h

/-- cells that come to the goal, one walk; all rounds -/
def cmA (M : Mem) (q : Nat) (goal : Int32) (c : Nat) (x : Int64) : Int64 := if hb (rJ M 5 2) (nI c) = true then x else if rJ M (q + 5) c &&& (x ||| bitL goal) = 0 then x else x ||| bitL (nI c)
def cmW (M : Mem) (q : Nat) (goal : Int32) : Nat → Int64 → Int64
  | 0, x => x
  | c + 1, x => cmA M q goal c (cmW M q goal c x)
def cmR (M : Mem) (q : Nat) (goal : Int32) : Nat → Int64 → Int64
  | 0, x => x
  | r + 1, x => if cmW M q goal 64 x = x then cmW M q goal 64 x else cmR M q goal r (cmW M q goal 64 x)
theorem l_X9_comingW {M : Mem} {N : Nat} {Q : Option Value → Nat → Mem → Prop} {i : Nat} (hi : i < 6) {g rd : Int32} {x y : Int64} (hN : 94 ≤ N) (hs : Str M.2.2.1) (h : AW mX9_countComing 2 0 0 N 69 [(0, .ref 2), (1, .ref (9 + 6 * i)), (2, .int g), (3, .long (cmW M (9 + 6 * i) g 64 x)), (5, .int rd), (6, .long y)] [] M Q) : ∀ (r k : Nat), k + r = 64 → AW mX9_countComing 2 0 0 N 18 [(0, .ref 2), (1, .ref (9 + 6 * i)), (2, .int g), (3, .long (cmW M (9 + 6 * i) g k x)), (5, .int rd), (6, .long y), (8, .int (nI k))] [] M Q := by
  intro r
  induction r with
  | zero =>
    intro k hk
    obtain rfl : k = 64 := by omega
    refine a_iload dX9_countComing_18 rfl ?_
    refine a_bipush (v := 64) dX9_countComing_20 (by decide) ?_
    refine a_icmp_ge (tgt := 69) dX9_countComing_22 (by decide) (fun c_22 => ?_) (fun c_22 => absurd (nI_le (a := 64) (b := 64) (by omega) (by decide)) c_22)
    refine AW.sub (L' := [(0, .ref 2), (1, .ref (9 + 6 * i)), (2, .int g), (3, .long (cmW M (9 + 6 * i) g 64 x)), (5, .int rd), (6, .long y)]) rfl ?_
    exact h
  | succ r ih =>
    intro k hk
    refine a_iload dX9_countComing_18 rfl ?_
    refine a_bipush (v := 64) dX9_countComing_20 (by decide) ?_
    refine a_icmp_ge (tgt := 69) dX9_countComing_22 (by decide) (fun c_22 => absurd c_22 (nI_ge (b := 64) (by omega) (by decide))) (fun c_22 => ?_)
    refine a_aload_n dX9_countComing_25 rfl ?_
    refine a_getA (z := 5) kfX9_19 rfl rfl (st_2_1 hs) (by decide) (hlt hN (by decide)) dX9_countComing_26 ?_
    refine a_iload dX9_countComing_29 rfl ?_
    refine a_callV (mc1 := 0) (ms1 := 0) (As := [_]) kpX4_isInput kmX9_110 (by decide) rfl (Nat.le_of_ble_eq_true rfl) rfl (by decide) rfl (by decide) (hlt hN (by decide)) (Nat.le_of_ble_eq_true rfl) (Nat.le_of_ble_eq_true rfl) (Nat.le_of_ble_eq_true rfl) dX9_countComing_31 (w_X4_isInput hN hs ?_)
    refine a_if_ne (tgt := 63) dX9_countComing_34 (by decide) (fun c_34 => ?_) (fun c_34 => ?_)
    · refine a_iinc dX9_countComing_63 rfl rfl (by decide) ?_
      refine a_goto (tgt := 18) dX9_countComing_66 (by decide) ?_
      rw [show nI k + Int32.ofInt 1 = nI (k + 1) from nI_1 k]
      first
      | (have e : cmW M (9 + 6 * i) g (k + 1) x = cmW M (9 + 6 * i) g k x ||| bitL (nI k) := (if_neg (bI_z.mp c_34)).trans (if_neg (fun z => c_52 ((lg_cmp_eq _ _).mpr z)))
         rw [← e]
         refine AW.sub (L' := [(0, .ref 2), (1, .ref (9 + 6 * i)), (2, .int g), (3, .long (cmW M (9 + 6 * i) g (k + 1) x)), (5, .int rd), (6, .long y), (8, .int (nI (k + 1)))]) rfl ?_
         exact ih (k + 1) (by omega))
      | (have e : cmW M (9 + 6 * i) g (k + 1) x = cmW M (9 + 6 * i) g k x := by first | exact if_pos (bI_nz.mp c_34) | exact (if_neg (bI_z.mp c_34)).trans (if_pos ((lg_cmp_eq _ _).mp c_52))
         rw [← e]
         refine AW.sub (L' := [(0, .ref 2), (1, .ref (9 + 6 * i)), (2, .int g), (3, .long (cmW M (9 + 6 * i) g (k + 1) x)), (5, .int rd), (6, .long y), (8, .int (nI (k + 1)))]) rfl ?_
         exact ih (k + 1) (by omega))
    · refine a_aload_n dX9_countComing_37 rfl ?_
      refine a_iload dX9_countComing_38 rfl ?_
      refine a_callV (mc1 := 0) (ms1 := 0) (As := [_]) kpX7_needsAt kmX9_216 (by decide) rfl (Nat.le_of_ble_eq_true rfl) (sh_k (sheetR hi)) (by decide) rfl (sh_two (sheetR hi)) (sh_lt (sheetR hi) hN) (Nat.le_of_ble_eq_true rfl) (Nat.le_of_ble_eq_true rfl) (Nat.le_of_ble_eq_true rfl) dX9_countComing_40 (w_X7_needsAt (sheetR hi) (show k < 64 by omega) hN hs ?_)
      refine a_lload_n dX9_countComing_43 rfl ?_
      refine a_iload_n dX9_countComing_44 rfl ?_
      refine a_callS (mc1 := 0) (ms1 := 0) (As := [_]) kpX9_bit kmX9_220 (by decide) rfl (Nat.le_of_ble_eq_true rfl) (Nat.le_of_ble_eq_true rfl) (Nat.le_of_ble_eq_true rfl) (Nat.le_of_ble_eq_true rfl) dX9_countComing_45 (w_X9_bit ?_)
      refine a_lor dX9_countComing_48 ?_
      refine a_land dX9_countComing_49 ?_
      refine a_lconst (v := 0) dX9_countComing_50 (by decide) ?_
      refine a_lcmp dX9_countComing_51 ?_
      refine a_if_eq (tgt := 63) dX9_countComing_52 (by decide) (fun c_52 => ?_) (fun c_52 => ?_)
      · refine a_iinc dX9_countComing_63 rfl rfl (by decide) ?_
        refine a_goto (tgt := 18) dX9_countComing_66 (by decide) ?_
        rw [show nI k + Int32.ofInt 1 = nI (k + 1) from nI_1 k]
        first
        | (have e : cmW M (9 + 6 * i) g (k + 1) x = cmW M (9 + 6 * i) g k x ||| bitL (nI k) := (if_neg (bI_z.mp c_34)).trans (if_neg (fun z => c_52 ((lg_cmp_eq _ _).mpr z)))
           rw [← e]
           refine AW.sub (L' := [(0, .ref 2), (1, .ref (9 + 6 * i)), (2, .int g), (3, .long (cmW M (9 + 6 * i) g (k + 1) x)), (5, .int rd), (6, .long y), (8, .int (nI (k + 1)))]) rfl ?_
           exact ih (k + 1) (by omega))
        | (have e : cmW M (9 + 6 * i) g (k + 1) x = cmW M (9 + 6 * i) g k x := by first | exact if_pos (bI_nz.mp c_34) | exact (if_neg (bI_z.mp c_34)).trans (if_pos ((lg_cmp_eq _ _).mp c_52))
           rw [← e]
           refine AW.sub (L' := [(0, .ref 2), (1, .ref (9 + 6 * i)), (2, .int g), (3, .long (cmW M (9 + 6 * i) g (k + 1) x)), (5, .int rd), (6, .long y), (8, .int (nI (k + 1)))]) rfl ?_
           exact ih (k + 1) (by omega))
      · refine a_lload_n dX9_countComing_55 rfl ?_
        refine a_iload dX9_countComing_56 rfl ?_
        refine a_callS (mc1 := 0) (ms1 := 0) (As := [_]) kpX9_bit kmX9_220 (by decide) rfl (Nat.le_of_ble_eq_true rfl) (Nat.le_of_ble_eq_true rfl) (Nat.le_of_ble_eq_true rfl) (Nat.le_of_ble_eq_true rfl) dX9_countComing_58 (w_X9_bit ?_)
        refine a_lor dX9_countComing_61 ?_
        refine a_lstore_n dX9_countComing_62 (by decide) ?_
        refine a_iinc dX9_countComing_63 rfl rfl (by decide) ?_
        refine a_goto (tgt := 18) dX9_countComing_66 (by decide) ?_
        rw [show nI k + Int32.ofInt 1 = nI (k + 1) from nI_1 k]
        first
        | (have e : cmW M (9 + 6 * i) g (k + 1) x = cmW M (9 + 6 * i) g k x ||| bitL (nI k) := (if_neg (bI_z.mp c_34)).trans (if_neg (fun z => c_52 ((lg_cmp_eq _ _).mpr z)))
           rw [← e]
           refine AW.sub (L' := [(0, .ref 2), (1, .ref (9 + 6 * i)), (2, .int g), (3, .long (cmW M (9 + 6 * i) g (k + 1) x)), (5, .int rd), (6, .long y), (8, .int (nI (k + 1)))]) rfl ?_
           exact ih (k + 1) (by omega))
        | (have e : cmW M (9 + 6 * i) g (k + 1) x = cmW M (9 + 6 * i) g k x := by first | exact if_pos (bI_nz.mp c_34) | exact (if_neg (bI_z.mp c_34)).trans (if_pos ((lg_cmp_eq _ _).mp c_52))
           rw [← e]
           refine AW.sub (L' := [(0, .ref 2), (1, .ref (9 + 6 * i)), (2, .int g), (3, .long (cmW M (9 + 6 * i) g (k + 1) x)), (5, .int rd), (6, .long y), (8, .int (nI (k + 1)))]) rfl ?_
           exact ih (k + 1) (by omega))
theorem l_X9_comingR {M : Mem} {N : Nat} {Q : Option Value → Nat → Mem → Prop} {i : Nat} (hi : i < 6) {g : Int32} (hN : 94 ≤ N) (hs : Str M.2.2.1) : ∀ (r k : Nat) (x : Int64), k + r = 64 → Q (some (.int (bcn (cmR M (9 + 6 * i) g r x)))) N M → AW mX9_countComing 2 0 0 N 5 [(0, .ref 2), (1, .ref (9 + 6 * i)), (2, .int g), (3, .long x), (5, .int (nI k))] [] M Q := by
  intro r
  induction r with
  | zero =>
    intro k x hk h
    obtain rfl : k = 64 := by omega
    refine a_iload dX9_countComing_5 rfl ?_
    refine a_bipush (v := 64) dX9_countComing_7 (by decide) ?_
    refine a_icmp_ge (tgt := 85) dX9_countComing_9 (by decide) (fun c_9 => ?_) (fun c_9 => absurd (nI_le (a := 64) (b := 64) (by omega) (by decide)) c_9)
    refine a_lload_n dX9_countComing_85 rfl ?_
    refine a_callS (mc1 := 0) (ms1 := 0) (As := [_]) kpJ13_bitCount_95d88 kmX9_223 (by decide) rfl (Nat.le_of_ble_eq_true rfl) (Nat.le_of_ble_eq_true rfl) (Nat.le_of_ble_eq_true rfl) (Nat.le_of_ble_eq_true rfl) dX9_countComing_86 (w_J13_bitCount_95d88 ?_)
    refine a_iret dX9_countComing_89 rfl h
  | succ r ih =>
    intro k x hk h
    refine a_iload dX9_countComing_5 rfl ?_
    refine a_bipush (v := 64) dX9_countComing_7 (by decide) ?_
    refine a_icmp_ge (tgt := 85) dX9_countComing_9 (by decide) (fun c_9 => absurd c_9 (nI_ge (b := 64) (by omega) (by decide))) (fun c_9 => ?_)
    refine a_lload_n dX9_countComing_12 rfl ?_
    refine a_lstore dX9_countComing_13 (by decide) ?_
    refine a_iconst (v := 0) dX9_countComing_15 (by decide) ?_
    refine a_istore dX9_countComing_16 (by decide) ?_
    refine AW.sub (L' := [(0, .ref 2), (1, .ref (9 + 6 * i)), (2, .int g), (3, .long x), (5, .int (nI k)), (6, .long x), (8, .int (nI 0))]) rfl ?_
    refine l_X9_comingW hi hN hs ?_ 64 0 (by omega)
    refine a_lload_n dX9_countComing_69 rfl ?_
    refine a_lload dX9_countComing_70 rfl ?_
    refine a_lcmp dX9_countComing_72 ?_
    refine a_if_ne (tgt := 79) dX9_countComing_73 (by decide) (fun c_73 => ?_) (fun c_73 => ?_)
    · refine a_iinc dX9_countComing_79 rfl rfl (by decide) ?_
      refine a_goto (tgt := 5) dX9_countComing_82 (by decide) ?_
      rw [show nI k + Int32.ofInt 1 = nI (k + 1) from nI_1 k]
      refine AW.sub (L' := [(0, .ref 2), (1, .ref (9 + 6 * i)), (2, .int g), (3, .long (cmW M (9 + 6 * i) g 64 x)), (5, .int (nI (k + 1)))]) rfl ?_
      exact ih (k + 1) _ (by omega) (by rw [show cmR M (9 + 6 * i) g (r + 1) x = cmR M (9 + 6 * i) g r (cmW M (9 + 6 * i) g 64 x) from if_neg (fun z => c_73 ((lg_cmp_eq _ _).mpr z))] at h; exact h)
    · refine a_goto (tgt := 85) dX9_countComing_76 (by decide) ?_
      refine a_lload_n dX9_countComing_85 rfl ?_
      refine a_callS (mc1 := 0) (ms1 := 0) (As := [_]) kpJ13_bitCount_95d88 kmX9_223 (by decide) rfl (Nat.le_of_ble_eq_true rfl) (Nat.le_of_ble_eq_true rfl) (Nat.le_of_ble_eq_true rfl) (Nat.le_of_ble_eq_true rfl) dX9_countComing_86 (w_J13_bitCount_95d88 ?_)
      refine a_iret dX9_countComing_89 rfl (by rw [show cmR M (9 + 6 * i) g (r + 1) x = cmW M (9 + 6 * i) g 64 x from if_pos ((lg_cmp_eq _ _).mp c_73)] at h; exact h)
theorem w_X9_countComing {M : Mem} {N : Nat} {Q : Option Value → Nat → Mem → Prop} {i : Nat} (hi : i < 6) {g : Int32}  (hN : 94 ≤ N) (hs : Str M.2.2.1) (h : Q (some (.int (bcn (cmR M (9 + 6 * i) g 64 0)))) N (M)) : AW mX9_countComing 2 0 0 N 0 [(0, .ref 2), (1, .ref (9 + 6 * i)), (2, .int g)] [] M Q := by
  refine a_lconst (v := 0) dX9_countComing_0 (by decide) ?_
  refine a_lstore_n dX9_countComing_1 (by decide) ?_
  refine a_iconst (v := 0) dX9_countComing_2 (by decide) ?_
  refine a_istore dX9_countComing_3 (by decide) ?_
  refine AW.sub (L' := [(0, .ref 2), (1, .ref (9 + 6 * i)), (2, .int g), (3, .long 0), (5, .int (nI 0))]) rfl ?_
  exact l_X9_comingR hi hN hs 64 0 0 (by omega) h

