theorem tI_m9999 : (-9999 : Int32).toInt = -9999 := by decide +kernel
theorem tI_m2 : (-2 : Int32).toInt = -2 := by decide +kernel
theorem tI_m1 : (-1 : Int32).toInt = -1 := by decide +kernel
theorem tI_0 : (0 : Int32).toInt = 0 := by decide +kernel
theorem tI_1 : (1 : Int32).toInt = 1 := by decide +kernel
theorem tI_2 : (2 : Int32).toInt = 2 := by decide +kernel
theorem tI_3 : (3 : Int32).toInt = 3 := by decide +kernel
theorem tI_4 : (4 : Int32).toInt = 4 := by decide +kernel
theorem tI_5 : (5 : Int32).toInt = 5 := by decide +kernel
theorem tI_6 : (6 : Int32).toInt = 6 := by decide +kernel
theorem tI_7 : (7 : Int32).toInt = 7 := by decide +kernel
theorem tI_8 : (8 : Int32).toInt = 8 := by decide +kernel
theorem tI_9 : (9 : Int32).toInt = 9 := by decide +kernel
theorem tI_10 : (10 : Int32).toInt = 10 := by decide +kernel
theorem tI_11 : (11 : Int32).toInt = 11 := by decide +kernel
theorem tI_16 : (16 : Int32).toInt = 16 := by decide +kernel
theorem tI_20 : (20 : Int32).toInt = 20 := by decide +kernel
theorem tI_24 : (24 : Int32).toInt = 24 := by decide +kernel
theorem tI_31 : (31 : Int32).toInt = 31 := by decide +kernel
theorem tI_32 : (32 : Int32).toInt = 32 := by decide +kernel
theorem tI_40 : (40 : Int32).toInt = 40 := by decide +kernel
theorem tI_41 : (41 : Int32).toInt = 41 := by decide +kernel
theorem tI_42 : (42 : Int32).toInt = 42 := by decide +kernel
theorem tI_43 : (43 : Int32).toInt = 43 := by decide +kernel
theorem tI_44 : (44 : Int32).toInt = 44 := by decide +kernel
theorem tI_45 : (45 : Int32).toInt = 45 := by decide +kernel
theorem tI_47 : (47 : Int32).toInt = 47 := by decide +kernel
theorem tI_48 : (48 : Int32).toInt = 48 := by decide +kernel
theorem tI_49 : (49 : Int32).toInt = 49 := by decide +kernel
theorem tI_56 : (56 : Int32).toInt = 56 := by decide +kernel
theorem tI_57 : (57 : Int32).toInt = 57 := by decide +kernel
theorem tI_58 : (58 : Int32).toInt = 58 := by decide +kernel
theorem tI_60 : (60 : Int32).toInt = 60 := by decide +kernel
theorem tI_61 : (61 : Int32).toInt = 61 := by decide +kernel
theorem tI_63 : (63 : Int32).toInt = 63 := by decide +kernel
theorem tI_64 : (64 : Int32).toInt = 64 := by decide +kernel
theorem tI_65 : (65 : Int32).toInt = 65 := by decide +kernel
theorem tI_72 : (72 : Int32).toInt = 72 := by decide +kernel
theorem tI_77 : (77 : Int32).toInt = 77 := by decide +kernel
theorem tI_83 : (83 : Int32).toInt = 83 := by decide +kernel
theorem tI_100 : (100 : Int32).toInt = 100 := by decide +kernel
theorem tI_127 : (127 : Int32).toInt = 127 := by decide +kernel
theorem tI_164 : (164 : Int32).toInt = 164 := by decide +kernel
theorem tI_255 : (255 : Int32).toInt = 255 := by decide +kernel
theorem tI_384 : (384 : Int32).toInt = 384 := by decide +kernel
theorem tI_9999 : (9999 : Int32).toInt = 9999 := by decide +kernel
theorem tI_15360 : (15360 : Int32).toInt = 15360 := by decide +kernel
theorem w_X9_isCell {M : Mem} {N : Nat} {Q : Option Value → Nat → Mem → Prop} {c : Int32} (h : Q (some (.int (bI (0 ≤ c.toInt ∧ c.toInt < 64)))) N (M)) : AW mX9_isCell 0 0 0 N 0 [(0, .int c)] [] M Q := by
  refine a_iload_n dX9_isCell_0 rfl ?_
  refine a_if_lt (tgt := 14) dX9_isCell_1 (by decide) (fun c_1 => ?_) (fun c_1 => ?_)
  · refine a_iconst (v := 0) dX9_isCell_14 (by decide) ?_
    refine a_zret dX9_isCell_15 rfl (by decide) (ret_f (by simp only [Int32.lt_iff_toInt_lt, Int32.le_iff_toInt_le, ← Int32.toInt_inj, bI_z, bI_nz, tI_m9999, tI_m2, tI_m1, tI_0, tI_1, tI_2, tI_3, tI_4, tI_5, tI_6, tI_7, tI_8, tI_9, tI_10, tI_11, tI_16, tI_20, tI_24, tI_31, tI_32, tI_40, tI_41, tI_42, tI_43, tI_44, tI_45, tI_47, tI_48, tI_49, tI_56, tI_57, tI_58, tI_60, tI_61, tI_63, tI_64, tI_65, tI_72, tI_77, tI_83, tI_100, tI_127, tI_164, tI_255, tI_384, tI_9999, tI_15360] at c_1 ⊢; omega) h)
  · refine a_iload_n dX9_isCell_4 rfl ?_
    refine a_bipush (v := 64) dX9_isCell_5 (by decide) ?_
    refine a_icmp_ge (tgt := 14) dX9_isCell_7 (by decide) (fun c_7 => ?_) (fun c_7 => ?_)
    · refine a_iconst (v := 0) dX9_isCell_14 (by decide) ?_
      refine a_zret dX9_isCell_15 rfl (by decide) (ret_f (by simp only [Int32.lt_iff_toInt_lt, Int32.le_iff_toInt_le, ← Int32.toInt_inj, bI_z, bI_nz, tI_m9999, tI_m2, tI_m1, tI_0, tI_1, tI_2, tI_3, tI_4, tI_5, tI_6, tI_7, tI_8, tI_9, tI_10, tI_11, tI_16, tI_20, tI_24, tI_31, tI_32, tI_40, tI_41, tI_42, tI_43, tI_44, tI_45, tI_47, tI_48, tI_49, tI_56, tI_57, tI_58, tI_60, tI_61, tI_63, tI_64, tI_65, tI_72, tI_77, tI_83, tI_100, tI_127, tI_164, tI_255, tI_384, tI_9999, tI_15360] at c_1 c_7 ⊢; omega) h)
    · refine a_iconst (v := 1) dX9_isCell_10 (by decide) ?_
      refine a_goto (tgt := 15) dX9_isCell_11 (by decide) ?_
      refine a_zret dX9_isCell_15 rfl (by decide) (ret_t (by simp only [Int32.lt_iff_toInt_lt, Int32.le_iff_toInt_le, ← Int32.toInt_inj, bI_z, bI_nz, tI_m9999, tI_m2, tI_m1, tI_0, tI_1, tI_2, tI_3, tI_4, tI_5, tI_6, tI_7, tI_8, tI_9, tI_10, tI_11, tI_16, tI_20, tI_24, tI_31, tI_32, tI_40, tI_41, tI_42, tI_43, tI_44, tI_45, tI_47, tI_48, tI_49, tI_56, tI_57, tI_58, tI_60, tI_61, tI_63, tI_64, tI_65, tI_72, tI_77, tI_83, tI_100, tI_127, tI_164, tI_255, tI_384, tI_9999, tI_15360] at c_1 c_7 ⊢; omega) h)

theorem w_X9_isNumber {M : Mem} {N : Nat} {Q : Option Value → Nat → Mem → Prop} {c : Int32} (h : Q (some (.int (bI (-9999 ≤ c.toInt ∧ c.toInt ≤ 9999)))) N (M)) : AW mX9_isNumber 0 0 0 N 0 [(0, .int c)] [] M Q := by
  refine a_iload_n dX9_isNumber_0 rfl ?_
  refine a_sipush (v := (-9999)) dX9_isNumber_1 (by decide) ?_
  refine a_icmp_lt (tgt := 18) dX9_isNumber_4 (by decide) (fun c_4 => ?_) (fun c_4 => ?_)
  · refine a_iconst (v := 0) dX9_isNumber_18 (by decide) ?_
    refine a_zret dX9_isNumber_19 rfl (by decide) (ret_f (by simp only [Int32.lt_iff_toInt_lt, Int32.le_iff_toInt_le, ← Int32.toInt_inj, bI_z, bI_nz, tI_m9999, tI_m2, tI_m1, tI_0, tI_1, tI_2, tI_3, tI_4, tI_5, tI_6, tI_7, tI_8, tI_9, tI_10, tI_11, tI_16, tI_20, tI_24, tI_31, tI_32, tI_40, tI_41, tI_42, tI_43, tI_44, tI_45, tI_47, tI_48, tI_49, tI_56, tI_57, tI_58, tI_60, tI_61, tI_63, tI_64, tI_65, tI_72, tI_77, tI_83, tI_100, tI_127, tI_164, tI_255, tI_384, tI_9999, tI_15360] at c_4 ⊢; omega) h)
  · refine a_iload_n dX9_isNumber_7 rfl ?_
    refine a_sipush (v := 9999) dX9_isNumber_8 (by decide) ?_
    refine a_icmp_gt (tgt := 18) dX9_isNumber_11 (by decide) (fun c_11 => ?_) (fun c_11 => ?_)
    · refine a_iconst (v := 0) dX9_isNumber_18 (by decide) ?_
      refine a_zret dX9_isNumber_19 rfl (by decide) (ret_f (by simp only [Int32.lt_iff_toInt_lt, Int32.le_iff_toInt_le, ← Int32.toInt_inj, bI_z, bI_nz, tI_m9999, tI_m2, tI_m1, tI_0, tI_1, tI_2, tI_3, tI_4, tI_5, tI_6, tI_7, tI_8, tI_9, tI_10, tI_11, tI_16, tI_20, tI_24, tI_31, tI_32, tI_40, tI_41, tI_42, tI_43, tI_44, tI_45, tI_47, tI_48, tI_49, tI_56, tI_57, tI_58, tI_60, tI_61, tI_63, tI_64, tI_65, tI_72, tI_77, tI_83, tI_100, tI_127, tI_164, tI_255, tI_384, tI_9999, tI_15360] at c_4 c_11 ⊢; omega) h)
    · refine a_iconst (v := 1) dX9_isNumber_14 (by decide) ?_
      refine a_goto (tgt := 19) dX9_isNumber_15 (by decide) ?_
      refine a_zret dX9_isNumber_19 rfl (by decide) (ret_t (by simp only [Int32.lt_iff_toInt_lt, Int32.le_iff_toInt_le, ← Int32.toInt_inj, bI_z, bI_nz, tI_m9999, tI_m2, tI_m1, tI_0, tI_1, tI_2, tI_3, tI_4, tI_5, tI_6, tI_7, tI_8, tI_9, tI_10, tI_11, tI_16, tI_20, tI_24, tI_31, tI_32, tI_40, tI_41, tI_42, tI_43, tI_44, tI_45, tI_47, tI_48, tI_49, tI_56, tI_57, tI_58, tI_60, tI_61, tI_63, tI_64, tI_65, tI_72, tI_77, tI_83, tI_100, tI_127, tI_164, tI_255, tI_384, tI_9999, tI_15360] at c_4 c_11 ⊢; omega) h)

theorem w_X9_isSign {M : Mem} {N : Nat} {Q : Option Value → Nat → Mem → Prop} {c : Int32} (h : Q (some (.int (bI (c.toInt = 43 ∨ c.toInt = 45 ∨ c.toInt = 42 ∨ c.toInt = 47)))) N (M)) : AW mX9_isSign 0 0 0 N 0 [(0, .int c)] [] M Q := by
  refine a_iload_n dX9_isSign_0 rfl ?_
  refine a_bipush (v := 43) dX9_isSign_1 (by decide) ?_
  refine a_icmp_eq (tgt := 24) dX9_isSign_3 (by decide) (fun c_3 => ?_) (fun c_3 => ?_)
  · refine a_iconst (v := 1) dX9_isSign_24 (by decide) ?_
    refine a_goto (tgt := 29) dX9_isSign_25 (by decide) ?_
    refine a_zret dX9_isSign_29 rfl (by decide) (ret_t (by simp only [Int32.lt_iff_toInt_lt, Int32.le_iff_toInt_le, ← Int32.toInt_inj, bI_z, bI_nz, tI_m9999, tI_m2, tI_m1, tI_0, tI_1, tI_2, tI_3, tI_4, tI_5, tI_6, tI_7, tI_8, tI_9, tI_10, tI_11, tI_16, tI_20, tI_24, tI_31, tI_32, tI_40, tI_41, tI_42, tI_43, tI_44, tI_45, tI_47, tI_48, tI_49, tI_56, tI_57, tI_58, tI_60, tI_61, tI_63, tI_64, tI_65, tI_72, tI_77, tI_83, tI_100, tI_127, tI_164, tI_255, tI_384, tI_9999, tI_15360] at c_3 ⊢; omega) h)
  · refine a_iload_n dX9_isSign_6 rfl ?_
    refine a_bipush (v := 45) dX9_isSign_7 (by decide) ?_
    refine a_icmp_eq (tgt := 24) dX9_isSign_9 (by decide) (fun c_9 => ?_) (fun c_9 => ?_)
    · refine a_iconst (v := 1) dX9_isSign_24 (by decide) ?_
      refine a_goto (tgt := 29) dX9_isSign_25 (by decide) ?_
      refine a_zret dX9_isSign_29 rfl (by decide) (ret_t (by simp only [Int32.lt_iff_toInt_lt, Int32.le_iff_toInt_le, ← Int32.toInt_inj, bI_z, bI_nz, tI_m9999, tI_m2, tI_m1, tI_0, tI_1, tI_2, tI_3, tI_4, tI_5, tI_6, tI_7, tI_8, tI_9, tI_10, tI_11, tI_16, tI_20, tI_24, tI_31, tI_32, tI_40, tI_41, tI_42, tI_43, tI_44, tI_45, tI_47, tI_48, tI_49, tI_56, tI_57, tI_58, tI_60, tI_61, tI_63, tI_64, tI_65, tI_72, tI_77, tI_83, tI_100, tI_127, tI_164, tI_255, tI_384, tI_9999, tI_15360] at c_3 c_9 ⊢; omega) h)
    · refine a_iload_n dX9_isSign_12 rfl ?_
      refine a_bipush (v := 42) dX9_isSign_13 (by decide) ?_
      refine a_icmp_eq (tgt := 24) dX9_isSign_15 (by decide) (fun c_15 => ?_) (fun c_15 => ?_)
      · refine a_iconst (v := 1) dX9_isSign_24 (by decide) ?_
        refine a_goto (tgt := 29) dX9_isSign_25 (by decide) ?_
        refine a_zret dX9_isSign_29 rfl (by decide) (ret_t (by simp only [Int32.lt_iff_toInt_lt, Int32.le_iff_toInt_le, ← Int32.toInt_inj, bI_z, bI_nz, tI_m9999, tI_m2, tI_m1, tI_0, tI_1, tI_2, tI_3, tI_4, tI_5, tI_6, tI_7, tI_8, tI_9, tI_10, tI_11, tI_16, tI_20, tI_24, tI_31, tI_32, tI_40, tI_41, tI_42, tI_43, tI_44, tI_45, tI_47, tI_48, tI_49, tI_56, tI_57, tI_58, tI_60, tI_61, tI_63, tI_64, tI_65, tI_72, tI_77, tI_83, tI_100, tI_127, tI_164, tI_255, tI_384, tI_9999, tI_15360] at c_3 c_9 c_15 ⊢; omega) h)
      · refine a_iload_n dX9_isSign_18 rfl ?_
        refine a_bipush (v := 47) dX9_isSign_19 (by decide) ?_
        refine a_icmp_ne (tgt := 28) dX9_isSign_21 (by decide) (fun c_21 => ?_) (fun c_21 => ?_)
        · refine a_iconst (v := 0) dX9_isSign_28 (by decide) ?_
          refine a_zret dX9_isSign_29 rfl (by decide) (ret_f (by simp only [Int32.lt_iff_toInt_lt, Int32.le_iff_toInt_le, ← Int32.toInt_inj, bI_z, bI_nz, tI_m9999, tI_m2, tI_m1, tI_0, tI_1, tI_2, tI_3, tI_4, tI_5, tI_6, tI_7, tI_8, tI_9, tI_10, tI_11, tI_16, tI_20, tI_24, tI_31, tI_32, tI_40, tI_41, tI_42, tI_43, tI_44, tI_45, tI_47, tI_48, tI_49, tI_56, tI_57, tI_58, tI_60, tI_61, tI_63, tI_64, tI_65, tI_72, tI_77, tI_83, tI_100, tI_127, tI_164, tI_255, tI_384, tI_9999, tI_15360] at c_3 c_9 c_15 c_21 ⊢; omega) h)
        · refine a_iconst (v := 1) dX9_isSign_24 (by decide) ?_
          refine a_goto (tgt := 29) dX9_isSign_25 (by decide) ?_
          refine a_zret dX9_isSign_29 rfl (by decide) (ret_t (by simp only [Int32.lt_iff_toInt_lt, Int32.le_iff_toInt_le, ← Int32.toInt_inj, bI_z, bI_nz, tI_m9999, tI_m2, tI_m1, tI_0, tI_1, tI_2, tI_3, tI_4, tI_5, tI_6, tI_7, tI_8, tI_9, tI_10, tI_11, tI_16, tI_20, tI_24, tI_31, tI_32, tI_40, tI_41, tI_42, tI_43, tI_44, tI_45, tI_47, tI_48, tI_49, tI_56, tI_57, tI_58, tI_60, tI_61, tI_63, tI_64, tI_65, tI_72, tI_77, tI_83, tI_100, tI_127, tI_164, tI_255, tI_384, tI_9999, tI_15360] at c_3 c_9 c_15 c_21 ⊢; omega) h)

theorem w_X9_isFaulty {M : Mem} {N : Nat} {Q : Option Value → Nat → Mem → Prop} {c : Int32} (h : Q (some (.int (bI (c.toInt ≠ 1 ∧ c.toInt ≠ 3)))) N (M)) : AW mX9_isFaulty 0 0 0 N 0 [(0, .int c)] [] M Q := by
  refine a_iload_n dX9_isFaulty_0 rfl ?_
  refine a_iconst (v := 1) dX9_isFaulty_1 (by decide) ?_
  refine a_icmp_eq (tgt := 14) dX9_isFaulty_2 (by decide) (fun c_2 => ?_) (fun c_2 => ?_)
  · refine a_iconst (v := 0) dX9_isFaulty_14 (by decide) ?_
    refine a_zret dX9_isFaulty_15 rfl (by decide) (ret_f (by simp only [Int32.lt_iff_toInt_lt, Int32.le_iff_toInt_le, ← Int32.toInt_inj, bI_z, bI_nz, tI_m9999, tI_m2, tI_m1, tI_0, tI_1, tI_2, tI_3, tI_4, tI_5, tI_6, tI_7, tI_8, tI_9, tI_10, tI_11, tI_16, tI_20, tI_24, tI_31, tI_32, tI_40, tI_41, tI_42, tI_43, tI_44, tI_45, tI_47, tI_48, tI_49, tI_56, tI_57, tI_58, tI_60, tI_61, tI_63, tI_64, tI_65, tI_72, tI_77, tI_83, tI_100, tI_127, tI_164, tI_255, tI_384, tI_9999, tI_15360] at c_2 ⊢; omega) h)
  · refine a_iload_n dX9_isFaulty_5 rfl ?_
    refine a_iconst (v := 3) dX9_isFaulty_6 (by decide) ?_
    refine a_icmp_eq (tgt := 14) dX9_isFaulty_7 (by decide) (fun c_7 => ?_) (fun c_7 => ?_)
    · refine a_iconst (v := 0) dX9_isFaulty_14 (by decide) ?_
      refine a_zret dX9_isFaulty_15 rfl (by decide) (ret_f (by simp only [Int32.lt_iff_toInt_lt, Int32.le_iff_toInt_le, ← Int32.toInt_inj, bI_z, bI_nz, tI_m9999, tI_m2, tI_m1, tI_0, tI_1, tI_2, tI_3, tI_4, tI_5, tI_6, tI_7, tI_8, tI_9, tI_10, tI_11, tI_16, tI_20, tI_24, tI_31, tI_32, tI_40, tI_41, tI_42, tI_43, tI_44, tI_45, tI_47, tI_48, tI_49, tI_56, tI_57, tI_58, tI_60, tI_61, tI_63, tI_64, tI_65, tI_72, tI_77, tI_83, tI_100, tI_127, tI_164, tI_255, tI_384, tI_9999, tI_15360] at c_2 c_7 ⊢; omega) h)
    · refine a_iconst (v := 1) dX9_isFaulty_10 (by decide) ?_
      refine a_goto (tgt := 15) dX9_isFaulty_11 (by decide) ?_
      refine a_zret dX9_isFaulty_15 rfl (by decide) (ret_t (by simp only [Int32.lt_iff_toInt_lt, Int32.le_iff_toInt_le, ← Int32.toInt_inj, bI_z, bI_nz, tI_m9999, tI_m2, tI_m1, tI_0, tI_1, tI_2, tI_3, tI_4, tI_5, tI_6, tI_7, tI_8, tI_9, tI_10, tI_11, tI_16, tI_20, tI_24, tI_31, tI_32, tI_40, tI_41, tI_42, tI_43, tI_44, tI_45, tI_47, tI_48, tI_49, tI_56, tI_57, tI_58, tI_60, tI_61, tI_63, tI_64, tI_65, tI_72, tI_77, tI_83, tI_100, tI_127, tI_164, tI_255, tI_384, tI_9999, tI_15360] at c_2 c_7 ⊢; omega) h)

theorem w_X8_length {M : Mem} {N : Nat} {Q : Option Value → Nat → Mem → Prop}  (hN : 94 ≤ N) (hs : Str M.2.2.1) (h : Q (some (.int (rI M 3 1))) N (M)) : AW mX8_length 0 0 0 N 0 [(0, .ref 3)] [] M Q := by
  refine a_aload_n dX8_length_0 rfl ?_
  refine a_getI kfX8_15 rfl rfl (by decide) (hlt hN (by decide)) dX8_length_1 ?_
  refine a_iret dX8_length_4 rfl h

theorem w_X8_hasRoom {M : Mem} {N : Nat} {Q : Option Value → Nat → Mem → Prop}  (hN : 94 ≤ N) (hs : Str M.2.2.1) (h : Q (some (.int (bI ((rI M 3 1 + 20).toInt ≤ 60)))) N (M)) : AW mX8_hasRoom 0 0 0 N 0 [(0, .ref 3)] [] M Q := by
  refine a_aload_n dX8_hasRoom_0 rfl ?_
  refine a_getI kfX8_15 rfl rfl (by decide) (hlt hN (by decide)) dX8_hasRoom_1 ?_
  refine a_bipush (v := 20) dX8_hasRoom_4 (by decide) ?_
  refine a_iadd dX8_hasRoom_6 ?_
  refine a_bipush (v := 60) dX8_hasRoom_7 (by decide) ?_
  refine a_icmp_gt (tgt := 16) dX8_hasRoom_9 (by decide) (fun c_9 => ?_) (fun c_9 => ?_)
  · refine a_iconst (v := 0) dX8_hasRoom_16 (by decide) ?_
    refine a_zret dX8_hasRoom_17 rfl (by decide) (ret_f (by simp only [Int32.lt_iff_toInt_lt, Int32.le_iff_toInt_le, ← Int32.toInt_inj, bI_z, bI_nz, tI_m9999, tI_m2, tI_m1, tI_0, tI_1, tI_2, tI_3, tI_4, tI_5, tI_6, tI_7, tI_8, tI_9, tI_10, tI_11, tI_16, tI_20, tI_24, tI_31, tI_32, tI_40, tI_41, tI_42, tI_43, tI_44, tI_45, tI_47, tI_48, tI_49, tI_56, tI_57, tI_58, tI_60, tI_61, tI_63, tI_64, tI_65, tI_72, tI_77, tI_83, tI_100, tI_127, tI_164, tI_255, tI_384, tI_9999, tI_15360] at c_9 ⊢; omega) h)
  · refine a_iconst (v := 1) dX8_hasRoom_12 (by decide) ?_
    refine a_goto (tgt := 17) dX8_hasRoom_13 (by decide) ?_
    refine a_zret dX8_hasRoom_17 rfl (by decide) (ret_t (by simp only [Int32.lt_iff_toInt_lt, Int32.le_iff_toInt_le, ← Int32.toInt_inj, bI_z, bI_nz, tI_m9999, tI_m2, tI_m1, tI_0, tI_1, tI_2, tI_3, tI_4, tI_5, tI_6, tI_7, tI_8, tI_9, tI_10, tI_11, tI_16, tI_20, tI_24, tI_31, tI_32, tI_40, tI_41, tI_42, tI_43, tI_44, tI_45, tI_47, tI_48, tI_49, tI_56, tI_57, tI_58, tI_60, tI_61, tI_63, tI_64, tI_65, tI_72, tI_77, tI_83, tI_100, tI_127, tI_164, tI_255, tI_384, tI_9999, tI_15360] at c_9 ⊢; omega) h)

theorem w_X4_inputs {M : Mem} {N : Nat} {Q : Option Value → Nat → Mem → Prop}  (hN : 94 ≤ N) (hs : Str M.2.2.1) (h : Q (some (.long (rJ M 5 2))) N (M)) : AW mX4_inputs 0 0 0 N 0 [(0, .ref 5)] [] M Q := by
  refine a_aload_n dX4_inputs_0 rfl ?_
  refine a_getJ kfX4_18 rfl rfl (by decide) (hlt hN (by decide)) dX4_inputs_1 ?_
  refine a_lret dX4_inputs_4 rfl h

theorem w_X4_wanted {M : Mem} {N : Nat} {Q : Option Value → Nat → Mem → Prop}  (hN : 94 ≤ N) (hs : Str M.2.2.1) (h : Q (some (.long (rJ M 5 3))) N (M)) : AW mX4_wanted 0 0 0 N 0 [(0, .ref 5)] [] M Q := by
  refine a_aload_n dX4_wanted_0 rfl ?_
  refine a_getJ kfX4_22 rfl rfl (by decide) (hlt hN (by decide)) dX4_wanted_1 ?_
  refine a_lret dX4_wanted_4 rfl h

theorem w_X4_countWorlds {M : Mem} {N : Nat} {Q : Option Value → Nat → Mem → Prop}  (hN : 94 ≤ N) (hs : Str M.2.2.1) (h : Q (some (.int (rI M 5 4))) N (M)) : AW mX4_countWorlds 0 0 0 N 0 [(0, .ref 5)] [] M Q := by
  refine a_aload_n dX4_countWorlds_0 rfl ?_
  refine a_getI kfX4_29 rfl rfl (by decide) (hlt hN (by decide)) dX4_countWorlds_1 ?_
  refine a_iret dX4_countWorlds_4 rfl h

def bitL (c : Int32) : Int64 := if 0 ≤ c.toInt ∧ c.toInt < 64 then (1 : Int64) <<< (c.toInt64 &&& 63) else 0
theorem w_X9_bit {M : Mem} {N : Nat} {Q : Option Value → Nat → Mem → Prop} {c : Int32} (h : Q (some (.long (bitL c))) N (M)) : AW mX9_bit 0 0 0 N 0 [(0, .int c)] [] M Q := by
  refine a_iload_n dX9_bit_0 rfl ?_
  refine a_if_lt (tgt := 16) dX9_bit_1 (by decide) (fun c_1 => ?_) (fun c_1 => ?_)
  · refine a_lconst (v := 0) dX9_bit_16 (by decide) ?_
    refine a_lret dX9_bit_17 rfl (ret_l (by simp only [Int32.lt_iff_toInt_lt, Int32.le_iff_toInt_le, ← Int32.toInt_inj, bI_z, bI_nz, tI_m9999, tI_m2, tI_m1, tI_0, tI_1, tI_2, tI_3, tI_4, tI_5, tI_6, tI_7, tI_8, tI_9, tI_10, tI_11, tI_16, tI_20, tI_24, tI_31, tI_32, tI_40, tI_41, tI_42, tI_43, tI_44, tI_45, tI_47, tI_48, tI_49, tI_56, tI_57, tI_58, tI_60, tI_61, tI_63, tI_64, tI_65, tI_72, tI_77, tI_83, tI_100, tI_127, tI_164, tI_255, tI_384, tI_9999, tI_15360] at c_1; unfold bitL; first | exact if_pos (by omega) | exact if_neg (by omega)) h)
  · refine a_iload_n dX9_bit_4 rfl ?_
    refine a_bipush (v := 64) dX9_bit_5 (by decide) ?_
    refine a_icmp_ge (tgt := 16) dX9_bit_7 (by decide) (fun c_7 => ?_) (fun c_7 => ?_)
    · refine a_lconst (v := 0) dX9_bit_16 (by decide) ?_
      refine a_lret dX9_bit_17 rfl (ret_l (by simp only [Int32.lt_iff_toInt_lt, Int32.le_iff_toInt_le, ← Int32.toInt_inj, bI_z, bI_nz, tI_m9999, tI_m2, tI_m1, tI_0, tI_1, tI_2, tI_3, tI_4, tI_5, tI_6, tI_7, tI_8, tI_9, tI_10, tI_11, tI_16, tI_20, tI_24, tI_31, tI_32, tI_40, tI_41, tI_42, tI_43, tI_44, tI_45, tI_47, tI_48, tI_49, tI_56, tI_57, tI_58, tI_60, tI_61, tI_63, tI_64, tI_65, tI_72, tI_77, tI_83, tI_100, tI_127, tI_164, tI_255, tI_384, tI_9999, tI_15360] at c_1 c_7; unfold bitL; first | exact if_pos (by omega) | exact if_neg (by omega)) h)
    · refine a_lconst (v := 1) dX9_bit_10 (by decide) ?_
      refine a_iload_n dX9_bit_11 rfl ?_
      refine a_lshl dX9_bit_12 rfl ?_
      refine a_goto (tgt := 17) dX9_bit_13 (by decide) ?_
      refine a_lret dX9_bit_17 rfl (ret_l (by simp only [Int32.lt_iff_toInt_lt, Int32.le_iff_toInt_le, ← Int32.toInt_inj, bI_z, bI_nz, tI_m9999, tI_m2, tI_m1, tI_0, tI_1, tI_2, tI_3, tI_4, tI_5, tI_6, tI_7, tI_8, tI_9, tI_10, tI_11, tI_16, tI_20, tI_24, tI_31, tI_32, tI_40, tI_41, tI_42, tI_43, tI_44, tI_45, tI_47, tI_48, tI_49, tI_56, tI_57, tI_58, tI_60, tI_61, tI_63, tI_64, tI_65, tI_72, tI_77, tI_83, tI_100, tI_127, tI_164, tI_255, tI_384, tI_9999, tI_15360] at c_1 c_7; unfold bitL; first | exact if_pos (by omega) | exact if_neg (by omega)) h)

/-- is the bit of the cell c set? -/
def hb (x : Int64) (c : Int32) : Bool := !(x &&& bitL c == 0)
theorem hb_iff {x : Int64} {c : Int32} : hb x c = true ↔ ¬ (x &&& bitL c) = 0 := by simp [hb]
theorem nIt {n : Nat} (h : n < 2147483648) : (nI n).toInt = n := nI_toInt h
theorem cel_no {j : Nat} (hj : j < 64) : ¬ (bI (0 ≤ (nI j).toInt ∧ (nI j).toInt < 64) = 0) := by rw [bI_nz, nIt (by omega)]; omega
theorem wor_no {v : Nat} {x : Int32} (h6 : v < 6) (h : (v : Int) < x.toInt) : ¬ (bI (0 ≤ (nI v).toInt ∧ (nI v).toInt < x.toInt) = 0) := by rw [bI_nz, nIt (by omega)]; omega
theorem w6_no {v : Nat} (h6 : v < 6) : ¬ ((6 : Int32) ≤ nI v) := by rw [Int32.le_iff_toInt_le, nIt (by omega), tI_6]; omega
theorem ix64 {v j : Nat} (hv : v < 6) (hj : j < 64) : nI v * 64 + nI j = nI (v * 64 + j) := by
  rw [show (64 : Int32) = nI 64 from rfl, pk_mul, nI_add]
theorem ix64_in {v j : Nat} (hv : v < 6) (hj : j < 64) : vp_in (nI v * 64 + nI j) 384 := by
  rw [ix64 hv hj]; exact vp_in_nI (by omega) (by decide)
theorem w_X4_isInput {M : Mem} {N : Nat} {Q : Option Value → Nat → Mem → Prop} {c : Int32} (hN : 94 ≤ N) (hs : Str M.2.2.1) (h : Q (some (.int (bI (hb (rJ M 5 2) c = true)))) N (M)) : AW mX4_isInput 1 0 0 N 0 [(0, .ref 5), (1, .int c)] [] M Q := by
  refine a_aload_n dX4_isInput_0 rfl ?_
  refine a_getJ kfX4_18 rfl rfl (by decide) (hlt hN (by decide)) dX4_isInput_1 ?_
  refine a_iload_n dX4_isInput_4 rfl ?_
  refine a_callSN (host := "SheetMarker") (mc1 := 0) (ms1 := 0) (As := [_]) kpX9_bit (by decide +kernel) (by decide) rfl (Nat.le_of_ble_eq_true rfl) (Nat.le_of_ble_eq_true rfl) (Nat.le_of_ble_eq_true rfl) (Nat.le_of_ble_eq_true rfl) dX4_isInput_5 (w_X9_bit ?_)
  refine a_land dX4_isInput_8 ?_
  refine a_lconst (v := 0) dX4_isInput_9 (by decide) ?_
  refine a_lcmp dX4_isInput_10 ?_
  refine a_if_eq (tgt := 18) dX4_isInput_11 (by decide) (fun c_11 => ?_) (fun c_11 => ?_)
  · refine a_iconst (v := 0) dX4_isInput_18 (by decide) ?_
    refine a_zret dX4_isInput_19 rfl (by decide) (ret_f (by rw [hb_iff]; exact fun z => z ((lg_cmp_eq _ _).mp c_11)) h)
  · refine a_iconst (v := 1) dX4_isInput_14 (by decide) ?_
    refine a_goto (tgt := 19) dX4_isInput_15 (by decide) ?_
    refine a_zret dX4_isInput_19 rfl (by decide) (ret_t (by rw [hb_iff]; exact fun z => c_11 ((lg_cmp_eq _ _).mpr z)) h)

theorem w_X4_isWanted {M : Mem} {N : Nat} {Q : Option Value → Nat → Mem → Prop} {c : Int32} (hN : 94 ≤ N) (hs : Str M.2.2.1) (h : Q (some (.int (bI (hb (rJ M 5 3) c = true)))) N (M)) : AW mX4_isWanted 1 0 0 N 0 [(0, .ref 5), (1, .int c)] [] M Q := by
  refine a_aload_n dX4_isWanted_0 rfl ?_
  refine a_getJ kfX4_22 rfl rfl (by decide) (hlt hN (by decide)) dX4_isWanted_1 ?_
  refine a_iload_n dX4_isWanted_4 rfl ?_
  refine a_callSN (host := "SheetMarker") (mc1 := 0) (ms1 := 0) (As := [_]) kpX9_bit (by decide +kernel) (by decide) rfl (Nat.le_of_ble_eq_true rfl) (Nat.le_of_ble_eq_true rfl) (Nat.le_of_ble_eq_true rfl) (Nat.le_of_ble_eq_true rfl) dX4_isWanted_5 (w_X9_bit ?_)
  refine a_land dX4_isWanted_8 ?_
  refine a_lconst (v := 0) dX4_isWanted_9 (by decide) ?_
  refine a_lcmp dX4_isWanted_10 ?_
  refine a_if_eq (tgt := 18) dX4_isWanted_11 (by decide) (fun c_11 => ?_) (fun c_11 => ?_)
  · refine a_iconst (v := 0) dX4_isWanted_18 (by decide) ?_
    refine a_zret dX4_isWanted_19 rfl (by decide) (ret_f (by rw [hb_iff]; exact fun z => z ((lg_cmp_eq _ _).mp c_11)) h)
  · refine a_iconst (v := 1) dX4_isWanted_14 (by decide) ?_
    refine a_goto (tgt := 19) dX4_isWanted_15 (by decide) ?_
    refine a_zret dX4_isWanted_19 rfl (by decide) (ret_t (by rw [hb_iff]; exact fun z => c_11 ((lg_cmp_eq _ _).mpr z)) h)

theorem w_X4_isWorld {M : Mem} {N : Nat} {Q : Option Value → Nat → Mem → Prop} {w : Int32} (hN : 94 ≤ N) (hs : Str M.2.2.1) (h : Q (some (.int (bI (0 ≤ w.toInt ∧ w.toInt < (rI M 5 4).toInt)))) N (M)) : AW mX4_isWorld 0 0 0 N 0 [(0, .ref 5), (1, .int w)] [] M Q := by
  refine a_iload_n dX4_isWorld_0 rfl ?_
  refine a_if_lt (tgt := 16) dX4_isWorld_1 (by decide) (fun c_1 => ?_) (fun c_1 => ?_)
  · refine a_iconst (v := 0) dX4_isWorld_16 (by decide) ?_
    refine a_zret dX4_isWorld_17 rfl (by decide) (ret_f (by simp only [Int32.lt_iff_toInt_lt, Int32.le_iff_toInt_le, ← Int32.toInt_inj, bI_z, bI_nz, tI_m9999, tI_m2, tI_m1, tI_0, tI_1, tI_2, tI_3, tI_4, tI_5, tI_6, tI_7, tI_8, tI_9, tI_10, tI_11, tI_16, tI_20, tI_24, tI_31, tI_32, tI_40, tI_41, tI_42, tI_43, tI_44, tI_45, tI_47, tI_48, tI_49, tI_56, tI_57, tI_58, tI_60, tI_61, tI_63, tI_64, tI_65, tI_72, tI_77, tI_83, tI_100, tI_127, tI_164, tI_255, tI_384, tI_9999, tI_15360] at c_1 ⊢; omega) h)
  · refine a_iload_n dX4_isWorld_4 rfl ?_
    refine a_aload_n dX4_isWorld_5 rfl ?_
    refine a_getI kfX4_29 rfl rfl (by decide) (hlt hN (by decide)) dX4_isWorld_6 ?_
    refine a_icmp_ge (tgt := 16) dX4_isWorld_9 (by decide) (fun c_9 => ?_) (fun c_9 => ?_)
    · refine a_iconst (v := 0) dX4_isWorld_16 (by decide) ?_
      refine a_zret dX4_isWorld_17 rfl (by decide) (ret_f (by simp only [Int32.lt_iff_toInt_lt, Int32.le_iff_toInt_le, ← Int32.toInt_inj, bI_z, bI_nz, tI_m9999, tI_m2, tI_m1, tI_0, tI_1, tI_2, tI_3, tI_4, tI_5, tI_6, tI_7, tI_8, tI_9, tI_10, tI_11, tI_16, tI_20, tI_24, tI_31, tI_32, tI_40, tI_41, tI_42, tI_43, tI_44, tI_45, tI_47, tI_48, tI_49, tI_56, tI_57, tI_58, tI_60, tI_61, tI_63, tI_64, tI_65, tI_72, tI_77, tI_83, tI_100, tI_127, tI_164, tI_255, tI_384, tI_9999, tI_15360] at c_1 c_9 ⊢; omega) h)
    · refine a_iconst (v := 1) dX4_isWorld_12 (by decide) ?_
      refine a_goto (tgt := 17) dX4_isWorld_13 (by decide) ?_
      refine a_zret dX4_isWorld_17 rfl (by decide) (ret_t (by simp only [Int32.lt_iff_toInt_lt, Int32.le_iff_toInt_le, ← Int32.toInt_inj, bI_z, bI_nz, tI_m9999, tI_m2, tI_m1, tI_0, tI_1, tI_2, tI_3, tI_4, tI_5, tI_6, tI_7, tI_8, tI_9, tI_10, tI_11, tI_16, tI_20, tI_24, tI_31, tI_32, tI_40, tI_41, tI_42, tI_43, tI_44, tI_45, tI_47, tI_48, tI_49, tI_56, tI_57, tI_58, tI_60, tI_61, tI_63, tI_64, tI_65, tI_72, tI_77, tI_83, tI_100, tI_127, tI_164, tI_255, tI_384, tI_9999, tI_15360] at c_1 c_9 ⊢; omega) h)

theorem w_X4_addInput {M : Mem} {N : Nat} {Q : Option Value → Nat → Mem → Prop} {c : Int32} (hN : 94 ≤ N) (hs : Str M.2.2.1) (h : Q (none) N (sJ M 5 2 (rJ M 5 2 ||| bitL c))) : AW mX4_addInput 1 0 0 N 0 [(0, .ref 5), (1, .int c)] [] M Q := by
  refine a_aload_n dX4_addInput_0 rfl ?_
  refine a_dup dX4_addInput_1 rfl ?_
  refine a_getJ kfX4_18 rfl rfl (by decide) (hlt hN (by decide)) dX4_addInput_2 ?_
  refine a_iload_n dX4_addInput_5 rfl ?_
  refine a_callSN (host := "SheetMarker") (mc1 := 0) (ms1 := 0) (As := [_]) kpX9_bit (by decide +kernel) (by decide) rfl (Nat.le_of_ble_eq_true rfl) (Nat.le_of_ble_eq_true rfl) (Nat.le_of_ble_eq_true rfl) (Nat.le_of_ble_eq_true rfl) dX4_addInput_6 (w_X9_bit ?_)
  refine a_lor dX4_addInput_9 ?_
  refine a_putJ kfX4_18 rfl rfl rfl (by decide) (hlt hN (by decide)) dX4_addInput_10 ?_
  refine a_vret dX4_addInput_13 rfl h

theorem w_X4_addWorld {M : Mem} {N : Nat} {Q : Option Value → Nat → Mem → Prop}  (hN : 94 ≤ N) (hs : Str M.2.2.1) (h : Q (some (.int (rI M 5 4 + 1 - 1))) N (sI M 5 4 (rI M 5 4 + 1))) : AW mX4_addWorld 0 0 0 N 0 [(0, .ref 5)] [] M Q := by
  refine a_aload_n dX4_addWorld_0 rfl ?_
  refine a_dup dX4_addWorld_1 rfl ?_
  refine a_getI kfX4_29 rfl rfl (by decide) (hlt hN (by decide)) dX4_addWorld_2 ?_
  refine a_iconst (v := 1) dX4_addWorld_5 (by decide) ?_
  refine a_iadd dX4_addWorld_6 ?_
  refine a_putI kfX4_29 rfl rfl rfl (by decide) (hlt hN (by decide)) dX4_addWorld_7 ?_
  refine a_aload_n dX4_addWorld_10 rfl ?_
  refine a_getI kfX4_29 rfl rfl (by decide) (hlt hN (by decide)) dX4_addWorld_11 ?_
  refine a_iconst (v := 1) dX4_addWorld_14 (by decide) ?_
  refine a_isub dX4_addWorld_15 ?_
  refine a_iret dX4_addWorld_16 rfl (by simpa [rI, sI, up2] using h)

theorem w_X4_worth {M : Mem} {N : Nat} {Q : Option Value → Nat → Mem → Prop} {j : Nat} (hj : j < 64) (hN : 94 ≤ N) (hs : Str M.2.2.1) (h : Q (some (.int (rI M 7 j))) N (M)) : AW mX4_worth 1 0 0 N 0 [(0, .ref 5), (1, .int (nI j))] [] M Q := by
  refine a_iload_n dX4_worth_0 rfl ?_
  refine a_callSN (host := "SheetMarker") (mc1 := 0) (ms1 := 0) (As := [_]) kpX9_isCell (by decide +kernel) (by decide) rfl (Nat.le_of_ble_eq_true rfl) (Nat.le_of_ble_eq_true rfl) (Nat.le_of_ble_eq_true rfl) (Nat.le_of_ble_eq_true rfl) dX4_worth_1 (w_X9_isCell ?_)
  refine a_if_eq (tgt := 16) dX4_worth_4 (by decide) (fun c_4 => absurd c_4 (cel_no hj)) (fun c_4 => ?_)
  refine a_aload_n dX4_worth_7 rfl ?_
  refine a_getA (z := 7) kfX4_15 rfl rfl (st_5_1 hs) (by decide) (hlt hN (by decide)) dX4_worth_8 ?_
  refine a_iload_n dX4_worth_11 rfl ?_
  refine a_iald rfl (by decide) (hlt hN (by decide)) (show vp_in _ 64 from vp_in_nI hj (by decide)) dX4_worth_12 ?_
  refine a_goto (tgt := 17) dX4_worth_13 (by decide) ?_
  refine a_iret dX4_worth_17 rfl (by rw [nI_clamp (by omega)]; exact h)

theorem w_X4_want {M : Mem} {N : Nat} {Q : Option Value → Nat → Mem → Prop} {j : Nat} (hj : j < 64) {v : Int32} (hN : 94 ≤ N) (hs : Str M.2.2.1) (h : Q (none) N (sI (sJ M 5 3 (rJ M 5 3 ||| bitL (nI j))) 7 j v)) : AW mX4_want 1 0 0 N 0 [(0, .ref 5), (1, .int (nI j)), (2, .int v)] [] M Q := by
  refine a_iload_n dX4_want_0 rfl ?_
  refine a_callSN (host := "SheetMarker") (mc1 := 0) (ms1 := 0) (As := [_]) kpX9_isCell (by decide +kernel) (by decide) rfl (Nat.le_of_ble_eq_true rfl) (Nat.le_of_ble_eq_true rfl) (Nat.le_of_ble_eq_true rfl) (Nat.le_of_ble_eq_true rfl) dX4_want_1 (w_X9_isCell ?_)
  refine a_if_eq (tgt := 27) dX4_want_4 (by decide) (fun c_4 => absurd c_4 (cel_no hj)) (fun c_4 => ?_)
  refine a_aload_n dX4_want_7 rfl ?_
  refine a_dup dX4_want_8 rfl ?_
  refine a_getJ kfX4_22 rfl rfl (by decide) (hlt hN (by decide)) dX4_want_9 ?_
  refine a_iload_n dX4_want_12 rfl ?_
  refine a_callSN (host := "SheetMarker") (mc1 := 0) (ms1 := 0) (As := [_]) kpX9_bit (by decide +kernel) (by decide) rfl (Nat.le_of_ble_eq_true rfl) (Nat.le_of_ble_eq_true rfl) (Nat.le_of_ble_eq_true rfl) (Nat.le_of_ble_eq_true rfl) dX4_want_13 (w_X9_bit ?_)
  refine a_lor dX4_want_16 ?_
  refine a_putJ kfX4_22 rfl rfl rfl (by decide) (hlt hN (by decide)) dX4_want_17 ?_
  refine a_aload_n dX4_want_20 rfl ?_
  refine a_getA (z := 7) kfX4_15 rfl rfl (st_5_1 hs) (by decide) (hlt hN (by decide)) dX4_want_21 ?_
  refine a_iload_n dX4_want_24 rfl ?_
  refine a_iload_n dX4_want_25 rfl ?_
  refine a_iast rfl (by decide) (hlt hN (by decide)) (show vp_in _ 64 from vp_in_nI hj (by decide)) dX4_want_26 ?_
  refine a_vret dX4_want_27 rfl (by rw [nI_clamp (by omega)]; exact h)

theorem w_X4_given {M : Mem} {N : Nat} {Q : Option Value → Nat → Mem → Prop} {v j : Nat} (hv6 : v < 6) (hvw : (v : Int) < (rI M 5 4).toInt) (hj : j < 64) (hN : 94 ≤ N) (hs : Str M.2.2.1) (h : Q (some (.int (rI M 6 (v * 64 + j)))) N (M)) : AW mX4_given 1 0 0 N 0 [(0, .ref 5), (1, .int (nI v)), (2, .int (nI j))] [] M Q := by
  refine a_aload_n dX4_given_0 rfl ?_
  refine a_iload_n dX4_given_1 rfl ?_
  refine a_callV (mc1 := 0) (ms1 := 0) (As := [_]) kpX4_isWorld kmX4_47 (by decide) rfl (Nat.le_of_ble_eq_true rfl) rfl (by decide) rfl (by decide) (hlt hN (by decide)) (Nat.le_of_ble_eq_true rfl) (Nat.le_of_ble_eq_true rfl) (Nat.le_of_ble_eq_true rfl) dX4_given_2 (w_X4_isWorld hN hs ?_)
  refine a_if_eq (tgt := 35) dX4_given_5 (by decide) (fun c_5 => absurd c_5 (wor_no hv6 hvw)) (fun c_5 => ?_)
  refine a_iload_n dX4_given_8 rfl ?_
  refine a_bipush (v := 6) dX4_given_9 (by decide) ?_
  refine a_icmp_ge (tgt := 35) dX4_given_11 (by decide) (fun c_11 => absurd c_11 (w6_no hv6)) (fun c_11 => ?_)
  refine a_iload_n dX4_given_14 rfl ?_
  refine a_callSN (host := "SheetMarker") (mc1 := 0) (ms1 := 0) (As := [_]) kpX9_isCell (by decide +kernel) (by decide) rfl (Nat.le_of_ble_eq_true rfl) (Nat.le_of_ble_eq_true rfl) (Nat.le_of_ble_eq_true rfl) (Nat.le_of_ble_eq_true rfl) dX4_given_15 (w_X9_isCell ?_)
  refine a_if_eq (tgt := 35) dX4_given_18 (by decide) (fun c_18 => absurd c_18 (cel_no hj)) (fun c_18 => ?_)
  refine a_aload_n dX4_given_21 rfl ?_
  refine a_getA (z := 6) kfX4_9 rfl rfl (st_5_0 hs) (by decide) (hlt hN (by decide)) dX4_given_22 ?_
  refine a_iload_n dX4_given_25 rfl ?_
  refine a_bipush (v := 64) dX4_given_26 (by decide) ?_
  refine a_imul dX4_given_28 ?_
  refine a_iload_n dX4_given_29 rfl ?_
  refine a_iadd dX4_given_30 ?_
  refine a_iald rfl (by decide) (hlt hN (by decide)) (ix64_in hv6 hj) dX4_given_31 ?_
  refine a_goto (tgt := 36) dX4_given_32 (by decide) ?_
  refine a_iret dX4_given_36 rfl (by rw [ix64 hv6 hj, nI_clamp (by omega)]; exact h)

theorem w_X4_put {M : Mem} {N : Nat} {Q : Option Value → Nat → Mem → Prop} {v j : Nat} (hv6 : v < 6) (hvw : (v : Int) < (rI M 5 4).toInt) (hj : j < 64) {x : Int32} (hN : 94 ≤ N) (hs : Str M.2.2.1) (h : Q (none) N (sI M 6 (v * 64 + j) x)) : AW mX4_put 1 0 0 N 0 [(0, .ref 5), (1, .int (nI v)), (2, .int (nI j)), (3, .int x)] [] M Q := by
  refine a_aload_n dX4_put_0 rfl ?_
  refine a_iload_n dX4_put_1 rfl ?_
  refine a_callV (mc1 := 0) (ms1 := 0) (As := [_]) kpX4_isWorld kmX4_47 (by decide) rfl (Nat.le_of_ble_eq_true rfl) rfl (by decide) rfl (by decide) (hlt hN (by decide)) (Nat.le_of_ble_eq_true rfl) (Nat.le_of_ble_eq_true rfl) (Nat.le_of_ble_eq_true rfl) dX4_put_2 (w_X4_isWorld hN hs ?_)
  refine a_if_eq (tgt := 33) dX4_put_5 (by decide) (fun c_5 => absurd c_5 (wor_no hv6 hvw)) (fun c_5 => ?_)
  refine a_iload_n dX4_put_8 rfl ?_
  refine a_bipush (v := 6) dX4_put_9 (by decide) ?_
  refine a_icmp_ge (tgt := 33) dX4_put_11 (by decide) (fun c_11 => absurd c_11 (w6_no hv6)) (fun c_11 => ?_)
  refine a_iload_n dX4_put_14 rfl ?_
  refine a_callSN (host := "SheetMarker") (mc1 := 0) (ms1 := 0) (As := [_]) kpX9_isCell (by decide +kernel) (by decide) rfl (Nat.le_of_ble_eq_true rfl) (Nat.le_of_ble_eq_true rfl) (Nat.le_of_ble_eq_true rfl) (Nat.le_of_ble_eq_true rfl) dX4_put_15 (w_X9_isCell ?_)
  refine a_if_eq (tgt := 33) dX4_put_18 (by decide) (fun c_18 => absurd c_18 (cel_no hj)) (fun c_18 => ?_)
  refine a_aload_n dX4_put_21 rfl ?_
  refine a_getA (z := 6) kfX4_9 rfl rfl (st_5_0 hs) (by decide) (hlt hN (by decide)) dX4_put_22 ?_
  refine a_iload_n dX4_put_25 rfl ?_
  refine a_bipush (v := 64) dX4_put_26 (by decide) ?_
  refine a_imul dX4_put_28 ?_
  refine a_iload_n dX4_put_29 rfl ?_
  refine a_iadd dX4_put_30 ?_
  refine a_iload_n dX4_put_31 rfl ?_
  refine a_iast rfl (by decide) (hlt hN (by decide)) (ix64_in hv6 hj) dX4_put_32 ?_
  refine a_vret dX4_put_33 rfl (by rw [ix64 hv6 hj, nI_clamp (by omega)]; exact h)

