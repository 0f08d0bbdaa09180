/-- the sum of points, over the cells' kinds, worths, and whether they are wanted -/
def ptF (K W : Nat → Int32) (wd : Int64) (c : Int32) : Nat → Int32
  | 0 => 0
  | k + 1 => if hb wd (nI k) = true ∧ (c = -1 ∨ c = nI k) then ptF K W wd c k + shF (K k) (W k) else ptF K W wd c k
theorem ptF_1 {K W : Nat → Int32} {wd : Int64} {c : Int32} {k : Nat} (h : hb wd (nI k) = true) (h2 : c = -1 ∨ c = nI k) : ptF K W wd c (k + 1) = ptF K W wd c k + shF (K k) (W k) := if_pos ⟨h, h2⟩
theorem ptF_0 {K W : Nat → Int32} {wd : Int64} {c : Int32} {k : Nat} (h : ¬ (hb wd (nI k) = true ∧ (c = -1 ∨ c = nI k))) : ptF K W wd c (k + 1) = ptF K W wd c k := if_neg h
theorem l_X9_points {M : Mem} {N : Nat} {Q : Option Value → Nat → Mem → Prop} {i n : Nat} (hi : i < 6) (h0 : 0 < i) (hB : Bas M N n) {K : Nat → Int32} (hK : ∀ M' j, Jw M M' → j < 64 → hb (rJ M 5 3) (nI j) = true → jdK M' (9 + 6 * i) j n = K j) {c : Int32} (hN : 94 ≤ N) (hs : Str M.2.2.1) (h : ∀ M', Jw M M' → Q (some (.int (ptF K (rI M 7) (rJ M 5 3) c 64))) N M') : ∀ (r k : Nat) (Mk : Mem), k + r = 64 → Jw M Mk → AW mX9_points 8 0 0 N 47 [(0, .ref 2), (1, .int (nI i)), (2, .int c), (3, .ref (9 + 6 * i)), (4, .int (ptF K (rI M 7) (rJ M 5 3) c k)), (5, .int (nI k))] [] Mk Q := by
  intro r
  induction r with
  | zero =>
    intro k Mk hk jw
    have hsk : Str Mk.2.2.1 := by rw [jw.2.2]; exact hs
    have hs := hsk
    have eW : rJ Mk 5 3 = rJ M 5 3 := jw.2.1 _ _ (by decide)
    obtain rfl : k = 64 := by omega
    refine a_iload dX9_points_47 rfl ?_
    refine a_bipush (v := 64) dX9_points_49 (by decide) ?_
    refine a_icmp_ge (tgt := 110) dX9_points_51 (by decide) (fun c_51 => ?_) (fun c_51 => absurd (nI_le (a := 64) (b := 64) (by omega) (by decide)) c_51)
    refine a_iload dX9_points_110 rfl ?_
    refine a_iret dX9_points_112 rfl (h _ jw)
  | succ r ih =>
    intro k Mk hk jw
    have hsk : Str Mk.2.2.1 := by rw [jw.2.2]; exact hs
    have hs := hsk
    have eW : rJ Mk 5 3 = rJ M 5 3 := jw.2.1 _ _ (by decide)
    have hk64 : k < 64 := by omega
    have hBk : Bas Mk N n := hB.sx jw.sx
    refine a_iload dX9_points_47 rfl ?_
    refine a_bipush (v := 64) dX9_points_49 (by decide) ?_
    refine a_icmp_ge (tgt := 110) dX9_points_51 (by decide) (fun c_51 => absurd c_51 (nI_ge (b := 64) (by omega) (by decide))) (fun c_51 => ?_)
    refine a_aload_n dX9_points_54 rfl ?_
    refine a_getA (z := 5) kfX9_19 rfl rfl (st_2_1 hs) (by decide) (hlt hN (by decide)) dX9_points_55 ?_
    refine a_iload dX9_points_58 rfl ?_
    refine a_callV (mc1 := 0) (ms1 := 0) (As := [_]) kpX4_isWanted kmX9_113 (by decide) rfl (Nat.le_of_ble_eq_true rfl) rfl (by decide) rfl (by decide) (hlt hN (by decide)) (Nat.le_of_ble_eq_true rfl) (Nat.le_of_ble_eq_true rfl) (Nat.le_of_ble_eq_true rfl) dX9_points_60 (w_X4_isWanted hN hs ?_)
    rw [eW]
    refine a_if_eq (tgt := 104) dX9_points_63 (by decide) (fun c_63 => ?_) (fun c_63 => ?_)
    · refine a_iinc dX9_points_104 rfl rfl (by decide) ?_
      refine a_goto (tgt := 47) dX9_points_107 (by decide) ?_
      first
      | (have e1 := ptF_1 (K := K) (W := rI M 7) (c := c) (bI_nz.mp c_63) (by first | exact Or.inl c_68 | exact Or.inr c_74)
         rw [show nI k + Int32.ofInt 1 = nI (k + 1) from nI_1 k, ← e1]
         refine AW.sub (L' := [(0, .ref 2), (1, .int (nI i)), (2, .int c), (3, .ref (9 + 6 * i)), (4, .int (ptF K (rI M 7) (rJ M 5 3) c (k + 1))), (5, .int (nI (k + 1)))]) rfl ?_
         exact ih (k + 1) _ (by omega) jw2)
      | (have e0 : ptF K (rI M 7) (rJ M 5 3) c (k + 1) = ptF K (rI M 7) (rJ M 5 3) c k := ptF_0 (fun z => by first | exact bI_z.mp c_63 z.1 | exact z.2.elim c_68 c_74)
         rw [show nI k + Int32.ofInt 1 = nI (k + 1) from nI_1 k, ← e0]
         refine AW.sub (L' := [(0, .ref 2), (1, .int (nI i)), (2, .int c), (3, .ref (9 + 6 * i)), (4, .int (ptF K (rI M 7) (rJ M 5 3) c (k + 1))), (5, .int (nI (k + 1)))]) rfl ?_
         exact ih (k + 1) _ (by omega) jw)
    · refine a_iload_n dX9_points_66 rfl ?_
      refine a_iconst (v := (-1)) dX9_points_67 (by decide) ?_
      refine a_icmp_eq (tgt := 77) dX9_points_68 (by decide) (fun c_68 => ?_) (fun c_68 => ?_)
      · refine a_iload dX9_points_77 rfl ?_
        refine a_aload_n dX9_points_79 rfl ?_
        refine a_getA (z := 62) kfX9_53 rfl rfl (st_2_6 hs) (by decide) (hlt hN (by decide)) dX9_points_80 ?_
        refine a_aload_n dX9_points_83 rfl ?_
        refine a_iload dX9_points_84 rfl ?_
        refine a_callV (mc1 := 0) (ms1 := 0) (As := [_, _]) kpX3_judge kmX9_165 (by decide) rfl (Nat.le_of_ble_eq_true rfl) rfl (by decide) rfl (by decide) (hlt hN (by decide)) (Nat.le_of_ble_eq_true rfl) (Nat.le_of_ble_eq_true rfl) (Nat.le_of_ble_eq_true rfl) dX9_points_86 (w_X3_judge (M := Mk) hi hk64 hBk hN hs ?_)
        intro M2 j2 _
        rw [hK Mk k jw hk64 (bI_nz.mp c_63)]
        have jw2 := jw.tr j2
        have hs2 : Str M2.2.2.1 := by rw [j2.2.2]; exact hsk
        have hs := hs2
        refine a_aload_n dX9_points_89 rfl ?_
        refine a_getA (z := 5) kfX9_19 rfl rfl (st_2_1 hs) (by decide) (hlt hN (by decide)) dX9_points_90 ?_
        refine a_iload dX9_points_93 rfl ?_
        refine a_callV (mc1 := 0) (ms1 := 0) (As := [_]) kpX4_worth kmX9_168 (by decide) rfl (Nat.le_of_ble_eq_true rfl) rfl (by decide) rfl (by decide) (hlt hN (by decide)) (Nat.le_of_ble_eq_true rfl) (Nat.le_of_ble_eq_true rfl) (Nat.le_of_ble_eq_true rfl) dX9_points_95 (w_X4_worth hk64 hN hs ?_)
        rw [show rI M2 7 k = rI M 7 k from jw2.1 _ _ (by decide)]
        refine a_callS (mc1 := 0) (ms1 := 0) (As := [_, _]) kpX9_share kmX9_171 (by decide) rfl (Nat.le_of_ble_eq_true rfl) (Nat.le_of_ble_eq_true rfl) (Nat.le_of_ble_eq_true rfl) (Nat.le_of_ble_eq_true rfl) dX9_points_98 (w_X9_share (by rw [← hK Mk k jw hk64 (bI_nz.mp c_63)]; exact jdK_6) ?_)
        refine a_iadd dX9_points_101 ?_
        refine a_istore dX9_points_102 (by decide) ?_
        refine a_iinc dX9_points_104 rfl rfl (by decide) ?_
        refine a_goto (tgt := 47) dX9_points_107 (by decide) ?_
        first
        | (have e1 := ptF_1 (K := K) (W := rI M 7) (c := c) (bI_nz.mp c_63) (by first | exact Or.inl c_68 | exact Or.inr c_74)
           rw [show nI k + Int32.ofInt 1 = nI (k + 1) from nI_1 k, ← e1]
           refine AW.sub (L' := [(0, .ref 2), (1, .int (nI i)), (2, .int c), (3, .ref (9 + 6 * i)), (4, .int (ptF K (rI M 7) (rJ M 5 3) c (k + 1))), (5, .int (nI (k + 1)))]) rfl ?_
           exact ih (k + 1) _ (by omega) jw2)
        | (have e0 : ptF K (rI M 7) (rJ M 5 3) c (k + 1) = ptF K (rI M 7) (rJ M 5 3) c k := ptF_0 (fun z => by first | exact bI_z.mp c_63 z.1 | exact z.2.elim c_68 c_74)
           rw [show nI k + Int32.ofInt 1 = nI (k + 1) from nI_1 k, ← e0]
           refine AW.sub (L' := [(0, .ref 2), (1, .int (nI i)), (2, .int c), (3, .ref (9 + 6 * i)), (4, .int (ptF K (rI M 7) (rJ M 5 3) c (k + 1))), (5, .int (nI (k + 1)))]) rfl ?_
           exact ih (k + 1) _ (by omega) jw)
      · refine a_iload_n dX9_points_71 rfl ?_
        refine a_iload dX9_points_72 rfl ?_
        refine a_icmp_ne (tgt := 104) dX9_points_74 (by decide) (fun c_74 => ?_) (fun c_74 => ?_)
        · refine a_iinc dX9_points_104 rfl rfl (by decide) ?_
          refine a_goto (tgt := 47) dX9_points_107 (by decide) ?_
          first
          | (have e1 := ptF_1 (K := K) (W := rI M 7) (c := c) (bI_nz.mp c_63) (by first | exact Or.inl c_68 | exact Or.inr c_74)
             rw [show nI k + Int32.ofInt 1 = nI (k + 1) from nI_1 k, ← e1]
             refine AW.sub (L' := [(0, .ref 2), (1, .int (nI i)), (2, .int c), (3, .ref (9 + 6 * i)), (4, .int (ptF K (rI M 7) (rJ M 5 3) c (k + 1))), (5, .int (nI (k + 1)))]) rfl ?_
             exact ih (k + 1) _ (by omega) jw2)
          | (have e0 : ptF K (rI M 7) (rJ M 5 3) c (k + 1) = ptF K (rI M 7) (rJ M 5 3) c k := ptF_0 (fun z => by first | exact bI_z.mp c_63 z.1 | exact z.2.elim c_68 c_74)
             rw [show nI k + Int32.ofInt 1 = nI (k + 1) from nI_1 k, ← e0]
             refine AW.sub (L' := [(0, .ref 2), (1, .int (nI i)), (2, .int c), (3, .ref (9 + 6 * i)), (4, .int (ptF K (rI M 7) (rJ M 5 3) c (k + 1))), (5, .int (nI (k + 1)))]) rfl ?_
             exact ih (k + 1) _ (by omega) jw)
        · refine a_iload dX9_points_77 rfl ?_
          refine a_aload_n dX9_points_79 rfl ?_
          refine a_getA (z := 62) kfX9_53 rfl rfl (st_2_6 hs) (by decide) (hlt hN (by decide)) dX9_points_80 ?_
          refine a_aload_n dX9_points_83 rfl ?_
          refine a_iload dX9_points_84 rfl ?_
          refine a_callV (mc1 := 0) (ms1 := 0) (As := [_, _]) kpX3_judge kmX9_165 (by decide) rfl (Nat.le_of_ble_eq_true rfl) rfl (by decide) rfl (by decide) (hlt hN (by decide)) (Nat.le_of_ble_eq_true rfl) (Nat.le_of_ble_eq_true rfl) (Nat.le_of_ble_eq_true rfl) dX9_points_86 (w_X3_judge (M := Mk) hi hk64 hBk hN hs ?_)
          intro M2 j2 _
          rw [hK Mk k jw hk64 (bI_nz.mp c_63)]
          have jw2 := jw.tr j2
          have hs2 : Str M2.2.2.1 := by rw [j2.2.2]; exact hsk
          have hs := hs2
          refine a_aload_n dX9_points_89 rfl ?_
          refine a_getA (z := 5) kfX9_19 rfl rfl (st_2_1 hs) (by decide) (hlt hN (by decide)) dX9_points_90 ?_
          refine a_iload dX9_points_93 rfl ?_
          refine a_callV (mc1 := 0) (ms1 := 0) (As := [_]) kpX4_worth kmX9_168 (by decide) rfl (Nat.le_of_ble_eq_true rfl) rfl (by decide) rfl (by decide) (hlt hN (by decide)) (Nat.le_of_ble_eq_true rfl) (Nat.le_of_ble_eq_true rfl) (Nat.le_of_ble_eq_true rfl) dX9_points_95 (w_X4_worth hk64 hN hs ?_)
          rw [show rI M2 7 k = rI M 7 k from jw2.1 _ _ (by decide)]
          refine a_callS (mc1 := 0) (ms1 := 0) (As := [_, _]) kpX9_share kmX9_171 (by decide) rfl (Nat.le_of_ble_eq_true rfl) (Nat.le_of_ble_eq_true rfl) (Nat.le_of_ble_eq_true rfl) (Nat.le_of_ble_eq_true rfl) dX9_points_98 (w_X9_share (by rw [← hK Mk k jw hk64 (bI_nz.mp c_63)]; exact jdK_6) ?_)
          refine a_iadd dX9_points_101 ?_
          refine a_istore dX9_points_102 (by decide) ?_
          refine a_iinc dX9_points_104 rfl rfl (by decide) ?_
          refine a_goto (tgt := 47) dX9_points_107 (by decide) ?_
          first
          | (have e1 := ptF_1 (K := K) (W := rI M 7) (c := c) (bI_nz.mp c_63) (by first | exact Or.inl c_68 | exact Or.inr c_74)
             rw [show nI k + Int32.ofInt 1 = nI (k + 1) from nI_1 k, ← e1]
             refine AW.sub (L' := [(0, .ref 2), (1, .int (nI i)), (2, .int c), (3, .ref (9 + 6 * i)), (4, .int (ptF K (rI M 7) (rJ M 5 3) c (k + 1))), (5, .int (nI (k + 1)))]) rfl ?_
             exact ih (k + 1) _ (by omega) jw2)
          | (have e0 : ptF K (rI M 7) (rJ M 5 3) c (k + 1) = ptF K (rI M 7) (rJ M 5 3) c k := ptF_0 (fun z => by first | exact bI_z.mp c_63 z.1 | exact z.2.elim c_68 c_74)
             rw [show nI k + Int32.ofInt 1 = nI (k + 1) from nI_1 k, ← e0]
             refine AW.sub (L' := [(0, .ref 2), (1, .int (nI i)), (2, .int c), (3, .ref (9 + 6 * i)), (4, .int (ptF K (rI M 7) (rJ M 5 3) c (k + 1))), (5, .int (nI (k + 1)))]) rfl ?_
             exact ih (k + 1) _ (by omega) jw)
theorem w_X9_points {M : Mem} {N : Nat} {Q : Option Value → Nat → Mem → Prop} {i n : Nat} (hi : i < 6) (h0 : 0 < i) (hB : Bas M N n) {K : Nat → Int32} (hK : ∀ M' j, Jw (opM M i n) M' → j < 64 → hb (rJ M 5 3) (nI j) = true → jdK M' (9 + 6 * i) j n = K j) {c : Int32} (hw : c = -1 ∨ hb (rJ M 5 3) c = true)  (hN : 94 ≤ N) (hs : Str M.2.2.1) (h : ∀ M', Jw (opM M i n) M' → Q (some (.int (ptF K (rI M 7) (rJ M 5 3) c 64))) N M') : AW mX9_points 8 0 0 N 0 [(0, .ref 2), (1, .int (nI i)), (2, .int c)] [] M Q := by
  have hn := hB.1
  have hn6 := hB.2.1
  have eW : rJ (opM M i n) 5 3 = rJ M 5 3 := opM_sx.2.1 _ _ (by decide)
  have eV : rI (opM M i n) 7 = rI M 7 := funext fun j => opM_sx.1 _ _ (by decide)
  refine a_aload_n dX9_points_0 rfl ?_
  refine a_iload_n dX9_points_1 rfl ?_
  refine a_callV (mc1 := 0) (ms1 := 0) (As := [_]) kpX9_pupilAt kmX9_158 (by decide) rfl (Nat.le_of_ble_eq_true rfl) rfl (by decide) rfl (by decide) (hlt hN (by decide)) (Nat.le_of_ble_eq_true rfl) (Nat.le_of_ble_eq_true rfl) (Nat.le_of_ble_eq_true rfl) dX9_points_2 (w_X9_pupilAt hi h0 hN hs ?_)
  refine a_astore_n dX9_points_5 (by decide) ?_
  refine a_aload_n dX9_points_6 rfl ?_
  refine a_ifnull dX9_points_7 ?_
  refine a_iload_n dX9_points_10 rfl ?_
  refine a_iconst (v := (-1)) dX9_points_11 (by decide) ?_
  refine a_icmp_eq (tgt := 28) dX9_points_12 (by decide) (fun c_12 => ?_) (fun c_12 => ?_)
  · refine a_aload_n dX9_points_28 rfl ?_
    refine a_getA (z := 62) kfX9_53 rfl rfl (st_2_6 hs) (by decide) (hlt hN (by decide)) dX9_points_29 ?_
    refine a_aload_n dX9_points_32 rfl ?_
    refine a_iconst (v := 0) dX9_points_33 (by decide) ?_
    refine a_callV (mc1 := 0) (ms1 := 0) (As := [_]) kpX9_sheetAt kmX9_69 (by decide) rfl (Nat.le_of_ble_eq_true rfl) rfl (by decide) rfl (by decide) (hlt hN (by decide)) (Nat.le_of_ble_eq_true rfl) (Nat.le_of_ble_eq_true rfl) (Nat.le_of_ble_eq_true rfl) dX9_points_34 (w_X9_sheetAt (i := 0) (by decide) hN hs ?_)
    refine a_aload_n dX9_points_37 rfl ?_
    refine a_callV (mc1 := 0) (ms1 := 0) (As := [_, _]) kpX3_open kmX9_161 (by decide) rfl (Nat.le_of_ble_eq_true rfl) rfl (by decide) rfl (by decide) (hlt hN (by decide)) (Nat.le_of_ble_eq_true rfl) (Nat.le_of_ble_eq_true rfl) (Nat.le_of_ble_eq_true rfl) dX9_points_38 (w_X3_open hi hB hN hs ?_)
    refine a_iconst (v := 0) dX9_points_41 (by decide) ?_
    refine a_istore dX9_points_42 (by decide) ?_
    refine a_iconst (v := 0) dX9_points_44 (by decide) ?_
    refine a_istore dX9_points_45 (by decide) ?_
    refine AW.sub (L' := [(0, .ref 2), (1, .int (nI i)), (2, .int c), (3, .ref (9 + 6 * i)), (4, .int 0), (5, .int (nI 0))]) rfl ?_
    exact l_X9_points (M := opM M i n) (K := K) hi h0 (hB.sx opM_sx) (fun M' j jw hj hw => hK M' j jw hj (by rw [← eW]; exact hw)) hN (by rw [opM_sx.2.2]; exact hs) (fun M' jw => by rw [eW, eV]; exact h M' jw) 64 0 _ (by omega) Jw.rf
  · refine a_aload_n dX9_points_15 rfl ?_
    refine a_getA (z := 5) kfX9_19 rfl rfl (st_2_1 hs) (by decide) (hlt hN (by decide)) dX9_points_16 ?_
    refine a_iload_n dX9_points_19 rfl ?_
    refine a_callV (mc1 := 0) (ms1 := 0) (As := [_]) kpX4_isWanted kmX9_113 (by decide) rfl (Nat.le_of_ble_eq_true rfl) rfl (by decide) rfl (by decide) (hlt hN (by decide)) (Nat.le_of_ble_eq_true rfl) (Nat.le_of_ble_eq_true rfl) (Nat.le_of_ble_eq_true rfl) dX9_points_20 (w_X4_isWanted hN hs ?_)
    refine a_if_ne (tgt := 28) dX9_points_23 (by decide) (fun c_23 => ?_) (fun c_23 => absurd c_23 (bI_nz.mpr (hw.resolve_left c_12)))
    refine a_aload_n dX9_points_28 rfl ?_
    refine a_getA (z := 62) kfX9_53 rfl rfl (st_2_6 hs) (by decide) (hlt hN (by decide)) dX9_points_29 ?_
    refine a_aload_n dX9_points_32 rfl ?_
    refine a_iconst (v := 0) dX9_points_33 (by decide) ?_
    refine a_callV (mc1 := 0) (ms1 := 0) (As := [_]) kpX9_sheetAt kmX9_69 (by decide) rfl (Nat.le_of_ble_eq_true rfl) rfl (by decide) rfl (by decide) (hlt hN (by decide)) (Nat.le_of_ble_eq_true rfl) (Nat.le_of_ble_eq_true rfl) (Nat.le_of_ble_eq_true rfl) dX9_points_34 (w_X9_sheetAt (i := 0) (by decide) hN hs ?_)
    refine a_aload_n dX9_points_37 rfl ?_
    refine a_callV (mc1 := 0) (ms1 := 0) (As := [_, _]) kpX3_open kmX9_161 (by decide) rfl (Nat.le_of_ble_eq_true rfl) rfl (by decide) rfl (by decide) (hlt hN (by decide)) (Nat.le_of_ble_eq_true rfl) (Nat.le_of_ble_eq_true rfl) (Nat.le_of_ble_eq_true rfl) dX9_points_38 (w_X3_open hi hB hN hs ?_)
    refine a_iconst (v := 0) dX9_points_41 (by decide) ?_
    refine a_istore dX9_points_42 (by decide) ?_
    refine a_iconst (v := 0) dX9_points_44 (by decide) ?_
    refine a_istore dX9_points_45 (by decide) ?_
    refine AW.sub (L' := [(0, .ref 2), (1, .int (nI i)), (2, .int c), (3, .ref (9 + 6 * i)), (4, .int 0), (5, .int (nI 0))]) rfl ?_
    exact l_X9_points (M := opM M i n) (K := K) hi h0 (hB.sx opM_sx) (fun M' j jw hj hw => hK M' j jw hj (by rw [← eW]; exact hw)) hN (by rw [opM_sx.2.2]; exact hs) (fun M' jw => by rw [eW, eV]; exact h M' jw) 64 0 _ (by omega) Jw.rf

theorem w_X9_points_o1 {M : Mem} {N : Nat} {Q : Option Value → Nat → Mem → Prop} {s c : Int32} (hc : ¬ (1 ≤ s.toInt ∧ s.toInt < 6))  (hN : 94 ≤ N) (hs : Str M.2.2.1) (h : Q (some (.int (-1))) N (M)) : AW mX9_points 8 0 0 N 0 [(0, .ref 2), (1, .int s), (2, .int c)] [] M Q := by
  refine a_aload_n dX9_points_0 rfl ?_
  refine a_iload_n dX9_points_1 rfl ?_
  refine a_callV (mc1 := 0) (ms1 := 0) (As := [_]) kpX9_pupilAt kmX9_158 (by decide) rfl (Nat.le_of_ble_eq_true rfl) rfl (by decide) rfl (by decide) (hlt hN (by decide)) (Nat.le_of_ble_eq_true rfl) (Nat.le_of_ble_eq_true rfl) (Nat.le_of_ble_eq_true rfl) dX9_points_2 (w_X9_pupilAt_out hc hN hs ?_)
  refine a_astore_nN dX9_points_5 (by decide) ?_
  refine a_aload_nN dX9_points_6 rfl ?_
  refine a_ifnullN (tgt := 26) dX9_points_7 (by decide) ?_
  refine a_iconst (v := (-1)) dX9_points_26 (by decide) ?_
  refine a_iret dX9_points_27 rfl h

theorem w_X9_points_o2 {M : Mem} {N : Nat} {Q : Option Value → Nat → Mem → Prop} {i : Nat} {c : Int32} (hi : i < 6) (h0 : 0 < i) (hw : ¬ (c = -1 ∨ hb (rJ M 5 3) c = true))  (hN : 94 ≤ N) (hs : Str M.2.2.1) (h : Q (some (.int (-1))) N (M)) : AW mX9_points 8 0 0 N 0 [(0, .ref 2), (1, .int (nI i)), (2, .int c)] [] M Q := by
  refine a_aload_n dX9_points_0 rfl ?_
  refine a_iload_n dX9_points_1 rfl ?_
  refine a_callV (mc1 := 0) (ms1 := 0) (As := [_]) kpX9_pupilAt kmX9_158 (by decide) rfl (Nat.le_of_ble_eq_true rfl) rfl (by decide) rfl (by decide) (hlt hN (by decide)) (Nat.le_of_ble_eq_true rfl) (Nat.le_of_ble_eq_true rfl) (Nat.le_of_ble_eq_true rfl) dX9_points_2 (w_X9_pupilAt hi h0 hN hs ?_)
  refine a_astore_n dX9_points_5 (by decide) ?_
  refine a_aload_n dX9_points_6 rfl ?_
  refine a_ifnull dX9_points_7 ?_
  refine a_iload_n dX9_points_10 rfl ?_
  refine a_iconst (v := (-1)) dX9_points_11 (by decide) ?_
  refine a_icmp_eq (tgt := 28) dX9_points_12 (by decide) (fun c_12 => absurd c_12 (fun z => hw (Or.inl z))) (fun c_12 => ?_)
  refine a_aload_n dX9_points_15 rfl ?_
  refine a_getA (z := 5) kfX9_19 rfl rfl (st_2_1 hs) (by decide) (hlt hN (by decide)) dX9_points_16 ?_
  refine a_iload_n dX9_points_19 rfl ?_
  refine a_callV (mc1 := 0) (ms1 := 0) (As := [_]) kpX4_isWanted kmX9_113 (by decide) rfl (Nat.le_of_ble_eq_true rfl) rfl (by decide) rfl (by decide) (hlt hN (by decide)) (Nat.le_of_ble_eq_true rfl) (Nat.le_of_ble_eq_true rfl) (Nat.le_of_ble_eq_true rfl) dX9_points_20 (w_X4_isWanted hN hs ?_)
  refine a_if_ne (tgt := 28) dX9_points_23 (by decide) (fun c_23 => absurd (bI_z.mpr (fun z => hw (Or.inr z))) c_23) (fun c_23 => ?_)
  refine a_iconst (v := (-1)) dX9_points_26 (by decide) ?_
  refine a_iret dX9_points_27 rfl h

/-- the i-th of the cells that fa holds of: how many were ahead, and it -/
def pkF (fa : Nat → Bool) (i : Int32) : Nat → Nat × Option Nat
  | 0 => (0, none)
  | k + 1 => match (pkF fa i k).2 with
    | some j => ((pkF fa i k).1, some j)
    | none => if fa k = true then (if nI (pkF fa i k).1 = i then ((pkF fa i k).1, some k) else ((pkF fa i k).1 + 1, none)) else ((pkF fa i k).1, none)
def pkV (fa : Nat → Bool) (i : Int32) : Int32 := match (pkF fa i 64).2 with
  | some j => nI j
  | none => -1
theorem pkF_up {fa : Nat → Bool} {i : Int32} {k j : Nat} (h : (pkF fa i k).2 = some j) : ∀ r, (pkF fa i (k + r)).2 = some j
  | 0 => h
  | r + 1 => by
    have := pkF_up h r
    show (match (pkF fa i (k + r)).2 with
      | some j => ((pkF fa i (k + r)).1, some j)
      | none => _).2 = some j
    rw [this]
theorem pkF_le {fa : Nat → Bool} {i : Int32} : ∀ k, (pkF fa i k).1 ≤ k
  | 0 => Nat.le_refl _
  | k + 1 => by
    have ih := pkF_le (fa := fa) (i := i) k
    unfold pkF
    split
    · show (pkF fa i k).1 ≤ k + 1
      omega
    · split
      · split
        · show (pkF fa i k).1 ≤ k + 1
          omega
        · show (pkF fa i k).1 + 1 ≤ k + 1
          omega
      · show (pkF fa i k).1 ≤ k + 1
        omega
theorem pkF_0 {fa : Nat → Bool} {i : Int32} {k : Nat} (h : (pkF fa i k).2 = none) (hf : ¬ fa k = true) : pkF fa i (k + 1) = ((pkF fa i k).1, none) := by
  show (match (pkF fa i k).2 with
      | some j => ((pkF fa i k).1, some j)
      | none => _) = _
  rw [h]
  exact if_neg hf
theorem pkF_1 {fa : Nat → Bool} {i : Int32} {k : Nat} (h : (pkF fa i k).2 = none) (hf : fa k = true) (hi : ¬ nI (pkF fa i k).1 = i) : pkF fa i (k + 1) = ((pkF fa i k).1 + 1, none) := by
  show (match (pkF fa i k).2 with
      | some j => ((pkF fa i k).1, some j)
      | none => _) = _
  rw [h]
  exact (if_pos hf).trans (if_neg hi)
theorem pkV_1 {fa : Nat → Bool} {i : Int32} {k : Nat} (hk : k < 64) (h : (pkF fa i k).2 = none) (hf : fa k = true) (hi : nI (pkF fa i k).1 = i) : pkV fa i = nI k := by
  have e : (pkF fa i (k + 1)).2 = some k := by
    show (match (pkF fa i k).2 with
      | some j => ((pkF fa i k).1, some j)
      | none => _).2 = _
    rw [h]
    exact congrArg Prod.snd ((if_pos hf).trans (if_pos hi))
  have := pkF_up e (63 - k)
  rw [show k + 1 + (63 - k) = 64 by omega] at this
  unfold pkV
  rw [this]
theorem pkV_0 {fa : Nat → Bool} {i : Int32} (h : (pkF fa i 64).2 = none) : pkV fa i = -1 := by unfold pkV; rw [h]
/-- faulty cells -/
def faF (K : Nat → Int32) (wd : Int64) : Nat → Bool := fun k => hb wd (nI k) && (!(K k == 1) && !(K k == 3))
theorem faF_1 {K : Nat → Int32} {wd : Int64} {k : Nat} (h : hb wd (nI k) = true) (h2 : (K k).toInt ≠ 1 ∧ (K k).toInt ≠ 3) : faF K wd k = true := by
  unfold faF
  have a : ¬ K k = 1 := fun e => h2.1 (by rw [e]; rfl)
  have b : ¬ K k = 3 := fun e => h2.2 (by rw [e]; rfl)
  simp [h, a, b]
theorem faF_0 {K : Nat → Int32} {wd : Int64} {k : Nat} (h : ¬ hb wd (nI k) = true ∨ ¬ ((K k).toInt ≠ 1 ∧ (K k).toInt ≠ 3)) : ¬ faF K wd k = true := by
  unfold faF
  rw [Bool.and_eq_true, Bool.and_eq_true]
  rintro ⟨a, b, c⟩
  rcases h with h | h
  · exact h a
  · refine h ⟨fun e => ?_, fun e => ?_⟩
    · have : K k = 1 := Int32.toInt_inj.mp e
      rw [this] at b; exact absurd b (by decide)
    · have : K k = 3 := Int32.toInt_inj.mp e
      rw [this] at c; exact absurd c (by decide)
theorem l_X9_fault {M : Mem} {N : Nat} {Q : Option Value → Nat → Mem → Prop} {i n : Nat} (hi : i < 6) (h0 : 0 < i) (hB : Bas M N n) {K : Nat → Int32} (hK : ∀ M' j, Jw M M' → j < 64 → hb (rJ M 5 3) (nI j) = true → jdK M' (9 + 6 * i) j n = K j) {c : Int32} (hN : 94 ≤ N) (hs : Str M.2.2.1) (h : ∀ M', Jw M M' → Q (some (.int (pkV (faF K (rJ M 5 3)) c))) N M') : ∀ (r k : Nat) (Mk : Mem), k + r = 64 → Jw M Mk → (pkF (faF K (rJ M 5 3)) c k).2 = none → AW mX9_fault 8 0 0 N 35 [(0, .ref 2), (1, .int (nI i)), (2, .int c), (3, .ref (9 + 6 * i)), (4, .int (nI (pkF (faF K (rJ M 5 3)) c k).1)), (5, .int (nI k))] [] Mk Q := by
  intro r
  induction r with
  | zero =>
    intro k Mk hk jw hinv
    have hsk : Str Mk.2.2.1 := by rw [jw.2.2]; exact hs
    have hs := hsk
    have eW : rJ Mk 5 3 = rJ M 5 3 := jw.2.1 _ _ (by decide)
    obtain rfl : k = 64 := by omega
    refine a_iload dX9_fault_35 rfl ?_
    refine a_bipush (v := 64) dX9_fault_37 (by decide) ?_
    refine a_icmp_ge (tgt := 88) dX9_fault_39 (by decide) (fun c_39 => ?_) (fun c_39 => absurd (nI_le (a := 64) (b := 64) (by omega) (by decide)) c_39)
    refine a_iconst (v := (-1)) dX9_fault_88 (by decide) ?_
    refine a_iret dX9_fault_89 rfl (ret_i (pkV_0 hinv) (h _ jw))
  | succ r ih =>
    intro k Mk hk jw hinv
    have hsk : Str Mk.2.2.1 := by rw [jw.2.2]; exact hs
    have hs := hsk
    have eW : rJ Mk 5 3 = rJ M 5 3 := jw.2.1 _ _ (by decide)
    have hk64 : k < 64 := by omega
    have hBk : Bas Mk N n := hB.sx jw.sx
    refine a_iload dX9_fault_35 rfl ?_
    refine a_bipush (v := 64) dX9_fault_37 (by decide) ?_
    refine a_icmp_ge (tgt := 88) dX9_fault_39 (by decide) (fun c_39 => absurd c_39 (nI_ge (b := 64) (by omega) (by decide))) (fun c_39 => ?_)
    refine a_aload_n dX9_fault_42 rfl ?_
    refine a_getA (z := 5) kfX9_19 rfl rfl (st_2_1 hs) (by decide) (hlt hN (by decide)) dX9_fault_43 ?_
    refine a_iload dX9_fault_46 rfl ?_
    refine a_callV (mc1 := 0) (ms1 := 0) (As := [_]) kpX4_isWanted kmX9_113 (by decide) rfl (Nat.le_of_ble_eq_true rfl) rfl (by decide) rfl (by decide) (hlt hN (by decide)) (Nat.le_of_ble_eq_true rfl) (Nat.le_of_ble_eq_true rfl) (Nat.le_of_ble_eq_true rfl) dX9_fault_48 (w_X4_isWanted hN hs ?_)
    rw [eW]
    refine a_if_eq (tgt := 82) dX9_fault_51 (by decide) (fun c_51 => ?_) (fun c_51 => ?_)
    · refine a_iinc dX9_fault_82 rfl rfl (by decide) ?_
      refine a_goto (tgt := 35) dX9_fault_85 (by decide) ?_
      first
      | (have e1 := pkF_1 hinv (faF_1 (bI_nz.mp c_51) (bI_nz.mp c_67)) c_73
         rw [show nI k + Int32.ofInt 1 = nI (k + 1) from nI_1 k, show nI (pkF (faF K (rJ M 5 3)) c k).1 + Int32.ofInt 1 = nI ((pkF (faF K (rJ M 5 3)) c k).1 + 1) from nI_1 _, show (pkF (faF K (rJ M 5 3)) c k).1 + 1 = (pkF (faF K (rJ M 5 3)) c (k + 1)).1 by rw [e1]]
         refine AW.sub (L' := [(0, .ref 2), (1, .int (nI i)), (2, .int c), (3, .ref (9 + 6 * i)), (4, .int (nI (pkF (faF K (rJ M 5 3)) c (k + 1)).1)), (5, .int (nI (k + 1)))]) rfl ?_
         exact ih (k + 1) _ (by omega) jw2 (by rw [e1]))
      | (have e0 := pkF_0 (i := c) hinv (faF_0 (K := K) (by first | exact Or.inr (bI_z.mp c_67) | exact Or.inl (bI_z.mp c_51)))
         rw [show nI k + Int32.ofInt 1 = nI (k + 1) from nI_1 k, show (pkF (faF K (rJ M 5 3)) c k).1 = (pkF (faF K (rJ M 5 3)) c (k + 1)).1 by rw [e0]]
         refine AW.sub (L' := [(0, .ref 2), (1, .int (nI i)), (2, .int c), (3, .ref (9 + 6 * i)), (4, .int (nI (pkF (faF K (rJ M 5 3)) c (k + 1)).1)), (5, .int (nI (k + 1)))]) rfl ?_
         exact ih (k + 1) _ (by omega) (by first | exact jw2 | exact jw) (by rw [e0]))
    · refine a_aload_n dX9_fault_54 rfl ?_
      refine a_getA (z := 62) kfX9_53 rfl rfl (st_2_6 hs) (by decide) (hlt hN (by decide)) dX9_fault_55 ?_
      refine a_aload_n dX9_fault_58 rfl ?_
      refine a_iload dX9_fault_59 rfl ?_
      refine a_callV (mc1 := 0) (ms1 := 0) (As := [_, _]) kpX3_judge kmX9_165 (by decide) rfl (Nat.le_of_ble_eq_true rfl) rfl (by decide) rfl (by decide) (hlt hN (by decide)) (Nat.le_of_ble_eq_true rfl) (Nat.le_of_ble_eq_true rfl) (Nat.le_of_ble_eq_true rfl) dX9_fault_61 (w_X3_judge (M := Mk) hi hk64 hBk hN hs ?_)
      intro M2 j2 _
      rw [hK Mk k jw hk64 (bI_nz.mp c_51)]
      have jw2 := jw.tr j2
      have hs2 : Str M2.2.2.1 := by rw [j2.2.2]; exact hsk
      have hs := hs2
      refine a_callS (mc1 := 0) (ms1 := 0) (As := [_]) kpX9_isFaulty kmX9_180 (by decide) rfl (Nat.le_of_ble_eq_true rfl) (Nat.le_of_ble_eq_true rfl) (Nat.le_of_ble_eq_true rfl) (Nat.le_of_ble_eq_true rfl) dX9_fault_64 (w_X9_isFaulty ?_)
      refine a_if_eq (tgt := 82) dX9_fault_67 (by decide) (fun c_67 => ?_) (fun c_67 => ?_)
      · refine a_iinc dX9_fault_82 rfl rfl (by decide) ?_
        refine a_goto (tgt := 35) dX9_fault_85 (by decide) ?_
        first
        | (have e1 := pkF_1 hinv (faF_1 (bI_nz.mp c_51) (bI_nz.mp c_67)) c_73
           rw [show nI k + Int32.ofInt 1 = nI (k + 1) from nI_1 k, show nI (pkF (faF K (rJ M 5 3)) c k).1 + Int32.ofInt 1 = nI ((pkF (faF K (rJ M 5 3)) c k).1 + 1) from nI_1 _, show (pkF (faF K (rJ M 5 3)) c k).1 + 1 = (pkF (faF K (rJ M 5 3)) c (k + 1)).1 by rw [e1]]
           refine AW.sub (L' := [(0, .ref 2), (1, .int (nI i)), (2, .int c), (3, .ref (9 + 6 * i)), (4, .int (nI (pkF (faF K (rJ M 5 3)) c (k + 1)).1)), (5, .int (nI (k + 1)))]) rfl ?_
           exact ih (k + 1) _ (by omega) jw2 (by rw [e1]))
        | (have e0 := pkF_0 (i := c) hinv (faF_0 (K := K) (by first | exact Or.inr (bI_z.mp c_67) | exact Or.inl (bI_z.mp c_51)))
           rw [show nI k + Int32.ofInt 1 = nI (k + 1) from nI_1 k, show (pkF (faF K (rJ M 5 3)) c k).1 = (pkF (faF K (rJ M 5 3)) c (k + 1)).1 by rw [e0]]
           refine AW.sub (L' := [(0, .ref 2), (1, .int (nI i)), (2, .int c), (3, .ref (9 + 6 * i)), (4, .int (nI (pkF (faF K (rJ M 5 3)) c (k + 1)).1)), (5, .int (nI (k + 1)))]) rfl ?_
           exact ih (k + 1) _ (by omega) (by first | exact jw2 | exact jw) (by rw [e0]))
      · refine a_iload dX9_fault_70 rfl ?_
        refine a_iload_n dX9_fault_72 rfl ?_
        refine a_icmp_ne (tgt := 79) dX9_fault_73 (by decide) (fun c_73 => ?_) (fun c_73 => ?_)
        · refine a_iinc dX9_fault_79 rfl rfl (by decide) ?_
          refine a_iinc dX9_fault_82 rfl rfl (by decide) ?_
          refine a_goto (tgt := 35) dX9_fault_85 (by decide) ?_
          first
          | (have e1 := pkF_1 hinv (faF_1 (bI_nz.mp c_51) (bI_nz.mp c_67)) c_73
             rw [show nI k + Int32.ofInt 1 = nI (k + 1) from nI_1 k, show nI (pkF (faF K (rJ M 5 3)) c k).1 + Int32.ofInt 1 = nI ((pkF (faF K (rJ M 5 3)) c k).1 + 1) from nI_1 _, show (pkF (faF K (rJ M 5 3)) c k).1 + 1 = (pkF (faF K (rJ M 5 3)) c (k + 1)).1 by rw [e1]]
             refine AW.sub (L' := [(0, .ref 2), (1, .int (nI i)), (2, .int c), (3, .ref (9 + 6 * i)), (4, .int (nI (pkF (faF K (rJ M 5 3)) c (k + 1)).1)), (5, .int (nI (k + 1)))]) rfl ?_
             exact ih (k + 1) _ (by omega) jw2 (by rw [e1]))
          | (have e0 := pkF_0 (i := c) hinv (faF_0 (K := K) (by first | exact Or.inr (bI_z.mp c_67) | exact Or.inl (bI_z.mp c_51)))
             rw [show nI k + Int32.ofInt 1 = nI (k + 1) from nI_1 k, show (pkF (faF K (rJ M 5 3)) c k).1 = (pkF (faF K (rJ M 5 3)) c (k + 1)).1 by rw [e0]]
             refine AW.sub (L' := [(0, .ref 2), (1, .int (nI i)), (2, .int c), (3, .ref (9 + 6 * i)), (4, .int (nI (pkF (faF K (rJ M 5 3)) c (k + 1)).1)), (5, .int (nI (k + 1)))]) rfl ?_
             exact ih (k + 1) _ (by omega) (by first | exact jw2 | exact jw) (by rw [e0]))
        · refine a_iload dX9_fault_76 rfl ?_
          refine a_iret dX9_fault_78 rfl (ret_i (pkV_1 hk64 hinv (faF_1 (bI_nz.mp c_51) (bI_nz.mp c_67)) c_73) (h _ jw2))
theorem w_X9_fault {M : Mem} {N : Nat} {Q : Option Value → Nat → Mem → Prop} {i n : Nat} (hi : i < 6) (h0 : 0 < i) (hB : Bas M N n) {K : Nat → Int32} (hK : ∀ M' j, Jw (opM M i n) M' → j < 64 → hb (rJ M 5 3) (nI j) = true → jdK M' (9 + 6 * i) j n = K j) {c : Int32} (hw : 0 ≤ c)  (hN : 94 ≤ N) (hs : Str M.2.2.1) (h : ∀ M', Jw (opM M i n) M' → Q (some (.int (pkV (faF K (rJ M 5 3)) c))) N M') : AW mX9_fault 8 0 0 N 0 [(0, .ref 2), (1, .int (nI i)), (2, .int c)] [] M Q := by
  have hn := hB.1
  have hn6 := hB.2.1
  have eW : rJ (opM M i n) 5 3 = rJ M 5 3 := opM_sx.2.1 _ _ (by decide)
  refine a_aload_n dX9_fault_0 rfl ?_
  refine a_iload_n dX9_fault_1 rfl ?_
  refine a_callV (mc1 := 0) (ms1 := 0) (As := [_]) kpX9_pupilAt kmX9_158 (by decide) rfl (Nat.le_of_ble_eq_true rfl) rfl (by decide) rfl (by decide) (hlt hN (by decide)) (Nat.le_of_ble_eq_true rfl) (Nat.le_of_ble_eq_true rfl) (Nat.le_of_ble_eq_true rfl) dX9_fault_2 (w_X9_pupilAt hi h0 hN hs ?_)
  refine a_astore_n dX9_fault_5 (by decide) ?_
  refine a_aload_n dX9_fault_6 rfl ?_
  refine a_ifnull dX9_fault_7 ?_
  refine a_iload_n dX9_fault_10 rfl ?_
  refine a_if_ge (tgt := 16) dX9_fault_11 (by decide) (fun c_11 => ?_) (fun c_11 => absurd hw c_11)
  refine a_aload_n dX9_fault_16 rfl ?_
  refine a_getA (z := 62) kfX9_53 rfl rfl (st_2_6 hs) (by decide) (hlt hN (by decide)) dX9_fault_17 ?_
  refine a_aload_n dX9_fault_20 rfl ?_
  refine a_iconst (v := 0) dX9_fault_21 (by decide) ?_
  refine a_callV (mc1 := 0) (ms1 := 0) (As := [_]) kpX9_sheetAt kmX9_69 (by decide) rfl (Nat.le_of_ble_eq_true rfl) rfl (by decide) rfl (by decide) (hlt hN (by decide)) (Nat.le_of_ble_eq_true rfl) (Nat.le_of_ble_eq_true rfl) (Nat.le_of_ble_eq_true rfl) dX9_fault_22 (w_X9_sheetAt (i := 0) (by decide) hN hs ?_)
  refine a_aload_n dX9_fault_25 rfl ?_
  refine a_callV (mc1 := 0) (ms1 := 0) (As := [_, _]) kpX3_open kmX9_161 (by decide) rfl (Nat.le_of_ble_eq_true rfl) rfl (by decide) rfl (by decide) (hlt hN (by decide)) (Nat.le_of_ble_eq_true rfl) (Nat.le_of_ble_eq_true rfl) (Nat.le_of_ble_eq_true rfl) dX9_fault_26 (w_X3_open hi hB hN hs ?_)
  refine a_iconst (v := 0) dX9_fault_29 (by decide) ?_
  refine a_istore dX9_fault_30 (by decide) ?_
  refine a_iconst (v := 0) dX9_fault_32 (by decide) ?_
  refine a_istore dX9_fault_33 (by decide) ?_
  refine AW.sub (L' := [(0, .ref 2), (1, .int (nI i)), (2, .int c), (3, .ref (9 + 6 * i)), (4, .int 0), (5, .int (nI 0))]) rfl ?_
  exact l_X9_fault (M := opM M i n) (K := K) hi h0 (hB.sx opM_sx) (fun M' j jw hj hw => hK M' j jw hj (by rw [← eW]; exact hw)) hN (by rw [opM_sx.2.2]; exact hs) (fun M' jw => by rw [eW]; exact h M' jw) 64 0 _ (by omega) Jw.rf rfl

theorem w_X9_fault_o1 {M : Mem} {N : Nat} {Q : Option Value → Nat → Mem → Prop} {s c : Int32} (hc : ¬ (1 ≤ s.toInt ∧ s.toInt < 6))  (hN : 94 ≤ N) (hs : Str M.2.2.1) (h : Q (some (.int (-1))) N (M)) : AW mX9_fault 8 0 0 N 0 [(0, .ref 2), (1, .int s), (2, .int c)] [] M Q := by
  refine a_aload_n dX9_fault_0 rfl ?_
  refine a_iload_n dX9_fault_1 rfl ?_
  refine a_callV (mc1 := 0) (ms1 := 0) (As := [_]) kpX9_pupilAt kmX9_158 (by decide) rfl (Nat.le_of_ble_eq_true rfl) rfl (by decide) rfl (by decide) (hlt hN (by decide)) (Nat.le_of_ble_eq_true rfl) (Nat.le_of_ble_eq_true rfl) (Nat.le_of_ble_eq_true rfl) dX9_fault_2 (w_X9_pupilAt_out hc hN hs ?_)
  refine a_astore_nN dX9_fault_5 (by decide) ?_
  refine a_aload_nN dX9_fault_6 rfl ?_
  refine a_ifnullN (tgt := 14) dX9_fault_7 (by decide) ?_
  refine a_iconst (v := (-1)) dX9_fault_14 (by decide) ?_
  refine a_iret dX9_fault_15 rfl h

theorem w_X9_fault_o2 {M : Mem} {N : Nat} {Q : Option Value → Nat → Mem → Prop} {i : Nat} {c : Int32} (hi : i < 6) (h0 : 0 < i) (hw : ¬ 0 ≤ c)  (hN : 94 ≤ N) (hs : Str M.2.2.1) (h : Q (some (.int (-1))) N (M)) : AW mX9_fault 8 0 0 N 0 [(0, .ref 2), (1, .int (nI i)), (2, .int c)] [] M Q := by
  refine a_aload_n dX9_fault_0 rfl ?_
  refine a_iload_n dX9_fault_1 rfl ?_
  refine a_callV (mc1 := 0) (ms1 := 0) (As := [_]) kpX9_pupilAt kmX9_158 (by decide) rfl (Nat.le_of_ble_eq_true rfl) rfl (by decide) rfl (by decide) (hlt hN (by decide)) (Nat.le_of_ble_eq_true rfl) (Nat.le_of_ble_eq_true rfl) (Nat.le_of_ble_eq_true rfl) dX9_fault_2 (w_X9_pupilAt hi h0 hN hs ?_)
  refine a_astore_n dX9_fault_5 (by decide) ?_
  refine a_aload_n dX9_fault_6 rfl ?_
  refine a_ifnull dX9_fault_7 ?_
  refine a_iload_n dX9_fault_10 rfl ?_
  refine a_if_ge (tgt := 16) dX9_fault_11 (by decide) (fun c_11 => absurd c_11 hw) (fun c_11 => ?_)
  refine a_iconst (v := (-1)) dX9_fault_14 (by decide) ?_
  refine a_iret dX9_fault_15 rfl h

