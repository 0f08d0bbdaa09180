/-! one bit of a long -/
theorem sh63 : ∀ k, k < 64 → ((nI k).toInt64 &&& 63) = lN k := by decide +kernel
theorem smod64 : ∀ x, x < 64 → ((lN x).toBitVec.smod 64) = BitVec.ofNat 64 x := by decide +kernel
theorem bitL_sh {x : Nat} (hx : x < 64) : (1 : Int64) <<< ((nI x).toInt64 &&& 63) = bitL (nI x) := by
  unfold bitL
  rw [if_pos (by rw [nIt (by omega)]; omega)]
theorem bitL_bv {x : Nat} (hx : x < 64) : (bitL (nI x)).toBitVec = BitVec.twoPow 64 x := by
  rw [← bitL_sh hx, sh63 x hx, Int64.toBitVec_shiftLeft, smod64 x hx]
  rw [BitVec.shiftLeft_eq', BitVec.toNat_ofNat, Nat.mod_eq_of_lt (by omega)]
  rw [BitVec.twoPow_eq]
  rfl
theorem hb_bv {s : Int64} {x : Nat} (hx : x < 64) : hb s (nI x) = s.toBitVec.getLsbD x := by
  rw [Bool.eq_iff_iff, hb_iff]
  have e : s &&& bitL (nI x) = 0 ↔ ¬ s.toBitVec.getLsbD x = true := by
    rw [← Int64.toBitVec_inj, Int64.toBitVec_and, bitL_bv hx, BitVec.and_twoPow]
    have h2 : ¬ BitVec.twoPow 64 x = 0#64 := by
      intro z
      have := congrArg (fun b => BitVec.getLsbD b x) z
      simp [hx] at this
    by_cases c : s.toBitVec.getLsbD x = true
    · rw [if_pos c]
      exact ⟨fun z => absurd z h2, fun z => absurd c z⟩
    · rw [if_neg c]
      exact ⟨fun _ => c, fun _ => rfl⟩
  rw [e]
  exact ⟨fun z => Classical.byContradiction z, fun z y => y z⟩
theorem has_bv {s : Int64} {x : Nat} (hx : x < 64) : ((s >>> ((nI x).toInt64 &&& 63)) &&& 1 = 1) ↔ s.toBitVec.getLsbD x = true := by
  rw [← Int64.toBitVec_inj, Int64.toBitVec_and, sh63 x hx, Int64.toBitVec_shiftRight, smod64 x hx]
  rw [show (1 : Int64).toBitVec = 1#64 from rfl, BitVec.and_one_eq_setWidth_ofBool_getLsbD]
  have e : (s.toBitVec.sshiftRight' (BitVec.ofNat 64 x)).getLsbD 0 = s.toBitVec.getLsbD x := by
    rw [BitVec.sshiftRight_eq', BitVec.toNat_ofNat, Nat.mod_eq_of_lt (by omega), BitVec.getLsbD_sshiftRight]
    simp [hx]
  rw [e]
  cases s.toBitVec.getLsbD x <;> decide
