/-! how many bits: the class's reckoning is the count -/
theorem land8 {A B C D : Nat} (hB : B < 256) (hD : D < 256) : (256 * A + B) &&& (256 * C + D) = 256 * (A &&& C) + (B &&& D) := by
  have hB' : B < 2 ^ 8 := hB
  have hD' : D < 2 ^ 8 := hD
  have hBD : B &&& D < 2 ^ 8 := Nat.lt_of_le_of_lt Nat.and_le_left hB'
  refine Nat.eq_of_testBit_eq (fun i => ?_)
  rw [show 256 = 2 ^ 8 from rfl, Nat.testBit_and, Nat.testBit_two_pow_mul_add _ hB', Nat.testBit_two_pow_mul_add _ hD', Nat.testBit_two_pow_mul_add _ hBD]
  by_cases h : i < 8
  · rw [if_pos h, if_pos h, if_pos h, Nat.testBit_and]
  · rw [if_neg h, if_neg h, if_neg h, Nat.testBit_and]
def mkB (d : Nat) : Nat → Nat
  | 0 => 0
  | k + 1 => 256 * mkB d k + d
def bp1 (v m : Nat) : Nat := v - ((v / 2) &&& m)
def bp2 (v m : Nat) : Nat := (v &&& m) + ((v / 4) &&& m)
def bp3 (v m : Nat) : Nat := (v + v / 16) &&& m
theorem bq1 : ∀ B, B < 256 → ∀ r, r < 2 → (128 * r + B / 2) &&& 85 = (B / 2) &&& 85 := by decide +kernel
theorem bq2 : ∀ B, B < 256 → ∀ r, r < 4 → (64 * r + B / 4) &&& 51 = (B / 4) &&& 51 := by decide +kernel
theorem bq3 : ∀ B, B < 256 → ∀ r, r < 5 → (bp2 (bp1 B 85) 51 + 16 * r + bp2 (bp1 B 85) 51 / 16) &&& 15 = bp3 (bp2 (bp1 B 85) 51) 15 ∧ bp2 (bp1 B 85) 51 + 16 * r + bp2 (bp1 B 85) 51 / 16 < 256 ∧ bp2 (bp1 B 85) 51 % 16 < 5 ∧ bp1 B 85 < 256 ∧ bp2 (bp1 B 85) 51 < 256 := by decide +kernel
theorem bs1 {A B m : Nat} (hB : B < 256) : bp1 (256 * A + B) (256 * m + 85) = 256 * bp1 A m + bp1 B 85 := by
  unfold bp1
  have e : (256 * A + B) / 2 = 256 * (A / 2) + (128 * (A % 2) + B / 2) := by omega
  rw [e, land8 (by omega) (by decide), bq1 B hB _ (by omega)]
  have h1 : A / 2 &&& m ≤ A / 2 := Nat.and_le_left
  have h2 : B / 2 &&& 85 ≤ B / 2 := Nat.and_le_left
  omega
theorem bs2 {A B m : Nat} (hB : B < 256) : bp2 (256 * A + B) (256 * m + 51) = 256 * bp2 A m + bp2 B 51 := by
  unfold bp2
  have e : (256 * A + B) / 4 = 256 * (A / 4) + (64 * (A % 4) + B / 4) := by omega
  rw [e, land8 (by omega) (by decide), land8 (by omega) (by decide), bq2 B hB _ (by omega)]
  omega
def bpA (v k : Nat) : Nat := bp2 (bp1 v (mkB 85 k)) (mkB 51 k)
def bpF (v k : Nat) : Nat := bp3 (bpA v k) (mkB 15 k)
theorem bsA {A B k : Nat} (hB : B < 256) : bpA (256 * A + B) (k + 1) = 256 * bpA A k + bp2 (bp1 B 85) 51 := by
  unfold bpA
  rw [show mkB 85 (k + 1) = 256 * mkB 85 k + 85 from rfl, show mkB 51 (k + 1) = 256 * mkB 51 k + 51 from rfl, bs1 hB, bs2 (bq3 B hB 0 (by decide)).2.2.2.1]
theorem bsA_16 : ∀ (k A : Nat), A < 256 ^ k → bpA A k % 16 < 5
  | 0, A, h => by
    obtain rfl : A = 0 := by have : A < 1 := h; omega
    decide
  | k + 1, A, h => by
    have e : A = 256 * (A / 256) + A % 256 := by omega
    have hB : A % 256 < 256 := Nat.mod_lt _ (by decide)
    rw [e, bsA hB]
    have := (bq3 _ hB 0 (by decide)).2.2.1
    omega
theorem bsF {A B k : Nat} (hB : B < 256) (hA : A < 256 ^ k) : bpF (256 * A + B) (k + 1) = 256 * bpF A k + bp3 (bp2 (bp1 B 85) 51) 15 := by
  unfold bpF
  rw [bsA hB]
  have h16 := bsA_16 k A hA
  obtain ⟨b, hb⟩ : ∃ b, b = bp2 (bp1 B 85) 51 := ⟨_, rfl⟩
  obtain ⟨q1, q2, q3, q4, q5⟩ := bq3 B hB _ h16
  rw [← hb] at q1 q2 q5 ⊢
  have e : 256 * bpA A k + b + (256 * bpA A k + b) / 16 = 256 * (bpA A k + bpA A k / 16) + (b + 16 * (bpA A k % 16) + b / 16) := by omega
  show (256 * bpA A k + b + (256 * bpA A k + b) / 16) &&& (256 * mkB 15 k + 15) = 256 * ((bpA A k + bpA A k / 16) &&& mkB 15 k) + _
  rw [e, land8 q2 (by decide), q1]
/-- the bits of a number, from the low one -/
def nbt (v : Nat) : Nat → Nat
  | 0 => 0
  | k + 1 => nbt v k + v / 2 ^ k % 2
theorem nbt_add {A B a : Nat} (hB : B < 2 ^ a) : ∀ k, nbt (2 ^ a * A + B) (a + k) = nbt A k + nbt B a
  | 0 => by
    have g : ∀ j, j ≤ a → nbt (2 ^ a * A + B) j = nbt B j := by
      intro j
      induction j with
      | zero => exact fun _ => rfl
      | succ j ih =>
        intro hj
        show nbt (2 ^ a * A + B) j + (2 ^ a * A + B) / 2 ^ j % 2 = nbt B j + B / 2 ^ j % 2
        rw [ih (by omega)]
        have e : 2 ^ a = 2 ^ j * (2 * 2 ^ (a - j - 1)) := by
          rw [← Nat.pow_succ', ← Nat.pow_add]
          congr 1
          omega
        rw [e, Nat.mul_assoc, Nat.mul_add_div (Nat.two_pow_pos j), Nat.mul_assoc, Nat.mul_add_mod]
    rw [Nat.add_zero, g a (Nat.le_refl _)]
    exact (Nat.zero_add _).symm
  | k + 1 => by
    have ih := nbt_add (A := A) hB k
    show nbt (2 ^ a * A + B) (a + k) + (2 ^ a * A + B) / 2 ^ (a + k) % 2 = nbt A k + A / 2 ^ k % 2 + nbt B a
    rw [ih, Nat.pow_add, ← Nat.div_div_eq_div_mul, Nat.mul_add_div (Nat.two_pow_pos a), Nat.div_eq_of_lt hB, Nat.add_zero]
    omega
theorem bq4 : ∀ B, B < 256 → bp3 (bp2 (bp1 B 85) 51) 15 = nbt B 8 ∧ nbt B 8 ≤ 8 := by decide +kernel
theorem mkB_8 : mkB 85 8 = 6148914691236517205 ∧ mkB 51 8 = 3689348814741910323 ∧ mkB 15 8 = 1085102592571150095 := by decide
/-- all eight bytes -/
theorem bpF_8 {v : Nat} (hv : v < 2 ^ 64) : ∃ c0 c1 c2 c3 c4 c5 c6 c7 : Nat, c0 ≤ 8 ∧ c1 ≤ 8 ∧ c2 ≤ 8 ∧ c3 ≤ 8 ∧ c4 ≤ 8 ∧ c5 ≤ 8 ∧ c6 ≤ 8 ∧ c7 ≤ 8 ∧ bpF v 8 = 256 * (256 * (256 * (256 * (256 * (256 * (256 * c7 + c6) + c5) + c4) + c3) + c2) + c1) + c0 ∧ nbt v 64 = c7 + c6 + c5 + c4 + c3 + c2 + c1 + c0 := by
  have step : ∀ (k v : Nat), v < 256 ^ (k + 1) → ∃ A c, A < 256 ^ k ∧ c ≤ 8 ∧ bpF v (k + 1) = 256 * bpF A k + c ∧ nbt v (8 + 8 * k) = nbt A (8 * k) + c := by
    intro k v h
    have hB : v % 256 < 256 := Nat.mod_lt _ (by decide)
    have hA : v / 256 < 256 ^ k := by rw [Nat.pow_succ] at h; exact Nat.div_lt_of_lt_mul (by rw [Nat.mul_comm]; exact h)
    have e : v = 256 * (v / 256) + v % 256 := by omega
    refine ⟨v / 256, nbt (v % 256) 8, hA, (bq4 _ hB).2, ?_, ?_⟩
    · have := bsF (k := k) hB hA
      rw [← e, (bq4 _ hB).1] at this
      exact this
    · have := nbt_add (A := v / 256) (a := 8) (B := v % 256) hB (8 * k)
      rw [show 2 ^ 8 * (v / 256) + v % 256 = v from by show 256 * (v / 256) + v % 256 = v; omega] at this
      exact this
  obtain ⟨v1, c0, h1, l0, f0, n0⟩ := step 7 v hv
  obtain ⟨v2, c1, h2, l1, f1, n1⟩ := step 6 v1 h1
  obtain ⟨v3, c2, h3, l2, f2, n2⟩ := step 5 v2 h2
  obtain ⟨v4, c3, h4, l3, f3, n3⟩ := step 4 v3 h3
  obtain ⟨v5, c4, h5, l4, f4, n4⟩ := step 3 v4 h4
  obtain ⟨v6, c5, h6, l5, f5, n5⟩ := step 2 v5 h5
  obtain ⟨v7, c6, h7, l6, f6, n6⟩ := step 1 v6 h6
  obtain ⟨v8, c7, h8, l7, f7, n7⟩ := step 0 v7 h7
  have z8 : bpF v8 0 = 0 := by
    show (_ &&& 0) = 0
    exact Nat.and_zero _
  have y8 : nbt v8 (8 * 0) = 0 := rfl
  refine ⟨c0, c1, c2, c3, c4, c5, c6, c7, l0, l1, l2, l3, l4, l5, l6, l7, ?_, ?_⟩
  · rw [f0, f1, f2, f3, f4, f5, f6, f7, z8]
    omega
  · have e0 : nbt v 64 = nbt v1 56 + c0 := n0
    have e1 : nbt v1 56 = nbt v2 48 + c1 := n1
    have e2 : nbt v2 48 = nbt v3 40 + c2 := n2
    have e3 : nbt v3 40 = nbt v4 32 + c3 := n3
    have e4 : nbt v4 32 = nbt v5 24 + c4 := n4
    have e5 : nbt v5 24 = nbt v6 16 + c5 := n5
    have e6 : nbt v6 16 = nbt v7 8 + c6 := n6
    have e7 : nbt v7 8 = nbt v8 0 + c7 := n7
    have e8 : nbt v8 0 = 0 := rfl
    omega
/-- the class's words -/
theorem n_ush {x : Int64} {k : Int32} {i : Nat} (h : (k.toInt64.toUInt64 &&& Int64.toUInt64 63).toBitVec % 64 = BitVec.ofNat 64 i) (hi : i < 64) : (ush x k).toBitVec.toNat = x.toBitVec.toNat / 2 ^ i := by
  unfold ush
  rw [UInt64.toBitVec_toInt64, UInt64.toBitVec_shiftRight, h, Int64.toBitVec_toUInt64, BitVec.ushiftRight_eq', BitVec.toNat_ushiftRight, BitVec.toNat_ofNat, Nat.mod_eq_of_lt (by omega), Nat.shiftRight_eq_div_pow]
theorem n_and {x y : Int64} : (x &&& y).toBitVec.toNat = x.toBitVec.toNat &&& y.toBitVec.toNat := by rw [Int64.toBitVec_and, BitVec.toNat_and]
theorem n_add {x y : Int64} (h : x.toBitVec.toNat + y.toBitVec.toNat < 2 ^ 64) : (x + y).toBitVec.toNat = x.toBitVec.toNat + y.toBitVec.toNat := by rw [Int64.toBitVec_add, BitVec.toNat_add, Nat.mod_eq_of_lt h]
theorem n_sub {x y : Int64} (h : y.toBitVec.toNat ≤ x.toBitVec.toNat) : (x - y).toBitVec.toNat = x.toBitVec.toNat - y.toBitVec.toNat := by
  rw [Int64.toBitVec_sub]
  exact BitVec.toNat_sub_of_le h
theorem n_bc {x : Int64} : (bc3 (bc2 (bc1 x))).toBitVec.toNat = bpF x.toBitVec.toNat 8 := by
  have hx : x.toBitVec.toNat < 2 ^ 64 := x.toBitVec.isLt
  have c1 : (6148914691236517205 : Int64).toBitVec.toNat = mkB 85 8 := by decide
  have c2 : (3689348814741910323 : Int64).toBitVec.toNat = mkB 51 8 := by decide
  have c3 : (1085102592571150095 : Int64).toBitVec.toNat = mkB 15 8 := by decide
  have e1 : (bc1 x).toBitVec.toNat = bp1 x.toBitVec.toNat (mkB 85 8) := by
    unfold bc1 bp1
    have u : (ush x 1 &&& 6148914691236517205).toBitVec.toNat = (x.toBitVec.toNat / 2) &&& mkB 85 8 := by rw [n_and, n_ush (i := 1) (by decide) (by decide), c1]
    rw [n_sub (by rw [u]; exact Nat.le_trans Nat.and_le_left (Nat.div_le_self _ _)), u]
  have e2 : (bc2 (bc1 x)).toBitVec.toNat = bpA x.toBitVec.toNat 8 := by
    unfold bc2 bpA
    have u1 : (bc1 x &&& 3689348814741910323).toBitVec.toNat = (bp1 x.toBitVec.toNat (mkB 85 8)) &&& mkB 51 8 := by rw [n_and, e1, c2]
    have u2 : (ush (bc1 x) 2 &&& 3689348814741910323).toBitVec.toNat = (bp1 x.toBitVec.toNat (mkB 85 8) / 4) &&& mkB 51 8 := by rw [n_and, n_ush (i := 2) (by decide) (by decide), e1, c2]
    have l1 : (bp1 x.toBitVec.toNat (mkB 85 8)) &&& mkB 51 8 ≤ mkB 51 8 := Nat.and_le_right
    have l2 : (bp1 x.toBitVec.toNat (mkB 85 8) / 4) &&& mkB 51 8 ≤ mkB 51 8 := Nat.and_le_right
    have m := mkB_8.2.1
    rw [n_add (by rw [u1, u2]; omega), u1, u2]
    rfl
  have l2 : bpA x.toBitVec.toNat 8 ≤ 2 * mkB 51 8 := by
    have l1 : (bp1 x.toBitVec.toNat (mkB 85 8)) &&& mkB 51 8 ≤ mkB 51 8 := Nat.and_le_right
    have l2 : (bp1 x.toBitVec.toNat (mkB 85 8) / 4) &&& mkB 51 8 ≤ mkB 51 8 := Nat.and_le_right
    unfold bpA bp2
    omega
  have m := mkB_8.2.1
  have u : (ush (bc2 (bc1 x)) 4).toBitVec.toNat = bpA x.toBitVec.toNat 8 / 16 := by rw [n_ush (i := 4) (by decide) (by decide), e2]
  unfold bc3 bpF bp3
  rw [n_and, n_add (by rw [u, e2]; omega), u, e2, c3]
theorem n_bcs {x : Int64} {k : Int32} {i : Nat} (h : (k.toInt64.toUInt64 &&& Int64.toUInt64 63).toBitVec % 64 = BitVec.ofNat 64 i) (hi : i < 64) (hx : 2 * x.toBitVec.toNat < 2 ^ 64) : (bcs x k).toBitVec.toNat = x.toBitVec.toNat + x.toBitVec.toNat / 2 ^ i := by
  unfold bcs
  have u := n_ush (x := x) h hi
  have := Nat.div_le_self x.toBitVec.toNat (2 ^ i)
  rw [n_add (by rw [u]; omega), u]
theorem nbt_cnt {s : Int64} : ∀ k, k ≤ 64 → cnt s k = nbt s.toBitVec.toNat k
  | 0, _ => rfl
  | k + 1, h => by
    show cnt s k + (if hb s (nI k) = true then 1 else 0) = nbt s.toBitVec.toNat k + s.toBitVec.toNat / 2 ^ k % 2
    rw [nbt_cnt k (by omega), hb_bv (by omega), BitVec.getLsbD, Nat.testBit_eq_decide_div_mod_eq]
    have := Nat.mod_lt (s.toBitVec.toNat / 2 ^ k) (show 2 > 0 by decide)
    by_cases q : s.toBitVec.toNat / 2 ^ k % 2 = 1
    · rw [if_pos (decide_eq_true q)]; omega
    · rw [if_neg (fun z => q (of_decide_eq_true z))]; omega
def nd8 (a7 a6 a5 a4 a3 a2 a1 a0 : Nat) : Nat := 256 * (256 * (256 * (256 * (256 * (256 * (256 * a7 + a6) + a5) + a4) + a3) + a2) + a1) + a0
theorem ndf_1 {a7 a6 a5 a4 a3 a2 a1 a0 : Nat} (h0 : a0 < 256) : nd8 a7 a6 a5 a4 a3 a2 a1 a0 + nd8 a7 a6 a5 a4 a3 a2 a1 a0 / 2 ^ 8 = nd8 a7 (a6 + a7) (a5 + a6) (a4 + a5) (a3 + a4) (a2 + a3) (a1 + a2) (a0 + a1) := by
  obtain ⟨u, hu⟩ : ∃ u, u = 256 * (256 * (256 * (256 * (256 * (256 * a7 + a6) + a5) + a4) + a3) + a2) + a1 := ⟨_, rfl⟩
  have e : nd8 a7 a6 a5 a4 a3 a2 a1 a0 = 256 * u + a0 := by rw [hu]; rfl
  have d : (256 * u + a0) / 2 ^ 8 = u := by omega
  rw [e, d, hu]
  unfold nd8
  omega
theorem ndf_2 {a7 a6 a5 a4 a3 a2 a1 a0 : Nat} (h0 : a0 < 256) (h1 : a1 < 256) : nd8 a7 a6 a5 a4 a3 a2 a1 a0 + nd8 a7 a6 a5 a4 a3 a2 a1 a0 / 2 ^ 16 = nd8 a7 a6 (a5 + a7) (a4 + a6) (a3 + a5) (a2 + a4) (a1 + a3) (a0 + a2) := by
  obtain ⟨u, hu⟩ : ∃ u, u = 256 * (256 * (256 * (256 * (256 * a7 + a6) + a5) + a4) + a3) + a2 := ⟨_, rfl⟩
  have e : nd8 a7 a6 a5 a4 a3 a2 a1 a0 = 256 * (256 * u + a1) + a0 := by rw [hu]; rfl
  have d : (256 * (256 * u + a1) + a0) / 2 ^ 16 = u := by omega
  rw [e, d, hu]
  unfold nd8
  omega
theorem ndf_3 {a7 a6 a5 a4 a3 a2 a1 a0 : Nat} (h0 : a0 < 256) (h1 : a1 < 256) (h2 : a2 < 256) (h3 : a3 < 256) : nd8 a7 a6 a5 a4 a3 a2 a1 a0 + nd8 a7 a6 a5 a4 a3 a2 a1 a0 / 2 ^ 32 = nd8 a7 a6 a5 a4 (a3 + a7) (a2 + a6) (a1 + a5) (a0 + a4) := by
  obtain ⟨u, hu⟩ : ∃ u, u = 256 * (256 * (256 * a7 + a6) + a5) + a4 := ⟨_, rfl⟩
  have e : nd8 a7 a6 a5 a4 a3 a2 a1 a0 = 256 * (256 * (256 * (256 * u + a3) + a2) + a1) + a0 := by rw [hu]; rfl
  have d : (256 * (256 * (256 * (256 * u + a3) + a2) + a1) + a0) / 2 ^ 32 = u := by omega
  rw [e, d, hu]
  unfold nd8
  omega
theorem ndf_4 {a7 a6 a5 a4 a3 a2 a1 a0 : Nat} (h0 : a0 < 128) : nd8 a7 a6 a5 a4 a3 a2 a1 a0 % 2 ^ 32 % 2 ^ 7 = a0 := by
  obtain ⟨u, hu⟩ : ∃ u, u = 256 * (256 * (256 * (256 * (256 * (256 * a7 + a6) + a5) + a4) + a3) + a2) + a1 := ⟨_, rfl⟩
  have e : nd8 a7 a6 a5 a4 a3 a2 a1 a0 = 256 * u + a0 := by rw [hu]; rfl
  rw [e]
  omega
theorem nd8_lt {a7 a6 a5 a4 a3 a2 a1 a0 : Nat} (h7 : a7 < 100) (h6 : a6 < 100) (h5 : a5 < 100) (h4 : a4 < 100) (h3 : a3 < 100) (h2 : a2 < 100) (h1 : a1 < 100) (h0 : a0 < 100) : 2 * nd8 a7 a6 a5 a4 a3 a2 a1 a0 < 2 ^ 64 := by
  unfold nd8
  omega
theorem bst_1 {x : Int64} {a7 a6 a5 a4 a3 a2 a1 a0 : Nat} (h7 : a7 < 100) (h6 : a6 < 100) (h5 : a5 < 100) (h4 : a4 < 100) (h3 : a3 < 100) (h2 : a2 < 100) (h1 : a1 < 100) (h0 : a0 < 100) (e : x.toBitVec.toNat = nd8 a7 a6 a5 a4 a3 a2 a1 a0) : (bcs x 8).toBitVec.toNat = nd8 a7 (a6 + a7) (a5 + a6) (a4 + a5) (a3 + a4) (a2 + a3) (a1 + a2) (a0 + a1) := by
  have b := n_bcs (x := x) (k := 8) (i := 8) (by decide) (by decide) (by rw [e]; exact nd8_lt h7 h6 h5 h4 h3 h2 h1 h0)
  rw [b, e]
  exact ndf_1 (Nat.lt_trans h0 (by decide))
theorem bst_2 {x : Int64} {a7 a6 a5 a4 a3 a2 a1 a0 : Nat} (h7 : a7 < 100) (h6 : a6 < 100) (h5 : a5 < 100) (h4 : a4 < 100) (h3 : a3 < 100) (h2 : a2 < 100) (h1 : a1 < 100) (h0 : a0 < 100) (e : x.toBitVec.toNat = nd8 a7 a6 a5 a4 a3 a2 a1 a0) : (bcs x 16).toBitVec.toNat = nd8 a7 a6 (a5 + a7) (a4 + a6) (a3 + a5) (a2 + a4) (a1 + a3) (a0 + a2) := by
  have b := n_bcs (x := x) (k := 16) (i := 16) (by decide) (by decide) (by rw [e]; exact nd8_lt h7 h6 h5 h4 h3 h2 h1 h0)
  rw [b, e]
  exact ndf_2 (Nat.lt_trans h0 (by decide)) (Nat.lt_trans h1 (by decide))
theorem bst_3 {x : Int64} {a7 a6 a5 a4 a3 a2 a1 a0 : Nat} (h7 : a7 < 100) (h6 : a6 < 100) (h5 : a5 < 100) (h4 : a4 < 100) (h3 : a3 < 100) (h2 : a2 < 100) (h1 : a1 < 100) (h0 : a0 < 100) (e : x.toBitVec.toNat = nd8 a7 a6 a5 a4 a3 a2 a1 a0) : (bcs x 32).toBitVec.toNat = nd8 a7 a6 a5 a4 (a3 + a7) (a2 + a6) (a1 + a5) (a0 + a4) := by
  have b := n_bcs (x := x) (k := 32) (i := 32) (by decide) (by decide) (by rw [e]; exact nd8_lt h7 h6 h5 h4 h3 h2 h1 h0)
  rw [b, e]
  exact ndf_3 (Nat.lt_trans h0 (by decide)) (Nat.lt_trans h1 (by decide)) (Nat.lt_trans h2 (by decide)) (Nat.lt_trans h3 (by decide))
theorem bst_4 {y : Int64} {n : Nat} (hn : n < 128) (e : y.toBitVec.toNat % 2 ^ 32 % 2 ^ 7 = n) : y.toInt32 &&& 127 = nI n := by
  refine Int32.toBitVec_inj.mp (BitVec.eq_of_toNat_eq ?_)
  rw [Int32.toBitVec_and, BitVec.toNat_and]
  have e7 : (127 : Int32).toBitVec.toNat = 2 ^ 7 - 1 := by decide
  have e32 : y.toInt32.toBitVec.toNat = y.toBitVec.toNat % 2 ^ 32 := by
    rw [Int64.toBitVec_toInt32, BitVec.signExtend_eq_setWidth_of_le _ (by decide), BitVec.toNat_setWidth]
  have eN : (nI n).toBitVec.toNat = n % 2 ^ 32 := rfl
  rw [e7, e32, eN, Nat.and_two_pow_sub_one_eq_mod, e, Nat.mod_eq_of_lt (by omega)]
theorem bcn_cnt {x : Int64} : bcn x = nI (cnt x 64) := by
  obtain ⟨c0, c1, c2, c3, c4, c5, c6, c7, l0, l1, l2, l3, l4, l5, l6, l7, f, n⟩ := bpF_8 x.toBitVec.isLt
  have es : (bc3 (bc2 (bc1 x))).toBitVec.toNat = nd8 c7 c6 c5 c4 c3 c2 c1 c0 := n_bc.trans f
  clear f
  rw [nbt_cnt 64 (Nat.le_refl _), n]
  clear n
  have m : ∀ a b : Nat, a ≤ 8 → b ≤ 8 → a + b ≤ 16 := fun a b h k => Nat.add_le_add h k
  have m2 : ∀ a b : Nat, a ≤ 16 → b ≤ 16 → a + b ≤ 32 := fun a b h k => Nat.add_le_add h k
  have w : ∀ a : Nat, a ≤ 8 → a < 100 := fun a h => Nat.lt_of_le_of_lt h (by decide)
  have w1 : ∀ a : Nat, a ≤ 16 → a < 100 := fun a h => Nat.lt_of_le_of_lt h (by decide)
  have w2 : ∀ a : Nat, a ≤ 32 → a < 100 := fun a h => Nat.lt_of_le_of_lt h (by decide)
  have k6 := m _ _ l6 l7
  have k5 := m _ _ l5 l6
  have k4 := m _ _ l4 l5
  have k3 := m _ _ l3 l4
  have k2 := m _ _ l2 l3
  have k1 := m _ _ l1 l2
  have k0 := m _ _ l0 l1
  have k7 : c7 ≤ 16 := Nat.le_trans l7 (by decide)
  have b1 := bst_1 (w _ l7) (w _ l6) (w _ l5) (w _ l4) (w _ l3) (w _ l2) (w _ l1) (w _ l0) es
  have b2 := bst_2 (w1 _ k7) (w1 _ k6) (w1 _ k5) (w1 _ k4) (w1 _ k3) (w1 _ k2) (w1 _ k1) (w1 _ k0) b1
  have b3 := bst_3 (w1 _ k7) (w1 _ k6) (w2 _ (m2 _ _ k5 k7)) (w2 _ (m2 _ _ k4 k6)) (w2 _ (m2 _ _ k3 k5)) (w2 _ (m2 _ _ k2 k4)) (w2 _ (m2 _ _ k1 k3)) (w2 _ (m2 _ _ k0 k2)) b2
  clear es b1 b2
  refine bst_4 (by clear b3; omega) ?_
  rw [b3]
  clear b3
  refine (ndf_4 (by omega)).trans ?_
  omega
