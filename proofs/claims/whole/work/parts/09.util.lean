/-! the fixed skeleton of references; small words -/
theorem hlt {q N : Nat} (h : 94 ≤ N) (hq : q < 94) : q < N := Nat.lt_of_lt_of_le hq h
def bI (p : Prop) [Decidable p] : Int32 := if p then 1 else 0
theorem bI_t {p : Prop} [Decidable p] (h : p) : bI p = 1 := if_pos h
theorem bI_f {p : Prop} [Decidable p] (h : ¬ p) : bI p = 0 := if_neg h
theorem bI_z {p : Prop} [Decidable p] : bI p = 0 ↔ ¬ p := by unfold bI; by_cases h : p <;> simp [h]
theorem bI_nz {p : Prop} [Decidable p] : ¬ bI p = 0 ↔ p := by unfold bI; by_cases h : p <;> simp [h]
theorem bI_01 {p : Prop} [Decidable p] : bI p = 0 ∨ bI p = 1 := by unfold bI; by_cases h : p <;> simp [h]
theorem ret_t {p : Prop} [Decidable p] {N : Nat} {M : Mem} {Q : Option Value → Nat → Mem → Prop} (hp : p) (h : Q (some (.int (bI p))) N M) : Q (some (.int 1)) N M := by rw [bI_t hp] at h; exact h
theorem ret_f {p : Prop} [Decidable p] {N : Nat} {M : Mem} {Q : Option Value → Nat → Mem → Prop} (hp : ¬ p) (h : Q (some (.int (bI p))) N M) : Q (some (.int 0)) N M := by rw [bI_f hp] at h; exact h
theorem ret_i {a b : Int32} {N : Nat} {M : Mem} {Q : Option Value → Nat → Mem → Prop} (hp : b = a) (h : Q (some (.int b)) N M) : Q (some (.int a)) N M := by rw [← hp]; exact h
theorem ret_l {a b : Int64} {N : Nat} {M : Mem} {Q : Option Value → Nat → Mem → Prop} (hp : b = a) (h : Q (some (.long b)) N M) : Q (some (.long a)) N M := by rw [← hp]; exact h
theorem ret_m {r : Option Value} {N : Nat} {M M' : Mem} {Q : Option Value → Nat → Mem → Prop} (hp : M' = M) (h : Q r N M') : Q r N M := by rw [← hp]; exact h
theorem rv_or (o : Option Nat) : rv o = .null ∨ ∃ a, rv o = .ref a := by cases o; exact Or.inl rfl; exact Or.inr ⟨_, rfl⟩
theorem a_rv {μ : MD} {d mc ms N pc : Nat} {L : List (Nat × Value)} {S : List Value} {M : Mem} {Q : Option Value → Nat → Mem → Prop} {o : Option Nat} (hn : o = none → AW μ d mc ms N pc L (.null :: S) M Q) (hs : ∀ f, o = some f → AW μ d mc ms N pc L (.ref f :: S) M Q) : AW μ d mc ms N pc L (rv o :: S) M Q := by
  cases o with
  | none => exact hn rfl
  | some f => exact hs f rfl
theorem vp_of {x : Int32} {n : Nat} (h0 : ¬ x < 0) (h1 : ¬ Int32.ofNat n ≤ x) (hn : n < 2 ^ 31) : vp_in x n := by
  rw [Int32.lt_iff_toInt_lt] at h0
  rw [Int32.le_iff_toInt_le] at h1
  have e : (Int32.ofNat n).toInt = n := nI_toInt hn
  rw [e] at h1
  have e0 : (0 : Int32).toInt = 0 := rfl
  rw [e0] at h0
  exact vp_in_iff.mpr ⟨by omega, by omega⟩
def RTL : List (Nat × Nat × Nat) := [(2, 0, 3), (2, 1, 5), (2, 2, 8), (2, 3, 47), (2, 4, 52), (2, 5, 57), (2, 6, 62), (3, 0, 4), (5, 0, 6), (5, 1, 7), (9, 0, 10), (9, 1, 11), (9, 2, 12), (9, 3, 13), (9, 4, 14), (15, 0, 16), (15, 1, 17), (15, 2, 18), (15, 3, 19), (15, 4, 20), (21, 0, 22), (21, 1, 23), (21, 2, 24), (21, 3, 25), (21, 4, 26), (27, 0, 28), (27, 1, 29), (27, 2, 30), (27, 3, 31), (27, 4, 32), (33, 0, 34), (33, 1, 35), (33, 2, 36), (33, 3, 37), (33, 4, 38), (39, 0, 40), (39, 1, 41), (39, 2, 42), (39, 3, 43), (39, 4, 44), (45, 0, 46), (47, 0, 5), (47, 1, 45), (47, 2, 48), (47, 3, 49), (47, 4, 50), (47, 5, 51), (52, 0, 5), (52, 1, 45), (52, 2, 53), (52, 3, 54), (52, 4, 55), (52, 5, 56), (57, 0, 5), (57, 1, 45), (57, 2, 58), (57, 3, 59), (57, 4, 60), (57, 5, 61), (62, 0, 5), (62, 1, 45), (62, 2, 63), (62, 3, 47), (62, 4, 52), (62, 5, 57), (64, 0, 65), (64, 2, 66), (64, 3, 67), (64, 4, 68), (64, 5, 69), (64, 6, 70), (64, 7, 71), (64, 8, 72), (64, 9, 73), (64, 10, 74), (64, 11, 75), (64, 12, 76), (64, 13, 77), (64, 14, 78), (64, 18, 79), (64, 19, 80), (64, 20, 81), (64, 29, 82), (64, 30, 83), (64, 31, 84), (64, 32, 85), (64, 33, 86), (64, 34, 87), (64, 35, 88), (64, 41, 89), (64, 42, 90), (64, 43, 91), (64, 44, 92), (64, 45, 93), (8, 0, 9), (8, 1, 15), (8, 2, 21), (8, 3, 27), (8, 4, 33), (8, 5, 39)]
/-- the references that the constructors set -/
def Str (A : Nat → Nat → Option Nat) : Prop := ∀ p ∈ RTL, A p.1 p.2.1 = some p.2.2
theorem st_2_0 {M : Mem} (hs : Str M.2.2.1) : rA M 2 0 = some 3 := hs (2, 0, 3) (by decide +kernel)
theorem st_2_1 {M : Mem} (hs : Str M.2.2.1) : rA M 2 1 = some 5 := hs (2, 1, 5) (by decide +kernel)
theorem st_2_2 {M : Mem} (hs : Str M.2.2.1) : rA M 2 2 = some 8 := hs (2, 2, 8) (by decide +kernel)
theorem st_2_3 {M : Mem} (hs : Str M.2.2.1) : rA M 2 3 = some 47 := hs (2, 3, 47) (by decide +kernel)
theorem st_2_4 {M : Mem} (hs : Str M.2.2.1) : rA M 2 4 = some 52 := hs (2, 4, 52) (by decide +kernel)
theorem st_2_5 {M : Mem} (hs : Str M.2.2.1) : rA M 2 5 = some 57 := hs (2, 5, 57) (by decide +kernel)
theorem st_2_6 {M : Mem} (hs : Str M.2.2.1) : rA M 2 6 = some 62 := hs (2, 6, 62) (by decide +kernel)
theorem st_3_0 {M : Mem} (hs : Str M.2.2.1) : rA M 3 0 = some 4 := hs (3, 0, 4) (by decide +kernel)
theorem st_5_0 {M : Mem} (hs : Str M.2.2.1) : rA M 5 0 = some 6 := hs (5, 0, 6) (by decide +kernel)
theorem st_5_1 {M : Mem} (hs : Str M.2.2.1) : rA M 5 1 = some 7 := hs (5, 1, 7) (by decide +kernel)
theorem st_9_0 {M : Mem} (hs : Str M.2.2.1) : rA M 9 0 = some 10 := hs (9, 0, 10) (by decide +kernel)
theorem st_9_1 {M : Mem} (hs : Str M.2.2.1) : rA M 9 1 = some 11 := hs (9, 1, 11) (by decide +kernel)
theorem st_9_2 {M : Mem} (hs : Str M.2.2.1) : rA M 9 2 = some 12 := hs (9, 2, 12) (by decide +kernel)
theorem st_9_3 {M : Mem} (hs : Str M.2.2.1) : rA M 9 3 = some 13 := hs (9, 3, 13) (by decide +kernel)
theorem st_9_4 {M : Mem} (hs : Str M.2.2.1) : rA M 9 4 = some 14 := hs (9, 4, 14) (by decide +kernel)
theorem st_15_0 {M : Mem} (hs : Str M.2.2.1) : rA M 15 0 = some 16 := hs (15, 0, 16) (by decide +kernel)
theorem st_15_1 {M : Mem} (hs : Str M.2.2.1) : rA M 15 1 = some 17 := hs (15, 1, 17) (by decide +kernel)
theorem st_15_2 {M : Mem} (hs : Str M.2.2.1) : rA M 15 2 = some 18 := hs (15, 2, 18) (by decide +kernel)
theorem st_15_3 {M : Mem} (hs : Str M.2.2.1) : rA M 15 3 = some 19 := hs (15, 3, 19) (by decide +kernel)
theorem st_15_4 {M : Mem} (hs : Str M.2.2.1) : rA M 15 4 = some 20 := hs (15, 4, 20) (by decide +kernel)
theorem st_21_0 {M : Mem} (hs : Str M.2.2.1) : rA M 21 0 = some 22 := hs (21, 0, 22) (by decide +kernel)
theorem st_21_1 {M : Mem} (hs : Str M.2.2.1) : rA M 21 1 = some 23 := hs (21, 1, 23) (by decide +kernel)
theorem st_21_2 {M : Mem} (hs : Str M.2.2.1) : rA M 21 2 = some 24 := hs (21, 2, 24) (by decide +kernel)
theorem st_21_3 {M : Mem} (hs : Str M.2.2.1) : rA M 21 3 = some 25 := hs (21, 3, 25) (by decide +kernel)
theorem st_21_4 {M : Mem} (hs : Str M.2.2.1) : rA M 21 4 = some 26 := hs (21, 4, 26) (by decide +kernel)
theorem st_27_0 {M : Mem} (hs : Str M.2.2.1) : rA M 27 0 = some 28 := hs (27, 0, 28) (by decide +kernel)
theorem st_27_1 {M : Mem} (hs : Str M.2.2.1) : rA M 27 1 = some 29 := hs (27, 1, 29) (by decide +kernel)
theorem st_27_2 {M : Mem} (hs : Str M.2.2.1) : rA M 27 2 = some 30 := hs (27, 2, 30) (by decide +kernel)
theorem st_27_3 {M : Mem} (hs : Str M.2.2.1) : rA M 27 3 = some 31 := hs (27, 3, 31) (by decide +kernel)
theorem st_27_4 {M : Mem} (hs : Str M.2.2.1) : rA M 27 4 = some 32 := hs (27, 4, 32) (by decide +kernel)
theorem st_33_0 {M : Mem} (hs : Str M.2.2.1) : rA M 33 0 = some 34 := hs (33, 0, 34) (by decide +kernel)
theorem st_33_1 {M : Mem} (hs : Str M.2.2.1) : rA M 33 1 = some 35 := hs (33, 1, 35) (by decide +kernel)
theorem st_33_2 {M : Mem} (hs : Str M.2.2.1) : rA M 33 2 = some 36 := hs (33, 2, 36) (by decide +kernel)
theorem st_33_3 {M : Mem} (hs : Str M.2.2.1) : rA M 33 3 = some 37 := hs (33, 3, 37) (by decide +kernel)
theorem st_33_4 {M : Mem} (hs : Str M.2.2.1) : rA M 33 4 = some 38 := hs (33, 4, 38) (by decide +kernel)
theorem st_39_0 {M : Mem} (hs : Str M.2.2.1) : rA M 39 0 = some 40 := hs (39, 0, 40) (by decide +kernel)
theorem st_39_1 {M : Mem} (hs : Str M.2.2.1) : rA M 39 1 = some 41 := hs (39, 1, 41) (by decide +kernel)
theorem st_39_2 {M : Mem} (hs : Str M.2.2.1) : rA M 39 2 = some 42 := hs (39, 2, 42) (by decide +kernel)
theorem st_39_3 {M : Mem} (hs : Str M.2.2.1) : rA M 39 3 = some 43 := hs (39, 3, 43) (by decide +kernel)
theorem st_39_4 {M : Mem} (hs : Str M.2.2.1) : rA M 39 4 = some 44 := hs (39, 4, 44) (by decide +kernel)
theorem st_45_0 {M : Mem} (hs : Str M.2.2.1) : rA M 45 0 = some 46 := hs (45, 0, 46) (by decide +kernel)
theorem st_47_0 {M : Mem} (hs : Str M.2.2.1) : rA M 47 0 = some 5 := hs (47, 0, 5) (by decide +kernel)
theorem st_47_1 {M : Mem} (hs : Str M.2.2.1) : rA M 47 1 = some 45 := hs (47, 1, 45) (by decide +kernel)
theorem st_47_2 {M : Mem} (hs : Str M.2.2.1) : rA M 47 2 = some 48 := hs (47, 2, 48) (by decide +kernel)
theorem st_47_3 {M : Mem} (hs : Str M.2.2.1) : rA M 47 3 = some 49 := hs (47, 3, 49) (by decide +kernel)
theorem st_47_4 {M : Mem} (hs : Str M.2.2.1) : rA M 47 4 = some 50 := hs (47, 4, 50) (by decide +kernel)
theorem st_47_5 {M : Mem} (hs : Str M.2.2.1) : rA M 47 5 = some 51 := hs (47, 5, 51) (by decide +kernel)
theorem st_52_0 {M : Mem} (hs : Str M.2.2.1) : rA M 52 0 = some 5 := hs (52, 0, 5) (by decide +kernel)
theorem st_52_1 {M : Mem} (hs : Str M.2.2.1) : rA M 52 1 = some 45 := hs (52, 1, 45) (by decide +kernel)
theorem st_52_2 {M : Mem} (hs : Str M.2.2.1) : rA M 52 2 = some 53 := hs (52, 2, 53) (by decide +kernel)
theorem st_52_3 {M : Mem} (hs : Str M.2.2.1) : rA M 52 3 = some 54 := hs (52, 3, 54) (by decide +kernel)
theorem st_52_4 {M : Mem} (hs : Str M.2.2.1) : rA M 52 4 = some 55 := hs (52, 4, 55) (by decide +kernel)
theorem st_52_5 {M : Mem} (hs : Str M.2.2.1) : rA M 52 5 = some 56 := hs (52, 5, 56) (by decide +kernel)
theorem st_57_0 {M : Mem} (hs : Str M.2.2.1) : rA M 57 0 = some 5 := hs (57, 0, 5) (by decide +kernel)
theorem st_57_1 {M : Mem} (hs : Str M.2.2.1) : rA M 57 1 = some 45 := hs (57, 1, 45) (by decide +kernel)
theorem st_57_2 {M : Mem} (hs : Str M.2.2.1) : rA M 57 2 = some 58 := hs (57, 2, 58) (by decide +kernel)
theorem st_57_3 {M : Mem} (hs : Str M.2.2.1) : rA M 57 3 = some 59 := hs (57, 3, 59) (by decide +kernel)
theorem st_57_4 {M : Mem} (hs : Str M.2.2.1) : rA M 57 4 = some 60 := hs (57, 4, 60) (by decide +kernel)
theorem st_57_5 {M : Mem} (hs : Str M.2.2.1) : rA M 57 5 = some 61 := hs (57, 5, 61) (by decide +kernel)
theorem st_62_0 {M : Mem} (hs : Str M.2.2.1) : rA M 62 0 = some 5 := hs (62, 0, 5) (by decide +kernel)
theorem st_62_1 {M : Mem} (hs : Str M.2.2.1) : rA M 62 1 = some 45 := hs (62, 1, 45) (by decide +kernel)
theorem st_62_2 {M : Mem} (hs : Str M.2.2.1) : rA M 62 2 = some 63 := hs (62, 2, 63) (by decide +kernel)
theorem st_62_3 {M : Mem} (hs : Str M.2.2.1) : rA M 62 3 = some 47 := hs (62, 3, 47) (by decide +kernel)
theorem st_62_4 {M : Mem} (hs : Str M.2.2.1) : rA M 62 4 = some 52 := hs (62, 4, 52) (by decide +kernel)
theorem st_62_5 {M : Mem} (hs : Str M.2.2.1) : rA M 62 5 = some 57 := hs (62, 5, 57) (by decide +kernel)
theorem st_64_0 {M : Mem} (hs : Str M.2.2.1) : rA M 64 0 = some 65 := hs (64, 0, 65) (by decide +kernel)
theorem st_64_2 {M : Mem} (hs : Str M.2.2.1) : rA M 64 2 = some 66 := hs (64, 2, 66) (by decide +kernel)
theorem st_64_3 {M : Mem} (hs : Str M.2.2.1) : rA M 64 3 = some 67 := hs (64, 3, 67) (by decide +kernel)
theorem st_64_4 {M : Mem} (hs : Str M.2.2.1) : rA M 64 4 = some 68 := hs (64, 4, 68) (by decide +kernel)
theorem st_64_5 {M : Mem} (hs : Str M.2.2.1) : rA M 64 5 = some 69 := hs (64, 5, 69) (by decide +kernel)
theorem st_64_6 {M : Mem} (hs : Str M.2.2.1) : rA M 64 6 = some 70 := hs (64, 6, 70) (by decide +kernel)
theorem st_64_7 {M : Mem} (hs : Str M.2.2.1) : rA M 64 7 = some 71 := hs (64, 7, 71) (by decide +kernel)
theorem st_64_8 {M : Mem} (hs : Str M.2.2.1) : rA M 64 8 = some 72 := hs (64, 8, 72) (by decide +kernel)
theorem st_64_9 {M : Mem} (hs : Str M.2.2.1) : rA M 64 9 = some 73 := hs (64, 9, 73) (by decide +kernel)
theorem st_64_10 {M : Mem} (hs : Str M.2.2.1) : rA M 64 10 = some 74 := hs (64, 10, 74) (by decide +kernel)
theorem st_64_11 {M : Mem} (hs : Str M.2.2.1) : rA M 64 11 = some 75 := hs (64, 11, 75) (by decide +kernel)
theorem st_64_12 {M : Mem} (hs : Str M.2.2.1) : rA M 64 12 = some 76 := hs (64, 12, 76) (by decide +kernel)
theorem st_64_13 {M : Mem} (hs : Str M.2.2.1) : rA M 64 13 = some 77 := hs (64, 13, 77) (by decide +kernel)
theorem st_64_14 {M : Mem} (hs : Str M.2.2.1) : rA M 64 14 = some 78 := hs (64, 14, 78) (by decide +kernel)
theorem st_64_18 {M : Mem} (hs : Str M.2.2.1) : rA M 64 18 = some 79 := hs (64, 18, 79) (by decide +kernel)
theorem st_64_19 {M : Mem} (hs : Str M.2.2.1) : rA M 64 19 = some 80 := hs (64, 19, 80) (by decide +kernel)
theorem st_64_20 {M : Mem} (hs : Str M.2.2.1) : rA M 64 20 = some 81 := hs (64, 20, 81) (by decide +kernel)
theorem st_64_29 {M : Mem} (hs : Str M.2.2.1) : rA M 64 29 = some 82 := hs (64, 29, 82) (by decide +kernel)
theorem st_64_30 {M : Mem} (hs : Str M.2.2.1) : rA M 64 30 = some 83 := hs (64, 30, 83) (by decide +kernel)
theorem st_64_31 {M : Mem} (hs : Str M.2.2.1) : rA M 64 31 = some 84 := hs (64, 31, 84) (by decide +kernel)
theorem st_64_32 {M : Mem} (hs : Str M.2.2.1) : rA M 64 32 = some 85 := hs (64, 32, 85) (by decide +kernel)
theorem st_64_33 {M : Mem} (hs : Str M.2.2.1) : rA M 64 33 = some 86 := hs (64, 33, 86) (by decide +kernel)
theorem st_64_34 {M : Mem} (hs : Str M.2.2.1) : rA M 64 34 = some 87 := hs (64, 34, 87) (by decide +kernel)
theorem st_64_35 {M : Mem} (hs : Str M.2.2.1) : rA M 64 35 = some 88 := hs (64, 35, 88) (by decide +kernel)
theorem st_64_41 {M : Mem} (hs : Str M.2.2.1) : rA M 64 41 = some 89 := hs (64, 41, 89) (by decide +kernel)
theorem st_64_42 {M : Mem} (hs : Str M.2.2.1) : rA M 64 42 = some 90 := hs (64, 42, 90) (by decide +kernel)
theorem st_64_43 {M : Mem} (hs : Str M.2.2.1) : rA M 64 43 = some 91 := hs (64, 43, 91) (by decide +kernel)
theorem st_64_44 {M : Mem} (hs : Str M.2.2.1) : rA M 64 44 = some 92 := hs (64, 44, 92) (by decide +kernel)
theorem st_64_45 {M : Mem} (hs : Str M.2.2.1) : rA M 64 45 = some 93 := hs (64, 45, 93) (by decide +kernel)
theorem st_8_0 {M : Mem} (hs : Str M.2.2.1) : rA M 8 0 = some 9 := hs (8, 0, 9) (by decide +kernel)
theorem st_8_1 {M : Mem} (hs : Str M.2.2.1) : rA M 8 1 = some 15 := hs (8, 1, 15) (by decide +kernel)
theorem st_8_2 {M : Mem} (hs : Str M.2.2.1) : rA M 8 2 = some 21 := hs (8, 2, 21) (by decide +kernel)
theorem st_8_3 {M : Mem} (hs : Str M.2.2.1) : rA M 8 3 = some 27 := hs (8, 3, 27) (by decide +kernel)
theorem st_8_4 {M : Mem} (hs : Str M.2.2.1) : rA M 8 4 = some 33 := hs (8, 4, 33) (by decide +kernel)
theorem st_8_5 {M : Mem} (hs : Str M.2.2.1) : rA M 8 5 = some 39 := hs (8, 5, 39) (by decide +kernel)
def FgR (q : Nat) : Prop := q = 47 ∨ q = 52 ∨ q = 57
theorem fg_k {q : Nat} (h : FgR q) : KD q = 1 := by rcases h with rfl | rfl | rfl <;> rfl
theorem fg_two {q : Nat} (h : FgR q) : 2 ≤ q := by rcases h with rfl | rfl | rfl <;> decide
theorem fg_lt {q N : Nat} (h : FgR q) (hN : 94 ≤ N) : q < N := by rcases h with rfl | rfl | rfl <;> omega
theorem fg_k2 {q : Nat} (h : FgR q) : KD (q + 1) = 0 := by rcases h with rfl | rfl | rfl <;> rfl
theorem fg_two2 {q : Nat} (h : FgR q) : 2 ≤ q + 1 := by rcases h with rfl | rfl | rfl <;> decide
theorem fg_lt2 {q N : Nat} (h : FgR q) (hN : 94 ≤ N) : q + 1 < N := by rcases h with rfl | rfl | rfl <;> omega
theorem fg_k3 {q : Nat} (h : FgR q) : KD (q + 2) = 12 := by rcases h with rfl | rfl | rfl <;> rfl
theorem fg_two3 {q : Nat} (h : FgR q) : 2 ≤ q + 2 := by rcases h with rfl | rfl | rfl <;> decide
theorem fg_lt3 {q N : Nat} (h : FgR q) (hN : 94 ≤ N) : q + 2 < N := by rcases h with rfl | rfl | rfl <;> omega
theorem fg_k4 {q : Nat} (h : FgR q) : KD (q + 3) = 11 := by rcases h with rfl | rfl | rfl <;> rfl
theorem fg_two4 {q : Nat} (h : FgR q) : 2 ≤ q + 3 := by rcases h with rfl | rfl | rfl <;> decide
theorem fg_lt4 {q N : Nat} (h : FgR q) (hN : 94 ≤ N) : q + 3 < N := by rcases h with rfl | rfl | rfl <;> omega
theorem fg_k5 {q : Nat} (h : FgR q) : KD (q + 4) = 11 := by rcases h with rfl | rfl | rfl <;> rfl
theorem fg_two5 {q : Nat} (h : FgR q) : 2 ≤ q + 4 := by rcases h with rfl | rfl | rfl <;> decide
theorem fg_lt5 {q N : Nat} (h : FgR q) (hN : 94 ≤ N) : q + 4 < N := by rcases h with rfl | rfl | rfl <;> omega
theorem fg_0 {M : Mem} {q : Nat} (hs : Str M.2.2.1) (h : FgR q) : rA M q 0 = some 5 := by rcases h with rfl | rfl | rfl <;> first | exact st_47_0 hs | exact st_52_0 hs | exact st_57_0 hs
theorem fg_1 {M : Mem} {q : Nat} (hs : Str M.2.2.1) (h : FgR q) : rA M q 1 = some 45 := by rcases h with rfl | rfl | rfl <;> first | exact st_47_1 hs | exact st_52_1 hs | exact st_57_1 hs
theorem fg_2 {M : Mem} {q : Nat} (hs : Str M.2.2.1) (h : FgR q) : rA M q 2 = some (q + 1) := by rcases h with rfl | rfl | rfl <;> first | exact st_47_2 hs | exact st_52_2 hs | exact st_57_2 hs
theorem fg_3 {M : Mem} {q : Nat} (hs : Str M.2.2.1) (h : FgR q) : rA M q 3 = some (q + 2) := by rcases h with rfl | rfl | rfl <;> first | exact st_47_3 hs | exact st_52_3 hs | exact st_57_3 hs
theorem fg_4 {M : Mem} {q : Nat} (hs : Str M.2.2.1) (h : FgR q) : rA M q 4 = some (q + 3) := by rcases h with rfl | rfl | rfl <;> first | exact st_47_4 hs | exact st_52_4 hs | exact st_57_4 hs
theorem fg_5 {M : Mem} {q : Nat} (hs : Str M.2.2.1) (h : FgR q) : rA M q 5 = some (q + 4) := by rcases h with rfl | rfl | rfl <;> first | exact st_47_5 hs | exact st_52_5 hs | exact st_57_5 hs
theorem fg_ln3 {M : Mem} {q : Nat} (h : FgR q) : ln M (q + 2) = 384 := by rcases h with rfl | rfl | rfl <;> rfl
theorem fg_ln4 {M : Mem} {q : Nat} (h : FgR q) : ln M (q + 3) = 384 := by rcases h with rfl | rfl | rfl <;> rfl
theorem fg_ln5 {M : Mem} {q : Nat} (h : FgR q) : ln M (q + 4) = 64 := by rcases h with rfl | rfl | rfl <;> rfl
def ShR (q : Nat) : Prop := ∃ s, s < 6 ∧ q = 9 + 6 * s
theorem sh_k {q : Nat} (h : ShR q) : KD q = 7 := by obtain ⟨s, hs6, rfl⟩ := h; rcases (show s = 0 ∨ s = 1 ∨ s = 2 ∨ s = 3 ∨ s = 4 ∨ s = 5 by omega) with rfl | rfl | rfl | rfl | rfl | rfl <;> rfl
theorem sh_two {q : Nat} (h : ShR q) : 2 ≤ q := by obtain ⟨s, hs6, rfl⟩ := h; rcases (show s = 0 ∨ s = 1 ∨ s = 2 ∨ s = 3 ∨ s = 4 ∨ s = 5 by omega) with rfl | rfl | rfl | rfl | rfl | rfl <;> decide
theorem sh_lt {q N : Nat} (h : ShR q) (hN : 94 ≤ N) : q < N := by obtain ⟨s, hs6, rfl⟩ := h; rcases (show s = 0 ∨ s = 1 ∨ s = 2 ∨ s = 3 ∨ s = 4 ∨ s = 5 by omega) with rfl | rfl | rfl | rfl | rfl | rfl <;> omega
theorem sh_k0 {q : Nat} (h : ShR q) : KD (q + 1) = 0 := by obtain ⟨s, hs6, rfl⟩ := h; rcases (show s = 0 ∨ s = 1 ∨ s = 2 ∨ s = 3 ∨ s = 4 ∨ s = 5 by omega) with rfl | rfl | rfl | rfl | rfl | rfl <;> rfl
theorem sh_two0 {q : Nat} (h : ShR q) : 2 ≤ q + 1 := by obtain ⟨s, hs6, rfl⟩ := h; rcases (show s = 0 ∨ s = 1 ∨ s = 2 ∨ s = 3 ∨ s = 4 ∨ s = 5 by omega) with rfl | rfl | rfl | rfl | rfl | rfl <;> decide
theorem sh_lt0 {q N : Nat} (h : ShR q) (hN : 94 ≤ N) : q + 1 < N := by obtain ⟨s, hs6, rfl⟩ := h; rcases (show s = 0 ∨ s = 1 ∨ s = 2 ∨ s = 3 ∨ s = 4 ∨ s = 5 by omega) with rfl | rfl | rfl | rfl | rfl | rfl <;> omega
theorem sh_0 {M : Mem} {q : Nat} (hs : Str M.2.2.1) (h : ShR q) : rA M q 0 = some (q + 1) := by
  obtain ⟨s, hs6, rfl⟩ := h
  rcases (show s = 0 ∨ s = 1 ∨ s = 2 ∨ s = 3 ∨ s = 4 ∨ s = 5 by omega) with rfl | rfl | rfl | rfl | rfl | rfl
  · exact st_9_0 hs
  · exact st_15_0 hs
  · exact st_21_0 hs
  · exact st_27_0 hs
  · exact st_33_0 hs
  · exact st_39_0 hs
theorem sh_k1 {q : Nat} (h : ShR q) : KD (q + 2) = 11 := by obtain ⟨s, hs6, rfl⟩ := h; rcases (show s = 0 ∨ s = 1 ∨ s = 2 ∨ s = 3 ∨ s = 4 ∨ s = 5 by omega) with rfl | rfl | rfl | rfl | rfl | rfl <;> rfl
theorem sh_two1 {q : Nat} (h : ShR q) : 2 ≤ q + 2 := by obtain ⟨s, hs6, rfl⟩ := h; rcases (show s = 0 ∨ s = 1 ∨ s = 2 ∨ s = 3 ∨ s = 4 ∨ s = 5 by omega) with rfl | rfl | rfl | rfl | rfl | rfl <;> decide
theorem sh_lt1 {q N : Nat} (h : ShR q) (hN : 94 ≤ N) : q + 2 < N := by obtain ⟨s, hs6, rfl⟩ := h; rcases (show s = 0 ∨ s = 1 ∨ s = 2 ∨ s = 3 ∨ s = 4 ∨ s = 5 by omega) with rfl | rfl | rfl | rfl | rfl | rfl <;> omega
theorem sh_ln1 {M : Mem} {q : Nat} (h : ShR q) : ln M (q + 2) = 64 := by obtain ⟨s, hs6, rfl⟩ := h; rcases (show s = 0 ∨ s = 1 ∨ s = 2 ∨ s = 3 ∨ s = 4 ∨ s = 5 by omega) with rfl | rfl | rfl | rfl | rfl | rfl <;> rfl
theorem sh_1 {M : Mem} {q : Nat} (hs : Str M.2.2.1) (h : ShR q) : rA M q 1 = some (q + 2) := by
  obtain ⟨s, hs6, rfl⟩ := h
  rcases (show s = 0 ∨ s = 1 ∨ s = 2 ∨ s = 3 ∨ s = 4 ∨ s = 5 by omega) with rfl | rfl | rfl | rfl | rfl | rfl
  · exact st_9_1 hs
  · exact st_15_1 hs
  · exact st_21_1 hs
  · exact st_27_1 hs
  · exact st_33_1 hs
  · exact st_39_1 hs
theorem sh_k2 {q : Nat} (h : ShR q) : KD (q + 3) = 11 := by obtain ⟨s, hs6, rfl⟩ := h; rcases (show s = 0 ∨ s = 1 ∨ s = 2 ∨ s = 3 ∨ s = 4 ∨ s = 5 by omega) with rfl | rfl | rfl | rfl | rfl | rfl <;> rfl
theorem sh_two2 {q : Nat} (h : ShR q) : 2 ≤ q + 3 := by obtain ⟨s, hs6, rfl⟩ := h; rcases (show s = 0 ∨ s = 1 ∨ s = 2 ∨ s = 3 ∨ s = 4 ∨ s = 5 by omega) with rfl | rfl | rfl | rfl | rfl | rfl <;> decide
theorem sh_lt2 {q N : Nat} (h : ShR q) (hN : 94 ≤ N) : q + 3 < N := by obtain ⟨s, hs6, rfl⟩ := h; rcases (show s = 0 ∨ s = 1 ∨ s = 2 ∨ s = 3 ∨ s = 4 ∨ s = 5 by omega) with rfl | rfl | rfl | rfl | rfl | rfl <;> omega
theorem sh_ln2 {M : Mem} {q : Nat} (h : ShR q) : ln M (q + 3) = 64 := by obtain ⟨s, hs6, rfl⟩ := h; rcases (show s = 0 ∨ s = 1 ∨ s = 2 ∨ s = 3 ∨ s = 4 ∨ s = 5 by omega) with rfl | rfl | rfl | rfl | rfl | rfl <;> rfl
theorem sh_2 {M : Mem} {q : Nat} (hs : Str M.2.2.1) (h : ShR q) : rA M q 2 = some (q + 3) := by
  obtain ⟨s, hs6, rfl⟩ := h
  rcases (show s = 0 ∨ s = 1 ∨ s = 2 ∨ s = 3 ∨ s = 4 ∨ s = 5 by omega) with rfl | rfl | rfl | rfl | rfl | rfl
  · exact st_9_2 hs
  · exact st_15_2 hs
  · exact st_21_2 hs
  · exact st_27_2 hs
  · exact st_33_2 hs
  · exact st_39_2 hs
theorem sh_k3 {q : Nat} (h : ShR q) : KD (q + 4) = 15 := by obtain ⟨s, hs6, rfl⟩ := h; rcases (show s = 0 ∨ s = 1 ∨ s = 2 ∨ s = 3 ∨ s = 4 ∨ s = 5 by omega) with rfl | rfl | rfl | rfl | rfl | rfl <;> rfl
theorem sh_two3 {q : Nat} (h : ShR q) : 2 ≤ q + 4 := by obtain ⟨s, hs6, rfl⟩ := h; rcases (show s = 0 ∨ s = 1 ∨ s = 2 ∨ s = 3 ∨ s = 4 ∨ s = 5 by omega) with rfl | rfl | rfl | rfl | rfl | rfl <;> decide
theorem sh_lt3 {q N : Nat} (h : ShR q) (hN : 94 ≤ N) : q + 4 < N := by obtain ⟨s, hs6, rfl⟩ := h; rcases (show s = 0 ∨ s = 1 ∨ s = 2 ∨ s = 3 ∨ s = 4 ∨ s = 5 by omega) with rfl | rfl | rfl | rfl | rfl | rfl <;> omega
theorem sh_ln3 {M : Mem} {q : Nat} (h : ShR q) : ln M (q + 4) = 64 := by obtain ⟨s, hs6, rfl⟩ := h; rcases (show s = 0 ∨ s = 1 ∨ s = 2 ∨ s = 3 ∨ s = 4 ∨ s = 5 by omega) with rfl | rfl | rfl | rfl | rfl | rfl <;> rfl
theorem sh_3 {M : Mem} {q : Nat} (hs : Str M.2.2.1) (h : ShR q) : rA M q 3 = some (q + 4) := by
  obtain ⟨s, hs6, rfl⟩ := h
  rcases (show s = 0 ∨ s = 1 ∨ s = 2 ∨ s = 3 ∨ s = 4 ∨ s = 5 by omega) with rfl | rfl | rfl | rfl | rfl | rfl
  · exact st_9_3 hs
  · exact st_15_3 hs
  · exact st_21_3 hs
  · exact st_27_3 hs
  · exact st_33_3 hs
  · exact st_39_3 hs
theorem sh_k4 {q : Nat} (h : ShR q) : KD (q + 5) = 12 := by obtain ⟨s, hs6, rfl⟩ := h; rcases (show s = 0 ∨ s = 1 ∨ s = 2 ∨ s = 3 ∨ s = 4 ∨ s = 5 by omega) with rfl | rfl | rfl | rfl | rfl | rfl <;> rfl
theorem sh_two4 {q : Nat} (h : ShR q) : 2 ≤ q + 5 := by obtain ⟨s, hs6, rfl⟩ := h; rcases (show s = 0 ∨ s = 1 ∨ s = 2 ∨ s = 3 ∨ s = 4 ∨ s = 5 by omega) with rfl | rfl | rfl | rfl | rfl | rfl <;> decide
theorem sh_lt4 {q N : Nat} (h : ShR q) (hN : 94 ≤ N) : q + 5 < N := by obtain ⟨s, hs6, rfl⟩ := h; rcases (show s = 0 ∨ s = 1 ∨ s = 2 ∨ s = 3 ∨ s = 4 ∨ s = 5 by omega) with rfl | rfl | rfl | rfl | rfl | rfl <;> omega
theorem sh_ln4 {M : Mem} {q : Nat} (h : ShR q) : ln M (q + 5) = 64 := by obtain ⟨s, hs6, rfl⟩ := h; rcases (show s = 0 ∨ s = 1 ∨ s = 2 ∨ s = 3 ∨ s = 4 ∨ s = 5 by omega) with rfl | rfl | rfl | rfl | rfl | rfl <;> rfl
theorem sh_4 {M : Mem} {q : Nat} (hs : Str M.2.2.1) (h : ShR q) : rA M q 4 = some (q + 5) := by
  obtain ⟨s, hs6, rfl⟩ := h
  rcases (show s = 0 ∨ s = 1 ∨ s = 2 ∨ s = 3 ∨ s = 4 ∨ s = 5 by omega) with rfl | rfl | rfl | rfl | rfl | rfl
  · exact st_9_4 hs
  · exact st_15_4 hs
  · exact st_21_4 hs
  · exact st_27_4 hs
  · exact st_33_4 hs
  · exact st_39_4 hs
def FoR (f N : Nat) : Prop := ∃ k, f = 94 + 6 * k ∧ f + 4 < N
theorem kd_fo (k r : Nat) (hr : r < 6) : KD (94 + 6 * k + r) = KDN r := by
  unfold KD
  rw [if_neg (by omega), show (94 + 6 * k + r - 94) % 6 = r by omega]
theorem fo_k {f N : Nat} (h : FoR f N) : KD f = 2 := by obtain ⟨k, rfl, -⟩ := h; exact kd_fo k 0 (by decide)
theorem fo_two {f N : Nat} (h : FoR f N) : 2 ≤ f := by obtain ⟨k, rfl, -⟩ := h; omega
theorem fo_lt {f N : Nat} (h : FoR f N) : f < N := by obtain ⟨k, rfl, h⟩ := h; omega
theorem fo_k0 {f N : Nat} (h : FoR f N) : KD (f + 1) = 11 := by obtain ⟨k, rfl, -⟩ := h; exact kd_fo k 1 (by decide)
theorem fo_two0 {f N : Nat} (h : FoR f N) : 2 ≤ f + 1 := by obtain ⟨k, rfl, -⟩ := h; omega
theorem fo_lt0 {f N : Nat} (h : FoR f N) : f + 1 < N := by obtain ⟨k, rfl, h⟩ := h; omega
theorem fo_k1 {f N : Nat} (h : FoR f N) : KD (f + 2) = 11 := by obtain ⟨k, rfl, -⟩ := h; exact kd_fo k 2 (by decide)
theorem fo_two1 {f N : Nat} (h : FoR f N) : 2 ≤ f + 2 := by obtain ⟨k, rfl, -⟩ := h; omega
theorem fo_lt1 {f N : Nat} (h : FoR f N) : f + 2 < N := by obtain ⟨k, rfl, h⟩ := h; omega
theorem fo_k2 {f N : Nat} (h : FoR f N) : KD (f + 3) = 11 := by obtain ⟨k, rfl, -⟩ := h; exact kd_fo k 3 (by decide)
theorem fo_two2 {f N : Nat} (h : FoR f N) : 2 ≤ f + 3 := by obtain ⟨k, rfl, -⟩ := h; omega
theorem fo_lt2 {f N : Nat} (h : FoR f N) : f + 3 < N := by obtain ⟨k, rfl, h⟩ := h; omega
theorem fo_k3 {f N : Nat} (h : FoR f N) : KD (f + 4) = 11 := by obtain ⟨k, rfl, -⟩ := h; exact kd_fo k 4 (by decide)
theorem fo_two3 {f N : Nat} (h : FoR f N) : 2 ≤ f + 4 := by obtain ⟨k, rfl, -⟩ := h; omega
theorem fo_lt3 {f N : Nat} (h : FoR f N) : f + 4 < N := by obtain ⟨k, rfl, h⟩ := h; omega
theorem pa_k {f N : Nat} (h : FoR f N) : KD (f + 5) = 6 := by obtain ⟨k, rfl, -⟩ := h; exact kd_fo k 5 (by decide)
theorem pa_two {f N : Nat} (h : FoR f N) : 2 ≤ f + 5 := by obtain ⟨k, rfl, -⟩ := h; omega
def FoA (A : Nat → Nat → Option Nat) (f : Nat) : Prop := A f 0 = some (f + 1) ∧ A f 1 = some (f + 2) ∧ A f 2 = some (f + 3) ∧ A f 3 = some (f + 4)
theorem fo_0 {M : Mem} {f : Nat} (h : FoA M.2.2.1 f) : rA M f 0 = some (f + 1) := h.1
theorem fo_1 {M : Mem} {f : Nat} (h : FoA M.2.2.1 f) : rA M f 1 = some (f + 2) := h.2.1
theorem fo_2 {M : Mem} {f : Nat} (h : FoA M.2.2.1 f) : rA M f 2 = some (f + 3) := h.2.2.1
theorem fo_3 {M : Mem} {f : Nat} (h : FoA M.2.2.1 f) : rA M f 3 = some (f + 4) := h.2.2.2
def PaA (A : Nat → Nat → Option Nat) (f : Nat) : Prop := A (f + 5) 0 = some f
theorem pa_0 {M : Mem} {f : Nat} (h : PaA M.2.2.1 f) : rA M (f + 5) 0 = some f := h
def ChR (q : Nat) : Prop := KD q = 0 ∧ 2 ≤ q ∧ q < 94
theorem ch_k {q : Nat} (h : ChR q) : KD q = 0 := h.1
theorem ch_two {q : Nat} (h : ChR q) : 2 ≤ q := h.2.1
theorem ch_lt {q N : Nat} (h : ChR q) (hN : 94 ≤ N) : q < N := by have := h.2.2; omega
theorem fg_ch {q : Nat} (h : FgR q) : ChR (q + 1) := by rcases h with rfl | rfl | rfl <;> exact ⟨rfl, by decide, by decide⟩
theorem sh_ch {q : Nat} (h : ShR q) : ChR (q + 1) := by obtain ⟨s, hs6, rfl⟩ := h; rcases (show s = 0 ∨ s = 1 ∨ s = 2 ∨ s = 3 ∨ s = 4 ∨ s = 5 by omega) with rfl | rfl | rfl | rfl | rfl | rfl <;> exact ⟨rfl, by decide, by decide⟩
