/-! one call of both: feed (the first rows are the kit's rows on bits) -/
def bt (x : Int32) (i : Nat) : Bool := x.toBitVec.getLsbD i
theorem b_ext {x y : Int32} (h : ∀ i, i < 32 → bt x i = bt y i) : x = y := Int32.toBitVec_inj.mp (BitVec.eq_of_getLsbD_eq (fun i hi => h i hi))
theorem b_and (x y : Int32) (i : Nat) : bt (x &&& y) i = (bt x i && bt y i) := by unfold bt; rw [Int32.toBitVec_and, BitVec.getLsbD_and]
theorem b_big {x : Int32} {i : Nat} (h : 32 ≤ i) : bt x i = false := BitVec.getLsbD_of_ge _ _ h
theorem b_255 (i : Nat) : bt 255 i = decide (i < 8) := by
  rcases Nat.lt_or_ge i 32 with h | h
  · exact (by decide +kernel : ∀ i, i < 32 → bt 255 i = decide (i < 8)) i h
  · rw [b_big h, decide_eq_false (by omega)]
theorem s_l : ∀ n, n < 32 → ((nI n &&& 31).toBitVec.smod 32).toNat = n := by decide +kernel
theorem s_u : ∀ n, n < 32 → (((nI n).toUInt32 &&& Int32.toUInt32 31).toBitVec % 32).toNat = n := by decide +kernel
theorem b_ushr (n : Nat) (hn : n < 32) (x : Int32) (i : Nat) : bt ((x.toUInt32 >>> ((nI n).toUInt32 &&& Int32.toUInt32 31)).toInt32) i = bt x (n + i) := by
  show (x.toUInt32 >>> ((nI n).toUInt32 &&& Int32.toUInt32 31)).toBitVec.getLsbD i = x.toUInt32.toBitVec.getLsbD (n + i)
  rw [UInt32.toBitVec_shiftRight]
  show (x.toUInt32.toBitVec >>> (((nI n).toUInt32 &&& Int32.toUInt32 31).toBitVec % 32).toNat).getLsbD i = _
  rw [s_u n hn, BitVec.getLsbD_ushiftRight]
theorem b_sshr (n : Nat) (hn : n < 32) (x : Int32) {i : Nat} (hi : i < 32) : bt (x >>> (nI n &&& 31)) i = if n + i < 32 then bt x (n + i) else bt x 31 := by
  unfold bt
  rw [Int32.toBitVec_shiftRight]
  show (x.toBitVec.sshiftRight ((nI n &&& 31).toBitVec.smod 32).toNat).getLsbD i = _
  rw [s_l n hn, BitVec.getLsbD_sshiftRight, BitVec.msb_eq_getLsbD_last]
  simp [hi]
theorem nx_and (a b : Nat) : nI a &&& nI b = nI (a &&& b) := by
  apply Int32.toBitVec_inj.1
  show BitVec.ofNat 32 a &&& BitVec.ofNat 32 b = BitVec.ofNat 32 (a &&& b)
  apply BitVec.eq_of_getLsbD_eq
  intro i hi
  simp [hi]
theorem bp_b (x : Int32) : x.toInt8.toInt32 &&& 255 = x &&& 255 := by
  apply Int32.toBitVec_inj.mp
  rw [Int32.toBitVec_and, Int32.toBitVec_and, Int8.toBitVec_toInt32, Int32.toBitVec_toInt8]
  apply BitVec.eq_of_getLsbD_eq
  intro i hi
  rw [BitVec.getLsbD_and, BitVec.getLsbD_and]
  have hm : ∀ i < 32, 8 ≤ i → (255 : Int32).toBitVec.getLsbD i = false := by decide
  rcases Nat.lt_or_ge i 8 with z | z
  · rw [BitVec.getLsbD_signExtend, BitVec.getLsbD_signExtend, if_pos z, if_pos hi]
    simp only [z, hi, decide_true, Bool.true_and]
  · rw [hm i hi z]; simp

theorem by_sh (v : Int32) {n : Nat} (hn : n ≤ 24) : v >>> (nI n &&& 31) &&& 255 = (v.toUInt32 >>> ((nI n).toUInt32 &&& Int32.toUInt32 31)).toInt32 &&& 255 := b_ext fun i hi => by
  rw [b_and, b_and, b_255, b_sshr n (by omega) v hi, b_ushr n (by omega) v i]
  by_cases h : i < 8
  · rw [if_pos (by omega)]
  · rw [decide_eq_false h, Bool.and_false, Bool.and_false]
theorem by_rc (v : Int32) {n : Nat} (hn : n ≤ 24) : rby v (nI n) &&& 255 = byt v (nI n) ∧ (rby v (nI n)).toInt8.toInt32 = rby v (nI n) ∧ 0 ≤ (byt v (nI n)).toInt ∧ (byt v (nI n)).toInt ≤ 255 := by
  have e1 : ∀ z : Int32, (z.toInt8.toInt32).toInt8.toInt32 = z.toInt8.toInt32 := fun z => (vp_nar_byte _).symm.trans (pk_vb z)
  have e2 : rby v (nI n) = (v >>> (nI n &&& 31)).toInt8.toInt32 := e1 _
  refine ⟨?_, ?_, ?_⟩
  · rw [e2, bp_b, by_sh v hn]; rfl
  · rw [e2]; exact e1 _
  · unfold byt
    obtain ⟨a, e⟩ := nI_surj ((v.toUInt32 >>> ((nI n).toUInt32 &&& Int32.toUInt32 31)).toInt32)
    rw [e]
    have h : nI a &&& 255 = nI (a % 2 ^ 8) := by
      show nI a &&& nI 255 = _
      rw [nx_and, show (255 : Nat) = 2 ^ 8 - 1 from rfl, Nat.and_two_pow_sub_one_eq_mod]
    rw [h, nIt (by omega)]
    omega
def TpP (A B : Mem) (t : Nat) : Prop := ∀ p, p < t → rI B 65 p &&& 255 = rI A 4 p ∧ (rI B 65 p).toInt8.toInt32 = rI B 65 p ∧ 0 ≤ (rI A 4 p).toInt ∧ (rI A 4 p).toInt ≤ 255
theorem TpP.s1 {A B : Mem} {t n : Nat} (v : Int32) (hn : n ≤ 24) (h : TpP A B t) : TpP (ap1 A t v (nI n)) (pu1 B t v (nI n)) (t + 1) := by
  intro p hp
  have a4 : rI (ap1 A t v (nI n)) 4 p = if p = t then byt v (nI n) else rI A 4 p := by
    unfold ap1
    rw [rI_sI, if_neg (by omega), rI_sI]
    by_cases e : p = t
    · rw [if_pos ⟨rfl, e⟩, if_pos e]
    · rw [if_neg (fun z => e z.2), if_neg e]
  have b5 : rI (pu1 B t v (nI n)) 65 p = if p = t then rby v (nI n) else rI B 65 p := by
    unfold pu1
    rw [rI_sI, if_neg (by omega), rI_sI]
    by_cases e : p = t
    · rw [if_pos ⟨rfl, e⟩, if_pos e]
    · rw [if_neg (fun z => e z.2), if_neg e]
  rw [a4, b5]
  by_cases e : p = t
  · rw [if_pos e, if_pos e]
    exact by_rc v hn
  · rw [if_neg e, if_neg e]
    exact h p (by omega)
theorem TpP.s4 {A B : Mem} {t : Nat} (v : Int32) (h : TpP A B t) : TpP (ap4 A t v) (pu4 B t v) (t + 4) := (((h.s1 (n := 24) v (by decide)).s1 (n := 16) v (by decide)).s1 (n := 8) v (by decide)).s1 (n := 0) v (by decide)
theorem TpP.s20 {A B : Mem} {t : Nat} {a b c d e : Int32} (h : TpP A B t) : TpP (fdC A t a b c d e) (fdR B t a b c d e) (t + 20) := ((((h.s4 a).s4 b).s4 c).s4 d).s4 e
theorem ap1_o {M : Mem} {t a p : Nat} {v k : Int32} (h1 : ¬ a = 4) (h2 : ¬ (a = 3 ∧ p = 1)) : rI (ap1 M t v k) a p = rI M a p := by
  unfold ap1
  rw [rI_sI, if_neg h2, rI_sI, if_neg (fun z => h1 z.1)]
theorem pu1_o {M : Mem} {t a p : Nat} {v k : Int32} (h1 : ¬ a = 65) (h2 : ¬ (a = 64 ∧ p = 1)) : rI (pu1 M t v k) a p = rI M a p := by
  unfold pu1
  rw [rI_sI, if_neg h2, rI_sI, if_neg (fun z => h1 z.1)]
theorem ap4_o {M : Mem} {t a p : Nat} {v : Int32} (h1 : ¬ a = 4) (h2 : ¬ (a = 3 ∧ p = 1)) : rI (ap4 M t v) a p = rI M a p := by
  unfold ap4
  rw [ap1_o h1 h2, ap1_o h1 h2, ap1_o h1 h2, ap1_o h1 h2]
theorem pu4_o {M : Mem} {t a p : Nat} {v : Int32} (h1 : ¬ a = 65) (h2 : ¬ (a = 64 ∧ p = 1)) : rI (pu4 M t v) a p = rI M a p := by
  unfold pu4
  rw [pu1_o h1 h2, pu1_o h1 h2, pu1_o h1 h2, pu1_o h1 h2]
theorem fdC_o {M : Mem} {t x p : Nat} {a b c d e : Int32} (h1 : ¬ x = 4) (h2 : ¬ (x = 3 ∧ p = 1)) : rI (fdC M t a b c d e) x p = rI M x p := by
  unfold fdC
  rw [ap4_o h1 h2, ap4_o h1 h2, ap4_o h1 h2, ap4_o h1 h2, ap4_o h1 h2]
theorem fdR_o {M : Mem} {t x p : Nat} {a b c d e : Int32} (h1 : ¬ x = 65) (h2 : ¬ (x = 64 ∧ p = 1)) : rI (fdR M t a b c d e) x p = rI M x p := by
  unfold fdR
  rw [pu4_o h1 h2, pu4_o h1 h2, pu4_o h1 h2, pu4_o h1 h2, pu4_o h1 h2]
theorem q_feed {M : Mem} {N W t : Nat} (I : Inv M N W t) (a b c d e : Int32) : AlI mX9_feed mX10_feed 1 1 [(0, .ref 2), (1, .int a), (2, .int b), (3, .int c), (4, .int d), (5, .int e)] [(0, .ref 64), (1, .int a), (2, .int b), (3, .int c), (4, .int d), (5, .int e)] M N := by
  have hN := I.N9
  obtain ⟨hB, hR, hL, hS, hs, hNo, hch, ⟨t1, t2, t3, t4⟩, hC⟩ := id I
  by_cases h6 : t + 20 ≤ 60
  · obtain ⟨Y, eY⟩ : ∃ Y, Y = fdC M t a b c d e := ⟨_, rfl⟩
    have yI : ∀ x p, ¬ x = 4 → ¬ (x = 3 ∧ p = 1) → rI Y x p = rI M x p := fun x p h1 h2 => by rw [eY]; exact fdC_o h1 h2
    have yR : Y.2.2 = M.2.2 := by rw [eY]; rfl
    refine ⟨nI (t + 20), fun Q hQ => w_X9_feed_in t1 h6 hN hs ?_⟩
    rw [← eY]
    refine hQ Y (fun Q' hQ' => w_X10_feed_in (t := t) ((yI 64 1 (by decide) (by decide)).trans t2) h6 hN (by rw [yR]; exact hs) (hQ' _ W (t + 20) ?_))
    obtain ⟨X, eX⟩ : ∃ X, X = fdR Y t a b c d e := ⟨_, rfl⟩
    rw [← eX]
    have xI : ∀ x p, ¬ x = 65 → ¬ (x = 64 ∧ p = 1) → rI X x p = rI Y x p := fun x p h1 h2 => by rw [eX]; exact fdR_o h1 h2
    have xR : X.2.2 = M.2.2 := by rw [eX]; exact yR
    have xJ : ∀ x p, rJ X x p = rJ M x p := fun x p => by rw [eX, eY]; rfl
    refine inv_keep I (Nat.le_refl _) hNo (fun x p q0 q1 q2 q3 q4 q5 => (xI x p q3 (by omega)).trans (yI x p q2 q1)) (fun x p _ => xJ x p) (fun x p _ => by unfold rA; rw [xR]) (fun x _ _ => by rw [xR]) ⟨?_, ?_, h6, ?_⟩
    · rw [xI 3 1 (by decide) (by decide), eY]; rfl
    · rw [eX]; rfl
    · have tp : TpP M Y t := fun p hp => by
        rw [yI 65 p (by decide) (by omega)]
        exact t4 p hp
      have tq := tp.s20 (a := a) (b := b) (c := c) (d := d) (e := e)
      rw [← eY, ← eX] at tq
      intro p hp
      rw [xI 4 p (by decide) (by omega)]
      exact tq p hp
  · exact ⟨-1, fun Q hQ => w_X9_feed_out t1 h6 t3 hN hs (hQ M (fun Q' hQ' => w_X10_feed_out t2 h6 t3 hN hs (hQ' M W t I)))⟩
