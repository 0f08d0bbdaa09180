/-! making cells; SIGNS; the script -/
theorem tc9 : ∀ ci, ci < 11 → ∀ k, k < (cN ci).2.2 → tco (tyN ci k) ≠ 9 := by
  intro ci h
  match ci, h with
  | 0, _ => decide +kernel
  | 1, _ => decide +kernel
  | 2, _ => decide +kernel
  | 3, _ => decide +kernel
  | 4, _ => decide +kernel
  | 5, _ => decide +kernel
  | 6, _ => decide +kernel
  | 7, _ => decide +kernel
  | 8, _ => decide +kernel
  | 9, _ => decide +kernel
  | 10, _ => decide +kernel
theorem ent_mk {g : World} {M : Mem} {N n q : Nat} (h : q ≠ N) : ent g (mk M N n) q = ent g M q :=
  ent_cong (by funext j; exact if_neg h) (by funext j; exact if_neg h) (by funext j; exact if_neg h) (if_neg h)
theorem Rep.new {g : World} {N n : Nat} {M : Mem} {H H1 : Heap} (hR : Rep g N M H) (hz : H1.size = H.size + 1) (ho : ∀ a, a < H.size → H1[a]? = H[a]?) (hat : va_at (wD g) vwCl (wad g N, ent g (mk M N n) N) H1) : Rep g (N + 1) (mk M N n) H1 := by
  have h2N := hR.1.1
  obtain ⟨e1, e2⟩ := ent_0 (ent_mk (g := g) (M := M) (N := N) (n := n) (q := 0) (by omega))
  refine ⟨⟨by omega, hR.1.2.1.trans e1.symm, fun j hj => by rw [e2]; exact hR.1.2.2 j hj⟩, by rw [hz, hR.2.1]; omega, fun q h1 h2 => ?_⟩
  by_cases h : q = N
  · subst h; exact hat
  · rw [ent_mk h]
    have hq := hR.2.2 q h1 (by omega)
    exact hq.kept (ho _ hq.lt)
theorem va_S.grow {A : Nat → Prop} {H0 H H1 : Heap} {locs : List Loc} (h : va_S A H0 H locs) (hz : H1.size = H.size + 1) (ho : ∀ a, a < H.size → H1[a]? = H[a]?) : va_S A H0 H1 locs :=
  ⟨Nat.le_trans h.1 (by omega), fun x h1 h2 => (ho x (Nat.lt_of_lt_of_le h1 h.1)).trans (h.2.1 x h1 h2), h.2.2⟩
theorem Rep.top {g : World} {N : Nat} {M : Mem} {H : Heap} (hR : Rep g N M H) : H.size = wad g N := by rw [hR.2.1, wad_eq hR.1.1]
section NEWS
variable {μ : MD} {d mc ms mc1 ms1 N pc : Nat} {L : List (Nat × Value)} {S : List Value} {M : Mem} {Q : Option Value → Nat → Mem → Prop}
theorem a_new {ix ci : Nat} (hnw : NEW μ.1.cls ix ci) (hk : KD N = ci) (hmc : mc1 + 1 ≤ mc) (hms : ms1 + (cN ci).2.2 ≤ ms) (hdg : decode μ.2.1 pc = .ok (.new ix, 3)) (kk : AW μ d mc1 ms1 (N + 1) (pc + 3) L (.ref N :: S) (mk M N 0) Q) : AW μ d mc ms N pc L S M Q := by
  intro g p l e R s m args below meth c H locs cells slots ls C hS hR hc hs hl
  obtain ⟨c1, c2, c3, c4, c5, c6, c7, c8, c9, -⟩ := id C
  obtain ⟨h1, h2, h3, h4⟩ := hnw
  have hcl := cN_at ci h1
  have hKn := c9.1 ci _ hcl
  refine W.newcK c1 c2 c5 (c6 _ h2) (c6 _ h3) (c6 _ h4) rfl hdg (by omega) (by omega) hKn.2.1 hR.top fun H1 kC hkC e1 z1 o1 => ?_
  rw [← hR.top] at z1 o1
  refine kk g p l e R s m args below meth c H1 locs _ _ ls C (hS.grow z1 o1) (hR.new z1 o1 ?_) (by omega) (by omega) hl
  rw [ent_obj hk h1]
  refine ⟨_, hcl, (u_born (tyN ci) c6 (inG ci h1) hKn hkC e1 (tyN_ok ci h1)).to (fun j hj => ?_)⟩
  have ht := tcN ci h1 j hj
  have h9 := tc9 ci h1 j hj
  have hf : (fl (wad g) (mk M N 0) N (tyz ci) 0)[j]? = some (fv (wad g) (mk M N 0) N j (tco (tyN ci j))) := by rw [fl_get, ht, Option.map_some, Nat.zero_add]
  unfold vp_V
  rw [List.getD_eq_getElem?_getD, hf, Option.getD_some]
  generalize tyN ci j = ty at h9 ⊢
  cases ty <;> first | (exact absurd rfl h9) | (simp [tco, fv, rI, rJ, rA, mk, va_rf, defaultValue])
theorem a_newa {n kd : Nat} {v : Int32} {atype : ArrayType} (harr : Cond.arrayClass (newarray.typeOf atype) ∈ wsG) (hk : KD N = kd) (hkd : (newarray.typeOf atype = .int ∧ kd = 11) ∨ (newarray.typeOf atype = .long ∧ kd = 12) ∨ (newarray.typeOf atype = .byte ∧ kd = 13) ∨ (newarray.typeOf atype = .boolean ∧ kd = 14)) (h0 : ¬ v < 0) (hv : v.toNatClampNeg = n) (hn : n ≤ 60000) (hln : ln (mk M N n) N = n) (hmc : mc1 + 1 ≤ mc) (hms : ms1 + n ≤ ms) (hdg : decode μ.2.1 pc = .ok (.newarray atype, 2)) (kk : AW μ d mc1 ms1 (N + 1) (pc + 2) L (.ref N :: S) (mk M N n) Q) : AW μ d mc ms N pc L (.int v :: S) M Q := by
  intro g p l e R s m args below meth c H locs cells slots ls C hS hR hc hs hl
  obtain ⟨c1, c2, c3, c4, c5, c6, c7, c8, c9, -⟩ := id C
  refine va_newaK c1 c2 (c6 _ harr) rfl hdg rfl h0 hv (by
    rcases hkd with ⟨h, -⟩ | ⟨h, -⟩ | ⟨h, -⟩ | ⟨h, -⟩ <;> rw [h] <;> simp only [componentBytes] <;> omega) (by omega) (by omega) hR.top fun H1 cA e1 z1 o1 hAr hNm => ?_
  rw [← hR.top] at z1 o1
  refine kk g p l e R s m args below meth c H1 locs _ _ ls C (hS.grow z1 o1) (hR.new z1 o1 ?_) (by omega) (by omega) hl
  have eI : (mk M N n).1 N = fun _ => 0 := by funext j; exact if_pos rfl
  have eJ : (mk M N n).2.1 N = fun _ => 0 := by funext j; exact if_pos rfl
  rcases hkd with ⟨h, rfl⟩ | ⟨h, rfl⟩ | ⟨h, rfl⟩ | ⟨h, rfl⟩ <;> rw [h] at e1 hNm
  · rw [ent_I hk (Or.inl rfl), hln, eI]
    have : wc g 0 = cA := Option.some.inj (((c9.2 0 _ rfl).2 : s.vm.findClass _ = some (wc g 0)).symm.trans hNm)
    show H1[wad g N]? = some (vp_cell (wc g 0) _)
    rw [this, vp_cell_i]
    exact e1
  · rw [ent_J hk, hln, eJ]
    have : wc g 1 = cA := Option.some.inj (((c9.2 1 _ rfl).2 : s.vm.findClass _ = some (wc g 1)).symm.trans hNm)
    show H1[wad g N]? = some (vp_cell (wc g 1) _)
    rw [this, vp_cell_l]
    exact e1
  · rw [ent_I hk (Or.inr (Or.inl rfl)), hln, eI]
    have : wc g 2 = cA := Option.some.inj (((c9.2 2 _ rfl).2 : s.vm.findClass _ = some (wc g 2)).symm.trans hNm)
    show H1[wad g N]? = some (vp_cell (wc g 2) _)
    rw [this, vp_cell_i]
    exact e1
  · rw [ent_I hk (Or.inr (Or.inr rfl)), hln, eI]
    have : wc g 3 = cA := Option.some.inj (((c9.2 3 _ rfl).2 : s.vm.findClass _ = some (wc g 3)).symm.trans hNm)
    show H1[wad g N]? = some (vp_cell (wc g 3) _)
    rw [this, vp_cell_i]
    exact e1
theorem a_anew {n kd ix : Nat} {v : Int32} {Cn : String} (hcl : Cond.classLink μ.1.cls ix Cn ∈ wsG) (hk : KD N = kd) (hkd : (Cn = "SheetMarker$Formula" ∧ kd = 15) ∨ (Cn = "SheetMarker$Sheet" ∧ kd = 16)) (h0 : ¬ v < 0) (hv : v.toNatClampNeg = n) (hn : n ≤ 60000) (hln : ln (mk M N n) N = n) (hmc : mc1 + 1 ≤ mc) (hms : ms1 + n ≤ ms) (hdg : decode μ.2.1 pc = .ok (.anewarray ix, 3)) (kk : AW μ d mc1 ms1 (N + 1) (pc + 3) L (.ref N :: S) (mk M N n) Q) : AW μ d mc ms N pc L (.int v :: S) M Q := by
  intro g p l e R s m args below meth c H locs cells slots ls C hS hR hc hs hl
  obtain ⟨c1, c2, c3, c4, c5, c6, c7, c8, c9, c10, -⟩ := id C
  subst hv
  have hao : va_AO Cn s := by
    rcases hkd with ⟨rfl, -⟩ | ⟨rfl, -⟩
    · exact c10.2.2.2.2.2.2.2.1
    · exact c10.2.2.2.2.2.2.2.2
  refine W.anew c1 c2 c5 (c6 _ hcl) (va_AO.use hao) rfl hdg rfl h0 (by omega) (by omega) (by omega) fun cA kA comp f1 f2 f3 f4 => ?_
  generalize hH1 : H.push ({ cls := cA, slots := Array.replicate v.toNatClampNeg .null, vm := .none } : Cell) = H1
  have z1 : H1.size = H.size + 1 := by rw [← hH1, Array.size_push]
  have e1 : H1[H.size]? = some (arrV cA v.toNatClampNeg (fun _ => .null)) := by rw [← hH1, Array.getElem?_push_size, ← arrV_new]
  have o1 : ∀ q : Nat, q < H.size → H1[q]? = H[q]? := fun q hq => by rw [← hH1, Array.getElem?_push, if_neg (Nat.ne_of_lt hq)]
  have hst : (F0 m (pc + 3) ls (.ref H.size :: S.map (tv (wad g)))) = F0 m (pc + 3) ls ((.ref N :: S : List Value).map (tv (wad g))) := by rw [hR.top]; rfl
  refine W.eq hst ?_
  refine kk g p l e R s m args below meth c H1 locs _ _ ls C (hS.grow z1 o1) (hR.new z1 o1 ?_) (by omega) (by omega) hl
  have eA : (fun j => (rA (mk M N v.toNatClampNeg) N j).map (wad g)) = fun _ => none := by funext j; simp [rA, mk]
  rw [hR.top] at e1
  rcases hkd with ⟨rfl, rfl⟩ | ⟨rfl, rfl⟩
  · rw [ent_A hk (Or.inl rfl), hln, eA]
    obtain ⟨kA', comp', k1, k2, k3, k4⟩ := (c9.2 4 _ rfl).2
    have : wc g 4 = cA := Option.some.inj (k4.symm.trans f1)
    show H1[wad g N]? = some (vp_cell (wc g 4) _)
    rw [this, vp_cell_q]
    exact e1
  · rw [ent_A hk (Or.inr rfl), hln, eA]
    obtain ⟨kA', comp', k1, k2, k3, k4⟩ := (c9.2 5 _ rfl).2
    have : wc g 5 = cA := Option.some.inj (k4.symm.trans f1)
    show H1[wad g N]? = some (vp_cell (wc g 5) _)
    rw [this, vp_cell_q]
    exact e1
/-- a cell into an array of references -/
theorem a_aast {q v kd ci : Nat} {i : Int32} (hk : KD q = kd) (hkd : (kd = 15 ∧ ci = 2) ∨ (kd = 16 ∧ ci = 7)) (hv : KD v = ci) (hq : 2 ≤ q) (hn : q < N) (hv2 : 2 ≤ v) (hvN : v < N) (hin : vp_in i (ln M q)) (hdg : decode μ.2.1 pc = .ok (.aastore, 1)) (kk : AW μ d mc ms N (pc + 1) L S (sA M q i.toNatClampNeg (some v)) Q) : AW μ d mc ms N pc L (.ref v :: .int i :: .ref q :: S) M Q := by
  intro g p l e R s m args below meth c H locs cells slots ls C hS hR hc hs hl
  obtain ⟨c1, c2, c3, c4, c5, c6, c7, c8, c9, -⟩ := id C
  have hat := hR.2.2 q hq hn
  have hkq : kd = 15 ∨ kd = 16 := by omega
  rw [ent_A hk hkq] at hat
  have hci : ci < 11 := by omega
  have hav := hR.2.2 v hv2 hvN
  rw [ent_obj hv hci] at hav
  obtain ⟨r', hr', cellV, g1, g2, g3, -⟩ := hav
  have hcls := (c9.1 ci _ (cN_at ci hci)).2
  have hlt : i.toNatClampNeg < ln M q := Nat.not_le.mp fun q => hin (Or.inr q)
  have h0 : ¬ i < 0 := fun q => hin (Or.inl q)
  have hra : va_RA s (wc g (kd - 11)) (.object (cN ci).1) := by
    rcases hkd with ⟨rfl, rfl⟩ | ⟨rfl, rfl⟩
    · exact (c9.2 4 _ rfl).2
    · exact (c9.2 5 _ rfl).2
  obtain ⟨kA, comp, k1, k2, k3, -⟩ := hra
  have hcomp : comp = (wD g).1 ci := Option.some.inj (k3.symm.trans hcls.1)
  subst hcomp
  obtain ⟨kC, hkC, -⟩ := hcls.2
  refine W.aast c1 c2 hat (fun q h => by cases h) (fun h => by cases h) k1 k2 rfl hkC ⟨h0, by show _ < (arrV _ _ _).slots.size; rw [arrV_size]; exact hlt⟩ g1 (fun q h => by rw [g3] at h; cases h) (by rw [g2]; exact hkC) (by rw [g2]; exact va_assign hcls) rfl rfl hdg fun H1 e1 z oq => ?_
  refine kk g p l e R s m args below meth c H1 _ cells slots ls C (hS.put z oq (wad_ge hq)) (hR.put hq z oq (fun q' h => ent_sA h) ?_) hc hs hl
  rw [ent_A hk hkq]
  show H1[wad g q]? = some (vp_cell _ _)
  rw [e1]
  rw [vp_cell_q, vp_cell_q, arrV_store]
  congr 2
  funext j
  by_cases hj : j = i.toNatClampNeg
  · subst hj
    simp [updV, rA, sA, up2, va_rf]
  · simp [updV, rA, sA, up2, hj]
theorem a_aastN {q : Nat} {i : Int32} (hk : KD q = 15) (hq : 2 ≤ q) (hn : q < N) (hin : vp_in i (ln M q)) (hdg : decode μ.2.1 pc = .ok (.aastore, 1)) (kk : AW μ d mc ms N (pc + 1) L S (sA M q i.toNatClampNeg none) Q) : AW μ d mc ms N pc L (.null :: .int i :: .ref q :: S) M Q := by
  intro g p l e R s m args below meth c H locs cells slots ls C hS hR hc hs hl
  obtain ⟨c1, c2, c3, c4, c5, c6, c7, c8, c9, -⟩ := id C
  have hat := hR.2.2 q hq hn
  rw [ent_A hk (Or.inl rfl)] at hat
  refine va_WaastN (C := "SheetMarker$Formula") c1 c2 hat ((c9.2 4 _ rfl).1 (ln M q) (fun j => va_rf ((rA M q j).map (wad g)))) (fun h => by cases h) (by show ¬ (i < 0 ∨ (arrV _ _ _).slots.size ≤ _); rw [arrV_size]; exact hin) rfl rfl hdg fun H1 e1 z oq => ?_
  refine kk g p l e R s m args below meth c H1 _ cells slots ls C (hS.put z oq (wad_ge hq)) (hR.put hq z oq (fun q' h => ent_sA h) ?_) hc hs hl
  rw [ent_A hk (Or.inl rfl)]
  show H1[wad g q]? = some (vp_cell _ _)
  rw [e1]
  rw [vp_cell_q, vp_cell_q, arrV_store]
  congr 2
  funext j
  by_cases hj : j = i.toNatClampNeg
  · subst hj
    simp [updV, rA, sA, up2, va_rf]
  · simp [updV, rA, sA, up2, hj]
theorem a_aastQ {q : Nat} {o : Option Nat} {i : Int32} (hk : KD q = 15) (hv : ∀ v, o = some v → KD v = 2 ∧ 2 ≤ v ∧ v < N) (hq : 2 ≤ q) (hn : q < N) (hin : vp_in i (ln M q)) (hdg : decode μ.2.1 pc = .ok (.aastore, 1)) (kk : AW μ d mc ms N (pc + 1) L S (sA M q i.toNatClampNeg o) Q) : AW μ d mc ms N pc L (rv o :: .int i :: .ref q :: S) M Q := by
  cases o with
  | none => exact a_aastN hk hq hn hin hdg kk
  | some v => exact a_aast hk (Or.inl ⟨rfl, rfl⟩) (hv v rfl).1 hq hn (hv v rfl).2.1 (hv v rfl).2.2 hin hdg kk
/-- SIGNS: its cell has the number 1 -/
theorem a_gets {ix : Nat} (hown : μ.1.cls = "SheetMarker$Judge") (hix : ix = 140) (hdg : decode μ.2.1 pc = .ok (.getstatic ix, 3)) (kk : AW μ d mc ms N (pc + 3) L (.ref 1 :: S) M Q) : AW μ d mc ms N pc L S M Q := by
  intro g p l e R s m args below meth c H locs cells slots ls C hS hR hc hs hl
  obtain ⟨c1, c2, c3, c4, c5, c6, c7, c8, c9, c10, -⟩ := id C
  subst hix
  rw [hown] at c5
  exact va_getsN (C := "SheetMarker") (n := "SIGNS") (d := "[C") (host := "SheetMarker") c1 c2 c10.2.1 hS c5 (va_Nw.use rfl c10.2.2.2.2.2.2.1) (fun _ h => h) hdg (kk g p l e R s m args below meth c H locs cells slots ls C hS hR hc hs hl)
theorem a_sgld {i v : Int32} (hin : vp_in i 4) (hv : (if i.toNatClampNeg = 0 then (43 : Int32) else if i.toNatClampNeg = 1 then 45 else if i.toNatClampNeg = 2 then 42 else 47) = v) (hdg : decode μ.2.1 pc = .ok (.caload, 1)) (kk : AW μ d mc ms N (pc + 1) L (.int v :: S) M Q) : AW μ d mc ms N pc L (.int i :: .ref 1 :: S) M Q := by
  intro g p l e R s m args below meth c H locs cells slots ls C hS hR hc hs hl
  obtain ⟨c1, c2, c3, c4, c5, c6, c7, c8, c9, c10, -⟩ := id C
  subst hv
  exact va_tc (t := wsg g) c1 c2 c10.2.2.1 hS hin rfl hdg (kk g p l e R s m args below meth c H locs cells slots ls C hS hR hc hs hl)
theorem a_sglen (hdg : decode μ.2.1 pc = .ok (.arraylength, 1)) (kk : AW μ d mc ms N (pc + 1) L (.int 4 :: S) M Q) : AW μ d mc ms N pc L (.ref 1 :: S) M Q := by
  intro g p l e R s m args below meth c H locs cells slots ls C hS hR hc hs hl
  obtain ⟨c1, c2, c3, c4, c5, c6, c7, c8, c9, c10, -⟩ := id C
  exact va_tlen (t := wsg g) c1 c2 c10.2.2.1 hS rfl hdg (kk g p l e R s m args below meth c H locs cells slots ls C hS hR hc hs hl)
/-- the script: its cell has the number 0 -/
theorem a_sld {i : Int32} (hin : vp_in i (ln M 0)) (hdg : decode μ.2.1 pc = .ok (.iaload, 1)) (kk : AW μ d mc ms N (pc + 1) L (.int (rI M 0 i.toNatClampNeg) :: S) M Q) : AW μ d mc ms N pc L (.int i :: .ref 0 :: S) M Q := by
  intro g p l e R s m args below meth c H locs cells slots ls C hS hR hc hs hl
  obtain ⟨c1, c2, c3, c4, c5, c6, c7, c8, c9, c10, c11, -⟩ := id C
  obtain ⟨-, e1, e2⟩ := hR.1
  have hin2 : vp_in i (wL g) := by rw [e1]; exact hin
  have hv := e2 i.toNatClampNeg (Nat.not_le.mp fun q => hin2 (Or.inr q))
  have k := kk g p l e R s m args below meth c H locs cells slots ls C hS hR hc hs hl
  have hb := c10.2.2.2.1
  refine va_sld (b := wb g) c1 c2 c10.1 (Nat.lt_of_lt_of_le hb c11) (Nat.not_le.mpr hb) hS hin2 hdg ?_
  rw [hv]
  exact k
theorem a_slen {v : Int32} (hv : Int32.ofNat (ln M 0) = v) (hdg : decode μ.2.1 pc = .ok (.arraylength, 1)) (kk : AW μ d mc ms N (pc + 1) L (.int v :: S) M Q) : AW μ d mc ms N pc L (.ref 0 :: S) M Q := by
  intro g p l e R s m args below meth c H locs cells slots ls C hS hR hc hs hl
  obtain ⟨c1, c2, c3, c4, c5, c6, c7, c8, c9, c10, c11, -⟩ := id C
  have e1 := hR.1.2.1
  have k := kk g p l e R s m args below meth c H locs cells slots ls C hS hR hc hs hl
  have hb := c10.2.2.2.1
  refine va_slen (b := wb g) c1 c2 c10.1 (Nat.lt_of_lt_of_le hb c11) (Nat.not_le.mpr hb) hS hdg ?_
  rw [e1, hv]
  exact k
end NEWS
