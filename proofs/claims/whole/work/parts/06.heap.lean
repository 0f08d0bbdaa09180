/-! the heap's rows -/
theorem up2_ne {α : Type} {f : Nat → Nat → α} {q k a : Nat} {v : α} (h : a ≠ q) : up2 f q k v a = f a := by
  funext j
  unfold up2
  rw [if_neg (fun z => h z.1)]
theorem up2_at {α : Type} {f : Nat → Nat → α} {q k : Nat} {v : α} : up2 f q k v q = fun j => if j = k then v else f q j := by
  funext j
  unfold up2
  by_cases h : j = k <;> simp [h]
theorem wad_eq {g : World} {q : Nat} (h : 2 ≤ q) : wad g q = wz g + (q - 2) := by
  unfold wad adr
  rw [if_neg (by omega), if_neg (by omega)]
theorem wad_ge {g : World} {q : Nat} (h : 2 ≤ q) : wz g ≤ wad g q := by rw [wad_eq h]; omega
theorem wad_ne {g : World} {q q' : Nat} (h : 2 ≤ q) (h' : 2 ≤ q') (hn : q' ≠ q) : wad g q' ≠ wad g q := by rw [wad_eq h, wad_eq h']; omega
theorem ent_0 {g : World} {M M' : Mem} (h : ent g M' 0 = ent g M 0) : ln M' 0 = ln M 0 ∧ M'.1 0 = M.1 0 := by
  have e : ∀ X : Mem, ent g X 0 = .inl (wc g 88, ln X 0, .inl (X.1 0)) := fun X => rfl
  rw [e, e] at h
  have h1 := Sum.inl.inj h
  have h2 := (Prod.mk.inj h1).2
  exact ⟨(Prod.mk.inj h2).1, Sum.inl.inj (Prod.mk.inj h2).2⟩
theorem Rep.put {g : World} {N q : Nat} {M M' : Mem} {H H1 : Heap} (hR : Rep g N M H) (hq : 2 ≤ q) (hz : H1.size = H.size) (ho : ∀ a, a ≠ wad g q → H1[a]? = H[a]?) (he : ∀ q', q' ≠ q → ent g M' q' = ent g M q') (hat : va_at (wD g) vwCl (wad g q, ent g M' q) H1) : Rep g N M' H1 := by
  obtain ⟨e1, e2⟩ := ent_0 (he 0 (by omega))
  refine ⟨⟨hR.1.1, hR.1.2.1.trans e1.symm, fun j hj => by rw [e2]; exact hR.1.2.2 j hj⟩, hz.trans hR.2.1, fun q' h1 h2 => ?_⟩
  by_cases h : q' = q
  · subst h; exact hat
  · rw [he q' h]
    exact (hR.2.2 q' h1 h2).kept (ho _ (wad_ne hq h1 h))
theorem ent_obj {g : World} {M : Mem} {q ci : Nat} (h : KD q = ci) (hc : ci < 11) : ent g M q = .inr (ci, fl (wad g) M q (tyz ci) 0) := by
  unfold ent
  rw [h, if_pos hc]
theorem ent_I {g : World} {M : Mem} {q kd : Nat} (h : KD q = kd) (hc : kd = 11 ∨ kd = 13 ∨ kd = 14) : ent g M q = .inl (wc g (kd - 11), ln M q, .inl (M.1 q)) := by
  unfold ent
  rw [h, if_neg (by omega), if_neg (by omega), if_neg (by omega)]
theorem ent_J {g : World} {M : Mem} {q : Nat} (h : KD q = 12) : ent g M q = .inl (wc g 1, ln M q, .inr (.inl (M.2.1 q))) := by
  unfold ent
  rw [h, if_neg (by omega), if_pos rfl]
theorem ent_A {g : World} {M : Mem} {q kd : Nat} (h : KD q = kd) (hc : kd = 15 ∨ kd = 16) : ent g M q = .inl (wc g (kd - 11), ln M q, .inr (.inr (.inr (.inr (fun j => (rA M q j).map (wad g)))))) := by
  unfold ent
  rw [h, if_neg (by omega), if_neg (by omega), if_pos hc]
theorem fl_get {a : Nat → Nat} {M : Mem} {q : Nat} : ∀ {ts : List Nat} {k j : Nat}, (fl a M q ts k)[j]? = (ts[j]?).map (fun t => fv a M q (k + j) t)
  | [], k, j => by simp [fl]
  | t :: ts, k, 0 => by simp [fl]
  | t :: ts, k, j + 1 => by
    rw [fl, List.getElem?_cons_succ, List.getElem?_cons_succ, fl_get]
    congr 2
    funext t
    rw [show k + 1 + j = k + (j + 1) by omega]
theorem fl_len {a : Nat → Nat} {M : Mem} {q : Nat} : ∀ {ts : List Nat} {k : Nat}, (fl a M q ts k).length = ts.length
  | [], _ => rfl
  | t :: ts, k => by rw [fl, List.length_cons, List.length_cons, fl_len]
theorem fl_cong {a : Nat → Nat} {M M' : Mem} {q : Nat} {ts : List Nat} (hI : M'.1 q = M.1 q) (hJ : M'.2.1 q = M.2.1 q) (hA : M'.2.2.1 q = M.2.2.1 q) {k : Nat} : fl a M' q ts k = fl a M q ts k := by
  apply List.ext_getElem?
  intro j
  rw [fl_get, fl_get]
  congr 1
  funext t
  unfold fv rI rJ rA
  rw [hI, hJ, hA]
theorem ent_cong {g : World} {M M' : Mem} {q : Nat} (hI : M'.1 q = M.1 q) (hJ : M'.2.1 q = M.2.1 q) (hA : M'.2.2.1 q = M.2.2.1 q) (hL : M'.2.2.2 q = M.2.2.2 q) : ent g M' q = ent g M q := by
  unfold ent ln rL rA
  rw [fl_cong hI hJ hA, hI, hJ, hA, hL]
theorem ent_sI {g : World} {M : Mem} {q q' k : Nat} {v : Int32} (h : q' ≠ q) : ent g (sI M q k v) q' = ent g M q' := ent_cong (up2_ne h) rfl rfl rfl
theorem ent_sJ {g : World} {M : Mem} {q q' k : Nat} {v : Int64} (h : q' ≠ q) : ent g (sJ M q k v) q' = ent g M q' := ent_cong rfl (up2_ne h) rfl rfl
theorem ent_sA {g : World} {M : Mem} {q q' k : Nat} {v : Option Nat} (h : q' ≠ q) : ent g (sA M q k v) q' = ent g M q' := ent_cong rfl rfl (up2_ne h) rfl
theorem fl_setG {a : Nat → Nat} {M M' : Mem} {q k t : Nat} {v : Value} {ts : List Nat} (ht : ts[k]? = some t) (hv : fv a M' q k t = v) (ho : ∀ j u, j ≠ k → fv a M' q j u = fv a M q j u) : fl a M' q ts 0 = (fl a M q ts 0).set k v := by
  have hk : k < ts.length := (List.getElem?_eq_some_iff.mp ht).1
  apply List.ext_getElem?
  intro j
  rw [List.getElem?_set, fl_get, fl_get, fl_len, Nat.zero_add]
  by_cases h : k = j
  · subst h
    rw [if_pos rfl, if_pos hk, ht, Option.map_some, hv]
  · rw [if_neg h]
    congr 1
    funext u
    exact ho j u (fun z => h z.symm)
def rv (o : Option Nat) : Value := match o with
  | none => .null
  | some q => .ref q
theorem tv_rv (a : Nat → Nat) (o : Option Nat) : tv a (rv o) = va_rf (o.map a) := by cases o <;> rfl
def gv (M : Mem) (q k t : Nat) : Value := if t = 1 then .long (rJ M q k) else if t = 2 then rv (rA M q k) else .int (rI M q k)
theorem tv_gv (a : Nat → Nat) (M : Mem) (q k t : Nat) : tv a (gv M q k t) = fv a M q k t := by
  unfold gv fv
  split
  · rfl
  · split
    · exact tv_rv _ _
    · rfl
theorem cN_at : ∀ ci, ci < 11 → vwCl[ci]? = some (cN ci) := by
  intro ci h
  match ci, h with
  | 0, _ => rfl
  | 1, _ => rfl
  | 2, _ => rfl
  | 3, _ => rfl
  | 4, _ => rfl
  | 5, _ => rfl
  | 6, _ => rfl
  | 7, _ => rfl
  | 8, _ => rfl
  | 9, _ => rfl
  | 10, _ => rfl
theorem inG : ∀ ci, ci < 11 → ∀ w ∈ u_ws (cN ci).1 (cN ci).2.1 (cN ci).2.2, w ∈ wsG := by
  intro ci h
  match ci, h with
  | 0, _ => exact inG0
  | 1, _ => exact inG1
  | 2, _ => exact inG2
  | 3, _ => exact inG3
  | 4, _ => exact inG4
  | 5, _ => exact inG5
  | 6, _ => exact inG6
  | 7, _ => exact inG7
  | 8, _ => exact inG8
  | 9, _ => exact inG9
  | 10, _ => exact inG10
def tyN (ci : Nat) : Nat → FieldType := if ci = 0 then tyX0 else if ci = 1 then tyX1 else if ci = 2 then tyX2 else if ci = 3 then tyX3 else if ci = 4 then tyX4 else if ci = 5 then tyX5 else if ci = 6 then tyX6 else if ci = 7 then tyX7 else if ci = 8 then tyX8 else if ci = 9 then tyX9 else tyX10
theorem tyN_ok : ∀ ci, ci < 11 → ∀ k, k < (cN ci).2.2 → parseFieldDescriptor ((cN ci).2.1 k).2.2.1 = some (tyN ci k) := by
  intro ci h
  match ci, h with
  | 0, _ => exact tyX0_ok
  | 1, _ => exact tyX1_ok
  | 2, _ => exact tyX2_ok
  | 3, _ => exact tyX3_ok
  | 4, _ => exact tyX4_ok
  | 5, _ => exact tyX5_ok
  | 6, _ => exact tyX6_ok
  | 7, _ => exact tyX7_ok
  | 8, _ => exact tyX8_ok
  | 9, _ => exact tyX9_ok
  | 10, _ => exact tyX10_ok
theorem nmN : ∀ ci, ci < 11 → ∀ a, a < (cN ci).2.2 → ∀ b, b < (cN ci).2.2 → a ≠ b → ((cN ci).2.1 a).2.1 ≠ ((cN ci).2.1 b).2.1 := by
  intro ci h
  match ci, h with
  | 0, _ => exact nmX0
  | 1, _ => exact nmX1
  | 2, _ => exact nmX2
  | 3, _ => exact nmX3
  | 4, _ => exact nmX4
  | 5, _ => exact nmX5
  | 6, _ => exact nmX6
  | 7, _ => exact nmX7
  | 8, _ => exact nmX8
  | 9, _ => exact nmX9
  | 10, _ => exact nmX10
def tco : FieldType → Nat
  | .int => 0
  | .long => 1
  | .boolean => 3
  | .object _ => 2
  | .array _ => 2
  | _ => 9
theorem tcN : ∀ ci, ci < 11 → ∀ k, k < (cN ci).2.2 → (tyz ci)[k]? = some (tco (tyN ci k)) := by
  intro ci h
  match ci, h with
  | 0, _ => decide +kernel
  | 1, _ => decide +kernel
  | 2, _ => decide +kernel
  | 3, _ => decide +kernel
  | 4, _ => decide +kernel
  | 5, _ => decide +kernel
  | 6, _ => decide +kernel
  | 7, _ => decide +kernel
  | 8, _ => decide +kernel
  | 9, _ => decide +kernel
  | 10, _ => decide +kernel
section HEAP
variable {μ : MD} {d mc ms N pc : Nat} {L : List (Nat × Value)} {S : List Value} {M : Mem} {Q : Option Value → Nat → Mem → Prop}
theorem a_get {ix ci k q t : Nat} (hf : FLK μ.1.cls ix ci k) (hk : KD q = ci) (ht : (tyz ci)[k]? = some t) (hq : 2 ≤ q) (hn : q < N) (hdg : decode μ.2.1 pc = .ok (.getfield ix, 3)) (kk : AW μ d mc ms N (pc + 3) L (gv M q k t :: S) M Q) : AW μ d mc ms N pc L (.ref q :: S) M Q := by
  intro g p l e R s m args below meth c H locs cells slots ls C hS hR hc hs hl
  obtain ⟨c1, c2, c3, c4, c5, c6, c7, c8, c9, -⟩ := id C
  obtain ⟨⟨h1, h2⟩, h3⟩ := hf
  have hat := hR.2.2 q hq hn
  rw [ent_obj hk h1] at hat
  have hP : va_P (wD g) vwCl [(wad g q, .inr (ci, fl (wad g) M q (tyz ci) 0))] H := fun j x hx => by
    have hj : j < 1 := (List.getElem?_eq_some_iff.mp hx).1
    obtain rfl : j = 0 := by omega
    cases hx
    exact hat
  refine va_get (D := wD g) (v := tv (wad g) (gv M q k t)) c1 c2 c6 (inG ci h1) c5 c9 hP 0 rfl (cN_at ci h1) k h2 (c6 _ h3) (fun _ h => h) ?_ hdg (kk g p l e R s m args below meth c H locs cells slots ls C hS hR hc hs hl)
  rw [fl_get, ht, tv_gv, Option.map_some, Nat.zero_add]
theorem a_getI {ix ci k q : Nat} (hf : FLK μ.1.cls ix ci k) (hk : KD q = ci) (ht : (tyz ci)[k]? = some 0) (hq : 2 ≤ q) (hn : q < N) (hdg : decode μ.2.1 pc = .ok (.getfield ix, 3)) (kk : AW μ d mc ms N (pc + 3) L (.int (rI M q k) :: S) M Q) : AW μ d mc ms N pc L (.ref q :: S) M Q := a_get hf hk ht hq hn hdg kk
theorem a_getZ {ix ci k q : Nat} (hf : FLK μ.1.cls ix ci k) (hk : KD q = ci) (ht : (tyz ci)[k]? = some 3) (hq : 2 ≤ q) (hn : q < N) (hdg : decode μ.2.1 pc = .ok (.getfield ix, 3)) (kk : AW μ d mc ms N (pc + 3) L (.int (rI M q k) :: S) M Q) : AW μ d mc ms N pc L (.ref q :: S) M Q := a_get hf hk ht hq hn hdg kk
theorem a_getJ {ix ci k q : Nat} (hf : FLK μ.1.cls ix ci k) (hk : KD q = ci) (ht : (tyz ci)[k]? = some 1) (hq : 2 ≤ q) (hn : q < N) (hdg : decode μ.2.1 pc = .ok (.getfield ix, 3)) (kk : AW μ d mc ms N (pc + 3) L (.long (rJ M q k) :: S) M Q) : AW μ d mc ms N pc L (.ref q :: S) M Q := a_get hf hk ht hq hn hdg kk
theorem a_getA {ix ci k q z : Nat} (hf : FLK μ.1.cls ix ci k) (hk : KD q = ci) (ht : (tyz ci)[k]? = some 2) (hz : rA M q k = some z) (hq : 2 ≤ q) (hn : q < N) (hdg : decode μ.2.1 pc = .ok (.getfield ix, 3)) (kk : AW μ d mc ms N (pc + 3) L (.ref z :: S) M Q) : AW μ d mc ms N pc L (.ref q :: S) M Q := a_get hf hk ht hq hn hdg (by
  show AW μ d mc ms N (pc + 3) L (rv (rA M q k) :: S) M Q
  rw [hz]
  exact kk)
/-- a store into a field -/
theorem a_put {ix ci k q t : Nat} {v : Value} {M' : Mem} (hf : FLK μ.1.cls ix ci k) (hk : KD q = ci) (ht : (tyz ci)[k]? = some t) (hq : 2 ≤ q) (hn : q < N) (hfin : ((cN ci).2.1 k).2.2.2 = false ∨ (((cN ci).2.1 k).2.2.2 = true ∧ μ.1.name = "<init>" ∧ ((cN ci).2.1 k).1 = μ.1.cls)) (hv : ∀ a ty, tco ty = t → narrow ty (tv a v) = tv a v ∧ fits ty (tv a v) = true)
    (hset : ∀ a, fl a M' q (tyz ci) 0 = (fl a M q (tyz ci) 0).set k (tv a v)) (ho : ∀ g q', q' ≠ q → ent g M' q' = ent g M q') (hdg : decode μ.2.1 pc = .ok (.putfield ix, 3)) (kk : AW μ d mc ms N (pc + 3) L S M' Q) : AW μ d mc ms N pc L (v :: .ref q :: S) M Q := by
  intro g p l e R s m args below meth c H locs cells slots ls C hS hR hc hs hl
  obtain ⟨c1, c2, c3, c4, c5, c6, c7, c8, c9, -⟩ := id C
  obtain ⟨⟨h1, h2⟩, h3⟩ := hf
  have hat := hR.2.2 q hq hn
  rw [ent_obj hk h1] at hat
  obtain ⟨r, g1, cell, q1, q2, q3, q4⟩ := hat
  have hcl := cN_at ci h1
  have hr : r = cN ci := Option.some.inj (g1.symm.trans hcl)
  subst hr
  have hap := va_apart (own := μ.1.cls) c6 (inG ci h1) (tyN ci) (tyN_ok ci h1) (nmN ci h1) c9 hcl
  obtain ⟨hSl, hfc, kC, hkC, hkind⟩ := c9.1 ci _ hcl
  obtain ⟨cf, kf, fi, f, hi, hsl⟩ := hSl k h2
  have hst := (u_facts hfc hkC (u_lays c6 (inG ci h1) h2) hi).1
  have hty : tco (tyN ci k) = t := by
    have := tcN ci h1 k h2
    rw [ht] at this
    exact (Option.some.inj this).symm
  obtain ⟨hn1, hn2⟩ := hv (wad g) (tyN ci k) hty
  have hln : k < (fl (wad g) M q (tyz ci) 0).length := by rw [fl_len]; exact (List.getElem?_eq_some_iff.mp ht).1
  have fin : ∀ (H' : Heap), H'[wad g q]? = some (cell.setSlot ((wD g).2 ci k) (tv (wad g) v)) → H'.size = H.size → (∀ a, a ≠ wad g q → H'[a]? = H[a]?) → W p l e R s m args below meth c H' (locs ++ [⟨wad g q, (wD g).2 ci k⟩]) cells slots (MQ below (AQ g Q) args s R.cells R.slots (wA g)) (F0 m (pc + 3) ls (S.map (tv (wad g)))) := fun H' e1 e2 e3 => by
    refine kk g p l e R s m args below meth c H' _ cells slots ls C (hS.put e2 e3 (wad_ge hq)) (hR.put hq e2 e3 (ho g) ?_) hc hs hl
    rw [ent_obj hk h1, hset]
    exact ⟨_, hcl, t_OB.to (V := updV (vp_V (fl (wad g) M q (tyz ci) 0)) k (tv (wad g) v)) ⟨_, e1, q2, q3, t_set q4 hap h2 _⟩ (fun j _ => vp_updV_set hln _ j)⟩
  rcases hfin with hfin | ⟨hfin, hin2, hdecl⟩
  · have hlay := c6 _ (inG ci h1 _ (u_in_lay h2))
    unfold u_lay at hlay
    rw [if_neg (by rw [hfin]; decide)] at hlay
    have h6 := u_store hfc hkC hkind hlay hi (tyN_ok ci h1 k h2) hn1 hn2
    refine W.putK c1 c2 (f := f) ⟨c5, c6 _ h3, ⟨_, _, _, hi⟩, hst⟩ (by rw [q2]; exact h6) q1 q3 (by rw [hsl]; exact k2_hasslot (q4 k h2)) rfl rfl hdg fun H' e1 e2 e3 => ?_
    rw [hsl] at e1 ⊢
    exact fin H' e1 e2 e3
  · have hlay := c6 _ (inG ci h1 _ (u_in_lay h2))
    unfold u_lay at hlay
    rw [if_pos hfin] at hlay
    have hcf : m.cls = cf := by
      obtain ⟨_, _, c', _, _, _, -, -, hf', -, -, -, hown2, -⟩ := Cond.laysFinal_spec hlay
      have e1 : c' = cf := by have := hi.symm.trans hf'; simp at this; exact this.1.symm
      rw [hdecl] at hown2
      rw [← e1]; exact Option.some.inj (c5.symm.trans hown2)
    have h6 := u_fits hfc hkC hkind (Or.inr hlay) hi (tyN_ok ci h1 k h2) hn1 hn2
    refine W.putFinK c1 c2 c5 (c6 _ h3) hi hst hcf (c8.trans hin2) (by rw [q2]; exact h6) q1 q3 (by rw [hsl]; exact k2_hasslot (q4 k h2)) rfl rfl hdg fun H' e1 e2 e3 => ?_
    rw [hsl] at e1 ⊢
    exact fin H' e1 e2 e3
theorem a_putI {ix ci k q : Nat} {v : Int32} (hf : FLK μ.1.cls ix ci k) (hk : KD q = ci) (ht : (tyz ci)[k]? = some 0) (hfin : ((cN ci).2.1 k).2.2.2 = false) (hq : 2 ≤ q) (hn : q < N) (hdg : decode μ.2.1 pc = .ok (.putfield ix, 3)) (kk : AW μ d mc ms N (pc + 3) L S (sI M q k v) Q) : AW μ d mc ms N pc L (.int v :: .ref q :: S) M Q := by
  refine a_put hf hk ht hq hn (Or.inl hfin) (fun a ty h => ?_) (fun a => ?_) (fun g q' h => ent_sI h) hdg kk
  · cases ty <;> first | exact ⟨rfl, rfl⟩ | cases h
  · refine fl_setG ht ?_ (fun j u hj => ?_)
    · simp [fv, rI, sI, up2, tv]
    · simp [fv, rI, rJ, rA, sI, up2, hj]
theorem a_putZ {ix ci k q : Nat} {v : Int32} (hf : FLK μ.1.cls ix ci k) (hk : KD q = ci) (ht : (tyz ci)[k]? = some 3) (hfin : ((cN ci).2.1 k).2.2.2 = false) (hv : v = 0 ∨ v = 1) (hq : 2 ≤ q) (hn : q < N) (hdg : decode μ.2.1 pc = .ok (.putfield ix, 3)) (kk : AW μ d mc ms N (pc + 3) L S (sI M q k v) Q) : AW μ d mc ms N pc L (.int v :: .ref q :: S) M Q := by
  refine a_put hf hk ht hq hn (Or.inl hfin) (fun a ty h => ?_) (fun a => ?_) (fun g q' h => ent_sI h) hdg kk
  · cases ty <;> first | (rcases hv with rfl | rfl <;> exact ⟨rfl, rfl⟩) | cases h
  · refine fl_setG ht ?_ (fun j u hj => ?_)
    · simp [fv, rI, sI, up2, tv]
    · simp [fv, rI, rJ, rA, sI, up2, hj]
theorem a_putJ {ix ci k q : Nat} {v : Int64} (hf : FLK μ.1.cls ix ci k) (hk : KD q = ci) (ht : (tyz ci)[k]? = some 1) (hfin : ((cN ci).2.1 k).2.2.2 = false) (hq : 2 ≤ q) (hn : q < N) (hdg : decode μ.2.1 pc = .ok (.putfield ix, 3)) (kk : AW μ d mc ms N (pc + 3) L S (sJ M q k v) Q) : AW μ d mc ms N pc L (.long v :: .ref q :: S) M Q := by
  refine a_put hf hk ht hq hn (Or.inl hfin) (fun a ty h => ?_) (fun a => ?_) (fun g q' h => ent_sJ h) hdg kk
  · cases ty <;> first | exact ⟨rfl, rfl⟩ | cases h
  · refine fl_setG ht ?_ (fun j u hj => ?_)
    · simp [fv, rJ, sJ, up2, tv]
    · simp [fv, rI, rJ, rA, sJ, up2, hj]
theorem a_putA {ix ci k q z : Nat} (hf : FLK μ.1.cls ix ci k) (hk : KD q = ci) (ht : (tyz ci)[k]? = some 2) (hfin : ((cN ci).2.1 k).2.2.2 = true) (hi : μ.1.name = "<init>") (hd : ((cN ci).2.1 k).1 = μ.1.cls) (hq : 2 ≤ q) (hn : q < N) (hdg : decode μ.2.1 pc = .ok (.putfield ix, 3)) (kk : AW μ d mc ms N (pc + 3) L S (sA M q k (some z)) Q) : AW μ d mc ms N pc L (.ref z :: .ref q :: S) M Q := by
  refine a_put hf hk ht hq hn (Or.inr ⟨hfin, hi, hd⟩) (fun a ty h => ?_) (fun a => ?_) (fun g q' h => ent_sA h) hdg kk
  · cases ty <;> first | exact ⟨rfl, rfl⟩ | cases h
  · refine fl_setG ht ?_ (fun j u hj => ?_)
    · simp [fv, rA, sA, up2, tv, va_rf]
    · simp [fv, rI, rJ, rA, sA, up2, hj]

theorem a_iald {q : Nat} {i : Int32} (hk : KD q = 11) (hq : 2 ≤ q) (hn : q < N) (hin : vp_in i (ln M q)) (hdg : decode μ.2.1 pc = .ok (.iaload, 1)) (kk : AW μ d mc ms N (pc + 1) L (.int (rI M q i.toNatClampNeg) :: S) M Q) : AW μ d mc ms N pc L (.int i :: .ref q :: S) M Q := by
  intro g p l e R s m args below meth c H locs cells slots ls C hS hR hc hs hl
  obtain ⟨c1, c2, c3, c4, c5, c6, c7, c8, c9, -⟩ := id C
  have hat := hR.2.2 q hq hn
  rw [ent_I hk (Or.inl rfl)] at hat
  have hP : va_P (wD g) vwCl [(wad g q, _)] H := fun j x hx => by
    have hj : j < 1 := (List.getElem?_eq_some_iff.mp hx).1
    obtain rfl : j = 0 := by omega
    cases hx
    exact hat
  exact va_iald c1 c2 c9 hP 0 0 rfl rfl hin hdg (kk g p l e R s m args below meth c H locs cells slots ls C hS hR hc hs hl)
theorem a_bald {q : Nat} {i : Int32} (hk : KD q = 13) (hq : 2 ≤ q) (hn : q < N) (hin : vp_in i (ln M q)) (hdg : decode μ.2.1 pc = .ok (.baload, 1)) (kk : AW μ d mc ms N (pc + 1) L (.int (rI M q i.toNatClampNeg) :: S) M Q) : AW μ d mc ms N pc L (.int i :: .ref q :: S) M Q := by
  intro g p l e R s m args below meth c H locs cells slots ls C hS hR hc hs hl
  obtain ⟨c1, c2, c3, c4, c5, c6, c7, c8, c9, -⟩ := id C
  have hat := hR.2.2 q hq hn
  rw [ent_I hk (Or.inr (Or.inl rfl))] at hat
  have hP : va_P (wD g) vwCl [(wad g q, _)] H := fun j x hx => by
    have hj : j < 1 := (List.getElem?_eq_some_iff.mp hx).1
    obtain rfl : j = 0 := by omega
    cases hx
    exact hat
  exact va_bald c1 c2 c9 hP 0 2 rfl rfl hin hdg (kk g p l e R s m args below meth c H locs cells slots ls C hS hR hc hs hl)
theorem a_zald {q : Nat} {i : Int32} (hk : KD q = 14) (hq : 2 ≤ q) (hn : q < N) (hin : vp_in i (ln M q)) (hdg : decode μ.2.1 pc = .ok (.baload, 1)) (kk : AW μ d mc ms N (pc + 1) L (.int (rI M q i.toNatClampNeg) :: S) M Q) : AW μ d mc ms N pc L (.int i :: .ref q :: S) M Q := by
  intro g p l e R s m args below meth c H locs cells slots ls C hS hR hc hs hl
  obtain ⟨c1, c2, c3, c4, c5, c6, c7, c8, c9, -⟩ := id C
  have hat := hR.2.2 q hq hn
  rw [ent_I hk (Or.inr (Or.inr rfl))] at hat
  have hP : va_P (wD g) vwCl [(wad g q, _)] H := fun j x hx => by
    have hj : j < 1 := (List.getElem?_eq_some_iff.mp hx).1
    obtain rfl : j = 0 := by omega
    cases hx
    exact hat
  exact va_zald c1 c2 c9 hP 0 3 rfl rfl hin hdg (kk g p l e R s m args below meth c H locs cells slots ls C hS hR hc hs hl)
theorem a_lald {q : Nat} {i : Int32} (hk : KD q = 12) (hq : 2 ≤ q) (hn : q < N) (hin : vp_in i (ln M q)) (hdg : decode μ.2.1 pc = .ok (.laload, 1)) (kk : AW μ d mc ms N (pc + 1) L (.long (rJ M q i.toNatClampNeg) :: S) M Q) : AW μ d mc ms N pc L (.int i :: .ref q :: S) M Q := by
  intro g p l e R s m args below meth c H locs cells slots ls C hS hR hc hs hl
  obtain ⟨c1, c2, c3, c4, c5, c6, c7, c8, c9, -⟩ := id C
  have hat := hR.2.2 q hq hn
  rw [ent_J hk] at hat
  have hP : va_P (wD g) vwCl [(wad g q, _)] H := fun j x hx => by
    have hj : j < 1 := (List.getElem?_eq_some_iff.mp hx).1
    obtain rfl : j = 0 := by omega
    cases hx
    exact hat
  exact va_lald c1 c2 c9 hP 0 1 rfl rfl hin hdg (kk g p l e R s m args below meth c H locs cells slots ls C hS hR hc hs hl)
theorem a_aaldF {q : Nat} {i : Int32} (hk : KD q = 15) (hq : 2 ≤ q) (hn : q < N) (hin : vp_in i (ln M q)) (hdg : decode μ.2.1 pc = .ok (.aaload, 1)) (kk : AW μ d mc ms N (pc + 1) L (rv (rA M q i.toNatClampNeg) :: S) M Q) : AW μ d mc ms N pc L (.int i :: .ref q :: S) M Q := by
  intro g p l e R s m args below meth c H locs cells slots ls C hS hR hc hs hl
  obtain ⟨c1, c2, c3, c4, c5, c6, c7, c8, c9, -⟩ := id C
  have hat := hR.2.2 q hq hn
  rw [ent_A hk (Or.inl rfl)] at hat
  have hP : va_P (wD g) vwCl [(wad g q, _)] H := fun j x hx => by
    have hj : j < 1 := (List.getElem?_eq_some_iff.mp hx).1
    obtain rfl : j = 0 := by omega
    cases hx
    exact hat
  refine va_aldq c1 c2 c9 hP 0 4 rfl rfl hin hdg ?_
  rw [← tv_rv]
  exact kk g p l e R s m args below meth c H locs cells slots ls C hS hR hc hs hl
theorem a_aaldS {q : Nat} {i : Int32} (hk : KD q = 16) (hq : 2 ≤ q) (hn : q < N) (hin : vp_in i (ln M q)) (hdg : decode μ.2.1 pc = .ok (.aaload, 1)) (kk : AW μ d mc ms N (pc + 1) L (rv (rA M q i.toNatClampNeg) :: S) M Q) : AW μ d mc ms N pc L (.int i :: .ref q :: S) M Q := by
  intro g p l e R s m args below meth c H locs cells slots ls C hS hR hc hs hl
  obtain ⟨c1, c2, c3, c4, c5, c6, c7, c8, c9, -⟩ := id C
  have hat := hR.2.2 q hq hn
  rw [ent_A hk (Or.inr rfl)] at hat
  have hP : va_P (wD g) vwCl [(wad g q, _)] H := fun j x hx => by
    have hj : j < 1 := (List.getElem?_eq_some_iff.mp hx).1
    obtain rfl : j = 0 := by omega
    cases hx
    exact hat
  refine va_aldq c1 c2 c9 hP 0 5 rfl rfl hin hdg ?_
  rw [← tv_rv]
  exact kk g p l e R s m args below meth c H locs cells slots ls C hS hR hc hs hl
theorem a_iast {q : Nat} {i : Int32} {x : Int32} (hk : KD q = 11) (hq : 2 ≤ q) (hn : q < N) (hin : vp_in i (ln M q)) (hdg : decode μ.2.1 pc = .ok (.iastore, 1)) (kk : AW μ d mc ms N (pc + 1) L S (sI M q i.toNatClampNeg x) Q) : AW μ d mc ms N pc L (.int x :: .int i :: .ref q :: S) M Q := by
  intro g p l e R s m args below meth c H locs cells slots ls C hS hR hc hs hl
  obtain ⟨c1, c2, c3, c4, c5, c6, c7, c8, c9, -⟩ := id C
  have hat := hR.2.2 q hq hn
  rw [ent_I hk (Or.inl rfl)] at hat
  refine W.iast c1 c2 hat ((c9.2 0 _ rfl).1 (ln M q) (fun j => .int (M.1 q j))) (fun q => by cases q) (by show ¬ (i < 0 ∨ (arrV _ _ _).slots.size ≤ _); rw [arrV_size]; exact hin) rfl rfl hdg fun H1 e1 z oq => ?_
  refine kk g p l e R s m args below meth c H1 _ cells slots ls C (hS.put z oq (wad_ge hq)) (hR.put hq z oq (fun q' h => ent_sI h) ?_) hc hs hl
  rw [ent_I hk (Or.inl rfl)]
  show H1[wad g q]? = some (vp_cell _ _)
  rw [e1]
  rw [vp_cell_i, vp_cell_i, arrV_store]
  congr 2
  funext j
  by_cases hj : j = i.toNatClampNeg
  · subst hj
    simp [updV, sI, up2]
  · simp [updV, sI, up2, hj]
theorem a_bast {q : Nat} {i : Int32} {x : Int32} (hk : KD q = 13) (hq : 2 ≤ q) (hn : q < N) (hin : vp_in i (ln M q)) (hdg : decode μ.2.1 pc = .ok (.bastore, 1)) (kk : AW μ d mc ms N (pc + 1) L S (sI M q i.toNatClampNeg x.toInt8.toInt32) Q) : AW μ d mc ms N pc L (.int x :: .int i :: .ref q :: S) M Q := by
  intro g p l e R s m args below meth c H locs cells slots ls C hS hR hc hs hl
  obtain ⟨c1, c2, c3, c4, c5, c6, c7, c8, c9, -⟩ := id C
  have hat := hR.2.2 q hq hn
  rw [ent_I hk (Or.inr (Or.inl rfl))] at hat
  refine W.bast c1 c2 hat ((c9.2 2 _ rfl).1 (ln M q) (fun j => .int (M.1 q j))) (fun q => by cases q) (by show ¬ (i < 0 ∨ (arrV _ _ _).slots.size ≤ _); rw [arrV_size]; exact hin) rfl rfl hdg fun H1 e1 z oq => ?_
  refine kk g p l e R s m args below meth c H1 _ cells slots ls C (hS.put z oq (wad_ge hq)) (hR.put hq z oq (fun q' h => ent_sI h) ?_) hc hs hl
  rw [ent_I hk (Or.inr (Or.inl rfl))]
  show H1[wad g q]? = some (vp_cell _ _)
  rw [e1]
  rw [vp_cell_i, vp_cell_i, arrV_store]
  congr 2
  funext j
  by_cases hj : j = i.toNatClampNeg
  · subst hj
    simp [updV, sI, up2, narrow]
  · simp [updV, sI, up2, hj]
theorem a_zast {q : Nat} {i : Int32} {x : Int32} (hk : KD q = 14) (hq : 2 ≤ q) (hn : q < N) (hin : vp_in i (ln M q)) (hx : narrow .boolean (.int x) = .int x) (hdg : decode μ.2.1 pc = .ok (.bastore, 1)) (kk : AW μ d mc ms N (pc + 1) L S (sI M q i.toNatClampNeg x) Q) : AW μ d mc ms N pc L (.int x :: .int i :: .ref q :: S) M Q := by
  intro g p l e R s m args below meth c H locs cells slots ls C hS hR hc hs hl
  obtain ⟨c1, c2, c3, c4, c5, c6, c7, c8, c9, -⟩ := id C
  have hat := hR.2.2 q hq hn
  rw [ent_I hk (Or.inr (Or.inr rfl))] at hat
  refine W.zast c1 c2 hat ((c9.2 3 _ rfl).1 (ln M q) (fun j => .int (M.1 q j))) (fun q => by cases q) (by show ¬ (i < 0 ∨ (arrV _ _ _).slots.size ≤ _); rw [arrV_size]; exact hin) rfl rfl hdg fun H1 e1 z oq => ?_
  refine kk g p l e R s m args below meth c H1 _ cells slots ls C (hS.put z oq (wad_ge hq)) (hR.put hq z oq (fun q' h => ent_sI h) ?_) hc hs hl
  rw [ent_I hk (Or.inr (Or.inr rfl))]
  show H1[wad g q]? = some (vp_cell _ _)
  rw [e1]
  rw [vp_cell_i, vp_cell_i, arrV_store]
  congr 2
  funext j
  by_cases hj : j = i.toNatClampNeg
  · subst hj
    simp [updV, sI, up2, hx]
  · simp [updV, sI, up2, hj]
theorem a_last {q : Nat} {i : Int32} {x : Int64} (hk : KD q = 12) (hq : 2 ≤ q) (hn : q < N) (hin : vp_in i (ln M q)) (hdg : decode μ.2.1 pc = .ok (.lastore, 1)) (kk : AW μ d mc ms N (pc + 1) L S (sJ M q i.toNatClampNeg x) Q) : AW μ d mc ms N pc L (.long x :: .int i :: .ref q :: S) M Q := by
  intro g p l e R s m args below meth c H locs cells slots ls C hS hR hc hs hl
  obtain ⟨c1, c2, c3, c4, c5, c6, c7, c8, c9, -⟩ := id C
  have hat := hR.2.2 q hq hn
  rw [ent_J hk] at hat
  refine W.last c1 c2 hat ((c9.2 1 _ rfl).1 (ln M q) (fun j => .long (M.2.1 q j))) (fun q => by cases q) (by show ¬ (i < 0 ∨ (arrV _ _ _).slots.size ≤ _); rw [arrV_size]; exact hin) rfl rfl hdg fun H1 e1 z oq => ?_
  refine kk g p l e R s m args below meth c H1 _ cells slots ls C (hS.put z oq (wad_ge hq)) (hR.put hq z oq (fun q' h => ent_sJ h) ?_) hc hs hl
  rw [ent_J hk]
  show H1[wad g q]? = some (vp_cell _ _)
  rw [e1]
  rw [vp_cell_l, vp_cell_l, arrV_store]
  congr 2
  funext j
  by_cases hj : j = i.toNatClampNeg
  · subst hj
    simp [updV, sJ, up2]
  · simp [updV, sJ, up2, hj]
theorem a_alen {q kd : Nat} {v : Int32} (hk : KD q = kd) (hkd : 11 ≤ kd ∧ kd ≤ 16) (hq : 2 ≤ q) (hn : q < N) (hv : Int32.ofNat (ln M q) = v) (hdg : decode μ.2.1 pc = .ok (.arraylength, 1)) (kk : AW μ d mc ms N (pc + 1) L (.int v :: S) M Q) : AW μ d mc ms N pc L (.ref q :: S) M Q := by
  intro g p l e R s m args below meth c H locs cells slots ls C hS hR hc hs hl
  obtain ⟨c1, c2, c3, c4, c5, c6, c7, c8, c9, -⟩ := id C
  have hat := hR.2.2 q hq hn
  have key : ∃ (x : vp_A) (ty : FieldType) (t0 : Nat), x.1 = ln M q ∧ ent g M q = .inl (wc g t0, x) ∧ (wtys g)[t0]? = some (wc g t0, ty) := by
    rcases (show kd = 11 ∨ kd = 12 ∨ kd = 13 ∨ kd = 14 ∨ kd = 15 ∨ kd = 16 by omega) with rfl | rfl | rfl | rfl | rfl | rfl
    · exact ⟨_, _, 0, rfl, ent_I hk (Or.inl rfl), rfl⟩
    · exact ⟨_, _, 1, rfl, ent_J hk, rfl⟩
    · exact ⟨_, _, 2, rfl, ent_I hk (Or.inr (Or.inl rfl)), rfl⟩
    · exact ⟨_, _, 3, rfl, ent_I hk (Or.inr (Or.inr rfl)), rfl⟩
    · exact ⟨_, _, 4, rfl, ent_A hk (Or.inl rfl), rfl⟩
    · exact ⟨_, _, 5, rfl, ent_A hk (Or.inr rfl), rfl⟩
  obtain ⟨x, ty, t0, hx, he, htt⟩ := key
  rw [he] at hat
  have hP : va_P (wD g) vwCl [(wad g q, _)] H := fun j x hx => by
    have hj : j < 1 := (List.getElem?_eq_some_iff.mp hx).1
    obtain rfl : j = 0 := by omega
    cases hx
    exact hat
  exact va_alen c1 c2 c9 hP 0 t0 rfl htt (by rw [hx]; exact hv) hdg (kk g p l e R s m args below meth c H locs cells slots ls C hS hR hc hs hl)
end HEAP
