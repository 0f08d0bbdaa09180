/-! calls: a method from its entry is a contract for every caller -/
def ro (r : Option Value) (S : List Value) : List Value := match r with
  | none => S
  | some v => v :: S
theorem ro_map (a : Nat → Nat) (r : Option Value) (S : List Value) : (ro r S).map (tv a) = (r.map (tv a)).toList ++ S.map (tv a) := by cases r <;> rfl
def Pic (g : World) (N : Nat) (M : Mem) (U : State) : Prop := Rep g N M U.heap ∧ va_K (wD g) vwCl (wtys g) U ∧ Stat g U U.heap ∧ wz g ≤ U.heap.size
theorem Stat.calling {g : World} {U : State} {f : JFrame} {mk : MethodId} {a : Array Value} (h : Stat g U U.heap) : Stat g (U.calling f mk a) (U.calling f mk a).heap := by
  obtain ⟨h1, h2, h3, h4, h5, h6, h7, h8, h9⟩ := h
  have hr := Vm.Alike.refl U.vm
  exact ⟨va_X.moved (u := U) (U := U.calling f mk a) hr h1, va_Z.moved (u := U) (U := U.calling f mk a) hr h2, va_T.moved (u := U) (U := U.calling f mk a) hr h3, h4, h5, fun q hq => va_Nw.same rfl (u := U) (U := U.calling f mk a) rfl (h6 q hq), va_Nw.same rfl (u := U) (U := U.calling f mk a) rfl h7, va_AO.moved (u := U) (U := U.calling f mk a) hr h8, va_AO.moved (u := U) (U := U.calling f mk a) hr h9⟩
theorem Pic.calling {g : World} {N : Nat} {M : Mem} {U : State} {f : JFrame} {mk : MethodId} {a : Array Value} (h : Pic g N M U) : Pic g N M (U.calling f mk a) :=
  ⟨h.1, va_K.moved (u := U) (U := U.calling f mk a) (Vm.Alike.refl U.vm) h.2.1, h.2.2.1.calling, h.2.2.2⟩
theorem Stat.at {g : World} {s U : State} {H : Heap} {locs : List Loc} (h : Stat g s s.heap) (hS : va_S (wA g) s.heap H locs) (hU : U.heap = H) (hW : s.WarmedH U.vm) : Stat g U U.heap := by
  obtain ⟨h1, h2, h3, h4, h5, h6, h7, h8, h9⟩ := h
  have hr := hW.alike
  subst hU
  have hb : U.heap[wb g]? = s.heap[wb g]? := by
    obtain ⟨scr, e1, -⟩ := h1
    exact hS.2.1 _ (Array.getElem?_eq_some_iff.mp e1).1 (Nat.not_le.mpr h4)
  exact ⟨(h1.moved hr).kept hb, (h2.moved hr).kept hS.2.1, (h3.moved hr).kept hS.2.1, h4, h5, fun q hq => va_Nw.warmM hW (h6 q hq), va_Nw.warmF hW h7, h8.moved hr, h9.moved hr⟩
theorem Pic.at {g : World} {N : Nat} {M : Mem} {s U : State} {H : Heap} {locs : List Loc} (hR : Rep g N M H) (hK : va_K (wD g) vwCl (wtys g) s) (h : Stat g s s.heap) (hz : wz g ≤ s.heap.size) (hS : va_S (wA g) s.heap H locs) (hU : U.heap = H) (hW : s.WarmedH U.vm) : Pic g N M U :=
  ⟨by rw [hU]; exact hR, va_K.moved hW.alike hK, h.at hS hU hW, by rw [hU]; exact Nat.le_trans hz hS.1⟩
theorem sl_len (a : Nat → Nat) : ∀ vs : List Value, (lg_sl (vs.map (tv a))).length = (vs.map fun v => v.category).sum
  | [] => rfl
  | v :: vs => by
    have ih := sl_len a vs
    simp only [lg_sl, List.map_cons, List.flatMap_cons, List.length_append, List.sum_cons] at ih ⊢
    rw [ih, tv_cat]
    rcases lv_cat v with h | h <;> simp [h]
abbrev wsM (μ : MD) : List Cond := Cond.code μ.1 μ.2.1 μ.2.2.1 μ.2.2.2 :: wsG
abbrev rmM (d mc ms : Nat) : Room := { frames := d + 1, cells := mc, slots := ms, locals := kyl (d + 1) }
theorem Met.ofWF {l : Launch} {y : MethodName} {ws ws' : List Cond} {rm : Room} {Pc : Array Value → State → Prop} {Qc : Array Value → State → Outcome → State → Prop} {mc ms : Nat} {free : Addr → Prop} {cc : ByteArray} {maxL : Nat} {ret : Option FieldType}
    (hy : plainFor y = true) (hw : ws = Cond.code y cc maxL ret :: ws')
    (body : ∀ p e s m args below meth c s₁, BodyLoose p l y (headSpec ws rm) cc maxL ret e s m args below meth c s₁ → c.maxLocals = maxL → Pc args s →
      W p l e (headSpec ws rm).room s m args below meth c s.heap [] 0 0 (MQ below Qc args s mc ms free) (entryFrame m args maxL)) : Met l y ws rm Pc Qc mc ms free := by
  refine MetFree.of_bodySF (code := cc) (maxLocals := maxL) (ret := ret) hy ?_ ?_
  · intro args s m h hn
    obtain ⟨meth, c, h1, h2, h3, h4, h5, h6, -, -⟩ := Cond.code_spec hn (atoms_spec (ws := ws) h _ (by rw [hw]; exact List.mem_cons_self))
    exact ⟨meth, c, h1, h2, h3, h4, h5, h6⟩
  · intro p e s m args below meth c s₁ B hml hP _
    have hh0 : s₁.heap = s.heap := by rw [B.state]; rfl
    obtain ⟨t, a1, o, b1, b2, b3⟩ := body p e s m args below meth c s₁ B hml hP s₁ hh0 (Stand.of_body B)
    exact ⟨t, o, a1, b1, b2, ⟨b3.1, b3.2⟩⟩
theorem AW.met {μ : MD} {d mc ms N : Nat} {As : List Value} {M : Mem} {Q : Option Value → Nat → Mem → Prop} (hpl : plainFor μ.1 = true) (hlen : (As.map fun v => v.category).sum ≤ μ.2.2.1) (k : AW μ d mc ms N 0 (lv_args 0 As) [] M Q) (g : World) (l : Launch) :
    Met l μ.1 (wsM μ) (rmM d mc ms) (fun a U => a = (As.map (tv (wad g))).toArray ∧ Pic g N M U) (AQ g Q) mc ms (wA g) := by
  refine Met.ofWF (cc := μ.2.1) (maxL := μ.2.2.1) (ret := μ.2.2.2) hpl rfl ?_
  intro p e s m args below meth c s₁ B hml hv
  obtain ⟨rfl, hR, hK, hSt, hz⟩ := hv
  have hts := atoms_spec (ws := wsM μ) B.pre
  rw [lg_entry_eq]
  have hl := lv_entry (As.map (tv (wad g))) (n := μ.2.2.1) (by rw [sl_len]; exact hlen)
  rw [args_map] at hl
  exact k g p l e (rmM d mc ms) s m _ below meth c s.heap [] 0 0 _ ⟨B.exec, B.bytes, hml, B.returns, findClass_of_methodNamed B.named, fun w h => hts w (List.mem_cons_of_mem _ h), B.notSynchronized, (name_of_methodNamed B.named B.method).1, hK, hSt, hz, Nat.le_refl _, Nat.le_refl _⟩ va_S.rf hR (by show 0 + mc ≤ mc; omega) (by show 0 + ms ≤ ms; omega) hl
section CALLS
theorem run_fin {p : Program} {l : Launch} {e : Env} {R : Room} {s : State} {m : MethodId} {args a : Array Value} {below : List Frame} {meth : Method} {c : Code} {H : Heap} {locs : List Loc} {cells slots mc' ms' pc : Nat} {ls : Array Slot} {st0 rest : List Value} {g : World} {Q' : Option Value → Nat → Mem → Prop} {QQ : State → Prop}
    (hr : va_Run p l e R s m args below meth c H locs cells slots mc' ms' (F0 m pc ls st0) rest (AQ g Q' a) (wA g)) (hS : va_S (wA g) s.heap H locs)
    (kk : ∀ (r : Option Value) (N' : Nat) (M' : Mem) (H1 : Heap) (locs1 : List Loc), Q' r N' M' → Rep g N' M' H1 → va_S (wA g) s.heap H1 locs1 → W p l e R s m args below meth c H1 locs1 (cells + mc') (slots + ms') QQ (F0 m (pc + 3) ls ((r.map (tv (wad g))).toList ++ rest))) : W p l e R s m args below meth c H locs cells slots QQ (F0 m pc ls st0) := by
  intro T hT X
  obtain ⟨v, st₀, t, T', Lc, h0, X', hL, e1, e2, ⟨⟨r, N', M', hv, hq, hrep⟩, hz, hk⟩, st⟩ := hr T hT X
  cases hv
  rw [h0] at hz hk
  obtain ⟨t2, a1, b1⟩ := kk r N' M' T'.heap (locs ++ Lc) hq (by rw [e1]; exact hrep) ⟨Nat.le_trans hS.1 (by rw [e1]; exact hz), fun q h1 h2 => by rw [e1, hk q (Nat.lt_of_lt_of_le h1 hS.1) h2]; exact hS.2.1 q h1 h2, fun q hq => by
      rcases List.mem_append.mp hq with h | h
      · exact hS.2.2 q h
      · exact hL q h⟩ T' rfl X'
  exact ⟨t2, st t2 a1, b1⟩
variable {μ μ' : MD} {d mc ms N pc : Nat} {L : List (Nat × Value)} {S : List Value} {M : Mem} {Q : Option Value → Nat → Mem → Prop}
theorem mf_gi {n : Nat} (h : MFc μ' n) : GoodIn wsG (wsM μ') := fun w hw => by
  rcases List.mem_cons.mp hw with rfl | hw
  · exact wsG_gg _ h.1
  · exact wsG_gg _ hw
theorem mf_par {n : Nat} (h : MFc μ' n) : ∀ sig, parseMethodDescriptor μ'.1.desc = some sig → n = sig.parameters.length := fun sig hs => by
  have h2 := h.2.2.2.1
  rw [hs] at h2
  exact (Option.some.inj h2).symm
theorem a_callV {n ix d' mc' ms' mc1 ms1 b ci : Nat} {As : List Value} (hp : MFv μ' n) (hlk : MLK μ.1.cls ix μ') (hd : d' < d) (hn : As.length = n) (hAs : ((.ref b :: As : List Value).map fun v => v.category).sum ≤ μ'.2.2.1) (hkb : KD b = ci) (hci : ci < 11) (hcn : (cN ci).1 = μ'.1.cls) (hb : 2 ≤ b) (hbN : b < N) (hS8 : (S.map fun v => v.category).sum ≤ 8)
    (hmc : mc' + mc1 ≤ mc) (hms : ms' + ms1 ≤ ms) (hdg : decode μ.2.1 pc = .ok (.invokevirtual ix, 3)) (k : AW μ' d' mc' ms' N 0 (lv_args 0 (.ref b :: As)) [] M (fun r N' M' => AW μ d mc1 ms1 N' (pc + 3) L (ro r S) M' Q)) : AW μ d mc ms N pc L (As.reverse ++ .ref b :: S) M Q := by
  intro g p l e R s m args below meth c H locs cells slots ls C hS hR hc hs hl
  obtain ⟨c1, c2, c3, c4, c5, c6, c7, c8, c9, c10, c11, c12, c13⟩ := id C
  obtain ⟨f1, f2, f3⟩ := hp
  have hM := k.met f3.2.2.2.2.2 hAs g l
  have hat := hR.2.2 b hb hbN
  rw [ent_obj hkb hci] at hat
  have hP : va_P (wD g) vwCl [(wad g b, .inr (ci, fl (wad g) M b (tyz ci) 0))] H := fun j x hx => by
    have hj : j < 1 := (List.getElem?_eq_some_iff.mp hx).1
    obtain rfl : j = 0 := by omega
    cases hx
    exact hat
  have hrun := va_runV (p := p) (l := l) (e := e) (R := R) (s := s) (m := m) (args := args) (below := below) (meth := meth) (c := c) (n := n) (index := ix) (C := μ'.1.cls) (b := wad g b) (As := As.map (tv (wad g))) (rest := S.map (tv (wad g))) (g := F0 m pc ls ((As.reverse ++ .ref b :: S).map (tv (wad g)))) (H := H) (locs := locs) (cells := cells) (slots := slots) ⟨c1, c2, c3, c5, c6⟩ hM
    ⟨⟨rfl, rfl, by show d' + 1 + 1 ≤ _; omega, by have := f3.2.2.2.2.1; show 8 + (μ'.2.2.1 + 11) + 40 * (d' + 1) ≤ _; unfold kyl at c13; omega, pay_in c6 (mf_gi f3), List.mem_cons_self, c6 _ f3.1, c6 _ f3.2.1, f3.2.2.1, mf_par f3, c6 _ hlk⟩, c6 _ f1, c6 _ f2⟩
    ⟨fun a U gg mkk q => ⟨q.1, q.2.calling⟩, by rw [← hcn]; exact va_recv c9 hP (ci := ci) (q0 := 0) (cN_at ci hci) rfl, fun U hU hW => ⟨by simp [tv], Pic.at hR c9 c10 c11 hS hU hW⟩⟩ rfl (by simpa using hn) (hl.1.trans rfl) (by simp [tv]) (by
      show 2 * 0 + ((S.map (tv (wad g))).map fun v => v.category).sum ≤ 8
      rw [List.map_map]
      simp only [Function.comp_def, tv_cat]
      omega) hdg ⟨by omega, by omega⟩
  refine run_fin hrun hS (fun r N' M' H1 locs1 hq hR1 hS1 => ?_)
  rw [← ro_map]
  exact hq g p l e R s m args below meth c H1 locs1 _ _ ls C hS1 hR1 (by omega) (by omega) hl
theorem a_callS {n ix d' mc' ms' mc1 ms1 : Nat} {As : List Value} (hp : MFs μ' n) (hlk : MLK μ.1.cls ix μ') (hd : d' < d) (hn : As.length = n) (hAs : (As.map fun v => v.category).sum ≤ μ'.2.2.1) (hS8 : (S.map fun v => v.category).sum ≤ 8)
    (hmc : mc' + mc1 ≤ mc) (hms : ms' + ms1 ≤ ms) (hdg : decode μ.2.1 pc = .ok (.invokestatic ix, 3)) (k : AW μ' d' mc' ms' N 0 (lv_args 0 As) [] M (fun r N' M' => AW μ d mc1 ms1 N' (pc + 3) L (ro r S) M' Q)) : AW μ d mc ms N pc L (As.reverse ++ S) M Q := by
  intro g p l e R s m args below meth c H locs cells slots ls C hS hR hc hs hl
  obtain ⟨c1, c2, c3, c4, c5, c6, c7, c8, c9, c10, c11, c12, c13⟩ := id C
  obtain ⟨f1, f3⟩ := hp
  have hM := k.met f3.2.2.2.2.2 hAs g l
  have hrun := va_runS (p := p) (l := l) (e := e) (R := R) (s := s) (m := m) (args := args) (below := below) (meth := meth) (c := c) (n := n) (index := ix) (As := As.map (tv (wad g))) (rest := S.map (tv (wad g))) (g := F0 m pc ls ((As.reverse ++ S).map (tv (wad g)))) (H := H) (locs := locs) (cells := cells) (slots := slots) ⟨c1, c2, c3, c5, c6⟩ hM
    ⟨⟨rfl, rfl, by show d' + 1 + 1 ≤ _; omega, by have := f3.2.2.2.2.1; show 8 + (μ'.2.2.1 + 11) + 40 * (d' + 1) ≤ _; unfold kyl at c13; omega, pay_in c6 (mf_gi f3), List.mem_cons_self, c6 _ f3.1, c6 _ f3.2.1, f3.2.2.1, mf_par f3, c6 _ hlk⟩, c6 _ f1⟩
    ⟨fun a U gg mkk q => ⟨q.1, q.2.calling⟩, fun U hU hW => ⟨by simp, Pic.at hR c9 c10 c11 hS hU hW⟩⟩ rfl (by simpa using hn) (hl.1.trans rfl) (by simp) (by
      show 2 * 0 + ((S.map (tv (wad g))).map fun v => v.category).sum ≤ 8
      rw [List.map_map]
      simp only [Function.comp_def, tv_cat]
      omega) hdg ⟨by omega, by omega⟩
  refine run_fin hrun hS (fun r N' M' H1 locs1 hq hR1 hS1 => ?_)
  rw [← ro_map]
  exact hq g p l e R s m args below meth c H1 locs1 _ _ ls C hS1 hR1 (by omega) (by omega) hl
theorem a_callSN {n ix d' mc' ms' mc1 ms1 : Nat} {As : List Value} {host : String} (hp : MFs μ' n) (hlk : (μ.1.cls, ix, μ'.1, host) ∈ nestM) (hd : d' < d) (hn : As.length = n) (hAs : (As.map fun v => v.category).sum ≤ μ'.2.2.1) (hS8 : (S.map fun v => v.category).sum ≤ 8)
    (hmc : mc' + mc1 ≤ mc) (hms : ms' + ms1 ≤ ms) (hdg : decode μ.2.1 pc = .ok (.invokestatic ix, 3)) (k : AW μ' d' mc' ms' N 0 (lv_args 0 As) [] M (fun r N' M' => AW μ d mc1 ms1 N' (pc + 3) L (ro r S) M' Q)) : AW μ d mc ms N pc L (As.reverse ++ S) M Q := by
  intro g p l e R s m args below meth c H locs cells slots ls C hS hR hc hs hl
  obtain ⟨c1, c2, c3, c4, c5, c6, c7, c8, c9, c10, c11, c12, c13⟩ := id C
  obtain ⟨f1, f3⟩ := hp
  have hM := k.met f3.2.2.2.2.2 hAs g l
  have hnest := c10.2.2.2.2.2.1 _ hlk
  have hrun := va_runSN (p := p) (l := l) (e := e) (R := R) (s := s) (m := m) (args := args) (below := below) (meth := meth) (c := c) (n := n) (index := ix) (host := host) (As := As.map (tv (wad g))) (rest := S.map (tv (wad g))) (g := F0 m pc ls ((As.reverse ++ S).map (tv (wad g)))) (H := H) (locs := locs) (cells := cells) (slots := slots) ⟨c1, c2, c3, c5, c6⟩ hM
    ⟨⟨⟨rfl, rfl, by show d' + 1 + 1 ≤ _; omega, by have := f3.2.2.2.2.1; show 8 + (μ'.2.2.1 + 11) + 40 * (d' + 1) ≤ _; unfold kyl at c13; omega, pay_in c6 (mf_gi f3), List.mem_cons_self⟩, c6 _ f3.1, c6 _ f3.2.1, f3.2.2.1, mf_par f3, va_Nw.use rfl hnest⟩, c6 _ f1, trivial⟩
    ⟨fun a U gg mkk q => ⟨q.1, q.2.calling⟩, fun U hU hW => ⟨by simp, Pic.at hR c9 c10 c11 hS hU hW⟩⟩ rfl (by simpa using hn) (hl.1.trans rfl) (by simp) (by
      show 2 * 0 + ((S.map (tv (wad g))).map fun v => v.category).sum ≤ 8
      rw [List.map_map]
      simp only [Function.comp_def, tv_cat]
      omega) hdg ⟨by omega, by omega⟩
  refine run_fin hrun hS (fun r N' M' H1 locs1 hq hR1 hS1 => ?_)
  rw [← ro_map]
  exact hq g p l e R s m args below meth c H1 locs1 _ _ ls C hS1 hR1 (by omega) (by omega) hl
theorem a_callI {n ix d' mc' ms' mc1 ms1 b : Nat} {As : List Value} (hp : MFi μ' n) (hlk : MLK μ.1.cls ix μ') (hd : d' < d) (hn : As.length = n) (hAs : ((.ref b :: As : List Value).map fun v => v.category).sum ≤ μ'.2.2.1) (hS8 : (S.map fun v => v.category).sum ≤ 8)
    (hmc : mc' + mc1 ≤ mc) (hms : ms' + ms1 ≤ ms) (hdg : decode μ.2.1 pc = .ok (.invokespecial ix, 3)) (k : AW μ' d' mc' ms' N 0 (lv_args 0 (.ref b :: As)) [] M (fun r N' M' => AW μ d mc1 ms1 N' (pc + 3) L (ro r S) M' Q)) : AW μ d mc ms N pc L (As.reverse ++ .ref b :: S) M Q := by
  intro g p l e R s m args below meth c H locs cells slots ls C hS hR hc hs hl
  obtain ⟨c1, c2, c3, c4, c5, c6, c7, c8, c9, c10, c11, c12, c13⟩ := id C
  obtain ⟨f1, f2, f4, f3⟩ := hp
  have hM := k.met f3.2.2.2.2.2 hAs g l
  have hcode := f3.1
  have hgi := mf_gi f3
  rw [f4] at hcode
  have hrun := va_runI (p := p) (l := l) (e := e) (R := R) (s := s) (m := m) (args := args) (below := below) (meth := meth) (c := c) (n := n) (index := ix) (b := wad g b) (bytes := μ'.2.1) (maxL := μ'.2.2.1) (As := As.map (tv (wad g))) (rest := S.map (tv (wad g))) (g := F0 m pc ls ((As.reverse ++ .ref b :: S).map (tv (wad g)))) (H := H) (locs := locs) (cells := cells) (slots := slots) ⟨c1, c2, c3, c5, c6⟩ hM
    ⟨⟨rfl, rfl, by show d' + 1 + 1 ≤ _; omega, by have := f3.2.2.2.2.1; show 8 + (μ'.2.2.1 + 11) + 40 * (d' + 1) ≤ _; unfold kyl at c13; omega, pay_in c6 hgi, by rw [← f4]; exact List.mem_cons_self, c6 _ hcode, c6 _ f3.2.1, f3.2.2.1, mf_par f3, c6 _ hlk⟩, f2, c6 _ f1⟩
    ⟨fun a U gg mkk q => ⟨q.1, q.2.calling⟩, fun U hU hW => ⟨by simp [tv], Pic.at hR c9 c10 c11 hS hU hW⟩⟩ rfl (by simpa using hn) (hl.1.trans rfl) (by simp [tv]) (by
      show 2 * 0 + ((S.map (tv (wad g))).map fun v => v.category).sum ≤ 8
      rw [List.map_map]
      simp only [Function.comp_def, tv_cat]
      omega) hdg ⟨by omega, by omega⟩
  refine run_fin hrun hS (fun r N' M' H1 locs1 hq hR1 hS1 => ?_)
  rw [← ro_map]
  exact hq g p l e R s m args below meth c H1 locs1 _ _ ls C hS1 hR1 (by omega) (by omega) hl
theorem a_objInit {ix b : Nat} (hlk : Cond.methodLink μ.1.cls ix objectInit ∈ wsG) (hS8 : (S.map fun v => v.category).sum ≤ 8) (hdg : decode μ.2.1 pc = .ok (.invokespecial ix, 3)) (kk : AW μ d mc ms N (pc + 3) L S M Q) : AW μ d mc ms N pc L (.ref b :: S) M Q := by
  intro g p l e R s m args below meth c H locs cells slots ls C hS hR hc hs hl
  obtain ⟨c1, c2, c3, c4, c5, c6, c7, c8, c9, c10, c11, c12, c13⟩ := id C
  refine W.objInit c1 c2 c5 (c6 _ hlk) (c6 _ kobj_i) (c6 _ kobj_c) rfl (by rw [c3]; exact hl.1) rfl hdg (by omega) (by
      show 2 * 0 + ((S.map (tv (wad g))).map fun v => v.category).sum + 12 ≤ _
      rw [List.map_map]
      simp only [Function.comp_def, tv_cat]
      unfold kyl at c13
      omega) ?_
  exact kk g p l e R s m args below meth c H locs cells slots ls C hS hR hc hs hl
end CALLS
