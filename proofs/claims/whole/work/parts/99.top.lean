/-! THE CLAIM OUT OF ONE WALK OF THE LAW'S BODY. Your part is whole_start (and what it stands on); all else here is the same for every law, but numbers. -/
def R_law : String := "SheetMarkerLaw"
def lw_P (b : Addr) (xs : List Int32) (args : Array Value) (s : State) : Prop := args = #[.ref b] ∧ s.IntsAt b xs ∧ xs.length ≤ 3072 ∧ (Jvm.Cond.and given_1 narrow_1).before args s = true
def lw_Q (_ : Array Value) (s : State) (o : Outcome) (t : State) : Prop := o = .returned (some (.int 1)) ∧ Framed s o t [] 600000 7302250
def lw_Z (below : List Frame) (a : Array Value) (s : State) : State → Prop := fun t => ∃ o, t.status = .running ∧ Ended t below o ∧ lw_Q a s o t
/-- the law's own end, with 1 on the stack, nothing written that was there before, its room as the claim has it -/
theorem lw_ret {p : Program} {l : Launch} {e : Env} {s : State} {m : MethodId} {below : List Frame} {meth : Method} {c : Code} {b : Nat} (hx : p.tables.exec = Jvm.exec) (hb : c.code = code) (hr : meth.sig.returnType = ret) (hlocks : meth.locks = false) {pc : Nat} {H : Heap} {ls : Array Slot} (hdg : decode code pc = .ok (.ireturn, 1)) : W p l e room_1 s m #[Value.ref b] below meth c H [] 600000 7302250 (lw_Z below #[Value.ref b] s) (F0 m pc ls [.int 1]) := by
  intro T hT X
  obtain ⟨fs, hret, hrun, hended, hW, hframe⟩ := X.leave (v := some (.int 1)) (hlocks := hlocks) (fun h => by rw [hr] at h; cases h)
  have hmeth' : T.vm.method? m = some meth := X.method'
  refine ⟨T.setFrames fs, ?_, .returned (some (.int 1)), hrun, hended, rfl, ⟨_, rfl⟩, hW, hframe⟩
  jvm_step X.here [X.here.top, hx, hb, hdg, hmeth', hr, ret, narrow_b1]
  (try refine ⟨rfl, ?_⟩); (try refine ⟨rfl, ?_⟩)
  first | (intro acts; rw [hret _ acts rfl rfl rfl]) | rw [hret _ _ rfl rfl rfl]
  exact Steps.refl _
/-- what holds at the law's entry: the machine, the code, the tables' words (any of lw_tbl by 'hts w (by decide +kernel)'), the script of L ints xs at the cell b, what the Statement gives of the start (any of its parts by flat_of_before) -/
def lw_At (p : Program) (s : State) (m : MethodId) (meth : Method) (c : Code) (b L : Nat) (xs : Nat → Int32) : Prop :=
  p.tables.exec = Jvm.exec ∧ c.code = code ∧ meth.sig.returnType = ret ∧ c.maxLocals = 4 ∧ s.vm.findClass R_law = some m.cls ∧ (∀ w ∈ lw_tbl, w.before #[Value.ref b] s = true) ∧ va_X b L xs s s.heap ∧ b < s.heap.size ∧ meth.locks = false ∧ (Jvm.Cond.and given_1 narrow_1).before #[Value.ref b] s = true
theorem sg_nest {args : Array Value} {s : State} (hts : ∀ w ∈ lw_tbl, w.before args s = true) : ∀ q ∈ nestM, va_Nw (.methodLinkNest q.1 q.2.1 q.2.2.1 q.2.2.2) s := by
  have h : ∀ q ∈ nestM, Cond.methodLinkNest q.1 q.2.1 q.2.2.1 q.2.2.2 ∈ lw_tbl := by
    exact List.forall_mem_cons.mpr ⟨tT3 (List.mem_of_getElem? (i := 79) (by decide +kernel)), List.forall_mem_cons.mpr ⟨tT3 (List.mem_of_getElem? (i := 24) (by decide +kernel)), List.forall_mem_cons.mpr ⟨tT2 (List.mem_of_getElem? (i := 154) (by decide +kernel)), List.forall_mem_cons.mpr ⟨tT2 (List.mem_of_getElem? (i := 155) (by decide +kernel)), List.forall_mem_cons.mpr ⟨tT3 (List.mem_of_getElem? (i := 215) (by decide +kernel)), List.forall_mem_cons.mpr ⟨tT2 (List.mem_of_getElem? (i := 182) (by decide +kernel)), List.forall_mem_cons.mpr ⟨tT2 (List.mem_of_getElem? (i := 213) (by decide +kernel)), List.forall_mem_cons.mpr ⟨tT3 (List.mem_of_getElem? (i := 108) (by decide +kernel)), List.forall_mem_cons.mpr ⟨tT3 (List.mem_of_getElem? (i := 109) (by decide +kernel)), List.forall_mem_cons.mpr ⟨tT2 (List.mem_of_getElem? (i := 5) (by decide +kernel)), List.forall_mem_cons.mpr ⟨tT2 (List.mem_of_getElem? (i := 6) (by decide +kernel)), (fun _ h => absurd h List.not_mem_nil)⟩⟩⟩⟩⟩⟩⟩⟩⟩⟩⟩
  exact fun q hq => va_Nw.of rfl (hts _ (h q hq))
set_option maxHeartbeats 4000000 in
set_option maxRecDepth 100000 in
theorem whole_of (W0 : law_ok) {p : Program} {e : Env} {s : State} {m : MethodId} {below : List Frame} {meth : Method} {c : Code} (l : Launch) {b L : Nat} {xs : Nat → Int32} (hL : L ≤ 3072) (C0 : lw_At p s m meth c b L xs) (hname : meth.name = "law") : W p l e room_1 s m #[Value.ref b] below meth c s.heap [] 0 0 (lw_Z below #[Value.ref b] s) (entryFrame m ([Value.ref b] : List Value).toArray 4) := by
  obtain ⟨hx, hb, hr, hml, hown, hts, hX, hbl, hlocks, hgv⟩ := id C0
  have hG : ∀ w ∈ wsG, w.before #[Value.ref b] s = true := fun w h => hts w (wsG_tbl h)
  -- the classes
  have hkn : ∀ ci, ∃ (cC : ClassId) (iS : Nat → Nat), ci < 11 → u_Kn s (cN ci).1 (cN ci).2.1 (cN ci).2.2 cC iS := by
    intro ci
    by_cases h : ci < 11
    · have hi : Cond.instantiable (cN ci).1 (cN ci).2.2 ∈ wsG := by
        match ci, h with
        | 0, _ => exact gT1 (List.mem_of_getElem? (i := 66) (by decide +kernel)) (by decide +kernel)
        | 1, _ => exact gT1 (List.mem_of_getElem? (i := 120) (by decide +kernel)) (by decide +kernel)
        | 2, _ => exact gT2 (List.mem_of_getElem? (i := 15) (by decide +kernel)) (by decide +kernel)
        | 3, _ => exact gT1 (List.mem_of_getElem? (i := 153) (by decide +kernel)) (by decide +kernel)
        | 4, _ => exact gT1 (List.mem_of_getElem? (i := 37) (by decide +kernel)) (by decide +kernel)
        | 5, _ => exact gT1 (List.mem_of_getElem? (i := 101) (by decide +kernel)) (by decide +kernel)
        | 6, _ => exact gT2 (List.mem_of_getElem? (i := 48) (by decide +kernel)) (by decide +kernel)
        | 7, _ => exact gT1 (List.mem_of_getElem? (i := 60) (by decide +kernel)) (by decide +kernel)
        | 8, _ => exact gT1 (List.mem_of_getElem? (i := 23) (by decide +kernel)) (by decide +kernel)
        | 9, _ => exact gT1 (List.mem_of_getElem? (i := 15) (by decide +kernel)) (by decide +kernel)
        | 10, _ => exact gT4 (List.mem_of_getElem? (i := 65) (by decide +kernel)) (by decide +kernel)
      obtain ⟨cC, iS, hk⟩ := u_known (C := (cN ci).1) (T := (cN ci).2.1) (N := (cN ci).2.2) hG (inG ci h) (hG _ hi)
      exact ⟨cC, iS, fun _ => hk⟩
    · exact ⟨0, fun _ => 0, fun z => absurd z h⟩
  obtain ⟨dC, hdC⟩ : ∃ dC : Nat → ClassId, ∀ ci, ∃ iS : Nat → Nat, ci < 11 → u_Kn s (cN ci).1 (cN ci).2.1 (cN ci).2.2 (dC ci) iS := ⟨fun ci => Classical.choose (hkn ci), fun ci => Classical.choose_spec (hkn ci)⟩
  obtain ⟨dI, hdI⟩ : ∃ dI : Nat → Nat → Nat, ∀ ci, ci < 11 → u_Kn s (cN ci).1 (cN ci).2.1 (cN ci).2.2 (dC ci) (dI ci) := ⟨fun ci => Classical.choose (hdC ci), fun ci => Classical.choose_spec (hdC ci)⟩
  have arr : ∀ ty : FieldType, (∀ C, ty ≠ .object C) → Cond.arrayClass ty ∈ wsG → ∃ cA : ClassId, ArrOfT s cA ty ∧ s.vm.findClass ("[" ++ ty.toString) = some cA := by
    intro ty _ hm
    obtain ⟨cA, kA, comp, h1, h2, h3⟩ := Cond.arrayClass_spec (hG _ hm)
    exact ⟨cA, fun n z => ⟨fun k h => (by cases h), kA, h2, comp, h3⟩, h1⟩
  have arrO : ∀ Cn : String, va_AO Cn s → ∃ cA : ClassId, ArrOfT s cA (.object Cn) ∧ va_RA s cA (.object Cn) := by
    intro Cn hm
    obtain ⟨comp, cA, kA, h1, -, h2, h3, h4⟩ := Cond.arrayOver_spec (va_AO.use (A := #[]) hm)
    exact ⟨cA, fun n z => ⟨fun k h => (by cases h), kA, h2, comp, h3⟩, kA, comp, h2, h3, h1, h4⟩
  have hao1 : va_AO "SheetMarker$Formula" s := va_AO.of (hts _ (tT1 (List.mem_of_getElem? (i := 79) (by decide +kernel))))
  have hao2 : va_AO "SheetMarker$Sheet" s := va_AO.of (hts _ (tT1 (List.mem_of_getElem? (i := 59) (by decide +kernel))))
  obtain ⟨c0, a0, n0⟩ := arr .int (fun _ h => by cases h) ka_int
  obtain ⟨c1, a1, n1⟩ := arr .long (fun _ h => by cases h) ka_long
  obtain ⟨c2, a2, n2⟩ := arr .byte (fun _ h => by cases h) ka_byte
  obtain ⟨c3, a3, n3⟩ := arr .boolean (fun _ h => by cases h) ka_boolean
  obtain ⟨c4, a4, n4⟩ := arrO _ hao1
  obtain ⟨c5, a5, n5⟩ := arrO _ hao2
  -- SIGNS
  have hflat := flat_of_before _ hgv
  have hA : ∀ a : Nat, a < s.heap.size → ¬ (fun q : Nat => s.heap.size ≤ q) a := fun a h => Nat.not_le.mpr h
  obtain ⟨sg, hsg, hT⟩ := va_Tof (args := #[Value.ref b]) (s := s) (tm := .static "SheetMarker" "SIGNS" "[C") (ty := .char) (N := 4) (f := sgF) (A := fun q : Nat => s.heap.size ≤ q) (by decide) (hflat _ (by decide +kernel)) (va_eqt (z := 4) (hflat _ (by decide +kernel)))
    (fun j hj => by
      match j, hj with
      | 0, _ => exact va_eqt (z := 43) (hflat (.eq (.elem (.static "SheetMarker" "SIGNS" "[C") (.int 0)) (.int 43)) (by decide +kernel))
      | 1, _ => exact va_eqt (z := 45) (hflat (.eq (.elem (.static "SheetMarker" "SIGNS" "[C") (.int 1)) (.int 45)) (by decide +kernel))
      | 2, _ => exact va_eqt (z := 42) (hflat (.eq (.elem (.static "SheetMarker" "SIGNS" "[C") (.int 2)) (.int 42)) (by decide +kernel))
      | 3, _ => exact va_eqt (z := 47) (hflat (.eq (.elem (.static "SheetMarker" "SIGNS" "[C") (.int 3)) (.int 47)) (by decide +kernel))) hA
  have hZ := va_Zof (args := #[Value.ref b]) (s := s) (C := "SheetMarker") (n := "SIGNS") (d := "[C") (A := fun q : Nat => s.heap.size ≤ q) (hts _ (tT3 (List.mem_of_getElem? (i := 217) (by decide +kernel)))) (hG _ kiRX9) hsg hA
  have hsgl : sg < s.heap.size := by
    obtain ⟨cell, h1, -⟩ := hT
    exact (Array.getElem?_eq_some_iff.mp h1).1
  obtain ⟨g, hg⟩ : ∃ g : World, g = ((dC, dI), (fun k => if k = 0 then c0 else if k = 1 then c1 else if k = 2 then c2 else if k = 3 then c3 else if k = 4 then c4 else c5), b, sg, s.heap.size, L, xs) := ⟨_, rfl⟩
  have hK : va_K (wD g) vwCl (wtys g) s := by
    subst hg
    refine ⟨fun ci q hq => ?_, fun k q hk => ?_⟩
    · have hci : ci < 11 := (List.getElem?_eq_some_iff.mp hq).1
      have := cN_at ci hci
      rw [hq] at this
      cases this
      exact hdI ci hci
    · match k, hk with
      | 0, hk => cases hk; exact ⟨a0, n0⟩
      | 1, hk => cases hk; exact ⟨a1, n1⟩
      | 2, hk => cases hk; exact ⟨a2, n2⟩
      | 3, hk => cases hk; exact ⟨a3, n3⟩
      | 4, hk => cases hk; exact ⟨a4, n4⟩
      | 5, hk => cases hk; exact ⟨a5, n5⟩
      | k + 6, hk => cases hk
  have hSt : Stat g s s.heap := by
    subst hg
    exact ⟨hX, hZ, hT, hbl, hsgl, sg_nest hts, va_Nw.of rfl (hts _ (tT3 (List.mem_of_getElem? (i := 216) (by decide +kernel)))), hao1, hao2⟩
  have hR : Rep g 2 (M0 L xs) s.heap := by
    subst hg
    refine ⟨⟨Nat.le_refl 2, rfl, fun j _ => rfl⟩, rfl, fun q h1 h2 => absurd h2 (by omega)⟩
  rw [lg_entry_eq]
  have hl := lv_entry ([.ref b]) (n := 4) (Nat.le_of_ble_eq_true rfl)
  have hl2 : lv_has ((lg_sl [Value.ref b] ++ List.replicate (4 - (lg_sl [Value.ref b]).length) Slot.unset).toArray) 4 (([(0, .ref 0)] : List (Nat × Value)).map (tvL (wad g))) := by
    subst hg
    exact hl
  have k := W0 L xs hL g p l e room_1 s m #[Value.ref b] below meth c s.heap [] 0 0 _ ⟨hx, hb, hml, hr, hown, hG, hlocks, hname, hK, hSt, by subst hg; exact Nat.le_refl _, by decide, by decide⟩ va_S.rf hR (by decide) (by decide) hl2
  intro T hT X
  obtain ⟨t, b1, o, b2, b3, ⟨⟨r, N', M', d1, rfl, d3⟩, d4⟩, Lc, ⟨f1, f2, f3⟩, f4⟩ := k T hT X
  refine ⟨t, b1, o, b2, b3, d1, f1, f2, ?_⟩
  refine f3.weaken (fun y hy hlt => ?_) (Nat.le_refl _) (Nat.le_refl _)
  have := f4 y hy
  subst hg
  exact absurd hlt (Nat.not_lt.mpr this)
theorem whole_start {p : Program} {e : Env} {s : State} {m : MethodId} {below : List Frame} {meth : Method} {c : Code} (l : Launch) {b L : Nat} {xs : Nat → Int32} (hL : L ≤ 3072) (hname : meth.name = x.name) (C0 : lw_At p s m meth c b L xs) : W p l e room_1 s m #[Value.ref b] below meth c s.heap [] 0 0 (lw_Z below #[Value.ref b] s) (entryFrame m ([Value.ref b] : List Value).toArray 4) := whole_of law_holds l hL C0 hname
set_option maxHeartbeats 4000000 in
theorem lw_walk (l : Launch) (b : Addr) (xs : List Int32) : MetFree l x (headSpec (Jvm.Cond.code x code maxLocals ret :: tables_1) room_1) (lw_P b xs) (fun _ _ _ _ _ => True) lw_Q := by
  refine MetFree.of_bodyS (code := code) (maxLocals := maxLocals) (ret := ret) (by decide) ?_ ?_
  · intro args s m h hn
    obtain ⟨meth, c, h1, h2, h3, h4, h5, h6, -, -⟩ := Cond.code_spec hn (atoms_spec (ws := Jvm.Cond.code x code maxLocals ret :: tables_1) h _ List.mem_cons_self)
    exact ⟨meth, c, h1, h2, h3, h4, h5, h6⟩
  · intro p e s m args below meth c s₁ B hml0 hP _
    obtain ⟨rfl, hx, hbd, hgv⟩ := hP
    obtain ⟨scr, harrAt, hlist, hof, hsmall⟩ := hx
    obtain ⟨hcb, hkn, -, -⟩ := State.arrayAt?_spec harrAt
    have hown : s.vm.findClass R_law = some m.cls := findClass_of_methodNamed B.named
    have hts0 : ∀ c ∈ (Jvm.Cond.code x code maxLocals ret :: tables_1), c.before #[Value.ref b] s = true := atoms_spec (ws := Jvm.Cond.code x code maxLocals ret :: tables_1) B.pre
    have hts : ∀ w ∈ lw_tbl, w.before #[Value.ref b] s = true := k2_hts_sels lw_privs (fun w hw => hts0 w (List.mem_cons_of_mem _ hw)) lw_privs_ok
    have hml : c.maxLocals = 4 := B.maxLocals_eq (hts0 _ List.mem_cons_self)
    have X₀ : Stand p l e room_1 s m #[Value.ref b] below meth c s₁ [] 0 0 := Stand.of_body B
    have hh0 : s₁.heap = s.heap := by rw [B.state]; rfl
    have hsz : scr.slots.size = xs.length := by rw [← Array.length_toList, hlist, List.length_map]
    have hval : ∀ j : Nat, j < xs.length → scr.slots[j]? = some (.int (xs.getD j 0)) := fun j hj => by
      rw [← Array.getElem?_toList, hlist]
      simp [hj]
    have hbl : b < s.heap.size := (Array.getElem?_eq_some_iff.mp hcb).1
    have hX : va_X b xs.length (fun j => xs.getD j 0) s s.heap := ⟨scr, hcb, hof, hkn, hsz, hval⟩
    have K : W p l e room_1 s m #[Value.ref b] below meth c s₁.heap [] 0 0 (lw_Z below #[Value.ref b] s) (entryFrame m ([Value.ref b] : List Value).toArray 4) := by
      rw [hh0]
      exact whole_start l hbd (name_of_methodNamed B.named B.method).1 ⟨B.exec, B.bytes, B.returns, hml, hown, hts, hX, hbl, B.notSynchronized, hgv⟩
    obtain ⟨t, a1, o, b1, b2, b3⟩ := K s₁ rfl X₀
    exact ⟨t, o, a1, b1, b2, b3⟩
theorem lw_pre_spec {args : Array Value} {s : State} (h : (Jvm.Cond.and given_1 narrow_1).before args s = true) (hr : rest_1_c.before args s = true) : ∃ (b : Addr) (xs : List Int32), lw_P b xs args s := by
  have hs := flat_of_before _ h
  have hq := flat_of_before _ hr
  have hc : (Cond.count 1).before args s = true := hs _ (by decide +kernel)
  have harr : (Cond.arrayOf (.arg 0) .int).before args s = true := hs _ (by decide +kernel)
  have hle : (Cond.le (.length (.arg 0)) (.int 3072)).before args s = true := hs _ (by decide +kernel)
  have hlen : (Cond.isInt (.length (.arg 0))).before args s = true := hq _ (by decide +kernel)
  have hall : (Cond.all (.arg 0) (.isInt (.elem (.arg 0) (.index 0)))).before args s = true := hq _ (by decide +kernel)
  obtain ⟨b, xs, hb, hx⟩ := State.ints_of_pre rfl harr hlen hall
  have hsm : xs.length < 2 ^ 31 := hx.choose_spec.2.2.2
  have hev : (Term.length (.arg 0)).eval args s none [] s = some (.int xs.length.toInt32) := hx.length_eval hb
  have hv := Cond.le_ints hev (show (Term.int 3072).eval args s none [] s = some (.int 3072) from rfl)
  have hd : xs.length.toInt32 ≤ 3072 := by
    simpa [Cond.before, Cond.holds, hv] using hle
  have hN : xs.length ≤ 3072 := (Int32.ofNat_le_ofNat hsm (by decide)).mp (show Int32.ofNat xs.length ≤ Int32.ofNat 3072 from hd)
  exact ⟨b, xs, Cond.one_arg hc (show args[0]? = some (.ref b) from hb), hx, hN, h⟩
theorem lw_comes (l : Launch) : Comes l x (Jvm.Cond.code x code maxLocals ret :: tables_1) room_1 (fun tb e args s => Calls_1 tb e args s ∧ rest_1 tb e args s ∧ Pre_1 tb e args s)
    (fun _ _ args s o t => lw_Q args s o t) := by
  intro p e ha hc hk s m args below hf hfit hheap happ hpre
  obtain ⟨b, xs, hP⟩ := lw_pre_spec hpre.2.2 hpre.2.1
  obtain ⟨k, o, h1, h2, h3, hQ⟩ := lw_walk l b xs p e ha hc hk s m args below hf ((Spec.applies_iff_loose hf).mp happ).1 hP trivial
  exact ⟨k, o, h1, h2, h3, hQ⟩
theorem lw_frame {s t : State} {o : Outcome} {args : Array Value} (h : Framed s o t [] 600000 7302250) :
    Framed s o t (fieldLocs frame_1_writes args s ++ arrayLocs frame_1_arrays args s ++ staticLocs frame_1_statics s) 600000 7302250 := h
theorem lw_limb (L : Cond) (hL : ∀ (args : Array Value) (s t : State), L.after args s (.returned (some (.int 1))) t = true) :
    ArmFor flags0 classFile x code maxLocals ret World_1 tables_1 room_1 Calls_1 rest_1 Pre_1
      (fun tb e a s o t => postC L tb e a s o t ∧ Framed s o t (fieldLocs frame_1_writes a s ++ arrayLocs frame_1_arrays a s ++ staticLocs frame_1_statics s) 600000 7302250) := by
  intro l _ _ _ p e ha hc hk s m args below hf hfit hheap happ hpre
  obtain ⟨k, o, h1, h2, h3, rfl, hF⟩ := lw_comes l p e ha hc hk s m args below hf hfit hheap happ hpre
  exact ⟨k, _, h1, h2, h3, hL args s _, lw_frame hF⟩
theorem i_vc : Claimed_1_1 ∧ Claimed_1_2 := ⟨lw_limb limb_1_1 (fun args s t => by simp [limb_1_1, Cond.after, Cond.holds, Cond.value]), lw_limb limb_1_2 (fun args s t => Cond.after_iff.mpr (by
  first | (rw [show limb_1_2 = Cond.eq .result (.int 1) from rfl, Cond.eq_ints (x := 1) (y := 1) rfl rfl]; simp; done) | (simp [limb_1_2, Cond.value, Term.eval]; done)))⟩
