/-! MEMORY BY NUMBERS: the cells that the law makes are numbered in the order in which they are made (0: the script, 1: SIGNS, 2: the marker, ..); a memory is what each holds. -/
abbrev Mem : Type := (Nat → Nat → Int32) × (Nat → Nat → Int64) × (Nat → Nat → Option Nat) × (Nat → Nat)
def rI (M : Mem) (q k : Nat) : Int32 := M.1 q k
def rJ (M : Mem) (q k : Nat) : Int64 := M.2.1 q k
def rA (M : Mem) (q k : Nat) : Option Nat := M.2.2.1 q k
def rL (M : Mem) (q : Nat) : Nat := M.2.2.2 q
def up2 {α : Type} (f : Nat → Nat → α) (q k : Nat) (v : α) : Nat → Nat → α := fun a j => if a = q ∧ j = k then v else f a j
def sI (M : Mem) (q k : Nat) (v : Int32) : Mem := (up2 M.1 q k v, M.2)
def sJ (M : Mem) (q k : Nat) (v : Int64) : Mem := (M.1, up2 M.2.1 q k v, M.2.2)
def sA (M : Mem) (q k : Nat) (v : Option Nat) : Mem := (M.1, M.2.1, up2 M.2.2.1 q k v, M.2.2.2)
/-- the cell N made, of length n: zeroes and nulls -/
def mk (M : Mem) (N n : Nat) : Mem := (fun a j => if a = N then 0 else M.1 a j, fun a j => if a = N then 0 else M.2.1 a j, fun a j => if a = N then none else M.2.2.1 a j, fun a => if a = N then n else M.2.2.2 a)
/-- kinds: 0 to 10 the classes of vwCl; 11 int[], 12 long[], 13 byte[], 14 boolean[], 15 Formula[], 16 Sheet[] -/
def KDL : List Nat := [99, 99, 9, 8, 11, 4, 11, 11, 16, 7, 0, 11, 11, 15, 12, 7, 0, 11, 11, 15, 12, 7, 0, 11, 11, 15, 12, 7, 0, 11, 11, 15, 12, 7, 0, 11, 11, 15, 12, 7, 0, 11, 11, 15, 12, 5, 12, 1, 0, 12, 11, 11, 1, 0, 12, 11, 11, 1, 0, 12, 11, 11, 3, 0, 10, 13, 11, 11, 11, 13, 11, 11, 11, 11, 11, 11, 12, 14, 11, 11, 12, 11, 11, 11, 11, 11, 11, 11, 11, 11, 12, 12, 11, 12]
def LNL : List Nat := [0, 0, 0, 0, 60, 0, 384, 64, 6, 0, 0, 64, 64, 64, 64, 0, 0, 64, 64, 64, 64, 0, 0, 64, 64, 64, 64, 0, 0, 64, 64, 64, 64, 0, 0, 64, 64, 64, 64, 0, 0, 64, 64, 64, 64, 0, 40, 0, 0, 384, 384, 64, 0, 0, 384, 384, 64, 0, 0, 384, 384, 64, 0, 0, 0, 60, 384, 384, 384, 15360, 384, 15360, 15360, 15360, 15360, 15360, 384, 64, 64, 384, 384, 384, 40, 40, 40, 40, 40, 40, 40, 64, 64, 64, 64, 40]
def KDN (r : Nat) : Nat := if r = 0 then 2 else if r = 5 then 6 else 11
def KD (q : Nat) : Nat := if q < 94 then KDL.getD q 99 else KDN ((q - 94) % 6)
def ln (M : Mem) (q : Nat) : Nat := if q < 94 then (if q = 0 then rL M q else LNL.getD q 0) else rL M q
/-- the kinds of a class's fields: 0 int, 1 long, 2 reference, 3 boolean -/
def TYL : List (List Nat) := [[0, 0], [2, 2, 2, 2, 2, 2, 0, 1], [2, 2, 2, 2, 0], [2, 2, 2, 2, 2, 2, 0, 0], [2, 2, 1, 1, 0], [2, 0, 0, 1], [2, 0, 0], [2, 2, 2, 2, 2, 1], [2, 0], [2, 2, 2, 2, 2, 2, 2],
  [2, 0, 2, 2, 2, 2, 2, 2, 2, 2, 2, 2, 2, 2, 2, 0, 0, 0, 2, 2, 2, 3, 0, 0, 0, 0, 0, 0, 0, 2, 2, 2, 2, 2, 2, 2, 0, 0, 0, 0, 0, 2, 2, 2, 2, 2, 0, 0, 1, 0, 0, 0]]
def tyz (c : Nat) : List Nat := TYL.getD c []
def fv (a : Nat → Nat) (M : Mem) (q k t : Nat) : Value := if t = 1 then .long (rJ M q k) else if t = 2 then va_rf ((rA M q k).map a) else .int (rI M q k)
def fl (a : Nat → Nat) (M : Mem) (q : Nat) : List Nat → Nat → List Value
  | [], _ => []
  | t :: ts, k => fv a M q k t :: fl a M q ts (k + 1)
/-- where the cells lie -/
def adr (b sg base : Nat) : Nat → Nat := fun k => if k = 0 then b else if k = 1 then sg else base + (k - 2)
/-- a run's world: the classes, the array classes, the script's cell, SIGNS' cell, the first new cell, the script -/
abbrev World : Type := va_G × (Nat → ClassId) × Nat × Nat × Nat × Nat × (Nat → Int32)
abbrev wD (g : World) : va_G := g.1
abbrev wc (g : World) : Nat → ClassId := g.2.1
abbrev wb (g : World) : Nat := g.2.2.1
abbrev wsg (g : World) : Nat := g.2.2.2.1
abbrev wz (g : World) : Nat := g.2.2.2.2.1
abbrev wL (g : World) : Nat := g.2.2.2.2.2.1
abbrev wxs (g : World) : Nat → Int32 := g.2.2.2.2.2.2
def wad (g : World) : Nat → Nat := adr (wb g) (wsg g) (wz g)
def ent (g : World) (M : Mem) (q : Nat) : va_E :=
  if KD q < 11 then .inr (KD q, fl (wad g) M q (tyz (KD q)) 0)
  else if KD q = 12 then .inl (wc g 1, ln M q, .inr (.inl (M.2.1 q)))
  else if KD q = 15 ∨ KD q = 16 then .inl (wc g (KD q - 11), ln M q, .inr (.inr (.inr (.inr (fun j => (rA M q j).map (wad g))))))
  else .inl (wc g (KD q - 11), ln M q, .inl (M.1 q))
def Rep (g : World) (N : Nat) (M : Mem) (H : Heap) : Prop := (2 ≤ N ∧ wL g = ln M 0 ∧ ∀ j, j < wL g → wxs g j = M.1 0 j) ∧ H.size = wz g + (N - 2) ∧ ∀ q, 2 ≤ q → q < N → va_at (wD g) vwCl (wad g q, ent g M q) H
def tv (a : Nat → Nat) : Value → Value
  | .ref q => .ref (a q)
  | v => v
abbrev tvL (a : Nat → Nat) (q : Nat × Value) : Nat × Value := (q.1, tv a q.2)
theorem tv_cat (a : Nat → Nat) (v : Value) : (tv a v).category = v.category := by cases v <;> rfl
def nestM : List (String × Nat × MethodName × String) := [("SheetMarker$Change", 24, yX9_isSign, "SheetMarker"), ("SheetMarker$Figures", 80, yX9_bit, "SheetMarker"), ("SheetMarker$Formula", 54, yX9_bit, "SheetMarker"), ("SheetMarker$Formula", 58, yX9_rectangle, "SheetMarker"), ("SheetMarker$Judge", 137, yX9_isSign, "SheetMarker"), ("SheetMarker$Lesson", 25, yX9_bit, "SheetMarker"), ("SheetMarker$Lesson", 39, yX9_isCell, "SheetMarker"), ("SheetMarker$Machine", 79, yX9_rectangle, "SheetMarker"), ("SheetMarker$Machine", 82, yX9_bit, "SheetMarker"), ("SheetMarker$Sheet", 42, yX9_isCell, "SheetMarker"), ("SheetMarker$Sheet", 50, yX9_bit, "SheetMarker")]
def sgF (j : Nat) : Value := .int (if j = 0 then 43 else if j = 1 then 45 else if j = 2 then 42 else 47)
abbrev wA (g : World) : Nat → Prop := fun q => wz g ≤ q
/-- what stays as it is from the law's entry on: the script, SIGNS, the words on nest mates, the array classes -/
def Stat (g : World) (U : State) (H : Heap) : Prop := va_X (wb g) (wL g) (wxs g) U H ∧ va_Z "SheetMarker" "SIGNS" "[C" (.ref (wsg g)) (wA g) U H ∧ va_T .char (wsg g) 4 sgF (wA g) U H ∧ wb g < wz g ∧ wsg g < wz g ∧
  (∀ q ∈ nestM, va_Nw (.methodLinkNest q.1 q.2.1 q.2.2.1 q.2.2.2) U) ∧ va_Nw (.fieldLinkNest "SheetMarker$Judge" 140 "SheetMarker" "SIGNS" "[C" "SheetMarker") U ∧ va_AO "SheetMarker$Formula" U ∧ va_AO "SheetMarker$Sheet" U
abbrev wtys (g : World) : List (ClassId × FieldType) := [(wc g 0, .int), (wc g 1, .long), (wc g 2, .byte), (wc g 3, .boolean), (wc g 4, .object "SheetMarker$Formula"), (wc g 5, .object "SheetMarker$Sheet")]
abbrev kyl (d : Nat) : Nat := 40 * d
def Cx (μ : MD) (d : Nat) (g : World) (p : Program) (R : Room) (s : State) (m : MethodId) (args : Array Value) (meth : Method) (c : Code) : Prop :=
  p.tables.exec = Jvm.exec ∧ c.code = μ.2.1 ∧ c.maxLocals = μ.2.2.1 ∧ meth.sig.returnType = μ.2.2.2 ∧ s.vm.findClass μ.1.cls = some m.cls ∧ (∀ w ∈ wsG, w.before args s = true) ∧ meth.locks = false ∧ meth.name = μ.1.name ∧
  va_K (wD g) vwCl (wtys g) s ∧ Stat g s s.heap ∧ wz g ≤ s.heap.size ∧ d + 1 ≤ R.frames ∧ kyl (d + 1) ≤ R.locals
def AQ (g : World) (Q : Option Value → Nat → Mem → Prop) : Array Value → State → Outcome → State → Prop := fun _ st oc t => (∃ (r : Option Value) (N' : Nat) (M' : Mem), oc = .returned (r.map (tv (wad g))) ∧ Q r N' M' ∧ Rep g N' M' t.heap) ∧ va_F (wA g) st t
/-- from pc of a method, with these locals, this stack, this memory, with room for d frames more, mc cells, ms slots: it returns, and Q of its answer and of the memory -/
def AW (μ : MD) (d mc ms N pc : Nat) (L : List (Nat × Value)) (S : List Value) (M : Mem) (Q : Option Value → Nat → Mem → Prop) : Prop :=
  ∀ (g : World) (p : Program) (l : Launch) (e : Env) (R : Room) (s : State) (m : MethodId) (args : Array Value) (below : List Frame) (meth : Method) (c : Code) (H : Heap) (locs : List Loc) (cells slots : Nat) (ls : Array Slot),
    Cx μ d g p R s m args meth c → va_S (wA g) s.heap H locs → Rep g N M H → cells + mc ≤ R.cells → slots + ms ≤ R.slots → lv_has ls μ.2.2.1 (L.map (tvL (wad g))) →
    W p l e R s m args below meth c H locs cells slots (MQ below (AQ g Q) args s R.cells R.slots (wA g)) (F0 m pc ls (S.map (tv (wad g))))
/-! the locals -/
def lk (k : Nat) : List (Nat × Value) → Option Value
  | [] => none
  | (j, v) :: l => if j = k then some v else lk k l
def st1 (i : Nat) (v : Value) (L : List (Nat × Value)) : List (Nat × Value) := (i, v) :: L.filter (fun q => !(q.1 == i) && !(q.1 + 1 == i && q.2.category == 2))
def st2 (i : Nat) (v : Value) (L : List (Nat × Value)) : List (Nat × Value) := (i, v) :: L.filter (fun q => !(q.1 == i) && (!(q.1 == i + 1) && !(q.1 + 1 == i && q.2.category == 2)))
theorem lk_mem {k : Nat} {v : Value} : ∀ {L : List (Nat × Value)}, lk k L = some v → (k, v) ∈ L
  | [], h => by cases h
  | (j, w) :: l, h => by
    unfold lk at h
    split at h
    · rename_i e
      cases h
      subst e
      exact List.mem_cons_self
    · exact List.mem_cons_of_mem _ (lk_mem h)
theorem lk_at {a : Nat → Nat} {ls : Array Slot} {n k : Nat} {v : Value} {L : List (Nat × Value)} (hl : lv_has ls n (L.map (tvL a))) (h : lk k L = some v) : ls[k]? = some (.val (tv a v)) :=
  hl.2.2 (k, tv a v) (List.mem_map.mpr ⟨(k, v), lk_mem h, rfl⟩)
theorem st1_map {a : Nat → Nat} {i : Nat} {v : Value} {L : List (Nat × Value)} : (i, tv a v) :: (L.map (tvL a)).filter (fun q => !(q.1 == i) && !(q.1 + 1 == i && q.2.category == 2)) = (st1 i v L).map (tvL a) := by
  unfold st1
  rw [List.map_cons, List.filter_map]
  congr 2
  congr 1
  funext q
  simp [Function.comp, tvL, tv_cat]
theorem st2_map {a : Nat → Nat} {i : Nat} {v : Value} {L : List (Nat × Value)} : (i, tv a v) :: (L.map (tvL a)).filter (fun q => !(q.1 == i) && (!(q.1 == i + 1) && !(q.1 + 1 == i && q.2.category == 2))) = (st2 i v L).map (tvL a) := by
  unfold st2
  rw [List.map_cons, List.filter_map]
  congr 2
  congr 1
  funext q
  simp [Function.comp, tvL, tv_cat]
theorem args_map {a : Nat → Nat} : ∀ {i : Nat} {vs : List Value}, lv_args i (vs.map (tv a)) = (lv_args i vs).map (tvL a)
  | _, [] => rfl
  | i, v :: vs => by
    rw [List.map_cons, lv_args, lv_args, List.map_cons, tv_cat, args_map]
/-- fewer locals, in another order -/
theorem AW.sub {μ : MD} {d mc ms N pc : Nat} {L L' : List (Nat × Value)} {S : List Value} {M : Mem} {Q : Option Value → Nat → Mem → Prop} (h : L'.map (fun q => lk q.1 L) = L'.map (fun q => some q.2)) (k : AW μ d mc ms N pc L' S M Q) : AW μ d mc ms N pc L S M Q := by
  intro g p l e R s m args below meth c H locs cells slots ls C hS hR hc hs hl
  refine k g p l e R s m args below meth c H locs cells slots ls C hS hR hc hs ⟨hl.1, hl.2.1, fun q hq => ?_⟩
  obtain ⟨x, hx, rfl⟩ := List.mem_map.mp hq
  have h1 : lk x.1 L = some x.2 := (List.map_inj_left.mp h) x hx
  exact lk_at hl h1
theorem AW.mono {μ : MD} {d mc ms N pc : Nat} {L : List (Nat × Value)} {S : List Value} {M : Mem} {Q Q' : Option Value → Nat → Mem → Prop} (h : ∀ r N' M', Q' r N' M' → Q r N' M') (k : AW μ d mc ms N pc L S M Q') : AW μ d mc ms N pc L S M Q := by
  intro g p l e R s m args below meth c H locs cells slots ls C hS hR hc hs hl T hT X
  obtain ⟨t, a1, o, b1, b2, ⟨⟨r, N', M', c1, c2, c3⟩, c4⟩, b4⟩ := k g p l e R s m args below meth c H locs cells slots ls C hS hR hc hs hl T hT X
  exact ⟨t, a1, o, b1, b2, ⟨⟨r, N', M', c1, h r N' M' c2, c3⟩, c4⟩, b4⟩
theorem AW.rm {μ : MD} {d mc ms mc' ms' N pc : Nat} {L : List (Nat × Value)} {S : List Value} {M : Mem} {Q : Option Value → Nat → Mem → Prop} (h1 : mc' ≤ mc) (h2 : ms' ≤ ms) (k : AW μ d mc' ms' N pc L S M Q) : AW μ d mc ms N pc L S M Q := by
  intro g p l e R s m args below meth c H locs cells slots ls C hS hR hc hs hl
  exact k g p l e R s m args below meth c H locs cells slots ls C hS hR (by omega) (by omega) hl
theorem AW.dp {μ : MD} {d d' mc ms N pc : Nat} {L : List (Nat × Value)} {S : List Value} {M : Mem} {Q : Option Value → Nat → Mem → Prop} (h1 : d' ≤ d) (k : AW μ d' mc ms N pc L S M Q) : AW μ d mc ms N pc L S M Q := by
  intro g p l e R s m args below meth c H locs cells slots ls C hS hR hc hs hl
  obtain ⟨a1, a2, a3, a4, a5, a6, a7, a8, a9, a10, a11, a12, a13⟩ := C
  exact k g p l e R s m args below meth c H locs cells slots ls ⟨a1, a2, a3, a4, a5, a6, a7, a8, a9, a10, a11, by omega, by unfold kyl at *; omega⟩ hS hR hc hs hl
