/-! FACTS: the tables' words that the walk uses, found once, each by its place -/
def wsG : List Cond := lw_tbl.filter goodWord
theorem wsG_mem {w : Cond} (h : w ∈ lw_tbl) (g : goodWord w = true) : w ∈ wsG := List.mem_filter.mpr ⟨h, g⟩
theorem wsG_tbl {w : Cond} (h : w ∈ wsG) : w ∈ lw_tbl := (List.mem_filter.mp h).1
theorem wsG_gg : GoodIn wsG wsG := fun w h => ⟨h, good_of_word (List.mem_filter.mp h).2⟩
theorem gT {w : Cond} (h : w ∈ tables_1) (g : goodWord w = true) : w ∈ wsG := wsG_mem (List.mem_append_right _ h) g
theorem gT1 {w : Cond} (h : w ∈ tables_1_1) (g : goodWord w = true) : w ∈ wsG := gT (List.mem_append_left _ h) g
theorem tT1 {w : Cond} (h : w ∈ tables_1_1) : w ∈ lw_tbl := List.mem_append_right _ (List.mem_append_left _ h)
theorem gT2 {w : Cond} (h : w ∈ tables_1_2) (g : goodWord w = true) : w ∈ wsG := gT (List.mem_append_right _ (List.mem_append_left _ h)) g
theorem tT2 {w : Cond} (h : w ∈ tables_1_2) : w ∈ lw_tbl := List.mem_append_right _ (List.mem_append_right _ (List.mem_append_left _ h))
theorem gT3 {w : Cond} (h : w ∈ tables_1_3) (g : goodWord w = true) : w ∈ wsG := gT (List.mem_append_right _ (List.mem_append_right _ (List.mem_append_left _ h))) g
theorem tT3 {w : Cond} (h : w ∈ tables_1_3) : w ∈ lw_tbl := List.mem_append_right _ (List.mem_append_right _ (List.mem_append_right _ (List.mem_append_left _ h)))
theorem gT4 {w : Cond} (h : w ∈ tables_1_4) (g : goodWord w = true) : w ∈ wsG := gT (List.mem_append_right _ (List.mem_append_right _ (List.mem_append_right _ (List.mem_append_left _ h)))) g
theorem tT4 {w : Cond} (h : w ∈ tables_1_4) : w ∈ lw_tbl := List.mem_append_right _ (List.mem_append_right _ (List.mem_append_right _ (List.mem_append_right _ (List.mem_append_left _ h))))
theorem gT5 {w : Cond} (h : w ∈ tables_1_5) (g : goodWord w = true) : w ∈ wsG := gT (List.mem_append_right _ (List.mem_append_right _ (List.mem_append_right _ (List.mem_append_right _ (List.mem_append_left _ h))))) g
theorem tT5 {w : Cond} (h : w ∈ tables_1_5) : w ∈ lw_tbl := List.mem_append_right _ (List.mem_append_right _ (List.mem_append_right _ (List.mem_append_right _ (List.mem_append_right _ (List.mem_append_left _ h)))))
theorem gT6 {w : Cond} (h : w ∈ tables_1_6) (g : goodWord w = true) : w ∈ wsG := gT (List.mem_append_right _ (List.mem_append_right _ (List.mem_append_right _ (List.mem_append_right _ (List.mem_append_right _ (h)))))) g
theorem tT6 {w : Cond} (h : w ∈ tables_1_6) : w ∈ lw_tbl := List.mem_append_right _ (List.mem_append_right _ (List.mem_append_right _ (List.mem_append_right _ (List.mem_append_right _ (List.mem_append_right _ (h))))))
theorem gSl {q : MethodName × Nat} (h : q ∈ lw_privs) : Cond.selects q.1.cls q.1 q.1 ∈ wsG := wsG_mem (List.mem_append_left _ (List.mem_map.mpr ⟨q, h, rfl⟩)) rfl
/-- a method: its name, its bytes, its locals, its answer's type -/
abbrev MD : Type := MethodName × ByteArray × Nat × Option FieldType
def cN (c : Nat) : vw_C := vwCl.getD c (RX0, TX0, 2)
def FLK (own : String) (ix ci k : Nat) : Prop := (ci < 11 ∧ k < (cN ci).2.2) ∧ Cond.fieldLink own ix ((cN ci).2.1 k).1 ((cN ci).2.1 k).2.1 ((cN ci).2.1 k).2.2.1 ∈ wsG
def MFc (μ : MD) (n : Nat) : Prop := Cond.code μ.1 μ.2.1 μ.2.2.1 μ.2.2.2 ∈ wsG ∧ Cond.initialized μ.1.cls ∈ wsG ∧ (μ.1.cls ≠ "java/lang/invoke/MethodHandle" ∧ μ.1.cls ≠ "java/lang/invoke/VarHandle") ∧ (parseMethodDescriptor μ.1.desc).map (fun d => d.parameters.length) = some n ∧ μ.2.2.1 ≤ 20 ∧ plainFor μ.1 = true
def MFv (μ : MD) (n : Nat) : Prop := Cond.instanceMethod μ.1 ∈ wsG ∧ Cond.selects μ.1.cls μ.1 μ.1 ∈ wsG ∧ MFc μ n
def MFs (μ : MD) (n : Nat) : Prop := Cond.static μ.1 ∈ wsG ∧ MFc μ n
def MFi (μ : MD) (n : Nat) : Prop := Cond.instanceMethod μ.1 ∈ wsG ∧ μ.1.name = "<init>" ∧ μ.2.2.2 = none ∧ MFc μ n
def MLK (own : String) (ix : Nat) (μ : MD) : Prop := Cond.methodLink own ix μ.1 ∈ wsG
def NEW (own : String) (ix ci : Nat) : Prop := ci < 11 ∧ Cond.classLink own ix (cN ci).1 ∈ wsG ∧ Cond.instantiable (cN ci).1 (cN ci).2.2 ∈ wsG ∧ Cond.initialized (cN ci).1 ∈ wsG

theorem inG0 : ∀ w ∈ wsX00, w ∈ wsG := by
  show ∀ w ∈ [u_lay RX0 TX0 0, u_lay RX0 TX0 1], w ∈ wsG
  exact List.forall_mem_cons.mpr ⟨gT1 (List.mem_of_getElem? (i := 73) (by decide +kernel)) (by decide +kernel), List.forall_mem_cons.mpr ⟨gT1 (List.mem_of_getElem? (i := 75) (by decide +kernel)) (by decide +kernel), (fun _ h => absurd h List.not_mem_nil)⟩⟩
theorem inG1 : ∀ w ∈ wsX10, w ∈ wsG := by
  show ∀ w ∈ [u_lay RX1 TX1 0, u_lay RX1 TX1 1, u_lay RX1 TX1 2, u_lay RX1 TX1 3, u_lay RX1 TX1 4, u_lay RX1 TX1 5, u_lay RX1 TX1 6, u_lay RX1 TX1 7], w ∈ wsG
  exact List.forall_mem_cons.mpr ⟨gT1 (List.mem_of_getElem? (i := 135) (by decide +kernel)) (by decide +kernel), List.forall_mem_cons.mpr ⟨gT1 (List.mem_of_getElem? (i := 137) (by decide +kernel)) (by decide +kernel), List.forall_mem_cons.mpr ⟨gT1 (List.mem_of_getElem? (i := 139) (by decide +kernel)) (by decide +kernel), List.forall_mem_cons.mpr ⟨gT1 (List.mem_of_getElem? (i := 141) (by decide +kernel)) (by decide +kernel), List.forall_mem_cons.mpr ⟨gT1 (List.mem_of_getElem? (i := 143) (by decide +kernel)) (by decide +kernel), List.forall_mem_cons.mpr ⟨gT1 (List.mem_of_getElem? (i := 145) (by decide +kernel)) (by decide +kernel), List.forall_mem_cons.mpr ⟨gT1 (List.mem_of_getElem? (i := 147) (by decide +kernel)) (by decide +kernel), List.forall_mem_cons.mpr ⟨gT1 (List.mem_of_getElem? (i := 149) (by decide +kernel)) (by decide +kernel), (fun _ h => absurd h List.not_mem_nil)⟩⟩⟩⟩⟩⟩⟩⟩
theorem inG2 : ∀ w ∈ wsX20, w ∈ wsG := by
  show ∀ w ∈ [u_lay RX2 TX2 0, u_lay RX2 TX2 1, u_lay RX2 TX2 2, u_lay RX2 TX2 3, u_lay RX2 TX2 4], w ∈ wsG
  exact List.forall_mem_cons.mpr ⟨gT2 (List.mem_of_getElem? (i := 28) (by decide +kernel)) (by decide +kernel), List.forall_mem_cons.mpr ⟨gT2 (List.mem_of_getElem? (i := 30) (by decide +kernel)) (by decide +kernel), List.forall_mem_cons.mpr ⟨gT2 (List.mem_of_getElem? (i := 32) (by decide +kernel)) (by decide +kernel), List.forall_mem_cons.mpr ⟨gT2 (List.mem_of_getElem? (i := 34) (by decide +kernel)) (by decide +kernel), List.forall_mem_cons.mpr ⟨gT2 (List.mem_of_getElem? (i := 36) (by decide +kernel)) (by decide +kernel), (fun _ h => absurd h List.not_mem_nil)⟩⟩⟩⟩⟩
theorem inG3 : ∀ w ∈ wsX30, w ∈ wsG := by
  show ∀ w ∈ [u_lay RX3 TX3 0, u_lay RX3 TX3 1, u_lay RX3 TX3 2, u_lay RX3 TX3 3, u_lay RX3 TX3 4, u_lay RX3 TX3 5, u_lay RX3 TX3 6, u_lay RX3 TX3 7], w ∈ wsG
  exact List.forall_mem_cons.mpr ⟨gT1 (List.mem_of_getElem? (i := 168) (by decide +kernel)) (by decide +kernel), List.forall_mem_cons.mpr ⟨gT1 (List.mem_of_getElem? (i := 170) (by decide +kernel)) (by decide +kernel), List.forall_mem_cons.mpr ⟨gT1 (List.mem_of_getElem? (i := 172) (by decide +kernel)) (by decide +kernel), List.forall_mem_cons.mpr ⟨gT1 (List.mem_of_getElem? (i := 174) (by decide +kernel)) (by decide +kernel), List.forall_mem_cons.mpr ⟨gT1 (List.mem_of_getElem? (i := 176) (by decide +kernel)) (by decide +kernel), List.forall_mem_cons.mpr ⟨gT1 (List.mem_of_getElem? (i := 178) (by decide +kernel)) (by decide +kernel), List.forall_mem_cons.mpr ⟨gT1 (List.mem_of_getElem? (i := 180) (by decide +kernel)) (by decide +kernel), List.forall_mem_cons.mpr ⟨gT1 (List.mem_of_getElem? (i := 182) (by decide +kernel)) (by decide +kernel), (fun _ h => absurd h List.not_mem_nil)⟩⟩⟩⟩⟩⟩⟩⟩
theorem inG4 : ∀ w ∈ wsX40, w ∈ wsG := by
  show ∀ w ∈ [u_lay RX4 TX4 0, u_lay RX4 TX4 1, u_lay RX4 TX4 2, u_lay RX4 TX4 3, u_lay RX4 TX4 4], w ∈ wsG
  exact List.forall_mem_cons.mpr ⟨gT1 (List.mem_of_getElem? (i := 47) (by decide +kernel)) (by decide +kernel), List.forall_mem_cons.mpr ⟨gT1 (List.mem_of_getElem? (i := 49) (by decide +kernel)) (by decide +kernel), List.forall_mem_cons.mpr ⟨gT1 (List.mem_of_getElem? (i := 51) (by decide +kernel)) (by decide +kernel), List.forall_mem_cons.mpr ⟨gT1 (List.mem_of_getElem? (i := 53) (by decide +kernel)) (by decide +kernel), List.forall_mem_cons.mpr ⟨gT1 (List.mem_of_getElem? (i := 55) (by decide +kernel)) (by decide +kernel), (fun _ h => absurd h List.not_mem_nil)⟩⟩⟩⟩⟩
theorem inG5 : ∀ w ∈ wsX50, w ∈ wsG := by
  show ∀ w ∈ [u_lay RX5 TX5 0, u_lay RX5 TX5 1, u_lay RX5 TX5 2, u_lay RX5 TX5 3], w ∈ wsG
  exact List.forall_mem_cons.mpr ⟨gT1 (List.mem_of_getElem? (i := 110) (by decide +kernel)) (by decide +kernel), List.forall_mem_cons.mpr ⟨gT1 (List.mem_of_getElem? (i := 112) (by decide +kernel)) (by decide +kernel), List.forall_mem_cons.mpr ⟨gT1 (List.mem_of_getElem? (i := 114) (by decide +kernel)) (by decide +kernel), List.forall_mem_cons.mpr ⟨gT1 (List.mem_of_getElem? (i := 116) (by decide +kernel)) (by decide +kernel), (fun _ h => absurd h List.not_mem_nil)⟩⟩⟩⟩
theorem inG6 : ∀ w ∈ wsX60, w ∈ wsG := by
  show ∀ w ∈ [u_lay RX6 TX6 0, u_lay RX6 TX6 1, u_lay RX6 TX6 2], w ∈ wsG
  exact List.forall_mem_cons.mpr ⟨gT2 (List.mem_of_getElem? (i := 56) (by decide +kernel)) (by decide +kernel), List.forall_mem_cons.mpr ⟨gT2 (List.mem_of_getElem? (i := 58) (by decide +kernel)) (by decide +kernel), List.forall_mem_cons.mpr ⟨gT2 (List.mem_of_getElem? (i := 60) (by decide +kernel)) (by decide +kernel), (fun _ h => absurd h List.not_mem_nil)⟩⟩⟩
theorem inG7 : ∀ w ∈ wsX70, w ∈ wsG := by
  show ∀ w ∈ [u_lay RX7 TX7 0, u_lay RX7 TX7 1, u_lay RX7 TX7 2, u_lay RX7 TX7 3, u_lay RX7 TX7 4, u_lay RX7 TX7 5], w ∈ wsG
  exact List.forall_mem_cons.mpr ⟨gT1 (List.mem_of_getElem? (i := 86) (by decide +kernel)) (by decide +kernel), List.forall_mem_cons.mpr ⟨gT1 (List.mem_of_getElem? (i := 88) (by decide +kernel)) (by decide +kernel), List.forall_mem_cons.mpr ⟨gT1 (List.mem_of_getElem? (i := 90) (by decide +kernel)) (by decide +kernel), List.forall_mem_cons.mpr ⟨gT1 (List.mem_of_getElem? (i := 92) (by decide +kernel)) (by decide +kernel), List.forall_mem_cons.mpr ⟨gT1 (List.mem_of_getElem? (i := 94) (by decide +kernel)) (by decide +kernel), List.forall_mem_cons.mpr ⟨gT1 (List.mem_of_getElem? (i := 96) (by decide +kernel)) (by decide +kernel), (fun _ h => absurd h List.not_mem_nil)⟩⟩⟩⟩⟩⟩
theorem inG8 : ∀ w ∈ wsX80, w ∈ wsG := by
  show ∀ w ∈ [u_lay RX8 TX8 0, u_lay RX8 TX8 1], w ∈ wsG
  exact List.forall_mem_cons.mpr ⟨gT1 (List.mem_of_getElem? (i := 30) (by decide +kernel)) (by decide +kernel), List.forall_mem_cons.mpr ⟨gT1 (List.mem_of_getElem? (i := 32) (by decide +kernel)) (by decide +kernel), (fun _ h => absurd h List.not_mem_nil)⟩⟩
theorem inG9 : ∀ w ∈ wsX90, w ∈ wsG := by
  show ∀ w ∈ [u_lay RX9 TX9 0, u_lay RX9 TX9 1, u_lay RX9 TX9 2, u_lay RX9 TX9 3, u_lay RX9 TX9 4, u_lay RX9 TX9 5, u_lay RX9 TX9 6], w ∈ wsG
  exact List.forall_mem_cons.mpr ⟨gT1 (List.mem_of_getElem? (i := 192) (by decide +kernel)) (by decide +kernel), List.forall_mem_cons.mpr ⟨gT1 (List.mem_of_getElem? (i := 194) (by decide +kernel)) (by decide +kernel), List.forall_mem_cons.mpr ⟨gT1 (List.mem_of_getElem? (i := 196) (by decide +kernel)) (by decide +kernel), List.forall_mem_cons.mpr ⟨gT1 (List.mem_of_getElem? (i := 198) (by decide +kernel)) (by decide +kernel), List.forall_mem_cons.mpr ⟨gT1 (List.mem_of_getElem? (i := 200) (by decide +kernel)) (by decide +kernel), List.forall_mem_cons.mpr ⟨gT1 (List.mem_of_getElem? (i := 202) (by decide +kernel)) (by decide +kernel), List.forall_mem_cons.mpr ⟨gT1 (List.mem_of_getElem? (i := 204) (by decide +kernel)) (by decide +kernel), (fun _ h => absurd h List.not_mem_nil)⟩⟩⟩⟩⟩⟩⟩
theorem inG10 : ∀ w ∈ wsX100, w ∈ wsG := by
  show ∀ w ∈ [u_lay RX10 TX10 0, u_lay RX10 TX10 1, u_lay RX10 TX10 2, u_lay RX10 TX10 3, u_lay RX10 TX10 4, u_lay RX10 TX10 5, u_lay RX10 TX10 6, u_lay RX10 TX10 7, u_lay RX10 TX10 8, u_lay RX10 TX10 9, u_lay RX10 TX10 10, u_lay RX10 TX10 11, u_lay RX10 TX10 12, u_lay RX10 TX10 13, u_lay RX10 TX10 14, u_lay RX10 TX10 15, u_lay RX10 TX10 16, u_lay RX10 TX10 17, u_lay RX10 TX10 18, u_lay RX10 TX10 19, u_lay RX10 TX10 20, u_lay RX10 TX10 21, u_lay RX10 TX10 22, u_lay RX10 TX10 23, u_lay RX10 TX10 24, u_lay RX10 TX10 25, u_lay RX10 TX10 26, u_lay RX10 TX10 27, u_lay RX10 TX10 28, u_lay RX10 TX10 29, u_lay RX10 TX10 30, u_lay RX10 TX10 31, u_lay RX10 TX10 32, u_lay RX10 TX10 33, u_lay RX10 TX10 34, u_lay RX10 TX10 35, u_lay RX10 TX10 36, u_lay RX10 TX10 37, u_lay RX10 TX10 38, u_lay RX10 TX10 39, u_lay RX10 TX10 40, u_lay RX10 TX10 41, u_lay RX10 TX10 42, u_lay RX10 TX10 43, u_lay RX10 TX10 44, u_lay RX10 TX10 45, u_lay RX10 TX10 46, u_lay RX10 TX10 47, u_lay RX10 TX10 48, u_lay RX10 TX10 49, u_lay RX10 TX10 50, u_lay RX10 TX10 51], w ∈ wsG
  exact List.forall_mem_cons.mpr ⟨gT4 (List.mem_of_getElem? (i := 122) (by decide +kernel)) (by decide +kernel), List.forall_mem_cons.mpr ⟨gT4 (List.mem_of_getElem? (i := 124) (by decide +kernel)) (by decide +kernel), List.forall_mem_cons.mpr ⟨gT4 (List.mem_of_getElem? (i := 126) (by decide +kernel)) (by decide +kernel), List.forall_mem_cons.mpr ⟨gT4 (List.mem_of_getElem? (i := 128) (by decide +kernel)) (by decide +kernel), List.forall_mem_cons.mpr ⟨gT4 (List.mem_of_getElem? (i := 130) (by decide +kernel)) (by decide +kernel), List.forall_mem_cons.mpr ⟨gT4 (List.mem_of_getElem? (i := 132) (by decide +kernel)) (by decide +kernel), List.forall_mem_cons.mpr ⟨gT4 (List.mem_of_getElem? (i := 134) (by decide +kernel)) (by decide +kernel), List.forall_mem_cons.mpr ⟨gT4 (List.mem_of_getElem? (i := 136) (by decide +kernel)) (by decide +kernel), List.forall_mem_cons.mpr ⟨gT4 (List.mem_of_getElem? (i := 138) (by decide +kernel)) (by decide +kernel), List.forall_mem_cons.mpr ⟨gT4 (List.mem_of_getElem? (i := 140) (by decide +kernel)) (by decide +kernel), List.forall_mem_cons.mpr ⟨gT4 (List.mem_of_getElem? (i := 142) (by decide +kernel)) (by decide +kernel), List.forall_mem_cons.mpr ⟨gT4 (List.mem_of_getElem? (i := 144) (by decide +kernel)) (by decide +kernel), List.forall_mem_cons.mpr ⟨gT4 (List.mem_of_getElem? (i := 146) (by decide +kernel)) (by decide +kernel), List.forall_mem_cons.mpr ⟨gT4 (List.mem_of_getElem? (i := 148) (by decide +kernel)) (by decide +kernel), List.forall_mem_cons.mpr ⟨gT4 (List.mem_of_getElem? (i := 150) (by decide +kernel)) (by decide +kernel), List.forall_mem_cons.mpr ⟨gT4 (List.mem_of_getElem? (i := 152) (by decide +kernel)) (by decide +kernel), List.forall_mem_cons.mpr ⟨gT4 (List.mem_of_getElem? (i := 154) (by decide +kernel)) (by decide +kernel), List.forall_mem_cons.mpr ⟨gT4 (List.mem_of_getElem? (i := 156) (by decide +kernel)) (by decide +kernel), List.forall_mem_cons.mpr ⟨gT4 (List.mem_of_getElem? (i := 158) (by decide +kernel)) (by decide +kernel), List.forall_mem_cons.mpr ⟨gT4 (List.mem_of_getElem? (i := 160) (by decide +kernel)) (by decide +kernel), List.forall_mem_cons.mpr ⟨gT4 (List.mem_of_getElem? (i := 162) (by decide +kernel)) (by decide +kernel), List.forall_mem_cons.mpr ⟨gT4 (List.mem_of_getElem? (i := 164) (by decide +kernel)) (by decide +kernel), List.forall_mem_cons.mpr ⟨gT4 (List.mem_of_getElem? (i := 166) (by decide +kernel)) (by decide +kernel), List.forall_mem_cons.mpr ⟨gT4 (List.mem_of_getElem? (i := 168) (by decide +kernel)) (by decide +kernel), List.forall_mem_cons.mpr ⟨gT4 (List.mem_of_getElem? (i := 170) (by decide +kernel)) (by decide +kernel), List.forall_mem_cons.mpr ⟨gT4 (List.mem_of_getElem? (i := 172) (by decide +kernel)) (by decide +kernel), List.forall_mem_cons.mpr ⟨gT4 (List.mem_of_getElem? (i := 174) (by decide +kernel)) (by decide +kernel), List.forall_mem_cons.mpr ⟨gT4 (List.mem_of_getElem? (i := 176) (by decide +kernel)) (by decide +kernel), List.forall_mem_cons.mpr ⟨gT4 (List.mem_of_getElem? (i := 178) (by decide +kernel)) (by decide +kernel), List.forall_mem_cons.mpr ⟨gT4 (List.mem_of_getElem? (i := 180) (by decide +kernel)) (by decide +kernel), List.forall_mem_cons.mpr ⟨gT4 (List.mem_of_getElem? (i := 182) (by decide +kernel)) (by decide +kernel), List.forall_mem_cons.mpr ⟨gT4 (List.mem_of_getElem? (i := 184) (by decide +kernel)) (by decide +kernel), List.forall_mem_cons.mpr ⟨gT4 (List.mem_of_getElem? (i := 186) (by decide +kernel)) (by decide +kernel), List.forall_mem_cons.mpr ⟨gT4 (List.mem_of_getElem? (i := 188) (by decide +kernel)) (by decide +kernel), List.forall_mem_cons.mpr ⟨gT4 (List.mem_of_getElem? (i := 190) (by decide +kernel)) (by decide +kernel), List.forall_mem_cons.mpr ⟨gT4 (List.mem_of_getElem? (i := 192) (by decide +kernel)) (by decide +kernel), List.forall_mem_cons.mpr ⟨gT4 (List.mem_of_getElem? (i := 194) (by decide +kernel)) (by decide +kernel), List.forall_mem_cons.mpr ⟨gT4 (List.mem_of_getElem? (i := 196) (by decide +kernel)) (by decide +kernel), List.forall_mem_cons.mpr ⟨gT4 (List.mem_of_getElem? (i := 198) (by decide +kernel)) (by decide +kernel), List.forall_mem_cons.mpr ⟨gT4 (List.mem_of_getElem? (i := 200) (by decide +kernel)) (by decide +kernel), List.forall_mem_cons.mpr ⟨gT4 (List.mem_of_getElem? (i := 202) (by decide +kernel)) (by decide +kernel), List.forall_mem_cons.mpr ⟨gT4 (List.mem_of_getElem? (i := 204) (by decide +kernel)) (by decide +kernel), List.forall_mem_cons.mpr ⟨gT4 (List.mem_of_getElem? (i := 206) (by decide +kernel)) (by decide +kernel), List.forall_mem_cons.mpr ⟨gT4 (List.mem_of_getElem? (i := 208) (by decide +kernel)) (by decide +kernel), List.forall_mem_cons.mpr ⟨gT4 (List.mem_of_getElem? (i := 210) (by decide +kernel)) (by decide +kernel), List.forall_mem_cons.mpr ⟨gT4 (List.mem_of_getElem? (i := 212) (by decide +kernel)) (by decide +kernel), List.forall_mem_cons.mpr ⟨gT4 (List.mem_of_getElem? (i := 214) (by decide +kernel)) (by decide +kernel), List.forall_mem_cons.mpr ⟨gT4 (List.mem_of_getElem? (i := 216) (by decide +kernel)) (by decide +kernel), List.forall_mem_cons.mpr ⟨gT4 (List.mem_of_getElem? (i := 218) (by decide +kernel)) (by decide +kernel), List.forall_mem_cons.mpr ⟨gT4 (List.mem_of_getElem? (i := 220) (by decide +kernel)) (by decide +kernel), List.forall_mem_cons.mpr ⟨gT4 (List.mem_of_getElem? (i := 222) (by decide +kernel)) (by decide +kernel), List.forall_mem_cons.mpr ⟨gT4 (List.mem_of_getElem? (i := 224) (by decide +kernel)) (by decide +kernel), (fun _ h => absurd h List.not_mem_nil)⟩⟩⟩⟩⟩⟩⟩⟩⟩⟩⟩⟩⟩⟩⟩⟩⟩⟩⟩⟩⟩⟩⟩⟩⟩⟩⟩⟩⟩⟩⟩⟩⟩⟩⟩⟩⟩⟩⟩⟩⟩⟩⟩⟩⟩⟩⟩⟩⟩⟩⟩⟩
abbrev mX0_init : MD := (yX0_init, cX0_init, 1, none)
abbrev mX0_set : MD := (yX0_set, cX0_set, 3, none)
abbrev mX0_stepOf : MD := (yX0_stepOf, cX0_stepOf, 4, (some .int))
abbrev mX0_operandOf : MD := (yX0_operandOf, cX0_operandOf, 3, (some .int))
abbrev mX1_init : MD := (yX1_init, cX1_init, 3, none)
abbrev mX1_figureAt : MD := (yX1_figureAt, cX1_figureAt, 4, (some .long))
abbrev mX1_errorAt : MD := (yX1_errorAt, cX1_errorAt, 4, (some .int))
abbrev mX1_isAlike : MD := (yX1_isAlike, cX1_isAlike, 4, (some .boolean))
abbrev mX1_settles : MD := (yX1_settles, cX1_settles, 3, (some .boolean))
abbrev mX1_reckonOwn : MD := (yX1_reckonOwn, cX1_reckonOwn, 3, none)
abbrev mX1_reckonRight : MD := (yX1_reckonRight, cX1_reckonRight, 7, none)
abbrev mX1_plan : MD := (yX1_plan, cX1_plan, 9, none)
abbrev mX1_append : MD := (yX1_append, cX1_append, 2, none)
abbrev mX1_layHeld : MD := (yX1_layHeld, cX1_layHeld, 4, none)
abbrev mX1_layLent : MD := (yX1_layLent, cX1_layLent, 6, none)
abbrev mX1_follow : MD := (yX1_follow, cX1_follow, 5, none)
abbrev mX1_put : MD := (yX1_put, cX1_put, 7, none)
abbrev mX2_init : MD := (yX2_init, cX2_init, 3, none)
abbrev mX2_length : MD := (yX2_length, cX2_length, 1, (some .int))
abbrev mX2_byteAt : MD := (yX2_byteAt, cX2_byteAt, 2, (some .int))
abbrev mX2_putByte : MD := (yX2_putByte, cX2_putByte, 3, none)
abbrev mX2_hasTextOf : MD := (yX2_hasTextOf, cX2_hasTextOf, 3, (some .boolean))
abbrev mX2_addStep : MD := (yX2_addStep, cX2_addStep, 4, none)
abbrev mX2_countSteps : MD := (yX2_countSteps, cX2_countSteps, 1, (some .int))
abbrev mX2_placeOf : MD := (yX2_placeOf, cX2_placeOf, 2, (some .int))
abbrev mX2_stepAt : MD := (yX2_stepAt, cX2_stepAt, 2, (some .int))
abbrev mX2_operandAt : MD := (yX2_operandAt, cX2_operandAt, 2, (some .int))
abbrev mX2_needs : MD := (yX2_needs, cX2_needs, 8, (some .long))
abbrev mX3_init : MD := (yX3_init, cX3_init, 6, none)
abbrev mX3_slipPlace : MD := (yX3_slipPlace, cX3_slipPlace, 1, (some .int))
abbrev mX3_slipMade : MD := (yX3_slipMade, cX3_slipMade, 1, (some .int))
abbrev mX3_open : MD := (yX3_open, cX3_open, 3, none)
abbrev mX3_judge : MD := (yX3_judge, cX3_judge, 4, (some .int))
abbrev mX3_judgeNumber : MD := (yX3_judgeNumber, cX3_judgeNumber, 4, (some .int))
abbrev mX3_isAlike : MD := (yX3_isAlike, cX3_isAlike, 4, (some .boolean))
abbrev mX3_findsSlip : MD := (yX3_findsSlip, cX3_findsSlip, 7, (some .boolean))
abbrev mX3_isSoChanged : MD := (yX3_isSoChanged, cX3_isSoChanged, 10, (some .boolean))
abbrev mX3_option : MD := (yX3_option, cX3_option, 5, (some .int))
abbrev mX3_neighbour : MD := (yX3_neighbour, cX3_neighbour, 4, (some .int))
abbrev mX4_init : MD := (yX4_init, cX4_init, 1, none)
abbrev mX4_inputs : MD := (yX4_inputs, cX4_inputs, 1, (some .long))
abbrev mX4_wanted : MD := (yX4_wanted, cX4_wanted, 1, (some .long))
abbrev mX4_isInput : MD := (yX4_isInput, cX4_isInput, 2, (some .boolean))
abbrev mX4_isWanted : MD := (yX4_isWanted, cX4_isWanted, 2, (some .boolean))
abbrev mX4_isWorld : MD := (yX4_isWorld, cX4_isWorld, 2, (some .boolean))
abbrev mX4_countInputs : MD := (yX4_countInputs, cX4_countInputs, 1, (some .int))
abbrev mX4_countWanted : MD := (yX4_countWanted, cX4_countWanted, 1, (some .int))
abbrev mX4_countWorlds : MD := (yX4_countWorlds, cX4_countWorlds, 1, (some .int))
abbrev mX4_worth : MD := (yX4_worth, cX4_worth, 2, (some .int))
abbrev mX4_worthOfAll : MD := (yX4_worthOfAll, cX4_worthOfAll, 3, (some .int))
abbrev mX4_given : MD := (yX4_given, cX4_given, 3, (some .int))
abbrev mX4_addInput : MD := (yX4_addInput, cX4_addInput, 2, none)
abbrev mX4_want : MD := (yX4_want, cX4_want, 3, none)
abbrev mX4_addWorld : MD := (yX4_addWorld, cX4_addWorld, 1, (some .int))
abbrev mX4_put : MD := (yX4_put, cX4_put, 4, none)
abbrev mX5_init : MD := (yX5_init, cX5_init, 1, none)
abbrev mX5_errorMet : MD := (yX5_errorMet, cX5_errorMet, 1, (some .int))
abbrev mX5_result : MD := (yX5_result, cX5_result, 1, (some .long))
abbrev mX5_reckon : MD := (yX5_reckon, cX5_reckon, 9, none)
abbrev mX5_push : MD := (yX5_push, cX5_push, 3, none)
abbrev mX5_pop : MD := (yX5_pop, cX5_pop, 1, (some .long))
abbrev mX5_pushCell : MD := (yX5_pushCell, cX5_pushCell, 4, none)
abbrev mX5_pushRectangle : MD := (yX5_pushRectangle, cX5_pushRectangle, 8, none)
abbrev mX5_join : MD := (yX5_join, cX5_join, 6, none)
abbrev mX5_multiply : MD := (yX5_multiply, cX5_multiply, 5, none)
abbrev mX5_divide : MD := (yX5_divide, cX5_divide, 5, none)
abbrev mX6_init : MD := (yX6_init, cX6_init, 2, none)
abbrev mX6_parse : MD := (yX6_parse, cX6_parse, 1, (some .int))
abbrev mX6_next : MD := (yX6_next, cX6_next, 1, (some .int))
abbrev mX6_fail : MD := (yX6_fail, cX6_fail, 2, none)
abbrev mX6_pass : MD := (yX6_pass, cX6_pass, 2, none)
abbrev mX6_passWithin : MD := (yX6_passWithin, cX6_passWithin, 4, (some .int))
abbrev mX6_readSum : MD := (yX6_readSum, cX6_readSum, 5, none)
abbrev mX6_readProduct : MD := (yX6_readProduct, cX6_readProduct, 5, none)
abbrev mX6_readFactor : MD := (yX6_readFactor, cX6_readFactor, 3, none)
abbrev mX6_readNegative : MD := (yX6_readNegative, cX6_readNegative, 3, none)
abbrev mX6_readGreater : MD := (yX6_readGreater, cX6_readGreater, 3, none)
abbrev mX6_readRectangle : MD := (yX6_readRectangle, cX6_readRectangle, 2, none)
abbrev mX6_readNumber : MD := (yX6_readNumber, cX6_readNumber, 4, none)
abbrev mX6_readCell : MD := (yX6_readCell, cX6_readCell, 5, none)
abbrev mX6_isDigit : MD := (yX6_isDigit, cX6_isDigit, 1, (some .boolean))
abbrev mX7_init : MD := (yX7_init, cX7_init, 1, none)
abbrev mX7_empty : MD := (yX7_empty, cX7_empty, 2, none)
abbrev mX7_putNumber : MD := (yX7_putNumber, cX7_putNumber, 3, none)
abbrev mX7_putFormula : MD := (yX7_putFormula, cX7_putFormula, 3, none)
abbrev mX7_put : MD := (yX7_put, cX7_put, 7, none)
abbrev mX7_reckoned : MD := (yX7_reckoned, cX7_reckoned, 1, (some .long))
abbrev mX7_heldAt : MD := (yX7_heldAt, cX7_heldAt, 2, (some .int))
abbrev mX7_numberAt : MD := (yX7_numberAt, cX7_numberAt, 2, (some .int))
abbrev mX7_formulaAt : MD := (yX7_formulaAt, cX7_formulaAt, 2, (some (.object "SheetMarker$Formula")))
abbrev mX7_needsAt : MD := (yX7_needsAt, cX7_needsAt, 2, (some .long))
abbrev mX8_init : MD := (yX8_init, cX8_init, 1, none)
abbrev mX8_length : MD := (yX8_length, cX8_length, 1, (some .int))
abbrev mX8_hasRoom : MD := (yX8_hasRoom, cX8_hasRoom, 1, (some .boolean))
abbrev mX8_append : MD := (yX8_append, cX8_append, 3, none)
abbrev mX8_moveTo : MD := (yX8_moveTo, cX8_moveTo, 3, none)
abbrev mX9_init : MD := (yX9_init, cX9_init, 2, none)
abbrev mX9_feed : MD := (yX9_feed, cX9_feed, 6, (some .int))
abbrev mX9_number : MD := (yX9_number, cX9_number, 5, (some .boolean))
abbrev mX9_formula : MD := (yX9_formula, cX9_formula, 7, (some .int))
abbrev mX9_clear : MD := (yX9_clear, cX9_clear, 4, (some .boolean))
abbrev mX9_input : MD := (yX9_input, cX9_input, 2, (some .boolean))
abbrev mX9_wants : MD := (yX9_wants, cX9_wants, 3, (some .boolean))
abbrev mX9_world : MD := (yX9_world, cX9_world, 1, (some .int))
abbrev mX9_give : MD := (yX9_give, cX9_give, 4, (some .boolean))
abbrev mX9_value : MD := (yX9_value, cX9_value, 4, (some .long))
abbrev mX9_error : MD := (yX9_error, cX9_error, 4, (some .int))
abbrev mX9_right : MD := (yX9_right, cX9_right, 4, (some .long))
abbrev mX9_rightError : MD := (yX9_rightError, cX9_rightError, 4, (some .int))
abbrev mX9_kind : MD := (yX9_kind, cX9_kind, 4, (some .int))
abbrev mX9_points : MD := (yX9_points, cX9_points, 6, (some .int))
abbrev mX9_slip : MD := (yX9_slip, cX9_slip, 5, (some .int))
abbrev mX9_fault : MD := (yX9_fault, cX9_fault, 6, (some .int))
abbrev mX9_copied : MD := (yX9_copied, cX9_copied, 8, (some .int))
abbrev mX9_look : MD := (yX9_look, cX9_look, 6, (some .int))
abbrev mX9_count : MD := (yX9_count, cX9_count, 2, (some .int))
abbrev mX9_sheetAt : MD := (yX9_sheetAt, cX9_sheetAt, 2, (some (.object "SheetMarker$Sheet")))
abbrev mX9_pupilAt : MD := (yX9_pupilAt, cX9_pupilAt, 2, (some (.object "SheetMarker$Sheet")))
abbrev mX9_reckonsOwn : MD := (yX9_reckonsOwn, cX9_reckonsOwn, 5, (some .boolean))
abbrev mX9_reckonsRight : MD := (yX9_reckonsRight, cX9_reckonsRight, 6, (some .boolean))
abbrev mX9_isShared : MD := (yX9_isShared, cX9_isShared, 6, (some .boolean))
abbrev mX9_countComing : MD := (yX9_countComing, cX9_countComing, 9, (some .int))
abbrev mX9_share : MD := (yX9_share, cX9_share, 2, (some .int))
abbrev mX9_isFaulty : MD := (yX9_isFaulty, cX9_isFaulty, 1, (some .boolean))
abbrev mX9_isCell : MD := (yX9_isCell, cX9_isCell, 1, (some .boolean))
abbrev mX9_isNumber : MD := (yX9_isNumber, cX9_isNumber, 1, (some .boolean))
abbrev mX9_isSign : MD := (yX9_isSign, cX9_isSign, 1, (some .boolean))
abbrev mX9_bit : MD := (yX9_bit, cX9_bit, 1, (some .long))
abbrev mX9_rectangle : MD := (yX9_rectangle, cX9_rectangle, 11, (some .long))
abbrev mX10_init : MD := (yX10_init, cX10_init, 1, none)
abbrev mX10_lies : MD := (yX10_lies, cX10_lies, 3, (some .boolean))
abbrev mX10_isCell : MD := (yX10_isCell, cX10_isCell, 1, (some .boolean))
abbrev mX10_isSheet : MD := (yX10_isSheet, cX10_isSheet, 1, (some .boolean))
abbrev mX10_isWanted : MD := (yX10_isWanted, cX10_isWanted, 2, (some .boolean))
abbrev mX10_push : MD := (yX10_push, cX10_push, 3, none)
abbrev mX10_feed : MD := (yX10_feed, cX10_feed, 6, (some .int))
abbrev mX10_number : MD := (yX10_number, cX10_number, 4, (some .boolean))
abbrev mX10_clear : MD := (yX10_clear, cX10_clear, 3, (some .boolean))
abbrev mX10_here : MD := (yX10_here, cX10_here, 1, (some .int))
abbrev mX10_fails : MD := (yX10_fails, cX10_fails, 3, none)
abbrev mX10_puts : MD := (yX10_puts, cX10_puts, 6, none)
abbrev mX10_waits : MD := (yX10_waits, cX10_waits, 3, none)
abbrev mX10_joins : MD := (yX10_joins, cX10_joins, 1, none)
abbrev mX10_opens : MD := (yX10_opens, cX10_opens, 2, none)
abbrev mX10_must : MD := (yX10_must, cX10_must, 2, none)
abbrev mX10_seesDigit : MD := (yX10_seesDigit, cX10_seesDigit, 1, (some .boolean))
abbrev mX10_readNumber : MD := (yX10_readNumber, cX10_readNumber, 3, (some .int))
abbrev mX10_readCell : MD := (yX10_readCell, cX10_readCell, 3, (some .int))
abbrev mX10_factorEnds : MD := (yX10_factorEnds, cX10_factorEnds, 1, none)
abbrev mX10_sumEnds : MD := (yX10_sumEnds, cX10_sumEnds, 1, none)
abbrev mX10_factor : MD := (yX10_factor, cX10_factor, 7, (some .boolean))
abbrev mX10_joinOf : MD := (yX10_joinOf, cX10_joinOf, 1, (some .int))
abbrev mX10_reads : MD := (yX10_reads, cX10_reads, 5, none)
abbrev mX10_formula : MD := (yX10_formula, cX10_formula, 6, (some .int))
abbrev mX10_input : MD := (yX10_input, cX10_input, 2, (some .boolean))
abbrev mX10_wants : MD := (yX10_wants, cX10_wants, 3, (some .boolean))
abbrev mX10_world : MD := (yX10_world, cX10_world, 1, (some .int))
abbrev mX10_give : MD := (yX10_give, cX10_give, 4, (some .boolean))
abbrev mX10_isChanged : MD := (yX10_isChanged, cX10_isChanged, 3, (some .boolean))
abbrev mX10_opOf : MD := (yX10_opOf, cX10_opOf, 3, (some .int))
abbrev mX10_argOf : MD := (yX10_argOf, cX10_argOf, 3, (some .int))
abbrev mX10_arg2Of : MD := (yX10_arg2Of, cX10_arg2Of, 3, (some .int))
abbrev mX10_isBetween : MD := (yX10_isBetween, cX10_isBetween, 3, (some .boolean))
abbrev mX10_isWithin : MD := (yX10_isWithin, cX10_isWithin, 3, (some .boolean))
abbrev mX10_needs : MD := (yX10_needs, cX10_needs, 4, (some .long))
abbrev mX10_names0 : MD := (yX10_names0, cX10_names0, 7, (some .long))
abbrev mX10_has : MD := (yX10_has, cX10_has, 3, (some .boolean))
abbrev mX10_isTold : MD := (yX10_isTold, cX10_isTold, 4, (some .boolean))
abbrev mX10_orders : MD := (yX10_orders, cX10_orders, 12, (some .boolean))
abbrev mX10_comes : MD := (yX10_comes, cX10_comes, 3, none)
abbrev mX10_times : MD := (yX10_times, cX10_times, 9, none)
abbrev mX10_parts : MD := (yX10_parts, cX10_parts, 7, none)
abbrev mX10_two : MD := (yX10_two, cX10_two, 6, none)
abbrev mX10_names : MD := (yX10_names, cX10_names, 2, none)
abbrev mX10_range : MD := (yX10_range, cX10_range, 6, none)
abbrev mX10_reckons : MD := (yX10_reckons, cX10_reckons, 4, none)
abbrev mX10_works : MD := (yX10_works, cX10_works, 8, none)
abbrev mX10_tells : MD := (yX10_tells, cX10_tells, 6, none)
abbrev mX10_tasks : MD := (yX10_tasks, cX10_tasks, 4, none)
abbrev mX10_is : MD := (yX10_is, cX10_is, 4, (some .boolean))
abbrev mX10_value : MD := (yX10_value, cX10_value, 4, (some .long))
abbrev mX10_error : MD := (yX10_error, cX10_error, 4, (some .int))
abbrev mX10_right : MD := (yX10_right, cX10_right, 4, (some .long))
abbrev mX10_rightError : MD := (yX10_rightError, cX10_rightError, 4, (some .int))
abbrev mX10_isAlike : MD := (yX10_isAlike, cX10_isAlike, 7, (some .boolean))
abbrev mX10_tries : MD := (yX10_tries, cX10_tries, 9, (some .boolean))
abbrev mX10_signOf : MD := (yX10_signOf, cX10_signOf, 1, (some .int))
abbrev mX10_beside : MD := (yX10_beside, cX10_beside, 2, (some .int))
abbrev mX10_slips : MD := (yX10_slips, cX10_slips, 9, (some .boolean))
abbrev mX10_isSlip : MD := (yX10_isSlip, cX10_isSlip, 6, (some .boolean))
abbrev mX10_kindOf : MD := (yX10_kindOf, cX10_kindOf, 5, (some .int))
abbrev mX10_isPupil : MD := (yX10_isPupil, cX10_isPupil, 1, (some .boolean))
abbrev mX10_kind : MD := (yX10_kind, cX10_kind, 3, (some .int))
abbrev mX10_pointsOf : MD := (yX10_pointsOf, cX10_pointsOf, 3, (some .int))
abbrev mX10_points : MD := (yX10_points, cX10_points, 5, (some .int))
abbrev mX10_slip : MD := (yX10_slip, cX10_slip, 4, (some .int))
abbrev mX10_fault : MD := (yX10_fault, cX10_fault, 6, (some .int))
abbrev mX10_areOneText : MD := (yX10_areOneText, cX10_areOneText, 4, (some .boolean))
abbrev mX10_copied : MD := (yX10_copied, cX10_copied, 6, (some .int))
abbrev mX10_comesTo : MD := (yX10_comesTo, cX10_comesTo, 9, (some .boolean))
abbrev mX10_look : MD := (yX10_look, cX10_look, 7, (some .int))
abbrev mX10_count : MD := (yX10_count, cX10_count, 4, (some .int))
abbrev mJ13_bitCount_95d88 : MD := (yJ13_bitCount_95d88, cJ13_bitCount_95d88, 2, (some .int))
abbrev mJ9_floorDiv_f86c9 : MD := (yJ9_floorDiv_f86c9, cJ9_floorDiv_f86c9, 6, (some .long))
abbrev mJ9_abs_067f4 : MD := (yJ9_abs_067f4, cJ9_abs_067f4, 2, (some .long))
abbrev mJ9_max_7cf53 : MD := (yJ9_max_7cf53, cJ9_max_7cf53, 2, (some .int))
abbrev mJ9_max_f86c9 : MD := (yJ9_max_f86c9, cJ9_max_f86c9, 4, (some .long))
abbrev mJ9_min_7cf53 : MD := (yJ9_min_7cf53, cJ9_min_7cf53, 2, (some .int))
theorem kiRX9 : Cond.initialized RX9 ∈ wsG := gT1 (List.mem_of_getElem? (i := 1) (by decide +kernel)) (by decide +kernel)
theorem kiRX0 : Cond.initialized RX0 ∈ wsG := gT1 (List.mem_of_getElem? (i := 5) (by decide +kernel)) (by decide +kernel)
theorem kiRX1 : Cond.initialized RX1 ∈ wsG := gT1 (List.mem_of_getElem? (i := 7) (by decide +kernel)) (by decide +kernel)
theorem kiRX2 : Cond.initialized RX2 ∈ wsG := gT1 (List.mem_of_getElem? (i := 10) (by decide +kernel)) (by decide +kernel)
theorem kiRX3 : Cond.initialized RX3 ∈ wsG := gT1 (List.mem_of_getElem? (i := 8) (by decide +kernel)) (by decide +kernel)
theorem kiRX4 : Cond.initialized RX4 ∈ wsG := gT1 (List.mem_of_getElem? (i := 3) (by decide +kernel)) (by decide +kernel)
theorem kiRX5 : Cond.initialized RX5 ∈ wsG := gT1 (List.mem_of_getElem? (i := 6) (by decide +kernel)) (by decide +kernel)
theorem kiRX6 : Cond.initialized RX6 ∈ wsG := gT1 (List.mem_of_getElem? (i := 12) (by decide +kernel)) (by decide +kernel)
theorem kiRX7 : Cond.initialized RX7 ∈ wsG := gT1 (List.mem_of_getElem? (i := 4) (by decide +kernel)) (by decide +kernel)
theorem kiRX8 : Cond.initialized RX8 ∈ wsG := gT1 (List.mem_of_getElem? (i := 2) (by decide +kernel)) (by decide +kernel)
theorem kiRX10 : Cond.initialized RX10 ∈ wsG := gT1 (List.mem_of_getElem? (i := 9) (by decide +kernel)) (by decide +kernel)
theorem kiRJ13 : Cond.initialized RJ13 ∈ wsG := gT1 (List.mem_of_getElem? (i := 13) (by decide +kernel)) (by decide +kernel)
theorem kiRJ9 : Cond.initialized RJ9 ∈ wsG := gT1 (List.mem_of_getElem? (i := 11) (by decide +kernel)) (by decide +kernel)
theorem kcX0_init : MFc mX0_init 0 := ⟨gT1 (List.mem_of_getElem? (i := 69) rfl) rfl, kiRX0, by decide +kernel, by decide +kernel, by decide, by decide +kernel⟩
theorem kpX0_init : MFi mX0_init 0 := ⟨gT1 (List.mem_of_getElem? (i := 68) (by decide +kernel)) (by decide +kernel), rfl, rfl, kcX0_init⟩
theorem kcX0_set : MFc mX0_set 2 := ⟨gT3 (List.mem_of_getElem? (i := 228) rfl) rfl, kiRX0, by decide +kernel, by decide +kernel, by decide, by decide +kernel⟩
theorem kpX0_set : MFv mX0_set 2 := ⟨gT3 (List.mem_of_getElem? (i := 226) (by decide +kernel)) (by decide +kernel), gT3 (List.mem_of_getElem? (i := 227) (by decide +kernel)) (by decide +kernel), kcX0_set⟩
theorem kcX0_stepOf : MFc mX0_stepOf 2 := ⟨gT3 (List.mem_of_getElem? (i := 77) rfl) rfl, kiRX0, by decide +kernel, by decide +kernel, by decide, by decide +kernel⟩
theorem kpX0_stepOf : MFv mX0_stepOf 2 := ⟨gT3 (List.mem_of_getElem? (i := 75) (by decide +kernel)) (by decide +kernel), gT3 (List.mem_of_getElem? (i := 76) (by decide +kernel)) (by decide +kernel), kcX0_stepOf⟩
theorem kcX0_operandOf : MFc mX0_operandOf 2 := ⟨gT2 (List.mem_of_getElem? (i := 149) rfl) rfl, kiRX0, by decide +kernel, by decide +kernel, by decide, by decide +kernel⟩
theorem kpX0_operandOf : MFv mX0_operandOf 2 := ⟨gT2 (List.mem_of_getElem? (i := 147) (by decide +kernel)) (by decide +kernel), gT2 (List.mem_of_getElem? (i := 148) (by decide +kernel)) (by decide +kernel), kcX0_operandOf⟩
theorem kcX1_init : MFc mX1_init 2 := ⟨gT1 (List.mem_of_getElem? (i := 123) rfl) rfl, kiRX1, by decide +kernel, by decide +kernel, by decide, by decide +kernel⟩
theorem kpX1_init : MFi mX1_init 2 := ⟨gT1 (List.mem_of_getElem? (i := 122) (by decide +kernel)) (by decide +kernel), rfl, rfl, kcX1_init⟩
theorem kcX1_figureAt : MFc mX1_figureAt 2 := ⟨gT3 (List.mem_of_getElem? (i := 99) rfl) rfl, kiRX1, by decide +kernel, by decide +kernel, by decide, by decide +kernel⟩
theorem kpX1_figureAt : MFv mX1_figureAt 2 := ⟨gT3 (List.mem_of_getElem? (i := 97) (by decide +kernel)) (by decide +kernel), gT3 (List.mem_of_getElem? (i := 98) (by decide +kernel)) (by decide +kernel), kcX1_figureAt⟩
theorem kcX1_errorAt : MFc mX1_errorAt 2 := ⟨gT3 (List.mem_of_getElem? (i := 95) rfl) rfl, kiRX1, by decide +kernel, by decide +kernel, by decide, by decide +kernel⟩
theorem kpX1_errorAt : MFv mX1_errorAt 2 := ⟨gT3 (List.mem_of_getElem? (i := 93) (by decide +kernel)) (by decide +kernel), gT3 (List.mem_of_getElem? (i := 94) (by decide +kernel)) (by decide +kernel), kcX1_errorAt⟩
theorem kcX1_isAlike : MFc mX1_isAlike 3 := ⟨gT3 (List.mem_of_getElem? (i := 199) rfl) rfl, kiRX1, by decide +kernel, by decide +kernel, by decide, by decide +kernel⟩
theorem kpX1_isAlike : MFv mX1_isAlike 3 := ⟨gT3 (List.mem_of_getElem? (i := 197) (by decide +kernel)) (by decide +kernel), gT3 (List.mem_of_getElem? (i := 198) (by decide +kernel)) (by decide +kernel), kcX1_isAlike⟩
theorem kcX1_settles : MFc mX1_settles 1 := ⟨gT3 (List.mem_of_getElem? (i := 32) rfl) rfl, kiRX1, by decide +kernel, by decide +kernel, by decide, by decide +kernel⟩
theorem kpX1_settles : MFv mX1_settles 1 := ⟨gT3 (List.mem_of_getElem? (i := 30) (by decide +kernel)) (by decide +kernel), gT3 (List.mem_of_getElem? (i := 31) (by decide +kernel)) (by decide +kernel), kcX1_settles⟩
theorem kcX1_reckonOwn : MFc mX1_reckonOwn 1 := ⟨gT3 (List.mem_of_getElem? (i := 10) rfl) rfl, kiRX1, by decide +kernel, by decide +kernel, by decide, by decide +kernel⟩
theorem kpX1_reckonOwn : MFv mX1_reckonOwn 1 := ⟨gT3 (List.mem_of_getElem? (i := 8) (by decide +kernel)) (by decide +kernel), gT3 (List.mem_of_getElem? (i := 9) (by decide +kernel)) (by decide +kernel), kcX1_reckonOwn⟩
theorem kcX1_reckonRight : MFc mX1_reckonRight 3 := ⟨gT3 (List.mem_of_getElem? (i := 157) rfl) rfl, kiRX1, by decide +kernel, by decide +kernel, by decide, by decide +kernel⟩
theorem kpX1_reckonRight : MFv mX1_reckonRight 3 := ⟨gT3 (List.mem_of_getElem? (i := 155) (by decide +kernel)) (by decide +kernel), gT3 (List.mem_of_getElem? (i := 156) (by decide +kernel)) (by decide +kernel), kcX1_reckonRight⟩
theorem kcX1_plan : MFc mX1_plan 3 := ⟨gT3 (List.mem_of_getElem? (i := 23) rfl) rfl, kiRX1, by decide +kernel, by decide +kernel, by decide, by decide +kernel⟩
theorem kpX1_plan : MFv mX1_plan 3 := ⟨gT3 (List.mem_of_getElem? (i := 22) (by decide +kernel)) (by decide +kernel), gSl (q := (yX1_plan, 8)) (List.mem_append_left _ (List.mem_of_getElem? (i := 15) (by decide +kernel))), kcX1_plan⟩
theorem kcX1_append : MFc mX1_append 1 := ⟨gT3 (List.mem_of_getElem? (i := 36) rfl) rfl, kiRX1, by decide +kernel, by decide +kernel, by decide, by decide +kernel⟩
theorem kpX1_append : MFv mX1_append 1 := ⟨gT3 (List.mem_of_getElem? (i := 35) (by decide +kernel)) (by decide +kernel), gSl (q := (yX1_append, 8)) (List.mem_append_right _ (List.mem_append_left _ (List.mem_of_getElem? (i := 0) (by decide +kernel)))), kcX1_append⟩
theorem kcX1_layHeld : MFc mX1_layHeld 2 := ⟨gT3 (List.mem_of_getElem? (i := 41) rfl) rfl, kiRX1, by decide +kernel, by decide +kernel, by decide, by decide +kernel⟩
theorem kpX1_layHeld : MFv mX1_layHeld 2 := ⟨gT3 (List.mem_of_getElem? (i := 40) (by decide +kernel)) (by decide +kernel), gSl (q := (yX1_layHeld, 8)) (List.mem_append_right _ (List.mem_append_left _ (List.mem_of_getElem? (i := 1) (by decide +kernel)))), kcX1_layHeld⟩
theorem kcX1_layLent : MFc mX1_layLent 3 := ⟨gT3 (List.mem_of_getElem? (i := 165) rfl) rfl, kiRX1, by decide +kernel, by decide +kernel, by decide, by decide +kernel⟩
theorem kpX1_layLent : MFv mX1_layLent 3 := ⟨gT3 (List.mem_of_getElem? (i := 164) (by decide +kernel)) (by decide +kernel), gSl (q := (yX1_layLent, 8)) (List.mem_append_right _ (List.mem_append_left _ (List.mem_of_getElem? (i := 12) (by decide +kernel)))), kcX1_layLent⟩
theorem kcX1_follow : MFc mX1_follow 2 := ⟨gT3 (List.mem_of_getElem? (i := 59) rfl) rfl, kiRX1, by decide +kernel, by decide +kernel, by decide, by decide +kernel⟩
theorem kpX1_follow : MFv mX1_follow 2 := ⟨gT3 (List.mem_of_getElem? (i := 58) (by decide +kernel)) (by decide +kernel), gSl (q := (yX1_follow, 8)) (List.mem_append_right _ (List.mem_append_left _ (List.mem_of_getElem? (i := 3) (by decide +kernel)))), kcX1_follow⟩
theorem kcX1_put : MFc mX1_put 4 := ⟨gT3 (List.mem_of_getElem? (i := 50) rfl) rfl, kiRX1, by decide +kernel, by decide +kernel, by decide, by decide +kernel⟩
theorem kpX1_put : MFv mX1_put 4 := ⟨gT3 (List.mem_of_getElem? (i := 49) (by decide +kernel)) (by decide +kernel), gSl (q := (yX1_put, 8)) (List.mem_append_right _ (List.mem_append_left _ (List.mem_of_getElem? (i := 2) (by decide +kernel)))), kcX1_put⟩
theorem kcX2_init : MFc mX2_init 1 := ⟨gT2 (List.mem_of_getElem? (i := 18) rfl) rfl, kiRX2, by decide +kernel, by decide +kernel, by decide, by decide +kernel⟩
theorem kpX2_init : MFi mX2_init 1 := ⟨gT2 (List.mem_of_getElem? (i := 17) (by decide +kernel)) (by decide +kernel), rfl, rfl, kcX2_init⟩
theorem kcX2_length : MFc mX2_length 0 := ⟨gT2 (List.mem_of_getElem? (i := 129) rfl) rfl, kiRX2, by decide +kernel, by decide +kernel, by decide, by decide +kernel⟩
theorem kpX2_length : MFv mX2_length 0 := ⟨gT2 (List.mem_of_getElem? (i := 127) (by decide +kernel)) (by decide +kernel), gT2 (List.mem_of_getElem? (i := 128) (by decide +kernel)) (by decide +kernel), kcX2_length⟩
theorem kcX2_byteAt : MFc mX2_byteAt 1 := ⟨gT2 (List.mem_of_getElem? (i := 82) rfl) rfl, kiRX2, by decide +kernel, by decide +kernel, by decide, by decide +kernel⟩
theorem kpX2_byteAt : MFv mX2_byteAt 1 := ⟨gT2 (List.mem_of_getElem? (i := 80) (by decide +kernel)) (by decide +kernel), gT2 (List.mem_of_getElem? (i := 81) (by decide +kernel)) (by decide +kernel), kcX2_byteAt⟩
theorem kcX2_putByte : MFc mX2_putByte 2 := ⟨gT2 (List.mem_of_getElem? (i := 46) rfl) rfl, kiRX2, by decide +kernel, by decide +kernel, by decide, by decide +kernel⟩
theorem kpX2_putByte : MFv mX2_putByte 2 := ⟨gT2 (List.mem_of_getElem? (i := 44) (by decide +kernel)) (by decide +kernel), gT2 (List.mem_of_getElem? (i := 45) (by decide +kernel)) (by decide +kernel), kcX2_putByte⟩
theorem kcX2_hasTextOf : MFc mX2_hasTextOf 1 := ⟨gT4 (List.mem_of_getElem? (i := 38) rfl) rfl, kiRX2, by decide +kernel, by decide +kernel, by decide, by decide +kernel⟩
theorem kpX2_hasTextOf : MFv mX2_hasTextOf 1 := ⟨gT4 (List.mem_of_getElem? (i := 36) (by decide +kernel)) (by decide +kernel), gT4 (List.mem_of_getElem? (i := 37) (by decide +kernel)) (by decide +kernel), kcX2_hasTextOf⟩
theorem kcX2_addStep : MFc mX2_addStep 3 := ⟨gT2 (List.mem_of_getElem? (i := 106) rfl) rfl, kiRX2, by decide +kernel, by decide +kernel, by decide, by decide +kernel⟩
theorem kpX2_addStep : MFv mX2_addStep 3 := ⟨gT2 (List.mem_of_getElem? (i := 104) (by decide +kernel)) (by decide +kernel), gT2 (List.mem_of_getElem? (i := 105) (by decide +kernel)) (by decide +kernel), kcX2_addStep⟩
theorem kcX2_countSteps : MFc mX2_countSteps 0 := ⟨gT3 (List.mem_of_getElem? (i := 71) rfl) rfl, kiRX2, by decide +kernel, by decide +kernel, by decide, by decide +kernel⟩
theorem kpX2_countSteps : MFv mX2_countSteps 0 := ⟨gT3 (List.mem_of_getElem? (i := 69) (by decide +kernel)) (by decide +kernel), gT3 (List.mem_of_getElem? (i := 70) (by decide +kernel)) (by decide +kernel), kcX2_countSteps⟩
theorem kcX2_placeOf : MFc mX2_placeOf 1 := ⟨gT2 (List.mem_of_getElem? (i := 141) rfl) rfl, kiRX2, by decide +kernel, by decide +kernel, by decide, by decide +kernel⟩
theorem kpX2_placeOf : MFv mX2_placeOf 1 := ⟨gT2 (List.mem_of_getElem? (i := 139) (by decide +kernel)) (by decide +kernel), gT2 (List.mem_of_getElem? (i := 140) (by decide +kernel)) (by decide +kernel), kcX2_placeOf⟩
theorem kcX2_stepAt : MFc mX2_stepAt 1 := ⟨gT2 (List.mem_of_getElem? (i := 145) rfl) rfl, kiRX2, by decide +kernel, by decide +kernel, by decide, by decide +kernel⟩
theorem kpX2_stepAt : MFv mX2_stepAt 1 := ⟨gT2 (List.mem_of_getElem? (i := 143) (by decide +kernel)) (by decide +kernel), gT2 (List.mem_of_getElem? (i := 144) (by decide +kernel)) (by decide +kernel), kcX2_stepAt⟩
theorem kcX2_operandAt : MFc mX2_operandAt 1 := ⟨gT2 (List.mem_of_getElem? (i := 153) rfl) rfl, kiRX2, by decide +kernel, by decide +kernel, by decide, by decide +kernel⟩
theorem kpX2_operandAt : MFv mX2_operandAt 1 := ⟨gT2 (List.mem_of_getElem? (i := 151) (by decide +kernel)) (by decide +kernel), gT2 (List.mem_of_getElem? (i := 152) (by decide +kernel)) (by decide +kernel), kcX2_operandAt⟩
theorem kcX2_needs : MFc mX2_needs 1 := ⟨gT2 (List.mem_of_getElem? (i := 137) rfl) rfl, kiRX2, by decide +kernel, by decide +kernel, by decide, by decide +kernel⟩
theorem kpX2_needs : MFv mX2_needs 1 := ⟨gT2 (List.mem_of_getElem? (i := 135) (by decide +kernel)) (by decide +kernel), gT2 (List.mem_of_getElem? (i := 136) (by decide +kernel)) (by decide +kernel), kcX2_needs⟩
theorem kcX3_init : MFc mX3_init 5 := ⟨gT1 (List.mem_of_getElem? (i := 156) rfl) rfl, kiRX3, by decide +kernel, by decide +kernel, by decide, by decide +kernel⟩
theorem kpX3_init : MFi mX3_init 5 := ⟨gT1 (List.mem_of_getElem? (i := 155) (by decide +kernel)) (by decide +kernel), rfl, rfl, kcX3_init⟩
theorem kcX3_slipPlace : MFc mX3_slipPlace 0 := ⟨gT4 (List.mem_of_getElem? (i := 14) rfl) rfl, kiRX3, by decide +kernel, by decide +kernel, by decide, by decide +kernel⟩
theorem kpX3_slipPlace : MFv mX3_slipPlace 0 := ⟨gT4 (List.mem_of_getElem? (i := 12) (by decide +kernel)) (by decide +kernel), gT4 (List.mem_of_getElem? (i := 13) (by decide +kernel)) (by decide +kernel), kcX3_slipPlace⟩
theorem kcX3_slipMade : MFc mX3_slipMade 0 := ⟨gT4 (List.mem_of_getElem? (i := 18) rfl) rfl, kiRX3, by decide +kernel, by decide +kernel, by decide, by decide +kernel⟩
theorem kpX3_slipMade : MFv mX3_slipMade 0 := ⟨gT4 (List.mem_of_getElem? (i := 16) (by decide +kernel)) (by decide +kernel), gT4 (List.mem_of_getElem? (i := 17) (by decide +kernel)) (by decide +kernel), kcX3_slipMade⟩
theorem kcX3_open : MFc mX3_open 2 := ⟨gT3 (List.mem_of_getElem? (i := 183) rfl) rfl, kiRX3, by decide +kernel, by decide +kernel, by decide, by decide +kernel⟩
theorem kpX3_open : MFv mX3_open 2 := ⟨gT3 (List.mem_of_getElem? (i := 181) (by decide +kernel)) (by decide +kernel), gT3 (List.mem_of_getElem? (i := 182) (by decide +kernel)) (by decide +kernel), kcX3_open⟩
theorem kcX3_judge : MFc mX3_judge 2 := ⟨gT3 (List.mem_of_getElem? (i := 188) rfl) rfl, kiRX3, by decide +kernel, by decide +kernel, by decide, by decide +kernel⟩
theorem kpX3_judge : MFv mX3_judge 2 := ⟨gT3 (List.mem_of_getElem? (i := 186) (by decide +kernel)) (by decide +kernel), gT3 (List.mem_of_getElem? (i := 187) (by decide +kernel)) (by decide +kernel), kcX3_judge⟩
theorem kcX3_judgeNumber : MFc mX3_judgeNumber 2 := ⟨gT3 (List.mem_of_getElem? (i := 193) rfl) rfl, kiRX3, by decide +kernel, by decide +kernel, by decide, by decide +kernel⟩
theorem kpX3_judgeNumber : MFv mX3_judgeNumber 2 := ⟨gT3 (List.mem_of_getElem? (i := 192) (by decide +kernel)) (by decide +kernel), gSl (q := (yX3_judgeNumber, 8)) (List.mem_append_right _ (List.mem_append_left _ (List.mem_of_getElem? (i := 14) (by decide +kernel)))), kcX3_judgeNumber⟩
theorem kcX3_isAlike : MFc mX3_isAlike 2 := ⟨gT3 (List.mem_of_getElem? (i := 203) rfl) rfl, kiRX3, by decide +kernel, by decide +kernel, by decide, by decide +kernel⟩
theorem kpX3_isAlike : MFv mX3_isAlike 2 := ⟨gT3 (List.mem_of_getElem? (i := 202) (by decide +kernel)) (by decide +kernel), gSl (q := (yX3_isAlike, 8)) (List.mem_append_right _ (List.mem_append_left _ (List.mem_of_getElem? (i := 15) (by decide +kernel)))), kcX3_isAlike⟩
theorem kcX3_findsSlip : MFc mX3_findsSlip 2 := ⟨gT3 (List.mem_of_getElem? (i := 208) rfl) rfl, kiRX3, by decide +kernel, by decide +kernel, by decide, by decide +kernel⟩
theorem kpX3_findsSlip : MFv mX3_findsSlip 2 := ⟨gT3 (List.mem_of_getElem? (i := 207) (by decide +kernel)) (by decide +kernel), gSl (q := (yX3_findsSlip, 8)) (List.mem_append_right _ (List.mem_append_right _ (List.mem_append_left _ (List.mem_of_getElem? (i := 0) (by decide +kernel))))), kcX3_findsSlip⟩
theorem kcX3_isSoChanged : MFc mX3_isSoChanged 4 := ⟨gT3 (List.mem_of_getElem? (i := 224) rfl) rfl, kiRX3, by decide +kernel, by decide +kernel, by decide, by decide +kernel⟩
theorem kpX3_isSoChanged : MFv mX3_isSoChanged 4 := ⟨gT3 (List.mem_of_getElem? (i := 223) (by decide +kernel)) (by decide +kernel), gSl (q := (yX3_isSoChanged, 8)) (List.mem_append_right _ (List.mem_append_right _ (List.mem_append_left _ (List.mem_of_getElem? (i := 1) (by decide +kernel))))), kcX3_isSoChanged⟩
theorem kcX3_option : MFc mX3_option 3 := ⟨gT3 (List.mem_of_getElem? (i := 213) rfl) rfl, kiRX3, by decide +kernel, by decide +kernel, by decide, by decide +kernel⟩
theorem kpX3_option : MFs mX3_option 3 := ⟨gT3 (List.mem_of_getElem? (i := 212) (by decide +kernel)) (by decide +kernel), kcX3_option⟩
theorem kcX3_neighbour : MFc mX3_neighbour 2 := ⟨gT3 (List.mem_of_getElem? (i := 220) rfl) rfl, kiRX3, by decide +kernel, by decide +kernel, by decide, by decide +kernel⟩
theorem kpX3_neighbour : MFs mX3_neighbour 2 := ⟨gT3 (List.mem_of_getElem? (i := 219) (by decide +kernel)) (by decide +kernel), kcX3_neighbour⟩
theorem kcX4_init : MFc mX4_init 0 := ⟨gT1 (List.mem_of_getElem? (i := 40) rfl) rfl, kiRX4, by decide +kernel, by decide +kernel, by decide, by decide +kernel⟩
theorem kpX4_init : MFi mX4_init 0 := ⟨gT1 (List.mem_of_getElem? (i := 39) (by decide +kernel)) (by decide +kernel), rfl, rfl, kcX4_init⟩
theorem kcX4_inputs : MFc mX4_inputs 0 := ⟨gT3 (List.mem_of_getElem? (i := 14) rfl) rfl, kiRX4, by decide +kernel, by decide +kernel, by decide, by decide +kernel⟩
theorem kpX4_inputs : MFv mX4_inputs 0 := ⟨gT3 (List.mem_of_getElem? (i := 12) (by decide +kernel)) (by decide +kernel), gT3 (List.mem_of_getElem? (i := 13) (by decide +kernel)) (by decide +kernel), kcX4_inputs⟩
theorem kcX4_wanted : MFc mX4_wanted 0 := ⟨gT3 (List.mem_of_getElem? (i := 161) rfl) rfl, kiRX4, by decide +kernel, by decide +kernel, by decide, by decide +kernel⟩
theorem kpX4_wanted : MFv mX4_wanted 0 := ⟨gT3 (List.mem_of_getElem? (i := 159) (by decide +kernel)) (by decide +kernel), gT3 (List.mem_of_getElem? (i := 160) (by decide +kernel)) (by decide +kernel), kcX4_wanted⟩
theorem kcX4_isInput : MFc mX4_isInput 1 := ⟨gT2 (List.mem_of_getElem? (i := 181) rfl) rfl, kiRX4, by decide +kernel, by decide +kernel, by decide, by decide +kernel⟩
theorem kpX4_isInput : MFv mX4_isInput 1 := ⟨gT2 (List.mem_of_getElem? (i := 179) (by decide +kernel)) (by decide +kernel), gT2 (List.mem_of_getElem? (i := 180) (by decide +kernel)) (by decide +kernel), kcX4_isInput⟩
theorem kcX4_isWanted : MFc mX4_isWanted 1 := ⟨gT2 (List.mem_of_getElem? (i := 186) rfl) rfl, kiRX4, by decide +kernel, by decide +kernel, by decide, by decide +kernel⟩
theorem kpX4_isWanted : MFv mX4_isWanted 1 := ⟨gT2 (List.mem_of_getElem? (i := 184) (by decide +kernel)) (by decide +kernel), gT2 (List.mem_of_getElem? (i := 185) (by decide +kernel)) (by decide +kernel), kcX4_isWanted⟩
theorem kcX4_isWorld : MFc mX4_isWorld 1 := ⟨gT2 (List.mem_of_getElem? (i := 233) rfl) rfl, kiRX4, by decide +kernel, by decide +kernel, by decide, by decide +kernel⟩
theorem kpX4_isWorld : MFv mX4_isWorld 1 := ⟨gT2 (List.mem_of_getElem? (i := 231) (by decide +kernel)) (by decide +kernel), gT2 (List.mem_of_getElem? (i := 232) (by decide +kernel)) (by decide +kernel), kcX4_isWorld⟩
theorem kcX4_countInputs : MFc mX4_countInputs 0 := ⟨gT2 (List.mem_of_getElem? (i := 190) rfl) rfl, kiRX4, by decide +kernel, by decide +kernel, by decide, by decide +kernel⟩
theorem kpX4_countInputs : MFv mX4_countInputs 0 := ⟨gT2 (List.mem_of_getElem? (i := 188) (by decide +kernel)) (by decide +kernel), gT2 (List.mem_of_getElem? (i := 189) (by decide +kernel)) (by decide +kernel), kcX4_countInputs⟩
theorem kcX4_countWanted : MFc mX4_countWanted 0 := ⟨gT2 (List.mem_of_getElem? (i := 208) rfl) rfl, kiRX4, by decide +kernel, by decide +kernel, by decide, by decide +kernel⟩
theorem kpX4_countWanted : MFv mX4_countWanted 0 := ⟨gT2 (List.mem_of_getElem? (i := 206) (by decide +kernel)) (by decide +kernel), gT2 (List.mem_of_getElem? (i := 207) (by decide +kernel)) (by decide +kernel), kcX4_countWanted⟩
theorem kcX4_countWorlds : MFc mX4_countWorlds 0 := ⟨gT2 (List.mem_of_getElem? (i := 221) rfl) rfl, kiRX4, by decide +kernel, by decide +kernel, by decide, by decide +kernel⟩
theorem kpX4_countWorlds : MFv mX4_countWorlds 0 := ⟨gT2 (List.mem_of_getElem? (i := 219) (by decide +kernel)) (by decide +kernel), gT2 (List.mem_of_getElem? (i := 220) (by decide +kernel)) (by decide +kernel), kcX4_countWorlds⟩
theorem kcX4_worth : MFc mX4_worth 1 := ⟨gT4 (List.mem_of_getElem? (i := 3) rfl) rfl, kiRX4, by decide +kernel, by decide +kernel, by decide, by decide +kernel⟩
theorem kpX4_worth : MFv mX4_worth 1 := ⟨gT4 (List.mem_of_getElem? (i := 1) (by decide +kernel)) (by decide +kernel), gT4 (List.mem_of_getElem? (i := 2) (by decide +kernel)) (by decide +kernel), kcX4_worth⟩
theorem kcX4_worthOfAll : MFc mX4_worthOfAll 0 := ⟨gT4 (List.mem_of_getElem? (i := 62) rfl) rfl, kiRX4, by decide +kernel, by decide +kernel, by decide, by decide +kernel⟩
theorem kpX4_worthOfAll : MFv mX4_worthOfAll 0 := ⟨gT4 (List.mem_of_getElem? (i := 60) (by decide +kernel)) (by decide +kernel), gT4 (List.mem_of_getElem? (i := 61) (by decide +kernel)) (by decide +kernel), kcX4_worthOfAll⟩
theorem kcX4_given : MFc mX4_given 2 := ⟨gT3 (List.mem_of_getElem? (i := 46) rfl) rfl, kiRX4, by decide +kernel, by decide +kernel, by decide, by decide +kernel⟩
theorem kpX4_given : MFv mX4_given 2 := ⟨gT3 (List.mem_of_getElem? (i := 44) (by decide +kernel)) (by decide +kernel), gT3 (List.mem_of_getElem? (i := 45) (by decide +kernel)) (by decide +kernel), kcX4_given⟩
theorem kcX4_addInput : MFc mX4_addInput 1 := ⟨gT2 (List.mem_of_getElem? (i := 200) rfl) rfl, kiRX4, by decide +kernel, by decide +kernel, by decide, by decide +kernel⟩
theorem kpX4_addInput : MFv mX4_addInput 1 := ⟨gT2 (List.mem_of_getElem? (i := 198) (by decide +kernel)) (by decide +kernel), gT2 (List.mem_of_getElem? (i := 199) (by decide +kernel)) (by decide +kernel), kcX4_addInput⟩
theorem kcX4_want : MFc mX4_want 2 := ⟨gT2 (List.mem_of_getElem? (i := 212) rfl) rfl, kiRX4, by decide +kernel, by decide +kernel, by decide, by decide +kernel⟩
theorem kpX4_want : MFv mX4_want 2 := ⟨gT2 (List.mem_of_getElem? (i := 210) (by decide +kernel)) (by decide +kernel), gT2 (List.mem_of_getElem? (i := 211) (by decide +kernel)) (by decide +kernel), kcX4_want⟩
theorem kcX4_addWorld : MFc mX4_addWorld 0 := ⟨gT2 (List.mem_of_getElem? (i := 225) rfl) rfl, kiRX4, by decide +kernel, by decide +kernel, by decide, by decide +kernel⟩
theorem kpX4_addWorld : MFv mX4_addWorld 0 := ⟨gT2 (List.mem_of_getElem? (i := 223) (by decide +kernel)) (by decide +kernel), gT2 (List.mem_of_getElem? (i := 224) (by decide +kernel)) (by decide +kernel), kcX4_addWorld⟩
theorem kcX4_put : MFc mX4_put 3 := ⟨gT2 (List.mem_of_getElem? (i := 237) rfl) rfl, kiRX4, by decide +kernel, by decide +kernel, by decide, by decide +kernel⟩
theorem kpX4_put : MFv mX4_put 3 := ⟨gT2 (List.mem_of_getElem? (i := 235) (by decide +kernel)) (by decide +kernel), gT2 (List.mem_of_getElem? (i := 236) (by decide +kernel)) (by decide +kernel), kcX4_put⟩
theorem kcX5_init : MFc mX5_init 0 := ⟨gT1 (List.mem_of_getElem? (i := 104) rfl) rfl, kiRX5, by decide +kernel, by decide +kernel, by decide, by decide +kernel⟩
theorem kpX5_init : MFi mX5_init 0 := ⟨gT1 (List.mem_of_getElem? (i := 103) (by decide +kernel)) (by decide +kernel), rfl, rfl, kcX5_init⟩
theorem kcX5_errorMet : MFc mX5_errorMet 0 := ⟨gT3 (List.mem_of_getElem? (i := 138) rfl) rfl, kiRX5, by decide +kernel, by decide +kernel, by decide, by decide +kernel⟩
theorem kpX5_errorMet : MFv mX5_errorMet 0 := ⟨gT3 (List.mem_of_getElem? (i := 136) (by decide +kernel)) (by decide +kernel), gT3 (List.mem_of_getElem? (i := 137) (by decide +kernel)) (by decide +kernel), kcX5_errorMet⟩
theorem kcX5_result : MFc mX5_result 0 := ⟨gT3 (List.mem_of_getElem? (i := 134) rfl) rfl, kiRX5, by decide +kernel, by decide +kernel, by decide, by decide +kernel⟩
theorem kpX5_result : MFv mX5_result 0 := ⟨gT3 (List.mem_of_getElem? (i := 132) (by decide +kernel)) (by decide +kernel), gT3 (List.mem_of_getElem? (i := 133) (by decide +kernel)) (by decide +kernel), kcX5_result⟩
theorem kcX5_reckon : MFc mX5_reckon 4 := ⟨gT3 (List.mem_of_getElem? (i := 67) rfl) rfl, kiRX5, by decide +kernel, by decide +kernel, by decide, by decide +kernel⟩
theorem kpX5_reckon : MFv mX5_reckon 4 := ⟨gT3 (List.mem_of_getElem? (i := 65) (by decide +kernel)) (by decide +kernel), gT3 (List.mem_of_getElem? (i := 66) (by decide +kernel)) (by decide +kernel), kcX5_reckon⟩
theorem kcX5_push : MFc mX5_push 1 := ⟨gT3 (List.mem_of_getElem? (i := 85) rfl) rfl, kiRX5, by decide +kernel, by decide +kernel, by decide, by decide +kernel⟩
theorem kpX5_push : MFv mX5_push 1 := ⟨gT3 (List.mem_of_getElem? (i := 84) (by decide +kernel)) (by decide +kernel), gSl (q := (yX5_push, 4)) (List.mem_append_right _ (List.mem_append_left _ (List.mem_of_getElem? (i := 4) (by decide +kernel)))), kcX5_push⟩
theorem kcX5_pop : MFc mX5_pop 0 := ⟨gT3 (List.mem_of_getElem? (i := 103) rfl) rfl, kiRX5, by decide +kernel, by decide +kernel, by decide, by decide +kernel⟩
theorem kpX5_pop : MFv mX5_pop 0 := ⟨gT3 (List.mem_of_getElem? (i := 102) (by decide +kernel)) (by decide +kernel), gSl (q := (yX5_pop, 4)) (List.mem_append_right _ (List.mem_append_left _ (List.mem_of_getElem? (i := 6) (by decide +kernel)))), kcX5_pop⟩
theorem kcX5_pushCell : MFc mX5_pushCell 3 := ⟨gT3 (List.mem_of_getElem? (i := 91) rfl) rfl, kiRX5, by decide +kernel, by decide +kernel, by decide, by decide +kernel⟩
theorem kpX5_pushCell : MFv mX5_pushCell 3 := ⟨gT3 (List.mem_of_getElem? (i := 90) (by decide +kernel)) (by decide +kernel), gSl (q := (yX5_pushCell, 4)) (List.mem_append_right _ (List.mem_append_left _ (List.mem_of_getElem? (i := 5) (by decide +kernel)))), kcX5_pushCell⟩
theorem kcX5_pushRectangle : MFc mX5_pushRectangle 2 := ⟨gT3 (List.mem_of_getElem? (i := 107) rfl) rfl, kiRX5, by decide +kernel, by decide +kernel, by decide, by decide +kernel⟩
theorem kpX5_pushRectangle : MFv mX5_pushRectangle 2 := ⟨gT3 (List.mem_of_getElem? (i := 106) (by decide +kernel)) (by decide +kernel), gSl (q := (yX5_pushRectangle, 4)) (List.mem_append_right _ (List.mem_append_left _ (List.mem_of_getElem? (i := 7) (by decide +kernel)))), kcX5_pushRectangle⟩
theorem kcX5_join : MFc mX5_join 1 := ⟨gT3 (List.mem_of_getElem? (i := 113) rfl) rfl, kiRX5, by decide +kernel, by decide +kernel, by decide, by decide +kernel⟩
theorem kpX5_join : MFv mX5_join 1 := ⟨gT3 (List.mem_of_getElem? (i := 112) (by decide +kernel)) (by decide +kernel), gSl (q := (yX5_join, 4)) (List.mem_append_right _ (List.mem_append_left _ (List.mem_of_getElem? (i := 8) (by decide +kernel)))), kcX5_join⟩
theorem kcX5_multiply : MFc mX5_multiply 2 := ⟨gT3 (List.mem_of_getElem? (i := 117) rfl) rfl, kiRX5, by decide +kernel, by decide +kernel, by decide, by decide +kernel⟩
theorem kpX5_multiply : MFv mX5_multiply 2 := ⟨gT3 (List.mem_of_getElem? (i := 116) (by decide +kernel)) (by decide +kernel), gSl (q := (yX5_multiply, 4)) (List.mem_append_right _ (List.mem_append_left _ (List.mem_of_getElem? (i := 9) (by decide +kernel)))), kcX5_multiply⟩
theorem kcX5_divide : MFc mX5_divide 2 := ⟨gT3 (List.mem_of_getElem? (i := 124) rfl) rfl, kiRX5, by decide +kernel, by decide +kernel, by decide, by decide +kernel⟩
theorem kpX5_divide : MFv mX5_divide 2 := ⟨gT3 (List.mem_of_getElem? (i := 123) (by decide +kernel)) (by decide +kernel), gSl (q := (yX5_divide, 4)) (List.mem_append_right _ (List.mem_append_left _ (List.mem_of_getElem? (i := 10) (by decide +kernel)))), kcX5_divide⟩
theorem kcX6_init : MFc mX6_init 1 := ⟨gT2 (List.mem_of_getElem? (i := 51) rfl) rfl, kiRX6, by decide +kernel, by decide +kernel, by decide, by decide +kernel⟩
theorem kpX6_init : MFi mX6_init 1 := ⟨gT2 (List.mem_of_getElem? (i := 50) (by decide +kernel)) (by decide +kernel), rfl, rfl, kcX6_init⟩
theorem kcX6_parse : MFc mX6_parse 0 := ⟨gT2 (List.mem_of_getElem? (i := 66) rfl) rfl, kiRX6, by decide +kernel, by decide +kernel, by decide, by decide +kernel⟩
theorem kpX6_parse : MFv mX6_parse 0 := ⟨gT2 (List.mem_of_getElem? (i := 64) (by decide +kernel)) (by decide +kernel), gT2 (List.mem_of_getElem? (i := 65) (by decide +kernel)) (by decide +kernel), kcX6_parse⟩
theorem kcX6_next : MFc mX6_next 0 := ⟨gT2 (List.mem_of_getElem? (i := 78) rfl) rfl, kiRX6, by decide +kernel, by decide +kernel, by decide, by decide +kernel⟩
theorem kpX6_next : MFv mX6_next 0 := ⟨gT2 (List.mem_of_getElem? (i := 77) (by decide +kernel)) (by decide +kernel), gSl (q := (yX6_next, 3)) (List.mem_append_left _ (List.mem_of_getElem? (i := 4) (by decide +kernel))), kcX6_next⟩
theorem kcX6_fail : MFc mX6_fail 1 := ⟨gT2 (List.mem_of_getElem? (i := 86) rfl) rfl, kiRX6, by decide +kernel, by decide +kernel, by decide, by decide +kernel⟩
theorem kpX6_fail : MFv mX6_fail 1 := ⟨gT2 (List.mem_of_getElem? (i := 85) (by decide +kernel)) (by decide +kernel), gSl (q := (yX6_fail, 3)) (List.mem_append_left _ (List.mem_of_getElem? (i := 5) (by decide +kernel))), kcX6_fail⟩
theorem kcX6_pass : MFc mX6_pass 1 := ⟨gT2 (List.mem_of_getElem? (i := 70) rfl) rfl, kiRX6, by decide +kernel, by decide +kernel, by decide, by decide +kernel⟩
theorem kpX6_pass : MFv mX6_pass 1 := ⟨gT2 (List.mem_of_getElem? (i := 69) (by decide +kernel)) (by decide +kernel), gSl (q := (yX6_pass, 3)) (List.mem_append_left _ (List.mem_of_getElem? (i := 2) (by decide +kernel))), kcX6_pass⟩
theorem kcX6_passWithin : MFc mX6_passWithin 2 := ⟨gT2 (List.mem_of_getElem? (i := 74) rfl) rfl, kiRX6, by decide +kernel, by decide +kernel, by decide, by decide +kernel⟩
theorem kpX6_passWithin : MFv mX6_passWithin 2 := ⟨gT2 (List.mem_of_getElem? (i := 73) (by decide +kernel)) (by decide +kernel), gSl (q := (yX6_passWithin, 3)) (List.mem_append_left _ (List.mem_of_getElem? (i := 3) (by decide +kernel))), kcX6_passWithin⟩
theorem kcX6_readSum : MFc mX6_readSum 1 := ⟨gT2 (List.mem_of_getElem? (i := 90) rfl) rfl, kiRX6, by decide +kernel, by decide +kernel, by decide, by decide +kernel⟩
theorem kpX6_readSum : MFv mX6_readSum 1 := ⟨gT2 (List.mem_of_getElem? (i := 89) (by decide +kernel)) (by decide +kernel), gSl (q := (yX6_readSum, 3)) (List.mem_append_left _ (List.mem_of_getElem? (i := 6) (by decide +kernel))), kcX6_readSum⟩
theorem kcX6_readProduct : MFc mX6_readProduct 1 := ⟨gT2 (List.mem_of_getElem? (i := 94) rfl) rfl, kiRX6, by decide +kernel, by decide +kernel, by decide, by decide +kernel⟩
theorem kpX6_readProduct : MFv mX6_readProduct 1 := ⟨gT2 (List.mem_of_getElem? (i := 93) (by decide +kernel)) (by decide +kernel), gSl (q := (yX6_readProduct, 3)) (List.mem_append_left _ (List.mem_of_getElem? (i := 7) (by decide +kernel))), kcX6_readProduct⟩
theorem kcX6_readFactor : MFc mX6_readFactor 1 := ⟨gT2 (List.mem_of_getElem? (i := 98) rfl) rfl, kiRX6, by decide +kernel, by decide +kernel, by decide, by decide +kernel⟩
theorem kpX6_readFactor : MFv mX6_readFactor 1 := ⟨gT2 (List.mem_of_getElem? (i := 97) (by decide +kernel)) (by decide +kernel), gSl (q := (yX6_readFactor, 3)) (List.mem_append_left _ (List.mem_of_getElem? (i := 8) (by decide +kernel))), kcX6_readFactor⟩
theorem kcX6_readNegative : MFc mX6_readNegative 1 := ⟨gT2 (List.mem_of_getElem? (i := 102) rfl) rfl, kiRX6, by decide +kernel, by decide +kernel, by decide, by decide +kernel⟩
theorem kpX6_readNegative : MFv mX6_readNegative 1 := ⟨gT2 (List.mem_of_getElem? (i := 101) (by decide +kernel)) (by decide +kernel), gSl (q := (yX6_readNegative, 3)) (List.mem_append_left _ (List.mem_of_getElem? (i := 9) (by decide +kernel))), kcX6_readNegative⟩
theorem kcX6_readGreater : MFc mX6_readGreater 1 := ⟨gT2 (List.mem_of_getElem? (i := 118) rfl) rfl, kiRX6, by decide +kernel, by decide +kernel, by decide, by decide +kernel⟩
theorem kpX6_readGreater : MFv mX6_readGreater 1 := ⟨gT2 (List.mem_of_getElem? (i := 117) (by decide +kernel)) (by decide +kernel), gSl (q := (yX6_readGreater, 3)) (List.mem_append_left _ (List.mem_of_getElem? (i := 12) (by decide +kernel))), kcX6_readGreater⟩
theorem kcX6_readRectangle : MFc mX6_readRectangle 0 := ⟨gT2 (List.mem_of_getElem? (i := 110) rfl) rfl, kiRX6, by decide +kernel, by decide +kernel, by decide, by decide +kernel⟩
theorem kpX6_readRectangle : MFv mX6_readRectangle 0 := ⟨gT2 (List.mem_of_getElem? (i := 109) (by decide +kernel)) (by decide +kernel), gSl (q := (yX6_readRectangle, 3)) (List.mem_append_left _ (List.mem_of_getElem? (i := 10) (by decide +kernel))), kcX6_readRectangle⟩
theorem kcX6_readNumber : MFc mX6_readNumber 0 := ⟨gT2 (List.mem_of_getElem? (i := 125) rfl) rfl, kiRX6, by decide +kernel, by decide +kernel, by decide, by decide +kernel⟩
theorem kpX6_readNumber : MFv mX6_readNumber 0 := ⟨gT2 (List.mem_of_getElem? (i := 124) (by decide +kernel)) (by decide +kernel), gSl (q := (yX6_readNumber, 3)) (List.mem_append_left _ (List.mem_of_getElem? (i := 13) (by decide +kernel))), kcX6_readNumber⟩
theorem kcX6_readCell : MFc mX6_readCell 1 := ⟨gT2 (List.mem_of_getElem? (i := 114) rfl) rfl, kiRX6, by decide +kernel, by decide +kernel, by decide, by decide +kernel⟩
theorem kpX6_readCell : MFv mX6_readCell 1 := ⟨gT2 (List.mem_of_getElem? (i := 113) (by decide +kernel)) (by decide +kernel), gSl (q := (yX6_readCell, 3)) (List.mem_append_left _ (List.mem_of_getElem? (i := 11) (by decide +kernel))), kcX6_readCell⟩
theorem kcX6_isDigit : MFc mX6_isDigit 1 := ⟨gT2 (List.mem_of_getElem? (i := 121) rfl) rfl, kiRX6, by decide +kernel, by decide +kernel, by decide, by decide +kernel⟩
theorem kpX6_isDigit : MFs mX6_isDigit 1 := ⟨gT2 (List.mem_of_getElem? (i := 120) (by decide +kernel)) (by decide +kernel), kcX6_isDigit⟩
theorem kcX7_init : MFc mX7_init 0 := ⟨gT1 (List.mem_of_getElem? (i := 63) rfl) rfl, kiRX7, by decide +kernel, by decide +kernel, by decide, by decide +kernel⟩
theorem kpX7_init : MFi mX7_init 0 := ⟨gT1 (List.mem_of_getElem? (i := 62) (by decide +kernel)) (by decide +kernel), rfl, rfl, kcX7_init⟩
theorem kcX7_empty : MFc mX7_empty 1 := ⟨gT2 (List.mem_of_getElem? (i := 173) rfl) rfl, kiRX7, by decide +kernel, by decide +kernel, by decide, by decide +kernel⟩
theorem kpX7_empty : MFv mX7_empty 1 := ⟨gT2 (List.mem_of_getElem? (i := 171) (by decide +kernel)) (by decide +kernel), gT2 (List.mem_of_getElem? (i := 172) (by decide +kernel)) (by decide +kernel), kcX7_empty⟩
theorem kcX7_putNumber : MFc mX7_putNumber 2 := ⟨gT2 (List.mem_of_getElem? (i := 0) rfl) rfl, kiRX7, by decide +kernel, by decide +kernel, by decide, by decide +kernel⟩
theorem kpX7_putNumber : MFv mX7_putNumber 2 := ⟨gT1 (List.mem_of_getElem? (i := 238) (by decide +kernel)) (by decide +kernel), gT1 (List.mem_of_getElem? (i := 239) (by decide +kernel)) (by decide +kernel), kcX7_putNumber⟩
theorem kcX7_putFormula : MFc mX7_putFormula 2 := ⟨gT2 (List.mem_of_getElem? (i := 133) rfl) rfl, kiRX7, by decide +kernel, by decide +kernel, by decide, by decide +kernel⟩
theorem kpX7_putFormula : MFv mX7_putFormula 2 := ⟨gT2 (List.mem_of_getElem? (i := 131) (by decide +kernel)) (by decide +kernel), gT2 (List.mem_of_getElem? (i := 132) (by decide +kernel)) (by decide +kernel), kcX7_putFormula⟩
theorem kcX7_put : MFc mX7_put 5 := ⟨gT2 (List.mem_of_getElem? (i := 4) rfl) rfl, kiRX7, by decide +kernel, by decide +kernel, by decide, by decide +kernel⟩
theorem kpX7_put : MFv mX7_put 5 := ⟨gT2 (List.mem_of_getElem? (i := 3) (by decide +kernel)) (by decide +kernel), gSl (q := (yX7_put, 6)) (List.mem_append_left _ (List.mem_of_getElem? (i := 1) (by decide +kernel))), kcX7_put⟩
theorem kcX7_reckoned : MFc mX7_reckoned 0 := ⟨gT3 (List.mem_of_getElem? (i := 18) rfl) rfl, kiRX7, by decide +kernel, by decide +kernel, by decide, by decide +kernel⟩
theorem kpX7_reckoned : MFv mX7_reckoned 0 := ⟨gT3 (List.mem_of_getElem? (i := 16) (by decide +kernel)) (by decide +kernel), gT3 (List.mem_of_getElem? (i := 17) (by decide +kernel)) (by decide +kernel), kcX7_reckoned⟩
theorem kcX7_heldAt : MFc mX7_heldAt 1 := ⟨gT2 (List.mem_of_getElem? (i := 169) rfl) rfl, kiRX7, by decide +kernel, by decide +kernel, by decide, by decide +kernel⟩
theorem kpX7_heldAt : MFv mX7_heldAt 1 := ⟨gT2 (List.mem_of_getElem? (i := 167) (by decide +kernel)) (by decide +kernel), gT2 (List.mem_of_getElem? (i := 168) (by decide +kernel)) (by decide +kernel), kcX7_heldAt⟩
theorem kcX7_numberAt : MFc mX7_numberAt 1 := ⟨gT3 (List.mem_of_getElem? (i := 55) rfl) rfl, kiRX7, by decide +kernel, by decide +kernel, by decide, by decide +kernel⟩
theorem kpX7_numberAt : MFv mX7_numberAt 1 := ⟨gT3 (List.mem_of_getElem? (i := 53) (by decide +kernel)) (by decide +kernel), gT3 (List.mem_of_getElem? (i := 54) (by decide +kernel)) (by decide +kernel), kcX7_numberAt⟩
theorem kcX7_formulaAt : MFc mX7_formulaAt 1 := ⟨gT3 (List.mem_of_getElem? (i := 63) rfl) rfl, kiRX7, by decide +kernel, by decide +kernel, by decide, by decide +kernel⟩
theorem kpX7_formulaAt : MFv mX7_formulaAt 1 := ⟨gT3 (List.mem_of_getElem? (i := 61) (by decide +kernel)) (by decide +kernel), gT3 (List.mem_of_getElem? (i := 62) (by decide +kernel)) (by decide +kernel), kcX7_formulaAt⟩
theorem kcX7_needsAt : MFc mX7_needsAt 1 := ⟨gT3 (List.mem_of_getElem? (i := 28) rfl) rfl, kiRX7, by decide +kernel, by decide +kernel, by decide, by decide +kernel⟩
theorem kpX7_needsAt : MFv mX7_needsAt 1 := ⟨gT3 (List.mem_of_getElem? (i := 26) (by decide +kernel)) (by decide +kernel), gT3 (List.mem_of_getElem? (i := 27) (by decide +kernel)) (by decide +kernel), kcX7_needsAt⟩
theorem kcX8_init : MFc mX8_init 0 := ⟨gT1 (List.mem_of_getElem? (i := 26) rfl) rfl, kiRX8, by decide +kernel, by decide +kernel, by decide, by decide +kernel⟩
theorem kpX8_init : MFi mX8_init 0 := ⟨gT1 (List.mem_of_getElem? (i := 25) (by decide +kernel)) (by decide +kernel), rfl, rfl, kcX8_init⟩
theorem kcX8_length : MFc mX8_length 0 := ⟨gT1 (List.mem_of_getElem? (i := 222) rfl) rfl, kiRX8, by decide +kernel, by decide +kernel, by decide, by decide +kernel⟩
theorem kpX8_length : MFv mX8_length 0 := ⟨gT1 (List.mem_of_getElem? (i := 220) (by decide +kernel)) (by decide +kernel), gT1 (List.mem_of_getElem? (i := 221) (by decide +kernel)) (by decide +kernel), kcX8_length⟩
theorem kcX8_hasRoom : MFc mX8_hasRoom 0 := ⟨gT1 (List.mem_of_getElem? (i := 214) rfl) rfl, kiRX8, by decide +kernel, by decide +kernel, by decide, by decide +kernel⟩
theorem kpX8_hasRoom : MFv mX8_hasRoom 0 := ⟨gT1 (List.mem_of_getElem? (i := 212) (by decide +kernel)) (by decide +kernel), gT1 (List.mem_of_getElem? (i := 213) (by decide +kernel)) (by decide +kernel), kcX8_hasRoom⟩
theorem kcX8_append : MFc mX8_append 1 := ⟨gT1 (List.mem_of_getElem? (i := 218) rfl) rfl, kiRX8, by decide +kernel, by decide +kernel, by decide, by decide +kernel⟩
theorem kpX8_append : MFv mX8_append 1 := ⟨gT1 (List.mem_of_getElem? (i := 216) (by decide +kernel)) (by decide +kernel), gT1 (List.mem_of_getElem? (i := 217) (by decide +kernel)) (by decide +kernel), kcX8_append⟩
theorem kcX8_moveTo : MFc mX8_moveTo 1 := ⟨gT2 (List.mem_of_getElem? (i := 42) rfl) rfl, kiRX8, by decide +kernel, by decide +kernel, by decide, by decide +kernel⟩
theorem kpX8_moveTo : MFv mX8_moveTo 1 := ⟨gT2 (List.mem_of_getElem? (i := 40) (by decide +kernel)) (by decide +kernel), gT2 (List.mem_of_getElem? (i := 41) (by decide +kernel)) (by decide +kernel), kcX8_moveTo⟩
theorem kcX9_init : MFc mX9_init 0 := ⟨gT1 (List.mem_of_getElem? (i := 18) rfl) rfl, kiRX9, by decide +kernel, by decide +kernel, by decide, by decide +kernel⟩
theorem kpX9_init : MFi mX9_init 0 := ⟨gT1 (List.mem_of_getElem? (i := 17) (by decide +kernel)) (by decide +kernel), rfl, rfl, kcX9_init⟩
theorem kcX9_feed : MFc mX9_feed 5 := ⟨gT1 (List.mem_of_getElem? (i := 210) rfl) rfl, kiRX9, by decide +kernel, by decide +kernel, by decide, by decide +kernel⟩
theorem kpX9_feed : MFv mX9_feed 5 := ⟨gT1 (List.mem_of_getElem? (i := 208) (by decide +kernel)) (by decide +kernel), gT1 (List.mem_of_getElem? (i := 209) (by decide +kernel)) (by decide +kernel), kcX9_feed⟩
theorem kcX9_number : MFc mX9_number 3 := ⟨gT1 (List.mem_of_getElem? (i := 226) rfl) rfl, kiRX9, by decide +kernel, by decide +kernel, by decide, by decide +kernel⟩
theorem kpX9_number : MFv mX9_number 3 := ⟨gT1 (List.mem_of_getElem? (i := 224) (by decide +kernel)) (by decide +kernel), gT1 (List.mem_of_getElem? (i := 225) (by decide +kernel)) (by decide +kernel), kcX9_number⟩
theorem kcX9_formula : MFc mX9_formula 3 := ⟨gT2 (List.mem_of_getElem? (i := 13) rfl) rfl, kiRX9, by decide +kernel, by decide +kernel, by decide, by decide +kernel⟩
theorem kpX9_formula : MFv mX9_formula 3 := ⟨gT2 (List.mem_of_getElem? (i := 11) (by decide +kernel)) (by decide +kernel), gT2 (List.mem_of_getElem? (i := 12) (by decide +kernel)) (by decide +kernel), kcX9_formula⟩
theorem kcX9_clear : MFc mX9_clear 2 := ⟨gT2 (List.mem_of_getElem? (i := 165) rfl) rfl, kiRX9, by decide +kernel, by decide +kernel, by decide, by decide +kernel⟩
theorem kpX9_clear : MFv mX9_clear 2 := ⟨gT2 (List.mem_of_getElem? (i := 163) (by decide +kernel)) (by decide +kernel), gT2 (List.mem_of_getElem? (i := 164) (by decide +kernel)) (by decide +kernel), kcX9_clear⟩
theorem kcX9_input : MFc mX9_input 1 := ⟨gT2 (List.mem_of_getElem? (i := 177) rfl) rfl, kiRX9, by decide +kernel, by decide +kernel, by decide, by decide +kernel⟩
theorem kpX9_input : MFv mX9_input 1 := ⟨gT2 (List.mem_of_getElem? (i := 175) (by decide +kernel)) (by decide +kernel), gT2 (List.mem_of_getElem? (i := 176) (by decide +kernel)) (by decide +kernel), kcX9_input⟩
theorem kcX9_wants : MFc mX9_wants 2 := ⟨gT2 (List.mem_of_getElem? (i := 204) rfl) rfl, kiRX9, by decide +kernel, by decide +kernel, by decide, by decide +kernel⟩
theorem kpX9_wants : MFv mX9_wants 2 := ⟨gT2 (List.mem_of_getElem? (i := 202) (by decide +kernel)) (by decide +kernel), gT2 (List.mem_of_getElem? (i := 203) (by decide +kernel)) (by decide +kernel), kcX9_wants⟩
theorem kcX9_world : MFc mX9_world 0 := ⟨gT2 (List.mem_of_getElem? (i := 217) rfl) rfl, kiRX9, by decide +kernel, by decide +kernel, by decide, by decide +kernel⟩
theorem kpX9_world : MFv mX9_world 0 := ⟨gT2 (List.mem_of_getElem? (i := 215) (by decide +kernel)) (by decide +kernel), gT2 (List.mem_of_getElem? (i := 216) (by decide +kernel)) (by decide +kernel), kcX9_world⟩
theorem kcX9_give : MFc mX9_give 3 := ⟨gT2 (List.mem_of_getElem? (i := 229) rfl) rfl, kiRX9, by decide +kernel, by decide +kernel, by decide, by decide +kernel⟩
theorem kpX9_give : MFv mX9_give 3 := ⟨gT2 (List.mem_of_getElem? (i := 227) (by decide +kernel)) (by decide +kernel), gT2 (List.mem_of_getElem? (i := 228) (by decide +kernel)) (by decide +kernel), kcX9_give⟩
theorem kcX9_value : MFc mX9_value 3 := ⟨gT3 (List.mem_of_getElem? (i := 2) rfl) rfl, kiRX9, by decide +kernel, by decide +kernel, by decide, by decide +kernel⟩
theorem kpX9_value : MFv mX9_value 3 := ⟨gT3 (List.mem_of_getElem? (i := 0) (by decide +kernel)) (by decide +kernel), gT3 (List.mem_of_getElem? (i := 1) (by decide +kernel)) (by decide +kernel), kcX9_value⟩
theorem kcX9_error : MFc mX9_error 3 := ⟨gT3 (List.mem_of_getElem? (i := 144) rfl) rfl, kiRX9, by decide +kernel, by decide +kernel, by decide, by decide +kernel⟩
theorem kpX9_error : MFv mX9_error 3 := ⟨gT3 (List.mem_of_getElem? (i := 142) (by decide +kernel)) (by decide +kernel), gT3 (List.mem_of_getElem? (i := 143) (by decide +kernel)) (by decide +kernel), kcX9_error⟩
theorem kcX9_right : MFc mX9_right 3 := ⟨gT3 (List.mem_of_getElem? (i := 149) rfl) rfl, kiRX9, by decide +kernel, by decide +kernel, by decide, by decide +kernel⟩
theorem kpX9_right : MFv mX9_right 3 := ⟨gT3 (List.mem_of_getElem? (i := 147) (by decide +kernel)) (by decide +kernel), gT3 (List.mem_of_getElem? (i := 148) (by decide +kernel)) (by decide +kernel), kcX9_right⟩
theorem kcX9_rightError : MFc mX9_rightError 3 := ⟨gT3 (List.mem_of_getElem? (i := 171) rfl) rfl, kiRX9, by decide +kernel, by decide +kernel, by decide, by decide +kernel⟩
theorem kpX9_rightError : MFv mX9_rightError 3 := ⟨gT3 (List.mem_of_getElem? (i := 169) (by decide +kernel)) (by decide +kernel), gT3 (List.mem_of_getElem? (i := 170) (by decide +kernel)) (by decide +kernel), kcX9_rightError⟩
theorem kcX9_kind : MFc mX9_kind 2 := ⟨gT3 (List.mem_of_getElem? (i := 175) rfl) rfl, kiRX9, by decide +kernel, by decide +kernel, by decide, by decide +kernel⟩
theorem kpX9_kind : MFv mX9_kind 2 := ⟨gT3 (List.mem_of_getElem? (i := 173) (by decide +kernel)) (by decide +kernel), gT3 (List.mem_of_getElem? (i := 174) (by decide +kernel)) (by decide +kernel), kcX9_kind⟩
theorem kcX9_points : MFc mX9_points 2 := ⟨gT3 (List.mem_of_getElem? (i := 239) rfl) rfl, kiRX9, by decide +kernel, by decide +kernel, by decide, by decide +kernel⟩
theorem kpX9_points : MFv mX9_points 2 := ⟨gT3 (List.mem_of_getElem? (i := 237) (by decide +kernel)) (by decide +kernel), gT3 (List.mem_of_getElem? (i := 238) (by decide +kernel)) (by decide +kernel), kcX9_points⟩
theorem kcX9_slip : MFc mX9_slip 3 := ⟨gT4 (List.mem_of_getElem? (i := 10) rfl) rfl, kiRX9, by decide +kernel, by decide +kernel, by decide, by decide +kernel⟩
theorem kpX9_slip : MFv mX9_slip 3 := ⟨gT4 (List.mem_of_getElem? (i := 8) (by decide +kernel)) (by decide +kernel), gT4 (List.mem_of_getElem? (i := 9) (by decide +kernel)) (by decide +kernel), kcX9_slip⟩
theorem kcX9_fault : MFc mX9_fault 2 := ⟨gT4 (List.mem_of_getElem? (i := 22) rfl) rfl, kiRX9, by decide +kernel, by decide +kernel, by decide, by decide +kernel⟩
theorem kpX9_fault : MFv mX9_fault 2 := ⟨gT4 (List.mem_of_getElem? (i := 20) (by decide +kernel)) (by decide +kernel), gT4 (List.mem_of_getElem? (i := 21) (by decide +kernel)) (by decide +kernel), kcX9_fault⟩
theorem kcX9_copied : MFc mX9_copied 3 := ⟨gT4 (List.mem_of_getElem? (i := 29) rfl) rfl, kiRX9, by decide +kernel, by decide +kernel, by decide, by decide +kernel⟩
theorem kpX9_copied : MFv mX9_copied 3 := ⟨gT4 (List.mem_of_getElem? (i := 27) (by decide +kernel)) (by decide +kernel), gT4 (List.mem_of_getElem? (i := 28) (by decide +kernel)) (by decide +kernel), kcX9_copied⟩
theorem kcX9_look : MFc mX9_look 3 := ⟨gT4 (List.mem_of_getElem? (i := 44) rfl) rfl, kiRX9, by decide +kernel, by decide +kernel, by decide, by decide +kernel⟩
theorem kpX9_look : MFv mX9_look 3 := ⟨gT4 (List.mem_of_getElem? (i := 42) (by decide +kernel)) (by decide +kernel), gT4 (List.mem_of_getElem? (i := 43) (by decide +kernel)) (by decide +kernel), kcX9_look⟩
theorem kcX9_count : MFc mX9_count 1 := ⟨gT4 (List.mem_of_getElem? (i := 58) rfl) rfl, kiRX9, by decide +kernel, by decide +kernel, by decide, by decide +kernel⟩
theorem kpX9_count : MFv mX9_count 1 := ⟨gT4 (List.mem_of_getElem? (i := 56) (by decide +kernel)) (by decide +kernel), gT4 (List.mem_of_getElem? (i := 57) (by decide +kernel)) (by decide +kernel), kcX9_count⟩
theorem kcX9_sheetAt : MFc mX9_sheetAt 1 := ⟨gT1 (List.mem_of_getElem? (i := 230) rfl) rfl, kiRX9, by decide +kernel, by decide +kernel, by decide, by decide +kernel⟩
theorem kpX9_sheetAt : MFv mX9_sheetAt 1 := ⟨gT1 (List.mem_of_getElem? (i := 229) (by decide +kernel)) (by decide +kernel), gSl (q := (yX9_sheetAt, 7)) (List.mem_append_left _ (List.mem_of_getElem? (i := 0) (by decide +kernel))), kcX9_sheetAt⟩
theorem kcX9_pupilAt : MFc mX9_pupilAt 1 := ⟨gT3 (List.mem_of_getElem? (i := 179) rfl) rfl, kiRX9, by decide +kernel, by decide +kernel, by decide, by decide +kernel⟩
theorem kpX9_pupilAt : MFv mX9_pupilAt 1 := ⟨gT3 (List.mem_of_getElem? (i := 178) (by decide +kernel)) (by decide +kernel), gSl (q := (yX9_pupilAt, 7)) (List.mem_append_right _ (List.mem_append_left _ (List.mem_of_getElem? (i := 13) (by decide +kernel)))), kcX9_pupilAt⟩
theorem kcX9_reckonsOwn : MFc mX9_reckonsOwn 3 := ⟨gT3 (List.mem_of_getElem? (i := 6) rfl) rfl, kiRX9, by decide +kernel, by decide +kernel, by decide, by decide +kernel⟩
theorem kpX9_reckonsOwn : MFv mX9_reckonsOwn 3 := ⟨gT3 (List.mem_of_getElem? (i := 5) (by decide +kernel)) (by decide +kernel), gSl (q := (yX9_reckonsOwn, 7)) (List.mem_append_left _ (List.mem_of_getElem? (i := 14) (by decide +kernel))), kcX9_reckonsOwn⟩
theorem kcX9_reckonsRight : MFc mX9_reckonsRight 3 := ⟨gT3 (List.mem_of_getElem? (i := 153) rfl) rfl, kiRX9, by decide +kernel, by decide +kernel, by decide, by decide +kernel⟩
theorem kpX9_reckonsRight : MFv mX9_reckonsRight 3 := ⟨gT3 (List.mem_of_getElem? (i := 152) (by decide +kernel)) (by decide +kernel), gSl (q := (yX9_reckonsRight, 7)) (List.mem_append_right _ (List.mem_append_left _ (List.mem_of_getElem? (i := 11) (by decide +kernel)))), kcX9_reckonsRight⟩
theorem kcX9_isShared : MFc mX9_isShared 3 := ⟨gT4 (List.mem_of_getElem? (i := 33) rfl) rfl, kiRX9, by decide +kernel, by decide +kernel, by decide, by decide +kernel⟩
theorem kpX9_isShared : MFv mX9_isShared 3 := ⟨gT4 (List.mem_of_getElem? (i := 32) (by decide +kernel)) (by decide +kernel), gSl (q := (yX9_isShared, 7)) (List.mem_append_right _ (List.mem_append_right _ (List.mem_append_left _ (List.mem_of_getElem? (i := 2) (by decide +kernel))))), kcX9_isShared⟩
theorem kcX9_countComing : MFc mX9_countComing 2 := ⟨gT4 (List.mem_of_getElem? (i := 48) rfl) rfl, kiRX9, by decide +kernel, by decide +kernel, by decide, by decide +kernel⟩
theorem kpX9_countComing : MFv mX9_countComing 2 := ⟨gT4 (List.mem_of_getElem? (i := 47) (by decide +kernel)) (by decide +kernel), gSl (q := (yX9_countComing, 7)) (List.mem_append_right _ (List.mem_append_right _ (List.mem_append_left _ (List.mem_of_getElem? (i := 3) (by decide +kernel))))), kcX9_countComing⟩
theorem kcX9_share : MFc mX9_share 2 := ⟨gT4 (List.mem_of_getElem? (i := 6) rfl) rfl, kiRX9, by decide +kernel, by decide +kernel, by decide, by decide +kernel⟩
theorem kpX9_share : MFs mX9_share 2 := ⟨gT4 (List.mem_of_getElem? (i := 5) (by decide +kernel)) (by decide +kernel), kcX9_share⟩
theorem kcX9_isFaulty : MFc mX9_isFaulty 1 := ⟨gT4 (List.mem_of_getElem? (i := 25) rfl) rfl, kiRX9, by decide +kernel, by decide +kernel, by decide, by decide +kernel⟩
theorem kpX9_isFaulty : MFs mX9_isFaulty 1 := ⟨gT4 (List.mem_of_getElem? (i := 24) (by decide +kernel)) (by decide +kernel), kcX9_isFaulty⟩
theorem kcX9_isCell : MFc mX9_isCell 1 := ⟨gT1 (List.mem_of_getElem? (i := 233) rfl) rfl, kiRX9, by decide +kernel, by decide +kernel, by decide, by decide +kernel⟩
theorem kpX9_isCell : MFs mX9_isCell 1 := ⟨gT1 (List.mem_of_getElem? (i := 232) (by decide +kernel)) (by decide +kernel), kcX9_isCell⟩
theorem kcX9_isNumber : MFc mX9_isNumber 1 := ⟨gT1 (List.mem_of_getElem? (i := 236) rfl) rfl, kiRX9, by decide +kernel, by decide +kernel, by decide, by decide +kernel⟩
theorem kpX9_isNumber : MFs mX9_isNumber 1 := ⟨gT1 (List.mem_of_getElem? (i := 235) (by decide +kernel)) (by decide +kernel), kcX9_isNumber⟩
theorem kcX9_isSign : MFc mX9_isSign 1 := ⟨gT3 (List.mem_of_getElem? (i := 81) rfl) rfl, kiRX9, by decide +kernel, by decide +kernel, by decide, by decide +kernel⟩
theorem kpX9_isSign : MFs mX9_isSign 1 := ⟨gT3 (List.mem_of_getElem? (i := 80) (by decide +kernel)) (by decide +kernel), kcX9_isSign⟩
theorem kcX9_bit : MFc mX9_bit 1 := ⟨gT2 (List.mem_of_getElem? (i := 8) rfl) rfl, kiRX9, by decide +kernel, by decide +kernel, by decide, by decide +kernel⟩
theorem kpX9_bit : MFs mX9_bit 1 := ⟨gT2 (List.mem_of_getElem? (i := 7) (by decide +kernel)) (by decide +kernel), kcX9_bit⟩
theorem kcX9_rectangle : MFc mX9_rectangle 2 := ⟨gT2 (List.mem_of_getElem? (i := 157) rfl) rfl, kiRX9, by decide +kernel, by decide +kernel, by decide, by decide +kernel⟩
theorem kpX9_rectangle : MFs mX9_rectangle 2 := ⟨gT2 (List.mem_of_getElem? (i := 156) (by decide +kernel)) (by decide +kernel), kcX9_rectangle⟩
theorem kcX10_init : MFc mX10_init 0 := ⟨gT4 (List.mem_of_getElem? (i := 68) rfl) rfl, kiRX10, by decide +kernel, by decide +kernel, by decide, by decide +kernel⟩
theorem kpX10_init : MFi mX10_init 0 := ⟨gT4 (List.mem_of_getElem? (i := 67) (by decide +kernel)) (by decide +kernel), rfl, rfl, kcX10_init⟩
theorem kcX10_lies : MFc mX10_lies 3 := ⟨gT5 (List.mem_of_getElem? (i := 6) rfl) rfl, kiRX10, by decide +kernel, by decide +kernel, by decide, by decide +kernel⟩
theorem kpX10_lies : MFs mX10_lies 3 := ⟨gT5 (List.mem_of_getElem? (i := 5) (by decide +kernel)) (by decide +kernel), kcX10_lies⟩
theorem kcX10_isCell : MFc mX10_isCell 1 := ⟨gT5 (List.mem_of_getElem? (i := 9) rfl) rfl, kiRX10, by decide +kernel, by decide +kernel, by decide, by decide +kernel⟩
theorem kpX10_isCell : MFs mX10_isCell 1 := ⟨gT5 (List.mem_of_getElem? (i := 8) (by decide +kernel)) (by decide +kernel), kcX10_isCell⟩
theorem kcX10_isSheet : MFc mX10_isSheet 1 := ⟨gT5 (List.mem_of_getElem? (i := 3) rfl) rfl, kiRX10, by decide +kernel, by decide +kernel, by decide, by decide +kernel⟩
theorem kpX10_isSheet : MFs mX10_isSheet 1 := ⟨gT5 (List.mem_of_getElem? (i := 2) (by decide +kernel)) (by decide +kernel), kcX10_isSheet⟩
theorem kcX10_isWanted : MFc mX10_isWanted 1 := ⟨gT5 (List.mem_of_getElem? (i := 110) rfl) rfl, kiRX10, by decide +kernel, by decide +kernel, by decide, by decide +kernel⟩
theorem kpX10_isWanted : MFv mX10_isWanted 1 := ⟨gT5 (List.mem_of_getElem? (i := 109) (by decide +kernel)) (by decide +kernel), gSl (q := (yX10_isWanted, 52)) (List.mem_append_right _ (List.mem_append_right _ (List.mem_append_right _ (List.mem_append_left _ (List.mem_of_getElem? (i := 8) (by decide +kernel)))))), kcX10_isWanted⟩
theorem kcX10_push : MFc mX10_push 1 := ⟨gT4 (List.mem_of_getElem? (i := 236) rfl) rfl, kiRX10, by decide +kernel, by decide +kernel, by decide, by decide +kernel⟩
theorem kpX10_push : MFv mX10_push 1 := ⟨gT4 (List.mem_of_getElem? (i := 235) (by decide +kernel)) (by decide +kernel), gSl (q := (yX10_push, 52)) (List.mem_append_right _ (List.mem_append_right _ (List.mem_append_left _ (List.mem_of_getElem? (i := 4) (by decide +kernel))))), kcX10_push⟩
theorem kcX10_feed : MFc mX10_feed 5 := ⟨gT4 (List.mem_of_getElem? (i := 232) rfl) rfl, kiRX10, by decide +kernel, by decide +kernel, by decide, by decide +kernel⟩
theorem kpX10_feed : MFv mX10_feed 5 := ⟨gT4 (List.mem_of_getElem? (i := 230) (by decide +kernel)) (by decide +kernel), gT4 (List.mem_of_getElem? (i := 231) (by decide +kernel)) (by decide +kernel), kcX10_feed⟩
theorem kcX10_number : MFc mX10_number 3 := ⟨gT5 (List.mem_of_getElem? (i := 0) rfl) rfl, kiRX10, by decide +kernel, by decide +kernel, by decide, by decide +kernel⟩
theorem kpX10_number : MFv mX10_number 3 := ⟨gT4 (List.mem_of_getElem? (i := 238) (by decide +kernel)) (by decide +kernel), gT4 (List.mem_of_getElem? (i := 239) (by decide +kernel)) (by decide +kernel), kcX10_number⟩
theorem kcX10_clear : MFc mX10_clear 2 := ⟨gT5 (List.mem_of_getElem? (i := 13) rfl) rfl, kiRX10, by decide +kernel, by decide +kernel, by decide, by decide +kernel⟩
theorem kpX10_clear : MFv mX10_clear 2 := ⟨gT5 (List.mem_of_getElem? (i := 11) (by decide +kernel)) (by decide +kernel), gT5 (List.mem_of_getElem? (i := 12) (by decide +kernel)) (by decide +kernel), kcX10_clear⟩
theorem kcX10_here : MFc mX10_here 0 := ⟨gT5 (List.mem_of_getElem? (i := 29) rfl) rfl, kiRX10, by decide +kernel, by decide +kernel, by decide, by decide +kernel⟩
theorem kpX10_here : MFv mX10_here 0 := ⟨gT5 (List.mem_of_getElem? (i := 28) (by decide +kernel)) (by decide +kernel), gSl (q := (yX10_here, 52)) (List.mem_append_right _ (List.mem_append_right _ (List.mem_append_left _ (List.mem_of_getElem? (i := 7) (by decide +kernel))))), kcX10_here⟩
theorem kcX10_fails : MFc mX10_fails 2 := ⟨gT5 (List.mem_of_getElem? (i := 33) rfl) rfl, kiRX10, by decide +kernel, by decide +kernel, by decide, by decide +kernel⟩
theorem kpX10_fails : MFv mX10_fails 2 := ⟨gT5 (List.mem_of_getElem? (i := 32) (by decide +kernel)) (by decide +kernel), gSl (q := (yX10_fails, 52)) (List.mem_append_right _ (List.mem_append_right _ (List.mem_append_left _ (List.mem_of_getElem? (i := 8) (by decide +kernel))))), kcX10_fails⟩
theorem kcX10_puts : MFc mX10_puts 5 := ⟨gT5 (List.mem_of_getElem? (i := 53) rfl) rfl, kiRX10, by decide +kernel, by decide +kernel, by decide, by decide +kernel⟩
theorem kpX10_puts : MFv mX10_puts 5 := ⟨gT5 (List.mem_of_getElem? (i := 52) (by decide +kernel)) (by decide +kernel), gSl (q := (yX10_puts, 52)) (List.mem_append_right _ (List.mem_append_right _ (List.mem_append_left _ (List.mem_of_getElem? (i := 13) (by decide +kernel))))), kcX10_puts⟩
theorem kcX10_waits : MFc mX10_waits 2 := ⟨gT5 (List.mem_of_getElem? (i := 45) rfl) rfl, kiRX10, by decide +kernel, by decide +kernel, by decide, by decide +kernel⟩
theorem kpX10_waits : MFv mX10_waits 2 := ⟨gT5 (List.mem_of_getElem? (i := 44) (by decide +kernel)) (by decide +kernel), gSl (q := (yX10_waits, 52)) (List.mem_append_right _ (List.mem_append_right _ (List.mem_append_left _ (List.mem_of_getElem? (i := 11) (by decide +kernel))))), kcX10_waits⟩
theorem kcX10_joins : MFc mX10_joins 0 := ⟨gT5 (List.mem_of_getElem? (i := 69) rfl) rfl, kiRX10, by decide +kernel, by decide +kernel, by decide, by decide +kernel⟩
theorem kpX10_joins : MFv mX10_joins 0 := ⟨gT5 (List.mem_of_getElem? (i := 68) (by decide +kernel)) (by decide +kernel), gSl (q := (yX10_joins, 52)) (List.mem_append_right _ (List.mem_append_right _ (List.mem_append_right _ (List.mem_append_left _ (List.mem_of_getElem? (i := 1) (by decide +kernel)))))), kcX10_joins⟩
theorem kcX10_opens : MFc mX10_opens 1 := ⟨gT5 (List.mem_of_getElem? (i := 41) rfl) rfl, kiRX10, by decide +kernel, by decide +kernel, by decide, by decide +kernel⟩
theorem kpX10_opens : MFv mX10_opens 1 := ⟨gT5 (List.mem_of_getElem? (i := 40) (by decide +kernel)) (by decide +kernel), gSl (q := (yX10_opens, 52)) (List.mem_append_right _ (List.mem_append_right _ (List.mem_append_left _ (List.mem_of_getElem? (i := 10) (by decide +kernel))))), kcX10_opens⟩
theorem kcX10_must : MFc mX10_must 1 := ⟨gT5 (List.mem_of_getElem? (i := 25) rfl) rfl, kiRX10, by decide +kernel, by decide +kernel, by decide, by decide +kernel⟩
theorem kpX10_must : MFv mX10_must 1 := ⟨gT5 (List.mem_of_getElem? (i := 24) (by decide +kernel)) (by decide +kernel), gSl (q := (yX10_must, 52)) (List.mem_append_right _ (List.mem_append_right _ (List.mem_append_left _ (List.mem_of_getElem? (i := 6) (by decide +kernel))))), kcX10_must⟩
theorem kcX10_seesDigit : MFc mX10_seesDigit 0 := ⟨gT5 (List.mem_of_getElem? (i := 57) rfl) rfl, kiRX10, by decide +kernel, by decide +kernel, by decide, by decide +kernel⟩
theorem kpX10_seesDigit : MFv mX10_seesDigit 0 := ⟨gT5 (List.mem_of_getElem? (i := 56) (by decide +kernel)) (by decide +kernel), gSl (q := (yX10_seesDigit, 52)) (List.mem_append_right _ (List.mem_append_right _ (List.mem_append_left _ (List.mem_of_getElem? (i := 14) (by decide +kernel))))), kcX10_seesDigit⟩
theorem kcX10_readNumber : MFc mX10_readNumber 0 := ⟨gT5 (List.mem_of_getElem? (i := 61) rfl) rfl, kiRX10, by decide +kernel, by decide +kernel, by decide, by decide +kernel⟩
theorem kpX10_readNumber : MFv mX10_readNumber 0 := ⟨gT5 (List.mem_of_getElem? (i := 60) (by decide +kernel)) (by decide +kernel), gSl (q := (yX10_readNumber, 52)) (List.mem_append_right _ (List.mem_append_right _ (List.mem_append_left _ (List.mem_of_getElem? (i := 15) (by decide +kernel))))), kcX10_readNumber⟩
theorem kcX10_readCell : MFc mX10_readCell 0 := ⟨gT5 (List.mem_of_getElem? (i := 49) rfl) rfl, kiRX10, by decide +kernel, by decide +kernel, by decide, by decide +kernel⟩
theorem kpX10_readCell : MFv mX10_readCell 0 := ⟨gT5 (List.mem_of_getElem? (i := 48) (by decide +kernel)) (by decide +kernel), gSl (q := (yX10_readCell, 52)) (List.mem_append_right _ (List.mem_append_right _ (List.mem_append_left _ (List.mem_of_getElem? (i := 12) (by decide +kernel))))), kcX10_readCell⟩
theorem kcX10_factorEnds : MFc mX10_factorEnds 0 := ⟨gT5 (List.mem_of_getElem? (i := 65) rfl) rfl, kiRX10, by decide +kernel, by decide +kernel, by decide, by decide +kernel⟩
theorem kpX10_factorEnds : MFv mX10_factorEnds 0 := ⟨gT5 (List.mem_of_getElem? (i := 64) (by decide +kernel)) (by decide +kernel), gSl (q := (yX10_factorEnds, 52)) (List.mem_append_right _ (List.mem_append_right _ (List.mem_append_right _ (List.mem_append_left _ (List.mem_of_getElem? (i := 0) (by decide +kernel)))))), kcX10_factorEnds⟩
theorem kcX10_sumEnds : MFc mX10_sumEnds 0 := ⟨gT5 (List.mem_of_getElem? (i := 76) rfl) rfl, kiRX10, by decide +kernel, by decide +kernel, by decide, by decide +kernel⟩
theorem kpX10_sumEnds : MFv mX10_sumEnds 0 := ⟨gT5 (List.mem_of_getElem? (i := 75) (by decide +kernel)) (by decide +kernel), gSl (q := (yX10_sumEnds, 52)) (List.mem_append_right _ (List.mem_append_right _ (List.mem_append_right _ (List.mem_append_left _ (List.mem_of_getElem? (i := 2) (by decide +kernel)))))), kcX10_sumEnds⟩
theorem kcX10_factor : MFc mX10_factor 0 := ⟨gT5 (List.mem_of_getElem? (i := 37) rfl) rfl, kiRX10, by decide +kernel, by decide +kernel, by decide, by decide +kernel⟩
theorem kpX10_factor : MFv mX10_factor 0 := ⟨gT5 (List.mem_of_getElem? (i := 36) (by decide +kernel)) (by decide +kernel), gSl (q := (yX10_factor, 52)) (List.mem_append_right _ (List.mem_append_right _ (List.mem_append_left _ (List.mem_of_getElem? (i := 9) (by decide +kernel))))), kcX10_factor⟩
theorem kcX10_joinOf : MFc mX10_joinOf 1 := ⟨gT5 (List.mem_of_getElem? (i := 72) rfl) rfl, kiRX10, by decide +kernel, by decide +kernel, by decide, by decide +kernel⟩
theorem kpX10_joinOf : MFs mX10_joinOf 1 := ⟨gT5 (List.mem_of_getElem? (i := 71) (by decide +kernel)) (by decide +kernel), kcX10_joinOf⟩
theorem kcX10_reads : MFc mX10_reads 1 := ⟨gT5 (List.mem_of_getElem? (i := 21) rfl) rfl, kiRX10, by decide +kernel, by decide +kernel, by decide, by decide +kernel⟩
theorem kpX10_reads : MFv mX10_reads 1 := ⟨gT5 (List.mem_of_getElem? (i := 20) (by decide +kernel)) (by decide +kernel), gSl (q := (yX10_reads, 52)) (List.mem_append_right _ (List.mem_append_right _ (List.mem_append_left _ (List.mem_of_getElem? (i := 5) (by decide +kernel))))), kcX10_reads⟩
theorem kcX10_formula : MFc mX10_formula 3 := ⟨gT5 (List.mem_of_getElem? (i := 17) rfl) rfl, kiRX10, by decide +kernel, by decide +kernel, by decide, by decide +kernel⟩
theorem kpX10_formula : MFv mX10_formula 3 := ⟨gT5 (List.mem_of_getElem? (i := 15) (by decide +kernel)) (by decide +kernel), gT5 (List.mem_of_getElem? (i := 16) (by decide +kernel)) (by decide +kernel), kcX10_formula⟩
theorem kcX10_input : MFc mX10_input 1 := ⟨gT5 (List.mem_of_getElem? (i := 106) rfl) rfl, kiRX10, by decide +kernel, by decide +kernel, by decide, by decide +kernel⟩
theorem kpX10_input : MFv mX10_input 1 := ⟨gT5 (List.mem_of_getElem? (i := 104) (by decide +kernel)) (by decide +kernel), gT5 (List.mem_of_getElem? (i := 105) (by decide +kernel)) (by decide +kernel), kcX10_input⟩
theorem kcX10_wants : MFc mX10_wants 2 := ⟨gT5 (List.mem_of_getElem? (i := 114) rfl) rfl, kiRX10, by decide +kernel, by decide +kernel, by decide, by decide +kernel⟩
theorem kpX10_wants : MFv mX10_wants 2 := ⟨gT5 (List.mem_of_getElem? (i := 112) (by decide +kernel)) (by decide +kernel), gT5 (List.mem_of_getElem? (i := 113) (by decide +kernel)) (by decide +kernel), kcX10_wants⟩
theorem kcX10_world : MFc mX10_world 0 := ⟨gT5 (List.mem_of_getElem? (i := 118) rfl) rfl, kiRX10, by decide +kernel, by decide +kernel, by decide, by decide +kernel⟩
theorem kpX10_world : MFv mX10_world 0 := ⟨gT5 (List.mem_of_getElem? (i := 116) (by decide +kernel)) (by decide +kernel), gT5 (List.mem_of_getElem? (i := 117) (by decide +kernel)) (by decide +kernel), kcX10_world⟩
theorem kcX10_give : MFc mX10_give 3 := ⟨gT5 (List.mem_of_getElem? (i := 122) rfl) rfl, kiRX10, by decide +kernel, by decide +kernel, by decide, by decide +kernel⟩
theorem kpX10_give : MFv mX10_give 3 := ⟨gT5 (List.mem_of_getElem? (i := 120) (by decide +kernel)) (by decide +kernel), gT5 (List.mem_of_getElem? (i := 121) (by decide +kernel)) (by decide +kernel), kcX10_give⟩
theorem kcX10_isChanged : MFc mX10_isChanged 2 := ⟨gT5 (List.mem_of_getElem? (i := 88) rfl) rfl, kiRX10, by decide +kernel, by decide +kernel, by decide, by decide +kernel⟩
theorem kpX10_isChanged : MFv mX10_isChanged 2 := ⟨gT5 (List.mem_of_getElem? (i := 87) (by decide +kernel)) (by decide +kernel), gSl (q := (yX10_isChanged, 52)) (List.mem_append_right _ (List.mem_append_right _ (List.mem_append_right _ (List.mem_append_left _ (List.mem_of_getElem? (i := 5) (by decide +kernel)))))), kcX10_isChanged⟩
theorem kcX10_opOf : MFc mX10_opOf 2 := ⟨gT5 (List.mem_of_getElem? (i := 84) rfl) rfl, kiRX10, by decide +kernel, by decide +kernel, by decide, by decide +kernel⟩
theorem kpX10_opOf : MFv mX10_opOf 2 := ⟨gT5 (List.mem_of_getElem? (i := 83) (by decide +kernel)) (by decide +kernel), gSl (q := (yX10_opOf, 52)) (List.mem_append_right _ (List.mem_append_right _ (List.mem_append_right _ (List.mem_append_left _ (List.mem_of_getElem? (i := 4) (by decide +kernel)))))), kcX10_opOf⟩
theorem kcX10_argOf : MFc mX10_argOf 2 := ⟨gT5 (List.mem_of_getElem? (i := 92) rfl) rfl, kiRX10, by decide +kernel, by decide +kernel, by decide, by decide +kernel⟩
theorem kpX10_argOf : MFv mX10_argOf 2 := ⟨gT5 (List.mem_of_getElem? (i := 91) (by decide +kernel)) (by decide +kernel), gSl (q := (yX10_argOf, 52)) (List.mem_append_right _ (List.mem_append_right _ (List.mem_append_right _ (List.mem_append_left _ (List.mem_of_getElem? (i := 6) (by decide +kernel)))))), kcX10_argOf⟩
theorem kcX10_arg2Of : MFc mX10_arg2Of 2 := ⟨gT5 (List.mem_of_getElem? (i := 96) rfl) rfl, kiRX10, by decide +kernel, by decide +kernel, by decide, by decide +kernel⟩
theorem kpX10_arg2Of : MFv mX10_arg2Of 2 := ⟨gT5 (List.mem_of_getElem? (i := 95) (by decide +kernel)) (by decide +kernel), gSl (q := (yX10_arg2Of, 52)) (List.mem_append_right _ (List.mem_append_right _ (List.mem_append_right _ (List.mem_append_left _ (List.mem_of_getElem? (i := 7) (by decide +kernel)))))), kcX10_arg2Of⟩
theorem kcX10_isBetween : MFc mX10_isBetween 3 := ⟨gT5 (List.mem_of_getElem? (i := 102) rfl) rfl, kiRX10, by decide +kernel, by decide +kernel, by decide, by decide +kernel⟩
theorem kpX10_isBetween : MFs mX10_isBetween 3 := ⟨gT5 (List.mem_of_getElem? (i := 101) (by decide +kernel)) (by decide +kernel), kcX10_isBetween⟩
theorem kcX10_isWithin : MFc mX10_isWithin 3 := ⟨gT5 (List.mem_of_getElem? (i := 99) rfl) rfl, kiRX10, by decide +kernel, by decide +kernel, by decide, by decide +kernel⟩
theorem kpX10_isWithin : MFs mX10_isWithin 3 := ⟨gT5 (List.mem_of_getElem? (i := 98) (by decide +kernel)) (by decide +kernel), kcX10_isWithin⟩
theorem kcX10_needs : MFc mX10_needs 2 := ⟨gT5 (List.mem_of_getElem? (i := 154) rfl) rfl, kiRX10, by decide +kernel, by decide +kernel, by decide, by decide +kernel⟩
theorem kpX10_needs : MFv mX10_needs 2 := ⟨gT5 (List.mem_of_getElem? (i := 153) (by decide +kernel)) (by decide +kernel), gSl (q := (yX10_needs, 52)) (List.mem_append_right _ (List.mem_append_right _ (List.mem_append_right _ (List.mem_append_left _ (List.mem_of_getElem? (i := 14) (by decide +kernel)))))), kcX10_needs⟩
theorem kcX10_names0 : MFc mX10_names0 1 := ⟨gT5 (List.mem_of_getElem? (i := 80) rfl) rfl, kiRX10, by decide +kernel, by decide +kernel, by decide, by decide +kernel⟩
theorem kpX10_names0 : MFv mX10_names0 1 := ⟨gT5 (List.mem_of_getElem? (i := 79) (by decide +kernel)) (by decide +kernel), gSl (q := (yX10_names0, 52)) (List.mem_append_right _ (List.mem_append_right _ (List.mem_append_right _ (List.mem_append_left _ (List.mem_of_getElem? (i := 3) (by decide +kernel)))))), kcX10_names0⟩
theorem kcX10_has : MFc mX10_has 2 := ⟨gT5 (List.mem_of_getElem? (i := 146) rfl) rfl, kiRX10, by decide +kernel, by decide +kernel, by decide, by decide +kernel⟩
theorem kpX10_has : MFs mX10_has 2 := ⟨gT5 (List.mem_of_getElem? (i := 145) (by decide +kernel)) (by decide +kernel), kcX10_has⟩
theorem kcX10_isTold : MFc mX10_isTold 3 := ⟨gT5 (List.mem_of_getElem? (i := 150) rfl) rfl, kiRX10, by decide +kernel, by decide +kernel, by decide, by decide +kernel⟩
theorem kpX10_isTold : MFv mX10_isTold 3 := ⟨gT5 (List.mem_of_getElem? (i := 149) (by decide +kernel)) (by decide +kernel), gSl (q := (yX10_isTold, 52)) (List.mem_append_right _ (List.mem_append_right _ (List.mem_append_right _ (List.mem_append_left _ (List.mem_of_getElem? (i := 13) (by decide +kernel)))))), kcX10_isTold⟩
theorem kcX10_orders : MFc mX10_orders 3 := ⟨gT5 (List.mem_of_getElem? (i := 143) rfl) rfl, kiRX10, by decide +kernel, by decide +kernel, by decide, by decide +kernel⟩
theorem kpX10_orders : MFv mX10_orders 3 := ⟨gT5 (List.mem_of_getElem? (i := 142) (by decide +kernel)) (by decide +kernel), gSl (q := (yX10_orders, 52)) (List.mem_append_right _ (List.mem_append_right _ (List.mem_append_right _ (List.mem_append_left _ (List.mem_of_getElem? (i := 12) (by decide +kernel)))))), kcX10_orders⟩
theorem kcX10_comes : MFc mX10_comes 1 := ⟨gT5 (List.mem_of_getElem? (i := 166) rfl) rfl, kiRX10, by decide +kernel, by decide +kernel, by decide, by decide +kernel⟩
theorem kpX10_comes : MFv mX10_comes 1 := ⟨gT5 (List.mem_of_getElem? (i := 165) (by decide +kernel)) (by decide +kernel), gSl (q := (yX10_comes, 52)) (List.mem_append_right _ (List.mem_append_right _ (List.mem_append_right _ (List.mem_append_right _ (List.mem_of_getElem? (i := 1) (by decide +kernel)))))), kcX10_comes⟩
theorem kcX10_times : MFc mX10_times 2 := ⟨gT5 (List.mem_of_getElem? (i := 184) rfl) rfl, kiRX10, by decide +kernel, by decide +kernel, by decide, by decide +kernel⟩
theorem kpX10_times : MFv mX10_times 2 := ⟨gT5 (List.mem_of_getElem? (i := 183) (by decide +kernel)) (by decide +kernel), gSl (q := (yX10_times, 52)) (List.mem_append_right _ (List.mem_append_right _ (List.mem_append_right _ (List.mem_append_right _ (List.mem_of_getElem? (i := 5) (by decide +kernel)))))), kcX10_times⟩
theorem kcX10_parts : MFc mX10_parts 2 := ⟨gT5 (List.mem_of_getElem? (i := 188) rfl) rfl, kiRX10, by decide +kernel, by decide +kernel, by decide, by decide +kernel⟩
theorem kpX10_parts : MFv mX10_parts 2 := ⟨gT5 (List.mem_of_getElem? (i := 187) (by decide +kernel)) (by decide +kernel), gSl (q := (yX10_parts, 52)) (List.mem_append_right _ (List.mem_append_right _ (List.mem_append_right _ (List.mem_append_right _ (List.mem_of_getElem? (i := 6) (by decide +kernel)))))), kcX10_parts⟩
theorem kcX10_two : MFc mX10_two 1 := ⟨gT5 (List.mem_of_getElem? (i := 180) rfl) rfl, kiRX10, by decide +kernel, by decide +kernel, by decide, by decide +kernel⟩
theorem kpX10_two : MFv mX10_two 1 := ⟨gT5 (List.mem_of_getElem? (i := 179) (by decide +kernel)) (by decide +kernel), gSl (q := (yX10_two, 52)) (List.mem_append_right _ (List.mem_append_right _ (List.mem_append_right _ (List.mem_append_right _ (List.mem_of_getElem? (i := 4) (by decide +kernel)))))), kcX10_two⟩
theorem kcX10_names : MFc mX10_names 1 := ⟨gT5 (List.mem_of_getElem? (i := 172) rfl) rfl, kiRX10, by decide +kernel, by decide +kernel, by decide, by decide +kernel⟩
theorem kpX10_names : MFv mX10_names 1 := ⟨gT5 (List.mem_of_getElem? (i := 171) (by decide +kernel)) (by decide +kernel), gSl (q := (yX10_names, 52)) (List.mem_append_right _ (List.mem_append_right _ (List.mem_append_right _ (List.mem_append_right _ (List.mem_of_getElem? (i := 2) (by decide +kernel)))))), kcX10_names⟩
theorem kcX10_range : MFc mX10_range 2 := ⟨gT5 (List.mem_of_getElem? (i := 176) rfl) rfl, kiRX10, by decide +kernel, by decide +kernel, by decide, by decide +kernel⟩
theorem kpX10_range : MFv mX10_range 2 := ⟨gT5 (List.mem_of_getElem? (i := 175) (by decide +kernel)) (by decide +kernel), gSl (q := (yX10_range, 52)) (List.mem_append_right _ (List.mem_append_right _ (List.mem_append_right _ (List.mem_append_right _ (List.mem_of_getElem? (i := 3) (by decide +kernel)))))), kcX10_range⟩
theorem kcX10_reckons : MFc mX10_reckons 1 := ⟨gT5 (List.mem_of_getElem? (i := 162) rfl) rfl, kiRX10, by decide +kernel, by decide +kernel, by decide, by decide +kernel⟩
theorem kpX10_reckons : MFv mX10_reckons 1 := ⟨gT5 (List.mem_of_getElem? (i := 161) (by decide +kernel)) (by decide +kernel), gSl (q := (yX10_reckons, 52)) (List.mem_append_right _ (List.mem_append_right _ (List.mem_append_right _ (List.mem_append_right _ (List.mem_of_getElem? (i := 0) (by decide +kernel)))))), kcX10_reckons⟩
theorem kcX10_works : MFc mX10_works 4 := ⟨gT5 (List.mem_of_getElem? (i := 158) rfl) rfl, kiRX10, by decide +kernel, by decide +kernel, by decide, by decide +kernel⟩
theorem kpX10_works : MFv mX10_works 4 := ⟨gT5 (List.mem_of_getElem? (i := 157) (by decide +kernel)) (by decide +kernel), gSl (q := (yX10_works, 52)) (List.mem_append_right _ (List.mem_append_right _ (List.mem_append_right _ (List.mem_append_left _ (List.mem_of_getElem? (i := 15) (by decide +kernel)))))), kcX10_works⟩
theorem kcX10_tells : MFc mX10_tells 4 := ⟨gT5 (List.mem_of_getElem? (i := 135) rfl) rfl, kiRX10, by decide +kernel, by decide +kernel, by decide, by decide +kernel⟩
theorem kpX10_tells : MFv mX10_tells 4 := ⟨gT5 (List.mem_of_getElem? (i := 134) (by decide +kernel)) (by decide +kernel), gSl (q := (yX10_tells, 52)) (List.mem_append_right _ (List.mem_append_right _ (List.mem_append_right _ (List.mem_append_left _ (List.mem_of_getElem? (i := 10) (by decide +kernel)))))), kcX10_tells⟩
theorem kcX10_tasks : MFc mX10_tasks 0 := ⟨gT5 (List.mem_of_getElem? (i := 139) rfl) rfl, kiRX10, by decide +kernel, by decide +kernel, by decide, by decide +kernel⟩
theorem kpX10_tasks : MFv mX10_tasks 0 := ⟨gT5 (List.mem_of_getElem? (i := 138) (by decide +kernel)) (by decide +kernel), gSl (q := (yX10_tasks, 52)) (List.mem_append_right _ (List.mem_append_right _ (List.mem_append_right _ (List.mem_append_left _ (List.mem_of_getElem? (i := 11) (by decide +kernel)))))), kcX10_tasks⟩
theorem kcX10_is : MFc mX10_is 3 := ⟨gT5 (List.mem_of_getElem? (i := 130) rfl) rfl, kiRX10, by decide +kernel, by decide +kernel, by decide, by decide +kernel⟩
theorem kpX10_is : MFv mX10_is 3 := ⟨gT5 (List.mem_of_getElem? (i := 129) (by decide +kernel)) (by decide +kernel), gSl (q := (yX10_is, 52)) (List.mem_append_right _ (List.mem_append_right _ (List.mem_append_right _ (List.mem_append_left _ (List.mem_of_getElem? (i := 9) (by decide +kernel)))))), kcX10_is⟩
theorem kcX10_value : MFc mX10_value 3 := ⟨gT5 (List.mem_of_getElem? (i := 126) rfl) rfl, kiRX10, by decide +kernel, by decide +kernel, by decide, by decide +kernel⟩
theorem kpX10_value : MFv mX10_value 3 := ⟨gT5 (List.mem_of_getElem? (i := 124) (by decide +kernel)) (by decide +kernel), gT5 (List.mem_of_getElem? (i := 125) (by decide +kernel)) (by decide +kernel), kcX10_value⟩
theorem kcX10_error : MFc mX10_error 3 := ⟨gT5 (List.mem_of_getElem? (i := 192) rfl) rfl, kiRX10, by decide +kernel, by decide +kernel, by decide, by decide +kernel⟩
theorem kpX10_error : MFv mX10_error 3 := ⟨gT5 (List.mem_of_getElem? (i := 190) (by decide +kernel)) (by decide +kernel), gT5 (List.mem_of_getElem? (i := 191) (by decide +kernel)) (by decide +kernel), kcX10_error⟩
theorem kcX10_right : MFc mX10_right 3 := ⟨gT5 (List.mem_of_getElem? (i := 196) rfl) rfl, kiRX10, by decide +kernel, by decide +kernel, by decide, by decide +kernel⟩
theorem kpX10_right : MFv mX10_right 3 := ⟨gT5 (List.mem_of_getElem? (i := 194) (by decide +kernel)) (by decide +kernel), gT5 (List.mem_of_getElem? (i := 195) (by decide +kernel)) (by decide +kernel), kcX10_right⟩
theorem kcX10_rightError : MFc mX10_rightError 3 := ⟨gT5 (List.mem_of_getElem? (i := 200) rfl) rfl, kiRX10, by decide +kernel, by decide +kernel, by decide, by decide +kernel⟩
theorem kpX10_rightError : MFv mX10_rightError 3 := ⟨gT5 (List.mem_of_getElem? (i := 198) (by decide +kernel)) (by decide +kernel), gT5 (List.mem_of_getElem? (i := 199) (by decide +kernel)) (by decide +kernel), kcX10_rightError⟩
theorem kcX10_isAlike : MFc mX10_isAlike 3 := ⟨gT5 (List.mem_of_getElem? (i := 215) rfl) rfl, kiRX10, by decide +kernel, by decide +kernel, by decide, by decide +kernel⟩
theorem kpX10_isAlike : MFv mX10_isAlike 3 := ⟨gT5 (List.mem_of_getElem? (i := 214) (by decide +kernel)) (by decide +kernel), gSl (q := (yX10_isAlike, 52)) (List.mem_append_right _ (List.mem_append_right _ (List.mem_append_right _ (List.mem_append_right _ (List.mem_of_getElem? (i := 8) (by decide +kernel)))))), kcX10_isAlike⟩
theorem kcX10_tries : MFc mX10_tries 6 := ⟨gT5 (List.mem_of_getElem? (i := 230) rfl) rfl, kiRX10, by decide +kernel, by decide +kernel, by decide, by decide +kernel⟩
theorem kpX10_tries : MFv mX10_tries 6 := ⟨gT5 (List.mem_of_getElem? (i := 229) (by decide +kernel)) (by decide +kernel), gSl (q := (yX10_tries, 52)) (List.mem_append_right _ (List.mem_append_right _ (List.mem_append_right _ (List.mem_append_right _ (List.mem_of_getElem? (i := 11) (by decide +kernel)))))), kcX10_tries⟩
theorem kcX10_signOf : MFc mX10_signOf 1 := ⟨gT5 (List.mem_of_getElem? (i := 226) rfl) rfl, kiRX10, by decide +kernel, by decide +kernel, by decide, by decide +kernel⟩
theorem kpX10_signOf : MFs mX10_signOf 1 := ⟨gT5 (List.mem_of_getElem? (i := 225) (by decide +kernel)) (by decide +kernel), kcX10_signOf⟩
theorem kcX10_beside : MFc mX10_beside 2 := ⟨gT5 (List.mem_of_getElem? (i := 233) rfl) rfl, kiRX10, by decide +kernel, by decide +kernel, by decide, by decide +kernel⟩
theorem kpX10_beside : MFs mX10_beside 2 := ⟨gT5 (List.mem_of_getElem? (i := 232) (by decide +kernel)) (by decide +kernel), kcX10_beside⟩
theorem kcX10_slips : MFc mX10_slips 5 := ⟨gT5 (List.mem_of_getElem? (i := 223) rfl) rfl, kiRX10, by decide +kernel, by decide +kernel, by decide, by decide +kernel⟩
theorem kpX10_slips : MFv mX10_slips 5 := ⟨gT5 (List.mem_of_getElem? (i := 222) (by decide +kernel)) (by decide +kernel), gSl (q := (yX10_slips, 52)) (List.mem_append_right _ (List.mem_append_right _ (List.mem_append_right _ (List.mem_append_right _ (List.mem_of_getElem? (i := 10) (by decide +kernel)))))), kcX10_slips⟩
theorem kcX10_isSlip : MFc mX10_isSlip 2 := ⟨gT5 (List.mem_of_getElem? (i := 219) rfl) rfl, kiRX10, by decide +kernel, by decide +kernel, by decide, by decide +kernel⟩
theorem kpX10_isSlip : MFv mX10_isSlip 2 := ⟨gT5 (List.mem_of_getElem? (i := 218) (by decide +kernel)) (by decide +kernel), gSl (q := (yX10_isSlip, 52)) (List.mem_append_right _ (List.mem_append_right _ (List.mem_append_right _ (List.mem_append_right _ (List.mem_of_getElem? (i := 9) (by decide +kernel)))))), kcX10_isSlip⟩
theorem kcX10_kindOf : MFc mX10_kindOf 2 := ⟨gT5 (List.mem_of_getElem? (i := 211) rfl) rfl, kiRX10, by decide +kernel, by decide +kernel, by decide, by decide +kernel⟩
theorem kpX10_kindOf : MFv mX10_kindOf 2 := ⟨gT5 (List.mem_of_getElem? (i := 210) (by decide +kernel)) (by decide +kernel), gSl (q := (yX10_kindOf, 52)) (List.mem_append_right _ (List.mem_append_right _ (List.mem_append_right _ (List.mem_append_right _ (List.mem_of_getElem? (i := 7) (by decide +kernel)))))), kcX10_kindOf⟩
theorem kcX10_isPupil : MFc mX10_isPupil 1 := ⟨gT5 (List.mem_of_getElem? (i := 207) rfl) rfl, kiRX10, by decide +kernel, by decide +kernel, by decide, by decide +kernel⟩
theorem kpX10_isPupil : MFs mX10_isPupil 1 := ⟨gT5 (List.mem_of_getElem? (i := 206) (by decide +kernel)) (by decide +kernel), kcX10_isPupil⟩
theorem kcX10_kind : MFc mX10_kind 2 := ⟨gT5 (List.mem_of_getElem? (i := 204) rfl) rfl, kiRX10, by decide +kernel, by decide +kernel, by decide, by decide +kernel⟩
theorem kpX10_kind : MFv mX10_kind 2 := ⟨gT5 (List.mem_of_getElem? (i := 202) (by decide +kernel)) (by decide +kernel), gT5 (List.mem_of_getElem? (i := 203) (by decide +kernel)) (by decide +kernel), kcX10_kind⟩
theorem kcX10_pointsOf : MFc mX10_pointsOf 2 := ⟨gT6 (List.mem_of_getElem? (i := 1) rfl) rfl, kiRX10, by decide +kernel, by decide +kernel, by decide, by decide +kernel⟩
theorem kpX10_pointsOf : MFv mX10_pointsOf 2 := ⟨gT6 (List.mem_of_getElem? (i := 0) (by decide +kernel)) (by decide +kernel), gSl (q := (yX10_pointsOf, 52)) (List.mem_append_right _ (List.mem_append_right _ (List.mem_append_right _ (List.mem_append_right _ (List.mem_of_getElem? (i := 12) (by decide +kernel)))))), kcX10_pointsOf⟩
theorem kcX10_points : MFc mX10_points 2 := ⟨gT5 (List.mem_of_getElem? (i := 237) rfl) rfl, kiRX10, by decide +kernel, by decide +kernel, by decide, by decide +kernel⟩
theorem kpX10_points : MFv mX10_points 2 := ⟨gT5 (List.mem_of_getElem? (i := 235) (by decide +kernel)) (by decide +kernel), gT5 (List.mem_of_getElem? (i := 236) (by decide +kernel)) (by decide +kernel), kcX10_points⟩
theorem kcX10_slip : MFc mX10_slip 3 := ⟨gT6 (List.mem_of_getElem? (i := 5) rfl) rfl, kiRX10, by decide +kernel, by decide +kernel, by decide, by decide +kernel⟩
theorem kpX10_slip : MFv mX10_slip 3 := ⟨gT6 (List.mem_of_getElem? (i := 3) (by decide +kernel)) (by decide +kernel), gT6 (List.mem_of_getElem? (i := 4) (by decide +kernel)) (by decide +kernel), kcX10_slip⟩
theorem kcX10_fault : MFc mX10_fault 2 := ⟨gT6 (List.mem_of_getElem? (i := 9) rfl) rfl, kiRX10, by decide +kernel, by decide +kernel, by decide, by decide +kernel⟩
theorem kpX10_fault : MFv mX10_fault 2 := ⟨gT6 (List.mem_of_getElem? (i := 7) (by decide +kernel)) (by decide +kernel), gT6 (List.mem_of_getElem? (i := 8) (by decide +kernel)) (by decide +kernel), kcX10_fault⟩
theorem kcX10_areOneText : MFc mX10_areOneText 2 := ⟨gT6 (List.mem_of_getElem? (i := 17) rfl) rfl, kiRX10, by decide +kernel, by decide +kernel, by decide, by decide +kernel⟩
theorem kpX10_areOneText : MFv mX10_areOneText 2 := ⟨gT6 (List.mem_of_getElem? (i := 16) (by decide +kernel)) (by decide +kernel), gSl (q := (yX10_areOneText, 52)) (List.mem_append_right _ (List.mem_append_right _ (List.mem_append_right _ (List.mem_append_right _ (List.mem_of_getElem? (i := 13) (by decide +kernel)))))), kcX10_areOneText⟩
theorem kcX10_copied : MFc mX10_copied 3 := ⟨gT6 (List.mem_of_getElem? (i := 13) rfl) rfl, kiRX10, by decide +kernel, by decide +kernel, by decide, by decide +kernel⟩
theorem kpX10_copied : MFv mX10_copied 3 := ⟨gT6 (List.mem_of_getElem? (i := 11) (by decide +kernel)) (by decide +kernel), gT6 (List.mem_of_getElem? (i := 12) (by decide +kernel)) (by decide +kernel), kcX10_copied⟩
theorem kcX10_comesTo : MFc mX10_comesTo 3 := ⟨gT6 (List.mem_of_getElem? (i := 25) rfl) rfl, kiRX10, by decide +kernel, by decide +kernel, by decide, by decide +kernel⟩
theorem kpX10_comesTo : MFv mX10_comesTo 3 := ⟨gT6 (List.mem_of_getElem? (i := 24) (by decide +kernel)) (by decide +kernel), gSl (q := (yX10_comesTo, 52)) (List.mem_append_right _ (List.mem_append_right _ (List.mem_append_right _ (List.mem_append_right _ (List.mem_of_getElem? (i := 14) (by decide +kernel)))))), kcX10_comesTo⟩
theorem kcX10_look : MFc mX10_look 3 := ⟨gT6 (List.mem_of_getElem? (i := 21) rfl) rfl, kiRX10, by decide +kernel, by decide +kernel, by decide, by decide +kernel⟩
theorem kpX10_look : MFv mX10_look 3 := ⟨gT6 (List.mem_of_getElem? (i := 19) (by decide +kernel)) (by decide +kernel), gT6 (List.mem_of_getElem? (i := 20) (by decide +kernel)) (by decide +kernel), kcX10_look⟩
theorem kcX10_count : MFc mX10_count 1 := ⟨gT6 (List.mem_of_getElem? (i := 29) rfl) rfl, kiRX10, by decide +kernel, by decide +kernel, by decide, by decide +kernel⟩
theorem kpX10_count : MFv mX10_count 1 := ⟨gT6 (List.mem_of_getElem? (i := 27) (by decide +kernel)) (by decide +kernel), gT6 (List.mem_of_getElem? (i := 28) (by decide +kernel)) (by decide +kernel), kcX10_count⟩
theorem kcJ13_bitCount_95d88 : MFc mJ13_bitCount_95d88 1 := ⟨gT2 (List.mem_of_getElem? (i := 193) rfl) rfl, kiRJ13, by decide +kernel, by decide +kernel, by decide, by decide +kernel⟩
theorem kpJ13_bitCount_95d88 : MFs mJ13_bitCount_95d88 1 := ⟨gT2 (List.mem_of_getElem? (i := 192) (by decide +kernel)) (by decide +kernel), kcJ13_bitCount_95d88⟩
theorem kcJ9_floorDiv_f86c9 : MFc mJ9_floorDiv_f86c9 2 := ⟨gT3 (List.mem_of_getElem? (i := 127) rfl) rfl, kiRJ9, by decide +kernel, by decide +kernel, by decide, by decide +kernel⟩
theorem kpJ9_floorDiv_f86c9 : MFs mJ9_floorDiv_f86c9 2 := ⟨gT3 (List.mem_of_getElem? (i := 126) (by decide +kernel)) (by decide +kernel), kcJ9_floorDiv_f86c9⟩
theorem kcJ9_abs_067f4 : MFc mJ9_abs_067f4 1 := ⟨gT3 (List.mem_of_getElem? (i := 120) rfl) rfl, kiRJ9, by decide +kernel, by decide +kernel, by decide, by decide +kernel⟩
theorem kpJ9_abs_067f4 : MFs mJ9_abs_067f4 1 := ⟨gT3 (List.mem_of_getElem? (i := 119) (by decide +kernel)) (by decide +kernel), kcJ9_abs_067f4⟩
theorem kcJ9_max_7cf53 : MFc mJ9_max_7cf53 2 := ⟨gT2 (List.mem_of_getElem? (i := 22) rfl) rfl, kiRJ9, by decide +kernel, by decide +kernel, by decide, by decide +kernel⟩
theorem kpJ9_max_7cf53 : MFs mJ9_max_7cf53 2 := ⟨gT2 (List.mem_of_getElem? (i := 21) (by decide +kernel)) (by decide +kernel), kcJ9_max_7cf53⟩
theorem kcJ9_max_f86c9 : MFc mJ9_max_f86c9 2 := ⟨gT3 (List.mem_of_getElem? (i := 130) rfl) rfl, kiRJ9, by decide +kernel, by decide +kernel, by decide, by decide +kernel⟩
theorem kpJ9_max_f86c9 : MFs mJ9_max_f86c9 2 := ⟨gT3 (List.mem_of_getElem? (i := 129) (by decide +kernel)) (by decide +kernel), kcJ9_max_f86c9⟩
theorem kcJ9_min_7cf53 : MFc mJ9_min_7cf53 2 := ⟨gT2 (List.mem_of_getElem? (i := 160) rfl) rfl, kiRJ9, by decide +kernel, by decide +kernel, by decide, by decide +kernel⟩
theorem kpJ9_min_7cf53 : MFs mJ9_min_7cf53 2 := ⟨gT2 (List.mem_of_getElem? (i := 159) (by decide +kernel)) (by decide +kernel), kcJ9_min_7cf53⟩
theorem knL_7 : NEW RL 7 9 := ⟨by decide, gT1 (List.mem_of_getElem? (i := 14) (by decide +kernel)) (by decide +kernel), gT1 (List.mem_of_getElem? (i := 15) (by decide +kernel)) (by decide +kernel), gT1 (List.mem_of_getElem? (i := 1) (by decide +kernel)) (by decide +kernel)⟩
theorem kclL_7 : Cond.classLink RL 7 RX9 ∈ wsG := gT1 (List.mem_of_getElem? (i := 14) (by decide +kernel)) (by decide +kernel)
theorem kmL_9 : MLK RL 9 mX9_init := gT1 (List.mem_of_getElem? (i := 16) (by decide +kernel)) (by decide +kernel)
theorem koX9_1 : Cond.methodLink RX9 1 objectInit ∈ wsG := gT1 (List.mem_of_getElem? (i := 19) (by decide +kernel)) (by decide +kernel)
theorem knX9_7 : NEW RX9 7 8 := ⟨by decide, gT1 (List.mem_of_getElem? (i := 22) (by decide +kernel)) (by decide +kernel), gT1 (List.mem_of_getElem? (i := 23) (by decide +kernel)) (by decide +kernel), gT1 (List.mem_of_getElem? (i := 2) (by decide +kernel)) (by decide +kernel)⟩
theorem kclX9_7 : Cond.classLink RX9 7 RX8 ∈ wsG := gT1 (List.mem_of_getElem? (i := 22) (by decide +kernel)) (by decide +kernel)
theorem kmX9_9 : MLK RX9 9 mX8_init := gT1 (List.mem_of_getElem? (i := 24) (by decide +kernel)) (by decide +kernel)
theorem koX8_3 : Cond.methodLink RX8 3 objectInit ∈ wsG := gT1 (List.mem_of_getElem? (i := 27) (by decide +kernel)) (by decide +kernel)
theorem kfX8_9 : FLK RX8 9 8 0 := ⟨by decide, gT1 (List.mem_of_getElem? (i := 28) (by decide +kernel)) (by decide +kernel)⟩
theorem kfX8_15 : FLK RX8 15 8 1 := ⟨by decide, gT1 (List.mem_of_getElem? (i := 29) (by decide +kernel)) (by decide +kernel)⟩
theorem ka_int : Cond.arrayClass .int ∈ wsG := gT1 (List.mem_of_getElem? (i := 35) (by decide +kernel)) (by decide +kernel)
theorem knX9_16 : NEW RX9 16 4 := ⟨by decide, gT1 (List.mem_of_getElem? (i := 36) (by decide +kernel)) (by decide +kernel), gT1 (List.mem_of_getElem? (i := 37) (by decide +kernel)) (by decide +kernel), gT1 (List.mem_of_getElem? (i := 3) (by decide +kernel)) (by decide +kernel)⟩
theorem kclX9_16 : Cond.classLink RX9 16 RX4 ∈ wsG := gT1 (List.mem_of_getElem? (i := 36) (by decide +kernel)) (by decide +kernel)
theorem kmX9_18 : MLK RX9 18 mX4_init := gT1 (List.mem_of_getElem? (i := 38) (by decide +kernel)) (by decide +kernel)
theorem koX4_3 : Cond.methodLink RX4 3 objectInit ∈ wsG := gT1 (List.mem_of_getElem? (i := 41) (by decide +kernel)) (by decide +kernel)
theorem kfX4_9 : FLK RX4 9 4 0 := ⟨by decide, gT1 (List.mem_of_getElem? (i := 42) (by decide +kernel)) (by decide +kernel)⟩
theorem kfX4_15 : FLK RX4 15 4 1 := ⟨by decide, gT1 (List.mem_of_getElem? (i := 43) (by decide +kernel)) (by decide +kernel)⟩
theorem kfX4_18 : FLK RX4 18 4 2 := ⟨by decide, gT1 (List.mem_of_getElem? (i := 44) (by decide +kernel)) (by decide +kernel)⟩
theorem kfX4_22 : FLK RX4 22 4 3 := ⟨by decide, gT1 (List.mem_of_getElem? (i := 45) (by decide +kernel)) (by decide +kernel)⟩
theorem kfX4_29 : FLK RX4 29 4 4 := ⟨by decide, gT1 (List.mem_of_getElem? (i := 46) (by decide +kernel)) (by decide +kernel)⟩
theorem knX9_23 : NEW RX9 23 7 := ⟨by decide, gT1 (List.mem_of_getElem? (i := 58) (by decide +kernel)) (by decide +kernel), gT1 (List.mem_of_getElem? (i := 60) (by decide +kernel)) (by decide +kernel), gT1 (List.mem_of_getElem? (i := 4) (by decide +kernel)) (by decide +kernel)⟩
theorem kclX9_23 : Cond.classLink RX9 23 RX7 ∈ wsG := gT1 (List.mem_of_getElem? (i := 58) (by decide +kernel)) (by decide +kernel)
theorem kmX9_29 : MLK RX9 29 mX7_init := gT1 (List.mem_of_getElem? (i := 61) (by decide +kernel)) (by decide +kernel)
theorem koX7_3 : Cond.methodLink RX7 3 objectInit ∈ wsG := gT1 (List.mem_of_getElem? (i := 64) (by decide +kernel)) (by decide +kernel)
theorem knX7_9 : NEW RX7 9 0 := ⟨by decide, gT1 (List.mem_of_getElem? (i := 65) (by decide +kernel)) (by decide +kernel), gT1 (List.mem_of_getElem? (i := 66) (by decide +kernel)) (by decide +kernel), gT1 (List.mem_of_getElem? (i := 5) (by decide +kernel)) (by decide +kernel)⟩
theorem kclX7_9 : Cond.classLink RX7 9 RX0 ∈ wsG := gT1 (List.mem_of_getElem? (i := 65) (by decide +kernel)) (by decide +kernel)
theorem kmX7_11 : MLK RX7 11 mX0_init := gT1 (List.mem_of_getElem? (i := 67) (by decide +kernel)) (by decide +kernel)
theorem koX0_3 : Cond.methodLink RX0 3 objectInit ∈ wsG := gT1 (List.mem_of_getElem? (i := 70) (by decide +kernel)) (by decide +kernel)
theorem kfX0_9 : FLK RX0 9 0 0 := ⟨by decide, gT1 (List.mem_of_getElem? (i := 71) (by decide +kernel)) (by decide +kernel)⟩
theorem kfX0_15 : FLK RX0 15 0 1 := ⟨by decide, gT1 (List.mem_of_getElem? (i := 72) (by decide +kernel)) (by decide +kernel)⟩
theorem knX7_25 : NEW RX7 25 2 := ⟨by decide, gT1 (List.mem_of_getElem? (i := 78) (by decide +kernel)) (by decide +kernel), gT2 (List.mem_of_getElem? (i := 15) (by decide +kernel)) (by decide +kernel), gT1 (List.mem_of_getElem? (i := 10) (by decide +kernel)) (by decide +kernel)⟩
theorem kclX7_25 : Cond.classLink RX7 25 RX2 ∈ wsG := gT1 (List.mem_of_getElem? (i := 78) (by decide +kernel)) (by decide +kernel)
theorem kfX7_12 : FLK RX7 12 7 0 := ⟨by decide, gT1 (List.mem_of_getElem? (i := 80) (by decide +kernel)) (by decide +kernel)⟩
theorem kfX7_18 : FLK RX7 18 7 1 := ⟨by decide, gT1 (List.mem_of_getElem? (i := 81) (by decide +kernel)) (by decide +kernel)⟩
theorem kfX7_22 : FLK RX7 22 7 2 := ⟨by decide, gT1 (List.mem_of_getElem? (i := 82) (by decide +kernel)) (by decide +kernel)⟩
theorem kfX7_27 : FLK RX7 27 7 3 := ⟨by decide, gT1 (List.mem_of_getElem? (i := 83) (by decide +kernel)) (by decide +kernel)⟩
theorem kfX7_31 : FLK RX7 31 7 4 := ⟨by decide, gT1 (List.mem_of_getElem? (i := 84) (by decide +kernel)) (by decide +kernel)⟩
theorem kfX7_46 : FLK RX7 46 7 5 := ⟨by decide, gT1 (List.mem_of_getElem? (i := 85) (by decide +kernel)) (by decide +kernel)⟩
theorem ka_long : Cond.arrayClass .long ∈ wsG := gT1 (List.mem_of_getElem? (i := 99) (by decide +kernel)) (by decide +kernel)
theorem knX9_30 : NEW RX9 30 5 := ⟨by decide, gT1 (List.mem_of_getElem? (i := 100) (by decide +kernel)) (by decide +kernel), gT1 (List.mem_of_getElem? (i := 101) (by decide +kernel)) (by decide +kernel), gT1 (List.mem_of_getElem? (i := 6) (by decide +kernel)) (by decide +kernel)⟩
theorem kclX9_30 : Cond.classLink RX9 30 RX5 ∈ wsG := gT1 (List.mem_of_getElem? (i := 100) (by decide +kernel)) (by decide +kernel)
theorem kmX9_32 : MLK RX9 32 mX5_init := gT1 (List.mem_of_getElem? (i := 102) (by decide +kernel)) (by decide +kernel)
theorem koX5_3 : Cond.methodLink RX5 3 objectInit ∈ wsG := gT1 (List.mem_of_getElem? (i := 105) (by decide +kernel)) (by decide +kernel)
theorem kfX5_9 : FLK RX5 9 5 0 := ⟨by decide, gT1 (List.mem_of_getElem? (i := 106) (by decide +kernel)) (by decide +kernel)⟩
theorem kfX5_23 : FLK RX5 23 5 1 := ⟨by decide, gT1 (List.mem_of_getElem? (i := 107) (by decide +kernel)) (by decide +kernel)⟩
theorem kfX5_15 : FLK RX5 15 5 2 := ⟨by decide, gT1 (List.mem_of_getElem? (i := 108) (by decide +kernel)) (by decide +kernel)⟩
theorem kfX5_19 : FLK RX5 19 5 3 := ⟨by decide, gT1 (List.mem_of_getElem? (i := 109) (by decide +kernel)) (by decide +kernel)⟩
theorem knX9_33 : NEW RX9 33 1 := ⟨by decide, gT1 (List.mem_of_getElem? (i := 119) (by decide +kernel)) (by decide +kernel), gT1 (List.mem_of_getElem? (i := 120) (by decide +kernel)) (by decide +kernel), gT1 (List.mem_of_getElem? (i := 7) (by decide +kernel)) (by decide +kernel)⟩
theorem kclX9_33 : Cond.classLink RX9 33 RX1 ∈ wsG := gT1 (List.mem_of_getElem? (i := 119) (by decide +kernel)) (by decide +kernel)
theorem kmX9_35 : MLK RX9 35 mX1_init := gT1 (List.mem_of_getElem? (i := 121) (by decide +kernel)) (by decide +kernel)
theorem koX1_3 : Cond.methodLink RX1 3 objectInit ∈ wsG := gT1 (List.mem_of_getElem? (i := 124) (by decide +kernel)) (by decide +kernel)
theorem knX1_19 : NEW RX1 19 0 := ⟨by decide, gT1 (List.mem_of_getElem? (i := 125) (by decide +kernel)) (by decide +kernel), gT1 (List.mem_of_getElem? (i := 66) (by decide +kernel)) (by decide +kernel), gT1 (List.mem_of_getElem? (i := 5) (by decide +kernel)) (by decide +kernel)⟩
theorem kclX1_19 : Cond.classLink RX1 19 RX0 ∈ wsG := gT1 (List.mem_of_getElem? (i := 125) (by decide +kernel)) (by decide +kernel)
theorem kmX1_21 : MLK RX1 21 mX0_init := gT1 (List.mem_of_getElem? (i := 126) (by decide +kernel)) (by decide +kernel)
theorem kfX1_9 : FLK RX1 9 1 0 := ⟨by decide, gT1 (List.mem_of_getElem? (i := 127) (by decide +kernel)) (by decide +kernel)⟩
theorem kfX1_15 : FLK RX1 15 1 1 := ⟨by decide, gT1 (List.mem_of_getElem? (i := 128) (by decide +kernel)) (by decide +kernel)⟩
theorem kfX1_22 : FLK RX1 22 1 2 := ⟨by decide, gT1 (List.mem_of_getElem? (i := 129) (by decide +kernel)) (by decide +kernel)⟩
theorem kfX1_26 : FLK RX1 26 1 3 := ⟨by decide, gT1 (List.mem_of_getElem? (i := 130) (by decide +kernel)) (by decide +kernel)⟩
theorem kfX1_30 : FLK RX1 30 1 4 := ⟨by decide, gT1 (List.mem_of_getElem? (i := 131) (by decide +kernel)) (by decide +kernel)⟩
theorem kfX1_34 : FLK RX1 34 1 5 := ⟨by decide, gT1 (List.mem_of_getElem? (i := 132) (by decide +kernel)) (by decide +kernel)⟩
theorem kfX1_88 : FLK RX1 88 1 6 := ⟨by decide, gT1 (List.mem_of_getElem? (i := 133) (by decide +kernel)) (by decide +kernel)⟩
theorem kfX1_45 : FLK RX1 45 1 7 := ⟨by decide, gT1 (List.mem_of_getElem? (i := 134) (by decide +kernel)) (by decide +kernel)⟩
theorem knX9_48 : NEW RX9 48 3 := ⟨by decide, gT1 (List.mem_of_getElem? (i := 152) (by decide +kernel)) (by decide +kernel), gT1 (List.mem_of_getElem? (i := 153) (by decide +kernel)) (by decide +kernel), gT1 (List.mem_of_getElem? (i := 8) (by decide +kernel)) (by decide +kernel)⟩
theorem kclX9_48 : Cond.classLink RX9 48 RX3 ∈ wsG := gT1 (List.mem_of_getElem? (i := 152) (by decide +kernel)) (by decide +kernel)
theorem kmX9_50 : MLK RX9 50 mX3_init := gT1 (List.mem_of_getElem? (i := 154) (by decide +kernel)) (by decide +kernel)
theorem koX3_3 : Cond.methodLink RX3 3 objectInit ∈ wsG := gT1 (List.mem_of_getElem? (i := 157) (by decide +kernel)) (by decide +kernel)
theorem knX3_29 : NEW RX3 29 0 := ⟨by decide, gT1 (List.mem_of_getElem? (i := 158) (by decide +kernel)) (by decide +kernel), gT1 (List.mem_of_getElem? (i := 66) (by decide +kernel)) (by decide +kernel), gT1 (List.mem_of_getElem? (i := 5) (by decide +kernel)) (by decide +kernel)⟩
theorem kclX3_29 : Cond.classLink RX3 29 RX0 ∈ wsG := gT1 (List.mem_of_getElem? (i := 158) (by decide +kernel)) (by decide +kernel)
theorem kmX3_31 : MLK RX3 31 mX0_init := gT1 (List.mem_of_getElem? (i := 159) (by decide +kernel)) (by decide +kernel)
theorem kfX3_9 : FLK RX3 9 3 0 := ⟨by decide, gT1 (List.mem_of_getElem? (i := 160) (by decide +kernel)) (by decide +kernel)⟩
theorem kfX3_15 : FLK RX3 15 3 1 := ⟨by decide, gT1 (List.mem_of_getElem? (i := 161) (by decide +kernel)) (by decide +kernel)⟩
theorem kfX3_32 : FLK RX3 32 3 2 := ⟨by decide, gT1 (List.mem_of_getElem? (i := 162) (by decide +kernel)) (by decide +kernel)⟩
theorem kfX3_19 : FLK RX3 19 3 3 := ⟨by decide, gT1 (List.mem_of_getElem? (i := 163) (by decide +kernel)) (by decide +kernel)⟩
theorem kfX3_23 : FLK RX3 23 3 4 := ⟨by decide, gT1 (List.mem_of_getElem? (i := 164) (by decide +kernel)) (by decide +kernel)⟩
theorem kfX3_26 : FLK RX3 26 3 5 := ⟨by decide, gT1 (List.mem_of_getElem? (i := 165) (by decide +kernel)) (by decide +kernel)⟩
theorem kfX3_36 : FLK RX3 36 3 6 := ⟨by decide, gT1 (List.mem_of_getElem? (i := 166) (by decide +kernel)) (by decide +kernel)⟩
theorem kfX3_40 : FLK RX3 40 3 7 := ⟨by decide, gT1 (List.mem_of_getElem? (i := 167) (by decide +kernel)) (by decide +kernel)⟩
theorem kfX9_10 : FLK RX9 10 9 0 := ⟨by decide, gT1 (List.mem_of_getElem? (i := 185) (by decide +kernel)) (by decide +kernel)⟩
theorem kfX9_19 : FLK RX9 19 9 1 := ⟨by decide, gT1 (List.mem_of_getElem? (i := 186) (by decide +kernel)) (by decide +kernel)⟩
theorem kfX9_25 : FLK RX9 25 9 2 := ⟨by decide, gT1 (List.mem_of_getElem? (i := 187) (by decide +kernel)) (by decide +kernel)⟩
theorem kfX9_38 : FLK RX9 38 9 3 := ⟨by decide, gT1 (List.mem_of_getElem? (i := 188) (by decide +kernel)) (by decide +kernel)⟩
theorem kfX9_42 : FLK RX9 42 9 4 := ⟨by decide, gT1 (List.mem_of_getElem? (i := 189) (by decide +kernel)) (by decide +kernel)⟩
theorem kfX9_45 : FLK RX9 45 9 5 := ⟨by decide, gT1 (List.mem_of_getElem? (i := 190) (by decide +kernel)) (by decide +kernel)⟩
theorem kfX9_53 : FLK RX9 53 9 6 := ⟨by decide, gT1 (List.mem_of_getElem? (i := 191) (by decide +kernel)) (by decide +kernel)⟩
theorem kmL_13 : MLK RL 13 mX9_feed := gT1 (List.mem_of_getElem? (i := 207) (by decide +kernel)) (by decide +kernel)
theorem kmX9_57 : MLK RX9 57 mX8_hasRoom := gT1 (List.mem_of_getElem? (i := 211) (by decide +kernel)) (by decide +kernel)
theorem kmX9_61 : MLK RX9 61 mX8_append := gT1 (List.mem_of_getElem? (i := 215) (by decide +kernel)) (by decide +kernel)
theorem kmX9_65 : MLK RX9 65 mX8_length := gT1 (List.mem_of_getElem? (i := 219) (by decide +kernel)) (by decide +kernel)
theorem kmL_18 : MLK RL 18 mX9_number := gT1 (List.mem_of_getElem? (i := 223) (by decide +kernel)) (by decide +kernel)
theorem kmX9_69 : MLK RX9 69 mX9_sheetAt := gT1 (List.mem_of_getElem? (i := 227) (by decide +kernel)) (by decide +kernel)
theorem kmX9_73 : MLK RX9 73 mX9_isCell := gT1 (List.mem_of_getElem? (i := 231) (by decide +kernel)) (by decide +kernel)
theorem kmX9_77 : MLK RX9 77 mX9_isNumber := gT1 (List.mem_of_getElem? (i := 234) (by decide +kernel)) (by decide +kernel)
theorem kmX9_80 : MLK RX9 80 mX7_putNumber := gT1 (List.mem_of_getElem? (i := 237) (by decide +kernel)) (by decide +kernel)
theorem kmX7_35 : MLK RX7 35 mX7_put := gT2 (List.mem_of_getElem? (i := 1) (by decide +kernel)) (by decide +kernel)
theorem kkX7_54 : Cond.constantLong RX7 54 (-1) ∈ wsG := gT2 (List.mem_of_getElem? (i := 9) (by decide +kernel)) (by decide +kernel)
theorem kmL_23 : MLK RL 23 mX9_formula := gT2 (List.mem_of_getElem? (i := 10) (by decide +kernel)) (by decide +kernel)
theorem knX9_84 : NEW RX9 84 2 := ⟨by decide, gT2 (List.mem_of_getElem? (i := 14) (by decide +kernel)) (by decide +kernel), gT2 (List.mem_of_getElem? (i := 15) (by decide +kernel)) (by decide +kernel), gT1 (List.mem_of_getElem? (i := 10) (by decide +kernel)) (by decide +kernel)⟩
theorem kclX9_84 : Cond.classLink RX9 84 RX2 ∈ wsG := gT2 (List.mem_of_getElem? (i := 14) (by decide +kernel)) (by decide +kernel)
theorem kmX9_86 : MLK RX9 86 mX2_init := gT2 (List.mem_of_getElem? (i := 16) (by decide +kernel)) (by decide +kernel)
theorem koX2_3 : Cond.methodLink RX2 3 objectInit ∈ wsG := gT2 (List.mem_of_getElem? (i := 19) (by decide +kernel)) (by decide +kernel)
theorem kmX2_9 : MLK RX2 9 mJ9_max_7cf53 := gT2 (List.mem_of_getElem? (i := 20) (by decide +kernel)) (by decide +kernel)
theorem kfX2_15 : FLK RX2 15 2 0 := ⟨by decide, gT2 (List.mem_of_getElem? (i := 23) (by decide +kernel)) (by decide +kernel)⟩
theorem kfX2_21 : FLK RX2 21 2 1 := ⟨by decide, gT2 (List.mem_of_getElem? (i := 24) (by decide +kernel)) (by decide +kernel)⟩
theorem kfX2_24 : FLK RX2 24 2 2 := ⟨by decide, gT2 (List.mem_of_getElem? (i := 25) (by decide +kernel)) (by decide +kernel)⟩
theorem kfX2_27 : FLK RX2 27 2 3 := ⟨by decide, gT2 (List.mem_of_getElem? (i := 26) (by decide +kernel)) (by decide +kernel)⟩
theorem kfX2_38 : FLK RX2 38 2 4 := ⟨by decide, gT2 (List.mem_of_getElem? (i := 27) (by decide +kernel)) (by decide +kernel)⟩
theorem kmX9_88 : MLK RX9 88 mX8_moveTo := gT2 (List.mem_of_getElem? (i := 39) (by decide +kernel)) (by decide +kernel)
theorem kmX8_19 : MLK RX8 19 mX2_putByte := gT2 (List.mem_of_getElem? (i := 43) (by decide +kernel)) (by decide +kernel)
theorem knX9_92 : NEW RX9 92 6 := ⟨by decide, gT2 (List.mem_of_getElem? (i := 47) (by decide +kernel)) (by decide +kernel), gT2 (List.mem_of_getElem? (i := 48) (by decide +kernel)) (by decide +kernel), gT1 (List.mem_of_getElem? (i := 12) (by decide +kernel)) (by decide +kernel)⟩
theorem kclX9_92 : Cond.classLink RX9 92 RX6 ∈ wsG := gT2 (List.mem_of_getElem? (i := 47) (by decide +kernel)) (by decide +kernel)
theorem kmX9_94 : MLK RX9 94 mX6_init := gT2 (List.mem_of_getElem? (i := 49) (by decide +kernel)) (by decide +kernel)
theorem koX6_3 : Cond.methodLink RX6 3 objectInit ∈ wsG := gT2 (List.mem_of_getElem? (i := 52) (by decide +kernel)) (by decide +kernel)
theorem kfX6_9 : FLK RX6 9 6 0 := ⟨by decide, gT2 (List.mem_of_getElem? (i := 53) (by decide +kernel)) (by decide +kernel)⟩
theorem kfX6_22 : FLK RX6 22 6 1 := ⟨by decide, gT2 (List.mem_of_getElem? (i := 54) (by decide +kernel)) (by decide +kernel)⟩
theorem kfX6_35 : FLK RX6 35 6 2 := ⟨by decide, gT2 (List.mem_of_getElem? (i := 55) (by decide +kernel)) (by decide +kernel)⟩
theorem kmX9_96 : MLK RX9 96 mX6_parse := gT2 (List.mem_of_getElem? (i := 63) (by decide +kernel)) (by decide +kernel)
theorem kmX6_15 : MLK RX6 15 mX6_pass := gT2 (List.mem_of_getElem? (i := 67) (by decide +kernel)) (by decide +kernel)
theorem kmX6_42 : MLK RX6 42 mX6_passWithin := gT2 (List.mem_of_getElem? (i := 71) (by decide +kernel)) (by decide +kernel)
theorem kmX6_46 : MLK RX6 46 mX6_next := gT2 (List.mem_of_getElem? (i := 75) (by decide +kernel)) (by decide +kernel)
theorem kmX6_38 : MLK RX6 38 mX2_byteAt := gT2 (List.mem_of_getElem? (i := 79) (by decide +kernel)) (by decide +kernel)
theorem kmX6_32 : MLK RX6 32 mX6_fail := gT2 (List.mem_of_getElem? (i := 83) (by decide +kernel)) (by decide +kernel)
theorem kmX6_19 : MLK RX6 19 mX6_readSum := gT2 (List.mem_of_getElem? (i := 87) (by decide +kernel)) (by decide +kernel)
theorem kmX6_49 : MLK RX6 49 mX6_readProduct := gT2 (List.mem_of_getElem? (i := 91) (by decide +kernel)) (by decide +kernel)
theorem kmX6_56 : MLK RX6 56 mX6_readFactor := gT2 (List.mem_of_getElem? (i := 95) (by decide +kernel)) (by decide +kernel)
theorem kmX6_59 : MLK RX6 59 mX6_readNegative := gT2 (List.mem_of_getElem? (i := 99) (by decide +kernel)) (by decide +kernel)
theorem kmX6_52 : MLK RX6 52 mX2_addStep := gT2 (List.mem_of_getElem? (i := 103) (by decide +kernel)) (by decide +kernel)
theorem kmX6_62 : MLK RX6 62 mX6_readRectangle := gT2 (List.mem_of_getElem? (i := 107) (by decide +kernel)) (by decide +kernel)
theorem kmX6_75 : MLK RX6 75 mX6_readCell := gT2 (List.mem_of_getElem? (i := 111) (by decide +kernel)) (by decide +kernel)
theorem kmX6_65 : MLK RX6 65 mX6_readGreater := gT2 (List.mem_of_getElem? (i := 115) (by decide +kernel)) (by decide +kernel)
theorem kmX6_68 : MLK RX6 68 mX6_isDigit := gT2 (List.mem_of_getElem? (i := 119) (by decide +kernel)) (by decide +kernel)
theorem kmX6_72 : MLK RX6 72 mX6_readNumber := gT2 (List.mem_of_getElem? (i := 122) (by decide +kernel)) (by decide +kernel)
theorem kmX6_26 : MLK RX6 26 mX2_length := gT2 (List.mem_of_getElem? (i := 126) (by decide +kernel)) (by decide +kernel)
theorem kmX9_99 : MLK RX9 99 mX7_putFormula := gT2 (List.mem_of_getElem? (i := 130) (by decide +kernel)) (by decide +kernel)
theorem kmX7_39 : MLK RX7 39 mX2_needs := gT2 (List.mem_of_getElem? (i := 134) (by decide +kernel)) (by decide +kernel)
theorem kmX2_42 : MLK RX2 42 mX2_placeOf := gT2 (List.mem_of_getElem? (i := 138) (by decide +kernel)) (by decide +kernel)
theorem kmX2_45 : MLK RX2 45 mX2_stepAt := gT2 (List.mem_of_getElem? (i := 142) (by decide +kernel)) (by decide +kernel)
theorem kmX2_48 : MLK RX2 48 mX0_operandOf := gT2 (List.mem_of_getElem? (i := 146) (by decide +kernel)) (by decide +kernel)
theorem kmX0_28 : MLK RX0 28 mX2_operandAt := gT2 (List.mem_of_getElem? (i := 150) (by decide +kernel)) (by decide +kernel)
theorem kmX9_229 : MLK RX9 229 mJ9_min_7cf53 := gT2 (List.mem_of_getElem? (i := 158) (by decide +kernel)) (by decide +kernel)
theorem kmX9_234 : MLK RX9 234 mJ9_max_7cf53 := gT2 (List.mem_of_getElem? (i := 161) (by decide +kernel)) (by decide +kernel)
theorem kmL_28 : MLK RL 28 mX9_clear := gT2 (List.mem_of_getElem? (i := 162) (by decide +kernel)) (by decide +kernel)
theorem kmX9_103 : MLK RX9 103 mX7_heldAt := gT2 (List.mem_of_getElem? (i := 166) (by decide +kernel)) (by decide +kernel)
theorem kmX9_107 : MLK RX9 107 mX7_empty := gT2 (List.mem_of_getElem? (i := 170) (by decide +kernel)) (by decide +kernel)
theorem kmL_33 : MLK RL 33 mX9_input := gT2 (List.mem_of_getElem? (i := 174) (by decide +kernel)) (by decide +kernel)
theorem kmX9_110 : MLK RX9 110 mX4_isInput := gT2 (List.mem_of_getElem? (i := 178) (by decide +kernel)) (by decide +kernel)
theorem kmX9_113 : MLK RX9 113 mX4_isWanted := gT2 (List.mem_of_getElem? (i := 183) (by decide +kernel)) (by decide +kernel)
theorem kmX9_116 : MLK RX9 116 mX4_countInputs := gT2 (List.mem_of_getElem? (i := 187) (by decide +kernel)) (by decide +kernel)
theorem kmX4_33 : MLK RX4 33 mJ13_bitCount_95d88 := gT2 (List.mem_of_getElem? (i := 191) (by decide +kernel)) (by decide +kernel)
theorem kkJ13_314 : Cond.constantLong RJ13 314 (6148914691236517205) ∈ wsG := gT2 (List.mem_of_getElem? (i := 194) (by decide +kernel)) (by decide +kernel)
theorem kkJ13_316 : Cond.constantLong RJ13 316 (3689348814741910323) ∈ wsG := gT2 (List.mem_of_getElem? (i := 195) (by decide +kernel)) (by decide +kernel)
theorem kkJ13_318 : Cond.constantLong RJ13 318 (1085102592571150095) ∈ wsG := gT2 (List.mem_of_getElem? (i := 196) (by decide +kernel)) (by decide +kernel)
theorem kmX9_119 : MLK RX9 119 mX4_addInput := gT2 (List.mem_of_getElem? (i := 197) (by decide +kernel)) (by decide +kernel)
theorem kmL_38 : MLK RL 38 mX9_wants := gT2 (List.mem_of_getElem? (i := 201) (by decide +kernel)) (by decide +kernel)
theorem kmX9_122 : MLK RX9 122 mX4_countWanted := gT2 (List.mem_of_getElem? (i := 205) (by decide +kernel)) (by decide +kernel)
theorem kmX9_125 : MLK RX9 125 mX4_want := gT2 (List.mem_of_getElem? (i := 209) (by decide +kernel)) (by decide +kernel)
theorem kmL_42 : MLK RL 42 mX9_world := gT2 (List.mem_of_getElem? (i := 214) (by decide +kernel)) (by decide +kernel)
theorem kmX9_128 : MLK RX9 128 mX4_countWorlds := gT2 (List.mem_of_getElem? (i := 218) (by decide +kernel)) (by decide +kernel)
theorem kmX9_131 : MLK RX9 131 mX4_addWorld := gT2 (List.mem_of_getElem? (i := 222) (by decide +kernel)) (by decide +kernel)
theorem kmL_47 : MLK RL 47 mX9_give := gT2 (List.mem_of_getElem? (i := 226) (by decide +kernel)) (by decide +kernel)
theorem kmX9_134 : MLK RX9 134 mX4_isWorld := gT2 (List.mem_of_getElem? (i := 230) (by decide +kernel)) (by decide +kernel)
theorem kmX9_137 : MLK RX9 137 mX4_put := gT2 (List.mem_of_getElem? (i := 234) (by decide +kernel)) (by decide +kernel)
theorem kmX4_47 : MLK RX4 47 mX4_isWorld := gT2 (List.mem_of_getElem? (i := 238) (by decide +kernel)) (by decide +kernel)
theorem kmL_51 : MLK RL 51 mX9_value := gT2 (List.mem_of_getElem? (i := 239) (by decide +kernel)) (by decide +kernel)
theorem kmX9_141 : MLK RX9 141 mX9_reckonsOwn := gT3 (List.mem_of_getElem? (i := 3) (by decide +kernel)) (by decide +kernel)
theorem kmX9_204 : MLK RX9 204 mX1_reckonOwn := gT3 (List.mem_of_getElem? (i := 7) (by decide +kernel)) (by decide +kernel)
theorem kmX1_51 : MLK RX1 51 mX4_inputs := gT3 (List.mem_of_getElem? (i := 11) (by decide +kernel)) (by decide +kernel)
theorem kmX1_57 : MLK RX1 57 mX7_reckoned := gT3 (List.mem_of_getElem? (i := 15) (by decide +kernel)) (by decide +kernel)
theorem kkX1_49 : Cond.constantLong RX1 49 (-1) ∈ wsG := gT3 (List.mem_of_getElem? (i := 19) (by decide +kernel)) (by decide +kernel)
theorem kmX1_62 : MLK RX1 62 mX1_plan := gT3 (List.mem_of_getElem? (i := 20) (by decide +kernel)) (by decide +kernel)
theorem kmX1_92 : MLK RX1 92 mX7_needsAt := gT3 (List.mem_of_getElem? (i := 25) (by decide +kernel)) (by decide +kernel)
theorem kmX1_95 : MLK RX1 95 mX1_settles := gT3 (List.mem_of_getElem? (i := 29) (by decide +kernel)) (by decide +kernel)
theorem kmX1_99 : MLK RX1 99 mX1_append := gT3 (List.mem_of_getElem? (i := 33) (by decide +kernel)) (by decide +kernel)
theorem kmX1_66 : MLK RX1 66 mX4_isWorld := gT3 (List.mem_of_getElem? (i := 37) (by decide +kernel)) (by decide +kernel)
theorem kmX1_70 : MLK RX1 70 mX1_layHeld := gT3 (List.mem_of_getElem? (i := 38) (by decide +kernel)) (by decide +kernel)
theorem kmX1_103 : MLK RX1 103 mX4_isInput := gT3 (List.mem_of_getElem? (i := 42) (by decide +kernel)) (by decide +kernel)
theorem kmX1_106 : MLK RX1 106 mX4_given := gT3 (List.mem_of_getElem? (i := 43) (by decide +kernel)) (by decide +kernel)
theorem kmX1_109 : MLK RX1 109 mX1_put := gT3 (List.mem_of_getElem? (i := 47) (by decide +kernel)) (by decide +kernel)
theorem kmX1_113 : MLK RX1 113 mX7_heldAt := gT3 (List.mem_of_getElem? (i := 51) (by decide +kernel)) (by decide +kernel)
theorem kmX1_117 : MLK RX1 117 mX7_numberAt := gT3 (List.mem_of_getElem? (i := 52) (by decide +kernel)) (by decide +kernel)
theorem kmX1_74 : MLK RX1 74 mX1_follow := gT3 (List.mem_of_getElem? (i := 56) (by decide +kernel)) (by decide +kernel)
theorem kmX1_120 : MLK RX1 120 mX7_formulaAt := gT3 (List.mem_of_getElem? (i := 60) (by decide +kernel)) (by decide +kernel)
theorem kmX1_124 : MLK RX1 124 mX5_reckon := gT3 (List.mem_of_getElem? (i := 64) (by decide +kernel)) (by decide +kernel)
theorem kmX5_26 : MLK RX5 26 mX2_countSteps := gT3 (List.mem_of_getElem? (i := 68) (by decide +kernel)) (by decide +kernel)
theorem kmX5_32 : MLK RX5 32 mX2_placeOf := gT3 (List.mem_of_getElem? (i := 72) (by decide +kernel)) (by decide +kernel)
theorem kmX5_36 : MLK RX5 36 mX0_operandOf := gT3 (List.mem_of_getElem? (i := 73) (by decide +kernel)) (by decide +kernel)
theorem kmX5_42 : MLK RX5 42 mX0_stepOf := gT3 (List.mem_of_getElem? (i := 74) (by decide +kernel)) (by decide +kernel)
theorem kmX0_18 : MLK RX0 18 mX2_stepAt := gT3 (List.mem_of_getElem? (i := 78) (by decide +kernel)) (by decide +kernel)
theorem kmX5_45 : MLK RX5 45 mX5_push := gT3 (List.mem_of_getElem? (i := 82) (by decide +kernel)) (by decide +kernel)
theorem kkX5_65 : Cond.constantLong RX5 65 (1000000000000) ∈ wsG := gT3 (List.mem_of_getElem? (i := 86) (by decide +kernel)) (by decide +kernel)
theorem kkX5_67 : Cond.constantLong RX5 67 (-1000000000000) ∈ wsG := gT3 (List.mem_of_getElem? (i := 87) (by decide +kernel)) (by decide +kernel)
theorem kmX5_49 : MLK RX5 49 mX5_pushCell := gT3 (List.mem_of_getElem? (i := 88) (by decide +kernel)) (by decide +kernel)
theorem kmX5_69 : MLK RX5 69 mX1_errorAt := gT3 (List.mem_of_getElem? (i := 92) (by decide +kernel)) (by decide +kernel)
theorem kmX5_75 : MLK RX5 75 mX1_figureAt := gT3 (List.mem_of_getElem? (i := 96) (by decide +kernel)) (by decide +kernel)
theorem kmX5_53 : MLK RX5 53 mX5_pop := gT3 (List.mem_of_getElem? (i := 100) (by decide +kernel)) (by decide +kernel)
theorem kmX5_57 : MLK RX5 57 mX5_pushRectangle := gT3 (List.mem_of_getElem? (i := 104) (by decide +kernel)) (by decide +kernel)
theorem kmX5_61 : MLK RX5 61 mX5_join := gT3 (List.mem_of_getElem? (i := 110) (by decide +kernel)) (by decide +kernel)
theorem kmX5_86 : MLK RX5 86 mX5_multiply := gT3 (List.mem_of_getElem? (i := 114) (by decide +kernel)) (by decide +kernel)
theorem kmX5_99 : MLK RX5 99 mJ9_abs_067f4 := gT3 (List.mem_of_getElem? (i := 118) (by decide +kernel)) (by decide +kernel)
theorem kmX5_90 : MLK RX5 90 mX5_divide := gT3 (List.mem_of_getElem? (i := 121) (by decide +kernel)) (by decide +kernel)
theorem kmX5_103 : MLK RX5 103 mJ9_floorDiv_f86c9 := gT3 (List.mem_of_getElem? (i := 125) (by decide +kernel)) (by decide +kernel)
theorem kmX5_93 : MLK RX5 93 mJ9_max_f86c9 := gT3 (List.mem_of_getElem? (i := 128) (by decide +kernel)) (by decide +kernel)
theorem kmX1_130 : MLK RX1 130 mX5_result := gT3 (List.mem_of_getElem? (i := 131) (by decide +kernel)) (by decide +kernel)
theorem kmX1_133 : MLK RX1 133 mX5_errorMet := gT3 (List.mem_of_getElem? (i := 135) (by decide +kernel)) (by decide +kernel)
theorem kmX9_145 : MLK RX9 145 mX1_figureAt := gT3 (List.mem_of_getElem? (i := 139) (by decide +kernel)) (by decide +kernel)
theorem kkX9_149 : Cond.constantLong RX9 149 (-1) ∈ wsG := gT3 (List.mem_of_getElem? (i := 140) (by decide +kernel)) (by decide +kernel)
theorem kmL_56 : MLK RL 56 mX9_error := gT3 (List.mem_of_getElem? (i := 141) (by decide +kernel)) (by decide +kernel)
theorem kmX9_151 : MLK RX9 151 mX1_errorAt := gT3 (List.mem_of_getElem? (i := 145) (by decide +kernel)) (by decide +kernel)
theorem kmL_60 : MLK RL 60 mX9_right := gT3 (List.mem_of_getElem? (i := 146) (by decide +kernel)) (by decide +kernel)
theorem kmX9_155 : MLK RX9 155 mX9_reckonsRight := gT3 (List.mem_of_getElem? (i := 150) (by decide +kernel)) (by decide +kernel)
theorem kmX9_208 : MLK RX9 208 mX1_reckonRight := gT3 (List.mem_of_getElem? (i := 154) (by decide +kernel)) (by decide +kernel)
theorem kmX1_77 : MLK RX1 77 mX4_wanted := gT3 (List.mem_of_getElem? (i := 158) (by decide +kernel)) (by decide +kernel)
theorem kmX1_84 : MLK RX1 84 mX1_layLent := gT3 (List.mem_of_getElem? (i := 162) (by decide +kernel)) (by decide +kernel)
theorem kmX1_41 : MLK RX1 41 mX1_figureAt := gT3 (List.mem_of_getElem? (i := 166) (by decide +kernel)) (by decide +kernel)
theorem kmX1_37 : MLK RX1 37 mX1_errorAt := gT3 (List.mem_of_getElem? (i := 167) (by decide +kernel)) (by decide +kernel)
theorem kmL_64 : MLK RL 64 mX9_rightError := gT3 (List.mem_of_getElem? (i := 168) (by decide +kernel)) (by decide +kernel)
theorem kmL_68 : MLK RL 68 mX9_kind := gT3 (List.mem_of_getElem? (i := 172) (by decide +kernel)) (by decide +kernel)
theorem kmX9_158 : MLK RX9 158 mX9_pupilAt := gT3 (List.mem_of_getElem? (i := 176) (by decide +kernel)) (by decide +kernel)
theorem kmX9_161 : MLK RX9 161 mX3_open := gT3 (List.mem_of_getElem? (i := 180) (by decide +kernel)) (by decide +kernel)
theorem kmX3_43 : MLK RX3 43 mX1_reckonOwn := gT3 (List.mem_of_getElem? (i := 184) (by decide +kernel)) (by decide +kernel)
theorem kmX9_165 : MLK RX9 165 mX3_judge := gT3 (List.mem_of_getElem? (i := 185) (by decide +kernel)) (by decide +kernel)
theorem kmX3_49 : MLK RX3 49 mX7_formulaAt := gT3 (List.mem_of_getElem? (i := 189) (by decide +kernel)) (by decide +kernel)
theorem kmX3_55 : MLK RX3 55 mX3_judgeNumber := gT3 (List.mem_of_getElem? (i := 190) (by decide +kernel)) (by decide +kernel)
theorem kmX3_71 : MLK RX3 71 mX7_heldAt := gT3 (List.mem_of_getElem? (i := 194) (by decide +kernel)) (by decide +kernel)
theorem kmX3_75 : MLK RX3 75 mX4_isWorld := gT3 (List.mem_of_getElem? (i := 195) (by decide +kernel)) (by decide +kernel)
theorem kmX3_81 : MLK RX3 81 mX1_isAlike := gT3 (List.mem_of_getElem? (i := 196) (by decide +kernel)) (by decide +kernel)
theorem kmX3_59 : MLK RX3 59 mX3_isAlike := gT3 (List.mem_of_getElem? (i := 200) (by decide +kernel)) (by decide +kernel)
theorem kmX3_63 : MLK RX3 63 mX1_reckonRight := gT3 (List.mem_of_getElem? (i := 204) (by decide +kernel)) (by decide +kernel)
theorem kmX3_67 : MLK RX3 67 mX3_findsSlip := gT3 (List.mem_of_getElem? (i := 205) (by decide +kernel)) (by decide +kernel)
theorem kmX3_84 : MLK RX3 84 mX2_length := gT3 (List.mem_of_getElem? (i := 209) (by decide +kernel)) (by decide +kernel)
theorem kmX3_90 : MLK RX3 90 mX2_stepAt := gT3 (List.mem_of_getElem? (i := 210) (by decide +kernel)) (by decide +kernel)
theorem kmX3_93 : MLK RX3 93 mX3_option := gT3 (List.mem_of_getElem? (i := 211) (by decide +kernel)) (by decide +kernel)
theorem kmX3_134 : MLK RX3 134 mX2_operandAt := gT3 (List.mem_of_getElem? (i := 214) (by decide +kernel)) (by decide +kernel)
theorem kmX3_144 : MLK RX3 144 mX3_neighbour := gT3 (List.mem_of_getElem? (i := 218) (by decide +kernel)) (by decide +kernel)
theorem kmX3_97 : MLK RX3 97 mX3_isSoChanged := gT3 (List.mem_of_getElem? (i := 221) (by decide +kernel)) (by decide +kernel)
theorem kmX3_101 : MLK RX3 101 mX0_set := gT3 (List.mem_of_getElem? (i := 225) (by decide +kernel)) (by decide +kernel)
theorem kmX3_105 : MLK RX3 105 mX2_needs := gT3 (List.mem_of_getElem? (i := 229) (by decide +kernel)) (by decide +kernel)
theorem kmX3_109 : MLK RX3 109 mX1_settles := gT3 (List.mem_of_getElem? (i := 230) (by decide +kernel)) (by decide +kernel)
theorem kmX3_113 : MLK RX3 113 mX5_reckon := gT3 (List.mem_of_getElem? (i := 231) (by decide +kernel)) (by decide +kernel)
theorem kmX3_119 : MLK RX3 119 mX5_errorMet := gT3 (List.mem_of_getElem? (i := 232) (by decide +kernel)) (by decide +kernel)
theorem kmX3_122 : MLK RX3 122 mX5_result := gT3 (List.mem_of_getElem? (i := 233) (by decide +kernel)) (by decide +kernel)
theorem kmX3_126 : MLK RX3 126 mX1_errorAt := gT3 (List.mem_of_getElem? (i := 234) (by decide +kernel)) (by decide +kernel)
theorem kmX3_130 : MLK RX3 130 mX1_figureAt := gT3 (List.mem_of_getElem? (i := 235) (by decide +kernel)) (by decide +kernel)
theorem kmL_73 : MLK RL 73 mX9_points := gT3 (List.mem_of_getElem? (i := 236) (by decide +kernel)) (by decide +kernel)
theorem kmX9_168 : MLK RX9 168 mX4_worth := gT4 (List.mem_of_getElem? (i := 0) (by decide +kernel)) (by decide +kernel)
theorem kmX9_171 : MLK RX9 171 mX9_share := gT4 (List.mem_of_getElem? (i := 4) (by decide +kernel)) (by decide +kernel)
theorem kmL_77 : MLK RL 77 mX9_slip := gT4 (List.mem_of_getElem? (i := 7) (by decide +kernel)) (by decide +kernel)
theorem kmX9_174 : MLK RX9 174 mX3_slipPlace := gT4 (List.mem_of_getElem? (i := 11) (by decide +kernel)) (by decide +kernel)
theorem kmX9_177 : MLK RX9 177 mX3_slipMade := gT4 (List.mem_of_getElem? (i := 15) (by decide +kernel)) (by decide +kernel)
theorem kmL_81 : MLK RL 81 mX9_fault := gT4 (List.mem_of_getElem? (i := 19) (by decide +kernel)) (by decide +kernel)
theorem kmX9_180 : MLK RX9 180 mX9_isFaulty := gT4 (List.mem_of_getElem? (i := 23) (by decide +kernel)) (by decide +kernel)
theorem kmL_85 : MLK RL 85 mX9_copied := gT4 (List.mem_of_getElem? (i := 26) (by decide +kernel)) (by decide +kernel)
theorem kmX9_183 : MLK RX9 183 mX9_isShared := gT4 (List.mem_of_getElem? (i := 30) (by decide +kernel)) (by decide +kernel)
theorem kmX9_190 : MLK RX9 190 mX7_formulaAt := gT4 (List.mem_of_getElem? (i := 34) (by decide +kernel)) (by decide +kernel)
theorem kmX9_212 : MLK RX9 212 mX2_hasTextOf := gT4 (List.mem_of_getElem? (i := 35) (by decide +kernel)) (by decide +kernel)
theorem kmX2_30 : MLK RX2 30 mX2_length := gT4 (List.mem_of_getElem? (i := 39) (by decide +kernel)) (by decide +kernel)
theorem kmX2_34 : MLK RX2 34 mX2_byteAt := gT4 (List.mem_of_getElem? (i := 40) (by decide +kernel)) (by decide +kernel)
theorem kmL_89 : MLK RL 89 mX9_look := gT4 (List.mem_of_getElem? (i := 41) (by decide +kernel)) (by decide +kernel)
theorem kmX9_187 : MLK RX9 187 mX9_countComing := gT4 (List.mem_of_getElem? (i := 45) (by decide +kernel)) (by decide +kernel)
theorem kmX9_216 : MLK RX9 216 mX7_needsAt := gT4 (List.mem_of_getElem? (i := 49) (by decide +kernel)) (by decide +kernel)
theorem kmX9_220 : MLK RX9 220 mX9_bit := gT4 (List.mem_of_getElem? (i := 50) (by decide +kernel)) (by decide +kernel)
theorem kmX9_223 : MLK RX9 223 mJ13_bitCount_95d88 := gT4 (List.mem_of_getElem? (i := 51) (by decide +kernel)) (by decide +kernel)
theorem kmX9_194 : MLK RX9 194 mX2_length := gT4 (List.mem_of_getElem? (i := 52) (by decide +kernel)) (by decide +kernel)
theorem kmX9_195 : MLK RX9 195 mX7_numberAt := gT4 (List.mem_of_getElem? (i := 53) (by decide +kernel)) (by decide +kernel)
theorem kmX9_198 : MLK RX9 198 mX2_byteAt := gT4 (List.mem_of_getElem? (i := 54) (by decide +kernel)) (by decide +kernel)
theorem kmL_93 : MLK RL 93 mX9_count := gT4 (List.mem_of_getElem? (i := 55) (by decide +kernel)) (by decide +kernel)
theorem kmX9_201 : MLK RX9 201 mX4_worthOfAll := gT4 (List.mem_of_getElem? (i := 59) (by decide +kernel)) (by decide +kernel)
theorem kmX4_43 : MLK RX4 43 mX4_worth := gT4 (List.mem_of_getElem? (i := 63) (by decide +kernel)) (by decide +kernel)
theorem knL_10 : NEW RL 10 10 := ⟨by decide, gT4 (List.mem_of_getElem? (i := 64) (by decide +kernel)) (by decide +kernel), gT4 (List.mem_of_getElem? (i := 65) (by decide +kernel)) (by decide +kernel), gT1 (List.mem_of_getElem? (i := 9) (by decide +kernel)) (by decide +kernel)⟩
theorem kclL_10 : Cond.classLink RL 10 RX10 ∈ wsG := gT4 (List.mem_of_getElem? (i := 64) (by decide +kernel)) (by decide +kernel)
theorem kmL_12 : MLK RL 12 mX10_init := gT4 (List.mem_of_getElem? (i := 66) (by decide +kernel)) (by decide +kernel)
theorem koX10_1 : Cond.methodLink RX10 1 objectInit ∈ wsG := gT4 (List.mem_of_getElem? (i := 69) (by decide +kernel)) (by decide +kernel)
theorem kfX10_7 : FLK RX10 7 10 0 := ⟨by decide, gT4 (List.mem_of_getElem? (i := 70) (by decide +kernel)) (by decide +kernel)⟩
theorem kfX10_108 : FLK RX10 108 10 1 := ⟨by decide, gT4 (List.mem_of_getElem? (i := 71) (by decide +kernel)) (by decide +kernel)⟩
theorem kfX10_13 : FLK RX10 13 10 2 := ⟨by decide, gT4 (List.mem_of_getElem? (i := 72) (by decide +kernel)) (by decide +kernel)⟩
theorem kfX10_17 : FLK RX10 17 10 3 := ⟨by decide, gT4 (List.mem_of_getElem? (i := 73) (by decide +kernel)) (by decide +kernel)⟩
theorem kfX10_20 : FLK RX10 20 10 4 := ⟨by decide, gT4 (List.mem_of_getElem? (i := 74) (by decide +kernel)) (by decide +kernel)⟩
theorem kfX10_23 : FLK RX10 23 10 5 := ⟨by decide, gT4 (List.mem_of_getElem? (i := 75) (by decide +kernel)) (by decide +kernel)⟩
theorem kfX10_26 : FLK RX10 26 10 6 := ⟨by decide, gT4 (List.mem_of_getElem? (i := 76) (by decide +kernel)) (by decide +kernel)⟩
theorem kfX10_29 : FLK RX10 29 10 7 := ⟨by decide, gT4 (List.mem_of_getElem? (i := 77) (by decide +kernel)) (by decide +kernel)⟩
theorem kfX10_32 : FLK RX10 32 10 8 := ⟨by decide, gT4 (List.mem_of_getElem? (i := 78) (by decide +kernel)) (by decide +kernel)⟩
theorem kfX10_35 : FLK RX10 35 10 9 := ⟨by decide, gT4 (List.mem_of_getElem? (i := 79) (by decide +kernel)) (by decide +kernel)⟩
theorem kfX10_38 : FLK RX10 38 10 10 := ⟨by decide, gT4 (List.mem_of_getElem? (i := 80) (by decide +kernel)) (by decide +kernel)⟩
theorem kfX10_41 : FLK RX10 41 10 11 := ⟨by decide, gT4 (List.mem_of_getElem? (i := 81) (by decide +kernel)) (by decide +kernel)⟩
theorem kfX10_44 : FLK RX10 44 10 12 := ⟨by decide, gT4 (List.mem_of_getElem? (i := 82) (by decide +kernel)) (by decide +kernel)⟩
theorem kfX10_48 : FLK RX10 48 10 13 := ⟨by decide, gT4 (List.mem_of_getElem? (i := 83) (by decide +kernel)) (by decide +kernel)⟩
theorem kfX10_52 : FLK RX10 52 10 14 := ⟨by decide, gT4 (List.mem_of_getElem? (i := 84) (by decide +kernel)) (by decide +kernel)⟩
theorem kfX10_204 : FLK RX10 204 10 15 := ⟨by decide, gT4 (List.mem_of_getElem? (i := 85) (by decide +kernel)) (by decide +kernel)⟩
theorem kfX10_207 : FLK RX10 207 10 16 := ⟨by decide, gT4 (List.mem_of_getElem? (i := 86) (by decide +kernel)) (by decide +kernel)⟩
theorem kfX10_210 : FLK RX10 210 10 17 := ⟨by decide, gT4 (List.mem_of_getElem? (i := 87) (by decide +kernel)) (by decide +kernel)⟩
theorem kfX10_55 : FLK RX10 55 10 18 := ⟨by decide, gT4 (List.mem_of_getElem? (i := 88) (by decide +kernel)) (by decide +kernel)⟩
theorem kfX10_58 : FLK RX10 58 10 19 := ⟨by decide, gT4 (List.mem_of_getElem? (i := 89) (by decide +kernel)) (by decide +kernel)⟩
theorem kfX10_61 : FLK RX10 61 10 20 := ⟨by decide, gT4 (List.mem_of_getElem? (i := 90) (by decide +kernel)) (by decide +kernel)⟩
theorem kfX10_122 : FLK RX10 122 10 21 := ⟨by decide, gT4 (List.mem_of_getElem? (i := 91) (by decide +kernel)) (by decide +kernel)⟩
theorem kfX10_126 : FLK RX10 126 10 22 := ⟨by decide, gT4 (List.mem_of_getElem? (i := 92) (by decide +kernel)) (by decide +kernel)⟩
theorem kfX10_129 : FLK RX10 129 10 23 := ⟨by decide, gT4 (List.mem_of_getElem? (i := 93) (by decide +kernel)) (by decide +kernel)⟩
theorem kfX10_132 : FLK RX10 132 10 24 := ⟨by decide, gT4 (List.mem_of_getElem? (i := 94) (by decide +kernel)) (by decide +kernel)⟩
theorem kfX10_135 : FLK RX10 135 10 25 := ⟨by decide, gT4 (List.mem_of_getElem? (i := 95) (by decide +kernel)) (by decide +kernel)⟩
theorem kfX10_138 : FLK RX10 138 10 26 := ⟨by decide, gT4 (List.mem_of_getElem? (i := 96) (by decide +kernel)) (by decide +kernel)⟩
theorem kfX10_141 : FLK RX10 141 10 27 := ⟨by decide, gT4 (List.mem_of_getElem? (i := 97) (by decide +kernel)) (by decide +kernel)⟩
theorem kfX10_148 : FLK RX10 148 10 28 := ⟨by decide, gT4 (List.mem_of_getElem? (i := 98) (by decide +kernel)) (by decide +kernel)⟩
theorem kfX10_64 : FLK RX10 64 10 29 := ⟨by decide, gT4 (List.mem_of_getElem? (i := 99) (by decide +kernel)) (by decide +kernel)⟩
theorem kfX10_67 : FLK RX10 67 10 30 := ⟨by decide, gT4 (List.mem_of_getElem? (i := 100) (by decide +kernel)) (by decide +kernel)⟩
theorem kfX10_70 : FLK RX10 70 10 31 := ⟨by decide, gT4 (List.mem_of_getElem? (i := 101) (by decide +kernel)) (by decide +kernel)⟩
theorem kfX10_73 : FLK RX10 73 10 32 := ⟨by decide, gT4 (List.mem_of_getElem? (i := 102) (by decide +kernel)) (by decide +kernel)⟩
theorem kfX10_76 : FLK RX10 76 10 33 := ⟨by decide, gT4 (List.mem_of_getElem? (i := 103) (by decide +kernel)) (by decide +kernel)⟩
theorem kfX10_79 : FLK RX10 79 10 34 := ⟨by decide, gT4 (List.mem_of_getElem? (i := 104) (by decide +kernel)) (by decide +kernel)⟩
theorem kfX10_82 : FLK RX10 82 10 35 := ⟨by decide, gT4 (List.mem_of_getElem? (i := 105) (by decide +kernel)) (by decide +kernel)⟩
theorem kfX10_85 : FLK RX10 85 10 36 := ⟨by decide, gT4 (List.mem_of_getElem? (i := 106) (by decide +kernel)) (by decide +kernel)⟩
theorem kfX10_217 : FLK RX10 217 10 37 := ⟨by decide, gT4 (List.mem_of_getElem? (i := 107) (by decide +kernel)) (by decide +kernel)⟩
theorem kfX10_220 : FLK RX10 220 10 38 := ⟨by decide, gT4 (List.mem_of_getElem? (i := 108) (by decide +kernel)) (by decide +kernel)⟩
theorem kfX10_223 : FLK RX10 223 10 39 := ⟨by decide, gT4 (List.mem_of_getElem? (i := 109) (by decide +kernel)) (by decide +kernel)⟩
theorem kfX10_254 : FLK RX10 254 10 40 := ⟨by decide, gT4 (List.mem_of_getElem? (i := 110) (by decide +kernel)) (by decide +kernel)⟩
theorem kfX10_89 : FLK RX10 89 10 41 := ⟨by decide, gT4 (List.mem_of_getElem? (i := 111) (by decide +kernel)) (by decide +kernel)⟩
theorem kfX10_92 : FLK RX10 92 10 42 := ⟨by decide, gT4 (List.mem_of_getElem? (i := 112) (by decide +kernel)) (by decide +kernel)⟩
theorem kfX10_95 : FLK RX10 95 10 43 := ⟨by decide, gT4 (List.mem_of_getElem? (i := 113) (by decide +kernel)) (by decide +kernel)⟩
theorem kfX10_98 : FLK RX10 98 10 44 := ⟨by decide, gT4 (List.mem_of_getElem? (i := 114) (by decide +kernel)) (by decide +kernel)⟩
theorem kfX10_101 : FLK RX10 101 10 45 := ⟨by decide, gT4 (List.mem_of_getElem? (i := 115) (by decide +kernel)) (by decide +kernel)⟩
theorem kfX10_266 : FLK RX10 266 10 46 := ⟨by decide, gT4 (List.mem_of_getElem? (i := 116) (by decide +kernel)) (by decide +kernel)⟩
theorem kfX10_263 : FLK RX10 263 10 47 := ⟨by decide, gT4 (List.mem_of_getElem? (i := 117) (by decide +kernel)) (by decide +kernel)⟩
theorem kfX10_305 : FLK RX10 305 10 48 := ⟨by decide, gT4 (List.mem_of_getElem? (i := 118) (by decide +kernel)) (by decide +kernel)⟩
theorem kfX10_302 : FLK RX10 302 10 49 := ⟨by decide, gT4 (List.mem_of_getElem? (i := 119) (by decide +kernel)) (by decide +kernel)⟩
theorem kfX10_318 : FLK RX10 318 10 50 := ⟨by decide, gT4 (List.mem_of_getElem? (i := 120) (by decide +kernel)) (by decide +kernel)⟩
theorem kfX10_324 : FLK RX10 324 10 51 := ⟨by decide, gT4 (List.mem_of_getElem? (i := 121) (by decide +kernel)) (by decide +kernel)⟩
theorem ka_byte : Cond.arrayClass .byte ∈ wsG := gT4 (List.mem_of_getElem? (i := 227) (by decide +kernel)) (by decide +kernel)
theorem ka_boolean : Cond.arrayClass .boolean ∈ wsG := gT4 (List.mem_of_getElem? (i := 228) (by decide +kernel)) (by decide +kernel)
theorem kmL_17 : MLK RL 17 mX10_feed := gT4 (List.mem_of_getElem? (i := 229) (by decide +kernel)) (by decide +kernel)
theorem kmX10_111 : MLK RX10 111 mX10_push := gT4 (List.mem_of_getElem? (i := 233) (by decide +kernel)) (by decide +kernel)
theorem kmL_22 : MLK RL 22 mX10_number := gT4 (List.mem_of_getElem? (i := 237) (by decide +kernel)) (by decide +kernel)
theorem kmX10_115 : MLK RX10 115 mX10_isSheet := gT5 (List.mem_of_getElem? (i := 1) (by decide +kernel)) (by decide +kernel)
theorem kmX10_104 : MLK RX10 104 mX10_lies := gT5 (List.mem_of_getElem? (i := 4) (by decide +kernel)) (by decide +kernel)
theorem kmX10_119 : MLK RX10 119 mX10_isCell := gT5 (List.mem_of_getElem? (i := 7) (by decide +kernel)) (by decide +kernel)
theorem kmL_32 : MLK RL 32 mX10_clear := gT5 (List.mem_of_getElem? (i := 10) (by decide +kernel)) (by decide +kernel)
theorem kmL_27 : MLK RL 27 mX10_formula := gT5 (List.mem_of_getElem? (i := 14) (by decide +kernel)) (by decide +kernel)
theorem kmX10_194 : MLK RX10 194 mX10_reads := gT5 (List.mem_of_getElem? (i := 18) (by decide +kernel)) (by decide +kernel)
theorem kmX10_172 : MLK RX10 172 mX10_must := gT5 (List.mem_of_getElem? (i := 22) (by decide +kernel)) (by decide +kernel)
theorem kmX10_158 : MLK RX10 158 mX10_here := gT5 (List.mem_of_getElem? (i := 26) (by decide +kernel)) (by decide +kernel)
theorem kmX10_151 : MLK RX10 151 mX10_fails := gT5 (List.mem_of_getElem? (i := 30) (by decide +kernel)) (by decide +kernel)
theorem kmX10_181 : MLK RX10 181 mX10_factor := gT5 (List.mem_of_getElem? (i := 34) (by decide +kernel)) (by decide +kernel)
theorem kmX10_169 : MLK RX10 169 mX10_opens := gT5 (List.mem_of_getElem? (i := 38) (by decide +kernel)) (by decide +kernel)
theorem kmX10_155 : MLK RX10 155 mX10_waits := gT5 (List.mem_of_getElem? (i := 42) (by decide +kernel)) (by decide +kernel)
theorem kmX10_175 : MLK RX10 175 mX10_readCell := gT5 (List.mem_of_getElem? (i := 46) (by decide +kernel)) (by decide +kernel)
theorem kmX10_144 : MLK RX10 144 mX10_puts := gT5 (List.mem_of_getElem? (i := 50) (by decide +kernel)) (by decide +kernel)
theorem kmX10_162 : MLK RX10 162 mX10_seesDigit := gT5 (List.mem_of_getElem? (i := 54) (by decide +kernel)) (by decide +kernel)
theorem kmX10_178 : MLK RX10 178 mX10_readNumber := gT5 (List.mem_of_getElem? (i := 58) (by decide +kernel)) (by decide +kernel)
theorem kmX10_184 : MLK RX10 184 mX10_factorEnds := gT5 (List.mem_of_getElem? (i := 62) (by decide +kernel)) (by decide +kernel)
theorem kmX10_166 : MLK RX10 166 mX10_joins := gT5 (List.mem_of_getElem? (i := 66) (by decide +kernel)) (by decide +kernel)
theorem kmX10_187 : MLK RX10 187 mX10_joinOf := gT5 (List.mem_of_getElem? (i := 70) (by decide +kernel)) (by decide +kernel)
theorem kmX10_191 : MLK RX10 191 mX10_sumEnds := gT5 (List.mem_of_getElem? (i := 73) (by decide +kernel)) (by decide +kernel)
theorem kmX10_197 : MLK RX10 197 mX10_names0 := gT5 (List.mem_of_getElem? (i := 77) (by decide +kernel)) (by decide +kernel)
theorem kmX10_229 : MLK RX10 229 mX10_opOf := gT5 (List.mem_of_getElem? (i := 81) (by decide +kernel)) (by decide +kernel)
theorem kmX10_213 : MLK RX10 213 mX10_isChanged := gT5 (List.mem_of_getElem? (i := 85) (by decide +kernel)) (by decide +kernel)
theorem kmX10_233 : MLK RX10 233 mX10_argOf := gT5 (List.mem_of_getElem? (i := 89) (by decide +kernel)) (by decide +kernel)
theorem kmX10_236 : MLK RX10 236 mX10_arg2Of := gT5 (List.mem_of_getElem? (i := 93) (by decide +kernel)) (by decide +kernel)
theorem kmX10_239 : MLK RX10 239 mX10_isWithin := gT5 (List.mem_of_getElem? (i := 97) (by decide +kernel)) (by decide +kernel)
theorem kmX10_226 : MLK RX10 226 mX10_isBetween := gT5 (List.mem_of_getElem? (i := 100) (by decide +kernel)) (by decide +kernel)
theorem kmL_37 : MLK RL 37 mX10_input := gT5 (List.mem_of_getElem? (i := 103) (by decide +kernel)) (by decide +kernel)
theorem kmX10_201 : MLK RX10 201 mX10_isWanted := gT5 (List.mem_of_getElem? (i := 107) (by decide +kernel)) (by decide +kernel)
theorem kmL_41 : MLK RL 41 mX10_wants := gT5 (List.mem_of_getElem? (i := 111) (by decide +kernel)) (by decide +kernel)
theorem kmL_46 : MLK RL 46 mX10_world := gT5 (List.mem_of_getElem? (i := 115) (by decide +kernel)) (by decide +kernel)
theorem kmL_50 : MLK RL 50 mX10_give := gT5 (List.mem_of_getElem? (i := 119) (by decide +kernel)) (by decide +kernel)
theorem kmL_55 : MLK RL 55 mX10_value := gT5 (List.mem_of_getElem? (i := 123) (by decide +kernel)) (by decide +kernel)
theorem kmX10_309 : MLK RX10 309 mX10_is := gT5 (List.mem_of_getElem? (i := 127) (by decide +kernel)) (by decide +kernel)
theorem kkX10_257 : Cond.constantLong RX10 257 (-1) ∈ wsG := gT5 (List.mem_of_getElem? (i := 131) (by decide +kernel)) (by decide +kernel)
theorem kmX10_312 : MLK RX10 312 mX10_tells := gT5 (List.mem_of_getElem? (i := 132) (by decide +kernel)) (by decide +kernel)
theorem kmX10_292 : MLK RX10 292 mX10_tasks := gT5 (List.mem_of_getElem? (i := 136) (by decide +kernel)) (by decide +kernel)
theorem kmX10_295 : MLK RX10 295 mX10_orders := gT5 (List.mem_of_getElem? (i := 140) (by decide +kernel)) (by decide +kernel)
theorem kmX10_242 : MLK RX10 242 mX10_has := gT5 (List.mem_of_getElem? (i := 144) (by decide +kernel)) (by decide +kernel)
theorem kmX10_246 : MLK RX10 246 mX10_isTold := gT5 (List.mem_of_getElem? (i := 147) (by decide +kernel)) (by decide +kernel)
theorem kmX10_250 : MLK RX10 250 mX10_needs := gT5 (List.mem_of_getElem? (i := 151) (by decide +kernel)) (by decide +kernel)
theorem kmX10_298 : MLK RX10 298 mX10_works := gT5 (List.mem_of_getElem? (i := 155) (by decide +kernel)) (by decide +kernel)
theorem kmX10_289 : MLK RX10 289 mX10_reckons := gT5 (List.mem_of_getElem? (i := 159) (by decide +kernel)) (by decide +kernel)
theorem kmX10_269 : MLK RX10 269 mX10_comes := gT5 (List.mem_of_getElem? (i := 163) (by decide +kernel)) (by decide +kernel)
theorem kkX10_259 : Cond.constantLong RX10 259 (1000000000000) ∈ wsG := gT5 (List.mem_of_getElem? (i := 167) (by decide +kernel)) (by decide +kernel)
theorem kkX10_261 : Cond.constantLong RX10 261 (-1000000000000) ∈ wsG := gT5 (List.mem_of_getElem? (i := 168) (by decide +kernel)) (by decide +kernel)
theorem kmX10_280 : MLK RX10 280 mX10_names := gT5 (List.mem_of_getElem? (i := 169) (by decide +kernel)) (by decide +kernel)
theorem kmX10_283 : MLK RX10 283 mX10_range := gT5 (List.mem_of_getElem? (i := 173) (by decide +kernel)) (by decide +kernel)
theorem kmX10_286 : MLK RX10 286 mX10_two := gT5 (List.mem_of_getElem? (i := 177) (by decide +kernel)) (by decide +kernel)
theorem kmX10_273 : MLK RX10 273 mX10_times := gT5 (List.mem_of_getElem? (i := 181) (by decide +kernel)) (by decide +kernel)
theorem kmX10_277 : MLK RX10 277 mX10_parts := gT5 (List.mem_of_getElem? (i := 185) (by decide +kernel)) (by decide +kernel)
theorem kmL_59 : MLK RL 59 mX10_error := gT5 (List.mem_of_getElem? (i := 189) (by decide +kernel)) (by decide +kernel)
theorem kmL_63 : MLK RL 63 mX10_right := gT5 (List.mem_of_getElem? (i := 193) (by decide +kernel)) (by decide +kernel)
theorem kmL_67 : MLK RL 67 mX10_rightError := gT5 (List.mem_of_getElem? (i := 197) (by decide +kernel)) (by decide +kernel)
theorem kmL_72 : MLK RL 72 mX10_kind := gT5 (List.mem_of_getElem? (i := 201) (by decide +kernel)) (by decide +kernel)
theorem kmX10_341 : MLK RX10 341 mX10_isPupil := gT5 (List.mem_of_getElem? (i := 205) (by decide +kernel)) (by decide +kernel)
theorem kmX10_344 : MLK RX10 344 mX10_kindOf := gT5 (List.mem_of_getElem? (i := 208) (by decide +kernel)) (by decide +kernel)
theorem kmX10_315 : MLK RX10 315 mX10_isAlike := gT5 (List.mem_of_getElem? (i := 212) (by decide +kernel)) (by decide +kernel)
theorem kmX10_338 : MLK RX10 338 mX10_isSlip := gT5 (List.mem_of_getElem? (i := 216) (by decide +kernel)) (by decide +kernel)
theorem kmX10_334 : MLK RX10 334 mX10_slips := gT5 (List.mem_of_getElem? (i := 220) (by decide +kernel)) (by decide +kernel)
theorem kmX10_321 : MLK RX10 321 mX10_signOf := gT5 (List.mem_of_getElem? (i := 224) (by decide +kernel)) (by decide +kernel)
theorem kmX10_327 : MLK RX10 327 mX10_tries := gT5 (List.mem_of_getElem? (i := 227) (by decide +kernel)) (by decide +kernel)
theorem kmX10_331 : MLK RX10 331 mX10_beside := gT5 (List.mem_of_getElem? (i := 231) (by decide +kernel)) (by decide +kernel)
theorem kmL_76 : MLK RL 76 mX10_points := gT5 (List.mem_of_getElem? (i := 234) (by decide +kernel)) (by decide +kernel)
theorem kmX10_347 : MLK RX10 347 mX10_pointsOf := gT5 (List.mem_of_getElem? (i := 238) (by decide +kernel)) (by decide +kernel)
theorem kmL_80 : MLK RL 80 mX10_slip := gT6 (List.mem_of_getElem? (i := 2) (by decide +kernel)) (by decide +kernel)
theorem kmL_84 : MLK RL 84 mX10_fault := gT6 (List.mem_of_getElem? (i := 6) (by decide +kernel)) (by decide +kernel)
theorem kmL_88 : MLK RL 88 mX10_copied := gT6 (List.mem_of_getElem? (i := 10) (by decide +kernel)) (by decide +kernel)
theorem kmX10_350 : MLK RX10 350 mX10_areOneText := gT6 (List.mem_of_getElem? (i := 14) (by decide +kernel)) (by decide +kernel)
theorem kmL_92 : MLK RL 92 mX10_look := gT6 (List.mem_of_getElem? (i := 18) (by decide +kernel)) (by decide +kernel)
theorem kmX10_353 : MLK RX10 353 mX10_comesTo := gT6 (List.mem_of_getElem? (i := 22) (by decide +kernel)) (by decide +kernel)
theorem kmL_97 : MLK RL 97 mX10_count := gT6 (List.mem_of_getElem? (i := 26) (by decide +kernel)) (by decide +kernel)
theorem ka_char : Cond.arrayClass .char ∈ wsG := gT6 (List.mem_of_getElem? (i := 30) (by decide +kernel)) (by decide +kernel)
theorem kobj_i : Cond.instanceMethod objectInit ∈ wsG := gT1 (List.mem_of_getElem? (i := 20) (by decide +kernel)) (by decide +kernel)
theorem kobj_c : Cond.code objectInit ⟨#[0xb1]⟩ 1 none ∈ wsG := gT1 (List.mem_of_getElem? (i := 21) (by decide +kernel)) (by decide +kernel)
