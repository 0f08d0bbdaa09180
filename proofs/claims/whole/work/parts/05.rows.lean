section ROWS
variable {μ : MD} {d mc ms N pc : Nat} {L : List (Nat × Value)} {S : List Value} {M : Mem} {Q : Option Value → Nat → Mem → Prop}
theorem a_iconst {n : Int} {v : Int32} (hdg : decode μ.2.1 pc = .ok (.iconst n, 1)) (hv : Int32.ofInt n = v) (kk : AW μ d mc ms N (pc + 1) L (.int v :: S) M Q) : AW μ d mc ms N pc L S M Q := by
  intro g p l e R s m args below meth c H locs cells slots ls C hS hR hc hs hl
  exact lv_iconst C.1 C.2.1 hdg hv (kk g p l e R s m args below meth c H locs cells slots ls C hS hR hc hs hl)
theorem a_bipush {n : Int} {v : Int32} (hdg : decode μ.2.1 pc = .ok (.bipush n, 2)) (hv : (Int8.ofInt n).toInt32 = v) (kk : AW μ d mc ms N (pc + 2) L (.int v :: S) M Q) : AW μ d mc ms N pc L S M Q := by
  intro g p l e R s m args below meth c H locs cells slots ls C hS hR hc hs hl
  exact lv_bipush C.1 C.2.1 hdg hv (kk g p l e R s m args below meth c H locs cells slots ls C hS hR hc hs hl)
theorem a_sipush {n : Int} {v : Int32} (hdg : decode μ.2.1 pc = .ok (.sipush n, 3)) (hv : (Int16.ofInt n).toInt32 = v) (kk : AW μ d mc ms N (pc + 3) L (.int v :: S) M Q) : AW μ d mc ms N pc L S M Q := by
  intro g p l e R s m args below meth c H locs cells slots ls C hS hR hc hs hl
  exact lv_sipush C.1 C.2.1 hdg hv (kk g p l e R s m args below meth c H locs cells slots ls C hS hR hc hs hl)
theorem a_lconst {n : Fin 2} {v : Int64} (hdg : decode μ.2.1 pc = .ok (.lconst n, 1)) (hv : Int64.ofNat (n : Nat) = v) (kk : AW μ d mc ms N (pc + 1) L (.long v :: S) M Q) : AW μ d mc ms N pc L S M Q := by
  intro g p l e R s m args below meth c H locs cells slots ls C hS hR hc hs hl
  exact lv_lconst C.1 C.2.1 hdg hv (kk g p l e R s m args below meth c H locs cells slots ls C hS hR hc hs hl)
theorem a_null (hdg : decode μ.2.1 pc = .ok (.aconst_null, 1)) (kk : AW μ d mc ms N (pc + 1) L (.null :: S) M Q) : AW μ d mc ms N pc L S M Q := by
  intro g p l e R s m args below meth c H locs cells slots ls C hS hR hc hs hl
  exact lv_null C.1 C.2.1 hdg (kk g p l e R s m args below meth c H locs cells slots ls C hS hR hc hs hl)
theorem a_iload_n {k : Fin 4} {x : Int32} (hdg : decode μ.2.1 pc = .ok (.iload_n k, 1)) (h : lk k L = some (.int x)) (kk : AW μ d mc ms N (pc + 1) L (.int x :: S) M Q) : AW μ d mc ms N pc L S M Q := by
  intro g p l e R s m args below meth c H locs cells slots ls C hS hR hc hs hl
  exact lv_iload_n C.1 C.2.1 hdg rfl (lk_at hl h) (kk g p l e R s m args below meth c H locs cells slots ls C hS hR hc hs hl)
theorem a_iload {i : Nat} {x : Int32} (hdg : decode μ.2.1 pc = .ok (.iload i, 2)) (h : lk i L = some (.int x)) (kk : AW μ d mc ms N (pc + 2) L (.int x :: S) M Q) : AW μ d mc ms N pc L S M Q := by
  intro g p l e R s m args below meth c H locs cells slots ls C hS hR hc hs hl
  exact lv_iload C.1 C.2.1 hdg (lk_at hl h) (kk g p l e R s m args below meth c H locs cells slots ls C hS hR hc hs hl)
theorem a_lload_n {k : Fin 4} {x : Int64} (hdg : decode μ.2.1 pc = .ok (.lload_n k, 1)) (h : lk k L = some (.long x)) (kk : AW μ d mc ms N (pc + 1) L (.long x :: S) M Q) : AW μ d mc ms N pc L S M Q := by
  intro g p l e R s m args below meth c H locs cells slots ls C hS hR hc hs hl
  exact lv_lload_n C.1 C.2.1 hdg rfl (lk_at hl h) (kk g p l e R s m args below meth c H locs cells slots ls C hS hR hc hs hl)
theorem a_lload {i : Nat} {x : Int64} (hdg : decode μ.2.1 pc = .ok (.lload i, 2)) (h : lk i L = some (.long x)) (kk : AW μ d mc ms N (pc + 2) L (.long x :: S) M Q) : AW μ d mc ms N pc L S M Q := by
  intro g p l e R s m args below meth c H locs cells slots ls C hS hR hc hs hl
  exact lv_lload C.1 C.2.1 hdg (lk_at hl h) (kk g p l e R s m args below meth c H locs cells slots ls C hS hR hc hs hl)
theorem a_aload_n {k : Fin 4} {x : Nat} (hdg : decode μ.2.1 pc = .ok (.aload_n k, 1)) (h : lk k L = some (.ref x)) (kk : AW μ d mc ms N (pc + 1) L (.ref x :: S) M Q) : AW μ d mc ms N pc L S M Q := by
  intro g p l e R s m args below meth c H locs cells slots ls C hS hR hc hs hl
  exact lv_aload_n C.1 C.2.1 hdg rfl (lk_at hl h) (kk g p l e R s m args below meth c H locs cells slots ls C hS hR hc hs hl)
theorem a_aload {i : Nat} {x : Nat} (hdg : decode μ.2.1 pc = .ok (.aload i, 2)) (h : lk i L = some (.ref x)) (kk : AW μ d mc ms N (pc + 2) L (.ref x :: S) M Q) : AW μ d mc ms N pc L S M Q := by
  intro g p l e R s m args below meth c H locs cells slots ls C hS hR hc hs hl
  exact lv_aload C.1 C.2.1 hdg (lk_at hl h) (kk g p l e R s m args below meth c H locs cells slots ls C hS hR hc hs hl)
theorem a_aload_nN {k : Fin 4} (hdg : decode μ.2.1 pc = .ok (.aload_n k, 1)) (h : lk k L = some .null) (kk : AW μ d mc ms N (pc + 1) L (.null :: S) M Q) : AW μ d mc ms N pc L S M Q := by
  intro g p l e R s m args below meth c H locs cells slots ls C hS hR hc hs hl
  exact lv_aload_nN C.1 C.2.1 hdg rfl (lk_at hl h) (kk g p l e R s m args below meth c H locs cells slots ls C hS hR hc hs hl)
theorem a_aloadN {i : Nat} (hdg : decode μ.2.1 pc = .ok (.aload i, 2)) (h : lk i L = some .null) (kk : AW μ d mc ms N (pc + 2) L (.null :: S) M Q) : AW μ d mc ms N pc L S M Q := by
  intro g p l e R s m args below meth c H locs cells slots ls C hS hR hc hs hl
  exact lv_aloadN C.1 C.2.1 hdg (lk_at hl h) (kk g p l e R s m args below meth c H locs cells slots ls C hS hR hc hs hl)
theorem a_istore_n {k : Fin 4} {x : Int32} (hdg : decode μ.2.1 pc = .ok (.istore_n k, 1)) (hn : (k : Nat) < μ.2.2.1) (kk : AW μ d mc ms N (pc + 1) (st1 (k : Nat) (.int x) L) S M Q) : AW μ d mc ms N pc L (.int x :: S) M Q := by
  intro g p l e R s m args below meth c H locs cells slots ls C hS hR hc hs hl
  exact lv_istore_n C.1 C.2.1 hdg rfl hl hn (st1_map (a := wad g) (i := (k : Nat)) (v := .int x) (L := L)) (fun ls hl => kk g p l e R s m args below meth c H locs cells slots ls C hS hR hc hs hl)
theorem a_istore {i : Nat} {x : Int32} (hdg : decode μ.2.1 pc = .ok (.istore i, 2)) (hn : i < μ.2.2.1) (kk : AW μ d mc ms N (pc + 2) (st1 i (.int x) L) S M Q) : AW μ d mc ms N pc L (.int x :: S) M Q := by
  intro g p l e R s m args below meth c H locs cells slots ls C hS hR hc hs hl
  exact lv_istore C.1 C.2.1 hdg hl hn (st1_map (a := wad g) (i := i) (v := .int x) (L := L)) (fun ls hl => kk g p l e R s m args below meth c H locs cells slots ls C hS hR hc hs hl)
theorem a_lstore_n {k : Fin 4} {x : Int64} (hdg : decode μ.2.1 pc = .ok (.lstore_n k, 1)) (hn : (k : Nat) + 1 < μ.2.2.1) (kk : AW μ d mc ms N (pc + 1) (st2 (k : Nat) (.long x) L) S M Q) : AW μ d mc ms N pc L (.long x :: S) M Q := by
  intro g p l e R s m args below meth c H locs cells slots ls C hS hR hc hs hl
  exact lv_lstore_n C.1 C.2.1 hdg rfl hl hn (st2_map (a := wad g) (i := (k : Nat)) (v := .long x) (L := L)) (fun ls hl => kk g p l e R s m args below meth c H locs cells slots ls C hS hR hc hs hl)
theorem a_lstore {i : Nat} {x : Int64} (hdg : decode μ.2.1 pc = .ok (.lstore i, 2)) (hn : i + 1 < μ.2.2.1) (kk : AW μ d mc ms N (pc + 2) (st2 i (.long x) L) S M Q) : AW μ d mc ms N pc L (.long x :: S) M Q := by
  intro g p l e R s m args below meth c H locs cells slots ls C hS hR hc hs hl
  exact lv_lstore C.1 C.2.1 hdg hl hn (st2_map (a := wad g) (i := i) (v := .long x) (L := L)) (fun ls hl => kk g p l e R s m args below meth c H locs cells slots ls C hS hR hc hs hl)
theorem a_astore_n {k : Fin 4} {x : Nat} (hdg : decode μ.2.1 pc = .ok (.astore_n k, 1)) (hn : (k : Nat) < μ.2.2.1) (kk : AW μ d mc ms N (pc + 1) (st1 (k : Nat) (.ref x) L) S M Q) : AW μ d mc ms N pc L (.ref x :: S) M Q := by
  intro g p l e R s m args below meth c H locs cells slots ls C hS hR hc hs hl
  exact lv_astore_n C.1 C.2.1 hdg rfl hl hn (st1_map (a := wad g) (i := (k : Nat)) (v := .ref x) (L := L)) (fun ls hl => kk g p l e R s m args below meth c H locs cells slots ls C hS hR hc hs hl)
theorem a_astore {i : Nat} {x : Nat} (hdg : decode μ.2.1 pc = .ok (.astore i, 2)) (hn : i < μ.2.2.1) (kk : AW μ d mc ms N (pc + 2) (st1 i (.ref x) L) S M Q) : AW μ d mc ms N pc L (.ref x :: S) M Q := by
  intro g p l e R s m args below meth c H locs cells slots ls C hS hR hc hs hl
  exact lv_astore C.1 C.2.1 hdg hl hn (st1_map (a := wad g) (i := i) (v := .ref x) (L := L)) (fun ls hl => kk g p l e R s m args below meth c H locs cells slots ls C hS hR hc hs hl)
theorem a_astore_nN {k : Fin 4} (hdg : decode μ.2.1 pc = .ok (.astore_n k, 1)) (hn : (k : Nat) < μ.2.2.1) (kk : AW μ d mc ms N (pc + 1) (st1 (k : Nat) (.null) L) S M Q) : AW μ d mc ms N pc L (.null :: S) M Q := by
  intro g p l e R s m args below meth c H locs cells slots ls C hS hR hc hs hl
  exact lv_astore_nN C.1 C.2.1 hdg rfl hl hn (st1_map (a := wad g) (i := (k : Nat)) (v := .null) (L := L)) (fun ls hl => kk g p l e R s m args below meth c H locs cells slots ls C hS hR hc hs hl)
theorem a_astoreN {i : Nat} (hdg : decode μ.2.1 pc = .ok (.astore i, 2)) (hn : i < μ.2.2.1) (kk : AW μ d mc ms N (pc + 2) (st1 i (.null) L) S M Q) : AW μ d mc ms N pc L (.null :: S) M Q := by
  intro g p l e R s m args below meth c H locs cells slots ls C hS hR hc hs hl
  exact lv_astoreN C.1 C.2.1 hdg hl hn (st1_map (a := wad g) (i := i) (v := .null) (L := L)) (fun ls hl => kk g p l e R s m args below meth c H locs cells slots ls C hS hR hc hs hl)
theorem a_iinc {i : Nat} {n : Int} {x v : Int32} (hdg : decode μ.2.1 pc = .ok (.iinc i n, 3)) (h : lk i L = some (.int x)) (hv : x + Int32.ofInt n = v) (hn : i < μ.2.2.1) (kk : AW μ d mc ms N (pc + 3) (st1 i (.int v) L) S M Q) : AW μ d mc ms N pc L S M Q := by
  intro g p l e R s m args below meth c H locs cells slots ls C hS hR hc hs hl
  obtain ⟨j, hj⟩ := List.getElem?_of_mem (List.mem_map.mpr ⟨(i, Value.int x), lk_mem h, rfl⟩ : (i, Value.int x) ∈ L.map (tvL (wad g)))
  exact lv_iinc C.1 C.2.1 hdg hl hj hv hn (st1_map (a := wad g) (i := i) (v := .int v) (L := L)) (fun ls hl => kk g p l e R s m args below meth c H locs cells slots ls C hS hR hc hs hl)
theorem a_iadd {x y : Int32} (hdg : decode μ.2.1 pc = .ok (.iadd, 1)) (kk : AW μ d mc ms N (pc + 1) L (.int (x + y) :: S) M Q) : AW μ d mc ms N pc L (.int y :: .int x :: S) M Q := by
  intro g p l e R s m args below meth c H locs cells slots ls C hS hR hc hs hl
  exact lv_iadd C.1 C.2.1 hdg (kk g p l e R s m args below meth c H locs cells slots ls C hS hR hc hs hl)
theorem a_isub {x y : Int32} (hdg : decode μ.2.1 pc = .ok (.isub, 1)) (kk : AW μ d mc ms N (pc + 1) L (.int (x - y) :: S) M Q) : AW μ d mc ms N pc L (.int y :: .int x :: S) M Q := by
  intro g p l e R s m args below meth c H locs cells slots ls C hS hR hc hs hl
  exact lv_isub C.1 C.2.1 hdg (kk g p l e R s m args below meth c H locs cells slots ls C hS hR hc hs hl)
theorem a_imul {x y : Int32} (hdg : decode μ.2.1 pc = .ok (.imul, 1)) (kk : AW μ d mc ms N (pc + 1) L (.int (x * y) :: S) M Q) : AW μ d mc ms N pc L (.int y :: .int x :: S) M Q := by
  intro g p l e R s m args below meth c H locs cells slots ls C hS hR hc hs hl
  exact lv_imul C.1 C.2.1 hdg (kk g p l e R s m args below meth c H locs cells slots ls C hS hR hc hs hl)
theorem a_iand {x y : Int32} (hdg : decode μ.2.1 pc = .ok (.iand, 1)) (kk : AW μ d mc ms N (pc + 1) L (.int (x &&& y) :: S) M Q) : AW μ d mc ms N pc L (.int y :: .int x :: S) M Q := by
  intro g p l e R s m args below meth c H locs cells slots ls C hS hR hc hs hl
  exact lv_iand C.1 C.2.1 hdg (kk g p l e R s m args below meth c H locs cells slots ls C hS hR hc hs hl)
theorem a_ior {x y : Int32} (hdg : decode μ.2.1 pc = .ok (.ior, 1)) (kk : AW μ d mc ms N (pc + 1) L (.int (x ||| y) :: S) M Q) : AW μ d mc ms N pc L (.int y :: .int x :: S) M Q := by
  intro g p l e R s m args below meth c H locs cells slots ls C hS hR hc hs hl
  exact lv_ior C.1 C.2.1 hdg (kk g p l e R s m args below meth c H locs cells slots ls C hS hR hc hs hl)
theorem a_ixor {x y : Int32} (hdg : decode μ.2.1 pc = .ok (.ixor, 1)) (kk : AW μ d mc ms N (pc + 1) L (.int (x ^^^ y) :: S) M Q) : AW μ d mc ms N pc L (.int y :: .int x :: S) M Q := by
  intro g p l e R s m args below meth c H locs cells slots ls C hS hR hc hs hl
  exact lv_ixor C.1 C.2.1 hdg (kk g p l e R s m args below meth c H locs cells slots ls C hS hR hc hs hl)
theorem a_ladd {x y : Int64} (hdg : decode μ.2.1 pc = .ok (.ladd, 1)) (kk : AW μ d mc ms N (pc + 1) L (.long (x + y) :: S) M Q) : AW μ d mc ms N pc L (.long y :: .long x :: S) M Q := by
  intro g p l e R s m args below meth c H locs cells slots ls C hS hR hc hs hl
  exact lv_ladd C.1 C.2.1 hdg (kk g p l e R s m args below meth c H locs cells slots ls C hS hR hc hs hl)
theorem a_lsub {x y : Int64} (hdg : decode μ.2.1 pc = .ok (.lsub, 1)) (kk : AW μ d mc ms N (pc + 1) L (.long (x - y) :: S) M Q) : AW μ d mc ms N pc L (.long y :: .long x :: S) M Q := by
  intro g p l e R s m args below meth c H locs cells slots ls C hS hR hc hs hl
  exact lv_lsub C.1 C.2.1 hdg (kk g p l e R s m args below meth c H locs cells slots ls C hS hR hc hs hl)
theorem a_lmul {x y : Int64} (hdg : decode μ.2.1 pc = .ok (.lmul, 1)) (kk : AW μ d mc ms N (pc + 1) L (.long (x * y) :: S) M Q) : AW μ d mc ms N pc L (.long y :: .long x :: S) M Q := by
  intro g p l e R s m args below meth c H locs cells slots ls C hS hR hc hs hl
  exact lv_lmul C.1 C.2.1 hdg (kk g p l e R s m args below meth c H locs cells slots ls C hS hR hc hs hl)
theorem a_land {x y : Int64} (hdg : decode μ.2.1 pc = .ok (.land, 1)) (kk : AW μ d mc ms N (pc + 1) L (.long (x &&& y) :: S) M Q) : AW μ d mc ms N pc L (.long y :: .long x :: S) M Q := by
  intro g p l e R s m args below meth c H locs cells slots ls C hS hR hc hs hl
  exact lv_land C.1 C.2.1 hdg (kk g p l e R s m args below meth c H locs cells slots ls C hS hR hc hs hl)
theorem a_lor {x y : Int64} (hdg : decode μ.2.1 pc = .ok (.lor, 1)) (kk : AW μ d mc ms N (pc + 1) L (.long (x ||| y) :: S) M Q) : AW μ d mc ms N pc L (.long y :: .long x :: S) M Q := by
  intro g p l e R s m args below meth c H locs cells slots ls C hS hR hc hs hl
  exact lv_lor C.1 C.2.1 hdg (kk g p l e R s m args below meth c H locs cells slots ls C hS hR hc hs hl)
theorem a_lxor {x y : Int64} (hdg : decode μ.2.1 pc = .ok (.lxor, 1)) (kk : AW μ d mc ms N (pc + 1) L (.long (x ^^^ y) :: S) M Q) : AW μ d mc ms N pc L (.long y :: .long x :: S) M Q := by
  intro g p l e R s m args below meth c H locs cells slots ls C hS hR hc hs hl
  exact lv_lxor C.1 C.2.1 hdg (kk g p l e R s m args below meth c H locs cells slots ls C hS hR hc hs hl)
theorem a_idiv {x y : Int32} (hdg : decode μ.2.1 pc = .ok (.idiv, 1)) (hne : ¬ y = 0) (kk : AW μ d mc ms N (pc + 1) L (.int (x / y) :: S) M Q) : AW μ d mc ms N pc L (.int y :: .int x :: S) M Q := by
  intro g p l e R s m args below meth c H locs cells slots ls C hS hR hc hs hl
  exact lv_idiv C.1 C.2.1 hdg hne (kk g p l e R s m args below meth c H locs cells slots ls C hS hR hc hs hl)
theorem a_irem {x y : Int32} (hdg : decode μ.2.1 pc = .ok (.irem, 1)) (hne : ¬ y = 0) (kk : AW μ d mc ms N (pc + 1) L (.int (x - x / y * y) :: S) M Q) : AW μ d mc ms N pc L (.int y :: .int x :: S) M Q := by
  intro g p l e R s m args below meth c H locs cells slots ls C hS hR hc hs hl
  exact lv_irem C.1 C.2.1 hdg hne (kk g p l e R s m args below meth c H locs cells slots ls C hS hR hc hs hl)
theorem a_ldiv {x y : Int64} (hdg : decode μ.2.1 pc = .ok (.ldiv, 1)) (hne : ¬ y = 0) (kk : AW μ d mc ms N (pc + 1) L (.long (x / y) :: S) M Q) : AW μ d mc ms N pc L (.long y :: .long x :: S) M Q := by
  intro g p l e R s m args below meth c H locs cells slots ls C hS hR hc hs hl
  exact lv_ldiv C.1 C.2.1 hdg hne (kk g p l e R s m args below meth c H locs cells slots ls C hS hR hc hs hl)
theorem a_lrem {x y : Int64} (hdg : decode μ.2.1 pc = .ok (.lrem, 1)) (hne : ¬ y = 0) (kk : AW μ d mc ms N (pc + 1) L (.long (x - x / y * y) :: S) M Q) : AW μ d mc ms N pc L (.long y :: .long x :: S) M Q := by
  intro g p l e R s m args below meth c H locs cells slots ls C hS hR hc hs hl
  exact lv_lrem C.1 C.2.1 hdg hne (kk g p l e R s m args below meth c H locs cells slots ls C hS hR hc hs hl)
theorem a_lneg {x : Int64} (hdg : decode μ.2.1 pc = .ok (.lneg, 1)) (kk : AW μ d mc ms N (pc + 1) L (.long (-x) :: S) M Q) : AW μ d mc ms N pc L (.long x :: S) M Q := by
  intro g p l e R s m args below meth c H locs cells slots ls C hS hR hc hs hl
  exact lv_lneg C.1 C.2.1 hdg (kk g p l e R s m args below meth c H locs cells slots ls C hS hR hc hs hl)
theorem a_ishl {x y : Int32} (hdg : decode μ.2.1 pc = .ok (.ishl, 1)) (kk : AW μ d mc ms N (pc + 1) L (.int (x <<< (y &&& 31)) :: S) M Q) : AW μ d mc ms N pc L (.int y :: .int x :: S) M Q := by
  intro g p l e R s m args below meth c H locs cells slots ls C hS hR hc hs hl
  exact lv_ishl C.1 C.2.1 hdg (kk g p l e R s m args below meth c H locs cells slots ls C hS hR hc hs hl)
theorem a_ishr {x y : Int32} (hdg : decode μ.2.1 pc = .ok (.ishr, 1)) (kk : AW μ d mc ms N (pc + 1) L (.int (x >>> (y &&& 31)) :: S) M Q) : AW μ d mc ms N pc L (.int y :: .int x :: S) M Q := by
  intro g p l e R s m args below meth c H locs cells slots ls C hS hR hc hs hl
  exact lv_ishr C.1 C.2.1 hdg (kk g p l e R s m args below meth c H locs cells slots ls C hS hR hc hs hl)
theorem a_iushr {x y v : Int32} (hdg : decode μ.2.1 pc = .ok (.iushr, 1)) (hv : (x.toUInt32 >>> (y.toUInt32 &&& Int32.toUInt32 31)).toInt32 = v) (kk : AW μ d mc ms N (pc + 1) L (.int v :: S) M Q) : AW μ d mc ms N pc L (.int y :: .int x :: S) M Q := by
  intro g p l e R s m args below meth c H locs cells slots ls C hS hR hc hs hl
  exact lv_iushr C.1 C.2.1 hdg hv (kk g p l e R s m args below meth c H locs cells slots ls C hS hR hc hs hl)
theorem a_lushr {x v : Int64} {y : Int32} (hdg : decode μ.2.1 pc = .ok (.lushr, 1)) (hv : (x.toUInt64 >>> (y.toInt64.toUInt64 &&& Int64.toUInt64 63)).toInt64 = v) (kk : AW μ d mc ms N (pc + 1) L (.long v :: S) M Q) : AW μ d mc ms N pc L (.int y :: .long x :: S) M Q := by
  intro g p l e R s m args below meth c H locs cells slots ls C hS hR hc hs hl
  exact lv_lushr C.1 C.2.1 hdg hv (kk g p l e R s m args below meth c H locs cells slots ls C hS hR hc hs hl)
theorem a_lshl {x v : Int64} {y : Int32} (hdg : decode μ.2.1 pc = .ok (.lshl, 1)) (hv : x <<< (y.toInt64 &&& 63) = v) (kk : AW μ d mc ms N (pc + 1) L (.long v :: S) M Q) : AW μ d mc ms N pc L (.int y :: .long x :: S) M Q := by
  intro g p l e R s m args below meth c H locs cells slots ls C hS hR hc hs hl
  exact lv_lshl C.1 C.2.1 hdg hv (kk g p l e R s m args below meth c H locs cells slots ls C hS hR hc hs hl)
theorem a_lshr {x v : Int64} {y : Int32} (hdg : decode μ.2.1 pc = .ok (.lshr, 1)) (hv : x >>> (y.toInt64 &&& 63) = v) (kk : AW μ d mc ms N (pc + 1) L (.long v :: S) M Q) : AW μ d mc ms N pc L (.int y :: .long x :: S) M Q := by
  intro g p l e R s m args below meth c H locs cells slots ls C hS hR hc hs hl
  exact lv_lshr C.1 C.2.1 hdg hv (kk g p l e R s m args below meth c H locs cells slots ls C hS hR hc hs hl)
theorem a_i2l {x : Int32} {v : Int64} (hdg : decode μ.2.1 pc = .ok (.i2l, 1)) (hv : x.toInt64 = v) (kk : AW μ d mc ms N (pc + 1) L (.long v :: S) M Q) : AW μ d mc ms N pc L (.int x :: S) M Q := by
  intro g p l e R s m args below meth c H locs cells slots ls C hS hR hc hs hl
  exact lv_i2l C.1 C.2.1 hdg hv (kk g p l e R s m args below meth c H locs cells slots ls C hS hR hc hs hl)
theorem a_l2i {x : Int64} {v : Int32} (hdg : decode μ.2.1 pc = .ok (.l2i, 1)) (hv : x.toInt32 = v) (kk : AW μ d mc ms N (pc + 1) L (.int v :: S) M Q) : AW μ d mc ms N pc L (.long x :: S) M Q := by
  intro g p l e R s m args below meth c H locs cells slots ls C hS hR hc hs hl
  exact lv_l2i C.1 C.2.1 hdg hv (kk g p l e R s m args below meth c H locs cells slots ls C hS hR hc hs hl)
theorem a_i2b {x v : Int32} (hdg : decode μ.2.1 pc = .ok (.i2b, 1)) (hv : x.toInt8.toInt32 = v) (kk : AW μ d mc ms N (pc + 1) L (.int v :: S) M Q) : AW μ d mc ms N pc L (.int x :: S) M Q := by
  intro g p l e R s m args below meth c H locs cells slots ls C hS hR hc hs hl
  exact lv_i2b C.1 C.2.1 hdg hv (kk g p l e R s m args below meth c H locs cells slots ls C hS hR hc hs hl)
theorem a_lcmp {x y : Int64} (hdg : decode μ.2.1 pc = .ok (.lcmp, 1)) (kk : AW μ d mc ms N (pc + 1) L (.int (lg_cmp x y) :: S) M Q) : AW μ d mc ms N pc L (.long y :: .long x :: S) M Q := by
  intro g p l e R s m args below meth c H locs cells slots ls C hS hR hc hs hl
  exact W.lcmp C.1 C.2.1 hdg (kk g p l e R s m args below meth c H locs cells slots ls C hS hR hc hs hl)
theorem a_dup {v : Value} (hdg : decode μ.2.1 pc = .ok (.dup, 1)) (hv : v.category = 1) (kk : AW μ d mc ms N (pc + 1) L (v :: v :: S) M Q) : AW μ d mc ms N pc L (v :: S) M Q := by
  intro g p l e R s m args below meth c H locs cells slots ls C hS hR hc hs hl
  exact lv_dup C.1 C.2.1 hdg ((tv_cat _ v).trans hv) (kk g p l e R s m args below meth c H locs cells slots ls C hS hR hc hs hl)
theorem a_pop {v : Value} (hdg : decode μ.2.1 pc = .ok (.pop, 1)) (hv : v.category = 1) (kk : AW μ d mc ms N (pc + 1) L S M Q) : AW μ d mc ms N pc L (v :: S) M Q := by
  intro g p l e R s m args below meth c H locs cells slots ls C hS hR hc hs hl
  exact lv_pop C.1 C.2.1 hdg ((tv_cat _ v).trans hv) (kk g p l e R s m args below meth c H locs cells slots ls C hS hR hc hs hl)
theorem a_if_eq {x : Int32} {off : Int} {tgt : Nat} (hdg : decode μ.2.1 pc = .ok (.ifCond .eq off, 3)) (ht : (pc : Int) + off = (tgt : Int)) (kt : x = 0 → AW μ d mc ms N tgt L S M Q) (kf : ¬ (x = 0) → AW μ d mc ms N (pc + 3) L S M Q) : AW μ d mc ms N pc L (.int x :: S) M Q := by
  intro g p l e R s m args below meth c H locs cells slots ls C hS hR hc hs hl
  exact lv_if_eq C.1 C.2.1 hdg ht (fun h => kt (by exact h) g p l e R s m args below meth c H locs cells slots ls C hS hR hc hs hl) (fun h => kf (by exact h) g p l e R s m args below meth c H locs cells slots ls C hS hR hc hs hl)
theorem a_icmp_eq {x y : Int32} {off : Int} {tgt : Nat} (hdg : decode μ.2.1 pc = .ok (.if_icmp .eq off, 3)) (ht : (pc : Int) + off = (tgt : Int)) (kt : x = y → AW μ d mc ms N tgt L S M Q) (kf : ¬ (x = y) → AW μ d mc ms N (pc + 3) L S M Q) : AW μ d mc ms N pc L (.int y :: .int x :: S) M Q := by
  intro g p l e R s m args below meth c H locs cells slots ls C hS hR hc hs hl
  exact lv_icmp_eq C.1 C.2.1 hdg ht (fun h => kt (by exact h) g p l e R s m args below meth c H locs cells slots ls C hS hR hc hs hl) (fun h => kf (by exact h) g p l e R s m args below meth c H locs cells slots ls C hS hR hc hs hl)
theorem a_if_ne {x : Int32} {off : Int} {tgt : Nat} (hdg : decode μ.2.1 pc = .ok (.ifCond .ne off, 3)) (ht : (pc : Int) + off = (tgt : Int)) (kt : ¬ x = 0 → AW μ d mc ms N tgt L S M Q) (kf : x = 0 → AW μ d mc ms N (pc + 3) L S M Q) : AW μ d mc ms N pc L (.int x :: S) M Q := by
  intro g p l e R s m args below meth c H locs cells slots ls C hS hR hc hs hl
  exact lv_if_ne C.1 C.2.1 hdg ht (fun h => kt (by exact h) g p l e R s m args below meth c H locs cells slots ls C hS hR hc hs hl) (fun h => kf (by exact h) g p l e R s m args below meth c H locs cells slots ls C hS hR hc hs hl)
theorem a_icmp_ne {x y : Int32} {off : Int} {tgt : Nat} (hdg : decode μ.2.1 pc = .ok (.if_icmp .ne off, 3)) (ht : (pc : Int) + off = (tgt : Int)) (kt : ¬ x = y → AW μ d mc ms N tgt L S M Q) (kf : x = y → AW μ d mc ms N (pc + 3) L S M Q) : AW μ d mc ms N pc L (.int y :: .int x :: S) M Q := by
  intro g p l e R s m args below meth c H locs cells slots ls C hS hR hc hs hl
  exact lv_icmp_ne C.1 C.2.1 hdg ht (fun h => kt (by exact h) g p l e R s m args below meth c H locs cells slots ls C hS hR hc hs hl) (fun h => kf (by exact h) g p l e R s m args below meth c H locs cells slots ls C hS hR hc hs hl)
theorem a_if_lt {x : Int32} {off : Int} {tgt : Nat} (hdg : decode μ.2.1 pc = .ok (.ifCond .lt off, 3)) (ht : (pc : Int) + off = (tgt : Int)) (kt : x < 0 → AW μ d mc ms N tgt L S M Q) (kf : ¬ (x < 0) → AW μ d mc ms N (pc + 3) L S M Q) : AW μ d mc ms N pc L (.int x :: S) M Q := by
  intro g p l e R s m args below meth c H locs cells slots ls C hS hR hc hs hl
  exact lv_if_lt C.1 C.2.1 hdg ht (fun h => kt (by exact h) g p l e R s m args below meth c H locs cells slots ls C hS hR hc hs hl) (fun h => kf (by exact h) g p l e R s m args below meth c H locs cells slots ls C hS hR hc hs hl)
theorem a_icmp_lt {x y : Int32} {off : Int} {tgt : Nat} (hdg : decode μ.2.1 pc = .ok (.if_icmp .lt off, 3)) (ht : (pc : Int) + off = (tgt : Int)) (kt : x < y → AW μ d mc ms N tgt L S M Q) (kf : ¬ (x < y) → AW μ d mc ms N (pc + 3) L S M Q) : AW μ d mc ms N pc L (.int y :: .int x :: S) M Q := by
  intro g p l e R s m args below meth c H locs cells slots ls C hS hR hc hs hl
  exact lv_icmp_lt C.1 C.2.1 hdg ht (fun h => kt (by exact h) g p l e R s m args below meth c H locs cells slots ls C hS hR hc hs hl) (fun h => kf (by exact h) g p l e R s m args below meth c H locs cells slots ls C hS hR hc hs hl)
theorem a_if_ge {x : Int32} {off : Int} {tgt : Nat} (hdg : decode μ.2.1 pc = .ok (.ifCond .ge off, 3)) (ht : (pc : Int) + off = (tgt : Int)) (kt : 0 ≤ x → AW μ d mc ms N tgt L S M Q) (kf : ¬ (0 ≤ x) → AW μ d mc ms N (pc + 3) L S M Q) : AW μ d mc ms N pc L (.int x :: S) M Q := by
  intro g p l e R s m args below meth c H locs cells slots ls C hS hR hc hs hl
  exact lv_if_ge C.1 C.2.1 hdg ht (fun h => kt (by exact h) g p l e R s m args below meth c H locs cells slots ls C hS hR hc hs hl) (fun h => kf (by exact h) g p l e R s m args below meth c H locs cells slots ls C hS hR hc hs hl)
theorem a_icmp_ge {x y : Int32} {off : Int} {tgt : Nat} (hdg : decode μ.2.1 pc = .ok (.if_icmp .ge off, 3)) (ht : (pc : Int) + off = (tgt : Int)) (kt : y ≤ x → AW μ d mc ms N tgt L S M Q) (kf : ¬ (y ≤ x) → AW μ d mc ms N (pc + 3) L S M Q) : AW μ d mc ms N pc L (.int y :: .int x :: S) M Q := by
  intro g p l e R s m args below meth c H locs cells slots ls C hS hR hc hs hl
  exact lv_icmp_ge C.1 C.2.1 hdg ht (fun h => kt (by exact h) g p l e R s m args below meth c H locs cells slots ls C hS hR hc hs hl) (fun h => kf (by exact h) g p l e R s m args below meth c H locs cells slots ls C hS hR hc hs hl)
theorem a_if_gt {x : Int32} {off : Int} {tgt : Nat} (hdg : decode μ.2.1 pc = .ok (.ifCond .gt off, 3)) (ht : (pc : Int) + off = (tgt : Int)) (kt : 0 < x → AW μ d mc ms N tgt L S M Q) (kf : ¬ (0 < x) → AW μ d mc ms N (pc + 3) L S M Q) : AW μ d mc ms N pc L (.int x :: S) M Q := by
  intro g p l e R s m args below meth c H locs cells slots ls C hS hR hc hs hl
  exact lv_if_gt C.1 C.2.1 hdg ht (fun h => kt (by exact h) g p l e R s m args below meth c H locs cells slots ls C hS hR hc hs hl) (fun h => kf (by exact h) g p l e R s m args below meth c H locs cells slots ls C hS hR hc hs hl)
theorem a_icmp_gt {x y : Int32} {off : Int} {tgt : Nat} (hdg : decode μ.2.1 pc = .ok (.if_icmp .gt off, 3)) (ht : (pc : Int) + off = (tgt : Int)) (kt : y < x → AW μ d mc ms N tgt L S M Q) (kf : ¬ (y < x) → AW μ d mc ms N (pc + 3) L S M Q) : AW μ d mc ms N pc L (.int y :: .int x :: S) M Q := by
  intro g p l e R s m args below meth c H locs cells slots ls C hS hR hc hs hl
  exact lv_icmp_gt C.1 C.2.1 hdg ht (fun h => kt (by exact h) g p l e R s m args below meth c H locs cells slots ls C hS hR hc hs hl) (fun h => kf (by exact h) g p l e R s m args below meth c H locs cells slots ls C hS hR hc hs hl)
theorem a_if_le {x : Int32} {off : Int} {tgt : Nat} (hdg : decode μ.2.1 pc = .ok (.ifCond .le off, 3)) (ht : (pc : Int) + off = (tgt : Int)) (kt : x ≤ 0 → AW μ d mc ms N tgt L S M Q) (kf : ¬ (x ≤ 0) → AW μ d mc ms N (pc + 3) L S M Q) : AW μ d mc ms N pc L (.int x :: S) M Q := by
  intro g p l e R s m args below meth c H locs cells slots ls C hS hR hc hs hl
  exact lv_if_le C.1 C.2.1 hdg ht (fun h => kt (by exact h) g p l e R s m args below meth c H locs cells slots ls C hS hR hc hs hl) (fun h => kf (by exact h) g p l e R s m args below meth c H locs cells slots ls C hS hR hc hs hl)
theorem a_icmp_le {x y : Int32} {off : Int} {tgt : Nat} (hdg : decode μ.2.1 pc = .ok (.if_icmp .le off, 3)) (ht : (pc : Int) + off = (tgt : Int)) (kt : x ≤ y → AW μ d mc ms N tgt L S M Q) (kf : ¬ (x ≤ y) → AW μ d mc ms N (pc + 3) L S M Q) : AW μ d mc ms N pc L (.int y :: .int x :: S) M Q := by
  intro g p l e R s m args below meth c H locs cells slots ls C hS hR hc hs hl
  exact lv_icmp_le C.1 C.2.1 hdg ht (fun h => kt (by exact h) g p l e R s m args below meth c H locs cells slots ls C hS hR hc hs hl) (fun h => kf (by exact h) g p l e R s m args below meth c H locs cells slots ls C hS hR hc hs hl)
theorem a_goto {off : Int} {tgt : Nat} (hdg : decode μ.2.1 pc = .ok (.goto off, 3)) (ht : (pc : Int) + off = (tgt : Int)) (kk : AW μ d mc ms N tgt L S M Q) : AW μ d mc ms N pc L S M Q := by
  intro g p l e R s m args below meth c H locs cells slots ls C hS hR hc hs hl
  exact lv_goto C.1 C.2.1 hdg ht (kk g p l e R s m args below meth c H locs cells slots ls C hS hR hc hs hl)
theorem a_ifnull {x : Nat} {off : Int} (hdg : decode μ.2.1 pc = .ok (.ifnull off, 3)) (kk : AW μ d mc ms N (pc + 3) L S M Q) : AW μ d mc ms N pc L (.ref x :: S) M Q := by
  intro g p l e R s m args below meth c H locs cells slots ls C hS hR hc hs hl
  exact lv_ifnull C.1 C.2.1 hdg (kk g p l e R s m args below meth c H locs cells slots ls C hS hR hc hs hl)
theorem a_ifnullN {off : Int} {tgt : Nat} (hdg : decode μ.2.1 pc = .ok (.ifnull off, 3)) (ht : (pc : Int) + off = (tgt : Int)) (kk : AW μ d mc ms N tgt L S M Q) : AW μ d mc ms N pc L (.null :: S) M Q := by
  intro g p l e R s m args below meth c H locs cells slots ls C hS hR hc hs hl
  exact lv_ifnullN C.1 C.2.1 hdg ht (kk g p l e R s m args below meth c H locs cells slots ls C hS hR hc hs hl)
theorem a_ifnonnull {x : Nat} {off : Int} {tgt : Nat} (hdg : decode μ.2.1 pc = .ok (.ifnonnull off, 3)) (ht : (pc : Int) + off = (tgt : Int)) (kk : AW μ d mc ms N tgt L S M Q) : AW μ d mc ms N pc L (.ref x :: S) M Q := by
  intro g p l e R s m args below meth c H locs cells slots ls C hS hR hc hs hl
  exact lv_ifnonnull C.1 C.2.1 hdg ht (kk g p l e R s m args below meth c H locs cells slots ls C hS hR hc hs hl)
theorem a_ifnonnullN {off : Int} (hdg : decode μ.2.1 pc = .ok (.ifnonnull off, 3)) (kk : AW μ d mc ms N (pc + 3) L S M Q) : AW μ d mc ms N pc L (.null :: S) M Q := by
  intro g p l e R s m args below meth c H locs cells slots ls C hS hR hc hs hl
  exact lv_ifnonnullN C.1 C.2.1 hdg (kk g p l e R s m args below meth c H locs cells slots ls C hS hR hc hs hl)
theorem a_tableOut {dflt lo hi : Int} {offs : Array Int} {len : Nat} {x : Int32} {tgt : Nat} (hdg : decode μ.2.1 pc = .ok (.tableswitch dflt lo hi offs, len)) (h : x.toInt < lo ∨ hi < x.toInt) (ht : (pc : Int) + dflt = (tgt : Int)) (kk : AW μ d mc ms N tgt L S M Q) : AW μ d mc ms N pc L (.int x :: S) M Q := by
  intro g p l e R s m args below meth c H locs cells slots ls C hS hR hc hs hl
  exact lv_tableOut C.1 C.2.1 hdg h ht (kk g p l e R s m args below meth c H locs cells slots ls C hS hR hc hs hl)
theorem a_tableIn {dflt lo hi : Int} {offs : Array Int} {len : Nat} {x : Int32} {off : Int} {tgt : Nat} (hdg : decode μ.2.1 pc = .ok (.tableswitch dflt lo hi offs, len)) (h1 : ¬ x.toInt < lo) (h2 : ¬ hi < x.toInt) (ho : offs[(x.toInt - lo).toNat]? = some off) (ht : (pc : Int) + off = (tgt : Int)) (kk : AW μ d mc ms N tgt L S M Q) : AW μ d mc ms N pc L (.int x :: S) M Q := by
  intro g p l e R s m args below meth c H locs cells slots ls C hS hR hc hs hl
  exact lv_tableIn C.1 C.2.1 hdg h1 h2 ho ht (kk g p l e R s m args below meth c H locs cells slots ls C hS hR hc hs hl)
theorem a_iret {v : Int32} (hdg : decode μ.2.1 pc = .ok (.ireturn, 1)) (hr : μ.2.2.2 = some .int) (h : Q (some (.int v)) N M) : AW μ d mc ms N pc L ([.int v]) M Q := by
  intro g p l e R s m args below meth c H locs cells slots ls C hS hR hc hs hl
  obtain ⟨c1, c2, c3, c4, c5, c6, c7, c8, -⟩ := id C
  refine W.widen (k := R.cells) (n := R.slots) (by omega) (by omega) ?_
  exact W.iret (v := v) c1 c2 (c4.trans hr) (fun t ht hW => ⟨⟨some (.int v), N, M, rfl, h, by rw [ht]; exact hR⟩, hS.F ht⟩) hS.2.2 hdg c7
theorem a_zret {v : Int32} (hdg : decode μ.2.1 pc = .ok (.ireturn, 1)) (hr : μ.2.2.2 = some .boolean) (hn : v = 0 ∨ v = 1) (h : Q (some (.int v)) N M) : AW μ d mc ms N pc L ([.int v]) M Q := by
  intro g p l e R s m args below meth c H locs cells slots ls C hS hR hc hs hl
  obtain ⟨c1, c2, c3, c4, c5, c6, c7, c8, -⟩ := id C
  refine W.widen (k := R.cells) (n := R.slots) (by omega) (by omega) ?_
  exact W.zret (v := v) (ty := .boolean) c1 c2 (c4.trans hr) (by rcases hn with rfl | rfl <;> rfl) (fun t ht hW => ⟨⟨some (.int v), N, M, rfl, h, by rw [ht]; exact hR⟩, hS.F ht⟩) hS.2.2 hdg c7
theorem a_lret {v : Int64} (hdg : decode μ.2.1 pc = .ok (.lreturn, 1)) (hr : μ.2.2.2 = some .long) (h : Q (some (.long v)) N M) : AW μ d mc ms N pc L ([.long v]) M Q := by
  intro g p l e R s m args below meth c H locs cells slots ls C hS hR hc hs hl
  obtain ⟨c1, c2, c3, c4, c5, c6, c7, c8, -⟩ := id C
  refine W.widen (k := R.cells) (n := R.slots) (by omega) (by omega) ?_
  exact W.lret (v := v) c1 c2 (c4.trans hr) (fun t ht hW => ⟨⟨some (.long v), N, M, rfl, h, by rw [ht]; exact hR⟩, hS.F ht⟩) hS.2.2 hdg c7
theorem a_vret (hdg : decode μ.2.1 pc = .ok (.return_, 1)) (hr : μ.2.2.2 = none) (h : Q none N M) : AW μ d mc ms N pc L [] M Q := by
  intro g p l e R s m args below meth c H locs cells slots ls C hS hR hc hs hl
  obtain ⟨c1, c2, c3, c4, c5, c6, c7, c8, -⟩ := id C
  refine W.widen (k := R.cells) (n := R.slots) (by omega) (by omega) ?_
  exact W.vret c1 c2 (c4.trans hr) (fun t ht hW => ⟨⟨none, N, M, rfl, h, by rw [ht]; exact hR⟩, hS.F ht⟩) hS.2.2 hdg c7
theorem a_aret {v : Value} {nm : String} (hdg : decode μ.2.1 pc = .ok (.areturn, 1)) (hr : μ.2.2.2 = some (.object nm)) (hv : v = .null ∨ ∃ a, v = .ref a) (h : Q (some v) N M) : AW μ d mc ms N pc L [v] M Q := by
  intro g p l e R s m args below meth c H locs cells slots ls C hS hR hc hs hl
  obtain ⟨c1, c2, c3, c4, c5, c6, c7, c8, -⟩ := id C
  refine W.widen (k := R.cells) (n := R.slots) (by omega) (by omega) ?_
  exact W.aret (v := tv (wad g) v) c1 c2 (c4.trans hr) (Or.inl ⟨nm, rfl⟩) (by rcases hv with rfl | ⟨a, rfl⟩; exact Or.inl rfl; exact Or.inr ⟨_, rfl⟩) (fun t ht hW => ⟨⟨some v, N, M, rfl, h, by rw [ht]; exact hR⟩, hS.F ht⟩) hS.2.2 hdg c7
theorem a_ldc2 {ix : Nat} {v : Int64} (hk : Cond.constantLong μ.1.cls ix v ∈ wsG) (hdg : decode μ.2.1 pc = .ok (.ldc2_w ix, 3)) (kk : AW μ d mc ms N (pc + 3) L (.long v :: S) M Q) : AW μ d mc ms N pc L S M Q := by
  intro g p l e R s m args below meth c H locs cells slots ls C hS hR hc hs hl
  obtain ⟨c1, c2, c3, c4, c5, c6, -⟩ := id C
  exact lv_ldc2 c1 c2 c5 (c6 _ hk) hdg (kk g p l e R s m args below meth c H locs cells slots ls C hS hR hc hs hl)
end ROWS
