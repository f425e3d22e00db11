/-! THE JUDGEMENT -/
/-- a method: its name, bytes, locals, result, handlers, the cells and slots that it may make -/
abbrev am_Y : Type := MethodName × ByteArray × Nat × Option FieldType × List (Nat × Nat × Nat × Nat) × Nat × Nat
abbrev am_nm (y : am_Y) : MethodName := y.1
abbrev am_bc (y : am_Y) : ByteArray := y.2.1
abbrev am_mx (y : am_Y) : Nat := y.2.2.1
abbrev am_rt (y : am_Y) : Option FieldType := y.2.2.2.1
abbrev am_hd (y : am_Y) : List (Nat × Nat × Nat × Nat) := y.2.2.2.2.1
abbrev am_mc (y : am_Y) : Nat := y.2.2.2.2.2.1
abbrev am_ms (y : am_Y) : Nat := y.2.2.2.2.2.2
/-- the method y is being run, d calls deep to go -/
def am_X (G : am_G) (d : Nat) (y : am_Y) (p : Program) (e : Env) (R : Room) (s : State) (m : MethodId) (meth : Method) (c : Code) : Prop :=
  p.tables.exec = Jvm.exec ∧ c.code = am_bc y ∧ c.maxLocals = am_mx y ∧ s.vm.findClass (am_nm y).cls = some m.cls ∧ meth.sig.returnType = am_rt y ∧ meth.locks = false ∧ meth.name = (am_nm y).name ∧
  (c.exceptionTable.toList.map fun x => (x.startPc, x.endPc, x.handlerPc, x.catchType)) = am_hd y ∧ am_kn G s ∧ (∀ q : Nat, q < am_b G → s.heap[q]? = (am_B G)[q]?) ∧ am_b G ≤ s.heap.size ∧ e.platform.stackTraces = false ∧
  d + 12 ≤ R.frames ∧ 60 * d + 400 ≤ R.locals ∧ am_mc y ≤ R.cells ∧ am_ms y ≤ R.slots
/-- an outcome, in the heap -/
def am_oc (G : am_G) (s : State) (o' : am_O) (o : Outcome) (H : Heap) : Prop := match o' with
  | .inl v => o = .returned (v.map (am_cv G))
  | .inr q => o = .threw (am_ad G q.2) ∧ q.1 < 5 ∧ ∃ cell : Cell, H[am_ad G q.2]? = some cell ∧ cell.vm.isStatics = false ∧ s.vm.findClass (am_xn q.1) = some cell.cls
/-- the method's end -/
def am_E (G : am_G) (y : am_Y) (s : State) (below : List Frame) (Q : am_O → am_H → Nat → Prop) : State → Prop := fun t =>
  ∃ (o : Outcome) (o' : am_O) (h' : am_H) (n' : Nat), t.status = .running ∧ Ended t below o ∧ Q o' h' n' ∧ am_oc G s o' o t.heap ∧ am_R am_cl G s h' n' t.heap ∧ s.WarmedH t.vm ∧
    ∃ L : List Loc, s.sameButNew ({ t with vm := s.vm } : State) L (am_mc y) (am_ms y) ∧ ∀ q ∈ L, am_b G ≤ q.base
def am_W (d : Nat) (y : am_Y) (pc : Nat) (ls : List (Option Value)) (st : List Value) (h : am_H) (n cu su : Nat) (Q : am_O → am_H → Nat → Prop) : Prop :=
  ∀ (G : am_G) (p : Program) (e : Env) (R : Room) (s : State) (m : MethodId) (args : Array Value) (below : List Frame) (meth : Method) (c : Code) (lc : Array Slot) (H : Heap) (locs : List Loc),
    am_X G d y p e R s m meth c → am_L G lc ls → am_R am_cl G s h n H → (∀ q ∈ locs, am_b G ≤ q.base) →
    W p (am_l G) e R s m args below meth c H locs cu su (am_E G y s below Q) (F0 m pc lc (st.map (am_cv G)))
section AMX
variable {G : am_G} {d : Nat} {y : am_Y} {p : Program} {e : Env} {R : Room} {s : State} {m : MethodId} {meth : Method} {c : Code}
theorem am_X.exec (C : am_X G d y p e R s m meth c) : p.tables.exec = Jvm.exec := C.1
theorem am_X.bytes (C : am_X G d y p e R s m meth c) : c.code = am_bc y := C.2.1
theorem am_X.maxL (C : am_X G d y p e R s m meth c) : c.maxLocals = am_mx y := C.2.2.1
theorem am_X.own (C : am_X G d y p e R s m meth c) : s.vm.findClass (am_nm y).cls = some m.cls := C.2.2.2.1
theorem am_X.ret (C : am_X G d y p e R s m meth c) : meth.sig.returnType = am_rt y := C.2.2.2.2.1
theorem am_X.locks (C : am_X G d y p e R s m meth c) : meth.locks = false := C.2.2.2.2.2.1
theorem am_X.name (C : am_X G d y p e R s m meth c) : meth.name = (am_nm y).name := C.2.2.2.2.2.2.1
theorem am_X.hand (C : am_X G d y p e R s m meth c) : (c.exceptionTable.toList.map fun x => (x.startPc, x.endPc, x.handlerPc, x.catchType)) = am_hd y := C.2.2.2.2.2.2.2.1
theorem am_X.kn (C : am_X G d y p e R s m meth c) : am_kn G s := C.2.2.2.2.2.2.2.2.1
theorem am_X.old (C : am_X G d y p e R s m meth c) : ∀ q : Nat, q < am_b G → s.heap[q]? = (am_B G)[q]? := C.2.2.2.2.2.2.2.2.2.1
theorem am_X.size (C : am_X G d y p e R s m meth c) : am_b G ≤ s.heap.size := C.2.2.2.2.2.2.2.2.2.2.1
theorem am_X.traces (C : am_X G d y p e R s m meth c) : e.platform.stackTraces = false := C.2.2.2.2.2.2.2.2.2.2.2.1
theorem am_X.frames (C : am_X G d y p e R s m meth c) : d + 12 ≤ R.frames := C.2.2.2.2.2.2.2.2.2.2.2.2.1
theorem am_X.locals (C : am_X G d y p e R s m meth c) : 60 * d + 400 ≤ R.locals := C.2.2.2.2.2.2.2.2.2.2.2.2.2.1
theorem am_X.cells (C : am_X G d y p e R s m meth c) : am_mc y ≤ R.cells := C.2.2.2.2.2.2.2.2.2.2.2.2.2.2.1
theorem am_X.slots (C : am_X G d y p e R s m meth c) : am_ms y ≤ R.slots := C.2.2.2.2.2.2.2.2.2.2.2.2.2.2.2
theorem am_X.word (C : am_X G d y p e R s m meth c) {i : Nat} {w : Cond} (hw : tables_1[i]? = some w) (args : Array Value) (hg : goodWord w = true := by rfl) : w.before args s = true := C.kn.word hw hg args
end AMX
theorem am_wmono {p : Program} {l : Launch} {e : Env} {R : Room} {s : State} {m : MethodId} {args : Array Value} {below : List Frame} {meth : Method} {c : Code} {H : Heap} {locs : List Loc} {cells slots : Nat} {Q Q' : State → Prop} {g : JFrame} (hq : ∀ t, Q t → Q' t) (h : W p l e R s m args below meth c H locs cells slots Q g) : W p l e R s m args below meth c H locs cells slots Q' g := by
  intro T hT X
  obtain ⟨t, a, b⟩ := h T hT X
  exact ⟨t, a, hq t b⟩
section AMR
variable {d : Nat} {y : am_Y} {pc : Nat} {ls : List (Option Value)} {st : List Value} {h : am_H} {n cu su : Nat} {Q Q' : am_O → am_H → Nat → Prop}
theorem am_W.imp (w : am_W d y pc ls st h n cu su Q) (hq : ∀ o h' n', Q o h' n' → Q' o h' n') : am_W d y pc ls st h n cu su Q' := by
  intro G p e R s m args below meth c lc H locs C hl hr hL
  refine am_wmono (fun t ht => ?_) (w G p e R s m args below meth c lc H locs C hl hr hL)
  obtain ⟨o, o', h', n', h1, h2, h3, h4⟩ := ht
  exact ⟨o, o', h', n', h1, h2, hq _ _ _ h3, h4⟩
/-- cells and slots rounded up -/
theorem am_W.wide {cu' su' : Nat} (w : am_W d y pc ls st h n cu' su' Q) (hc : cu ≤ cu') (hs : su ≤ su') : am_W d y pc ls st h n cu su Q :=
  fun G p e R s m args below meth c lc H locs C hl hr hL => W.widen hc hs (w G p e R s m args below meth c lc H locs C hl hr hL)
theorem ar_iconst {z : Int} (hd : decode (am_bc y) pc = .ok (.iconst z, 1)) (k : am_W d y (pc + 1) ls (.int (Int32.ofInt z) :: st) h n cu su Q) : am_W d y pc ls (st) h n cu su Q :=
  fun G p e R s m args below meth c lc H locs C hl hr hL => lv_iconst C.exec C.bytes hd rfl (k G p e R s m args below meth c lc H locs C hl hr hL)
theorem ar_bipush {z : Int} (hd : decode (am_bc y) pc = .ok (.bipush z, 2)) (k : am_W d y (pc + 2) ls (.int (Int8.ofInt z).toInt32 :: st) h n cu su Q) : am_W d y pc ls (st) h n cu su Q :=
  fun G p e R s m args below meth c lc H locs C hl hr hL => lv_bipush C.exec C.bytes hd rfl (k G p e R s m args below meth c lc H locs C hl hr hL)
theorem ar_sipush {z : Int} (hd : decode (am_bc y) pc = .ok (.sipush z, 3)) (k : am_W d y (pc + 3) ls (.int (Int16.ofInt z).toInt32 :: st) h n cu su Q) : am_W d y pc ls (st) h n cu su Q :=
  fun G p e R s m args below meth c lc H locs C hl hr hL => lv_sipush C.exec C.bytes hd rfl (k G p e R s m args below meth c lc H locs C hl hr hL)
theorem ar_lconst {z : Fin 2} (hd : decode (am_bc y) pc = .ok (.lconst z, 1)) (k : am_W d y (pc + 1) ls (.long (Int64.ofNat (z : Nat)) :: st) h n cu su Q) : am_W d y pc ls (st) h n cu su Q :=
  fun G p e R s m args below meth c lc H locs C hl hr hL => lv_lconst C.exec C.bytes hd rfl (k G p e R s m args below meth c lc H locs C hl hr hL)
theorem ar_iload_n {i : Fin 4} {x : Int32} (hd : decode (am_bc y) pc = .ok (.iload_n i, 1)) (hx : ls[(i : Nat)]? = some (some (.int x))) (k : am_W d y (pc + 1) ls (.int x :: st) h n cu su Q) : am_W d y pc ls st h n cu su Q :=
  fun G p e R s m args below meth c lc H locs C hl hr hL => lv_iload_n C.exec C.bytes hd rfl (hl.2.2 _ _ hx) (k G p e R s m args below meth c lc H locs C hl hr hL)
theorem ar_iload {i : Nat} {x : Int32} (hd : decode (am_bc y) pc = .ok (.iload i, 2)) (hx : ls[i]? = some (some (.int x))) (k : am_W d y (pc + 2) ls (.int x :: st) h n cu su Q) : am_W d y pc ls st h n cu su Q :=
  fun G p e R s m args below meth c lc H locs C hl hr hL => lv_iload C.exec C.bytes hd (hl.2.2 _ _ hx) (k G p e R s m args below meth c lc H locs C hl hr hL)
theorem ar_lload_n {i : Fin 4} {x : Int64} (hd : decode (am_bc y) pc = .ok (.lload_n i, 1)) (hx : ls[(i : Nat)]? = some (some (.long x))) (k : am_W d y (pc + 1) ls (.long x :: st) h n cu su Q) : am_W d y pc ls st h n cu su Q :=
  fun G p e R s m args below meth c lc H locs C hl hr hL => lv_lload_n C.exec C.bytes hd rfl (hl.2.2 _ _ hx) (k G p e R s m args below meth c lc H locs C hl hr hL)
theorem ar_lload {i : Nat} {x : Int64} (hd : decode (am_bc y) pc = .ok (.lload i, 2)) (hx : ls[i]? = some (some (.long x))) (k : am_W d y (pc + 2) ls (.long x :: st) h n cu su Q) : am_W d y pc ls st h n cu su Q :=
  fun G p e R s m args below meth c lc H locs C hl hr hL => lv_lload C.exec C.bytes hd (hl.2.2 _ _ hx) (k G p e R s m args below meth c lc H locs C hl hr hL)
theorem ar_aload_n {i : Fin 4} {x : Nat} (hd : decode (am_bc y) pc = .ok (.aload_n i, 1)) (hx : ls[(i : Nat)]? = some (some (.ref x))) (k : am_W d y (pc + 1) ls (.ref x :: st) h n cu su Q) : am_W d y pc ls st h n cu su Q :=
  fun G p e R s m args below meth c lc H locs C hl hr hL => lv_aload_n C.exec C.bytes hd rfl (hl.2.2 _ _ hx) (k G p e R s m args below meth c lc H locs C hl hr hL)
theorem ar_aload {i : Nat} {x : Nat} (hd : decode (am_bc y) pc = .ok (.aload i, 2)) (hx : ls[i]? = some (some (.ref x))) (k : am_W d y (pc + 2) ls (.ref x :: st) h n cu su Q) : am_W d y pc ls st h n cu su Q :=
  fun G p e R s m args below meth c lc H locs C hl hr hL => lv_aload C.exec C.bytes hd (hl.2.2 _ _ hx) (k G p e R s m args below meth c lc H locs C hl hr hL)
theorem ar_istore_n {i : Fin 4} {x : Int32} (hd : decode (am_bc y) pc = .ok (.istore_n i, 1)) (hi : (i : Nat) < ls.length) (hc : am_nc ls (i : Nat) = true) (k : am_W d y (pc + 1) (ls.set (i : Nat) (some (.int x))) st h n cu su Q) : am_W d y pc ls (.int x :: st) h n cu su Q :=
  fun G p e R s m args below meth c lc H locs C hl hr hL => lv_istore_n C.exec C.bytes hd rfl hl.has hi rfl (fun lc' hl' => k G p e R s m args below meth c lc' H locs C (hl.put (v := .int x) hi hc hl') hr hL)
theorem ar_istore {i : Nat} {x : Int32} (hd : decode (am_bc y) pc = .ok (.istore i, 2)) (hi : i < ls.length) (hc : am_nc ls i = true) (k : am_W d y (pc + 2) (ls.set i (some (.int x))) st h n cu su Q) : am_W d y pc ls (.int x :: st) h n cu su Q :=
  fun G p e R s m args below meth c lc H locs C hl hr hL => lv_istore C.exec C.bytes hd hl.has hi rfl (fun lc' hl' => k G p e R s m args below meth c lc' H locs C (hl.put (v := .int x) hi hc hl') hr hL)
theorem ar_astore_n {i : Fin 4} {x : Nat} (hd : decode (am_bc y) pc = .ok (.astore_n i, 1)) (hi : (i : Nat) < ls.length) (hc : am_nc ls (i : Nat) = true) (k : am_W d y (pc + 1) (ls.set (i : Nat) (some (.ref x))) st h n cu su Q) : am_W d y pc ls (.ref x :: st) h n cu su Q :=
  fun G p e R s m args below meth c lc H locs C hl hr hL => lv_astore_n C.exec C.bytes hd rfl hl.has hi rfl (fun lc' hl' => k G p e R s m args below meth c lc' H locs C (hl.put (v := .ref x) hi hc hl') hr hL)
theorem ar_astore {i : Nat} {x : Nat} (hd : decode (am_bc y) pc = .ok (.astore i, 2)) (hi : i < ls.length) (hc : am_nc ls i = true) (k : am_W d y (pc + 2) (ls.set i (some (.ref x))) st h n cu su Q) : am_W d y pc ls (.ref x :: st) h n cu su Q :=
  fun G p e R s m args below meth c lc H locs C hl hr hL => lv_astore C.exec C.bytes hd hl.has hi rfl (fun lc' hl' => k G p e R s m args below meth c lc' H locs C (hl.put (v := .ref x) hi hc hl') hr hL)
theorem ar_lstore_n {i : Fin 4} {x : Int64} (hd : decode (am_bc y) pc = .ok (.lstore_n i, 1)) (hi : (i : Nat) + 1 < ls.length) (hc : am_nc ls (i : Nat) = true) (k : am_W d y (pc + 1) ((ls.set (i : Nat) (some (.long x))).set ((i : Nat) + 1) none) st h n cu su Q) : am_W d y pc ls (.long x :: st) h n cu su Q :=
  fun G p e R s m args below meth c lc H locs C hl hr hL => lv_lstore_n C.exec C.bytes hd rfl hl.has hi rfl (fun lc' hl' => k G p e R s m args below meth c lc' H locs C (hl.put2 (v := .long x) hi hc hl') hr hL)
theorem ar_lstore {i : Nat} {x : Int64} (hd : decode (am_bc y) pc = .ok (.lstore i, 2)) (hi : i + 1 < ls.length) (hc : am_nc ls i = true) (k : am_W d y (pc + 2) ((ls.set i (some (.long x))).set (i + 1) none) st h n cu su Q) : am_W d y pc ls (.long x :: st) h n cu su Q :=
  fun G p e R s m args below meth c lc H locs C hl hr hL => lv_lstore C.exec C.bytes hd hl.has hi rfl (fun lc' hl' => k G p e R s m args below meth c lc' H locs C (hl.put2 (v := .long x) hi hc hl') hr hL)
theorem ar_iinc {i : Nat} {z : Int} {x : Int32} (hd : decode (am_bc y) pc = .ok (.iinc i z, 3)) (hx : ls[i]? = some (some (.int x))) (hc : am_nc ls i = true) (k : am_W d y (pc + 3) (ls.set i (some (.int (x + Int32.ofInt z)))) st h n cu su Q) : am_W d y pc ls st h n cu su Q := by
  intro G p e R s m args below meth c lc H locs C hl hr hL
  have hi : i < ls.length := (List.getElem?_eq_some_iff.mp hx).1
  obtain ⟨j, hj⟩ := List.getElem?_of_mem (am_pr_mem (G := G) (q := (i, .int x)).mpr ⟨_, hx, rfl⟩)
  exact lv_iinc C.exec C.bytes hd hl.has hj rfl hi rfl (fun lc' hl' => k G p e R s m args below meth c lc' H locs C (hl.put (v := .int (x + Int32.ofInt z)) hi hc hl') hr hL)
theorem ar_iadd {x z : Int32} (hd : decode (am_bc y) pc = .ok (.iadd, 1)) (k : am_W d y (pc + 1) ls (.int (x + z) :: st) h n cu su Q) : am_W d y pc ls (.int z :: .int x :: st) h n cu su Q :=
  fun G p e R s m args below meth c lc H locs C hl hr hL => lv_iadd C.exec C.bytes hd (k G p e R s m args below meth c lc H locs C hl hr hL)
theorem ar_isub {x z : Int32} (hd : decode (am_bc y) pc = .ok (.isub, 1)) (k : am_W d y (pc + 1) ls (.int (x - z) :: st) h n cu su Q) : am_W d y pc ls (.int z :: .int x :: st) h n cu su Q :=
  fun G p e R s m args below meth c lc H locs C hl hr hL => lv_isub C.exec C.bytes hd (k G p e R s m args below meth c lc H locs C hl hr hL)
theorem ar_imul {x z : Int32} (hd : decode (am_bc y) pc = .ok (.imul, 1)) (k : am_W d y (pc + 1) ls (.int (x * z) :: st) h n cu su Q) : am_W d y pc ls (.int z :: .int x :: st) h n cu su Q :=
  fun G p e R s m args below meth c lc H locs C hl hr hL => lv_imul C.exec C.bytes hd (k G p e R s m args below meth c lc H locs C hl hr hL)
theorem ar_iand {x z : Int32} (hd : decode (am_bc y) pc = .ok (.iand, 1)) (k : am_W d y (pc + 1) ls (.int (x &&& z) :: st) h n cu su Q) : am_W d y pc ls (.int z :: .int x :: st) h n cu su Q :=
  fun G p e R s m args below meth c lc H locs C hl hr hL => lv_iand C.exec C.bytes hd (k G p e R s m args below meth c lc H locs C hl hr hL)
theorem ar_ior {x z : Int32} (hd : decode (am_bc y) pc = .ok (.ior, 1)) (k : am_W d y (pc + 1) ls (.int (x ||| z) :: st) h n cu su Q) : am_W d y pc ls (.int z :: .int x :: st) h n cu su Q :=
  fun G p e R s m args below meth c lc H locs C hl hr hL => lv_ior C.exec C.bytes hd (k G p e R s m args below meth c lc H locs C hl hr hL)
theorem ar_ixor {x z : Int32} (hd : decode (am_bc y) pc = .ok (.ixor, 1)) (k : am_W d y (pc + 1) ls (.int (x ^^^ z) :: st) h n cu su Q) : am_W d y pc ls (.int z :: .int x :: st) h n cu su Q :=
  fun G p e R s m args below meth c lc H locs C hl hr hL => lv_ixor C.exec C.bytes hd (k G p e R s m args below meth c lc H locs C hl hr hL)
theorem ar_ishl {x z : Int32} (hd : decode (am_bc y) pc = .ok (.ishl, 1)) (k : am_W d y (pc + 1) ls (.int (x <<< (z &&& 31)) :: st) h n cu su Q) : am_W d y pc ls (.int z :: .int x :: st) h n cu su Q :=
  fun G p e R s m args below meth c lc H locs C hl hr hL => lv_ishl C.exec C.bytes hd (k G p e R s m args below meth c lc H locs C hl hr hL)
theorem ar_ishr {x z : Int32} (hd : decode (am_bc y) pc = .ok (.ishr, 1)) (k : am_W d y (pc + 1) ls (.int (x >>> (z &&& 31)) :: st) h n cu su Q) : am_W d y pc ls (.int z :: .int x :: st) h n cu su Q :=
  fun G p e R s m args below meth c lc H locs C hl hr hL => lv_ishr C.exec C.bytes hd (k G p e R s m args below meth c lc H locs C hl hr hL)
theorem ar_idiv {x z : Int32} (hd : decode (am_bc y) pc = .ok (.idiv, 1)) (hz : ¬ z = 0) (k : am_W d y (pc + 1) ls (.int (x / z) :: st) h n cu su Q) : am_W d y pc ls (.int z :: .int x :: st) h n cu su Q :=
  fun G p e R s m args below meth c lc H locs C hl hr hL => lv_idiv C.exec C.bytes hd hz (k G p e R s m args below meth c lc H locs C hl hr hL)
theorem ar_irem {x z : Int32} (hd : decode (am_bc y) pc = .ok (.irem, 1)) (hz : ¬ z = 0) (k : am_W d y (pc + 1) ls (.int (x - x / z * z) :: st) h n cu su Q) : am_W d y pc ls (.int z :: .int x :: st) h n cu su Q :=
  fun G p e R s m args below meth c lc H locs C hl hr hL => lv_irem C.exec C.bytes hd hz (k G p e R s m args below meth c lc H locs C hl hr hL)
theorem ar_ineg {x : Int32} (hd : decode (am_bc y) pc = .ok (.ineg, 1)) (k : am_W d y (pc + 1) ls (.int (-x) :: st) h n cu su Q) : am_W d y pc ls (.int x :: st) h n cu su Q :=
  fun G p e R s m args below meth c lc H locs C hl hr hL => lv_ineg C.exec C.bytes hd (k G p e R s m args below meth c lc H locs C hl hr hL)
theorem ar_iushr {x z : Int32} (hd : decode (am_bc y) pc = .ok (.iushr, 1)) (k : am_W d y (pc + 1) ls (.int (x.toUInt32 >>> (z.toUInt32 &&& Int32.toUInt32 31)).toInt32 :: st) h n cu su Q) : am_W d y pc ls (.int z :: .int x :: st) h n cu su Q :=
  fun G p e R s m args below meth c lc H locs C hl hr hL => lv_iushr C.exec C.bytes hd rfl (k G p e R s m args below meth c lc H locs C hl hr hL)
theorem ar_i2l {x : Int32} (hd : decode (am_bc y) pc = .ok (.i2l, 1)) (k : am_W d y (pc + 1) ls (.long x.toInt64 :: st) h n cu su Q) : am_W d y pc ls (.int x :: st) h n cu su Q :=
  fun G p e R s m args below meth c lc H locs C hl hr hL => lv_i2l C.exec C.bytes hd rfl (k G p e R s m args below meth c lc H locs C hl hr hL)
theorem ar_l2i {x : Int64} (hd : decode (am_bc y) pc = .ok (.l2i, 1)) (k : am_W d y (pc + 1) ls (.int x.toInt32 :: st) h n cu su Q) : am_W d y pc ls (.long x :: st) h n cu su Q :=
  fun G p e R s m args below meth c lc H locs C hl hr hL => lv_l2i C.exec C.bytes hd rfl (k G p e R s m args below meth c lc H locs C hl hr hL)
theorem ar_ladd {x z : Int64} (hd : decode (am_bc y) pc = .ok (.ladd, 1)) (k : am_W d y (pc + 1) ls (.long (x + z) :: st) h n cu su Q) : am_W d y pc ls (.long z :: .long x :: st) h n cu su Q :=
  fun G p e R s m args below meth c lc H locs C hl hr hL => lv_ladd C.exec C.bytes hd (k G p e R s m args below meth c lc H locs C hl hr hL)
theorem ar_lsub {x z : Int64} (hd : decode (am_bc y) pc = .ok (.lsub, 1)) (k : am_W d y (pc + 1) ls (.long (x - z) :: st) h n cu su Q) : am_W d y pc ls (.long z :: .long x :: st) h n cu su Q :=
  fun G p e R s m args below meth c lc H locs C hl hr hL => lv_lsub C.exec C.bytes hd (k G p e R s m args below meth c lc H locs C hl hr hL)
theorem ar_lmul {x z : Int64} (hd : decode (am_bc y) pc = .ok (.lmul, 1)) (k : am_W d y (pc + 1) ls (.long (x * z) :: st) h n cu su Q) : am_W d y pc ls (.long z :: .long x :: st) h n cu su Q :=
  fun G p e R s m args below meth c lc H locs C hl hr hL => lv_lmul C.exec C.bytes hd (k G p e R s m args below meth c lc H locs C hl hr hL)
theorem ar_lcmp {x z : Int64} (hd : decode (am_bc y) pc = .ok (.lcmp, 1)) (k : am_W d y (pc + 1) ls (.int (lg_cmp x z) :: st) h n cu su Q) : am_W d y pc ls (.long z :: .long x :: st) h n cu su Q :=
  fun G p e R s m args below meth c lc H locs C hl hr hL => W.lcmp C.exec C.bytes hd (k G p e R s m args below meth c lc H locs C hl hr hL)
theorem ar_dup {v : Value} (hd : decode (am_bc y) pc = .ok (.dup, 1)) (hv : v.category = 1) (k : am_W d y (pc + 1) ls (v :: v :: st) h n cu su Q) : am_W d y pc ls (v :: st) h n cu su Q :=
  fun G p e R s m args below meth c lc H locs C hl hr hL => lv_dup C.exec C.bytes hd (by rw [am_cv_cat]; exact hv) (k G p e R s m args below meth c lc H locs C hl hr hL)
theorem ar_pop {v : Value} (hd : decode (am_bc y) pc = .ok (.pop, 1)) (hv : v.category = 1) (k : am_W d y (pc + 1) ls st h n cu su Q) : am_W d y pc ls (v :: st) h n cu su Q :=
  fun G p e R s m args below meth c lc H locs C hl hr hL => lv_pop C.exec C.bytes hd (by rw [am_cv_cat]; exact hv) (k G p e R s m args below meth c lc H locs C hl hr hL)
theorem ar_dup_x1 {v w : Value} (hd : decode (am_bc y) pc = .ok (.dup_x1, 1)) (hv : v.category = 1) (hw : w.category = 1) (k : am_W d y (pc + 1) ls (v :: w :: v :: st) h n cu su Q) : am_W d y pc ls (v :: w :: st) h n cu su Q :=
  fun G p e R s m args below meth c lc H locs C hl hr hL => lv_dup_x1 C.exec C.bytes hd (by rw [am_cv_cat]; exact hv) (by rw [am_cv_cat]; exact hw) (k G p e R s m args below meth c lc H locs C hl hr hL)
theorem ar_dup2 {v w : Value} (hd : decode (am_bc y) pc = .ok (.dup2, 1)) (hv : v.category = 1) (hw : w.category = 1) (k : am_W d y (pc + 1) ls (v :: w :: v :: w :: st) h n cu su Q) : am_W d y pc ls (v :: w :: st) h n cu su Q :=
  fun G p e R s m args below meth c lc H locs C hl hr hL => lv_dup2_11 C.exec C.bytes hd (by rw [am_cv_cat]; exact hv) (by rw [am_cv_cat]; exact hw) (k G p e R s m args below meth c lc H locs C hl hr hL)
theorem ar_if_eq {x : Int32} {f : Int} {tg : Nat} (hd : decode (am_bc y) pc = .ok (.ifCond .eq f, 3)) (ht : (pc : Int) + f = (tg : Int)) (kt : x = 0 → am_W d y tg ls st h n cu su Q) (kf : ¬ x = 0 → am_W d y (pc + 3) ls st h n cu su Q) : am_W d y pc ls (.int x :: st) h n cu su Q :=
  fun G p e R s m args below meth c lc H locs C hl hr hL => lv_if_eq C.exec C.bytes hd ht (fun q => kt q G p e R s m args below meth c lc H locs C hl hr hL) (fun q => kf q G p e R s m args below meth c lc H locs C hl hr hL)
theorem ar_icmp_eq {x z : Int32} {f : Int} {tg : Nat} (hd : decode (am_bc y) pc = .ok (.if_icmp .eq f, 3)) (ht : (pc : Int) + f = (tg : Int)) (kt : x = z → am_W d y tg ls st h n cu su Q) (kf : ¬ x = z → am_W d y (pc + 3) ls st h n cu su Q) : am_W d y pc ls (.int z :: .int x :: st) h n cu su Q :=
  fun G p e R s m args below meth c lc H locs C hl hr hL => lv_icmp_eq C.exec C.bytes hd ht (fun q => kt q G p e R s m args below meth c lc H locs C hl hr hL) (fun q => kf q G p e R s m args below meth c lc H locs C hl hr hL)
theorem ar_if_ne {x : Int32} {f : Int} {tg : Nat} (hd : decode (am_bc y) pc = .ok (.ifCond .ne f, 3)) (ht : (pc : Int) + f = (tg : Int)) (kt : ¬ x = 0 → am_W d y tg ls st h n cu su Q) (kf : x = 0 → am_W d y (pc + 3) ls st h n cu su Q) : am_W d y pc ls (.int x :: st) h n cu su Q :=
  fun G p e R s m args below meth c lc H locs C hl hr hL => lv_if_ne C.exec C.bytes hd ht (fun q => kt q G p e R s m args below meth c lc H locs C hl hr hL) (fun q => kf q G p e R s m args below meth c lc H locs C hl hr hL)
theorem ar_icmp_ne {x z : Int32} {f : Int} {tg : Nat} (hd : decode (am_bc y) pc = .ok (.if_icmp .ne f, 3)) (ht : (pc : Int) + f = (tg : Int)) (kt : ¬ x = z → am_W d y tg ls st h n cu su Q) (kf : x = z → am_W d y (pc + 3) ls st h n cu su Q) : am_W d y pc ls (.int z :: .int x :: st) h n cu su Q :=
  fun G p e R s m args below meth c lc H locs C hl hr hL => lv_icmp_ne C.exec C.bytes hd ht (fun q => kt q G p e R s m args below meth c lc H locs C hl hr hL) (fun q => kf q G p e R s m args below meth c lc H locs C hl hr hL)
theorem ar_if_lt {x : Int32} {f : Int} {tg : Nat} (hd : decode (am_bc y) pc = .ok (.ifCond .lt f, 3)) (ht : (pc : Int) + f = (tg : Int)) (kt : x < 0 → am_W d y tg ls st h n cu su Q) (kf : ¬ x < 0 → am_W d y (pc + 3) ls st h n cu su Q) : am_W d y pc ls (.int x :: st) h n cu su Q :=
  fun G p e R s m args below meth c lc H locs C hl hr hL => lv_if_lt C.exec C.bytes hd ht (fun q => kt q G p e R s m args below meth c lc H locs C hl hr hL) (fun q => kf q G p e R s m args below meth c lc H locs C hl hr hL)
theorem ar_icmp_lt {x z : Int32} {f : Int} {tg : Nat} (hd : decode (am_bc y) pc = .ok (.if_icmp .lt f, 3)) (ht : (pc : Int) + f = (tg : Int)) (kt : x < z → am_W d y tg ls st h n cu su Q) (kf : ¬ x < z → am_W d y (pc + 3) ls st h n cu su Q) : am_W d y pc ls (.int z :: .int x :: st) h n cu su Q :=
  fun G p e R s m args below meth c lc H locs C hl hr hL => lv_icmp_lt C.exec C.bytes hd ht (fun q => kt q G p e R s m args below meth c lc H locs C hl hr hL) (fun q => kf q G p e R s m args below meth c lc H locs C hl hr hL)
theorem ar_if_ge {x : Int32} {f : Int} {tg : Nat} (hd : decode (am_bc y) pc = .ok (.ifCond .ge f, 3)) (ht : (pc : Int) + f = (tg : Int)) (kt : 0 ≤ x → am_W d y tg ls st h n cu su Q) (kf : ¬ 0 ≤ x → am_W d y (pc + 3) ls st h n cu su Q) : am_W d y pc ls (.int x :: st) h n cu su Q :=
  fun G p e R s m args below meth c lc H locs C hl hr hL => lv_if_ge C.exec C.bytes hd ht (fun q => kt q G p e R s m args below meth c lc H locs C hl hr hL) (fun q => kf q G p e R s m args below meth c lc H locs C hl hr hL)
theorem ar_icmp_ge {x z : Int32} {f : Int} {tg : Nat} (hd : decode (am_bc y) pc = .ok (.if_icmp .ge f, 3)) (ht : (pc : Int) + f = (tg : Int)) (kt : z ≤ x → am_W d y tg ls st h n cu su Q) (kf : ¬ z ≤ x → am_W d y (pc + 3) ls st h n cu su Q) : am_W d y pc ls (.int z :: .int x :: st) h n cu su Q :=
  fun G p e R s m args below meth c lc H locs C hl hr hL => lv_icmp_ge C.exec C.bytes hd ht (fun q => kt q G p e R s m args below meth c lc H locs C hl hr hL) (fun q => kf q G p e R s m args below meth c lc H locs C hl hr hL)
theorem ar_if_gt {x : Int32} {f : Int} {tg : Nat} (hd : decode (am_bc y) pc = .ok (.ifCond .gt f, 3)) (ht : (pc : Int) + f = (tg : Int)) (kt : 0 < x → am_W d y tg ls st h n cu su Q) (kf : ¬ 0 < x → am_W d y (pc + 3) ls st h n cu su Q) : am_W d y pc ls (.int x :: st) h n cu su Q :=
  fun G p e R s m args below meth c lc H locs C hl hr hL => lv_if_gt C.exec C.bytes hd ht (fun q => kt q G p e R s m args below meth c lc H locs C hl hr hL) (fun q => kf q G p e R s m args below meth c lc H locs C hl hr hL)
theorem ar_icmp_gt {x z : Int32} {f : Int} {tg : Nat} (hd : decode (am_bc y) pc = .ok (.if_icmp .gt f, 3)) (ht : (pc : Int) + f = (tg : Int)) (kt : z < x → am_W d y tg ls st h n cu su Q) (kf : ¬ z < x → am_W d y (pc + 3) ls st h n cu su Q) : am_W d y pc ls (.int z :: .int x :: st) h n cu su Q :=
  fun G p e R s m args below meth c lc H locs C hl hr hL => lv_icmp_gt C.exec C.bytes hd ht (fun q => kt q G p e R s m args below meth c lc H locs C hl hr hL) (fun q => kf q G p e R s m args below meth c lc H locs C hl hr hL)
theorem ar_if_le {x : Int32} {f : Int} {tg : Nat} (hd : decode (am_bc y) pc = .ok (.ifCond .le f, 3)) (ht : (pc : Int) + f = (tg : Int)) (kt : x ≤ 0 → am_W d y tg ls st h n cu su Q) (kf : ¬ x ≤ 0 → am_W d y (pc + 3) ls st h n cu su Q) : am_W d y pc ls (.int x :: st) h n cu su Q :=
  fun G p e R s m args below meth c lc H locs C hl hr hL => lv_if_le C.exec C.bytes hd ht (fun q => kt q G p e R s m args below meth c lc H locs C hl hr hL) (fun q => kf q G p e R s m args below meth c lc H locs C hl hr hL)
theorem ar_icmp_le {x z : Int32} {f : Int} {tg : Nat} (hd : decode (am_bc y) pc = .ok (.if_icmp .le f, 3)) (ht : (pc : Int) + f = (tg : Int)) (kt : x ≤ z → am_W d y tg ls st h n cu su Q) (kf : ¬ x ≤ z → am_W d y (pc + 3) ls st h n cu su Q) : am_W d y pc ls (.int z :: .int x :: st) h n cu su Q :=
  fun G p e R s m args below meth c lc H locs C hl hr hL => lv_icmp_le C.exec C.bytes hd ht (fun q => kt q G p e R s m args below meth c lc H locs C hl hr hL) (fun q => kf q G p e R s m args below meth c lc H locs C hl hr hL)
theorem ar_goto {f : Int} {tg : Nat} (hd : decode (am_bc y) pc = .ok (.goto f, 3)) (ht : (pc : Int) + f = (tg : Int)) (k : am_W d y tg ls st h n cu su Q) : am_W d y pc ls st h n cu su Q :=
  fun G p e R s m args below meth c lc H locs C hl hr hL => lv_goto C.exec C.bytes hd ht (k G p e R s m args below meth c lc H locs C hl hr hL)
theorem ar_swOut {df lo hi : Int} {offs : Array Int} {len : Nat} {x : Int32} {tg : Nat} (hd : decode (am_bc y) pc = .ok (.tableswitch df lo hi offs, len)) (hx : x.toInt < lo ∨ hi < x.toInt) (ht : (pc : Int) + df = (tg : Int)) (k : am_W d y tg ls st h n cu su Q) : am_W d y pc ls (.int x :: st) h n cu su Q :=
  fun G p e R s m args below meth c lc H locs C hl hr hL => lv_tableOut C.exec C.bytes hd hx ht (k G p e R s m args below meth c lc H locs C hl hr hL)
theorem ar_swIn {df lo hi : Int} {offs : Array Int} {len : Nat} {x : Int32} {f : Int} {tg : Nat} (hd : decode (am_bc y) pc = .ok (.tableswitch df lo hi offs, len)) (h1 : ¬ x.toInt < lo) (h2 : ¬ hi < x.toInt) (ho : offs[(x.toInt - lo).toNat]? = some f) (ht : (pc : Int) + f = (tg : Int)) (k : am_W d y tg ls st h n cu su Q) : am_W d y pc ls (.int x :: st) h n cu su Q :=
  fun G p e R s m args below meth c lc H locs C hl hr hL => lv_tableIn C.exec C.bytes hd h1 h2 ho ht (k G p e R s m args below meth c lc H locs C hl hr hL)
theorem ar_ldc {i : Nat} {x : Int32} {j : Nat} (hd : decode (am_bc y) pc = .ok (.ldc i, 2)) (hw : tables_1[j]? = some (Jvm.Cond.constant (am_nm y).cls i x)) (k : am_W d y (pc + 2) ls (.int x :: st) h n cu su Q) : am_W d y pc ls st h n cu su Q :=
  fun G p e R s m args below meth c lc H locs C hl hr hL => lv_ldc C.exec C.bytes C.own (C.word hw args) hd (k G p e R s m args below meth c lc H locs C hl hr hL)
theorem ar_ldcw {i : Nat} {x : Int32} {j : Nat} (hd : decode (am_bc y) pc = .ok (.ldc_w i, 3)) (hw : tables_1[j]? = some (Jvm.Cond.constant (am_nm y).cls i x)) (k : am_W d y (pc + 3) ls (.int x :: st) h n cu su Q) : am_W d y pc ls st h n cu su Q :=
  fun G p e R s m args below meth c lc H locs C hl hr hL => lv_ldcw C.exec C.bytes C.own (C.word hw args) hd (k G p e R s m args below meth c lc H locs C hl hr hL)
theorem ar_ldc2 {i : Nat} {x : Int64} {j : Nat} (hd : decode (am_bc y) pc = .ok (.ldc2_w i, 3)) (hw : tables_1[j]? = some (Jvm.Cond.constantLong (am_nm y).cls i x)) (k : am_W d y (pc + 3) ls (.long x :: st) h n cu su Q) : am_W d y pc ls st h n cu su Q :=
  fun G p e R s m args below meth c lc H locs C hl hr hL => lv_ldc2 C.exec C.bytes C.own (C.word hw args) hd (k G p e R s m args below meth c lc H locs C hl hr hL)
end AMR
