/-! new int[N][K], by the machine's own step: the outer row first, then row after row -/
/-- what the outer row holds when i rows are there; b: its place -/
def mg_f (b i : Nat) : Nat → Value := fun j => va_rf (if j < i then some (b + 1 + j) else none)
theorem mg_f_zero (b : Nat) : mg_f b 0 = fun _ => Value.null := by
  funext j
  simp [mg_f, va_rf]
theorem mg_f_succ (b i : Nat) : updV (mg_f b i) i (.ref (b + 1 + i)) = mg_f b (i + 1) := by
  funext j
  by_cases e : j = i
  · subst e
    simp [updV, mg_f, va_rf]
  · by_cases hji : j < i
    · simp [updV, mg_f, e, hji, Nat.lt_succ_of_lt hji]
    · simp [updV, mg_f, e, hji, show ¬ j < i + 1 by omega]
/-- the state when i rows are there -/
def mg_S (s : State) (cA cI : ClassId) (N K : Nat) : Nat → State
  | 0 => s.pushCell (arrV cA N (mg_f s.heap.size 0))
  | i + 1 => ((mg_S s cA cI N K i).pushCell (arrV cI K (fun _ => .int 0))).setCell s.heap.size (arrV cA N (mg_f s.heap.size (i + 1)))
theorem mg_at (s : State) (cA cI : ClassId) (N K i : Nat) : (mg_S s cA cI N K i).heap.size = s.heap.size + 1 + i ∧ (mg_S s cA cI N K i).heap[s.heap.size]? = some (arrV cA N (mg_f s.heap.size i)) ∧ (mg_S s cA cI N K i).vm = s.vm ∧ (mg_S s cA cI N K i).slotsUsed = s.slotsUsed + N + i * K := by
  induction i with
  | zero => exact ⟨by simp [mg_S], by simp [mg_S], rfl, by simp [mg_S, arrV_size]⟩
  | succ i ih =>
    obtain ⟨h1, h2, h3, h4⟩ := ih
    have h5 : s.heap.size < (mg_S s cA cI N K i).heap.size := by omega
    have h6 : ((mg_S s cA cI N K i).pushCell (arrV cI K (fun _ => .int 0))).heap[s.heap.size]? = some (arrV cA N (mg_f s.heap.size i)) := by
      rw [State.heap_pushCell_of_lt _ _ h5]
      exact h2
    refine ⟨?_, State.heap_setCell_self h6, by simp [mg_S, h3], ?_⟩
    · simp [mg_S, State.setCell, h1]
      omega
    · simp [mg_S, h4, arrV_size, Nat.succ_mul]
      omega
theorem mg_top (s : State) (f : JFrame) (cA cI : ClassId) (N K i : Nat) : mg_S (s.setTop f) cA cI N K i = (mg_S s cA cI N K i).setTop f := by
  induction i with
  | zero => simp only [mg_S, State.heap_setTop, State.pushCell_setTop]
  | succ i ih => simp only [mg_S, ih, State.heap_setTop, State.pushCell_setTop, State.setCell_setTop]
theorem mg_old (s : State) (cA cI : ClassId) (N K i : Nat) {a : Addr} (ha : a < s.heap.size) : (mg_S s cA cI N K i).heap[a]? = s.heap[a]? := by
  induction i with
  | zero => exact State.heap_pushCell_of_lt _ _ ha
  | succ i ih =>
    have h1 := (mg_at s cA cI N K i).1
    show (((mg_S s cA cI N K i).pushCell (arrV cI K (fun _ => .int 0))).setCell s.heap.size _).heap[a]? = _
    have h2 : a < (mg_S s cA cI N K i).heap.size := Nat.lt_of_lt_of_le ha (by rw [h1]; omega)
    rw [State.heap_setCell_other (Nat.ne_of_gt ha), State.heap_pushCell_of_lt _ _ h2]
    exact ih
theorem mg_row (s : State) (cA cI : ClassId) (N K i : Nat) {j : Nat} (hj : j < i) : (mg_S s cA cI N K i).heap[s.heap.size + 1 + j]? = some (arrV cI K (fun _ => .int 0)) := by
  induction i with
  | zero => omega
  | succ i ih =>
    have h1 := (mg_at s cA cI N K i).1
    show (((mg_S s cA cI N K i).pushCell (arrV cI K (fun _ => .int 0))).setCell s.heap.size _).heap[s.heap.size + 1 + j]? = _
    have h2 : s.heap.size ≠ s.heap.size + 1 + j := by omega
    rw [State.heap_setCell_other h2]
    by_cases hji : j < i
    · have h3 : s.heap.size + 1 + j < (mg_S s cA cI N K i).heap.size := by omega
      rw [State.heap_pushCell_of_lt _ _ h3]
      exact ih hji
    · have e : s.heap.size + 1 + j = (mg_S s cA cI N K i).heap.size := by omega
      rw [e]
      exact State.heap_pushCell_size _ _
section MGW
variable {E : CtlPost} {e : Env} {d : Bool} {acts : List Action} {s : State}
/-- one row -/
theorem mg_one {cI cc : ClassId} {kI : Class} {w : Int32} {K : Nat} (hkI : s.vm.classes[cI]? = some kI) (hI : kI.kind = .array cc .int) (hw : ¬ w < 0) (hK : w.toNatClampNeg = K) (l2 : ¬ K > e.platform.arrayLengthLimit) (b2 : ¬ K * componentBytes .int > e.platform.maxHeapBytes) (c1 : s.heap.size < e.platform.maxCells) (c2 : s.slotsUsed + K ≤ e.platform.maxSlots) {Q : Addr → Pre} (hq : ∀ acts', Q s.heap.size d acts' (s.pushCell (arrV cI K (fun _ => .int 0)))) : wp (multianewarray.make cI [w]) Q E e d acts s := by
  subst hK
  rw [multianewarray.make]
  simp only [wp_bind', W.ite, hw, if_false, wp_pure', W.theClass, hkI, hI, Option.some.injEq, exists_eq_left']
  refine W.newArray_of hkI hI l2 b2 c1 c2 rfl fun acts' => ?_
  have h := hq acts'
  rw [← arrV_new] at h
  exact h
/-- the whole grid -/
theorem mg_make {cA cI cc : ClassId} {kA kI : Class} {x w : Int32} {N K : Nat} (hkA : s.vm.classes[cA]? = some kA) (hA : kA.kind = .array cI (.array .int)) (hkI : s.vm.classes[cI]? = some kI) (hI : kI.kind = .array cc .int) (hx : ¬ x < 0) (hw : ¬ w < 0) (hN : x.toNatClampNeg = N) (hK : w.toNatClampNeg = K)
    (l1 : ¬ N > e.platform.arrayLengthLimit) (b1 : ¬ N * componentBytes (.array .int) > e.platform.maxHeapBytes) (l2 : ¬ K > e.platform.arrayLengthLimit) (b2 : ¬ K * componentBytes .int > e.platform.maxHeapBytes) (c1 : s.heap.size + 1 + N ≤ e.platform.maxCells) (c2 : s.slotsUsed + N + N * K ≤ e.platform.maxSlots) {Q : Addr → Pre}
    (hq : ∀ d' acts', Q s.heap.size d' acts' (mg_S s cA cI N K N)) : wp (multianewarray.make cA [x, w]) Q E e d acts s := by
  subst hN
  have hnone : ([w].find? (· < 0)) = none := by simp [hw]
  have h00 : s.pushCell { cls := cA, slots := Array.replicate x.toNatClampNeg .null } = mg_S s cA cI x.toNatClampNeg K 0 := by
    show _ = s.pushCell (arrV cA x.toNatClampNeg (mg_f s.heap.size 0))
    rw [mg_f_zero, ← arrV_new]
  rw [multianewarray.make]
  simp only [wp_bind', W.ite, hx, if_false, wp_pure', W.theClass, hkA, hA, Option.some.injEq, exists_eq_left']
  refine W.newArray_of hkA hA l1 b1 (by omega) (Nat.le_trans (Nat.le_add_right _ _) c2) rfl fun acts1 => ?_
  rw [h00]
  simp only [hnone]
  rw [ite_self, wp_bind', Std.Legacy.Range.forIn_eq_forIn_range']
  have hsz : ([:x.toNatClampNeg] : Std.Legacy.Range).size = x.toNatClampNeg := by simp [Std.Legacy.Range.size]
  rw [hsz]
  show wp (forIn (List.range' 0 x.toNatClampNeg 1) PUnit.unit _) _ E e d acts1 _
  refine wp_forIn_inv (fun r s' => r.length ≤ x.toNatClampNeg ∧ r = List.range' (x.toNatClampNeg - r.length) r.length ∧ s' = mg_S s cA cI x.toNatClampNeg K (x.toNatClampNeg - r.length)) _ _ ⟨by simp, by simp, by simp⟩ ?_ ?_
  · rintro y r s' d' acts' Q' ⟨h1, h2, rfl⟩ hnext
    rw [List.length_cons] at h1
    rw [List.length_cons, List.range'_succ] at h2
    obtain ⟨e1, e2⟩ := List.cons.inj h2
    rw [List.length_cons]
    generalize hi : x.toNatClampNeg - (r.length + 1) = i at e1 e2 ⊢
    subst e1
    have hlt : y < x.toNatClampNeg := by omega
    obtain ⟨f1, f2, f3, f4⟩ := mg_at s cA cI x.toNatClampNeg K y
    have hmul : y * K + K ≤ x.toNatClampNeg * K := by
      have := Nat.mul_le_mul_right K (show y + 1 ≤ x.toNatClampNeg from hlt)
      rw [Nat.succ_mul] at this
      exact this
    simp only [wp_bind']
    refine mg_one (by rw [f3]; exact hkI) hI hw hK l2 b2 (by rw [f1]; omega) (by rw [f4]; omega) fun acts2 => ?_
    simp only [wp_bind', W.writeLoc, wp_pure']
    have f5 : s.heap.size < (mg_S s cA cI x.toNatClampNeg K y).heap.size := by omega
    refine ⟨arrV cA x.toNatClampNeg (mg_f s.heap.size y), by rw [State.heap_pushCell_of_lt _ _ f5]; exact f2, (fun q => by cases q), by rw [arrV_size]; exact hlt, ?_, hnext _ _ _ ⟨by omega, ?_, ?_⟩⟩
    · have hfit : ∀ a : Addr, fits (.array .int) (.ref a) = true := fun _ => rfl
      simp [State.fitsSlot, State.slotType?, arrV, f3, hkA, hA, hfit]
    · rw [show x.toNatClampNeg - r.length = y + 1 by omega]
      exact e2
    · rw [show x.toNatClampNeg - r.length = y + 1 by omega, f1, arrV_store, mg_f_succ]
      rfl
  · rintro s' d' acts' ⟨-, -, rfl⟩
    simp only [wp_pure']
    exact hq _ _
end MGW
section MGS
variable {p : Program} {l : Launch} {e : Env} {R : Room} {s : State} {m : MethodId} {args : Array Value} {below : List Frame} {meth : Method} {c : Code} {T : State} {locs : List Loc} {cells slots : Nat}
theorem mg_stand (X : Stand p l e R s m args below meth c T locs cells slots) (cA cI : ClassId) (N K i : Nat) : Stand p l e R s m args below meth c (mg_S T cA cI N K i) locs (cells + 1 + i) (slots + N + i * K) := by
  induction i with
  | zero =>
    have h := X.pushed (arrV cA N (mg_f T.heap.size 0))
    rw [arrV_size] at h
    rw [Nat.zero_mul]
    exact h
  | succ i ih =>
    obtain ⟨f1, f2, -, -⟩ := mg_at T cA cI N K i
    have f5 : T.heap.size < (mg_S T cA cI N K i).heap.size := by omega
    have h := (ih.pushed (arrV cI K (fun _ => .int 0))).stored (a := T.heap.size) (cell := arrV cA N (mg_f T.heap.size i)) (by rw [State.heap_pushCell_of_lt _ _ f5]; exact f2) i (.ref (T.heap.size + 1 + i))
    rw [arrV_size, arrV_store, mg_f_succ] at h
    have h2 := Jvm.Stand.dropFresh h (fun q hq => by
      rw [List.mem_singleton] at hq
      subst hq
      exact X.heapGrown)
    rw [show slots + N + (i + 1) * K = slots + N + i * K + K by rw [Nat.succ_mul]; omega]
    exact h2
/-- the instruction -/
theorem mg_step (X : Stand p l e R s m args below meth c T locs cells slots) (hexec : p.tables.exec = Jvm.exec) {own : String} {index : Nat} (hown : s.vm.findClass own = some m.cls) (hcl : (Cond.classLink own index "[[I").before args s = true) (hov : (Cond.arrayOver (.array .int)).before args s = true) (har : (Cond.arrayClass .int).before args s = true)
    {g : JFrame} (hg : g.method = m) (hd : decode c.code g.pc = .ok (.multianewarray index 2, 4)) {x w : Int32} {N K : Nat} {rest : List Value} (hst : g.stack = .int w :: .int x :: rest) (hx : ¬ x < 0) (hw : ¬ w < 0) (hN : x.toNatClampNeg = N) (hK : w.toNatClampNeg = K) (b1 : N ≤ 1000) (b2 : K ≤ 1000) (hc : cells + (1 + N) ≤ R.cells) (hs : slots + (N + N * K) ≤ R.slots) :
    ∃ (vm₁ : Vm) (cA cI : ClassId), ArrOfT s cA (.array .int) ∧ ArrOfT s cI .int ∧ Stand p l e R s m args below meth c (mg_S (T.setVm vm₁) cA cI N K N) locs (cells + 1 + N) (slots + N + N * K) ∧
      ∀ target, Steps p.tables e below ((mg_S (T.setVm vm₁) cA cI N K N).setTop { g with pc := g.pc + 4, stack := .ref T.heap.size :: rest }) target → Steps p.tables e below (T.setTop g) target := by
  subst hg
  have hpl : e.platform.magicAccessors = ({} : Platform).magicAccessors := by rw [X.admits.platform]
  obtain ⟨cI, cA, kA, hcI, -, hkA, hA, hcA⟩ := arrayOverA_spec hov
  obtain ⟨cI', kI, cc, hcI', hkI, hI⟩ := Cond.arrayClass_spec har
  have e1 : cI' = cI := Option.some.inj (hcI'.symm.trans hcI)
  subst e1
  obtain ⟨c0, hc0, hln⟩ := Cond.classLink_spec hown hcl e.platform hpl
  have e2 : cA = c0 := Option.some.inj (hcA.symm.trans hc0)
  subst e2
  obtain ⟨hg₁, hwarm₁, hready₁⟩ := State.classEntry (e := e) X.warmed hln
  generalize T.vm.noted g.method.cls index (.cls cA) = vm₁ at hg₁ hwarm₁ hready₁
  have hal : s.vm.Alike vm₁ := hwarm₁.alike
  obtain ⟨kA₁, hkA₁, hA₁⟩ := hal.2.2 _ _ hkA
  obtain ⟨kI₁, hkI₁, hI₁⟩ := hal.2.2 _ _ hkI
  have hA₂ : kA₁.kind = .array cI' (.array .int) := by rw [hA₁]; exact hA
  have hI₂ : kI₁.kind = .array cc .int := by rw [hI₁]; exact hI
  have X₁ := X.noted hwarm₁
  have XF := mg_stand X₁ cA cI' N K N
  obtain ⟨r1, r2⟩ := X.roomAbove hc hs
  refine ⟨vm₁, cA, cI', fun n z => ⟨fun k h => (by cases h), kA, hkA, cI', hA⟩, fun n z => ⟨fun k h => (by cases h), kI, hkI, cc, hI⟩, XF, fun target hrest => ?_⟩
  have l1 : ¬ N > e.platform.arrayLengthLimit := by rw [Launch.admits_arrayLengthLimit X.admits]; omega
  have l2 : ¬ K > e.platform.arrayLengthLimit := by rw [Launch.admits_arrayLengthLimit X.admits]; omega
  have m1 : ¬ N * componentBytes (.array .int) > e.platform.maxHeapBytes := by rw [Launch.admits_maxHeapBytes X.admits]; show ¬ N * 4 > 536870912; omega
  have m2 : ¬ K * componentBytes .int > e.platform.maxHeapBytes := by rw [Launch.admits_maxHeapBytes X.admits]; show ¬ K * 4 > 536870912; omega
  jvm_step X.here [hexec, hd]
  simp only [multianewarray.sem, wp_bind', W.resolveClassAt_links (State.method?_setTop g X.here.top) hg₁]
  rw [W.popN, if_neg (by decide)]
  refine ⟨g, State.topJava?_setTop' (s := T.setVm vm₁) g X.here.top, [.int x, .int w], rest, rfl, hst, ?_⟩
  simp only [List.mapM_cons, List.mapM_nil, wp_bind', wp_pure']
  refine mg_make (kA := kA₁) (kI := kI₁) (cI := cI') (cc := cc) hkA₁ hA₂ hkI₁ hI₂ hx hw hN hK l1 m1 l2 m2 (by show T.heap.size + 1 + N ≤ _; omega) (by show T.slotsUsed + N + N * K ≤ _; omega) (fun d' acts' => ?_)
  have eS : ((T.setTop g).setVm vm₁).setTop { g with stack := rest } = (T.setVm vm₁).setTop { g with stack := rest } := by
    show ((T.setVm vm₁).setTop g).setTop _ = _
    rw [State.setTop_setTop]
  rw [eS, mg_top]
  simp only [wp_bind', W.mark, W.pushRef, State.topJava?_setTop' _ XF.here.top, Option.some.injEq, exists_eq_left', State.setTop_setTop, State.heap_setTop]
  intro acts2
  simp [jvm, XF.here.top]
  exact hrest
end MGS
