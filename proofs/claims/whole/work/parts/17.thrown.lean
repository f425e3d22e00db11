/-! the walk of a throw -/
section AMT
variable {G : am_G} {d : Nat} {y : am_Y} {p : Program} {e : Env} {R : Room} {s : State} {m : MethodId} {args : Array Value} {below : List Frame} {meth : Method} {c : Code} {T : State} {locs : List Loc} {h : am_H} {n cu su : Nat} {Q : am_O → am_H → Nat → Prop}
set_option maxHeartbeats 4000000 in
set_option maxRecDepth 20000 in
theorem am_thr (C : am_X G d y p e R s m meth c) (hy : (am_nm y).cls = "AllocateSolve") (X : Stand p (am_l G) e R s m args below meth c T locs cu su) (hr4 : ∀ q : Nat, q < am_b G → T.heap[q]? = (am_B G)[q]?) {k : Nat} (hk : k < 5) {a : Addr} {cX : ClassId} {kX : Class} (hfX : s.vm.findClass (am_xn k) = some cX) (hkX : s.vm.classes[cX]? = some kX) (hcell : T.heap[a]? = some (freshCell cX kX)) (hnew : am_b G ≤ a)
    {msg : Value} (hmsg : msg.isRef = true) {g : JFrame} (hg : g.method = m) (hsz : g.locals.size = c.maxLocals) (hlk : g.locked = none) (hen : g.entered = []) {rest : List Value} (hstack : g.stack = msg :: .ref a :: .ref a :: rest) (hmr : 2 * g.monitorRoom + (rest.map fun v => v.category).sum ≤ 8)
    (hd6 : decode c.code g.pc = .ok (.invokespecial (am_xi k), 3)) (hd9 : decode c.code (g.pc + 3) = .ok (.athrow, 1)) (hh : am_nh y (g.pc + 3) = true) :
    ∃ (U : State) (L : List Loc), Steps p.tables e below (T.setTop g) U ∧ U.status = .running ∧ Ended U below (.threw a) ∧ s.WarmedH U.vm ∧ s.sameButNew ({ U with vm := s.vm } : State) (locs ++ L) cu su ∧ (∀ q ∈ L, q.base = a) ∧ U.heap.size = T.heap.size ∧ (∀ q : Nat, q ≠ a → U.heap[q]? = T.heap[q]?) ∧ ∃ ce : Cell, U.heap[a]? = some ce ∧ ce.cls = cX ∧ ce.vm = .none := by
  have howns : e.platform.frameOwnsMonitors = true := by rw [X.admits.platform]
  have hfin : e.platform.finalization = false := by rw [X.admits.platform]
  have hpl : e.platform.magicAccessors = ({} : Platform).magicAccessors := by rw [X.admits.platform]
  have aT := am_aT C.kn C.old args
  have aX := am_aX C.kn C.old hk args
  have bX : ∀ w ∈ am_o3 k, w.holds args s none s [] = true := fun w hw => aX w (List.mem_append_right _ hw)
  obtain ⟨TT, Z0, L, -, Y⟩ := ThrowableC.of_atoms (args := args) howns hfin hpl (fun x hx => aT x (List.mem_append_left _ (List.mem_append_left _ hx)))
  obtain ⟨Z, M, LZ, LM, hnZ⟩ := Init0T.ofS_atoms (args := args) hpl L Y (fun x hx => aT x (List.mem_append_left _ (List.mem_append_right _ hx)))
  obtain ⟨P2, Ps, hlen, L2, hL, hP2m, hlink2, hlink⟩ := Jvm.Bundle.chainS (args := args) hpl hnZ ["java/lang/Exception"] am_rx (by decide +kernel) (by decide +kernel) (fun x hx => aT x (List.mem_append_right _ hx))
  obtain ⟨q0, q1, q2, q5⟩ := am_xb_ok hk
  obtain ⟨P1, L1, hP1m, hP1s⟩ := PassC.ofS_atoms (args := args) (s := s) hpl (X := am_xn k) (Y := am_rx) (am_xn_ok hk).1 (by decide +kernel) q0 q1 q2 q5 (fun x hx => aX x (List.mem_append_left _ hx))
  have hfound : s.vm.findClass (am_xn k) = some P1.m.cls := findClass_of_methodNamed hP1m
  cases Option.some.inj (hfX.symm.trans hfound)
  have hP1sup : P1.sup = P2.m := Option.some.inj (hP1s.symm.trans hP2m)
  obtain ⟨c1, kX', hc1, hk1, hord, -, -, hn6⟩ := Cond.instantiable_spec (bX (.instantiable (am_xn k) 6) (by simp [am_o3]))
  cases Option.some.inj (hc1.symm.trans hfound)
  cases Option.some.inj (hkX.symm.trans hk1)
  have hsel0 : selectMethod e.platform s.vm P1.m.cls TT.fill0 = .method TT.fill0 := by
    obtain ⟨c2, r2, m2, g1, g2, g3, g4, -⟩ := Cond.selects_spec (bX (.selects (am_xn k) Jvm.Bundle.tFill0 Jvm.Bundle.tFill0) (by simp [am_o3]))
    cases Option.some.inj (g1.symm.trans hfound)
    cases Option.some.inj (g2.symm.trans (State.methodFound?_of_named Y.fill0 (by decide)))
    cases Option.some.inj (g3.symm.trans Y.fill0)
    rw [Launch.admits_selectMethod X.admits]; exact g4
  have hselF : selectMethod e.platform s.vm P1.m.cls TT.fill = .method TT.fill := by
    obtain ⟨c2, r2, m2, g1, g2, g3, g4, -⟩ := Cond.selects_spec (bX (.selects (am_xn k) Jvm.Bundle.tFill Jvm.Bundle.tFill) (by simp [am_o3]))
    cases Option.some.inj (g1.symm.trans hfound)
    cases Option.some.inj (g2.symm.trans (State.methodFound?_of_named Y.fill (by decide)))
    cases Option.some.inj (g3.symm.trans Y.fill)
    rw [Launch.admits_selectMethod X.admits]; exact g4
  obtain ⟨-, -, -, ⟨v6, g6, u1, u2, u3, u4, u5, u6, w1, w2, w3, w4, w5, w6, w7, w8, w9, w10, w11, w12⟩, ⟨v7, g7, x1, x2, x3, x4, x5, x6, z1, z2, z3, z4, z5, z6, z7, z8, z9, z10, z11, z12⟩, -⟩ := C.kn
  have eU := Option.some.inj (w2.symm.trans Y.unassigned)
  have eS := Option.some.inj (z2.symm.trans Y.sentinel)
  simp only [Prod.mk.injEq] at eU eS
  obtain ⟨rfl, rfl, rfl, rfl⟩ := eU
  obtain ⟨-, rfl, -, rfl⟩ := eS
  have ea : u5 = TT.aS := Option.some.inj (w5.symm.trans L.statics)
  have eb : x5 = TT.aS := Option.some.inj (z5.symm.trans L.statics)
  subst eb
  rw [ea] at w6 w12
  have ec : u6 = x6 := Option.some.inj (w6.symm.trans z6)
  subst ec
  have hcellS : T.heap[TT.aS]? = some u6 := by rw [hr4 _ w12]; exact w6
  have hneS : TT.aS ≠ a := Nat.ne_of_lt (Nat.lt_of_lt_of_le w12 hnew)
  have hknownS : u6.vm ≠ .unknown := fun hu => by rw [hu] at w7; cases w7
  obtain ⟨ci198, i198, fB, hk198, hg198, ha198, hsB, -, hnB, htB, hffB⟩ := Cond.ownField (t := .object "java/lang/Object") Y.found L.cls (by decide +kernel) (bX (.fieldLink tN_ 198 tN_ "backtrace" "Ljava/lang/Object;") (by simp [am_o3])) (bX (.lays tN_ tN_ "backtrace" "Ljava/lang/Object;") (by simp [am_o3])) e.platform hpl
  obtain ⟨iM, hffM⟩ := Y.msg
  obtain ⟨tyC, dC, hdC, hdnC⟩ := Cond.laysAt hfound hkX Y.cause (bX (.lays (am_xn k) tN_ "cause" "Ljava/lang/Throwable;") (by simp [am_o3]))
  obtain ⟨tyS, dS, hdS, hdnS⟩ := Cond.laysAt hfound hkX Y.stack (bX (.lays (am_xn k) tN_ "stackTrace" am_steD) (by simp [am_o3]))
  obtain ⟨tyP, dP, hdP, hdnP⟩ := Cond.laysAt hfound hkX Y.supp (bX (.lays (am_xn k) tN_ "suppressedExceptions" am_lstD) (by simp [am_o3]))
  obtain ⟨tyM, dM, hdM, hdnM⟩ := Cond.laysAt hfound hkX hffM (bX (.lays (am_xn k) tN_ "detailMessage" "Ljava/lang/String;") (by simp [am_o3]))
  obtain ⟨tyB, dB, hdB, hdnB⟩ := Cond.laysAt hfound hkX hffB (bX (.lays (am_xn k) tN_ "backtrace" "Ljava/lang/Object;") (by simp [am_o3]))
  have bC := Cond.laysApart hdB hdC hdnB hdnC (by rw [hnB, Y.causeName]; decide)
  have bS := Cond.laysApart hdB hdS hdnB hdnS (by rw [hnB, Y.stackName]; decide)
  have bP := Cond.laysApart hdB hdP hdnB hdnP (by rw [hnB, Y.suppName]; decide)
  have hskip : SkipFacts TT e.platform s (fun u => u) ⟨v6, g6⟩ ((preparedCellV TT.toThrowableT (freshCell P1.m.cls kX) a ⟨v6, g6⟩ ⟨v7, g7⟩).withEntry T.cur) :=
    ⟨{ ci198 := ci198, i198 := i198, fBack := fB }, ⟨hk198, hg198, ha198, hsB⟩, by
      have := fresh_default (c := P1.m.cls) tyB
      rw [htB] at this
      simpa [preparedCellV, Cell.setSlot, Cell.withEntry, Array.getElem?_setIfInBounds, bC, bS, bP, bC.symm, bS.symm, bP.symm, defaultValue] using this, fun _ _ => rfl⟩
  obtain ⟨tm, methC, cdC, kC, vm₁, hnC, -, -, -, -, -, -, -, hW₁, st1⟩ := Steps.initColdS (tb := p.tables) (e := e) (below := below) (s := s) (U := T) X.here C.exec X.warmed hpl (by rw [← hy]; exact C.own) (t := Jvm.Bundle.initS (am_xn k)) rfl rfl (am_xn_ok hk).2
    (bX (.methodLink "AllocateSolve" (am_xi k) (Jvm.Bundle.initS (am_xn k))) (by simp [am_o3])) (aX (.instanceMethod (Jvm.Bundle.initS (am_xn k))) (List.mem_append_left _ (by simp [am_o1, Jvm.Bundle.passSAtoms]))) (bytes := am_xb k) (maxL := 2) (aX (.code (Jvm.Bundle.initS (am_xn k)) (am_xb k) 2 none) (List.mem_append_left _ (by simp [am_o1, Jvm.Bundle.passSAtoms])))
    (f := g) hg (a := a) (msg := msg) (rest := .ref a :: rest) hstack hd6
  cases Option.some.inj (hnC.symm.trans hP1m)
  have X₁ := X.noted hW₁
  have hfr := C.frames
  have hlo := C.locals
  obtain ⟨vm₂, X₂, st2⟩ := X₁.ctorMessageOffV C.exec (g := { g with stack := .ref a :: rest }) hg hsz TT L Z LZ M LM (P1 :: P2 :: Ps)
    (fun P hP => by
      rcases List.mem_cons.mp hP with rfl | hP
      · exact L1
      rcases List.mem_cons.mp hP with rfl | hP
      · exact L2
      · exact hL P hP) ⟨hP1sup, hlink2, hlink⟩ (u0 := ⟨v6, g6⟩) (sen := ⟨v7, g7⟩) (self := a) hmsg (cell := freshCell P1.m.cls kX) (cellS := u6)
    hcell (fun _ => by simp) (by simp) rfl rfl hsel0 hselF hcellS hneS hknownS w11 z11
    (Takes.of_laid hkX hord tyC (by rw [Y.causeType]; rfl)) (Takes.of_laid hkX hord tyS (by rw [Y.stackType]; exact fits_refV_array _ ⟨v6, g6⟩)) (Takes.of_laid hkX hord tyP (by rw [Y.suppType]; exact fits_refV_object _ ⟨v7, g7⟩))
    (Takes.of_laid hkX hord tyM (by rw [Y.msgType]; exact fits_refV_object _ ⟨msg, hmsg⟩)) Y.objLocals hskip C.traces [] hd6
    (by simp only [List.length_cons, hlen, List.length_nil]; omega) (by
      simp only [List.length_cons, hlen, List.length_nil, List.map_cons, List.sum_cons]
      show 2 * g.monitorRoom + (1 + (rest.map fun v => v.category).sum) + (13 * (0 + 1 + 1 + 1) + 42) ≤ R.locals
      omega)
  obtain ⟨hwalk, hrun, hended, hWU, hsame⟩ := X₂.athrowLeaves C.exec (g := { g with stack := .ref a :: rest, pc := g.pc + 3 }) hg hlk hen (am_nh_out C hh) (a := a) (rest := rest) rfl hd9 C.locks
  have hlt : a < ((T.setVm vm₁).setVm vm₂).heap.size := (Array.getElem?_eq_some_iff.mp hcell).1
  refine ⟨_, [⟨a, TT.fCause.slot⟩, ⟨a, TT.fStack.slot⟩, ⟨a, TT.fSupp.slot⟩, ⟨a, TT.fStack.slot⟩, ⟨a, TT.fMsg.slot⟩], st1 _ (fun acts => ?_), hrun, hended, hWU, hsame, fun q hq => ?_, ?_, fun q hq => ?_, _, heapAt_setCell_self (s := (T.setVm vm₁).setVm vm₂) (plainBareV TT.toThrowableT (freshCell P1.m.cls kX) a ⟨v6, g6⟩ ⟨v7, g7⟩ msg) hlt, rfl, rfl⟩
  · rw [doInvoke_state]
    exact st2 _ hwalk
  · simp only [List.mem_cons, List.not_mem_nil, or_false] at hq
    rcases hq with rfl | rfl | rfl | rfl | rfl <;> rfl
  · exact size_setCell ((T.setVm vm₁).setVm vm₂) a _
  · exact heapAt_setCell_ne (s := (T.setVm vm₁).setVm vm₂) _ (Ne.symm hq)
end AMT
