/-! the rules of calls -/
theorem am_co.of {G : am_G} {s : State} (hK : am_kn G s) {z : am_Y} {j : Nat} (hw : tables_1[j]? = some (Jvm.Cond.code (am_nm z) (am_bc z) (am_mx z) (am_rt z))) (hh : am_hd z = []) : ∃ mk, am_co z s mk := by
  have hcode := hK.word hw rfl #[]
  obtain ⟨mk, hnamed⟩ := Cond.code_named hcode
  obtain ⟨methM, cM, h1, h2, h3, h4, h5, h6, h7, -⟩ := Cond.code_spec hnamed hcode
  refine ⟨mk, hnamed, methM, cM, h1, h2, h3, h4, h5, h6, ?_⟩
  have h0 : cM.exceptionTable.size = 0 := by simpa [Array.isEmpty] using h7
  have h9 : cM.exceptionTable.toList = [] := List.eq_nil_of_length_eq_zero (by simpa using h0)
  rw [h9, hh]
  rfl
theorem am_co.ofW {G : am_G} {s : State} (hK : am_kn G s) {z : am_Y} {j : Nat} (hw : tables_1[j]? = some (Jvm.Cond.codeWith (am_nm z) (am_bc z) (am_mx z) (am_rt z) (am_hd z))) : ∃ mk, am_co z s mk := by
  have hcode := hK.word hw rfl #[]
  obtain ⟨mk, methM, cM, h0, h1, h2, h3, h4, h5, h6, h7, -⟩ := Cond.codeWith_spec hcode
  exact ⟨mk, h0, methM, cM, h1, h2, h3, h4, h6, h7, h5⟩
/-- what is said of a callee once: its code's word, its shape -/
def am_Z (z : am_Y) (np : Nat) : Prop := ((∃ j : Nat, tables_1[j]? = some (Jvm.Cond.code (am_nm z) (am_bc z) (am_mx z) (am_rt z)) ∧ am_hd z = []) ∨ ∃ j : Nat, tables_1[j]? = some (Jvm.Cond.codeWith (am_nm z) (am_bc z) (am_mx z) (am_rt z) (am_hd z))) ∧ plainName (am_nm z).cls = true ∧ am_mx z ≤ 41 ∧
  ((am_nm z).cls ≠ "java/lang/invoke/MethodHandle" ∧ (am_nm z).cls ≠ "java/lang/invoke/VarHandle") ∧ (parseMethodDescriptor (am_nm z).desc).map (fun q => q.parameters.length) = some np
theorem am_Z.co {G : am_G} {s : State} (hK : am_kn G s) {z : am_Y} {np : Nat} (hz : am_Z z np) : ∃ mk, am_co z s mk := by
  rcases hz.1 with ⟨j, h1, h2⟩ | ⟨j, h1⟩
  · exact am_co.of hK h1 h2
  · exact am_co.ofW hK h1
theorem am_Z.len {z : am_Y} {np : Nat} (hz : am_Z z np) : ∀ sig, parseMethodDescriptor (am_nm z).desc = some sig → np = sig.parameters.length := by
  intro sig hs
  have h2 := hz.2.2.2.2
  rw [hs] at h2
  exact (Option.some.inj h2).symm
section AMD
variable {G : am_G} {d : Nat} {y z : am_Y} {p : Program} {e : Env} {R : Room} {s : State} {m : MethodId} {args : Array Value} {below : List Frame} {meth : Method} {c : Code} {T : State} {locs : List Loc} {h : am_H} {n cu su : Nat} {Q Qc : am_O → am_H → Nat → Prop}
/-- no handler of the method covers pc -/
def am_nh (y : am_Y) (pc : Nat) : Bool := (am_hd y).all fun q => !(decide (q.1 ≤ pc) && decide (pc < q.2.1))
theorem am_nh_out (C : am_X G d y p e R s m meth c) {pc : Nat} (hh : am_nh y pc = true) : ∀ x ∈ c.exceptionTable.toList, covers x pc = false := by
  intro x hx
  have hm : (x.startPc, x.endPc, x.handlerPc, x.catchType) ∈ am_hd y := by
    rw [← C.hand]
    exact List.mem_map.mpr ⟨x, hx, rfl⟩
  have h1 := List.all_eq_true.mp hh _ hm
  simp only [Bool.not_eq_true'] at h1
  exact h1
/-- an exception leaves the method -/
theorem am_out (C : am_X G d y p e R s m meth c) (X : Stand p (am_l G) e R s m args below meth c T locs cu su) (hcu : cu ≤ am_mc y) (hsu : su ≤ am_ms y) {g : JFrame} (hg : g.method = m) (hlk : g.locked = none) (hen : g.entered = []) (hh : am_nh y g.pc = true)
    (hr : am_R am_cl G s h n T.heap) (hL : ∀ q ∈ locs, am_b G ≤ q.base) {k i : Nat} (hk : k < 5) (hce : ∃ cell : Cell, T.heap[am_ad G i]? = some cell ∧ cell.vm.isStatics = false ∧ s.vm.findClass (am_xn k) = some cell.cls) (hq : Q (.inr (k, i)) h n) :
    ∃ t, Steps p.tables e below ((T.setTop g).pushFrame (.throwing (am_ad G i))) t ∧ am_E G y s below Q t := by
  obtain ⟨h1, h2, h3, h4, h5⟩ := X.leaveThrown (am_ad G i) hg hlk hen (am_nh_out C hh) C.locks
  exact ⟨_, h1, _, .inr (k, i), h, n, h2, h3, hq, ⟨rfl, hk, hce⟩, hr, h4, locs, h5.mono hcu hsu, hL⟩
/-- behind a call: it came back, or it threw -/
theorem am_behind (C : am_X G (d + 1) y p e R s m meth c) (X : Stand p (am_l G) e R s m args below meth c T locs cu su) {pc : Nat} {lc : Array Slot} {ls : List (Option Value)} {st : List Value} (hl : am_L G lc ls) (hls : ls.length = am_mx y) {ig : Instr} (hdg : decode c.code pc = .ok (ig, 3)) (hst : (st.map fun v => v.category).sum ≤ 8)
    {np : Nat} (hz : am_Z z np) {mk : MethodId} (hco : am_co z s mk) {As : List Value} (hA : ∀ v ∈ As, v.category = 1) (hAn : As.length ≤ am_mx z) (hcu : cu + am_mc z ≤ am_mc y) (hsu : su + am_ms z ≤ am_ms y)
    (hr : am_R am_cl G s h n T.heap) (hL : ∀ q ∈ locs, am_b G ≤ q.base) (hcal : am_W d z 0 (am_en z As) [] h n 0 0 Qc) (hh : am_nh y pc = true)
    (kk : ∀ (v : Option Value) (h' : am_H) (n' : Nat), Qc (.inl v) h' n' → am_W (d + 1) y (pc + 3) ls (v.toList ++ st) h' n' (cu + am_mc z) (su + am_ms z) Q)
    (kt : ∀ (k i : Nat) (h' : am_H) (n' : Nat), Qc (.inr (k, i)) h' n' → Q (.inr (k, i)) h' n') :
    ∃ t, (∀ acts, Steps p.tables e below (doInvoke e (T.setTop (F0 m pc lc (st.map (am_cv G)))) acts mk (As.map (am_cv G)).toArray).1 t) ∧ am_E G y s below Q t := by
  obtain ⟨o', h', n', T', locs', hQ, X', hr', hL', hor⟩ := am_go C X (g := F0 m pc lc (st.map (am_cv G))) rfl (by show lc.size = _; rw [hl.1, hls, C.maxL]) hdg (by show 2 * 0 + _ ≤ 8; rw [am_cv_sum]; omega) hco hz.2.1 hz.2.2.1 hA hAn hcu hsu hr hL hcal
  rcases hor with ⟨v, rfl, st1⟩ | ⟨k, i, rfl, hk5, hce, st1⟩
  · obtain ⟨t, a, b⟩ := kk v h' n' hQ G p e R s m args below meth c lc T'.heap locs' C hl hr' hL' T' rfl X'
    refine ⟨t, fun acts => (st1 acts).trans ?_, b⟩
    have he : (v.map (am_cv G)).toList ++ st.map (am_cv G) = (v.toList ++ st).map (am_cv G) := by cases v <;> simp
    rw [show ((F0 m pc lc (st.map (am_cv G))).stack) = st.map (am_cv G) from rfl, he]
    exact a
  · obtain ⟨t, a, b⟩ := am_out (Q := Q) C X' hcu hsu (g := F0 m pc lc (st.map (am_cv G))) rfl rfl rfl hh hr' hL' hk5 hce (kt k i h' n' hQ)
    exact ⟨t, fun acts => (st1 acts).trans a, b⟩
end AMD
section AMS
variable {d : Nat} {y z : am_Y} {pc : Nat} {ls : List (Option Value)} {st : List Value} {h : am_H} {n cu su : Nat} {Q Qc : am_O → am_H → Nat → Prop}
/-- invokevirtual -/
theorem ar_callv {i j1 j2 r ci : Nat} {q : vw_C} {fs As : List Value} (hd : decode (am_bc y) pc = .ok (.invokevirtual i, 3)) (hlk : tables_1[j1]? = some (Jvm.Cond.methodLink (am_nm y).cls i (am_nm z))) (hin : tables_1[j2]? = some (Jvm.Cond.instanceMethod (am_nm z))) (hc : am_cl[ci]? = some q) (hse : Jvm.Cond.selects q.1 (am_nm z) (am_nm z) ∈ lw_tbl) (hz : am_Z z As.length) (ho : h[r]? = some (am_ob ci fs))
    (hls : ls.length = am_mx y) (hst : (st.map fun v => v.category).sum ≤ 8) (hA : ∀ v ∈ As, v.category = 1) (hAn : As.length + 1 ≤ am_mx z) (hcu : cu + am_mc z ≤ am_mc y) (hsu : su + am_ms z ≤ am_ms y) (hh : am_nh y pc = true)
    (hcal : am_W d z 0 (am_en z (.ref r :: As)) [] h n 0 0 Qc)
    (kk : ∀ (v : Option Value) (h' : am_H) (n' : Nat), Qc (.inl v) h' n' → am_W (d + 1) y (pc + 3) ls (v.toList ++ st) h' n' (cu + am_mc z) (su + am_ms z) Q)
    (kt : ∀ (k i : Nat) (h' : am_H) (n' : Nat), Qc (.inr (k, i)) h' n' → Q (.inr (k, i)) h' n') : am_W (d + 1) y pc ls (As.reverse ++ .ref r :: st) h n cu su Q := by
  intro G p e R s m args below meth c lc H locs C hl hr hL T hT X
  subst hT
  obtain ⟨mk, hco⟩ := hz.co C.kn
  obtain ⟨hnamed, methk, ck, hmk, -⟩ := id hco
  obtain ⟨mk', methM, hnamed', hmethM, hstM, habM⟩ := Cond.instanceMethod_spec (C.word hin args)
  cases hnamed.symm.trans hnamed'
  obtain ⟨-, rr, h1, cell, q1, q2, q3, q4⟩ := hr.2.2.2.2 r _ ho
  obtain ⟨hS, hfc, kC, hkC, hkind⟩ := C.kn.2.1 ci _ hc
  obtain ⟨c2, r2, m2, g1, g2, g3, g4, kP, hkP, hkPi⟩ := Cond.selects_spec (C.kn.sel hse rfl args)
  have hcell : s.vm.findClass q.1 = some cell.cls := by rw [q2]; exact hfc
  cases hcell.symm.trans g1
  cases (State.methodFound?_of_named hnamed hz.2.2.2.1).symm.trans g2
  cases hnamed.symm.trans g3
  have hselP : selectMethod e.platform s.vm cell.cls mk = .method mk := by rw [Launch.admits_selectMethod X.admits]; exact g4
  have hsig : parseMethodDescriptor (am_nm z).desc = some methM.sig := by
    rcases hz.1 with ⟨j, w1, -⟩ | ⟨j, w1⟩
    · obtain ⟨mt, cM, e1, -, -, -, -, -, -, e2⟩ := Cond.code_spec hnamed (C.word w1 args)
      cases hmethM.symm.trans e1
      exact e2
    · obtain ⟨mm, mt, cM, e0, e1, -, -, -, -, -, -, e2⟩ := Cond.codeWith_spec (C.word w1 args)
      cases hnamed.symm.trans e0
      cases hmethM.symm.trans e1
      exact e2
  obtain ⟨vm₁, X₁, hstep₁⟩ := X.invokevirtual C.exec C.own (C.word hlk args) hnamed hmethM hstM hkP hkPi hz.2.2.2.1 (a := am_ad G r) (cell := cell) q1
    (fun w hw => by rw [q3] at hw; cases hw) hselP hmethM habM hkP hkPi (g := F0 m pc lc ((As.reverse ++ .ref r :: st).map (am_cv G))) rfl (argsL := As.map (am_cv G)) (rest := st.map (am_cv G)) (by rw [List.length_map]; exact hz.len _ hsig)
    (by show (As.reverse ++ .ref r :: st).map (am_cv G) = _; simp [am_cv]) (by rw [C.bytes]; exact hd)
  obtain ⟨t, a, b⟩ := am_behind (As := .ref r :: As) C X₁ hl hls (by rw [C.bytes]; exact hd) hst hz hco (fun v hv => by
    rcases List.mem_cons.mp hv with rfl | hv
    · rfl
    · exact hA v hv) (by simpa using hAn) hcu hsu hr hL hcal hh kk kt
  exact ⟨t, hstep₁ _ (fun acts => a acts), b⟩
/-- invokestatic -/
theorem ar_calls {i j1 j2 j3 : Nat} {As : List Value} (hd : decode (am_bc y) pc = .ok (.invokestatic i, 3)) (hlk : tables_1[j1]? = some (Jvm.Cond.methodLink (am_nm y).cls i (am_nm z))) (hsta : tables_1[j2]? = some (Jvm.Cond.static (am_nm z))) (hini : tables_1[j3]? = some (Jvm.Cond.initialized (am_nm z).cls)) (hz : am_Z z As.length)
    (hls : ls.length = am_mx y) (hst : (st.map fun v => v.category).sum ≤ 8) (hA : ∀ v ∈ As, v.category = 1) (hAn : As.length ≤ am_mx z) (hcu : cu + am_mc z ≤ am_mc y) (hsu : su + am_ms z ≤ am_ms y) (hh : am_nh y pc = true)
    (hcal : am_W d z 0 (am_en z As) [] h n 0 0 Qc)
    (kk : ∀ (v : Option Value) (h' : am_H) (n' : Nat), Qc (.inl v) h' n' → am_W (d + 1) y (pc + 3) ls (v.toList ++ st) h' n' (cu + am_mc z) (su + am_ms z) Q)
    (kt : ∀ (k i : Nat) (h' : am_H) (n' : Nat), Qc (.inr (k, i)) h' n' → Q (.inr (k, i)) h' n') : am_W (d + 1) y pc ls (As.reverse ++ st) h n cu su Q := by
  intro G p e R s m args below meth c lc H locs C hl hr hL T hT X
  subst hT
  obtain ⟨mk, hco⟩ := hz.co C.kn
  obtain ⟨hnamed, methM, ck, hmethM, -⟩ := id hco
  have hsig : parseMethodDescriptor (am_nm z).desc = some methM.sig := by
    rcases hz.1 with ⟨j, w1, -⟩ | ⟨j, w1⟩
    · obtain ⟨mt, cM, e1, -, -, -, -, -, -, e2⟩ := Cond.code_spec hnamed (C.word w1 args)
      cases hmethM.symm.trans e1
      exact e2
    · obtain ⟨mm, mt, cM, e0, e1, -, -, -, -, -, -, e2⟩ := Cond.codeWith_spec (C.word w1 args)
      cases hnamed.symm.trans e0
      cases hmethM.symm.trans e1
      exact e2
  have hstatic : methM.isStatic = true := Cond.static_spec hnamed hmethM (C.word hsta args)
  obtain ⟨kP, hkP, -⟩ := className_of_methodNamed hnamed
  have hinitP : kP.init = .initialized := Cond.initialized_spec (findClass_of_methodNamed hnamed) hkP (C.word hini args)
  obtain ⟨vm₁, X₁, hstep₁⟩ := X.invokestatic C.exec C.own (C.word hlk args) hnamed hmethM hstatic hkP hinitP hz.2.2.2.1 (g := F0 m pc lc ((As.reverse ++ st).map (am_cv G))) rfl (argsL := As.map (am_cv G)) (rest := st.map (am_cv G)) (by rw [List.length_map]; exact hz.len _ hsig)
    (by show (As.reverse ++ st).map (am_cv G) = _; simp) (by rw [C.bytes]; exact hd)
  obtain ⟨t, a, b⟩ := am_behind (As := As) C X₁ hl hls (by rw [C.bytes]; exact hd) hst hz hco hA hAn hcu hsu hr hL hcal hh kk kt
  exact ⟨t, hstep₁ _ (fun acts => a acts), b⟩
end AMS
