/-! calls: the callee's walk inside the caller's -/
theorem am_steps {tb : Tables} {e : Env} {mid below : List Frame} {s t : State} (h : Steps tb e (mid ++ below) s t) : Steps tb e below s t := by
  obtain ⟨k, h1, h2⟩ := h
  exact ⟨k, h1, fun j hj => (h2 j hj).weaken⟩
/-- the locals at a method's entry -/
abbrev am_en (z : am_Y) (As : List Value) : List (Option Value) := As.map some ++ List.replicate (am_mx z - As.length) none
/-- the code of z, in the tables -/
def am_co (z : am_Y) (s : State) (mk : MethodId) : Prop := s.methodNamed? (am_nm z) = some mk ∧ ∃ (methk : Method) (ck : Code), s.vm.method? mk = some methk ∧ methk.code = some ck ∧ ck.code = am_bc z ∧ ck.maxLocals = am_mx z ∧ methk.sig.returnType = am_rt z ∧ methk.locks = false ∧ (ck.exceptionTable.toList.map fun x => (x.startPc, x.endPc, x.handlerPc, x.catchType)) = am_hd z
set_option maxRecDepth 20000 in
theorem am_loc {a b q d L : Nat} (h1 : 2 * a + b ≤ 8) (h2 : q ≤ 41) (h3 : 60 * (d + 1) + 400 ≤ L) : 2 * a + b + (q + 11) + (60 * d + 400) ≤ L := by omega
section AMC
variable {G : am_G} {d : Nat} {y z : am_Y} {p : Program} {e : Env} {R : Room} {s : State} {m : MethodId} {args : Array Value} {below : List Frame} {meth : Method} {c : Code} {T : State} {locs : List Loc} {h : am_H} {n cu su : Nat} {Qc : am_O → am_H → Nat → Prop}
theorem am_go (C : am_X G (d + 1) y p e R s m meth c) (X : Stand p (am_l G) e R s m args below meth c T locs cu su) {g : JFrame} (hg : g.method = m) (hsz : g.locals.size = c.maxLocals) {ig : Instr} {len : Nat} (hdg : decode c.code g.pc = .ok (ig, len)) (hW : 2 * g.monitorRoom + (g.stack.map fun v => v.category).sum ≤ 8)
    {mk : MethodId} (hco : am_co z s mk) (hpl : plainName (am_nm z).cls = true) (hmx : am_mx z ≤ 41) {As : List Value} (hA : ∀ v ∈ As, v.category = 1) (hAn : As.length ≤ am_mx z) (hcu : cu + am_mc z ≤ am_mc y) (hsu : su + am_ms z ≤ am_ms y)
    (hr : am_R am_cl G s h n T.heap) (hL : ∀ q ∈ locs, am_b G ≤ q.base) (hcal : am_W d z 0 (am_en z As) [] h n 0 0 Qc) :
    ∃ (o' : am_O) (h' : am_H) (n' : Nat) (T' : State) (locs' : List Loc), Qc o' h' n' ∧ Stand p (am_l G) e R s m args below meth c T' locs' (cu + am_mc z) (su + am_ms z) ∧ am_R am_cl G s h' n' T'.heap ∧ (∀ q ∈ locs', am_b G ≤ q.base) ∧
      ((∃ v : Option Value, o' = .inl v ∧ ∀ acts, Steps p.tables e below (doInvoke e (T.setTop g) acts mk (As.map (am_cv G)).toArray).1 (T'.setTop { g with pc := g.pc + len, stack := (v.map (am_cv G)).toList ++ g.stack })) ∨
       (∃ k i : Nat, o' = .inr (k, i) ∧ k < 5 ∧ (∃ cell : Cell, T'.heap[am_ad G i]? = some cell ∧ cell.vm.isStatics = false ∧ s.vm.findClass (am_xn k) = some cell.cls) ∧ ∀ acts, Steps p.tables e below (doInvoke e (T.setTop g) acts mk (As.map (am_cv G)).toArray).1 ((T'.setTop g).pushFrame (.throwing (am_ad G i))))) := by
  obtain ⟨hnamed, methk, ck, hmk, hck, hbk, hlk, hrk, hlocks, hhk⟩ := hco
  have hmT : T.vm.method? mk = some methk := by rw [X.warmed.alike.method?]; exact hmk
  have hpk : T.plainMethod mk := X.warmed.plainAt (fun k hk => by
    obtain ⟨k2, hk2, hn2⟩ := className_of_methodNamed hnamed
    cases hk.symm.trans hk2
    rw [hn2]; exact hpl)
  obtain ⟨Y, hin⟩ := X.into hg hsz hdg (mk := mk) (methk := methk) (ck := ck) (As.map (am_cv G)).toArray (R' := { frames := d + 12, cells := am_mc z, slots := am_ms z, locals := 60 * d + 400 }) hmT hck hlocks hpk
    (by have := C.frames; show d + 12 + 1 ≤ R.frames; omega) (by rw [hlk]; exact am_loc hW hmx C.locals) (by have := C.cells; show cu + am_mc z ≤ R.cells; omega) (by have := C.slots; show su + am_ms z ≤ R.slots; omega)
  have hal : s.vm.Alike T.vm := X.warmed.alike
  have C' : am_X G d z p e { frames := d + 12, cells := am_mc z, slots := am_ms z, locals := 60 * d + 400 } (T.calling g mk (As.map (am_cv G)).toArray) mk methk ck := by
    refine ⟨C.exec, hbk, hlk, ?_, hrk, hlocks, (name_of_methodNamed hnamed hmk).1, hhk, C.kn.moved (U := T.calling g mk (As.map (am_cv G)).toArray) X.warmed, fun q hq => hr.2.2.2.1 q hq, ?_, C.traces, Nat.le_refl _, Nat.le_refl _, Nat.le_refl _, Nat.le_refl _⟩
    · show T.vm.findClass _ = _
      rw [hal.findClass]
      exact findClass_of_methodNamed hnamed
    · show am_b G ≤ T.heap.size
      have := hr.2.1
      omega
  have hr' : am_R am_cl G (T.calling g mk (As.map (am_cv G)).toArray) h n T.heap := hr.moved hal
  have hl' := am_L.entry G As (am_mx z) hA hAn
  have w := hcal G p e _ _ mk (As.map (am_cv G)).toArray (.java g :: below) methk ck _ T.heap [] C' hl' hr' (fun q hq => by cases hq)
  obtain ⟨t, st, o, o', h', n', hrun, hend, hQ, hoc, hR', hWt, L, hsame, hLL⟩ := w ((T.setTop g).pushFrame (.java (entryFrame mk (As.map (am_cv G)).toArray ck.maxLocals))) rfl Y
  have st' : ∀ acts, Steps p.tables e below (doInvoke e (T.setTop g) acts mk (As.map (am_cv G)).toArray).1 t := by
    intro acts
    rw [hin acts, lg_entry_eq, hlk]
    refine am_steps (mid := [.java g]) ?_
    rw [lg_entry_eq, hlk] at st
    exact st
  match o', hQ, hoc with
  | .inl v, hQ, hoc =>
    obtain rfl : o = .returned (v.map (am_cv G)) := hoc
    obtain ⟨T', X', hWT, hs', rfl⟩ := X.outOf hg hdg hend hWt hsame
    exact ⟨.inl v, h', n', T', locs ++ L, hQ, X', hR'.moved hal.symm, t_lL hL hLL, Or.inl ⟨v, rfl, st'⟩⟩
  | .inr (k, i), hQ, hoc =>
    obtain ⟨rfl, hk5, cell, g1, g2, g3⟩ := hoc
    obtain ⟨T', X', hWT, hs', rfl⟩ := X.outOfThrown hg hend hWt hsame
    refine ⟨.inr (k, i), h', n', T', locs ++ L, hQ, X', hR'.moved hal.symm, t_lL hL hLL, Or.inr ⟨k, i, rfl, hk5, ⟨cell, g1, g2, ?_⟩, st'⟩⟩
    have g3' : T.vm.findClass (am_xn k) = some cell.cls := g3
    rw [hal.findClass] at g3'
    exact g3'
end AMC
