/-! an exception is caught: the handlers' classes are resolved on the way, cold or warm -/
/-- the kind of exception that an entry of the law's pool names -/
def am_ct (i : Nat) : Option (Nat × Nat) := match i with
  | 13 => some (0, 251)
  | 15 => some (1, 252)
  | 25 => some (2, 375)
  | 57 => some (3, 555)
  | 65 => some (4, 588)
  | _ => none
theorem am_ct_ok {i k j : Nat} (h : am_ct i = some (k, j)) : k < 5 ∧ i ≠ 0 ∧ tables_1[j]? = some (Jvm.Cond.classLink "AllocateSolveLaw" i (am_xn k)) := by
  unfold am_ct at h
  split at h <;> cases h
  · exact ⟨by decide, by decide, kw_251⟩
  · exact ⟨by decide, by decide, kw_252⟩
  · exact ⟨by decide, by decide, kw_375⟩
  · exact ⟨by decide, by decide, kw_555⟩
  · exact ⟨by decide, by decide, kw_588⟩
/-- where an exception of kind k goes on that comes to pc -/
def am_ft : List (Nat × Nat × Nat × Nat) → Nat → Nat → Option Nat
  | [], _, _ => none
  | q :: t, pc, k => if q.1 ≤ pc && pc < q.2.1 then (match am_ct q.2.2.2 with
      | some (k', _) => if k' = k then some q.2.2.1 else am_ft t pc k
      | none => none) else none
section AMK
variable {E : CtlPost} {e : Env} {dd : Bool} {acts : List Action} {S : State} {f : JFrame} {a : Addr} {Qh : Handler → Pre}
theorem am_fgo {x : ExceptionTableEntry} {t : List ExceptionTableEntry} {cc : ClassId} {cell : Cell} {vm' : Vm} (hx : covers x f.pc = true) (h0 : x.catchType ≠ 0)
    (hg : (Jvm.resolveClass f.method.cls x.catchType).Gives e.toSetting S.vm (.ok cc) vm') (hsz : vm'.classes.size ≤ S.vm.classes.size) (hcell : S.heap[a]? = some cell) (hobj : ∀ k, cell.vm ≠ .statics k)
    (hk : ∃ k, vm'.classes[cell.cls]? = some k) (hc : ∃ k, vm'.classes[cc]? = some k) :
    wp (findHandler.go f a (x :: t)) Qh E e dd acts S ↔
      if vm'.assignable cell.cls cc = true then Qh (.found x.handlerPc) dd acts (S.setVm vm') else wp (findHandler.go f a t) Qh E e dd acts (S.setVm vm') := by
  simp only [covers] at hx
  obtain ⟨ha, ht⟩ := hg.op (op := VmOp.resolveClass f.method.cls x.catchType) rfl
  have hcell' : (S.setVm vm').heap[a]? = some cell := hcell
  cases hfit : vm'.assignable cell.cls cc <;>
    simp [findHandler.go, hx, h0, ha, ht, hsz, hcell, hobj, hk, hc, hfit, VmOp.dirties, VmOp.acts]
end AMK
theorem am_find {G : am_G} {s : State} {e : Env} (hK : am_kn G s) {f : JFrame} (hown : s.vm.findClass "AllocateSolveLaw" = some f.method.cls) (hpl : e.platform.magicAccessors = ({} : Platform).magicAccessors) {a : Addr} {cell : Cell} {k : Nat} (hk5 : k < 5) (hfc : s.vm.findClass (am_xn k) = some cell.cls) (hobj : cell.vm.isStatics = false) :
    ∀ (l : List ExceptionTableEntry) (S : State), s.WarmedH S.vm → S.heap[a]? = some cell → ∀ hp : Nat, am_ft (l.map fun x => (x.startPc, x.endPc, x.handlerPc, x.catchType)) f.pc k = some hp →
      ∃ vm' : Vm, s.WarmedH vm' ∧ ∀ (Qh : Handler → Pre) (E : CtlPost) (dd : Bool) (acts : List Action), wp (findHandler.go f a l) Qh E e dd acts S ↔ Qh (.found hp) dd acts (S.setVm vm') := by
  intro l
  induction l with
  | nil => intro S hW hc hp hf; cases hf
  | cons x t ih =>
    intro S hW hc hp hf
    simp only [List.map_cons, am_ft] at hf
    split at hf
    · rename_i hcov
      split at hf
      · rename_i k' j hct
        obtain ⟨hk', h0, hw⟩ := am_ct_ok hct
        obtain ⟨cc, hfcc, hcl⟩ := Cond.classLink_spec hown (hK.word hw rfl #[]) e.platform hpl
        obtain ⟨hg₁, hwarm₁, hready₁⟩ := State.classEntry (e := e) hW hcl
        generalize S.vm.noted f.method.cls x.catchType (.cls cc) = vm₁ at hg₁ hwarm₁ hready₁
        have hal : s.vm.Alike vm₁ := hwarm₁.alike
        obtain ⟨c1, c2, g1, g2, g3⟩ := hK.2.2.2.2.2.2.2.2.2.2 k k' hk5 hk'
        cases g1.symm.trans hfc
        cases g2.symm.trans hfcc
        have hcl1 : ∃ q, vm₁.classes[cell.cls]? = some q := by
          obtain ⟨q, hq⟩ := Vm.classAt_of_findClass hfc
          obtain ⟨q', hq', -⟩ := hal.2.2 _ _ hq
          exact ⟨q', hq'⟩
        have hcl2 : ∃ q, vm₁.classes[cc]? = some q := by
          obtain ⟨q, hq⟩ := Vm.classAt_of_findClass hfcc
          obtain ⟨q', hq', -⟩ := hal.2.2 _ _ hq
          exact ⟨q', hq'⟩
        have hsz : vm₁.classes.size ≤ S.vm.classes.size := (hW.alike.symm.trans hal).size_le
        have hgo := fun (Qh : Handler → Pre) (E : CtlPost) (dd : Bool) (acts : List Action) => am_fgo (E := E) (dd := dd) (acts := acts) (Qh := Qh) (t := t) (x := x) (f := f) (a := a) (by simpa [covers] using hcov) h0 hg₁ hsz hc (VmData.ne_statics_of hobj) hcl1 hcl2
        have has : vm₁.assignable cell.cls cc = decide (k = k') := by rw [hal.assignable]; exact g3
        split at hf
        · rename_i e1
          cases hf
          refine ⟨vm₁, hwarm₁, fun Qh E dd acts => ?_⟩
          rw [hgo, has, if_pos (by simp [e1])]
        · rename_i e1
          obtain ⟨vm₂, hwarm₂, h2⟩ := ih (S.setVm vm₁) hwarm₁ hc hp hf
          refine ⟨vm₂, hwarm₂, fun Qh E dd acts => ?_⟩
          rw [hgo, has, if_neg (by simp; exact fun q => e1 q.symm), h2]
          rfl
      · cases hf
    · cases hf
theorem am_stepC {e : Env} {s : State} {a : Addr} {f : JFrame} {r : List Frame} {pc : Nat} {vm' : Vm} (hfind : ∀ (Q : Handler → Pre) (E : CtlPost) (d : Bool) (acts : List Action), wp (findHandler f a) Q E e d acts s ↔ Q (.found pc) d acts (s.setVm vm')) :
    (stepThrowing e s a (.java f :: r)).Is ((s.setVm vm').setFrames (.java { f with pc := pc, stack := [.ref a] } :: r)) [] := by
  simp only [stepThrowing, searchFrame, vmDo]
  generalize hr : Sem.go _ e false [] s = res
  obtain ⟨as, rfl, ha⟩ := Sem.eq_ok_of hr (a := Handler.found pc) (s' := s.setVm vm') (acts' := []) (by simp [hfind _ _ _ _])
  exact ⟨rfl, ha⟩
theorem am_caught {tb : Tables} {e : Env} {s target : State} {g : JFrame} {c : Code} {below : List Frame} {a : Addr} {vm' : Vm} (h : At s g.method c below) {pc : Nat} (hfind : ∀ (Q : Handler → Pre) (E : CtlPost) (d : Bool) (acts : List Action), wp (findHandler g a) Q E e d acts ((s.setTop g).pushFrame (.throwing a)) ↔ Q (.found pc) d acts (((s.setTop g).pushFrame (.throwing a)).setVm vm'))
    (hrest : Steps tb e below ((s.setVm vm').setTop { g with pc := pc, stack := [.ref a] }) target) :
    Steps tb e below ((s.setTop g).pushFrame (.throwing a)) target := by
  obtain ⟨hgo, hw⟩ := h.throwing a
  refine Steps.head hgo hw ?_
  rw [stepThread_throwing (frames_entered h.top _), (am_stepC (s := (s.setTop g).pushFrame (.throwing a)) hfind).1]
  obtain ⟨g₀, hg⟩ := Option.isSome_iff_exists.mp h.top
  obtain ⟨r, hr⟩ := State.topJava?_eq_some.mp hg
  have hr' : (s.setVm vm').frames = .java g₀ :: r := hr
  rw [State.setTop_of_frames _ hr'] at hrest
  have e1 : (((s.setTop g).pushFrame (.throwing a)).setVm vm').setFrames (.java { g with pc := pc, stack := [.ref a] } :: s.frames.tail) = (s.setVm vm').setFrames (.java { g with pc := pc, stack := [.ref a] } :: r) := by
    rw [hr, State.pushFrame, State.frames_setTop _ hr, State.setTop_of_frames _ hr, State.setFrames_setFrames]
    show ((s.setFrames _).setFrames _).setVm vm' = _
    rw [State.setFrames_setFrames]
    rfl
  rw [e1]
  exact hrest
section AMQ
variable {d : Nat} {y z : am_Y} {pc : Nat} {ls : List (Option Value)} {st : List Value} {h : am_H} {n cu su : Nat} {Q Qc : am_O → am_H → Nat → Prop}
/-- invokevirtual inside a try of the law's -/
theorem ar_callc {i j1 j2 r ci : Nat} {q : vw_C} {fs As : List Value} (hy : (am_nm y).cls = "AllocateSolveLaw") (hd : decode (am_bc y) pc = .ok (.invokevirtual i, 3)) (hlk : tables_1[j1]? = some (Jvm.Cond.methodLink (am_nm y).cls i (am_nm z))) (hin : tables_1[j2]? = some (Jvm.Cond.instanceMethod (am_nm z))) (hc : am_cl[ci]? = some q) (hse : Jvm.Cond.selects q.1 (am_nm z) (am_nm z) ∈ lw_tbl) (hz : am_Z z As.length) (ho : h[r]? = some (am_ob ci fs))
    (hls : ls.length = am_mx y) (hst : (st.map fun v => v.category).sum ≤ 8) (hA : ∀ v ∈ As, v.category = 1) (hAn : As.length + 1 ≤ am_mx z) (hcu : cu + am_mc z ≤ am_mc y) (hsu : su + am_ms z ≤ am_ms y)
    (hcal : am_W d z 0 (am_en z (.ref r :: As)) [] h n 0 0 Qc)
    (kk : ∀ (v : Option Value) (h' : am_H) (n' : Nat), Qc (.inl v) h' n' → am_W (d + 1) y (pc + 3) ls (v.toList ++ st) h' n' (cu + am_mc z) (su + am_ms z) Q)
    (kt : ∀ (k i : Nat) (h' : am_H) (n' : Nat), Qc (.inr (k, i)) h' n' → ∃ hp, am_ft (am_hd y) pc k = some hp ∧ am_W (d + 1) y hp ls [.ref i] h' n' (cu + am_mc z) (su + am_ms z) Q) : am_W (d + 1) y pc ls (As.reverse ++ .ref r :: st) h n cu su Q := by
  intro G p e R s m args below meth c lc H locs C hl hr hL T hT X
  subst hT
  have hpl : e.platform.magicAccessors = ({} : Platform).magicAccessors := by rw [X.admits.platform]
  obtain ⟨mk, hco⟩ := hz.co C.kn
  obtain ⟨hnamed, methk, ck, hmk, -⟩ := id hco
  obtain ⟨mk', methM, hnamed', hmethM, hstM, habM⟩ := Cond.instanceMethod_spec (C.word hin args)
  cases hnamed.symm.trans hnamed'
  obtain ⟨-, rr, h1, cell, q1, q2, q3, q4⟩ := hr.2.2.2.2 r _ ho
  obtain ⟨hS, hfc, kC, hkC, hkind⟩ := C.kn.2.1 ci _ hc
  obtain ⟨c2, r2, m2, g1, g2, g3, g4, kP, hkP, hkPi⟩ := Cond.selects_spec (C.kn.sel hse rfl args)
  have hcell : s.vm.findClass q.1 = some cell.cls := by rw [q2]; exact hfc
  cases hcell.symm.trans g1
  cases (State.methodFound?_of_named hnamed hz.2.2.2.1).symm.trans g2
  cases hnamed.symm.trans g3
  have hselP : selectMethod e.platform s.vm cell.cls mk = .method mk := by rw [Launch.admits_selectMethod X.admits]; exact g4
  have hsig : parseMethodDescriptor (am_nm z).desc = some methM.sig := by
    rcases hz.1 with ⟨j, w1, -⟩ | ⟨j, w1⟩
    · obtain ⟨mt, cM, e1, -, -, -, -, -, -, e2⟩ := Cond.code_spec hnamed (C.word w1 args)
      cases hmethM.symm.trans e1
      exact e2
    · obtain ⟨mm, mt, cM, e0, e1, -, -, -, -, -, -, e2⟩ := Cond.codeWith_spec (C.word w1 args)
      cases hnamed.symm.trans e0
      cases hmethM.symm.trans e1
      exact e2
  obtain ⟨vm₁, X₁, hstep₁⟩ := X.invokevirtual C.exec C.own (C.word hlk args) hnamed hmethM hstM hkP hkPi hz.2.2.2.1 (a := am_ad G r) (cell := cell) q1
    (fun w hw => by rw [q3] at hw; cases hw) hselP hmethM habM hkP hkPi (g := F0 m pc lc ((As.reverse ++ .ref r :: st).map (am_cv G))) rfl (argsL := As.map (am_cv G)) (rest := st.map (am_cv G)) (by rw [List.length_map]; exact hz.len _ hsig)
    (by show (As.reverse ++ .ref r :: st).map (am_cv G) = _; simp [am_cv]) (by rw [C.bytes]; exact hd)
  obtain ⟨o', h', n', T', locs', hQ, X', hr', hL', hor⟩ := am_go (As := .ref r :: As) C X₁ (g := F0 m pc lc (st.map (am_cv G))) rfl (by show lc.size = _; rw [hl.1, hls, C.maxL]) (by rw [C.bytes]; exact hd) (by show 2 * 0 + _ ≤ 8; rw [am_cv_sum]; omega) hco hz.2.1 hz.2.2.1 (fun v hv => by
    rcases List.mem_cons.mp hv with rfl | hv
    · rfl
    · exact hA v hv) (by simpa using hAn) hcu hsu hr hL hcal
  rcases hor with ⟨v, rfl, st1⟩ | ⟨k, ix, rfl, hk5, ⟨ce, z1, z2, z3⟩, st1⟩
  · obtain ⟨t, a, b⟩ := kk v h' n' hQ G p e R s m args below meth c lc T'.heap locs' C hl hr' hL' T' rfl X'
    refine ⟨t, hstep₁ _ (fun acts => (st1 acts).trans ?_), b⟩
    have he : (v.map (am_cv G)).toList ++ st.map (am_cv G) = (v.toList ++ st).map (am_cv G) := by cases v <;> simp
    rw [show ((F0 m pc lc (st.map (am_cv G))).stack) = st.map (am_cv G) from rfl, he]
    exact a
  · obtain ⟨hp, hft, w⟩ := kt k ix h' n' hQ
    have hvm : ((T'.setTop (F0 m pc lc (st.map (am_cv G)))).pushFrame (.throwing (am_ad G ix))).vm = T'.vm := Jvm.Stand.throwing_vm _ _ _
    have hhp : ((T'.setTop (F0 m pc lc (st.map (am_cv G)))).pushFrame (.throwing (am_ad G ix))).heap = T'.heap := Jvm.Stand.throwing_heap _ _ _
    obtain ⟨vm₂, hW₂, hf2⟩ := am_find C.kn (f := F0 m pc lc (st.map (am_cv G))) (by rw [← hy]; exact C.own) hpl (a := am_ad G ix) hk5 z3 z2 c.exceptionTable.toList ((T'.setTop (F0 m pc lc (st.map (am_cv G)))).pushFrame (.throwing (am_ad G ix))) (by rw [hvm]; exact X'.warmed) (by rw [hhp]; exact z1) hp (by rw [C.hand]; exact hft)
    have hmeth : ((T'.setTop (F0 m pc lc (st.map (am_cv G)))).pushFrame (.throwing (am_ad G ix))).vm.method? m = some meth := by rw [hvm]; exact X'.method'
    have X₂ := X'.noted hW₂
    obtain ⟨t, a, b⟩ := w G p e R s m args below meth c lc T'.heap locs' C hl hr' hL' (T'.setVm vm₂) rfl X₂
    refine ⟨t, hstep₁ _ (fun acts => (st1 acts).trans ?_), b⟩
    refine am_caught (g := F0 m pc lc (st.map (am_cv G))) (s := T') X'.here (vm' := vm₂) (pc := hp) (fun Qh E dd acts => ?_) a
    rw [Jvm.W.findHandler_eq (f := F0 m pc lc (st.map (am_cv G))) hmeth X'.code]
    exact hf2 Qh E dd acts
end AMQ
