/-! THE CLAIM OUT OF ONE WALK OF THE LAW'S BODY. Your part is whole_start (and what it stands on); all else here is the same for every law, but numbers. -/
def R_law : String := "AllocateSolveLaw"
def lw_P (b : Addr) (xs : List Int32) (args : Array Value) (s : State) : Prop := args = #[.ref b] ∧ s.IntsAt b xs ∧ xs.length ≤ 2560 ∧ (Jvm.Cond.and given_1 narrow_1).before args s = true
def lw_Q (_ : Array Value) (s : State) (o : Outcome) (t : State) : Prop := o = .returned (some (.int 1)) ∧ Framed s o t [] 648338 7151090
def lw_Z (below : List Frame) (a : Array Value) (s : State) : State → Prop := fun t => ∃ o, t.status = .running ∧ Ended t below o ∧ lw_Q a s o t
/-- what holds at the law's entry: the machine, the code, the tables' words (any of lw_tbl by 'hts w (by decide +kernel)'), the script of L ints xs at the cell b, what the Statement gives of the start (any of its parts by flat_of_before) -/
def lw_At (p : Program) (s : State) (m : MethodId) (meth : Method) (c : Code) (b L : Nat) (xs : Nat → Int32) : Prop :=
  p.tables.exec = Jvm.exec ∧ c.code = code ∧ meth.sig.returnType = ret ∧ c.maxLocals = 7 ∧ s.vm.findClass R_law = some m.cls ∧ (∀ w ∈ lw_tbl, w.before #[Value.ref b] s = true) ∧ va_X b L xs s s.heap ∧ b < s.heap.size ∧ meth.locks = false ∧ (Jvm.Cond.and given_1 narrow_1).before #[Value.ref b] s = true ∧ s.methodNamed? x = some m ∧ (Jvm.Cond.code x code maxLocals ret).before #[Value.ref b] s = true
/-- the four cells that are there at the law's start -/
def od4 (b a1 a2 a3 : Nat) : Nat → Nat := fun k => match k with
  | 0 => b
  | 1 => a1
  | 2 => a2
  | _ => a3
theorem len_lt {args : Array Value} {first s : State} {o : Option Outcome} {idx : List Nat} {t : Term} {v : Value} (h : (Term.length t).eval args first o idx s = some v) (a : Addr) (cell : Cell) (ht : t.eval args first o idx s = some (.ref a)) (hc : s.arrayAt? a = some cell) : cell.slots.size < 2147483648 := by
  refine Decidable.byContradiction fun hn => ?_
  simp [Term.eval, ht, hc, hn] at h
theorem st_arr {args : Array Value} {s : State} {nm : String} {f : Nat → Int32} (h1 : (Cond.arrayOf (.static "AllocateSolve" nm "[I") .int).before args s = true) (h2 : (Cond.eq (.length (.static "AllocateSolve" nm "[I")) (.int 4)).before args s = true)
    (e0 : (Cond.eq (.elem (.static "AllocateSolve" nm "[I") (.int 0)) (.int (f 0))).before args s = true) (e1 : (Cond.eq (.elem (.static "AllocateSolve" nm "[I") (.int 1)) (.int (f 1))).before args s = true) (e2 : (Cond.eq (.elem (.static "AllocateSolve" nm "[I") (.int 2)) (.int (f 2))).before args s = true) (e3 : (Cond.eq (.elem (.static "AllocateSolve" nm "[I") (.int 3)) (.int (f 3))).before args s = true) :
    ∃ a, (Term.static "AllocateSolve" nm "[I").eval args s none [] s = some (.ref a) ∧ am_ar s .int 4 (fun j => .int (f j)) a s.heap ∧ a < s.heap.size := by
  have q2 := Cond.eq_int (n := 4) h2 rfl
  obtain ⟨a, cell, ht, hc, hv⟩ := Term.length_spec q2
  obtain ⟨hcell, -, -, -⟩ := State.arrayAt?_spec hc
  obtain ⟨g1, g2⟩ := Cond.arrayOf_spec h1 ht hcell
  have el : ∀ {i v : Int32}, (Cond.eq (.elem (.static "AllocateSolve" nm "[I") (.int i)) (.int v)).before args s = true → ¬ cell.slots.size ≤ i.toNatClampNeg ∧ cell.slots[i.toNatClampNeg]? = some (.int v) := by
    intro i v h
    obtain ⟨a', j, cell', w1, w2, w3, w4, w5⟩ := Term.elem_spec (Cond.eq_int (n := v) h rfl)
    cases ht.symm.trans w1
    cases hc.symm.trans w3
    have w2' : (some (Value.int i) : Option Value) = some (.int j) := w2
    cases w2'
    exact ⟨fun q => w4 (Or.inr q), w5⟩
  have s0 := el e0
  have s1 := el e1
  have s2 := el e2
  have s3 := el e3
  have z0 : (0 : Int32).toNatClampNeg = 0 := by decide
  have z1 : (1 : Int32).toNatClampNeg = 1 := by decide
  have z2 : (2 : Int32).toNatClampNeg = 2 := by decide
  have z3 : (3 : Int32).toNatClampNeg = 3 := by decide
  rw [z0] at s0
  rw [z1] at s1
  rw [z2] at s2
  rw [z3] at s3
  have hsz : cell.slots.size = 4 := by
    have hlt := len_lt q2 a cell ht hc
    have hv' : (4 : Int32) = cell.slots.size.toInt32 := Value.int.inj hv
    have e4 : (4 : Int32) = Int32.ofNat 4 := rfl
    have e5 : Int32.ofNat cell.slots.size = Int32.ofNat 4 := by rw [← e4]; exact hv'.symm
    have e6 := congrArg Int32.toInt e5
    rw [Int32.toInt_ofNat_of_lt (by omega), Int32.toInt_ofNat_of_lt (by omega)] at e6
    omega
  refine ⟨a, ht, ⟨cell, hcell, g1, g2, hsz, fun j hj => ?_⟩, (Array.getElem?_eq_some_iff.mp hcell).1⟩
  rcases (show j = 0 ∨ j = 1 ∨ j = 2 ∨ j = 3 by omega) with rfl | rfl | rfl | rfl
  · exact s0.2
  · exact s1.2
  · exact s2.2
  · exact s3.2
theorem kn_cls {args : Array Value} {s : State} (hts : ∀ w ∈ lw_tbl, w.before args s = true) : ∃ (dC : Nat → ClassId) (dI : Nat → Nat → Nat), ∀ (k : Nat) (q : vw_C), am_cl[k]? = some q → u_Kn s q.1 q.2.1 q.2.2 (dC k) (dI k) := by
  obtain ⟨c0, i0, k0⟩ := u_known (n := 5) hts (fun w hw => (kl_0 w hw).1) (hts _ (kw_in kw_18))
  obtain ⟨c1, i1, k1⟩ := u_known (n := 2) hts (fun w hw => (kl_1 w hw).1) (hts _ (kw_in kw_32))
  obtain ⟨c2, i2, k2⟩ := u_known (n := 7) hts (fun w hw => (kl_2 w hw).1) (hts _ (kw_in kw_80))
  obtain ⟨c3, i3, k3⟩ := u_known (n := 7) hts (fun w hw => (kl_3 w hw).1) (hts _ (kw_in kw_38))
  obtain ⟨c4, i4, k4⟩ := u_known (n := 9) hts (fun w hw => (kl_4 w hw).1) (hts _ (kw_in kw_26))
  obtain ⟨c5, i5, k5⟩ := u_known (n := 21) hts (fun w hw => (kl_5 w hw).1) (hts _ (kw_in kw_614))
  refine ⟨fun k => match k with | 0 => c0 | 1 => c1 | 2 => c2 | 3 => c3 | 4 => c4 | _ => c5, fun k => match k with | 0 => i0 | 1 => i1 | 2 => i2 | 3 => i3 | 4 => i4 | _ => i5, ?_⟩
  intro k q hq
  match k, hq with
  | 0, hq => cases hq; exact k0
  | 1, hq => cases hq; exact k1
  | 2, hq => cases hq; exact k2
  | 3, hq => cases hq; exact k3
  | 4, hq => cases hq; exact k4
  | 5, hq => cases hq; exact k5
  | k + 6, hq => simp [am_cl] at hq
theorem nc_in : ∀ i j : Fin 5, i ≠ j → Cond.not (Cond.castable (am_xn i) (am_xn j)) ∈ flatC (Jvm.Cond.and given_1 narrow_1) := by decide +kernel
set_option maxRecDepth 20000 in
theorem kn_ex {args : Array Value} {s : State} (hts : ∀ w ∈ lw_tbl, w.before args s = true) (hs : ∀ w ∈ flatC (Jvm.Cond.and given_1 narrow_1), w.before args s = true) : ∀ i j : Nat, i < 5 → j < 5 → ∃ c1 c2 : ClassId, s.vm.findClass (am_xn i) = some c1 ∧ s.vm.findClass (am_xn j) = some c2 ∧ s.vm.assignable c1 c2 = decide (i = j) := by
  have hc : ∀ i, i < 5 → (Cond.castable (am_xn i) (am_xn i)).before args s = true := by
    intro i hi
    rcases (show i = 0 ∨ i = 1 ∨ i = 2 ∨ i = 3 ∨ i = 4 by omega) with rfl | rfl | rfl | rfl | rfl
    · exact hts _ (kw_in (i := 262) rfl)
    · exact hts _ (kw_in (i := 332) rfl)
    · exact hts _ (kw_in (i := 386) rfl)
    · exact hts _ (kw_in (i := 563) rfl)
    · exact hts _ (kw_in (i := 595) rfl)
  intro i j hi hj
  obtain ⟨c1, c1', f1, f1', g1⟩ := Cond.castable_spec (hc i hi)
  obtain ⟨c2, c2', f2, f2', g2⟩ := Cond.castable_spec (hc j hj)
  refine ⟨c1, c2, f1, f2, ?_⟩
  by_cases e : i = j
  · subst e
    cases f1.symm.trans f2
    cases f1.symm.trans f1'
    rw [g1]
    simp
  · have hn := hs _ (nc_in ⟨i, hi⟩ ⟨j, hj⟩ (fun q => e (by simpa using congrArg Fin.val q)))
    have hn' : (Cond.not (Cond.castable (am_xn i) (am_xn j))).before args s = true := hn
    simp [Cond.before, Cond.holds, Cond.value, f1, f2] at hn'
    rw [hn']
    simp [e]
theorem kn_sf {l : Launch} {dC : Nat → ClassId} {dI : Nat → Nat → Nat} {od : Nat → Nat} {args : Array Value} {s : State} {C n d : String} {v : Value} (hl : (Cond.laysStatic C n d).before args s = true) (hini : (Cond.initialized C).before args s = true) (hv : (Term.static C n d).eval args s none [] s = some v) : am_sf (l, s.heap.size, s.heap, dC, dI, od) s C n d v := am_sf.of rfl rfl hl hini hv
set_option maxRecDepth 20000 in
theorem kn_start {l : Launch} {dC : Nat → ClassId} {dI : Nat → Nat → Nat} {b a1 a2 a3 : Nat} {args : Array Value} {s : State} (hts : ∀ w ∈ lw_tbl, w.before args s = true) (hs : ∀ w ∈ flatC (Jvm.Cond.and given_1 narrow_1), w.before args s = true) (hKc : ∀ (k : Nat) (q : vw_C), am_cl[k]? = some q → u_Kn s q.1 q.2.1 q.2.2 (dC k) (dI k)) (t1 : (Term.static "AllocateSolve" "RULE_LEAST" "[I").eval args s none [] s = some (.ref a1)) (t2 : (Term.static "AllocateSolve" "RULE_MOST" "[I").eval args s none [] s = some (.ref a2)) (t3 : (Term.static "AllocateSolve" "RULE_FIRST" "[I").eval args s none [] s = some (.ref a3)) : am_kn (l, s.heap.size, s.heap, dC, dI, od4 b a1 a2 a3) s := by
  obtain ⟨v1, u1, w1⟩ := Cond.isRef_spec (hs (Cond.isRef (.static "java/lang/Throwable" "UNASSIGNED_STACK" "[Ljava/lang/StackTraceElement;")) (by decide +kernel))
  obtain ⟨v2, u2, w2⟩ := Cond.isRef_spec (hs (Cond.isRef (.static "java/lang/Throwable" "SUPPRESSED_SENTINEL" "Ljava/util/List;")) (by decide +kernel))
  refine ⟨fun w hw hg => ?_, hKc, ⟨kn_sf (hts _ (kw_in (i := 401) rfl)) (hts _ (kw_in kw_1)) t1, kn_sf (hts _ (kw_in (i := 403) rfl)) (hts _ (kw_in kw_1)) t2, kn_sf (hts _ (kw_in (i := 371) rfl)) (hts _ (kw_in kw_1)) t3⟩, ⟨v1, w1, kn_sf (hts _ (kw_in (i := 287) rfl)) (hts _ (kw_in (i := 7) rfl)) u1⟩, ⟨v2, w2, kn_sf (hts _ (kw_in (i := 289) rfl)) (hts _ (kw_in (i := 7) rfl)) u2⟩, fun q hq => ?_, fun q hq => ?_, va_Nw.of rfl (hts _ (kw_in (i := 370) rfl)), ?_, fun x hx => ?_, kn_ex hts hs⟩
  · rcases good_of_word hg with hc | ⟨ty, rfl⟩
    · simp only [Bool.and_eq_true] at hc
      exact va_any hc.1 (hts w hw)
    · exact hts _ hw
  · obtain ⟨cu, fu, -⟩ := Cond.castable_spec (hts (Cond.castable "java/lang/IllegalArgumentException" "java/lang/IllegalArgumentException") (kw_in (i := 262) rfl))
    have hA : ∃ cA, s.vm.findClass "AllocateSolve" = some cA := ⟨_, (hKc 0 _ rfl).2.1⟩
    obtain ⟨cA, fA⟩ := hA
    have key : ∀ {k : Nat} {tx : String}, (Cond.stringRef "AllocateSolve" k tx).before args s = true → ∃ a, vk_R "AllocateSolve" k tx a s := by
      intro k tx h
      have h' : (Cond.stringRef "AllocateSolve" k tx).before #[] s = true := h
      obtain ⟨k1, cf, i1, a, -, -, -, -, -, ev⟩ := Cond.stringRef_spec fA h'
      exact ⟨a, vk_R.of h' ev⟩
    simp only [am_sr, List.mem_cons, List.not_mem_nil, or_false] at hq
    rcases hq with rfl | rfl | rfl | rfl | rfl | rfl | rfl | rfl
    · exact key (hts _ (kw_in (i := 303) rfl))
    · exact key (hts _ (kw_in (i := 339) rfl))
    · exact key (hts _ (kw_in (i := 365) rfl))
    · exact key (hts _ (kw_in (i := 393) rfl))
    · exact key (hts _ (kw_in (i := 415) rfl))
    · exact key (hts _ (kw_in (i := 507) rfl))
    · exact key (hts _ (kw_in (i := 570) rfl))
    · exact key (hts _ (kw_in (i := 602) rfl))
  · simp only [am_ml, List.mem_cons, List.not_mem_nil, or_false] at hq
    rcases hq with rfl | rfl | rfl | rfl
    · exact va_Nw.of rfl (hts _ (kw_in (i := 27) rfl))
    · exact va_Nw.of rfl (hts _ (kw_in (i := 33) rfl))
    · exact va_Nw.of rfl (hts _ (kw_in (i := 39) rfl))
    · exact va_Nw.of rfl (hts _ (kw_in (i := 81) rfl))
  · exact hts _ (kw_in (i := 86) rfl)
  · simp only [am_dw, List.mem_cons, List.not_mem_nil, or_false] at hx
    rcases hx with rfl | rfl | rfl
    · exact va_Nw.of rfl (hts _ (kw_in (i := 264) rfl))
    · exact va_Nw.of rfl (hts _ (kw_in (i := 266) rfl))
    · exact va_Nw.of rfl (hts _ (kw_in (i := 268) rfl))
/-- from the entry, for every script of at most 2560 ints, the law comes to its end with true -/
theorem whole_start {p : Program} {e : Env} {s : State} {m : MethodId} {below : List Frame} {meth : Method} {c : Code} (l : Launch) (hfl : l.flags = flags0) {b L : Nat} {xs : Nat → Int32} (hL : L ≤ 2560) (C0 : lw_At p s m meth c b L xs) : W p l e room_1 s m #[Value.ref b] below meth c s.heap [] 0 0 (lw_Z below #[Value.ref b] s) (entryFrame m ([Value.ref b] : List Value).toArray 7) := by
  intro T hT X
  obtain ⟨hx, hb, hr, hml, hown, hts, hX, hbl, hlocks, hgv, hnm, hcw⟩ := C0
  have hal := X.warmed.alike
  have hmeth : s.vm.method? m = some meth := by rw [← hal.method?]; exact X.method'
  obtain ⟨methM, cM, g1, g2, -, -, -, -, g7, -⟩ := Cond.code_spec hnm hcw
  cases hmeth.symm.trans g1
  have hcode : meth.code = some c := X.code
  cases hcode.symm.trans g2
  have h9 : c.exceptionTable.toList = [] := by
    have h0 : c.exceptionTable.size = 0 := by simpa [Array.isEmpty] using g7
    exact List.eq_nil_of_length_eq_zero (by simpa using h0)
  have hs := flat_of_before _ hgv
  obtain ⟨a1, t1, r1, s1⟩ := st_arr (nm := "RULE_LEAST") (f := fun j => iI (hs_least j)) (hs _ (by decide +kernel)) (hs _ (by decide +kernel)) (hs _ (by decide +kernel)) (hs _ (by decide +kernel)) (hs _ (by decide +kernel)) (hs _ (by decide +kernel))
  obtain ⟨a2, t2, r2, s2⟩ := st_arr (nm := "RULE_MOST") (f := fun j => iI (hs_most j)) (hs _ (by decide +kernel)) (hs _ (by decide +kernel)) (hs _ (by decide +kernel)) (hs _ (by decide +kernel)) (hs _ (by decide +kernel)) (hs _ (by decide +kernel))
  obtain ⟨a3, t3, r3, s3⟩ := st_arr (nm := "RULE_FIRST") (f := fun j => iI (hs_first j)) (hs _ (by decide +kernel)) (hs _ (by decide +kernel)) (hs _ (by decide +kernel)) (hs _ (by decide +kernel)) (hs _ (by decide +kernel)) (hs _ (by decide +kernel))
  obtain ⟨dC, dI, hKc⟩ := kn_cls hts
  have hkn := kn_start (l := l) (b := b) hts hs hKc t1 t2 t3
  have C : am_X (l, s.heap.size, s.heap, dC, dI, od4 b a1 a2 a3) 20 km_L_law p e room_1 s m meth c := by
    refine ⟨hx, hb, hml, hown, hr, hlocks, (name_of_methodNamed hnm hmeth).1, ?_, hkn, fun q _ => rfl, Nat.le_refl _, Launch.traces_off hfl X.admits, by decide, by decide, by decide, by decide⟩
    rw [h9]
    rfl
  have hR : am_R am_cl (l, s.heap.size, s.heap, dC, dI, od4 b a1 a2 a3) s [am_ia L xs, am_ia 4 (fun j => iI (hs_least j)), am_ia 4 (fun j => iI (hs_most j)), am_ia 4 (fun j => iI (hs_first j))] 4 s.heap := by
    refine ⟨Nat.le_refl _, rfl, fun k hk => ?_, fun q _ => rfl, fun k cc hk => ?_⟩
    · rcases (show k = 0 ∨ k = 1 ∨ k = 2 ∨ k = 3 by omega) with rfl | rfl | rfl | rfl
      · exact hbl
      · exact s1
      · exact s2
      · exact s3
    · match k, hk with
      | 0, hk => cases hk; exact ⟨by decide, hX⟩
      | 1, hk => cases hk; exact ⟨by decide, r1⟩
      | 2, hk => cases hk; exact ⟨by decide, r2⟩
      | 3, hk => cases hk; exact ⟨by decide, r3⟩
      | k + 4, hk => simp at hk
  have hl := am_L.entry (l, s.heap.size, s.heap, dC, dI, od4 b a1 a2 a3) [.ref 0] 7 (by simp [Value.category]) (by decide)
  have w := sp_L_law (N := L) (f := xs) hL (l, s.heap.size, s.heap, dC, dI, od4 b a1 a2 a3) p e room_1 s m #[Value.ref b] below meth c _ s.heap [] C hl hR (fun q hq => by cases hq)
  have w2 : W p l e room_1 s m #[Value.ref b] below meth c s.heap [] 0 0 (lw_Z below #[Value.ref b] s) (entryFrame m ([Value.ref b] : List Value).toArray 7) := by
    rw [lg_entry_eq]
    refine am_wmono (fun t ht => ?_) w
    obtain ⟨o, o', h', n', q1, q2, q3, q4, q5, q6, L', q7, q8⟩ := ht
    have q3' : o' = .inl (some (.int (iI 1))) := q3
    subst q3'
    have q4' : o = .returned (some (.int (iI 1))) := q4
    exact ⟨o, q1, q2, q4', ⟨_, q4'⟩, q6, State.sameButNew.drop_fresh (L := []) q7 q8⟩
  exact w2 T hT X
set_option maxHeartbeats 4000000 in
theorem lw_walk (l : Launch) (hfl : l.flags = flags0) (b : Addr) (xs : List Int32) : MetFree l x (headSpec (Jvm.Cond.code x code maxLocals ret :: tables_1) room_1) (lw_P b xs) (fun _ _ _ _ _ => True) lw_Q := by
  refine MetFree.of_bodyS (code := code) (maxLocals := maxLocals) (ret := ret) (by decide) ?_ ?_
  · intro args s m h hn
    obtain ⟨meth, c, h1, h2, h3, h4, h5, h6, -, -⟩ := Cond.code_spec hn (atoms_spec (ws := Jvm.Cond.code x code maxLocals ret :: tables_1) h _ List.mem_cons_self)
    exact ⟨meth, c, h1, h2, h3, h4, h5, h6⟩
  · intro p e s m args below meth c s₁ B hml0 hP _
    obtain ⟨rfl, hx, hbd, hgv⟩ := hP
    obtain ⟨scr, harrAt, hlist, hof, hsmall⟩ := hx
    obtain ⟨hcb, hkn, -, -⟩ := State.arrayAt?_spec harrAt
    have hown : s.vm.findClass R_law = some m.cls := findClass_of_methodNamed B.named
    have hts0 : ∀ c ∈ (Jvm.Cond.code x code maxLocals ret :: tables_1), c.before #[Value.ref b] s = true := atoms_spec (ws := Jvm.Cond.code x code maxLocals ret :: tables_1) B.pre
    have hts : ∀ w ∈ lw_tbl, w.before #[Value.ref b] s = true := k2_hts_sels lw_privs (fun w hw => hts0 w (List.mem_cons_of_mem _ hw)) lw_privs_ok
    have hml : c.maxLocals = 7 := B.maxLocals_eq (hts0 _ List.mem_cons_self)
    have X₀ : Stand p l e room_1 s m #[Value.ref b] below meth c s₁ [] 0 0 := Stand.of_body B
    have hh0 : s₁.heap = s.heap := by rw [B.state]; rfl
    have hsz : scr.slots.size = xs.length := by rw [← Array.length_toList, hlist, List.length_map]
    have hval : ∀ j : Nat, j < xs.length → scr.slots[j]? = some (.int (xs.getD j 0)) := fun j hj => by
      rw [← Array.getElem?_toList, hlist]
      simp [hj]
    have hbl : b < s.heap.size := (Array.getElem?_eq_some_iff.mp hcb).1
    have hX : va_X b xs.length (fun j => xs.getD j 0) s s.heap := ⟨scr, hcb, hof, hkn, hsz, hval⟩
    have K : W p l e room_1 s m #[Value.ref b] below meth c s₁.heap [] 0 0 (lw_Z below #[Value.ref b] s) (entryFrame m ([Value.ref b] : List Value).toArray 7) := by
      rw [hh0]
      exact whole_start l hfl hbd ⟨B.exec, B.bytes, B.returns, hml, hown, hts, hX, hbl, B.notSynchronized, hgv, B.named, hts0 _ List.mem_cons_self⟩
    obtain ⟨t, a1, o, b1, b2, b3⟩ := K s₁ rfl X₀
    exact ⟨t, o, a1, b1, b2, b3⟩
theorem lw_pre_spec {args : Array Value} {s : State} (h : (Jvm.Cond.and given_1 narrow_1).before args s = true) (hr : rest_1_c.before args s = true) : ∃ (b : Addr) (xs : List Int32), lw_P b xs args s := by
  have hs := flat_of_before _ h
  have hq := flat_of_before _ hr
  have hc : (Cond.count 1).before args s = true := hs _ (by decide +kernel)
  have harr : (Cond.arrayOf (.arg 0) .int).before args s = true := hs _ (by decide +kernel)
  have hle : (Cond.le (.length (.arg 0)) (.int 2560)).before args s = true := hs _ (by decide +kernel)
  have hlen : (Cond.isInt (.length (.arg 0))).before args s = true := hq _ (by decide +kernel)
  have hall : (Cond.all (.arg 0) (.isInt (.elem (.arg 0) (.index 0)))).before args s = true := hq _ (by decide +kernel)
  obtain ⟨b, xs, hb, hx⟩ := State.ints_of_pre rfl harr hlen hall
  have hsm : xs.length < 2 ^ 31 := hx.choose_spec.2.2.2
  have hev : (Term.length (.arg 0)).eval args s none [] s = some (.int xs.length.toInt32) := hx.length_eval hb
  have hv := Cond.le_ints hev (show (Term.int 2560).eval args s none [] s = some (.int 2560) from rfl)
  have hd : xs.length.toInt32 ≤ 2560 := by
    simpa [Cond.before, Cond.holds, hv] using hle
  have hN : xs.length ≤ 2560 := (Int32.ofNat_le_ofNat hsm (by decide)).mp (show Int32.ofNat xs.length ≤ Int32.ofNat 2560 from hd)
  exact ⟨b, xs, Cond.one_arg hc (show args[0]? = some (.ref b) from hb), hx, hN, h⟩
theorem lw_comes (l : Launch) (hfl : l.flags = flags0) : Comes l x (Jvm.Cond.code x code maxLocals ret :: tables_1) room_1 (fun tb e args s => Calls_1 tb e args s ∧ rest_1 tb e args s ∧ Pre_1 tb e args s)
    (fun _ _ args s o t => lw_Q args s o t) := by
  intro p e ha hc hk s m args below hf hfit hheap happ hpre
  obtain ⟨b, xs, hP⟩ := lw_pre_spec hpre.2.2 hpre.2.1
  obtain ⟨k, o, h1, h2, h3, hQ⟩ := lw_walk l hfl b xs p e ha hc hk s m args below hf ((Spec.applies_iff_loose hf).mp happ).1 hP trivial
  exact ⟨k, o, h1, h2, h3, hQ⟩
theorem lw_frame {s t : State} {o : Outcome} {args : Array Value} (h : Framed s o t [] 648338 7151090) :
    Framed s o t (fieldLocs frame_1_writes args s ++ arrayLocs frame_1_arrays args s ++ staticLocs frame_1_statics s) 648338 7151090 := h
theorem lw_limb (L : Cond) (hL : ∀ (args : Array Value) (s t : State), L.after args s (.returned (some (.int 1))) t = true) :
    ArmFor flags0 classFile x code maxLocals ret World_1 tables_1 room_1 Calls_1 rest_1 Pre_1
      (fun tb e a s o t => postC L tb e a s o t ∧ Framed s o t (fieldLocs frame_1_writes a s ++ arrayLocs frame_1_arrays a s ++ staticLocs frame_1_statics s) 648338 7151090) := by
  intro l hfl _ _ p e ha hc hk s m args below hf hfit hheap happ hpre
  obtain ⟨k, o, h1, h2, h3, rfl, hF⟩ := lw_comes l hfl p e ha hc hk s m args below hf hfit hheap happ hpre
  exact ⟨k, _, h1, h2, h3, hL args s _, lw_frame hF⟩
theorem i_vc : Claimed_1_1 ∧ Claimed_1_2 := ⟨lw_limb limb_1_1 (fun args s t => by simp [limb_1_1, Cond.after, Cond.holds, Cond.value]), lw_limb limb_1_2 (fun args s t => Cond.after_iff.mpr (by
  first | (rw [show limb_1_2 = Cond.eq .result (.int 1) from rfl, Cond.eq_ints (x := 1) (y := 1) rfl rfl]; simp; done) | (simp [limb_1_2, Cond.value, Term.eval]; done)))⟩
