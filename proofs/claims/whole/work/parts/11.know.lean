/-! WHAT IS KNOWN AT EVERY STATE OF THE RUN: the tables' words, the classes' numbers and slots, the static fields, the exceptions' classes -/
/-- a static field, in the heap at the law's start -/
def am_sf (G : am_G) (U : State) (C n d : String) (v : Value) : Prop := ∃ (c : ClassId) (k : Class) (i : Nat) (f : Field) (a : Nat) (cell : Cell), U.vm.findClass C = some c ∧ U.fieldFound? C n d = some (c, k, i, f) ∧ f.isStatic = true ∧ k.init = .initialized ∧ k.statics = some a ∧ (am_B G)[a]? = some cell ∧ cell.vm.isStatics = true ∧ cell.cls = c ∧ f.slot < cell.slots.size ∧ k.staticTypes[f.slot]? = some f.type ∧ cell.slots[f.slot]? = some v ∧ a < am_b G
theorem am_sf.moved {G : am_G} {u U : State} {C n d : String} {v : Value} (hvm : u.vm.Alike U.vm) (h : am_sf G u C n d v) : am_sf G U C n d v := by
  obtain ⟨c, k, i, f, a, cell, h1, h2, h3, h4, h5, h6, h7, h8, h9, h10, h11, h12⟩ := h
  obtain ⟨k', hi', he⟩ := State.fieldFound?_setVm hvm h2
  exact ⟨c, k', i, f, a, cell, by rw [hvm.findClass]; exact h1, hi', h3, by rw [he]; exact h4, by rw [he]; exact h5, h6, h7, h8, h9, by rw [he]; exact h10, h11, h12⟩
theorem am_sf.lays {G : am_G} {U : State} {C n d : String} {v : Value} (h : am_sf G U C n d v) (hH : ∀ q : Nat, q < am_b G → U.heap[q]? = (am_B G)[q]?) (args : Array Value) : (Cond.laysStatic C n d).before args U = true := by
  obtain ⟨c, k, i, f, a, cell, h1, h2, h3, h4, h5, h6, h7, h8, h9, h10, h11, h12⟩ := h
  exact Cond.laysStatic_of h1 h2 h3 h5 (by rw [hH a h12]; exact h6) h7 h8 h9 h10
theorem am_sf.isRef {G : am_G} {U : State} {C n d : String} {v : Value} (h : am_sf G U C n d v) (hv : v.isRef = true) (hH : ∀ q : Nat, q < am_b G → U.heap[q]? = (am_B G)[q]?) (args : Array Value) : (Cond.isRef (.static C n d)).before args U = true := by
  obtain ⟨c, k, i, f, a, cell, h1, h2, h3, h4, h5, h6, h7, h8, h9, h10, h11, h12⟩ := h
  have h6' : U.heap[a]? = some cell := by rw [hH a h12]; exact h6
  have e : (Term.static C n d).eval args U none [] U = some v := by
    simp [Term.eval, State.fieldNamed?, h2, h3, h5, h6', h7, h11]
  simp only [Cond.before, Cond.holds, Cond.value, e]
  cases v <;> simp_all [Value.isRef]
theorem am_sf.of {G : am_G} {s : State} {args : Array Value} {C n d : String} {v : Value} (hB : am_B G = s.heap) (hb : am_b G = s.heap.size) (hl : (Cond.laysStatic C n d).before args s = true) (hini : (Cond.initialized C).before args s = true) (hv : (Term.static C n d).eval args s none [] s = some v) : am_sf G s C n d v := by
  obtain ⟨c, k, i, f, a, cell, hc, hi, hst, ha, hcell, hs, hcls, hlt, hty⟩ := Cond.laysStatic_spec hl
  obtain ⟨hst', a', cell', ha', hcell', -, hslot⟩ := Term.static_spec hi hv
  cases ha.symm.trans ha'
  cases hcell.symm.trans hcell'
  exact ⟨c, k, i, f, a, cell, hc, hi, hst, Cond.initialized_spec hc (State.fieldFound?_spec hi).1 hini, ha, by rw [hB]; exact hcell, hs, hcls, hlt, hty, hslot, by rw [hb]; exact (Array.getElem?_eq_some_iff.mp hcell).1⟩
/-- the exceptions' classes by their kinds -/
def am_xn (k : Nat) : String := match k with
  | 0 => "java/lang/IllegalArgumentException"
  | 1 => "java/lang/UnsupportedOperationException"
  | 2 => "java/util/NoSuchElementException"
  | 3 => "java/lang/IllegalStateException"
  | _ => "java/lang/ArithmeticException"
/-- strings that are thrown: class, entry, text -/
def am_sr : List (String × Nat × String) := [("AllocateSolve", 179, "a number outside its range"), ("AllocateSolve", 49, "no room for a lot"), ("AllocateSolve", 61, "no room for a line"), ("AllocateSolve", 175, "no such line"), ("AllocateSolve", 173, "no such lot"), ("AllocateSolve", 124, "no such gift"), ("AllocateSolve", 150, "the line holds nothing"), ("AllocateSolve", 161, "/ by zero")]
/-- private constructors of nest mates -/
def am_ml : List (String × Nat × MethodName × String) := [("AllocateSolve", 9, ky_S_init, "AllocateSolve"), ("AllocateSolve$Search", 11, ky_F_init, "AllocateSolve"), ("AllocateSolve$Floor", 11, ky_T_init, "AllocateSolve"), ("AllocateSolve$Floor", 20, ky_N_init, "AllocateSolve")]
abbrev tN_ : String := "java/lang/Throwable"
abbrev am_steD : String := "[Ljava/lang/StackTraceElement;"
abbrev am_lstD : String := "Ljava/util/List;"
/-- constructors that the exceptions' constructors go on to -/
def am_dw : List MethodName := [⟨"java/lang/RuntimeException", "<init>", "(Ljava/lang/String;)V"⟩, ⟨"java/lang/Exception", "<init>", "(Ljava/lang/String;)V"⟩, ⟨"java/lang/Throwable", "<init>", "(Ljava/lang/String;)V"⟩]
def am_kn (G : am_G) (U : State) : Prop :=
  (∀ w ∈ lw_tbl, goodWord w = true → w.before #[] U = true) ∧
  (∀ (ci : Nat) (q : vw_C), am_cl[ci]? = some q → u_Kn U q.1 q.2.1 q.2.2 (am_cC G ci) (am_iS G ci)) ∧
  (am_sf G U "AllocateSolve" "RULE_LEAST" "[I" (.ref (am_od G 1)) ∧ am_sf G U "AllocateSolve" "RULE_MOST" "[I" (.ref (am_od G 2)) ∧ am_sf G U "AllocateSolve" "RULE_FIRST" "[I" (.ref (am_od G 3))) ∧
  (∃ v : Value, v.isRef = true ∧ am_sf G U tN_ "UNASSIGNED_STACK" am_steD v) ∧ (∃ v : Value, v.isRef = true ∧ am_sf G U tN_ "SUPPRESSED_SENTINEL" am_lstD v) ∧
  (∀ q ∈ am_sr, ∃ a : Nat, vk_R q.1 q.2.1 q.2.2 a U) ∧
  (∀ q ∈ am_ml, va_Nw (.methodLinkNest q.1 q.2.1 q.2.2.1 q.2.2.2) U) ∧
  va_Nw (.fieldLinkNest "AllocateSolve$Lines" 36 "AllocateSolve" "RULE_FIRST" "[I" "AllocateSolve") U ∧
  (Cond.arrayOver (.array .int)).before #[] U = true ∧
  (∀ x ∈ am_dw, va_Nw (.declares x) U) ∧
  (∀ i j : Nat, i < 5 → j < 5 → ∃ c1 c2 : ClassId, U.vm.findClass (am_xn i) = some c1 ∧ U.vm.findClass (am_xn j) = some c2 ∧ U.vm.assignable c1 c2 = decide (i = j))
theorem am_kn.moved {G : am_G} {s U : State} (hW : s.WarmedH U.vm) (h : am_kn G s) : am_kn G U := by
  obtain ⟨h1, h2, ⟨h3, h4, h5⟩, ⟨v6, g6, h6⟩, ⟨v7, g7, h7⟩, h8, h9, h10, h11, h13, h12⟩ := h
  have hvm := hW.alike
  refine ⟨fun w hw hg => word_at hW (good_of_word hg) (h1 w hw hg), fun ci q hq => u_Kn_moved hvm (h2 ci q hq), ⟨h3.moved hvm, h4.moved hvm, h5.moved hvm⟩, ⟨v6, g6, h6.moved hvm⟩, ⟨v7, g7, h7.moved hvm⟩, fun q hq => ?_, fun q hq => va_Nw.warmM hW (h9 q hq), va_Nw.warmF hW h10, over_moved hvm h11, fun x hx => va_Nw.warmD hW (h13 x hx), fun i j hi hj => ?_⟩
  · obtain ⟨a, ha⟩ := h8 q hq
    exact ⟨a, ha.warm hW⟩
  · obtain ⟨c1, c2, g1, g2, g3⟩ := h12 i j hi hj
    exact ⟨c1, c2, by rw [hvm.findClass]; exact g1, by rw [hvm.findClass]; exact g2, by rw [hvm.assignable]; exact g3⟩
theorem am_kn.word {G : am_G} {U : State} (h : am_kn G U) {i : Nat} {w : Cond} (hw : tables_1[i]? = some w) (hg : goodWord w = true) (args : Array Value) : w.before args U = true := by
  have h1 := h.1 w (kw_in hw) hg
  rcases good_of_word hg with hc | ⟨ty, rfl⟩
  · simp only [Bool.and_eq_true] at hc
    exact va_any hc.1 h1
  · exact h1
theorem am_kn.sel {G : am_G} {U : State} (h : am_kn G U) {w : Cond} (hw : w ∈ lw_tbl) (hg : goodWord w = true) (args : Array Value) : w.before args U = true := by
  have h1 := h.1 w hw hg
  rcases good_of_word hg with hc | ⟨ty, rfl⟩
  · simp only [Bool.and_eq_true] at hc
    exact va_any hc.1 h1
  · exact h1
