/-! rules of the heap: fields, arrays, static tables, returns -/
theorem kl_0 : ∀ w ∈ u_ws "AllocateSolve" kT_A 5, w ∈ lw_tbl ∧ goodWord w = true := by decide +kernel
theorem kl_1 : ∀ w ∈ u_ws "AllocateSolve$Floor" kT_F 2, w ∈ lw_tbl ∧ goodWord w = true := by decide +kernel
theorem kl_2 : ∀ w ∈ u_ws "AllocateSolve$Lines" kT_N 7, w ∈ lw_tbl ∧ goodWord w = true := by decide +kernel
theorem kl_3 : ∀ w ∈ u_ws "AllocateSolve$Lots" kT_T 7, w ∈ lw_tbl ∧ goodWord w = true := by decide +kernel
theorem kl_4 : ∀ w ∈ u_ws "AllocateSolve$Search" kT_S 9, w ∈ lw_tbl ∧ goodWord w = true := by decide +kernel
theorem kl_5 : ∀ w ∈ u_ws "AllocateSolveModel" kT_M 21, w ∈ lw_tbl ∧ goodWord w = true := by decide +kernel
/-- what the tables say of the classes: their fields' words, types and names -/
theorem am_cls {ci : Nat} {q : vw_C} (hc : am_cl[ci]? = some q) : (∀ w ∈ u_ws q.1 q.2.1 q.2.2, w ∈ lw_tbl ∧ goodWord w = true) ∧ (∀ k, k < q.2.2 → parseFieldDescriptor (q.2.1 k).2.2.1 = some (am_ty ci k)) ∧ (∀ a, a < q.2.2 → ∀ b, b < q.2.2 → a ≠ b → (q.2.1 a).2.1 ≠ (q.2.1 b).2.1) := by
  match ci, hc with
  | 0, hc => cases hc; exact ⟨kl_0, ko_A, kn_A⟩
  | 1, hc => cases hc; exact ⟨kl_1, ko_F, kn_F⟩
  | 2, hc => cases hc; exact ⟨kl_2, ko_N, kn_N⟩
  | 3, hc => cases hc; exact ⟨kl_3, ko_T, kn_T⟩
  | 4, hc => cases hc; exact ⟨kl_4, ko_S, kn_S⟩
  | 5, hc => cases hc; exact ⟨kl_5, ko_M, kn_M⟩
  | i + 6, hc => simp [am_cl] at hc
theorem am_lay {G : am_G} {U : State} (hK : am_kn G U) {ci : Nat} {q : vw_C} (hc : am_cl[ci]? = some q) {k : Nat} (hk : k < q.2.2) (args : Array Value) : (u_lay q.1 q.2.1 k).before args U = true :=
  hK.sel ((am_cls hc).1 _ (u_in_lay hk)).1 ((am_cls hc).1 _ (u_in_lay hk)).2 args
theorem am_lays {G : am_G} {U : State} (hK : am_kn G U) {ci : Nat} {q : vw_C} (hc : am_cl[ci]? = some q) {k : Nat} (hk : k < q.2.2) (args : Array Value) : (Cond.lays q.1 (q.2.1 k).1 (q.2.1 k).2.1 (q.2.1 k).2.2.1).before args U = true ∨ (Cond.laysFinal q.1 (q.2.1 k).1 (q.2.1 k).2.1 (q.2.1 k).2.2.1).before args U = true := by
  have h := am_lay hK hc hk args
  unfold u_lay at h
  split at h
  · exact Or.inr h
  · exact Or.inl h
theorem am_apart {G : am_G} {U : State} (hK : am_kn G U) {ci : Nat} {q : vw_C} (hc : am_cl[ci]? = some q) : ∀ x z, x < q.2.2 → z < q.2.2 → x ≠ z → am_iS G ci x ≠ am_iS G ci z := by
  intro x z hx hz hne
  obtain ⟨hS, -⟩ := hK.2.1 ci _ hc
  obtain ⟨_, _, _, fa, hia, ea⟩ := hS x hx
  obtain ⟨_, _, _, fb, hib, eb⟩ := hS z hz
  rw [← ea, ← eb]
  refine u_apart (args := #[]) (am_lays hK hc hx #[]) (am_lays hK hc hz #[]) hia hib ?_
  rw [(State.fieldFound?_type hia ((am_cls hc).2.1 x hx)).1, (State.fieldFound?_type hib ((am_cls hc).2.1 z hz)).1]
  exact (am_cls hc).2.2 x hx z hz hne
section AMH
variable {d : Nat} {y : am_Y} {pc : Nat} {ls : List (Option Value)} {st : List Value} {h : am_H} {n cu su : Nat} {Q : am_O → am_H → Nat → Prop}
theorem ar_get {i j ci k r : Nat} {q : vw_C} {fs : List Value} {v : Value} (hd : decode (am_bc y) pc = .ok (.getfield i, 3)) (hc : am_cl[ci]? = some q) (hw : tables_1[j]? = some (Jvm.Cond.fieldLink (am_nm y).cls i (q.2.1 k).1 (q.2.1 k).2.1 (q.2.1 k).2.2.1)) (hk : k < q.2.2) (ho : h[r]? = some (am_ob ci fs)) (hv : fs[k]? = some v)
    (kk : am_W d y (pc + 3) ls (v :: st) h n cu su Q) : am_W d y pc ls (.ref r :: st) h n cu su Q := by
  intro G p e R s m args below meth c lc H locs C hl hr hL
  obtain ⟨-, rr, h1, cell, q1, q2, q3, q4⟩ := hr.2.2.2.2 r _ ho
  obtain rfl : rr = q := Option.some.inj (h1.symm.trans hc)
  obtain ⟨hS, hfc, kC, hkC, hkind⟩ := C.kn.2.1 ci _ hc
  obtain ⟨cf, kf, fi, f, hi, hsl⟩ := hS k hk
  refine W.getf C.exec C.bytes C.own (C.word hw args) hi (u_facts hfc hkC (am_lays C.kn hc hk args) hi).1 q1 (by rw [q3]; exact fun z => by cases z) (v := am_cv G v) ?_ rfl rfl hd (kk G p e R s m args below meth c lc H locs C hl hr hL)
  rw [hsl, q4 k hk]
  simp [vp_V, hv]
theorem am_obset {G : am_G} {fs : List Value} {k : Nat} {v : Value} (hk : k < fs.length) (j : Nat) : updV (vp_V (fs.map (am_cv G))) k (am_cv G v) j = vp_V ((fs.set k v).map (am_cv G)) j := by
  rw [vp_updV_set (by simpa using hk), List.map_set]
theorem ar_put {i j ci k r : Nat} {q : vw_C} {fs : List Value} {v : Value} (hd : decode (am_bc y) pc = .ok (.putfield i, 3)) (hc : am_cl[ci]? = some q) (hw : tables_1[j]? = some (Jvm.Cond.fieldLink (am_nm y).cls i (q.2.1 k).1 (q.2.1 k).2.1 (q.2.1 k).2.2.1)) (hk : k < q.2.2) (hf : (q.2.1 k).2.2.2 = false) (h4 : 4 ≤ r) (ho : h[r]? = some (am_ob ci fs)) (hkl : k < fs.length)
    (hn : narrow (am_ty ci k) v = v) (hfit : fits (am_ty ci k) v = true) (hre : v.isRef = false) (kk : am_W d y (pc + 3) ls st (h.set r (am_ob ci (fs.set k v))) n cu su Q) : am_W d y pc ls (v :: .ref r :: st) h n cu su Q := by
  intro G p e R s m args below meth c lc H locs C hl hr hL
  have hcv : am_cv G v = v := by cases v <;> first | rfl | cases hre
  obtain ⟨hrn, rr, h1, cell, q1, q2, q3, q4⟩ := hr.2.2.2.2 r _ ho
  obtain rfl : rr = q := Option.some.inj (h1.symm.trans hc)
  obtain ⟨hS, hfc, kC, hkC, hkind⟩ := C.kn.2.1 ci _ hc
  obtain ⟨cf, kf, fi, f, hi, hsl⟩ := hS k hk
  have hlay := am_lay C.kn hc hk args
  unfold u_lay at hlay
  rw [if_neg (by rw [hf]; decide)] at hlay
  have hst := (u_facts hfc hkC (am_lays C.kn hc hk args) hi).1
  have h6 := u_store (v := am_cv G v) hfc hkC hkind hlay hi ((am_cls hc).2.1 k hk) (by rw [hcv]; exact hn) (by rw [hcv]; exact hfit)
  refine W.putK C.exec C.bytes (f := f) ⟨C.own, C.word hw args, ⟨_, _, _, hi⟩, hst⟩ (by rw [q2]; exact h6) q1 q3 (by rw [hsl]; exact k2_hasslot (q4 k hk)) rfl rfl hd fun H' e1 e2 e3 => ?_
  rw [hsl] at e1 ⊢
  refine kk G p e R s m args below meth c lc H' _ C hl (hr.put h4 hrn e2 e3 ⟨_, hc, t_OB.to (V := updV (vp_V (fs.map (am_cv G))) k (am_cv G v)) ⟨_, e1, q2, q3, t_set q4 (am_apart C.kn hc) hk _⟩ (fun j _ => am_obset hkl j)⟩) (t_lc hL (am_ad_ge h4))
/-- a final field, in a constructor -/
theorem ar_putF {i j ci k r : Nat} {q : vw_C} {fs : List Value} {v : Value} (hd : decode (am_bc y) pc = .ok (.putfield i, 3)) (hc : am_cl[ci]? = some q) (hw : tables_1[j]? = some (Jvm.Cond.fieldLink (am_nm y).cls i (q.2.1 k).1 (q.2.1 k).2.1 (q.2.1 k).2.2.1)) (hk : k < q.2.2) (hf : (q.2.1 k).2.2.2 = true) (hin : (am_nm y).name = "<init>") (hdc : (q.2.1 k).1 = (am_nm y).cls) (h4 : 4 ≤ r) (ho : h[r]? = some (am_ob ci fs)) (hkl : k < fs.length)
    (hn : ∀ G, narrow (am_ty ci k) (am_cv G v) = am_cv G v) (hfit : ∀ G, fits (am_ty ci k) (am_cv G v) = true) (kk : am_W d y (pc + 3) ls st (h.set r (am_ob ci (fs.set k v))) n cu su Q) : am_W d y pc ls (v :: .ref r :: st) h n cu su Q := by
  intro G p e R s m args below meth c lc H locs C hl hr hL
  obtain ⟨hrn, rr, h1, cell, q1, q2, q3, q4⟩ := hr.2.2.2.2 r _ ho
  obtain rfl : rr = q := Option.some.inj (h1.symm.trans hc)
  obtain ⟨hS, hfc, kC, hkC, hkind⟩ := C.kn.2.1 ci _ hc
  obtain ⟨cf, kf, fi, f, hi, hsl⟩ := hS k hk
  have hlay := am_lay C.kn hc hk args
  unfold u_lay at hlay
  rw [if_pos hf] at hlay
  have hst := (u_facts hfc hkC (am_lays C.kn hc hk args) hi).1
  have hcf : m.cls = cf := by
    obtain ⟨_, _, c', _, _, _, -, -, hf', -, -, -, hown2, -⟩ := Cond.laysFinal_spec hlay
    have e1 : c' = cf := by have := hi.symm.trans hf'; simp at this; exact this.1.symm
    rw [hdc] at hown2
    rw [← e1]; exact Option.some.inj (C.own.symm.trans hown2)
  have h6 := u_fits (v := am_cv G v) hfc hkC hkind (Or.inr hlay) hi ((am_cls hc).2.1 k hk) (hn G) (hfit G)
  refine W.putFinK C.exec C.bytes C.own (C.word hw args) hi hst hcf (by rw [C.name]; exact hin) (by rw [q2]; exact h6) q1 q3 (by rw [hsl]; exact k2_hasslot (q4 k hk)) rfl rfl hd fun H' e1 e2 e3 => ?_
  rw [hsl] at e1 ⊢
  exact kk G p e R s m args below meth c lc H' _ C hl (hr.put h4 hrn e2 e3 ⟨_, hc, t_OB.to (V := updV (vp_V (fs.map (am_cv G))) k (am_cv G v)) ⟨_, e1, q2, q3, t_set q4 (am_apart C.kn hc) hk _⟩ (fun j _ => am_obset hkl j)⟩) (t_lc hL (am_ad_ge h4))
theorem am_lt {i : Int32} {N : Nat} (hin : vp_in i N) : i.toNatClampNeg < N := Nat.not_le.mp fun q => hin (Or.inr q)
theorem ar_iald {r N : Nat} {f : Nat → Int32} {i : Int32} (hd : decode (am_bc y) pc = .ok (.iaload, 1)) (ho : h[r]? = some (am_ia N f)) (hin : vp_in i N) (kk : am_W d y (pc + 1) ls (.int (f i.toNatClampNeg) :: st) h n cu su Q) : am_W d y pc ls (.int i :: .ref r :: st) h n cu su Q := by
  intro G p e R s m args below meth c lc H locs C hl hr hL
  obtain ⟨-, cell, q1, q2, q3, q4, q5⟩ := hr.2.2.2.2 r _ ho
  exact W.iald C.exec C.bytes q1 q2 q3 (by rw [q4]; exact hin) (q5 _ (am_lt hin)) rfl rfl hd (kk G p e R s m args below meth c lc H locs C hl hr hL)
theorem ar_iast {r N : Nat} {f : Nat → Int32} {i x : Int32} (hd : decode (am_bc y) pc = .ok (.iastore, 1)) (h4 : 4 ≤ r) (ho : h[r]? = some (am_ia N f)) (hin : vp_in i N) (kk : am_W d y (pc + 1) ls st (h.set r (am_ia N (upd f i.toNatClampNeg x))) n cu su Q) : am_W d y pc ls (.int x :: .int i :: .ref r :: st) h n cu su Q := by
  intro G p e R s m args below meth c lc H locs C hl hr hL
  obtain ⟨hrn, cell, q1, q2, q3, q4, q5⟩ := hr.2.2.2.2 r _ ho
  refine W.iast C.exec C.bytes q1 q2 q3 (by rw [q4]; exact hin) rfl rfl hd fun H' e1 e2 e3 => ?_
  exact kk G p e R s m args below meth c lc H' _ C hl (hr.put h4 hrn e2 e3 (am_ar.set q2 q3 q4 q5 (am_lt hin) e1 (by simp [upd]) (fun j hj => by simp [upd, hj]))) (t_lc hL (am_ad_ge h4))
theorem ar_zald {r N : Nat} {f : Nat → Int32} {i : Int32} (hd : decode (am_bc y) pc = .ok (.baload, 1)) (ho : h[r]? = some (am_za N f)) (hin : vp_in i N) (kk : am_W d y (pc + 1) ls (.int (f i.toNatClampNeg) :: st) h n cu su Q) : am_W d y pc ls (.int i :: .ref r :: st) h n cu su Q := by
  intro G p e R s m args below meth c lc H locs C hl hr hL
  obtain ⟨-, cell, q1, q2, q3, q4, q5⟩ := hr.2.2.2.2 r _ ho
  exact W.zald C.exec C.bytes q1 q2 q3 (by rw [q4]; exact hin) (q5 _ (am_lt hin)) rfl rfl hd (kk G p e R s m args below meth c lc H locs C hl hr hL)
theorem ar_zast {r N : Nat} {f : Nat → Int32} {i x : Int32} (hd : decode (am_bc y) pc = .ok (.bastore, 1)) (h4 : 4 ≤ r) (ho : h[r]? = some (am_za N f)) (hin : vp_in i N) (kk : am_W d y (pc + 1) ls st (h.set r (am_za N (upd f i.toNatClampNeg (vp_nar .boolean x)))) n cu su Q) : am_W d y pc ls (.int x :: .int i :: .ref r :: st) h n cu su Q := by
  intro G p e R s m args below meth c lc H locs C hl hr hL
  obtain ⟨hrn, cell, q1, q2, q3, q4, q5⟩ := hr.2.2.2.2 r _ ho
  refine W.zast C.exec C.bytes q1 q2 q3 (by rw [q4]; exact hin) rfl rfl hd fun H' e1 e2 e3 => ?_
  exact kk G p e R s m args below meth c lc H' _ C hl (hr.put h4 hrn e2 e3 (am_ar.set q2 q3 q4 q5 (am_lt hin) e1 (by simp [upd, vp_nar]; rfl) (fun j hj => by simp [upd, hj]))) (t_lc hL (am_ad_ge h4))
theorem ar_lald {r N : Nat} {f : Nat → Int64} {i : Int32} (hd : decode (am_bc y) pc = .ok (.laload, 1)) (ho : h[r]? = some (am_la N f)) (hin : vp_in i N) (kk : am_W d y (pc + 1) ls (.long (f i.toNatClampNeg) :: st) h n cu su Q) : am_W d y pc ls (.int i :: .ref r :: st) h n cu su Q := by
  intro G p e R s m args below meth c lc H locs C hl hr hL
  obtain ⟨-, cell, q1, q2, q3, q4, q5⟩ := hr.2.2.2.2 r _ ho
  exact W.lald C.exec C.bytes q1 q2 q3 (by rw [q4]; exact hin) (q5 _ (am_lt hin)) rfl rfl hd (kk G p e R s m args below meth c lc H locs C hl hr hL)
theorem ar_last {r N : Nat} {f : Nat → Int64} {i : Int32} {x : Int64} (hd : decode (am_bc y) pc = .ok (.lastore, 1)) (h4 : 4 ≤ r) (ho : h[r]? = some (am_la N f)) (hin : vp_in i N) (kk : am_W d y (pc + 1) ls st (h.set r (am_la N (vp_updL f i.toNatClampNeg x))) n cu su Q) : am_W d y pc ls (.long x :: .int i :: .ref r :: st) h n cu su Q := by
  intro G p e R s m args below meth c lc H locs C hl hr hL
  obtain ⟨hrn, cell, q1, q2, q3, q4, q5⟩ := hr.2.2.2.2 r _ ho
  refine W.last C.exec C.bytes q1 q2 q3 (by rw [q4]; exact hin) rfl rfl hd fun H' e1 e2 e3 => ?_
  exact kk G p e R s m args below meth c lc H' _ C hl (hr.put h4 hrn e2 e3 (am_ar.set q2 q3 q4 q5 (am_lt hin) e1 (by simp [vp_updL]) (fun j hj => by simp [vp_updL, hj]))) (t_lc hL (am_ad_ge h4))
theorem ar_aald {r N t : Nat} {f : Nat → Option Nat} {i : Int32} (hd : decode (am_bc y) pc = .ok (.aaload, 1)) (ho : h[r]? = some (am_ra N f)) (hin : vp_in i N) (hv : f i.toNatClampNeg = some t) (kk : am_W d y (pc + 1) ls (.ref t :: st) h n cu su Q) : am_W d y pc ls (.int i :: .ref r :: st) h n cu su Q := by
  intro G p e R s m args below meth c lc H locs C hl hr hL
  obtain ⟨-, cell, q1, q2, q3, q4, q5⟩ := hr.2.2.2.2 r _ ho
  exact W.aald (v := .ref (am_ad G t)) C.exec C.bytes q1 q2 rfl q3 (by rw [q4]; exact hin) (by rw [q5 _ (am_lt hin)]; show some (va_rf ((f i.toNatClampNeg).map (am_ad G))) = _; rw [hv]; rfl) rfl rfl hd (kk G p e R s m args below meth c lc H locs C hl hr hL)
theorem ar_alen {r N : Nat} {f : Nat → Int32} (hd : decode (am_bc y) pc = .ok (.arraylength, 1)) (ho : h[r]? = some (am_ia N f)) (kk : am_W d y (pc + 1) ls (.int (nI N) :: st) h n cu su Q) : am_W d y pc ls (.ref r :: st) h n cu su Q := by
  intro G p e R s m args below meth c lc H locs C hl hr hL
  obtain ⟨-, cell, q1, q2, q3, q4, q5⟩ := hr.2.2.2.2 r _ ho
  exact W.alen (n := nI N) C.exec C.bytes q1 q2 (by rw [q4]; rfl) rfl rfl hd (kk G p e R s m args below meth c lc H locs C hl hr hL)
/-- a static table of the class's own -/
theorem am_gets {G : am_G} {p : Program} {e : Env} {R : Room} {s : State} {m : MethodId} {args : Array Value} {below : List Frame} {meth : Method} {c : Code} {lc : Array Slot} {H : Heap} {locs : List Loc} {rest : List Value} {Qs : State → Prop} {i j : Nat} {nm : String} {v : Value} (C : am_X G d y p e R s m meth c) (hr : am_R am_cl G s h n H) (hd : decode (am_bc y) pc = .ok (.getstatic i, 3)) (hw : tables_1[j]? = some (Jvm.Cond.fieldLink (am_nm y).cls i "AllocateSolve" nm "[I")) (hs : am_sf G s "AllocateSolve" nm "[I" v)
    (kk : W p (am_l G) e R s m args below meth c H locs cu su Qs (F0 m (pc + 3) lc (v :: rest))) : W p (am_l G) e R s m args below meth c H locs cu su Qs (F0 m pc lc rest) := by
  obtain ⟨cc, k, fi, f, a, cell, h1, h2, h3, h4, h5, h6, h7, h8, h9, h10, h11, h12⟩ := hs
  exact W.gets C.exec C.bytes C.own (C.word hw args) h2 h3 h4 h5 (by rw [hr.2.2.2.1 a h12]; exact h6) (fun z => by rw [z] at h7; cases h7) h11 rfl hd kk
theorem ar_least {i j : Nat} (hd : decode (am_bc y) pc = .ok (.getstatic i, 3)) (hw : tables_1[j]? = some (Jvm.Cond.fieldLink (am_nm y).cls i "AllocateSolve" "RULE_LEAST" "[I")) (kk : am_W d y (pc + 3) ls (.ref 1 :: st) h n cu su Q) : am_W d y pc ls st h n cu su Q :=
  fun G p e R s m args below meth c lc H locs C hl hr hL => am_gets C hr hd hw C.kn.2.2.1.1 (kk G p e R s m args below meth c lc H locs C hl hr hL)
theorem ar_most {i j : Nat} (hd : decode (am_bc y) pc = .ok (.getstatic i, 3)) (hw : tables_1[j]? = some (Jvm.Cond.fieldLink (am_nm y).cls i "AllocateSolve" "RULE_MOST" "[I")) (kk : am_W d y (pc + 3) ls (.ref 2 :: st) h n cu su Q) : am_W d y pc ls st h n cu su Q :=
  fun G p e R s m args below meth c lc H locs C hl hr hL => am_gets C hr hd hw C.kn.2.2.1.2.1 (kk G p e R s m args below meth c lc H locs C hl hr hL)
/-- returns -/
theorem am_leave {G : am_G} {s : State} {args : Array Value} {below : List Frame} {H : Heap} {v : Option Value} (hr : am_R am_cl G s h n H) (hq : Q (.inl v) h n) :
    ∀ t : State, MQ below (fun _ s o t => o = .returned (v.map (am_cv G)) ∧ t.heap = H) args s (am_mc y) (am_ms y) (fun q => am_b G ≤ q) t → am_E G y s below Q t := by
  intro t ht
  obtain ⟨o, h1, h2, ⟨rfl, h4⟩, L, ⟨-, h6, h7⟩, h8⟩ := ht
  exact ⟨_, .inl v, h, n, h1, h2, hq, rfl, by rw [h4]; exact hr, h6, L, h7, h8⟩
theorem ar_ireturn {v : Int32} (hd : decode (am_bc y) pc = .ok (.ireturn, 1)) (ht : am_rt y = some .int) (hc : cu ≤ am_mc y) (hs : su ≤ am_ms y) (hq : Q (.inl (some (.int v))) h n) : am_W d y pc ls [.int v] h n cu su Q :=
  fun G p e R s m args below meth c lc H locs C hl hr hL => W.widen hc hs (am_wmono (am_leave hr hq) (W.iret C.exec C.bytes (C.ret.trans ht) (fun t ht hW => ⟨rfl, ht⟩) hL hd C.locks))
theorem ar_zreturn {v : Int32} (hd : decode (am_bc y) pc = .ok (.ireturn, 1)) (ht : am_rt y = some .boolean) (hn : narrow .boolean (.int v) = .int v) (hc : cu ≤ am_mc y) (hs : su ≤ am_ms y) (hq : Q (.inl (some (.int v))) h n) : am_W d y pc ls [.int v] h n cu su Q :=
  fun G p e R s m args below meth c lc H locs C hl hr hL => W.widen hc hs (am_wmono (am_leave hr hq) (W.zret C.exec C.bytes (C.ret.trans ht) hn (fun t ht hW => ⟨rfl, ht⟩) hL hd C.locks))
theorem ar_lreturn {v : Int64} (hd : decode (am_bc y) pc = .ok (.lreturn, 1)) (ht : am_rt y = some .long) (hc : cu ≤ am_mc y) (hs : su ≤ am_ms y) (hq : Q (.inl (some (.long v))) h n) : am_W d y pc ls [.long v] h n cu su Q :=
  fun G p e R s m args below meth c lc H locs C hl hr hL => W.widen hc hs (am_wmono (am_leave hr hq) (W.lret C.exec C.bytes (C.ret.trans ht) (fun t ht hW => ⟨rfl, ht⟩) hL hd C.locks))
theorem ar_return (hd : decode (am_bc y) pc = .ok (.return_, 1)) (ht : am_rt y = none) (hc : cu ≤ am_mc y) (hs : su ≤ am_ms y) (hq : Q (.inl none) h n) : am_W d y pc ls [] h n cu su Q :=
  fun G p e R s m args below meth c lc H locs C hl hr hL => W.widen hc hs (am_wmono (am_leave hr hq) (W.vret C.exec C.bytes (C.ret.trans ht) (fun t ht hW => ⟨rfl, ht⟩) hL hd C.locks))
end AMH
