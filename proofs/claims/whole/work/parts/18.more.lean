/-! throws, Math.min and Math.max, Object's constructor, new objects and arrays -/
theorem kw_oi : tables_1[23]? = some (Jvm.Cond.instanceMethod ⟨"java/lang/Object", "<init>", "()V"⟩) := rfl
theorem kw_oc : tables_1[24]? = some (Jvm.Cond.code ⟨"java/lang/Object", "<init>", "()V"⟩ ⟨#[0xb1]⟩ 1 none) := rfl
section AMM
variable {d : Nat} {y z : am_Y} {pc : Nat} {ls : List (Option Value)} {st : List Value} {h : am_H} {n cu su : Nat} {Q Qc : am_O → am_H → Nat → Prop}
theorem ar_throw {i si k j1 j2 j3 : Nat} {tx : String} (hy : (am_nm y).cls = "AllocateSolve") (hk : k < 5) (hd0 : decode (am_bc y) pc = .ok (.new i, 3)) (hd3 : decode (am_bc y) (pc + 3) = .ok (.dup, 1)) (hd4 : decode (am_bc y) (pc + 4) = .ok (.ldc si, 2)) (hd6 : decode (am_bc y) (pc + 6) = .ok (.invokespecial (am_xi k), 3)) (hd9 : decode (am_bc y) (pc + 9) = .ok (.athrow, 1))
    (hcl : tables_1[j1]? = some (Jvm.Cond.classLink "AllocateSolve" i (am_xn k))) (hins : tables_1[j2]? = some (Jvm.Cond.instantiable (am_xn k) 6)) (hini : tables_1[j3]? = some (Jvm.Cond.initialized (am_xn k))) (hstr : ("AllocateSolve", si, tx) ∈ am_sr) (hh : am_nh y (pc + 9) = true) (hls : ls.length = am_mx y) (hst : (st.map fun v => v.category).sum ≤ 8) (hcu : cu + 1 ≤ am_mc y) (hsu : su + 6 ≤ am_ms y) (hq : Q (.inr (k, n)) h (n + 1)) : am_W d y pc ls st h n cu su Q := by
  intro G p e R s m args below meth c lc H locs C hl hr hL
  have hown : s.vm.findClass "AllocateSolve" = some m.cls := by rw [← hy]; exact C.own
  obtain ⟨r1, r2, r3, r4, r5⟩ := id hr
  have hcc := C.cells
  have hss := C.slots
  refine W.newc C.exec C.bytes hown (C.word hcl args) (C.word hins args) (C.word hini args) (g := F0 m pc lc (st.map (am_cv G))) rfl hd0 (by omega) (by omega) fun cC kC h1 h2 h3 h4 => ?_
  refine lv_dup C.exec C.bytes hd3 rfl ?_
  obtain ⟨q, hZ⟩ := C.kn.2.2.2.2.2.1 _ hstr
  refine va_ldcS C.exec C.bytes hown hZ hd4 ?_
  intro T hT X
  have hcell : T.heap[H.size]? = some (freshCell cC kC) := by rw [hT]; simp [freshCell]
  obtain ⟨U, L, u1, u2, u3, u4, u5, u6, u7, u8, ce, u9, u10, u11⟩ := am_thr C hy X (fun q hq => by rw [hT, Array.getElem?_push, if_neg (by omega)]; exact r4 q hq) hk h1 h2 hcell (by omega) (msg := .ref q) rfl (g := F0 m (pc + 6) lc (.ref q :: .ref H.size :: .ref H.size :: st.map (am_cv G))) rfl (by show lc.size = _; rw [hl.1, hls, C.maxL]) rfl rfl rfl (by show 2 * 0 + _ ≤ 8; rw [am_cv_sum]; omega) (by rw [C.bytes]; exact hd6) (by rw [C.bytes]; exact hd9) hh
  have hTz : T.heap.size = H.size + 1 := by rw [hT]; simp
  have ea : H.size = am_ad G n := by rw [am_ad_new r1]; exact r2
  refine ⟨U, u1, .threw H.size, .inr (k, n), h, n + 1, u2, u3, hq, ⟨by rw [ea], hk, ce, by rw [← ea]; exact u9, by rw [u11]; rfl, by rw [u10]; exact h1⟩, ?_, u4, locs ++ L, u5.mono hcu hsu, t_lL hL (fun q hq => by rw [u6 q hq]; omega)⟩
  refine hr.junk (by rw [u7]; exact hTz) (fun q hq => ?_)
  rw [u8 q (by omega), hT, Array.getElem?_push, if_neg (by omega)]
theorem ar_min {i j1 j2 j3 j4 : Nat} {x w : Int32} (hd : decode (am_bc y) pc = .ok (.invokestatic i, 3)) (hlk : tables_1[j1]? = some (Jvm.Cond.methodLink (am_nm y).cls i Lib.Math.min.name)) (hsta : tables_1[j2]? = some (Jvm.Cond.static Lib.Math.min.name)) (hini : tables_1[j3]? = some (Jvm.Cond.initialized "java/lang/Math")) (hco : tables_1[j4]? = some (Jvm.Cond.code Lib.Math.min.name Lib.Math.min.code 2 (some .int))) (hls : ls.length = am_mx y) (hst : (st.map fun v => v.category).sum ≤ 8) (hcu : cu ≤ am_mc y) (hsu : su ≤ am_ms y)
    (k : am_W d y (pc + 3) ls (.int (if w < x then w else x) :: st) h n cu su Q) : am_W d y pc ls (.int w :: .int x :: st) h n cu su Q := by
  intro G p e R s m args below meth c lc H locs C hl hr hL
  have hfr := C.frames
  have hlo := C.locals
  have hcc := C.cells
  have hss := C.slots
  exact va_mmin C.exec C.bytes (by rw [C.maxL, hl.1, hls]) C.own (C.word hlk args) (C.word hsta args) (C.word hini args) (C.word hco args) (by omega) (by rw [am_cv_sum]; omega) (by omega) (by omega) hd (k G p e R s m args below meth c lc H locs C hl hr hL)
theorem ar_max {i j1 j2 j3 j4 : Nat} {x w : Int32} (hd : decode (am_bc y) pc = .ok (.invokestatic i, 3)) (hlk : tables_1[j1]? = some (Jvm.Cond.methodLink (am_nm y).cls i Lib.Math.max.name)) (hsta : tables_1[j2]? = some (Jvm.Cond.static Lib.Math.max.name)) (hini : tables_1[j3]? = some (Jvm.Cond.initialized "java/lang/Math")) (hco : tables_1[j4]? = some (Jvm.Cond.code Lib.Math.max.name Lib.Math.max.code 2 (some .int))) (hls : ls.length = am_mx y) (hst : (st.map fun v => v.category).sum ≤ 8) (hcu : cu ≤ am_mc y) (hsu : su ≤ am_ms y)
    (k : am_W d y (pc + 3) ls (.int (if x < w then w else x) :: st) h n cu su Q) : am_W d y pc ls (.int w :: .int x :: st) h n cu su Q := by
  intro G p e R s m args below meth c lc H locs C hl hr hL
  have hfr := C.frames
  have hlo := C.locals
  have hcc := C.cells
  have hss := C.slots
  exact va_mmax C.exec C.bytes (by rw [C.maxL, hl.1, hls]) C.own (C.word hlk args) (C.word hsta args) (C.word hini args) (C.word hco args) (by omega) (by rw [am_cv_sum]; omega) (by omega) (by omega) hd (k G p e R s m args below meth c lc H locs C hl hr hL)
/-- Object's constructor -/
theorem ar_obj {i j r : Nat} (hd : decode (am_bc y) pc = .ok (.invokespecial i, 3)) (hlk : tables_1[j]? = some (Jvm.Cond.methodLink (am_nm y).cls i ⟨"java/lang/Object", "<init>", "()V"⟩)) (hls : ls.length = am_mx y) (hst : (st.map fun v => v.category).sum ≤ 8) (k : am_W d y (pc + 3) ls st h n cu su Q) : am_W d y pc ls (.ref r :: st) h n cu su Q := by
  intro G p e R s m args below meth c lc H locs C hl hr hL
  have hfr := C.frames
  have hlo := C.locals
  refine W.objInit C.exec C.bytes C.own (C.word hlk args) (C.word kw_oi args) (C.word kw_oc args) (g := F0 m pc lc ((Value.ref r :: st).map (am_cv G))) rfl (by show lc.size = _; rw [hl.1, hls, C.maxL]) (a := am_ad G r) (rest := st.map (am_cv G)) rfl hd (by omega) (by show 2 * 0 + _ + 12 ≤ _; rw [am_cv_sum]; omega) (k G p e R s m args below meth c lc H locs C hl hr hL)
/-- a new object -/
theorem ar_new {i j1 j2 j3 ci : Nat} {q : vw_C} {fs : List Value} (hd : decode (am_bc y) pc = .ok (.new i, 3)) (hc : am_cl[ci]? = some q) (hcl : tables_1[j1]? = some (Jvm.Cond.classLink (am_nm y).cls i q.1)) (hins : tables_1[j2]? = some (Jvm.Cond.instantiable q.1 q.2.2)) (hini : tables_1[j3]? = some (Jvm.Cond.initialized q.1)) (hln : h.length = n) (hcu : cu + 1 ≤ am_mc y) (hsu : su + q.2.2 ≤ am_ms y) (hf : ∀ k, k < q.2.2 → fs[k]? = some (defaultValue (am_ty ci k)))
    (k : am_W d y (pc + 3) ls (.ref n :: st) (h ++ [am_ob ci fs]) (n + 1) (cu + 1) (su + q.2.2) Q) : am_W d y pc ls st h n cu su Q := by
  intro G p e R s m args below meth c lc H locs C hl hr hL
  have hcc := C.cells
  have hss := C.slots
  obtain ⟨hS, hfc, -⟩ := C.kn.2.1 ci _ hc
  have ea : H.size = am_ad G n := by rw [am_ad_new hr.1]; exact hr.2.1
  refine W.newcK C.exec C.bytes C.own (C.word hcl args) (C.word hins args) (C.word hini args) (g := F0 m pc lc (st.map (am_cv G))) rfl hd (by omega) (by omega) hfc rfl fun H' kC h2 e1 e2 e3 => ?_
  have hob := u_born (ws := u_ws q.1 q.2.1 q.2.2) (args := args) (o := am_ad G n) (am_ty ci) (fun w hw => C.kn.sel ((am_cls hc).1 w hw).1 ((am_cls hc).1 w hw).2 args) (fun w hw => hw) (C.kn.2.1 ci _ hc) h2 (by rw [← ea]; exact e1) (am_cls hc).2.1
  have hk := k G p e R s m args below meth c lc H' locs C hl (hr.new hln e2 e3 ⟨q, hc, t_OB.to hob (fun j hj => by
    have h9 := hf j hj
    simp only [vp_V, List.getD_eq_getElem?_getD, List.getElem?_map, h9, Option.map_some, Option.getD_some]
    cases am_ty ci j <;> rfl)⟩) hL
  show W p (am_l G) e R s m args below meth c H' locs (cu + 1) (su + q.2.2) (am_E G y s below Q) (F0 m (pc + 3) lc (.ref H.size :: st.map (am_cv G)))
  rw [ea]
  exact hk
/-- new arrays -/
theorem am_newa {G : am_G} {s : State} {n : Nat} {H H' : Heap} {N : Nat} {cA : ClassId} {ty : FieldType} {f : Nat → Value} (e1 : H'[H.size]? = some (arrV cA N f)) (ea : H.size = am_ad G n) (ha : ArrOfT s cA ty) : am_ar s ty N f (am_ad G n) H' :=
  ⟨_, by rw [← ea]; exact e1, ha N f, (fun q => by cases q), arrV_size _ _ _, fun j hj => arrV_read _ _ hj⟩
theorem ar_newi {x : Int32} {N : Nat} (hd : decode (am_bc y) pc = .ok (.newarray .int, 2)) (hx : ¬ x < 0) (hN : x.toNatClampNeg = N) (hb : N ≤ 100000) (hln : h.length = n) (hcu : cu + 1 ≤ am_mc y) (hsu : su + N ≤ am_ms y)
    (k : am_W d y (pc + 2) ls (.ref n :: st) (h ++ [am_ia N (fun _ => 0)]) (n + 1) (cu + 1) (su + N) Q) : am_W d y pc ls (.int x :: st) h n cu su Q := by
  intro G p e R s m args below meth c lc H locs C hl hr hL
  have hcc := C.cells
  have hss := C.slots
  have ea : H.size = am_ad G n := by rw [am_ad_new hr.1]; exact hr.2.1
  refine W.newaK C.exec C.bytes (atype := .int) (C.word kw_78 args) (g := F0 m pc lc ((Value.int x :: st).map (am_cv G))) rfl hd (rest := st.map (am_cv G)) rfl hx hN (by show N * 4 ≤ _; omega) (by omega) (by omega) rfl fun H' cA e1 e2 e3 e4 => ?_
  have hk := k G p e R s m args below meth c lc H' locs C hl (hr.new hln e2 e3 (am_newa e1 ea e4)) hL
  show W p (am_l G) e R s m args below meth c H' locs (cu + 1) (su + N) (am_E G y s below Q) (F0 m (pc + 2) lc (.ref H.size :: st.map (am_cv G)))
  rw [ea]
  exact hk
theorem ar_newl {x : Int32} {N : Nat} (hd : decode (am_bc y) pc = .ok (.newarray .long, 2)) (hx : ¬ x < 0) (hN : x.toNatClampNeg = N) (hb : N ≤ 100000) (hln : h.length = n) (hcu : cu + 1 ≤ am_mc y) (hsu : su + N ≤ am_ms y)
    (k : am_W d y (pc + 2) ls (.ref n :: st) (h ++ [am_la N (fun _ => 0)]) (n + 1) (cu + 1) (su + N) Q) : am_W d y pc ls (.int x :: st) h n cu su Q := by
  intro G p e R s m args below meth c lc H locs C hl hr hL
  have hcc := C.cells
  have hss := C.slots
  have ea : H.size = am_ad G n := by rw [am_ad_new hr.1]; exact hr.2.1
  refine W.newaK C.exec C.bytes (atype := .long) (C.word kw_840 args) (g := F0 m pc lc ((Value.int x :: st).map (am_cv G))) rfl hd (rest := st.map (am_cv G)) rfl hx hN (by show N * 8 ≤ _; omega) (by omega) (by omega) rfl fun H' cA e1 e2 e3 e4 => ?_
  have hk := k G p e R s m args below meth c lc H' locs C hl (hr.new hln e2 e3 (am_newa e1 ea e4)) hL
  show W p (am_l G) e R s m args below meth c H' locs (cu + 1) (su + N) (am_E G y s below Q) (F0 m (pc + 2) lc (.ref H.size :: st.map (am_cv G)))
  rw [ea]
  exact hk
theorem ar_newz {x : Int32} {N : Nat} (hd : decode (am_bc y) pc = .ok (.newarray .boolean, 2)) (hx : ¬ x < 0) (hN : x.toNatClampNeg = N) (hb : N ≤ 100000) (hln : h.length = n) (hcu : cu + 1 ≤ am_mc y) (hsu : su + N ≤ am_ms y)
    (k : am_W d y (pc + 2) ls (.ref n :: st) (h ++ [am_za N (fun _ => 0)]) (n + 1) (cu + 1) (su + N) Q) : am_W d y pc ls (.int x :: st) h n cu su Q := by
  intro G p e R s m args below meth c lc H locs C hl hr hL
  have hcc := C.cells
  have hss := C.slots
  have ea : H.size = am_ad G n := by rw [am_ad_new hr.1]; exact hr.2.1
  refine W.newaK C.exec C.bytes (atype := .boolean) (C.word kw_683 args) (g := F0 m pc lc ((Value.int x :: st).map (am_cv G))) rfl hd (rest := st.map (am_cv G)) rfl hx hN (by show N * 1 ≤ _; omega) (by omega) (by omega) rfl fun H' cA e1 e2 e3 e4 => ?_
  have hk := k G p e R s m args below meth c lc H' locs C hl (hr.new hln e2 e3 (am_newa e1 ea e4)) hL
  show W p (am_l G) e R s m args below meth c H' locs (cu + 1) (su + N) (am_E G y s below Q) (F0 m (pc + 2) lc (.ref H.size :: st.map (am_cv G)))
  rw [ea]
  exact hk
end AMM
theorem am_R.app {cl : List vw_C} {G : am_G} {s : State} {h : am_H} {n : Nat} {cs : List am_C} {H H1 : Heap} (r : am_R cl G s h n H) (hl : h.length = n) (hz : H1.size = H.size + cs.length) (hq : ∀ q : Nat, q < H.size → H1[q]? = H[q]?) (hc : ∀ (j : Nat) (c : am_C), cs[j]? = some c → am_ok cl G s c (am_ad G (n + j)) H1) : am_R cl G s (h ++ cs) (n + cs.length) H1 := by
  obtain ⟨r1, r2, r3, r4, r5⟩ := r
  refine ⟨by omega, by omega, r3, fun q hlt => ?_, fun j c' hj => ?_⟩
  · rw [hq q (by omega)]
    exact r4 q hlt
  · rw [List.getElem?_append] at hj
    split at hj
    · obtain ⟨g1, g2⟩ := r5 j c' hj
      exact ⟨by omega, g2.kept (hq _ g2.lt)⟩
    · rename_i e
      have hj0 := (List.getElem?_eq_some_iff.mp hj).1
      have h9 := hc _ _ hj
      rw [hl, show n + (j - n) = j by omega] at h9
      exact ⟨by omega, h9⟩
section AMN
variable {d : Nat} {y z : am_Y} {pc : Nat} {ls : List (Option Value)} {st : List Value} {h : am_H} {n cu su : Nat} {Q Qc : am_O → am_H → Nat → Prop}
/-- new int[N][K] -/
theorem ar_mna {i j : Nat} {x w : Int32} {N K : Nat} (hd : decode (am_bc y) pc = .ok (.multianewarray i 2, 4)) (hcl : tables_1[j]? = some (Jvm.Cond.classLink (am_nm y).cls i "[[I")) (hx : ¬ x < 0) (hw : ¬ w < 0) (hN : x.toNatClampNeg = N) (hK : w.toNatClampNeg = K) (hb1 : N ≤ 1000) (hb2 : K ≤ 1000) (hln : h.length = n) (hcu : cu + 1 + N ≤ am_mc y) (hsu : su + N + N * K ≤ am_ms y)
    (k : am_W d y (pc + 4) ls (.ref n :: st) (h ++ (am_ra N (fun i => if i < N then some (n + 1 + i) else none) :: List.replicate N (am_ia K (fun _ => 0)))) (n + (N + 1)) (cu + 1 + N) (su + N + N * K) Q) : am_W d y pc ls (.int w :: .int x :: st) h n cu su Q := by
  intro G p e R s m args below meth c lc H locs C hl hr hL T hT X
  have hcc := C.cells
  have hss := C.slots
  have h11 := C.kn.2.2.2.2.2.2.2.2.1
  have ea : H.size = am_ad G n := by rw [am_ad_new hr.1]; exact hr.2.1
  obtain ⟨vm₁, cA, cI, hO, hI, X', step⟩ := mg_step X C.exec C.own (C.word hcl args) (over_moved (a := #[]) (a' := args) (Vm.Alike.refl s.vm) h11) (C.word kw_78 args) (g := F0 m pc lc ((Value.int w :: Value.int x :: st).map (am_cv G))) rfl (by rw [C.bytes]; exact hd) (x := x) (w := w) (rest := st.map (am_cv G)) rfl hx hw hN hK hb1 hb2 (by omega) (by omega)
  have hTh : (T.setVm vm₁).heap = H := hT
  obtain ⟨f1, f2, -, -⟩ := mg_at (T.setVm vm₁) cA cI N K N
  have hold : ∀ q : Nat, q < H.size → (mg_S (T.setVm vm₁) cA cI N K N).heap[q]? = H[q]? := fun q hq => by
    have h9 := mg_old (T.setVm vm₁) cA cI N K N (a := q) (by rw [hTh]; exact hq)
    rw [hTh] at h9
    exact h9
  have hrow : ∀ j : Nat, j < N → (mg_S (T.setVm vm₁) cA cI N K N).heap[H.size + 1 + j]? = some (arrV cI K (fun _ => .int 0)) := fun j hj => by
    have h9 := mg_row (T.setVm vm₁) cA cI N K N hj
    rw [hTh] at h9
    exact h9
  rw [hTh] at f1 f2
  generalize mg_S (T.setVm vm₁) cA cI N K N = F at X' step f1 f2 hold hrow
  have hR : am_R am_cl G s (h ++ (am_ra N (fun i => if i < N then some (n + 1 + i) else none) :: List.replicate N (am_ia K (fun _ => 0)))) (n + (N + 1)) F.heap := by
    have h0 := hr.app (cs := am_ra N (fun i => if i < N then some (n + 1 + i) else none) :: List.replicate N (am_ia K (fun _ => 0))) (H1 := F.heap) hln (by simp; omega) hold ?_
    · simpa using h0
    · intro j c' hj
      match j, hj with
      | 0, hj =>
        cases hj
        refine ⟨_, by rw [Nat.add_zero, ← ea]; exact f2, hO _ _, (fun q => by cases q), arrV_size _ _ _, fun j2 hj2 => ?_⟩
        rw [arrV_read _ _ hj2]
        simp only [mg_f, hj2, if_true, Option.map_some]
        rw [ea, am_ad_new hr.1, am_ad_new (by have := hr.1; omega)]
        have := hr.1
        congr 2
        congr 1
        omega
      | j2 + 1, hj =>
        simp only [List.getElem?_cons_succ, List.getElem?_replicate] at hj
        split at hj
        · rename_i hlt
          cases hj
          refine ⟨arrV cI K (fun _ => .int 0), ?_, hI _ _, (fun q => by cases q), arrV_size _ _ _, fun j3 hj3 => arrV_read _ _ hj3⟩
          have := hr.1
          rw [am_ad_new (by omega), show am_b G + (n + (j2 + 1) - 4) = H.size + 1 + j2 by have := hr.2.1; omega]
          exact hrow j2 hlt
        · cases hj
  obtain ⟨t, a, b⟩ := k G p e R s m args below meth c lc F.heap locs C hl hR hL F rfl X'
  refine ⟨t, step t ?_, b⟩
  have e2 : T.heap.size = am_ad G n := by rw [hT]; exact ea
  rw [e2]
  exact a
/-- constructors of the class's own -/
theorem ar_init {i j1 j2 j3 r : Nat} {As : List Value} (hd : decode (am_bc y) pc = .ok (.invokespecial i, 3)) (hi1 : (am_nm z).name = "<init>") (hlk : tables_1[j1]? = some (Jvm.Cond.methodLink (am_nm y).cls i (am_nm z)) ∨ ((am_nm y).cls, i, am_nm z, "AllocateSolve") ∈ am_ml) (hin : tables_1[j2]? = some (Jvm.Cond.instanceMethod (am_nm z))) (hcw : tables_1[j3]? = some (Jvm.Cond.code (am_nm z) (am_bc z) (am_mx z) none)) (hz : am_Z z As.length)
    (hls : ls.length = am_mx y) (hst : (st.map fun v => v.category).sum ≤ 8) (hA : ∀ v ∈ As, v.category = 1) (hAn : As.length + 1 ≤ am_mx z) (hcu : cu + am_mc z ≤ am_mc y) (hsu : su + am_ms z ≤ am_ms y) (hh : am_nh y pc = true)
    (hcal : am_W d z 0 (am_en z (.ref r :: As)) [] h n 0 0 Qc)
    (kk : ∀ (v : Option Value) (h' : am_H) (n' : Nat), Qc (.inl v) h' n' → am_W (d + 1) y (pc + 3) ls (v.toList ++ st) h' n' (cu + am_mc z) (su + am_ms z) Q)
    (kt : ∀ (k i : Nat) (h' : am_H) (n' : Nat), Qc (.inr (k, i)) h' n' → Q (.inr (k, i)) h' n') : am_W (d + 1) y pc ls (As.reverse ++ .ref r :: st) h n cu su Q := by
  intro G p e R s m args below meth c lc H locs C hl hr hL T hT X
  subst hT
  have hpl : e.platform.magicAccessors = ({} : Platform).magicAccessors := by rw [X.admits.platform]
  obtain ⟨mk, hco⟩ := hz.co C.kn
  have hlen : ∀ sig, parseMethodDescriptor (am_nm z).desc = some sig → (As.map (am_cv G)).length = sig.parameters.length := fun sig hs => by rw [List.length_map]; exact hz.len sig hs
  have hstk : (F0 m pc lc ((As.reverse ++ .ref r :: st).map (am_cv G))).stack = (As.map (am_cv G)).reverse ++ .ref (am_ad G r) :: st.map (am_cv G) := by
    show (As.reverse ++ .ref r :: st).map (am_cv G) = _
    simp [am_cv]
  have hex : ∃ vm₁, s.WarmedH vm₁ ∧ ∀ target, (∀ acts, Steps p.tables e below (doInvoke e ((T.setVm vm₁).setTop (F0 m pc lc (st.map (am_cv G)))) acts mk (Value.ref (am_ad G r) :: As.map (am_cv G)).toArray).1 target) → Steps p.tables e below (T.setTop (F0 m pc lc ((As.reverse ++ .ref r :: st).map (am_cv G)))) target := by
    rcases hlk with hlk | hlk
    · obtain ⟨mk', methM, cM, kP, vm₁, hnamed, -, -, -, -, -, -, -, hW₁, hstep₁⟩ := Steps.initColdArgs (e := e) X.here C.exec X.warmed hpl C.own hi1 hz.2.2.2.1 (C.word hlk args) (C.word hin args) (C.word hcw args) (f := F0 m pc lc ((As.reverse ++ .ref r :: st).map (am_cv G))) rfl hlen hstk (by rw [C.bytes]; exact hd)
      cases hnamed.symm.trans hco.1
      exact ⟨vm₁, hW₁, hstep₁⟩
    · have h9 := C.kn.2.2.2.2.2.2.1 _ hlk
      obtain ⟨mk', methM, cM, kP, vm₁, hnamed, -, -, -, -, -, -, -, hW₁, hstep₁⟩ := Steps.initColdArgsNest (e := e) X.here C.exec X.warmed hpl C.own hi1 hz.2.2.2.1 (va_Nw.use rfl h9) (C.word hin args) (C.word hcw args) (f := F0 m pc lc ((As.reverse ++ .ref r :: st).map (am_cv G))) rfl hlen hstk (by rw [C.bytes]; exact hd)
      cases hnamed.symm.trans hco.1
      exact ⟨vm₁, hW₁, hstep₁⟩
  obtain ⟨vm₁, hW₁, hstep₁⟩ := hex
  have X₁ := X.noted hW₁
  obtain ⟨t, a, b⟩ := am_behind (As := .ref r :: As) C X₁ hl hls (by rw [C.bytes]; exact hd) hst hz hco (fun v hv => by
    rcases List.mem_cons.mp hv with rfl | hv
    · rfl
    · exact hA v hv) (by simpa using hAn) hcu hsu hr hL hcal hh kk kt
  exact ⟨t, hstep₁ _ (fun acts => a acts), b⟩
/-- the class's table of first rules, read from the lines -/
theorem ar_first (hy : (am_nm y).cls = "AllocateSolve$Lines") (hd : decode (am_bc y) pc = .ok (.getstatic 36, 3)) (kk : am_W d y (pc + 3) ls (.ref 3 :: st) h n cu su Q) : am_W d y pc ls st h n cu su Q := by
  intro G p e R s m args below meth c lc H locs C hl hr hL
  obtain ⟨-, -, ⟨-, -, hs⟩, -, -, -, -, h10, -⟩ := id C.kn
  obtain ⟨cc, k, fi, f, a, cell, h1, h2, h3, h4, h5, h6, h7, h8, h9, h11, h12, h13⟩ := hs
  have hown : s.vm.findClass "AllocateSolve$Lines" = some m.cls := by rw [← hy]; exact C.own
  exact va_WgetsN C.exec C.bytes hown (va_Nw.use rfl h10) h2 h3 h4 h5 (by rw [hr.2.2.2.1 a h13]; exact h6) (fun z => by rw [z] at h7; cases h7) h12 rfl hd (kk G p e R s m args below meth c lc H locs C hl hr hL)
end AMN
