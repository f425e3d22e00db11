/-! the rules once more, for walks that a program writes: side conditions by computation, ends by equations -/
/-- it ends so, and no other way -/
abbrev am_eq (v : Option Value) (h : am_H) (n : Nat) : am_O → am_H → Nat → Prop := fun o h' n' => o = .inl v ∧ h' = h ∧ n' = n
abbrev am_th (k i : Nat) (h : am_H) (n : Nat) : am_O → am_H → Nat → Prop := fun o h' n' => o = .inr (k, i) ∧ h' = h ∧ n' = n
theorem am_c1 {As : List Value} (h : As.all (fun v => v.category == 1) = true) : ∀ v ∈ As, v.category = 1 := fun v hv => by simpa using List.all_eq_true.mp h v hv
section AZ
variable {d : Nat} {y z : am_Y} {pc : Nat} {ls : List (Option Value)} {st : List Value} {h h' : am_H} {n n' cu su : Nat} {Q : am_O → am_H → Nat → Prop}
theorem az_callv {i j1 j2 r ci : Nat} {q : vw_C} {fs As : List Value} {v : Option Value} (hd : decode (am_bc y) pc = .ok (.invokevirtual i, 3)) (hlk : tables_1[j1]? = some (Jvm.Cond.methodLink (am_nm y).cls i (am_nm z))) (hin : tables_1[j2]? = some (Jvm.Cond.instanceMethod (am_nm z))) (hc : am_cl[ci]? = some q) (hse : Jvm.Cond.selects q.1 (am_nm z) (am_nm z) ∈ lw_tbl) (hz : am_Z z As.length) (ho : h[r]? = some (am_ob ci fs))
    (hls : ls.length = am_mx y) (hst : Nat.ble (st.map fun v => v.category).sum 8 = true) (hA : As.all (fun v => v.category == 1) = true) (hAn : Nat.ble (As.length + 1) (am_mx z) = true) (hcu : cu + am_mc z ≤ am_mc y) (hsu : su + am_ms z ≤ am_ms y) (hh : am_nh y pc = true)
    (hcal : am_W d z 0 (am_en z (.ref r :: As)) [] h n 0 0 (am_eq v h' n')) (k : am_W (d + 1) y (pc + 3) ls (v.toList ++ st) h' n' (cu + am_mc z) (su + am_ms z) Q) : am_W (d + 1) y pc ls (As.reverse ++ .ref r :: st) h n cu su Q :=
  ar_callv hd hlk hin hc hse hz ho hls (Nat.le_of_ble_eq_true hst) (am_c1 hA) (Nat.le_of_ble_eq_true hAn) hcu hsu hh hcal (fun v2 h2 n2 hq => by
    obtain ⟨e1, rfl, rfl⟩ := hq
    cases e1
    exact k) (fun k i h2 n2 hq => by cases hq.1)
theorem az_calls {i j1 j2 j3 : Nat} {As : List Value} {v : Option Value} (hd : decode (am_bc y) pc = .ok (.invokestatic i, 3)) (hlk : tables_1[j1]? = some (Jvm.Cond.methodLink (am_nm y).cls i (am_nm z))) (hsta : tables_1[j2]? = some (Jvm.Cond.static (am_nm z))) (hini : tables_1[j3]? = some (Jvm.Cond.initialized (am_nm z).cls)) (hz : am_Z z As.length)
    (hls : ls.length = am_mx y) (hst : Nat.ble (st.map fun v => v.category).sum 8 = true) (hA : As.all (fun v => v.category == 1) = true) (hAn : Nat.ble As.length (am_mx z) = true) (hcu : cu + am_mc z ≤ am_mc y) (hsu : su + am_ms z ≤ am_ms y) (hh : am_nh y pc = true)
    (hcal : am_W d z 0 (am_en z As) [] h n 0 0 (am_eq v h' n')) (k : am_W (d + 1) y (pc + 3) ls (v.toList ++ st) h' n' (cu + am_mc z) (su + am_ms z) Q) : am_W (d + 1) y pc ls (As.reverse ++ st) h n cu su Q :=
  ar_calls hd hlk hsta hini hz hls (Nat.le_of_ble_eq_true hst) (am_c1 hA) (Nat.le_of_ble_eq_true hAn) hcu hsu hh hcal (fun v2 h2 n2 hq => by
    obtain ⟨e1, rfl, rfl⟩ := hq
    cases e1
    exact k) (fun k i h2 n2 hq => by cases hq.1)
/-- a callee that throws, out of the caller too -/
theorem az_callvt {i j1 j2 r ci : Nat} {q : vw_C} {fs As : List Value} {kd ix : Nat} (hd : decode (am_bc y) pc = .ok (.invokevirtual i, 3)) (hlk : tables_1[j1]? = some (Jvm.Cond.methodLink (am_nm y).cls i (am_nm z))) (hin : tables_1[j2]? = some (Jvm.Cond.instanceMethod (am_nm z))) (hc : am_cl[ci]? = some q) (hse : Jvm.Cond.selects q.1 (am_nm z) (am_nm z) ∈ lw_tbl) (hz : am_Z z As.length) (ho : h[r]? = some (am_ob ci fs))
    (hls : ls.length = am_mx y) (hst : Nat.ble (st.map fun v => v.category).sum 8 = true) (hA : As.all (fun v => v.category == 1) = true) (hAn : Nat.ble (As.length + 1) (am_mx z) = true) (hcu : cu + am_mc z ≤ am_mc y) (hsu : su + am_ms z ≤ am_ms y) (hh : am_nh y pc = true)
    (hcal : am_W d z 0 (am_en z (.ref r :: As)) [] h n 0 0 (am_th kd ix h' n')) (k : Q (.inr (kd, ix)) h' n') : am_W (d + 1) y pc ls (As.reverse ++ .ref r :: st) h n cu su Q :=
  ar_callv hd hlk hin hc hse hz ho hls (Nat.le_of_ble_eq_true hst) (am_c1 hA) (Nat.le_of_ble_eq_true hAn) hcu hsu hh hcal (fun v2 h2 n2 hq => by cases hq.1) (fun k2 i2 h2 n2 hq => by
    obtain ⟨e1, rfl, rfl⟩ := hq
    cases e1
    exact k)
theorem az_callst {i j1 j2 j3 : Nat} {As : List Value} {kd ix : Nat} (hd : decode (am_bc y) pc = .ok (.invokestatic i, 3)) (hlk : tables_1[j1]? = some (Jvm.Cond.methodLink (am_nm y).cls i (am_nm z))) (hsta : tables_1[j2]? = some (Jvm.Cond.static (am_nm z))) (hini : tables_1[j3]? = some (Jvm.Cond.initialized (am_nm z).cls)) (hz : am_Z z As.length)
    (hls : ls.length = am_mx y) (hst : Nat.ble (st.map fun v => v.category).sum 8 = true) (hA : As.all (fun v => v.category == 1) = true) (hAn : Nat.ble As.length (am_mx z) = true) (hcu : cu + am_mc z ≤ am_mc y) (hsu : su + am_ms z ≤ am_ms y) (hh : am_nh y pc = true)
    (hcal : am_W d z 0 (am_en z As) [] h n 0 0 (am_th kd ix h' n')) (k : Q (.inr (kd, ix)) h' n') : am_W (d + 1) y pc ls (As.reverse ++ st) h n cu su Q :=
  ar_calls hd hlk hsta hini hz hls (Nat.le_of_ble_eq_true hst) (am_c1 hA) (Nat.le_of_ble_eq_true hAn) hcu hsu hh hcal (fun v2 h2 n2 hq => by cases hq.1) (fun k2 i2 h2 n2 hq => by
    obtain ⟨e1, rfl, rfl⟩ := hq
    cases e1
    exact k)
theorem az_init {i j1 j2 j3 r : Nat} {As : List Value} (hd : decode (am_bc y) pc = .ok (.invokespecial i, 3)) (hi1 : (am_nm z).name = "<init>") (hlk : tables_1[j1]? = some (Jvm.Cond.methodLink (am_nm y).cls i (am_nm z)) ∨ ((am_nm y).cls, i, am_nm z, "AllocateSolve") ∈ am_ml) (hin : tables_1[j2]? = some (Jvm.Cond.instanceMethod (am_nm z))) (hcw : tables_1[j3]? = some (Jvm.Cond.code (am_nm z) (am_bc z) (am_mx z) none)) (hz : am_Z z As.length)
    (hls : ls.length = am_mx y) (hst : Nat.ble (st.map fun v => v.category).sum 8 = true) (hA : As.all (fun v => v.category == 1) = true) (hAn : Nat.ble (As.length + 1) (am_mx z) = true) (hcu : cu + am_mc z ≤ am_mc y) (hsu : su + am_ms z ≤ am_ms y) (hh : am_nh y pc = true)
    (hcal : am_W d z 0 (am_en z (.ref r :: As)) [] h n 0 0 (am_eq none h' n')) (k : am_W (d + 1) y (pc + 3) ls st h' n' (cu + am_mc z) (su + am_ms z) Q) : am_W (d + 1) y pc ls (As.reverse ++ .ref r :: st) h n cu su Q :=
  ar_init hd hi1 hlk hin hcw hz hls (Nat.le_of_ble_eq_true hst) (am_c1 hA) (Nat.le_of_ble_eq_true hAn) hcu hsu hh hcal (fun v2 h2 n2 hq => by
    obtain ⟨e1, rfl, rfl⟩ := hq
    cases e1
    exact k) (fun k i h2 n2 hq => by cases hq.1)
end AZ
