/-! the law's wrappers, by program (wip/whole/m_law.py) -/
section AW
variable {d : Nat} {y z : am_Y} {pc : Nat} {ls : List (Option Value)} {st : List Value} {h h' : am_H} {n n' cu su : Nat} {Q : am_O → am_H → Nat → Prop}
theorem az_callc {i j1 j2 r ci : Nat} {q : vw_C} {fs As : List Value} {v : Option Value} (hy : (am_nm y).cls = "AllocateSolveLaw") (hd : decode (am_bc y) pc = .ok (.invokevirtual i, 3)) (hlk : tables_1[j1]? = some (Jvm.Cond.methodLink (am_nm y).cls i (am_nm z))) (hin : tables_1[j2]? = some (Jvm.Cond.instanceMethod (am_nm z))) (hc : am_cl[ci]? = some q) (hse : Jvm.Cond.selects q.1 (am_nm z) (am_nm z) ∈ lw_tbl) (hz : am_Z z As.length) (ho : h[r]? = some (am_ob ci fs))
    (hls : ls.length = am_mx y) (hst : Nat.ble (st.map fun v => v.category).sum 8 = true) (hA : As.all (fun v => v.category == 1) = true) (hAn : Nat.ble (As.length + 1) (am_mx z) = true) (hcu : cu + am_mc z ≤ am_mc y) (hsu : su + am_ms z ≤ am_ms y)
    (hcal : am_W d z 0 (am_en z (.ref r :: As)) [] h n 0 0 (am_eq v h' n')) (k : am_W (d + 1) y (pc + 3) ls (v.toList ++ st) h' n' (cu + am_mc z) (su + am_ms z) Q) : am_W (d + 1) y pc ls (As.reverse ++ .ref r :: st) h n cu su Q :=
  ar_callc hy hd hlk hin hc hse hz ho hls (Nat.le_of_ble_eq_true hst) (am_c1 hA) (Nat.le_of_ble_eq_true hAn) hcu hsu hcal (fun v2 h2 n2 hq => by
    obtain ⟨e1, rfl, rfl⟩ := hq
    cases e1
    exact k) (fun k i h2 n2 hq => by cases hq.1)
theorem az_callx {i j1 j2 r ci : Nat} {q : vw_C} {fs As : List Value} {kd ix hp : Nat} (hy : (am_nm y).cls = "AllocateSolveLaw") (hd : decode (am_bc y) pc = .ok (.invokevirtual i, 3)) (hlk : tables_1[j1]? = some (Jvm.Cond.methodLink (am_nm y).cls i (am_nm z))) (hin : tables_1[j2]? = some (Jvm.Cond.instanceMethod (am_nm z))) (hc : am_cl[ci]? = some q) (hse : Jvm.Cond.selects q.1 (am_nm z) (am_nm z) ∈ lw_tbl) (hz : am_Z z As.length) (ho : h[r]? = some (am_ob ci fs))
    (hls : ls.length = am_mx y) (hst : Nat.ble (st.map fun v => v.category).sum 8 = true) (hA : As.all (fun v => v.category == 1) = true) (hAn : Nat.ble (As.length + 1) (am_mx z) = true) (hcu : cu + am_mc z ≤ am_mc y) (hsu : su + am_ms z ≤ am_ms y)
    (hcal : am_W d z 0 (am_en z (.ref r :: As)) [] h n 0 0 (am_th kd ix h' n')) (hf : am_ft (am_hd y) pc kd = some hp) (k : am_W (d + 1) y hp ls [.ref ix] h' n' (cu + am_mc z) (su + am_ms z) Q) : am_W (d + 1) y pc ls (As.reverse ++ .ref r :: st) h n cu su Q :=
  ar_callc hy hd hlk hin hc hse hz ho hls (Nat.le_of_ble_eq_true hst) (am_c1 hA) (Nat.le_of_ble_eq_true hAn) hcu hsu hcal (fun v2 h2 n2 hq => by cases hq.1) (fun k2 i2 h2 n2 hq => by
    obtain ⟨e1, rfl, rfl⟩ := hq
    cases e1
    exact ⟨hp, hf, k⟩)
theorem az_last0 {x : am_C} {c : cS} {m : mS} {o : Nat → Int64} {w : Int64} (hd : decode (am_bc y) pc = .ok (.lastore, 1)) (kk : am_W d y (pc + 1) ls st (hC x c (hM m [am_la 1 (vp_updL o 0 w)])) n cu su Q) : am_W d y pc ls (.long w :: .int (Int32.ofInt 0) :: .ref 68 :: st) (hC x c (hM m [am_la 1 o])) n cu su Q :=
  ar_last hd (by decide) rfl (ii_in (n := 0) (N := 1) (by decide) (by decide)) kk
theorem az_lald0 {x : am_C} {c : cS} {m : mS} {o : Nat → Int64} (hd : decode (am_bc y) pc = .ok (.laload, 1)) (kk : am_W d y (pc + 1) ls (.long (o 0) :: st) (hC x c (hM m [am_la 1 o])) n cu su Q) : am_W d y pc ls (.int (Int32.ofInt 0) :: .ref 68 :: st) (hC x c (hM m [am_la 1 o])) n cu su Q :=
  ar_lald hd rfl (ii_in (n := 0) (N := 1) (by decide) (by decide)) kk
end AW
theorem wr_lot_ok {d : Nat} {x : am_C} {c c' : cS} {m : mS} {o : Nat → Int64} {n n' : Nat} {a1 a2 a3 a4 : Int32} {v : Int32} (hc : am_W d km_A_lot 0 [some (.ref 4), some (.int a1), some (.int a2), some (.int a3), some (.int a4)] [] (hC x c (hM m [am_la 1 o])) n 0 0 (am_eq (some (.int v)) (hC x c' (hM m [am_la 1 o])) n')) : am_W (d + 1) km_L_lot 0 [some (.ref 4), some (.int a1), some (.int a2), some (.int a3), some (.int a4), some (.ref 68), none] [] (hC x c (hM m [am_la 1 o])) n 0 0 (am_eq (some (.int (iI 0))) (hC x c' (hM m [am_la 1 (vp_updL o 0 v.toInt64)])) n') := by
  refine ar_aload kd_L_lot_0 rfl ?_
  refine ar_iconst kd_L_lot_2 ?_
  refine ar_aload_n kd_L_lot_3 rfl ?_
  refine ar_iload_n kd_L_lot_4 rfl ?_
  refine ar_iload_n kd_L_lot_5 rfl ?_
  refine ar_iload_n kd_L_lot_6 rfl ?_
  refine ar_iload kd_L_lot_7 rfl ?_
  refine az_callc (z := km_A_lot) (As := [_, _, _, _]) (ci := 0) rfl kd_L_lot_9 kw_253 kw_254 rfl ks_A_lot kz_A_lot rfl rfl rfl rfl rfl (Nat.le_of_ble_eq_true rfl) (Nat.le_of_ble_eq_true rfl) hc ?_
  refine ar_i2l kd_L_lot_12 ?_
  refine az_last0 kd_L_lot_13 ?_
  refine ar_goto (tg := 25) kd_L_lot_14 (by decide) ?_
  refine ar_iconst kd_L_lot_25 ?_
  exact ar_ireturn kd_L_lot_26 rfl (Nat.le_of_ble_eq_true rfl) (Nat.le_of_ble_eq_true rfl) ⟨rfl, rfl, rfl⟩
theorem wr_lot_x0 {d : Nat} {x : am_C} {c : cS} {m : mS} {o : Nat → Int64} {n : Nat} {a1 a2 a3 a4 : Int32} (hc : am_W d km_A_lot 0 [some (.ref 4), some (.int a1), some (.int a2), some (.int a3), some (.int a4)] [] (hC x c (hM m [am_la 1 o])) n 0 0 (am_th 0 n (hC x c (hM m [am_la 1 o])) (n + 1))) : am_W (d + 1) km_L_lot 0 [some (.ref 4), some (.int a1), some (.int a2), some (.int a3), some (.int a4), some (.ref 68), none] [] (hC x c (hM m [am_la 1 o])) n 0 0 (am_eq (some (.int (iI 1))) (hC x c (hM m [am_la 1 o])) (n + 1)) := by
  refine ar_aload kd_L_lot_0 rfl ?_
  refine ar_iconst kd_L_lot_2 ?_
  refine ar_aload_n kd_L_lot_3 rfl ?_
  refine ar_iload_n kd_L_lot_4 rfl ?_
  refine ar_iload_n kd_L_lot_5 rfl ?_
  refine ar_iload_n kd_L_lot_6 rfl ?_
  refine ar_iload kd_L_lot_7 rfl ?_
  refine az_callx (z := km_A_lot) (As := [_, _, _, _]) (ci := 0) rfl kd_L_lot_9 kw_253 kw_254 rfl ks_A_lot kz_A_lot rfl rfl rfl rfl rfl (Nat.le_of_ble_eq_true rfl) (Nat.le_of_ble_eq_true rfl) (hp := 17) hc rfl ?_
  refine ar_astore kd_L_lot_17 (Nat.le_of_ble_eq_true rfl) rfl ?_
  refine ar_iconst kd_L_lot_19 ?_
  exact ar_ireturn kd_L_lot_20 rfl (Nat.le_of_ble_eq_true rfl) (Nat.le_of_ble_eq_true rfl) ⟨rfl, rfl, rfl⟩
theorem wr_lot_x1 {d : Nat} {x : am_C} {c : cS} {m : mS} {o : Nat → Int64} {n : Nat} {a1 a2 a3 a4 : Int32} (hc : am_W d km_A_lot 0 [some (.ref 4), some (.int a1), some (.int a2), some (.int a3), some (.int a4)] [] (hC x c (hM m [am_la 1 o])) n 0 0 (am_th 1 n (hC x c (hM m [am_la 1 o])) (n + 1))) : am_W (d + 1) km_L_lot 0 [some (.ref 4), some (.int a1), some (.int a2), some (.int a3), some (.int a4), some (.ref 68), none] [] (hC x c (hM m [am_la 1 o])) n 0 0 (am_eq (some (.int (iI 2))) (hC x c (hM m [am_la 1 o])) (n + 1)) := by
  refine ar_aload kd_L_lot_0 rfl ?_
  refine ar_iconst kd_L_lot_2 ?_
  refine ar_aload_n kd_L_lot_3 rfl ?_
  refine ar_iload_n kd_L_lot_4 rfl ?_
  refine ar_iload_n kd_L_lot_5 rfl ?_
  refine ar_iload_n kd_L_lot_6 rfl ?_
  refine ar_iload kd_L_lot_7 rfl ?_
  refine az_callx (z := km_A_lot) (As := [_, _, _, _]) (ci := 0) rfl kd_L_lot_9 kw_253 kw_254 rfl ks_A_lot kz_A_lot rfl rfl rfl rfl rfl (Nat.le_of_ble_eq_true rfl) (Nat.le_of_ble_eq_true rfl) (hp := 21) hc rfl ?_
  refine ar_astore kd_L_lot_21 (Nat.le_of_ble_eq_true rfl) rfl ?_
  refine ar_iconst kd_L_lot_23 ?_
  exact ar_ireturn kd_L_lot_24 rfl (Nat.le_of_ble_eq_true rfl) (Nat.le_of_ble_eq_true rfl) ⟨rfl, rfl, rfl⟩
theorem wr_line_ok {d : Nat} {x : am_C} {c c' : cS} {m : mS} {o : Nat → Int64} {n n' : Nat} {a1 a2 : Int32} {v : Int32} (hc : am_W d km_A_line 0 [some (.ref 4), some (.int a1), some (.int a2)] [] (hC x c (hM m [am_la 1 o])) n 0 0 (am_eq (some (.int v)) (hC x c' (hM m [am_la 1 o])) n')) : am_W (d + 1) km_L_line 0 [some (.ref 4), some (.int a1), some (.int a2), some (.ref 68), none] [] (hC x c (hM m [am_la 1 o])) n 0 0 (am_eq (some (.int (iI 0))) (hC x c' (hM m [am_la 1 (vp_updL o 0 v.toInt64)])) n') := by
  refine ar_aload_n kd_L_line_0 rfl ?_
  refine ar_iconst kd_L_line_1 ?_
  refine ar_aload_n kd_L_line_2 rfl ?_
  refine ar_iload_n kd_L_line_3 rfl ?_
  refine ar_iload_n kd_L_line_4 rfl ?_
  refine az_callc (z := km_A_line) (As := [_, _]) (ci := 0) rfl kd_L_line_5 kw_361 kw_362 rfl ks_A_line kz_A_line rfl rfl rfl rfl rfl (Nat.le_of_ble_eq_true rfl) (Nat.le_of_ble_eq_true rfl) hc ?_
  refine ar_i2l kd_L_line_8 ?_
  refine az_last0 kd_L_line_9 ?_
  refine ar_goto (tg := 21) kd_L_line_10 (by decide) ?_
  refine ar_iconst kd_L_line_21 ?_
  exact ar_ireturn kd_L_line_22 rfl (Nat.le_of_ble_eq_true rfl) (Nat.le_of_ble_eq_true rfl) ⟨rfl, rfl, rfl⟩
theorem wr_line_x0 {d : Nat} {x : am_C} {c : cS} {m : mS} {o : Nat → Int64} {n : Nat} {a1 a2 : Int32} (hc : am_W d km_A_line 0 [some (.ref 4), some (.int a1), some (.int a2)] [] (hC x c (hM m [am_la 1 o])) n 0 0 (am_th 0 n (hC x c (hM m [am_la 1 o])) (n + 1))) : am_W (d + 1) km_L_line 0 [some (.ref 4), some (.int a1), some (.int a2), some (.ref 68), none] [] (hC x c (hM m [am_la 1 o])) n 0 0 (am_eq (some (.int (iI 1))) (hC x c (hM m [am_la 1 o])) (n + 1)) := by
  refine ar_aload_n kd_L_line_0 rfl ?_
  refine ar_iconst kd_L_line_1 ?_
  refine ar_aload_n kd_L_line_2 rfl ?_
  refine ar_iload_n kd_L_line_3 rfl ?_
  refine ar_iload_n kd_L_line_4 rfl ?_
  refine az_callx (z := km_A_line) (As := [_, _]) (ci := 0) rfl kd_L_line_5 kw_361 kw_362 rfl ks_A_line kz_A_line rfl rfl rfl rfl rfl (Nat.le_of_ble_eq_true rfl) (Nat.le_of_ble_eq_true rfl) (hp := 13) hc rfl ?_
  refine ar_astore kd_L_line_13 (Nat.le_of_ble_eq_true rfl) rfl ?_
  refine ar_iconst kd_L_line_15 ?_
  exact ar_ireturn kd_L_line_16 rfl (Nat.le_of_ble_eq_true rfl) (Nat.le_of_ble_eq_true rfl) ⟨rfl, rfl, rfl⟩
theorem wr_line_x1 {d : Nat} {x : am_C} {c : cS} {m : mS} {o : Nat → Int64} {n : Nat} {a1 a2 : Int32} (hc : am_W d km_A_line 0 [some (.ref 4), some (.int a1), some (.int a2)] [] (hC x c (hM m [am_la 1 o])) n 0 0 (am_th 1 n (hC x c (hM m [am_la 1 o])) (n + 1))) : am_W (d + 1) km_L_line 0 [some (.ref 4), some (.int a1), some (.int a2), some (.ref 68), none] [] (hC x c (hM m [am_la 1 o])) n 0 0 (am_eq (some (.int (iI 2))) (hC x c (hM m [am_la 1 o])) (n + 1)) := by
  refine ar_aload_n kd_L_line_0 rfl ?_
  refine ar_iconst kd_L_line_1 ?_
  refine ar_aload_n kd_L_line_2 rfl ?_
  refine ar_iload_n kd_L_line_3 rfl ?_
  refine ar_iload_n kd_L_line_4 rfl ?_
  refine az_callx (z := km_A_line) (As := [_, _]) (ci := 0) rfl kd_L_line_5 kw_361 kw_362 rfl ks_A_line kz_A_line rfl rfl rfl rfl rfl (Nat.le_of_ble_eq_true rfl) (Nat.le_of_ble_eq_true rfl) (hp := 17) hc rfl ?_
  refine ar_astore kd_L_line_17 (Nat.le_of_ble_eq_true rfl) rfl ?_
  refine ar_iconst kd_L_line_19 ?_
  exact ar_ireturn kd_L_line_20 rfl (Nat.le_of_ble_eq_true rfl) (Nat.le_of_ble_eq_true rfl) ⟨rfl, rfl, rfl⟩
theorem wr_rule_ok {d : Nat} {x : am_C} {c c' : cS} {m : mS} {o : Nat → Int64} {n n' : Nat} {a1 a2 a3 : Int32} (hc : am_W d km_A_rule 0 [some (.ref 4), some (.int a1), some (.int a2), some (.int a3)] [] (hC x c (hM m [am_la 1 o])) n 0 0 (am_eq none (hC x c' (hM m [am_la 1 o])) n')) : am_W (d + 1) km_L_rule 0 [some (.ref 4), some (.int a1), some (.int a2), some (.int a3), none] [] (hC x c (hM m [am_la 1 o])) n 0 0 (am_eq (some (.int (iI 0))) (hC x c' (hM m [am_la 1 o])) n') := by
  refine ar_aload_n kd_L_rule_0 rfl ?_
  refine ar_iload_n kd_L_rule_1 rfl ?_
  refine ar_iload_n kd_L_rule_2 rfl ?_
  refine ar_iload_n kd_L_rule_3 rfl ?_
  refine az_callc (z := km_A_rule) (As := [_, _, _]) (ci := 0) rfl kd_L_rule_4 kw_376 kw_377 rfl ks_A_rule kz_A_rule rfl rfl rfl rfl rfl (Nat.le_of_ble_eq_true rfl) (Nat.le_of_ble_eq_true rfl) hc ?_
  refine ar_goto (tg := 18) kd_L_rule_7 (by decide) ?_
  refine ar_iconst kd_L_rule_18 ?_
  exact ar_ireturn kd_L_rule_19 rfl (Nat.le_of_ble_eq_true rfl) (Nat.le_of_ble_eq_true rfl) ⟨rfl, rfl, rfl⟩
theorem wr_rule_x2 {d : Nat} {x : am_C} {c : cS} {m : mS} {o : Nat → Int64} {n : Nat} {a1 a2 a3 : Int32} (hc : am_W d km_A_rule 0 [some (.ref 4), some (.int a1), some (.int a2), some (.int a3)] [] (hC x c (hM m [am_la 1 o])) n 0 0 (am_th 2 n (hC x c (hM m [am_la 1 o])) (n + 1))) : am_W (d + 1) km_L_rule 0 [some (.ref 4), some (.int a1), some (.int a2), some (.int a3), none] [] (hC x c (hM m [am_la 1 o])) n 0 0 (am_eq (some (.int (iI 1))) (hC x c (hM m [am_la 1 o])) (n + 1)) := by
  refine ar_aload_n kd_L_rule_0 rfl ?_
  refine ar_iload_n kd_L_rule_1 rfl ?_
  refine ar_iload_n kd_L_rule_2 rfl ?_
  refine ar_iload_n kd_L_rule_3 rfl ?_
  refine az_callx (z := km_A_rule) (As := [_, _, _]) (ci := 0) rfl kd_L_rule_4 kw_376 kw_377 rfl ks_A_rule kz_A_rule rfl rfl rfl rfl rfl (Nat.le_of_ble_eq_true rfl) (Nat.le_of_ble_eq_true rfl) (hp := 10) hc rfl ?_
  refine ar_astore kd_L_rule_10 (Nat.le_of_ble_eq_true rfl) rfl ?_
  refine ar_iconst kd_L_rule_12 ?_
  exact ar_ireturn kd_L_rule_13 rfl (Nat.le_of_ble_eq_true rfl) (Nat.le_of_ble_eq_true rfl) ⟨rfl, rfl, rfl⟩
theorem wr_rule_x0 {d : Nat} {x : am_C} {c : cS} {m : mS} {o : Nat → Int64} {n : Nat} {a1 a2 a3 : Int32} (hc : am_W d km_A_rule 0 [some (.ref 4), some (.int a1), some (.int a2), some (.int a3)] [] (hC x c (hM m [am_la 1 o])) n 0 0 (am_th 0 n (hC x c (hM m [am_la 1 o])) (n + 1))) : am_W (d + 1) km_L_rule 0 [some (.ref 4), some (.int a1), some (.int a2), some (.int a3), none] [] (hC x c (hM m [am_la 1 o])) n 0 0 (am_eq (some (.int (iI 2))) (hC x c (hM m [am_la 1 o])) (n + 1)) := by
  refine ar_aload_n kd_L_rule_0 rfl ?_
  refine ar_iload_n kd_L_rule_1 rfl ?_
  refine ar_iload_n kd_L_rule_2 rfl ?_
  refine ar_iload_n kd_L_rule_3 rfl ?_
  refine az_callx (z := km_A_rule) (As := [_, _, _]) (ci := 0) rfl kd_L_rule_4 kw_376 kw_377 rfl ks_A_rule kz_A_rule rfl rfl rfl rfl rfl (Nat.le_of_ble_eq_true rfl) (Nat.le_of_ble_eq_true rfl) (hp := 14) hc rfl ?_
  refine ar_astore kd_L_rule_14 (Nat.le_of_ble_eq_true rfl) rfl ?_
  refine ar_iconst kd_L_rule_16 ?_
  exact ar_ireturn kd_L_rule_17 rfl (Nat.le_of_ble_eq_true rfl) (Nat.le_of_ble_eq_true rfl) ⟨rfl, rfl, rfl⟩
theorem wr_cost_ok {d : Nat} {x : am_C} {c c' : cS} {m : mS} {o : Nat → Int64} {n n' : Nat} {a1 a2 a3 : Int32} (hc : am_W d km_A_cost 0 [some (.ref 4), some (.int a1), some (.int a2), some (.int a3)] [] (hC x c (hM m [am_la 1 o])) n 0 0 (am_eq none (hC x c' (hM m [am_la 1 o])) n')) : am_W (d + 1) km_L_cost 0 [some (.ref 4), some (.int a1), some (.int a2), some (.int a3), none] [] (hC x c (hM m [am_la 1 o])) n 0 0 (am_eq (some (.int (iI 0))) (hC x c' (hM m [am_la 1 o])) n') := by
  refine ar_aload_n kd_L_cost_0 rfl ?_
  refine ar_iload_n kd_L_cost_1 rfl ?_
  refine ar_iload_n kd_L_cost_2 rfl ?_
  refine ar_iload_n kd_L_cost_3 rfl ?_
  refine az_callc (z := km_A_cost) (As := [_, _, _]) (ci := 0) rfl kd_L_cost_4 kw_407 kw_408 rfl ks_A_cost kz_A_cost rfl rfl rfl rfl rfl (Nat.le_of_ble_eq_true rfl) (Nat.le_of_ble_eq_true rfl) hc ?_
  refine ar_goto (tg := 18) kd_L_cost_7 (by decide) ?_
  refine ar_iconst kd_L_cost_18 ?_
  exact ar_ireturn kd_L_cost_19 rfl (Nat.le_of_ble_eq_true rfl) (Nat.le_of_ble_eq_true rfl) ⟨rfl, rfl, rfl⟩
theorem wr_cost_x2 {d : Nat} {x : am_C} {c : cS} {m : mS} {o : Nat → Int64} {n : Nat} {a1 a2 a3 : Int32} (hc : am_W d km_A_cost 0 [some (.ref 4), some (.int a1), some (.int a2), some (.int a3)] [] (hC x c (hM m [am_la 1 o])) n 0 0 (am_th 2 n (hC x c (hM m [am_la 1 o])) (n + 1))) : am_W (d + 1) km_L_cost 0 [some (.ref 4), some (.int a1), some (.int a2), some (.int a3), none] [] (hC x c (hM m [am_la 1 o])) n 0 0 (am_eq (some (.int (iI 1))) (hC x c (hM m [am_la 1 o])) (n + 1)) := by
  refine ar_aload_n kd_L_cost_0 rfl ?_
  refine ar_iload_n kd_L_cost_1 rfl ?_
  refine ar_iload_n kd_L_cost_2 rfl ?_
  refine ar_iload_n kd_L_cost_3 rfl ?_
  refine az_callx (z := km_A_cost) (As := [_, _, _]) (ci := 0) rfl kd_L_cost_4 kw_407 kw_408 rfl ks_A_cost kz_A_cost rfl rfl rfl rfl rfl (Nat.le_of_ble_eq_true rfl) (Nat.le_of_ble_eq_true rfl) (hp := 10) hc rfl ?_
  refine ar_astore kd_L_cost_10 (Nat.le_of_ble_eq_true rfl) rfl ?_
  refine ar_iconst kd_L_cost_12 ?_
  exact ar_ireturn kd_L_cost_13 rfl (Nat.le_of_ble_eq_true rfl) (Nat.le_of_ble_eq_true rfl) ⟨rfl, rfl, rfl⟩
theorem wr_cost_x0 {d : Nat} {x : am_C} {c : cS} {m : mS} {o : Nat → Int64} {n : Nat} {a1 a2 a3 : Int32} (hc : am_W d km_A_cost 0 [some (.ref 4), some (.int a1), some (.int a2), some (.int a3)] [] (hC x c (hM m [am_la 1 o])) n 0 0 (am_th 0 n (hC x c (hM m [am_la 1 o])) (n + 1))) : am_W (d + 1) km_L_cost 0 [some (.ref 4), some (.int a1), some (.int a2), some (.int a3), none] [] (hC x c (hM m [am_la 1 o])) n 0 0 (am_eq (some (.int (iI 2))) (hC x c (hM m [am_la 1 o])) (n + 1)) := by
  refine ar_aload_n kd_L_cost_0 rfl ?_
  refine ar_iload_n kd_L_cost_1 rfl ?_
  refine ar_iload_n kd_L_cost_2 rfl ?_
  refine ar_iload_n kd_L_cost_3 rfl ?_
  refine az_callx (z := km_A_cost) (As := [_, _, _]) (ci := 0) rfl kd_L_cost_4 kw_407 kw_408 rfl ks_A_cost kz_A_cost rfl rfl rfl rfl rfl (Nat.le_of_ble_eq_true rfl) (Nat.le_of_ble_eq_true rfl) (hp := 14) hc rfl ?_
  refine ar_astore kd_L_cost_14 (Nat.le_of_ble_eq_true rfl) rfl ?_
  refine ar_iconst kd_L_cost_16 ?_
  exact ar_ireturn kd_L_cost_17 rfl (Nat.le_of_ble_eq_true rfl) (Nat.le_of_ble_eq_true rfl) ⟨rfl, rfl, rfl⟩
theorem wr_may_ok {d : Nat} {x : am_C} {c c' : cS} {m : mS} {o : Nat → Int64} {n n' : Nat} {a1 a2 a3 : Int32} {v : Int32} (hc : am_W d km_A_may 0 [some (.ref 4), some (.int a1), some (.int a2), some (.int a3)] [] (hC x c (hM m [am_la 1 o])) n 0 0 (am_eq (some (.int v)) (hC x c' (hM m [am_la 1 o])) n')) : am_W (d + 1) km_L_may 0 [some (.ref 4), some (.int a1), some (.int a2), some (.int a3), some (.ref 68), none] [] (hC x c (hM m [am_la 1 o])) n 0 0 (am_eq (some (.int (iI 0))) (hC x c' (hM m [am_la 1 (vp_updL o 0 (if v = 0 then Int64.ofNat 0 else Int64.ofNat 1))])) n') := by
  refine ar_aload kd_L_may_0 rfl ?_
  refine ar_iconst kd_L_may_2 ?_
  refine ar_aload_n kd_L_may_3 rfl ?_
  refine ar_iload_n kd_L_may_4 rfl ?_
  refine ar_iload_n kd_L_may_5 rfl ?_
  refine ar_iload_n kd_L_may_6 rfl ?_
  refine az_callc (z := km_A_may) (As := [_, _, _]) (ci := 0) rfl kd_L_may_7 kw_419 kw_420 rfl ks_A_may kz_A_may rfl rfl rfl rfl rfl (Nat.le_of_ble_eq_true rfl) (Nat.le_of_ble_eq_true rfl) hc ?_
  refine ar_if_eq (tg := 17) kd_L_may_10 (by decide) (fun e => ?_) (fun e => ?_)
  · refine ar_lconst kd_L_may_17 ?_
    refine az_last0 kd_L_may_18 ?_
    refine ar_goto (tg := 26) kd_L_may_19 (by decide) ?_
    refine ar_iconst kd_L_may_26 ?_
    exact ar_ireturn kd_L_may_27 rfl (Nat.le_of_ble_eq_true rfl) (Nat.le_of_ble_eq_true rfl) ⟨rfl, by rw [if_pos e]; rfl, rfl⟩
  · refine ar_lconst kd_L_may_13 ?_
    refine ar_goto (tg := 18) kd_L_may_14 (by decide) ?_
    refine az_last0 kd_L_may_18 ?_
    refine ar_goto (tg := 26) kd_L_may_19 (by decide) ?_
    refine ar_iconst kd_L_may_26 ?_
    exact ar_ireturn kd_L_may_27 rfl (Nat.le_of_ble_eq_true rfl) (Nat.le_of_ble_eq_true rfl) ⟨rfl, by rw [if_neg e]; rfl, rfl⟩
theorem wr_may_x2 {d : Nat} {x : am_C} {c : cS} {m : mS} {o : Nat → Int64} {n : Nat} {a1 a2 a3 : Int32} (hc : am_W d km_A_may 0 [some (.ref 4), some (.int a1), some (.int a2), some (.int a3)] [] (hC x c (hM m [am_la 1 o])) n 0 0 (am_th 2 n (hC x c (hM m [am_la 1 o])) (n + 1))) : am_W (d + 1) km_L_may 0 [some (.ref 4), some (.int a1), some (.int a2), some (.int a3), some (.ref 68), none] [] (hC x c (hM m [am_la 1 o])) n 0 0 (am_eq (some (.int (iI 1))) (hC x c (hM m [am_la 1 o])) (n + 1)) := by
  refine ar_aload kd_L_may_0 rfl ?_
  refine ar_iconst kd_L_may_2 ?_
  refine ar_aload_n kd_L_may_3 rfl ?_
  refine ar_iload_n kd_L_may_4 rfl ?_
  refine ar_iload_n kd_L_may_5 rfl ?_
  refine ar_iload_n kd_L_may_6 rfl ?_
  refine az_callx (z := km_A_may) (As := [_, _, _]) (ci := 0) rfl kd_L_may_7 kw_419 kw_420 rfl ks_A_may kz_A_may rfl rfl rfl rfl rfl (Nat.le_of_ble_eq_true rfl) (Nat.le_of_ble_eq_true rfl) (hp := 22) hc rfl ?_
  refine ar_astore kd_L_may_22 (Nat.le_of_ble_eq_true rfl) rfl ?_
  refine ar_iconst kd_L_may_24 ?_
  exact ar_ireturn kd_L_may_25 rfl (Nat.le_of_ble_eq_true rfl) (Nat.le_of_ble_eq_true rfl) ⟨rfl, rfl, rfl⟩
theorem wr_solve_ok {d : Nat} {x : am_C} {c c' : cS} {m : mS} {o : Nat → Int64} {n n' : Nat} {a1 : Int32} {v : Int32} (hc : am_W d km_A_solve 0 [some (.ref 4), some (.int a1), none] [] (hC x c (hM m [am_la 1 o])) n 0 0 (am_eq (some (.int v)) (hC x c' (hM m [am_la 1 o])) n')) : am_W (d + 1) km_L_solve 0 [some (.ref 4), some (.int a1), some (.ref 68), none] [] (hC x c (hM m [am_la 1 o])) n 0 0 (am_eq (some (.int (iI 0))) (hC x c' (hM m [am_la 1 (vp_updL o 0 v.toInt64)])) n') := by
  refine ar_aload_n kd_L_solve_0 rfl ?_
  refine ar_iconst kd_L_solve_1 ?_
  refine ar_aload_n kd_L_solve_2 rfl ?_
  refine ar_iload_n kd_L_solve_3 rfl ?_
  refine az_callc (z := km_A_solve) (As := [_]) (ci := 0) rfl kd_L_solve_4 kw_431 kw_432 rfl ks_A_solve kz_A_solve rfl rfl rfl rfl rfl (Nat.le_of_ble_eq_true rfl) (Nat.le_of_ble_eq_true rfl) hc ?_
  refine ar_i2l kd_L_solve_7 ?_
  refine az_last0 kd_L_solve_8 ?_
  refine ar_goto (tg := 15) kd_L_solve_9 (by decide) ?_
  refine ar_iconst kd_L_solve_15 ?_
  exact ar_ireturn kd_L_solve_16 rfl (Nat.le_of_ble_eq_true rfl) (Nat.le_of_ble_eq_true rfl) ⟨rfl, rfl, rfl⟩
theorem wr_solve_x0 {d : Nat} {x : am_C} {c : cS} {m : mS} {o : Nat → Int64} {n : Nat} {a1 : Int32} (hc : am_W d km_A_solve 0 [some (.ref 4), some (.int a1), none] [] (hC x c (hM m [am_la 1 o])) n 0 0 (am_th 0 n (hC x c (hM m [am_la 1 o])) (n + 1))) : am_W (d + 1) km_L_solve 0 [some (.ref 4), some (.int a1), some (.ref 68), none] [] (hC x c (hM m [am_la 1 o])) n 0 0 (am_eq (some (.int (iI 1))) (hC x c (hM m [am_la 1 o])) (n + 1)) := by
  refine ar_aload_n kd_L_solve_0 rfl ?_
  refine ar_iconst kd_L_solve_1 ?_
  refine ar_aload_n kd_L_solve_2 rfl ?_
  refine ar_iload_n kd_L_solve_3 rfl ?_
  refine az_callx (z := km_A_solve) (As := [_]) (ci := 0) rfl kd_L_solve_4 kw_431 kw_432 rfl ks_A_solve kz_A_solve rfl rfl rfl rfl rfl (Nat.le_of_ble_eq_true rfl) (Nat.le_of_ble_eq_true rfl) (hp := 12) hc rfl ?_
  refine ar_astore_n kd_L_solve_12 (Nat.le_of_ble_eq_true rfl) rfl ?_
  refine ar_iconst kd_L_solve_13 ?_
  exact ar_ireturn kd_L_solve_14 rfl (Nat.le_of_ble_eq_true rfl) (Nat.le_of_ble_eq_true rfl) ⟨rfl, rfl, rfl⟩
theorem wr_give_ok {d : Nat} {x : am_C} {c c' : cS} {m : mS} {o : Nat → Int64} {n n' : Nat} {a1 a2 a3 : Int32} {v : Int32} (hc : am_W d km_A_give 0 [some (.ref 4), some (.int a1), some (.int a2), some (.int a3), none] [] (hC x c (hM m [am_la 1 o])) n 0 0 (am_eq (some (.int v)) (hC x c' (hM m [am_la 1 o])) n')) : am_W (d + 1) km_L_give 0 [some (.ref 4), some (.int a1), some (.int a2), some (.int a3), some (.ref 68), none] [] (hC x c (hM m [am_la 1 o])) n 0 0 (am_eq (some (.int (iI 0))) (hC x c' (hM m [am_la 1 (vp_updL o 0 v.toInt64)])) n') := by
  refine ar_aload kd_L_give_0 rfl ?_
  refine ar_iconst kd_L_give_2 ?_
  refine ar_aload_n kd_L_give_3 rfl ?_
  refine ar_iload_n kd_L_give_4 rfl ?_
  refine ar_iload_n kd_L_give_5 rfl ?_
  refine ar_iload_n kd_L_give_6 rfl ?_
  refine az_callc (z := km_A_give) (As := [_, _, _]) (ci := 0) rfl kd_L_give_7 kw_499 kw_500 rfl ks_A_give kz_A_give rfl rfl rfl rfl rfl (Nat.le_of_ble_eq_true rfl) (Nat.le_of_ble_eq_true rfl) hc ?_
  refine ar_i2l kd_L_give_10 ?_
  refine az_last0 kd_L_give_11 ?_
  refine ar_goto (tg := 23) kd_L_give_12 (by decide) ?_
  refine ar_iconst kd_L_give_23 ?_
  exact ar_ireturn kd_L_give_24 rfl (Nat.le_of_ble_eq_true rfl) (Nat.le_of_ble_eq_true rfl) ⟨rfl, rfl, rfl⟩
theorem wr_give_x2 {d : Nat} {x : am_C} {c : cS} {m : mS} {o : Nat → Int64} {n : Nat} {a1 a2 a3 : Int32} (hc : am_W d km_A_give 0 [some (.ref 4), some (.int a1), some (.int a2), some (.int a3), none] [] (hC x c (hM m [am_la 1 o])) n 0 0 (am_th 2 n (hC x c (hM m [am_la 1 o])) (n + 1))) : am_W (d + 1) km_L_give 0 [some (.ref 4), some (.int a1), some (.int a2), some (.int a3), some (.ref 68), none] [] (hC x c (hM m [am_la 1 o])) n 0 0 (am_eq (some (.int (iI 1))) (hC x c (hM m [am_la 1 o])) (n + 1)) := by
  refine ar_aload kd_L_give_0 rfl ?_
  refine ar_iconst kd_L_give_2 ?_
  refine ar_aload_n kd_L_give_3 rfl ?_
  refine ar_iload_n kd_L_give_4 rfl ?_
  refine ar_iload_n kd_L_give_5 rfl ?_
  refine ar_iload_n kd_L_give_6 rfl ?_
  refine az_callx (z := km_A_give) (As := [_, _, _]) (ci := 0) rfl kd_L_give_7 kw_499 kw_500 rfl ks_A_give kz_A_give rfl rfl rfl rfl rfl (Nat.le_of_ble_eq_true rfl) (Nat.le_of_ble_eq_true rfl) (hp := 15) hc rfl ?_
  refine ar_astore kd_L_give_15 (Nat.le_of_ble_eq_true rfl) rfl ?_
  refine ar_iconst kd_L_give_17 ?_
  exact ar_ireturn kd_L_give_18 rfl (Nat.le_of_ble_eq_true rfl) (Nat.le_of_ble_eq_true rfl) ⟨rfl, rfl, rfl⟩
theorem wr_give_x0 {d : Nat} {x : am_C} {c : cS} {m : mS} {o : Nat → Int64} {n : Nat} {a1 a2 a3 : Int32} (hc : am_W d km_A_give 0 [some (.ref 4), some (.int a1), some (.int a2), some (.int a3), none] [] (hC x c (hM m [am_la 1 o])) n 0 0 (am_th 0 n (hC x c (hM m [am_la 1 o])) (n + 1))) : am_W (d + 1) km_L_give 0 [some (.ref 4), some (.int a1), some (.int a2), some (.int a3), some (.ref 68), none] [] (hC x c (hM m [am_la 1 o])) n 0 0 (am_eq (some (.int (iI 2))) (hC x c (hM m [am_la 1 o])) (n + 1)) := by
  refine ar_aload kd_L_give_0 rfl ?_
  refine ar_iconst kd_L_give_2 ?_
  refine ar_aload_n kd_L_give_3 rfl ?_
  refine ar_iload_n kd_L_give_4 rfl ?_
  refine ar_iload_n kd_L_give_5 rfl ?_
  refine ar_iload_n kd_L_give_6 rfl ?_
  refine az_callx (z := km_A_give) (As := [_, _, _]) (ci := 0) rfl kd_L_give_7 kw_499 kw_500 rfl ks_A_give kz_A_give rfl rfl rfl rfl rfl (Nat.le_of_ble_eq_true rfl) (Nat.le_of_ble_eq_true rfl) (hp := 19) hc rfl ?_
  refine ar_astore kd_L_give_19 (Nat.le_of_ble_eq_true rfl) rfl ?_
  refine ar_iconst kd_L_give_21 ?_
  exact ar_ireturn kd_L_give_22 rfl (Nat.le_of_ble_eq_true rfl) (Nat.le_of_ble_eq_true rfl) ⟨rfl, rfl, rfl⟩
theorem wr_held_ok {d : Nat} {x : am_C} {c c' : cS} {m : mS} {o : Nat → Int64} {n n' : Nat} {a1 : Int32} {v : Int32} (hc : am_W d km_A_held 0 [some (.ref 4), some (.int a1)] [] (hC x c (hM m [am_la 1 o])) n 0 0 (am_eq (some (.int v)) (hC x c' (hM m [am_la 1 o])) n')) : am_W (d + 1) km_L_held 0 [some (.ref 4), some (.int a1), some (.ref 68), none] [] (hC x c (hM m [am_la 1 o])) n 0 0 (am_eq (some (.int (iI 0))) (hC x c' (hM m [am_la 1 (vp_updL o 0 v.toInt64)])) n') := by
  refine ar_aload_n kd_L_held_0 rfl ?_
  refine ar_iconst kd_L_held_1 ?_
  refine ar_aload_n kd_L_held_2 rfl ?_
  refine ar_iload_n kd_L_held_3 rfl ?_
  refine az_callc (z := km_A_held) (As := [_]) (ci := 0) rfl kd_L_held_4 kw_512 kw_513 rfl ks_A_held kz_A_held rfl rfl rfl rfl rfl (Nat.le_of_ble_eq_true rfl) (Nat.le_of_ble_eq_true rfl) hc ?_
  refine ar_i2l kd_L_held_7 ?_
  refine az_last0 kd_L_held_8 ?_
  refine ar_goto (tg := 15) kd_L_held_9 (by decide) ?_
  refine ar_iconst kd_L_held_15 ?_
  exact ar_ireturn kd_L_held_16 rfl (Nat.le_of_ble_eq_true rfl) (Nat.le_of_ble_eq_true rfl) ⟨rfl, rfl, rfl⟩
theorem wr_held_x2 {d : Nat} {x : am_C} {c : cS} {m : mS} {o : Nat → Int64} {n : Nat} {a1 : Int32} (hc : am_W d km_A_held 0 [some (.ref 4), some (.int a1)] [] (hC x c (hM m [am_la 1 o])) n 0 0 (am_th 2 n (hC x c (hM m [am_la 1 o])) (n + 1))) : am_W (d + 1) km_L_held 0 [some (.ref 4), some (.int a1), some (.ref 68), none] [] (hC x c (hM m [am_la 1 o])) n 0 0 (am_eq (some (.int (iI 1))) (hC x c (hM m [am_la 1 o])) (n + 1)) := by
  refine ar_aload_n kd_L_held_0 rfl ?_
  refine ar_iconst kd_L_held_1 ?_
  refine ar_aload_n kd_L_held_2 rfl ?_
  refine ar_iload_n kd_L_held_3 rfl ?_
  refine az_callx (z := km_A_held) (As := [_]) (ci := 0) rfl kd_L_held_4 kw_512 kw_513 rfl ks_A_held kz_A_held rfl rfl rfl rfl rfl (Nat.le_of_ble_eq_true rfl) (Nat.le_of_ble_eq_true rfl) (hp := 12) hc rfl ?_
  refine ar_astore_n kd_L_held_12 (Nat.le_of_ble_eq_true rfl) rfl ?_
  refine ar_iconst kd_L_held_13 ?_
  exact ar_ireturn kd_L_held_14 rfl (Nat.le_of_ble_eq_true rfl) (Nat.le_of_ble_eq_true rfl) ⟨rfl, rfl, rfl⟩
theorem wr_left_ok {d : Nat} {x : am_C} {c c' : cS} {m : mS} {o : Nat → Int64} {n n' : Nat} {a1 : Int32} {v : Int32} (hc : am_W d km_A_left 0 [some (.ref 4), some (.int a1)] [] (hC x c (hM m [am_la 1 o])) n 0 0 (am_eq (some (.int v)) (hC x c' (hM m [am_la 1 o])) n')) : am_W (d + 1) km_L_left 0 [some (.ref 4), some (.int a1), some (.ref 68), none] [] (hC x c (hM m [am_la 1 o])) n 0 0 (am_eq (some (.int (iI 0))) (hC x c' (hM m [am_la 1 (vp_updL o 0 v.toInt64)])) n') := by
  refine ar_aload_n kd_L_left_0 rfl ?_
  refine ar_iconst kd_L_left_1 ?_
  refine ar_aload_n kd_L_left_2 rfl ?_
  refine ar_iload_n kd_L_left_3 rfl ?_
  refine az_callc (z := km_A_left) (As := [_]) (ci := 0) rfl kd_L_left_4 kw_519 kw_520 rfl ks_A_left kz_A_left rfl rfl rfl rfl rfl (Nat.le_of_ble_eq_true rfl) (Nat.le_of_ble_eq_true rfl) hc ?_
  refine ar_i2l kd_L_left_7 ?_
  refine az_last0 kd_L_left_8 ?_
  refine ar_goto (tg := 15) kd_L_left_9 (by decide) ?_
  refine ar_iconst kd_L_left_15 ?_
  exact ar_ireturn kd_L_left_16 rfl (Nat.le_of_ble_eq_true rfl) (Nat.le_of_ble_eq_true rfl) ⟨rfl, rfl, rfl⟩
theorem wr_left_x2 {d : Nat} {x : am_C} {c : cS} {m : mS} {o : Nat → Int64} {n : Nat} {a1 : Int32} (hc : am_W d km_A_left 0 [some (.ref 4), some (.int a1)] [] (hC x c (hM m [am_la 1 o])) n 0 0 (am_th 2 n (hC x c (hM m [am_la 1 o])) (n + 1))) : am_W (d + 1) km_L_left 0 [some (.ref 4), some (.int a1), some (.ref 68), none] [] (hC x c (hM m [am_la 1 o])) n 0 0 (am_eq (some (.int (iI 1))) (hC x c (hM m [am_la 1 o])) (n + 1)) := by
  refine ar_aload_n kd_L_left_0 rfl ?_
  refine ar_iconst kd_L_left_1 ?_
  refine ar_aload_n kd_L_left_2 rfl ?_
  refine ar_iload_n kd_L_left_3 rfl ?_
  refine az_callx (z := km_A_left) (As := [_]) (ci := 0) rfl kd_L_left_4 kw_519 kw_520 rfl ks_A_left kz_A_left rfl rfl rfl rfl rfl (Nat.le_of_ble_eq_true rfl) (Nat.le_of_ble_eq_true rfl) (hp := 12) hc rfl ?_
  refine ar_astore_n kd_L_left_12 (Nat.le_of_ble_eq_true rfl) rfl ?_
  refine ar_iconst kd_L_left_13 ?_
  exact ar_ireturn kd_L_left_14 rfl (Nat.le_of_ble_eq_true rfl) (Nat.le_of_ble_eq_true rfl) ⟨rfl, rfl, rfl⟩
theorem wr_bar_ok {d : Nat} {x : am_C} {c c' : cS} {m : mS} {o : Nat → Int64} {n n' : Nat} {a1 : Int32} {v : Int32} (hc : am_W d km_A_bar 0 [some (.ref 4), some (.int a1)] [] (hC x c (hM m [am_la 1 o])) n 0 0 (am_eq (some (.int v)) (hC x c' (hM m [am_la 1 o])) n')) : am_W (d + 1) km_L_bar 0 [some (.ref 4), some (.int a1), some (.ref 68), none] [] (hC x c (hM m [am_la 1 o])) n 0 0 (am_eq (some (.int (iI 0))) (hC x c' (hM m [am_la 1 (vp_updL o 0 v.toInt64)])) n') := by
  refine ar_aload_n kd_L_bar_0 rfl ?_
  refine ar_iconst kd_L_bar_1 ?_
  refine ar_aload_n kd_L_bar_2 rfl ?_
  refine ar_iload_n kd_L_bar_3 rfl ?_
  refine az_callc (z := km_A_bar) (As := [_]) (ci := 0) rfl kd_L_bar_4 kw_526 kw_527 rfl ks_A_bar kz_A_bar rfl rfl rfl rfl rfl (Nat.le_of_ble_eq_true rfl) (Nat.le_of_ble_eq_true rfl) hc ?_
  refine ar_i2l kd_L_bar_7 ?_
  refine az_last0 kd_L_bar_8 ?_
  refine ar_goto (tg := 15) kd_L_bar_9 (by decide) ?_
  refine ar_iconst kd_L_bar_15 ?_
  exact ar_ireturn kd_L_bar_16 rfl (Nat.le_of_ble_eq_true rfl) (Nat.le_of_ble_eq_true rfl) ⟨rfl, rfl, rfl⟩
theorem wr_bar_x2 {d : Nat} {x : am_C} {c : cS} {m : mS} {o : Nat → Int64} {n : Nat} {a1 : Int32} (hc : am_W d km_A_bar 0 [some (.ref 4), some (.int a1)] [] (hC x c (hM m [am_la 1 o])) n 0 0 (am_th 2 n (hC x c (hM m [am_la 1 o])) (n + 1))) : am_W (d + 1) km_L_bar 0 [some (.ref 4), some (.int a1), some (.ref 68), none] [] (hC x c (hM m [am_la 1 o])) n 0 0 (am_eq (some (.int (iI 1))) (hC x c (hM m [am_la 1 o])) (n + 1)) := by
  refine ar_aload_n kd_L_bar_0 rfl ?_
  refine ar_iconst kd_L_bar_1 ?_
  refine ar_aload_n kd_L_bar_2 rfl ?_
  refine ar_iload_n kd_L_bar_3 rfl ?_
  refine az_callx (z := km_A_bar) (As := [_]) (ci := 0) rfl kd_L_bar_4 kw_526 kw_527 rfl ks_A_bar kz_A_bar rfl rfl rfl rfl rfl (Nat.le_of_ble_eq_true rfl) (Nat.le_of_ble_eq_true rfl) (hp := 12) hc rfl ?_
  refine ar_astore_n kd_L_bar_12 (Nat.le_of_ble_eq_true rfl) rfl ?_
  refine ar_iconst kd_L_bar_13 ?_
  exact ar_ireturn kd_L_bar_14 rfl (Nat.le_of_ble_eq_true rfl) (Nat.le_of_ble_eq_true rfl) ⟨rfl, rfl, rfl⟩
theorem wr_change_ok {d : Nat} {x : am_C} {c c' : cS} {m : mS} {o : Nat → Int64} {n n' : Nat} {a1 a2 : Int32} {v : Int32} (hc : am_W d km_A_change 0 [some (.ref 4), some (.int a1), some (.int a2)] [] (hC x c (hM m [am_la 1 o])) n 0 0 (am_eq (some (.int v)) (hC x c' (hM m [am_la 1 o])) n')) : am_W (d + 1) km_L_change 0 [some (.ref 4), some (.int a1), some (.int a2), some (.ref 68), none] [] (hC x c (hM m [am_la 1 o])) n 0 0 (am_eq (some (.int (iI 0))) (hC x c' (hM m [am_la 1 (vp_updL o 0 v.toInt64)])) n') := by
  refine ar_aload_n kd_L_change_0 rfl ?_
  refine ar_iconst kd_L_change_1 ?_
  refine ar_aload_n kd_L_change_2 rfl ?_
  refine ar_iload_n kd_L_change_3 rfl ?_
  refine ar_iload_n kd_L_change_4 rfl ?_
  refine az_callc (z := km_A_change) (As := [_, _]) (ci := 0) rfl kd_L_change_5 kw_540 kw_541 rfl ks_A_change kz_A_change rfl rfl rfl rfl rfl (Nat.le_of_ble_eq_true rfl) (Nat.le_of_ble_eq_true rfl) hc ?_
  refine ar_i2l kd_L_change_8 ?_
  refine az_last0 kd_L_change_9 ?_
  refine ar_goto (tg := 21) kd_L_change_10 (by decide) ?_
  refine ar_iconst kd_L_change_21 ?_
  exact ar_ireturn kd_L_change_22 rfl (Nat.le_of_ble_eq_true rfl) (Nat.le_of_ble_eq_true rfl) ⟨rfl, rfl, rfl⟩
theorem wr_change_x2 {d : Nat} {x : am_C} {c : cS} {m : mS} {o : Nat → Int64} {n : Nat} {a1 a2 : Int32} (hc : am_W d km_A_change 0 [some (.ref 4), some (.int a1), some (.int a2)] [] (hC x c (hM m [am_la 1 o])) n 0 0 (am_th 2 n (hC x c (hM m [am_la 1 o])) (n + 1))) : am_W (d + 1) km_L_change 0 [some (.ref 4), some (.int a1), some (.int a2), some (.ref 68), none] [] (hC x c (hM m [am_la 1 o])) n 0 0 (am_eq (some (.int (iI 1))) (hC x c (hM m [am_la 1 o])) (n + 1)) := by
  refine ar_aload_n kd_L_change_0 rfl ?_
  refine ar_iconst kd_L_change_1 ?_
  refine ar_aload_n kd_L_change_2 rfl ?_
  refine ar_iload_n kd_L_change_3 rfl ?_
  refine ar_iload_n kd_L_change_4 rfl ?_
  refine az_callx (z := km_A_change) (As := [_, _]) (ci := 0) rfl kd_L_change_5 kw_540 kw_541 rfl ks_A_change kz_A_change rfl rfl rfl rfl rfl (Nat.le_of_ble_eq_true rfl) (Nat.le_of_ble_eq_true rfl) (hp := 13) hc rfl ?_
  refine ar_astore kd_L_change_13 (Nat.le_of_ble_eq_true rfl) rfl ?_
  refine ar_iconst kd_L_change_15 ?_
  exact ar_ireturn kd_L_change_16 rfl (Nat.le_of_ble_eq_true rfl) (Nat.le_of_ble_eq_true rfl) ⟨rfl, rfl, rfl⟩
theorem wr_change_x0 {d : Nat} {x : am_C} {c : cS} {m : mS} {o : Nat → Int64} {n : Nat} {a1 a2 : Int32} (hc : am_W d km_A_change 0 [some (.ref 4), some (.int a1), some (.int a2)] [] (hC x c (hM m [am_la 1 o])) n 0 0 (am_th 0 n (hC x c (hM m [am_la 1 o])) (n + 1))) : am_W (d + 1) km_L_change 0 [some (.ref 4), some (.int a1), some (.int a2), some (.ref 68), none] [] (hC x c (hM m [am_la 1 o])) n 0 0 (am_eq (some (.int (iI 2))) (hC x c (hM m [am_la 1 o])) (n + 1)) := by
  refine ar_aload_n kd_L_change_0 rfl ?_
  refine ar_iconst kd_L_change_1 ?_
  refine ar_aload_n kd_L_change_2 rfl ?_
  refine ar_iload_n kd_L_change_3 rfl ?_
  refine ar_iload_n kd_L_change_4 rfl ?_
  refine az_callx (z := km_A_change) (As := [_, _]) (ci := 0) rfl kd_L_change_5 kw_540 kw_541 rfl ks_A_change kz_A_change rfl rfl rfl rfl rfl (Nat.le_of_ble_eq_true rfl) (Nat.le_of_ble_eq_true rfl) (hp := 17) hc rfl ?_
  refine ar_astore kd_L_change_17 (Nat.le_of_ble_eq_true rfl) rfl ?_
  refine ar_iconst kd_L_change_19 ?_
  exact ar_ireturn kd_L_change_20 rfl (Nat.le_of_ble_eq_true rfl) (Nat.le_of_ble_eq_true rfl) ⟨rfl, rfl, rfl⟩
theorem wr_undo_ok {d : Nat} {x : am_C} {c c' : cS} {m : mS} {o : Nat → Int64} {n n' : Nat} {a1 : Int32} {v : Int32} (hc : am_W d km_A_undo 0 [some (.ref 4), some (.int a1), none] [] (hC x c (hM m [am_la 1 o])) n 0 0 (am_eq (some (.int v)) (hC x c' (hM m [am_la 1 o])) n')) : am_W (d + 1) km_L_undo 0 [some (.ref 4), some (.int a1), some (.ref 68), none] [] (hC x c (hM m [am_la 1 o])) n 0 0 (am_eq (some (.int (iI 0))) (hC x c' (hM m [am_la 1 (vp_updL o 0 v.toInt64)])) n') := by
  refine ar_aload_n kd_L_undo_0 rfl ?_
  refine ar_iconst kd_L_undo_1 ?_
  refine ar_aload_n kd_L_undo_2 rfl ?_
  refine ar_iload_n kd_L_undo_3 rfl ?_
  refine az_callc (z := km_A_undo) (As := [_]) (ci := 0) rfl kd_L_undo_4 kw_556 kw_557 rfl ks_A_undo kz_A_undo rfl rfl rfl rfl rfl (Nat.le_of_ble_eq_true rfl) (Nat.le_of_ble_eq_true rfl) hc ?_
  refine ar_i2l kd_L_undo_7 ?_
  refine az_last0 kd_L_undo_8 ?_
  refine ar_goto (tg := 18) kd_L_undo_9 (by decide) ?_
  refine ar_iconst kd_L_undo_18 ?_
  exact ar_ireturn kd_L_undo_19 rfl (Nat.le_of_ble_eq_true rfl) (Nat.le_of_ble_eq_true rfl) ⟨rfl, rfl, rfl⟩
theorem wr_undo_x2 {d : Nat} {x : am_C} {c : cS} {m : mS} {o : Nat → Int64} {n : Nat} {a1 : Int32} (hc : am_W d km_A_undo 0 [some (.ref 4), some (.int a1), none] [] (hC x c (hM m [am_la 1 o])) n 0 0 (am_th 2 n (hC x c (hM m [am_la 1 o])) (n + 1))) : am_W (d + 1) km_L_undo 0 [some (.ref 4), some (.int a1), some (.ref 68), none] [] (hC x c (hM m [am_la 1 o])) n 0 0 (am_eq (some (.int (iI 1))) (hC x c (hM m [am_la 1 o])) (n + 1)) := by
  refine ar_aload_n kd_L_undo_0 rfl ?_
  refine ar_iconst kd_L_undo_1 ?_
  refine ar_aload_n kd_L_undo_2 rfl ?_
  refine ar_iload_n kd_L_undo_3 rfl ?_
  refine az_callx (z := km_A_undo) (As := [_]) (ci := 0) rfl kd_L_undo_4 kw_556 kw_557 rfl ks_A_undo kz_A_undo rfl rfl rfl rfl rfl (Nat.le_of_ble_eq_true rfl) (Nat.le_of_ble_eq_true rfl) (hp := 12) hc rfl ?_
  refine ar_astore_n kd_L_undo_12 (Nat.le_of_ble_eq_true rfl) rfl ?_
  refine ar_iconst kd_L_undo_13 ?_
  exact ar_ireturn kd_L_undo_14 rfl (Nat.le_of_ble_eq_true rfl) (Nat.le_of_ble_eq_true rfl) ⟨rfl, rfl, rfl⟩
theorem wr_undo_x3 {d : Nat} {x : am_C} {c : cS} {m : mS} {o : Nat → Int64} {n : Nat} {a1 : Int32} (hc : am_W d km_A_undo 0 [some (.ref 4), some (.int a1), none] [] (hC x c (hM m [am_la 1 o])) n 0 0 (am_th 3 n (hC x c (hM m [am_la 1 o])) (n + 1))) : am_W (d + 1) km_L_undo 0 [some (.ref 4), some (.int a1), some (.ref 68), none] [] (hC x c (hM m [am_la 1 o])) n 0 0 (am_eq (some (.int (iI 2))) (hC x c (hM m [am_la 1 o])) (n + 1)) := by
  refine ar_aload_n kd_L_undo_0 rfl ?_
  refine ar_iconst kd_L_undo_1 ?_
  refine ar_aload_n kd_L_undo_2 rfl ?_
  refine ar_iload_n kd_L_undo_3 rfl ?_
  refine az_callx (z := km_A_undo) (As := [_]) (ci := 0) rfl kd_L_undo_4 kw_556 kw_557 rfl ks_A_undo kz_A_undo rfl rfl rfl rfl rfl (Nat.le_of_ble_eq_true rfl) (Nat.le_of_ble_eq_true rfl) (hp := 15) hc rfl ?_
  refine ar_astore_n kd_L_undo_15 (Nat.le_of_ble_eq_true rfl) rfl ?_
  refine ar_iconst kd_L_undo_16 ?_
  exact ar_ireturn kd_L_undo_17 rfl (Nat.le_of_ble_eq_true rfl) (Nat.le_of_ble_eq_true rfl) ⟨rfl, rfl, rfl⟩
theorem wr_refused_ok {d : Nat} {x : am_C} {c c' : cS} {m : mS} {o : Nat → Int64} {n n' : Nat} {a1 : Int32} {v : Int32} (hc : am_W d km_A_refused 0 [some (.ref 4), some (.int a1)] [] (hC x c (hM m [am_la 1 o])) n 0 0 (am_eq (some (.int v)) (hC x c' (hM m [am_la 1 o])) n')) : am_W (d + 1) km_L_refused 0 [some (.ref 4), some (.int a1), some (.ref 68), none] [] (hC x c (hM m [am_la 1 o])) n 0 0 (am_eq (some (.int (iI 0))) (hC x c' (hM m [am_la 1 (vp_updL o 0 v.toInt64)])) n') := by
  refine ar_aload_n kd_L_refused_0 rfl ?_
  refine ar_iconst kd_L_refused_1 ?_
  refine ar_aload_n kd_L_refused_2 rfl ?_
  refine ar_iload_n kd_L_refused_3 rfl ?_
  refine az_callc (z := km_A_refused) (As := [_]) (ci := 0) rfl kd_L_refused_4 kw_581 kw_582 rfl ks_A_refused kz_A_refused rfl rfl rfl rfl rfl (Nat.le_of_ble_eq_true rfl) (Nat.le_of_ble_eq_true rfl) hc ?_
  refine ar_i2l kd_L_refused_7 ?_
  refine az_last0 kd_L_refused_8 ?_
  refine ar_goto (tg := 15) kd_L_refused_9 (by decide) ?_
  refine ar_iconst kd_L_refused_15 ?_
  exact ar_ireturn kd_L_refused_16 rfl (Nat.le_of_ble_eq_true rfl) (Nat.le_of_ble_eq_true rfl) ⟨rfl, rfl, rfl⟩
theorem wr_refused_x2 {d : Nat} {x : am_C} {c : cS} {m : mS} {o : Nat → Int64} {n : Nat} {a1 : Int32} (hc : am_W d km_A_refused 0 [some (.ref 4), some (.int a1)] [] (hC x c (hM m [am_la 1 o])) n 0 0 (am_th 2 n (hC x c (hM m [am_la 1 o])) (n + 1))) : am_W (d + 1) km_L_refused 0 [some (.ref 4), some (.int a1), some (.ref 68), none] [] (hC x c (hM m [am_la 1 o])) n 0 0 (am_eq (some (.int (iI 1))) (hC x c (hM m [am_la 1 o])) (n + 1)) := by
  refine ar_aload_n kd_L_refused_0 rfl ?_
  refine ar_iconst kd_L_refused_1 ?_
  refine ar_aload_n kd_L_refused_2 rfl ?_
  refine ar_iload_n kd_L_refused_3 rfl ?_
  refine az_callx (z := km_A_refused) (As := [_]) (ci := 0) rfl kd_L_refused_4 kw_581 kw_582 rfl ks_A_refused kz_A_refused rfl rfl rfl rfl rfl (Nat.le_of_ble_eq_true rfl) (Nat.le_of_ble_eq_true rfl) (hp := 12) hc rfl ?_
  refine ar_astore_n kd_L_refused_12 (Nat.le_of_ble_eq_true rfl) rfl ?_
  refine ar_iconst kd_L_refused_13 ?_
  exact ar_ireturn kd_L_refused_14 rfl (Nat.le_of_ble_eq_true rfl) (Nat.le_of_ble_eq_true rfl) ⟨rfl, rfl, rfl⟩
theorem wr_average_ok {d : Nat} {x : am_C} {c c' : cS} {m : mS} {o : Nat → Int64} {n n' : Nat} {a1 : Int32} {v : Int32} (hc : am_W d km_A_average 0 [some (.ref 4), some (.int a1), none] [] (hC x c (hM m [am_la 1 o])) n 0 0 (am_eq (some (.int v)) (hC x c' (hM m [am_la 1 o])) n')) : am_W (d + 1) km_L_average 0 [some (.ref 4), some (.int a1), some (.ref 68), none] [] (hC x c (hM m [am_la 1 o])) n 0 0 (am_eq (some (.int (iI 0))) (hC x c' (hM m [am_la 1 (vp_updL o 0 v.toInt64)])) n') := by
  refine ar_aload_n kd_L_average_0 rfl ?_
  refine ar_iconst kd_L_average_1 ?_
  refine ar_aload_n kd_L_average_2 rfl ?_
  refine ar_iload_n kd_L_average_3 rfl ?_
  refine az_callc (z := km_A_average) (As := [_]) (ci := 0) rfl kd_L_average_4 kw_589 kw_590 rfl ks_A_average kz_A_average rfl rfl rfl rfl rfl (Nat.le_of_ble_eq_true rfl) (Nat.le_of_ble_eq_true rfl) hc ?_
  refine ar_i2l kd_L_average_7 ?_
  refine az_last0 kd_L_average_8 ?_
  refine ar_goto (tg := 18) kd_L_average_9 (by decide) ?_
  refine ar_iconst kd_L_average_18 ?_
  exact ar_ireturn kd_L_average_19 rfl (Nat.le_of_ble_eq_true rfl) (Nat.le_of_ble_eq_true rfl) ⟨rfl, rfl, rfl⟩
theorem wr_average_x2 {d : Nat} {x : am_C} {c : cS} {m : mS} {o : Nat → Int64} {n : Nat} {a1 : Int32} (hc : am_W d km_A_average 0 [some (.ref 4), some (.int a1), none] [] (hC x c (hM m [am_la 1 o])) n 0 0 (am_th 2 n (hC x c (hM m [am_la 1 o])) (n + 1))) : am_W (d + 1) km_L_average 0 [some (.ref 4), some (.int a1), some (.ref 68), none] [] (hC x c (hM m [am_la 1 o])) n 0 0 (am_eq (some (.int (iI 1))) (hC x c (hM m [am_la 1 o])) (n + 1)) := by
  refine ar_aload_n kd_L_average_0 rfl ?_
  refine ar_iconst kd_L_average_1 ?_
  refine ar_aload_n kd_L_average_2 rfl ?_
  refine ar_iload_n kd_L_average_3 rfl ?_
  refine az_callx (z := km_A_average) (As := [_]) (ci := 0) rfl kd_L_average_4 kw_589 kw_590 rfl ks_A_average kz_A_average rfl rfl rfl rfl rfl (Nat.le_of_ble_eq_true rfl) (Nat.le_of_ble_eq_true rfl) (hp := 12) hc rfl ?_
  refine ar_astore_n kd_L_average_12 (Nat.le_of_ble_eq_true rfl) rfl ?_
  refine ar_iconst kd_L_average_13 ?_
  exact ar_ireturn kd_L_average_14 rfl (Nat.le_of_ble_eq_true rfl) (Nat.le_of_ble_eq_true rfl) ⟨rfl, rfl, rfl⟩
theorem wr_average_x4 {d : Nat} {x : am_C} {c : cS} {m : mS} {o : Nat → Int64} {n : Nat} {a1 : Int32} (hc : am_W d km_A_average 0 [some (.ref 4), some (.int a1), none] [] (hC x c (hM m [am_la 1 o])) n 0 0 (am_th 4 n (hC x c (hM m [am_la 1 o])) (n + 1))) : am_W (d + 1) km_L_average 0 [some (.ref 4), some (.int a1), some (.ref 68), none] [] (hC x c (hM m [am_la 1 o])) n 0 0 (am_eq (some (.int (iI 2))) (hC x c (hM m [am_la 1 o])) (n + 1)) := by
  refine ar_aload_n kd_L_average_0 rfl ?_
  refine ar_iconst kd_L_average_1 ?_
  refine ar_aload_n kd_L_average_2 rfl ?_
  refine ar_iload_n kd_L_average_3 rfl ?_
  refine az_callx (z := km_A_average) (As := [_]) (ci := 0) rfl kd_L_average_4 kw_589 kw_590 rfl ks_A_average kz_A_average rfl rfl rfl rfl rfl (Nat.le_of_ble_eq_true rfl) (Nat.le_of_ble_eq_true rfl) (hp := 15) hc rfl ?_
  refine ar_astore_n kd_L_average_15 (Nat.le_of_ble_eq_true rfl) rfl ?_
  refine ar_iconst kd_L_average_16 ?_
  exact ar_ireturn kd_L_average_17 rfl (Nat.le_of_ble_eq_true rfl) (Nat.le_of_ble_eq_true rfl) ⟨rfl, rfl, rfl⟩
