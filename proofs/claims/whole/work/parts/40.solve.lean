/-! solve and count -/
theorem hp_ex {x : am_C} {c : cS} {t : List am_C} (v : Int) : (hC x c t).set 4 (am_ob 0 [.ref 6, .ref 7, .ref 14, .ref 5, .int (iI v)]) = hC x (cs_ex c v) t := rfl
theorem cg_ex_ex (c : cS) (v : Int) : cg_ex (cs_ex c v) = v := rfl
theorem cK_ex {c : cS} (h : cK c) (v : Int) : cK (cs_ex c v) := h
theorem cA_ex {c : cS} (h : cA c) (v : Int) : cA (cs_ex c v) := h
theorem cP_ex {c : cS} (h : cP c) (v : Int) : cP (cs_ex c v) := h
theorem ck_ch_rg (c : cS) : -1 ≤ ck_ch c ∧ ck_ch c ≤ 1000000 := by
  unfold ck_ch
  split
  · omega
  · have := Int.natCast_nonneg (2 ^ ck_na c (cg_nL c))
    omega
abbrev ck_sx (c : cS) (z : Int) : Prop := 0 ≤ ck_ch c ∧ ck_ch c ≤ z
def ck_s1 (c : cS) (z : Int) : cS := cs_ex c (zb (ck_sx c z))
def ck_s2 (c : cS) (z : Int) : cS := ck_clear (ck_s1 c z)
def ck_s3 (c : cS) (z : Int) : cS := ck_read (ck_s2 c z) (cg_nL (ck_s2 c z))
def ck_s4 (c : cS) (z : Int) : cS := if ck_sx c z then ck_b6 (ck_s3 c z) (cg_nL (ck_s3 c z)) else ck_rule (ck_s3 c z) (cg_nL (ck_s3 c z))
theorem ck_s1_ex (c : cS) (z : Int) : cg_ex (ck_s1 c z) = zb (ck_sx c z) := cg_ex_ex _ _
theorem ck_s3_ex (c : cS) (z : Int) : cg_ex (ck_s3 c z) = zb (ck_sx c z) := (ck_read_keep (P := fun c => cg_ex c) (fun _ _ => rfl) (fun _ _ => rfl) (ck_s2 c z) _).trans ((ck_clear_keep (P := fun c => cg_ex c) (fun _ _ _ _ => rfl) (ck_s1 c z)).trans (ck_s1_ex c z))
theorem ck_s1_ok {c : cS} (hK : cK c) (hA : cA c) (hP : cP c) (z : Int) : cK (ck_s1 c z) ∧ cA (ck_s1 c z) ∧ cP (ck_s1 c z) := ⟨cK_ex hK _, cA_ex hA _, cP_ex hP _⟩
theorem ck_s2_ok {c : cS} (hK : cK c) (hA : cA c) (hP : cP c) (z : Int) : cK (ck_s2 c z) ∧ cA (ck_s2 c z) ∧ cP (ck_s2 c z) := by
  obtain ⟨h1, h2, h3⟩ := ck_s1_ok hK hA hP z
  exact ⟨ck_clear_K h1, cA_clear h2, cP_clear h1 h3⟩
theorem ck_s3_ok {c : cS} (hK : cK c) (hA : cA c) (hP : cP c) (z : Int) : cK (ck_s3 c z) ∧ cA (ck_s3 c z) ∧ cP (ck_s3 c z) := by
  obtain ⟨h1, h2, h3⟩ := ck_s2_ok hK hA hP z
  exact ck_read_ok h1 h2 h3 _
theorem ck_s4_ok {c : cS} (hK : cK c) (hA : cA c) (hP : cP c) (z : Int) : cK (ck_s4 c z) ∧ cA (ck_s4 c z) ∧ cP (ck_s4 c z) := by
  obtain ⟨h1, h2, h3⟩ := ck_s3_ok hK hA hP z
  have hL := h1.nn.2
  unfold ck_s4
  split
  · have := ck_b6_ok h1 h2 h3 _ hL
    exact ⟨this.1, this.2.1, this.2.2.1⟩
  · exact ck_rule_ok h1 h2 h3 _ hL
set_option maxHeartbeats 1000000 in
set_option maxRecDepth 20000 in
theorem sp_A_solve {d : Nat} {x : am_C} {c : cS} {t : List am_C} {n : Nat} {z : Int} (hK : cK c) (hA : cA c) (hP : cP c) (hz : 0 ≤ z ∧ z ≤ 40000) : am_W (d + 18) km_A_solve 0 [some (.ref 4), some (.int (iI z)), none] [] (hC x c t) n 0 0 (am_eq (some (.int (iI (ck_tot (ck_s4 c z))))) (hC x (ck_s4 c z) t) n) := by
  have hr := ck_ch_rg c
  obtain ⟨a1, a2, a3⟩ := ck_s1_ok hK hA hP z
  obtain ⟨b1, b2, b3⟩ := ck_s2_ok hK hA hP z
  obtain ⟨c1, c2, c3⟩ := ck_s3_ok hK hA hP z
  obtain ⟨f1, f2, f3⟩ := ck_s4_ok hK hA hP z
  have ex3 := ck_s3_ex c z
  refine ar_iload_n kd_A_solve_0 rfl ?_
  refine ar_iconst kd_A_solve_1 ?_
  refine az_ldc (u := 40000) kd_A_solve_2 kw_435 (by decide) ?_
  refine az_calls (z := km_A_needRange) (As := [_, _, _]) kd_A_solve_4 kw_257 kw_258 kw_1 kz_A_needRange rfl rfl rfl rfl (Nat.le_of_ble_eq_true rfl) (Nat.le_of_ble_eq_true rfl) rfl (am_deep (sp_A_needRange_ok (d := 0) (by omega) (by omega) (by omega) (by omega)) (Nat.zero_le _)) ?_
  refine ar_aload_n kd_A_solve_7 rfl ?_
  refine ar_get (ci := 0) (k := 0) kd_A_solve_8 rfl kw_164 (by decide) rfl rfl ?_
  refine az_callv (z := km_F_countChoices) (As := []) (ci := 1) kd_A_solve_11 kw_188 kw_189 rfl ks_F_countChoices kz_F_countChoices rfl rfl rfl rfl rfl (Nat.le_of_ble_eq_true rfl) (Nat.le_of_ble_eq_true rfl) rfl (am_deep (sp_F_countChoices (d := 0) hK hP.1.G) (by omega)) ?_
  refine ar_istore_n kd_A_solve_14 (Nat.le_of_ble_eq_true rfl) rfl ?_
  dsimp only [List.set]
  refine ar_aload_n kd_A_solve_15 rfl ?_
  refine ar_iload_n kd_A_solve_16 rfl ?_
  refine az_if_lt (tg := 29) kd_A_solve_17 (by decide) (fun q1 => ?_) (fun q1 => ?_)
  · have e0 : zb (ck_sx c z) = 0 := if_neg (by omega)
    refine ar_iconst kd_A_solve_29 ?_
    refine ar_put (ci := 0) (k := 4) kd_A_solve_30 rfl kw_168 (by decide) rfl (Nat.le_of_ble_eq_true rfl) rfl (Nat.le_of_ble_eq_true rfl) rfl rfl rfl ?_
    refine ar_heap (hp_ex _) ?_
    refine ar_heap (h' := hC x (ck_s1 c z) t) (by unfold ck_s1; rw [e0]) ?_
    refine ar_aload_n kd_A_solve_33 rfl ?_
    refine ar_get (ci := 0) (k := 0) kd_A_solve_34 rfl kw_164 (by decide) rfl rfl ?_
    refine az_callv (z := km_F_clear) (As := []) (ci := 1) kd_A_solve_37 kw_436 kw_437 rfl ks_F_clear kz_F_clear rfl rfl rfl rfl rfl (Nat.le_of_ble_eq_true rfl) (Nat.le_of_ble_eq_true rfl) rfl (am_deep (sp_F_clear (d := 0) a1) (by omega)) ?_
    refine ar_heap (h' := hC x (ck_s2 c z) t) rfl ?_
    refine ar_aload_n kd_A_solve_40 rfl ?_
    refine ar_get (ci := 0) (k := 3) kd_A_solve_41 rfl kw_167 (by decide) rfl rfl ?_
    refine az_callv (z := km_S_readAllowed) (As := []) (ci := 4) kd_A_solve_44 kw_448 kw_449 rfl ks_S_readAllowed kz_S_readAllowed rfl rfl rfl rfl rfl (Nat.le_of_ble_eq_true rfl) (Nat.le_of_ble_eq_true rfl) rfl (am_deep (sp_S_readAllowed (d := 0) b1 b2 b3) (by omega)) ?_
    refine ar_heap (h' := hC x (ck_s3 c z) t) rfl ?_
    refine ar_aload_n kd_A_solve_47 rfl ?_
    refine ar_get (ci := 0) (k := 4) kd_A_solve_48 rfl kw_168 (by decide) rfl rfl ?_
    refine az_if_eq (tg := 64) kd_A_solve_51 (by decide) (fun qe => ?_) (fun qe => ?_)
    · have e4 : ck_s4 c z = ck_rule (ck_s3 c z) (cg_nL (ck_s3 c z)) := if_neg (fun q => by rw [ex3, zb, if_pos q] at qe; omega)
      refine ar_aload_n kd_A_solve_64 rfl ?_
      refine ar_get (ci := 0) (k := 3) kd_A_solve_65 rfl kw_167 (by decide) rfl rfl ?_
      refine az_callv (z := km_S_allocateByRule) (As := []) (ci := 4) kd_A_solve_68 kw_495 kw_463 rfl ks_S_allocateByRule kz_S_allocateByRule rfl rfl rfl rfl rfl (Nat.le_of_ble_eq_true rfl) (Nat.le_of_ble_eq_true rfl) rfl (am_deep (sp_S_allocateByRule (d := 0) c1 c2 c3) (by omega)) ?_
      refine ar_heap (h' := hC x (ck_s4 c z) t) (by rw [e4]) ?_
      refine ar_aload_n kd_A_solve_71 rfl ?_
      refine ar_get (ci := 0) (k := 0) kd_A_solve_72 rfl kw_164 (by decide) rfl rfl ?_
      refine az_callv (z := km_F_totalCost) (As := []) (ci := 1) kd_A_solve_75 kw_240 kw_241 rfl ks_F_totalCost kz_F_totalCost rfl rfl rfl rfl rfl (Nat.le_of_ble_eq_true rfl) (Nat.le_of_ble_eq_true rfl) rfl (am_deep (sp_F_totalCostC (d := 0) f1 f3.1.G) (by omega)) ?_
      refine ar_ireturn kd_A_solve_78 rfl (Nat.le_of_ble_eq_true rfl) (Nat.le_of_ble_eq_true rfl) ?_
      exact ⟨rfl, rfl, rfl⟩
    · have e4 : ck_s4 c z = ck_b6 (ck_s3 c z) (cg_nL (ck_s3 c z)) := if_pos (Decidable.byContradiction fun q => by rw [ex3, zb, if_neg q] at qe; omega)
      refine ar_aload_n kd_A_solve_54 rfl ?_
      refine ar_get (ci := 0) (k := 3) kd_A_solve_55 rfl kw_167 (by decide) rfl rfl ?_
      refine az_callv (z := km_S_allocateAtLeastCost) (As := []) (ci := 4) kd_A_solve_58 kw_453 kw_454 rfl ks_S_allocateAtLeastCost kz_S_allocateAtLeastCost rfl rfl rfl rfl rfl (Nat.le_of_ble_eq_true rfl) (Nat.le_of_ble_eq_true rfl) rfl (am_deep (sp_S_allocateAtLeastCost (d := 0) c1 c2 c3) (by omega)) ?_
      refine ar_goto (tg := 71) kd_A_solve_61 (by decide) ?_
      refine ar_heap (h' := hC x (ck_s4 c z) t) (by rw [e4]) ?_
      refine ar_aload_n kd_A_solve_71 rfl ?_
      refine ar_get (ci := 0) (k := 0) kd_A_solve_72 rfl kw_164 (by decide) rfl rfl ?_
      refine az_callv (z := km_F_totalCost) (As := []) (ci := 1) kd_A_solve_75 kw_240 kw_241 rfl ks_F_totalCost kz_F_totalCost rfl rfl rfl rfl rfl (Nat.le_of_ble_eq_true rfl) (Nat.le_of_ble_eq_true rfl) rfl (am_deep (sp_F_totalCostC (d := 0) f1 f3.1.G) (by omega)) ?_
      refine ar_ireturn kd_A_solve_78 rfl (Nat.le_of_ble_eq_true rfl) (Nat.le_of_ble_eq_true rfl) ?_
      exact ⟨rfl, rfl, rfl⟩
  · refine ar_iload_n kd_A_solve_20 rfl ?_
    refine ar_iload_n kd_A_solve_21 rfl ?_
    refine az_icmp_gt (tg := 29) kd_A_solve_22 (by decide) (fun q3 => ?_) (fun q3 => ?_)
    · have e0 : zb (ck_sx c z) = 0 := if_neg (by omega)
      refine ar_iconst kd_A_solve_29 ?_
      refine ar_put (ci := 0) (k := 4) kd_A_solve_30 rfl kw_168 (by decide) rfl (Nat.le_of_ble_eq_true rfl) rfl (Nat.le_of_ble_eq_true rfl) rfl rfl rfl ?_
      refine ar_heap (hp_ex _) ?_
      refine ar_heap (h' := hC x (ck_s1 c z) t) (by unfold ck_s1; rw [e0]) ?_
      refine ar_aload_n kd_A_solve_33 rfl ?_
      refine ar_get (ci := 0) (k := 0) kd_A_solve_34 rfl kw_164 (by decide) rfl rfl ?_
      refine az_callv (z := km_F_clear) (As := []) (ci := 1) kd_A_solve_37 kw_436 kw_437 rfl ks_F_clear kz_F_clear rfl rfl rfl rfl rfl (Nat.le_of_ble_eq_true rfl) (Nat.le_of_ble_eq_true rfl) rfl (am_deep (sp_F_clear (d := 0) a1) (by omega)) ?_
      refine ar_heap (h' := hC x (ck_s2 c z) t) rfl ?_
      refine ar_aload_n kd_A_solve_40 rfl ?_
      refine ar_get (ci := 0) (k := 3) kd_A_solve_41 rfl kw_167 (by decide) rfl rfl ?_
      refine az_callv (z := km_S_readAllowed) (As := []) (ci := 4) kd_A_solve_44 kw_448 kw_449 rfl ks_S_readAllowed kz_S_readAllowed rfl rfl rfl rfl rfl (Nat.le_of_ble_eq_true rfl) (Nat.le_of_ble_eq_true rfl) rfl (am_deep (sp_S_readAllowed (d := 0) b1 b2 b3) (by omega)) ?_
      refine ar_heap (h' := hC x (ck_s3 c z) t) rfl ?_
      refine ar_aload_n kd_A_solve_47 rfl ?_
      refine ar_get (ci := 0) (k := 4) kd_A_solve_48 rfl kw_168 (by decide) rfl rfl ?_
      refine az_if_eq (tg := 64) kd_A_solve_51 (by decide) (fun qe => ?_) (fun qe => ?_)
      · have e4 : ck_s4 c z = ck_rule (ck_s3 c z) (cg_nL (ck_s3 c z)) := if_neg (fun q => by rw [ex3, zb, if_pos q] at qe; omega)
        refine ar_aload_n kd_A_solve_64 rfl ?_
        refine ar_get (ci := 0) (k := 3) kd_A_solve_65 rfl kw_167 (by decide) rfl rfl ?_
        refine az_callv (z := km_S_allocateByRule) (As := []) (ci := 4) kd_A_solve_68 kw_495 kw_463 rfl ks_S_allocateByRule kz_S_allocateByRule rfl rfl rfl rfl rfl (Nat.le_of_ble_eq_true rfl) (Nat.le_of_ble_eq_true rfl) rfl (am_deep (sp_S_allocateByRule (d := 0) c1 c2 c3) (by omega)) ?_
        refine ar_heap (h' := hC x (ck_s4 c z) t) (by rw [e4]) ?_
        refine ar_aload_n kd_A_solve_71 rfl ?_
        refine ar_get (ci := 0) (k := 0) kd_A_solve_72 rfl kw_164 (by decide) rfl rfl ?_
        refine az_callv (z := km_F_totalCost) (As := []) (ci := 1) kd_A_solve_75 kw_240 kw_241 rfl ks_F_totalCost kz_F_totalCost rfl rfl rfl rfl rfl (Nat.le_of_ble_eq_true rfl) (Nat.le_of_ble_eq_true rfl) rfl (am_deep (sp_F_totalCostC (d := 0) f1 f3.1.G) (by omega)) ?_
        refine ar_ireturn kd_A_solve_78 rfl (Nat.le_of_ble_eq_true rfl) (Nat.le_of_ble_eq_true rfl) ?_
        exact ⟨rfl, rfl, rfl⟩
      · have e4 : ck_s4 c z = ck_b6 (ck_s3 c z) (cg_nL (ck_s3 c z)) := if_pos (Decidable.byContradiction fun q => by rw [ex3, zb, if_neg q] at qe; omega)
        refine ar_aload_n kd_A_solve_54 rfl ?_
        refine ar_get (ci := 0) (k := 3) kd_A_solve_55 rfl kw_167 (by decide) rfl rfl ?_
        refine az_callv (z := km_S_allocateAtLeastCost) (As := []) (ci := 4) kd_A_solve_58 kw_453 kw_454 rfl ks_S_allocateAtLeastCost kz_S_allocateAtLeastCost rfl rfl rfl rfl rfl (Nat.le_of_ble_eq_true rfl) (Nat.le_of_ble_eq_true rfl) rfl (am_deep (sp_S_allocateAtLeastCost (d := 0) c1 c2 c3) (by omega)) ?_
        refine ar_goto (tg := 71) kd_A_solve_61 (by decide) ?_
        refine ar_heap (h' := hC x (ck_s4 c z) t) (by rw [e4]) ?_
        refine ar_aload_n kd_A_solve_71 rfl ?_
        refine ar_get (ci := 0) (k := 0) kd_A_solve_72 rfl kw_164 (by decide) rfl rfl ?_
        refine az_callv (z := km_F_totalCost) (As := []) (ci := 1) kd_A_solve_75 kw_240 kw_241 rfl ks_F_totalCost kz_F_totalCost rfl rfl rfl rfl rfl (Nat.le_of_ble_eq_true rfl) (Nat.le_of_ble_eq_true rfl) rfl (am_deep (sp_F_totalCostC (d := 0) f1 f3.1.G) (by omega)) ?_
        refine ar_ireturn kd_A_solve_78 rfl (Nat.le_of_ble_eq_true rfl) (Nat.le_of_ble_eq_true rfl) ?_
        exact ⟨rfl, rfl, rfl⟩
    · have e0 : zb (ck_sx c z) = 1 := if_pos (by omega)
      refine ar_iconst kd_A_solve_25 ?_
      refine ar_goto (tg := 30) kd_A_solve_26 (by decide) ?_
      refine ar_put (ci := 0) (k := 4) kd_A_solve_30 rfl kw_168 (by decide) rfl (Nat.le_of_ble_eq_true rfl) rfl (Nat.le_of_ble_eq_true rfl) rfl rfl rfl ?_
      refine ar_heap (hp_ex _) ?_
      refine ar_heap (h' := hC x (ck_s1 c z) t) (by unfold ck_s1; rw [e0]) ?_
      refine ar_aload_n kd_A_solve_33 rfl ?_
      refine ar_get (ci := 0) (k := 0) kd_A_solve_34 rfl kw_164 (by decide) rfl rfl ?_
      refine az_callv (z := km_F_clear) (As := []) (ci := 1) kd_A_solve_37 kw_436 kw_437 rfl ks_F_clear kz_F_clear rfl rfl rfl rfl rfl (Nat.le_of_ble_eq_true rfl) (Nat.le_of_ble_eq_true rfl) rfl (am_deep (sp_F_clear (d := 0) a1) (by omega)) ?_
      refine ar_heap (h' := hC x (ck_s2 c z) t) rfl ?_
      refine ar_aload_n kd_A_solve_40 rfl ?_
      refine ar_get (ci := 0) (k := 3) kd_A_solve_41 rfl kw_167 (by decide) rfl rfl ?_
      refine az_callv (z := km_S_readAllowed) (As := []) (ci := 4) kd_A_solve_44 kw_448 kw_449 rfl ks_S_readAllowed kz_S_readAllowed rfl rfl rfl rfl rfl (Nat.le_of_ble_eq_true rfl) (Nat.le_of_ble_eq_true rfl) rfl (am_deep (sp_S_readAllowed (d := 0) b1 b2 b3) (by omega)) ?_
      refine ar_heap (h' := hC x (ck_s3 c z) t) rfl ?_
      refine ar_aload_n kd_A_solve_47 rfl ?_
      refine ar_get (ci := 0) (k := 4) kd_A_solve_48 rfl kw_168 (by decide) rfl rfl ?_
      refine az_if_eq (tg := 64) kd_A_solve_51 (by decide) (fun qe => ?_) (fun qe => ?_)
      · have e4 : ck_s4 c z = ck_rule (ck_s3 c z) (cg_nL (ck_s3 c z)) := if_neg (fun q => by rw [ex3, zb, if_pos q] at qe; omega)
        refine ar_aload_n kd_A_solve_64 rfl ?_
        refine ar_get (ci := 0) (k := 3) kd_A_solve_65 rfl kw_167 (by decide) rfl rfl ?_
        refine az_callv (z := km_S_allocateByRule) (As := []) (ci := 4) kd_A_solve_68 kw_495 kw_463 rfl ks_S_allocateByRule kz_S_allocateByRule rfl rfl rfl rfl rfl (Nat.le_of_ble_eq_true rfl) (Nat.le_of_ble_eq_true rfl) rfl (am_deep (sp_S_allocateByRule (d := 0) c1 c2 c3) (by omega)) ?_
        refine ar_heap (h' := hC x (ck_s4 c z) t) (by rw [e4]) ?_
        refine ar_aload_n kd_A_solve_71 rfl ?_
        refine ar_get (ci := 0) (k := 0) kd_A_solve_72 rfl kw_164 (by decide) rfl rfl ?_
        refine az_callv (z := km_F_totalCost) (As := []) (ci := 1) kd_A_solve_75 kw_240 kw_241 rfl ks_F_totalCost kz_F_totalCost rfl rfl rfl rfl rfl (Nat.le_of_ble_eq_true rfl) (Nat.le_of_ble_eq_true rfl) rfl (am_deep (sp_F_totalCostC (d := 0) f1 f3.1.G) (by omega)) ?_
        refine ar_ireturn kd_A_solve_78 rfl (Nat.le_of_ble_eq_true rfl) (Nat.le_of_ble_eq_true rfl) ?_
        exact ⟨rfl, rfl, rfl⟩
      · have e4 : ck_s4 c z = ck_b6 (ck_s3 c z) (cg_nL (ck_s3 c z)) := if_pos (Decidable.byContradiction fun q => by rw [ex3, zb, if_neg q] at qe; omega)
        refine ar_aload_n kd_A_solve_54 rfl ?_
        refine ar_get (ci := 0) (k := 3) kd_A_solve_55 rfl kw_167 (by decide) rfl rfl ?_
        refine az_callv (z := km_S_allocateAtLeastCost) (As := []) (ci := 4) kd_A_solve_58 kw_453 kw_454 rfl ks_S_allocateAtLeastCost kz_S_allocateAtLeastCost rfl rfl rfl rfl rfl (Nat.le_of_ble_eq_true rfl) (Nat.le_of_ble_eq_true rfl) rfl (am_deep (sp_S_allocateAtLeastCost (d := 0) c1 c2 c3) (by omega)) ?_
        refine ar_goto (tg := 71) kd_A_solve_61 (by decide) ?_
        refine ar_heap (h' := hC x (ck_s4 c z) t) (by rw [e4]) ?_
        refine ar_aload_n kd_A_solve_71 rfl ?_
        refine ar_get (ci := 0) (k := 0) kd_A_solve_72 rfl kw_164 (by decide) rfl rfl ?_
        refine az_callv (z := km_F_totalCost) (As := []) (ci := 1) kd_A_solve_75 kw_240 kw_241 rfl ks_F_totalCost kz_F_totalCost rfl rfl rfl rfl rfl (Nat.le_of_ble_eq_true rfl) (Nat.le_of_ble_eq_true rfl) rfl (am_deep (sp_F_totalCostC (d := 0) f1 f3.1.G) (by omega)) ?_
        refine ar_ireturn kd_A_solve_78 rfl (Nat.le_of_ble_eq_true rfl) (Nat.le_of_ble_eq_true rfl) ?_
        exact ⟨rfl, rfl, rfl⟩
set_option maxHeartbeats 1000000 in
set_option maxRecDepth 20000 in
theorem sp_A_solve_t0 {d : Nat} {x : am_C} {c : cS} {t : List am_C} {n : Nat} {z : Int} (h_z : -2147483648 ≤ z ∧ z < 2147483648) (hz : ¬ (0 ≤ z ∧ z ≤ 40000)) : am_W (d + 1) km_A_solve 0 [some (.ref 4), some (.int (iI z)), none] [] (hC x c t) n 0 0 (am_th 0 n (hC x c t) (n + 1)) := by
  refine ar_iload_n kd_A_solve_0 rfl ?_
  refine ar_iconst kd_A_solve_1 ?_
  refine az_ldc (u := 40000) kd_A_solve_2 kw_435 (by decide) ?_
  refine az_callst (z := km_A_needRange) (As := [_, _, _]) kd_A_solve_4 kw_257 kw_258 kw_1 kz_A_needRange rfl rfl rfl rfl (Nat.le_of_ble_eq_true rfl) (Nat.le_of_ble_eq_true rfl) rfl (am_deep (sp_A_needRange_t (d := 0) (by omega) (by omega) (by omega) (by omega)) (Nat.zero_le _)) ?_
  exact ⟨rfl, rfl, rfl⟩
def ck_count (c : cS) (w : Int) : Int := if w = 0 then cg_nT c else if w = 1 then cg_nL c else if w = 2 then zs (fun l => zs (cg_gi c l) (cg_nT c)) (cg_nL c) else if w = 3 then zs (fun l => zs (fun k => zb (0 < cg_gi c l k)) (cg_nT c)) (cg_nL c) else if w = 4 then ck_tot c else -1
set_option maxHeartbeats 1000000 in
set_option maxRecDepth 20000 in
theorem sp_A_count {d : Nat} {x : am_C} {c : cS} {t : List am_C} {n : Nat} {w : Int} (hK : cK c) (hG : cG c) (h_w : -2147483648 ≤ w ∧ w < 2147483648) : am_W (d + 3) km_A_count 0 [some (.ref 4), some (.int (iI w))] [] (hC x c t) n 0 0 (am_eq (some (.int (iI (ck_count c w)))) (hC x c t) n) := by
  rcases (show w = 0 ∨ w = 1 ∨ w = 2 ∨ w = 3 ∨ w = 4 ∨ (w < 0 ∨ 4 < w) by omega) with rfl | rfl | rfl | rfl | rfl | hw
  · refine ar_iload_n kd_A_count_0 rfl ?_
    refine ar_swIn (tg := 36) kd_A_count_1 (by decide) (by decide) rfl (by decide) ?_
    refine ar_aload_n kd_A_count_36 rfl ?_
    refine ar_get (ci := 0) (k := 1) kd_A_count_37 rfl kw_165 (by decide) rfl rfl ?_
    refine ar_get (ci := 3) (k := 0) kd_A_count_40 rfl kw_45 (by decide) rfl rfl ?_
    refine ar_ireturn kd_A_count_43 rfl (Nat.le_of_ble_eq_true rfl) (Nat.le_of_ble_eq_true rfl) ?_
    exact ⟨rfl, rfl, rfl⟩
  · refine ar_iload_n kd_A_count_0 rfl ?_
    refine ar_swIn (tg := 44) kd_A_count_1 (by decide) (by decide) rfl (by decide) ?_
    refine ar_aload_n kd_A_count_44 rfl ?_
    refine ar_get (ci := 0) (k := 2) kd_A_count_45 rfl kw_166 (by decide) rfl rfl ?_
    refine ar_get (ci := 2) (k := 0) kd_A_count_48 rfl kw_89 (by decide) rfl rfl ?_
    refine ar_ireturn kd_A_count_51 rfl (Nat.le_of_ble_eq_true rfl) (Nat.le_of_ble_eq_true rfl) ?_
    exact ⟨rfl, rfl, rfl⟩
  · refine ar_iload_n kd_A_count_0 rfl ?_
    refine ar_swIn (tg := 52) kd_A_count_1 (by decide) (by decide) rfl (by decide) ?_
    refine ar_aload_n kd_A_count_52 rfl ?_
    refine ar_get (ci := 0) (k := 0) kd_A_count_53 rfl kw_164 (by decide) rfl rfl ?_
    refine az_callv (z := km_F_totalPieces) (As := []) (ci := 1) kd_A_count_56 kw_224 kw_225 rfl ks_F_totalPieces kz_F_totalPieces rfl rfl rfl rfl rfl (Nat.le_of_ble_eq_true rfl) (Nat.le_of_ble_eq_true rfl) rfl (am_deep (sp_F_totalPieces (d := 0) hK) (by omega)) ?_
    refine ar_ireturn kd_A_count_59 rfl (Nat.le_of_ble_eq_true rfl) (Nat.le_of_ble_eq_true rfl) ?_
    exact ⟨rfl, rfl, rfl⟩
  · refine ar_iload_n kd_A_count_0 rfl ?_
    refine ar_swIn (tg := 60) kd_A_count_1 (by decide) (by decide) rfl (by decide) ?_
    refine ar_aload_n kd_A_count_60 rfl ?_
    refine ar_get (ci := 0) (k := 0) kd_A_count_61 rfl kw_164 (by decide) rfl rfl ?_
    refine az_callv (z := km_F_totalGifts) (As := []) (ci := 1) kd_A_count_64 kw_232 kw_233 rfl ks_F_totalGifts kz_F_totalGifts rfl rfl rfl rfl rfl (Nat.le_of_ble_eq_true rfl) (Nat.le_of_ble_eq_true rfl) rfl (am_deep (sp_F_totalGifts (d := 0) hK hG) (by omega)) ?_
    refine ar_ireturn kd_A_count_67 rfl (Nat.le_of_ble_eq_true rfl) (Nat.le_of_ble_eq_true rfl) ?_
    exact ⟨rfl, rfl, rfl⟩
  · refine ar_iload_n kd_A_count_0 rfl ?_
    refine ar_swIn (tg := 68) kd_A_count_1 (by decide) (by decide) rfl (by decide) ?_
    refine ar_aload_n kd_A_count_68 rfl ?_
    refine ar_get (ci := 0) (k := 0) kd_A_count_69 rfl kw_164 (by decide) rfl rfl ?_
    refine az_callv (z := km_F_totalCost) (As := []) (ci := 1) kd_A_count_72 kw_240 kw_241 rfl ks_F_totalCost kz_F_totalCost rfl rfl rfl rfl rfl (Nat.le_of_ble_eq_true rfl) (Nat.le_of_ble_eq_true rfl) rfl (am_deep (sp_F_totalCostC (d := 0) hK hG) (by omega)) ?_
    refine ar_ireturn kd_A_count_75 rfl (Nat.le_of_ble_eq_true rfl) (Nat.le_of_ble_eq_true rfl) ?_
    exact ⟨rfl, rfl, rfl⟩
  · have e1 : ck_count c w = -1 := by
      unfold ck_count
      rw [if_neg (by omega), if_neg (by omega), if_neg (by omega), if_neg (by omega), if_neg (by omega)]
    refine ar_iload_n kd_A_count_0 rfl ?_
    refine ar_swOut (tg := 76) kd_A_count_1 (by rw [ii_toInt h_w.1 h_w.2]; omega) (by decide) ?_
    refine ar_iconst kd_A_count_76 ?_
    refine ar_ireturn kd_A_count_77 rfl (Nat.le_of_ble_eq_true rfl) (Nat.le_of_ble_eq_true rfl) ?_
    exact ⟨by rw [e1], rfl, rfl⟩
