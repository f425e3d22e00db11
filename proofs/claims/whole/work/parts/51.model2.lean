/-! the reference: its public methods -/
theorem co_co (m : mS) (v : Int) : mg_co (ms_co m v) = v := rfl
set_option maxHeartbeats 1000000 in
set_option maxRecDepth 20000 in
theorem sp_M_lot_f1 {d : Nat} {x : am_C} {c : cS} {m : mS} {t : List am_C} {n : Nat} {p : Int} {g : Int} {z : Int} {u : Int} (h_p : -2147483648 ≤ p ∧ p < 2147483648) (h_g : -2147483648 ≤ g ∧ g < 2147483648) (h_z : -2147483648 ≤ z ∧ z < 2147483648) (h_u : -2147483648 ≤ u ∧ u < 2147483648) (hK : mK m) (h0 : ¬ ((0 ≤ p ∧ p ≤ 99) ∧ (0 ≤ g ∧ g ≤ 5) ∧ (0 ≤ z ∧ z ≤ 500) ∧ (0 ≤ u ∧ u ≤ 9999))) : am_W (d + 2) km_M_lot 0 [some (.ref 50), some (.int (iI p)), some (.int (iI g)), some (.int (iI z)), some (.int (iI u))] [] (hC x c (hM m t)) n 0 0 (am_eq (some (.int (iI (0)))) (hC x c (hM (ms_co m 1) t)) n) := by
  by_cases g0 : 0 ≤ p ∧ p ≤ 99
  · by_cases g1 : 0 ≤ g ∧ g ≤ 5
    · by_cases g2 : 0 ≤ z ∧ z ≤ 500
      · by_cases g3 : 0 ≤ u ∧ u ≤ 9999
        · exfalso
          omega
        · refine ar_aload_n kd_M_lot_0 rfl ?_
          refine ar_iload_n kd_M_lot_1 rfl ?_
          refine ar_iconst kd_M_lot_2 ?_
          refine az_bipush kd_M_lot_3 (by decide) ?_
          refine az_calls (z := km_M_in) (As := [_, _, _]) kd_M_lot_5 kw_692 kw_693 kw_6 kz_M_in rfl rfl rfl rfl (Nat.le_of_ble_eq_true rfl) (Nat.le_of_ble_eq_true rfl) rfl (am_deep (sp_M_in_t (d := 0) (by omega) (by omega) (by omega) (by omega)) (Nat.zero_le _)) ?_
          refine az_if_eq (tg := 43) kd_M_lot_8 (by decide) (fun q1 => (by exfalso; omega)) (fun q1 => ?_)
          refine ar_iload_n kd_M_lot_11 rfl ?_
          refine ar_iconst kd_M_lot_12 ?_
          refine ar_iconst kd_M_lot_13 ?_
          refine az_calls (z := km_M_in) (As := [_, _, _]) kd_M_lot_14 kw_692 kw_693 kw_6 kz_M_in rfl rfl rfl rfl (Nat.le_of_ble_eq_true rfl) (Nat.le_of_ble_eq_true rfl) rfl (am_deep (sp_M_in_t (d := 0) (by omega) (by omega) (by omega) (by omega)) (Nat.zero_le _)) ?_
          refine az_if_eq (tg := 43) kd_M_lot_17 (by decide) (fun q2 => (by exfalso; omega)) (fun q2 => ?_)
          refine ar_iload_n kd_M_lot_20 rfl ?_
          refine ar_iconst kd_M_lot_21 ?_
          refine az_sipush kd_M_lot_22 (by decide) ?_
          refine az_calls (z := km_M_in) (As := [_, _, _]) kd_M_lot_25 kw_692 kw_693 kw_6 kz_M_in rfl rfl rfl rfl (Nat.le_of_ble_eq_true rfl) (Nat.le_of_ble_eq_true rfl) rfl (am_deep (sp_M_in_t (d := 0) (by omega) (by omega) (by omega) (by omega)) (Nat.zero_le _)) ?_
          refine az_if_eq (tg := 43) kd_M_lot_28 (by decide) (fun q3 => (by exfalso; omega)) (fun q3 => ?_)
          refine ar_iload kd_M_lot_31 rfl ?_
          refine ar_iconst kd_M_lot_33 ?_
          refine az_sipush kd_M_lot_34 (by decide) ?_
          refine az_calls (z := km_M_in) (As := [_, _, _]) kd_M_lot_37 kw_692 kw_693 kw_6 kz_M_in rfl rfl rfl rfl (Nat.le_of_ble_eq_true rfl) (Nat.le_of_ble_eq_true rfl) rfl (am_deep (sp_M_in_f (d := 0) (by omega) (by omega) (by omega) (by omega)) (Nat.zero_le _)) ?_
          refine az_if_ne (tg := 47) kd_M_lot_40 (by decide) (fun q4 => (by exfalso; omega)) (fun q4 => ?_)
          refine ar_iconst kd_M_lot_43 ?_
          refine ar_goto (tg := 61) kd_M_lot_44 (by decide) ?_
          refine ar_put (ci := 5) (k := 0) kd_M_lot_61 rfl kw_619 (by decide) rfl (Nat.le_of_ble_eq_true rfl) rfl (Nat.le_of_ble_eq_true rfl) rfl rfl rfl ?_
          refine ar_heap (hq_co _) ?_
          refine ar_aload_n kd_M_lot_64 rfl ?_
          refine ar_get (ci := 5) (k := 0) kd_M_lot_65 rfl kw_619 (by decide) rfl rfl ?_
          rw [co_co]
          refine az_if_le (tg := 73) kd_M_lot_68 (by decide) (fun q5 => (by exfalso; omega)) (fun q5 => ?_)
          refine ar_iconst kd_M_lot_71 ?_
          refine ar_ireturn kd_M_lot_72 rfl (Nat.le_of_ble_eq_true rfl) (Nat.le_of_ble_eq_true rfl) ?_
          exact ⟨rfl, rfl, rfl⟩
      · refine ar_aload_n kd_M_lot_0 rfl ?_
        refine ar_iload_n kd_M_lot_1 rfl ?_
        refine ar_iconst kd_M_lot_2 ?_
        refine az_bipush kd_M_lot_3 (by decide) ?_
        refine az_calls (z := km_M_in) (As := [_, _, _]) kd_M_lot_5 kw_692 kw_693 kw_6 kz_M_in rfl rfl rfl rfl (Nat.le_of_ble_eq_true rfl) (Nat.le_of_ble_eq_true rfl) rfl (am_deep (sp_M_in_t (d := 0) (by omega) (by omega) (by omega) (by omega)) (Nat.zero_le _)) ?_
        refine az_if_eq (tg := 43) kd_M_lot_8 (by decide) (fun q1 => (by exfalso; omega)) (fun q1 => ?_)
        refine ar_iload_n kd_M_lot_11 rfl ?_
        refine ar_iconst kd_M_lot_12 ?_
        refine ar_iconst kd_M_lot_13 ?_
        refine az_calls (z := km_M_in) (As := [_, _, _]) kd_M_lot_14 kw_692 kw_693 kw_6 kz_M_in rfl rfl rfl rfl (Nat.le_of_ble_eq_true rfl) (Nat.le_of_ble_eq_true rfl) rfl (am_deep (sp_M_in_t (d := 0) (by omega) (by omega) (by omega) (by omega)) (Nat.zero_le _)) ?_
        refine az_if_eq (tg := 43) kd_M_lot_17 (by decide) (fun q2 => (by exfalso; omega)) (fun q2 => ?_)
        refine ar_iload_n kd_M_lot_20 rfl ?_
        refine ar_iconst kd_M_lot_21 ?_
        refine az_sipush kd_M_lot_22 (by decide) ?_
        refine az_calls (z := km_M_in) (As := [_, _, _]) kd_M_lot_25 kw_692 kw_693 kw_6 kz_M_in rfl rfl rfl rfl (Nat.le_of_ble_eq_true rfl) (Nat.le_of_ble_eq_true rfl) rfl (am_deep (sp_M_in_f (d := 0) (by omega) (by omega) (by omega) (by omega)) (Nat.zero_le _)) ?_
        refine az_if_eq (tg := 43) kd_M_lot_28 (by decide) (fun q3 => ?_) (fun q3 => (by exfalso; omega))
        refine ar_iconst kd_M_lot_43 ?_
        refine ar_goto (tg := 61) kd_M_lot_44 (by decide) ?_
        refine ar_put (ci := 5) (k := 0) kd_M_lot_61 rfl kw_619 (by decide) rfl (Nat.le_of_ble_eq_true rfl) rfl (Nat.le_of_ble_eq_true rfl) rfl rfl rfl ?_
        refine ar_heap (hq_co _) ?_
        refine ar_aload_n kd_M_lot_64 rfl ?_
        refine ar_get (ci := 5) (k := 0) kd_M_lot_65 rfl kw_619 (by decide) rfl rfl ?_
        rw [co_co]
        refine az_if_le (tg := 73) kd_M_lot_68 (by decide) (fun q4 => (by exfalso; omega)) (fun q4 => ?_)
        refine ar_iconst kd_M_lot_71 ?_
        refine ar_ireturn kd_M_lot_72 rfl (Nat.le_of_ble_eq_true rfl) (Nat.le_of_ble_eq_true rfl) ?_
        exact ⟨rfl, rfl, rfl⟩
    · refine ar_aload_n kd_M_lot_0 rfl ?_
      refine ar_iload_n kd_M_lot_1 rfl ?_
      refine ar_iconst kd_M_lot_2 ?_
      refine az_bipush kd_M_lot_3 (by decide) ?_
      refine az_calls (z := km_M_in) (As := [_, _, _]) kd_M_lot_5 kw_692 kw_693 kw_6 kz_M_in rfl rfl rfl rfl (Nat.le_of_ble_eq_true rfl) (Nat.le_of_ble_eq_true rfl) rfl (am_deep (sp_M_in_t (d := 0) (by omega) (by omega) (by omega) (by omega)) (Nat.zero_le _)) ?_
      refine az_if_eq (tg := 43) kd_M_lot_8 (by decide) (fun q1 => (by exfalso; omega)) (fun q1 => ?_)
      refine ar_iload_n kd_M_lot_11 rfl ?_
      refine ar_iconst kd_M_lot_12 ?_
      refine ar_iconst kd_M_lot_13 ?_
      refine az_calls (z := km_M_in) (As := [_, _, _]) kd_M_lot_14 kw_692 kw_693 kw_6 kz_M_in rfl rfl rfl rfl (Nat.le_of_ble_eq_true rfl) (Nat.le_of_ble_eq_true rfl) rfl (am_deep (sp_M_in_f (d := 0) (by omega) (by omega) (by omega) (by omega)) (Nat.zero_le _)) ?_
      refine az_if_eq (tg := 43) kd_M_lot_17 (by decide) (fun q2 => ?_) (fun q2 => (by exfalso; omega))
      refine ar_iconst kd_M_lot_43 ?_
      refine ar_goto (tg := 61) kd_M_lot_44 (by decide) ?_
      refine ar_put (ci := 5) (k := 0) kd_M_lot_61 rfl kw_619 (by decide) rfl (Nat.le_of_ble_eq_true rfl) rfl (Nat.le_of_ble_eq_true rfl) rfl rfl rfl ?_
      refine ar_heap (hq_co _) ?_
      refine ar_aload_n kd_M_lot_64 rfl ?_
      refine ar_get (ci := 5) (k := 0) kd_M_lot_65 rfl kw_619 (by decide) rfl rfl ?_
      rw [co_co]
      refine az_if_le (tg := 73) kd_M_lot_68 (by decide) (fun q3 => (by exfalso; omega)) (fun q3 => ?_)
      refine ar_iconst kd_M_lot_71 ?_
      refine ar_ireturn kd_M_lot_72 rfl (Nat.le_of_ble_eq_true rfl) (Nat.le_of_ble_eq_true rfl) ?_
      exact ⟨rfl, rfl, rfl⟩
  · refine ar_aload_n kd_M_lot_0 rfl ?_
    refine ar_iload_n kd_M_lot_1 rfl ?_
    refine ar_iconst kd_M_lot_2 ?_
    refine az_bipush kd_M_lot_3 (by decide) ?_
    refine az_calls (z := km_M_in) (As := [_, _, _]) kd_M_lot_5 kw_692 kw_693 kw_6 kz_M_in rfl rfl rfl rfl (Nat.le_of_ble_eq_true rfl) (Nat.le_of_ble_eq_true rfl) rfl (am_deep (sp_M_in_f (d := 0) (by omega) (by omega) (by omega) (by omega)) (Nat.zero_le _)) ?_
    refine az_if_eq (tg := 43) kd_M_lot_8 (by decide) (fun q1 => ?_) (fun q1 => (by exfalso; omega))
    refine ar_iconst kd_M_lot_43 ?_
    refine ar_goto (tg := 61) kd_M_lot_44 (by decide) ?_
    refine ar_put (ci := 5) (k := 0) kd_M_lot_61 rfl kw_619 (by decide) rfl (Nat.le_of_ble_eq_true rfl) rfl (Nat.le_of_ble_eq_true rfl) rfl rfl rfl ?_
    refine ar_heap (hq_co _) ?_
    refine ar_aload_n kd_M_lot_64 rfl ?_
    refine ar_get (ci := 5) (k := 0) kd_M_lot_65 rfl kw_619 (by decide) rfl rfl ?_
    rw [co_co]
    refine az_if_le (tg := 73) kd_M_lot_68 (by decide) (fun q2 => (by exfalso; omega)) (fun q2 => ?_)
    refine ar_iconst kd_M_lot_71 ?_
    refine ar_ireturn kd_M_lot_72 rfl (Nat.le_of_ble_eq_true rfl) (Nat.le_of_ble_eq_true rfl) ?_
    exact ⟨rfl, rfl, rfl⟩
set_option maxHeartbeats 1000000 in
set_option maxRecDepth 20000 in
theorem sp_M_lot_f2 {d : Nat} {x : am_C} {c : cS} {m : mS} {t : List am_C} {n : Nat} {p g z u : Int} (hK : mK m) (hT : mg_nT m = 8) (hp : 0 ≤ p ∧ p ≤ 99) (hg : 0 ≤ g ∧ g ≤ 5) (hz : 0 ≤ z ∧ z ≤ 500) (hu : 0 ≤ u ∧ u ≤ 9999) : am_W (d + 2) km_M_lot 0 [some (.ref 50), some (.int (iI p)), some (.int (iI g)), some (.int (iI z)), some (.int (iI u))] [] (hC x c (hM m t)) n 0 0 (am_eq (some (.int (iI (0)))) (hC x c (hM (ms_co m 2) t)) n) := by
  refine ar_aload_n kd_M_lot_0 rfl ?_
  refine ar_iload_n kd_M_lot_1 rfl ?_
  refine ar_iconst kd_M_lot_2 ?_
  refine az_bipush kd_M_lot_3 (by decide) ?_
  refine az_calls (z := km_M_in) (As := [_, _, _]) kd_M_lot_5 kw_692 kw_693 kw_6 kz_M_in rfl rfl rfl rfl (Nat.le_of_ble_eq_true rfl) (Nat.le_of_ble_eq_true rfl) rfl (am_deep (sp_M_in_t (d := 0) (by omega) (by omega) (by omega) (by omega)) (Nat.zero_le _)) ?_
  refine az_if_eq (tg := 43) kd_M_lot_8 (by decide) (fun q1 => (by exfalso; omega)) (fun q1 => ?_)
  refine ar_iload_n kd_M_lot_11 rfl ?_
  refine ar_iconst kd_M_lot_12 ?_
  refine ar_iconst kd_M_lot_13 ?_
  refine az_calls (z := km_M_in) (As := [_, _, _]) kd_M_lot_14 kw_692 kw_693 kw_6 kz_M_in rfl rfl rfl rfl (Nat.le_of_ble_eq_true rfl) (Nat.le_of_ble_eq_true rfl) rfl (am_deep (sp_M_in_t (d := 0) (by omega) (by omega) (by omega) (by omega)) (Nat.zero_le _)) ?_
  refine az_if_eq (tg := 43) kd_M_lot_17 (by decide) (fun q2 => (by exfalso; omega)) (fun q2 => ?_)
  refine ar_iload_n kd_M_lot_20 rfl ?_
  refine ar_iconst kd_M_lot_21 ?_
  refine az_sipush kd_M_lot_22 (by decide) ?_
  refine az_calls (z := km_M_in) (As := [_, _, _]) kd_M_lot_25 kw_692 kw_693 kw_6 kz_M_in rfl rfl rfl rfl (Nat.le_of_ble_eq_true rfl) (Nat.le_of_ble_eq_true rfl) rfl (am_deep (sp_M_in_t (d := 0) (by omega) (by omega) (by omega) (by omega)) (Nat.zero_le _)) ?_
  refine az_if_eq (tg := 43) kd_M_lot_28 (by decide) (fun q3 => (by exfalso; omega)) (fun q3 => ?_)
  refine ar_iload kd_M_lot_31 rfl ?_
  refine ar_iconst kd_M_lot_33 ?_
  refine az_sipush kd_M_lot_34 (by decide) ?_
  refine az_calls (z := km_M_in) (As := [_, _, _]) kd_M_lot_37 kw_692 kw_693 kw_6 kz_M_in rfl rfl rfl rfl (Nat.le_of_ble_eq_true rfl) (Nat.le_of_ble_eq_true rfl) rfl (am_deep (sp_M_in_t (d := 0) (by omega) (by omega) (by omega) (by omega)) (Nat.zero_le _)) ?_
  refine az_if_ne (tg := 47) kd_M_lot_40 (by decide) (fun q4 => ?_) (fun q4 => (by exfalso; omega))
  refine ar_aload_n kd_M_lot_47 rfl ?_
  refine ar_get (ci := 5) (k := 1) kd_M_lot_48 rfl kw_620 (by decide) rfl rfl ?_
  refine az_bipush kd_M_lot_51 (by decide) ?_
  refine az_icmp_ne (tg := 60) kd_M_lot_53 (by decide) (fun q5 => (by exfalso; omega)) (fun q5 => ?_)
  refine ar_iconst kd_M_lot_56 ?_
  refine ar_goto (tg := 61) kd_M_lot_57 (by decide) ?_
  refine ar_put (ci := 5) (k := 0) kd_M_lot_61 rfl kw_619 (by decide) rfl (Nat.le_of_ble_eq_true rfl) rfl (Nat.le_of_ble_eq_true rfl) rfl rfl rfl ?_
  refine ar_heap (hq_co _) ?_
  refine ar_aload_n kd_M_lot_64 rfl ?_
  refine ar_get (ci := 5) (k := 0) kd_M_lot_65 rfl kw_619 (by decide) rfl rfl ?_
  rw [co_co]
  refine az_if_le (tg := 73) kd_M_lot_68 (by decide) (fun q6 => (by exfalso; omega)) (fun q6 => ?_)
  refine ar_iconst kd_M_lot_71 ?_
  refine ar_ireturn kd_M_lot_72 rfl (Nat.le_of_ble_eq_true rfl) (Nat.le_of_ble_eq_true rfl) ?_
  exact ⟨rfl, rfl, rfl⟩
def mk_addT (m : mS) (p g z u : Int) : mS := ms_nT (ms_un (ms_pc (ms_gd (ms_pl (ms_co m 0) (zu (mg_pl m) (mg_nT m) p)) (zu (mg_gd m) (mg_nT m) g)) (zu (mg_pc m) (mg_nT m) z)) (zu (mg_un m) (mg_nT m) u)) (mg_nT m + 1)
set_option maxHeartbeats 1000000 in
set_option maxRecDepth 20000 in
theorem sp_M_lot {d : Nat} {x : am_C} {c : cS} {m : mS} {t : List am_C} {n : Nat} {p g z u : Int} (hK : mK m) (hT : mg_nT m < 8) (hp : 0 ≤ p ∧ p ≤ 99) (hg : 0 ≤ g ∧ g ≤ 5) (hz : 0 ≤ z ∧ z ≤ 500) (hu : 0 ≤ u ∧ u ≤ 9999) : am_W (d + 2) km_M_lot 0 [some (.ref 50), some (.int (iI p)), some (.int (iI g)), some (.int (iI z)), some (.int (iI u))] [] (hC x c (hM m t)) n 0 0 (am_eq (some (.int (iI (mg_nT m)))) (hC x c (hM (mk_addT m p g z u) t)) n) := by
  refine ar_aload_n kd_M_lot_0 rfl ?_
  refine ar_iload_n kd_M_lot_1 rfl ?_
  refine ar_iconst kd_M_lot_2 ?_
  refine az_bipush kd_M_lot_3 (by decide) ?_
  refine az_calls (z := km_M_in) (As := [_, _, _]) kd_M_lot_5 kw_692 kw_693 kw_6 kz_M_in rfl rfl rfl rfl (Nat.le_of_ble_eq_true rfl) (Nat.le_of_ble_eq_true rfl) rfl (am_deep (sp_M_in_t (d := 0) (by omega) (by omega) (by omega) (by omega)) (Nat.zero_le _)) ?_
  refine az_if_eq (tg := 43) kd_M_lot_8 (by decide) (fun q1 => (by exfalso; omega)) (fun q1 => ?_)
  refine ar_iload_n kd_M_lot_11 rfl ?_
  refine ar_iconst kd_M_lot_12 ?_
  refine ar_iconst kd_M_lot_13 ?_
  refine az_calls (z := km_M_in) (As := [_, _, _]) kd_M_lot_14 kw_692 kw_693 kw_6 kz_M_in rfl rfl rfl rfl (Nat.le_of_ble_eq_true rfl) (Nat.le_of_ble_eq_true rfl) rfl (am_deep (sp_M_in_t (d := 0) (by omega) (by omega) (by omega) (by omega)) (Nat.zero_le _)) ?_
  refine az_if_eq (tg := 43) kd_M_lot_17 (by decide) (fun q2 => (by exfalso; omega)) (fun q2 => ?_)
  refine ar_iload_n kd_M_lot_20 rfl ?_
  refine ar_iconst kd_M_lot_21 ?_
  refine az_sipush kd_M_lot_22 (by decide) ?_
  refine az_calls (z := km_M_in) (As := [_, _, _]) kd_M_lot_25 kw_692 kw_693 kw_6 kz_M_in rfl rfl rfl rfl (Nat.le_of_ble_eq_true rfl) (Nat.le_of_ble_eq_true rfl) rfl (am_deep (sp_M_in_t (d := 0) (by omega) (by omega) (by omega) (by omega)) (Nat.zero_le _)) ?_
  refine az_if_eq (tg := 43) kd_M_lot_28 (by decide) (fun q3 => (by exfalso; omega)) (fun q3 => ?_)
  refine ar_iload kd_M_lot_31 rfl ?_
  refine ar_iconst kd_M_lot_33 ?_
  refine az_sipush kd_M_lot_34 (by decide) ?_
  refine az_calls (z := km_M_in) (As := [_, _, _]) kd_M_lot_37 kw_692 kw_693 kw_6 kz_M_in rfl rfl rfl rfl (Nat.le_of_ble_eq_true rfl) (Nat.le_of_ble_eq_true rfl) rfl (am_deep (sp_M_in_t (d := 0) (by omega) (by omega) (by omega) (by omega)) (Nat.zero_le _)) ?_
  refine az_if_ne (tg := 47) kd_M_lot_40 (by decide) (fun q4 => ?_) (fun q4 => (by exfalso; omega))
  refine ar_aload_n kd_M_lot_47 rfl ?_
  refine ar_get (ci := 5) (k := 1) kd_M_lot_48 rfl kw_620 (by decide) rfl rfl ?_
  refine az_bipush kd_M_lot_51 (by decide) ?_
  refine az_icmp_ne (tg := 60) kd_M_lot_53 (by decide) (fun q5 => ?_) (fun q5 => (by exfalso; omega))
  refine ar_iconst kd_M_lot_60 ?_
  refine ar_put (ci := 5) (k := 0) kd_M_lot_61 rfl kw_619 (by decide) rfl (Nat.le_of_ble_eq_true rfl) rfl (Nat.le_of_ble_eq_true rfl) rfl rfl rfl ?_
  refine ar_heap (hq_co _) ?_
  refine ar_aload_n kd_M_lot_64 rfl ?_
  refine ar_get (ci := 5) (k := 0) kd_M_lot_65 rfl kw_619 (by decide) rfl rfl ?_
  rw [co_co]
  refine az_if_le (tg := 73) kd_M_lot_68 (by decide) (fun q6 => ?_) (fun q6 => (by exfalso; omega))
  refine ar_aload_n kd_M_lot_73 rfl ?_
  refine ar_get (ci := 5) (k := 2) kd_M_lot_74 rfl kw_621 (by decide) rfl rfl ?_
  refine ar_aload_n kd_M_lot_77 rfl ?_
  refine ar_get (ci := 5) (k := 1) kd_M_lot_78 rfl kw_620 (by decide) rfl rfl ?_
  refine ar_iload_n kd_M_lot_81 rfl ?_
  refine az_iast kd_M_lot_82 rfl rfl rfl (by omega) ?_
  rw [hv_pl]
  refine ar_aload_n kd_M_lot_83 rfl ?_
  refine ar_get (ci := 5) (k := 3) kd_M_lot_84 rfl kw_622 (by decide) rfl rfl ?_
  refine ar_aload_n kd_M_lot_87 rfl ?_
  refine ar_get (ci := 5) (k := 1) kd_M_lot_88 rfl kw_620 (by decide) rfl rfl ?_
  refine ar_iload_n kd_M_lot_91 rfl ?_
  refine az_iast kd_M_lot_92 rfl rfl rfl (by omega) ?_
  rw [hv_gd]
  refine ar_aload_n kd_M_lot_93 rfl ?_
  refine ar_get (ci := 5) (k := 4) kd_M_lot_94 rfl kw_623 (by decide) rfl rfl ?_
  refine ar_aload_n kd_M_lot_97 rfl ?_
  refine ar_get (ci := 5) (k := 1) kd_M_lot_98 rfl kw_620 (by decide) rfl rfl ?_
  refine ar_iload_n kd_M_lot_101 rfl ?_
  refine az_iast kd_M_lot_102 rfl rfl rfl (by omega) ?_
  rw [hv_pc]
  refine ar_aload_n kd_M_lot_103 rfl ?_
  refine ar_get (ci := 5) (k := 5) kd_M_lot_104 rfl kw_624 (by decide) rfl rfl ?_
  refine ar_aload_n kd_M_lot_107 rfl ?_
  refine ar_get (ci := 5) (k := 1) kd_M_lot_108 rfl kw_620 (by decide) rfl rfl ?_
  refine ar_iload kd_M_lot_111 rfl ?_
  refine az_iast kd_M_lot_113 rfl rfl rfl (by omega) ?_
  rw [hv_un]
  refine ar_aload_n kd_M_lot_114 rfl ?_
  refine ar_dup kd_M_lot_115 rfl ?_
  refine ar_get (ci := 5) (k := 1) kd_M_lot_116 rfl kw_620 (by decide) rfl rfl ?_
  refine ar_iconst kd_M_lot_119 ?_
  refine az_iadd kd_M_lot_120 ?_
  refine ar_put (ci := 5) (k := 1) kd_M_lot_121 rfl kw_620 (by decide) rfl (Nat.le_of_ble_eq_true rfl) rfl (Nat.le_of_ble_eq_true rfl) rfl rfl rfl ?_
  refine ar_heap (hq_nT (mg_nT m + 1)) ?_
  refine ar_aload_n kd_M_lot_124 rfl ?_
  refine ar_get (ci := 5) (k := 1) kd_M_lot_125 rfl kw_620 (by decide) rfl rfl ?_
  refine ar_iconst kd_M_lot_128 ?_
  refine az_isub kd_M_lot_129 ?_
  rw [show ((mg_nT m + 1 : Nat) : Int) - 1 = (mg_nT m : Int) by omega]
  refine ar_ireturn kd_M_lot_130 rfl (Nat.le_of_ble_eq_true rfl) (Nat.le_of_ble_eq_true rfl) ?_
  exact ⟨rfl, rfl, rfl⟩
set_option maxHeartbeats 1000000 in
set_option maxRecDepth 20000 in
theorem sp_M_line_f1 {d : Nat} {x : am_C} {c : cS} {m : mS} {t : List am_C} {n : Nat} {g : Int} {z : Int} (h_g : -2147483648 ≤ g ∧ g < 2147483648) (h_z : -2147483648 ≤ z ∧ z < 2147483648) (hK : mK m) (h0 : ¬ ((0 ≤ g ∧ g ≤ 5) ∧ (1 ≤ z ∧ z ≤ 200))) : am_W (d + 2) km_M_line 0 [some (.ref 50), some (.int (iI g)), some (.int (iI z))] [] (hC x c (hM m t)) n 0 0 (am_eq (some (.int (iI (0)))) (hC x c (hM (ms_co m 1) t)) n) := by
  by_cases g0 : 0 ≤ g ∧ g ≤ 5
  · by_cases g1 : 1 ≤ z ∧ z ≤ 200
    · exfalso
      omega
    · refine ar_aload_n kd_M_line_0 rfl ?_
      refine ar_iload_n kd_M_line_1 rfl ?_
      refine ar_iconst kd_M_line_2 ?_
      refine ar_iconst kd_M_line_3 ?_
      refine az_calls (z := km_M_in) (As := [_, _, _]) kd_M_line_4 kw_692 kw_693 kw_6 kz_M_in rfl rfl rfl rfl (Nat.le_of_ble_eq_true rfl) (Nat.le_of_ble_eq_true rfl) rfl (am_deep (sp_M_in_t (d := 0) (by omega) (by omega) (by omega) (by omega)) (Nat.zero_le _)) ?_
      refine az_if_eq (tg := 21) kd_M_line_7 (by decide) (fun q1 => (by exfalso; omega)) (fun q1 => ?_)
      refine ar_iload_n kd_M_line_10 rfl ?_
      refine ar_iconst kd_M_line_11 ?_
      refine az_sipush kd_M_line_12 (by decide) ?_
      refine az_calls (z := km_M_in) (As := [_, _, _]) kd_M_line_15 kw_692 kw_693 kw_6 kz_M_in rfl rfl rfl rfl (Nat.le_of_ble_eq_true rfl) (Nat.le_of_ble_eq_true rfl) rfl (am_deep (sp_M_in_f (d := 0) (by omega) (by omega) (by omega) (by omega)) (Nat.zero_le _)) ?_
      refine az_if_ne (tg := 25) kd_M_line_18 (by decide) (fun q2 => (by exfalso; omega)) (fun q2 => ?_)
      refine ar_iconst kd_M_line_21 ?_
      refine ar_goto (tg := 39) kd_M_line_22 (by decide) ?_
      refine ar_put (ci := 5) (k := 0) kd_M_line_39 rfl kw_619 (by decide) rfl (Nat.le_of_ble_eq_true rfl) rfl (Nat.le_of_ble_eq_true rfl) rfl rfl rfl ?_
      refine ar_heap (hq_co _) ?_
      refine ar_aload_n kd_M_line_42 rfl ?_
      refine ar_get (ci := 5) (k := 0) kd_M_line_43 rfl kw_619 (by decide) rfl rfl ?_
      rw [co_co]
      refine az_if_le (tg := 51) kd_M_line_46 (by decide) (fun q3 => (by exfalso; omega)) (fun q3 => ?_)
      refine ar_iconst kd_M_line_49 ?_
      refine ar_ireturn kd_M_line_50 rfl (Nat.le_of_ble_eq_true rfl) (Nat.le_of_ble_eq_true rfl) ?_
      exact ⟨rfl, rfl, rfl⟩
  · refine ar_aload_n kd_M_line_0 rfl ?_
    refine ar_iload_n kd_M_line_1 rfl ?_
    refine ar_iconst kd_M_line_2 ?_
    refine ar_iconst kd_M_line_3 ?_
    refine az_calls (z := km_M_in) (As := [_, _, _]) kd_M_line_4 kw_692 kw_693 kw_6 kz_M_in rfl rfl rfl rfl (Nat.le_of_ble_eq_true rfl) (Nat.le_of_ble_eq_true rfl) rfl (am_deep (sp_M_in_f (d := 0) (by omega) (by omega) (by omega) (by omega)) (Nat.zero_le _)) ?_
    refine az_if_eq (tg := 21) kd_M_line_7 (by decide) (fun q1 => ?_) (fun q1 => (by exfalso; omega))
    refine ar_iconst kd_M_line_21 ?_
    refine ar_goto (tg := 39) kd_M_line_22 (by decide) ?_
    refine ar_put (ci := 5) (k := 0) kd_M_line_39 rfl kw_619 (by decide) rfl (Nat.le_of_ble_eq_true rfl) rfl (Nat.le_of_ble_eq_true rfl) rfl rfl rfl ?_
    refine ar_heap (hq_co _) ?_
    refine ar_aload_n kd_M_line_42 rfl ?_
    refine ar_get (ci := 5) (k := 0) kd_M_line_43 rfl kw_619 (by decide) rfl rfl ?_
    rw [co_co]
    refine az_if_le (tg := 51) kd_M_line_46 (by decide) (fun q2 => (by exfalso; omega)) (fun q2 => ?_)
    refine ar_iconst kd_M_line_49 ?_
    refine ar_ireturn kd_M_line_50 rfl (Nat.le_of_ble_eq_true rfl) (Nat.le_of_ble_eq_true rfl) ?_
    exact ⟨rfl, rfl, rfl⟩
set_option maxHeartbeats 1000000 in
set_option maxRecDepth 20000 in
theorem sp_M_line_f2 {d : Nat} {x : am_C} {c : cS} {m : mS} {t : List am_C} {n : Nat} {g z : Int} (hK : mK m) (hL : mg_nL m = 6) (hg : 0 ≤ g ∧ g ≤ 5) (hz : 1 ≤ z ∧ z ≤ 200) : am_W (d + 2) km_M_line 0 [some (.ref 50), some (.int (iI g)), some (.int (iI z))] [] (hC x c (hM m t)) n 0 0 (am_eq (some (.int (iI (0)))) (hC x c (hM (ms_co m 2) t)) n) := by
  refine ar_aload_n kd_M_line_0 rfl ?_
  refine ar_iload_n kd_M_line_1 rfl ?_
  refine ar_iconst kd_M_line_2 ?_
  refine ar_iconst kd_M_line_3 ?_
  refine az_calls (z := km_M_in) (As := [_, _, _]) kd_M_line_4 kw_692 kw_693 kw_6 kz_M_in rfl rfl rfl rfl (Nat.le_of_ble_eq_true rfl) (Nat.le_of_ble_eq_true rfl) rfl (am_deep (sp_M_in_t (d := 0) (by omega) (by omega) (by omega) (by omega)) (Nat.zero_le _)) ?_
  refine az_if_eq (tg := 21) kd_M_line_7 (by decide) (fun q1 => (by exfalso; omega)) (fun q1 => ?_)
  refine ar_iload_n kd_M_line_10 rfl ?_
  refine ar_iconst kd_M_line_11 ?_
  refine az_sipush kd_M_line_12 (by decide) ?_
  refine az_calls (z := km_M_in) (As := [_, _, _]) kd_M_line_15 kw_692 kw_693 kw_6 kz_M_in rfl rfl rfl rfl (Nat.le_of_ble_eq_true rfl) (Nat.le_of_ble_eq_true rfl) rfl (am_deep (sp_M_in_t (d := 0) (by omega) (by omega) (by omega) (by omega)) (Nat.zero_le _)) ?_
  refine az_if_ne (tg := 25) kd_M_line_18 (by decide) (fun q2 => ?_) (fun q2 => (by exfalso; omega))
  refine ar_aload_n kd_M_line_25 rfl ?_
  refine ar_get (ci := 5) (k := 6) kd_M_line_26 rfl kw_625 (by decide) rfl rfl ?_
  refine az_bipush kd_M_line_29 (by decide) ?_
  refine az_icmp_ne (tg := 38) kd_M_line_31 (by decide) (fun q3 => (by exfalso; omega)) (fun q3 => ?_)
  refine ar_iconst kd_M_line_34 ?_
  refine ar_goto (tg := 39) kd_M_line_35 (by decide) ?_
  refine ar_put (ci := 5) (k := 0) kd_M_line_39 rfl kw_619 (by decide) rfl (Nat.le_of_ble_eq_true rfl) rfl (Nat.le_of_ble_eq_true rfl) rfl rfl rfl ?_
  refine ar_heap (hq_co _) ?_
  refine ar_aload_n kd_M_line_42 rfl ?_
  refine ar_get (ci := 5) (k := 0) kd_M_line_43 rfl kw_619 (by decide) rfl rfl ?_
  rw [co_co]
  refine az_if_le (tg := 51) kd_M_line_46 (by decide) (fun q4 => (by exfalso; omega)) (fun q4 => ?_)
  refine ar_iconst kd_M_line_49 ?_
  refine ar_ireturn kd_M_line_50 rfl (Nat.le_of_ble_eq_true rfl) (Nat.le_of_ble_eq_true rfl) ?_
  exact ⟨rfl, rfl, rfl⟩
def mk_addL (m : mS) (g z : Int) : mS := ms_nL (ms_rl (ms_ma (ms_wi (ms_co m 0) (zu (mg_wi m) (mg_nL m) g)) (zu (mg_ma m) (mg_nL m) z)) (zu (zu (mg_rl m) (4 * mg_nL m + 1) 1) (4 * mg_nL m + 2) 8)) (mg_nL m + 1)
set_option maxHeartbeats 1000000 in
set_option maxRecDepth 20000 in
theorem sp_M_line {d : Nat} {x : am_C} {c : cS} {m : mS} {t : List am_C} {n : Nat} {g z : Int} (hK : mK m) (hL : mg_nL m < 6) (hg : 0 ≤ g ∧ g ≤ 5) (hz : 1 ≤ z ∧ z ≤ 200) : am_W (d + 2) km_M_line 0 [some (.ref 50), some (.int (iI g)), some (.int (iI z))] [] (hC x c (hM m t)) n 0 0 (am_eq (some (.int (iI (mg_nL m)))) (hC x c (hM (mk_addL m g z) t)) n) := by
  refine ar_aload_n kd_M_line_0 rfl ?_
  refine ar_iload_n kd_M_line_1 rfl ?_
  refine ar_iconst kd_M_line_2 ?_
  refine ar_iconst kd_M_line_3 ?_
  refine az_calls (z := km_M_in) (As := [_, _, _]) kd_M_line_4 kw_692 kw_693 kw_6 kz_M_in rfl rfl rfl rfl (Nat.le_of_ble_eq_true rfl) (Nat.le_of_ble_eq_true rfl) rfl (am_deep (sp_M_in_t (d := 0) (by omega) (by omega) (by omega) (by omega)) (Nat.zero_le _)) ?_
  refine az_if_eq (tg := 21) kd_M_line_7 (by decide) (fun q1 => (by exfalso; omega)) (fun q1 => ?_)
  refine ar_iload_n kd_M_line_10 rfl ?_
  refine ar_iconst kd_M_line_11 ?_
  refine az_sipush kd_M_line_12 (by decide) ?_
  refine az_calls (z := km_M_in) (As := [_, _, _]) kd_M_line_15 kw_692 kw_693 kw_6 kz_M_in rfl rfl rfl rfl (Nat.le_of_ble_eq_true rfl) (Nat.le_of_ble_eq_true rfl) rfl (am_deep (sp_M_in_t (d := 0) (by omega) (by omega) (by omega) (by omega)) (Nat.zero_le _)) ?_
  refine az_if_ne (tg := 25) kd_M_line_18 (by decide) (fun q2 => ?_) (fun q2 => (by exfalso; omega))
  refine ar_aload_n kd_M_line_25 rfl ?_
  refine ar_get (ci := 5) (k := 6) kd_M_line_26 rfl kw_625 (by decide) rfl rfl ?_
  refine az_bipush kd_M_line_29 (by decide) ?_
  refine az_icmp_ne (tg := 38) kd_M_line_31 (by decide) (fun q3 => ?_) (fun q3 => (by exfalso; omega))
  refine ar_iconst kd_M_line_38 ?_
  refine ar_put (ci := 5) (k := 0) kd_M_line_39 rfl kw_619 (by decide) rfl (Nat.le_of_ble_eq_true rfl) rfl (Nat.le_of_ble_eq_true rfl) rfl rfl rfl ?_
  refine ar_heap (hq_co _) ?_
  refine ar_aload_n kd_M_line_42 rfl ?_
  refine ar_get (ci := 5) (k := 0) kd_M_line_43 rfl kw_619 (by decide) rfl rfl ?_
  rw [co_co]
  refine az_if_le (tg := 51) kd_M_line_46 (by decide) (fun q4 => ?_) (fun q4 => (by exfalso; omega))
  refine ar_aload_n kd_M_line_51 rfl ?_
  refine ar_get (ci := 5) (k := 7) kd_M_line_52 rfl kw_626 (by decide) rfl rfl ?_
  refine ar_aload_n kd_M_line_55 rfl ?_
  refine ar_get (ci := 5) (k := 6) kd_M_line_56 rfl kw_625 (by decide) rfl rfl ?_
  refine ar_iload_n kd_M_line_59 rfl ?_
  refine az_iast kd_M_line_60 rfl rfl rfl (by omega) ?_
  rw [hv_wi]
  refine ar_aload_n kd_M_line_61 rfl ?_
  refine ar_get (ci := 5) (k := 8) kd_M_line_62 rfl kw_627 (by decide) rfl rfl ?_
  refine ar_aload_n kd_M_line_65 rfl ?_
  refine ar_get (ci := 5) (k := 6) kd_M_line_66 rfl kw_625 (by decide) rfl rfl ?_
  refine ar_iload_n kd_M_line_69 rfl ?_
  refine az_iast kd_M_line_70 rfl rfl rfl (by omega) ?_
  rw [hv_ma]
  refine ar_aload_n kd_M_line_71 rfl ?_
  refine ar_get (ci := 5) (k := 9) kd_M_line_72 rfl kw_628 (by decide) rfl rfl ?_
  refine ar_iconst kd_M_line_75 ?_
  refine ar_aload_n kd_M_line_76 rfl ?_
  refine ar_get (ci := 5) (k := 6) kd_M_line_77 rfl kw_625 (by decide) rfl rfl ?_
  refine az_imul kd_M_line_80 ?_
  refine ar_iconst kd_M_line_81 ?_
  refine az_iadd kd_M_line_82 ?_
  refine ar_iconst kd_M_line_83 ?_
  refine az_iast kd_M_line_84 rfl rfl (k := 4 * mg_nL m + 1) (show 4 * ((mg_nL m : Nat) : Int) + 1 = ((4 * mg_nL m + 1 : Nat) : Int) by omega) (by omega) ?_
  rw [hv_rl]
  refine ar_aload_n kd_M_line_85 rfl ?_
  refine ar_get (ci := 5) (k := 9) kd_M_line_86 rfl kw_628 (by decide) rfl rfl ?_
  refine ar_iconst kd_M_line_89 ?_
  refine ar_aload_n kd_M_line_90 rfl ?_
  refine ar_get (ci := 5) (k := 6) kd_M_line_91 rfl kw_625 (by decide) rfl rfl ?_
  refine az_imul kd_M_line_94 ?_
  refine ar_iconst kd_M_line_95 ?_
  refine az_iadd kd_M_line_96 ?_
  refine az_bipush kd_M_line_97 (by decide) ?_
  refine az_iast kd_M_line_99 rfl rfl (k := 4 * mg_nL m + 2) (show 4 * ((mg_nL m : Nat) : Int) + 2 = ((4 * mg_nL m + 2 : Nat) : Int) by omega) (by omega) ?_
  rw [hv_rl]
  refine ar_aload_n kd_M_line_100 rfl ?_
  refine ar_dup kd_M_line_101 rfl ?_
  refine ar_get (ci := 5) (k := 6) kd_M_line_102 rfl kw_625 (by decide) rfl rfl ?_
  refine ar_iconst kd_M_line_105 ?_
  refine az_iadd kd_M_line_106 ?_
  refine ar_put (ci := 5) (k := 6) kd_M_line_107 rfl kw_625 (by decide) rfl (Nat.le_of_ble_eq_true rfl) rfl (Nat.le_of_ble_eq_true rfl) rfl rfl rfl ?_
  refine ar_heap (hq_nL (mg_nL m + 1)) ?_
  refine ar_aload_n kd_M_line_110 rfl ?_
  refine ar_get (ci := 5) (k := 6) kd_M_line_111 rfl kw_625 (by decide) rfl rfl ?_
  refine ar_iconst kd_M_line_114 ?_
  refine az_isub kd_M_line_115 ?_
  rw [show ((mg_nL m + 1 : Nat) : Int) - 1 = (mg_nL m : Int) by omega]
  refine ar_ireturn kd_M_line_116 rfl (Nat.le_of_ble_eq_true rfl) (Nat.le_of_ble_eq_true rfl) ?_
  exact ⟨rfl, rfl, rfl⟩
set_option maxHeartbeats 1000000 in
set_option maxRecDepth 20000 in
theorem sp_M_rule_f1 {d : Nat} {x : am_C} {c : cS} {m : mS} {t : List am_C} {n : Nat} {l k v : Int} (h_l : -2147483648 ≤ l ∧ l < 2147483648) (hK : mK m) (h0 : ¬ (0 ≤ l ∧ l < mg_nL m)) : am_W (d + 2) km_M_rule 0 [some (.ref 50), some (.int (iI l)), some (.int (iI k)), some (.int (iI v))] [] (hC x c (hM m t)) n 0 0 (am_eq none (hC x c (hM (ms_co m 1) t)) n) := by
  refine ar_aload_n kd_M_rule_0 rfl ?_
  refine ar_aload_n kd_M_rule_1 rfl ?_
  refine ar_iload_n kd_M_rule_2 rfl ?_
  refine az_callv (z := km_M_isLine) (As := [_]) (ci := 5) kd_M_rule_3 kw_703 kw_705 rfl ks_M_isLine kz_M_isLine rfl rfl rfl rfl rfl (Nat.le_of_ble_eq_true rfl) (Nat.le_of_ble_eq_true rfl) rfl (am_deep (sp_M_isLine_f (d := 0) (by omega) hK (by omega)) (by omega)) ?_
  refine az_if_ne (tg := 13) kd_M_rule_6 (by decide) (fun q1 => (by exfalso; omega)) (fun q1 => ?_)
  refine ar_iconst kd_M_rule_9 ?_
  refine ar_goto (tg := 26) kd_M_rule_10 (by decide) ?_
  refine ar_put (ci := 5) (k := 0) kd_M_rule_26 rfl kw_619 (by decide) rfl (Nat.le_of_ble_eq_true rfl) rfl (Nat.le_of_ble_eq_true rfl) rfl rfl rfl ?_
  refine ar_heap (hq_co _) ?_
  refine ar_aload_n kd_M_rule_29 rfl ?_
  refine ar_get (ci := 5) (k := 0) kd_M_rule_30 rfl kw_619 (by decide) rfl rfl ?_
  rw [co_co]
  refine az_if_ne (tg := 47) kd_M_rule_33 (by decide) (fun q2 => ?_) (fun q2 => (by exfalso; omega))
  refine ar_return kd_M_rule_47 rfl (Nat.le_of_ble_eq_true rfl) (Nat.le_of_ble_eq_true rfl) ?_
  exact ⟨rfl, rfl, rfl⟩
set_option maxHeartbeats 1000000 in
set_option maxRecDepth 20000 in
theorem sp_M_rule_f2 {d : Nat} {x : am_C} {c : cS} {m : mS} {t : List am_C} {n : Nat} {l k v : Int} (h_l : -2147483648 ≤ l ∧ l < 2147483648) (h_k : -2147483648 ≤ k ∧ k < 2147483648) (h_v : -2147483648 ≤ v ∧ v < 2147483648) (hK : mK m) (h0 : 0 ≤ l ∧ l < mg_nL m) (h1 : ¬ (0 ≤ k ∧ k < 4 ∧ hs_least k.toNat ≤ v ∧ v ≤ hs_most k.toNat)) : am_W (d + 2) km_M_rule 0 [some (.ref 50), some (.int (iI l)), some (.int (iI k)), some (.int (iI v))] [] (hC x c (hM m t)) n 0 0 (am_eq none (hC x c (hM (ms_co m 2) t)) n) := by
  refine ar_aload_n kd_M_rule_0 rfl ?_
  refine ar_aload_n kd_M_rule_1 rfl ?_
  refine ar_iload_n kd_M_rule_2 rfl ?_
  refine az_callv (z := km_M_isLine) (As := [_]) (ci := 5) kd_M_rule_3 kw_703 kw_705 rfl ks_M_isLine kz_M_isLine rfl rfl rfl rfl rfl (Nat.le_of_ble_eq_true rfl) (Nat.le_of_ble_eq_true rfl) rfl (am_deep (sp_M_isLine_t (d := 0) (by omega) hK (by omega)) (by omega)) ?_
  refine az_if_ne (tg := 13) kd_M_rule_6 (by decide) (fun q1 => ?_) (fun q1 => (by exfalso; omega))
  refine ar_iload_n kd_M_rule_13 rfl ?_
  refine ar_iload_n kd_M_rule_14 rfl ?_
  refine az_calls (z := km_M_isRule) (As := [_, _]) kd_M_rule_15 kw_707 kw_708 kw_6 kz_M_isRule rfl rfl rfl rfl (Nat.le_of_ble_eq_true rfl) (Nat.le_of_ble_eq_true rfl) rfl (am_deep (sp_M_isRule_f (d := 0) h_v h_k h1) (by omega)) ?_
  refine az_if_ne (tg := 25) kd_M_rule_18 (by decide) (fun q2 => (by exfalso; omega)) (fun q2 => ?_)
  refine ar_iconst kd_M_rule_21 ?_
  refine ar_goto (tg := 26) kd_M_rule_22 (by decide) ?_
  refine ar_put (ci := 5) (k := 0) kd_M_rule_26 rfl kw_619 (by decide) rfl (Nat.le_of_ble_eq_true rfl) rfl (Nat.le_of_ble_eq_true rfl) rfl rfl rfl ?_
  refine ar_heap (hq_co _) ?_
  refine ar_aload_n kd_M_rule_29 rfl ?_
  refine ar_get (ci := 5) (k := 0) kd_M_rule_30 rfl kw_619 (by decide) rfl rfl ?_
  rw [co_co]
  refine az_if_ne (tg := 47) kd_M_rule_33 (by decide) (fun q3 => ?_) (fun q3 => (by exfalso; omega))
  refine ar_return kd_M_rule_47 rfl (Nat.le_of_ble_eq_true rfl) (Nat.le_of_ble_eq_true rfl) ?_
  exact ⟨rfl, rfl, rfl⟩
set_option maxHeartbeats 1000000 in
set_option maxRecDepth 20000 in
theorem sp_M_rule {d : Nat} {x : am_C} {c : cS} {m : mS} {t : List am_C} {n : Nat} {l k : Nat} {v : Int} (hK : mK m) (hl : l < mg_nL m) (hk : k < 4) (h_v : -2147483648 ≤ v ∧ v < 2147483648) (hv : hs_least k ≤ v ∧ v ≤ hs_most k) : am_W (d + 2) km_M_rule 0 [some (.ref 50), some (.int (iI l)), some (.int (iI k)), some (.int (iI v))] [] (hC x c (hM m t)) n 0 0 (am_eq none (hC x c (hM (ms_rl (ms_co m 0) (zu (mg_rl m) (4 * l + k) v)) t)) n) := by
  obtain ⟨hT, hL⟩ := hK.nn
  refine ar_aload_n kd_M_rule_0 rfl ?_
  refine ar_aload_n kd_M_rule_1 rfl ?_
  refine ar_iload_n kd_M_rule_2 rfl ?_
  refine az_callv (z := km_M_isLine) (As := [_]) (ci := 5) kd_M_rule_3 kw_703 kw_705 rfl ks_M_isLine kz_M_isLine rfl rfl rfl rfl rfl (Nat.le_of_ble_eq_true rfl) (Nat.le_of_ble_eq_true rfl) rfl (am_deep (sp_M_isLine_t (d := 0) (by omega) hK (by omega)) (by omega)) ?_
  refine az_if_ne (tg := 13) kd_M_rule_6 (by decide) (fun q1 => ?_) (fun q1 => (by exfalso; omega))
  refine ar_iload_n kd_M_rule_13 rfl ?_
  refine ar_iload_n kd_M_rule_14 rfl ?_
  refine az_calls (z := km_M_isRule) (As := [_, _]) kd_M_rule_15 kw_707 kw_708 kw_6 kz_M_isRule rfl rfl rfl rfl (Nat.le_of_ble_eq_true rfl) (Nat.le_of_ble_eq_true rfl) rfl (am_deep (sp_M_isRule_t (d := 0) (k := k) h_v hk hv) (by omega)) ?_
  refine az_if_ne (tg := 25) kd_M_rule_18 (by decide) (fun q2 => ?_) (fun q2 => (by exfalso; omega))
  refine ar_iconst kd_M_rule_25 ?_
  refine ar_put (ci := 5) (k := 0) kd_M_rule_26 rfl kw_619 (by decide) rfl (Nat.le_of_ble_eq_true rfl) rfl (Nat.le_of_ble_eq_true rfl) rfl rfl rfl ?_
  refine ar_heap (hq_co _) ?_
  refine ar_aload_n kd_M_rule_29 rfl ?_
  refine ar_get (ci := 5) (k := 0) kd_M_rule_30 rfl kw_619 (by decide) rfl rfl ?_
  rw [co_co]
  refine az_if_ne (tg := 47) kd_M_rule_33 (by decide) (fun q3 => (by exfalso; omega)) (fun q3 => ?_)
  refine ar_aload_n kd_M_rule_36 rfl ?_
  refine ar_get (ci := 5) (k := 9) kd_M_rule_37 rfl kw_628 (by decide) rfl rfl ?_
  refine ar_iconst kd_M_rule_40 ?_
  refine ar_iload_n kd_M_rule_41 rfl ?_
  refine az_imul kd_M_rule_42 ?_
  refine ar_iload_n kd_M_rule_43 rfl ?_
  refine az_iadd kd_M_rule_44 ?_
  refine ar_iload_n kd_M_rule_45 rfl ?_
  refine az_iast kd_M_rule_46 rfl rfl (k := 4 * l + k) (by omega) (by omega) ?_
  rw [hv_rl]
  refine ar_return kd_M_rule_47 rfl (Nat.le_of_ble_eq_true rfl) (Nat.le_of_ble_eq_true rfl) ?_
  exact ⟨rfl, rfl, rfl⟩
set_option maxHeartbeats 1000000 in
set_option maxRecDepth 20000 in
theorem sp_M_cost_f1 {d : Nat} {x : am_C} {c : cS} {m : mS} {t : List am_C} {n : Nat} {k : Int} {l : Int} {v : Int} (h_k : -2147483648 ≤ k ∧ k < 2147483648) (h_l : -2147483648 ≤ l ∧ l < 2147483648) (h_v : -2147483648 ≤ v ∧ v < 2147483648) (hK : mK m) (h0 : ¬ ((0 ≤ k ∧ k < mg_nT m) ∧ (0 ≤ l ∧ l < mg_nL m))) : am_W (d + 2) km_M_cost 0 [some (.ref 50), some (.int (iI k)), some (.int (iI l)), some (.int (iI v))] [] (hC x c (hM m t)) n 0 0 (am_eq none (hC x c (hM (ms_co m 1) t)) n) := by
  by_cases g0 : 0 ≤ k ∧ k < mg_nT m
  · by_cases g1 : 0 ≤ l ∧ l < mg_nL m
    · exfalso
      omega
    · refine ar_aload_n kd_M_cost_0 rfl ?_
      refine ar_aload_n kd_M_cost_1 rfl ?_
      refine ar_iload_n kd_M_cost_2 rfl ?_
      refine az_callv (z := km_M_isLot) (As := [_]) (ci := 5) kd_M_cost_3 kw_714 kw_716 rfl ks_M_isLot kz_M_isLot rfl rfl rfl rfl rfl (Nat.le_of_ble_eq_true rfl) (Nat.le_of_ble_eq_true rfl) rfl (am_deep (sp_M_isLot_t (d := 0) (by omega) hK (by omega)) (by omega)) ?_
      refine az_if_eq (tg := 17) kd_M_cost_6 (by decide) (fun q1 => (by exfalso; omega)) (fun q1 => ?_)
      refine ar_aload_n kd_M_cost_9 rfl ?_
      refine ar_iload_n kd_M_cost_10 rfl ?_
      refine az_callv (z := km_M_isLine) (As := [_]) (ci := 5) kd_M_cost_11 kw_703 kw_705 rfl ks_M_isLine kz_M_isLine rfl rfl rfl rfl rfl (Nat.le_of_ble_eq_true rfl) (Nat.le_of_ble_eq_true rfl) rfl (am_deep (sp_M_isLine_f (d := 0) (by omega) hK (by omega)) (by omega)) ?_
      refine az_if_ne (tg := 21) kd_M_cost_14 (by decide) (fun q2 => (by exfalso; omega)) (fun q2 => ?_)
      refine ar_iconst kd_M_cost_17 ?_
      refine ar_goto (tg := 37) kd_M_cost_18 (by decide) ?_
      refine ar_put (ci := 5) (k := 0) kd_M_cost_37 rfl kw_619 (by decide) rfl (Nat.le_of_ble_eq_true rfl) rfl (Nat.le_of_ble_eq_true rfl) rfl rfl rfl ?_
      refine ar_heap (hq_co _) ?_
      refine ar_aload_n kd_M_cost_40 rfl ?_
      refine ar_get (ci := 5) (k := 0) kd_M_cost_41 rfl kw_619 (by decide) rfl rfl ?_
      rw [co_co]
      refine az_if_ne (tg := 59) kd_M_cost_44 (by decide) (fun q3 => ?_) (fun q3 => (by exfalso; omega))
      refine ar_return kd_M_cost_59 rfl (Nat.le_of_ble_eq_true rfl) (Nat.le_of_ble_eq_true rfl) ?_
      exact ⟨rfl, rfl, rfl⟩
  · refine ar_aload_n kd_M_cost_0 rfl ?_
    refine ar_aload_n kd_M_cost_1 rfl ?_
    refine ar_iload_n kd_M_cost_2 rfl ?_
    refine az_callv (z := km_M_isLot) (As := [_]) (ci := 5) kd_M_cost_3 kw_714 kw_716 rfl ks_M_isLot kz_M_isLot rfl rfl rfl rfl rfl (Nat.le_of_ble_eq_true rfl) (Nat.le_of_ble_eq_true rfl) rfl (am_deep (sp_M_isLot_f (d := 0) (by omega) hK (by omega)) (by omega)) ?_
    refine az_if_eq (tg := 17) kd_M_cost_6 (by decide) (fun q1 => ?_) (fun q1 => (by exfalso; omega))
    refine ar_iconst kd_M_cost_17 ?_
    refine ar_goto (tg := 37) kd_M_cost_18 (by decide) ?_
    refine ar_put (ci := 5) (k := 0) kd_M_cost_37 rfl kw_619 (by decide) rfl (Nat.le_of_ble_eq_true rfl) rfl (Nat.le_of_ble_eq_true rfl) rfl rfl rfl ?_
    refine ar_heap (hq_co _) ?_
    refine ar_aload_n kd_M_cost_40 rfl ?_
    refine ar_get (ci := 5) (k := 0) kd_M_cost_41 rfl kw_619 (by decide) rfl rfl ?_
    rw [co_co]
    refine az_if_ne (tg := 59) kd_M_cost_44 (by decide) (fun q2 => ?_) (fun q2 => (by exfalso; omega))
    refine ar_return kd_M_cost_59 rfl (Nat.le_of_ble_eq_true rfl) (Nat.le_of_ble_eq_true rfl) ?_
    exact ⟨rfl, rfl, rfl⟩
set_option maxHeartbeats 1000000 in
set_option maxRecDepth 20000 in
theorem sp_M_cost_f2 {d : Nat} {x : am_C} {c : cS} {m : mS} {t : List am_C} {n : Nat} {k : Int} {l : Int} {v : Int} (h_k : -2147483648 ≤ k ∧ k < 2147483648) (h_l : -2147483648 ≤ l ∧ l < 2147483648) (h_v : -2147483648 ≤ v ∧ v < 2147483648) (hK : mK m) (p0 : 0 ≤ k ∧ k < mg_nT m) (p1 : 0 ≤ l ∧ l < mg_nL m) (h0 : ¬ ((-1 ≤ v ∧ v ≤ 1000))) : am_W (d + 2) km_M_cost 0 [some (.ref 50), some (.int (iI k)), some (.int (iI l)), some (.int (iI v))] [] (hC x c (hM m t)) n 0 0 (am_eq none (hC x c (hM (ms_co m 2) t)) n) := by
  by_cases g2 : -1 ≤ v ∧ v ≤ 1000
  · exfalso
    omega
  · refine ar_aload_n kd_M_cost_0 rfl ?_
    refine ar_aload_n kd_M_cost_1 rfl ?_
    refine ar_iload_n kd_M_cost_2 rfl ?_
    refine az_callv (z := km_M_isLot) (As := [_]) (ci := 5) kd_M_cost_3 kw_714 kw_716 rfl ks_M_isLot kz_M_isLot rfl rfl rfl rfl rfl (Nat.le_of_ble_eq_true rfl) (Nat.le_of_ble_eq_true rfl) rfl (am_deep (sp_M_isLot_t (d := 0) (by omega) hK (by omega)) (by omega)) ?_
    refine az_if_eq (tg := 17) kd_M_cost_6 (by decide) (fun q1 => (by exfalso; omega)) (fun q1 => ?_)
    refine ar_aload_n kd_M_cost_9 rfl ?_
    refine ar_iload_n kd_M_cost_10 rfl ?_
    refine az_callv (z := km_M_isLine) (As := [_]) (ci := 5) kd_M_cost_11 kw_703 kw_705 rfl ks_M_isLine kz_M_isLine rfl rfl rfl rfl rfl (Nat.le_of_ble_eq_true rfl) (Nat.le_of_ble_eq_true rfl) rfl (am_deep (sp_M_isLine_t (d := 0) (by omega) hK (by omega)) (by omega)) ?_
    refine az_if_ne (tg := 21) kd_M_cost_14 (by decide) (fun q2 => ?_) (fun q2 => (by exfalso; omega))
    refine ar_iload_n kd_M_cost_21 rfl ?_
    refine ar_iconst kd_M_cost_22 ?_
    refine az_sipush kd_M_cost_23 (by decide) ?_
    refine az_calls (z := km_M_in) (As := [_, _, _]) kd_M_cost_26 kw_692 kw_693 kw_6 kz_M_in rfl rfl rfl rfl (Nat.le_of_ble_eq_true rfl) (Nat.le_of_ble_eq_true rfl) rfl (am_deep (sp_M_in_f (d := 0) (by omega) (by omega) (by omega) (by omega)) (Nat.zero_le _)) ?_
    refine az_if_ne (tg := 36) kd_M_cost_29 (by decide) (fun q3 => (by exfalso; omega)) (fun q3 => ?_)
    refine ar_iconst kd_M_cost_32 ?_
    refine ar_goto (tg := 37) kd_M_cost_33 (by decide) ?_
    refine ar_put (ci := 5) (k := 0) kd_M_cost_37 rfl kw_619 (by decide) rfl (Nat.le_of_ble_eq_true rfl) rfl (Nat.le_of_ble_eq_true rfl) rfl rfl rfl ?_
    refine ar_heap (hq_co _) ?_
    refine ar_aload_n kd_M_cost_40 rfl ?_
    refine ar_get (ci := 5) (k := 0) kd_M_cost_41 rfl kw_619 (by decide) rfl rfl ?_
    rw [co_co]
    refine az_if_ne (tg := 59) kd_M_cost_44 (by decide) (fun q4 => ?_) (fun q4 => (by exfalso; omega))
    refine ar_return kd_M_cost_59 rfl (Nat.le_of_ble_eq_true rfl) (Nat.le_of_ble_eq_true rfl) ?_
    exact ⟨rfl, rfl, rfl⟩
set_option maxHeartbeats 1000000 in
set_option maxRecDepth 20000 in
theorem sp_M_cost {d : Nat} {x : am_C} {c : cS} {m : mS} {t : List am_C} {n : Nat} {k l : Nat} {v : Int} (hK : mK m) (hk : k < mg_nT m) (hl : l < mg_nL m) (hv : -1 ≤ v ∧ v ≤ 1000) : am_W (d + 2) km_M_cost 0 [some (.ref 50), some (.int (iI k)), some (.int (iI l)), some (.int (iI v))] [] (hC x c (hM m t)) n 0 0 (am_eq none (hC x c (hM (ms_tl (ms_co m 0) (zu (mg_tl m) (8 * l + k) v)) t)) n) := by
  obtain ⟨hT, hL⟩ := hK.nn
  refine ar_aload_n kd_M_cost_0 rfl ?_
  refine ar_aload_n kd_M_cost_1 rfl ?_
  refine ar_iload_n kd_M_cost_2 rfl ?_
  refine az_callv (z := km_M_isLot) (As := [_]) (ci := 5) kd_M_cost_3 kw_714 kw_716 rfl ks_M_isLot kz_M_isLot rfl rfl rfl rfl rfl (Nat.le_of_ble_eq_true rfl) (Nat.le_of_ble_eq_true rfl) rfl (am_deep (sp_M_isLot_t (d := 0) (by omega) hK (by omega)) (by omega)) ?_
  refine az_if_eq (tg := 17) kd_M_cost_6 (by decide) (fun q1 => (by exfalso; omega)) (fun q1 => ?_)
  refine ar_aload_n kd_M_cost_9 rfl ?_
  refine ar_iload_n kd_M_cost_10 rfl ?_
  refine az_callv (z := km_M_isLine) (As := [_]) (ci := 5) kd_M_cost_11 kw_703 kw_705 rfl ks_M_isLine kz_M_isLine rfl rfl rfl rfl rfl (Nat.le_of_ble_eq_true rfl) (Nat.le_of_ble_eq_true rfl) rfl (am_deep (sp_M_isLine_t (d := 0) (by omega) hK (by omega)) (by omega)) ?_
  refine az_if_ne (tg := 21) kd_M_cost_14 (by decide) (fun q2 => ?_) (fun q2 => (by exfalso; omega))
  refine ar_iload_n kd_M_cost_21 rfl ?_
  refine ar_iconst kd_M_cost_22 ?_
  refine az_sipush kd_M_cost_23 (by decide) ?_
  refine az_calls (z := km_M_in) (As := [_, _, _]) kd_M_cost_26 kw_692 kw_693 kw_6 kz_M_in rfl rfl rfl rfl (Nat.le_of_ble_eq_true rfl) (Nat.le_of_ble_eq_true rfl) rfl (am_deep (sp_M_in_t (d := 0) (by omega) (by omega) (by omega) (by omega)) (Nat.zero_le _)) ?_
  refine az_if_ne (tg := 36) kd_M_cost_29 (by decide) (fun q3 => ?_) (fun q3 => (by exfalso; omega))
  refine ar_iconst kd_M_cost_36 ?_
  refine ar_put (ci := 5) (k := 0) kd_M_cost_37 rfl kw_619 (by decide) rfl (Nat.le_of_ble_eq_true rfl) rfl (Nat.le_of_ble_eq_true rfl) rfl rfl rfl ?_
  refine ar_heap (hq_co _) ?_
  refine ar_aload_n kd_M_cost_40 rfl ?_
  refine ar_get (ci := 5) (k := 0) kd_M_cost_41 rfl kw_619 (by decide) rfl rfl ?_
  rw [co_co]
  refine az_if_ne (tg := 59) kd_M_cost_44 (by decide) (fun q4 => (by exfalso; omega)) (fun q4 => ?_)
  refine ar_aload_n kd_M_cost_47 rfl ?_
  refine ar_get (ci := 5) (k := 10) kd_M_cost_48 rfl kw_629 (by decide) rfl rfl ?_
  refine az_bipush kd_M_cost_51 (by decide) ?_
  refine ar_iload_n kd_M_cost_53 rfl ?_
  refine az_imul kd_M_cost_54 ?_
  refine ar_iload_n kd_M_cost_55 rfl ?_
  refine az_iadd kd_M_cost_56 ?_
  refine ar_iload_n kd_M_cost_57 rfl ?_
  refine az_iast kd_M_cost_58 rfl rfl (k := 8 * l + k) (by omega) (by omega) ?_
  rw [hv_tl]
  refine ar_return kd_M_cost_59 rfl (Nat.le_of_ble_eq_true rfl) (Nat.le_of_ble_eq_true rfl) ?_
  exact ⟨rfl, rfl, rfl⟩
set_option maxHeartbeats 1000000 in
set_option maxRecDepth 20000 in
theorem sp_M_may_f1 {d : Nat} {x : am_C} {c : cS} {m : mS} {t : List am_C} {n : Nat} {k : Int} {l : Int} {v : Int} (h_k : -2147483648 ≤ k ∧ k < 2147483648) (h_l : -2147483648 ≤ l ∧ l < 2147483648) (h_v : -2147483648 ≤ v ∧ v < 2147483648) (hK : mK m) (h0 : ¬ ((0 ≤ k ∧ k < mg_nT m) ∧ (0 ≤ l ∧ l < mg_nL m))) : am_W (d + 2) km_M_may 0 [some (.ref 50), some (.int (iI k)), some (.int (iI l)), some (.int (iI v))] [] (hC x c (hM m t)) n 0 0 (am_eq (some (.int (iI (0)))) (hC x c (hM (ms_co m 1) t)) n) := by
  by_cases g0 : 0 ≤ k ∧ k < mg_nT m
  · by_cases g1 : 0 ≤ l ∧ l < mg_nL m
    · exfalso
      omega
    · refine ar_aload_n kd_M_may_0 rfl ?_
      refine ar_aload_n kd_M_may_1 rfl ?_
      refine ar_iload_n kd_M_may_2 rfl ?_
      refine az_callv (z := km_M_isLot) (As := [_]) (ci := 5) kd_M_may_3 kw_714 kw_716 rfl ks_M_isLot kz_M_isLot rfl rfl rfl rfl rfl (Nat.le_of_ble_eq_true rfl) (Nat.le_of_ble_eq_true rfl) rfl (am_deep (sp_M_isLot_t (d := 0) (by omega) hK (by omega)) (by omega)) ?_
      refine az_if_eq (tg := 17) kd_M_may_6 (by decide) (fun q1 => (by exfalso; omega)) (fun q1 => ?_)
      refine ar_aload_n kd_M_may_9 rfl ?_
      refine ar_iload_n kd_M_may_10 rfl ?_
      refine az_callv (z := km_M_isLine) (As := [_]) (ci := 5) kd_M_may_11 kw_703 kw_705 rfl ks_M_isLine kz_M_isLine rfl rfl rfl rfl rfl (Nat.le_of_ble_eq_true rfl) (Nat.le_of_ble_eq_true rfl) rfl (am_deep (sp_M_isLine_f (d := 0) (by omega) hK (by omega)) (by omega)) ?_
      refine az_if_ne (tg := 21) kd_M_may_14 (by decide) (fun q2 => (by exfalso; omega)) (fun q2 => ?_)
      refine ar_iconst kd_M_may_17 ?_
      refine ar_goto (tg := 22) kd_M_may_18 (by decide) ?_
      refine ar_put (ci := 5) (k := 0) kd_M_may_22 rfl kw_619 (by decide) rfl (Nat.le_of_ble_eq_true rfl) rfl (Nat.le_of_ble_eq_true rfl) rfl rfl rfl ?_
      refine ar_heap (hq_co _) ?_
      refine ar_aload_n kd_M_may_25 rfl ?_
      refine ar_get (ci := 5) (k := 0) kd_M_may_26 rfl kw_619 (by decide) rfl rfl ?_
      rw [co_co]
      refine az_if_le (tg := 34) kd_M_may_29 (by decide) (fun q3 => (by exfalso; omega)) (fun q3 => ?_)
      refine ar_iconst kd_M_may_32 ?_
      refine ar_zreturn kd_M_may_33 rfl rfl (Nat.le_of_ble_eq_true rfl) (Nat.le_of_ble_eq_true rfl) ?_
      exact ⟨rfl, rfl, rfl⟩
  · refine ar_aload_n kd_M_may_0 rfl ?_
    refine ar_aload_n kd_M_may_1 rfl ?_
    refine ar_iload_n kd_M_may_2 rfl ?_
    refine az_callv (z := km_M_isLot) (As := [_]) (ci := 5) kd_M_may_3 kw_714 kw_716 rfl ks_M_isLot kz_M_isLot rfl rfl rfl rfl rfl (Nat.le_of_ble_eq_true rfl) (Nat.le_of_ble_eq_true rfl) rfl (am_deep (sp_M_isLot_f (d := 0) (by omega) hK (by omega)) (by omega)) ?_
    refine az_if_eq (tg := 17) kd_M_may_6 (by decide) (fun q1 => ?_) (fun q1 => (by exfalso; omega))
    refine ar_iconst kd_M_may_17 ?_
    refine ar_goto (tg := 22) kd_M_may_18 (by decide) ?_
    refine ar_put (ci := 5) (k := 0) kd_M_may_22 rfl kw_619 (by decide) rfl (Nat.le_of_ble_eq_true rfl) rfl (Nat.le_of_ble_eq_true rfl) rfl rfl rfl ?_
    refine ar_heap (hq_co _) ?_
    refine ar_aload_n kd_M_may_25 rfl ?_
    refine ar_get (ci := 5) (k := 0) kd_M_may_26 rfl kw_619 (by decide) rfl rfl ?_
    rw [co_co]
    refine az_if_le (tg := 34) kd_M_may_29 (by decide) (fun q2 => (by exfalso; omega)) (fun q2 => ?_)
    refine ar_iconst kd_M_may_32 ?_
    refine ar_zreturn kd_M_may_33 rfl rfl (Nat.le_of_ble_eq_true rfl) (Nat.le_of_ble_eq_true rfl) ?_
    exact ⟨rfl, rfl, rfl⟩
def mk_may (m : mS) (k l : Nat) (v : Int) : mS := ms_ba (ms_co m 0) (upd (mg_ba m) (8 * l + k) (iI (1 - v)))
theorem mK_may {m : mS} (h : mK m) (k l : Nat) (v : Int) : mK (mk_may m k l v) := h
theorem nar_01 : vp_nar .boolean (iI 0) = iI 0 ∧ vp_nar .boolean (iI 1) = iI 1 := by decide
set_option maxHeartbeats 1000000 in
set_option maxRecDepth 20000 in
theorem sp_M_may {d : Nat} {x : am_C} {c : cS} {m : mS} {t : List am_C} {n : Nat} {k l : Nat} {v : Int} (hK : mK m) (hk : k < mg_nT m) (hl : l < mg_nL m) (hv : 0 ≤ v ∧ v ≤ 1) : am_W (d + 2) km_M_may 0 [some (.ref 50), some (.int (iI k)), some (.int (iI l)), some (.int (iI v))] [] (hC x c (hM m t)) n 0 0 (am_eq (some (.int (iI (zb (mk_all (mk_may m k l v) k l))))) (hC x c (hM (mk_may m k l v) t)) n) := by
  obtain ⟨hT, hL⟩ := hK.nn
  refine ar_aload_n kd_M_may_0 rfl ?_
  refine ar_aload_n kd_M_may_1 rfl ?_
  refine ar_iload_n kd_M_may_2 rfl ?_
  refine az_callv (z := km_M_isLot) (As := [_]) (ci := 5) kd_M_may_3 kw_714 kw_716 rfl ks_M_isLot kz_M_isLot rfl rfl rfl rfl rfl (Nat.le_of_ble_eq_true rfl) (Nat.le_of_ble_eq_true rfl) rfl (am_deep (sp_M_isLot_t (d := 0) (by omega) hK (by omega)) (by omega)) ?_
  refine az_if_eq (tg := 17) kd_M_may_6 (by decide) (fun q1 => (by exfalso; omega)) (fun q1 => ?_)
  refine ar_aload_n kd_M_may_9 rfl ?_
  refine ar_iload_n kd_M_may_10 rfl ?_
  refine az_callv (z := km_M_isLine) (As := [_]) (ci := 5) kd_M_may_11 kw_703 kw_705 rfl ks_M_isLine kz_M_isLine rfl rfl rfl rfl rfl (Nat.le_of_ble_eq_true rfl) (Nat.le_of_ble_eq_true rfl) rfl (am_deep (sp_M_isLine_t (d := 0) (by omega) hK (by omega)) (by omega)) ?_
  refine az_if_ne (tg := 21) kd_M_may_14 (by decide) (fun q2 => ?_) (fun q2 => (by exfalso; omega))
  refine ar_iconst kd_M_may_21 ?_
  refine ar_put (ci := 5) (k := 0) kd_M_may_22 rfl kw_619 (by decide) rfl (Nat.le_of_ble_eq_true rfl) rfl (Nat.le_of_ble_eq_true rfl) rfl rfl rfl ?_
  refine ar_heap (hq_co _) ?_
  refine ar_aload_n kd_M_may_25 rfl ?_
  refine ar_get (ci := 5) (k := 0) kd_M_may_26 rfl kw_619 (by decide) rfl rfl ?_
  rw [co_co]
  refine az_if_le (tg := 34) kd_M_may_29 (by decide) (fun q3 => ?_) (fun q3 => (by exfalso; omega))
  refine ar_aload_n kd_M_may_34 rfl ?_
  refine ar_get (ci := 5) (k := 11) kd_M_may_35 rfl kw_630 (by decide) rfl rfl ?_
  refine az_bipush kd_M_may_38 (by decide) ?_
  refine ar_iload_n kd_M_may_40 rfl ?_
  refine az_imul kd_M_may_41 ?_
  refine ar_iload_n kd_M_may_42 rfl ?_
  refine az_iadd kd_M_may_43 ?_
  refine ar_iload_n kd_M_may_44 rfl ?_
  refine az_if_ne (tg := 52) kd_M_may_45 (by decide) (fun q4 => ?_) (fun q4 => ?_)
  · obtain rfl : v = 1 := by omega
    refine ar_iconst kd_M_may_52 ?_
    refine az_zast kd_M_may_53 rfl rfl (k := 8 * l + k) (by omega) (by omega) ?_
    first | (rw [nar_01.1, hv_ba]; refine ar_heap (h' := hC x c (hM (mk_may m k l 1) t)) rfl ?_) | (rw [nar_01.2, hv_ba]; refine ar_heap (h' := hC x c (hM (mk_may m k l 0) t)) rfl ?_)
    refine ar_aload_n kd_M_may_54 rfl ?_
    refine ar_iload_n kd_M_may_55 rfl ?_
    refine ar_iload_n kd_M_may_56 rfl ?_
    refine az_callv (z := km_M_isAllowed) (As := [_, _]) (ci := 5) kd_M_may_57 kw_722 kw_724 rfl ks_M_isAllowed kz_M_isAllowed rfl rfl rfl rfl rfl (Nat.le_of_ble_eq_true rfl) (Nat.le_of_ble_eq_true rfl) rfl (sp_M_isAllowed (by omega) (by omega) (mK_may hK k l _)) ?_
    refine ar_zreturn kd_M_may_60 rfl (by unfold zb; split <;> rfl) (Nat.le_of_ble_eq_true rfl) (Nat.le_of_ble_eq_true rfl) ?_
    exact ⟨rfl, rfl, rfl⟩
  · obtain rfl : v = 0 := by omega
    refine ar_iconst kd_M_may_48 ?_
    refine ar_goto (tg := 53) kd_M_may_49 (by decide) ?_
    refine az_zast kd_M_may_53 rfl rfl (k := 8 * l + k) (by omega) (by omega) ?_
    first | (rw [nar_01.1, hv_ba]; refine ar_heap (h' := hC x c (hM (mk_may m k l 1) t)) rfl ?_) | (rw [nar_01.2, hv_ba]; refine ar_heap (h' := hC x c (hM (mk_may m k l 0) t)) rfl ?_)
    refine ar_aload_n kd_M_may_54 rfl ?_
    refine ar_iload_n kd_M_may_55 rfl ?_
    refine ar_iload_n kd_M_may_56 rfl ?_
    refine az_callv (z := km_M_isAllowed) (As := [_, _]) (ci := 5) kd_M_may_57 kw_722 kw_724 rfl ks_M_isAllowed kz_M_isAllowed rfl rfl rfl rfl rfl (Nat.le_of_ble_eq_true rfl) (Nat.le_of_ble_eq_true rfl) rfl (sp_M_isAllowed (by omega) (by omega) (mK_may hK k l _)) ?_
    refine ar_zreturn kd_M_may_60 rfl (by unfold zb; split <;> rfl) (Nat.le_of_ble_eq_true rfl) (Nat.le_of_ble_eq_true rfl) ?_
    exact ⟨rfl, rfl, rfl⟩
set_option maxHeartbeats 1000000 in
set_option maxRecDepth 20000 in
theorem sp_M_held_f1 {d : Nat} {x : am_C} {c : cS} {m : mS} {t : List am_C} {n : Nat} {k : Int} (h_k : -2147483648 ≤ k ∧ k < 2147483648) (hK : mK m) (h0 : ¬ (0 ≤ k ∧ k < mg_nT m)) : am_W (d + 2) km_M_held 0 [some (.ref 50), some (.int (iI k))] [] (hC x c (hM m t)) n 0 0 (am_eq (some (.int (iI (0)))) (hC x c (hM (ms_co m 1) t)) n) := by
  refine ar_aload_n kd_M_held_0 rfl ?_
  refine ar_aload_n kd_M_held_1 rfl ?_
  refine ar_iload_n kd_M_held_2 rfl ?_
  refine az_callv (z := km_M_isLot) (As := [_]) (ci := 5) kd_M_held_3 kw_714 kw_716 rfl ks_M_isLot kz_M_isLot rfl rfl rfl rfl rfl (Nat.le_of_ble_eq_true rfl) (Nat.le_of_ble_eq_true rfl) rfl (am_deep (sp_M_isLot_f (d := 0) (by omega) hK (by omega)) (by omega)) ?_
  refine az_if_eq (tg := 13) kd_M_held_6 (by decide) (fun q1 => ?_) (fun q1 => (by exfalso; omega))
  refine ar_iconst kd_M_held_13 ?_
  refine ar_put (ci := 5) (k := 0) kd_M_held_14 rfl kw_619 (by decide) rfl (Nat.le_of_ble_eq_true rfl) rfl (Nat.le_of_ble_eq_true rfl) rfl rfl rfl ?_
  refine ar_heap (hq_co _) ?_
  refine ar_aload_n kd_M_held_17 rfl ?_
  refine ar_get (ci := 5) (k := 0) kd_M_held_18 rfl kw_619 (by decide) rfl rfl ?_
  rw [co_co]
  refine az_if_le (tg := 28) kd_M_held_21 (by decide) (fun q2 => (by exfalso; omega)) (fun q2 => ?_)
  refine ar_iconst kd_M_held_24 ?_
  refine ar_goto (tg := 33) kd_M_held_25 (by decide) ?_
  refine ar_ireturn kd_M_held_33 rfl (Nat.le_of_ble_eq_true rfl) (Nat.le_of_ble_eq_true rfl) ?_
  exact ⟨rfl, rfl, rfl⟩
set_option maxHeartbeats 1000000 in
set_option maxRecDepth 20000 in
theorem sp_M_left_f1 {d : Nat} {x : am_C} {c : cS} {m : mS} {t : List am_C} {n : Nat} {k : Int} (h_k : -2147483648 ≤ k ∧ k < 2147483648) (hK : mK m) (h0 : ¬ (0 ≤ k ∧ k < mg_nT m)) : am_W (d + 2) km_M_left 0 [some (.ref 50), some (.int (iI k))] [] (hC x c (hM m t)) n 0 0 (am_eq (some (.int (iI (0)))) (hC x c (hM (ms_co m 1) t)) n) := by
  refine ar_aload_n kd_M_left_0 rfl ?_
  refine ar_aload_n kd_M_left_1 rfl ?_
  refine ar_iload_n kd_M_left_2 rfl ?_
  refine az_callv (z := km_M_isLot) (As := [_]) (ci := 5) kd_M_left_3 kw_714 kw_716 rfl ks_M_isLot kz_M_isLot rfl rfl rfl rfl rfl (Nat.le_of_ble_eq_true rfl) (Nat.le_of_ble_eq_true rfl) rfl (am_deep (sp_M_isLot_f (d := 0) (by omega) hK (by omega)) (by omega)) ?_
  refine az_if_eq (tg := 13) kd_M_left_6 (by decide) (fun q1 => ?_) (fun q1 => (by exfalso; omega))
  refine ar_iconst kd_M_left_13 ?_
  refine ar_put (ci := 5) (k := 0) kd_M_left_14 rfl kw_619 (by decide) rfl (Nat.le_of_ble_eq_true rfl) rfl (Nat.le_of_ble_eq_true rfl) rfl rfl rfl ?_
  refine ar_heap (hq_co _) ?_
  refine ar_aload_n kd_M_left_17 rfl ?_
  refine ar_get (ci := 5) (k := 0) kd_M_left_18 rfl kw_619 (by decide) rfl rfl ?_
  rw [co_co]
  refine az_if_le (tg := 28) kd_M_left_21 (by decide) (fun q2 => (by exfalso; omega)) (fun q2 => ?_)
  refine ar_iconst kd_M_left_24 ?_
  refine ar_goto (tg := 40) kd_M_left_25 (by decide) ?_
  refine ar_ireturn kd_M_left_40 rfl (Nat.le_of_ble_eq_true rfl) (Nat.le_of_ble_eq_true rfl) ?_
  exact ⟨rfl, rfl, rfl⟩
set_option maxHeartbeats 1000000 in
set_option maxRecDepth 20000 in
theorem sp_M_refused_f1 {d : Nat} {x : am_C} {c : cS} {m : mS} {t : List am_C} {n : Nat} {l : Int} (h_l : -2147483648 ≤ l ∧ l < 2147483648) (hK : mK m) (h0 : ¬ (0 ≤ l ∧ l < mg_nL m)) : am_W (d + 2) km_M_refused 0 [some (.ref 50), some (.int (iI l))] [] (hC x c (hM m t)) n 0 0 (am_eq (some (.int (iI (0)))) (hC x c (hM (ms_co m 1) t)) n) := by
  refine ar_aload_n kd_M_refused_0 rfl ?_
  refine ar_aload_n kd_M_refused_1 rfl ?_
  refine ar_iload_n kd_M_refused_2 rfl ?_
  refine az_callv (z := km_M_isLine) (As := [_]) (ci := 5) kd_M_refused_3 kw_703 kw_705 rfl ks_M_isLine kz_M_isLine rfl rfl rfl rfl rfl (Nat.le_of_ble_eq_true rfl) (Nat.le_of_ble_eq_true rfl) rfl (am_deep (sp_M_isLine_f (d := 0) (by omega) hK (by omega)) (by omega)) ?_
  refine az_if_eq (tg := 13) kd_M_refused_6 (by decide) (fun q1 => ?_) (fun q1 => (by exfalso; omega))
  refine ar_iconst kd_M_refused_13 ?_
  refine ar_put (ci := 5) (k := 0) kd_M_refused_14 rfl kw_619 (by decide) rfl (Nat.le_of_ble_eq_true rfl) rfl (Nat.le_of_ble_eq_true rfl) rfl rfl rfl ?_
  refine ar_heap (hq_co _) ?_
  refine ar_aload_n kd_M_refused_17 rfl ?_
  refine ar_get (ci := 5) (k := 0) kd_M_refused_18 rfl kw_619 (by decide) rfl rfl ?_
  rw [co_co]
  refine az_if_le (tg := 28) kd_M_refused_21 (by decide) (fun q2 => (by exfalso; omega)) (fun q2 => ?_)
  refine ar_iconst kd_M_refused_24 ?_
  refine ar_goto (tg := 40) kd_M_refused_25 (by decide) ?_
  refine ar_ireturn kd_M_refused_40 rfl (Nat.le_of_ble_eq_true rfl) (Nat.le_of_ble_eq_true rfl) ?_
  exact ⟨rfl, rfl, rfl⟩
set_option maxHeartbeats 1000000 in
set_option maxRecDepth 20000 in
theorem sp_M_bar_f1 {d : Nat} {x : am_C} {c : cS} {m : mS} {t : List am_C} {n : Nat} {l : Int} (h_l : -2147483648 ≤ l ∧ l < 2147483648) (hK : mK m) (h0 : ¬ (0 ≤ l ∧ l < mg_nL m)) : am_W (d + 2) km_M_bar 0 [some (.ref 50), some (.int (iI l)), none, none, none] [] (hC x c (hM m t)) n 0 0 (am_eq (some (.int (iI (0)))) (hC x c (hM (ms_co m 1) t)) n) := by
  refine ar_aload_n kd_M_bar_0 rfl ?_
  refine ar_aload_n kd_M_bar_1 rfl ?_
  refine ar_iload_n kd_M_bar_2 rfl ?_
  refine az_callv (z := km_M_isLine) (As := [_]) (ci := 5) kd_M_bar_3 kw_703 kw_705 rfl ks_M_isLine kz_M_isLine rfl rfl rfl rfl rfl (Nat.le_of_ble_eq_true rfl) (Nat.le_of_ble_eq_true rfl) rfl (am_deep (sp_M_isLine_f (d := 0) (by omega) hK (by omega)) (by omega)) ?_
  refine az_if_eq (tg := 13) kd_M_bar_6 (by decide) (fun q1 => ?_) (fun q1 => (by exfalso; omega))
  refine ar_iconst kd_M_bar_13 ?_
  refine ar_put (ci := 5) (k := 0) kd_M_bar_14 rfl kw_619 (by decide) rfl (Nat.le_of_ble_eq_true rfl) rfl (Nat.le_of_ble_eq_true rfl) rfl rfl rfl ?_
  refine ar_heap (hq_co _) ?_
  refine ar_aload_n kd_M_bar_17 rfl ?_
  refine ar_get (ci := 5) (k := 0) kd_M_bar_18 rfl kw_619 (by decide) rfl rfl ?_
  rw [co_co]
  refine az_if_le (tg := 26) kd_M_bar_21 (by decide) (fun q2 => (by exfalso; omega)) (fun q2 => ?_)
  refine ar_iconst kd_M_bar_24 ?_
  refine ar_ireturn kd_M_bar_25 rfl (Nat.le_of_ble_eq_true rfl) (Nat.le_of_ble_eq_true rfl) ?_
  exact ⟨rfl, rfl, rfl⟩
theorem mK_co {m : mS} (h : mK m) (v : Int) : mK (ms_co m v) := h
def mk_hof (m : mS) (k : Nat) : Int := zs (fun l => mg_ho m (8 * l + k)) (mg_nL m)
def mk_hby (m : mS) (l : Nat) : Int := zs (fun k => mg_ho m (8 * l + k)) (mg_nT m)
set_option maxHeartbeats 1000000 in
set_option maxRecDepth 20000 in
theorem sp_M_held {d : Nat} {x : am_C} {c : cS} {m : mS} {t : List am_C} {n : Nat} {k : Nat} (hK : mK m) (hk : k < mg_nT m) : am_W (d + 2) km_M_held 0 [some (.ref 50), some (.int (iI k))] [] (hC x c (hM m t)) n 0 0 (am_eq (some (.int (iI (mk_hof m k)))) (hC x c (hM (ms_co m 0) t)) n) := by
  obtain ⟨hT, hL⟩ := hK.nn
  refine ar_aload_n kd_M_held_0 rfl ?_
  refine ar_aload_n kd_M_held_1 rfl ?_
  refine ar_iload_n kd_M_held_2 rfl ?_
  refine az_callv (z := km_M_isLot) (As := [_]) (ci := 5) kd_M_held_3 kw_714 kw_716 rfl ks_M_isLot kz_M_isLot rfl rfl rfl rfl rfl (Nat.le_of_ble_eq_true rfl) (Nat.le_of_ble_eq_true rfl) rfl (am_deep (sp_M_isLot_t (d := 0) (by omega) hK (by omega)) (by omega)) ?_
  refine az_if_eq (tg := 13) kd_M_held_6 (by decide) (fun q1 => (by exfalso; omega)) (fun q1 => ?_)
  refine ar_iconst kd_M_held_9 ?_
  refine ar_goto (tg := 14) kd_M_held_10 (by decide) ?_
  refine ar_put (ci := 5) (k := 0) kd_M_held_14 rfl kw_619 (by decide) rfl (Nat.le_of_ble_eq_true rfl) rfl (Nat.le_of_ble_eq_true rfl) rfl rfl rfl ?_
  refine ar_heap (hq_co _) ?_
  refine ar_aload_n kd_M_held_17 rfl ?_
  refine ar_get (ci := 5) (k := 0) kd_M_held_18 rfl kw_619 (by decide) rfl rfl ?_
  rw [co_co]
  refine az_if_le (tg := 28) kd_M_held_21 (by decide) (fun q2 => ?_) (fun q2 => (by exfalso; omega))
  refine ar_aload_n kd_M_held_28 rfl ?_
  refine ar_iload_n kd_M_held_29 rfl ?_
  refine az_callv (z := km_M_heldOf) (As := [_]) (ci := 5) kd_M_held_30 kw_804 kw_806 rfl ks_M_heldOf kz_M_heldOf rfl rfl rfl rfl rfl (Nat.le_of_ble_eq_true rfl) (Nat.le_of_ble_eq_true rfl) rfl (sp_M_heldOf (m := ms_co m 0) (by omega) (mK_co hK 0)) ?_
  refine ar_ireturn kd_M_held_33 rfl (Nat.le_of_ble_eq_true rfl) (Nat.le_of_ble_eq_true rfl) ?_
  exact ⟨rfl, rfl, rfl⟩
set_option maxHeartbeats 1000000 in
set_option maxRecDepth 20000 in
theorem sp_M_left {d : Nat} {x : am_C} {c : cS} {m : mS} {t : List am_C} {n : Nat} {k : Nat} (hK : mK m) (hk : k < mg_nT m) : am_W (d + 2) km_M_left 0 [some (.ref 50), some (.int (iI k))] [] (hC x c (hM m t)) n 0 0 (am_eq (some (.int (iI (mg_pc m k - mk_hof m k)))) (hC x c (hM (ms_co m 0) t)) n) := by
  obtain ⟨hT, hL⟩ := hK.nn
  refine ar_aload_n kd_M_left_0 rfl ?_
  refine ar_aload_n kd_M_left_1 rfl ?_
  refine ar_iload_n kd_M_left_2 rfl ?_
  refine az_callv (z := km_M_isLot) (As := [_]) (ci := 5) kd_M_left_3 kw_714 kw_716 rfl ks_M_isLot kz_M_isLot rfl rfl rfl rfl rfl (Nat.le_of_ble_eq_true rfl) (Nat.le_of_ble_eq_true rfl) rfl (am_deep (sp_M_isLot_t (d := 0) (by omega) hK (by omega)) (by omega)) ?_
  refine az_if_eq (tg := 13) kd_M_left_6 (by decide) (fun q1 => (by exfalso; omega)) (fun q1 => ?_)
  refine ar_iconst kd_M_left_9 ?_
  refine ar_goto (tg := 14) kd_M_left_10 (by decide) ?_
  refine ar_put (ci := 5) (k := 0) kd_M_left_14 rfl kw_619 (by decide) rfl (Nat.le_of_ble_eq_true rfl) rfl (Nat.le_of_ble_eq_true rfl) rfl rfl rfl ?_
  refine ar_heap (hq_co _) ?_
  refine ar_aload_n kd_M_left_17 rfl ?_
  refine ar_get (ci := 5) (k := 0) kd_M_left_18 rfl kw_619 (by decide) rfl rfl ?_
  rw [co_co]
  refine az_if_le (tg := 28) kd_M_left_21 (by decide) (fun q2 => ?_) (fun q2 => (by exfalso; omega))
  refine ar_aload_n kd_M_left_28 rfl ?_
  refine ar_get (ci := 5) (k := 4) kd_M_left_29 rfl kw_623 (by decide) rfl rfl ?_
  refine ar_iload_n kd_M_left_32 rfl ?_
  refine az_iald kd_M_left_33 rfl (k := k) (by omega) (by omega) ?_
  refine ar_aload_n kd_M_left_34 rfl ?_
  refine ar_iload_n kd_M_left_35 rfl ?_
  refine az_callv (z := km_M_heldOf) (As := [_]) (ci := 5) kd_M_left_36 kw_804 kw_806 rfl ks_M_heldOf kz_M_heldOf rfl rfl rfl rfl rfl (Nat.le_of_ble_eq_true rfl) (Nat.le_of_ble_eq_true rfl) rfl (sp_M_heldOf (m := ms_co m 0) (by omega) (mK_co hK 0)) ?_
  refine az_isub kd_M_left_39 ?_
  refine ar_ireturn kd_M_left_40 rfl (Nat.le_of_ble_eq_true rfl) (Nat.le_of_ble_eq_true rfl) ?_
  exact ⟨rfl, rfl, rfl⟩
set_option maxHeartbeats 1000000 in
set_option maxRecDepth 20000 in
theorem sp_M_refused {d : Nat} {x : am_C} {c : cS} {m : mS} {t : List am_C} {n : Nat} {l : Nat} (hK : mK m) (hl : l < mg_nL m) : am_W (d + 2) km_M_refused 0 [some (.ref 50), some (.int (iI l))] [] (hC x c (hM m t)) n 0 0 (am_eq (some (.int (iI (mg_ma m l - mk_hby m l)))) (hC x c (hM (ms_co m 0) t)) n) := by
  obtain ⟨hT, hL⟩ := hK.nn
  refine ar_aload_n kd_M_refused_0 rfl ?_
  refine ar_aload_n kd_M_refused_1 rfl ?_
  refine ar_iload_n kd_M_refused_2 rfl ?_
  refine az_callv (z := km_M_isLine) (As := [_]) (ci := 5) kd_M_refused_3 kw_703 kw_705 rfl ks_M_isLine kz_M_isLine rfl rfl rfl rfl rfl (Nat.le_of_ble_eq_true rfl) (Nat.le_of_ble_eq_true rfl) rfl (am_deep (sp_M_isLine_t (d := 0) (by omega) hK (by omega)) (by omega)) ?_
  refine az_if_eq (tg := 13) kd_M_refused_6 (by decide) (fun q1 => (by exfalso; omega)) (fun q1 => ?_)
  refine ar_iconst kd_M_refused_9 ?_
  refine ar_goto (tg := 14) kd_M_refused_10 (by decide) ?_
  refine ar_put (ci := 5) (k := 0) kd_M_refused_14 rfl kw_619 (by decide) rfl (Nat.le_of_ble_eq_true rfl) rfl (Nat.le_of_ble_eq_true rfl) rfl rfl rfl ?_
  refine ar_heap (hq_co _) ?_
  refine ar_aload_n kd_M_refused_17 rfl ?_
  refine ar_get (ci := 5) (k := 0) kd_M_refused_18 rfl kw_619 (by decide) rfl rfl ?_
  rw [co_co]
  refine az_if_le (tg := 28) kd_M_refused_21 (by decide) (fun q2 => ?_) (fun q2 => (by exfalso; omega))
  refine ar_aload_n kd_M_refused_28 rfl ?_
  refine ar_get (ci := 5) (k := 8) kd_M_refused_29 rfl kw_627 (by decide) rfl rfl ?_
  refine ar_iload_n kd_M_refused_32 rfl ?_
  refine az_iald kd_M_refused_33 rfl (k := l) (by omega) (by omega) ?_
  refine ar_aload_n kd_M_refused_34 rfl ?_
  refine ar_iload_n kd_M_refused_35 rfl ?_
  refine az_callv (z := km_M_heldBy) (As := [_]) (ci := 5) kd_M_refused_36 kw_824 kw_826 rfl ks_M_heldBy kz_M_heldBy rfl rfl rfl rfl rfl (Nat.le_of_ble_eq_true rfl) (Nat.le_of_ble_eq_true rfl) rfl (sp_M_heldBy (m := ms_co m 0) (by omega) (mK_co hK 0)) ?_
  refine az_isub kd_M_refused_39 ?_
  refine ar_ireturn kd_M_refused_40 rfl (Nat.le_of_ble_eq_true rfl) (Nat.le_of_ble_eq_true rfl) ?_
  exact ⟨rfl, rfl, rfl⟩
theorem sp_M_hby {d : Nat} {x : am_C} {c : cS} {m : mS} {t : List am_C} {n l : Nat} (hl : l < 6) (hK : mK m) : am_W d km_M_heldBy 0 [some (.ref 50), some (.int (iI (l : Int))), none, none] [] (hC x c (hM m t)) n 0 0 (am_eq (some (.int (iI (mk_hby m l)))) (hC x c (hM m t)) n) := sp_M_heldBy hl hK
theorem mk_hby_rg {m : mS} (hK : mK m) {l : Nat} (hl : l < 6) : 0 ≤ mk_hby m l ∧ mk_hby m l ≤ 4000 := by
  have hT := hK.nn.1
  have h1 := zs_nonneg (f := fun k => mg_ho m (8 * l + k)) (mg_nT m) (fun k hk => (hK.ho hl (by omega)).1)
  have h2 := zs_le (f := fun k => mg_ho m (8 * l + k)) (b := 500) (mg_nT m) (fun k hk => (hK.ho hl (by omega)).2)
  unfold mk_hby
  omega
theorem mk_hof_rg {m : mS} (hK : mK m) {k : Nat} (hk : k < 8) : 0 ≤ mk_hof m k ∧ mk_hof m k ≤ 3000 := by
  have hL := hK.nn.2
  have h1 := zs_nonneg (f := fun l => mg_ho m (8 * l + k)) (mg_nL m) (fun l hl => (hK.ho (by omega) hk).1)
  have h2 := zs_le (f := fun l => mg_ho m (8 * l + k)) (b := 500) (mg_nL m) (fun l hl => (hK.ho (by omega) hk).2)
  unfold mk_hof
  omega
theorem sp_M_hof {d : Nat} {x : am_C} {c : cS} {m : mS} {t : List am_C} {n k : Nat} (hk : k < 8) (hK : mK m) : am_W d km_M_heldOf 0 [some (.ref 50), some (.int (iI (k : Int))), none, none] [] (hC x c (hM m t)) n 0 0 (am_eq (some (.int (iI (mk_hof m k)))) (hC x c (hM m t)) n) := sp_M_heldOf hk hK
theorem mK_ho {m : mS} (h : mK m) {i : Nat} {v : Int} (hv : 0 ≤ v ∧ v ≤ 500) : mK (ms_ho m (zu (mg_ho m) i v)) := by
  refine ⟨h.1, h.2.1, fun l hl => ?_⟩
  obtain ⟨a1, a2, a3, a4, a5, a6, a7⟩ := h.2.2 l hl
  refine ⟨a1, a2, a3, a4, a5, a6, fun k hk => ⟨(a7 k hk).1, ?_⟩⟩
  show 0 ≤ zu (mg_ho m) i v (8 * l + k) ∧ zu (mg_ho m) i v (8 * l + k) ≤ 500
  by_cases e : 8 * l + k = i
  · subst e
    rw [zu_s]
    exact hv
  · rw [zu_n e]
    exact (a7 k hk).2
/-- a line's row put to nothing -/
def mk_z1 (l : Nat) (a : mS) (k : Nat) : mS := ms_ho a (zu (mg_ho a) (8 * l + k) 0)
def mk_zr (m : mS) (l k : Nat) : mS := zf (mk_z1 l) m k
theorem mK_zr {m : mS} (h : mK m) (l : Nat) : ∀ k, mK (mk_zr m l k) := fun k => zf_inv (P := mK) (fun a k ha => mK_ho ha (by decide)) h k
theorem mk_zr_keep {β : Type} {P : mS → β} (h : ∀ m v, P (ms_ho m v) = P m) (m : mS) (l k : Nat) : P (mk_zr m l k) = P m := zf_keep (g := mk_z1 l) (P := P) (fun a k => h _ _) m k
set_option maxHeartbeats 1000000 in
set_option maxRecDepth 20000 in
theorem sp_M_undo_f1 {d : Nat} {x : am_C} {c : cS} {m : mS} {t : List am_C} {n : Nat} {l : Int} (h_l : -2147483648 ≤ l ∧ l < 2147483648) (hK : mK m) (h0 : ¬ (0 ≤ l ∧ l < mg_nL m)) : am_W (d + 2) km_M_undo 0 [some (.ref 50), some (.int (iI l)), none, none] [] (hC x c (hM m t)) n 0 0 (am_eq (some (.int (iI (0)))) (hC x c (hM (ms_co m 1) t)) n) := by
  refine ar_aload_n kd_M_undo_0 rfl ?_
  refine ar_aload_n kd_M_undo_1 rfl ?_
  refine ar_iload_n kd_M_undo_2 rfl ?_
  refine az_callv (z := km_M_isLine) (As := [_]) (ci := 5) kd_M_undo_3 kw_703 kw_705 rfl ks_M_isLine kz_M_isLine rfl rfl rfl rfl rfl (Nat.le_of_ble_eq_true rfl) (Nat.le_of_ble_eq_true rfl) rfl (am_deep (sp_M_isLine_f (d := 0) (by omega) hK (by omega)) (by omega)) ?_
  refine az_if_ne (tg := 13) kd_M_undo_6 (by decide) (fun q1 => (by exfalso; omega)) (fun q1 => ?_)
  refine ar_iconst kd_M_undo_9 ?_
  refine ar_goto (tg := 26) kd_M_undo_10 (by decide) ?_
  refine ar_put (ci := 5) (k := 0) kd_M_undo_26 rfl kw_619 (by decide) rfl (Nat.le_of_ble_eq_true rfl) rfl (Nat.le_of_ble_eq_true rfl) rfl rfl rfl ?_
  refine ar_heap (hq_co _) ?_
  refine ar_aload_n kd_M_undo_29 rfl ?_
  refine ar_get (ci := 5) (k := 0) kd_M_undo_30 rfl kw_619 (by decide) rfl rfl ?_
  rw [co_co]
  refine az_if_le (tg := 38) kd_M_undo_33 (by decide) (fun q2 => (by exfalso; omega)) (fun q2 => ?_)
  refine ar_iconst kd_M_undo_36 ?_
  refine ar_ireturn kd_M_undo_37 rfl (Nat.le_of_ble_eq_true rfl) (Nat.le_of_ble_eq_true rfl) ?_
  exact ⟨rfl, rfl, rfl⟩
set_option maxHeartbeats 1000000 in
set_option maxRecDepth 20000 in
theorem sp_M_undo_f2 {d : Nat} {x : am_C} {c : cS} {m : mS} {t : List am_C} {n : Nat} {l : Nat} (hK : mK m) (hl : l < mg_nL m) (h0 : mk_hby m l = 0) : am_W (d + 2) km_M_undo 0 [some (.ref 50), some (.int (iI l)), none, none] [] (hC x c (hM m t)) n 0 0 (am_eq (some (.int (iI (0)))) (hC x c (hM (ms_co m 2) t)) n) := by
  obtain ⟨hT, hL⟩ := hK.nn
  have hr := mk_hby_rg hK (l := l) (by omega)
  refine ar_aload_n kd_M_undo_0 rfl ?_
  refine ar_aload_n kd_M_undo_1 rfl ?_
  refine ar_iload_n kd_M_undo_2 rfl ?_
  refine az_callv (z := km_M_isLine) (As := [_]) (ci := 5) kd_M_undo_3 kw_703 kw_705 rfl ks_M_isLine kz_M_isLine rfl rfl rfl rfl rfl (Nat.le_of_ble_eq_true rfl) (Nat.le_of_ble_eq_true rfl) rfl (am_deep (sp_M_isLine_t (d := 0) (by omega) hK (by omega)) (by omega)) ?_
  refine az_if_ne (tg := 13) kd_M_undo_6 (by decide) (fun q1 => ?_) (fun q1 => (by exfalso; omega))
  refine ar_aload_n kd_M_undo_13 rfl ?_
  refine ar_iload_n kd_M_undo_14 rfl ?_
  refine az_callv (z := km_M_heldBy) (As := [_]) (ci := 5) kd_M_undo_15 kw_824 kw_826 rfl ks_M_heldBy kz_M_heldBy rfl rfl rfl rfl rfl (Nat.le_of_ble_eq_true rfl) (Nat.le_of_ble_eq_true rfl) rfl (sp_M_hby (by omega) hK) ?_
  refine az_if_ne (tg := 25) kd_M_undo_18 (by decide) (fun q2 => (by exfalso; omega)) (fun q2 => ?_)
  refine ar_iconst kd_M_undo_21 ?_
  refine ar_goto (tg := 26) kd_M_undo_22 (by decide) ?_
  refine ar_put (ci := 5) (k := 0) kd_M_undo_26 rfl kw_619 (by decide) rfl (Nat.le_of_ble_eq_true rfl) rfl (Nat.le_of_ble_eq_true rfl) rfl rfl rfl ?_
  refine ar_heap (hq_co _) ?_
  refine ar_aload_n kd_M_undo_29 rfl ?_
  refine ar_get (ci := 5) (k := 0) kd_M_undo_30 rfl kw_619 (by decide) rfl rfl ?_
  rw [co_co]
  refine az_if_le (tg := 38) kd_M_undo_33 (by decide) (fun q3 => (by exfalso; omega)) (fun q3 => ?_)
  refine ar_iconst kd_M_undo_36 ?_
  refine ar_ireturn kd_M_undo_37 rfl (Nat.le_of_ble_eq_true rfl) (Nat.le_of_ble_eq_true rfl) ?_
  exact ⟨rfl, rfl, rfl⟩
set_option maxHeartbeats 1000000 in
set_option maxRecDepth 20000 in
theorem sp_M_average_f1 {d : Nat} {x : am_C} {c : cS} {m : mS} {t : List am_C} {n : Nat} {l : Int} (h_l : -2147483648 ≤ l ∧ l < 2147483648) (hK : mK m) (h0 : ¬ (0 ≤ l ∧ l < mg_nL m)) : am_W (d + 2) km_M_average 0 [some (.ref 50), some (.int (iI l)), none, none] [] (hC x c (hM m t)) n 0 0 (am_eq (some (.int (iI (0)))) (hC x c (hM (ms_co m 1) t)) n) := by
  refine ar_aload_n kd_M_average_0 rfl ?_
  refine ar_aload_n kd_M_average_1 rfl ?_
  refine ar_iload_n kd_M_average_2 rfl ?_
  refine az_callv (z := km_M_isLine) (As := [_]) (ci := 5) kd_M_average_3 kw_703 kw_705 rfl ks_M_isLine kz_M_isLine rfl rfl rfl rfl rfl (Nat.le_of_ble_eq_true rfl) (Nat.le_of_ble_eq_true rfl) rfl (am_deep (sp_M_isLine_f (d := 0) (by omega) hK (by omega)) (by omega)) ?_
  refine az_if_ne (tg := 13) kd_M_average_6 (by decide) (fun q1 => (by exfalso; omega)) (fun q1 => ?_)
  refine ar_iconst kd_M_average_9 ?_
  refine ar_goto (tg := 26) kd_M_average_10 (by decide) ?_
  refine ar_put (ci := 5) (k := 0) kd_M_average_26 rfl kw_619 (by decide) rfl (Nat.le_of_ble_eq_true rfl) rfl (Nat.le_of_ble_eq_true rfl) rfl rfl rfl ?_
  refine ar_heap (hq_co _) ?_
  refine ar_aload_n kd_M_average_29 rfl ?_
  refine ar_get (ci := 5) (k := 0) kd_M_average_30 rfl kw_619 (by decide) rfl rfl ?_
  rw [co_co]
  refine az_if_le (tg := 38) kd_M_average_33 (by decide) (fun q2 => (by exfalso; omega)) (fun q2 => ?_)
  refine ar_iconst kd_M_average_36 ?_
  refine ar_ireturn kd_M_average_37 rfl (Nat.le_of_ble_eq_true rfl) (Nat.le_of_ble_eq_true rfl) ?_
  exact ⟨rfl, rfl, rfl⟩
set_option maxHeartbeats 1000000 in
set_option maxRecDepth 20000 in
theorem sp_M_average_f2 {d : Nat} {x : am_C} {c : cS} {m : mS} {t : List am_C} {n : Nat} {l : Nat} (hK : mK m) (hl : l < mg_nL m) (h0 : mk_hby m l = 0) : am_W (d + 2) km_M_average 0 [some (.ref 50), some (.int (iI l)), none, none] [] (hC x c (hM m t)) n 0 0 (am_eq (some (.int (iI (0)))) (hC x c (hM (ms_co m 2) t)) n) := by
  obtain ⟨hT, hL⟩ := hK.nn
  have hr := mk_hby_rg hK (l := l) (by omega)
  refine ar_aload_n kd_M_average_0 rfl ?_
  refine ar_aload_n kd_M_average_1 rfl ?_
  refine ar_iload_n kd_M_average_2 rfl ?_
  refine az_callv (z := km_M_isLine) (As := [_]) (ci := 5) kd_M_average_3 kw_703 kw_705 rfl ks_M_isLine kz_M_isLine rfl rfl rfl rfl rfl (Nat.le_of_ble_eq_true rfl) (Nat.le_of_ble_eq_true rfl) rfl (am_deep (sp_M_isLine_t (d := 0) (by omega) hK (by omega)) (by omega)) ?_
  refine az_if_ne (tg := 13) kd_M_average_6 (by decide) (fun q1 => ?_) (fun q1 => (by exfalso; omega))
  refine ar_aload_n kd_M_average_13 rfl ?_
  refine ar_iload_n kd_M_average_14 rfl ?_
  refine az_callv (z := km_M_heldBy) (As := [_]) (ci := 5) kd_M_average_15 kw_824 kw_826 rfl ks_M_heldBy kz_M_heldBy rfl rfl rfl rfl rfl (Nat.le_of_ble_eq_true rfl) (Nat.le_of_ble_eq_true rfl) rfl (sp_M_hby (by omega) hK) ?_
  refine az_if_ne (tg := 25) kd_M_average_18 (by decide) (fun q2 => (by exfalso; omega)) (fun q2 => ?_)
  refine ar_iconst kd_M_average_21 ?_
  refine ar_goto (tg := 26) kd_M_average_22 (by decide) ?_
  refine ar_put (ci := 5) (k := 0) kd_M_average_26 rfl kw_619 (by decide) rfl (Nat.le_of_ble_eq_true rfl) rfl (Nat.le_of_ble_eq_true rfl) rfl rfl rfl ?_
  refine ar_heap (hq_co _) ?_
  refine ar_aload_n kd_M_average_29 rfl ?_
  refine ar_get (ci := 5) (k := 0) kd_M_average_30 rfl kw_619 (by decide) rfl rfl ?_
  rw [co_co]
  refine az_if_le (tg := 38) kd_M_average_33 (by decide) (fun q3 => (by exfalso; omega)) (fun q3 => ?_)
  refine ar_iconst kd_M_average_36 ?_
  refine ar_ireturn kd_M_average_37 rfl (Nat.le_of_ble_eq_true rfl) (Nat.le_of_ble_eq_true rfl) ?_
  exact ⟨rfl, rfl, rfl⟩
set_option maxHeartbeats 1000000 in
set_option maxRecDepth 20000 in
theorem sp_M_undo {d : Nat} {x : am_C} {c : cS} {m : mS} {t : List am_C} {n : Nat} {l : Nat} (hK : mK m) (hl : l < mg_nL m) (h0 : mk_hby m l ≠ 0) : am_W (d + 2) km_M_undo 0 [some (.ref 50), some (.int (iI l)), none, none] [] (hC x c (hM m t)) n 0 0 (am_eq (some (.int (iI (mk_hby m l)))) (hC x c (hM (mk_zr (ms_co m 0) l (mg_nT m)) t)) n) := by
  obtain ⟨hT, hL⟩ := hK.nn
  have hr := mk_hby_rg hK (l := l) (by omega)
  have loop : ∀ (f i : Nat), i ≤ mg_nT m → mg_nT m - i < f → am_W (d + 2) km_M_undo 46 [some (.ref 50), some (.int (iI l)), some (.int (iI (mk_hby m l))), some (.int (iI i))] [] (hC x c (hM (mk_zr (ms_co m 0) l i) t)) n 0 0 (am_eq (some (.int (iI (mk_hby m l)))) (hC x c (hM (mk_zr (ms_co m 0) l (mg_nT m)) t)) n) := by
    intro f
    induction f with
    | zero => intro i h1 h2; omega
    | succ f ih =>
      intro i h1 h2
      have eT : mg_nT (mk_zr (ms_co m 0) l i) = mg_nT m := mk_zr_keep (P := fun m => mg_nT m) (fun _ _ => rfl) (ms_co m 0) l i
      refine ar_iload_n kd_M_undo_46 rfl ?_
      refine ar_aload_n kd_M_undo_47 rfl ?_
      refine ar_get (ci := 5) (k := 1) kd_M_undo_48 rfl kw_620 (by decide) rfl rfl ?_
      refine az_icmp_ge (tg := 72) kd_M_undo_51 (by decide) (fun q1 => ?_) (fun q1 => ?_)
      · obtain rfl : i = mg_nT m := by omega
        refine ar_iload_n kd_M_undo_72 rfl ?_
        refine ar_ireturn kd_M_undo_73 rfl (Nat.le_of_ble_eq_true rfl) (Nat.le_of_ble_eq_true rfl) ?_
        exact ⟨rfl, rfl, rfl⟩
      · refine ar_aload_n kd_M_undo_54 rfl ?_
        refine ar_get (ci := 5) (k := 12) kd_M_undo_55 rfl kw_631 (by decide) rfl rfl ?_
        refine az_bipush kd_M_undo_58 (by decide) ?_
        refine ar_iload_n kd_M_undo_60 rfl ?_
        refine az_imul kd_M_undo_61 ?_
        refine ar_iload_n kd_M_undo_62 rfl ?_
        refine az_iadd kd_M_undo_63 ?_
        refine ar_iconst kd_M_undo_64 ?_
        refine az_iast kd_M_undo_65 rfl rfl (k := 8 * l + i) (by omega) (by omega) ?_
        rw [hv_ho]
        refine az_iinc kd_M_undo_66 rfl rfl ?_
        dsimp only [List.set]
        refine ar_goto (tg := 46) kd_M_undo_69 (by decide) ?_
        exact ih (i + 1) (by omega) (by omega)
  refine ar_aload_n kd_M_undo_0 rfl ?_
  refine ar_aload_n kd_M_undo_1 rfl ?_
  refine ar_iload_n kd_M_undo_2 rfl ?_
  refine az_callv (z := km_M_isLine) (As := [_]) (ci := 5) kd_M_undo_3 kw_703 kw_705 rfl ks_M_isLine kz_M_isLine rfl rfl rfl rfl rfl (Nat.le_of_ble_eq_true rfl) (Nat.le_of_ble_eq_true rfl) rfl (am_deep (sp_M_isLine_t (d := 0) (by omega) hK (by omega)) (by omega)) ?_
  refine az_if_ne (tg := 13) kd_M_undo_6 (by decide) (fun q1 => ?_) (fun q1 => (by exfalso; omega))
  refine ar_aload_n kd_M_undo_13 rfl ?_
  refine ar_iload_n kd_M_undo_14 rfl ?_
  refine az_callv (z := km_M_heldBy) (As := [_]) (ci := 5) kd_M_undo_15 kw_824 kw_826 rfl ks_M_heldBy kz_M_heldBy rfl rfl rfl rfl rfl (Nat.le_of_ble_eq_true rfl) (Nat.le_of_ble_eq_true rfl) rfl (sp_M_hby (by omega) hK) ?_
  refine az_if_ne (tg := 25) kd_M_undo_18 (by decide) (fun q2 => ?_) (fun q2 => (by exfalso; omega))
  refine ar_iconst kd_M_undo_25 ?_
  refine ar_put (ci := 5) (k := 0) kd_M_undo_26 rfl kw_619 (by decide) rfl (Nat.le_of_ble_eq_true rfl) rfl (Nat.le_of_ble_eq_true rfl) rfl rfl rfl ?_
  refine ar_heap (hq_co _) ?_
  refine ar_aload_n kd_M_undo_29 rfl ?_
  refine ar_get (ci := 5) (k := 0) kd_M_undo_30 rfl kw_619 (by decide) rfl rfl ?_
  rw [co_co]
  refine az_if_le (tg := 38) kd_M_undo_33 (by decide) (fun q3 => ?_) (fun q3 => (by exfalso; omega))
  refine ar_aload_n kd_M_undo_38 rfl ?_
  refine ar_iload_n kd_M_undo_39 rfl ?_
  refine az_callv (z := km_M_heldBy) (As := [_]) (ci := 5) kd_M_undo_40 kw_824 kw_826 rfl ks_M_heldBy kz_M_heldBy rfl rfl rfl rfl rfl (Nat.le_of_ble_eq_true rfl) (Nat.le_of_ble_eq_true rfl) rfl (sp_M_hby (m := ms_co m 0) (by omega) (mK_co hK 0)) ?_
  refine ar_istore_n kd_M_undo_43 (Nat.le_of_ble_eq_true rfl) rfl ?_
  dsimp only [List.set]
  refine ar_iconst kd_M_undo_44 ?_
  refine ar_istore_n kd_M_undo_45 (Nat.le_of_ble_eq_true rfl) rfl ?_
  dsimp only [List.set]
  exact loop (mg_nT m + 1) 0 (by omega) (by omega)
theorem mk_cost_rg {m : mS} (hK : mK m) {k l : Nat} (hk : k < 8) (hl : l < 6) : 0 ≤ mk_cost m k l ∧ mk_cost m k l ≤ 1000 := by
  have h1 := hK.told hl hk
  have h2 := hK.lot hk
  unfold mk_cost
  split <;> omega
theorem mk_hc_rg {m : mS} (hK : mK m) {l : Nat} (hl : l < 6) : 0 ≤ zs (fun k => mg_ho m (8 * l + k) * mk_cost m k l) (mg_nT m) ∧ zs (fun k => mg_ho m (8 * l + k) * mk_cost m k l) (mg_nT m) ≤ 4000000 := by
  have hT := hK.nn.1
  have hh : ∀ k, k < mg_nT m → 0 ≤ mg_ho m (8 * l + k) * mk_cost m k l ∧ mg_ho m (8 * l + k) * mk_cost m k l ≤ 500000 := fun k hk => by
    have a1 := hK.ho hl (show k < 8 by omega)
    have a2 := mk_cost_rg hK (show k < 8 by omega) hl
    refine ⟨Int.mul_nonneg a1.1 a2.1, ?_⟩
    have := Int.mul_le_mul a1.2 a2.2 a2.1 (by omega)
    omega
  have h1 := zs_nonneg (f := fun k => mg_ho m (8 * l + k) * mk_cost m k l) (mg_nT m) (fun k hk => (hh k hk).1)
  have h2 := zs_le (f := fun k => mg_ho m (8 * l + k) * mk_cost m k l) (b := 500000) (mg_nT m) (fun k hk => (hh k hk).2)
  omega
set_option maxHeartbeats 1000000 in
set_option maxRecDepth 20000 in
theorem sp_M_average {d : Nat} {x : am_C} {c : cS} {m : mS} {t : List am_C} {n : Nat} {l : Nat} (hK : mK m) (hl : l < mg_nL m) (h0 : mk_hby m l ≠ 0) : am_W (d + 2) km_M_average 0 [some (.ref 50), some (.int (iI l)), none, none] [] (hC x c (hM m t)) n 0 0 (am_eq (some (.int (iI (zs (fun k => mg_ho m (8 * l + k) * mk_cost m k l) (mg_nT m) / mk_hby m l)))) (hC x c (hM (ms_co m 0) t)) n) := by
  obtain ⟨hT, hL⟩ := hK.nn
  have hr := mk_hby_rg hK (l := l) (by omega)
  have hr2 := mk_hc_rg hK (l := l) (by omega)
  have eT0 : mg_nT (ms_co m 0) = mg_nT m := rfl
  have loop : ∀ (f i : Nat), i ≤ mg_nT m → mg_nT m - i < f → am_W (d + 2) km_M_average 42 [some (.ref 50), some (.int (iI l)), some (.int (iI (zs (fun k => mg_ho m (8 * l + k) * mk_cost m k l) i))), some (.int (iI i))] [] (hC x c (hM (ms_co m 0) t)) n 0 0 (am_eq (some (.int (iI (zs (fun k => mg_ho m (8 * l + k) * mk_cost m k l) (mg_nT m) / mk_hby m l)))) (hC x c (hM (ms_co m 0) t)) n) := by
    intro f
    induction f with
    | zero => intro i h1 h2; omega
    | succ f ih =>
      intro i h1 h2
      refine ar_iload_n kd_M_average_42 rfl ?_
      refine ar_aload_n kd_M_average_43 rfl ?_
      refine ar_get (ci := 5) (k := 1) kd_M_average_44 rfl kw_620 (by decide) rfl rfl ?_
      refine az_icmp_ge (tg := 77) kd_M_average_47 (by decide) (fun q1 => ?_) (fun q1 => ?_)
      · obtain rfl : i = mg_nT m := by omega
        refine ar_iload_n kd_M_average_77 rfl ?_
        refine ar_aload_n kd_M_average_78 rfl ?_
        refine ar_iload_n kd_M_average_79 rfl ?_
        refine az_callv (z := km_M_heldBy) (As := [_]) (ci := 5) kd_M_average_80 kw_824 kw_826 rfl ks_M_heldBy kz_M_heldBy rfl rfl rfl rfl rfl (Nat.le_of_ble_eq_true rfl) (Nat.le_of_ble_eq_true rfl) rfl (sp_M_hby (m := ms_co m 0) (by omega) (mK_co hK 0)) ?_
        refine (show am_W _ _ _ _ [.int (iI (mk_hby m l)), .int (iI (zs (fun k => mg_ho m (8 * l + k) * mk_cost m k l) (mg_nT m)))] _ _ _ _ _ from ?_)
        refine az_idiv kd_M_average_83 (by omega) (by omega) ?_
        refine ar_ireturn kd_M_average_84 rfl (Nat.le_of_ble_eq_true rfl) (Nat.le_of_ble_eq_true rfl) ?_
        exact ⟨rfl, rfl, rfl⟩
      · refine ar_iload_n kd_M_average_50 rfl ?_
        refine ar_aload_n kd_M_average_51 rfl ?_
        refine ar_get (ci := 5) (k := 12) kd_M_average_52 rfl kw_631 (by decide) rfl rfl ?_
        refine az_bipush kd_M_average_55 (by decide) ?_
        refine ar_iload_n kd_M_average_57 rfl ?_
        refine az_imul kd_M_average_58 ?_
        refine ar_iload_n kd_M_average_59 rfl ?_
        refine az_iadd kd_M_average_60 ?_
        refine az_iald kd_M_average_61 rfl (k := 8 * l + i) (by omega) (by omega) ?_
        refine ar_aload_n kd_M_average_62 rfl ?_
        refine ar_iload_n kd_M_average_63 rfl ?_
        refine ar_iload_n kd_M_average_64 rfl ?_
        refine az_callv (z := km_M_costOf) (As := [_, _]) (ci := 5) kd_M_average_65 kw_764 kw_766 rfl ks_M_costOf kz_M_costOf rfl rfl rfl rfl rfl (Nat.le_of_ble_eq_true rfl) (Nat.le_of_ble_eq_true rfl) rfl (am_deep (sp_M_costOf (d := 0) (m := ms_co m 0) (by omega) (by omega) (mK_co hK 0)) (by omega)) ?_
        refine az_imul kd_M_average_68 ?_
        refine az_iadd kd_M_average_69 ?_
        refine ar_istore_n kd_M_average_70 (Nat.le_of_ble_eq_true rfl) rfl ?_
        dsimp only [List.set]
        refine az_iinc kd_M_average_71 rfl rfl ?_
        dsimp only [List.set]
        refine ar_goto (tg := 42) kd_M_average_74 (by decide) ?_
        exact ih (i + 1) (by omega) (by omega)
  refine ar_aload_n kd_M_average_0 rfl ?_
  refine ar_aload_n kd_M_average_1 rfl ?_
  refine ar_iload_n kd_M_average_2 rfl ?_
  refine az_callv (z := km_M_isLine) (As := [_]) (ci := 5) kd_M_average_3 kw_703 kw_705 rfl ks_M_isLine kz_M_isLine rfl rfl rfl rfl rfl (Nat.le_of_ble_eq_true rfl) (Nat.le_of_ble_eq_true rfl) rfl (am_deep (sp_M_isLine_t (d := 0) (by omega) hK (by omega)) (by omega)) ?_
  refine az_if_ne (tg := 13) kd_M_average_6 (by decide) (fun q1 => ?_) (fun q1 => (by exfalso; omega))
  refine ar_aload_n kd_M_average_13 rfl ?_
  refine ar_iload_n kd_M_average_14 rfl ?_
  refine az_callv (z := km_M_heldBy) (As := [_]) (ci := 5) kd_M_average_15 kw_824 kw_826 rfl ks_M_heldBy kz_M_heldBy rfl rfl rfl rfl rfl (Nat.le_of_ble_eq_true rfl) (Nat.le_of_ble_eq_true rfl) rfl (sp_M_hby (by omega) hK) ?_
  refine az_if_ne (tg := 25) kd_M_average_18 (by decide) (fun q2 => ?_) (fun q2 => (by exfalso; omega))
  refine ar_iconst kd_M_average_25 ?_
  refine ar_put (ci := 5) (k := 0) kd_M_average_26 rfl kw_619 (by decide) rfl (Nat.le_of_ble_eq_true rfl) rfl (Nat.le_of_ble_eq_true rfl) rfl rfl rfl ?_
  refine ar_heap (hq_co _) ?_
  refine ar_aload_n kd_M_average_29 rfl ?_
  refine ar_get (ci := 5) (k := 0) kd_M_average_30 rfl kw_619 (by decide) rfl rfl ?_
  rw [co_co]
  refine az_if_le (tg := 38) kd_M_average_33 (by decide) (fun q3 => ?_) (fun q3 => (by exfalso; omega))
  refine ar_iconst kd_M_average_38 ?_
  refine ar_istore_n kd_M_average_39 (Nat.le_of_ble_eq_true rfl) rfl ?_
  dsimp only [List.set]
  refine ar_iconst kd_M_average_40 ?_
  refine ar_istore_n kd_M_average_41 (Nat.le_of_ble_eq_true rfl) rfl ?_
  dsimp only [List.set]
  exact loop (mg_nT m + 1) 0 (by omega) (by omega)
