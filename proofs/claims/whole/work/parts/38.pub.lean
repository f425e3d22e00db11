/-! the public methods: where they answer, and where they throw -/
set_option maxHeartbeats 1000000 in
set_option maxRecDepth 20000 in
theorem sp_A_needRange_ok {d : Nat} {h : am_H} {n : Nat} {v a b : Int} (hv : -2147483648 ≤ v ∧ v < 2147483648) (ha : -10000 ≤ a ∧ a ≤ 100000) (hb : -10000 ≤ b ∧ b ≤ 100000) (hr : a ≤ v ∧ v ≤ b) : am_W d km_A_needRange 0 [some (.int (iI v)), some (.int (iI a)), some (.int (iI b))] [] h n 0 0 (am_eq none h n) := by
  refine ar_iload_n kd_A_needRange_0 rfl ?_
  refine ar_iload_n kd_A_needRange_1 rfl ?_
  refine az_icmp_lt (tg := 10) kd_A_needRange_2 (by decide) (fun q1 => (by exfalso; omega)) (fun q1 => ?_)
  refine ar_iload_n kd_A_needRange_5 rfl ?_
  refine ar_iload_n kd_A_needRange_6 rfl ?_
  refine az_icmp_le (tg := 20) kd_A_needRange_7 (by decide) (fun q2 => ?_) (fun q2 => (by exfalso; omega))
  refine ar_return kd_A_needRange_20 rfl (Nat.le_of_ble_eq_true rfl) (Nat.le_of_ble_eq_true rfl) ?_
  exact ⟨rfl, rfl, rfl⟩
set_option maxHeartbeats 1000000 in
set_option maxRecDepth 20000 in
theorem sp_A_needRange_t {d : Nat} {h : am_H} {n : Nat} {v a b : Int} (hv : -2147483648 ≤ v ∧ v < 2147483648) (ha : -10000 ≤ a ∧ a ≤ 100000) (hb : -10000 ≤ b ∧ b ≤ 100000) (hr : ¬ (a ≤ v ∧ v ≤ b)) : am_W d km_A_needRange 0 [some (.int (iI v)), some (.int (iI a)), some (.int (iI b))] [] h n 0 0 (am_th 0 n h (n + 1)) := by
  refine ar_iload_n kd_A_needRange_0 rfl ?_
  refine ar_iload_n kd_A_needRange_1 rfl ?_
  refine az_icmp_lt (tg := 10) kd_A_needRange_2 (by decide) (fun q1 => ?_) (fun q1 => ?_)
  · refine ar_throw (k := 0) rfl (by decide) kd_A_needRange_10 kd_A_needRange_13 kd_A_needRange_14 kd_A_needRange_16 kd_A_needRange_19 kw_260 kw_261 kw_10 (tx := "a number outside its range") (by decide) rfl rfl (Nat.le_of_ble_eq_true rfl) (Nat.le_of_ble_eq_true rfl) (Nat.le_of_ble_eq_true rfl) ?_
    exact ⟨rfl, rfl, rfl⟩
  · refine ar_iload_n kd_A_needRange_5 rfl ?_
    refine ar_iload_n kd_A_needRange_6 rfl ?_
    refine az_icmp_le (tg := 20) kd_A_needRange_7 (by decide) (fun q2 => (by exfalso; omega)) (fun q2 => ?_)
    refine ar_throw (k := 0) rfl (by decide) kd_A_needRange_10 kd_A_needRange_13 kd_A_needRange_14 kd_A_needRange_16 kd_A_needRange_19 kw_260 kw_261 kw_10 (tx := "a number outside its range") (by decide) rfl rfl (Nat.le_of_ble_eq_true rfl) (Nat.le_of_ble_eq_true rfl) (Nat.le_of_ble_eq_true rfl) ?_
    exact ⟨rfl, rfl, rfl⟩
set_option maxHeartbeats 1000000 in
set_option maxRecDepth 20000 in
theorem sp_A_needLot_ok {d : Nat} {x : am_C} {c : cS} {t : List am_C} {n : Nat} {v : Int} (hv : -2147483648 ≤ v ∧ v < 2147483648) (hK : cK c) (hr : 0 ≤ v ∧ v < cg_nT c) : am_W d km_A_needLot 0 [some (.ref 4), some (.int (iI v))] [] (hC x c t) n 0 0 (am_eq none (hC x c t) n) := by
  have hn := hK.nn.1
  refine ar_iload_n kd_A_needLot_0 rfl ?_
  refine az_if_lt (tg := 15) kd_A_needLot_1 (by decide) (fun q1 => (by exfalso; omega)) (fun q1 => ?_)
  refine ar_iload_n kd_A_needLot_4 rfl ?_
  refine ar_aload_n kd_A_needLot_5 rfl ?_
  refine ar_get (ci := 0) (k := 1) kd_A_needLot_6 rfl kw_165 (by decide) rfl rfl ?_
  refine ar_get (ci := 3) (k := 0) kd_A_needLot_9 rfl kw_45 (by decide) rfl rfl ?_
  refine az_icmp_lt (tg := 25) kd_A_needLot_12 (by decide) (fun q2 => ?_) (fun q2 => (by exfalso; omega))
  refine ar_return kd_A_needLot_25 rfl (Nat.le_of_ble_eq_true rfl) (Nat.le_of_ble_eq_true rfl) ?_
  exact ⟨rfl, rfl, rfl⟩
set_option maxHeartbeats 1000000 in
set_option maxRecDepth 20000 in
theorem sp_A_needLot_t {d : Nat} {x : am_C} {c : cS} {t : List am_C} {n : Nat} {v : Int} (hv : -2147483648 ≤ v ∧ v < 2147483648) (hK : cK c) (hr : ¬ (0 ≤ v ∧ v < cg_nT c)) : am_W d km_A_needLot 0 [some (.ref 4), some (.int (iI v))] [] (hC x c t) n 0 0 (am_th 2 n (hC x c t) (n + 1)) := by
  have hn := hK.nn.1
  refine ar_iload_n kd_A_needLot_0 rfl ?_
  refine az_if_lt (tg := 15) kd_A_needLot_1 (by decide) (fun q1 => ?_) (fun q1 => ?_)
  · refine ar_throw (k := 2) rfl (by decide) kd_A_needLot_15 kd_A_needLot_18 kd_A_needLot_19 kd_A_needLot_21 kd_A_needLot_24 kw_384 kw_385 kw_12 (tx := "no such lot") (by decide) rfl rfl (Nat.le_of_ble_eq_true rfl) (Nat.le_of_ble_eq_true rfl) (Nat.le_of_ble_eq_true rfl) ?_
    exact ⟨rfl, rfl, rfl⟩
  · refine ar_iload_n kd_A_needLot_4 rfl ?_
    refine ar_aload_n kd_A_needLot_5 rfl ?_
    refine ar_get (ci := 0) (k := 1) kd_A_needLot_6 rfl kw_165 (by decide) rfl rfl ?_
    refine ar_get (ci := 3) (k := 0) kd_A_needLot_9 rfl kw_45 (by decide) rfl rfl ?_
    refine az_icmp_lt (tg := 25) kd_A_needLot_12 (by decide) (fun q2 => (by exfalso; omega)) (fun q2 => ?_)
    refine ar_throw (k := 2) rfl (by decide) kd_A_needLot_15 kd_A_needLot_18 kd_A_needLot_19 kd_A_needLot_21 kd_A_needLot_24 kw_384 kw_385 kw_12 (tx := "no such lot") (by decide) rfl rfl (Nat.le_of_ble_eq_true rfl) (Nat.le_of_ble_eq_true rfl) (Nat.le_of_ble_eq_true rfl) ?_
    exact ⟨rfl, rfl, rfl⟩
set_option maxHeartbeats 1000000 in
set_option maxRecDepth 20000 in
theorem sp_A_needLine_ok {d : Nat} {x : am_C} {c : cS} {t : List am_C} {n : Nat} {v : Int} (hv : -2147483648 ≤ v ∧ v < 2147483648) (hK : cK c) (hr : 0 ≤ v ∧ v < cg_nL c) : am_W d km_A_needLine 0 [some (.ref 4), some (.int (iI v))] [] (hC x c t) n 0 0 (am_eq none (hC x c t) n) := by
  have hn := hK.nn.2
  refine ar_iload_n kd_A_needLine_0 rfl ?_
  refine az_if_lt (tg := 15) kd_A_needLine_1 (by decide) (fun q1 => (by exfalso; omega)) (fun q1 => ?_)
  refine ar_iload_n kd_A_needLine_4 rfl ?_
  refine ar_aload_n kd_A_needLine_5 rfl ?_
  refine ar_get (ci := 0) (k := 2) kd_A_needLine_6 rfl kw_166 (by decide) rfl rfl ?_
  refine ar_get (ci := 2) (k := 0) kd_A_needLine_9 rfl kw_89 (by decide) rfl rfl ?_
  refine az_icmp_lt (tg := 25) kd_A_needLine_12 (by decide) (fun q2 => ?_) (fun q2 => (by exfalso; omega))
  refine ar_return kd_A_needLine_25 rfl (Nat.le_of_ble_eq_true rfl) (Nat.le_of_ble_eq_true rfl) ?_
  exact ⟨rfl, rfl, rfl⟩
set_option maxHeartbeats 1000000 in
set_option maxRecDepth 20000 in
theorem sp_A_needLine_t {d : Nat} {x : am_C} {c : cS} {t : List am_C} {n : Nat} {v : Int} (hv : -2147483648 ≤ v ∧ v < 2147483648) (hK : cK c) (hr : ¬ (0 ≤ v ∧ v < cg_nL c)) : am_W d km_A_needLine 0 [some (.ref 4), some (.int (iI v))] [] (hC x c t) n 0 0 (am_th 2 n (hC x c t) (n + 1)) := by
  have hn := hK.nn.2
  refine ar_iload_n kd_A_needLine_0 rfl ?_
  refine az_if_lt (tg := 15) kd_A_needLine_1 (by decide) (fun q1 => ?_) (fun q1 => ?_)
  · refine ar_throw (k := 2) rfl (by decide) kd_A_needLine_15 kd_A_needLine_18 kd_A_needLine_19 kd_A_needLine_21 kd_A_needLine_24 kw_384 kw_385 kw_12 (tx := "no such line") (by decide) rfl rfl (Nat.le_of_ble_eq_true rfl) (Nat.le_of_ble_eq_true rfl) (Nat.le_of_ble_eq_true rfl) ?_
    exact ⟨rfl, rfl, rfl⟩
  · refine ar_iload_n kd_A_needLine_4 rfl ?_
    refine ar_aload_n kd_A_needLine_5 rfl ?_
    refine ar_get (ci := 0) (k := 2) kd_A_needLine_6 rfl kw_166 (by decide) rfl rfl ?_
    refine ar_get (ci := 2) (k := 0) kd_A_needLine_9 rfl kw_89 (by decide) rfl rfl ?_
    refine az_icmp_lt (tg := 25) kd_A_needLine_12 (by decide) (fun q2 => (by exfalso; omega)) (fun q2 => ?_)
    refine ar_throw (k := 2) rfl (by decide) kd_A_needLine_15 kd_A_needLine_18 kd_A_needLine_19 kd_A_needLine_21 kd_A_needLine_24 kw_384 kw_385 kw_12 (tx := "no such line") (by decide) rfl rfl (Nat.le_of_ble_eq_true rfl) (Nat.le_of_ble_eq_true rfl) (Nat.le_of_ble_eq_true rfl) ?_
    exact ⟨rfl, rfl, rfl⟩
set_option maxHeartbeats 1000000 in
set_option maxRecDepth 20000 in
theorem sp_A_lot_t0 {d : Nat} {x : am_C} {c : cS} {t : List am_C} {n : Nat} {p : Int} {g : Int} {z : Int} {u : Int} (h_p : -2147483648 ≤ p ∧ p < 2147483648) (h_g : -2147483648 ≤ g ∧ g < 2147483648) (h_z : -2147483648 ≤ z ∧ z < 2147483648) (h_u : -2147483648 ≤ u ∧ u < 2147483648) (hK : cK c) (h0 : ¬ ((0 ≤ p ∧ p ≤ 99) ∧ (0 ≤ g ∧ g ≤ 5) ∧ (0 ≤ z ∧ z ≤ 500) ∧ (0 ≤ u ∧ u ≤ 9999))) : am_W (d + 1) km_A_lot 0 [some (.ref 4), some (.int (iI p)), some (.int (iI g)), some (.int (iI z)), some (.int (iI u))] [] (hC x c t) n 0 0 (am_th 0 n (hC x c t) (n + 1)) := by
  by_cases g0 : 0 ≤ p ∧ p ≤ 99
  · by_cases g1 : 0 ≤ g ∧ g ≤ 5
    · by_cases g2 : 0 ≤ z ∧ z ≤ 500
      · by_cases g3 : 0 ≤ u ∧ u ≤ 9999
        · exfalso
          omega
        · refine ar_iload_n kd_A_lot_0 rfl ?_
          refine ar_iconst kd_A_lot_1 ?_
          refine az_bipush kd_A_lot_2 (by decide) ?_
          refine az_calls (z := km_A_needRange) (As := [_, _, _]) kd_A_lot_4 kw_257 kw_258 kw_1 kz_A_needRange rfl rfl rfl rfl (Nat.le_of_ble_eq_true rfl) (Nat.le_of_ble_eq_true rfl) rfl (am_deep (sp_A_needRange_ok (d := 0) (by omega) (by omega) (by omega) (by omega)) (Nat.zero_le _)) ?_
          refine ar_iload_n kd_A_lot_7 rfl ?_
          refine ar_iconst kd_A_lot_8 ?_
          refine ar_iconst kd_A_lot_9 ?_
          refine az_calls (z := km_A_needRange) (As := [_, _, _]) kd_A_lot_10 kw_257 kw_258 kw_1 kz_A_needRange rfl rfl rfl rfl (Nat.le_of_ble_eq_true rfl) (Nat.le_of_ble_eq_true rfl) rfl (am_deep (sp_A_needRange_ok (d := 0) (by omega) (by omega) (by omega) (by omega)) (Nat.zero_le _)) ?_
          refine ar_iload_n kd_A_lot_13 rfl ?_
          refine ar_iconst kd_A_lot_14 ?_
          refine az_sipush kd_A_lot_15 (by decide) ?_
          refine az_calls (z := km_A_needRange) (As := [_, _, _]) kd_A_lot_18 kw_257 kw_258 kw_1 kz_A_needRange rfl rfl rfl rfl (Nat.le_of_ble_eq_true rfl) (Nat.le_of_ble_eq_true rfl) rfl (am_deep (sp_A_needRange_ok (d := 0) (by omega) (by omega) (by omega) (by omega)) (Nat.zero_le _)) ?_
          refine ar_iload kd_A_lot_21 rfl ?_
          refine ar_iconst kd_A_lot_23 ?_
          refine az_sipush kd_A_lot_24 (by decide) ?_
          refine az_callst (z := km_A_needRange) (As := [_, _, _]) kd_A_lot_27 kw_257 kw_258 kw_1 kz_A_needRange rfl rfl rfl rfl (Nat.le_of_ble_eq_true rfl) (Nat.le_of_ble_eq_true rfl) rfl (am_deep (sp_A_needRange_t (d := 0) (by omega) (by omega) (by omega) (by omega)) (Nat.zero_le _)) ?_
          exact ⟨rfl, rfl, rfl⟩
      · refine ar_iload_n kd_A_lot_0 rfl ?_
        refine ar_iconst kd_A_lot_1 ?_
        refine az_bipush kd_A_lot_2 (by decide) ?_
        refine az_calls (z := km_A_needRange) (As := [_, _, _]) kd_A_lot_4 kw_257 kw_258 kw_1 kz_A_needRange rfl rfl rfl rfl (Nat.le_of_ble_eq_true rfl) (Nat.le_of_ble_eq_true rfl) rfl (am_deep (sp_A_needRange_ok (d := 0) (by omega) (by omega) (by omega) (by omega)) (Nat.zero_le _)) ?_
        refine ar_iload_n kd_A_lot_7 rfl ?_
        refine ar_iconst kd_A_lot_8 ?_
        refine ar_iconst kd_A_lot_9 ?_
        refine az_calls (z := km_A_needRange) (As := [_, _, _]) kd_A_lot_10 kw_257 kw_258 kw_1 kz_A_needRange rfl rfl rfl rfl (Nat.le_of_ble_eq_true rfl) (Nat.le_of_ble_eq_true rfl) rfl (am_deep (sp_A_needRange_ok (d := 0) (by omega) (by omega) (by omega) (by omega)) (Nat.zero_le _)) ?_
        refine ar_iload_n kd_A_lot_13 rfl ?_
        refine ar_iconst kd_A_lot_14 ?_
        refine az_sipush kd_A_lot_15 (by decide) ?_
        refine az_callst (z := km_A_needRange) (As := [_, _, _]) kd_A_lot_18 kw_257 kw_258 kw_1 kz_A_needRange rfl rfl rfl rfl (Nat.le_of_ble_eq_true rfl) (Nat.le_of_ble_eq_true rfl) rfl (am_deep (sp_A_needRange_t (d := 0) (by omega) (by omega) (by omega) (by omega)) (Nat.zero_le _)) ?_
        exact ⟨rfl, rfl, rfl⟩
    · refine ar_iload_n kd_A_lot_0 rfl ?_
      refine ar_iconst kd_A_lot_1 ?_
      refine az_bipush kd_A_lot_2 (by decide) ?_
      refine az_calls (z := km_A_needRange) (As := [_, _, _]) kd_A_lot_4 kw_257 kw_258 kw_1 kz_A_needRange rfl rfl rfl rfl (Nat.le_of_ble_eq_true rfl) (Nat.le_of_ble_eq_true rfl) rfl (am_deep (sp_A_needRange_ok (d := 0) (by omega) (by omega) (by omega) (by omega)) (Nat.zero_le _)) ?_
      refine ar_iload_n kd_A_lot_7 rfl ?_
      refine ar_iconst kd_A_lot_8 ?_
      refine ar_iconst kd_A_lot_9 ?_
      refine az_callst (z := km_A_needRange) (As := [_, _, _]) kd_A_lot_10 kw_257 kw_258 kw_1 kz_A_needRange rfl rfl rfl rfl (Nat.le_of_ble_eq_true rfl) (Nat.le_of_ble_eq_true rfl) rfl (am_deep (sp_A_needRange_t (d := 0) (by omega) (by omega) (by omega) (by omega)) (Nat.zero_le _)) ?_
      exact ⟨rfl, rfl, rfl⟩
  · refine ar_iload_n kd_A_lot_0 rfl ?_
    refine ar_iconst kd_A_lot_1 ?_
    refine az_bipush kd_A_lot_2 (by decide) ?_
    refine az_callst (z := km_A_needRange) (As := [_, _, _]) kd_A_lot_4 kw_257 kw_258 kw_1 kz_A_needRange rfl rfl rfl rfl (Nat.le_of_ble_eq_true rfl) (Nat.le_of_ble_eq_true rfl) rfl (am_deep (sp_A_needRange_t (d := 0) (by omega) (by omega) (by omega) (by omega)) (Nat.zero_le _)) ?_
    exact ⟨rfl, rfl, rfl⟩
set_option maxHeartbeats 1000000 in
set_option maxRecDepth 20000 in
theorem sp_A_lot {d : Nat} {x : am_C} {c : cS} {t : List am_C} {n : Nat} {p g z u : Int} (hK : cK c) (hT : cg_nT c < 8) (hp : 0 ≤ p ∧ p ≤ 99) (hg : 0 ≤ g ∧ g ≤ 5) (hz : 0 ≤ z ∧ z ≤ 500) (hu : 0 ≤ u ∧ u ≤ 9999) : am_W (d + 3) km_A_lot 0 [some (.ref 4), some (.int (iI p)), some (.int (iI g)), some (.int (iI z)), some (.int (iI u))] [] (hC x c t) n 0 0 (am_eq (some (.int (iI (cg_nT c)))) (hC x (ck_addT c p g z u) t) n) := by
  refine ar_iload_n kd_A_lot_0 rfl ?_
  refine ar_iconst kd_A_lot_1 ?_
  refine az_bipush kd_A_lot_2 (by decide) ?_
  refine az_calls (z := km_A_needRange) (As := [_, _, _]) kd_A_lot_4 kw_257 kw_258 kw_1 kz_A_needRange rfl rfl rfl rfl (Nat.le_of_ble_eq_true rfl) (Nat.le_of_ble_eq_true rfl) rfl (am_deep (sp_A_needRange_ok (d := 0) (by omega) (by omega) (by omega) (by omega)) (Nat.zero_le _)) ?_
  refine ar_iload_n kd_A_lot_7 rfl ?_
  refine ar_iconst kd_A_lot_8 ?_
  refine ar_iconst kd_A_lot_9 ?_
  refine az_calls (z := km_A_needRange) (As := [_, _, _]) kd_A_lot_10 kw_257 kw_258 kw_1 kz_A_needRange rfl rfl rfl rfl (Nat.le_of_ble_eq_true rfl) (Nat.le_of_ble_eq_true rfl) rfl (am_deep (sp_A_needRange_ok (d := 0) (by omega) (by omega) (by omega) (by omega)) (Nat.zero_le _)) ?_
  refine ar_iload_n kd_A_lot_13 rfl ?_
  refine ar_iconst kd_A_lot_14 ?_
  refine az_sipush kd_A_lot_15 (by decide) ?_
  refine az_calls (z := km_A_needRange) (As := [_, _, _]) kd_A_lot_18 kw_257 kw_258 kw_1 kz_A_needRange rfl rfl rfl rfl (Nat.le_of_ble_eq_true rfl) (Nat.le_of_ble_eq_true rfl) rfl (am_deep (sp_A_needRange_ok (d := 0) (by omega) (by omega) (by omega) (by omega)) (Nat.zero_le _)) ?_
  refine ar_iload kd_A_lot_21 rfl ?_
  refine ar_iconst kd_A_lot_23 ?_
  refine az_sipush kd_A_lot_24 (by decide) ?_
  refine az_calls (z := km_A_needRange) (As := [_, _, _]) kd_A_lot_27 kw_257 kw_258 kw_1 kz_A_needRange rfl rfl rfl rfl (Nat.le_of_ble_eq_true rfl) (Nat.le_of_ble_eq_true rfl) rfl (am_deep (sp_A_needRange_ok (d := 0) (by omega) (by omega) (by omega) (by omega)) (Nat.zero_le _)) ?_
  refine ar_aload_n kd_A_lot_30 rfl ?_
  refine ar_get (ci := 0) (k := 1) kd_A_lot_31 rfl kw_165 (by decide) rfl rfl ?_
  refine ar_get (ci := 3) (k := 0) kd_A_lot_34 rfl kw_45 (by decide) rfl rfl ?_
  refine az_bipush kd_A_lot_37 (by decide) ?_
  refine az_icmp_lt (tg := 52) kd_A_lot_39 (by decide) (fun q1 => ?_) (fun q1 => (by exfalso; omega))
  refine ar_aload_n kd_A_lot_52 rfl ?_
  refine ar_get (ci := 0) (k := 1) kd_A_lot_53 rfl kw_165 (by decide) rfl rfl ?_
  refine ar_iload_n kd_A_lot_56 rfl ?_
  refine ar_iload_n kd_A_lot_57 rfl ?_
  refine ar_iload_n kd_A_lot_58 rfl ?_
  refine ar_iload kd_A_lot_59 rfl ?_
  refine az_callv (z := km_T_add) (As := [_, _, _, _]) (ci := 3) kd_A_lot_61 kw_346 kw_347 rfl ks_T_add kz_T_add rfl rfl rfl rfl rfl (Nat.le_of_ble_eq_true rfl) (Nat.le_of_ble_eq_true rfl) rfl (sp_T_add hT hp hg hu hK) ?_
  refine ar_ireturn kd_A_lot_64 rfl (Nat.le_of_ble_eq_true rfl) (Nat.le_of_ble_eq_true rfl) ?_
  exact ⟨rfl, rfl, rfl⟩
set_option maxHeartbeats 1000000 in
set_option maxRecDepth 20000 in
theorem sp_A_lot_t1 {d : Nat} {x : am_C} {c : cS} {t : List am_C} {n : Nat} {p g z u : Int} (hK : cK c) (hT : ¬ cg_nT c < 8) (hp : 0 ≤ p ∧ p ≤ 99) (hg : 0 ≤ g ∧ g ≤ 5) (hz : 0 ≤ z ∧ z ≤ 500) (hu : 0 ≤ u ∧ u ≤ 9999) : am_W (d + 1) km_A_lot 0 [some (.ref 4), some (.int (iI p)), some (.int (iI g)), some (.int (iI z)), some (.int (iI u))] [] (hC x c t) n 0 0 (am_th 1 n (hC x c t) (n + 1)) := by
  have hn := hK.nn.1
  refine ar_iload_n kd_A_lot_0 rfl ?_
  refine ar_iconst kd_A_lot_1 ?_
  refine az_bipush kd_A_lot_2 (by decide) ?_
  refine az_calls (z := km_A_needRange) (As := [_, _, _]) kd_A_lot_4 kw_257 kw_258 kw_1 kz_A_needRange rfl rfl rfl rfl (Nat.le_of_ble_eq_true rfl) (Nat.le_of_ble_eq_true rfl) rfl (am_deep (sp_A_needRange_ok (d := 0) (by omega) (by omega) (by omega) (by omega)) (Nat.zero_le _)) ?_
  refine ar_iload_n kd_A_lot_7 rfl ?_
  refine ar_iconst kd_A_lot_8 ?_
  refine ar_iconst kd_A_lot_9 ?_
  refine az_calls (z := km_A_needRange) (As := [_, _, _]) kd_A_lot_10 kw_257 kw_258 kw_1 kz_A_needRange rfl rfl rfl rfl (Nat.le_of_ble_eq_true rfl) (Nat.le_of_ble_eq_true rfl) rfl (am_deep (sp_A_needRange_ok (d := 0) (by omega) (by omega) (by omega) (by omega)) (Nat.zero_le _)) ?_
  refine ar_iload_n kd_A_lot_13 rfl ?_
  refine ar_iconst kd_A_lot_14 ?_
  refine az_sipush kd_A_lot_15 (by decide) ?_
  refine az_calls (z := km_A_needRange) (As := [_, _, _]) kd_A_lot_18 kw_257 kw_258 kw_1 kz_A_needRange rfl rfl rfl rfl (Nat.le_of_ble_eq_true rfl) (Nat.le_of_ble_eq_true rfl) rfl (am_deep (sp_A_needRange_ok (d := 0) (by omega) (by omega) (by omega) (by omega)) (Nat.zero_le _)) ?_
  refine ar_iload kd_A_lot_21 rfl ?_
  refine ar_iconst kd_A_lot_23 ?_
  refine az_sipush kd_A_lot_24 (by decide) ?_
  refine az_calls (z := km_A_needRange) (As := [_, _, _]) kd_A_lot_27 kw_257 kw_258 kw_1 kz_A_needRange rfl rfl rfl rfl (Nat.le_of_ble_eq_true rfl) (Nat.le_of_ble_eq_true rfl) rfl (am_deep (sp_A_needRange_ok (d := 0) (by omega) (by omega) (by omega) (by omega)) (Nat.zero_le _)) ?_
  refine ar_aload_n kd_A_lot_30 rfl ?_
  refine ar_get (ci := 0) (k := 1) kd_A_lot_31 rfl kw_165 (by decide) rfl rfl ?_
  refine ar_get (ci := 3) (k := 0) kd_A_lot_34 rfl kw_45 (by decide) rfl rfl ?_
  refine az_bipush kd_A_lot_37 (by decide) ?_
  refine az_icmp_lt (tg := 52) kd_A_lot_39 (by decide) (fun q1 => (by exfalso; omega)) (fun q1 => ?_)
  refine ar_throw (k := 1) rfl (by decide) kd_A_lot_42 kd_A_lot_45 kd_A_lot_46 kd_A_lot_48 kd_A_lot_51 kw_330 kw_331 kw_11 (tx := "no room for a lot") (by decide) rfl rfl (Nat.le_of_ble_eq_true rfl) (Nat.le_of_ble_eq_true rfl) (Nat.le_of_ble_eq_true rfl) ?_
  exact ⟨rfl, rfl, rfl⟩
set_option maxHeartbeats 1000000 in
set_option maxRecDepth 20000 in
theorem sp_A_line_t0 {d : Nat} {x : am_C} {c : cS} {t : List am_C} {n : Nat} {g : Int} {z : Int} (h_g : -2147483648 ≤ g ∧ g < 2147483648) (h_z : -2147483648 ≤ z ∧ z < 2147483648) (hK : cK c) (h0 : ¬ ((0 ≤ g ∧ g ≤ 5) ∧ (1 ≤ z ∧ z ≤ 200))) : am_W (d + 1) km_A_line 0 [some (.ref 4), some (.int (iI g)), some (.int (iI z))] [] (hC x c t) n 0 0 (am_th 0 n (hC x c t) (n + 1)) := by
  by_cases g0 : 0 ≤ g ∧ g ≤ 5
  · by_cases g1 : 1 ≤ z ∧ z ≤ 200
    · exfalso
      omega
    · refine ar_iload_n kd_A_line_0 rfl ?_
      refine ar_iconst kd_A_line_1 ?_
      refine ar_iconst kd_A_line_2 ?_
      refine az_calls (z := km_A_needRange) (As := [_, _, _]) kd_A_line_3 kw_257 kw_258 kw_1 kz_A_needRange rfl rfl rfl rfl (Nat.le_of_ble_eq_true rfl) (Nat.le_of_ble_eq_true rfl) rfl (am_deep (sp_A_needRange_ok (d := 0) (by omega) (by omega) (by omega) (by omega)) (Nat.zero_le _)) ?_
      refine ar_iload_n kd_A_line_6 rfl ?_
      refine ar_iconst kd_A_line_7 ?_
      refine az_sipush kd_A_line_8 (by decide) ?_
      refine az_callst (z := km_A_needRange) (As := [_, _, _]) kd_A_line_11 kw_257 kw_258 kw_1 kz_A_needRange rfl rfl rfl rfl (Nat.le_of_ble_eq_true rfl) (Nat.le_of_ble_eq_true rfl) rfl (am_deep (sp_A_needRange_t (d := 0) (by omega) (by omega) (by omega) (by omega)) (Nat.zero_le _)) ?_
      exact ⟨rfl, rfl, rfl⟩
  · refine ar_iload_n kd_A_line_0 rfl ?_
    refine ar_iconst kd_A_line_1 ?_
    refine ar_iconst kd_A_line_2 ?_
    refine az_callst (z := km_A_needRange) (As := [_, _, _]) kd_A_line_3 kw_257 kw_258 kw_1 kz_A_needRange rfl rfl rfl rfl (Nat.le_of_ble_eq_true rfl) (Nat.le_of_ble_eq_true rfl) rfl (am_deep (sp_A_needRange_t (d := 0) (by omega) (by omega) (by omega) (by omega)) (Nat.zero_le _)) ?_
    exact ⟨rfl, rfl, rfl⟩
set_option maxHeartbeats 1000000 in
set_option maxRecDepth 20000 in
theorem sp_A_line {d : Nat} {x : am_C} {c : cS} {t : List am_C} {n : Nat} {g z : Int} (hL : cg_nL c < 6) (hg : 0 ≤ g ∧ g ≤ 5) (hz : 1 ≤ z ∧ z ≤ 200) : am_W (d + 1) km_A_line 0 [some (.ref 4), some (.int (iI g)), some (.int (iI z))] [] (hC x c t) n 0 0 (am_eq (some (.int (iI (cg_nL c)))) (hC x (ck_addL c g z) t) n) := by
  refine ar_iload_n kd_A_line_0 rfl ?_
  refine ar_iconst kd_A_line_1 ?_
  refine ar_iconst kd_A_line_2 ?_
  refine az_calls (z := km_A_needRange) (As := [_, _, _]) kd_A_line_3 kw_257 kw_258 kw_1 kz_A_needRange rfl rfl rfl rfl (Nat.le_of_ble_eq_true rfl) (Nat.le_of_ble_eq_true rfl) rfl (am_deep (sp_A_needRange_ok (d := 0) (by omega) (by omega) (by omega) (by omega)) (Nat.zero_le _)) ?_
  refine ar_iload_n kd_A_line_6 rfl ?_
  refine ar_iconst kd_A_line_7 ?_
  refine az_sipush kd_A_line_8 (by decide) ?_
  refine az_calls (z := km_A_needRange) (As := [_, _, _]) kd_A_line_11 kw_257 kw_258 kw_1 kz_A_needRange rfl rfl rfl rfl (Nat.le_of_ble_eq_true rfl) (Nat.le_of_ble_eq_true rfl) rfl (am_deep (sp_A_needRange_ok (d := 0) (by omega) (by omega) (by omega) (by omega)) (Nat.zero_le _)) ?_
  refine ar_aload_n kd_A_line_14 rfl ?_
  refine ar_get (ci := 0) (k := 2) kd_A_line_15 rfl kw_166 (by decide) rfl rfl ?_
  refine ar_get (ci := 2) (k := 0) kd_A_line_18 rfl kw_89 (by decide) rfl rfl ?_
  refine az_bipush kd_A_line_21 (by decide) ?_
  refine az_icmp_lt (tg := 36) kd_A_line_23 (by decide) (fun q1 => ?_) (fun q1 => (by exfalso; omega))
  refine ar_aload_n kd_A_line_36 rfl ?_
  refine ar_get (ci := 0) (k := 2) kd_A_line_37 rfl kw_166 (by decide) rfl rfl ?_
  refine ar_iload_n kd_A_line_40 rfl ?_
  refine ar_iload_n kd_A_line_41 rfl ?_
  refine az_callv (z := km_N_add) (As := [_, _]) (ci := 2) kd_A_line_42 kw_366 kw_367 rfl ks_N_add kz_N_add rfl rfl rfl rfl rfl (Nat.le_of_ble_eq_true rfl) (Nat.le_of_ble_eq_true rfl) rfl (sp_N_add hL) ?_
  refine ar_ireturn kd_A_line_45 rfl (Nat.le_of_ble_eq_true rfl) (Nat.le_of_ble_eq_true rfl) ?_
  exact ⟨rfl, rfl, rfl⟩
set_option maxHeartbeats 1000000 in
set_option maxRecDepth 20000 in
theorem sp_A_line_t1 {d : Nat} {x : am_C} {c : cS} {t : List am_C} {n : Nat} {g z : Int} (hK : cK c) (hL : ¬ cg_nL c < 6) (hg : 0 ≤ g ∧ g ≤ 5) (hz : 1 ≤ z ∧ z ≤ 200) : am_W (d + 1) km_A_line 0 [some (.ref 4), some (.int (iI g)), some (.int (iI z))] [] (hC x c t) n 0 0 (am_th 1 n (hC x c t) (n + 1)) := by
  have hn := hK.nn.2
  refine ar_iload_n kd_A_line_0 rfl ?_
  refine ar_iconst kd_A_line_1 ?_
  refine ar_iconst kd_A_line_2 ?_
  refine az_calls (z := km_A_needRange) (As := [_, _, _]) kd_A_line_3 kw_257 kw_258 kw_1 kz_A_needRange rfl rfl rfl rfl (Nat.le_of_ble_eq_true rfl) (Nat.le_of_ble_eq_true rfl) rfl (am_deep (sp_A_needRange_ok (d := 0) (by omega) (by omega) (by omega) (by omega)) (Nat.zero_le _)) ?_
  refine ar_iload_n kd_A_line_6 rfl ?_
  refine ar_iconst kd_A_line_7 ?_
  refine az_sipush kd_A_line_8 (by decide) ?_
  refine az_calls (z := km_A_needRange) (As := [_, _, _]) kd_A_line_11 kw_257 kw_258 kw_1 kz_A_needRange rfl rfl rfl rfl (Nat.le_of_ble_eq_true rfl) (Nat.le_of_ble_eq_true rfl) rfl (am_deep (sp_A_needRange_ok (d := 0) (by omega) (by omega) (by omega) (by omega)) (Nat.zero_le _)) ?_
  refine ar_aload_n kd_A_line_14 rfl ?_
  refine ar_get (ci := 0) (k := 2) kd_A_line_15 rfl kw_166 (by decide) rfl rfl ?_
  refine ar_get (ci := 2) (k := 0) kd_A_line_18 rfl kw_89 (by decide) rfl rfl ?_
  refine az_bipush kd_A_line_21 (by decide) ?_
  refine az_icmp_lt (tg := 36) kd_A_line_23 (by decide) (fun q1 => (by exfalso; omega)) (fun q1 => ?_)
  refine ar_throw (k := 1) rfl (by decide) kd_A_line_26 kd_A_line_29 kd_A_line_30 kd_A_line_32 kd_A_line_35 kw_330 kw_331 kw_11 (tx := "no room for a line") (by decide) rfl rfl (Nat.le_of_ble_eq_true rfl) (Nat.le_of_ble_eq_true rfl) (Nat.le_of_ble_eq_true rfl) ?_
  exact ⟨rfl, rfl, rfl⟩
theorem hs_rg {k : Nat} (hk : k < 4) : (0 ≤ hs_least k ∧ hs_least k ≤ 1) ∧ (0 ≤ hs_most k ∧ hs_most k ≤ 9999) := by
  match k, hk with
  | 0, _ => decide
  | 1, _ => decide
  | 2, _ => decide
  | 3, _ => decide
set_option maxHeartbeats 1000000 in
set_option maxRecDepth 20000 in
theorem sp_A_rule_t0 {d : Nat} {x : am_C} {c : cS} {t : List am_C} {n : Nat} {l : Int} {k : Int} {v : Int} (h_l : -2147483648 ≤ l ∧ l < 2147483648) (h_k : -2147483648 ≤ k ∧ k < 2147483648) (h_v : -2147483648 ≤ v ∧ v < 2147483648) (hK : cK c) (p0 : 0 ≤ l ∧ l < cg_nL c) (h0 : ¬ ((0 ≤ k ∧ k ≤ 3))) : am_W (d + 1) km_A_rule 0 [some (.ref 4), some (.int (iI l)), some (.int (iI k)), some (.int (iI v))] [] (hC x c t) n 0 0 (am_th 0 n (hC x c t) (n + 1)) := by
  by_cases g1 : 0 ≤ k ∧ k ≤ 3
  · exfalso
    omega
  · refine ar_aload_n kd_A_rule_0 rfl ?_
    refine ar_iload_n kd_A_rule_1 rfl ?_
    refine az_callv (z := km_A_needLine) (As := [_]) (ci := 0) kd_A_rule_2 kw_380 kw_382 rfl ks_A_needLine kz_A_needLine rfl rfl rfl rfl rfl (Nat.le_of_ble_eq_true rfl) (Nat.le_of_ble_eq_true rfl) rfl (am_deep (sp_A_needLine_ok (d := 0) (by omega) hK (by omega)) (Nat.zero_le _)) ?_
    refine ar_iload_n kd_A_rule_5 rfl ?_
    refine ar_iconst kd_A_rule_6 ?_
    refine ar_iconst kd_A_rule_7 ?_
    refine az_callst (z := km_A_needRange) (As := [_, _, _]) kd_A_rule_8 kw_257 kw_258 kw_1 kz_A_needRange rfl rfl rfl rfl (Nat.le_of_ble_eq_true rfl) (Nat.le_of_ble_eq_true rfl) rfl (am_deep (sp_A_needRange_t (d := 0) (by omega) (by omega) (by omega) (by omega)) (Nat.zero_le _)) ?_
    exact ⟨rfl, rfl, rfl⟩
set_option maxHeartbeats 1000000 in
set_option maxRecDepth 20000 in
theorem sp_A_rule_t2 {d : Nat} {x : am_C} {c : cS} {t : List am_C} {n : Nat} {l : Int} {k : Int} {v : Int} (h_l : -2147483648 ≤ l ∧ l < 2147483648) (h_k : -2147483648 ≤ k ∧ k < 2147483648) (h_v : -2147483648 ≤ v ∧ v < 2147483648) (hK : cK c) (h0 : ¬ ((0 ≤ l ∧ l < cg_nL c))) : am_W (d + 1) km_A_rule 0 [some (.ref 4), some (.int (iI l)), some (.int (iI k)), some (.int (iI v))] [] (hC x c t) n 0 0 (am_th 2 n (hC x c t) (n + 1)) := by
  by_cases g0 : 0 ≤ l ∧ l < cg_nL c
  · exfalso
    omega
  · refine ar_aload_n kd_A_rule_0 rfl ?_
    refine ar_iload_n kd_A_rule_1 rfl ?_
    refine az_callvt (z := km_A_needLine) (As := [_]) (ci := 0) kd_A_rule_2 kw_380 kw_382 rfl ks_A_needLine kz_A_needLine rfl rfl rfl rfl rfl (Nat.le_of_ble_eq_true rfl) (Nat.le_of_ble_eq_true rfl) rfl (am_deep (sp_A_needLine_t (d := 0) (by omega) hK (by omega)) (Nat.zero_le _)) ?_
    exact ⟨rfl, rfl, rfl⟩
set_option maxHeartbeats 1000000 in
set_option maxRecDepth 20000 in
theorem sp_A_rule {d : Nat} {x : am_C} {c : cS} {t : List am_C} {n : Nat} {l k : Nat} {v : Int} (hK : cK c) (hl : l < cg_nL c) (hk : k < 4) (hv : hs_least k ≤ v ∧ v ≤ hs_most k) : am_W (d + 1) km_A_rule 0 [some (.ref 4), some (.int (iI l)), some (.int (iI k)), some (.int (iI v))] [] (hC x c t) n 0 0 (am_eq none (hC x (cs_rl c (zr (cg_rl c) l (zu (cg_rl c l) k v))) t) n) := by
  have hn := hK.nn.2
  have hs := hs_rg hk
  refine ar_aload_n kd_A_rule_0 rfl ?_
  refine ar_iload_n kd_A_rule_1 rfl ?_
  refine az_callv (z := km_A_needLine) (As := [_]) (ci := 0) kd_A_rule_2 kw_380 kw_382 rfl ks_A_needLine kz_A_needLine rfl rfl rfl rfl rfl (Nat.le_of_ble_eq_true rfl) (Nat.le_of_ble_eq_true rfl) rfl (am_deep (sp_A_needLine_ok (d := 0) (by omega) hK (by omega)) (Nat.zero_le _)) ?_
  refine ar_iload_n kd_A_rule_5 rfl ?_
  refine ar_iconst kd_A_rule_6 ?_
  refine ar_iconst kd_A_rule_7 ?_
  refine az_calls (z := km_A_needRange) (As := [_, _, _]) kd_A_rule_8 kw_257 kw_258 kw_1 kz_A_needRange rfl rfl rfl rfl (Nat.le_of_ble_eq_true rfl) (Nat.le_of_ble_eq_true rfl) rfl (am_deep (sp_A_needRange_ok (d := 0) (by omega) (by omega) (by omega) (by omega)) (Nat.zero_le _)) ?_
  refine ar_iload_n kd_A_rule_11 rfl ?_
  refine ar_least kd_A_rule_12 kw_400 ?_
  refine ar_iload_n kd_A_rule_15 rfl ?_
  refine az_iald kd_A_rule_16 rfl rfl (by omega) ?_
  refine ar_most kd_A_rule_17 kw_402 ?_
  refine ar_iload_n kd_A_rule_20 rfl ?_
  refine az_iald kd_A_rule_21 rfl rfl (by omega) ?_
  refine az_calls (z := km_A_needRange) (As := [_, _, _]) kd_A_rule_22 kw_257 kw_258 kw_1 kz_A_needRange rfl rfl rfl rfl (Nat.le_of_ble_eq_true rfl) (Nat.le_of_ble_eq_true rfl) rfl (am_deep (sp_A_needRange_ok (d := 0) (by omega) (by omega) (by omega) (by omega)) (Nat.zero_le _)) ?_
  refine ar_aload_n kd_A_rule_25 rfl ?_
  refine ar_get (ci := 0) (k := 2) kd_A_rule_26 rfl kw_166 (by decide) rfl rfl ?_
  refine ar_get (ci := 2) (k := 4) kd_A_rule_29 rfl kw_101 (by decide) rfl rfl ?_
  refine ar_iload_n kd_A_rule_32 rfl ?_
  refine az_aald kd_A_rule_33 rfl rfl (by omega) (if_pos (by omega)) ?_
  refine ar_iload_n kd_A_rule_34 rfl ?_
  refine ar_iload_n kd_A_rule_35 rfl ?_
  refine az_iast kd_A_rule_36 (Nat.ble_eq_true_of_le (by omega)) (hr_rl (by omega)) rfl (by omega) ?_
  rw [hw_rl (by omega)]
  refine ar_return kd_A_rule_37 rfl (Nat.le_of_ble_eq_true rfl) (Nat.le_of_ble_eq_true rfl) ?_
  exact ⟨rfl, rfl, rfl⟩
set_option maxHeartbeats 1000000 in
set_option maxRecDepth 20000 in
theorem sp_A_rule_t0b {d : Nat} {x : am_C} {c : cS} {t : List am_C} {n : Nat} {l k : Nat} {v : Int} (hK : cK c) (hl : l < cg_nL c) (hk : k < 4) (h_v : -2147483648 ≤ v ∧ v < 2147483648) (hv : ¬ (hs_least k ≤ v ∧ v ≤ hs_most k)) : am_W (d + 1) km_A_rule 0 [some (.ref 4), some (.int (iI l)), some (.int (iI k)), some (.int (iI v))] [] (hC x c t) n 0 0 (am_th 0 n (hC x c t) (n + 1)) := by
  have hn := hK.nn.2
  have hs := hs_rg hk
  refine ar_aload_n kd_A_rule_0 rfl ?_
  refine ar_iload_n kd_A_rule_1 rfl ?_
  refine az_callv (z := km_A_needLine) (As := [_]) (ci := 0) kd_A_rule_2 kw_380 kw_382 rfl ks_A_needLine kz_A_needLine rfl rfl rfl rfl rfl (Nat.le_of_ble_eq_true rfl) (Nat.le_of_ble_eq_true rfl) rfl (am_deep (sp_A_needLine_ok (d := 0) (by omega) hK (by omega)) (Nat.zero_le _)) ?_
  refine ar_iload_n kd_A_rule_5 rfl ?_
  refine ar_iconst kd_A_rule_6 ?_
  refine ar_iconst kd_A_rule_7 ?_
  refine az_calls (z := km_A_needRange) (As := [_, _, _]) kd_A_rule_8 kw_257 kw_258 kw_1 kz_A_needRange rfl rfl rfl rfl (Nat.le_of_ble_eq_true rfl) (Nat.le_of_ble_eq_true rfl) rfl (am_deep (sp_A_needRange_ok (d := 0) (by omega) (by omega) (by omega) (by omega)) (Nat.zero_le _)) ?_
  refine ar_iload_n kd_A_rule_11 rfl ?_
  refine ar_least kd_A_rule_12 kw_400 ?_
  refine ar_iload_n kd_A_rule_15 rfl ?_
  refine az_iald kd_A_rule_16 rfl rfl (by omega) ?_
  refine ar_most kd_A_rule_17 kw_402 ?_
  refine ar_iload_n kd_A_rule_20 rfl ?_
  refine az_iald kd_A_rule_21 rfl rfl (by omega) ?_
  refine az_callst (z := km_A_needRange) (As := [_, _, _]) kd_A_rule_22 kw_257 kw_258 kw_1 kz_A_needRange rfl rfl rfl rfl (Nat.le_of_ble_eq_true rfl) (Nat.le_of_ble_eq_true rfl) rfl (am_deep (sp_A_needRange_t (d := 0) (by omega) (by omega) (by omega) (by omega)) (Nat.zero_le _)) ?_
  exact ⟨rfl, rfl, rfl⟩
set_option maxHeartbeats 1000000 in
set_option maxRecDepth 20000 in
theorem sp_A_cost_t0 {d : Nat} {x : am_C} {c : cS} {t : List am_C} {n : Nat} {k : Int} {l : Int} {v : Int} (h_k : -2147483648 ≤ k ∧ k < 2147483648) (h_l : -2147483648 ≤ l ∧ l < 2147483648) (h_v : -2147483648 ≤ v ∧ v < 2147483648) (hK : cK c) (p0 : 0 ≤ k ∧ k < cg_nT c) (p1 : 0 ≤ l ∧ l < cg_nL c) (h0 : ¬ ((-1 ≤ v ∧ v ≤ 1000))) : am_W (d + 1) km_A_cost 0 [some (.ref 4), some (.int (iI k)), some (.int (iI l)), some (.int (iI v))] [] (hC x c t) n 0 0 (am_th 0 n (hC x c t) (n + 1)) := by
  by_cases g2 : -1 ≤ v ∧ v ≤ 1000
  · exfalso
    omega
  · refine ar_aload_n kd_A_cost_0 rfl ?_
    refine ar_iload_n kd_A_cost_1 rfl ?_
    refine az_callv (z := km_A_needLot) (As := [_]) (ci := 0) kd_A_cost_2 kw_411 kw_413 rfl ks_A_needLot kz_A_needLot rfl rfl rfl rfl rfl (Nat.le_of_ble_eq_true rfl) (Nat.le_of_ble_eq_true rfl) rfl (am_deep (sp_A_needLot_ok (d := 0) (by omega) hK (by omega)) (Nat.zero_le _)) ?_
    refine ar_aload_n kd_A_cost_5 rfl ?_
    refine ar_iload_n kd_A_cost_6 rfl ?_
    refine az_callv (z := km_A_needLine) (As := [_]) (ci := 0) kd_A_cost_7 kw_380 kw_382 rfl ks_A_needLine kz_A_needLine rfl rfl rfl rfl rfl (Nat.le_of_ble_eq_true rfl) (Nat.le_of_ble_eq_true rfl) rfl (am_deep (sp_A_needLine_ok (d := 0) (by omega) hK (by omega)) (Nat.zero_le _)) ?_
    refine ar_iload_n kd_A_cost_10 rfl ?_
    refine ar_iconst kd_A_cost_11 ?_
    refine az_sipush kd_A_cost_12 (by decide) ?_
    refine az_callst (z := km_A_needRange) (As := [_, _, _]) kd_A_cost_15 kw_257 kw_258 kw_1 kz_A_needRange rfl rfl rfl rfl (Nat.le_of_ble_eq_true rfl) (Nat.le_of_ble_eq_true rfl) rfl (am_deep (sp_A_needRange_t (d := 0) (by omega) (by omega) (by omega) (by omega)) (Nat.zero_le _)) ?_
    exact ⟨rfl, rfl, rfl⟩
set_option maxHeartbeats 1000000 in
set_option maxRecDepth 20000 in
theorem sp_A_cost_t2 {d : Nat} {x : am_C} {c : cS} {t : List am_C} {n : Nat} {k : Int} {l : Int} {v : Int} (h_k : -2147483648 ≤ k ∧ k < 2147483648) (h_l : -2147483648 ≤ l ∧ l < 2147483648) (h_v : -2147483648 ≤ v ∧ v < 2147483648) (hK : cK c) (h0 : ¬ ((0 ≤ k ∧ k < cg_nT c) ∧ (0 ≤ l ∧ l < cg_nL c))) : am_W (d + 1) km_A_cost 0 [some (.ref 4), some (.int (iI k)), some (.int (iI l)), some (.int (iI v))] [] (hC x c t) n 0 0 (am_th 2 n (hC x c t) (n + 1)) := by
  by_cases g0 : 0 ≤ k ∧ k < cg_nT c
  · by_cases g1 : 0 ≤ l ∧ l < cg_nL c
    · exfalso
      omega
    · refine ar_aload_n kd_A_cost_0 rfl ?_
      refine ar_iload_n kd_A_cost_1 rfl ?_
      refine az_callv (z := km_A_needLot) (As := [_]) (ci := 0) kd_A_cost_2 kw_411 kw_413 rfl ks_A_needLot kz_A_needLot rfl rfl rfl rfl rfl (Nat.le_of_ble_eq_true rfl) (Nat.le_of_ble_eq_true rfl) rfl (am_deep (sp_A_needLot_ok (d := 0) (by omega) hK (by omega)) (Nat.zero_le _)) ?_
      refine ar_aload_n kd_A_cost_5 rfl ?_
      refine ar_iload_n kd_A_cost_6 rfl ?_
      refine az_callvt (z := km_A_needLine) (As := [_]) (ci := 0) kd_A_cost_7 kw_380 kw_382 rfl ks_A_needLine kz_A_needLine rfl rfl rfl rfl rfl (Nat.le_of_ble_eq_true rfl) (Nat.le_of_ble_eq_true rfl) rfl (am_deep (sp_A_needLine_t (d := 0) (by omega) hK (by omega)) (Nat.zero_le _)) ?_
      exact ⟨rfl, rfl, rfl⟩
  · refine ar_aload_n kd_A_cost_0 rfl ?_
    refine ar_iload_n kd_A_cost_1 rfl ?_
    refine az_callvt (z := km_A_needLot) (As := [_]) (ci := 0) kd_A_cost_2 kw_411 kw_413 rfl ks_A_needLot kz_A_needLot rfl rfl rfl rfl rfl (Nat.le_of_ble_eq_true rfl) (Nat.le_of_ble_eq_true rfl) rfl (am_deep (sp_A_needLot_t (d := 0) (by omega) hK (by omega)) (Nat.zero_le _)) ?_
    exact ⟨rfl, rfl, rfl⟩
set_option maxHeartbeats 1000000 in
set_option maxRecDepth 20000 in
theorem sp_A_cost {d : Nat} {x : am_C} {c : cS} {t : List am_C} {n : Nat} {k l : Nat} {v : Int} (hK : cK c) (hk : k < cg_nT c) (hl : l < cg_nL c) (hv : -1 ≤ v ∧ v ≤ 1000) : am_W (d + 1) km_A_cost 0 [some (.ref 4), some (.int (iI k)), some (.int (iI l)), some (.int (iI v))] [] (hC x c t) n 0 0 (am_eq none (hC x (cs_tl c (zr (cg_tl c) l (zu (cg_tl c l) k v))) t) n) := by
  obtain ⟨hT, hL⟩ := hK.nn
  refine ar_aload_n kd_A_cost_0 rfl ?_
  refine ar_iload_n kd_A_cost_1 rfl ?_
  refine az_callv (z := km_A_needLot) (As := [_]) (ci := 0) kd_A_cost_2 kw_411 kw_413 rfl ks_A_needLot kz_A_needLot rfl rfl rfl rfl rfl (Nat.le_of_ble_eq_true rfl) (Nat.le_of_ble_eq_true rfl) rfl (am_deep (sp_A_needLot_ok (d := 0) (by omega) hK (by omega)) (Nat.zero_le _)) ?_
  refine ar_aload_n kd_A_cost_5 rfl ?_
  refine ar_iload_n kd_A_cost_6 rfl ?_
  refine az_callv (z := km_A_needLine) (As := [_]) (ci := 0) kd_A_cost_7 kw_380 kw_382 rfl ks_A_needLine kz_A_needLine rfl rfl rfl rfl rfl (Nat.le_of_ble_eq_true rfl) (Nat.le_of_ble_eq_true rfl) rfl (am_deep (sp_A_needLine_ok (d := 0) (by omega) hK (by omega)) (Nat.zero_le _)) ?_
  refine ar_iload_n kd_A_cost_10 rfl ?_
  refine ar_iconst kd_A_cost_11 ?_
  refine az_sipush kd_A_cost_12 (by decide) ?_
  refine az_calls (z := km_A_needRange) (As := [_, _, _]) kd_A_cost_15 kw_257 kw_258 kw_1 kz_A_needRange rfl rfl rfl rfl (Nat.le_of_ble_eq_true rfl) (Nat.le_of_ble_eq_true rfl) rfl (am_deep (sp_A_needRange_ok (d := 0) (by omega) (by omega) (by omega) (by omega)) (Nat.zero_le _)) ?_
  refine ar_aload_n kd_A_cost_18 rfl ?_
  refine ar_get (ci := 0) (k := 2) kd_A_cost_19 rfl kw_166 (by decide) rfl rfl ?_
  refine ar_get (ci := 2) (k := 5) kd_A_cost_22 rfl kw_104 (by decide) rfl rfl ?_
  refine ar_iload_n kd_A_cost_25 rfl ?_
  refine az_aald kd_A_cost_26 rfl rfl (by omega) (if_pos (by omega)) ?_
  refine ar_iload_n kd_A_cost_27 rfl ?_
  refine ar_iload_n kd_A_cost_28 rfl ?_
  refine az_iast kd_A_cost_29 (Nat.ble_eq_true_of_le (by omega)) (hr_tl (by omega)) rfl (by omega) ?_
  rw [hw_tl (by omega)]
  refine ar_return kd_A_cost_30 rfl (Nat.le_of_ble_eq_true rfl) (Nat.le_of_ble_eq_true rfl) ?_
  exact ⟨rfl, rfl, rfl⟩
theorem cK_sb {c : cS} (h : cK c) (l k : Nat) (z : Int) : cK (ck_sb c l k z) := h
theorem cG_sb {c : cS} (h : cG c) (l k : Nat) (z : Int) : cG (ck_sb c l k z) := h
set_option maxHeartbeats 1000000 in
set_option maxRecDepth 20000 in
theorem sp_A_may_t2 {d : Nat} {x : am_C} {c : cS} {t : List am_C} {n : Nat} {k : Int} {l : Int} {v : Int} (h_k : -2147483648 ≤ k ∧ k < 2147483648) (h_l : -2147483648 ≤ l ∧ l < 2147483648) (h_v : -2147483648 ≤ v ∧ v < 2147483648) (hK : cK c) (h0 : ¬ ((0 ≤ k ∧ k < cg_nT c) ∧ (0 ≤ l ∧ l < cg_nL c))) : am_W (d + 1) km_A_may 0 [some (.ref 4), some (.int (iI k)), some (.int (iI l)), some (.int (iI v))] [] (hC x c t) n 0 0 (am_th 2 n (hC x c t) (n + 1)) := by
  by_cases g0 : 0 ≤ k ∧ k < cg_nT c
  · by_cases g1 : 0 ≤ l ∧ l < cg_nL c
    · exfalso
      omega
    · refine ar_aload_n kd_A_may_0 rfl ?_
      refine ar_iload_n kd_A_may_1 rfl ?_
      refine az_callv (z := km_A_needLot) (As := [_]) (ci := 0) kd_A_may_2 kw_411 kw_413 rfl ks_A_needLot kz_A_needLot rfl rfl rfl rfl rfl (Nat.le_of_ble_eq_true rfl) (Nat.le_of_ble_eq_true rfl) rfl (am_deep (sp_A_needLot_ok (d := 0) (by omega) hK (by omega)) (Nat.zero_le _)) ?_
      refine ar_aload_n kd_A_may_5 rfl ?_
      refine ar_iload_n kd_A_may_6 rfl ?_
      refine az_callvt (z := km_A_needLine) (As := [_]) (ci := 0) kd_A_may_7 kw_380 kw_382 rfl ks_A_needLine kz_A_needLine rfl rfl rfl rfl rfl (Nat.le_of_ble_eq_true rfl) (Nat.le_of_ble_eq_true rfl) rfl (am_deep (sp_A_needLine_t (d := 0) (by omega) hK (by omega)) (Nat.zero_le _)) ?_
      exact ⟨rfl, rfl, rfl⟩
  · refine ar_aload_n kd_A_may_0 rfl ?_
    refine ar_iload_n kd_A_may_1 rfl ?_
    refine az_callvt (z := km_A_needLot) (As := [_]) (ci := 0) kd_A_may_2 kw_411 kw_413 rfl ks_A_needLot kz_A_needLot rfl rfl rfl rfl rfl (Nat.le_of_ble_eq_true rfl) (Nat.le_of_ble_eq_true rfl) rfl (am_deep (sp_A_needLot_t (d := 0) (by omega) hK (by omega)) (Nat.zero_le _)) ?_
    exact ⟨rfl, rfl, rfl⟩
set_option maxHeartbeats 1000000 in
set_option maxRecDepth 20000 in
theorem sp_A_may {d : Nat} {x : am_C} {c : cS} {t : List am_C} {n : Nat} {k l : Nat} {v : Int} (hK : cK c) (hG : cG c) (hk : k < cg_nT c) (hl : l < cg_nL c) (hv : 0 ≤ v ∧ v ≤ 1) : am_W (d + 3) km_A_may 0 [some (.ref 4), some (.int (iI k)), some (.int (iI l)), some (.int (iI v))] [] (hC x c t) n 0 0 (am_eq (some (.int (iI (zb (ck_all (ck_sb c l k (1 - v)) l k))))) (hC x (ck_sb c l k (1 - v)) t) n) := by
  obtain ⟨hT, hL⟩ := hK.nn
  refine ar_aload_n kd_A_may_0 rfl ?_
  refine ar_iload_n kd_A_may_1 rfl ?_
  refine az_callv (z := km_A_needLot) (As := [_]) (ci := 0) kd_A_may_2 kw_411 kw_413 rfl ks_A_needLot kz_A_needLot rfl rfl rfl rfl rfl (Nat.le_of_ble_eq_true rfl) (Nat.le_of_ble_eq_true rfl) rfl (am_deep (sp_A_needLot_ok (d := 0) (by omega) hK (by omega)) (Nat.zero_le _)) ?_
  refine ar_aload_n kd_A_may_5 rfl ?_
  refine ar_iload_n kd_A_may_6 rfl ?_
  refine az_callv (z := km_A_needLine) (As := [_]) (ci := 0) kd_A_may_7 kw_380 kw_382 rfl ks_A_needLine kz_A_needLine rfl rfl rfl rfl rfl (Nat.le_of_ble_eq_true rfl) (Nat.le_of_ble_eq_true rfl) rfl (am_deep (sp_A_needLine_ok (d := 0) (by omega) hK (by omega)) (Nat.zero_le _)) ?_
  refine ar_aload_n kd_A_may_10 rfl ?_
  refine ar_get (ci := 0) (k := 2) kd_A_may_11 rfl kw_166 (by decide) rfl rfl ?_
  refine ar_iload_n kd_A_may_14 rfl ?_
  refine ar_iload_n kd_A_may_15 rfl ?_
  refine ar_iload_n kd_A_may_16 rfl ?_
  refine az_if_ne (tg := 24) kd_A_may_17 (by decide) (fun q1 => ?_) (fun q1 => ?_)
  · obtain rfl : v = 1 := by omega
    refine ar_iconst kd_A_may_24 ?_
    refine az_callv (z := km_N_setBarred) (As := [_, _, _]) (ci := 2) kd_A_may_25 kw_423 kw_424 rfl ks_N_setBarred kz_N_setBarred rfl rfl rfl rfl rfl (Nat.le_of_ble_eq_true rfl) (Nat.le_of_ble_eq_true rfl) rfl (sp_N_setBarred (by omega) (by decide)) ?_
    refine ar_aload_n kd_A_may_28 rfl ?_
    refine ar_get (ci := 0) (k := 0) kd_A_may_29 rfl kw_164 (by decide) rfl rfl ?_
    refine ar_iload_n kd_A_may_32 rfl ?_
    refine ar_iload_n kd_A_may_33 rfl ?_
    refine az_callv (z := km_F_allows) (As := [_, _]) (ci := 1) kd_A_may_34 kw_427 kw_193 rfl ks_F_allows kz_F_allows rfl rfl rfl rfl rfl (Nat.le_of_ble_eq_true rfl) (Nat.le_of_ble_eq_true rfl) rfl (sp_F_allows (by omega) (by omega) (cK_sb hK _ _ _) (cG_sb hG _ _ _)) ?_
    refine ar_zreturn kd_A_may_37 rfl (by unfold zb; split <;> rfl) (Nat.le_of_ble_eq_true rfl) (Nat.le_of_ble_eq_true rfl) ?_
    exact ⟨rfl, rfl, rfl⟩
  · obtain rfl : v = 0 := by omega
    refine ar_iconst kd_A_may_20 ?_
    refine ar_goto (tg := 25) kd_A_may_21 (by decide) ?_
    refine az_callv (z := km_N_setBarred) (As := [_, _, _]) (ci := 2) kd_A_may_25 kw_423 kw_424 rfl ks_N_setBarred kz_N_setBarred rfl rfl rfl rfl rfl (Nat.le_of_ble_eq_true rfl) (Nat.le_of_ble_eq_true rfl) rfl (sp_N_setBarred (by omega) (by decide)) ?_
    refine ar_aload_n kd_A_may_28 rfl ?_
    refine ar_get (ci := 0) (k := 0) kd_A_may_29 rfl kw_164 (by decide) rfl rfl ?_
    refine ar_iload_n kd_A_may_32 rfl ?_
    refine ar_iload_n kd_A_may_33 rfl ?_
    refine az_callv (z := km_F_allows) (As := [_, _]) (ci := 1) kd_A_may_34 kw_427 kw_193 rfl ks_F_allows kz_F_allows rfl rfl rfl rfl rfl (Nat.le_of_ble_eq_true rfl) (Nat.le_of_ble_eq_true rfl) rfl (sp_F_allows (by omega) (by omega) (cK_sb hK _ _ _) (cG_sb hG _ _ _)) ?_
    refine ar_zreturn kd_A_may_37 rfl (by unfold zb; split <;> rfl) (Nat.le_of_ble_eq_true rfl) (Nat.le_of_ble_eq_true rfl) ?_
    exact ⟨rfl, rfl, rfl⟩
set_option maxHeartbeats 1000000 in
set_option maxRecDepth 20000 in
theorem sp_A_exact {d : Nat} {x : am_C} {c : cS} {t : List am_C} {n : Nat} (hx : narrow .boolean (.int (iI (cg_ex c))) = .int (iI (cg_ex c))) : am_W d km_A_exact 0 [some (.ref 4)] [] (hC x c t) n 0 0 (am_eq (some (.int (iI (cg_ex c)))) (hC x c t) n) := by
  refine ar_aload_n kd_A_exact_0 rfl ?_
  refine ar_get (ci := 0) (k := 4) kd_A_exact_1 rfl kw_168 (by decide) rfl rfl ?_
  refine ar_zreturn kd_A_exact_4 rfl hx (Nat.le_of_ble_eq_true rfl) (Nat.le_of_ble_eq_true rfl) ?_
  exact ⟨rfl, rfl, rfl⟩
set_option maxHeartbeats 1000000 in
set_option maxRecDepth 20000 in
theorem sp_A_choices {d : Nat} {x : am_C} {c : cS} {t : List am_C} {n : Nat} (hK : cK c) (hG : cG c) : am_W (d + 4) km_A_choices 0 [some (.ref 4)] [] (hC x c t) n 0 0 (am_eq (some (.int (iI (ck_ch c)))) (hC x c t) n) := by
  refine ar_aload_n kd_A_choices_0 rfl ?_
  refine ar_get (ci := 0) (k := 0) kd_A_choices_1 rfl kw_164 (by decide) rfl rfl ?_
  refine az_callv (z := km_F_countChoices) (As := []) (ci := 1) kd_A_choices_4 kw_188 kw_189 rfl ks_F_countChoices kz_F_countChoices rfl rfl rfl rfl rfl (Nat.le_of_ble_eq_true rfl) (Nat.le_of_ble_eq_true rfl) rfl (sp_F_countChoices hK hG) ?_
  refine ar_ireturn kd_A_choices_7 rfl (Nat.le_of_ble_eq_true rfl) (Nat.le_of_ble_eq_true rfl) ?_
  exact ⟨rfl, rfl, rfl⟩
set_option maxHeartbeats 1000000 in
set_option maxRecDepth 20000 in
theorem sp_A_bound {d : Nat} {x : am_C} {c : cS} {t : List am_C} {n : Nat} (hK : cK c) (hG : cG c) : am_W (d + 4) km_A_bound 0 [some (.ref 4), none, none] [] (hC x c t) n 0 0 (am_eq (some (.int (iI (zs (fun l => ck_lb c l (cg_nT c)) (cg_nL c))))) (hC x c t) n) := by
  obtain ⟨hT, hL⟩ := hK.nn
  have loop : ∀ (f i : Nat), i ≤ cg_nL c → cg_nL c - i < f → am_W (d + 4) km_A_bound 4 [some (.ref 4), some (.int (iI (zs (fun l => ck_lb c l (cg_nT c)) i))), some (.int (iI i))] [] (hC x c t) n 0 0 (am_eq (some (.int (iI (zs (fun l => ck_lb c l (cg_nT c)) (cg_nL c))))) (hC x c t) n) := by
    intro f
    induction f with
    | zero => intro i h1 h2; omega
    | succ f ih =>
      intro i h1 h2
      refine ar_iload_n kd_A_bound_4 rfl ?_
      refine ar_aload_n kd_A_bound_5 rfl ?_
      refine ar_get (ci := 0) (k := 2) kd_A_bound_6 rfl kw_166 (by decide) rfl rfl ?_
      refine ar_get (ci := 2) (k := 0) kd_A_bound_9 rfl kw_89 (by decide) rfl rfl ?_
      refine az_icmp_ge (tg := 32) kd_A_bound_12 (by decide) (fun q1 => ?_) (fun q1 => ?_)
      · obtain rfl : i = cg_nL c := by omega
        refine ar_iload_n kd_A_bound_32 rfl ?_
        refine ar_ireturn kd_A_bound_33 rfl (Nat.le_of_ble_eq_true rfl) (Nat.le_of_ble_eq_true rfl) ?_
        first | exact ⟨rfl, rfl, rfl⟩ | exact ⟨by rw [e1], rfl, rfl⟩
      · refine ar_iload_n kd_A_bound_15 rfl ?_
        refine ar_aload_n kd_A_bound_16 rfl ?_
        refine ar_get (ci := 0) (k := 0) kd_A_bound_17 rfl kw_164 (by decide) rfl rfl ?_
        refine ar_iload_n kd_A_bound_20 rfl ?_
        refine az_callv (z := km_F_lineBound) (As := [_]) (ci := 1) kd_A_bound_21 kw_209 kw_210 rfl ks_F_lineBound kz_F_lineBound rfl rfl rfl rfl rfl (Nat.le_of_ble_eq_true rfl) (Nat.le_of_ble_eq_true rfl) rfl (sp_F_lineBound (by omega) hK hG) ?_
        refine az_iadd kd_A_bound_24 ?_
        refine ar_istore_n kd_A_bound_25 (Nat.le_of_ble_eq_true rfl) rfl ?_
        dsimp only [List.set]
        refine az_iinc kd_A_bound_26 rfl rfl ?_
        dsimp only [List.set]
        refine ar_goto (tg := 4) kd_A_bound_29 (by decide) ?_
        exact ih (i + 1) (by omega) (by omega)
  refine ar_iconst kd_A_bound_0 ?_
  refine ar_istore_n kd_A_bound_1 (Nat.le_of_ble_eq_true rfl) rfl ?_
  dsimp only [List.set]
  refine ar_iconst kd_A_bound_2 ?_
  refine ar_istore_n kd_A_bound_3 (Nat.le_of_ble_eq_true rfl) rfl ?_
  dsimp only [List.set]
  exact loop (cg_nL c + 1) 0 (by omega) (by omega)
theorem ck_gf_rg {c : cS} (hK : cK c) (l : Nat) (z : Int) : ∀ (m k : Nat) (b : Int), k + m ≤ 8 → -1 ≤ ck_gf c l z m k b ∧ ck_gf c l z m k b ≤ 7
  | 0, k, b, _ => by simp [ck_gf]
  | m + 1, k, b, h => by
    have h1 := hK.lot (k := k) (by omega)
    have h2 := ck_gf_rg hK l z m (k + 1) (b + 1) (by omega)
    have h3 := ck_gf_rg hK l z m (k + 1) b (by omega)
    simp only [ck_gf]
    split
    · split <;> omega
    · omega
set_option maxHeartbeats 1000000 in
set_option maxRecDepth 20000 in
theorem sp_A_give_t2 {d : Nat} {x : am_C} {c : cS} {t : List am_C} {n : Nat} {l i w : Int} (h_l : -2147483648 ≤ l ∧ l < 2147483648) (hK : cK c) (h0 : ¬ (0 ≤ l ∧ l < cg_nL c)) : am_W (d + 1) km_A_give 0 [some (.ref 4), some (.int (iI l)), some (.int (iI i)), some (.int (iI w)), none] [] (hC x c t) n 0 0 (am_th 2 n (hC x c t) (n + 1)) := by
  refine ar_aload_n kd_A_give_0 rfl ?_
  refine ar_iload_n kd_A_give_1 rfl ?_
  refine az_callvt (z := km_A_needLine) (As := [_]) (ci := 0) kd_A_give_2 kw_380 kw_382 rfl ks_A_needLine kz_A_needLine rfl rfl rfl rfl rfl (Nat.le_of_ble_eq_true rfl) (Nat.le_of_ble_eq_true rfl) rfl (am_deep (sp_A_needLine_t (d := 0) (by omega) hK (by omega)) (Nat.zero_le _)) ?_
  exact ⟨rfl, rfl, rfl⟩
set_option maxHeartbeats 1000000 in
set_option maxRecDepth 20000 in
theorem sp_A_give_t2b {d : Nat} {x : am_C} {c : cS} {t : List am_C} {n : Nat} {l : Nat} {i w : Int} (hK : cK c) (hG : cG c) (hl : l < cg_nL c) (h_i : -2147483648 ≤ i ∧ i < 2147483648) (h0 : ck_gf c l i (cg_nT c) 0 0 < 0) : am_W (d + 1) km_A_give 0 [some (.ref 4), some (.int (iI l)), some (.int (iI i)), some (.int (iI w)), none] [] (hC x c t) n 0 0 (am_th 2 n (hC x c t) (n + 1)) := by
  obtain ⟨hT, hL⟩ := hK.nn
  have hgf := ck_gf_rg hK l i (cg_nT c) 0 0 (by omega)
  refine ar_aload_n kd_A_give_0 rfl ?_
  refine ar_iload_n kd_A_give_1 rfl ?_
  refine az_callv (z := km_A_needLine) (As := [_]) (ci := 0) kd_A_give_2 kw_380 kw_382 rfl ks_A_needLine kz_A_needLine rfl rfl rfl rfl rfl (Nat.le_of_ble_eq_true rfl) (Nat.le_of_ble_eq_true rfl) rfl (am_deep (sp_A_needLine_ok (d := 0) (by omega) hK (by omega)) (Nat.zero_le _)) ?_
  refine ar_aload_n kd_A_give_5 rfl ?_
  refine ar_get (ci := 0) (k := 0) kd_A_give_6 rfl kw_164 (by decide) rfl rfl ?_
  refine ar_iload_n kd_A_give_9 rfl ?_
  refine ar_iload_n kd_A_give_10 rfl ?_
  refine az_callv (z := km_F_lotOfGift) (As := [_, _]) (ci := 1) kd_A_give_11 kw_503 kw_504 rfl ks_F_lotOfGift kz_F_lotOfGift rfl rfl rfl rfl rfl (Nat.le_of_ble_eq_true rfl) (Nat.le_of_ble_eq_true rfl) rfl (sp_F_lotOfGift (by omega) h_i hK hG) ?_
  refine ar_istore kd_A_give_14 (Nat.le_of_ble_eq_true rfl) rfl ?_
  dsimp only [List.set]
  refine ar_iload kd_A_give_16 rfl ?_
  refine az_if_ge (tg := 31) kd_A_give_18 (by decide) (fun q1 => (by exfalso; omega)) (fun q1 => ?_)
  refine ar_throw (k := 2) rfl (by decide) kd_A_give_21 kd_A_give_24 kd_A_give_25 kd_A_give_27 kd_A_give_30 kw_384 kw_385 kw_12 (tx := "no such gift") (by decide) rfl rfl (Nat.le_of_ble_eq_true rfl) (Nat.le_of_ble_eq_true rfl) (Nat.le_of_ble_eq_true rfl) ?_
  exact ⟨rfl, rfl, rfl⟩
set_option maxHeartbeats 1000000 in
set_option maxRecDepth 20000 in
theorem sp_A_give_t0 {d : Nat} {x : am_C} {c : cS} {t : List am_C} {n : Nat} {l : Nat} {i w : Int} (hK : cK c) (hG : cG c) (hl : l < cg_nL c) (h_i : -2147483648 ≤ i ∧ i < 2147483648) (h0 : 0 ≤ ck_gf c l i (cg_nT c) 0 0) (h_w : -2147483648 ≤ w ∧ w < 2147483648) (h1 : ¬ (0 ≤ w ∧ w ≤ 2)) : am_W (d + 1) km_A_give 0 [some (.ref 4), some (.int (iI l)), some (.int (iI i)), some (.int (iI w)), none] [] (hC x c t) n 0 0 (am_th 0 n (hC x c t) (n + 1)) := by
  obtain ⟨hT, hL⟩ := hK.nn
  have hgf := ck_gf_rg hK l i (cg_nT c) 0 0 (by omega)
  refine ar_aload_n kd_A_give_0 rfl ?_
  refine ar_iload_n kd_A_give_1 rfl ?_
  refine az_callv (z := km_A_needLine) (As := [_]) (ci := 0) kd_A_give_2 kw_380 kw_382 rfl ks_A_needLine kz_A_needLine rfl rfl rfl rfl rfl (Nat.le_of_ble_eq_true rfl) (Nat.le_of_ble_eq_true rfl) rfl (am_deep (sp_A_needLine_ok (d := 0) (by omega) hK (by omega)) (Nat.zero_le _)) ?_
  refine ar_aload_n kd_A_give_5 rfl ?_
  refine ar_get (ci := 0) (k := 0) kd_A_give_6 rfl kw_164 (by decide) rfl rfl ?_
  refine ar_iload_n kd_A_give_9 rfl ?_
  refine ar_iload_n kd_A_give_10 rfl ?_
  refine az_callv (z := km_F_lotOfGift) (As := [_, _]) (ci := 1) kd_A_give_11 kw_503 kw_504 rfl ks_F_lotOfGift kz_F_lotOfGift rfl rfl rfl rfl rfl (Nat.le_of_ble_eq_true rfl) (Nat.le_of_ble_eq_true rfl) rfl (sp_F_lotOfGift (by omega) h_i hK hG) ?_
  refine ar_istore kd_A_give_14 (Nat.le_of_ble_eq_true rfl) rfl ?_
  dsimp only [List.set]
  refine ar_iload kd_A_give_16 rfl ?_
  refine az_if_ge (tg := 31) kd_A_give_18 (by decide) (fun q1 => ?_) (fun q1 => (by exfalso; omega))
  refine ar_iload_n kd_A_give_31 rfl ?_
  refine ar_iconst kd_A_give_32 ?_
  refine ar_iconst kd_A_give_33 ?_
  refine az_callst (z := km_A_needRange) (As := [_, _, _]) kd_A_give_34 kw_257 kw_258 kw_1 kz_A_needRange rfl rfl rfl rfl (Nat.le_of_ble_eq_true rfl) (Nat.le_of_ble_eq_true rfl) rfl (am_deep (sp_A_needRange_t (d := 0) (by omega) (by omega) (by omega) (by omega)) (Nat.zero_le _)) ?_
  exact ⟨rfl, rfl, rfl⟩
theorem sp_F_pieceCostU {d : Nat} {x : am_C} {c : cS} {t : List am_C} {n : Nat} {l k : Nat} {u : Int} (hl : l < 6) (hk : k < 8) (hu : u = (k : Int)) (hK : cK c) : am_W d km_F_pieceCost 0 [some (.ref 6), some (.int (iI l)), some (.int (iI u)), none] [] (hC x c t) n 0 0 (am_eq (some (.int (iI (ck_cost c l k)))) (hC x c t) n) := by
  subst hu
  exact sp_F_pieceCost hl hk hK
def ck_give (c : cS) (l : Nat) (g w : Int) : Int := if w = 0 then g else if w = 1 then cg_gi c l g.toNat else ck_cost c l g.toNat
set_option maxHeartbeats 1000000 in
set_option maxRecDepth 20000 in
theorem sp_A_give {d : Nat} {x : am_C} {c : cS} {t : List am_C} {n : Nat} {l : Nat} {i w : Int} (hK : cK c) (hG : cG c) (hl : l < cg_nL c) (h_i : -2147483648 ≤ i ∧ i < 2147483648) (h0 : 0 ≤ ck_gf c l i (cg_nT c) 0 0) (h1 : 0 ≤ w ∧ w ≤ 2) : am_W (d + 1) km_A_give 0 [some (.ref 4), some (.int (iI l)), some (.int (iI i)), some (.int (iI w)), none] [] (hC x c t) n 0 0 (am_eq (some (.int (iI (ck_give c l (ck_gf c l i (cg_nT c) 0 0) w)))) (hC x c t) n) := by
  obtain ⟨hT, hL⟩ := hK.nn
  have hgf := ck_gf_rg hK l i (cg_nT c) 0 0 (by omega)
  refine ar_aload_n kd_A_give_0 rfl ?_
  refine ar_iload_n kd_A_give_1 rfl ?_
  refine az_callv (z := km_A_needLine) (As := [_]) (ci := 0) kd_A_give_2 kw_380 kw_382 rfl ks_A_needLine kz_A_needLine rfl rfl rfl rfl rfl (Nat.le_of_ble_eq_true rfl) (Nat.le_of_ble_eq_true rfl) rfl (am_deep (sp_A_needLine_ok (d := 0) (by omega) hK (by omega)) (Nat.zero_le _)) ?_
  refine ar_aload_n kd_A_give_5 rfl ?_
  refine ar_get (ci := 0) (k := 0) kd_A_give_6 rfl kw_164 (by decide) rfl rfl ?_
  refine ar_iload_n kd_A_give_9 rfl ?_
  refine ar_iload_n kd_A_give_10 rfl ?_
  refine az_callv (z := km_F_lotOfGift) (As := [_, _]) (ci := 1) kd_A_give_11 kw_503 kw_504 rfl ks_F_lotOfGift kz_F_lotOfGift rfl rfl rfl rfl rfl (Nat.le_of_ble_eq_true rfl) (Nat.le_of_ble_eq_true rfl) rfl (sp_F_lotOfGift (by omega) h_i hK hG) ?_
  refine ar_istore kd_A_give_14 (Nat.le_of_ble_eq_true rfl) rfl ?_
  dsimp only [List.set]
  refine ar_iload kd_A_give_16 rfl ?_
  refine az_if_ge (tg := 31) kd_A_give_18 (by decide) (fun q1 => ?_) (fun q1 => (by exfalso; omega))
  refine ar_iload_n kd_A_give_31 rfl ?_
  refine ar_iconst kd_A_give_32 ?_
  refine ar_iconst kd_A_give_33 ?_
  refine az_calls (z := km_A_needRange) (As := [_, _, _]) kd_A_give_34 kw_257 kw_258 kw_1 kz_A_needRange rfl rfl rfl rfl (Nat.le_of_ble_eq_true rfl) (Nat.le_of_ble_eq_true rfl) rfl (am_deep (sp_A_needRange_ok (d := 0) (by omega) (by omega) (by omega) (by omega)) (Nat.zero_le _)) ?_
  refine ar_iload_n kd_A_give_37 rfl ?_
  refine az_if_ne (tg := 44) kd_A_give_38 (by decide) (fun q2 => ?_) (fun q2 => ?_)
  · refine ar_iload_n kd_A_give_44 rfl ?_
    refine ar_iconst kd_A_give_45 ?_
    refine az_icmp_ne (tg := 64) kd_A_give_46 (by decide) (fun q3 => ?_) (fun q3 => ?_)
    · have e1 : ck_give c l (ck_gf c l i (cg_nT c) 0 0) w = ck_cost c l (ck_gf c l i (cg_nT c) 0 0).toNat := by
        unfold ck_give
        rw [if_neg (by omega), if_neg (by omega)]
      refine ar_aload_n kd_A_give_64 rfl ?_
      refine ar_get (ci := 0) (k := 0) kd_A_give_65 rfl kw_164 (by decide) rfl rfl ?_
      refine ar_iload_n kd_A_give_68 rfl ?_
      refine ar_iload kd_A_give_69 rfl ?_
      refine az_callv (z := km_F_pieceCost) (As := [_, _]) (ci := 1) kd_A_give_71 kw_508 kw_214 rfl ks_F_pieceCost kz_F_pieceCost rfl rfl rfl rfl rfl (Nat.le_of_ble_eq_true rfl) (Nat.le_of_ble_eq_true rfl) rfl (sp_F_pieceCostU (by omega) (k := (ck_gf c l i (cg_nT c) 0 0).toNat) (by omega) (Int.toNat_of_nonneg h0).symm hK) ?_
      refine ar_ireturn kd_A_give_74 rfl (Nat.le_of_ble_eq_true rfl) (Nat.le_of_ble_eq_true rfl) ?_
      exact ⟨by rw [e1], rfl, rfl⟩
    · have e1 : ck_give c l (ck_gf c l i (cg_nT c) 0 0) w = cg_gi c l (ck_gf c l i (cg_nT c) 0 0).toNat := by
        unfold ck_give
        rw [if_neg (by omega), if_pos (by omega)]
      refine ar_aload_n kd_A_give_49 rfl ?_
      refine ar_get (ci := 0) (k := 2) kd_A_give_50 rfl kw_166 (by decide) rfl rfl ?_
      refine ar_get (ci := 2) (k := 6) kd_A_give_53 rfl kw_107 (by decide) rfl rfl ?_
      refine ar_iload_n kd_A_give_56 rfl ?_
      refine az_aald kd_A_give_57 rfl rfl (by omega) (if_pos (by omega)) ?_
      refine ar_iload kd_A_give_58 rfl ?_
      refine az_iald kd_A_give_60 (hr_gi (by omega)) (k := (ck_gf c l i (cg_nT c) 0 0).toNat) (Int.toNat_of_nonneg h0).symm (by omega) ?_
      refine ar_goto (tg := 74) kd_A_give_61 (by decide) ?_
      refine ar_ireturn kd_A_give_74 rfl (Nat.le_of_ble_eq_true rfl) (Nat.le_of_ble_eq_true rfl) ?_
      exact ⟨by rw [e1], rfl, rfl⟩
  · have e1 : ck_give c l (ck_gf c l i (cg_nT c) 0 0) w = ck_gf c l i (cg_nT c) 0 0 := if_pos (by omega)
    refine ar_iload kd_A_give_41 rfl ?_
    refine ar_ireturn kd_A_give_43 rfl (Nat.le_of_ble_eq_true rfl) (Nat.le_of_ble_eq_true rfl) ?_
    exact ⟨by rw [e1], rfl, rfl⟩
set_option maxHeartbeats 1000000 in
set_option maxRecDepth 20000 in
theorem sp_A_held_t2 {d : Nat} {x : am_C} {c : cS} {t : List am_C} {n : Nat} {k : Int} (h_k : -2147483648 ≤ k ∧ k < 2147483648) (hK : cK c) (h0 : ¬ ((0 ≤ k ∧ k < cg_nT c))) : am_W (d + 1) km_A_held 0 [some (.ref 4), some (.int (iI k))] [] (hC x c t) n 0 0 (am_th 2 n (hC x c t) (n + 1)) := by
  by_cases g0 : 0 ≤ k ∧ k < cg_nT c
  · exfalso
    omega
  · refine ar_aload_n kd_A_held_0 rfl ?_
    refine ar_iload_n kd_A_held_1 rfl ?_
    refine az_callvt (z := km_A_needLot) (As := [_]) (ci := 0) kd_A_held_2 kw_411 kw_413 rfl ks_A_needLot kz_A_needLot rfl rfl rfl rfl rfl (Nat.le_of_ble_eq_true rfl) (Nat.le_of_ble_eq_true rfl) rfl (am_deep (sp_A_needLot_t (d := 0) (by omega) hK (by omega)) (Nat.zero_le _)) ?_
    exact ⟨rfl, rfl, rfl⟩
set_option maxHeartbeats 1000000 in
set_option maxRecDepth 20000 in
theorem sp_A_held {d : Nat} {x : am_C} {c : cS} {t : List am_C} {n : Nat} {k : Nat} (hK : cK c) (hk : k < cg_nT c) : am_W (d + 1) km_A_held 0 [some (.ref 4), some (.int (iI k))] [] (hC x c t) n 0 0 (am_eq (some (.int (iI (cg_pc c k - cg_fr c k)))) (hC x c t) n) := by
  obtain ⟨hT, hL⟩ := hK.nn
  refine ar_aload_n kd_A_held_0 rfl ?_
  refine ar_iload_n kd_A_held_1 rfl ?_
  refine az_callv (z := km_A_needLot) (As := [_]) (ci := 0) kd_A_held_2 kw_411 kw_413 rfl ks_A_needLot kz_A_needLot rfl rfl rfl rfl rfl (Nat.le_of_ble_eq_true rfl) (Nat.le_of_ble_eq_true rfl) rfl (am_deep (sp_A_needLot_ok (d := 0) (by omega) hK (by omega)) (Nat.zero_le _)) ?_
  refine ar_aload_n kd_A_held_5 rfl ?_
  refine ar_get (ci := 0) (k := 1) kd_A_held_6 rfl kw_165 (by decide) rfl rfl ?_
  refine ar_get (ci := 3) (k := 4) kd_A_held_9 rfl kw_54 (by decide) rfl rfl ?_
  refine ar_iload_n kd_A_held_12 rfl ?_
  refine az_iald kd_A_held_13 rfl rfl (by omega) ?_
  refine ar_aload_n kd_A_held_14 rfl ?_
  refine ar_get (ci := 0) (k := 1) kd_A_held_15 rfl kw_165 (by decide) rfl rfl ?_
  refine ar_get (ci := 3) (k := 5) kd_A_held_18 rfl kw_59 (by decide) rfl rfl ?_
  refine ar_iload_n kd_A_held_21 rfl ?_
  refine az_iald kd_A_held_22 rfl rfl (by omega) ?_
  refine az_isub kd_A_held_23 ?_
  refine ar_ireturn kd_A_held_24 rfl (Nat.le_of_ble_eq_true rfl) (Nat.le_of_ble_eq_true rfl) ?_
  exact ⟨rfl, rfl, rfl⟩
set_option maxHeartbeats 1000000 in
set_option maxRecDepth 20000 in
theorem sp_A_left_t2 {d : Nat} {x : am_C} {c : cS} {t : List am_C} {n : Nat} {k : Int} (h_k : -2147483648 ≤ k ∧ k < 2147483648) (hK : cK c) (h0 : ¬ ((0 ≤ k ∧ k < cg_nT c))) : am_W (d + 1) km_A_left 0 [some (.ref 4), some (.int (iI k))] [] (hC x c t) n 0 0 (am_th 2 n (hC x c t) (n + 1)) := by
  by_cases g0 : 0 ≤ k ∧ k < cg_nT c
  · exfalso
    omega
  · refine ar_aload_n kd_A_left_0 rfl ?_
    refine ar_iload_n kd_A_left_1 rfl ?_
    refine az_callvt (z := km_A_needLot) (As := [_]) (ci := 0) kd_A_left_2 kw_411 kw_413 rfl ks_A_needLot kz_A_needLot rfl rfl rfl rfl rfl (Nat.le_of_ble_eq_true rfl) (Nat.le_of_ble_eq_true rfl) rfl (am_deep (sp_A_needLot_t (d := 0) (by omega) hK (by omega)) (Nat.zero_le _)) ?_
    exact ⟨rfl, rfl, rfl⟩
set_option maxHeartbeats 1000000 in
set_option maxRecDepth 20000 in
theorem sp_A_left {d : Nat} {x : am_C} {c : cS} {t : List am_C} {n : Nat} {k : Nat} (hK : cK c) (hk : k < cg_nT c) : am_W (d + 1) km_A_left 0 [some (.ref 4), some (.int (iI k))] [] (hC x c t) n 0 0 (am_eq (some (.int (iI (cg_fr c k)))) (hC x c t) n) := by
  obtain ⟨hT, hL⟩ := hK.nn
  refine ar_aload_n kd_A_left_0 rfl ?_
  refine ar_iload_n kd_A_left_1 rfl ?_
  refine az_callv (z := km_A_needLot) (As := [_]) (ci := 0) kd_A_left_2 kw_411 kw_413 rfl ks_A_needLot kz_A_needLot rfl rfl rfl rfl rfl (Nat.le_of_ble_eq_true rfl) (Nat.le_of_ble_eq_true rfl) rfl (am_deep (sp_A_needLot_ok (d := 0) (by omega) hK (by omega)) (Nat.zero_le _)) ?_
  refine ar_aload_n kd_A_left_5 rfl ?_
  refine ar_get (ci := 0) (k := 1) kd_A_left_6 rfl kw_165 (by decide) rfl rfl ?_
  refine ar_get (ci := 3) (k := 5) kd_A_left_9 rfl kw_59 (by decide) rfl rfl ?_
  refine ar_iload_n kd_A_left_12 rfl ?_
  refine az_iald kd_A_left_13 rfl rfl (by omega) ?_
  refine ar_ireturn kd_A_left_14 rfl (Nat.le_of_ble_eq_true rfl) (Nat.le_of_ble_eq_true rfl) ?_
  exact ⟨rfl, rfl, rfl⟩
set_option maxHeartbeats 1000000 in
set_option maxRecDepth 20000 in
theorem sp_A_bar_t2 {d : Nat} {x : am_C} {c : cS} {t : List am_C} {n : Nat} {l : Int} (h_l : -2147483648 ≤ l ∧ l < 2147483648) (hK : cK c) (h0 : ¬ ((0 ≤ l ∧ l < cg_nL c))) : am_W (d + 1) km_A_bar 0 [some (.ref 4), some (.int (iI l))] [] (hC x c t) n 0 0 (am_th 2 n (hC x c t) (n + 1)) := by
  by_cases g0 : 0 ≤ l ∧ l < cg_nL c
  · exfalso
    omega
  · refine ar_aload_n kd_A_bar_0 rfl ?_
    refine ar_iload_n kd_A_bar_1 rfl ?_
    refine az_callvt (z := km_A_needLine) (As := [_]) (ci := 0) kd_A_bar_2 kw_380 kw_382 rfl ks_A_needLine kz_A_needLine rfl rfl rfl rfl rfl (Nat.le_of_ble_eq_true rfl) (Nat.le_of_ble_eq_true rfl) rfl (am_deep (sp_A_needLine_t (d := 0) (by omega) hK (by omega)) (Nat.zero_le _)) ?_
    exact ⟨rfl, rfl, rfl⟩
set_option maxHeartbeats 1000000 in
set_option maxRecDepth 20000 in
theorem sp_A_bar {d : Nat} {x : am_C} {c : cS} {t : List am_C} {n : Nat} {l : Nat} (hK : cK c) (hG : cG c) (hl : l < cg_nL c) : am_W (d + 3) km_A_bar 0 [some (.ref 4), some (.int (iI l))] [] (hC x c t) n 0 0 (am_eq (some (.int (iI (ck_fb c l)))) (hC x c t) n) := by
  obtain ⟨hT, hL⟩ := hK.nn
  refine ar_aload_n kd_A_bar_0 rfl ?_
  refine ar_iload_n kd_A_bar_1 rfl ?_
  refine az_callv (z := km_A_needLine) (As := [_]) (ci := 0) kd_A_bar_2 kw_380 kw_382 rfl ks_A_needLine kz_A_needLine rfl rfl rfl rfl rfl (Nat.le_of_ble_eq_true rfl) (Nat.le_of_ble_eq_true rfl) rfl (am_deep (sp_A_needLine_ok (d := 0) (by omega) hK (by omega)) (Nat.zero_le _)) ?_
  refine ar_aload_n kd_A_bar_5 rfl ?_
  refine ar_get (ci := 0) (k := 0) kd_A_bar_6 rfl kw_164 (by decide) rfl rfl ?_
  refine ar_iload_n kd_A_bar_9 rfl ?_
  refine az_callv (z := km_F_firstBar) (As := [_]) (ci := 1) kd_A_bar_10 kw_530 kw_531 rfl ks_F_firstBar kz_F_firstBar rfl rfl rfl rfl rfl (Nat.le_of_ble_eq_true rfl) (Nat.le_of_ble_eq_true rfl) rfl (sp_F_firstBar (by omega) hK hG) ?_
  refine ar_ireturn kd_A_bar_13 rfl (Nat.le_of_ble_eq_true rfl) (Nat.le_of_ble_eq_true rfl) ?_
  exact ⟨rfl, rfl, rfl⟩
set_option maxHeartbeats 1000000 in
set_option maxRecDepth 20000 in
theorem sp_A_change_t0 {d : Nat} {x : am_C} {c : cS} {t : List am_C} {n : Nat} {k : Int} {z : Int} (h_k : -2147483648 ≤ k ∧ k < 2147483648) (h_z : -2147483648 ≤ z ∧ z < 2147483648) (hK : cK c) (p0 : 0 ≤ k ∧ k < cg_nT c) (h0 : ¬ ((0 ≤ z ∧ z ≤ 500))) : am_W (d + 1) km_A_change 0 [some (.ref 4), some (.int (iI k)), some (.int (iI z))] [] (hC x c t) n 0 0 (am_th 0 n (hC x c t) (n + 1)) := by
  by_cases g1 : 0 ≤ z ∧ z ≤ 500
  · exfalso
    omega
  · refine ar_aload_n kd_A_change_0 rfl ?_
    refine ar_iload_n kd_A_change_1 rfl ?_
    refine az_callv (z := km_A_needLot) (As := [_]) (ci := 0) kd_A_change_2 kw_411 kw_413 rfl ks_A_needLot kz_A_needLot rfl rfl rfl rfl rfl (Nat.le_of_ble_eq_true rfl) (Nat.le_of_ble_eq_true rfl) rfl (am_deep (sp_A_needLot_ok (d := 0) (by omega) hK (by omega)) (Nat.zero_le _)) ?_
    refine ar_iload_n kd_A_change_5 rfl ?_
    refine ar_iconst kd_A_change_6 ?_
    refine az_sipush kd_A_change_7 (by decide) ?_
    refine az_callst (z := km_A_needRange) (As := [_, _, _]) kd_A_change_10 kw_257 kw_258 kw_1 kz_A_needRange rfl rfl rfl rfl (Nat.le_of_ble_eq_true rfl) (Nat.le_of_ble_eq_true rfl) rfl (am_deep (sp_A_needRange_t (d := 0) (by omega) (by omega) (by omega) (by omega)) (Nat.zero_le _)) ?_
    exact ⟨rfl, rfl, rfl⟩
set_option maxHeartbeats 1000000 in
set_option maxRecDepth 20000 in
theorem sp_A_change_t2 {d : Nat} {x : am_C} {c : cS} {t : List am_C} {n : Nat} {k : Int} {z : Int} (h_k : -2147483648 ≤ k ∧ k < 2147483648) (h_z : -2147483648 ≤ z ∧ z < 2147483648) (hK : cK c) (h0 : ¬ ((0 ≤ k ∧ k < cg_nT c))) : am_W (d + 1) km_A_change 0 [some (.ref 4), some (.int (iI k)), some (.int (iI z))] [] (hC x c t) n 0 0 (am_th 2 n (hC x c t) (n + 1)) := by
  by_cases g0 : 0 ≤ k ∧ k < cg_nT c
  · exfalso
    omega
  · refine ar_aload_n kd_A_change_0 rfl ?_
    refine ar_iload_n kd_A_change_1 rfl ?_
    refine az_callvt (z := km_A_needLot) (As := [_]) (ci := 0) kd_A_change_2 kw_411 kw_413 rfl ks_A_needLot kz_A_needLot rfl rfl rfl rfl rfl (Nat.le_of_ble_eq_true rfl) (Nat.le_of_ble_eq_true rfl) rfl (am_deep (sp_A_needLot_t (d := 0) (by omega) hK (by omega)) (Nat.zero_le _)) ?_
    exact ⟨rfl, rfl, rfl⟩
set_option maxHeartbeats 1000000 in
set_option maxRecDepth 20000 in
theorem sp_A_change {d : Nat} {x : am_C} {c : cS} {t : List am_C} {n : Nat} {k : Nat} {z : Int} (hK : cK c) (hI : cI c) (hk : k < cg_nT c) (hz : 0 ≤ z ∧ z ≤ 500) : am_W (d + 4) km_A_change 0 [some (.ref 4), some (.int (iI k)), some (.int (iI z))] [] (hC x c t) n 0 0 (am_eq (some (.int (iI (ck_dn k (cg_nL c) (ck_set c k z) 0).2))) (hC x (ck_dn k (cg_nL c) (ck_set c k z) 0).1 t) n) := by
  obtain ⟨hT, hL⟩ := hK.nn
  refine ar_aload_n kd_A_change_0 rfl ?_
  refine ar_iload_n kd_A_change_1 rfl ?_
  refine az_callv (z := km_A_needLot) (As := [_]) (ci := 0) kd_A_change_2 kw_411 kw_413 rfl ks_A_needLot kz_A_needLot rfl rfl rfl rfl rfl (Nat.le_of_ble_eq_true rfl) (Nat.le_of_ble_eq_true rfl) rfl (am_deep (sp_A_needLot_ok (d := 0) (by omega) hK (by omega)) (Nat.zero_le _)) ?_
  refine ar_iload_n kd_A_change_5 rfl ?_
  refine ar_iconst kd_A_change_6 ?_
  refine az_sipush kd_A_change_7 (by decide) ?_
  refine az_calls (z := km_A_needRange) (As := [_, _, _]) kd_A_change_10 kw_257 kw_258 kw_1 kz_A_needRange rfl rfl rfl rfl (Nat.le_of_ble_eq_true rfl) (Nat.le_of_ble_eq_true rfl) rfl (am_deep (sp_A_needRange_ok (d := 0) (by omega) (by omega) (by omega) (by omega)) (Nat.zero_le _)) ?_
  refine ar_aload_n kd_A_change_13 rfl ?_
  refine ar_get (ci := 0) (k := 0) kd_A_change_14 rfl kw_164 (by decide) rfl rfl ?_
  refine ar_iload_n kd_A_change_17 rfl ?_
  refine ar_iload_n kd_A_change_18 rfl ?_
  refine az_callv (z := km_F_setPieces) (As := [_, _]) (ci := 1) kd_A_change_19 kw_544 kw_545 rfl ks_F_setPieces kz_F_setPieces rfl rfl rfl rfl rfl (Nat.le_of_ble_eq_true rfl) (Nat.le_of_ble_eq_true rfl) rfl (sp_F_setPieces (by omega) hz hK hI) ?_
  refine ar_ireturn kd_A_change_22 rfl (Nat.le_of_ble_eq_true rfl) (Nat.le_of_ble_eq_true rfl) ?_
  exact ⟨rfl, rfl, rfl⟩
theorem ck_ps_rg {c : cS} (hK : cK c) (hG : cG c) {l : Nat} (hl : l < 6) : 0 ≤ zs (cg_gi c l) (cg_nT c) ∧ zs (cg_gi c l) (cg_nT c) ≤ 8000 := by
  have hT := hK.nn.1
  have h1 := zs_nonneg (f := cg_gi c l) (cg_nT c) (fun k hk => (hG.gi hl (by omega)).1)
  have h2 := zs_le (f := cg_gi c l) (b := 1000) (cg_nT c) (fun k hk => (hG.gi hl (by omega)).2)
  omega
theorem ck_cp_rg {c : cS} (hK : cK c) (hG : cG c) {l : Nat} (hl : l < 6) : 0 ≤ zs (fun k => cg_gi c l k * ck_cost c l k) (cg_nT c) ∧ zs (fun k => cg_gi c l k * ck_cost c l k) (cg_nT c) ≤ 8000000 := by
  have hT := hK.nn.1
  have hh : ∀ k, k < cg_nT c → 0 ≤ cg_gi c l k * ck_cost c l k ∧ cg_gi c l k * ck_cost c l k ≤ 1000000 := fun k hk => by
    have a1 := hG.gi hl (show k < 8 by omega)
    have a2 := ck_cost_rg hK hl (show k < 8 by omega)
    refine ⟨Int.mul_nonneg a1.1 a2.1, ?_⟩
    have := Int.mul_le_mul a1.2 a2.2 a2.1 (by omega)
    omega
  have h1 := zs_nonneg (f := fun k => cg_gi c l k * ck_cost c l k) (cg_nT c) (fun k hk => (hh k hk).1)
  have h2 := zs_le (f := fun k => cg_gi c l k * ck_cost c l k) (b := 1000000) (cg_nT c) (fun k hk => (hh k hk).2)
  omega
set_option maxHeartbeats 1000000 in
set_option maxRecDepth 20000 in
theorem sp_A_undo_t3 {d : Nat} {x : am_C} {c : cS} {t : List am_C} {n : Nat} {l : Nat} (hK : cK c) (hG : cG c) (hl : l < cg_nL c) (h0 : zs (cg_gi c l) (cg_nT c) = 0) : am_W (d + 1) km_A_undo 0 [some (.ref 4), some (.int (iI l)), none] [] (hC x c t) n 0 0 (am_th 3 n (hC x c t) (n + 1)) := by
  obtain ⟨hT, hL⟩ := hK.nn
  have hps := ck_ps_rg hK hG (l := l) (by omega)
  refine ar_aload_n kd_A_undo_0 rfl ?_
  refine ar_iload_n kd_A_undo_1 rfl ?_
  refine az_callv (z := km_A_needLine) (As := [_]) (ci := 0) kd_A_undo_2 kw_380 kw_382 rfl ks_A_needLine kz_A_needLine rfl rfl rfl rfl rfl (Nat.le_of_ble_eq_true rfl) (Nat.le_of_ble_eq_true rfl) rfl (am_deep (sp_A_needLine_ok (d := 0) (by omega) hK (by omega)) (Nat.zero_le _)) ?_
  refine ar_aload_n kd_A_undo_5 rfl ?_
  refine ar_get (ci := 0) (k := 0) kd_A_undo_6 rfl kw_164 (by decide) rfl rfl ?_
  refine ar_iload_n kd_A_undo_9 rfl ?_
  refine az_callv (z := km_F_piecesOf) (As := [_]) (ci := 1) kd_A_undo_10 kw_560 kw_229 rfl ks_F_piecesOf kz_F_piecesOf rfl rfl rfl rfl rfl (Nat.le_of_ble_eq_true rfl) (Nat.le_of_ble_eq_true rfl) rfl (sp_F_piecesOf (by omega) hK) ?_
  refine ar_istore_n kd_A_undo_13 (Nat.le_of_ble_eq_true rfl) rfl ?_
  dsimp only [List.set]
  refine ar_iload_n kd_A_undo_14 rfl ?_
  refine az_if_ne (tg := 28) kd_A_undo_15 (by decide) (fun q1 => (by exfalso; omega)) (fun q1 => ?_)
  refine ar_throw (k := 3) rfl (by decide) kd_A_undo_18 kd_A_undo_21 kd_A_undo_22 kd_A_undo_24 kd_A_undo_27 kw_561 kw_562 kw_15 (tx := "the line holds nothing") (by decide) rfl rfl (Nat.le_of_ble_eq_true rfl) (Nat.le_of_ble_eq_true rfl) (Nat.le_of_ble_eq_true rfl) ?_
  exact ⟨rfl, rfl, rfl⟩
set_option maxHeartbeats 1000000 in
set_option maxRecDepth 20000 in
theorem sp_A_average_t4 {d : Nat} {x : am_C} {c : cS} {t : List am_C} {n : Nat} {l : Nat} (hK : cK c) (hG : cG c) (hl : l < cg_nL c) (h0 : zs (cg_gi c l) (cg_nT c) = 0) : am_W (d + 1) km_A_average 0 [some (.ref 4), some (.int (iI l)), none] [] (hC x c t) n 0 0 (am_th 4 n (hC x c t) (n + 1)) := by
  obtain ⟨hT, hL⟩ := hK.nn
  have hps := ck_ps_rg hK hG (l := l) (by omega)
  refine ar_aload_n kd_A_average_0 rfl ?_
  refine ar_iload_n kd_A_average_1 rfl ?_
  refine az_callv (z := km_A_needLine) (As := [_]) (ci := 0) kd_A_average_2 kw_380 kw_382 rfl ks_A_needLine kz_A_needLine rfl rfl rfl rfl rfl (Nat.le_of_ble_eq_true rfl) (Nat.le_of_ble_eq_true rfl) rfl (am_deep (sp_A_needLine_ok (d := 0) (by omega) hK (by omega)) (Nat.zero_le _)) ?_
  refine ar_aload_n kd_A_average_5 rfl ?_
  refine ar_get (ci := 0) (k := 0) kd_A_average_6 rfl kw_164 (by decide) rfl rfl ?_
  refine ar_iload_n kd_A_average_9 rfl ?_
  refine az_callv (z := km_F_piecesOf) (As := [_]) (ci := 1) kd_A_average_10 kw_560 kw_229 rfl ks_F_piecesOf kz_F_piecesOf rfl rfl rfl rfl rfl (Nat.le_of_ble_eq_true rfl) (Nat.le_of_ble_eq_true rfl) rfl (sp_F_piecesOf (by omega) hK) ?_
  refine ar_istore_n kd_A_average_13 (Nat.le_of_ble_eq_true rfl) rfl ?_
  dsimp only [List.set]
  refine ar_iload_n kd_A_average_14 rfl ?_
  refine az_if_ne (tg := 28) kd_A_average_15 (by decide) (fun q1 => (by exfalso; omega)) (fun q1 => ?_)
  refine ar_throw (k := 4) rfl (by decide) kd_A_average_18 kd_A_average_21 kd_A_average_22 kd_A_average_24 kd_A_average_27 kw_593 kw_594 kw_16 (tx := "/ by zero") (by decide) rfl rfl (Nat.le_of_ble_eq_true rfl) (Nat.le_of_ble_eq_true rfl) (Nat.le_of_ble_eq_true rfl) ?_
  exact ⟨rfl, rfl, rfl⟩
set_option maxHeartbeats 1000000 in
set_option maxRecDepth 20000 in
theorem sp_A_undo_t2 {d : Nat} {x : am_C} {c : cS} {t : List am_C} {n : Nat} {l : Int} (h_l : -2147483648 ≤ l ∧ l < 2147483648) (hK : cK c) (h0 : ¬ ((0 ≤ l ∧ l < cg_nL c))) : am_W (d + 1) km_A_undo 0 [some (.ref 4), some (.int (iI l)), none] [] (hC x c t) n 0 0 (am_th 2 n (hC x c t) (n + 1)) := by
  by_cases g0 : 0 ≤ l ∧ l < cg_nL c
  · exfalso
    omega
  · refine ar_aload_n kd_A_undo_0 rfl ?_
    refine ar_iload_n kd_A_undo_1 rfl ?_
    refine az_callvt (z := km_A_needLine) (As := [_]) (ci := 0) kd_A_undo_2 kw_380 kw_382 rfl ks_A_needLine kz_A_needLine rfl rfl rfl rfl rfl (Nat.le_of_ble_eq_true rfl) (Nat.le_of_ble_eq_true rfl) rfl (am_deep (sp_A_needLine_t (d := 0) (by omega) hK (by omega)) (Nat.zero_le _)) ?_
    exact ⟨rfl, rfl, rfl⟩
set_option maxHeartbeats 1000000 in
set_option maxRecDepth 20000 in
theorem sp_A_undo {d : Nat} {x : am_C} {c : cS} {t : List am_C} {n : Nat} {l : Nat} (hK : cK c) (hG : cG c) (hl : l < cg_nL c) (h0 : zs (cg_gi c l) (cg_nT c) ≠ 0) : am_W (d + 2) km_A_undo 0 [some (.ref 4), some (.int (iI l)), none] [] (hC x c t) n 0 0 (am_eq (some (.int (iI (zs (cg_gi c l) (cg_nT c))))) (hC x (ck_letGo c l) t) n) := by
  obtain ⟨hT, hL⟩ := hK.nn
  have hps := ck_ps_rg hK hG (l := l) (by omega)
  refine ar_aload_n kd_A_undo_0 rfl ?_
  refine ar_iload_n kd_A_undo_1 rfl ?_
  refine az_callv (z := km_A_needLine) (As := [_]) (ci := 0) kd_A_undo_2 kw_380 kw_382 rfl ks_A_needLine kz_A_needLine rfl rfl rfl rfl rfl (Nat.le_of_ble_eq_true rfl) (Nat.le_of_ble_eq_true rfl) rfl (am_deep (sp_A_needLine_ok (d := 0) (by omega) hK (by omega)) (Nat.zero_le _)) ?_
  refine ar_aload_n kd_A_undo_5 rfl ?_
  refine ar_get (ci := 0) (k := 0) kd_A_undo_6 rfl kw_164 (by decide) rfl rfl ?_
  refine ar_iload_n kd_A_undo_9 rfl ?_
  refine az_callv (z := km_F_piecesOf) (As := [_]) (ci := 1) kd_A_undo_10 kw_560 kw_229 rfl ks_F_piecesOf kz_F_piecesOf rfl rfl rfl rfl rfl (Nat.le_of_ble_eq_true rfl) (Nat.le_of_ble_eq_true rfl) rfl (sp_F_piecesOf (by omega) hK) ?_
  refine ar_istore_n kd_A_undo_13 (Nat.le_of_ble_eq_true rfl) rfl ?_
  dsimp only [List.set]
  refine ar_iload_n kd_A_undo_14 rfl ?_
  refine az_if_ne (tg := 28) kd_A_undo_15 (by decide) (fun q1 => ?_) (fun q1 => (by exfalso; omega))
  refine ar_aload_n kd_A_undo_28 rfl ?_
  refine ar_get (ci := 0) (k := 0) kd_A_undo_29 rfl kw_164 (by decide) rfl rfl ?_
  refine ar_iload_n kd_A_undo_32 rfl ?_
  refine az_callv (z := km_F_letGo) (As := [_]) (ci := 1) kd_A_undo_33 kw_577 kw_441 rfl ks_F_letGo kz_F_letGo rfl rfl rfl rfl rfl (Nat.le_of_ble_eq_true rfl) (Nat.le_of_ble_eq_true rfl) rfl (sp_F_letGo (by omega) hK) ?_
  refine ar_iload_n kd_A_undo_36 rfl ?_
  refine ar_ireturn kd_A_undo_37 rfl (Nat.le_of_ble_eq_true rfl) (Nat.le_of_ble_eq_true rfl) ?_
  exact ⟨rfl, rfl, rfl⟩
set_option maxHeartbeats 1000000 in
set_option maxRecDepth 20000 in
theorem sp_A_refused_t2 {d : Nat} {x : am_C} {c : cS} {t : List am_C} {n : Nat} {l : Int} (h_l : -2147483648 ≤ l ∧ l < 2147483648) (hK : cK c) (h0 : ¬ ((0 ≤ l ∧ l < cg_nL c))) : am_W (d + 1) km_A_refused 0 [some (.ref 4), some (.int (iI l))] [] (hC x c t) n 0 0 (am_th 2 n (hC x c t) (n + 1)) := by
  by_cases g0 : 0 ≤ l ∧ l < cg_nL c
  · exfalso
    omega
  · refine ar_aload_n kd_A_refused_0 rfl ?_
    refine ar_iload_n kd_A_refused_1 rfl ?_
    refine az_callvt (z := km_A_needLine) (As := [_]) (ci := 0) kd_A_refused_2 kw_380 kw_382 rfl ks_A_needLine kz_A_needLine rfl rfl rfl rfl rfl (Nat.le_of_ble_eq_true rfl) (Nat.le_of_ble_eq_true rfl) rfl (am_deep (sp_A_needLine_t (d := 0) (by omega) hK (by omega)) (Nat.zero_le _)) ?_
    exact ⟨rfl, rfl, rfl⟩
set_option maxHeartbeats 1000000 in
set_option maxRecDepth 20000 in
theorem sp_A_refused {d : Nat} {x : am_C} {c : cS} {t : List am_C} {n : Nat} {l : Nat} (hK : cK c) (hl : l < cg_nL c) : am_W (d + 1) km_A_refused 0 [some (.ref 4), some (.int (iI l))] [] (hC x c t) n 0 0 (am_eq (some (.int (iI (cg_lw c l - zs (cg_gi c l) (cg_nT c))))) (hC x c t) n) := by
  obtain ⟨hT, hL⟩ := hK.nn
  refine ar_aload_n kd_A_refused_0 rfl ?_
  refine ar_iload_n kd_A_refused_1 rfl ?_
  refine az_callv (z := km_A_needLine) (As := [_]) (ci := 0) kd_A_refused_2 kw_380 kw_382 rfl ks_A_needLine kz_A_needLine rfl rfl rfl rfl rfl (Nat.le_of_ble_eq_true rfl) (Nat.le_of_ble_eq_true rfl) rfl (am_deep (sp_A_needLine_ok (d := 0) (by omega) hK (by omega)) (Nat.zero_le _)) ?_
  refine ar_aload_n kd_A_refused_5 rfl ?_
  refine ar_get (ci := 0) (k := 2) kd_A_refused_6 rfl kw_166 (by decide) rfl rfl ?_
  refine ar_get (ci := 2) (k := 2) kd_A_refused_9 rfl kw_96 (by decide) rfl rfl ?_
  refine ar_iload_n kd_A_refused_12 rfl ?_
  refine az_iald kd_A_refused_13 rfl rfl (by omega) ?_
  refine ar_aload_n kd_A_refused_14 rfl ?_
  refine ar_get (ci := 0) (k := 0) kd_A_refused_15 rfl kw_164 (by decide) rfl rfl ?_
  refine ar_iload_n kd_A_refused_18 rfl ?_
  refine az_callv (z := km_F_piecesOf) (As := [_]) (ci := 1) kd_A_refused_19 kw_560 kw_229 rfl ks_F_piecesOf kz_F_piecesOf rfl rfl rfl rfl rfl (Nat.le_of_ble_eq_true rfl) (Nat.le_of_ble_eq_true rfl) rfl (sp_F_piecesOf (by omega) hK) ?_
  refine az_isub kd_A_refused_22 ?_
  refine ar_ireturn kd_A_refused_23 rfl (Nat.le_of_ble_eq_true rfl) (Nat.le_of_ble_eq_true rfl) ?_
  exact ⟨rfl, rfl, rfl⟩
set_option maxHeartbeats 1000000 in
set_option maxRecDepth 20000 in
theorem sp_A_average_t2 {d : Nat} {x : am_C} {c : cS} {t : List am_C} {n : Nat} {l : Int} (h_l : -2147483648 ≤ l ∧ l < 2147483648) (hK : cK c) (h0 : ¬ ((0 ≤ l ∧ l < cg_nL c))) : am_W (d + 1) km_A_average 0 [some (.ref 4), some (.int (iI l)), none] [] (hC x c t) n 0 0 (am_th 2 n (hC x c t) (n + 1)) := by
  by_cases g0 : 0 ≤ l ∧ l < cg_nL c
  · exfalso
    omega
  · refine ar_aload_n kd_A_average_0 rfl ?_
    refine ar_iload_n kd_A_average_1 rfl ?_
    refine az_callvt (z := km_A_needLine) (As := [_]) (ci := 0) kd_A_average_2 kw_380 kw_382 rfl ks_A_needLine kz_A_needLine rfl rfl rfl rfl rfl (Nat.le_of_ble_eq_true rfl) (Nat.le_of_ble_eq_true rfl) rfl (am_deep (sp_A_needLine_t (d := 0) (by omega) hK (by omega)) (Nat.zero_le _)) ?_
    exact ⟨rfl, rfl, rfl⟩
set_option maxHeartbeats 1000000 in
set_option maxRecDepth 20000 in
theorem sp_A_average {d : Nat} {x : am_C} {c : cS} {t : List am_C} {n : Nat} {l : Nat} (hK : cK c) (hG : cG c) (hl : l < cg_nL c) (h0 : zs (cg_gi c l) (cg_nT c) ≠ 0) : am_W (d + 2) km_A_average 0 [some (.ref 4), some (.int (iI l)), none] [] (hC x c t) n 0 0 (am_eq (some (.int (iI (zs (fun k => cg_gi c l k * ck_cost c l k) (cg_nT c) / zs (cg_gi c l) (cg_nT c))))) (hC x c t) n) := by
  obtain ⟨hT, hL⟩ := hK.nn
  have hps := ck_ps_rg hK hG (l := l) (by omega)
  have hcp := ck_cp_rg hK hG (l := l) (by omega)
  refine ar_aload_n kd_A_average_0 rfl ?_
  refine ar_iload_n kd_A_average_1 rfl ?_
  refine az_callv (z := km_A_needLine) (As := [_]) (ci := 0) kd_A_average_2 kw_380 kw_382 rfl ks_A_needLine kz_A_needLine rfl rfl rfl rfl rfl (Nat.le_of_ble_eq_true rfl) (Nat.le_of_ble_eq_true rfl) rfl (am_deep (sp_A_needLine_ok (d := 0) (by omega) hK (by omega)) (Nat.zero_le _)) ?_
  refine ar_aload_n kd_A_average_5 rfl ?_
  refine ar_get (ci := 0) (k := 0) kd_A_average_6 rfl kw_164 (by decide) rfl rfl ?_
  refine ar_iload_n kd_A_average_9 rfl ?_
  refine az_callv (z := km_F_piecesOf) (As := [_]) (ci := 1) kd_A_average_10 kw_560 kw_229 rfl ks_F_piecesOf kz_F_piecesOf rfl rfl rfl rfl rfl (Nat.le_of_ble_eq_true rfl) (Nat.le_of_ble_eq_true rfl) rfl (sp_F_piecesOf (by omega) hK) ?_
  refine ar_istore_n kd_A_average_13 (Nat.le_of_ble_eq_true rfl) rfl ?_
  dsimp only [List.set]
  refine ar_iload_n kd_A_average_14 rfl ?_
  refine az_if_ne (tg := 28) kd_A_average_15 (by decide) (fun q1 => ?_) (fun q1 => (by exfalso; omega))
  refine ar_aload_n kd_A_average_28 rfl ?_
  refine ar_get (ci := 0) (k := 0) kd_A_average_29 rfl kw_164 (by decide) rfl rfl ?_
  refine ar_iload_n kd_A_average_32 rfl ?_
  refine az_callv (z := km_F_costOfPieces) (As := [_]) (ci := 1) kd_A_average_33 kw_609 kw_610 rfl ks_F_costOfPieces kz_F_costOfPieces rfl rfl rfl rfl rfl (Nat.le_of_ble_eq_true rfl) (Nat.le_of_ble_eq_true rfl) rfl (sp_F_costOfPieces (by omega) hK) ?_
  refine ar_iload_n kd_A_average_36 rfl ?_
  refine az_idiv kd_A_average_37 (by omega) (by omega) ?_
  refine ar_ireturn kd_A_average_38 rfl (Nat.le_of_ble_eq_true rfl) (Nat.le_of_ble_eq_true rfl) ?_
  exact ⟨rfl, rfl, rfl⟩
