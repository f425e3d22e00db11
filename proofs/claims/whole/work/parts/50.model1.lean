/-! the reference: its state in the heap, its small methods -/
theorem hv_pl {x : am_C} {c : cS} {m : mS} {t : List am_C} (R : Nat → Int) : (hC x c (hM m t)).set 51 (am_ia 8 (fun j => iI (R j))) = hC x c (hM (ms_pl m R) t) := rfl
theorem hv_gd {x : am_C} {c : cS} {m : mS} {t : List am_C} (R : Nat → Int) : (hC x c (hM m t)).set 52 (am_ia 8 (fun j => iI (R j))) = hC x c (hM (ms_gd m R) t) := rfl
theorem hv_pc {x : am_C} {c : cS} {m : mS} {t : List am_C} (R : Nat → Int) : (hC x c (hM m t)).set 53 (am_ia 8 (fun j => iI (R j))) = hC x c (hM (ms_pc m R) t) := rfl
theorem hv_un {x : am_C} {c : cS} {m : mS} {t : List am_C} (R : Nat → Int) : (hC x c (hM m t)).set 54 (am_ia 8 (fun j => iI (R j))) = hC x c (hM (ms_un m R) t) := rfl
theorem hv_wi {x : am_C} {c : cS} {m : mS} {t : List am_C} (R : Nat → Int) : (hC x c (hM m t)).set 55 (am_ia 6 (fun j => iI (R j))) = hC x c (hM (ms_wi m R) t) := rfl
theorem hv_ma {x : am_C} {c : cS} {m : mS} {t : List am_C} (R : Nat → Int) : (hC x c (hM m t)).set 56 (am_ia 6 (fun j => iI (R j))) = hC x c (hM (ms_ma m R) t) := rfl
theorem hv_rl {x : am_C} {c : cS} {m : mS} {t : List am_C} (R : Nat → Int) : (hC x c (hM m t)).set 57 (am_ia 24 (fun j => iI (R j))) = hC x c (hM (ms_rl m R) t) := rfl
theorem hv_tl {x : am_C} {c : cS} {m : mS} {t : List am_C} (R : Nat → Int) : (hC x c (hM m t)).set 58 (am_ia 48 (fun j => iI (R j))) = hC x c (hM (ms_tl m R) t) := rfl
theorem hv_ho {x : am_C} {c : cS} {m : mS} {t : List am_C} (R : Nat → Int) : (hC x c (hM m t)).set 60 (am_ia 48 (fun j => iI (R j))) = hC x c (hM (ms_ho m R) t) := rfl
theorem hv_al {x : am_C} {c : cS} {m : mS} {t : List am_C} (R : Nat → Int) : (hC x c (hM m t)).set 61 (am_ia 48 (fun j => iI (R j))) = hC x c (hM (ms_al m R) t) := rfl
theorem hv_ac {x : am_C} {c : cS} {m : mS} {t : List am_C} (R : Nat → Int) : (hC x c (hM m t)).set 62 (am_ia 6 (fun j => iI (R j))) = hC x c (hM (ms_ac m R) t) := rfl
theorem hv_se {x : am_C} {c : cS} {m : mS} {t : List am_C} (R : Nat → Int) : (hC x c (hM m t)).set 63 (am_ia 6 (fun j => iI (R j))) = hC x c (hM (ms_se m R) t) := rfl
theorem hv_bs {x : am_C} {c : cS} {m : mS} {t : List am_C} (R : Nat → Int) : (hC x c (hM m t)).set 64 (am_ia 6 (fun j => iI (R j))) = hC x c (hM (ms_bs m R) t) := rfl
theorem hv_re {x : am_C} {c : cS} {m : mS} {t : List am_C} (R : Nat → Int) : (hC x c (hM m t)).set 65 (am_ia 56 (fun j => iI (R j))) = hC x c (hM (ms_re m R) t) := rfl
theorem hv_sp {x : am_C} {c : cS} {m : mS} {t : List am_C} (R : Nat → Int) : (hC x c (hM m t)).set 66 (am_ia 7 (fun j => iI (R j))) = hC x c (hM (ms_sp m R) t) := rfl
theorem hv_ta {x : am_C} {c : cS} {m : mS} {t : List am_C} (R : Nat → Int) : (hC x c (hM m t)).set 67 (am_ia 48 (fun j => iI (R j))) = hC x c (hM (ms_ta m R) t) := rfl
theorem hv_ba {x : am_C} {c : cS} {m : mS} {t : List am_C} (R : Nat → Int32) : (hC x c (hM m t)).set 59 (am_za 48 R) = hC x c (hM (ms_ba m R) t) := rfl
theorem hq_co {x : am_C} {c : cS} {m : mS} {t : List am_C} (v : Int) : (hC x c (hM m t)).set 50 (am_ob 5 [.int (iI (v : Int)), .int (iI (mg_nT m)), .ref 51, .ref 52, .ref 53, .ref 54, .int (iI (mg_nL m)), .ref 55, .ref 56, .ref 57, .ref 58, .ref 59, .ref 60, .int (iI (mg_ex m)), .ref 61, .ref 62, .ref 63, .ref 64, .ref 65, .ref 66, .ref 67]) = hC x c (hM (ms_co m v) t) := rfl
theorem hq_nT {x : am_C} {c : cS} {m : mS} {t : List am_C} (v : Nat) : (hC x c (hM m t)).set 50 (am_ob 5 [.int (iI (mg_co m)), .int (iI (v : Int)), .ref 51, .ref 52, .ref 53, .ref 54, .int (iI (mg_nL m)), .ref 55, .ref 56, .ref 57, .ref 58, .ref 59, .ref 60, .int (iI (mg_ex m)), .ref 61, .ref 62, .ref 63, .ref 64, .ref 65, .ref 66, .ref 67]) = hC x c (hM (ms_nT m v) t) := rfl
theorem hq_nL {x : am_C} {c : cS} {m : mS} {t : List am_C} (v : Nat) : (hC x c (hM m t)).set 50 (am_ob 5 [.int (iI (mg_co m)), .int (iI (mg_nT m)), .ref 51, .ref 52, .ref 53, .ref 54, .int (iI (v : Int)), .ref 55, .ref 56, .ref 57, .ref 58, .ref 59, .ref 60, .int (iI (mg_ex m)), .ref 61, .ref 62, .ref 63, .ref 64, .ref 65, .ref 66, .ref 67]) = hC x c (hM (ms_nL m v) t) := rfl
theorem hq_ex {x : am_C} {c : cS} {m : mS} {t : List am_C} (v : Int) : (hC x c (hM m t)).set 50 (am_ob 5 [.int (iI (mg_co m)), .int (iI (mg_nT m)), .ref 51, .ref 52, .ref 53, .ref 54, .int (iI (mg_nL m)), .ref 55, .ref 56, .ref 57, .ref 58, .ref 59, .ref 60, .int (iI (v : Int)), .ref 61, .ref 62, .ref 63, .ref 64, .ref 65, .ref 66, .ref 67]) = hC x c (hM (ms_ex m v) t) := rfl
/-- the reference's numbers, in their ranges -/
def mK (m : mS) : Prop := (mg_nT m ≤ 8 ∧ mg_nL m ≤ 6) ∧ (∀ k, k < 8 → (0 ≤ mg_pl m k ∧ mg_pl m k ≤ 99) ∧ (0 ≤ mg_gd m k ∧ mg_gd m k ≤ 5) ∧ (0 ≤ mg_un m k ∧ mg_un m k ≤ 9999) ∧ (0 ≤ mg_pc m k ∧ mg_pc m k ≤ 500)) ∧
  (∀ l, l < 6 → (0 ≤ mg_wi m l ∧ mg_wi m l ≤ 5) ∧ (0 ≤ mg_ma m l ∧ mg_ma m l ≤ 200) ∧ (0 ≤ mg_rl m (4 * l) ∧ mg_rl m (4 * l) ≤ 9999) ∧ (0 ≤ mg_rl m (4 * l + 1) ∧ mg_rl m (4 * l + 1) ≤ 50) ∧ (0 ≤ mg_rl m (4 * l + 2) ∧ mg_rl m (4 * l + 2) ≤ 8) ∧ (0 ≤ mg_rl m (4 * l + 3) ∧ mg_rl m (4 * l + 3) ≤ 1) ∧
    ∀ k, k < 8 → (-1 ≤ mg_tl m (8 * l + k) ∧ mg_tl m (8 * l + k) ≤ 1000) ∧ (0 ≤ mg_ho m (8 * l + k) ∧ mg_ho m (8 * l + k) ≤ 500))
theorem mK.nn {m : mS} (h : mK m) : mg_nT m ≤ 8 ∧ mg_nL m ≤ 6 := h.1
theorem mK.lot {m : mS} (h : mK m) {k : Nat} (hk : k < 8) : (0 ≤ mg_pl m k ∧ mg_pl m k ≤ 99) ∧ (0 ≤ mg_gd m k ∧ mg_gd m k ≤ 5) ∧ (0 ≤ mg_un m k ∧ mg_un m k ≤ 9999) ∧ (0 ≤ mg_pc m k ∧ mg_pc m k ≤ 500) := h.2.1 k hk
theorem mK.line {m : mS} (h : mK m) {l : Nat} (hl : l < 6) : (0 ≤ mg_wi m l ∧ mg_wi m l ≤ 5) ∧ (0 ≤ mg_ma m l ∧ mg_ma m l ≤ 200) ∧ (0 ≤ mg_rl m (4 * l) ∧ mg_rl m (4 * l) ≤ 9999) ∧ (0 ≤ mg_rl m (4 * l + 1) ∧ mg_rl m (4 * l + 1) ≤ 50) ∧ (0 ≤ mg_rl m (4 * l + 2) ∧ mg_rl m (4 * l + 2) ≤ 8) ∧ (0 ≤ mg_rl m (4 * l + 3) ∧ mg_rl m (4 * l + 3) ≤ 1) := ⟨(h.2.2 l hl).1, (h.2.2 l hl).2.1, (h.2.2 l hl).2.2.1, (h.2.2 l hl).2.2.2.1, (h.2.2 l hl).2.2.2.2.1, (h.2.2 l hl).2.2.2.2.2.1⟩
theorem mK.told {m : mS} (h : mK m) {l k : Nat} (hl : l < 6) (hk : k < 8) : -1 ≤ mg_tl m (8 * l + k) ∧ mg_tl m (8 * l + k) ≤ 1000 := ((h.2.2 l hl).2.2.2.2.2.2 k hk).1
theorem mK.ho {m : mS} (h : mK m) {l k : Nat} (hl : l < 6) (hk : k < 8) : 0 ≤ mg_ho m (8 * l + k) ∧ mg_ho m (8 * l + k) ≤ 500 := ((h.2.2 l hl).2.2.2.2.2.2 k hk).2
theorem ib_zb (p : Prop) [Decidable p] : (if p then iI 1 else iI 0) = iI (zb p) := by
  unfold zb
  split <;> rfl
set_option maxHeartbeats 1000000 in
set_option maxRecDepth 20000 in
theorem sp_M_in_t {d : Nat} {h : am_H} {n : Nat} {v a b : Int} (hv : -2147483648 ≤ v ∧ v < 2147483648) (ha : -10000 ≤ a ∧ a ≤ 100000) (hb : -10000 ≤ b ∧ b ≤ 100000) (hr : a ≤ v ∧ v ≤ b) : am_W d km_M_in 0 [some (.int (iI v)), some (.int (iI a)), some (.int (iI b))] [] h n 0 0 (am_eq (some (.int (iI 1))) h n) := by
  refine ar_iload_n kd_M_in_0 rfl ?_
  refine ar_iload_n kd_M_in_1 rfl ?_
  refine az_icmp_lt (tg := 14) kd_M_in_2 (by decide) (fun q1 => (by exfalso; omega)) (fun q1 => ?_)
  refine ar_iload_n kd_M_in_5 rfl ?_
  refine ar_iload_n kd_M_in_6 rfl ?_
  refine az_icmp_gt (tg := 14) kd_M_in_7 (by decide) (fun q2 => (by exfalso; omega)) (fun q2 => ?_)
  refine ar_iconst kd_M_in_10 ?_
  refine ar_goto (tg := 15) kd_M_in_11 (by decide) ?_
  refine ar_zreturn kd_M_in_15 rfl rfl (Nat.le_of_ble_eq_true rfl) (Nat.le_of_ble_eq_true rfl) ?_
  exact ⟨rfl, rfl, rfl⟩
set_option maxHeartbeats 1000000 in
set_option maxRecDepth 20000 in
theorem sp_M_in_f {d : Nat} {h : am_H} {n : Nat} {v a b : Int} (hv : -2147483648 ≤ v ∧ v < 2147483648) (ha : -10000 ≤ a ∧ a ≤ 100000) (hb : -10000 ≤ b ∧ b ≤ 100000) (hr : ¬ (a ≤ v ∧ v ≤ b)) : am_W d km_M_in 0 [some (.int (iI v)), some (.int (iI a)), some (.int (iI b))] [] h n 0 0 (am_eq (some (.int (iI 0))) h n) := by
  refine ar_iload_n kd_M_in_0 rfl ?_
  refine ar_iload_n kd_M_in_1 rfl ?_
  refine az_icmp_lt (tg := 14) kd_M_in_2 (by decide) (fun q1 => ?_) (fun q1 => ?_)
  · refine ar_iconst kd_M_in_14 ?_
    refine ar_zreturn kd_M_in_15 rfl rfl (Nat.le_of_ble_eq_true rfl) (Nat.le_of_ble_eq_true rfl) ?_
    exact ⟨rfl, rfl, rfl⟩
  · refine ar_iload_n kd_M_in_5 rfl ?_
    refine ar_iload_n kd_M_in_6 rfl ?_
    refine az_icmp_gt (tg := 14) kd_M_in_7 (by decide) (fun q2 => ?_) (fun q2 => (by exfalso; omega))
    refine ar_iconst kd_M_in_14 ?_
    refine ar_zreturn kd_M_in_15 rfl rfl (Nat.le_of_ble_eq_true rfl) (Nat.le_of_ble_eq_true rfl) ?_
    exact ⟨rfl, rfl, rfl⟩
set_option maxHeartbeats 1000000 in
set_option maxRecDepth 20000 in
theorem sp_M_isLot_t {d : Nat} {x : am_C} {c : cS} {m : mS} {t : List am_C} {n : Nat} {v : Int} (hv : -2147483648 ≤ v ∧ v < 2147483648) (hK : mK m) (hr : 0 ≤ v ∧ v < mg_nT m) : am_W (d + 1) km_M_isLot 0 [some (.ref 50), some (.int (iI v))] [] (hC x c (hM m t)) n 0 0 (am_eq (some (.int (iI (1)))) (hC x c (hM m t)) n) := by
  obtain ⟨hT, hL⟩ := hK.nn
  refine ar_iload_n kd_M_isLot_0 rfl ?_
  refine ar_iconst kd_M_isLot_1 ?_
  refine ar_aload_n kd_M_isLot_2 rfl ?_
  refine ar_get (ci := 5) (k := 1) kd_M_isLot_3 rfl kw_620 (by decide) rfl rfl ?_
  refine ar_iconst kd_M_isLot_6 ?_
  refine az_isub kd_M_isLot_7 ?_
  refine az_calls (z := km_M_in) (As := [_, _, _]) kd_M_isLot_8 kw_692 kw_693 kw_6 kz_M_in rfl rfl rfl rfl (Nat.le_of_ble_eq_true rfl) (Nat.le_of_ble_eq_true rfl) rfl (am_deep (sp_M_in_t (d := 0) (by omega) (by omega) (by omega) (by omega)) (Nat.zero_le _)) ?_
  refine ar_zreturn kd_M_isLot_11 rfl rfl (Nat.le_of_ble_eq_true rfl) (Nat.le_of_ble_eq_true rfl) ?_
  exact ⟨rfl, rfl, rfl⟩
set_option maxHeartbeats 1000000 in
set_option maxRecDepth 20000 in
theorem sp_M_isLot_f {d : Nat} {x : am_C} {c : cS} {m : mS} {t : List am_C} {n : Nat} {v : Int} (hv : -2147483648 ≤ v ∧ v < 2147483648) (hK : mK m) (hr : ¬ (0 ≤ v ∧ v < mg_nT m)) : am_W (d + 1) km_M_isLot 0 [some (.ref 50), some (.int (iI v))] [] (hC x c (hM m t)) n 0 0 (am_eq (some (.int (iI (0)))) (hC x c (hM m t)) n) := by
  obtain ⟨hT, hL⟩ := hK.nn
  refine ar_iload_n kd_M_isLot_0 rfl ?_
  refine ar_iconst kd_M_isLot_1 ?_
  refine ar_aload_n kd_M_isLot_2 rfl ?_
  refine ar_get (ci := 5) (k := 1) kd_M_isLot_3 rfl kw_620 (by decide) rfl rfl ?_
  refine ar_iconst kd_M_isLot_6 ?_
  refine az_isub kd_M_isLot_7 ?_
  refine az_calls (z := km_M_in) (As := [_, _, _]) kd_M_isLot_8 kw_692 kw_693 kw_6 kz_M_in rfl rfl rfl rfl (Nat.le_of_ble_eq_true rfl) (Nat.le_of_ble_eq_true rfl) rfl (am_deep (sp_M_in_f (d := 0) (by omega) (by omega) (by omega) (by omega)) (Nat.zero_le _)) ?_
  refine ar_zreturn kd_M_isLot_11 rfl rfl (Nat.le_of_ble_eq_true rfl) (Nat.le_of_ble_eq_true rfl) ?_
  exact ⟨rfl, rfl, rfl⟩
set_option maxHeartbeats 1000000 in
set_option maxRecDepth 20000 in
theorem sp_M_isLine_t {d : Nat} {x : am_C} {c : cS} {m : mS} {t : List am_C} {n : Nat} {v : Int} (hv : -2147483648 ≤ v ∧ v < 2147483648) (hK : mK m) (hr : 0 ≤ v ∧ v < mg_nL m) : am_W (d + 1) km_M_isLine 0 [some (.ref 50), some (.int (iI v))] [] (hC x c (hM m t)) n 0 0 (am_eq (some (.int (iI (1)))) (hC x c (hM m t)) n) := by
  obtain ⟨hT, hL⟩ := hK.nn
  refine ar_iload_n kd_M_isLine_0 rfl ?_
  refine ar_iconst kd_M_isLine_1 ?_
  refine ar_aload_n kd_M_isLine_2 rfl ?_
  refine ar_get (ci := 5) (k := 6) kd_M_isLine_3 rfl kw_625 (by decide) rfl rfl ?_
  refine ar_iconst kd_M_isLine_6 ?_
  refine az_isub kd_M_isLine_7 ?_
  refine az_calls (z := km_M_in) (As := [_, _, _]) kd_M_isLine_8 kw_692 kw_693 kw_6 kz_M_in rfl rfl rfl rfl (Nat.le_of_ble_eq_true rfl) (Nat.le_of_ble_eq_true rfl) rfl (am_deep (sp_M_in_t (d := 0) (by omega) (by omega) (by omega) (by omega)) (Nat.zero_le _)) ?_
  refine ar_zreturn kd_M_isLine_11 rfl rfl (Nat.le_of_ble_eq_true rfl) (Nat.le_of_ble_eq_true rfl) ?_
  exact ⟨rfl, rfl, rfl⟩
set_option maxHeartbeats 1000000 in
set_option maxRecDepth 20000 in
theorem sp_M_isLine_f {d : Nat} {x : am_C} {c : cS} {m : mS} {t : List am_C} {n : Nat} {v : Int} (hv : -2147483648 ≤ v ∧ v < 2147483648) (hK : mK m) (hr : ¬ (0 ≤ v ∧ v < mg_nL m)) : am_W (d + 1) km_M_isLine 0 [some (.ref 50), some (.int (iI v))] [] (hC x c (hM m t)) n 0 0 (am_eq (some (.int (iI (0)))) (hC x c (hM m t)) n) := by
  obtain ⟨hT, hL⟩ := hK.nn
  refine ar_iload_n kd_M_isLine_0 rfl ?_
  refine ar_iconst kd_M_isLine_1 ?_
  refine ar_aload_n kd_M_isLine_2 rfl ?_
  refine ar_get (ci := 5) (k := 6) kd_M_isLine_3 rfl kw_625 (by decide) rfl rfl ?_
  refine ar_iconst kd_M_isLine_6 ?_
  refine az_isub kd_M_isLine_7 ?_
  refine az_calls (z := km_M_in) (As := [_, _, _]) kd_M_isLine_8 kw_692 kw_693 kw_6 kz_M_in rfl rfl rfl rfl (Nat.le_of_ble_eq_true rfl) (Nat.le_of_ble_eq_true rfl) rfl (am_deep (sp_M_in_f (d := 0) (by omega) (by omega) (by omega) (by omega)) (Nat.zero_le _)) ?_
  refine ar_zreturn kd_M_isLine_11 rfl rfl (Nat.le_of_ble_eq_true rfl) (Nat.le_of_ble_eq_true rfl) ?_
  exact ⟨rfl, rfl, rfl⟩
theorem hs_le {k : Nat} (h : k < 4) {v : Int} : (hs_least k ≤ v ∧ v ≤ hs_most k) ↔ (k = 0 ∧ 0 ≤ v ∧ v ≤ 9999) ∨ (k = 1 ∧ 1 ≤ v ∧ v ≤ 50) ∨ (k = 2 ∧ 1 ≤ v ∧ v ≤ 8) ∨ (k = 3 ∧ 0 ≤ v ∧ v ≤ 1) := by
  match k, h with
  | 0, _ => exact ⟨fun q => Or.inl ⟨rfl, q⟩, fun q => by rcases q with q | q | q | q <;> first | exact q.2 | omega⟩
  | 1, _ => exact ⟨fun q => Or.inr (Or.inl ⟨rfl, q⟩), fun q => by rcases q with q | q | q | q <;> first | exact q.2 | omega⟩
  | 2, _ => exact ⟨fun q => Or.inr (Or.inr (Or.inl ⟨rfl, q⟩)), fun q => by rcases q with q | q | q | q <;> first | exact q.2 | omega⟩
  | 3, _ => exact ⟨fun q => Or.inr (Or.inr (Or.inr ⟨rfl, q⟩)), fun q => by rcases q with q | q | q | q <;> first | exact q.2 | omega⟩
set_option maxHeartbeats 1000000 in
set_option maxRecDepth 20000 in
theorem sp_M_isRule_t {d : Nat} {h : am_H} {n k : Nat} {v : Int} (hv : -2147483648 ≤ v ∧ v < 2147483648) (hk : k < 4) (hr : hs_least k ≤ v ∧ v ≤ hs_most k) : am_W (d + 1) km_M_isRule 0 [some (.int (iI (k : Int))), some (.int (iI v))] [] h n 0 0 (am_eq (some (.int (iI 1))) h n) := by
  have hr2 := (hs_le hk).mp hr
  rcases (show k = 0 ∨ k = 1 ∨ k = 2 ∨ k = 3 by omega) with rfl | rfl | rfl | rfl
  · refine ar_iload_n kd_M_isRule_0 rfl ?_
    refine az_if_ne (tg := 13) kd_M_isRule_1 (by decide) (fun q1 => (by exfalso; omega)) (fun q1 => ?_)
    refine ar_iload_n kd_M_isRule_4 rfl ?_
    refine ar_iconst kd_M_isRule_5 ?_
    refine az_sipush kd_M_isRule_6 (by decide) ?_
    refine az_calls (z := km_M_in) (As := [_, _, _]) kd_M_isRule_9 kw_692 kw_693 kw_6 kz_M_in rfl rfl rfl rfl (Nat.le_of_ble_eq_true rfl) (Nat.le_of_ble_eq_true rfl) rfl (am_deep (sp_M_in_t (d := 0) (by omega) (by omega) (by omega) (by omega)) (Nat.zero_le _)) ?_
    refine ar_zreturn kd_M_isRule_12 rfl rfl (Nat.le_of_ble_eq_true rfl) (Nat.le_of_ble_eq_true rfl) ?_
    exact ⟨rfl, rfl, rfl⟩
  · refine ar_iload_n kd_M_isRule_0 rfl ?_
    refine az_if_ne (tg := 13) kd_M_isRule_1 (by decide) (fun q1 => ?_) (fun q1 => (by exfalso; omega))
    refine ar_iload_n kd_M_isRule_13 rfl ?_
    refine ar_iconst kd_M_isRule_14 ?_
    refine az_icmp_ne (tg := 26) kd_M_isRule_15 (by decide) (fun q2 => (by exfalso; omega)) (fun q2 => ?_)
    refine ar_iload_n kd_M_isRule_18 rfl ?_
    refine ar_iconst kd_M_isRule_19 ?_
    refine az_bipush kd_M_isRule_20 (by decide) ?_
    refine az_calls (z := km_M_in) (As := [_, _, _]) kd_M_isRule_22 kw_692 kw_693 kw_6 kz_M_in rfl rfl rfl rfl (Nat.le_of_ble_eq_true rfl) (Nat.le_of_ble_eq_true rfl) rfl (am_deep (sp_M_in_t (d := 0) (by omega) (by omega) (by omega) (by omega)) (Nat.zero_le _)) ?_
    refine ar_zreturn kd_M_isRule_25 rfl rfl (Nat.le_of_ble_eq_true rfl) (Nat.le_of_ble_eq_true rfl) ?_
    exact ⟨rfl, rfl, rfl⟩
  · refine ar_iload_n kd_M_isRule_0 rfl ?_
    refine az_if_ne (tg := 13) kd_M_isRule_1 (by decide) (fun q1 => ?_) (fun q1 => (by exfalso; omega))
    refine ar_iload_n kd_M_isRule_13 rfl ?_
    refine ar_iconst kd_M_isRule_14 ?_
    refine az_icmp_ne (tg := 26) kd_M_isRule_15 (by decide) (fun q2 => ?_) (fun q2 => (by exfalso; omega))
    refine ar_iload_n kd_M_isRule_26 rfl ?_
    refine ar_iconst kd_M_isRule_27 ?_
    refine az_icmp_ne (tg := 41) kd_M_isRule_28 (by decide) (fun q3 => (by exfalso; omega)) (fun q3 => ?_)
    refine ar_iload_n kd_M_isRule_31 rfl ?_
    refine ar_iconst kd_M_isRule_32 ?_
    refine az_bipush kd_M_isRule_33 (by decide) ?_
    refine az_calls (z := km_M_in) (As := [_, _, _]) kd_M_isRule_35 kw_692 kw_693 kw_6 kz_M_in rfl rfl rfl rfl (Nat.le_of_ble_eq_true rfl) (Nat.le_of_ble_eq_true rfl) rfl (am_deep (sp_M_in_t (d := 0) (by omega) (by omega) (by omega) (by omega)) (Nat.zero_le _)) ?_
    refine ar_goto (tg := 60) kd_M_isRule_38 (by decide) ?_
    refine ar_zreturn kd_M_isRule_60 rfl rfl (Nat.le_of_ble_eq_true rfl) (Nat.le_of_ble_eq_true rfl) ?_
    exact ⟨rfl, rfl, rfl⟩
  · refine ar_iload_n kd_M_isRule_0 rfl ?_
    refine az_if_ne (tg := 13) kd_M_isRule_1 (by decide) (fun q1 => ?_) (fun q1 => (by exfalso; omega))
    refine ar_iload_n kd_M_isRule_13 rfl ?_
    refine ar_iconst kd_M_isRule_14 ?_
    refine az_icmp_ne (tg := 26) kd_M_isRule_15 (by decide) (fun q2 => ?_) (fun q2 => (by exfalso; omega))
    refine ar_iload_n kd_M_isRule_26 rfl ?_
    refine ar_iconst kd_M_isRule_27 ?_
    refine az_icmp_ne (tg := 41) kd_M_isRule_28 (by decide) (fun q3 => ?_) (fun q3 => (by exfalso; omega))
    refine ar_iload_n kd_M_isRule_41 rfl ?_
    refine ar_iconst kd_M_isRule_42 ?_
    refine az_icmp_ne (tg := 59) kd_M_isRule_43 (by decide) (fun q4 => (by exfalso; omega)) (fun q4 => ?_)
    refine ar_iload_n kd_M_isRule_46 rfl ?_
    refine ar_iconst kd_M_isRule_47 ?_
    refine ar_iconst kd_M_isRule_48 ?_
    refine az_calls (z := km_M_in) (As := [_, _, _]) kd_M_isRule_49 kw_692 kw_693 kw_6 kz_M_in rfl rfl rfl rfl (Nat.le_of_ble_eq_true rfl) (Nat.le_of_ble_eq_true rfl) rfl (am_deep (sp_M_in_t (d := 0) (by omega) (by omega) (by omega) (by omega)) (Nat.zero_le _)) ?_
    refine az_if_eq (tg := 59) kd_M_isRule_52 (by decide) (fun q5 => (by exfalso; omega)) (fun q5 => ?_)
    refine ar_iconst kd_M_isRule_55 ?_
    refine ar_goto (tg := 60) kd_M_isRule_56 (by decide) ?_
    refine ar_zreturn kd_M_isRule_60 rfl rfl (Nat.le_of_ble_eq_true rfl) (Nat.le_of_ble_eq_true rfl) ?_
    exact ⟨rfl, rfl, rfl⟩
set_option maxHeartbeats 1000000 in
set_option maxRecDepth 20000 in
theorem sp_M_isRule_f {d : Nat} {h : am_H} {n : Nat} {k v : Int} (hv : -2147483648 ≤ v ∧ v < 2147483648) (hk : -2147483648 ≤ k ∧ k < 2147483648) (hr : ¬ (0 ≤ k ∧ k < 4 ∧ hs_least k.toNat ≤ v ∧ v ≤ hs_most k.toNat)) : am_W (d + 1) km_M_isRule 0 [some (.int (iI k)), some (.int (iI v))] [] h n 0 0 (am_eq (some (.int (iI 0))) h n) := by
  rcases (show k = 0 ∨ k = 1 ∨ k = 2 ∨ k = 3 ∨ ¬ (0 ≤ k ∧ k < 4) by omega) with rfl | rfl | rfl | rfl | hk
  · have hr2 : ¬ (hs_least 0 ≤ v ∧ v ≤ hs_most 0) := fun q => hr ⟨by omega, by omega, q⟩
    rw [hs_le (by decide)] at hr2
    refine ar_iload_n kd_M_isRule_0 rfl ?_
    refine az_if_ne (tg := 13) kd_M_isRule_1 (by decide) (fun q1 => (by exfalso; omega)) (fun q1 => ?_)
    refine ar_iload_n kd_M_isRule_4 rfl ?_
    refine ar_iconst kd_M_isRule_5 ?_
    refine az_sipush kd_M_isRule_6 (by decide) ?_
    refine az_calls (z := km_M_in) (As := [_, _, _]) kd_M_isRule_9 kw_692 kw_693 kw_6 kz_M_in rfl rfl rfl rfl (Nat.le_of_ble_eq_true rfl) (Nat.le_of_ble_eq_true rfl) rfl (am_deep (sp_M_in_f (d := 0) (by omega) (by omega) (by omega) (by omega)) (Nat.zero_le _)) ?_
    refine ar_zreturn kd_M_isRule_12 rfl rfl (Nat.le_of_ble_eq_true rfl) (Nat.le_of_ble_eq_true rfl) ?_
    exact ⟨rfl, rfl, rfl⟩
  · have hr2 : ¬ (hs_least 1 ≤ v ∧ v ≤ hs_most 1) := fun q => hr ⟨by omega, by omega, q⟩
    rw [hs_le (by decide)] at hr2
    refine ar_iload_n kd_M_isRule_0 rfl ?_
    refine az_if_ne (tg := 13) kd_M_isRule_1 (by decide) (fun q1 => ?_) (fun q1 => (by exfalso; omega))
    refine ar_iload_n kd_M_isRule_13 rfl ?_
    refine ar_iconst kd_M_isRule_14 ?_
    refine az_icmp_ne (tg := 26) kd_M_isRule_15 (by decide) (fun q2 => (by exfalso; omega)) (fun q2 => ?_)
    refine ar_iload_n kd_M_isRule_18 rfl ?_
    refine ar_iconst kd_M_isRule_19 ?_
    refine az_bipush kd_M_isRule_20 (by decide) ?_
    refine az_calls (z := km_M_in) (As := [_, _, _]) kd_M_isRule_22 kw_692 kw_693 kw_6 kz_M_in rfl rfl rfl rfl (Nat.le_of_ble_eq_true rfl) (Nat.le_of_ble_eq_true rfl) rfl (am_deep (sp_M_in_f (d := 0) (by omega) (by omega) (by omega) (by omega)) (Nat.zero_le _)) ?_
    refine ar_zreturn kd_M_isRule_25 rfl rfl (Nat.le_of_ble_eq_true rfl) (Nat.le_of_ble_eq_true rfl) ?_
    exact ⟨rfl, rfl, rfl⟩
  · have hr2 : ¬ (hs_least 2 ≤ v ∧ v ≤ hs_most 2) := fun q => hr ⟨by omega, by omega, q⟩
    rw [hs_le (by decide)] at hr2
    refine ar_iload_n kd_M_isRule_0 rfl ?_
    refine az_if_ne (tg := 13) kd_M_isRule_1 (by decide) (fun q1 => ?_) (fun q1 => (by exfalso; omega))
    refine ar_iload_n kd_M_isRule_13 rfl ?_
    refine ar_iconst kd_M_isRule_14 ?_
    refine az_icmp_ne (tg := 26) kd_M_isRule_15 (by decide) (fun q2 => ?_) (fun q2 => (by exfalso; omega))
    refine ar_iload_n kd_M_isRule_26 rfl ?_
    refine ar_iconst kd_M_isRule_27 ?_
    refine az_icmp_ne (tg := 41) kd_M_isRule_28 (by decide) (fun q3 => (by exfalso; omega)) (fun q3 => ?_)
    refine ar_iload_n kd_M_isRule_31 rfl ?_
    refine ar_iconst kd_M_isRule_32 ?_
    refine az_bipush kd_M_isRule_33 (by decide) ?_
    refine az_calls (z := km_M_in) (As := [_, _, _]) kd_M_isRule_35 kw_692 kw_693 kw_6 kz_M_in rfl rfl rfl rfl (Nat.le_of_ble_eq_true rfl) (Nat.le_of_ble_eq_true rfl) rfl (am_deep (sp_M_in_f (d := 0) (by omega) (by omega) (by omega) (by omega)) (Nat.zero_le _)) ?_
    refine ar_goto (tg := 60) kd_M_isRule_38 (by decide) ?_
    refine ar_zreturn kd_M_isRule_60 rfl rfl (Nat.le_of_ble_eq_true rfl) (Nat.le_of_ble_eq_true rfl) ?_
    exact ⟨rfl, rfl, rfl⟩
  · have hr2 : ¬ (hs_least 3 ≤ v ∧ v ≤ hs_most 3) := fun q => hr ⟨by omega, by omega, q⟩
    rw [hs_le (by decide)] at hr2
    refine ar_iload_n kd_M_isRule_0 rfl ?_
    refine az_if_ne (tg := 13) kd_M_isRule_1 (by decide) (fun q1 => ?_) (fun q1 => (by exfalso; omega))
    refine ar_iload_n kd_M_isRule_13 rfl ?_
    refine ar_iconst kd_M_isRule_14 ?_
    refine az_icmp_ne (tg := 26) kd_M_isRule_15 (by decide) (fun q2 => ?_) (fun q2 => (by exfalso; omega))
    refine ar_iload_n kd_M_isRule_26 rfl ?_
    refine ar_iconst kd_M_isRule_27 ?_
    refine az_icmp_ne (tg := 41) kd_M_isRule_28 (by decide) (fun q3 => ?_) (fun q3 => (by exfalso; omega))
    refine ar_iload_n kd_M_isRule_41 rfl ?_
    refine ar_iconst kd_M_isRule_42 ?_
    refine az_icmp_ne (tg := 59) kd_M_isRule_43 (by decide) (fun q4 => (by exfalso; omega)) (fun q4 => ?_)
    refine ar_iload_n kd_M_isRule_46 rfl ?_
    refine ar_iconst kd_M_isRule_47 ?_
    refine ar_iconst kd_M_isRule_48 ?_
    refine az_calls (z := km_M_in) (As := [_, _, _]) kd_M_isRule_49 kw_692 kw_693 kw_6 kz_M_in rfl rfl rfl rfl (Nat.le_of_ble_eq_true rfl) (Nat.le_of_ble_eq_true rfl) rfl (am_deep (sp_M_in_f (d := 0) (by omega) (by omega) (by omega) (by omega)) (Nat.zero_le _)) ?_
    refine az_if_eq (tg := 59) kd_M_isRule_52 (by decide) (fun q5 => ?_) (fun q5 => (by exfalso; omega))
    refine ar_iconst kd_M_isRule_59 ?_
    refine ar_zreturn kd_M_isRule_60 rfl rfl (Nat.le_of_ble_eq_true rfl) (Nat.le_of_ble_eq_true rfl) ?_
    exact ⟨rfl, rfl, rfl⟩
  · refine ar_iload_n kd_M_isRule_0 rfl ?_
    refine az_if_ne (tg := 13) kd_M_isRule_1 (by decide) (fun q1 => ?_) (fun q1 => (by exfalso; omega))
    refine ar_iload_n kd_M_isRule_13 rfl ?_
    refine ar_iconst kd_M_isRule_14 ?_
    refine az_icmp_ne (tg := 26) kd_M_isRule_15 (by decide) (fun q2 => ?_) (fun q2 => (by exfalso; omega))
    refine ar_iload_n kd_M_isRule_26 rfl ?_
    refine ar_iconst kd_M_isRule_27 ?_
    refine az_icmp_ne (tg := 41) kd_M_isRule_28 (by decide) (fun q3 => ?_) (fun q3 => (by exfalso; omega))
    refine ar_iload_n kd_M_isRule_41 rfl ?_
    refine ar_iconst kd_M_isRule_42 ?_
    refine az_icmp_ne (tg := 59) kd_M_isRule_43 (by decide) (fun q4 => ?_) (fun q4 => (by exfalso; omega))
    refine ar_iconst kd_M_isRule_59 ?_
    refine ar_zreturn kd_M_isRule_60 rfl rfl (Nat.le_of_ble_eq_true rfl) (Nat.le_of_ble_eq_true rfl) ?_
    exact ⟨rfl, rfl, rfl⟩
abbrev mk_p1 (m : mS) (k l : Nat) : Prop := mg_gd m k = mg_wi m l
abbrev mk_p2 (m : mS) (k l : Nat) : Prop := mk_p1 m k l ∧ ¬ mg_un m k < mg_rl m (4 * l)
abbrev mk_all (m : mS) (k l : Nat) : Prop := mk_p1 m k l ∧ ¬ mg_un m k < mg_rl m (4 * l) ∧ mg_ba m (8 * l + k) = iI 0
def mk_ps (m : mS) (k l i : Nat) : Int := if i = 1 then zb (mk_p1 m k l) else if i = 2 then zb (mk_p2 m k l) else zb (mk_all m k l)
set_option maxHeartbeats 1000000 in
set_option maxRecDepth 20000 in
theorem sp_M_passes1 {d : Nat} {x : am_C} {c : cS} {m : mS} {t : List am_C} {n : Nat} {k l : Nat} (hk : k < 8) (hl : l < 6) (hK : mK m) : am_W d km_M_passes 0 [some (.ref 50), some (.int (iI k)), some (.int (iI l)), some (.int (iI 1))] [] (hC x c (hM m t)) n 0 0 (am_eq (some (.int (iI (zb (mk_p1 m k l))))) (hC x c (hM m t)) n) := by
  have h1 := hK.lot hk
  have h2 := hK.line hl
  refine ar_iload_n kd_M_passes_0 rfl ?_
  refine az_if_le (tg := 21) kd_M_passes_1 (by decide) (fun q1 => (by exfalso; omega)) (fun q1 => ?_)
  refine ar_aload_n kd_M_passes_4 rfl ?_
  refine ar_get (ci := 5) (k := 3) kd_M_passes_5 rfl kw_622 (by decide) rfl rfl ?_
  refine ar_iload_n kd_M_passes_8 rfl ?_
  refine az_iald kd_M_passes_9 rfl (k := k) (by omega) (by omega) ?_
  refine ar_aload_n kd_M_passes_10 rfl ?_
  refine ar_get (ci := 5) (k := 7) kd_M_passes_11 rfl kw_626 (by decide) rfl rfl ?_
  refine ar_iload_n kd_M_passes_14 rfl ?_
  refine az_iald kd_M_passes_15 rfl (k := l) (by omega) (by omega) ?_
  refine az_icmp_eq (tg := 21) kd_M_passes_16 (by decide) (fun q1 => ?_) (fun q1 => ?_)
  · refine ar_iload_n kd_M_passes_21 rfl ?_
    refine ar_iconst kd_M_passes_22 ?_
    refine az_icmp_le (tg := 45) kd_M_passes_23 (by decide) (fun q3 => ?_) (fun q3 => (by exfalso; omega))
    refine ar_iload_n kd_M_passes_45 rfl ?_
    refine ar_iconst kd_M_passes_46 ?_
    refine az_icmp_lt (tg := 64) kd_M_passes_47 (by decide) (fun q4 => ?_) (fun q4 => (by exfalso; omega))
    have e1 : zb (mk_p1 m k l) = 1 := if_pos (by omega)
    refine ar_iconst kd_M_passes_64 ?_
    refine ar_goto (tg := 69) kd_M_passes_65 (by decide) ?_
    refine ar_zreturn kd_M_passes_69 rfl rfl (Nat.le_of_ble_eq_true rfl) (Nat.le_of_ble_eq_true rfl) ?_
    exact ⟨by rw [e1], rfl, rfl⟩
  · have e1 : zb (mk_p1 m k l) = 0 := if_neg (by omega)
    refine ar_iconst kd_M_passes_19 ?_
    refine ar_zreturn kd_M_passes_20 rfl rfl (Nat.le_of_ble_eq_true rfl) (Nat.le_of_ble_eq_true rfl) ?_
    exact ⟨by rw [e1], rfl, rfl⟩
set_option maxHeartbeats 1000000 in
set_option maxRecDepth 20000 in
theorem sp_M_passes2 {d : Nat} {x : am_C} {c : cS} {m : mS} {t : List am_C} {n : Nat} {k l : Nat} (hk : k < 8) (hl : l < 6) (hK : mK m) : am_W d km_M_passes 0 [some (.ref 50), some (.int (iI k)), some (.int (iI l)), some (.int (iI 2))] [] (hC x c (hM m t)) n 0 0 (am_eq (some (.int (iI (zb (mk_p2 m k l))))) (hC x c (hM m t)) n) := by
  have h1 := hK.lot hk
  have h2 := hK.line hl
  refine ar_iload_n kd_M_passes_0 rfl ?_
  refine az_if_le (tg := 21) kd_M_passes_1 (by decide) (fun q1 => (by exfalso; omega)) (fun q1 => ?_)
  refine ar_aload_n kd_M_passes_4 rfl ?_
  refine ar_get (ci := 5) (k := 3) kd_M_passes_5 rfl kw_622 (by decide) rfl rfl ?_
  refine ar_iload_n kd_M_passes_8 rfl ?_
  refine az_iald kd_M_passes_9 rfl (k := k) (by omega) (by omega) ?_
  refine ar_aload_n kd_M_passes_10 rfl ?_
  refine ar_get (ci := 5) (k := 7) kd_M_passes_11 rfl kw_626 (by decide) rfl rfl ?_
  refine ar_iload_n kd_M_passes_14 rfl ?_
  refine az_iald kd_M_passes_15 rfl (k := l) (by omega) (by omega) ?_
  refine az_icmp_eq (tg := 21) kd_M_passes_16 (by decide) (fun q1 => ?_) (fun q1 => ?_)
  · refine ar_iload_n kd_M_passes_21 rfl ?_
    refine ar_iconst kd_M_passes_22 ?_
    refine az_icmp_le (tg := 45) kd_M_passes_23 (by decide) (fun q3 => (by exfalso; omega)) (fun q3 => ?_)
    refine ar_aload_n kd_M_passes_26 rfl ?_
    refine ar_get (ci := 5) (k := 5) kd_M_passes_27 rfl kw_624 (by decide) rfl rfl ?_
    refine ar_iload_n kd_M_passes_30 rfl ?_
    refine az_iald kd_M_passes_31 rfl (k := k) (by omega) (by omega) ?_
    refine ar_aload_n kd_M_passes_32 rfl ?_
    refine ar_get (ci := 5) (k := 9) kd_M_passes_33 rfl kw_628 (by decide) rfl rfl ?_
    refine ar_iconst kd_M_passes_36 ?_
    refine ar_iload_n kd_M_passes_37 rfl ?_
    refine az_imul kd_M_passes_38 ?_
    refine az_iald kd_M_passes_39 rfl (k := 4 * l) (by omega) (by omega) ?_
    refine az_icmp_ge (tg := 45) kd_M_passes_40 (by decide) (fun q2 => ?_) (fun q2 => ?_)
    · refine ar_iload_n kd_M_passes_45 rfl ?_
      refine ar_iconst kd_M_passes_46 ?_
      refine az_icmp_lt (tg := 64) kd_M_passes_47 (by decide) (fun q5 => ?_) (fun q5 => (by exfalso; omega))
      have e1 : zb (mk_p2 m k l) = 1 := if_pos (by omega)
      refine ar_iconst kd_M_passes_64 ?_
      refine ar_goto (tg := 69) kd_M_passes_65 (by decide) ?_
      refine ar_zreturn kd_M_passes_69 rfl rfl (Nat.le_of_ble_eq_true rfl) (Nat.le_of_ble_eq_true rfl) ?_
      exact ⟨by rw [e1], rfl, rfl⟩
    · have e1 : zb (mk_p2 m k l) = 0 := if_neg (by omega)
      refine ar_iconst kd_M_passes_43 ?_
      refine ar_zreturn kd_M_passes_44 rfl rfl (Nat.le_of_ble_eq_true rfl) (Nat.le_of_ble_eq_true rfl) ?_
      exact ⟨by rw [e1], rfl, rfl⟩
  · have e1 : zb (mk_p2 m k l) = 0 := if_neg (by omega)
    refine ar_iconst kd_M_passes_19 ?_
    refine ar_zreturn kd_M_passes_20 rfl rfl (Nat.le_of_ble_eq_true rfl) (Nat.le_of_ble_eq_true rfl) ?_
    exact ⟨by rw [e1], rfl, rfl⟩
set_option maxHeartbeats 1000000 in
set_option maxRecDepth 20000 in
theorem sp_M_passes3 {d : Nat} {x : am_C} {c : cS} {m : mS} {t : List am_C} {n : Nat} {k l : Nat} (hk : k < 8) (hl : l < 6) (hK : mK m) : am_W d km_M_passes 0 [some (.ref 50), some (.int (iI k)), some (.int (iI l)), some (.int (iI 3))] [] (hC x c (hM m t)) n 0 0 (am_eq (some (.int (iI (zb (mk_all m k l))))) (hC x c (hM m t)) n) := by
  have h1 := hK.lot hk
  have h2 := hK.line hl
  refine ar_iload_n kd_M_passes_0 rfl ?_
  refine az_if_le (tg := 21) kd_M_passes_1 (by decide) (fun q1 => (by exfalso; omega)) (fun q1 => ?_)
  refine ar_aload_n kd_M_passes_4 rfl ?_
  refine ar_get (ci := 5) (k := 3) kd_M_passes_5 rfl kw_622 (by decide) rfl rfl ?_
  refine ar_iload_n kd_M_passes_8 rfl ?_
  refine az_iald kd_M_passes_9 rfl (k := k) (by omega) (by omega) ?_
  refine ar_aload_n kd_M_passes_10 rfl ?_
  refine ar_get (ci := 5) (k := 7) kd_M_passes_11 rfl kw_626 (by decide) rfl rfl ?_
  refine ar_iload_n kd_M_passes_14 rfl ?_
  refine az_iald kd_M_passes_15 rfl (k := l) (by omega) (by omega) ?_
  refine az_icmp_eq (tg := 21) kd_M_passes_16 (by decide) (fun q1 => ?_) (fun q1 => ?_)
  · refine ar_iload_n kd_M_passes_21 rfl ?_
    refine ar_iconst kd_M_passes_22 ?_
    refine az_icmp_le (tg := 45) kd_M_passes_23 (by decide) (fun q3 => (by exfalso; omega)) (fun q3 => ?_)
    refine ar_aload_n kd_M_passes_26 rfl ?_
    refine ar_get (ci := 5) (k := 5) kd_M_passes_27 rfl kw_624 (by decide) rfl rfl ?_
    refine ar_iload_n kd_M_passes_30 rfl ?_
    refine az_iald kd_M_passes_31 rfl (k := k) (by omega) (by omega) ?_
    refine ar_aload_n kd_M_passes_32 rfl ?_
    refine ar_get (ci := 5) (k := 9) kd_M_passes_33 rfl kw_628 (by decide) rfl rfl ?_
    refine ar_iconst kd_M_passes_36 ?_
    refine ar_iload_n kd_M_passes_37 rfl ?_
    refine az_imul kd_M_passes_38 ?_
    refine az_iald kd_M_passes_39 rfl (k := 4 * l) (by omega) (by omega) ?_
    refine az_icmp_ge (tg := 45) kd_M_passes_40 (by decide) (fun q2 => ?_) (fun q2 => ?_)
    · refine ar_iload_n kd_M_passes_45 rfl ?_
      refine ar_iconst kd_M_passes_46 ?_
      refine az_icmp_lt (tg := 64) kd_M_passes_47 (by decide) (fun q5 => (by exfalso; omega)) (fun q5 => ?_)
      refine ar_aload_n kd_M_passes_50 rfl ?_
      refine ar_get (ci := 5) (k := 11) kd_M_passes_51 rfl kw_630 (by decide) rfl rfl ?_
      refine az_bipush kd_M_passes_54 (by decide) ?_
      refine ar_iload_n kd_M_passes_56 rfl ?_
      refine az_imul kd_M_passes_57 ?_
      refine ar_iload_n kd_M_passes_58 rfl ?_
      refine az_iadd kd_M_passes_59 ?_
      refine az_zald kd_M_passes_60 rfl (k := 8 * l + k) (by omega) (by omega) ?_
      refine ar_if_ne (tg := 68) kd_M_passes_61 (by decide) (fun q3 => ?_) (fun q3 => ?_)
      · have e1 : zb (mk_all m k l) = 0 := if_neg (fun q => q3 q.2.2)
        refine ar_iconst kd_M_passes_68 ?_
        refine ar_zreturn kd_M_passes_69 rfl rfl (Nat.le_of_ble_eq_true rfl) (Nat.le_of_ble_eq_true rfl) ?_
        exact ⟨by rw [e1], rfl, rfl⟩
      · have e1 : zb (mk_all m k l) = 1 := if_pos ⟨q1, by omega, q3⟩
        refine ar_iconst kd_M_passes_64 ?_
        refine ar_goto (tg := 69) kd_M_passes_65 (by decide) ?_
        refine ar_zreturn kd_M_passes_69 rfl rfl (Nat.le_of_ble_eq_true rfl) (Nat.le_of_ble_eq_true rfl) ?_
        exact ⟨by rw [e1], rfl, rfl⟩
    · have e1 : zb (mk_all m k l) = 0 := if_neg (fun q => q.2.1 (by omega))
      refine ar_iconst kd_M_passes_43 ?_
      refine ar_zreturn kd_M_passes_44 rfl rfl (Nat.le_of_ble_eq_true rfl) (Nat.le_of_ble_eq_true rfl) ?_
      exact ⟨by rw [e1], rfl, rfl⟩
  · have e1 : zb (mk_all m k l) = 0 := if_neg (fun q => q1 q.1)
    refine ar_iconst kd_M_passes_19 ?_
    refine ar_zreturn kd_M_passes_20 rfl rfl (Nat.le_of_ble_eq_true rfl) (Nat.le_of_ble_eq_true rfl) ?_
    exact ⟨by rw [e1], rfl, rfl⟩
set_option maxHeartbeats 1000000 in
set_option maxRecDepth 20000 in
theorem sp_M_isAllowed {d : Nat} {x : am_C} {c : cS} {m : mS} {t : List am_C} {n : Nat} {k l : Nat} (hk : k < 8) (hl : l < 6) (hK : mK m) : am_W (d + 1) km_M_isAllowed 0 [some (.ref 50), some (.int (iI k)), some (.int (iI l))] [] (hC x c (hM m t)) n 0 0 (am_eq (some (.int (iI (zb (mk_all m k l))))) (hC x c (hM m t)) n) := by
  refine ar_aload_n kd_M_isAllowed_0 rfl ?_
  refine ar_iload_n kd_M_isAllowed_1 rfl ?_
  refine ar_iload_n kd_M_isAllowed_2 rfl ?_
  refine ar_iconst kd_M_isAllowed_3 ?_
  refine az_callv (z := km_M_passes) (As := [_, _, _]) (ci := 5) kd_M_isAllowed_4 kw_726 kw_728 rfl ks_M_passes kz_M_passes rfl rfl rfl rfl rfl (Nat.le_of_ble_eq_true rfl) (Nat.le_of_ble_eq_true rfl) rfl (sp_M_passes3 hk hl hK) ?_
  refine ar_zreturn kd_M_isAllowed_7 rfl (by unfold zb; split <;> rfl) (Nat.le_of_ble_eq_true rfl) (Nat.le_of_ble_eq_true rfl) ?_
  exact ⟨rfl, rfl, rfl⟩
def mk_cost (m : mS) (k l : Nat) : Int := if mg_tl m (8 * l + k) = -1 then mg_pl m k else mg_tl m (8 * l + k)
set_option maxHeartbeats 1000000 in
set_option maxRecDepth 20000 in
theorem sp_M_costOf {d : Nat} {x : am_C} {c : cS} {m : mS} {t : List am_C} {n : Nat} {k l : Nat} (hk : k < 8) (hl : l < 6) (hK : mK m) : am_W d km_M_costOf 0 [some (.ref 50), some (.int (iI k)), some (.int (iI l))] [] (hC x c (hM m t)) n 0 0 (am_eq (some (.int (iI (mk_cost m k l)))) (hC x c (hM m t)) n) := by
  have ht := hK.told hl hk
  refine ar_aload_n kd_M_costOf_0 rfl ?_
  refine ar_get (ci := 5) (k := 10) kd_M_costOf_1 rfl kw_629 (by decide) rfl rfl ?_
  refine az_bipush kd_M_costOf_4 (by decide) ?_
  refine ar_iload_n kd_M_costOf_6 rfl ?_
  refine az_imul kd_M_costOf_7 ?_
  refine ar_iload_n kd_M_costOf_8 rfl ?_
  refine az_iadd kd_M_costOf_9 ?_
  refine az_iald kd_M_costOf_10 rfl (k := 8 * l + k) (by omega) (by omega) ?_
  refine ar_iconst kd_M_costOf_11 ?_
  refine az_icmp_ne (tg := 24) kd_M_costOf_12 (by decide) (fun q1 => ?_) (fun q1 => ?_)
  · have e1 : mk_cost m k l = mg_tl m (8 * l + k) := if_neg q1
    refine ar_aload_n kd_M_costOf_24 rfl ?_
    refine ar_get (ci := 5) (k := 10) kd_M_costOf_25 rfl kw_629 (by decide) rfl rfl ?_
    refine az_bipush kd_M_costOf_28 (by decide) ?_
    refine ar_iload_n kd_M_costOf_30 rfl ?_
    refine az_imul kd_M_costOf_31 ?_
    refine ar_iload_n kd_M_costOf_32 rfl ?_
    refine az_iadd kd_M_costOf_33 ?_
    refine az_iald kd_M_costOf_34 rfl (k := 8 * l + k) (by omega) (by omega) ?_
    refine ar_ireturn kd_M_costOf_35 rfl (Nat.le_of_ble_eq_true rfl) (Nat.le_of_ble_eq_true rfl) ?_
    exact ⟨by rw [e1], rfl, rfl⟩
  · have e1 : mk_cost m k l = mg_pl m k := if_pos q1
    refine ar_aload_n kd_M_costOf_15 rfl ?_
    refine ar_get (ci := 5) (k := 2) kd_M_costOf_16 rfl kw_621 (by decide) rfl rfl ?_
    refine ar_iload_n kd_M_costOf_19 rfl ?_
    refine az_iald kd_M_costOf_20 rfl (k := k) (by omega) (by omega) ?_
    refine ar_goto (tg := 35) kd_M_costOf_21 (by decide) ?_
    refine ar_ireturn kd_M_costOf_35 rfl (Nat.le_of_ble_eq_true rfl) (Nat.le_of_ble_eq_true rfl) ?_
    exact ⟨by rw [e1], rfl, rfl⟩
abbrev mk_bf (m : mS) (a b : Nat) : Prop := mg_un m a < mg_un m b ∨ mg_un m a = mg_un m b ∧ (mg_pl m a < mg_pl m b ∨ mg_pl m a = mg_pl m b ∧ a < b)
set_option maxHeartbeats 1000000 in
set_option maxRecDepth 20000 in
theorem sp_M_isBefore {d : Nat} {x : am_C} {c : cS} {m : mS} {t : List am_C} {n : Nat} {k l : Nat} (hk : k < 8) (hl : l < 8) (hK : mK m) : am_W d km_M_isBefore 0 [some (.ref 50), some (.int (iI k)), some (.int (iI l))] [] (hC x c (hM m t)) n 0 0 (am_eq (some (.int (iI (zb (mk_bf m k l))))) (hC x c (hM m t)) n) := by
  have h1 := hK.lot hk
  have h2 := hK.lot hl
  refine ar_aload_n kd_M_isBefore_0 rfl ?_
  refine ar_get (ci := 5) (k := 5) kd_M_isBefore_1 rfl kw_624 (by decide) rfl rfl ?_
  refine ar_iload_n kd_M_isBefore_4 rfl ?_
  refine az_iald kd_M_isBefore_5 rfl (k := k) (by omega) (by omega) ?_
  refine ar_aload_n kd_M_isBefore_6 rfl ?_
  refine ar_get (ci := 5) (k := 5) kd_M_isBefore_7 rfl kw_624 (by decide) rfl rfl ?_
  refine ar_iload_n kd_M_isBefore_10 rfl ?_
  refine az_iald kd_M_isBefore_11 rfl (k := l) (by omega) (by omega) ?_
  refine az_icmp_eq (tg := 36) kd_M_isBefore_12 (by decide) (fun q1 => ?_) (fun q1 => ?_)
  · refine ar_aload_n kd_M_isBefore_36 rfl ?_
    refine ar_get (ci := 5) (k := 2) kd_M_isBefore_37 rfl kw_621 (by decide) rfl rfl ?_
    refine ar_iload_n kd_M_isBefore_40 rfl ?_
    refine az_iald kd_M_isBefore_41 rfl (k := k) (by omega) (by omega) ?_
    refine ar_aload_n kd_M_isBefore_42 rfl ?_
    refine ar_get (ci := 5) (k := 2) kd_M_isBefore_43 rfl kw_621 (by decide) rfl rfl ?_
    refine ar_iload_n kd_M_isBefore_46 rfl ?_
    refine az_iald kd_M_isBefore_47 rfl (k := l) (by omega) (by omega) ?_
    refine az_icmp_eq (tg := 74) kd_M_isBefore_48 (by decide) (fun q2 => ?_) (fun q2 => ?_)
    · refine ar_iload_n kd_M_isBefore_74 rfl ?_
      refine ar_iload_n kd_M_isBefore_75 rfl ?_
      refine az_icmp_ge (tg := 83) kd_M_isBefore_76 (by decide) (fun q3 => ?_) (fun q3 => ?_)
      · have e1 : zb (mk_bf m k l) = 0 := if_neg (by omega)
        refine ar_iconst kd_M_isBefore_83 ?_
        refine ar_zreturn kd_M_isBefore_84 rfl rfl (Nat.le_of_ble_eq_true rfl) (Nat.le_of_ble_eq_true rfl) ?_
        exact ⟨by rw [e1], rfl, rfl⟩
      · have e1 : zb (mk_bf m k l) = 1 := if_pos (by omega)
        refine ar_iconst kd_M_isBefore_79 ?_
        refine ar_goto (tg := 84) kd_M_isBefore_80 (by decide) ?_
        refine ar_zreturn kd_M_isBefore_84 rfl rfl (Nat.le_of_ble_eq_true rfl) (Nat.le_of_ble_eq_true rfl) ?_
        exact ⟨by rw [e1], rfl, rfl⟩
    · refine ar_aload_n kd_M_isBefore_51 rfl ?_
      refine ar_get (ci := 5) (k := 2) kd_M_isBefore_52 rfl kw_621 (by decide) rfl rfl ?_
      refine ar_iload_n kd_M_isBefore_55 rfl ?_
      refine az_iald kd_M_isBefore_56 rfl (k := k) (by omega) (by omega) ?_
      refine ar_aload_n kd_M_isBefore_57 rfl ?_
      refine ar_get (ci := 5) (k := 2) kd_M_isBefore_58 rfl kw_621 (by decide) rfl rfl ?_
      refine ar_iload_n kd_M_isBefore_61 rfl ?_
      refine az_iald kd_M_isBefore_62 rfl (k := l) (by omega) (by omega) ?_
      refine az_icmp_ge (tg := 70) kd_M_isBefore_63 (by decide) (fun q4 => ?_) (fun q4 => ?_)
      · have e1 : zb (mk_bf m k l) = 0 := if_neg (by omega)
        refine ar_iconst kd_M_isBefore_70 ?_
        refine ar_goto (tg := 84) kd_M_isBefore_71 (by decide) ?_
        refine ar_zreturn kd_M_isBefore_84 rfl rfl (Nat.le_of_ble_eq_true rfl) (Nat.le_of_ble_eq_true rfl) ?_
        exact ⟨by rw [e1], rfl, rfl⟩
      · have e1 : zb (mk_bf m k l) = 1 := if_pos (by omega)
        refine ar_iconst kd_M_isBefore_66 ?_
        refine ar_goto (tg := 84) kd_M_isBefore_67 (by decide) ?_
        refine ar_zreturn kd_M_isBefore_84 rfl rfl (Nat.le_of_ble_eq_true rfl) (Nat.le_of_ble_eq_true rfl) ?_
        exact ⟨by rw [e1], rfl, rfl⟩
  · refine ar_aload_n kd_M_isBefore_15 rfl ?_
    refine ar_get (ci := 5) (k := 5) kd_M_isBefore_16 rfl kw_624 (by decide) rfl rfl ?_
    refine ar_iload_n kd_M_isBefore_19 rfl ?_
    refine az_iald kd_M_isBefore_20 rfl (k := k) (by omega) (by omega) ?_
    refine ar_aload_n kd_M_isBefore_21 rfl ?_
    refine ar_get (ci := 5) (k := 5) kd_M_isBefore_22 rfl kw_624 (by decide) rfl rfl ?_
    refine ar_iload_n kd_M_isBefore_25 rfl ?_
    refine az_iald kd_M_isBefore_26 rfl (k := l) (by omega) (by omega) ?_
    refine az_icmp_ge (tg := 34) kd_M_isBefore_27 (by decide) (fun q5 => ?_) (fun q5 => ?_)
    · have e1 : zb (mk_bf m k l) = 0 := if_neg (by omega)
      refine ar_iconst kd_M_isBefore_34 ?_
      refine ar_zreturn kd_M_isBefore_35 rfl rfl (Nat.le_of_ble_eq_true rfl) (Nat.le_of_ble_eq_true rfl) ?_
      exact ⟨by rw [e1], rfl, rfl⟩
    · have e1 : zb (mk_bf m k l) = 1 := if_pos (by omega)
      refine ar_iconst kd_M_isBefore_30 ?_
      refine ar_goto (tg := 35) kd_M_isBefore_31 (by decide) ?_
      refine ar_zreturn kd_M_isBefore_35 rfl rfl (Nat.le_of_ble_eq_true rfl) (Nat.le_of_ble_eq_true rfl) ?_
      exact ⟨by rw [e1], rfl, rfl⟩
/-- how many lots come before l -/
def mk_rk (m : mS) (l j : Nat) : Int := zs (fun k => zb (mk_bf m k l)) j
def mk_at (m : mS) (z : Int) : Nat → Nat → Int
  | 0, _ => -1
  | f + 1, l => if mk_rk m l (mg_nT m) = z then (l : Int) else mk_at m z f (l + 1)
theorem zb_rg (p : Prop) [Decidable p] : 0 ≤ zb p ∧ zb p ≤ 1 := by
  unfold zb
  split <;> omega
theorem mk_rk_rg (m : mS) (l j : Nat) : 0 ≤ mk_rk m l j ∧ mk_rk m l j ≤ j := by
  have h1 := zs_nonneg (f := fun k => zb (mk_bf m k l)) j (fun k _ => (zb_rg _).1)
  have h2 := zs_le (f := fun k => zb (mk_bf m k l)) (b := 1) j (fun k _ => (zb_rg _).2)
  unfold mk_rk
  omega
set_option maxHeartbeats 1000000 in
set_option maxRecDepth 20000 in
theorem sp_M_lotAt {d : Nat} {x : am_C} {c : cS} {m : mS} {t : List am_C} {n : Nat} {z : Int} (hz : -2147483648 ≤ z ∧ z < 2147483648) (hK : mK m) : am_W (d + 1) km_M_lotAt 0 [some (.ref 50), some (.int (iI z)), none, none, none] [] (hC x c (hM m t)) n 0 0 (am_eq (some (.int (iI (mk_at m z (mg_nT m) 0)))) (hC x c (hM m t)) n) := by
  obtain ⟨hT, hL⟩ := hK.nn
  have loop : ∀ (f i : Nat), i ≤ mg_nT m → mg_nT m - i < f → mk_at m z (mg_nT m) 0 = mk_at m z (mg_nT m - i) i → ∀ (w1 w2 : Option Value), am_W (d + 1) km_M_lotAt 2 [some (.ref 50), some (.int (iI z)), some (.int (iI i)), w1, w2] [] (hC x c (hM m t)) n 0 0 (am_eq (some (.int (iI (mk_at m z (mg_nT m) 0)))) (hC x c (hM m t)) n) := by
    intro f
    induction f with
    | zero => intro i h1 h2 e0 w1 w2; omega
    | succ f ih =>
      intro i h1 h2 e0 w1 w2
      refine ar_iload_n kd_M_lotAt_2 rfl ?_
      refine ar_aload_n kd_M_lotAt_3 rfl ?_
      refine ar_get (ci := 5) (k := 1) kd_M_lotAt_4 rfl kw_620 (by decide) rfl rfl ?_
      refine az_icmp_ge (tg := 61) kd_M_lotAt_7 (by decide) (fun qa => ?_) (fun qa => ?_)
      · have e1 : mk_at m z (mg_nT m) 0 = -1 := by
          rw [e0, show mg_nT m - i = 0 by omega]
          rfl
        refine ar_iconst kd_M_lotAt_61 ?_
        refine ar_ireturn kd_M_lotAt_62 rfl (Nat.le_of_ble_eq_true rfl) (Nat.le_of_ble_eq_true rfl) ?_
        exact ⟨by rw [e1], rfl, rfl⟩
      · have loopj : ∀ (g j : Nat), j ≤ mg_nT m → mg_nT m - j < g → am_W (d + 1) km_M_lotAt 15 [some (.ref 50), some (.int (iI z)), some (.int (iI i)), some (.int (iI (mk_rk m i j))), some (.int (iI j))] [] (hC x c (hM m t)) n 0 0 (am_eq (some (.int (iI (mk_at m z (mg_nT m) 0)))) (hC x c (hM m t)) n) := by
          intro g
          induction g with
          | zero => intro j h3 h4; omega
          | succ g ihj =>
            intro j h3 h4
            refine ar_iload kd_M_lotAt_15 rfl ?_
            refine ar_aload_n kd_M_lotAt_17 rfl ?_
            refine ar_get (ci := 5) (k := 1) kd_M_lotAt_18 rfl kw_620 (by decide) rfl rfl ?_
            refine az_icmp_ge (tg := 48) kd_M_lotAt_21 (by decide) (fun qb => ?_) (fun qb => ?_)
            · obtain rfl : j = mg_nT m := by omega
              have hrk := mk_rk_rg m i (mg_nT m)
              refine ar_iload_n kd_M_lotAt_48 rfl ?_
              refine ar_iload_n kd_M_lotAt_49 rfl ?_
              refine az_icmp_ne (tg := 55) kd_M_lotAt_50 (by decide) (fun qd => ?_) (fun qd => ?_)
              · have e2 : mk_at m z (mg_nT m) 0 = mk_at m z (mg_nT m - (i + 1)) (i + 1) := by
                  rw [e0, show mg_nT m - i = (mg_nT m - (i + 1)) + 1 by omega]
                  simp only [mk_at]
                  rw [if_neg (by omega)]
                refine az_iinc kd_M_lotAt_55 rfl rfl ?_
                dsimp only [List.set]
                refine ar_goto (tg := 2) kd_M_lotAt_58 (by decide) ?_
                exact ih (i + 1) (by omega) (by omega) e2 _ _
              · have e1 : mk_at m z (mg_nT m) 0 = (i : Int) := by
                  rw [e0, show mg_nT m - i = (mg_nT m - (i + 1)) + 1 by omega]
                  simp only [mk_at]
                  rw [if_pos (by omega)]
                refine ar_iload_n kd_M_lotAt_53 rfl ?_
                refine ar_ireturn kd_M_lotAt_54 rfl (Nat.le_of_ble_eq_true rfl) (Nat.le_of_ble_eq_true rfl) ?_
                exact ⟨by rw [e1], rfl, rfl⟩
            · refine ar_iload_n kd_M_lotAt_24 rfl ?_
              refine ar_aload_n kd_M_lotAt_25 rfl ?_
              refine ar_iload kd_M_lotAt_26 rfl ?_
              refine ar_iload_n kd_M_lotAt_28 rfl ?_
              refine az_callv (z := km_M_isBefore) (As := [_, _]) (ci := 5) kd_M_lotAt_29 kw_743 kw_745 rfl ks_M_isBefore kz_M_isBefore rfl rfl rfl rfl rfl (Nat.le_of_ble_eq_true rfl) (Nat.le_of_ble_eq_true rfl) rfl (sp_M_isBefore (by omega) (by omega) hK) ?_
              refine az_if_eq (tg := 39) kd_M_lotAt_32 (by decide) (fun qc => ?_) (fun qc => ?_) (by have := zb_rg (mk_bf m j i); omega)
              · have e3 : mk_rk m i (j + 1) = mk_rk m i j + 0 := by simp only [mk_rk, zs]; rw [show zb (mk_bf m j i) = 0 from qc]
                refine ar_iconst kd_M_lotAt_39 ?_
                refine az_iadd kd_M_lotAt_40 ?_
                refine ar_istore_n kd_M_lotAt_41 (Nat.le_of_ble_eq_true rfl) rfl ?_
                dsimp only [List.set]
                refine az_iinc kd_M_lotAt_42 rfl rfl ?_
                dsimp only [List.set]
                refine ar_goto (tg := 15) kd_M_lotAt_45 (by decide) ?_
                have h9 := ihj (j + 1) (by omega) (by omega)
                rw [e3] at h9
                exact h9
              · have e3 : mk_rk m i (j + 1) = mk_rk m i j + 1 := by
                  have := zb_rg (mk_bf m j i)
                  simp only [mk_rk, zs]
                  omega
                refine ar_iconst kd_M_lotAt_35 ?_
                refine ar_goto (tg := 40) kd_M_lotAt_36 (by decide) ?_
                refine az_iadd kd_M_lotAt_40 ?_
                refine ar_istore_n kd_M_lotAt_41 (Nat.le_of_ble_eq_true rfl) rfl ?_
                dsimp only [List.set]
                refine az_iinc kd_M_lotAt_42 rfl rfl ?_
                dsimp only [List.set]
                refine ar_goto (tg := 15) kd_M_lotAt_45 (by decide) ?_
                have h9 := ihj (j + 1) (by omega) (by omega)
                rw [e3] at h9
                exact h9
        refine ar_iconst kd_M_lotAt_10 ?_
        refine ar_istore_n kd_M_lotAt_11 (Nat.le_of_ble_eq_true rfl) rfl ?_
        dsimp only [List.set]
        refine ar_iconst kd_M_lotAt_12 ?_
        refine ar_istore kd_M_lotAt_13 (Nat.le_of_ble_eq_true rfl) rfl ?_
        dsimp only [List.set]
        exact loopj (mg_nT m + 1) 0 (by omega) (by omega)
  refine ar_iconst kd_M_lotAt_0 ?_
  refine ar_istore_n kd_M_lotAt_1 (Nat.le_of_ble_eq_true rfl) rfl ?_
  dsimp only [List.set]
  exact loop (mg_nT m + 1) 0 (by omega) (by omega) rfl _ _
set_option maxHeartbeats 1000000 in
set_option maxRecDepth 20000 in
theorem sp_M_heldBy {d : Nat} {x : am_C} {c : cS} {m : mS} {t : List am_C} {n : Nat} {l : Nat} (hl : l < 6) (hK : mK m) : am_W d km_M_heldBy 0 [some (.ref 50), some (.int (iI (l : Int))), none, none] [] (hC x c (hM m t)) n 0 0 (am_eq (some (.int (iI (zs (fun k => mg_ho m (8 * l + k)) (mg_nT m))))) (hC x c (hM m t)) n) := by
  obtain ⟨hT, hL⟩ := hK.nn
  have loop : ∀ (f i : Nat), i ≤ mg_nT m → mg_nT m - i < f → am_W d km_M_heldBy 4 [some (.ref 50), some (.int (iI (l : Int))), some (.int (iI (zs (fun k => mg_ho m (8 * l + k)) i))), some (.int (iI i))] [] (hC x c (hM m t)) n 0 0 (am_eq (some (.int (iI (zs (fun k => mg_ho m (8 * l + k)) (mg_nT m))))) (hC x c (hM m t)) n) := by
    intro f
    induction f with
    | zero => intro i h1 h2; omega
    | succ f ih =>
      intro i h1 h2
      refine ar_iload_n kd_M_heldBy_4 rfl ?_
      refine ar_aload_n kd_M_heldBy_5 rfl ?_
      refine ar_get (ci := 5) (k := 1) kd_M_heldBy_6 rfl kw_620 (by decide) rfl rfl ?_
      refine az_icmp_ge (tg := 32) kd_M_heldBy_9 (by decide) (fun q1 => ?_) (fun q1 => ?_)
      · obtain rfl : i = mg_nT m := by omega
        refine ar_iload_n kd_M_heldBy_32 rfl ?_
        refine ar_ireturn kd_M_heldBy_33 rfl (Nat.le_of_ble_eq_true rfl) (Nat.le_of_ble_eq_true rfl) ?_
        exact ⟨rfl, rfl, rfl⟩
      · refine ar_iload_n kd_M_heldBy_12 rfl ?_
        refine ar_aload_n kd_M_heldBy_13 rfl ?_
        refine ar_get (ci := 5) (k := 12) kd_M_heldBy_14 rfl kw_631 (by decide) rfl rfl ?_
        refine az_bipush kd_M_heldBy_17 (by decide) ?_
        refine ar_iload_n kd_M_heldBy_19 rfl ?_
        refine az_imul kd_M_heldBy_20 ?_
        refine ar_iload_n kd_M_heldBy_21 rfl ?_
        refine az_iadd kd_M_heldBy_22 ?_
        refine az_iald kd_M_heldBy_23 rfl (k := 8 * l + i) (by omega) (by omega) ?_
        refine az_iadd kd_M_heldBy_24 ?_
        refine ar_istore_n kd_M_heldBy_25 (Nat.le_of_ble_eq_true rfl) rfl ?_
        dsimp only [List.set]
        refine az_iinc kd_M_heldBy_26 rfl rfl ?_
        dsimp only [List.set]
        refine ar_goto (tg := 4) kd_M_heldBy_29 (by decide) ?_
        exact ih (i + 1) (by omega) (by omega)
  refine ar_iconst kd_M_heldBy_0 ?_
  refine ar_istore_n kd_M_heldBy_1 (Nat.le_of_ble_eq_true rfl) rfl ?_
  dsimp only [List.set]
  refine ar_iconst kd_M_heldBy_2 ?_
  refine ar_istore_n kd_M_heldBy_3 (Nat.le_of_ble_eq_true rfl) rfl ?_
  dsimp only [List.set]
  exact loop (mg_nT m + 1) 0 (by omega) (by omega)
set_option maxHeartbeats 1000000 in
set_option maxRecDepth 20000 in
theorem sp_M_heldOf {d : Nat} {x : am_C} {c : cS} {m : mS} {t : List am_C} {n : Nat} {k : Nat} (hk : k < 8) (hK : mK m) : am_W d km_M_heldOf 0 [some (.ref 50), some (.int (iI (k : Int))), none, none] [] (hC x c (hM m t)) n 0 0 (am_eq (some (.int (iI (zs (fun l => mg_ho m (8 * l + k)) (mg_nL m))))) (hC x c (hM m t)) n) := by
  obtain ⟨hT, hL⟩ := hK.nn
  have loop : ∀ (f i : Nat), i ≤ mg_nL m → mg_nL m - i < f → am_W d km_M_heldOf 4 [some (.ref 50), some (.int (iI (k : Int))), some (.int (iI (zs (fun l => mg_ho m (8 * l + k)) i))), some (.int (iI i))] [] (hC x c (hM m t)) n 0 0 (am_eq (some (.int (iI (zs (fun l => mg_ho m (8 * l + k)) (mg_nL m))))) (hC x c (hM m t)) n) := by
    intro f
    induction f with
    | zero => intro i h1 h2; omega
    | succ f ih =>
      intro i h1 h2
      refine ar_iload_n kd_M_heldOf_4 rfl ?_
      refine ar_aload_n kd_M_heldOf_5 rfl ?_
      refine ar_get (ci := 5) (k := 6) kd_M_heldOf_6 rfl kw_625 (by decide) rfl rfl ?_
      refine az_icmp_ge (tg := 32) kd_M_heldOf_9 (by decide) (fun q1 => ?_) (fun q1 => ?_)
      · obtain rfl : i = mg_nL m := by omega
        refine ar_iload_n kd_M_heldOf_32 rfl ?_
        refine ar_ireturn kd_M_heldOf_33 rfl (Nat.le_of_ble_eq_true rfl) (Nat.le_of_ble_eq_true rfl) ?_
        exact ⟨rfl, rfl, rfl⟩
      · refine ar_iload_n kd_M_heldOf_12 rfl ?_
        refine ar_aload_n kd_M_heldOf_13 rfl ?_
        refine ar_get (ci := 5) (k := 12) kd_M_heldOf_14 rfl kw_631 (by decide) rfl rfl ?_
        refine az_bipush kd_M_heldOf_17 (by decide) ?_
        refine ar_iload_n kd_M_heldOf_19 rfl ?_
        refine az_imul kd_M_heldOf_20 ?_
        refine ar_iload_n kd_M_heldOf_21 rfl ?_
        refine az_iadd kd_M_heldOf_22 ?_
        refine az_iald kd_M_heldOf_23 rfl (k := 8 * i + k) (by omega) (by omega) ?_
        refine az_iadd kd_M_heldOf_24 ?_
        refine ar_istore_n kd_M_heldOf_25 (Nat.le_of_ble_eq_true rfl) rfl ?_
        dsimp only [List.set]
        refine az_iinc kd_M_heldOf_26 rfl rfl ?_
        dsimp only [List.set]
        refine ar_goto (tg := 4) kd_M_heldOf_29 (by decide) ?_
        exact ih (i + 1) (by omega) (by omega)
  refine ar_iconst kd_M_heldOf_0 ?_
  refine ar_istore_n kd_M_heldOf_1 (Nat.le_of_ble_eq_true rfl) rfl ?_
  dsimp only [List.set]
  refine ar_iconst kd_M_heldOf_2 ?_
  refine ar_istore_n kd_M_heldOf_3 (Nat.le_of_ble_eq_true rfl) rfl ?_
  dsimp only [List.set]
  exact loop (mg_nL m + 1) 0 (by omega) (by omega)
set_option maxHeartbeats 1000000 in
set_option maxRecDepth 20000 in
theorem sp_M_bits {d : Nat} {h : am_H} {n s : Nat} (hs : s < 256) : am_W d km_M_bits 0 [some (.int (iI s)), none, none] [] h n 0 0 (am_eq (some (.int (iI (pop s)))) h n) := by
  have loop : ∀ (f i : Nat), i ≤ 8 → 8 - i < f → am_W d km_M_bits 4 [some (.int (iI s)), some (.int (iI (zs (fun k => zb (s.testBit k = true)) i))), some (.int (iI i))] [] h n 0 0 (am_eq (some (.int (iI (pop s)))) h n) := by
    intro f
    induction f with
    | zero => intro i h1 h2; omega
    | succ f ih =>
      intro i h1 h2
      refine ar_iload_n kd_M_bits_4 rfl ?_
      refine az_bipush kd_M_bits_5 (by decide) ?_
      refine az_icmp_ge (tg := 24) kd_M_bits_7 (by decide) (fun q1 => ?_) (fun q1 => ?_)
      · obtain rfl : i = 8 := by omega
        refine ar_iload_n kd_M_bits_24 rfl ?_
        refine ar_ireturn kd_M_bits_25 rfl (Nat.le_of_ble_eq_true rfl) (Nat.le_of_ble_eq_true rfl) ?_
        exact ⟨rfl, rfl, rfl⟩
      · refine ar_iload_n kd_M_bits_10 rfl ?_
        refine ar_iload_n kd_M_bits_11 rfl ?_
        refine ar_iload_n kd_M_bits_12 rfl ?_
        refine ar_ishr kd_M_bits_13 ?_
        refine ar_iconst kd_M_bits_14 ?_
        refine ar_iand kd_M_bits_15 ?_
        rw [ib_bit hs (by omega), ib_zb]
        refine az_iadd kd_M_bits_16 ?_
        refine ar_istore_n kd_M_bits_17 (Nat.le_of_ble_eq_true rfl) rfl ?_
        dsimp only [List.set]
        refine az_iinc kd_M_bits_18 rfl rfl ?_
        dsimp only [List.set]
        refine ar_goto (tg := 4) kd_M_bits_21 (by decide) ?_
        exact ih (i + 1) (by omega) (by omega)
  refine ar_iconst kd_M_bits_0 ?_
  refine ar_istore_n kd_M_bits_1 (Nat.le_of_ble_eq_true rfl) rfl ?_
  dsimp only [List.set]
  refine ar_iconst kd_M_bits_2 ?_
  refine ar_istore_n kd_M_bits_3 (Nat.le_of_ble_eq_true rfl) rfl ?_
  dsimp only [List.set]
  exact loop 9 0 (by omega) (by omega)
set_option maxHeartbeats 1000000 in
set_option maxRecDepth 20000 in
theorem sp_M_thrown {d : Nat} {x : am_C} {c : cS} {m : mS} {t : List am_C} {n : Nat} : am_W d km_M_thrown 0 [some (.ref 50)] [] (hC x c (hM m t)) n 0 0 (am_eq (some (.int (iI (mg_co m)))) (hC x c (hM m t)) n) := by
  refine ar_aload_n kd_M_thrown_0 rfl ?_
  refine ar_get (ci := 5) (k := 0) kd_M_thrown_1 rfl kw_619 (by decide) rfl rfl ?_
  refine ar_ireturn kd_M_thrown_4 rfl (Nat.le_of_ble_eq_true rfl) (Nat.le_of_ble_eq_true rfl) ?_
  exact ⟨rfl, rfl, rfl⟩
set_option maxHeartbeats 1000000 in
set_option maxRecDepth 20000 in
theorem sp_M_exact {d : Nat} {x : am_C} {c : cS} {m : mS} {t : List am_C} {n : Nat} (hx : narrow .boolean (.int (iI (mg_ex m))) = .int (iI (mg_ex m))) : am_W d km_M_exact 0 [some (.ref 50)] [] (hC x c (hM m t)) n 0 0 (am_eq (some (.int (iI (mg_ex m)))) (hC x c (hM (ms_co m 0) t)) n) := by
  refine ar_aload_n kd_M_exact_0 rfl ?_
  refine ar_iconst kd_M_exact_1 ?_
  refine ar_put (ci := 5) (k := 0) kd_M_exact_2 rfl kw_619 (by decide) rfl (Nat.le_of_ble_eq_true rfl) rfl (Nat.le_of_ble_eq_true rfl) rfl rfl rfl ?_
  refine ar_heap (hq_co _) ?_
  refine ar_aload_n kd_M_exact_5 rfl ?_
  refine ar_get (ci := 5) (k := 13) kd_M_exact_6 rfl kw_632 (by decide) rfl rfl ?_
  refine ar_zreturn kd_M_exact_9 rfl hx (Nat.le_of_ble_eq_true rfl) (Nat.le_of_ble_eq_true rfl) ?_
  exact ⟨rfl, rfl, rfl⟩
