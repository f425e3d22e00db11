/-! the floor: its methods -/
theorem hw_fr {x : am_C} {c : cS} {t : List am_C} (R : Nat → Int) : (hC x c t).set 11 (am_ia 8 (fun j => iI (R j))) = hC x (cs_fr c R) t := rfl
/-- the sum of f over the first n -/
def zs (f : Nat → Int) : Nat → Int
  | 0 => 0
  | n + 1 => zs f n + f n
def ck_move (c : cS) (l k : Nat) (z : Int) : cS := cs_fr (cs_gi c (zr (cg_gi c) l (zu (cg_gi c l) k (cg_gi c l k + z)))) (zu (cg_fr c) k (cg_fr c k - z))
set_option maxHeartbeats 1000000 in
set_option maxRecDepth 20000 in
theorem sp_F_move {d : Nat} {x : am_C} {c : cS} {t : List am_C} {n : Nat} {l k : Nat} {z : Int} (hl : l < 6) (hk : k < 8) : am_W d km_F_move 0 [some (.ref 5), some (.int (iI l)), some (.int (iI k)), some (.int (iI z))] [] (hC x c t) n 0 0 (am_eq none (hC x (ck_move c l k z) t) n) := by
  refine ar_aload_n kd_F_move_0 rfl ?_
  refine ar_get (ci := 1) (k := 1) kd_F_move_1 rfl kw_120 (by decide) rfl rfl ?_
  refine ar_get (ci := 2) (k := 6) kd_F_move_4 rfl kw_100 (by decide) rfl rfl ?_
  refine ar_iload_n kd_F_move_7 rfl ?_
  refine az_aald kd_F_move_8 rfl rfl (by omega) (if_pos (by omega)) ?_
  refine ar_iload_n kd_F_move_9 rfl ?_
  refine ar_dup2 kd_F_move_10 rfl rfl ?_
  refine az_iald kd_F_move_11 (hr_gi (by omega)) rfl (by omega) ?_
  refine ar_iload_n kd_F_move_12 rfl ?_
  refine az_iadd kd_F_move_13 ?_
  refine az_iast kd_F_move_14 (Nat.ble_eq_true_of_le (by omega)) (hr_gi (by omega)) rfl (by omega) ?_
  rw [hw_gi (by omega)]
  refine ar_aload_n kd_F_move_15 rfl ?_
  refine ar_get (ci := 1) (k := 0) kd_F_move_16 rfl kw_117 (by decide) rfl rfl ?_
  refine ar_get (ci := 3) (k := 5) kd_F_move_19 rfl kw_51 (by decide) rfl rfl ?_
  refine ar_iload_n kd_F_move_22 rfl ?_
  refine ar_dup2 kd_F_move_23 rfl rfl ?_
  refine az_iald kd_F_move_24 rfl rfl (by omega) ?_
  refine ar_iload_n kd_F_move_25 rfl ?_
  refine az_isub kd_F_move_26 ?_
  refine az_iast kd_F_move_27 rfl rfl rfl (by omega) ?_
  rw [hw_fr]
  refine ar_return kd_F_move_28 rfl (Nat.le_of_ble_eq_true rfl) (Nat.le_of_ble_eq_true rfl) ?_
  exact ⟨rfl, rfl, rfl⟩
