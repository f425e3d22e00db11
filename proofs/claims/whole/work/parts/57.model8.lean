/-! the reference: taking from a line on, by rule, its start -/
def mk_tf (m : mS) (l j : Nat) : mS := zf (fun a i => mk_take a (l + i)) m j
theorem mK_sp {m : mS} (h : mK m) (v : Nat → Int) : mK (ms_sp m v) := h
theorem mA_sp {m : mS} (h : mA m) (v : Nat → Int) : mA (ms_sp m v) := h
theorem mK_t1 (i : Nat) {q : mS × Int × Int} (h : mK q.1) (k : Nat) : mK (mk_t1 i q k).1 := by
  unfold mk_t1
  split
  · exact mK_re (mK_ta h _) _
  · exact h
theorem mA_t1 (i : Nat) {q : mS × Int × Int} (h : mA q.1) (k : Nat) : mA (mk_t1 i q k).1 := by
  unfold mk_t1
  split
  · exact mA_re (mA_ta h _) _
  · exact h
theorem mK_t2 {m : mS} (h : mK m) (i : Nat) : ∀ k, mK (mk_t2 m i k).1
  | 0 => mK_t0 i h _
  | k + 1 => mK_t1 i (mK_t2 h i k) k
theorem mA_t2 {m : mS} (h : mA m) (i : Nat) : ∀ k, mA (mk_t2 m i k).1
  | 0 => mA_t0 i h _
  | k + 1 => mA_t1 i (mA_t2 h i k) k
theorem mK_take {m : mS} (h : mK m) (i : Nat) : mK (mk_take m i) := by
  refine mK_sp ?_ _
  unfold mk_t3
  split
  · exact mK_t0 i (mK_t2 h i _) _
  · exact mK_t2 h i _
theorem mA_take {m : mS} (h : mA m) (i : Nat) : mA (mk_take m i) := by
  refine mA_sp ?_ _
  unfold mk_t3
  split
  · exact mA_t0 i (mA_t2 h i _) _
  · exact mA_t2 h i _
theorem mk_tf_ok {m : mS} (hK : mK m) (hA : mA m) (l j : Nat) : mK (mk_tf m l j) ∧ mA (mk_tf m l j) := zf_inv (P := fun a => mK a ∧ mA a) (fun a i h => ⟨mK_take h.1 _, mA_take h.2 _⟩) ⟨hK, hA⟩ j
theorem mk_tf_keep {β : Type} {P : mS → β} (h1 : ∀ m v, P (ms_re m v) = P m) (h2 : ∀ m v, P (ms_ta m v) = P m) (h3 : ∀ m v, P (ms_sp m v) = P m) (m : mS) (l j : Nat) : P (mk_tf m l j) = P m := zf_keep (g := fun a i => mk_take a (l + i)) (P := P) (fun a i => mk_take_keep h1 h2 h3 a _) m j
/-- the rows that will be read, as they come, are in their ranges -/
def mRw (m : mS) (l : Nat) : Prop := ∀ j, l + j < mg_nL m → ∀ k, k < 8 → 0 ≤ mg_re (mk_tf m l j) (8 * (l + j) + k) ∧ mg_re (mk_tf m l j) (8 * (l + j) + k) ≤ 500
theorem sp_M_takeU {d : Nat} {x : am_C} {c : cS} {m : mS} {t : List am_C} {n l : Nat} {u : Int} (hu : u = (l : Int)) (hK : mK m) (hA : mA m) (hl : l < 6) (hp : 1 ≤ mg_rl m (4 * l + 1)) (hr : ∀ j, j < 8 → 0 ≤ mg_re m (8 * l + j) ∧ mg_re m (8 * l + j) ≤ 500) : am_W (d + 1) km_M_take 0 [some (.ref 50), some (.int (iI u)), none, none, none, none, none] [] (hC x c (hM m t)) n 0 0 (am_eq none (hC x c (hM (mk_take m l) t)) n) := by
  subst hu
  exact sp_M_take hK hA hl hp hr
set_option maxHeartbeats 1000000 in
set_option maxRecDepth 20000 in
theorem sp_M_takeFrom {d : Nat} {x : am_C} {c : cS} {m : mS} {t : List am_C} {n : Nat} {l : Nat} (hK : mK m) (hA : mA m) (hl : l ≤ mg_nL m) (hp : ∀ l, l < mg_nL m → 1 ≤ mg_rl m (4 * l + 1)) (hR : mRw m l) : am_W (d + 2) km_M_takeFrom 0 [some (.ref 50), some (.int (iI l)), none] [] (hC x c (hM m t)) n 0 0 (am_eq none (hC x c (hM (mk_tf m l (mg_nL m - l)) t)) n) := by
  obtain ⟨hT, hL⟩ := hK.nn
  have loop : ∀ (f i : Nat), i ≤ mg_nL m - l → mg_nL m - l - i < f → am_W (d + 2) km_M_takeFrom 2 [some (.ref 50), some (.int (iI l)), some (.int (iI ((l : Int) + (i : Int))))] [] (hC x c (hM (mk_tf m l i) t)) n 0 0 (am_eq none (hC x c (hM (mk_tf m l (mg_nL m - l)) t)) n) := by
    intro f
    induction f with
    | zero => intro i h1 h2; omega
    | succ f ih =>
      intro i h1 h2
      obtain ⟨g1, g2⟩ := mk_tf_ok hK hA l i
      have eL : mg_nL (mk_tf m l i) = mg_nL m := mk_tf_keep (P := fun m => mg_nL m) (fun _ _ => rfl) (fun _ _ => rfl) (fun _ _ => rfl) m l i
      have eR : mg_rl (mk_tf m l i) = mg_rl m := mk_tf_keep (P := fun m => mg_rl m) (fun _ _ => rfl) (fun _ _ => rfl) (fun _ _ => rfl) m l i
      refine ar_iload_n kd_M_takeFrom_2 rfl ?_
      refine ar_aload_n kd_M_takeFrom_3 rfl ?_
      refine ar_get (ci := 5) (k := 6) kd_M_takeFrom_4 rfl kw_625 (by decide) rfl rfl ?_
      refine az_icmp_ge (tg := 21) kd_M_takeFrom_7 (by decide) (fun q1 => ?_) (fun q1 => ?_)
      · obtain rfl : i = mg_nL m - l := by omega
        refine ar_return kd_M_takeFrom_21 rfl (Nat.le_of_ble_eq_true rfl) (Nat.le_of_ble_eq_true rfl) ?_
        exact ⟨rfl, rfl, rfl⟩
      · refine ar_aload_n kd_M_takeFrom_10 rfl ?_
        refine ar_iload_n kd_M_takeFrom_11 rfl ?_
        refine az_callv (z := km_M_take) (As := [_]) (ci := 5) kd_M_takeFrom_12 kw_760 kw_762 rfl ks_M_take kz_M_take rfl rfl rfl rfl rfl (Nat.le_of_ble_eq_true rfl) (Nat.le_of_ble_eq_true rfl) rfl (sp_M_takeU (l := l + i) (by omega) g1 g2 (by omega) (by rw [eR]; exact hp _ (by omega)) (hR i (by omega))) ?_
        refine az_iinc kd_M_takeFrom_15 rfl rfl ?_
        dsimp only [List.set]
        refine ar_goto (tg := 2) kd_M_takeFrom_18 (by decide) ?_
        rw [show (l : Int) + (i : Int) + 1 = (l : Int) + ((i + 1 : Nat) : Int) by omega]
        exact ih (i + 1) (by omega) (by omega)
  refine ar_iload_n kd_M_takeFrom_0 rfl ?_
  refine ar_istore_n kd_M_takeFrom_1 (Nat.le_of_ble_eq_true rfl) rfl ?_
  dsimp only [List.set]
  have h9 := loop (mg_nL m - l + 1) 0 (by omega) (by omega)
  rw [show (l : Int) + ((0 : Nat) : Int) = (l : Int) by omega] at h9
  exact h9
def mk_r3 (m : mS) (l : Nat) : Nat := 2 ^ (zn (mg_rl m (4 * l + 2)) (mg_ac m l)).toNat - 1
def mk_br (m : mS) (i : Nat) : mS := zf (fun a l => ms_bs a (zu (mg_bs a) l (mk_r3 a l))) m i
theorem mk_br_keep {β : Type} {P : mS → β} (h1 : ∀ m v, P (ms_bs m v) = P m) (m : mS) (i : Nat) : P (mk_br m i) = P m := zf_keep (g := fun a l => ms_bs a (zu (mg_bs a) l (mk_r3 a l))) (P := P) (fun a i => h1 _ _) m i
set_option maxHeartbeats 1000000 in
set_option maxRecDepth 20000 in
theorem sp_M_byRule {d : Nat} {x : am_C} {c : cS} {m : mS} {t : List am_C} {n : Nat} (hK : mK m) (hA : mA m) : am_W d km_M_byRule 0 [some (.ref 50), none, none] [] (hC x c (hM m t)) n 0 0 (am_eq none (hC x c (hM (mk_br m (mg_nL m)) t)) n) := by
  obtain ⟨hT, hL⟩ := hK.nn
  have loop : ∀ (f i : Nat), i ≤ mg_nL m → mg_nL m - i < f → ∀ w : Option Value, am_W d km_M_byRule 2 [some (.ref 50), some (.int (iI i)), w] [] (hC x c (hM (mk_br m i) t)) n 0 0 (am_eq none (hC x c (hM (mk_br m (mg_nL m)) t)) n) := by
    intro f
    induction f with
    | zero => intro i h1 h2 w; omega
    | succ f ih =>
      intro i h1 h2 w
      have eL : mg_nL (mk_br m i) = mg_nL m := mk_br_keep (P := fun m => mg_nL m) (fun _ _ => rfl) m i
      have eR : mg_rl (mk_br m i) = mg_rl m := mk_br_keep (P := fun m => mg_rl m) (fun _ _ => rfl) m i
      have eA : mg_ac (mk_br m i) = mg_ac m := mk_br_keep (P := fun m => mg_ac m) (fun _ _ => rfl) m i
      refine ar_iload_n kd_M_byRule_2 rfl ?_
      refine ar_aload_n kd_M_byRule_3 rfl ?_
      refine ar_get (ci := 5) (k := 6) kd_M_byRule_4 rfl kw_625 (by decide) rfl rfl ?_
      refine az_icmp_ge (tg := 66) kd_M_byRule_7 (by decide) (fun q1 => ?_) (fun q1 => ?_)
      · obtain rfl : i = mg_nL m := by omega
        refine ar_return kd_M_byRule_66 rfl (Nat.le_of_ble_eq_true rfl) (Nat.le_of_ble_eq_true rfl) ?_
        exact ⟨rfl, rfl, rfl⟩
      · have g1 := hK.line (l := i) (by omega)
        have g2 := (hA i (by omega)).1
        have r1 : mg_rl (mk_br m i) (4 * i + 2) = mg_rl m (4 * i + 2) := congrFun eR _
        have r2 : mg_ac (mk_br m i) i = mg_ac m i := congrFun eA _
        have hz : 0 ≤ zn (mg_rl (mk_br m i) (4 * i + 2)) (mg_ac (mk_br m i) i) ∧ zn (mg_rl (mk_br m i) (4 * i + 2)) (mg_ac (mk_br m i) i) ≤ 8 := by unfold zn; split <;> omega
        have hpp := Nat.pow_pos (n := (zn (mg_rl (mk_br m i) (4 * i + 2)) (mg_ac (mk_br m i) i)).toNat) (show 0 < 2 by decide)
        refine ar_aload_n kd_M_byRule_10 rfl ?_
        refine ar_get (ci := 5) (k := 15) kd_M_byRule_11 rfl kw_634 (by decide) rfl rfl ?_
        refine ar_iload_n kd_M_byRule_14 rfl ?_
        refine az_iald kd_M_byRule_15 rfl (k := i) (by omega) (by omega) ?_
        refine ar_aload_n kd_M_byRule_16 rfl ?_
        refine ar_get (ci := 5) (k := 9) kd_M_byRule_17 rfl kw_628 (by decide) rfl rfl ?_
        refine ar_iconst kd_M_byRule_20 ?_
        refine ar_iload_n kd_M_byRule_21 rfl ?_
        refine az_imul kd_M_byRule_22 ?_
        refine ar_iconst kd_M_byRule_23 ?_
        refine az_iadd kd_M_byRule_24 ?_
        refine az_iald kd_M_byRule_25 rfl (k := 4 * i + 2) (by omega) (by omega) ?_
        refine az_icmp_ge (tg := 38) kd_M_byRule_26 (by decide) (fun q2 => ?_) (fun q2 => ?_)
        · have ez : mg_rl (mk_br m i) (4 * i + 2) = zn (mg_rl (mk_br m i) (4 * i + 2)) (mg_ac (mk_br m i) i) := (if_neg (by omega)).symm
          refine ar_aload_n kd_M_byRule_38 rfl ?_
          refine ar_get (ci := 5) (k := 9) kd_M_byRule_39 rfl kw_628 (by decide) rfl rfl ?_
          refine ar_iconst kd_M_byRule_42 ?_
          refine ar_iload_n kd_M_byRule_43 rfl ?_
          refine az_imul kd_M_byRule_44 ?_
          refine ar_iconst kd_M_byRule_45 ?_
          refine az_iadd kd_M_byRule_46 ?_
          refine az_iald kd_M_byRule_47 rfl (k := 4 * i + 2) (by omega) (by omega) ?_
          refine az_top ez ?_
          refine ar_istore_n kd_M_byRule_48 (Nat.le_of_ble_eq_true rfl) rfl ?_
          dsimp only [List.set]
          refine ar_aload_n kd_M_byRule_49 rfl ?_
          refine ar_get (ci := 5) (k := 17) kd_M_byRule_50 rfl kw_636 (by decide) rfl rfl ?_
          refine ar_iload_n kd_M_byRule_53 rfl ?_
          refine ar_iconst kd_M_byRule_54 ?_
          refine ar_iload_n kd_M_byRule_55 rfl ?_
          refine ar_ishl kd_M_byRule_56 ?_
          rw [show iI (zn (mg_rl (mk_br m i) (4 * i + 2)) (mg_ac (mk_br m i) i)) = iI (((zn (mg_rl (mk_br m i) (4 * i + 2)) (mg_ac (mk_br m i) i)).toNat : Nat) : Int) from congrArg iI (Int.toNat_of_nonneg hz.1).symm, ib_shl (by omega)]
          refine ar_iconst kd_M_byRule_57 ?_
          refine az_isub kd_M_byRule_58 ?_
          rw [show ((2 ^ (zn (mg_rl (mk_br m i) (4 * i + 2)) (mg_ac (mk_br m i) i)).toNat : Nat) : Int) - 1 = ((mk_r3 (mk_br m i) i : Nat) : Int) by unfold mk_r3; omega]
          refine az_iast kd_M_byRule_59 rfl rfl (k := i) (by omega) (by omega) ?_
          rw [hv_bs]
          refine az_iinc kd_M_byRule_60 rfl rfl ?_
          dsimp only [List.set]
          refine ar_goto (tg := 2) kd_M_byRule_63 (by decide) ?_
          exact ih (i + 1) (by omega) (by omega) _
        · have ez : mg_ac (mk_br m i) i = zn (mg_rl (mk_br m i) (4 * i + 2)) (mg_ac (mk_br m i) i) := (if_pos (by omega)).symm
          refine ar_aload_n kd_M_byRule_29 rfl ?_
          refine ar_get (ci := 5) (k := 15) kd_M_byRule_30 rfl kw_634 (by decide) rfl rfl ?_
          refine ar_iload_n kd_M_byRule_33 rfl ?_
          refine az_iald kd_M_byRule_34 rfl (k := i) (by omega) (by omega) ?_
          refine ar_goto (tg := 48) kd_M_byRule_35 (by decide) ?_
          refine az_top ez ?_
          refine ar_istore_n kd_M_byRule_48 (Nat.le_of_ble_eq_true rfl) rfl ?_
          dsimp only [List.set]
          refine ar_aload_n kd_M_byRule_49 rfl ?_
          refine ar_get (ci := 5) (k := 17) kd_M_byRule_50 rfl kw_636 (by decide) rfl rfl ?_
          refine ar_iload_n kd_M_byRule_53 rfl ?_
          refine ar_iconst kd_M_byRule_54 ?_
          refine ar_iload_n kd_M_byRule_55 rfl ?_
          refine ar_ishl kd_M_byRule_56 ?_
          rw [show iI (zn (mg_rl (mk_br m i) (4 * i + 2)) (mg_ac (mk_br m i) i)) = iI (((zn (mg_rl (mk_br m i) (4 * i + 2)) (mg_ac (mk_br m i) i)).toNat : Nat) : Int) from congrArg iI (Int.toNat_of_nonneg hz.1).symm, ib_shl (by omega)]
          refine ar_iconst kd_M_byRule_57 ?_
          refine az_isub kd_M_byRule_58 ?_
          rw [show ((2 ^ (zn (mg_rl (mk_br m i) (4 * i + 2)) (mg_ac (mk_br m i) i)).toNat : Nat) : Int) - 1 = ((mk_r3 (mk_br m i) i : Nat) : Int) by unfold mk_r3; omega]
          refine az_iast kd_M_byRule_59 rfl rfl (k := i) (by omega) (by omega) ?_
          rw [hv_bs]
          refine az_iinc kd_M_byRule_60 rfl rfl ?_
          dsimp only [List.set]
          refine ar_goto (tg := 2) kd_M_byRule_63 (by decide) ?_
          exact ih (i + 1) (by omega) (by omega) _
  refine ar_iconst kd_M_byRule_0 ?_
  refine ar_istore_n kd_M_byRule_1 (Nat.le_of_ble_eq_true rfl) rfl ?_
  dsimp only [List.set]
  exact loop (mg_nL m + 1) 0 (by omega) (by omega) _
def m01 : mS := (0, 0, fun _ => 0, fun _ => 0, fun _ => 0, fun _ => 0, 0, fun _ => 0, fun _ => 0, fun _ => 0, fun _ => 0, fun _ => iI 0, fun _ => 0, 0, fun _ => 0, fun _ => 0, fun _ => 0, fun _ => 0, fun _ => 0, fun _ => 0, fun _ => 0)
/-- the reference at its start -/
def m00 (i : Nat) : mS := ms_tl m01 (zf (fun F k => zu F k (-1)) (fun _ => 0) i)
theorem tl_tl (m : mS) (v : Nat → Int) : mg_tl (ms_tl m v) = v := rfl
theorem hv_m00 {x : am_C} {c : cS} {t : List am_C} (i : Nat) : hC x c (hM (ms_tl (m00 i) (zu (mg_tl (m00 i)) i (-1))) t) = hC x c (hM (m00 (i + 1)) t) := rfl
set_option maxHeartbeats 1000000 in
set_option maxRecDepth 20000 in
theorem sp_M_init {d : Nat} {x : am_C} {c : cS} : am_W d km_M_init 0 [some (.ref 50), none] [] (hC x c [am_ob 5 [.int 0, .int 0, .null, .null, .null, .null, .int 0, .null, .null, .null, .null, .null, .null, .int 0, .null, .null, .null, .null, .null, .null, .null]]) 51 0 0 (am_eq none (hC x c (hM (m00 48) [])) 68) := by
  have loop : ∀ (f i : Nat), i ≤ 48 → 48 - i < f → am_W d km_M_init 142 [some (.ref 50), some (.int (iI i))] [] (hC x c (hM (m00 i) [])) 68 17 389 (am_eq none (hC x c (hM (m00 48) [])) 68) := by
    intro f
    induction f with
    | zero => intro i h1 h2; omega
    | succ f ih =>
      intro i h1 h2
      refine ar_iload_n kd_M_init_142 rfl ?_
      refine az_bipush kd_M_init_143 (by decide) ?_
      refine az_icmp_ge (tg := 161) kd_M_init_145 (by decide) (fun q1 => ?_) (fun q1 => ?_)
      · obtain rfl : i = 48 := by omega
        refine ar_return kd_M_init_161 rfl (Nat.le_of_ble_eq_true rfl) (Nat.le_of_ble_eq_true rfl) ?_
        exact ⟨rfl, rfl, rfl⟩
      · refine ar_aload_n kd_M_init_148 rfl ?_
        refine ar_get (ci := 5) (k := 10) kd_M_init_149 rfl kw_629 (by decide) rfl rfl ?_
        refine ar_iload_n kd_M_init_152 rfl ?_
        refine ar_iconst kd_M_init_153 ?_
        refine az_iast kd_M_init_154 rfl rfl (k := i) (by omega) (by omega) ?_
        rw [hv_tl]
        rw [hv_m00]
        refine az_iinc kd_M_init_155 rfl rfl ?_
        dsimp only [List.set]
        refine ar_goto (tg := 142) kd_M_init_158 (by decide) ?_
        exact ih (i + 1) (by omega) (by omega)
  refine ar_aload_n kd_M_init_0 rfl ?_
  refine ar_obj kd_M_init_1 kw_618 rfl (Nat.le_of_ble_eq_true rfl) ?_
  refine ar_aload_n kd_M_init_4 rfl ?_
  refine az_bipush kd_M_init_5 (by decide) ?_
  refine ar_newi (N := 8) kd_M_init_7 (by decide) (by decide) (by decide) rfl (Nat.le_of_ble_eq_true rfl) (Nat.le_of_ble_eq_true rfl) ?_
  refine ar_heap (h' := hC x c [am_ob 5 [.int 0, .int 0, .null, .null, .null, .null, .int 0, .null, .null, .null, .null, .null, .null, .int 0, .null, .null, .null, .null, .null, .null, .null], am_ia 8 (fun _ => 0)]) rfl ?_
  refine ar_putF (ci := 5) (k := 2) kd_M_init_9 rfl kw_621 (by decide) rfl rfl rfl (Nat.le_of_ble_eq_true rfl) rfl (Nat.le_of_ble_eq_true rfl) (fun _ => rfl) (fun _ => rfl) ?_
  refine ar_heap (h' := hC x c [am_ob 5 [.int 0, .int 0, .ref 51, .null, .null, .null, .int 0, .null, .null, .null, .null, .null, .null, .int 0, .null, .null, .null, .null, .null, .null, .null], am_ia 8 (fun _ => 0)]) rfl ?_
  refine ar_aload_n kd_M_init_12 rfl ?_
  refine az_bipush kd_M_init_13 (by decide) ?_
  refine ar_newi (N := 8) kd_M_init_15 (by decide) (by decide) (by decide) rfl (Nat.le_of_ble_eq_true rfl) (Nat.le_of_ble_eq_true rfl) ?_
  refine ar_heap (h' := hC x c [am_ob 5 [.int 0, .int 0, .ref 51, .null, .null, .null, .int 0, .null, .null, .null, .null, .null, .null, .int 0, .null, .null, .null, .null, .null, .null, .null], am_ia 8 (fun _ => 0), am_ia 8 (fun _ => 0)]) rfl ?_
  refine ar_putF (ci := 5) (k := 3) kd_M_init_17 rfl kw_622 (by decide) rfl rfl rfl (Nat.le_of_ble_eq_true rfl) rfl (Nat.le_of_ble_eq_true rfl) (fun _ => rfl) (fun _ => rfl) ?_
  refine ar_heap (h' := hC x c [am_ob 5 [.int 0, .int 0, .ref 51, .ref 52, .null, .null, .int 0, .null, .null, .null, .null, .null, .null, .int 0, .null, .null, .null, .null, .null, .null, .null], am_ia 8 (fun _ => 0), am_ia 8 (fun _ => 0)]) rfl ?_
  refine ar_aload_n kd_M_init_20 rfl ?_
  refine az_bipush kd_M_init_21 (by decide) ?_
  refine ar_newi (N := 8) kd_M_init_23 (by decide) (by decide) (by decide) rfl (Nat.le_of_ble_eq_true rfl) (Nat.le_of_ble_eq_true rfl) ?_
  refine ar_heap (h' := hC x c [am_ob 5 [.int 0, .int 0, .ref 51, .ref 52, .null, .null, .int 0, .null, .null, .null, .null, .null, .null, .int 0, .null, .null, .null, .null, .null, .null, .null], am_ia 8 (fun _ => 0), am_ia 8 (fun _ => 0), am_ia 8 (fun _ => 0)]) rfl ?_
  refine ar_putF (ci := 5) (k := 4) kd_M_init_25 rfl kw_623 (by decide) rfl rfl rfl (Nat.le_of_ble_eq_true rfl) rfl (Nat.le_of_ble_eq_true rfl) (fun _ => rfl) (fun _ => rfl) ?_
  refine ar_heap (h' := hC x c [am_ob 5 [.int 0, .int 0, .ref 51, .ref 52, .ref 53, .null, .int 0, .null, .null, .null, .null, .null, .null, .int 0, .null, .null, .null, .null, .null, .null, .null], am_ia 8 (fun _ => 0), am_ia 8 (fun _ => 0), am_ia 8 (fun _ => 0)]) rfl ?_
  refine ar_aload_n kd_M_init_28 rfl ?_
  refine az_bipush kd_M_init_29 (by decide) ?_
  refine ar_newi (N := 8) kd_M_init_31 (by decide) (by decide) (by decide) rfl (Nat.le_of_ble_eq_true rfl) (Nat.le_of_ble_eq_true rfl) ?_
  refine ar_heap (h' := hC x c [am_ob 5 [.int 0, .int 0, .ref 51, .ref 52, .ref 53, .null, .int 0, .null, .null, .null, .null, .null, .null, .int 0, .null, .null, .null, .null, .null, .null, .null], am_ia 8 (fun _ => 0), am_ia 8 (fun _ => 0), am_ia 8 (fun _ => 0), am_ia 8 (fun _ => 0)]) rfl ?_
  refine ar_putF (ci := 5) (k := 5) kd_M_init_33 rfl kw_624 (by decide) rfl rfl rfl (Nat.le_of_ble_eq_true rfl) rfl (Nat.le_of_ble_eq_true rfl) (fun _ => rfl) (fun _ => rfl) ?_
  refine ar_heap (h' := hC x c [am_ob 5 [.int 0, .int 0, .ref 51, .ref 52, .ref 53, .ref 54, .int 0, .null, .null, .null, .null, .null, .null, .int 0, .null, .null, .null, .null, .null, .null, .null], am_ia 8 (fun _ => 0), am_ia 8 (fun _ => 0), am_ia 8 (fun _ => 0), am_ia 8 (fun _ => 0)]) rfl ?_
  refine ar_aload_n kd_M_init_36 rfl ?_
  refine az_bipush kd_M_init_37 (by decide) ?_
  refine ar_newi (N := 6) kd_M_init_39 (by decide) (by decide) (by decide) rfl (Nat.le_of_ble_eq_true rfl) (Nat.le_of_ble_eq_true rfl) ?_
  refine ar_heap (h' := hC x c [am_ob 5 [.int 0, .int 0, .ref 51, .ref 52, .ref 53, .ref 54, .int 0, .null, .null, .null, .null, .null, .null, .int 0, .null, .null, .null, .null, .null, .null, .null], am_ia 8 (fun _ => 0), am_ia 8 (fun _ => 0), am_ia 8 (fun _ => 0), am_ia 8 (fun _ => 0), am_ia 6 (fun _ => 0)]) rfl ?_
  refine ar_putF (ci := 5) (k := 7) kd_M_init_41 rfl kw_626 (by decide) rfl rfl rfl (Nat.le_of_ble_eq_true rfl) rfl (Nat.le_of_ble_eq_true rfl) (fun _ => rfl) (fun _ => rfl) ?_
  refine ar_heap (h' := hC x c [am_ob 5 [.int 0, .int 0, .ref 51, .ref 52, .ref 53, .ref 54, .int 0, .ref 55, .null, .null, .null, .null, .null, .int 0, .null, .null, .null, .null, .null, .null, .null], am_ia 8 (fun _ => 0), am_ia 8 (fun _ => 0), am_ia 8 (fun _ => 0), am_ia 8 (fun _ => 0), am_ia 6 (fun _ => 0)]) rfl ?_
  refine ar_aload_n kd_M_init_44 rfl ?_
  refine az_bipush kd_M_init_45 (by decide) ?_
  refine ar_newi (N := 6) kd_M_init_47 (by decide) (by decide) (by decide) rfl (Nat.le_of_ble_eq_true rfl) (Nat.le_of_ble_eq_true rfl) ?_
  refine ar_heap (h' := hC x c [am_ob 5 [.int 0, .int 0, .ref 51, .ref 52, .ref 53, .ref 54, .int 0, .ref 55, .null, .null, .null, .null, .null, .int 0, .null, .null, .null, .null, .null, .null, .null], am_ia 8 (fun _ => 0), am_ia 8 (fun _ => 0), am_ia 8 (fun _ => 0), am_ia 8 (fun _ => 0), am_ia 6 (fun _ => 0), am_ia 6 (fun _ => 0)]) rfl ?_
  refine ar_putF (ci := 5) (k := 8) kd_M_init_49 rfl kw_627 (by decide) rfl rfl rfl (Nat.le_of_ble_eq_true rfl) rfl (Nat.le_of_ble_eq_true rfl) (fun _ => rfl) (fun _ => rfl) ?_
  refine ar_heap (h' := hC x c [am_ob 5 [.int 0, .int 0, .ref 51, .ref 52, .ref 53, .ref 54, .int 0, .ref 55, .ref 56, .null, .null, .null, .null, .int 0, .null, .null, .null, .null, .null, .null, .null], am_ia 8 (fun _ => 0), am_ia 8 (fun _ => 0), am_ia 8 (fun _ => 0), am_ia 8 (fun _ => 0), am_ia 6 (fun _ => 0), am_ia 6 (fun _ => 0)]) rfl ?_
  refine ar_aload_n kd_M_init_52 rfl ?_
  refine az_bipush kd_M_init_53 (by decide) ?_
  refine ar_newi (N := 24) kd_M_init_55 (by decide) (by decide) (by decide) rfl (Nat.le_of_ble_eq_true rfl) (Nat.le_of_ble_eq_true rfl) ?_
  refine ar_heap (h' := hC x c [am_ob 5 [.int 0, .int 0, .ref 51, .ref 52, .ref 53, .ref 54, .int 0, .ref 55, .ref 56, .null, .null, .null, .null, .int 0, .null, .null, .null, .null, .null, .null, .null], am_ia 8 (fun _ => 0), am_ia 8 (fun _ => 0), am_ia 8 (fun _ => 0), am_ia 8 (fun _ => 0), am_ia 6 (fun _ => 0), am_ia 6 (fun _ => 0), am_ia 24 (fun _ => 0)]) rfl ?_
  refine ar_putF (ci := 5) (k := 9) kd_M_init_57 rfl kw_628 (by decide) rfl rfl rfl (Nat.le_of_ble_eq_true rfl) rfl (Nat.le_of_ble_eq_true rfl) (fun _ => rfl) (fun _ => rfl) ?_
  refine ar_heap (h' := hC x c [am_ob 5 [.int 0, .int 0, .ref 51, .ref 52, .ref 53, .ref 54, .int 0, .ref 55, .ref 56, .ref 57, .null, .null, .null, .int 0, .null, .null, .null, .null, .null, .null, .null], am_ia 8 (fun _ => 0), am_ia 8 (fun _ => 0), am_ia 8 (fun _ => 0), am_ia 8 (fun _ => 0), am_ia 6 (fun _ => 0), am_ia 6 (fun _ => 0), am_ia 24 (fun _ => 0)]) rfl ?_
  refine ar_aload_n kd_M_init_60 rfl ?_
  refine az_bipush kd_M_init_61 (by decide) ?_
  refine ar_newi (N := 48) kd_M_init_63 (by decide) (by decide) (by decide) rfl (Nat.le_of_ble_eq_true rfl) (Nat.le_of_ble_eq_true rfl) ?_
  refine ar_heap (h' := hC x c [am_ob 5 [.int 0, .int 0, .ref 51, .ref 52, .ref 53, .ref 54, .int 0, .ref 55, .ref 56, .ref 57, .null, .null, .null, .int 0, .null, .null, .null, .null, .null, .null, .null], am_ia 8 (fun _ => 0), am_ia 8 (fun _ => 0), am_ia 8 (fun _ => 0), am_ia 8 (fun _ => 0), am_ia 6 (fun _ => 0), am_ia 6 (fun _ => 0), am_ia 24 (fun _ => 0), am_ia 48 (fun _ => 0)]) rfl ?_
  refine ar_putF (ci := 5) (k := 10) kd_M_init_65 rfl kw_629 (by decide) rfl rfl rfl (Nat.le_of_ble_eq_true rfl) rfl (Nat.le_of_ble_eq_true rfl) (fun _ => rfl) (fun _ => rfl) ?_
  refine ar_heap (h' := hC x c [am_ob 5 [.int 0, .int 0, .ref 51, .ref 52, .ref 53, .ref 54, .int 0, .ref 55, .ref 56, .ref 57, .ref 58, .null, .null, .int 0, .null, .null, .null, .null, .null, .null, .null], am_ia 8 (fun _ => 0), am_ia 8 (fun _ => 0), am_ia 8 (fun _ => 0), am_ia 8 (fun _ => 0), am_ia 6 (fun _ => 0), am_ia 6 (fun _ => 0), am_ia 24 (fun _ => 0), am_ia 48 (fun _ => 0)]) rfl ?_
  refine ar_aload_n kd_M_init_68 rfl ?_
  refine az_bipush kd_M_init_69 (by decide) ?_
  refine ar_newz (N := 48) kd_M_init_71 (by decide) (by decide) (by decide) rfl (Nat.le_of_ble_eq_true rfl) (Nat.le_of_ble_eq_true rfl) ?_
  refine ar_heap (h' := hC x c [am_ob 5 [.int 0, .int 0, .ref 51, .ref 52, .ref 53, .ref 54, .int 0, .ref 55, .ref 56, .ref 57, .ref 58, .null, .null, .int 0, .null, .null, .null, .null, .null, .null, .null], am_ia 8 (fun _ => 0), am_ia 8 (fun _ => 0), am_ia 8 (fun _ => 0), am_ia 8 (fun _ => 0), am_ia 6 (fun _ => 0), am_ia 6 (fun _ => 0), am_ia 24 (fun _ => 0), am_ia 48 (fun _ => 0), am_za 48 (fun _ => 0)]) rfl ?_
  refine ar_putF (ci := 5) (k := 11) kd_M_init_73 rfl kw_630 (by decide) rfl rfl rfl (Nat.le_of_ble_eq_true rfl) rfl (Nat.le_of_ble_eq_true rfl) (fun _ => rfl) (fun _ => rfl) ?_
  refine ar_heap (h' := hC x c [am_ob 5 [.int 0, .int 0, .ref 51, .ref 52, .ref 53, .ref 54, .int 0, .ref 55, .ref 56, .ref 57, .ref 58, .ref 59, .null, .int 0, .null, .null, .null, .null, .null, .null, .null], am_ia 8 (fun _ => 0), am_ia 8 (fun _ => 0), am_ia 8 (fun _ => 0), am_ia 8 (fun _ => 0), am_ia 6 (fun _ => 0), am_ia 6 (fun _ => 0), am_ia 24 (fun _ => 0), am_ia 48 (fun _ => 0), am_za 48 (fun _ => 0)]) rfl ?_
  refine ar_aload_n kd_M_init_76 rfl ?_
  refine az_bipush kd_M_init_77 (by decide) ?_
  refine ar_newi (N := 48) kd_M_init_79 (by decide) (by decide) (by decide) rfl (Nat.le_of_ble_eq_true rfl) (Nat.le_of_ble_eq_true rfl) ?_
  refine ar_heap (h' := hC x c [am_ob 5 [.int 0, .int 0, .ref 51, .ref 52, .ref 53, .ref 54, .int 0, .ref 55, .ref 56, .ref 57, .ref 58, .ref 59, .null, .int 0, .null, .null, .null, .null, .null, .null, .null], am_ia 8 (fun _ => 0), am_ia 8 (fun _ => 0), am_ia 8 (fun _ => 0), am_ia 8 (fun _ => 0), am_ia 6 (fun _ => 0), am_ia 6 (fun _ => 0), am_ia 24 (fun _ => 0), am_ia 48 (fun _ => 0), am_za 48 (fun _ => 0), am_ia 48 (fun _ => 0)]) rfl ?_
  refine ar_putF (ci := 5) (k := 12) kd_M_init_81 rfl kw_631 (by decide) rfl rfl rfl (Nat.le_of_ble_eq_true rfl) rfl (Nat.le_of_ble_eq_true rfl) (fun _ => rfl) (fun _ => rfl) ?_
  refine ar_heap (h' := hC x c [am_ob 5 [.int 0, .int 0, .ref 51, .ref 52, .ref 53, .ref 54, .int 0, .ref 55, .ref 56, .ref 57, .ref 58, .ref 59, .ref 60, .int 0, .null, .null, .null, .null, .null, .null, .null], am_ia 8 (fun _ => 0), am_ia 8 (fun _ => 0), am_ia 8 (fun _ => 0), am_ia 8 (fun _ => 0), am_ia 6 (fun _ => 0), am_ia 6 (fun _ => 0), am_ia 24 (fun _ => 0), am_ia 48 (fun _ => 0), am_za 48 (fun _ => 0), am_ia 48 (fun _ => 0)]) rfl ?_
  refine ar_aload_n kd_M_init_84 rfl ?_
  refine az_bipush kd_M_init_85 (by decide) ?_
  refine ar_newi (N := 48) kd_M_init_87 (by decide) (by decide) (by decide) rfl (Nat.le_of_ble_eq_true rfl) (Nat.le_of_ble_eq_true rfl) ?_
  refine ar_heap (h' := hC x c [am_ob 5 [.int 0, .int 0, .ref 51, .ref 52, .ref 53, .ref 54, .int 0, .ref 55, .ref 56, .ref 57, .ref 58, .ref 59, .ref 60, .int 0, .null, .null, .null, .null, .null, .null, .null], am_ia 8 (fun _ => 0), am_ia 8 (fun _ => 0), am_ia 8 (fun _ => 0), am_ia 8 (fun _ => 0), am_ia 6 (fun _ => 0), am_ia 6 (fun _ => 0), am_ia 24 (fun _ => 0), am_ia 48 (fun _ => 0), am_za 48 (fun _ => 0), am_ia 48 (fun _ => 0), am_ia 48 (fun _ => 0)]) rfl ?_
  refine ar_putF (ci := 5) (k := 14) kd_M_init_89 rfl kw_633 (by decide) rfl rfl rfl (Nat.le_of_ble_eq_true rfl) rfl (Nat.le_of_ble_eq_true rfl) (fun _ => rfl) (fun _ => rfl) ?_
  refine ar_heap (h' := hC x c [am_ob 5 [.int 0, .int 0, .ref 51, .ref 52, .ref 53, .ref 54, .int 0, .ref 55, .ref 56, .ref 57, .ref 58, .ref 59, .ref 60, .int 0, .ref 61, .null, .null, .null, .null, .null, .null], am_ia 8 (fun _ => 0), am_ia 8 (fun _ => 0), am_ia 8 (fun _ => 0), am_ia 8 (fun _ => 0), am_ia 6 (fun _ => 0), am_ia 6 (fun _ => 0), am_ia 24 (fun _ => 0), am_ia 48 (fun _ => 0), am_za 48 (fun _ => 0), am_ia 48 (fun _ => 0), am_ia 48 (fun _ => 0)]) rfl ?_
  refine ar_aload_n kd_M_init_92 rfl ?_
  refine az_bipush kd_M_init_93 (by decide) ?_
  refine ar_newi (N := 6) kd_M_init_95 (by decide) (by decide) (by decide) rfl (Nat.le_of_ble_eq_true rfl) (Nat.le_of_ble_eq_true rfl) ?_
  refine ar_heap (h' := hC x c [am_ob 5 [.int 0, .int 0, .ref 51, .ref 52, .ref 53, .ref 54, .int 0, .ref 55, .ref 56, .ref 57, .ref 58, .ref 59, .ref 60, .int 0, .ref 61, .null, .null, .null, .null, .null, .null], am_ia 8 (fun _ => 0), am_ia 8 (fun _ => 0), am_ia 8 (fun _ => 0), am_ia 8 (fun _ => 0), am_ia 6 (fun _ => 0), am_ia 6 (fun _ => 0), am_ia 24 (fun _ => 0), am_ia 48 (fun _ => 0), am_za 48 (fun _ => 0), am_ia 48 (fun _ => 0), am_ia 48 (fun _ => 0), am_ia 6 (fun _ => 0)]) rfl ?_
  refine ar_putF (ci := 5) (k := 15) kd_M_init_97 rfl kw_634 (by decide) rfl rfl rfl (Nat.le_of_ble_eq_true rfl) rfl (Nat.le_of_ble_eq_true rfl) (fun _ => rfl) (fun _ => rfl) ?_
  refine ar_heap (h' := hC x c [am_ob 5 [.int 0, .int 0, .ref 51, .ref 52, .ref 53, .ref 54, .int 0, .ref 55, .ref 56, .ref 57, .ref 58, .ref 59, .ref 60, .int 0, .ref 61, .ref 62, .null, .null, .null, .null, .null], am_ia 8 (fun _ => 0), am_ia 8 (fun _ => 0), am_ia 8 (fun _ => 0), am_ia 8 (fun _ => 0), am_ia 6 (fun _ => 0), am_ia 6 (fun _ => 0), am_ia 24 (fun _ => 0), am_ia 48 (fun _ => 0), am_za 48 (fun _ => 0), am_ia 48 (fun _ => 0), am_ia 48 (fun _ => 0), am_ia 6 (fun _ => 0)]) rfl ?_
  refine ar_aload_n kd_M_init_100 rfl ?_
  refine az_bipush kd_M_init_101 (by decide) ?_
  refine ar_newi (N := 6) kd_M_init_103 (by decide) (by decide) (by decide) rfl (Nat.le_of_ble_eq_true rfl) (Nat.le_of_ble_eq_true rfl) ?_
  refine ar_heap (h' := hC x c [am_ob 5 [.int 0, .int 0, .ref 51, .ref 52, .ref 53, .ref 54, .int 0, .ref 55, .ref 56, .ref 57, .ref 58, .ref 59, .ref 60, .int 0, .ref 61, .ref 62, .null, .null, .null, .null, .null], am_ia 8 (fun _ => 0), am_ia 8 (fun _ => 0), am_ia 8 (fun _ => 0), am_ia 8 (fun _ => 0), am_ia 6 (fun _ => 0), am_ia 6 (fun _ => 0), am_ia 24 (fun _ => 0), am_ia 48 (fun _ => 0), am_za 48 (fun _ => 0), am_ia 48 (fun _ => 0), am_ia 48 (fun _ => 0), am_ia 6 (fun _ => 0), am_ia 6 (fun _ => 0)]) rfl ?_
  refine ar_putF (ci := 5) (k := 16) kd_M_init_105 rfl kw_635 (by decide) rfl rfl rfl (Nat.le_of_ble_eq_true rfl) rfl (Nat.le_of_ble_eq_true rfl) (fun _ => rfl) (fun _ => rfl) ?_
  refine ar_heap (h' := hC x c [am_ob 5 [.int 0, .int 0, .ref 51, .ref 52, .ref 53, .ref 54, .int 0, .ref 55, .ref 56, .ref 57, .ref 58, .ref 59, .ref 60, .int 0, .ref 61, .ref 62, .ref 63, .null, .null, .null, .null], am_ia 8 (fun _ => 0), am_ia 8 (fun _ => 0), am_ia 8 (fun _ => 0), am_ia 8 (fun _ => 0), am_ia 6 (fun _ => 0), am_ia 6 (fun _ => 0), am_ia 24 (fun _ => 0), am_ia 48 (fun _ => 0), am_za 48 (fun _ => 0), am_ia 48 (fun _ => 0), am_ia 48 (fun _ => 0), am_ia 6 (fun _ => 0), am_ia 6 (fun _ => 0)]) rfl ?_
  refine ar_aload_n kd_M_init_108 rfl ?_
  refine az_bipush kd_M_init_109 (by decide) ?_
  refine ar_newi (N := 6) kd_M_init_111 (by decide) (by decide) (by decide) rfl (Nat.le_of_ble_eq_true rfl) (Nat.le_of_ble_eq_true rfl) ?_
  refine ar_heap (h' := hC x c [am_ob 5 [.int 0, .int 0, .ref 51, .ref 52, .ref 53, .ref 54, .int 0, .ref 55, .ref 56, .ref 57, .ref 58, .ref 59, .ref 60, .int 0, .ref 61, .ref 62, .ref 63, .null, .null, .null, .null], am_ia 8 (fun _ => 0), am_ia 8 (fun _ => 0), am_ia 8 (fun _ => 0), am_ia 8 (fun _ => 0), am_ia 6 (fun _ => 0), am_ia 6 (fun _ => 0), am_ia 24 (fun _ => 0), am_ia 48 (fun _ => 0), am_za 48 (fun _ => 0), am_ia 48 (fun _ => 0), am_ia 48 (fun _ => 0), am_ia 6 (fun _ => 0), am_ia 6 (fun _ => 0), am_ia 6 (fun _ => 0)]) rfl ?_
  refine ar_putF (ci := 5) (k := 17) kd_M_init_113 rfl kw_636 (by decide) rfl rfl rfl (Nat.le_of_ble_eq_true rfl) rfl (Nat.le_of_ble_eq_true rfl) (fun _ => rfl) (fun _ => rfl) ?_
  refine ar_heap (h' := hC x c [am_ob 5 [.int 0, .int 0, .ref 51, .ref 52, .ref 53, .ref 54, .int 0, .ref 55, .ref 56, .ref 57, .ref 58, .ref 59, .ref 60, .int 0, .ref 61, .ref 62, .ref 63, .ref 64, .null, .null, .null], am_ia 8 (fun _ => 0), am_ia 8 (fun _ => 0), am_ia 8 (fun _ => 0), am_ia 8 (fun _ => 0), am_ia 6 (fun _ => 0), am_ia 6 (fun _ => 0), am_ia 24 (fun _ => 0), am_ia 48 (fun _ => 0), am_za 48 (fun _ => 0), am_ia 48 (fun _ => 0), am_ia 48 (fun _ => 0), am_ia 6 (fun _ => 0), am_ia 6 (fun _ => 0), am_ia 6 (fun _ => 0)]) rfl ?_
  refine ar_aload_n kd_M_init_116 rfl ?_
  refine az_bipush kd_M_init_117 (by decide) ?_
  refine ar_newi (N := 56) kd_M_init_119 (by decide) (by decide) (by decide) rfl (Nat.le_of_ble_eq_true rfl) (Nat.le_of_ble_eq_true rfl) ?_
  refine ar_heap (h' := hC x c [am_ob 5 [.int 0, .int 0, .ref 51, .ref 52, .ref 53, .ref 54, .int 0, .ref 55, .ref 56, .ref 57, .ref 58, .ref 59, .ref 60, .int 0, .ref 61, .ref 62, .ref 63, .ref 64, .null, .null, .null], am_ia 8 (fun _ => 0), am_ia 8 (fun _ => 0), am_ia 8 (fun _ => 0), am_ia 8 (fun _ => 0), am_ia 6 (fun _ => 0), am_ia 6 (fun _ => 0), am_ia 24 (fun _ => 0), am_ia 48 (fun _ => 0), am_za 48 (fun _ => 0), am_ia 48 (fun _ => 0), am_ia 48 (fun _ => 0), am_ia 6 (fun _ => 0), am_ia 6 (fun _ => 0), am_ia 6 (fun _ => 0), am_ia 56 (fun _ => 0)]) rfl ?_
  refine ar_putF (ci := 5) (k := 18) kd_M_init_121 rfl kw_637 (by decide) rfl rfl rfl (Nat.le_of_ble_eq_true rfl) rfl (Nat.le_of_ble_eq_true rfl) (fun _ => rfl) (fun _ => rfl) ?_
  refine ar_heap (h' := hC x c [am_ob 5 [.int 0, .int 0, .ref 51, .ref 52, .ref 53, .ref 54, .int 0, .ref 55, .ref 56, .ref 57, .ref 58, .ref 59, .ref 60, .int 0, .ref 61, .ref 62, .ref 63, .ref 64, .ref 65, .null, .null], am_ia 8 (fun _ => 0), am_ia 8 (fun _ => 0), am_ia 8 (fun _ => 0), am_ia 8 (fun _ => 0), am_ia 6 (fun _ => 0), am_ia 6 (fun _ => 0), am_ia 24 (fun _ => 0), am_ia 48 (fun _ => 0), am_za 48 (fun _ => 0), am_ia 48 (fun _ => 0), am_ia 48 (fun _ => 0), am_ia 6 (fun _ => 0), am_ia 6 (fun _ => 0), am_ia 6 (fun _ => 0), am_ia 56 (fun _ => 0)]) rfl ?_
  refine ar_aload_n kd_M_init_124 rfl ?_
  refine az_bipush kd_M_init_125 (by decide) ?_
  refine ar_newi (N := 7) kd_M_init_127 (by decide) (by decide) (by decide) rfl (Nat.le_of_ble_eq_true rfl) (Nat.le_of_ble_eq_true rfl) ?_
  refine ar_heap (h' := hC x c [am_ob 5 [.int 0, .int 0, .ref 51, .ref 52, .ref 53, .ref 54, .int 0, .ref 55, .ref 56, .ref 57, .ref 58, .ref 59, .ref 60, .int 0, .ref 61, .ref 62, .ref 63, .ref 64, .ref 65, .null, .null], am_ia 8 (fun _ => 0), am_ia 8 (fun _ => 0), am_ia 8 (fun _ => 0), am_ia 8 (fun _ => 0), am_ia 6 (fun _ => 0), am_ia 6 (fun _ => 0), am_ia 24 (fun _ => 0), am_ia 48 (fun _ => 0), am_za 48 (fun _ => 0), am_ia 48 (fun _ => 0), am_ia 48 (fun _ => 0), am_ia 6 (fun _ => 0), am_ia 6 (fun _ => 0), am_ia 6 (fun _ => 0), am_ia 56 (fun _ => 0), am_ia 7 (fun _ => 0)]) rfl ?_
  refine ar_putF (ci := 5) (k := 19) kd_M_init_129 rfl kw_638 (by decide) rfl rfl rfl (Nat.le_of_ble_eq_true rfl) rfl (Nat.le_of_ble_eq_true rfl) (fun _ => rfl) (fun _ => rfl) ?_
  refine ar_heap (h' := hC x c [am_ob 5 [.int 0, .int 0, .ref 51, .ref 52, .ref 53, .ref 54, .int 0, .ref 55, .ref 56, .ref 57, .ref 58, .ref 59, .ref 60, .int 0, .ref 61, .ref 62, .ref 63, .ref 64, .ref 65, .ref 66, .null], am_ia 8 (fun _ => 0), am_ia 8 (fun _ => 0), am_ia 8 (fun _ => 0), am_ia 8 (fun _ => 0), am_ia 6 (fun _ => 0), am_ia 6 (fun _ => 0), am_ia 24 (fun _ => 0), am_ia 48 (fun _ => 0), am_za 48 (fun _ => 0), am_ia 48 (fun _ => 0), am_ia 48 (fun _ => 0), am_ia 6 (fun _ => 0), am_ia 6 (fun _ => 0), am_ia 6 (fun _ => 0), am_ia 56 (fun _ => 0), am_ia 7 (fun _ => 0)]) rfl ?_
  refine ar_aload_n kd_M_init_132 rfl ?_
  refine az_bipush kd_M_init_133 (by decide) ?_
  refine ar_newi (N := 48) kd_M_init_135 (by decide) (by decide) (by decide) rfl (Nat.le_of_ble_eq_true rfl) (Nat.le_of_ble_eq_true rfl) ?_
  refine ar_heap (h' := hC x c [am_ob 5 [.int 0, .int 0, .ref 51, .ref 52, .ref 53, .ref 54, .int 0, .ref 55, .ref 56, .ref 57, .ref 58, .ref 59, .ref 60, .int 0, .ref 61, .ref 62, .ref 63, .ref 64, .ref 65, .ref 66, .null], am_ia 8 (fun _ => 0), am_ia 8 (fun _ => 0), am_ia 8 (fun _ => 0), am_ia 8 (fun _ => 0), am_ia 6 (fun _ => 0), am_ia 6 (fun _ => 0), am_ia 24 (fun _ => 0), am_ia 48 (fun _ => 0), am_za 48 (fun _ => 0), am_ia 48 (fun _ => 0), am_ia 48 (fun _ => 0), am_ia 6 (fun _ => 0), am_ia 6 (fun _ => 0), am_ia 6 (fun _ => 0), am_ia 56 (fun _ => 0), am_ia 7 (fun _ => 0), am_ia 48 (fun _ => 0)]) rfl ?_
  refine ar_putF (ci := 5) (k := 20) kd_M_init_137 rfl kw_639 (by decide) rfl rfl rfl (Nat.le_of_ble_eq_true rfl) rfl (Nat.le_of_ble_eq_true rfl) (fun _ => rfl) (fun _ => rfl) ?_
  refine ar_heap (h' := hC x c [am_ob 5 [.int 0, .int 0, .ref 51, .ref 52, .ref 53, .ref 54, .int 0, .ref 55, .ref 56, .ref 57, .ref 58, .ref 59, .ref 60, .int 0, .ref 61, .ref 62, .ref 63, .ref 64, .ref 65, .ref 66, .ref 67], am_ia 8 (fun _ => 0), am_ia 8 (fun _ => 0), am_ia 8 (fun _ => 0), am_ia 8 (fun _ => 0), am_ia 6 (fun _ => 0), am_ia 6 (fun _ => 0), am_ia 24 (fun _ => 0), am_ia 48 (fun _ => 0), am_za 48 (fun _ => 0), am_ia 48 (fun _ => 0), am_ia 48 (fun _ => 0), am_ia 6 (fun _ => 0), am_ia 6 (fun _ => 0), am_ia 6 (fun _ => 0), am_ia 56 (fun _ => 0), am_ia 7 (fun _ => 0), am_ia 48 (fun _ => 0)]) rfl ?_
  refine ar_heap (h' := hC x c (hM (m00 0) [])) rfl ?_
  refine ar_iconst kd_M_init_140 ?_
  refine ar_istore_n kd_M_init_141 (Nat.le_of_ble_eq_true rfl) rfl ?_
  dsimp only [List.set]
  exact loop 49 0 (by omega) (by omega)
