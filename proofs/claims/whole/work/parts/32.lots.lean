/-! changes of stock; new lots and lines -/
def ck_up (c : cS) (l k : Nat) : cS := if cg_rl c l 3 = 1 then ck_letGo c l else ck_move c l k (-zn (cg_gi c l k) (-cg_fr c k))
/-- the lines below m let go, the last first: the state, and how many had to -/
def ck_dn (k : Nat) : Nat → cS → Int → cS × Int
  | 0, c, s => (c, s)
  | m + 1, c, s => if cg_fr c k < 0 then (if 0 < cg_gi c m k then ck_dn k m (ck_up c m k) (s + 1) else ck_dn k m c s) else (c, s)
def ck_set (c : cS) (k : Nat) (z : Int) : cS := cs_pc (cs_fr c (zu (cg_fr c) k (cg_fr c k + (z - cg_pc c k)))) (zu (cg_pc c) k z)
set_option maxHeartbeats 1000000 in
set_option maxRecDepth 20000 in
theorem sp_F_giveUp {d : Nat} {x : am_C} {c : cS} {t : List am_C} {n : Nat} {l k : Nat} (hl : l < 6) (hk : k < 8) (hK : cK c) (hG : cG c) : am_W (d + 2) km_F_giveUp 0 [some (.ref 5), some (.int (iI l)), some (.int (iI k))] [] (hC x c t) n 0 0 (am_eq none (hC x (ck_up c l k) t) n) := by
  obtain ⟨hT, hL⟩ := hK.nn
  have h1 := hK.line hl
  have h2 := hG.gi hl hk
  have h3 := hG.fr hk
  refine ar_aload_n kd_F_giveUp_0 rfl ?_
  refine ar_get (ci := 1) (k := 1) kd_F_giveUp_1 rfl kw_120 (by decide) rfl rfl ?_
  refine ar_get (ci := 2) (k := 4) kd_F_giveUp_4 rfl kw_93 (by decide) rfl rfl ?_
  refine ar_iload_n kd_F_giveUp_7 rfl ?_
  refine az_aald kd_F_giveUp_8 rfl rfl (by omega) (if_pos (by omega)) ?_
  refine ar_iconst kd_F_giveUp_9 ?_
  refine az_iald kd_F_giveUp_10 (hr_rl (by omega)) (k := 3) rfl (by omega) ?_
  refine ar_iconst kd_F_giveUp_11 ?_
  refine az_icmp_ne (tg := 23) kd_F_giveUp_12 (by decide) (fun q1 => ?_) (fun q1 => ?_)
  · have e1 : ck_up c l k = ck_move c l k (-zn (cg_gi c l k) (-cg_fr c k)) := if_neg q1
    refine ar_aload_n kd_F_giveUp_23 rfl ?_
    refine ar_iload_n kd_F_giveUp_24 rfl ?_
    refine ar_iload_n kd_F_giveUp_25 rfl ?_
    refine ar_aload_n kd_F_giveUp_26 rfl ?_
    refine ar_get (ci := 1) (k := 1) kd_F_giveUp_27 rfl kw_120 (by decide) rfl rfl ?_
    refine ar_get (ci := 2) (k := 6) kd_F_giveUp_30 rfl kw_100 (by decide) rfl rfl ?_
    refine ar_iload_n kd_F_giveUp_33 rfl ?_
    refine az_aald kd_F_giveUp_34 rfl rfl (by omega) (if_pos (by omega)) ?_
    refine ar_iload_n kd_F_giveUp_35 rfl ?_
    refine az_iald kd_F_giveUp_36 (hr_gi (by omega)) rfl (by omega) ?_
    refine ar_aload_n kd_F_giveUp_37 rfl ?_
    refine ar_get (ci := 1) (k := 0) kd_F_giveUp_38 rfl kw_117 (by decide) rfl rfl ?_
    refine ar_get (ci := 3) (k := 5) kd_F_giveUp_41 rfl kw_51 (by decide) rfl rfl ?_
    refine ar_iload_n kd_F_giveUp_44 rfl ?_
    refine az_iald kd_F_giveUp_45 rfl rfl (by omega) ?_
    refine az_ineg kd_F_giveUp_46 ?_
    refine ar_min kd_F_giveUp_47 kw_216 kw_217 kw_13 kw_218 rfl (Nat.le_of_ble_eq_true rfl) (Nat.zero_le _) (Nat.zero_le _) ?_
    rw [ii_min (by omega) (by omega)]
    refine az_ineg kd_F_giveUp_50 ?_
    refine az_callv (z := km_F_move) (As := [_, _, _]) (ci := 1) kd_F_giveUp_51 kw_443 kw_444 rfl ks_F_move kz_F_move rfl rfl rfl rfl rfl (Nat.le_of_ble_eq_true rfl) (Nat.le_of_ble_eq_true rfl) rfl (sp_F_move (d := d + 1) hl hk) ?_
    refine ar_return kd_F_giveUp_54 rfl (Nat.le_of_ble_eq_true rfl) (Nat.le_of_ble_eq_true rfl) ?_
    exact ⟨rfl, by rw [e1], rfl⟩
  · have e1 : ck_up c l k = ck_letGo c l := if_pos q1
    refine ar_aload_n kd_F_giveUp_15 rfl ?_
    refine ar_iload_n kd_F_giveUp_16 rfl ?_
    refine az_callv (z := km_F_letGo) (As := [_]) (ci := 1) kd_F_giveUp_17 kw_439 kw_440 rfl ks_F_letGo kz_F_letGo rfl rfl rfl rfl rfl (Nat.le_of_ble_eq_true rfl) (Nat.le_of_ble_eq_true rfl) rfl (sp_F_letGo hl hK) ?_
    refine ar_goto (tg := 54) kd_F_giveUp_20 (by decide) ?_
    refine ar_return kd_F_giveUp_54 rfl (Nat.le_of_ble_eq_true rfl) (Nat.le_of_ble_eq_true rfl) ?_
    exact ⟨rfl, by rw [e1], rfl⟩
/-- the ranges stay, whoever lets go -/
def ck_stay (c : cS) (k : Nat) : Prop := ∀ (m : Nat) (c' : cS) (s : Int), m ≤ cg_nL c → (∃ s', ck_dn k (cg_nL c) c 0 = ck_dn k m c' s ∧ s' = s) → cK c' ∧ cG c' ∧ cg_nL c' = cg_nL c
