/-! the reference, on -/
/-- the lot at a place of the order -/
def mk_od (m : mS) (k : Nat) : Nat := (mk_at m k (mg_nT m) 0).toNat
def mO (m : mS) : Prop := ∀ k, k < mg_nT m → mk_at m k (mg_nT m) 0 = (mk_od m k : Int) ∧ mk_od m k < 8
def mk_gf (m : mS) (l : Nat) : Nat → Nat → Int → Int
  | 0, _, _ => -1
  | f + 1, k, b => if mg_ho m (8 * l + mk_od m k) = 0 then mk_gf m l f (k + 1) b else if b = 0 then (mk_od m k : Int) else mk_gf m l f (k + 1) (b - 1)
def mk_gift (m : mS) (l : Nat) (z : Int) : Int := if z < 0 then -1 else mk_gf m l (mg_nT m) 0 z
theorem mk_gf_rg {m : mS} (hO : mO m) (l : Nat) : ∀ (f k : Nat) (b : Int), k + f ≤ mg_nT m → -1 ≤ mk_gf m l f k b ∧ mk_gf m l f k b ≤ 7
  | 0, k, b, _ => by simp [mk_gf]
  | f + 1, k, b, h => by
    have h1 := hO k (by omega)
    have h2 := mk_gf_rg hO l f (k + 1) (b - 1) (by omega)
    have h3 := mk_gf_rg hO l f (k + 1) b (by omega)
    simp only [mk_gf]
    split
    · omega
    · split <;> omega
theorem mk_gift_rg {m : mS} (hO : mO m) (l : Nat) (z : Int) : -1 ≤ mk_gift m l z ∧ mk_gift m l z ≤ 7 := by
  unfold mk_gift
  split
  · omega
  · exact mk_gf_rg hO l (mg_nT m) 0 z (by omega)
theorem sp_M_lotAtO {d : Nat} {x : am_C} {c : cS} {m : mS} {t : List am_C} {n k : Nat} (hk : k < mg_nT m) (hO : mO m) (hK : mK m) : am_W (d + 1) km_M_lotAt 0 [some (.ref 50), some (.int (iI (k : Int))), none, none, none] [] (hC x c (hM m t)) n 0 0 (am_eq (some (.int (iI (mk_od m k : Int)))) (hC x c (hM m t)) n) := by
  have hT := hK.nn.1
  have h9 := sp_M_lotAt (d := d) (x := x) (c := c) (t := t) (n := n) (z := (k : Int)) (by omega) hK
  rw [(hO k hk).1] at h9
  exact h9
set_option maxHeartbeats 1000000 in
set_option maxRecDepth 20000 in
theorem sp_M_giftAt_p {d : Nat} {x : am_C} {c : cS} {m : mS} {t : List am_C} {n : Nat} {l : Nat} {z : Int} (hl : l < 6) (hz0 : 0 ≤ z) (hz : -2147483648 ≤ z ∧ z < 2147483648) (hK : mK m) (hO : mO m) : am_W (d + 2) km_M_giftAt 0 [some (.ref 50), some (.int (iI l)), some (.int (iI z)), none, none, none] [] (hC x c (hM m t)) n 0 0 (am_eq (some (.int (iI (mk_gift m l z)))) (hC x c (hM m t)) n) := by
  obtain ⟨hT, hL⟩ := hK.nn
  have loop : ∀ (f i : Nat), i ≤ mg_nT m → mg_nT m - i < f → ∀ (b : Int) (w : Option Value), 0 ≤ b → b ≤ z → mk_gift m l z = mk_gf m l (mg_nT m - i) i b → am_W (d + 2) km_M_giftAt 5 [some (.ref 50), some (.int (iI l)), some (.int (iI z)), some (.int (iI b)), some (.int (iI i)), w] [] (hC x c (hM m t)) n 0 0 (am_eq (some (.int (iI (mk_gift m l z)))) (hC x c (hM m t)) n) := by
    intro f
    induction f with
    | zero => intro i h1 h2 b w hb1 hb2 e0; omega
    | succ f ih =>
      intro i h1 h2 b w hb1 hb2 e0
      refine ar_iload kd_M_giftAt_5 rfl ?_
      refine ar_aload_n kd_M_giftAt_7 rfl ?_
      refine ar_get (ci := 5) (k := 1) kd_M_giftAt_8 rfl kw_620 (by decide) rfl rfl ?_
      refine az_icmp_ge (tg := 60) kd_M_giftAt_11 (by decide) (fun q1 => ?_) (fun q1 => ?_)
      · have e1 : mk_gift m l z = -1 := by
          rw [e0, show mg_nT m - i = 0 by omega]
          rfl
        refine ar_iconst kd_M_giftAt_60 ?_
        refine ar_ireturn kd_M_giftAt_61 rfl (Nat.le_of_ble_eq_true rfl) (Nat.le_of_ble_eq_true rfl) ?_
        exact ⟨by rw [e1], rfl, rfl⟩
      · have hs : mg_nT m - i = (mg_nT m - (i + 1)) + 1 := by omega
        have hod := hO i (by omega)
        have hho := hK.ho (l := l) (k := mk_od m i) (by omega) hod.2
        refine ar_iload_n kd_M_giftAt_14 rfl ?_
        refine az_if_lt (tg := 60) kd_M_giftAt_15 (by decide) (fun q2 => (by exfalso; omega)) (fun q2 => ?_)
        refine ar_aload_n kd_M_giftAt_18 rfl ?_
        refine ar_iload kd_M_giftAt_19 rfl ?_
        refine az_callv (z := km_M_lotAt) (As := [_]) (ci := 5) kd_M_giftAt_21 kw_739 kw_741 rfl ks_M_lotAt kz_M_lotAt rfl rfl rfl rfl rfl (Nat.le_of_ble_eq_true rfl) (Nat.le_of_ble_eq_true rfl) rfl (sp_M_lotAtO (by omega) hO hK) ?_
        refine ar_istore kd_M_giftAt_24 (Nat.le_of_ble_eq_true rfl) rfl ?_
        dsimp only [List.set]
        refine ar_aload_n kd_M_giftAt_26 rfl ?_
        refine ar_get (ci := 5) (k := 12) kd_M_giftAt_27 rfl kw_631 (by decide) rfl rfl ?_
        refine az_bipush kd_M_giftAt_30 (by decide) ?_
        refine ar_iload_n kd_M_giftAt_32 rfl ?_
        refine az_imul kd_M_giftAt_33 ?_
        refine ar_iload kd_M_giftAt_34 rfl ?_
        refine az_iadd kd_M_giftAt_36 ?_
        refine az_iald kd_M_giftAt_37 rfl (k := 8 * l + mk_od m i) (by omega) (by omega) ?_
        refine az_if_ne (tg := 44) kd_M_giftAt_38 (by decide) (fun qh => ?_) (fun qh => ?_)
        · 
          refine ar_iload_n kd_M_giftAt_44 rfl ?_
          refine az_if_ne (tg := 51) kd_M_giftAt_45 (by decide) (fun qz => ?_) (fun qz => ?_)
          · have e2 : mk_gift m l z = mk_gf m l (mg_nT m - (i + 1)) (i + 1) (b - 1) := by
              rw [e0, hs]
              simp only [mk_gf]
              rw [if_neg (by omega), if_neg (by omega)]
            refine az_iinc kd_M_giftAt_51 rfl rfl ?_
            dsimp only [List.set]
            refine az_iinc kd_M_giftAt_54 rfl rfl ?_
            dsimp only [List.set]
            refine ar_goto (tg := 5) kd_M_giftAt_57 (by decide) ?_
            exact ih (i + 1) (by omega) (by omega) _ _ (by omega) (by omega) e2
          · have e1 : mk_gift m l z = (mk_od m i : Int) := by
              rw [e0, hs]
              simp only [mk_gf]
              rw [if_neg (by omega), if_pos (by omega)]
            refine ar_iload kd_M_giftAt_48 rfl ?_
            refine ar_ireturn kd_M_giftAt_50 rfl (Nat.le_of_ble_eq_true rfl) (Nat.le_of_ble_eq_true rfl) ?_
            exact ⟨by rw [e1], rfl, rfl⟩
        · have e2 : mk_gift m l z = mk_gf m l (mg_nT m - (i + 1)) (i + 1) b := by
            rw [e0, hs]
            simp only [mk_gf]
            rw [if_pos (by omega)]
          refine ar_goto (tg := 54) kd_M_giftAt_41 (by decide) ?_
          refine az_iinc kd_M_giftAt_54 rfl rfl ?_
          dsimp only [List.set]
          refine ar_goto (tg := 5) kd_M_giftAt_57 (by decide) ?_
          exact ih (i + 1) (by omega) (by omega) _ _ (by omega) (by omega) e2
  refine ar_iload_n kd_M_giftAt_0 rfl ?_
  refine ar_istore_n kd_M_giftAt_1 (Nat.le_of_ble_eq_true rfl) rfl ?_
  dsimp only [List.set]
  refine ar_iconst kd_M_giftAt_2 ?_
  refine ar_istore kd_M_giftAt_3 (Nat.le_of_ble_eq_true rfl) rfl ?_
  dsimp only [List.set]
  exact loop (mg_nT m + 1) 0 (by omega) (by omega) z _ hz0 (by omega) (if_neg (by omega))
set_option maxHeartbeats 1000000 in
set_option maxRecDepth 20000 in
theorem sp_M_giftAt_n {d : Nat} {x : am_C} {c : cS} {m : mS} {t : List am_C} {n : Nat} {l : Nat} {z : Int} (hz0 : z < 0) (hz : -2147483648 ≤ z ∧ z < 2147483648) (hK : mK m) : am_W (d + 2) km_M_giftAt 0 [some (.ref 50), some (.int (iI l)), some (.int (iI z)), none, none, none] [] (hC x c (hM m t)) n 0 0 (am_eq (some (.int (iI (mk_gift m l z)))) (hC x c (hM m t)) n) := by
  obtain ⟨hT, hL⟩ := hK.nn
  refine ar_iload_n kd_M_giftAt_0 rfl ?_
  refine ar_istore_n kd_M_giftAt_1 (Nat.le_of_ble_eq_true rfl) rfl ?_
  dsimp only [List.set]
  refine ar_iconst kd_M_giftAt_2 ?_
  refine ar_istore kd_M_giftAt_3 (Nat.le_of_ble_eq_true rfl) rfl ?_
  dsimp only [List.set]
  refine ar_iload kd_M_giftAt_5 rfl ?_
  refine ar_aload_n kd_M_giftAt_7 rfl ?_
  refine ar_get (ci := 5) (k := 1) kd_M_giftAt_8 rfl kw_620 (by decide) rfl rfl ?_
  refine az_icmp_ge (tg := 60) kd_M_giftAt_11 (by decide) (fun q1 => ?_) (fun q1 => ?_)
  · refine ar_iconst kd_M_giftAt_60 ?_
    refine ar_ireturn kd_M_giftAt_61 rfl (Nat.le_of_ble_eq_true rfl) (Nat.le_of_ble_eq_true rfl) ?_
    exact ⟨by rw [show mk_gift m l z = -1 from if_pos hz0], rfl, rfl⟩
  · refine ar_iload_n kd_M_giftAt_14 rfl ?_
    refine az_if_lt (tg := 60) kd_M_giftAt_15 (by decide) (fun q2 => ?_) (fun q2 => (by exfalso; omega))
    refine ar_iconst kd_M_giftAt_60 ?_
    refine ar_ireturn kd_M_giftAt_61 rfl (Nat.le_of_ble_eq_true rfl) (Nat.le_of_ble_eq_true rfl) ?_
    exact ⟨by rw [show mk_gift m l z = -1 from if_pos hz0], rfl, rfl⟩
theorem sp_M_giftAt {d : Nat} {x : am_C} {c : cS} {m : mS} {t : List am_C} {n l : Nat} {z : Int} (hl : l < 6) (hz : -2147483648 ≤ z ∧ z < 2147483648) (hK : mK m) (hO : mO m) : am_W (d + 2) km_M_giftAt 0 [some (.ref 50), some (.int (iI l)), some (.int (iI z)), none, none, none] [] (hC x c (hM m t)) n 0 0 (am_eq (some (.int (iI (mk_gift m l z)))) (hC x c (hM m t)) n) := by
  by_cases h : 0 ≤ z
  · exact sp_M_giftAt_p hl h hz hK hO
  · exact sp_M_giftAt_n (by omega) hz hK
set_option maxHeartbeats 1000000 in
set_option maxRecDepth 20000 in
theorem sp_M_give_f1 {d : Nat} {x : am_C} {c : cS} {m : mS} {t : List am_C} {n : Nat} {l i w : Int} (h_l : -2147483648 ≤ l ∧ l < 2147483648) (hK : mK m) (h0 : ¬ (0 ≤ l ∧ l < mg_nL m)) : am_W (d + 3) km_M_give 0 [some (.ref 50), some (.int (iI l)), some (.int (iI i)), some (.int (iI w)), none] [] (hC x c (hM m t)) n 0 0 (am_eq (some (.int (iI (0)))) (hC x c (hM (ms_co m 1) t)) n) := by
  refine ar_aload_n kd_M_give_0 rfl ?_
  refine ar_iload_n kd_M_give_1 rfl ?_
  refine az_callv (z := km_M_isLine) (As := [_]) (ci := 5) kd_M_give_2 kw_703 kw_705 rfl ks_M_isLine kz_M_isLine rfl rfl rfl rfl rfl (Nat.le_of_ble_eq_true rfl) (Nat.le_of_ble_eq_true rfl) rfl (am_deep (sp_M_isLine_f (d := 0) (by omega) hK (by omega)) (by omega)) ?_
  refine az_if_eq (tg := 17) kd_M_give_5 (by decide) (fun q1 => ?_) (fun q1 => (by exfalso; omega))
  refine ar_iconst kd_M_give_17 ?_
  refine ar_istore kd_M_give_18 (Nat.le_of_ble_eq_true rfl) rfl ?_
  dsimp only [List.set]
  refine ar_aload_n kd_M_give_20 rfl ?_
  refine ar_iload kd_M_give_21 rfl ?_
  refine ar_iconst kd_M_give_23 ?_
  refine az_icmp_ne (tg := 31) kd_M_give_24 (by decide) (fun q2 => (by exfalso; omega)) (fun q2 => ?_)
  refine ar_iconst kd_M_give_27 ?_
  refine ar_goto (tg := 45) kd_M_give_28 (by decide) ?_
  refine ar_put (ci := 5) (k := 0) kd_M_give_45 rfl kw_619 (by decide) rfl (Nat.le_of_ble_eq_true rfl) rfl (Nat.le_of_ble_eq_true rfl) rfl rfl rfl ?_
  refine ar_heap (hq_co _) ?_
  refine ar_aload_n kd_M_give_48 rfl ?_
  refine ar_get (ci := 5) (k := 0) kd_M_give_49 rfl kw_619 (by decide) rfl rfl ?_
  rw [co_co]
  refine az_if_le (tg := 57) kd_M_give_52 (by decide) (fun q3 => (by exfalso; omega)) (fun q3 => ?_)
  refine ar_iconst kd_M_give_55 ?_
  refine ar_ireturn kd_M_give_56 rfl (Nat.le_of_ble_eq_true rfl) (Nat.le_of_ble_eq_true rfl) ?_
  exact ⟨rfl, rfl, rfl⟩
set_option maxHeartbeats 1000000 in
set_option maxRecDepth 20000 in
theorem sp_M_give_f1b {d : Nat} {x : am_C} {c : cS} {m : mS} {t : List am_C} {n : Nat} {l : Nat} {i w : Int} (hK : mK m) (hO : mO m) (hl : l < mg_nL m) (h_i : -2147483648 ≤ i ∧ i < 2147483648) (h0 : mk_gift m l i < 0) : am_W (d + 3) km_M_give 0 [some (.ref 50), some (.int (iI l)), some (.int (iI i)), some (.int (iI w)), none] [] (hC x c (hM m t)) n 0 0 (am_eq (some (.int (iI (0)))) (hC x c (hM (ms_co m 1) t)) n) := by
  obtain ⟨hT, hL⟩ := hK.nn
  have hgf := mk_gift_rg hO l i
  refine ar_aload_n kd_M_give_0 rfl ?_
  refine ar_iload_n kd_M_give_1 rfl ?_
  refine az_callv (z := km_M_isLine) (As := [_]) (ci := 5) kd_M_give_2 kw_703 kw_705 rfl ks_M_isLine kz_M_isLine rfl rfl rfl rfl rfl (Nat.le_of_ble_eq_true rfl) (Nat.le_of_ble_eq_true rfl) rfl (am_deep (sp_M_isLine_t (d := 0) (by omega) hK (by omega)) (by omega)) ?_
  refine az_if_eq (tg := 17) kd_M_give_5 (by decide) (fun q1 => (by exfalso; omega)) (fun q1 => ?_)
  refine ar_aload_n kd_M_give_8 rfl ?_
  refine ar_iload_n kd_M_give_9 rfl ?_
  refine ar_iload_n kd_M_give_10 rfl ?_
  refine az_callv (z := km_M_giftAt) (As := [_, _]) (ci := 5) kd_M_give_11 kw_796 kw_798 rfl ks_M_giftAt kz_M_giftAt rfl rfl rfl rfl rfl (Nat.le_of_ble_eq_true rfl) (Nat.le_of_ble_eq_true rfl) rfl (sp_M_giftAt (by omega) h_i hK hO) ?_
  refine ar_goto (tg := 18) kd_M_give_14 (by decide) ?_
  refine ar_istore kd_M_give_18 (Nat.le_of_ble_eq_true rfl) rfl ?_
  dsimp only [List.set]
  refine ar_aload_n kd_M_give_20 rfl ?_
  refine ar_iload kd_M_give_21 rfl ?_
  refine ar_iconst kd_M_give_23 ?_
  refine az_icmp_ne (tg := 31) kd_M_give_24 (by decide) (fun q2 => (by exfalso; omega)) (fun q2 => ?_)
  refine ar_iconst kd_M_give_27 ?_
  refine ar_goto (tg := 45) kd_M_give_28 (by decide) ?_
  refine ar_put (ci := 5) (k := 0) kd_M_give_45 rfl kw_619 (by decide) rfl (Nat.le_of_ble_eq_true rfl) rfl (Nat.le_of_ble_eq_true rfl) rfl rfl rfl ?_
  refine ar_heap (hq_co _) ?_
  refine ar_aload_n kd_M_give_48 rfl ?_
  refine ar_get (ci := 5) (k := 0) kd_M_give_49 rfl kw_619 (by decide) rfl rfl ?_
  rw [co_co]
  refine az_if_le (tg := 57) kd_M_give_52 (by decide) (fun q3 => (by exfalso; omega)) (fun q3 => ?_)
  refine ar_iconst kd_M_give_55 ?_
  refine ar_ireturn kd_M_give_56 rfl (Nat.le_of_ble_eq_true rfl) (Nat.le_of_ble_eq_true rfl) ?_
  exact ⟨rfl, rfl, rfl⟩
set_option maxHeartbeats 1000000 in
set_option maxRecDepth 20000 in
theorem sp_M_give_f2 {d : Nat} {x : am_C} {c : cS} {m : mS} {t : List am_C} {n : Nat} {l : Nat} {i w : Int} (hK : mK m) (hO : mO m) (hl : l < mg_nL m) (h_i : -2147483648 ≤ i ∧ i < 2147483648) (h0 : 0 ≤ mk_gift m l i) (h_w : -2147483648 ≤ w ∧ w < 2147483648) (h1 : ¬ (0 ≤ w ∧ w ≤ 2)) : am_W (d + 3) km_M_give 0 [some (.ref 50), some (.int (iI l)), some (.int (iI i)), some (.int (iI w)), none] [] (hC x c (hM m t)) n 0 0 (am_eq (some (.int (iI (0)))) (hC x c (hM (ms_co m 2) t)) n) := by
  obtain ⟨hT, hL⟩ := hK.nn
  have hgf := mk_gift_rg hO l i
  refine ar_aload_n kd_M_give_0 rfl ?_
  refine ar_iload_n kd_M_give_1 rfl ?_
  refine az_callv (z := km_M_isLine) (As := [_]) (ci := 5) kd_M_give_2 kw_703 kw_705 rfl ks_M_isLine kz_M_isLine rfl rfl rfl rfl rfl (Nat.le_of_ble_eq_true rfl) (Nat.le_of_ble_eq_true rfl) rfl (am_deep (sp_M_isLine_t (d := 0) (by omega) hK (by omega)) (by omega)) ?_
  refine az_if_eq (tg := 17) kd_M_give_5 (by decide) (fun q1 => (by exfalso; omega)) (fun q1 => ?_)
  refine ar_aload_n kd_M_give_8 rfl ?_
  refine ar_iload_n kd_M_give_9 rfl ?_
  refine ar_iload_n kd_M_give_10 rfl ?_
  refine az_callv (z := km_M_giftAt) (As := [_, _]) (ci := 5) kd_M_give_11 kw_796 kw_798 rfl ks_M_giftAt kz_M_giftAt rfl rfl rfl rfl rfl (Nat.le_of_ble_eq_true rfl) (Nat.le_of_ble_eq_true rfl) rfl (sp_M_giftAt (by omega) h_i hK hO) ?_
  refine ar_goto (tg := 18) kd_M_give_14 (by decide) ?_
  refine ar_istore kd_M_give_18 (Nat.le_of_ble_eq_true rfl) rfl ?_
  dsimp only [List.set]
  refine ar_aload_n kd_M_give_20 rfl ?_
  refine ar_iload kd_M_give_21 rfl ?_
  refine ar_iconst kd_M_give_23 ?_
  refine az_icmp_ne (tg := 31) kd_M_give_24 (by decide) (fun q2 => ?_) (fun q2 => (by exfalso; omega))
  refine ar_iload_n kd_M_give_31 rfl ?_
  refine ar_iconst kd_M_give_32 ?_
  refine ar_iconst kd_M_give_33 ?_
  refine az_calls (z := km_M_in) (As := [_, _, _]) kd_M_give_34 kw_692 kw_693 kw_6 kz_M_in rfl rfl rfl rfl (Nat.le_of_ble_eq_true rfl) (Nat.le_of_ble_eq_true rfl) rfl (am_deep (sp_M_in_f (d := 0) (by omega) (by omega) (by omega) (by omega)) (Nat.zero_le _)) ?_
  refine az_if_ne (tg := 44) kd_M_give_37 (by decide) (fun q3 => (by exfalso; omega)) (fun q3 => ?_)
  refine ar_iconst kd_M_give_40 ?_
  refine ar_goto (tg := 45) kd_M_give_41 (by decide) ?_
  refine ar_put (ci := 5) (k := 0) kd_M_give_45 rfl kw_619 (by decide) rfl (Nat.le_of_ble_eq_true rfl) rfl (Nat.le_of_ble_eq_true rfl) rfl rfl rfl ?_
  refine ar_heap (hq_co _) ?_
  refine ar_aload_n kd_M_give_48 rfl ?_
  refine ar_get (ci := 5) (k := 0) kd_M_give_49 rfl kw_619 (by decide) rfl rfl ?_
  rw [co_co]
  refine az_if_le (tg := 57) kd_M_give_52 (by decide) (fun q4 => (by exfalso; omega)) (fun q4 => ?_)
  refine ar_iconst kd_M_give_55 ?_
  refine ar_ireturn kd_M_give_56 rfl (Nat.le_of_ble_eq_true rfl) (Nat.le_of_ble_eq_true rfl) ?_
  exact ⟨rfl, rfl, rfl⟩
def mk_give (m : mS) (l : Nat) (g w : Int) : Int := if w = 0 then g else if w = 1 then mg_ho m (8 * l + g.toNat) else mk_cost m g.toNat l
theorem sp_M_costOfU {d : Nat} {x : am_C} {c : cS} {m : mS} {t : List am_C} {n k l : Nat} {u : Int} (hk : k < 8) (hl : l < 6) (hu : u = (k : Int)) (hK : mK m) : am_W d km_M_costOf 0 [some (.ref 50), some (.int (iI u)), some (.int (iI l))] [] (hC x c (hM m t)) n 0 0 (am_eq (some (.int (iI (mk_cost m k l)))) (hC x c (hM m t)) n) := by
  subst hu
  exact sp_M_costOf hk hl hK
set_option maxHeartbeats 1000000 in
set_option maxRecDepth 20000 in
theorem sp_M_give {d : Nat} {x : am_C} {c : cS} {m : mS} {t : List am_C} {n : Nat} {l : Nat} {i w : Int} (hK : mK m) (hO : mO m) (hl : l < mg_nL m) (h_i : -2147483648 ≤ i ∧ i < 2147483648) (h0 : 0 ≤ mk_gift m l i) (h1 : 0 ≤ w ∧ w ≤ 2) : am_W (d + 3) km_M_give 0 [some (.ref 50), some (.int (iI l)), some (.int (iI i)), some (.int (iI w)), none] [] (hC x c (hM m t)) n 0 0 (am_eq (some (.int (iI (mk_give m l (mk_gift m l i) w)))) (hC x c (hM (ms_co m 0) t)) n) := by
  obtain ⟨hT, hL⟩ := hK.nn
  have hgf := mk_gift_rg hO l i
  refine ar_aload_n kd_M_give_0 rfl ?_
  refine ar_iload_n kd_M_give_1 rfl ?_
  refine az_callv (z := km_M_isLine) (As := [_]) (ci := 5) kd_M_give_2 kw_703 kw_705 rfl ks_M_isLine kz_M_isLine rfl rfl rfl rfl rfl (Nat.le_of_ble_eq_true rfl) (Nat.le_of_ble_eq_true rfl) rfl (am_deep (sp_M_isLine_t (d := 0) (by omega) hK (by omega)) (by omega)) ?_
  refine az_if_eq (tg := 17) kd_M_give_5 (by decide) (fun q1 => (by exfalso; omega)) (fun q1 => ?_)
  refine ar_aload_n kd_M_give_8 rfl ?_
  refine ar_iload_n kd_M_give_9 rfl ?_
  refine ar_iload_n kd_M_give_10 rfl ?_
  refine az_callv (z := km_M_giftAt) (As := [_, _]) (ci := 5) kd_M_give_11 kw_796 kw_798 rfl ks_M_giftAt kz_M_giftAt rfl rfl rfl rfl rfl (Nat.le_of_ble_eq_true rfl) (Nat.le_of_ble_eq_true rfl) rfl (sp_M_giftAt (by omega) h_i hK hO) ?_
  refine ar_goto (tg := 18) kd_M_give_14 (by decide) ?_
  refine ar_istore kd_M_give_18 (Nat.le_of_ble_eq_true rfl) rfl ?_
  dsimp only [List.set]
  refine ar_aload_n kd_M_give_20 rfl ?_
  refine ar_iload kd_M_give_21 rfl ?_
  refine ar_iconst kd_M_give_23 ?_
  refine az_icmp_ne (tg := 31) kd_M_give_24 (by decide) (fun q2 => ?_) (fun q2 => (by exfalso; omega))
  refine ar_iload_n kd_M_give_31 rfl ?_
  refine ar_iconst kd_M_give_32 ?_
  refine ar_iconst kd_M_give_33 ?_
  refine az_calls (z := km_M_in) (As := [_, _, _]) kd_M_give_34 kw_692 kw_693 kw_6 kz_M_in rfl rfl rfl rfl (Nat.le_of_ble_eq_true rfl) (Nat.le_of_ble_eq_true rfl) rfl (am_deep (sp_M_in_t (d := 0) (by omega) (by omega) (by omega) (by omega)) (Nat.zero_le _)) ?_
  refine az_if_ne (tg := 44) kd_M_give_37 (by decide) (fun q3 => ?_) (fun q3 => (by exfalso; omega))
  refine ar_iconst kd_M_give_44 ?_
  refine ar_put (ci := 5) (k := 0) kd_M_give_45 rfl kw_619 (by decide) rfl (Nat.le_of_ble_eq_true rfl) rfl (Nat.le_of_ble_eq_true rfl) rfl rfl rfl ?_
  refine ar_heap (hq_co _) ?_
  refine ar_aload_n kd_M_give_48 rfl ?_
  refine ar_get (ci := 5) (k := 0) kd_M_give_49 rfl kw_619 (by decide) rfl rfl ?_
  rw [co_co]
  refine az_if_le (tg := 57) kd_M_give_52 (by decide) (fun q4 => ?_) (fun q4 => (by exfalso; omega))
  refine ar_iload_n kd_M_give_57 rfl ?_
  refine az_if_ne (tg := 66) kd_M_give_58 (by decide) (fun q5 => ?_) (fun q5 => ?_)
  · refine ar_iload_n kd_M_give_66 rfl ?_
    refine ar_iconst kd_M_give_67 ?_
    refine az_icmp_ne (tg := 86) kd_M_give_68 (by decide) (fun q6 => ?_) (fun q6 => ?_)
    · have e1 : mk_give m l (mk_gift m l i) w = mk_cost m (mk_gift m l i).toNat l := by
        unfold mk_give
        rw [if_neg (by omega), if_neg (by omega)]
      refine ar_aload_n kd_M_give_86 rfl ?_
      refine ar_iload kd_M_give_87 rfl ?_
      refine ar_iload_n kd_M_give_89 rfl ?_
      refine az_callv (z := km_M_costOf) (As := [_, _]) (ci := 5) kd_M_give_90 kw_764 kw_766 rfl ks_M_costOf kz_M_costOf rfl rfl rfl rfl rfl (Nat.le_of_ble_eq_true rfl) (Nat.le_of_ble_eq_true rfl) rfl (sp_M_costOfU (m := ms_co m 0) (k := (mk_gift m l i).toNat) (by omega) (by omega) (Int.toNat_of_nonneg h0).symm (mK_co hK 0)) ?_
      refine ar_ireturn kd_M_give_93 rfl (Nat.le_of_ble_eq_true rfl) (Nat.le_of_ble_eq_true rfl) ?_
      exact ⟨by rw [e1] <;> rfl, rfl, rfl⟩
    · have e1 : mk_give m l (mk_gift m l i) w = mg_ho m (8 * l + (mk_gift m l i).toNat) := by
        unfold mk_give
        rw [if_neg (by omega), if_pos (by omega)]
      refine ar_aload_n kd_M_give_71 rfl ?_
      refine ar_get (ci := 5) (k := 12) kd_M_give_72 rfl kw_631 (by decide) rfl rfl ?_
      refine az_bipush kd_M_give_75 (by decide) ?_
      refine ar_iload_n kd_M_give_77 rfl ?_
      refine az_imul kd_M_give_78 ?_
      refine ar_iload kd_M_give_79 rfl ?_
      refine az_iadd kd_M_give_81 ?_
      refine az_iald kd_M_give_82 rfl (k := 8 * l + (mk_gift m l i).toNat) (by omega) (by omega) ?_
      refine ar_goto (tg := 93) kd_M_give_83 (by decide) ?_
      refine ar_ireturn kd_M_give_93 rfl (Nat.le_of_ble_eq_true rfl) (Nat.le_of_ble_eq_true rfl) ?_
      exact ⟨by rw [e1] <;> rfl, rfl, rfl⟩
  · have e1 : mk_give m l (mk_gift m l i) w = mk_gift m l i := if_pos (by omega)
    refine ar_iload kd_M_give_61 rfl ?_
    refine ar_goto (tg := 93) kd_M_give_63 (by decide) ?_
    refine ar_ireturn kd_M_give_93 rfl (Nat.le_of_ble_eq_true rfl) (Nat.le_of_ble_eq_true rfl) ?_
    exact ⟨by rw [e1] <;> rfl, rfl, rfl⟩
def mk_lb (m : mS) (l : Nat) : Nat → Int
  | 0 => 1000 * mg_ma m l
  | k + 1 => if mk_all m k l ∧ mg_ma m l * mk_cost m k l + 20 < mk_lb m l k then mg_ma m l * mk_cost m k l + 20 else mk_lb m l k
theorem mk_cw_rg {m : mS} (hK : mK m) {k l : Nat} (hk : k < 8) (hl : l < 6) : 0 ≤ mg_ma m l * mk_cost m k l ∧ mg_ma m l * mk_cost m k l ≤ 200000 := by
  have h1 := mk_cost_rg hK hk hl
  have h3 := (hK.line hl).2.1
  refine ⟨Int.mul_nonneg h3.1 h1.1, ?_⟩
  have := Int.mul_le_mul h3.2 h1.2 h1.1 (by omega)
  omega
theorem mk_lb_rg {m : mS} (hK : mK m) {l : Nat} (hl : l < 6) : ∀ k, k ≤ 8 → 0 ≤ mk_lb m l k ∧ mk_lb m l k ≤ 200000
  | 0, _ => by
    have h2 := hK.line hl
    simp only [mk_lb]
    omega
  | k + 1, hk => by
    have h1 := mk_lb_rg hK hl k (by omega)
    have h2 := mk_cw_rg hK (k := k) (by omega) hl
    simp only [mk_lb]
    split <;> omega
set_option maxHeartbeats 1000000 in
set_option maxRecDepth 20000 in
theorem sp_M_bound {d : Nat} {x : am_C} {c : cS} {m : mS} {t : List am_C} {n : Nat} (hK : mK m) : am_W (d + 2) km_M_bound 0 [some (.ref 50), none, none, none, none, none] [] (hC x c (hM m t)) n 0 0 (am_eq (some (.int (iI (zs (fun l => mk_lb m l (mg_nT m)) (mg_nL m))))) (hC x c (hM (ms_co m 0) t)) n) := by
  obtain ⟨hT, hL⟩ := hK.nn
  have eT0 : mg_nT (ms_co m 0) = mg_nT m := rfl
  have eL0 : mg_nL (ms_co m 0) = mg_nL m := rfl
  have hK0 := mK_co hK 0
  have loop : ∀ (f i : Nat), i ≤ mg_nL m → mg_nL m - i < f → ∀ (w1 w2 w3 : Option Value), am_W (d + 2) km_M_bound 9 [some (.ref 50), some (.int (iI (zs (fun l => mk_lb m l (mg_nT m)) i))), some (.int (iI i)), w1, w2, w3] [] (hC x c (hM (ms_co m 0) t)) n 0 0 (am_eq (some (.int (iI (zs (fun l => mk_lb m l (mg_nT m)) (mg_nL m))))) (hC x c (hM (ms_co m 0) t)) n) := by
    intro f
    induction f with
    | zero => intro i h1 h2 w1 w2 w3; omega
    | succ f ih =>
      intro i h1 h2 w1 w2 w3
      refine ar_iload_n kd_M_bound_9 rfl ?_
      refine ar_aload_n kd_M_bound_10 rfl ?_
      refine ar_get (ci := 5) (k := 6) kd_M_bound_11 rfl kw_625 (by decide) rfl rfl ?_
      refine az_icmp_ge (tg := 102) kd_M_bound_14 (by decide) (fun qa => ?_) (fun qa => ?_)
      · obtain rfl : i = mg_nL m := by omega
        refine ar_iload_n kd_M_bound_102 rfl ?_
        refine ar_ireturn kd_M_bound_103 rfl (Nat.le_of_ble_eq_true rfl) (Nat.le_of_ble_eq_true rfl) ?_
        exact ⟨rfl, rfl, rfl⟩
      · have loopj : ∀ (g j : Nat), j ≤ mg_nT m → mg_nT m - j < g → ∀ w : Option Value, am_W (d + 2) km_M_bound 31 [some (.ref 50), some (.int (iI (zs (fun l => mk_lb m l (mg_nT m)) i))), some (.int (iI i)), some (.int (iI (mk_lb m i j))), some (.int (iI j)), w] [] (hC x c (hM (ms_co m 0) t)) n 0 0 (am_eq (some (.int (iI (zs (fun l => mk_lb m l (mg_nT m)) (mg_nL m))))) (hC x c (hM (ms_co m 0) t)) n) := by
          intro g
          induction g with
          | zero => intro j h3 h4; omega
          | succ g ihj =>
            intro j h3 h4 w
            refine ar_iload kd_M_bound_31 rfl ?_
            refine ar_aload_n kd_M_bound_33 rfl ?_
            refine ar_get (ci := 5) (k := 1) kd_M_bound_34 rfl kw_620 (by decide) rfl rfl ?_
            refine az_icmp_ge (tg := 92) kd_M_bound_37 (by decide) (fun qb => ?_) (fun qb => ?_)
            · obtain rfl : j = mg_nT m := by omega
              refine ar_iload_n kd_M_bound_92 rfl ?_
              refine ar_iload_n kd_M_bound_93 rfl ?_
              refine az_iadd kd_M_bound_94 ?_
              refine ar_istore_n kd_M_bound_95 (Nat.le_of_ble_eq_true rfl) rfl ?_
              dsimp only [List.set]
              refine az_iinc kd_M_bound_96 rfl rfl ?_
              dsimp only [List.set]
              refine ar_goto (tg := 9) kd_M_bound_99 (by decide) ?_
              exact ih (i + 1) (by omega) (by omega) _ _ _
            · have hcw := mk_cw_rg hK (k := j) (l := i) (by omega) (by omega)
              have hlb := mk_lb_rg hK (l := i) (by omega) j (by omega)
              refine ar_aload_n kd_M_bound_40 rfl ?_
              refine ar_iload kd_M_bound_41 rfl ?_
              refine ar_iload_n kd_M_bound_43 rfl ?_
              refine az_callv (z := km_M_isAllowed) (As := [_, _]) (ci := 5) kd_M_bound_44 kw_722 kw_724 rfl ks_M_isAllowed kz_M_isAllowed rfl rfl rfl rfl rfl (Nat.le_of_ble_eq_true rfl) (Nat.le_of_ble_eq_true rfl) rfl (sp_M_isAllowed (d := d) (by omega) (by omega) hK0) ?_
              refine az_if_eq (tg := 70) kd_M_bound_47 (by decide) (fun qc => ?_) (fun qc => ?_) (by have := zb_rg (mk_all (ms_co m 0) j i); omega)
              · have hb : ¬ mk_all m j i := fun q => by
                  have : zb (mk_all (ms_co m 0) j i) = 1 := if_pos q
                  omega
                have e4 : mk_lb m i (j + 1) = mk_lb m i j := if_neg (fun q => hb q.1)
                refine ar_iload_n kd_M_bound_70 rfl ?_
                refine ar_istore kd_M_bound_71 (Nat.le_of_ble_eq_true rfl) rfl ?_
                dsimp only [List.set]
                refine ar_iload kd_M_bound_73 rfl ?_
                refine ar_iload_n kd_M_bound_75 rfl ?_
                refine az_icmp_ge (tg := 84) kd_M_bound_76 (by decide) (fun q3 => ?_) (fun q3 => (by exfalso; omega))
                refine ar_iload_n kd_M_bound_84 rfl ?_
                refine ar_istore_n kd_M_bound_85 (Nat.le_of_ble_eq_true rfl) rfl ?_
                dsimp only [List.set]
                refine az_iinc kd_M_bound_86 rfl rfl ?_
                dsimp only [List.set]
                refine ar_goto (tg := 31) kd_M_bound_89 (by decide) ?_
                rw [← e4]
                exact ihj (j + 1) (by omega) (by omega) _
              · have hb : mk_all m j i := Decidable.byContradiction fun q => qc (if_neg q)
                refine ar_aload_n kd_M_bound_50 rfl ?_
                refine ar_get (ci := 5) (k := 8) kd_M_bound_51 rfl kw_627 (by decide) rfl rfl ?_
                refine ar_iload_n kd_M_bound_54 rfl ?_
                refine az_iald kd_M_bound_55 rfl (k := i) (by omega) (by omega) ?_
                refine ar_aload_n kd_M_bound_56 rfl ?_
                refine ar_iload kd_M_bound_57 rfl ?_
                refine ar_iload_n kd_M_bound_59 rfl ?_
                refine az_callv (z := km_M_costOf) (As := [_, _]) (ci := 5) kd_M_bound_60 kw_764 kw_766 rfl ks_M_costOf kz_M_costOf rfl rfl rfl rfl rfl (Nat.le_of_ble_eq_true rfl) (Nat.le_of_ble_eq_true rfl) rfl (am_deep (sp_M_costOf (d := 0) (m := ms_co m 0) (by omega) (by omega) hK0) (by omega)) ?_
                refine az_imul kd_M_bound_63 ?_
                refine az_bipush kd_M_bound_64 (by decide) ?_
                refine az_iadd kd_M_bound_66 ?_
                refine (show am_W _ _ _ _ [.int (iI (mg_ma m i * mk_cost m j i + 20))] _ _ _ _ _ from ?_)
                refine ar_goto (tg := 71) kd_M_bound_67 (by decide) ?_
                refine ar_istore kd_M_bound_71 (Nat.le_of_ble_eq_true rfl) rfl ?_
                dsimp only [List.set]
                refine ar_iload kd_M_bound_73 rfl ?_
                refine ar_iload_n kd_M_bound_75 rfl ?_
                refine az_icmp_ge (tg := 84) kd_M_bound_76 (by decide) (fun qd => ?_) (fun qd => ?_)
                · have e4 : mk_lb m i (j + 1) = mk_lb m i j := if_neg (by omega)
                  refine ar_iload_n kd_M_bound_84 rfl ?_
                  refine ar_istore_n kd_M_bound_85 (Nat.le_of_ble_eq_true rfl) rfl ?_
                  dsimp only [List.set]
                  refine az_iinc kd_M_bound_86 rfl rfl ?_
                  dsimp only [List.set]
                  refine ar_goto (tg := 31) kd_M_bound_89 (by decide) ?_
                  rw [← e4]
                  exact ihj (j + 1) (by omega) (by omega) _
                · have e4 : mk_lb m i (j + 1) = mg_ma m i * mk_cost m j i + 20 := if_pos ⟨hb, by omega⟩
                  refine ar_iload kd_M_bound_79 rfl ?_
                  refine ar_goto (tg := 85) kd_M_bound_81 (by decide) ?_
                  refine ar_istore_n kd_M_bound_85 (Nat.le_of_ble_eq_true rfl) rfl ?_
                  dsimp only [List.set]
                  refine az_iinc kd_M_bound_86 rfl rfl ?_
                  dsimp only [List.set]
                  refine ar_goto (tg := 31) kd_M_bound_89 (by decide) ?_
                  rw [← e4]
                  exact ihj (j + 1) (by omega) (by omega) _
        refine az_sipush kd_M_bound_17 (by decide) ?_
        refine ar_aload_n kd_M_bound_20 rfl ?_
        refine ar_get (ci := 5) (k := 8) kd_M_bound_21 rfl kw_627 (by decide) rfl rfl ?_
        refine ar_iload_n kd_M_bound_24 rfl ?_
        refine az_iald kd_M_bound_25 rfl (k := i) (by omega) (by omega) ?_
        refine az_imul kd_M_bound_26 ?_
        refine ar_istore_n kd_M_bound_27 (Nat.le_of_ble_eq_true rfl) rfl ?_
        dsimp only [List.set]
        refine ar_iconst kd_M_bound_28 ?_
        refine ar_istore kd_M_bound_29 (Nat.le_of_ble_eq_true rfl) rfl ?_
        dsimp only [List.set]
        exact loopj (mg_nT m + 1) 0 (by omega) (by omega) _
  refine ar_aload_n kd_M_bound_0 rfl ?_
  refine ar_iconst kd_M_bound_1 ?_
  refine ar_put (ci := 5) (k := 0) kd_M_bound_2 rfl kw_619 (by decide) rfl (Nat.le_of_ble_eq_true rfl) rfl (Nat.le_of_ble_eq_true rfl) rfl rfl rfl ?_
  refine ar_heap (hq_co _) ?_
  refine ar_iconst kd_M_bound_5 ?_
  refine ar_istore_n kd_M_bound_6 (Nat.le_of_ble_eq_true rfl) rfl ?_
  dsimp only [List.set]
  refine ar_iconst kd_M_bound_7 ?_
  refine ar_istore_n kd_M_bound_8 (Nat.le_of_ble_eq_true rfl) rfl ?_
  dsimp only [List.set]
  exact loop (mg_nL m + 1) 0 (by omega) (by omega) _ _ _
