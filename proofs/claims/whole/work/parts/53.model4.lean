/-! the reference: bars, changes, counts, products -/
def mk_ts (m : mS) (k l i : Nat) : Int := if i = 1 then zb (mk_p1 m k l) else if i = 2 then zb (mk_p2 m k l) else if i = 3 then zb (mk_all m k l) else zb (mk_all m k l ∧ mg_rl m (4 * l + 1) ≤ mg_pc m k - mk_hof m k)
def mk_sm (m : mS) (l i : Nat) : Nat → Int
  | 0 => 0
  | j + 1 => if mk_sm m l i j = 1 then 1 else mk_ts m j l i
theorem mk_ts_rg (m : mS) (k l i : Nat) : 0 ≤ mk_ts m k l i ∧ mk_ts m k l i ≤ 1 := by
  unfold mk_ts
  split
  · exact zb_rg _
  split
  · exact zb_rg _
  split
  · exact zb_rg _
  · exact zb_rg _
theorem mk_sm_rg (m : mS) (l i : Nat) : ∀ j, 0 ≤ mk_sm m l i j ∧ mk_sm m l i j ≤ 1
  | 0 => by simp [mk_sm]
  | j + 1 => by
    have := mk_ts_rg m j l i
    simp only [mk_sm]
    split <;> omega
def mk_fb (m : mS) (l : Nat) : Int := if mk_sm m l 1 (mg_nT m) = 0 then 1 else if mk_sm m l 2 (mg_nT m) = 0 then 2 else if mk_sm m l 3 (mg_nT m) = 0 then 3 else if mk_sm m l 4 (mg_nT m) = 0 then 4 else 0
set_option maxHeartbeats 1000000 in
set_option maxRecDepth 20000 in
theorem sp_M_bar {d : Nat} {x : am_C} {c : cS} {m : mS} {t : List am_C} {n : Nat} {l : Nat} (hK : mK m) (hl : l < mg_nL m) : am_W (d + 2) km_M_bar 0 [some (.ref 50), some (.int (iI l)), none, none, none] [] (hC x c (hM m t)) n 0 0 (am_eq (some (.int (iI (mk_fb m l)))) (hC x c (hM (ms_co m 0) t)) n) := by
  obtain ⟨hT, hL⟩ := hK.nn
  have eT0 : mg_nT (ms_co m 0) = mg_nT m := rfl
  have eL0 : mg_nL (ms_co m 0) = mg_nL m := rfl
  have hK0 := mK_co hK 0
  have erl : mg_rl (ms_co m 0) (4 * l + 1) = mg_rl m (4 * l + 1) := rfl
  have T5 : mk_fb m l = 0 → ∀ w3 w4 : Option Value, am_W (d + 2) km_M_bar 28 [some (.ref 50), some (.int (iI l)), some (.int (iI 5)), w3, w4] [] (hC x c (hM (ms_co m 0) t)) n 0 0 (am_eq (some (.int (iI (mk_fb m l)))) (hC x c (hM (ms_co m 0) t)) n) := by
    intro e1 w3 w4
    refine ar_iload_n kd_M_bar_28 rfl ?_
    refine ar_iconst kd_M_bar_29 ?_
    refine az_icmp_ge (tg := 127) kd_M_bar_30 (by decide) (fun q1 => ?_) (fun q1 => (by exfalso; omega))
    refine ar_iconst kd_M_bar_127 ?_
    refine ar_ireturn kd_M_bar_128 rfl (Nat.le_of_ble_eq_true rfl) (Nat.le_of_ble_eq_true rfl) ?_
    exact ⟨by rw [e1], rfl, rfl⟩
  have T4 : mk_fb m l = (if mk_sm m l 4 (mg_nT m) = 0 then 4 else 0) → ∀ w3 w4 : Option Value, am_W (d + 2) km_M_bar 28 [some (.ref 50), some (.int (iI l)), some (.int (iI 4)), w3, w4] [] (hC x c (hM (ms_co m 0) t)) n 0 0 (am_eq (some (.int (iI (mk_fb m l)))) (hC x c (hM (ms_co m 0) t)) n) := by
    intro e0 w3 w4
    have loopj : ∀ (g j : Nat), j ≤ mg_nT m → mg_nT m - j < g → am_W (d + 2) km_M_bar 38 [some (.ref 50), some (.int (iI l)), some (.int (iI 4)), some (.int (iI (mk_sm m l 4 j))), some (.int (iI j))] [] (hC x c (hM (ms_co m 0) t)) n 0 0 (am_eq (some (.int (iI (mk_fb m l)))) (hC x c (hM (ms_co m 0) t)) n) := by
      intro g
      induction g with
      | zero => intro j h3 h4; omega
      | succ g ihj =>
        intro j h3 h4
        refine ar_iload kd_M_bar_38 rfl ?_
        refine ar_aload_n kd_M_bar_40 rfl ?_
        refine ar_get (ci := 5) (k := 1) kd_M_bar_41 rfl kw_620 (by decide) rfl rfl ?_
        refine az_icmp_ge (tg := 115) kd_M_bar_44 (by decide) (fun qb => ?_) (fun qb => ?_)
        · obtain rfl : j = mg_nT m := by omega
          have hsm := mk_sm_rg m l 4 (mg_nT m)
          refine ar_iload_n kd_M_bar_115 rfl ?_
          refine az_if_ne (tg := 121) kd_M_bar_116 (by decide) (fun qe => ?_) (fun qe => ?_)
          · have e6 : mk_fb m l = 0 := by
              rw [e0, if_neg (by omega)]
            refine az_iinc kd_M_bar_121 rfl rfl ?_
            dsimp only [List.set]
            refine ar_goto (tg := 28) kd_M_bar_124 (by decide) ?_
            exact T5 e6 _ _
          · have e1 : mk_fb m l = 4 := by
              rw [e0, if_pos (by omega)]
            refine ar_iload_n kd_M_bar_119 rfl ?_
            refine ar_ireturn kd_M_bar_120 rfl (Nat.le_of_ble_eq_true rfl) (Nat.le_of_ble_eq_true rfl) ?_
            exact ⟨by rw [e1], rfl, rfl⟩
        · have hsm := mk_sm_rg m l 4 j
          have hts : mk_ts m j l 4 = zb (mk_all m j l ∧ mg_rl m (4 * l + 1) ≤ mg_pc m j - mk_hof m j) := rfl
          refine ar_iload_n kd_M_bar_47 rfl ?_
          refine az_if_ne (tg := 103) kd_M_bar_48 (by decide) (fun qs => ?_) (fun qs => ?_)
          · have e3 : mk_sm m l 4 (j + 1) = 1 := if_pos (by omega)
            refine ar_iconst kd_M_bar_103 ?_
            refine ar_goto (tg := 108) kd_M_bar_104 (by decide) ?_
            refine ar_istore_n kd_M_bar_108 (Nat.le_of_ble_eq_true rfl) rfl ?_
            dsimp only [List.set]
            refine az_iinc kd_M_bar_109 rfl rfl ?_
            dsimp only [List.set]
            refine ar_goto (tg := 38) kd_M_bar_112 (by decide) ?_
            have h9 := ihj (j + 1) (by omega) (by omega)
            rw [e3] at h9
            exact h9
          · have e4 : mk_sm m l 4 (j + 1) = mk_ts m j l 4 := if_neg (by omega)
            have hz := zb_rg (mk_all (ms_co m 0) j l)
            refine ar_aload_n kd_M_bar_51 rfl ?_
            refine ar_iload kd_M_bar_52 rfl ?_
            refine ar_iload_n kd_M_bar_54 rfl ?_
            refine ar_iload_n kd_M_bar_55 rfl ?_
            refine ar_iconst kd_M_bar_56 ?_
            refine az_icmp_ge (tg := 64) kd_M_bar_57 (by decide) (fun q4 => ?_) (fun q4 => (by exfalso; omega))
            refine ar_iconst kd_M_bar_64 ?_
            refine az_callv (z := km_M_passes) (As := [_, _, _]) (ci := 5) kd_M_bar_65 kw_726 kw_728 rfl ks_M_passes kz_M_passes rfl rfl rfl rfl rfl (Nat.le_of_ble_eq_true rfl) (Nat.le_of_ble_eq_true rfl) rfl (am_deep (sp_M_passes3 (d := 0) (m := ms_co m 0) (by omega) (by omega) hK0) (by omega)) ?_
            refine az_if_eq (tg := 107) kd_M_bar_68 (by decide) (fun qp => ?_) (fun qp => ?_)
            · have e3 : mk_sm m l 4 (j + 1) = 0 := by
                rw [e4, hts]
                exact if_neg (fun q => by
                  have : zb (mk_all (ms_co m 0) j l) = 1 := if_pos q.1
                  omega)
              refine ar_iconst kd_M_bar_107 ?_
              refine ar_istore_n kd_M_bar_108 (Nat.le_of_ble_eq_true rfl) rfl ?_
              dsimp only [List.set]
              refine az_iinc kd_M_bar_109 rfl rfl ?_
              dsimp only [List.set]
              refine ar_goto (tg := 38) kd_M_bar_112 (by decide) ?_
              have h9 := ihj (j + 1) (by omega) (by omega)
              rw [e3] at h9
              exact h9
            · have e5 : mk_all m j l := Decidable.byContradiction fun q => qp (if_neg q)
              have hlo := hK.lot (k := j) (by omega)
              have hli := hK.line (l := l) (by omega)
              have hh := mk_hof_rg hK (k := j) (by omega)
              refine ar_iload_n kd_M_bar_71 rfl ?_
              refine ar_iconst kd_M_bar_72 ?_
              refine az_icmp_lt (tg := 103) kd_M_bar_73 (by decide) (fun q6 => (by exfalso; omega)) (fun q6 => ?_)
              refine ar_aload_n kd_M_bar_76 rfl ?_
              refine ar_get (ci := 5) (k := 4) kd_M_bar_77 rfl kw_623 (by decide) rfl rfl ?_
              refine ar_iload kd_M_bar_80 rfl ?_
              refine az_iald kd_M_bar_82 rfl (k := j) (by omega) (by omega) ?_
              refine ar_aload_n kd_M_bar_83 rfl ?_
              refine ar_iload kd_M_bar_84 rfl ?_
              refine az_callv (z := km_M_heldOf) (As := [_]) (ci := 5) kd_M_bar_86 kw_804 kw_806 rfl ks_M_heldOf kz_M_heldOf rfl rfl rfl rfl rfl (Nat.le_of_ble_eq_true rfl) (Nat.le_of_ble_eq_true rfl) rfl (am_deep (sp_M_hof (d := 0) (m := ms_co m 0) (by omega) hK0) (by omega)) ?_
              refine az_isub kd_M_bar_89 ?_
              refine (show am_W _ _ _ _ [.int (iI (mg_pc m j - mk_hof m j))] _ _ _ _ _ from ?_)
              refine ar_aload_n kd_M_bar_90 rfl ?_
              refine ar_get (ci := 5) (k := 9) kd_M_bar_91 rfl kw_628 (by decide) rfl rfl ?_
              refine ar_iconst kd_M_bar_94 ?_
              refine ar_iload_n kd_M_bar_95 rfl ?_
              refine az_imul kd_M_bar_96 ?_
              refine ar_iconst kd_M_bar_97 ?_
              refine az_iadd kd_M_bar_98 ?_
              refine az_iald kd_M_bar_99 rfl (k := 4 * l + 1) (by omega) (by omega) ?_
              refine az_icmp_lt (tg := 107) kd_M_bar_100 (by decide) (fun qr => ?_) (fun qr => ?_)
              · have e3 : mk_sm m l 4 (j + 1) = 0 := by
                  rw [e4, hts]
                  exact if_neg (by omega)
                refine ar_iconst kd_M_bar_107 ?_
                refine ar_istore_n kd_M_bar_108 (Nat.le_of_ble_eq_true rfl) rfl ?_
                dsimp only [List.set]
                refine az_iinc kd_M_bar_109 rfl rfl ?_
                dsimp only [List.set]
                refine ar_goto (tg := 38) kd_M_bar_112 (by decide) ?_
                have h9 := ihj (j + 1) (by omega) (by omega)
                rw [e3] at h9
                exact h9
              · have e3 : mk_sm m l 4 (j + 1) = 1 := by
                  rw [e4, hts]
                  exact if_pos ⟨e5, by omega⟩
                refine ar_iconst kd_M_bar_103 ?_
                refine ar_goto (tg := 108) kd_M_bar_104 (by decide) ?_
                refine ar_istore_n kd_M_bar_108 (Nat.le_of_ble_eq_true rfl) rfl ?_
                dsimp only [List.set]
                refine az_iinc kd_M_bar_109 rfl rfl ?_
                dsimp only [List.set]
                refine ar_goto (tg := 38) kd_M_bar_112 (by decide) ?_
                have h9 := ihj (j + 1) (by omega) (by omega)
                rw [e3] at h9
                exact h9
    refine ar_iload_n kd_M_bar_28 rfl ?_
    refine ar_iconst kd_M_bar_29 ?_
    refine az_icmp_ge (tg := 127) kd_M_bar_30 (by decide) (fun q1 => (by exfalso; omega)) (fun q1 => ?_)
    refine ar_iconst kd_M_bar_33 ?_
    refine ar_istore_n kd_M_bar_34 (Nat.le_of_ble_eq_true rfl) rfl ?_
    dsimp only [List.set]
    refine ar_iconst kd_M_bar_35 ?_
    refine ar_istore kd_M_bar_36 (Nat.le_of_ble_eq_true rfl) rfl ?_
    dsimp only [List.set]
    exact loopj (mg_nT m + 1) 0 (by omega) (by omega)
  have T3 : mk_fb m l = (if mk_sm m l 3 (mg_nT m) = 0 then 3 else (if mk_sm m l 4 (mg_nT m) = 0 then 4 else 0)) → ∀ w3 w4 : Option Value, am_W (d + 2) km_M_bar 28 [some (.ref 50), some (.int (iI l)), some (.int (iI 3)), w3, w4] [] (hC x c (hM (ms_co m 0) t)) n 0 0 (am_eq (some (.int (iI (mk_fb m l)))) (hC x c (hM (ms_co m 0) t)) n) := by
    intro e0 w3 w4
    have loopj : ∀ (g j : Nat), j ≤ mg_nT m → mg_nT m - j < g → am_W (d + 2) km_M_bar 38 [some (.ref 50), some (.int (iI l)), some (.int (iI 3)), some (.int (iI (mk_sm m l 3 j))), some (.int (iI j))] [] (hC x c (hM (ms_co m 0) t)) n 0 0 (am_eq (some (.int (iI (mk_fb m l)))) (hC x c (hM (ms_co m 0) t)) n) := by
      intro g
      induction g with
      | zero => intro j h3 h4; omega
      | succ g ihj =>
        intro j h3 h4
        refine ar_iload kd_M_bar_38 rfl ?_
        refine ar_aload_n kd_M_bar_40 rfl ?_
        refine ar_get (ci := 5) (k := 1) kd_M_bar_41 rfl kw_620 (by decide) rfl rfl ?_
        refine az_icmp_ge (tg := 115) kd_M_bar_44 (by decide) (fun qb => ?_) (fun qb => ?_)
        · obtain rfl : j = mg_nT m := by omega
          have hsm := mk_sm_rg m l 3 (mg_nT m)
          refine ar_iload_n kd_M_bar_115 rfl ?_
          refine az_if_ne (tg := 121) kd_M_bar_116 (by decide) (fun qe => ?_) (fun qe => ?_)
          · have e6 : mk_fb m l = (if mk_sm m l 4 (mg_nT m) = 0 then 4 else 0) := by
              rw [e0, if_neg (by omega)]
            refine az_iinc kd_M_bar_121 rfl rfl ?_
            dsimp only [List.set]
            refine ar_goto (tg := 28) kd_M_bar_124 (by decide) ?_
            exact T4 e6 _ _
          · have e1 : mk_fb m l = 3 := by
              rw [e0, if_pos (by omega)]
            refine ar_iload_n kd_M_bar_119 rfl ?_
            refine ar_ireturn kd_M_bar_120 rfl (Nat.le_of_ble_eq_true rfl) (Nat.le_of_ble_eq_true rfl) ?_
            exact ⟨by rw [e1], rfl, rfl⟩
        · have hsm := mk_sm_rg m l 3 j
          have hts : mk_ts m j l 3 = zb (mk_all m j l) := rfl
          refine ar_iload_n kd_M_bar_47 rfl ?_
          refine az_if_ne (tg := 103) kd_M_bar_48 (by decide) (fun qs => ?_) (fun qs => ?_)
          · have e3 : mk_sm m l 3 (j + 1) = 1 := if_pos (by omega)
            refine ar_iconst kd_M_bar_103 ?_
            refine ar_goto (tg := 108) kd_M_bar_104 (by decide) ?_
            refine ar_istore_n kd_M_bar_108 (Nat.le_of_ble_eq_true rfl) rfl ?_
            dsimp only [List.set]
            refine az_iinc kd_M_bar_109 rfl rfl ?_
            dsimp only [List.set]
            refine ar_goto (tg := 38) kd_M_bar_112 (by decide) ?_
            have h9 := ihj (j + 1) (by omega) (by omega)
            rw [e3] at h9
            exact h9
          · have e4 : mk_sm m l 3 (j + 1) = mk_ts m j l 3 := if_neg (by omega)
            have hz := zb_rg (mk_all (ms_co m 0) j l)
            refine ar_aload_n kd_M_bar_51 rfl ?_
            refine ar_iload kd_M_bar_52 rfl ?_
            refine ar_iload_n kd_M_bar_54 rfl ?_
            refine ar_iload_n kd_M_bar_55 rfl ?_
            refine ar_iconst kd_M_bar_56 ?_
            refine az_icmp_ge (tg := 64) kd_M_bar_57 (by decide) (fun q4 => ?_) (fun q4 => (by exfalso; omega))
            refine ar_iconst kd_M_bar_64 ?_
            refine az_callv (z := km_M_passes) (As := [_, _, _]) (ci := 5) kd_M_bar_65 kw_726 kw_728 rfl ks_M_passes kz_M_passes rfl rfl rfl rfl rfl (Nat.le_of_ble_eq_true rfl) (Nat.le_of_ble_eq_true rfl) rfl (am_deep (sp_M_passes3 (d := 0) (m := ms_co m 0) (by omega) (by omega) hK0) (by omega)) ?_
            refine az_if_eq (tg := 107) kd_M_bar_68 (by decide) (fun qp => ?_) (fun qp => ?_)
            · have e3 : mk_sm m l 3 (j + 1) = 0 := by
                rw [e4, hts]
                exact qp
              refine ar_iconst kd_M_bar_107 ?_
              refine ar_istore_n kd_M_bar_108 (Nat.le_of_ble_eq_true rfl) rfl ?_
              dsimp only [List.set]
              refine az_iinc kd_M_bar_109 rfl rfl ?_
              dsimp only [List.set]
              refine ar_goto (tg := 38) kd_M_bar_112 (by decide) ?_
              have h9 := ihj (j + 1) (by omega) (by omega)
              rw [e3] at h9
              exact h9
            · have e5 : zb (mk_all (ms_co m 0) j l) = 1 := by omega
              have e3 : mk_sm m l 3 (j + 1) = 1 := by
                rw [e4, hts]
                exact e5
              refine ar_iload_n kd_M_bar_71 rfl ?_
              refine ar_iconst kd_M_bar_72 ?_
              refine az_icmp_lt (tg := 103) kd_M_bar_73 (by decide) (fun q6 => ?_) (fun q6 => (by exfalso; omega))
              refine ar_iconst kd_M_bar_103 ?_
              refine ar_goto (tg := 108) kd_M_bar_104 (by decide) ?_
              refine ar_istore_n kd_M_bar_108 (Nat.le_of_ble_eq_true rfl) rfl ?_
              dsimp only [List.set]
              refine az_iinc kd_M_bar_109 rfl rfl ?_
              dsimp only [List.set]
              refine ar_goto (tg := 38) kd_M_bar_112 (by decide) ?_
              have h9 := ihj (j + 1) (by omega) (by omega)
              rw [e3] at h9
              exact h9
    refine ar_iload_n kd_M_bar_28 rfl ?_
    refine ar_iconst kd_M_bar_29 ?_
    refine az_icmp_ge (tg := 127) kd_M_bar_30 (by decide) (fun q1 => (by exfalso; omega)) (fun q1 => ?_)
    refine ar_iconst kd_M_bar_33 ?_
    refine ar_istore_n kd_M_bar_34 (Nat.le_of_ble_eq_true rfl) rfl ?_
    dsimp only [List.set]
    refine ar_iconst kd_M_bar_35 ?_
    refine ar_istore kd_M_bar_36 (Nat.le_of_ble_eq_true rfl) rfl ?_
    dsimp only [List.set]
    exact loopj (mg_nT m + 1) 0 (by omega) (by omega)
  have T2 : mk_fb m l = (if mk_sm m l 2 (mg_nT m) = 0 then 2 else (if mk_sm m l 3 (mg_nT m) = 0 then 3 else (if mk_sm m l 4 (mg_nT m) = 0 then 4 else 0))) → ∀ w3 w4 : Option Value, am_W (d + 2) km_M_bar 28 [some (.ref 50), some (.int (iI l)), some (.int (iI 2)), w3, w4] [] (hC x c (hM (ms_co m 0) t)) n 0 0 (am_eq (some (.int (iI (mk_fb m l)))) (hC x c (hM (ms_co m 0) t)) n) := by
    intro e0 w3 w4
    have loopj : ∀ (g j : Nat), j ≤ mg_nT m → mg_nT m - j < g → am_W (d + 2) km_M_bar 38 [some (.ref 50), some (.int (iI l)), some (.int (iI 2)), some (.int (iI (mk_sm m l 2 j))), some (.int (iI j))] [] (hC x c (hM (ms_co m 0) t)) n 0 0 (am_eq (some (.int (iI (mk_fb m l)))) (hC x c (hM (ms_co m 0) t)) n) := by
      intro g
      induction g with
      | zero => intro j h3 h4; omega
      | succ g ihj =>
        intro j h3 h4
        refine ar_iload kd_M_bar_38 rfl ?_
        refine ar_aload_n kd_M_bar_40 rfl ?_
        refine ar_get (ci := 5) (k := 1) kd_M_bar_41 rfl kw_620 (by decide) rfl rfl ?_
        refine az_icmp_ge (tg := 115) kd_M_bar_44 (by decide) (fun qb => ?_) (fun qb => ?_)
        · obtain rfl : j = mg_nT m := by omega
          have hsm := mk_sm_rg m l 2 (mg_nT m)
          refine ar_iload_n kd_M_bar_115 rfl ?_
          refine az_if_ne (tg := 121) kd_M_bar_116 (by decide) (fun qe => ?_) (fun qe => ?_)
          · have e6 : mk_fb m l = (if mk_sm m l 3 (mg_nT m) = 0 then 3 else (if mk_sm m l 4 (mg_nT m) = 0 then 4 else 0)) := by
              rw [e0, if_neg (by omega)]
            refine az_iinc kd_M_bar_121 rfl rfl ?_
            dsimp only [List.set]
            refine ar_goto (tg := 28) kd_M_bar_124 (by decide) ?_
            exact T3 e6 _ _
          · have e1 : mk_fb m l = 2 := by
              rw [e0, if_pos (by omega)]
            refine ar_iload_n kd_M_bar_119 rfl ?_
            refine ar_ireturn kd_M_bar_120 rfl (Nat.le_of_ble_eq_true rfl) (Nat.le_of_ble_eq_true rfl) ?_
            exact ⟨by rw [e1], rfl, rfl⟩
        · have hsm := mk_sm_rg m l 2 j
          have hts : mk_ts m j l 2 = zb (mk_p2 m j l) := rfl
          refine ar_iload_n kd_M_bar_47 rfl ?_
          refine az_if_ne (tg := 103) kd_M_bar_48 (by decide) (fun qs => ?_) (fun qs => ?_)
          · have e3 : mk_sm m l 2 (j + 1) = 1 := if_pos (by omega)
            refine ar_iconst kd_M_bar_103 ?_
            refine ar_goto (tg := 108) kd_M_bar_104 (by decide) ?_
            refine ar_istore_n kd_M_bar_108 (Nat.le_of_ble_eq_true rfl) rfl ?_
            dsimp only [List.set]
            refine az_iinc kd_M_bar_109 rfl rfl ?_
            dsimp only [List.set]
            refine ar_goto (tg := 38) kd_M_bar_112 (by decide) ?_
            have h9 := ihj (j + 1) (by omega) (by omega)
            rw [e3] at h9
            exact h9
          · have e4 : mk_sm m l 2 (j + 1) = mk_ts m j l 2 := if_neg (by omega)
            have hz := zb_rg (mk_p2 (ms_co m 0) j l)
            refine ar_aload_n kd_M_bar_51 rfl ?_
            refine ar_iload kd_M_bar_52 rfl ?_
            refine ar_iload_n kd_M_bar_54 rfl ?_
            refine ar_iload_n kd_M_bar_55 rfl ?_
            refine ar_iconst kd_M_bar_56 ?_
            refine az_icmp_ge (tg := 64) kd_M_bar_57 (by decide) (fun q4 => (by exfalso; omega)) (fun q4 => ?_)
            refine ar_iload_n kd_M_bar_60 rfl ?_
            refine ar_goto (tg := 65) kd_M_bar_61 (by decide) ?_
            refine az_callv (z := km_M_passes) (As := [_, _, _]) (ci := 5) kd_M_bar_65 kw_726 kw_728 rfl ks_M_passes kz_M_passes rfl rfl rfl rfl rfl (Nat.le_of_ble_eq_true rfl) (Nat.le_of_ble_eq_true rfl) rfl (am_deep (sp_M_passes2 (d := 0) (m := ms_co m 0) (by omega) (by omega) hK0) (by omega)) ?_
            refine az_if_eq (tg := 107) kd_M_bar_68 (by decide) (fun qp => ?_) (fun qp => ?_)
            · have e3 : mk_sm m l 2 (j + 1) = 0 := by
                rw [e4, hts]
                exact qp
              refine ar_iconst kd_M_bar_107 ?_
              refine ar_istore_n kd_M_bar_108 (Nat.le_of_ble_eq_true rfl) rfl ?_
              dsimp only [List.set]
              refine az_iinc kd_M_bar_109 rfl rfl ?_
              dsimp only [List.set]
              refine ar_goto (tg := 38) kd_M_bar_112 (by decide) ?_
              have h9 := ihj (j + 1) (by omega) (by omega)
              rw [e3] at h9
              exact h9
            · have e5 : zb (mk_p2 (ms_co m 0) j l) = 1 := by omega
              have e3 : mk_sm m l 2 (j + 1) = 1 := by
                rw [e4, hts]
                exact e5
              refine ar_iload_n kd_M_bar_71 rfl ?_
              refine ar_iconst kd_M_bar_72 ?_
              refine az_icmp_lt (tg := 103) kd_M_bar_73 (by decide) (fun q6 => ?_) (fun q6 => (by exfalso; omega))
              refine ar_iconst kd_M_bar_103 ?_
              refine ar_goto (tg := 108) kd_M_bar_104 (by decide) ?_
              refine ar_istore_n kd_M_bar_108 (Nat.le_of_ble_eq_true rfl) rfl ?_
              dsimp only [List.set]
              refine az_iinc kd_M_bar_109 rfl rfl ?_
              dsimp only [List.set]
              refine ar_goto (tg := 38) kd_M_bar_112 (by decide) ?_
              have h9 := ihj (j + 1) (by omega) (by omega)
              rw [e3] at h9
              exact h9
    refine ar_iload_n kd_M_bar_28 rfl ?_
    refine ar_iconst kd_M_bar_29 ?_
    refine az_icmp_ge (tg := 127) kd_M_bar_30 (by decide) (fun q1 => (by exfalso; omega)) (fun q1 => ?_)
    refine ar_iconst kd_M_bar_33 ?_
    refine ar_istore_n kd_M_bar_34 (Nat.le_of_ble_eq_true rfl) rfl ?_
    dsimp only [List.set]
    refine ar_iconst kd_M_bar_35 ?_
    refine ar_istore kd_M_bar_36 (Nat.le_of_ble_eq_true rfl) rfl ?_
    dsimp only [List.set]
    exact loopj (mg_nT m + 1) 0 (by omega) (by omega)
  have T1 : mk_fb m l = (if mk_sm m l 1 (mg_nT m) = 0 then 1 else (if mk_sm m l 2 (mg_nT m) = 0 then 2 else (if mk_sm m l 3 (mg_nT m) = 0 then 3 else (if mk_sm m l 4 (mg_nT m) = 0 then 4 else 0)))) → ∀ w3 w4 : Option Value, am_W (d + 2) km_M_bar 28 [some (.ref 50), some (.int (iI l)), some (.int (iI 1)), w3, w4] [] (hC x c (hM (ms_co m 0) t)) n 0 0 (am_eq (some (.int (iI (mk_fb m l)))) (hC x c (hM (ms_co m 0) t)) n) := by
    intro e0 w3 w4
    have loopj : ∀ (g j : Nat), j ≤ mg_nT m → mg_nT m - j < g → am_W (d + 2) km_M_bar 38 [some (.ref 50), some (.int (iI l)), some (.int (iI 1)), some (.int (iI (mk_sm m l 1 j))), some (.int (iI j))] [] (hC x c (hM (ms_co m 0) t)) n 0 0 (am_eq (some (.int (iI (mk_fb m l)))) (hC x c (hM (ms_co m 0) t)) n) := by
      intro g
      induction g with
      | zero => intro j h3 h4; omega
      | succ g ihj =>
        intro j h3 h4
        refine ar_iload kd_M_bar_38 rfl ?_
        refine ar_aload_n kd_M_bar_40 rfl ?_
        refine ar_get (ci := 5) (k := 1) kd_M_bar_41 rfl kw_620 (by decide) rfl rfl ?_
        refine az_icmp_ge (tg := 115) kd_M_bar_44 (by decide) (fun qb => ?_) (fun qb => ?_)
        · obtain rfl : j = mg_nT m := by omega
          have hsm := mk_sm_rg m l 1 (mg_nT m)
          refine ar_iload_n kd_M_bar_115 rfl ?_
          refine az_if_ne (tg := 121) kd_M_bar_116 (by decide) (fun qe => ?_) (fun qe => ?_)
          · have e6 : mk_fb m l = (if mk_sm m l 2 (mg_nT m) = 0 then 2 else (if mk_sm m l 3 (mg_nT m) = 0 then 3 else (if mk_sm m l 4 (mg_nT m) = 0 then 4 else 0))) := by
              rw [e0, if_neg (by omega)]
            refine az_iinc kd_M_bar_121 rfl rfl ?_
            dsimp only [List.set]
            refine ar_goto (tg := 28) kd_M_bar_124 (by decide) ?_
            exact T2 e6 _ _
          · have e1 : mk_fb m l = 1 := by
              rw [e0, if_pos (by omega)]
            refine ar_iload_n kd_M_bar_119 rfl ?_
            refine ar_ireturn kd_M_bar_120 rfl (Nat.le_of_ble_eq_true rfl) (Nat.le_of_ble_eq_true rfl) ?_
            exact ⟨by rw [e1], rfl, rfl⟩
        · have hsm := mk_sm_rg m l 1 j
          have hts : mk_ts m j l 1 = zb (mk_p1 m j l) := rfl
          refine ar_iload_n kd_M_bar_47 rfl ?_
          refine az_if_ne (tg := 103) kd_M_bar_48 (by decide) (fun qs => ?_) (fun qs => ?_)
          · have e3 : mk_sm m l 1 (j + 1) = 1 := if_pos (by omega)
            refine ar_iconst kd_M_bar_103 ?_
            refine ar_goto (tg := 108) kd_M_bar_104 (by decide) ?_
            refine ar_istore_n kd_M_bar_108 (Nat.le_of_ble_eq_true rfl) rfl ?_
            dsimp only [List.set]
            refine az_iinc kd_M_bar_109 rfl rfl ?_
            dsimp only [List.set]
            refine ar_goto (tg := 38) kd_M_bar_112 (by decide) ?_
            have h9 := ihj (j + 1) (by omega) (by omega)
            rw [e3] at h9
            exact h9
          · have e4 : mk_sm m l 1 (j + 1) = mk_ts m j l 1 := if_neg (by omega)
            have hz := zb_rg (mk_p1 (ms_co m 0) j l)
            refine ar_aload_n kd_M_bar_51 rfl ?_
            refine ar_iload kd_M_bar_52 rfl ?_
            refine ar_iload_n kd_M_bar_54 rfl ?_
            refine ar_iload_n kd_M_bar_55 rfl ?_
            refine ar_iconst kd_M_bar_56 ?_
            refine az_icmp_ge (tg := 64) kd_M_bar_57 (by decide) (fun q4 => (by exfalso; omega)) (fun q4 => ?_)
            refine ar_iload_n kd_M_bar_60 rfl ?_
            refine ar_goto (tg := 65) kd_M_bar_61 (by decide) ?_
            refine az_callv (z := km_M_passes) (As := [_, _, _]) (ci := 5) kd_M_bar_65 kw_726 kw_728 rfl ks_M_passes kz_M_passes rfl rfl rfl rfl rfl (Nat.le_of_ble_eq_true rfl) (Nat.le_of_ble_eq_true rfl) rfl (am_deep (sp_M_passes1 (d := 0) (m := ms_co m 0) (by omega) (by omega) hK0) (by omega)) ?_
            refine az_if_eq (tg := 107) kd_M_bar_68 (by decide) (fun qp => ?_) (fun qp => ?_)
            · have e3 : mk_sm m l 1 (j + 1) = 0 := by
                rw [e4, hts]
                exact qp
              refine ar_iconst kd_M_bar_107 ?_
              refine ar_istore_n kd_M_bar_108 (Nat.le_of_ble_eq_true rfl) rfl ?_
              dsimp only [List.set]
              refine az_iinc kd_M_bar_109 rfl rfl ?_
              dsimp only [List.set]
              refine ar_goto (tg := 38) kd_M_bar_112 (by decide) ?_
              have h9 := ihj (j + 1) (by omega) (by omega)
              rw [e3] at h9
              exact h9
            · have e5 : zb (mk_p1 (ms_co m 0) j l) = 1 := by omega
              have e3 : mk_sm m l 1 (j + 1) = 1 := by
                rw [e4, hts]
                exact e5
              refine ar_iload_n kd_M_bar_71 rfl ?_
              refine ar_iconst kd_M_bar_72 ?_
              refine az_icmp_lt (tg := 103) kd_M_bar_73 (by decide) (fun q6 => ?_) (fun q6 => (by exfalso; omega))
              refine ar_iconst kd_M_bar_103 ?_
              refine ar_goto (tg := 108) kd_M_bar_104 (by decide) ?_
              refine ar_istore_n kd_M_bar_108 (Nat.le_of_ble_eq_true rfl) rfl ?_
              dsimp only [List.set]
              refine az_iinc kd_M_bar_109 rfl rfl ?_
              dsimp only [List.set]
              refine ar_goto (tg := 38) kd_M_bar_112 (by decide) ?_
              have h9 := ihj (j + 1) (by omega) (by omega)
              rw [e3] at h9
              exact h9
    refine ar_iload_n kd_M_bar_28 rfl ?_
    refine ar_iconst kd_M_bar_29 ?_
    refine az_icmp_ge (tg := 127) kd_M_bar_30 (by decide) (fun q1 => (by exfalso; omega)) (fun q1 => ?_)
    refine ar_iconst kd_M_bar_33 ?_
    refine ar_istore_n kd_M_bar_34 (Nat.le_of_ble_eq_true rfl) rfl ?_
    dsimp only [List.set]
    refine ar_iconst kd_M_bar_35 ?_
    refine ar_istore kd_M_bar_36 (Nat.le_of_ble_eq_true rfl) rfl ?_
    dsimp only [List.set]
    exact loopj (mg_nT m + 1) 0 (by omega) (by omega)
  refine ar_aload_n kd_M_bar_0 rfl ?_
  refine ar_aload_n kd_M_bar_1 rfl ?_
  refine ar_iload_n kd_M_bar_2 rfl ?_
  refine az_callv (z := km_M_isLine) (As := [_]) (ci := 5) kd_M_bar_3 kw_703 kw_705 rfl ks_M_isLine kz_M_isLine rfl rfl rfl rfl rfl (Nat.le_of_ble_eq_true rfl) (Nat.le_of_ble_eq_true rfl) rfl (am_deep (sp_M_isLine_t (d := 0) (by omega) hK (by omega)) (by omega)) ?_
  refine az_if_eq (tg := 13) kd_M_bar_6 (by decide) (fun q1 => (by exfalso; omega)) (fun q1 => ?_)
  refine ar_iconst kd_M_bar_9 ?_
  refine ar_goto (tg := 14) kd_M_bar_10 (by decide) ?_
  refine ar_put (ci := 5) (k := 0) kd_M_bar_14 rfl kw_619 (by decide) rfl (Nat.le_of_ble_eq_true rfl) rfl (Nat.le_of_ble_eq_true rfl) rfl rfl rfl ?_
  refine ar_heap (hq_co _) ?_
  refine ar_aload_n kd_M_bar_17 rfl ?_
  refine ar_get (ci := 5) (k := 0) kd_M_bar_18 rfl kw_619 (by decide) rfl rfl ?_
  rw [co_co]
  refine az_if_le (tg := 26) kd_M_bar_21 (by decide) (fun q2 => ?_) (fun q2 => (by exfalso; omega))
  refine ar_iconst kd_M_bar_26 ?_
  refine ar_istore_n kd_M_bar_27 (Nat.le_of_ble_eq_true rfl) rfl ?_
  dsimp only [List.set]
  exact T1 rfl _ _
theorem il_mul (a b : Int) : Int64.ofInt a * Int64.ofInt b = Int64.ofInt (a * b) := (Int64.ofInt_mul a b).symm
def mk_ln (m : mS) (l : Nat) : Nat → Nat
  | 0 => 0
  | j + 1 => mk_ln m l j + (if mk_all m j l then 1 else 0)
def mk_na (m : mS) : Nat → Nat
  | 0 => 0
  | i + 1 => mk_na m i + mk_ln m i (mg_nT m)
theorem mk_ln_rg (m : mS) (l : Nat) : ∀ j, mk_ln m l j ≤ j
  | 0 => Nat.le_refl 0
  | j + 1 => by
    have := mk_ln_rg m l j
    simp only [mk_ln]
    split <;> omega
theorem mk_na_rg {m : mS} (hK : mK m) : ∀ i, mk_na m i ≤ 8 * i
  | 0 => Nat.le_refl 0
  | i + 1 => by
    have h1 := mk_na_rg hK i
    have h2 := mk_ln_rg m i (mg_nT m)
    have h3 := hK.nn.1
    simp only [mk_na]
    omega
set_option maxHeartbeats 1000000 in
set_option maxRecDepth 20000 in
theorem sp_M_product {d : Nat} {x : am_C} {c : cS} {m : mS} {t : List am_C} {n : Nat} (hK : mK m) : am_W (d + 2) km_M_product 0 [some (.ref 50), none, none, none, none] [] (hC x c (hM m t)) n 0 0 (am_eq (some (.long (Int64.ofInt ((2 ^ (mk_na m (mg_nL m)) : Nat) : Int)))) (hC x c (hM m t)) n) := by
  obtain ⟨hT, hL⟩ := hK.nn
  have loop : ∀ (f i : Nat), i ≤ mg_nL m → mg_nL m - i < f → ∀ w : Option Value, am_W (d + 2) km_M_product 4 [some (.ref 50), some (.long (Int64.ofInt ((2 ^ (mk_na m i) : Nat) : Int))), none, some (.int (iI i)), w] [] (hC x c (hM m t)) n 0 0 (am_eq (some (.long (Int64.ofInt ((2 ^ (mk_na m (mg_nL m)) : Nat) : Int)))) (hC x c (hM m t)) n) := by
    intro f
    induction f with
    | zero => intro i h1 h2 w; omega
    | succ f ih =>
      intro i h1 h2 w
      refine ar_iload_n kd_M_product_4 rfl ?_
      refine ar_aload_n kd_M_product_5 rfl ?_
      refine ar_get (ci := 5) (k := 6) kd_M_product_6 rfl kw_625 (by decide) rfl rfl ?_
      refine az_icmp_ge (tg := 56) kd_M_product_9 (by decide) (fun qa => ?_) (fun qa => ?_)
      · obtain rfl : i = mg_nL m := by omega
        refine ar_lload_n kd_M_product_56 rfl ?_
        refine ar_lreturn kd_M_product_57 rfl (Nat.le_of_ble_eq_true rfl) (Nat.le_of_ble_eq_true rfl) ?_
        exact ⟨rfl, rfl, rfl⟩
      · have loopj : ∀ (g j : Nat), j ≤ mg_nT m → mg_nT m - j < g → am_W (d + 2) km_M_product 15 [some (.ref 50), some (.long (Int64.ofInt ((2 ^ (mk_na m i + mk_ln m i j) : Nat) : Int))), none, some (.int (iI i)), some (.int (iI j))] [] (hC x c (hM m t)) n 0 0 (am_eq (some (.long (Int64.ofInt ((2 ^ (mk_na m (mg_nL m)) : Nat) : Int)))) (hC x c (hM m t)) n) := by
          intro g
          induction g with
          | zero => intro j h3 h4; omega
          | succ g ihj =>
            intro j h3 h4
            refine ar_iload kd_M_product_15 rfl ?_
            refine ar_aload_n kd_M_product_17 rfl ?_
            refine ar_get (ci := 5) (k := 1) kd_M_product_18 rfl kw_620 (by decide) rfl rfl ?_
            refine az_icmp_ge (tg := 50) kd_M_product_21 (by decide) (fun qb => ?_) (fun qb => ?_)
            · obtain rfl : j = mg_nT m := by omega
              refine az_iinc kd_M_product_50 rfl rfl ?_
              dsimp only [List.set]
              refine ar_goto (tg := 4) kd_M_product_53 (by decide) ?_
              exact ih (i + 1) (by omega) (by omega) _
            · refine ar_lload_n kd_M_product_24 rfl ?_
              refine ar_aload_n kd_M_product_25 rfl ?_
              refine ar_iload kd_M_product_26 rfl ?_
              refine ar_iload_n kd_M_product_28 rfl ?_
              refine az_callv (z := km_M_isAllowed) (As := [_, _]) (ci := 5) kd_M_product_29 kw_722 kw_724 rfl ks_M_isAllowed kz_M_isAllowed rfl rfl rfl rfl rfl (Nat.le_of_ble_eq_true rfl) (Nat.le_of_ble_eq_true rfl) rfl (sp_M_isAllowed (d := d) (by omega) (by omega) hK) ?_
              refine az_if_eq (tg := 41) kd_M_product_32 (by decide) (fun qc => ?_) (fun qc => ?_) (by have := zb_rg (mk_all m j i); omega)
              · have hb : ¬ mk_all m j i := fun q => by
                  have : zb (mk_all m j i) = 1 := if_pos q
                  omega
                have e3 : mk_ln m i (j + 1) = mk_ln m i j := by simp [mk_ln, hb]
                refine ar_lconst kd_M_product_41 ?_
                refine ar_lmul kd_M_product_42 ?_
                rw [show (Int64.ofInt ((2 ^ (mk_na m i + mk_ln m i j) : Nat) : Int)) * Int64.ofNat ((1 : Fin 2) : Nat) = Int64.ofInt ((2 ^ (mk_na m i + mk_ln m i (j + 1)) : Nat) : Int) by
                  rw [e3, show Int64.ofNat ((1 : Fin 2) : Nat) = Int64.ofInt 1 from rfl, il_mul, Int.mul_one]]
                refine ar_lstore_n kd_M_product_43 (Nat.le_of_ble_eq_true rfl) rfl ?_
                dsimp only [List.set]
                refine az_iinc kd_M_product_44 rfl rfl ?_
                dsimp only [List.set]
                refine ar_goto (tg := 15) kd_M_product_47 (by decide) ?_
                exact ihj (j + 1) (by omega) (by omega)
              · have hb : mk_all m j i := Decidable.byContradiction fun q => qc (if_neg q)
                have e3 : mk_ln m i (j + 1) = mk_ln m i j + 1 := by simp [mk_ln, hb]
                refine ar_ldc2 kd_M_product_35 kw_751 ?_
                refine ar_goto (tg := 42) kd_M_product_38 (by decide) ?_
                refine ar_lmul kd_M_product_42 ?_
                rw [show (Int64.ofInt ((2 ^ (mk_na m i + mk_ln m i j) : Nat) : Int)) * 2 = Int64.ofInt ((2 ^ (mk_na m i + mk_ln m i (j + 1)) : Nat) : Int) by
                  rw [e3, show (2 : Int64) = Int64.ofInt 2 from rfl, il_mul, ck_pow2, Nat.add_assoc]]
                refine ar_lstore_n kd_M_product_43 (Nat.le_of_ble_eq_true rfl) rfl ?_
                dsimp only [List.set]
                refine az_iinc kd_M_product_44 rfl rfl ?_
                dsimp only [List.set]
                refine ar_goto (tg := 15) kd_M_product_47 (by decide) ?_
                exact ihj (j + 1) (by omega) (by omega)
        refine ar_iconst kd_M_product_12 ?_
        refine ar_istore kd_M_product_13 (Nat.le_of_ble_eq_true rfl) rfl ?_
        dsimp only [List.set]
        exact loopj (mg_nT m + 1) 0 (by omega) (by omega)
  refine ar_lconst kd_M_product_0 ?_
  refine ar_lstore_n kd_M_product_1 (Nat.le_of_ble_eq_true rfl) rfl ?_
  dsimp only [List.set]
  refine ar_iconst kd_M_product_2 ?_
  refine ar_istore_n kd_M_product_3 (Nat.le_of_ble_eq_true rfl) rfl ?_
  dsimp only [List.set]
  exact loop (mg_nL m + 1) 0 (by omega) (by omega) _
theorem il_le {a b : Int} (ha : -9223372036854775808 ≤ a ∧ a < 9223372036854775808) (hb : -9223372036854775808 ≤ b ∧ b < 9223372036854775808) : Int64.ofInt a ≤ Int64.ofInt b ↔ a ≤ b := by
  rw [Int64.le_iff_toInt_le, Int64.toInt_ofInt_of_le (by omega) (by omega), Int64.toInt_ofInt_of_le (by omega) (by omega)]
theorem lc_mill {a : Int} (ha : -9223372036854775808 ≤ a ∧ a < 9223372036854775808) : lg_cmp (Int64.ofInt a) (1000000 : Int64) ≤ 0 ↔ a ≤ 1000000 := by
  rw [lg_cmp_le, show (1000000 : Int64) = Int64.ofInt 1000000 by decide]
  exact il_le ha (by omega)
theorem mk_pw_rg {m : mS} (hK : mK m) : 0 ≤ ((2 ^ mk_na m (mg_nL m) : Nat) : Int) ∧ ((2 ^ mk_na m (mg_nL m) : Nat) : Int) ≤ 281474976710656 := by
  have h1 := mk_na_rg hK (mg_nL m)
  have h2 := hK.nn.2
  refine ⟨Int.natCast_nonneg _, ?_⟩
  have h3 : mk_na m (mg_nL m) ≤ 48 := by omega
  have h4 := Nat.pow_le_pow_right (n := 2) (by decide) h3
  omega
def mk_ch (m : mS) : Int := if ((2 ^ mk_na m (mg_nL m) : Nat) : Int) ≤ 1000000 then ((2 ^ mk_na m (mg_nL m) : Nat) : Int) else -1
theorem sp_M_productC {d : Nat} {x : am_C} {c : cS} {m : mS} {t : List am_C} {n : Nat} (hK : mK m) : am_W (d + 2) km_M_product 0 [some (.ref 50), none, none, none, none] [] (hC x c (hM (ms_co m 0) t)) n 0 0 (am_eq (some (.long (Int64.ofInt ((2 ^ (mk_na m (mg_nL m)) : Nat) : Int)))) (hC x c (hM (ms_co m 0) t)) n) := by
  have e : ∀ l j, mk_ln (ms_co m 0) l j = mk_ln m l j := by
    intro l j
    induction j with
    | zero => rfl
    | succ j ih => simp only [mk_ln, ih]
  have e2 : ∀ i, mk_na (ms_co m 0) i = mk_na m i := by
    intro i
    induction i with
    | zero => rfl
    | succ i ih => simp only [mk_na, ih, e]
  have h9 := sp_M_product (d := d) (x := x) (c := c) (m := ms_co m 0) (t := t) (n := n) (mK_co hK 0)
  rw [e2] at h9
  exact h9
set_option maxHeartbeats 1000000 in
set_option maxRecDepth 20000 in
theorem sp_M_choices {d : Nat} {x : am_C} {c : cS} {m : mS} {t : List am_C} {n : Nat} (hK : mK m) : am_W (d + 3) km_M_choices 0 [some (.ref 50)] [] (hC x c (hM m t)) n 0 0 (am_eq (some (.int (iI (mk_ch m)))) (hC x c (hM (ms_co m 0) t)) n) := by
  have hp := mk_pw_rg hK
  refine ar_aload_n kd_M_choices_0 rfl ?_
  refine ar_iconst kd_M_choices_1 ?_
  refine ar_put (ci := 5) (k := 0) kd_M_choices_2 rfl kw_619 (by decide) rfl (Nat.le_of_ble_eq_true rfl) rfl (Nat.le_of_ble_eq_true rfl) rfl rfl rfl ?_
  refine ar_heap (hq_co _) ?_
  refine ar_aload_n kd_M_choices_5 rfl ?_
  refine az_callv (z := km_M_product) (As := []) (ci := 5) kd_M_choices_6 kw_747 kw_749 rfl ks_M_product kz_M_product rfl rfl rfl rfl rfl (Nat.le_of_ble_eq_true rfl) (Nat.le_of_ble_eq_true rfl) rfl (am_deep (sp_M_productC (d := 0) hK) (by omega)) ?_
  refine ar_ldc2 kd_M_choices_9 kw_787 ?_
  refine ar_lcmp kd_M_choices_12 ?_
  refine ar_if_le (tg := 20) kd_M_choices_13 (by decide) (fun qc => ?_) (fun qc => ?_)
  · have e1 : mk_ch m = ((2 ^ mk_na m (mg_nL m) : Nat) : Int) := if_pos ((lc_mill (by omega)).mp qc)
    refine ar_aload_n kd_M_choices_20 rfl ?_
    refine az_callv (z := km_M_product) (As := []) (ci := 5) kd_M_choices_21 kw_747 kw_749 rfl ks_M_product kz_M_product rfl rfl rfl rfl rfl (Nat.le_of_ble_eq_true rfl) (Nat.le_of_ble_eq_true rfl) rfl (am_deep (sp_M_productC (d := 0) hK) (by omega)) ?_
    refine ar_l2i kd_M_choices_24 ?_
    rw [Int64.toInt32_ofInt]
    refine ar_ireturn kd_M_choices_25 rfl (Nat.le_of_ble_eq_true rfl) (Nat.le_of_ble_eq_true rfl) ?_
    exact ⟨by rw [e1], rfl, rfl⟩
  · have e1 : mk_ch m = -1 := if_neg (fun q => qc ((lc_mill (by omega)).mpr q))
    refine ar_iconst kd_M_choices_16 ?_
    refine ar_goto (tg := 25) kd_M_choices_17 (by decide) ?_
    refine ar_ireturn kd_M_choices_25 rfl (Nat.le_of_ble_eq_true rfl) (Nat.le_of_ble_eq_true rfl) ?_
    exact ⟨by rw [e1], rfl, rfl⟩
