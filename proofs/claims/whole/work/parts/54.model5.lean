/-! the reference: change, count -/
def mk_u1 (m : mS) (i k : Nat) (z : Int) : mS := ms_ho m (zu (mg_ho m) (8 * i + k) (mg_ho m (8 * i + k) - zn (mg_ho m (8 * i + k)) (mk_hof m k - z)))
def mk_up (m : mS) (i k : Nat) (z : Int) : mS := if mg_rl m (4 * i + 3) = 1 then mk_zr (mk_u1 m i k z) i (mg_nT m) else mk_u1 m i k z
def mk_dn (k : Nat) (z : Int) : Nat → mS → Int → mS × Int
  | 0, m, s => (m, s)
  | i + 1, m, s => if 0 < mk_hof m k - z ∧ mg_ho m (8 * i + k) ≠ 0 then mk_dn k z i (mk_up m i k z) (s + 1) else mk_dn k z i m s
def mk_set (m : mS) (k : Nat) (z : Int) : mS := ms_pc (ms_co m 0) (zu (mg_pc m) k z)
theorem mK_set {m : mS} (h : mK m) {k : Nat} {z : Int} (hz : 0 ≤ z ∧ z ≤ 500) : mK (mk_set m k z) := by
  refine ⟨h.1, fun k' hk' => ?_, h.2.2⟩
  have h1 := h.2.1 k' hk'
  refine ⟨h1.1, h1.2.1, h1.2.2.1, ?_⟩
  show 0 ≤ zu (mg_pc m) k z k' ∧ zu (mg_pc m) k z k' ≤ 500
  by_cases e : k' = k
  · subst e
    rw [zu_s]
    exact hz
  · rw [zu_n e]
    exact h1.2.2.2
theorem mK_u1 {m : mS} (h : mK m) {i k : Nat} {z : Int} (hi : i < 6) (hk : k < 8) (ho : 0 < mk_hof m k - z) : mK (mk_u1 m i k z) := by
  have h1 := h.ho hi hk
  refine mK_ho h ?_
  unfold zn
  split <;> omega
theorem mK_up {m : mS} (h : mK m) {i k : Nat} {z : Int} (hi : i < 6) (hk : k < 8) (ho : 0 < mk_hof m k - z) : mK (mk_up m i k z) := by
  unfold mk_up
  split
  · exact mK_zr (mK_u1 h hi hk ho) _ _
  · exact mK_u1 h hi hk ho
theorem mk_up_keep {β : Type} {P : mS → β} (h : ∀ m v, P (ms_ho m v) = P m) (m : mS) (i k : Nat) (z : Int) : P (mk_up m i k z) = P m := by
  unfold mk_up
  split
  · exact (mk_zr_keep h _ _ _).trans (h _ _)
  · exact h _ _
theorem hv_u1 {x : am_C} {c : cS} {m : mS} {t : List am_C} (i k : Nat) (z v : Int) (e : v = mg_ho m (8 * i + k) - zn (mg_ho m (8 * i + k)) (mk_hof m k - z)) : hC x c (hM (ms_ho m (zu (mg_ho m) (8 * i + k) v)) t) = hC x c (hM (mk_u1 m i k z) t) := by
  subst e
  rfl
set_option maxHeartbeats 1000000 in
set_option maxRecDepth 20000 in
theorem sp_M_change_f1 {d : Nat} {x : am_C} {c : cS} {m : mS} {t : List am_C} {n : Nat} {k z : Int} (h_k : -2147483648 ≤ k ∧ k < 2147483648) (hK : mK m) (h0 : ¬ (0 ≤ k ∧ k < mg_nT m)) : am_W (d + 2) km_M_change 0 [some (.ref 50), some (.int (iI k)), some (.int (iI z)), none, none, none, none, none] [] (hC x c (hM m t)) n 0 0 (am_eq (some (.int (iI (0)))) (hC x c (hM (ms_co m 1) t)) n) := by
  refine ar_aload_n kd_M_change_0 rfl ?_
  refine ar_aload_n kd_M_change_1 rfl ?_
  refine ar_iload_n kd_M_change_2 rfl ?_
  refine az_callv (z := km_M_isLot) (As := [_]) (ci := 5) kd_M_change_3 kw_714 kw_716 rfl ks_M_isLot kz_M_isLot rfl rfl rfl rfl rfl (Nat.le_of_ble_eq_true rfl) (Nat.le_of_ble_eq_true rfl) rfl (am_deep (sp_M_isLot_f (d := 0) (by omega) hK (by omega)) (by omega)) ?_
  refine az_if_ne (tg := 13) kd_M_change_6 (by decide) (fun q1 => (by exfalso; omega)) (fun q1 => ?_)
  refine ar_iconst kd_M_change_9 ?_
  refine ar_goto (tg := 29) kd_M_change_10 (by decide) ?_
  refine ar_put (ci := 5) (k := 0) kd_M_change_29 rfl kw_619 (by decide) rfl (Nat.le_of_ble_eq_true rfl) rfl (Nat.le_of_ble_eq_true rfl) rfl rfl rfl ?_
  refine ar_heap (hq_co _) ?_
  refine ar_aload_n kd_M_change_32 rfl ?_
  refine ar_get (ci := 5) (k := 0) kd_M_change_33 rfl kw_619 (by decide) rfl rfl ?_
  rw [co_co]
  refine az_if_le (tg := 41) kd_M_change_36 (by decide) (fun q2 => (by exfalso; omega)) (fun q2 => ?_)
  refine ar_iconst kd_M_change_39 ?_
  refine ar_ireturn kd_M_change_40 rfl (Nat.le_of_ble_eq_true rfl) (Nat.le_of_ble_eq_true rfl) ?_
  exact ⟨rfl, rfl, rfl⟩
set_option maxHeartbeats 1000000 in
set_option maxRecDepth 20000 in
theorem sp_M_change_f2 {d : Nat} {x : am_C} {c : cS} {m : mS} {t : List am_C} {n : Nat} {k z : Int} (h_k : -2147483648 ≤ k ∧ k < 2147483648) (h_z : -2147483648 ≤ z ∧ z < 2147483648) (hK : mK m) (h0 : 0 ≤ k ∧ k < mg_nT m) (h1 : ¬ (0 ≤ z ∧ z ≤ 500)) : am_W (d + 2) km_M_change 0 [some (.ref 50), some (.int (iI k)), some (.int (iI z)), none, none, none, none, none] [] (hC x c (hM m t)) n 0 0 (am_eq (some (.int (iI (0)))) (hC x c (hM (ms_co m 2) t)) n) := by
  refine ar_aload_n kd_M_change_0 rfl ?_
  refine ar_aload_n kd_M_change_1 rfl ?_
  refine ar_iload_n kd_M_change_2 rfl ?_
  refine az_callv (z := km_M_isLot) (As := [_]) (ci := 5) kd_M_change_3 kw_714 kw_716 rfl ks_M_isLot kz_M_isLot rfl rfl rfl rfl rfl (Nat.le_of_ble_eq_true rfl) (Nat.le_of_ble_eq_true rfl) rfl (am_deep (sp_M_isLot_t (d := 0) (by omega) hK (by omega)) (by omega)) ?_
  refine az_if_ne (tg := 13) kd_M_change_6 (by decide) (fun q1 => ?_) (fun q1 => (by exfalso; omega))
  refine ar_iload_n kd_M_change_13 rfl ?_
  refine ar_iconst kd_M_change_14 ?_
  refine az_sipush kd_M_change_15 (by decide) ?_
  refine az_calls (z := km_M_in) (As := [_, _, _]) kd_M_change_18 kw_692 kw_693 kw_6 kz_M_in rfl rfl rfl rfl (Nat.le_of_ble_eq_true rfl) (Nat.le_of_ble_eq_true rfl) rfl (am_deep (sp_M_in_f (d := 0) (by omega) (by omega) (by omega) (by omega)) (Nat.zero_le _)) ?_
  refine az_if_ne (tg := 28) kd_M_change_21 (by decide) (fun q2 => (by exfalso; omega)) (fun q2 => ?_)
  refine ar_iconst kd_M_change_24 ?_
  refine ar_goto (tg := 29) kd_M_change_25 (by decide) ?_
  refine ar_put (ci := 5) (k := 0) kd_M_change_29 rfl kw_619 (by decide) rfl (Nat.le_of_ble_eq_true rfl) rfl (Nat.le_of_ble_eq_true rfl) rfl rfl rfl ?_
  refine ar_heap (hq_co _) ?_
  refine ar_aload_n kd_M_change_32 rfl ?_
  refine ar_get (ci := 5) (k := 0) kd_M_change_33 rfl kw_619 (by decide) rfl rfl ?_
  rw [co_co]
  refine az_if_le (tg := 41) kd_M_change_36 (by decide) (fun q3 => (by exfalso; omega)) (fun q3 => ?_)
  refine ar_iconst kd_M_change_39 ?_
  refine ar_ireturn kd_M_change_40 rfl (Nat.le_of_ble_eq_true rfl) (Nat.le_of_ble_eq_true rfl) ?_
  exact ⟨rfl, rfl, rfl⟩
set_option maxHeartbeats 1000000 in
set_option maxRecDepth 20000 in
theorem sp_M_change {d : Nat} {x : am_C} {c : cS} {m : mS} {t : List am_C} {n : Nat} {k : Nat} {z : Int} (hK : mK m) (hk : k < mg_nT m) (hz : 0 ≤ z ∧ z ≤ 500) : am_W (d + 2) km_M_change 0 [some (.ref 50), some (.int (iI k)), some (.int (iI z)), none, none, none, none, none] [] (hC x c (hM m t)) n 0 0 (am_eq (some (.int (iI (mk_dn k z (mg_nL m) (mk_set m k z) 0).2))) (hC x c (hM (mk_dn k z (mg_nL m) (mk_set m k z) 0).1 t)) n) := by
  have hT0 := hK.nn.1
  have loop : ∀ i : Nat, ∀ (m1 : mS) (s : Int) (w1 w2 w3 : Option Value), mK m1 → mg_nT m1 = mg_nT m → mg_nL m1 = mg_nL m → i ≤ 6 → mk_dn k z (mg_nL m) (mk_set m k z) 0 = mk_dn k z i m1 s → am_W (d + 2) km_M_change 58 [some (.ref 50), some (.int (iI k)), some (.int (iI z)), some (.int (iI s)), some (.int (iI ((i : Int) - 1))), w1, w2, w3] [] (hC x c (hM m1 t)) n 0 0 (am_eq (some (.int (iI (mk_dn k z (mg_nL m) (mk_set m k z) 0).2))) (hC x c (hM (mk_dn k z (mg_nL m) (mk_set m k z) 0).1 t)) n) := by
    intro i
    induction i with
    | zero =>
      intro m1 s w1 w2 w3 hK1 eT eL hi e0
      refine ar_iload kd_M_change_58 rfl ?_
      refine az_if_lt (tg := 204) kd_M_change_60 (by decide) (fun q1 => ?_) (fun q1 => (by exfalso; omega))
      have e1 : mk_dn k z (mg_nL m) (mk_set m k z) 0 = (m1, s) := e0
      refine ar_iload_n kd_M_change_204 rfl ?_
      refine ar_ireturn kd_M_change_205 rfl (Nat.le_of_ble_eq_true rfl) (Nat.le_of_ble_eq_true rfl) ?_
      exact ⟨by rw [e1], by rw [e1], rfl⟩
    | succ i ih =>
      intro m1 s w1 w2 w3 hK1 eT eL hi e0
      have hh := mk_hof_rg hK1 (k := k) (by omega)
      have hho := hK1.ho (l := i) (k := k) (by omega) (by omega)
      have hli := hK1.line (l := i) (by omega)
      rw [show ((i + 1 : Nat) : Int) - 1 = (i : Int) by omega]
      refine ar_iload kd_M_change_58 rfl ?_
      refine az_if_lt (tg := 204) kd_M_change_60 (by decide) (fun q1 => (by exfalso; omega)) (fun q1 => ?_)
      refine ar_aload_n kd_M_change_63 rfl ?_
      refine ar_iload_n kd_M_change_64 rfl ?_
      refine az_callv (z := km_M_heldOf) (As := [_]) (ci := 5) kd_M_change_65 kw_804 kw_806 rfl ks_M_heldOf kz_M_heldOf rfl rfl rfl rfl rfl (Nat.le_of_ble_eq_true rfl) (Nat.le_of_ble_eq_true rfl) rfl (am_deep (sp_M_hof (d := 0) (by omega) hK1) (by omega)) ?_
      refine ar_iload_n kd_M_change_68 rfl ?_
      refine az_isub kd_M_change_69 ?_
      refine ar_istore kd_M_change_70 (Nat.le_of_ble_eq_true rfl) rfl ?_
      dsimp only [List.set]
      refine ar_iload kd_M_change_72 rfl ?_
      refine az_if_le (tg := 198) kd_M_change_74 (by decide) (fun qo => ?_) (fun qo => ?_)
      · have e2 : mk_dn k z (mg_nL m) (mk_set m k z) 0 = mk_dn k z i m1 s := by
          rw [e0]
          exact if_neg (by omega)
        refine az_iinc kd_M_change_198 rfl rfl ?_
        dsimp only [List.set]
        refine ar_goto (tg := 58) kd_M_change_201 (by decide) ?_
        exact ih _ _ _ _ _ hK1 eT eL (by omega) e2
      · refine ar_aload_n kd_M_change_77 rfl ?_
        refine ar_get (ci := 5) (k := 12) kd_M_change_78 rfl kw_631 (by decide) rfl rfl ?_
        refine az_bipush kd_M_change_81 (by decide) ?_
        refine ar_iload kd_M_change_83 rfl ?_
        refine az_imul kd_M_change_85 ?_
        refine ar_iload_n kd_M_change_86 rfl ?_
        refine az_iadd kd_M_change_87 ?_
        refine az_iald kd_M_change_88 rfl (k := 8 * i + k) (by omega) (by omega) ?_
        refine az_if_ne (tg := 95) kd_M_change_89 (by decide) (fun qh => ?_) (fun qh => ?_)
        · have e2 : mk_dn k z (mg_nL m) (mk_set m k z) 0 = mk_dn k z i (mk_up m1 i k z) (s + 1) := by
            rw [e0]
            exact if_pos ⟨by omega, by omega⟩
          have loopj : ∀ (g j : Nat), j ≤ mg_nT m → mg_nT m - j < g → mg_rl m1 (4 * i + 3) = 1 → ∀ w2 : Int32, am_W (d + 2) km_M_change 154 [some (.ref 50), some (.int (iI k)), some (.int (iI z)), some (.int (iI (s + 1))), some (.int (iI i)), some (.int (iI (mk_hof m1 k - z))), some (.int w2), some (.int (iI j))] [] (hC x c (hM (mk_zr (mk_u1 m1 i k z) i j) t)) n 0 0 (am_eq (some (.int (iI (mk_dn k z (mg_nL m) (mk_set m k z) 0).2))) (hC x c (hM (mk_dn k z (mg_nL m) (mk_set m k z) 0).1 t)) n) := by
            intro g
            induction g with
            | zero => intro j h3 h4; omega
            | succ g ihj =>
              intro j h3 h4 hr1 w2
              have eT1 : mg_nT (mk_zr (mk_u1 m1 i k z) i j) = mg_nT m1 := mk_zr_keep (P := fun m => mg_nT m) (fun _ _ => rfl) (mk_u1 m1 i k z) i j
              have eR1 : mg_rl (mk_zr (mk_u1 m1 i k z) i j) = mg_rl m1 := mk_zr_keep (P := fun m => mg_rl m) (fun _ _ => rfl) (mk_u1 m1 i k z) i j
              refine ar_iload kd_M_change_154 rfl ?_
              refine ar_aload_n kd_M_change_156 rfl ?_
              refine ar_get (ci := 5) (k := 1) kd_M_change_157 rfl kw_620 (by decide) rfl rfl ?_
              refine az_icmp_ge (tg := 198) kd_M_change_160 (by decide) (fun qj => ?_) (fun qj => ?_)
              · obtain rfl : j = mg_nT m := by omega
                have e6 : mk_up m1 i k z = mk_zr (mk_u1 m1 i k z) i (mg_nT m) := by
                  unfold mk_up
                  rw [if_pos hr1, eT]
                rw [← e6]
                refine az_iinc kd_M_change_198 rfl rfl ?_
                dsimp only [List.set]
                refine ar_goto (tg := 58) kd_M_change_201 (by decide) ?_
                exact ih _ _ _ _ _ (mK_up hK1 (by omega) (by omega) (by omega)) ((mk_up_keep (P := fun m => mg_nT m) (fun _ _ => rfl) m1 i k z).trans eT) ((mk_up_keep (P := fun m => mg_nL m) (fun _ _ => rfl) m1 i k z).trans eL) (by omega) e2
              · refine ar_aload_n kd_M_change_163 rfl ?_
                refine ar_get (ci := 5) (k := 9) kd_M_change_164 rfl kw_628 (by decide) rfl rfl ?_
                refine ar_iconst kd_M_change_167 ?_
                refine ar_iload kd_M_change_168 rfl ?_
                refine az_imul kd_M_change_170 ?_
                refine ar_iconst kd_M_change_171 ?_
                refine az_iadd kd_M_change_172 ?_
                refine az_iald kd_M_change_173 rfl (k := 4 * i + 3) (by omega) (by omega) ?_
                rw [eR1]
                refine ar_iconst kd_M_change_174 ?_
                refine az_icmp_ne (tg := 198) kd_M_change_175 (by decide) (fun q2 => (by exfalso; omega)) (fun q2 => ?_)
                refine ar_aload_n kd_M_change_178 rfl ?_
                refine ar_get (ci := 5) (k := 12) kd_M_change_179 rfl kw_631 (by decide) rfl rfl ?_
                refine az_bipush kd_M_change_182 (by decide) ?_
                refine ar_iload kd_M_change_184 rfl ?_
                refine az_imul kd_M_change_186 ?_
                refine ar_iload kd_M_change_187 rfl ?_
                refine az_iadd kd_M_change_189 ?_
                refine ar_iconst kd_M_change_190 ?_
                refine az_iast kd_M_change_191 rfl rfl (k := 8 * i + j) (by omega) (by omega) ?_
                rw [hv_ho]
                refine az_iinc kd_M_change_192 rfl rfl ?_
                dsimp only [List.set]
                refine ar_goto (tg := 154) kd_M_change_195 (by decide) ?_
                exact ihj (j + 1) (by omega) (by omega) hr1 _
          refine az_iinc kd_M_change_95 rfl rfl ?_
          dsimp only [List.set]
          refine ar_iload kd_M_change_98 rfl ?_
          refine ar_aload_n kd_M_change_100 rfl ?_
          refine ar_get (ci := 5) (k := 12) kd_M_change_101 rfl kw_631 (by decide) rfl rfl ?_
          refine az_bipush kd_M_change_104 (by decide) ?_
          refine ar_iload kd_M_change_106 rfl ?_
          refine az_imul kd_M_change_108 ?_
          refine ar_iload_n kd_M_change_109 rfl ?_
          refine az_iadd kd_M_change_110 ?_
          refine az_iald kd_M_change_111 rfl (k := 8 * i + k) (by omega) (by omega) ?_
          refine az_icmp_ge (tg := 120) kd_M_change_112 (by decide) (fun qg => ?_) (fun qg => ?_)
          · have e5 : mg_ho m1 (8 * i + k) - mg_ho m1 (8 * i + k) = mg_ho m1 (8 * i + k) - zn (mg_ho m1 (8 * i + k)) (mk_hof m1 k - z) := by
              unfold zn
              rw [if_neg (by omega)]
            refine ar_aload_n kd_M_change_120 rfl ?_
            refine ar_get (ci := 5) (k := 12) kd_M_change_121 rfl kw_631 (by decide) rfl rfl ?_
            refine az_bipush kd_M_change_124 (by decide) ?_
            refine ar_iload kd_M_change_126 rfl ?_
            refine az_imul kd_M_change_128 ?_
            refine ar_iload_n kd_M_change_129 rfl ?_
            refine az_iadd kd_M_change_130 ?_
            refine az_iald kd_M_change_131 rfl (k := 8 * i + k) (by omega) (by omega) ?_
            refine ar_istore kd_M_change_132 (Nat.le_of_ble_eq_true rfl) rfl ?_
            dsimp only [List.set]
            refine ar_aload_n kd_M_change_134 rfl ?_
            refine ar_get (ci := 5) (k := 12) kd_M_change_135 rfl kw_631 (by decide) rfl rfl ?_
            refine az_bipush kd_M_change_138 (by decide) ?_
            refine ar_iload kd_M_change_140 rfl ?_
            refine az_imul kd_M_change_142 ?_
            refine ar_iload_n kd_M_change_143 rfl ?_
            refine az_iadd kd_M_change_144 ?_
            refine ar_dup2 kd_M_change_145 rfl rfl ?_
            refine az_iald kd_M_change_146 rfl (k := 8 * i + k) (by omega) (by omega) ?_
            refine ar_iload kd_M_change_147 rfl ?_
            refine az_isub kd_M_change_149 ?_
            refine az_iast kd_M_change_150 rfl rfl (k := 8 * i + k) (by omega) (by omega) ?_
            rw [hv_ho]
            rw [hv_u1 i k z _ e5]
            have hK2 := mK_u1 hK1 (i := i) (k := k) (z := z) (by omega) (by omega) (by omega)
            refine ar_iconst kd_M_change_151 ?_
            refine ar_istore kd_M_change_152 (Nat.le_of_ble_eq_true rfl) rfl ?_
            dsimp only [List.set]
            by_cases hr1 : mg_rl m1 (4 * i + 3) = 1
            · exact loopj (mg_nT m + 1) 0 (by omega) (by omega) hr1 _
            · have e6 : mk_up m1 i k z = mk_u1 m1 i k z := if_neg hr1
              rw [← e6]
              have eT2 : mg_nT (mk_up m1 i k z) = mg_nT m1 := mk_up_keep (P := fun m => mg_nT m) (fun _ _ => rfl) m1 i k z
              have eR2 : mg_rl (mk_up m1 i k z) = mg_rl m1 := mk_up_keep (P := fun m => mg_rl m) (fun _ _ => rfl) m1 i k z
              refine ar_iload kd_M_change_154 rfl ?_
              refine ar_aload_n kd_M_change_156 rfl ?_
              refine ar_get (ci := 5) (k := 1) kd_M_change_157 rfl kw_620 (by decide) rfl rfl ?_
              refine az_icmp_ge (tg := 198) kd_M_change_160 (by decide) (fun qj => ?_) (fun qj => ?_)
              · refine az_iinc kd_M_change_198 rfl rfl ?_
                dsimp only [List.set]
                refine ar_goto (tg := 58) kd_M_change_201 (by decide) ?_
                exact ih _ _ _ _ _ (mK_up hK1 (by omega) (by omega) (by omega)) ((mk_up_keep (P := fun m => mg_nT m) (fun _ _ => rfl) m1 i k z).trans eT) ((mk_up_keep (P := fun m => mg_nL m) (fun _ _ => rfl) m1 i k z).trans eL) (by omega) e2
              · refine ar_aload_n kd_M_change_163 rfl ?_
                refine ar_get (ci := 5) (k := 9) kd_M_change_164 rfl kw_628 (by decide) rfl rfl ?_
                refine ar_iconst kd_M_change_167 ?_
                refine ar_iload kd_M_change_168 rfl ?_
                refine az_imul kd_M_change_170 ?_
                refine ar_iconst kd_M_change_171 ?_
                refine az_iadd kd_M_change_172 ?_
                refine az_iald kd_M_change_173 rfl (k := 4 * i + 3) (by omega) (by omega) ?_
                rw [eR2]
                refine ar_iconst kd_M_change_174 ?_
                refine az_icmp_ne (tg := 198) kd_M_change_175 (by decide) (fun q2 => ?_) (fun q2 => (by exfalso; omega))
                refine az_iinc kd_M_change_198 rfl rfl ?_
                dsimp only [List.set]
                refine ar_goto (tg := 58) kd_M_change_201 (by decide) ?_
                exact ih _ _ _ _ _ (mK_up hK1 (by omega) (by omega) (by omega)) ((mk_up_keep (P := fun m => mg_nT m) (fun _ _ => rfl) m1 i k z).trans eT) ((mk_up_keep (P := fun m => mg_nL m) (fun _ _ => rfl) m1 i k z).trans eL) (by omega) e2
          · have e5 : mg_ho m1 (8 * i + k) - (mk_hof m1 k - z) = mg_ho m1 (8 * i + k) - zn (mg_ho m1 (8 * i + k)) (mk_hof m1 k - z) := by
              unfold zn
              rw [if_pos (by omega)]
            refine ar_iload kd_M_change_115 rfl ?_
            refine ar_goto (tg := 132) kd_M_change_117 (by decide) ?_
            refine ar_istore kd_M_change_132 (Nat.le_of_ble_eq_true rfl) rfl ?_
            dsimp only [List.set]
            refine ar_aload_n kd_M_change_134 rfl ?_
            refine ar_get (ci := 5) (k := 12) kd_M_change_135 rfl kw_631 (by decide) rfl rfl ?_
            refine az_bipush kd_M_change_138 (by decide) ?_
            refine ar_iload kd_M_change_140 rfl ?_
            refine az_imul kd_M_change_142 ?_
            refine ar_iload_n kd_M_change_143 rfl ?_
            refine az_iadd kd_M_change_144 ?_
            refine ar_dup2 kd_M_change_145 rfl rfl ?_
            refine az_iald kd_M_change_146 rfl (k := 8 * i + k) (by omega) (by omega) ?_
            refine ar_iload kd_M_change_147 rfl ?_
            refine az_isub kd_M_change_149 ?_
            refine az_iast kd_M_change_150 rfl rfl (k := 8 * i + k) (by omega) (by omega) ?_
            rw [hv_ho]
            rw [hv_u1 i k z _ e5]
            have hK2 := mK_u1 hK1 (i := i) (k := k) (z := z) (by omega) (by omega) (by omega)
            refine ar_iconst kd_M_change_151 ?_
            refine ar_istore kd_M_change_152 (Nat.le_of_ble_eq_true rfl) rfl ?_
            dsimp only [List.set]
            by_cases hr1 : mg_rl m1 (4 * i + 3) = 1
            · exact loopj (mg_nT m + 1) 0 (by omega) (by omega) hr1 _
            · have e6 : mk_up m1 i k z = mk_u1 m1 i k z := if_neg hr1
              rw [← e6]
              have eT2 : mg_nT (mk_up m1 i k z) = mg_nT m1 := mk_up_keep (P := fun m => mg_nT m) (fun _ _ => rfl) m1 i k z
              have eR2 : mg_rl (mk_up m1 i k z) = mg_rl m1 := mk_up_keep (P := fun m => mg_rl m) (fun _ _ => rfl) m1 i k z
              refine ar_iload kd_M_change_154 rfl ?_
              refine ar_aload_n kd_M_change_156 rfl ?_
              refine ar_get (ci := 5) (k := 1) kd_M_change_157 rfl kw_620 (by decide) rfl rfl ?_
              refine az_icmp_ge (tg := 198) kd_M_change_160 (by decide) (fun qj => ?_) (fun qj => ?_)
              · refine az_iinc kd_M_change_198 rfl rfl ?_
                dsimp only [List.set]
                refine ar_goto (tg := 58) kd_M_change_201 (by decide) ?_
                exact ih _ _ _ _ _ (mK_up hK1 (by omega) (by omega) (by omega)) ((mk_up_keep (P := fun m => mg_nT m) (fun _ _ => rfl) m1 i k z).trans eT) ((mk_up_keep (P := fun m => mg_nL m) (fun _ _ => rfl) m1 i k z).trans eL) (by omega) e2
              · refine ar_aload_n kd_M_change_163 rfl ?_
                refine ar_get (ci := 5) (k := 9) kd_M_change_164 rfl kw_628 (by decide) rfl rfl ?_
                refine ar_iconst kd_M_change_167 ?_
                refine ar_iload kd_M_change_168 rfl ?_
                refine az_imul kd_M_change_170 ?_
                refine ar_iconst kd_M_change_171 ?_
                refine az_iadd kd_M_change_172 ?_
                refine az_iald kd_M_change_173 rfl (k := 4 * i + 3) (by omega) (by omega) ?_
                rw [eR2]
                refine ar_iconst kd_M_change_174 ?_
                refine az_icmp_ne (tg := 198) kd_M_change_175 (by decide) (fun q2 => ?_) (fun q2 => (by exfalso; omega))
                refine az_iinc kd_M_change_198 rfl rfl ?_
                dsimp only [List.set]
                refine ar_goto (tg := 58) kd_M_change_201 (by decide) ?_
                exact ih _ _ _ _ _ (mK_up hK1 (by omega) (by omega) (by omega)) ((mk_up_keep (P := fun m => mg_nT m) (fun _ _ => rfl) m1 i k z).trans eT) ((mk_up_keep (P := fun m => mg_nL m) (fun _ _ => rfl) m1 i k z).trans eL) (by omega) e2
        · have e2 : mk_dn k z (mg_nL m) (mk_set m k z) 0 = mk_dn k z i m1 s := by
            rw [e0]
            exact if_neg (by omega)
          refine ar_goto (tg := 198) kd_M_change_92 (by decide) ?_
          refine az_iinc kd_M_change_198 rfl rfl ?_
          dsimp only [List.set]
          refine ar_goto (tg := 58) kd_M_change_201 (by decide) ?_
          exact ih _ _ _ _ _ hK1 eT eL (by omega) e2
  obtain ⟨hT, hL⟩ := hK.nn
  refine ar_aload_n kd_M_change_0 rfl ?_
  refine ar_aload_n kd_M_change_1 rfl ?_
  refine ar_iload_n kd_M_change_2 rfl ?_
  refine az_callv (z := km_M_isLot) (As := [_]) (ci := 5) kd_M_change_3 kw_714 kw_716 rfl ks_M_isLot kz_M_isLot rfl rfl rfl rfl rfl (Nat.le_of_ble_eq_true rfl) (Nat.le_of_ble_eq_true rfl) rfl (am_deep (sp_M_isLot_t (d := 0) (by omega) hK (by omega)) (by omega)) ?_
  refine az_if_ne (tg := 13) kd_M_change_6 (by decide) (fun q1 => ?_) (fun q1 => (by exfalso; omega))
  refine ar_iload_n kd_M_change_13 rfl ?_
  refine ar_iconst kd_M_change_14 ?_
  refine az_sipush kd_M_change_15 (by decide) ?_
  refine az_calls (z := km_M_in) (As := [_, _, _]) kd_M_change_18 kw_692 kw_693 kw_6 kz_M_in rfl rfl rfl rfl (Nat.le_of_ble_eq_true rfl) (Nat.le_of_ble_eq_true rfl) rfl (am_deep (sp_M_in_t (d := 0) (by omega) (by omega) (by omega) (by omega)) (Nat.zero_le _)) ?_
  refine az_if_ne (tg := 28) kd_M_change_21 (by decide) (fun q2 => ?_) (fun q2 => (by exfalso; omega))
  refine ar_iconst kd_M_change_28 ?_
  refine ar_put (ci := 5) (k := 0) kd_M_change_29 rfl kw_619 (by decide) rfl (Nat.le_of_ble_eq_true rfl) rfl (Nat.le_of_ble_eq_true rfl) rfl rfl rfl ?_
  refine ar_heap (hq_co _) ?_
  refine ar_aload_n kd_M_change_32 rfl ?_
  refine ar_get (ci := 5) (k := 0) kd_M_change_33 rfl kw_619 (by decide) rfl rfl ?_
  rw [co_co]
  refine az_if_le (tg := 41) kd_M_change_36 (by decide) (fun q3 => ?_) (fun q3 => (by exfalso; omega))
  refine ar_aload_n kd_M_change_41 rfl ?_
  refine ar_get (ci := 5) (k := 4) kd_M_change_42 rfl kw_623 (by decide) rfl rfl ?_
  refine ar_iload_n kd_M_change_45 rfl ?_
  refine ar_iload_n kd_M_change_46 rfl ?_
  refine az_iast kd_M_change_47 rfl rfl (k := k) (by omega) (by omega) ?_
  rw [hv_pc]
  refine ar_heap (h' := hC x c (hM (mk_set m k z) t)) rfl ?_
  refine ar_iconst kd_M_change_48 ?_
  refine ar_istore_n kd_M_change_49 (Nat.le_of_ble_eq_true rfl) rfl ?_
  dsimp only [List.set]
  refine ar_aload_n kd_M_change_50 rfl ?_
  refine ar_get (ci := 5) (k := 6) kd_M_change_51 rfl kw_625 (by decide) rfl rfl ?_
  refine ar_iconst kd_M_change_54 ?_
  refine az_isub kd_M_change_55 ?_
  refine ar_istore kd_M_change_56 (Nat.le_of_ble_eq_true rfl) rfl ?_
  dsimp only [List.set]
  exact loop (mg_nL m) (mk_set m k z) 0 _ _ _ (mK_set hK hz) rfl rfl (by omega) rfl
def mk_h (m : mS) (i : Nat) : Int := zs (fun l => mk_hby m l) i
def mk_g (m : mS) (i : Nat) : Int := zs (fun l => zs (fun k => zb (0 < mg_ho m (8 * l + k))) (mg_nT m)) i
def mk_c (m : mS) (i : Nat) : Int := zs (fun l => zs (fun k => mg_ho m (8 * l + k) * mk_cost m k l) (mg_nT m) + 1000 * (mg_ma m l - mk_hby m l)) i
def mk_count (m : mS) (w : Int) : Int := if w = 0 then mg_nT m else if w = 1 then mg_nL m else if w = 2 then mk_h m (mg_nL m) else if w = 3 then mk_g m (mg_nL m) else if w = 4 then mk_c m (mg_nL m) + 20 * mk_g m (mg_nL m) else -1
set_option maxHeartbeats 1000000 in
set_option maxRecDepth 20000 in
theorem sp_M_count {d : Nat} {x : am_C} {c : cS} {m : mS} {t : List am_C} {n : Nat} {w : Int} (h_w : -2147483648 ≤ w ∧ w < 2147483648) (hK : mK m) : am_W (d + 2) km_M_count 0 [some (.ref 50), some (.int (iI w)), none, none, none, none, none, none] [] (hC x c (hM m t)) n 0 0 (am_eq (some (.int (iI (mk_count m w)))) (hC x c (hM (ms_co m 0) t)) n) := by
  obtain ⟨hT, hL⟩ := hK.nn
  have eT0 : mg_nT (ms_co m 0) = mg_nT m := rfl
  have eL0 : mg_nL (ms_co m 0) = mg_nL m := rfl
  have hK0 := mK_co hK 0
  have loop : ¬ w = 0 → ¬ w = 1 → ∀ (f i : Nat), i ≤ mg_nL m → mg_nL m - i < f → ∀ (w6 w7 : Option Value), am_W (d + 2) km_M_count 34 [some (.ref 50), some (.int (iI w)), some (.int (iI (mk_h m i))), some (.int (iI (mk_g m i))), some (.int (iI (mk_c m i))), some (.int (iI i)), w6, w7] [] (hC x c (hM (ms_co m 0) t)) n 0 0 (am_eq (some (.int (iI (mk_count m w)))) (hC x c (hM (ms_co m 0) t)) n) := by
    intro n0 n1
    intro f
    induction f with
    | zero => intro i h1 h2 w6 w7; omega
    | succ f ih =>
      intro i h1 h2 w6 w7
      refine ar_iload kd_M_count_34 rfl ?_
      refine ar_aload_n kd_M_count_36 rfl ?_
      refine ar_get (ci := 5) (k := 6) kd_M_count_37 rfl kw_625 (by decide) rfl rfl ?_
      refine az_icmp_ge (tg := 139) kd_M_count_40 (by decide) (fun qa => ?_) (fun qa => ?_)
      · obtain rfl : i = mg_nL m := by omega
        refine ar_iload_n kd_M_count_139 rfl ?_
        refine ar_iconst kd_M_count_140 ?_
        refine az_icmp_ne (tg := 148) kd_M_count_141 (by decide) (fun q2 => ?_) (fun q2 => ?_)
        · refine ar_iload_n kd_M_count_148 rfl ?_
          refine ar_iconst kd_M_count_149 ?_
          refine az_icmp_ne (tg := 157) kd_M_count_150 (by decide) (fun q3 => ?_) (fun q3 => ?_)
          · refine ar_iload_n kd_M_count_157 rfl ?_
            refine ar_iconst kd_M_count_158 ?_
            refine az_icmp_ne (tg := 172) kd_M_count_159 (by decide) (fun q4 => ?_) (fun q4 => ?_)
            · have e1 : mk_count m w = -1 := by
                unfold mk_count
                rw [if_neg (by omega), if_neg (by omega), if_neg (by omega), if_neg (by omega), if_neg (by omega)]
              refine ar_iconst kd_M_count_172 ?_
              refine ar_ireturn kd_M_count_173 rfl (Nat.le_of_ble_eq_true rfl) (Nat.le_of_ble_eq_true rfl) ?_
              exact ⟨by rw [e1], rfl, rfl⟩
            · have e1 : mk_count m w = mk_c m (mg_nL m) + 20 * mk_g m (mg_nL m) := by
                unfold mk_count
                rw [if_neg (by omega), if_neg (by omega), if_neg (by omega), if_neg (by omega), if_pos (by omega)]
              refine ar_iload kd_M_count_162 rfl ?_
              refine az_bipush kd_M_count_164 (by decide) ?_
              refine ar_iload_n kd_M_count_166 rfl ?_
              refine az_imul kd_M_count_167 ?_
              refine az_iadd kd_M_count_168 ?_
              refine ar_goto (tg := 173) kd_M_count_169 (by decide) ?_
              refine ar_ireturn kd_M_count_173 rfl (Nat.le_of_ble_eq_true rfl) (Nat.le_of_ble_eq_true rfl) ?_
              exact ⟨by rw [e1], rfl, rfl⟩
          · have e1 : mk_count m w = mk_g m (mg_nL m) := by
              unfold mk_count
              rw [if_neg (by omega), if_neg (by omega), if_neg (by omega), if_pos (by omega)]
            refine ar_iload_n kd_M_count_153 rfl ?_
            refine ar_goto (tg := 173) kd_M_count_154 (by decide) ?_
            refine ar_ireturn kd_M_count_173 rfl (Nat.le_of_ble_eq_true rfl) (Nat.le_of_ble_eq_true rfl) ?_
            exact ⟨by rw [e1], rfl, rfl⟩
        · have e1 : mk_count m w = mk_h m (mg_nL m) := by
            unfold mk_count
            rw [if_neg (by omega), if_neg (by omega), if_pos (by omega)]
          refine ar_iload_n kd_M_count_144 rfl ?_
          refine ar_goto (tg := 173) kd_M_count_145 (by decide) ?_
          refine ar_ireturn kd_M_count_173 rfl (Nat.le_of_ble_eq_true rfl) (Nat.le_of_ble_eq_true rfl) ?_
          exact ⟨by rw [e1], rfl, rfl⟩
      · have loopj : ∀ (g j : Nat), j ≤ mg_nT m → mg_nT m - j < g → ∀ w7 : Option Value, am_W (d + 2) km_M_count 46 [some (.ref 50), some (.int (iI w)), some (.int (iI (mk_h m i + zs (fun k => mg_ho m (8 * i + k)) j))), some (.int (iI (mk_g m i + zs (fun k => zb (0 < mg_ho m (8 * i + k))) j))), some (.int (iI (mk_c m i + zs (fun k => mg_ho m (8 * i + k) * mk_cost m k i) j))), some (.int (iI i)), some (.int (iI j)), w7] [] (hC x c (hM (ms_co m 0) t)) n 0 0 (am_eq (some (.int (iI (mk_count m w)))) (hC x c (hM (ms_co m 0) t)) n) := by
          intro g
          induction g with
          | zero => intro j h3 h4; omega
          | succ g ihj =>
            intro j h3 h4 w7
            refine ar_iload kd_M_count_46 rfl ?_
            refine ar_aload_n kd_M_count_48 rfl ?_
            refine ar_get (ci := 5) (k := 1) kd_M_count_49 rfl kw_620 (by decide) rfl rfl ?_
            refine az_icmp_ge (tg := 110) kd_M_count_52 (by decide) (fun qb => ?_) (fun qb => ?_)
            · obtain rfl : j = mg_nT m := by omega
              refine ar_iload kd_M_count_110 rfl ?_
              refine az_sipush kd_M_count_112 (by decide) ?_
              refine ar_aload_n kd_M_count_115 rfl ?_
              refine ar_get (ci := 5) (k := 8) kd_M_count_116 rfl kw_627 (by decide) rfl rfl ?_
              refine ar_iload kd_M_count_119 rfl ?_
              refine az_iald kd_M_count_121 rfl (k := i) (by omega) (by omega) ?_
              refine ar_aload_n kd_M_count_122 rfl ?_
              refine ar_iload kd_M_count_123 rfl ?_
              refine az_callv (z := km_M_heldBy) (As := [_]) (ci := 5) kd_M_count_125 kw_824 kw_826 rfl ks_M_heldBy kz_M_heldBy rfl rfl rfl rfl rfl (Nat.le_of_ble_eq_true rfl) (Nat.le_of_ble_eq_true rfl) rfl (am_deep (sp_M_hby (d := 0) (m := ms_co m 0) (by omega) hK0) (by omega)) ?_
              refine az_isub kd_M_count_128 ?_
              refine az_imul kd_M_count_129 ?_
              refine az_iadd kd_M_count_130 ?_
              refine ar_istore kd_M_count_131 (Nat.le_of_ble_eq_true rfl) rfl ?_
              dsimp only [List.set]
              refine az_iinc kd_M_count_133 rfl rfl ?_
              dsimp only [List.set]
              refine ar_goto (tg := 34) kd_M_count_136 (by decide) ?_
              have h9 := ih (i + 1) (by omega) (by omega) (some (.int (iI (mg_nT m : Int)))) w7
              rw [show mk_h m (i + 1) = mk_h m i + zs (fun k => mg_ho m (8 * i + k)) (mg_nT m) from rfl, show mk_g m (i + 1) = mk_g m i + zs (fun k => zb (0 < mg_ho m (8 * i + k))) (mg_nT m) from rfl, show mk_c m (i + 1) = mk_c m i + (zs (fun k => mg_ho m (8 * i + k) * mk_cost m k i) (mg_nT m) + 1000 * (mg_ma m i - mk_hby m i)) from rfl, ← Int.add_assoc] at h9
              exact h9
            · have hho := hK.ho (l := i) (k := j) (by omega) (by omega)
              refine ar_aload_n kd_M_count_55 rfl ?_
              refine ar_get (ci := 5) (k := 12) kd_M_count_56 rfl kw_631 (by decide) rfl rfl ?_
              refine az_bipush kd_M_count_59 (by decide) ?_
              refine ar_iload kd_M_count_61 rfl ?_
              refine az_imul kd_M_count_63 ?_
              refine ar_iload kd_M_count_64 rfl ?_
              refine az_iadd kd_M_count_66 ?_
              refine az_iald kd_M_count_67 rfl (k := 8 * i + j) (by omega) (by omega) ?_
              refine (show am_W _ _ _ _ [.int (iI (mg_ho m (8 * i + j)))] _ _ _ _ _ from ?_)
              refine ar_istore kd_M_count_68 (Nat.le_of_ble_eq_true rfl) rfl ?_
              dsimp only [List.set]
              refine ar_iload_n kd_M_count_70 rfl ?_
              refine ar_iload kd_M_count_71 rfl ?_
              refine az_iadd kd_M_count_73 ?_
              refine ar_istore_n kd_M_count_74 (Nat.le_of_ble_eq_true rfl) rfl ?_
              dsimp only [List.set]
              refine ar_iload_n kd_M_count_75 rfl ?_
              refine ar_iload kd_M_count_76 rfl ?_
              refine az_if_le (tg := 85) kd_M_count_78 (by decide) (fun qg => ?_) (fun qg => ?_)
              · have e8 : zb (0 < mg_ho m (8 * i + j)) = 0 := if_neg (by omega)
                refine ar_iconst kd_M_count_85 ?_
                refine az_iadd kd_M_count_86 ?_
                refine ar_istore_n kd_M_count_87 (Nat.le_of_ble_eq_true rfl) rfl ?_
                dsimp only [List.set]
                refine ar_iload kd_M_count_88 rfl ?_
                refine ar_iload kd_M_count_90 rfl ?_
                refine ar_aload_n kd_M_count_92 rfl ?_
                refine ar_iload kd_M_count_93 rfl ?_
                refine ar_iload kd_M_count_95 rfl ?_
                refine az_callv (z := km_M_costOf) (As := [_, _]) (ci := 5) kd_M_count_97 kw_764 kw_766 rfl ks_M_costOf kz_M_costOf rfl rfl rfl rfl rfl (Nat.le_of_ble_eq_true rfl) (Nat.le_of_ble_eq_true rfl) rfl (am_deep (sp_M_costOf (d := 0) (m := ms_co m 0) (by omega) (by omega) hK0) (by omega)) ?_
                refine az_imul kd_M_count_100 ?_
                refine az_iadd kd_M_count_101 ?_
                refine ar_istore kd_M_count_102 (Nat.le_of_ble_eq_true rfl) rfl ?_
                dsimp only [List.set]
                refine az_iinc kd_M_count_104 rfl rfl ?_
                dsimp only [List.set]
                refine ar_goto (tg := 46) kd_M_count_107 (by decide) ?_
                have h9 := ihj (j + 1) (by omega) (by omega) (some (.int (iI (mg_ho m (8 * i + j)))))
                simp only [zs] at h9
                rw [e8, ← Int.add_assoc, ← Int.add_assoc, ← Int.add_assoc] at h9
                exact h9
              · have e8 : zb (0 < mg_ho m (8 * i + j)) = 1 := if_pos (by omega)
                refine ar_iconst kd_M_count_81 ?_
                refine ar_goto (tg := 86) kd_M_count_82 (by decide) ?_
                refine az_iadd kd_M_count_86 ?_
                refine ar_istore_n kd_M_count_87 (Nat.le_of_ble_eq_true rfl) rfl ?_
                dsimp only [List.set]
                refine ar_iload kd_M_count_88 rfl ?_
                refine ar_iload kd_M_count_90 rfl ?_
                refine ar_aload_n kd_M_count_92 rfl ?_
                refine ar_iload kd_M_count_93 rfl ?_
                refine ar_iload kd_M_count_95 rfl ?_
                refine az_callv (z := km_M_costOf) (As := [_, _]) (ci := 5) kd_M_count_97 kw_764 kw_766 rfl ks_M_costOf kz_M_costOf rfl rfl rfl rfl rfl (Nat.le_of_ble_eq_true rfl) (Nat.le_of_ble_eq_true rfl) rfl (am_deep (sp_M_costOf (d := 0) (m := ms_co m 0) (by omega) (by omega) hK0) (by omega)) ?_
                refine az_imul kd_M_count_100 ?_
                refine az_iadd kd_M_count_101 ?_
                refine ar_istore kd_M_count_102 (Nat.le_of_ble_eq_true rfl) rfl ?_
                dsimp only [List.set]
                refine az_iinc kd_M_count_104 rfl rfl ?_
                dsimp only [List.set]
                refine ar_goto (tg := 46) kd_M_count_107 (by decide) ?_
                have h9 := ihj (j + 1) (by omega) (by omega) (some (.int (iI (mg_ho m (8 * i + j)))))
                simp only [zs] at h9
                rw [e8, ← Int.add_assoc, ← Int.add_assoc, ← Int.add_assoc] at h9
                exact h9
        refine ar_iconst kd_M_count_43 ?_
        refine ar_istore kd_M_count_44 (Nat.le_of_ble_eq_true rfl) rfl ?_
        dsimp only [List.set]
        have h9 := loopj (mg_nT m + 1) 0 (by omega) (by omega) w7
        simp only [zs, Int.add_zero] at h9
        exact h9
  refine ar_aload_n kd_M_count_0 rfl ?_
  refine ar_iconst kd_M_count_1 ?_
  refine ar_put (ci := 5) (k := 0) kd_M_count_2 rfl kw_619 (by decide) rfl (Nat.le_of_ble_eq_true rfl) rfl (Nat.le_of_ble_eq_true rfl) rfl rfl rfl ?_
  refine ar_heap (hq_co _) ?_
  refine ar_iload_n kd_M_count_5 rfl ?_
  refine az_if_ne (tg := 14) kd_M_count_6 (by decide) (fun n0 => ?_) (fun n0 => ?_)
  · refine ar_iload_n kd_M_count_14 rfl ?_
    refine ar_iconst kd_M_count_15 ?_
    refine az_icmp_ne (tg := 24) kd_M_count_16 (by decide) (fun n1 => ?_) (fun n1 => ?_)
    · refine ar_iconst kd_M_count_24 ?_
      refine ar_istore_n kd_M_count_25 (Nat.le_of_ble_eq_true rfl) rfl ?_
      dsimp only [List.set]
      refine ar_iconst kd_M_count_26 ?_
      refine ar_istore_n kd_M_count_27 (Nat.le_of_ble_eq_true rfl) rfl ?_
      dsimp only [List.set]
      refine ar_iconst kd_M_count_28 ?_
      refine ar_istore kd_M_count_29 (Nat.le_of_ble_eq_true rfl) rfl ?_
      dsimp only [List.set]
      refine ar_iconst kd_M_count_31 ?_
      refine ar_istore kd_M_count_32 (Nat.le_of_ble_eq_true rfl) rfl ?_
      dsimp only [List.set]
      exact loop n0 n1 (mg_nL m + 1) 0 (by omega) (by omega) _ _
    · have e1 : mk_count m w = mg_nL m := by
        unfold mk_count
        rw [if_neg (by omega), if_pos (by omega)]
      refine ar_aload_n kd_M_count_19 rfl ?_
      refine ar_get (ci := 5) (k := 6) kd_M_count_20 rfl kw_625 (by decide) rfl rfl ?_
      refine ar_ireturn kd_M_count_23 rfl (Nat.le_of_ble_eq_true rfl) (Nat.le_of_ble_eq_true rfl) ?_
      first | exact ⟨by rw [e1] <;> rfl, rfl, rfl⟩
  · have e1 : mk_count m w = mg_nT m := by
      unfold mk_count
      rw [if_pos (by omega)]
    refine ar_aload_n kd_M_count_9 rfl ?_
    refine ar_get (ci := 5) (k := 1) kd_M_count_10 rfl kw_620 (by decide) rfl rfl ?_
    refine ar_ireturn kd_M_count_13 rfl (Nat.le_of_ble_eq_true rfl) (Nat.le_of_ble_eq_true rfl) ?_
    first | exact ⟨by rw [e1] <;> rfl, rfl, rfl⟩
