/-! the reference solves -/
theorem Int32_to64 {z : Int} (h1 : -2147483648 ≤ z) (h2 : z < 2147483648) : (iI z).toInt64 = Int64.ofInt z := by
  have := Int32.toInt64_ofInt (n := z) (by simp [Int32.toInt_minValue]; omega) (by simp [Int32.toInt_maxValue]; omega)
  exact this
theorem lc_z {a z : Int} (ha : 0 ≤ a ∧ a ≤ 281474976710656) (hz : 0 ≤ z ∧ z ≤ 40000) : 0 < lg_cmp (Int64.ofInt a) (iI z).toInt64 ↔ ¬ a ≤ z := by
  rw [Int32_to64 (by omega) (by omega), lg_cmp_gt, ← Int64.not_le, il_le (by omega) (by omega)]
theorem mk_ln_congr {m m' : mS} (h1 : mg_gd m' = mg_gd m) (h2 : mg_wi m' = mg_wi m) (h3 : mg_un m' = mg_un m) (h4 : mg_rl m' = mg_rl m) (h5 : mg_ba m' = mg_ba m) (l : Nat) : ∀ j, mk_ln m' l j = mk_ln m l j
  | 0 => rfl
  | j + 1 => by
    have e : mk_all m' j l ↔ mk_all m j l := by
      unfold mk_all mk_p1
      rw [h1, h2, h3, h4, h5]
    simp only [mk_ln, mk_ln_congr h1 h2 h3 h4 h5 l j]
    by_cases hh : mk_all m j l
    · rw [if_pos hh, if_pos (e.mpr hh)]
    · rw [if_neg hh, if_neg (fun q => hh (e.mp q))]
theorem mk_na_congr {m m' : mS} (h1 : mg_gd m' = mg_gd m) (h2 : mg_wi m' = mg_wi m) (h3 : mg_un m' = mg_un m) (h4 : mg_rl m' = mg_rl m) (h5 : mg_ba m' = mg_ba m) (h6 : mg_nT m' = mg_nT m) : ∀ i, mk_na m' i = mk_na m i
  | 0 => rfl
  | i + 1 => by
    simp only [mk_na, mk_na_congr h1 h2 h3 h4 h5 h6 i, mk_ln_congr h1 h2 h3 h4 h5 i, h6]
def mk_cs (m : mS) (i : Nat) : mS := zf (fun a k => ms_se a (zu (mg_se a) k (mg_bs a k))) m i
theorem mk_cs_keep {β : Type} {P : mS → β} (h1 : ∀ m v, P (ms_se m v) = P m) (m : mS) (i : Nat) : P (mk_cs m i) = P m := zf_keep (g := fun a k => ms_se a (zu (mg_se a) k (mg_bs a k))) (P := P) (fun a i => h1 _ _) m i
theorem mA_cs {m : mS} (h : mA m) (i : Nat) (hi : i ≤ 6) : mA (mk_cs m i) := zf_invB (P := mA) (N := 6) (fun a k hk ha => mA_se ha (ha k hk).2.2.1) h i hi
theorem cs_se (m : mS) : ∀ n i, mg_se (mk_cs m n) i = if i < n then mg_bs m i else mg_se m i
  | 0, i => rfl
  | n + 1, i => by
    have e : mk_cs m (n + 1) = ms_se (mk_cs m n) (zu (mg_se (mk_cs m n)) n (mg_bs (mk_cs m n) n)) := rfl
    rw [e, se_se]
    by_cases h : i = n
    · subst h
      rw [zu_s, if_pos (by omega), mk_cs_keep (P := fun m => mg_bs m) (fun _ _ => rfl)]
    · rw [zu_n h, cs_se m n i]
      by_cases h2 : i < n
      · rw [if_pos h2, if_pos (by omega)]
      · rw [if_neg h2, if_neg (by omega)]
def mk_h1 (i : Nat) (a : mS) (j : Nat) : mS := ms_ho a (zu (mg_ho a) (8 * i + j) (mg_ta a (8 * i + j)))
def mk_h2 (m : mS) (i j : Nat) : mS := zf (mk_h1 i) m j
def mk_h3 (m : mS) (i : Nat) : mS := zf (fun a l => mk_h2 a l (mg_nT a)) m i
theorem mk_h2_keep {β : Type} {P : mS → β} (h1 : ∀ m v, P (ms_ho m v) = P m) (m : mS) (i j : Nat) : P (mk_h2 m i j) = P m := zf_keep (g := mk_h1 i) (P := P) (fun a i => h1 _ _) m j
theorem mk_h3_keep {β : Type} {P : mS → β} (h1 : ∀ m v, P (ms_ho m v) = P m) (m : mS) (i : Nat) : P (mk_h3 m i) = P m := zf_keep (g := fun a l => mk_h2 a l (mg_nT a)) (P := P) (fun a i => mk_h2_keep h1 a i _) m i
theorem ho_ho (m : mS) (v : Nat → Int) : mg_ho (ms_ho m v) = v := rfl
theorem h2_ho (m : mS) (l : Nat) : ∀ n i, mg_ho (mk_h2 m l n) i = if 8 * l ≤ i ∧ i < 8 * l + n then mg_ta m i else mg_ho m i
  | 0, i => by
    rw [if_neg (by omega)]
    rfl
  | n + 1, i => by
    have e : mk_h2 m l (n + 1) = ms_ho (mk_h2 m l n) (zu (mg_ho (mk_h2 m l n)) (8 * l + n) (mg_ta (mk_h2 m l n) (8 * l + n))) := rfl
    rw [e, ho_ho]
    by_cases h : i = 8 * l + n
    · subst h
      rw [zu_s, if_pos (by omega), mk_h2_keep (P := fun m => mg_ta m) (fun _ _ => rfl)]
    · rw [zu_n h, h2_ho m l n i]
      by_cases h2 : 8 * l ≤ i ∧ i < 8 * l + n
      · rw [if_pos h2, if_pos (by omega)]
      · rw [if_neg h2, if_neg (by omega)]
theorem h3_ho (m : mS) (hT : mg_nT m ≤ 8) : ∀ n l k, k < 8 → mg_ho (mk_h3 m n) (8 * l + k) = if l < n ∧ k < mg_nT m then mg_ta m (8 * l + k) else mg_ho m (8 * l + k)
  | 0, l, k, hk => by
    rw [if_neg (by omega)]
    rfl
  | n + 1, l, k, hk => by
    have e : mk_h3 m (n + 1) = mk_h2 (mk_h3 m n) n (mg_nT (mk_h3 m n)) := rfl
    have e2 : mg_nT (mk_h3 m n) = mg_nT m := mk_h3_keep (P := fun m => mg_nT m) (fun _ _ => rfl) m n
    have e3 : mg_ta (mk_h3 m n) = mg_ta m := mk_h3_keep (P := fun m => mg_ta m) (fun _ _ => rfl) m n
    rw [e, e2, h2_ho, e3, h3_ho m hT n l k hk]
    by_cases h1 : l = n
    · subst h1
      by_cases h2 : k < mg_nT m
      · rw [if_pos (by omega), if_pos (by omega)]
      · rw [if_neg (by omega), if_neg (by omega), if_neg (by omega)]
    · rw [if_neg (by omega)]
      by_cases h2 : l < n ∧ k < mg_nT m
      · rw [if_pos h2, if_pos (by omega)]
      · rw [if_neg h2, if_neg (by omega)]
/-- the sets that are taken of: the first of the least, or by rule -/
def sO (b : pB) (e : Bool) : Nat → Nat := if e = true then (match gF b none (sq b (pb_nL b) (fun _ => 0)) with
  | some q => q.1
  | none => fun _ => 0) else fun l => 2 ^ (zn (pb_fw b l) (pb_ac b l : Int)).toNat - 1
theorem br_bs (m : mS) : ∀ n i, mg_bs (mk_br m n) i = if i < n then (mk_r3 m i : Int) else mg_bs m i
  | 0, i => rfl
  | n + 1, i => by
    have e : mk_br m (n + 1) = ms_bs (mk_br m n) (zu (mg_bs (mk_br m n)) n (mk_r3 (mk_br m n) n)) := rfl
    have e2 : mk_r3 (mk_br m n) n = mk_r3 m n := by
      unfold mk_r3
      rw [mk_br_keep (P := fun m => mg_rl m) (fun _ _ => rfl), mk_br_keep (P := fun m => mg_ac m) (fun _ _ => rfl)]
    rw [e, bs_bs]
    by_cases h : i = n
    · subst h
      rw [zu_s, if_pos (by omega), e2]
    · rw [zu_n h, br_bs m n i]
      by_cases h2 : i < n
      · rw [if_pos h2, if_pos (by omega)]
      · rw [if_neg h2, if_neg (by omega)]
theorem mk_r3_lt {m : mS} (hK : mK m) (hA : mA m) {l : Nat} (hl : l < 6) : mk_r3 m l < 256 := by
  have h1 := hK.line hl
  have h2 := (hA l hl).1
  have h3 : (zn (mg_rl m (4 * l + 2)) (mg_ac m l)).toNat ≤ 8 := by unfold zn; split <;> omega
  have h4 := Nat.pow_le_pow_right (n := 2) (by decide) h3
  have h5 := Nat.pow_pos (n := (zn (mg_rl m (4 * l + 2)) (mg_ac m l)).toNat) (show 0 < 2 by decide)
  unfold mk_r3
  omega
theorem mA_br {m : mS} (hK : mK m) (hA : mA m) (i : Nat) (hi : i ≤ 6) : mA (mk_br m i) := by
  intro l hl
  have hk : (mg_ac (mk_br m i), mg_se (mk_br m i), mg_al (mk_br m i)) = (mg_ac m, mg_se m, mg_al m) := mk_br_keep (P := fun m => (mg_ac m, mg_se m, mg_al m)) (fun _ _ => rfl) m i
  simp only [Prod.mk.injEq] at hk
  obtain ⟨k1, k2, k3⟩ := hk
  obtain ⟨a1, a2, a3, a4⟩ := hA l hl
  refine ⟨by rw [k1]; exact a1, by rw [k2]; exact a2, ?_, by rw [k3]; exact a4⟩
  rw [br_bs]
  split
  · have := mk_r3_lt hK hA hl
    omega
  · exact a3
theorem mK_ex {m : mS} (h : mK m) (v : Int) : mK (ms_ex m v) := h
theorem mA_ex {m : mS} (h : mA m) (v : Int) : mA (ms_ex m v) := h
theorem mE_ex {m : mS} (h : mE m) (v : Int) : mE (ms_ex m v) := h
theorem mM_ex {b : pB} {m : mS} (h : mM b m) (v : Int) : mM b (ms_ex m v) := h
theorem mVl_ex {b : pB} {m : mS} {se : Nat → Nat} {y : Nat} (h : mVl b m se y) (v : Int) : mVl b (ms_ex m v) se y := h
theorem ex_ex (m : mS) (v : Int) : mg_ex (ms_ex m v) = v := rfl
/-- laid out, in its ranges -/
theorem mk_lo_ok {m : mS} (hK : mK m) (hA : mA m) (hO : mO m) : mK (mk_lo m) ∧ mA (mk_lo m) := by
  obtain ⟨h1, h2, -⟩ := mk_lay_ok hK hA hO (mg_nL m)
  have h3 : mK (mk_pr1 (mk_lay m (mg_nL m)) (mg_nT m)) := zf_inv (P := mK) (fun a k ha => mK_re ha _) h1 _
  have h4 : mA (mk_pr1 (mk_lay m (mg_nL m)) (mg_nT m)) := zf_inv (P := mA) (fun a k ha => mA_re ha _) h2 _
  exact ⟨mK_sp h3 _, mA_sp h4 _⟩
/-- how the reference's solve ends -/
def mQs (b : pB) (x : am_C) (c : cS) (m : mS) (t : List am_C) (n : Nat) (e : Bool) : am_O → am_H → Nat → Prop := fun o h n' => o = .inl (some (.int (iI (sZ b (sO b e) (pb_nL b))))) ∧ n' = n ∧ ∃ m' m2, h = hC x c (hM m' t) ∧ m' = mk_h3 m2 (pb_nL b) ∧ mC m2 = mC (ms_ex (mk_lo (ms_co m 0)) (if e = true then 1 else 0)) ∧ mA m2 ∧ mE m2 ∧ mVl b m2 (sO b e) (pb_nL b)
set_option maxHeartbeats 1000000 in
set_option maxRecDepth 20000 in
theorem sp_M_solve_f1 {d : Nat} {x : am_C} {c : cS} {m : mS} {t : List am_C} {n : Nat} {z : Int} (h_z : -2147483648 ≤ z ∧ z < 2147483648) (hz : ¬ (0 ≤ z ∧ z ≤ 40000)) : am_W (d + 4) km_M_solve 0 [some (.ref 50), some (.int (iI z)), none, none] [] (hC x c (hM m t)) n 0 0 (am_eq (some (.int (iI (0)))) (hC x c (hM (ms_co m 1) t)) n) := by
  refine ar_aload_n kd_M_solve_0 rfl ?_
  refine ar_iload_n kd_M_solve_1 rfl ?_
  refine ar_iconst kd_M_solve_2 ?_
  refine az_ldc (u := 40000) kd_M_solve_3 kw_734 (by decide) ?_
  refine az_calls (z := km_M_in) (As := [_, _, _]) kd_M_solve_5 kw_692 kw_693 kw_6 kz_M_in rfl rfl rfl rfl (Nat.le_of_ble_eq_true rfl) (Nat.le_of_ble_eq_true rfl) rfl (am_deep (sp_M_in_f (d := 0) (by omega) (by omega) (by omega) (by omega)) (Nat.zero_le _)) ?_
  refine az_if_eq (tg := 15) kd_M_solve_8 (by decide) (fun q1 => ?_) (fun q1 => (by exfalso; omega))
  refine ar_iconst kd_M_solve_15 ?_
  refine ar_put (ci := 5) (k := 0) kd_M_solve_16 rfl kw_619 (by decide) rfl (Nat.le_of_ble_eq_true rfl) rfl (Nat.le_of_ble_eq_true rfl) rfl rfl rfl ?_
  refine ar_heap (hq_co _) ?_
  refine ar_aload_n kd_M_solve_19 rfl ?_
  refine ar_get (ci := 5) (k := 0) kd_M_solve_20 rfl kw_619 (by decide) rfl rfl ?_
  rw [co_co]
  refine az_if_le (tg := 28) kd_M_solve_23 (by decide) (fun q2 => (by exfalso; omega)) (fun q2 => ?_)
  refine ar_iconst kd_M_solve_26 ?_
  refine ar_ireturn kd_M_solve_27 rfl (Nat.le_of_ble_eq_true rfl) (Nat.le_of_ble_eq_true rfl) ?_
  exact ⟨rfl, rfl, rfl⟩
set_option maxHeartbeats 1000000 in
set_option maxRecDepth 20000 in
theorem sp_M_solve {d : Nat} {x : am_C} {c : cS} {m : mS} {t : List am_C} {n : Nat} {b : pB} {z : Int} (hz : 0 ≤ z ∧ z ≤ 40000) (hb : bOK b) (hf : ∀ l, l < pb_nL b → 0 ≤ pb_fw b l) (hw : ∀ l, l < pb_nL b → pb_w b l ≤ 200) (hK : mK m) (hA : mA m) (hO : mO m) (hmm : mM b (mk_lo (ms_co m 0))) (hE : mE (mk_lo (ms_co m 0))) (hV : mVl b (mk_lo (ms_co m 0)) (fun _ => 0) 0) : am_W (d + 4) km_M_solve 0 [some (.ref 50), some (.int (iI z)), none, none] [] (hC x c (hM m t)) n 0 0 (mQs b x c m t n (decide (((2 ^ mk_na m (mg_nL m) : Nat) : Int) ≤ z))) := by
  have hL6 := hb.2.2.1
  have hT8 := hb.2.2.2
  obtain ⟨hKl, hAl⟩ := mk_lo_ok (mK_co hK 0) (m := ms_co m 0) hA (mO_congr (m := m) rfl rfl rfl hO)
  have hnl := hmm.1
  have hpw := mk_pw_rg hK
  have kna : mk_na (mk_lo (ms_co m 0)) (mg_nL (mk_lo (ms_co m 0))) = mk_na m (mg_nL m) := by
    have k0 : (mg_gd (mk_lo (ms_co m 0)), mg_wi (mk_lo (ms_co m 0)), mg_un (mk_lo (ms_co m 0)), mg_rl (mk_lo (ms_co m 0)), mg_ba (mk_lo (ms_co m 0)), mg_nT (mk_lo (ms_co m 0)), mg_nL (mk_lo (ms_co m 0))) = (mg_gd (ms_co m 0), mg_wi (ms_co m 0), mg_un (ms_co m 0), mg_rl (ms_co m 0), mg_ba (ms_co m 0), mg_nT (ms_co m 0), mg_nL (ms_co m 0)) := (mk_pr1_keep (P := fun m => (mg_gd m, mg_wi m, mg_un m, mg_rl m, mg_ba m, mg_nT m, mg_nL m)) (fun _ _ => rfl) _ _).trans (mk_lay_keep (P := fun m => (mg_gd m, mg_wi m, mg_un m, mg_rl m, mg_ba m, mg_nT m, mg_nL m)) (fun _ _ => rfl) (fun _ _ => rfl) _ _)
    simp only [Prod.mk.injEq] at k0
    obtain ⟨k1, k2, k3, k4, k5, k6, k7⟩ := k0
    rw [k7]
    exact (mk_na_congr k1 k2 k3 k4 k5 k6 _).trans (mk_na_congr (m := m) (m' := ms_co m 0) rfl rfl rfl rfl rfl rfl (mg_nL m))
  have fin : ∀ (e : Bool) (m1 : mS) (w2 w3 : Option Value), e = (decide (((2 ^ mk_na m (mg_nL m) : Nat) : Int) ≤ z)) → mC m1 = mC (ms_ex (mk_lo (ms_co m 0)) (if e = true then 1 else 0)) → mA m1 → mE m1 → mVl b m1 (fun _ => 0) 0 → (∀ i, i < pb_nL b → mg_bs m1 i = (sO b e i : Int)) → am_W (d + 4) km_M_solve 69 [some (.ref 50), some (.int (iI z)), w2, w3] [] (hC x c (hM m1 t)) n 0 0 (mQs b x c m t n (decide (((2 ^ mk_na m (mg_nL m) : Nat) : Int) ≤ z))) := by
    intro e m1 w2 w3 he c1 c2 c3 c4 c5
    have hM1 : mM b m1 := mM_of (mM_ex hmm _) c1
    have hK1 : mK m1 := mK_of (mK_ex hKl _) c1
    have eL1 := hM1.1
    have eT1 := hM1.2.1
    have s1 : mC (mk_cs m1 (pb_nL b)) = mC m1 := mk_cs_keep (P := mC) (fun _ _ => rfl) m1 _
    have s2 := mM_of hM1 s1
    have s3 := mK_of hK1 s1
    have s4 := mA_cs c2 (pb_nL b) hL6
    have s5 : mSe b (mk_cs m1 (pb_nL b)) (sO b e) := fun i hi => by rw [cs_se, if_pos hi]; exact c5 i hi
    have s6 : mVl b (mk_cs m1 (pb_nL b)) (sO b e) 0 := mVl_low (mVl_of c4 (mk_cs_keep (P := fun m => mg_re m) (fun _ _ => rfl) m1 _) (mk_cs_keep (P := fun m => mg_sp m) (fun _ _ => rfl) m1 _) (mk_cs_keep (P := fun m => mg_ta m) (fun _ _ => rfl) m1 _)) (Nat.le_refl _) (fun k hk => by omega)
    have s7 : mE (mk_cs m1 (pb_nL b)) := mE_of c3 (mk_cs_keep (P := fun m => mg_re m) (fun _ _ => rfl) m1 _)
    have s8 := s2.1
    obtain ⟨v1, v2⟩ := mVl_tf hb s2 s5 s6 s7 (pb_nL b) (by omega)
    rw [Nat.zero_add] at v1
    have f1 : mC (mk_tf (mk_cs m1 (pb_nL b)) 0 (pb_nL b)) = mC (mk_cs m1 (pb_nL b)) := mk_tf_keep (P := mC) (fun _ _ => rfl) (fun _ _ => rfl) (fun _ _ => rfl) _ 0 _
    have f4 := (mk_tf_ok s3 s4 0 (pb_nL b)).2
    generalize hm2 : mk_tf (mk_cs m1 (pb_nL b)) 0 (pb_nL b) = m2 at v1 v2 f1 f4
    have g1 := mM_of s2 f1
    have g2 := g1.1
    have g3 := g1.2.1
    have g4 := (v1.1 (pb_nL b) (Nat.le_refl _)).2
    have hold : ∀ (f i : Nat), i ≤ pb_nL b → pb_nL b - i < f → ∀ w3 : Option Value, am_W (d + 4) km_M_solve 104 [some (.ref 50), some (.int (iI z)), some (.int (iI i)), w3] [] (hC x c (hM (mk_h3 m2 i) t)) n 0 0 (mQs b x c m t n (decide (((2 ^ mk_na m (mg_nL m) : Nat) : Int) ≤ z))) := by
      intro f
      induction f with
      | zero => intro i h1 h2 w3; omega
      | succ f ih =>
        intro i h1 h2 w3
        have e3 : mg_nT (mk_h3 m2 i) = pb_nT b := (mk_h3_keep (P := fun m => mg_nT m) (fun _ _ => rfl) m2 i).trans g3
        have e4 : mg_nL (mk_h3 m2 i) = pb_nL b := (mk_h3_keep (P := fun m => mg_nL m) (fun _ _ => rfl) m2 i).trans g2
        refine ar_iload_n kd_M_solve_104 rfl ?_
        refine ar_aload_n kd_M_solve_105 rfl ?_
        refine ar_get (ci := 5) (k := 6) kd_M_solve_106 rfl kw_625 (by decide) rfl rfl ?_
        refine az_icmp_ge (tg := 156) kd_M_solve_109 (by decide) (fun qi => ?_) (fun qi => ?_)
        · obtain rfl : i = pb_nL b := by omega
          refine ar_aload_n kd_M_solve_156 rfl ?_
          refine ar_get (ci := 5) (k := 19) kd_M_solve_157 rfl kw_638 (by decide) rfl rfl ?_
          refine ar_aload_n kd_M_solve_160 rfl ?_
          refine ar_get (ci := 5) (k := 6) kd_M_solve_161 rfl kw_625 (by decide) rfl rfl ?_
          refine az_iald kd_M_solve_164 rfl (k := mg_nL (mk_h3 m2 (pb_nL b))) rfl (by omega) ?_
          refine ar_ireturn kd_M_solve_165 rfl (Nat.le_of_ble_eq_true rfl) (Nat.le_of_ble_eq_true rfl) ?_
          refine ⟨?_, rfl, _, m2, rfl, rfl, ?_, f4, v2, ?_⟩
          · show Sum.inl (some (Value.int (iI (mg_sp (mk_h3 m2 (pb_nL b)) (mg_nL (mk_h3 m2 (pb_nL b))))))) = _
            rw [e4, mk_h3_keep (P := fun m => mg_sp m) (fun _ _ => rfl), g4, he]
          · rw [f1, s1, c1, he]
          · rw [← he]
            exact v1
        · have loopj : ∀ (g j : Nat), j ≤ pb_nT b → pb_nT b - j < g → am_W (d + 4) km_M_solve 114 [some (.ref 50), some (.int (iI z)), some (.int (iI i)), some (.int (iI j))] [] (hC x c (hM (mk_h2 (mk_h3 m2 i) i j) t)) n 0 0 (mQs b x c m t n (decide (((2 ^ mk_na m (mg_nL m) : Nat) : Int) ≤ z))) := by
            intro g
            induction g with
            | zero => intro j h3 h4; omega
            | succ g ihj =>
              intro j h3 h4
              have e5 : mg_nT (mk_h2 (mk_h3 m2 i) i j) = pb_nT b := (mk_h2_keep (P := fun m => mg_nT m) (fun _ _ => rfl) _ i j).trans e3
              refine ar_iload_n kd_M_solve_114 rfl ?_
              refine ar_aload_n kd_M_solve_115 rfl ?_
              refine ar_get (ci := 5) (k := 1) kd_M_solve_116 rfl kw_620 (by decide) rfl rfl ?_
              refine az_icmp_ge (tg := 150) kd_M_solve_119 (by decide) (fun qj => ?_) (fun qj => ?_)
              · obtain rfl : j = pb_nT b := by omega
                have e6 : mk_h2 (mk_h3 m2 i) i (pb_nT b) = mk_h3 m2 (i + 1) := by
                  show _ = mk_h2 (mk_h3 m2 i) i (mg_nT (mk_h3 m2 i))
                  rw [e3]
                rw [e6]
                refine az_iinc kd_M_solve_150 rfl rfl ?_
                dsimp only [List.set]
                refine ar_goto (tg := 104) kd_M_solve_153 (by decide) ?_
                exact ih (i + 1) (by omega) (by omega) _
              · refine ar_aload_n kd_M_solve_122 rfl ?_
                refine ar_get (ci := 5) (k := 12) kd_M_solve_123 rfl kw_631 (by decide) rfl rfl ?_
                refine az_bipush kd_M_solve_126 (by decide) ?_
                refine ar_iload_n kd_M_solve_128 rfl ?_
                refine az_imul kd_M_solve_129 ?_
                refine ar_iload_n kd_M_solve_130 rfl ?_
                refine az_iadd kd_M_solve_131 ?_
                refine ar_aload_n kd_M_solve_132 rfl ?_
                refine ar_get (ci := 5) (k := 20) kd_M_solve_133 rfl kw_639 (by decide) rfl rfl ?_
                refine az_bipush kd_M_solve_136 (by decide) ?_
                refine ar_iload_n kd_M_solve_138 rfl ?_
                refine az_imul kd_M_solve_139 ?_
                refine ar_iload_n kd_M_solve_140 rfl ?_
                refine az_iadd kd_M_solve_141 ?_
                refine az_iald kd_M_solve_142 rfl (k := 8 * i + j) (by omega) (by omega) ?_
                refine az_iast kd_M_solve_143 rfl rfl (k := 8 * i + j) (by omega) (by omega) ?_
                rw [hv_ho]
                refine az_iinc kd_M_solve_144 rfl rfl ?_
                dsimp only [List.set]
                refine ar_goto (tg := 114) kd_M_solve_147 (by decide) ?_
                exact ihj (j + 1) (by omega) (by omega)
          refine ar_iconst kd_M_solve_112 ?_
          refine ar_istore_n kd_M_solve_113 (Nat.le_of_ble_eq_true rfl) rfl ?_
          dsimp only [List.set]
          refine ar_heap (h' := hC x c (hM (mk_h2 (mk_h3 m2 i) i 0) t)) rfl ?_
          exact loopj (pb_nT b + 1) 0 (by omega) (by omega)
    have sets : ∀ (f i : Nat), i ≤ pb_nL b → pb_nL b - i < f → am_W (d + 4) km_M_solve 71 [some (.ref 50), some (.int (iI z)), some (.int (iI i)), w3] [] (hC x c (hM (mk_cs m1 i) t)) n 0 0 (mQs b x c m t n (decide (((2 ^ mk_na m (mg_nL m) : Nat) : Int) ≤ z))) := by
      intro f
      induction f with
      | zero => intro i h1 h2; omega
      | succ f ih =>
        intro i h1 h2
        have e3 : mg_nL (mk_cs m1 i) = pb_nL b := (mk_cs_keep (P := fun m => mg_nL m) (fun _ _ => rfl) m1 i).trans eL1
        refine ar_iload_n kd_M_solve_71 rfl ?_
        refine ar_aload_n kd_M_solve_72 rfl ?_
        refine ar_get (ci := 5) (k := 6) kd_M_solve_73 rfl kw_625 (by decide) rfl rfl ?_
        refine az_icmp_ge (tg := 97) kd_M_solve_76 (by decide) (fun qs => ?_) (fun qs => ?_)
        · obtain rfl : i = pb_nL b := by omega
          refine ar_aload_n kd_M_solve_97 rfl ?_
          refine ar_iconst kd_M_solve_98 ?_
          refine az_callv (z := km_M_takeFrom) (As := [_]) (ci := 5) kd_M_solve_99 kw_756 kw_758 rfl ks_M_takeFrom kz_M_takeFrom rfl rfl rfl rfl rfl (Nat.le_of_ble_eq_true rfl) (Nat.le_of_ble_eq_true rfl) rfl (am_deep (sp_M_takeFrom (d := 0) (l := 0) s3 s4 (Nat.zero_le _) (fun l hl => by rw [(s2.2.2 l (by omega)).2.2.1]; exact (s2.2.2 l (by omega)).2.2.2.2.2.2.2) (mRw_of hb s2 s5 s6 s7)) (by omega)) ?_
          rw [Nat.sub_zero, s8, hm2]
          refine ar_iconst kd_M_solve_102 ?_
          refine ar_istore_n kd_M_solve_103 (Nat.le_of_ble_eq_true rfl) rfl ?_
          dsimp only [List.set]
          exact hold (pb_nL b + 1) 0 (by omega) (by omega) _
        · refine ar_aload_n kd_M_solve_79 rfl ?_
          refine ar_get (ci := 5) (k := 16) kd_M_solve_80 rfl kw_635 (by decide) rfl rfl ?_
          refine ar_iload_n kd_M_solve_83 rfl ?_
          refine ar_aload_n kd_M_solve_84 rfl ?_
          refine ar_get (ci := 5) (k := 17) kd_M_solve_85 rfl kw_636 (by decide) rfl rfl ?_
          refine ar_iload_n kd_M_solve_88 rfl ?_
          refine az_iald kd_M_solve_89 rfl (k := i) (by omega) (by omega) ?_
          refine az_iast kd_M_solve_90 rfl rfl (k := i) (by omega) (by omega) ?_
          rw [hv_se]
          refine az_iinc kd_M_solve_91 rfl rfl ?_
          dsimp only [List.set]
          refine ar_goto (tg := 71) kd_M_solve_94 (by decide) ?_
          exact ih (i + 1) (by omega) (by omega)
    refine ar_iconst kd_M_solve_69 ?_
    refine ar_istore_n kd_M_solve_70 (Nat.le_of_ble_eq_true rfl) rfl ?_
    dsimp only [List.set]
    exact sets (pb_nL b + 1) 0 (by omega) (by omega)
  refine ar_aload_n kd_M_solve_0 rfl ?_
  refine ar_iload_n kd_M_solve_1 rfl ?_
  refine ar_iconst kd_M_solve_2 ?_
  refine az_ldc (u := 40000) kd_M_solve_3 kw_734 (by decide) ?_
  refine az_calls (z := km_M_in) (As := [_, _, _]) kd_M_solve_5 kw_692 kw_693 kw_6 kz_M_in rfl rfl rfl rfl (Nat.le_of_ble_eq_true rfl) (Nat.le_of_ble_eq_true rfl) rfl (am_deep (sp_M_in_t (d := 0) (by omega) (by omega) (by omega) (by omega)) (Nat.zero_le _)) ?_
  refine az_if_eq (tg := 15) kd_M_solve_8 (by decide) (fun q1 => (by exfalso; omega)) (fun q1 => ?_)
  refine ar_iconst kd_M_solve_11 ?_
  refine ar_goto (tg := 16) kd_M_solve_12 (by decide) ?_
  refine ar_put (ci := 5) (k := 0) kd_M_solve_16 rfl kw_619 (by decide) rfl (Nat.le_of_ble_eq_true rfl) rfl (Nat.le_of_ble_eq_true rfl) rfl rfl rfl ?_
  refine ar_heap (hq_co _) ?_
  refine ar_aload_n kd_M_solve_19 rfl ?_
  refine ar_get (ci := 5) (k := 0) kd_M_solve_20 rfl kw_619 (by decide) rfl rfl ?_
  rw [co_co]
  refine az_if_le (tg := 28) kd_M_solve_23 (by decide) (fun q2 => ?_) (fun q2 => (by exfalso; omega))
  refine ar_aload_n kd_M_solve_28 rfl ?_
  refine az_callv (z := km_M_layOut) (As := []) (ci := 5) kd_M_solve_29 kw_735 kw_737 rfl ks_M_layOut kz_M_layOut rfl rfl rfl rfl rfl (Nat.le_of_ble_eq_true rfl) (Nat.le_of_ble_eq_true rfl) rfl (am_deep (sp_M_layOut (d := 0) (m := ms_co m 0) (mK_co hK 0) hA (mO_congr (m := m) rfl rfl rfl hO)) (by omega)) ?_
  refine ar_aload_n kd_M_solve_32 rfl ?_
  refine ar_aload_n kd_M_solve_33 rfl ?_
  refine az_callv (z := km_M_product) (As := []) (ci := 5) kd_M_solve_34 kw_747 kw_749 rfl ks_M_product kz_M_product rfl rfl rfl rfl rfl (Nat.le_of_ble_eq_true rfl) (Nat.le_of_ble_eq_true rfl) rfl (am_deep (sp_M_product (d := 0) hKl) (by omega)) ?_
  rw [kna]
  refine ar_iload_n kd_M_solve_37 rfl ?_
  refine ar_i2l kd_M_solve_38 ?_
  refine ar_lcmp kd_M_solve_39 ?_
  refine ar_if_gt (tg := 47) kd_M_solve_40 (by decide) (fun qc => ?_) (fun qc => ?_)
  · have e0 : (decide (((2 ^ mk_na m (mg_nL m) : Nat) : Int) ≤ z)) = false := decide_eq_false ((lc_z hpw hz).mp qc)
    refine ar_iconst kd_M_solve_47 ?_
    refine ar_put (ci := 5) (k := 13) kd_M_solve_48 rfl kw_632 (by decide) rfl (Nat.le_of_ble_eq_true rfl) rfl (Nat.le_of_ble_eq_true rfl) rfl rfl rfl ?_
    refine ar_heap (hq_ex _) ?_
    refine ar_aload_n kd_M_solve_51 rfl ?_
    refine ar_get (ci := 5) (k := 13) kd_M_solve_52 rfl kw_632 (by decide) rfl rfl ?_
    refine az_if_eq (tg := 65) kd_M_solve_55 (by decide) (fun q4 => ?_) (fun q4 => absurd (ex_ex _ _) q4) (by rw [ex_ex]; omega)
    refine ar_aload_n kd_M_solve_65 rfl ?_
    refine az_callv (z := km_M_byRule) (As := []) (ci := 5) kd_M_solve_66 kw_775 kw_777 rfl ks_M_byRule kz_M_byRule rfl rfl rfl rfl rfl (Nat.le_of_ble_eq_true rfl) (Nat.le_of_ble_eq_true rfl) rfl (am_deep (sp_M_byRule (d := 0) (mK_ex hKl _) (mA_ex hAl _)) (by omega)) ?_
    exact fin false _ _ _ e0.symm (mk_br_keep (P := mC) (fun _ _ => rfl) _ _) (mA_br (mK_ex hKl _) (mA_ex hAl _) _ (by show mg_nL (mk_lo (ms_co m 0)) ≤ 6; omega)) (mE_of (mE_ex hE 0) (mk_br_keep (P := fun m => mg_re m) (fun _ _ => rfl) _ _)) (mVl_of (mVl_ex hV 0) (mk_br_keep (P := fun m => mg_re m) (fun _ _ => rfl) _ _) (mk_br_keep (P := fun m => mg_sp m) (fun _ _ => rfl) _ _) (mk_br_keep (P := fun m => mg_ta m) (fun _ _ => rfl) _ _)) (fun i hi => by
      rw [br_bs, if_pos (by rw [show mg_nL (ms_ex (mk_lo (ms_co m 0)) 0) = mg_nL (mk_lo (ms_co m 0)) from rfl, hnl]; exact hi)]
      unfold sO mk_r3
      rw [if_neg (by decide), show mg_rl (ms_ex (mk_lo (ms_co m 0)) 0) (4 * i + 2) = pb_fw b i from (hmm.2.2 i hi).2.2.2.1, show mg_ac (ms_ex (mk_lo (ms_co m 0)) 0) i = (pb_ac b i : Int) from (hmm.2.2 i hi).1])
  · have e0 : (decide (((2 ^ mk_na m (mg_nL m) : Nat) : Int) ≤ z)) = true := decide_eq_true (Decidable.byContradiction fun q => qc ((lc_z hpw hz).mpr q))
    refine ar_iconst kd_M_solve_43 ?_
    refine ar_goto (tg := 48) kd_M_solve_44 (by decide) ?_
    refine ar_put (ci := 5) (k := 13) kd_M_solve_48 rfl kw_632 (by decide) rfl (Nat.le_of_ble_eq_true rfl) rfl (Nat.le_of_ble_eq_true rfl) rfl rfl rfl ?_
    refine ar_heap (hq_ex _) ?_
    refine ar_aload_n kd_M_solve_51 rfl ?_
    refine ar_get (ci := 5) (k := 13) kd_M_solve_52 rfl kw_632 (by decide) rfl rfl ?_
    refine az_if_eq (tg := 65) kd_M_solve_55 (by decide) (fun q5 => absurd q5 (by rw [ex_ex]; decide)) (fun q5 => ?_) (by rw [ex_ex]; omega)
    refine ar_aload_n kd_M_solve_58 rfl ?_
    refine ar_callv (z := km_M_exactly) (As := []) (ci := 5) kd_M_solve_59 kw_752 kw_754 rfl ks_M_exactly kz_M_exactly rfl rfl (Nat.le_of_ble_eq_true rfl) (am_c1 rfl) (Nat.le_of_ble_eq_true rfl) (Nat.le_of_ble_eq_true rfl) (Nat.le_of_ble_eq_true rfl) rfl (am_deep (sp_M_exactly (d := 0) (m := ms_ex (mk_lo (ms_co m 0)) 1) hb hf hw (mM_ex hmm _) (mK_ex hKl _) (mA_ex hAl _) (mE_ex hE _) (mVl_ex hV _)) (by omega)) ?_ (fun k i h2 n2 hq => by cases hq.1)
    intro v2 h2 n2 hq
    obtain ⟨y1, y2, m1, y3, y4, y5, y6, y7, q, y8, y9⟩ := hq
    cases y1
    subst y2
    subst y3
    refine ar_goto (tg := 69) kd_M_solve_62 (by decide) ?_
    exact fin true m1 _ _ e0.symm y4 y5 y6 y7 (fun i hi => by rw [y9 i hi]; unfold sO; rw [if_pos rfl, y8])
