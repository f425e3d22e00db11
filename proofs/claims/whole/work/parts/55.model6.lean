/-! the reference: laying out, taking, the next sets -/
theorem zu_zu (F : Nat → Int) (i : Nat) (a b : Int) : zu (zu F i a) i b = zu F i b := by
  funext j
  by_cases h : j = i
  · subst h
    rw [zu_s, zu_s]
  · rw [zu_n h, zu_n h, zu_n h]
/-- the search's numbers, in their ranges -/
def mA (m : mS) : Prop := ∀ l, l < 6 → (0 ≤ mg_ac m l ∧ mg_ac m l ≤ 8) ∧ (0 ≤ mg_se m l ∧ mg_se m l < 256) ∧ (0 ≤ mg_bs m l ∧ mg_bs m l < 256) ∧ ∀ k, k < 8 → 0 ≤ mg_al m (8 * l + k) ∧ mg_al m (8 * l + k) ≤ 7
theorem zb_congr {p q : Prop} [Decidable p] [Decidable q] (h : p ↔ q) : zb p = zb q := by
  unfold zb
  by_cases hp : p
  · rw [if_pos hp, if_pos (h.mp hp)]
  · rw [if_neg hp, if_neg (fun a => hp (h.mpr a))]
theorem mk_rk_congr {m m' : mS} (h1 : mg_un m' = mg_un m) (h2 : mg_pl m' = mg_pl m) (l j : Nat) : mk_rk m' l j = mk_rk m l j := by
  unfold mk_rk
  refine zs_congr j (fun k _ => zb_congr ?_)
  unfold mk_bf
  rw [h1, h2]
theorem se_zu (m : mS) (F : Nat → Int) (i : Nat) (v : Int) : mg_se (ms_se m (zu F i v)) i = v := zu_s F i v
theorem mk_at_congr {m m' : mS} (h1 : mg_un m' = mg_un m) (h2 : mg_pl m' = mg_pl m) (h3 : mg_nT m' = mg_nT m) (z : Int) : ∀ f l, mk_at m' z f l = mk_at m z f l
  | 0, l => rfl
  | f + 1, l => by
    simp only [mk_at, mk_at_congr h1 h2 h3 z f (l + 1), mk_rk_congr h1 h2, h3]
theorem mk_od_congr {m m' : mS} (h1 : mg_un m' = mg_un m) (h2 : mg_pl m' = mg_pl m) (h3 : mg_nT m' = mg_nT m) (k : Nat) : mk_od m' k = mk_od m k := by
  unfold mk_od
  rw [h3, mk_at_congr h1 h2 h3]
theorem mO_congr {m m' : mS} (h1 : mg_un m' = mg_un m) (h2 : mg_pl m' = mg_pl m) (h3 : mg_nT m' = mg_nT m) (h : mO m) : mO m' := by
  intro k hk
  rw [h3] at hk
  rw [h3, mk_at_congr h1 h2 h3, mk_od_congr h1 h2 h3]
  exact h k hk
/-- the lot at place k of the order is looked at for the line l -/
def mk_a1 (l : Nat) (m : mS) (k : Nat) : mS := if mk_all m (mk_od m k) l then ms_ac (ms_al m (zu (mg_al m) (8 * l + (mg_ac m l).toNat) (mk_od m k))) (zu (mg_ac m) l (mg_ac m l + 1)) else m
def mk_a2 (m : mS) (l k : Nat) : mS := zf (mk_a1 l) (ms_ac m (zu (mg_ac m) l 0)) k
def mk_lay (m : mS) (i : Nat) : mS := zf (fun a l => mk_a2 a l (mg_nT a)) m i
def mk_pr1 (m : mS) (k : Nat) : mS := zf (fun a j => ms_re a (zu (mg_re a) j (mg_pc a j))) m k
def mk_lo (m : mS) : mS := ms_sp (mk_pr1 (mk_lay m (mg_nL m)) (mg_nT m)) (zu (mg_sp (mk_pr1 (mk_lay m (mg_nL m)) (mg_nT m))) 0 0)
theorem mk_a1_keep {β : Type} {P : mS → β} (h1 : ∀ m v, P (ms_al m v) = P m) (h2 : ∀ m v, P (ms_ac m v) = P m) (l : Nat) (m : mS) (k : Nat) : P (mk_a1 l m k) = P m := by
  unfold mk_a1
  split
  · exact (h2 _ _).trans (h1 _ _)
  · rfl
theorem mk_a2_keep {β : Type} {P : mS → β} (h1 : ∀ m v, P (ms_al m v) = P m) (h2 : ∀ m v, P (ms_ac m v) = P m) (m : mS) (l k : Nat) : P (mk_a2 m l k) = P m := (zf_keep (g := mk_a1 l) (P := P) (fun a k => mk_a1_keep h1 h2 l a k) (ms_ac m (zu (mg_ac m) l 0)) k).trans (h2 _ _)
theorem mk_lay_keep {β : Type} {P : mS → β} (h1 : ∀ m v, P (ms_al m v) = P m) (h2 : ∀ m v, P (ms_ac m v) = P m) (m : mS) (i : Nat) : P (mk_lay m i) = P m := zf_keep (g := fun a l => mk_a2 a l (mg_nT a)) (P := P) (fun a l => mk_a2_keep h1 h2 a l _) m i
theorem mk_pr1_keep {β : Type} {P : mS → β} (h1 : ∀ m v, P (ms_re m v) = P m) (m : mS) (i : Nat) : P (mk_pr1 m i) = P m := zf_keep (g := fun a j => ms_re a (zu (mg_re a) j (mg_pc a j))) (P := P) (fun a l => h1 _ _) m i
theorem mK_al {m : mS} (h : mK m) (v : Nat → Int) : mK (ms_al m v) := h
theorem mK_ac {m : mS} (h : mK m) (v : Nat → Int) : mK (ms_ac m v) := h
theorem mK_re {m : mS} (h : mK m) (v : Nat → Int) : mK (ms_re m v) := h
theorem mA_al {m : mS} (h : mA m) {i : Nat} {v : Int} (hv : 0 ≤ v ∧ v ≤ 7) : mA (ms_al m (zu (mg_al m) i v)) := by
  intro l hl
  obtain ⟨a1, a2, a3, a4⟩ := h l hl
  refine ⟨a1, a2, a3, fun k hk => ?_⟩
  show 0 ≤ zu (mg_al m) i v (8 * l + k) ∧ zu (mg_al m) i v (8 * l + k) ≤ 7
  by_cases e : 8 * l + k = i
  · subst e
    rw [zu_s]
    exact hv
  · rw [zu_n e]
    exact a4 k hk
theorem mA_ac {m : mS} (h : mA m) {i : Nat} {v : Int} (hv : 0 ≤ v ∧ v ≤ 8) : mA (ms_ac m (zu (mg_ac m) i v)) := by
  intro l hl
  refine ⟨?_, (h l hl).2⟩
  show 0 ≤ zu (mg_ac m) i v l ∧ zu (mg_ac m) i v l ≤ 8
  by_cases e : l = i
  · subst e
    rw [zu_s]
    exact hv
  · rw [zu_n e]
    exact (h l hl).1
theorem mg_ac_al (m : mS) (v : Nat → Int) : mg_ac (ms_al m v) = mg_ac m := rfl
theorem mg_ac_ac (m : mS) (v : Nat → Int) : mg_ac (ms_ac m v) = v := rfl
theorem mk_a2_ok {m : mS} (hK : mK m) (hA : mA m) (hO : mO m) (l : Nat) : ∀ k, k ≤ mg_nT m → mK (mk_a2 m l k) ∧ mA (mk_a2 m l k) ∧ mO (mk_a2 m l k) ∧ 0 ≤ mg_ac (mk_a2 m l k) l ∧ mg_ac (mk_a2 m l k) l ≤ k
  | 0, _ => ⟨mK_ac hK _, mA_ac hA (by decide), mO_congr (m := m) rfl rfl rfl hO, by
      show 0 ≤ zu (mg_ac m) l 0 l ∧ zu (mg_ac m) l 0 l ≤ ((0 : Nat) : Int)
      rw [zu_s]
      decide⟩
  | k + 1, hk => by
    have hT := hK.nn.1
    obtain ⟨h1, h2, h3, h4⟩ := mk_a2_ok hK hA hO l k (by omega)
    have e : mk_a2 m l (k + 1) = mk_a1 l (mk_a2 m l k) k := rfl
    have eT : mg_nT (mk_a2 m l k) = mg_nT m := mk_a2_keep (P := fun m => mg_nT m) (fun _ _ => rfl) (fun _ _ => rfl) m l k
    have ho := h3 k (by omega)
    have h3' := mO_congr (m' := mk_a1 l (mk_a2 m l k) k) (mk_a1_keep (P := fun m => mg_un m) (fun _ _ => rfl) (fun _ _ => rfl) l _ k) (mk_a1_keep (P := fun m => mg_pl m) (fun _ _ => rfl) (fun _ _ => rfl) l _ k) (mk_a1_keep (P := fun m => mg_nT m) (fun _ _ => rfl) (fun _ _ => rfl) l _ k) h3
    rw [e]
    refine ⟨?_, ?_, h3', ?_⟩
    · unfold mk_a1
      split
      · exact mK_ac (mK_al h1 _) _
      · exact h1
    · unfold mk_a1
      split
      · exact mA_ac (mA_al h2 (by omega)) (by omega)
      · exact h2
    · unfold mk_a1
      split
      · rw [mg_ac_ac, zu_s]
        omega
      · omega
theorem mk_lay_ok {m : mS} (hK : mK m) (hA : mA m) (hO : mO m) (i : Nat) : mK (mk_lay m i) ∧ mA (mk_lay m i) ∧ mO (mk_lay m i) := zf_inv (P := fun a => mK a ∧ mA a ∧ mO a) (fun a l h => by
  obtain ⟨h1, h2, h3, -⟩ := mk_a2_ok h.1 h.2.1 h.2.2 l (mg_nT a) (Nat.le_refl _)
  exact ⟨h1, h2, h3⟩) ⟨hK, hA, hO⟩ i
set_option maxHeartbeats 1000000 in
set_option maxRecDepth 20000 in
theorem sp_M_layOut {d : Nat} {x : am_C} {c : cS} {m : mS} {t : List am_C} {n : Nat} (hK : mK m) (hA : mA m) (hO : mO m) : am_W (d + 2) km_M_layOut 0 [some (.ref 50), none, none, none] [] (hC x c (hM m t)) n 0 0 (am_eq none (hC x c (hM (mk_lo m) t)) n) := by
  obtain ⟨hT, hL⟩ := hK.nn
  have eTL : mg_nT (mk_lay m (mg_nL m)) = mg_nT m := mk_lay_keep (P := fun m => mg_nT m) (fun _ _ => rfl) (fun _ _ => rfl) m _
  have loop2 : ∀ (f i : Nat), i ≤ mg_nT m → mg_nT m - i < f → ∀ (w1 w2 : Option Value), am_W (d + 2) km_M_layOut 86 [some (.ref 50), some (.int (iI i)), w1, w2] [] (hC x c (hM (mk_pr1 (mk_lay m (mg_nL m)) i) t)) n 0 0 (am_eq none (hC x c (hM (mk_lo m) t)) n) := by
    intro f
    induction f with
    | zero => intro i h1 h2 w1 w2; omega
    | succ f ih =>
      intro i h1 h2 w1 w2
      have eT2 : mg_nT (mk_pr1 (mk_lay m (mg_nL m)) i) = mg_nT m := (mk_pr1_keep (P := fun m => mg_nT m) (fun _ _ => rfl) _ i).trans eTL
      refine ar_iload_n kd_M_layOut_86 rfl ?_
      refine ar_aload_n kd_M_layOut_87 rfl ?_
      refine ar_get (ci := 5) (k := 1) kd_M_layOut_88 rfl kw_620 (by decide) rfl rfl ?_
      refine az_icmp_ge (tg := 112) kd_M_layOut_91 (by decide) (fun q1 => ?_) (fun q1 => ?_)
      · obtain rfl : i = mg_nT m := by omega
        refine ar_aload_n kd_M_layOut_112 rfl ?_
        refine ar_get (ci := 5) (k := 19) kd_M_layOut_113 rfl kw_638 (by decide) rfl rfl ?_
        refine ar_iconst kd_M_layOut_116 ?_
        refine ar_iconst kd_M_layOut_117 ?_
        refine az_iast kd_M_layOut_118 rfl rfl (k := 0) rfl (by omega) ?_
        rw [hv_sp]
        refine ar_return kd_M_layOut_119 rfl (Nat.le_of_ble_eq_true rfl) (Nat.le_of_ble_eq_true rfl) ?_
        exact ⟨rfl, rfl, rfl⟩
      · refine ar_aload_n kd_M_layOut_94 rfl ?_
        refine ar_get (ci := 5) (k := 18) kd_M_layOut_95 rfl kw_637 (by decide) rfl rfl ?_
        refine ar_iload_n kd_M_layOut_98 rfl ?_
        refine ar_aload_n kd_M_layOut_99 rfl ?_
        refine ar_get (ci := 5) (k := 4) kd_M_layOut_100 rfl kw_623 (by decide) rfl rfl ?_
        refine ar_iload_n kd_M_layOut_103 rfl ?_
        refine az_iald kd_M_layOut_104 rfl (k := i) (by omega) (by omega) ?_
        refine az_iast kd_M_layOut_105 rfl rfl (k := i) (by omega) (by omega) ?_
        rw [hv_re]
        refine az_iinc kd_M_layOut_106 rfl rfl ?_
        dsimp only [List.set]
        refine ar_goto (tg := 86) kd_M_layOut_109 (by decide) ?_
        exact ih (i + 1) (by omega) (by omega) _ _
  have loop : ∀ (f i : Nat), i ≤ mg_nL m → mg_nL m - i < f → ∀ (w1 w2 : Option Value), am_W (d + 2) km_M_layOut 2 [some (.ref 50), some (.int (iI i)), w1, w2] [] (hC x c (hM (mk_lay m i) t)) n 0 0 (am_eq none (hC x c (hM (mk_lo m) t)) n) := by
    intro f
    induction f with
    | zero => intro i h1 h2 w1 w2; omega
    | succ f ih =>
      intro i h1 h2 w1 w2
      obtain ⟨r1, r2, r3⟩ := mk_lay_ok hK hA hO i
      have eT : mg_nT (mk_lay m i) = mg_nT m := mk_lay_keep (P := fun m => mg_nT m) (fun _ _ => rfl) (fun _ _ => rfl) m i
      have eL : mg_nL (mk_lay m i) = mg_nL m := mk_lay_keep (P := fun m => mg_nL m) (fun _ _ => rfl) (fun _ _ => rfl) m i
      refine ar_iload_n kd_M_layOut_2 rfl ?_
      refine ar_aload_n kd_M_layOut_3 rfl ?_
      refine ar_get (ci := 5) (k := 6) kd_M_layOut_4 rfl kw_625 (by decide) rfl rfl ?_
      refine az_icmp_ge (tg := 84) kd_M_layOut_7 (by decide) (fun qa => ?_) (fun qa => ?_)
      · obtain rfl : i = mg_nL m := by omega
        have eP : mg_nT (mk_lay m (mg_nL m)) = mg_nT m := eT
        refine ar_iconst kd_M_layOut_84 ?_
        refine ar_istore_n kd_M_layOut_85 (Nat.le_of_ble_eq_true rfl) rfl ?_
        dsimp only [List.set]
        exact loop2 (mg_nT m + 1) 0 (by omega) (by omega) _ _
      · have loopj : ∀ (g j : Nat), j ≤ mg_nT m → mg_nT m - j < g → ∀ w : Option Value, am_W (d + 2) km_M_layOut 19 [some (.ref 50), some (.int (iI i)), some (.int (iI j)), w] [] (hC x c (hM (mk_a2 (mk_lay m i) i j) t)) n 0 0 (am_eq none (hC x c (hM (mk_lo m) t)) n) := by
          intro g
          induction g with
          | zero => intro j h3 h4; omega
          | succ g ihj =>
            intro j h3 h4 w
            obtain ⟨g1, g2, g3, g4⟩ := mk_a2_ok r1 r2 r3 i j (by omega)
            have en : mg_nT (mk_a2 (mk_lay m i) i j) = mg_nT m := (mk_a2_keep (P := fun m => mg_nT m) (fun _ _ => rfl) (fun _ _ => rfl) _ i j).trans eT
            refine ar_iload_n kd_M_layOut_19 rfl ?_
            refine ar_aload_n kd_M_layOut_20 rfl ?_
            refine ar_get (ci := 5) (k := 1) kd_M_layOut_21 rfl kw_620 (by decide) rfl rfl ?_
            refine az_icmp_ge (tg := 78) kd_M_layOut_24 (by decide) (fun qb => ?_) (fun qb => ?_)
            · obtain rfl : j = mg_nT m := by omega
              have e2 : mk_a2 (mk_lay m i) i (mg_nT m) = mk_lay m (i + 1) := by
                show _ = mk_a2 (mk_lay m i) i (mg_nT (mk_lay m i))
                rw [eT]
              rw [e2]
              refine az_iinc kd_M_layOut_78 rfl rfl ?_
              dsimp only [List.set]
              refine ar_goto (tg := 2) kd_M_layOut_81 (by decide) ?_
              exact ih (i + 1) (by omega) (by omega) _ _
            · have hod := g3 j (by omega)
              refine ar_aload_n kd_M_layOut_27 rfl ?_
              refine ar_iload_n kd_M_layOut_28 rfl ?_
              refine az_callv (z := km_M_lotAt) (As := [_]) (ci := 5) kd_M_layOut_29 kw_739 kw_741 rfl ks_M_lotAt kz_M_lotAt rfl rfl rfl rfl rfl (Nat.le_of_ble_eq_true rfl) (Nat.le_of_ble_eq_true rfl) rfl (sp_M_lotAtO (by omega) g3 g1) ?_
              refine ar_istore_n kd_M_layOut_32 (Nat.le_of_ble_eq_true rfl) rfl ?_
              dsimp only [List.set]
              refine ar_aload_n kd_M_layOut_33 rfl ?_
              refine ar_iload_n kd_M_layOut_34 rfl ?_
              refine ar_iload_n kd_M_layOut_35 rfl ?_
              refine az_callv (z := km_M_isAllowed) (As := [_, _]) (ci := 5) kd_M_layOut_36 kw_722 kw_724 rfl ks_M_isAllowed kz_M_isAllowed rfl rfl rfl rfl rfl (Nat.le_of_ble_eq_true rfl) (Nat.le_of_ble_eq_true rfl) rfl (sp_M_isAllowed (by omega) (by omega) g1) ?_
              refine az_if_ne (tg := 45) kd_M_layOut_39 (by decide) (fun qc => ?_) (fun qc => ?_) (by have := zb_rg (mk_all (mk_a2 (mk_lay m i) i j) (mk_od (mk_a2 (mk_lay m i) i j) j) i); omega)
              · have hb : mk_all (mk_a2 (mk_lay m i) i j) (mk_od (mk_a2 (mk_lay m i) i j) j) i := Decidable.byContradiction fun q => qc (if_neg q)
                have e1 : mk_a2 (mk_lay m i) i (j + 1) = ms_ac (ms_al (mk_a2 (mk_lay m i) i j) (zu (mg_al (mk_a2 (mk_lay m i) i j)) (8 * i + (mg_ac (mk_a2 (mk_lay m i) i j) i).toNat) (mk_od (mk_a2 (mk_lay m i) i j) j))) (zu (mg_ac (mk_a2 (mk_lay m i) i j)) i (mg_ac (mk_a2 (mk_lay m i) i j) i + 1)) := if_pos hb
                refine ar_aload_n kd_M_layOut_45 rfl ?_
                refine ar_get (ci := 5) (k := 14) kd_M_layOut_46 rfl kw_633 (by decide) rfl rfl ?_
                refine az_bipush kd_M_layOut_49 (by decide) ?_
                refine ar_iload_n kd_M_layOut_51 rfl ?_
                refine az_imul kd_M_layOut_52 ?_
                refine ar_aload_n kd_M_layOut_53 rfl ?_
                refine ar_get (ci := 5) (k := 15) kd_M_layOut_54 rfl kw_634 (by decide) rfl rfl ?_
                refine ar_iload_n kd_M_layOut_57 rfl ?_
                refine az_iald kd_M_layOut_58 rfl (k := i) (by omega) (by omega) ?_
                refine az_iadd kd_M_layOut_59 ?_
                refine ar_iload_n kd_M_layOut_60 rfl ?_
                refine az_iast kd_M_layOut_61 rfl rfl (k := 8 * i + (mg_ac (mk_a2 (mk_lay m i) i j) i).toNat) (by omega) (by omega) ?_
                rw [hv_al]
                refine ar_aload_n kd_M_layOut_62 rfl ?_
                refine ar_get (ci := 5) (k := 15) kd_M_layOut_63 rfl kw_634 (by decide) rfl rfl ?_
                refine ar_iload_n kd_M_layOut_66 rfl ?_
                refine ar_dup2 kd_M_layOut_67 rfl rfl ?_
                refine az_iald kd_M_layOut_68 rfl (k := i) (by omega) (by omega) ?_
                refine ar_iconst kd_M_layOut_69 ?_
                refine az_iadd kd_M_layOut_70 ?_
                refine az_iast kd_M_layOut_71 rfl rfl (k := i) (by omega) (by omega) ?_
                rw [hv_ac]
                refine az_iinc kd_M_layOut_72 rfl rfl ?_
                dsimp only [List.set]
                refine ar_goto (tg := 19) kd_M_layOut_75 (by decide) ?_
                have h9 := ihj (j + 1) (by omega) (by omega) (some (.int (iI (mk_od (mk_a2 (mk_lay m i) i j) j : Int))))
                rw [e1] at h9
                exact h9
              · have hb : ¬ mk_all (mk_a2 (mk_lay m i) i j) (mk_od (mk_a2 (mk_lay m i) i j) j) i := fun q => by
                  have : zb (mk_all (mk_a2 (mk_lay m i) i j) (mk_od (mk_a2 (mk_lay m i) i j) j) i) = 1 := if_pos q
                  omega
                have e1 : mk_a2 (mk_lay m i) i (j + 1) = mk_a2 (mk_lay m i) i j := if_neg hb
                refine ar_goto (tg := 72) kd_M_layOut_42 (by decide) ?_
                refine az_iinc kd_M_layOut_72 rfl rfl ?_
                dsimp only [List.set]
                refine ar_goto (tg := 19) kd_M_layOut_75 (by decide) ?_
                have h9 := ihj (j + 1) (by omega) (by omega) (some (.int (iI (mk_od (mk_a2 (mk_lay m i) i j) j : Int))))
                rw [e1] at h9
                exact h9
        refine ar_aload_n kd_M_layOut_10 rfl ?_
        refine ar_get (ci := 5) (k := 15) kd_M_layOut_11 rfl kw_634 (by decide) rfl rfl ?_
        refine ar_iload_n kd_M_layOut_14 rfl ?_
        refine ar_iconst kd_M_layOut_15 ?_
        refine az_iast kd_M_layOut_16 rfl rfl (k := i) (by omega) (by omega) ?_
        rw [hv_ac]
        refine ar_iconst kd_M_layOut_17 ?_
        refine ar_istore_n kd_M_layOut_18 (Nat.le_of_ble_eq_true rfl) rfl ?_
        dsimp only [List.set]
        refine ar_heap (h' := hC x c (hM (mk_a2 (mk_lay m i) i 0) t)) rfl ?_
        exact loopj (mg_nT m + 1) 0 (by omega) (by omega) _
  refine ar_iconst kd_M_layOut_0 ?_
  refine ar_istore_n kd_M_layOut_1 (Nat.le_of_ble_eq_true rfl) rfl ?_
  dsimp only [List.set]
  exact loop (mg_nL m + 1) 0 (by omega) (by omega) _ _
def mk_adv (B : Nat) (f : Int) : Nat → Nat → Nat
  | 0, v => v
  | g + 1, v => if v < B ∧ f < pop v then mk_adv B f g (v + 1) else v
def mk_nv (m : mS) (i : Nat) : Nat := mk_adv (2 ^ (mg_ac m i).toNat) (mg_rl m (4 * i + 2)) 256 ((mg_se m i).toNat + 1)
def mk_nx : Nat → mS → mS × Int
  | 0, m => (m, -1)
  | i + 1, m => if mk_nv m i < 2 ^ (mg_ac m i).toNat then (ms_se m (zu (mg_se m) i (mk_nv m i)), (i : Int)) else mk_nx i (ms_se m (zu (mg_se m) i 0))
theorem mA_se {m : mS} (h : mA m) {i : Nat} {v : Int} (hv : 0 ≤ v ∧ v < 256) : mA (ms_se m (zu (mg_se m) i v)) := by
  intro l hl
  obtain ⟨a1, a2, a3, a4⟩ := h l hl
  refine ⟨a1, ?_, a3, a4⟩
  show 0 ≤ zu (mg_se m) i v l ∧ zu (mg_se m) i v l < 256
  by_cases e : l = i
  · subst e
    rw [zu_s]
    exact hv
  · rw [zu_n e]
    exact a2
theorem mK_se {m : mS} (h : mK m) (v : Nat → Int) : mK (ms_se m v) := h
set_option maxHeartbeats 1000000 in
set_option maxRecDepth 20000 in
theorem sp_M_nextSets {d : Nat} {x : am_C} {c : cS} {m : mS} {t : List am_C} {n : Nat} (hK : mK m) (hA : mA m) : am_W (d + 1) km_M_nextSets 0 [some (.ref 50), none] [] (hC x c (hM m t)) n 0 0 (am_eq (some (.int (iI (mk_nx (mg_nL m) m).2))) (hC x c (hM (mk_nx (mg_nL m) m).1 t)) n) := by
  have loop : ∀ i : Nat, ∀ (m1 : mS), mK m1 → mA m1 → mg_nL m1 = mg_nL m → i ≤ 6 → mk_nx (mg_nL m) m = mk_nx i m1 → am_W (d + 1) km_M_nextSets 7 [some (.ref 50), some (.int (iI ((i : Int) - 1)))] [] (hC x c (hM m1 t)) n 0 0 (am_eq (some (.int (iI (mk_nx (mg_nL m) m).2))) (hC x c (hM (mk_nx (mg_nL m) m).1 t)) n) := by
    intro i
    induction i with
    | zero =>
      intro m1 hK1 hA1 eL hi e0
      refine ar_iload_n kd_M_nextSets_7 rfl ?_
      refine az_if_lt (tg := 105) kd_M_nextSets_8 (by decide) (fun q1 => ?_) (fun q1 => (by exfalso; omega))
      have e1 : mk_nx (mg_nL m) m = (m1, -1) := e0
      refine ar_iconst kd_M_nextSets_105 ?_
      refine ar_ireturn kd_M_nextSets_106 rfl (Nat.le_of_ble_eq_true rfl) (Nat.le_of_ble_eq_true rfl) ?_
      exact ⟨by rw [e1], by rw [e1], rfl⟩
    | succ i ih =>
      intro m1 hK1 hA1 eL hi e0
      have hac := (hA1 i (by omega)).1
      have hse := (hA1 i (by omega)).2.1
      have hli := hK1.line (l := i) (by omega)
      have eac : mg_ac m1 i = (((mg_ac m1 i).toNat : Nat) : Int) := (Int.toNat_of_nonneg hac.1).symm
      have hac8 : (mg_ac m1 i).toNat ≤ 8 := by omega
      have hpw : 2 ^ (mg_ac m1 i).toNat ≤ 256 := Nat.pow_le_pow_right (n := 2) (by decide) hac8
      have hpw0 : (0 : Int) ≤ ((2 ^ (mg_ac m1 i).toNat : Nat) : Int) := Int.natCast_nonneg _
      have loopv : ∀ (g v : Nat), v ≤ 256 → 2 ^ (mg_ac m1 i).toNat - v < g → mk_nv m1 i = mk_adv (2 ^ (mg_ac m1 i).toNat) (mg_rl m1 (4 * i + 2)) g v → am_W (d + 1) km_M_nextSets 21 [some (.ref 50), some (.int (iI i))] [] (hC x c (hM (ms_se m1 (zu (mg_se m1) i (v : Int))) t)) n 0 0 (am_eq (some (.int (iI (mk_nx (mg_nL m) m).2))) (hC x c (hM (mk_nx (mg_nL m) m).1 t)) n) := by
        intro g
        induction g with
        | zero => intro v h3 h4; omega
        | succ g ihv =>
          intro v h3 h4 ev0
          have hpv := pop_rg v
          have erl : mg_rl (ms_se m1 (zu (mg_se m1) i (v : Int))) (4 * i + 2) = mg_rl m1 (4 * i + 2) := rfl
          refine ar_aload_n kd_M_nextSets_21 rfl ?_
          refine ar_get (ci := 5) (k := 16) kd_M_nextSets_22 rfl kw_635 (by decide) rfl rfl ?_
          refine ar_iload_n kd_M_nextSets_25 rfl ?_
          refine az_iald kd_M_nextSets_26 rfl (k := i) (by omega) (by omega) ?_
          rw [se_zu]
          refine ar_iconst kd_M_nextSets_27 ?_
          refine ar_aload_n kd_M_nextSets_28 rfl ?_
          refine ar_get (ci := 5) (k := 15) kd_M_nextSets_29 rfl kw_634 (by decide) rfl rfl ?_
          refine ar_iload_n kd_M_nextSets_32 rfl ?_
          refine az_iald kd_M_nextSets_33 rfl (k := i) (by omega) (by omega) ?_
          refine ar_ishl kd_M_nextSets_34 ?_
          rw [show iI (mg_ac m1 i) = iI (((mg_ac m1 i).toNat : Nat) : Int) from congrArg iI eac, ib_shl (by omega)]
          refine az_icmp_ge (tg := 73) kd_M_nextSets_35 (by decide) (fun qv => ?_) (fun qv => ?_)
          · have ev : mk_nv m1 i = v := by
              rw [ev0]
              exact if_neg (by omega)
            refine ar_aload_n kd_M_nextSets_73 rfl ?_
            refine ar_get (ci := 5) (k := 16) kd_M_nextSets_74 rfl kw_635 (by decide) rfl rfl ?_
            refine ar_iload_n kd_M_nextSets_77 rfl ?_
            refine az_iald kd_M_nextSets_78 rfl (k := i) (by omega) (by omega) ?_
            rw [se_zu]
            refine ar_iconst kd_M_nextSets_79 ?_
            refine ar_aload_n kd_M_nextSets_80 rfl ?_
            refine ar_get (ci := 5) (k := 15) kd_M_nextSets_81 rfl kw_634 (by decide) rfl rfl ?_
            refine ar_iload_n kd_M_nextSets_84 rfl ?_
            refine az_iald kd_M_nextSets_85 rfl (k := i) (by omega) (by omega) ?_
            refine ar_ishl kd_M_nextSets_86 ?_
            rw [show iI (mg_ac m1 i) = iI (((mg_ac m1 i).toNat : Nat) : Int) from congrArg iI eac, ib_shl (by omega)]
            refine az_icmp_ge (tg := 92) kd_M_nextSets_87 (by decide) (fun qx => ?_) (fun qx => ?_)
            · have e2 : mk_nx (mg_nL m) m = mk_nx i (ms_se m1 (zu (mg_se m1) i 0)) := by
                rw [e0]
                exact if_neg (by omega)
              refine ar_aload_n kd_M_nextSets_92 rfl ?_
              refine ar_get (ci := 5) (k := 16) kd_M_nextSets_93 rfl kw_635 (by decide) rfl rfl ?_
              refine ar_iload_n kd_M_nextSets_96 rfl ?_
              refine ar_iconst kd_M_nextSets_97 ?_
              refine az_iast kd_M_nextSets_98 rfl rfl (k := i) (by omega) (by omega) ?_
              rw [hv_se]
              rw [zu_zu]
              refine az_iinc kd_M_nextSets_99 rfl rfl ?_
              dsimp only [List.set]
              refine ar_goto (tg := 7) kd_M_nextSets_102 (by decide) ?_
              exact ih _ (mK_se hK1 _) (mA_se hA1 (by decide)) eL (by omega) e2
            · have e1 : mk_nx (mg_nL m) m = (ms_se m1 (zu (mg_se m1) i (v : Int)), (i : Int)) := by
                rw [e0, ← ev]
                exact if_pos (by omega)
              refine ar_iload_n kd_M_nextSets_90 rfl ?_
              refine ar_ireturn kd_M_nextSets_91 rfl (Nat.le_of_ble_eq_true rfl) (Nat.le_of_ble_eq_true rfl) ?_
              exact ⟨by rw [e1], by rw [e1], rfl⟩
          · refine ar_aload_n kd_M_nextSets_38 rfl ?_
            refine ar_get (ci := 5) (k := 16) kd_M_nextSets_39 rfl kw_635 (by decide) rfl rfl ?_
            refine ar_iload_n kd_M_nextSets_42 rfl ?_
            refine az_iald kd_M_nextSets_43 rfl (k := i) (by omega) (by omega) ?_
            rw [se_zu]
            refine az_calls (z := km_M_bits) (As := [_]) kd_M_nextSets_44 kw_772 kw_773 kw_6 kz_M_bits rfl rfl rfl rfl (Nat.le_of_ble_eq_true rfl) (Nat.le_of_ble_eq_true rfl) rfl (sp_M_bits (by omega)) ?_
            refine ar_aload_n kd_M_nextSets_47 rfl ?_
            refine ar_get (ci := 5) (k := 9) kd_M_nextSets_48 rfl kw_628 (by decide) rfl rfl ?_
            refine ar_iconst kd_M_nextSets_51 ?_
            refine ar_iload_n kd_M_nextSets_52 rfl ?_
            refine az_imul kd_M_nextSets_53 ?_
            refine ar_iconst kd_M_nextSets_54 ?_
            refine az_iadd kd_M_nextSets_55 ?_
            refine az_iald kd_M_nextSets_56 rfl (k := 4 * i + 2) (by omega) (by omega) ?_
            refine az_icmp_le (tg := 73) kd_M_nextSets_57 (by decide) (fun qw => ?_) (fun qw => ?_)
            · have ev : mk_nv m1 i = v := by
                rw [ev0]
                exact if_neg (by omega)
              refine ar_aload_n kd_M_nextSets_73 rfl ?_
              refine ar_get (ci := 5) (k := 16) kd_M_nextSets_74 rfl kw_635 (by decide) rfl rfl ?_
              refine ar_iload_n kd_M_nextSets_77 rfl ?_
              refine az_iald kd_M_nextSets_78 rfl (k := i) (by omega) (by omega) ?_
              rw [se_zu]
              refine ar_iconst kd_M_nextSets_79 ?_
              refine ar_aload_n kd_M_nextSets_80 rfl ?_
              refine ar_get (ci := 5) (k := 15) kd_M_nextSets_81 rfl kw_634 (by decide) rfl rfl ?_
              refine ar_iload_n kd_M_nextSets_84 rfl ?_
              refine az_iald kd_M_nextSets_85 rfl (k := i) (by omega) (by omega) ?_
              refine ar_ishl kd_M_nextSets_86 ?_
              rw [show iI (mg_ac m1 i) = iI (((mg_ac m1 i).toNat : Nat) : Int) from congrArg iI eac, ib_shl (by omega)]
              refine az_icmp_ge (tg := 92) kd_M_nextSets_87 (by decide) (fun qx => ?_) (fun qx => ?_)
              · have e2 : mk_nx (mg_nL m) m = mk_nx i (ms_se m1 (zu (mg_se m1) i 0)) := by
                  rw [e0]
                  exact if_neg (by omega)
                refine ar_aload_n kd_M_nextSets_92 rfl ?_
                refine ar_get (ci := 5) (k := 16) kd_M_nextSets_93 rfl kw_635 (by decide) rfl rfl ?_
                refine ar_iload_n kd_M_nextSets_96 rfl ?_
                refine ar_iconst kd_M_nextSets_97 ?_
                refine az_iast kd_M_nextSets_98 rfl rfl (k := i) (by omega) (by omega) ?_
                rw [hv_se]
                rw [zu_zu]
                refine az_iinc kd_M_nextSets_99 rfl rfl ?_
                dsimp only [List.set]
                refine ar_goto (tg := 7) kd_M_nextSets_102 (by decide) ?_
                exact ih _ (mK_se hK1 _) (mA_se hA1 (by decide)) eL (by omega) e2
              · have e1 : mk_nx (mg_nL m) m = (ms_se m1 (zu (mg_se m1) i (v : Int)), (i : Int)) := by
                  rw [e0, ← ev]
                  exact if_pos (by omega)
                refine ar_iload_n kd_M_nextSets_90 rfl ?_
                refine ar_ireturn kd_M_nextSets_91 rfl (Nat.le_of_ble_eq_true rfl) (Nat.le_of_ble_eq_true rfl) ?_
                exact ⟨by rw [e1], by rw [e1], rfl⟩
            · have ev1 : mk_nv m1 i = mk_adv (2 ^ (mg_ac m1 i).toNat) (mg_rl m1 (4 * i + 2)) g (v + 1) := by
                rw [ev0]
                exact if_pos ⟨by omega, by omega⟩
              refine ar_aload_n kd_M_nextSets_60 rfl ?_
              refine ar_get (ci := 5) (k := 16) kd_M_nextSets_61 rfl kw_635 (by decide) rfl rfl ?_
              refine ar_iload_n kd_M_nextSets_64 rfl ?_
              refine ar_dup2 kd_M_nextSets_65 rfl rfl ?_
              refine az_iald kd_M_nextSets_66 rfl (k := i) (by omega) (by omega) ?_
              rw [se_zu]
              refine ar_iconst kd_M_nextSets_67 ?_
              refine az_iadd kd_M_nextSets_68 ?_
              refine az_iast kd_M_nextSets_69 rfl rfl (k := i) (by omega) (by omega) ?_
              rw [hv_se]
              rw [zu_zu]
              refine ar_goto (tg := 21) kd_M_nextSets_70 (by decide) ?_
              exact ihv (v + 1) (by omega) (by omega) ev1
      rw [show ((i + 1 : Nat) : Int) - 1 = (i : Int) by omega]
      refine ar_iload_n kd_M_nextSets_7 rfl ?_
      refine az_if_lt (tg := 105) kd_M_nextSets_8 (by decide) (fun q1 => (by exfalso; omega)) (fun q1 => ?_)
      refine ar_aload_n kd_M_nextSets_11 rfl ?_
      refine ar_get (ci := 5) (k := 16) kd_M_nextSets_12 rfl kw_635 (by decide) rfl rfl ?_
      refine ar_iload_n kd_M_nextSets_15 rfl ?_
      refine ar_dup2 kd_M_nextSets_16 rfl rfl ?_
      refine az_iald kd_M_nextSets_17 rfl (k := i) (by omega) (by omega) ?_
      refine ar_iconst kd_M_nextSets_18 ?_
      refine az_iadd kd_M_nextSets_19 ?_
      refine az_iast kd_M_nextSets_20 rfl rfl (k := i) (by omega) (by omega) ?_
      rw [hv_se]
      rw [show mg_se m1 i + 1 = (((mg_se m1 i).toNat + 1 : Nat) : Int) by omega]
      exact loopv 256 ((mg_se m1 i).toNat + 1) (by omega) (by omega) rfl
  obtain ⟨hT, hL⟩ := hK.nn
  refine ar_aload_n kd_M_nextSets_0 rfl ?_
  refine ar_get (ci := 5) (k := 6) kd_M_nextSets_1 rfl kw_625 (by decide) rfl rfl ?_
  refine ar_iconst kd_M_nextSets_4 ?_
  refine az_isub kd_M_nextSets_5 ?_
  refine ar_istore_n kd_M_nextSets_6 (Nat.le_of_ble_eq_true rfl) rfl ?_
  dsimp only [List.set]
  exact loop (mg_nL m) m hK hA rfl (by omega) rfl
