/-! the search at least cost -/
theorem ck_rbs_keep {β : Type} {P : cS → β} (h : ∀ c v, P (cs_rb c v) = P c) : ∀ (i : Nat) (c : cS), P (ck_rbs i c) = P c
  | 0, c => rfl
  | i + 1, c => (ck_rbs_keep h i _).trans (h _ _)
theorem cK_rbs : ∀ (i : Nat) {c : cS}, cK c → cK (ck_rbs i c)
  | 0, c, h => h
  | i + 1, c, h => cK_rbs i (c := cs_rb c (zu (cg_rb c) i (cg_rb c (i + 1) + ck_lb c i (cg_nT c)))) h
theorem cA_rbs : ∀ (i : Nat) {c : cS}, cA c → cA (ck_rbs i c)
  | 0, c, h => h
  | i + 1, c, h => cA_rbs i (c := cs_rb c (zu (cg_rb c) i (cg_rb c (i + 1) + ck_lb c i (cg_nT c)))) h
theorem cP_rbs : ∀ (i : Nat) {c : cS}, cP c → cP (ck_rbs i c)
  | 0, c, h => h
  | i + 1, c, h => cP_rbs i (c := cs_rb c (zu (cg_rb c) i (cg_rb c (i + 1) + ck_lb c i (cg_nT c)))) h
theorem ck_lb_rb (c : cS) (v : Nat → Int) (l : Nat) : ∀ k, ck_lb (cs_rb c v) l k = ck_lb c l k
  | 0 => rfl
  | k + 1 => by
    simp only [ck_lb, ck_lb_rb c v l k]
    rfl
/-- the bounds are sums from behind -/
def cR (c : cS) (i : Nat) : Prop := cg_rb c (cg_nL c) = 0 ∧ ∀ j, i ≤ j → j < cg_nL c → cg_rb c j = cg_rb c (j + 1) + ck_lb c j (cg_nT c)
theorem cR_rbs : ∀ (i : Nat) (c : cS), i ≤ cg_nL c → cR c i → cR (ck_rbs i c) 0
  | 0, c, _, h => h
  | i + 1, c, hi, h => by
    refine cR_rbs i (cs_rb c (zu (cg_rb c) i (cg_rb c (i + 1) + ck_lb c i (cg_nT c)))) (by show i ≤ cg_nL c; omega) ⟨?_, fun j h1 h2 => ?_⟩
    · show zu (cg_rb c) i _ (cg_nL c) = 0
      rw [zu_n (by omega)]
      exact h.1
    · show zu (cg_rb c) i _ j = zu (cg_rb c) i _ (j + 1) + ck_lb (cs_rb c _) j (cg_nT c)
      rw [ck_lb_rb c (zu (cg_rb c) i (cg_rb c (i + 1) + ck_lb c i (cg_nT c))) j (cg_nT c), zu_n (show j + 1 ≠ i by omega)]
      by_cases e : j = i
      · subst e
        rw [zu_s]
      · rw [zu_n e]
        exact h.2 j (by omega) h2
theorem cR_rb0 (c : cS) : cR (ck_rb0 c) (cg_nL c) := ⟨zu_s _ _ _, fun j h1 h2 => by
  have : j < cg_nL c := h2
  omega⟩
theorem cR_rg {c : cS} (hK : cK c) (h : cR c 0) : ∀ j, j ≤ cg_nL c → 0 ≤ cg_rb c j ∧ cg_rb c j ≤ 2000000 := by
  have hL := hK.nn.2
  have : ∀ i, i ≤ cg_nL c → 0 ≤ cg_rb c (cg_nL c - i) ∧ cg_rb c (cg_nL c - i) ≤ 200000 * i := by
    intro i
    induction i with
    | zero =>
      intro _
      rw [Nat.sub_zero, h.1]
      omega
    | succ i ih =>
      intro hi
      have h1 := ih (by omega)
      have h2 := h.2 (cg_nL c - (i + 1)) (by omega) (by omega)
      have h3 := ck_lb_rg hK (l := cg_nL c - (i + 1)) (by omega) (cg_nT c) hK.nn.1
      rw [show cg_nL c - (i + 1) + 1 = cg_nL c - i by omega] at h2
      omega
  intro j hj
  have h1 := this (cg_nL c - j) (by omega)
  rw [show cg_nL c - (cg_nL c - j) = j by omega] at h1
  omega
def ck_tot (c : cS) : Int := zs (ck_lc c) (cg_nL c)
theorem sp_F_totalCostC {d : Nat} {x : am_C} {c : cS} {t : List am_C} {n : Nat} (hK : cK c) (hG : cG c) : am_W (d + 2) km_F_totalCost 0 [some (.ref 6), none, none] [] (hC x c t) n 0 0 (am_eq (some (.int (iI (ck_tot c)))) (hC x c t) n) := sp_F_totalCost hK hG
theorem ck_tot_rg {c : cS} (hK : cK c) (hG : cG c) : -54000000 ≤ ck_tot c ∧ ck_tot c ≤ 54000000 := by
  have hL := hK.nn.2
  have h1 := zs_ge (f := ck_lc c) (b := -9000000) (cg_nL c) (fun l hl => (ck_lc_rg hK hG (by omega)).1)
  have h2 := zs_le (f := ck_lc c) (b := 9000000) (cg_nL c) (fun l hl => (ck_lc_rg hK hG (by omega)).2)
  unfold ck_tot
  omega
theorem cP_clear {c : cS} (hK : cK c) (h : cP c) : cP (ck_clear c) := by
  have hL := hK.nn.2
  exact (zf_invB (g := fun c l => ck_letGo c l) (P := fun a => cK a ∧ cP a) (N := 6) (fun a k hk ha => ⟨ck_letGo_K k ha.1, cP_letGo ha.2 hk ha.1.nn.1⟩) ⟨hK, h⟩ _ hL).2
theorem cI_clear {c : cS} (hK : cK c) (h : cI c) : cI (ck_clear c) := by
  have hL := hK.nn.2
  exact (zf_invB (g := fun c l => ck_letGo c l) (P := fun a => cK a ∧ cI a) (N := 6) (fun a k hk ha => ⟨ck_letGo_K k ha.1, cI_letGo ha.2 hk ha.1.nn.1⟩) ⟨hK, h⟩ _ hL).2
theorem ck_clear_keep {β : Type} {P : cS → β} (h : ∀ c l k z, P (ck_move c l k z) = P c) (c : cS) : P (ck_clear c) = P c := zf_keep (g := fun c l => ck_letGo c l) (P := P) (fun a k => ck_letGo_keep h a k) c _
theorem cA_clear {c : cS} (h : cA c) : cA (ck_clear c) := zf_inv (g := fun c l => ck_letGo c l) (fun a k ha => ck_letGo_A k ha) h _
/-- its stations -/
def ck_b1 (c : cS) : cS := ck_rbs (cg_nL c) (ck_rb0 c)
def ck_b2 (c : cS) : cS := ck_rule (ck_b1 c) (cg_nL c)
def ck_b3 (c : cS) : cS := cs_bc (ck_b2 c) (ck_tot (ck_b2 c) + 1)
def ck_b4 (c : cS) : cS := ck_clear (ck_b3 c)
def ck_b5 (c : cS) : cS := ck_ex (cg_nL c) 0 0 (ck_b4 c)
def ck_b6 (c : cS) (i : Nat) : cS := zf (fun a l => (ck_take a l (cg_be a l).toNat).1) (ck_b5 c) i
theorem ck_b1_nL (c : cS) : cg_nL (ck_b1 c) = cg_nL c := ck_rbs_keep (P := fun c => cg_nL c) (fun _ _ => rfl) _ _
theorem ck_b2_nL (c : cS) : cg_nL (ck_b2 c) = cg_nL c := (ck_rule_keep (P := fun c => cg_nL c) (fun _ _ _ _ => rfl) _ _).trans (ck_b1_nL c)
theorem ck_b4_nL (c : cS) : cg_nL (ck_b4 c) = cg_nL c := (ck_clear_keep (P := fun c => cg_nL c) (fun _ _ _ _ => rfl) _).trans (ck_b2_nL c)
theorem ck_b5_nL (c : cS) : cg_nL (ck_b5 c) = cg_nL c := (ck_ex_keep (P := fun c => cg_nL c) (fun _ _ _ _ => rfl) (fun _ _ => rfl) (fun _ _ => rfl) (fun _ _ => rfl) _ _ _ _).trans (ck_b4_nL c)
theorem ck_b6_nL (c : cS) (i : Nat) : cg_nL (ck_b6 c i) = cg_nL c := (zf_keep (g := fun a l => (ck_take a l (cg_be a l).toNat).1) (P := fun c : cS => cg_nL c) (fun a l => ck_take_keep (P := fun c => cg_nL c) (fun _ _ _ _ => rfl) a l _) (ck_b5 c) i).trans (ck_b5_nL c)
theorem cP_rb0 {c : cS} (h : cP c) : cP (ck_rb0 c) := h
theorem cK_rb0 {c : cS} (h : cK c) : cK (ck_rb0 c) := h
theorem cA_rb0 {c : cS} (h : cA c) : cA (ck_rb0 c) := h
theorem ck_b1_ok {c : cS} (hK : cK c) (hA : cA c) (hP : cP c) : cK (ck_b1 c) ∧ cA (ck_b1 c) ∧ cP (ck_b1 c) ∧ cR (ck_b1 c) 0 := ⟨cK_rbs _ (cK_rb0 hK), cA_rbs _ (cA_rb0 hA), cP_rbs _ (cP_rb0 hP), cR_rbs (cg_nL c) (ck_rb0 c) (Nat.le_refl _) (cR_rb0 c)⟩
theorem ck_b2_ok {c : cS} (hK : cK c) (hA : cA c) (hP : cP c) : cK (ck_b2 c) ∧ cA (ck_b2 c) ∧ cP (ck_b2 c) := by
  obtain ⟨h1, h2, h3, -⟩ := ck_b1_ok hK hA hP
  exact ck_rule_ok h1 h2 h3 _ hK.nn.2
theorem cK_bc {c : cS} (h : cK c) (v : Int) : cK (cs_bc c v) := h
theorem cA_bc {c : cS} (h : cA c) (v : Int) : cA (cs_bc c v) := h
theorem cP_bc {c : cS} (h : cP c) (v : Int) : cP (cs_bc c v) := h
theorem ck_b3_ok {c : cS} (hK : cK c) (hA : cA c) (hP : cP c) : cK (ck_b3 c) ∧ cA (ck_b3 c) ∧ cP (ck_b3 c) := by
  obtain ⟨h1, h2, h3⟩ := ck_b2_ok hK hA hP
  exact ⟨cK_bc h1 _, cA_bc h2 _, cP_bc h3 _⟩
theorem cg_bc_bc (c : cS) (v : Int) : cg_bc (cs_bc c v) = v := rfl
theorem cg_rb_bc (c : cS) (v : Int) : cg_rb (cs_bc c v) = cg_rb c := rfl
theorem ck_b3_rb (c : cS) : cg_rb (ck_b3 c) = cg_rb (ck_b2 c) := cg_rb_bc _ _
theorem ck_b3_bc (c : cS) : cg_bc (ck_b3 c) = ck_tot (ck_b2 c) + 1 := cg_bc_bc _ _
theorem ck_b4_rb (c : cS) : cg_rb (ck_b4 c) = cg_rb (ck_b1 c) := (ck_clear_keep (P := fun c => cg_rb c) (fun _ _ _ _ => rfl) (ck_b3 c)).trans ((ck_b3_rb c).trans (ck_rule_keep (P := fun c => cg_rb c) (fun _ _ _ _ => rfl) (ck_b1 c) (cg_nL c)))
theorem ck_b4_bc (c : cS) : cg_bc (ck_b4 c) = ck_tot (ck_b2 c) + 1 := (ck_clear_keep (P := fun c => cg_bc c) (fun _ _ _ _ => rfl) (ck_b3 c)).trans (ck_b3_bc c)
theorem ck_b4_ok {c : cS} (hK : cK c) (hA : cA c) (hP : cP c) : cV (ck_b4 c) := by
  obtain ⟨h1, h2, h3⟩ := ck_b2_ok hK hA hP
  obtain ⟨g1, -, -, g4⟩ := ck_b1_ok hK hA hP
  have h4 := ck_tot_rg h1 h3.1.G
  obtain ⟨e1, e2, e3⟩ := ck_b3_ok hK hA hP
  have e5 := ck_b4_bc c
  have e4 := ck_b4_rb c
  refine ⟨ck_clear_K e1, cA_clear e2, cP_clear e1 e3, ?_, by omega⟩
  rw [ck_b4_nL, e4, ← ck_b1_nL c]
  exact cR_rg g1 g4
theorem ck_b5_ok {c : cS} (hK : cK c) (hA : cA c) (hP : cP c) : cV (ck_b5 c) := ck_ex_ok (cg_nL c) 0 0 (ck_b4 c) (ck_b4_ok hK hA hP) (by rw [ck_b4_nL]; omega) (by omega)
theorem ck_b6_ok {c : cS} (hK : cK c) (hA : cA c) (hP : cP c) (i : Nat) (hi : i ≤ 6) : cV (ck_b6 c i) := zf_invB (P := cV) (N := 6) (fun a k hk ha => cV_take ha _ hk) (ck_b5_ok hK hA hP) i hi
theorem sp_S_takeU {d : Nat} {x : am_C} {c : cS} {t : List am_C} {n : Nat} {l s : Nat} {u : Int} (hl : l < 6) (hs : s < 256) (hu : u = (s : Int)) (hK : cK c) (hA : cA c) (hP : cP c) : am_W (d + 2) km_S_take 0 [some (.ref 5), some (.int (iI l)), some (.int (iI u)), none, none, none, none, none] [] (hC x c t) n 0 0 (am_eq (some (.int (iI (ck_take c l s).2))) (hC x (ck_take c l s).1 t) n) := by
  subst hu
  exact sp_S_take hl hs hK hA hP
set_option maxHeartbeats 1000000 in
set_option maxRecDepth 20000 in
theorem sp_S_allocateAtLeastCost {d : Nat} {x : am_C} {c : cS} {t : List am_C} {n : Nat} (hK : cK c) (hA : cA c) (hP : cP c) : am_W (d + 17) km_S_allocateAtLeastCost 0 [some (.ref 5), none] [] (hC x c t) n 0 0 (am_eq none (hC x (ck_b6 c (cg_nL c)) t) n) := by
  obtain ⟨hT, hL⟩ := hK.nn
  have loop : ∀ (f i : Nat), i ≤ cg_nL c → cg_nL c - i < f → am_W (d + 17) km_S_allocateAtLeastCost 36 [some (.ref 5), some (.int (iI i))] [] (hC x (ck_b6 c i) t) n 0 0 (am_eq none (hC x (ck_b6 c (cg_nL c)) t) n) := by
    intro f
    induction f with
    | zero => intro i h1 h2; omega
    | succ f ih =>
      intro i h1 h2
      have hV := ck_b6_ok hK hA hP i (by omega)
      have eL := ck_b6_nL c i
      refine ar_iload_n kd_S_allocateAtLeastCost_36 rfl ?_
      refine ar_aload_n kd_S_allocateAtLeastCost_37 rfl ?_
      refine ar_get (ci := 4) (k := 2) kd_S_allocateAtLeastCost_38 rfl kw_138 (by decide) rfl rfl ?_
      refine ar_get (ci := 2) (k := 0) kd_S_allocateAtLeastCost_41 rfl kw_88 (by decide) rfl rfl ?_
      refine az_icmp_ge (tg := 65) kd_S_allocateAtLeastCost_44 (by decide) (fun q1 => ?_) (fun q1 => ?_)
      · obtain rfl : i = cg_nL c := by omega
        refine ar_return kd_S_allocateAtLeastCost_65 rfl (Nat.le_of_ble_eq_true rfl) (Nat.le_of_ble_eq_true rfl) ?_
        exact ⟨rfl, rfl, rfl⟩
      · have hbe := (hV.2.1 i (by omega)).2.2.1
        have eb : cg_be (ck_b6 c i) i = (((cg_be (ck_b6 c i) i).toNat : Nat) : Int) := (Int.toNat_of_nonneg hbe.1).symm
        refine ar_aload_n kd_S_allocateAtLeastCost_47 rfl ?_
        refine ar_iload_n kd_S_allocateAtLeastCost_48 rfl ?_
        refine ar_aload_n kd_S_allocateAtLeastCost_49 rfl ?_
        refine ar_get (ci := 4) (k := 6) kd_S_allocateAtLeastCost_50 rfl kw_142 (by decide) rfl rfl ?_
        refine ar_iload_n kd_S_allocateAtLeastCost_53 rfl ?_
        refine az_iald kd_S_allocateAtLeastCost_54 rfl rfl (by omega) ?_
        refine az_callv (z := km_S_take) (As := [_, _]) (ci := 4) kd_S_allocateAtLeastCost_55 kw_467 kw_469 rfl ks_S_take kz_S_take rfl rfl rfl rfl rfl (Nat.le_of_ble_eq_true rfl) (Nat.le_of_ble_eq_true rfl) rfl (sp_S_takeU (d := d + 14) (by omega) (by omega) eb hV.1 hV.2.1 hV.2.2.1) ?_
        refine ar_pop kd_S_allocateAtLeastCost_58 rfl ?_
        refine az_iinc kd_S_allocateAtLeastCost_59 rfl rfl ?_
        dsimp only [List.set]
        refine ar_goto (tg := 36) kd_S_allocateAtLeastCost_62 (by decide) ?_
        exact ih (i + 1) (by omega) (by omega)
  obtain ⟨g1, g2, g3, g4⟩ := ck_b1_ok hK hA hP
  obtain ⟨k1, k2, k3⟩ := ck_b2_ok hK hA hP
  have hV4 := ck_b4_ok hK hA hP
  have e3 := (ck_b3_ok hK hA hP).1
  refine ar_aload_n kd_S_allocateAtLeastCost_0 rfl ?_
  refine az_callv (z := km_S_readBounds) (As := []) (ci := 4) kd_S_allocateAtLeastCost_1 kw_457 kw_459 rfl ks_S_readBounds kz_S_readBounds rfl rfl rfl rfl rfl (Nat.le_of_ble_eq_true rfl) (Nat.le_of_ble_eq_true rfl) rfl (am_deep (sp_S_readBounds (d := 0) hK hP.1.G) (by omega)) ?_
  refine ar_heap (h' := hC x (ck_b1 c) t) rfl ?_
  refine ar_aload_n kd_S_allocateAtLeastCost_4 rfl ?_
  refine az_callv (z := km_S_allocateByRule) (As := []) (ci := 4) kd_S_allocateAtLeastCost_5 kw_462 kw_463 rfl ks_S_allocateByRule kz_S_allocateByRule rfl rfl rfl rfl rfl (Nat.le_of_ble_eq_true rfl) (Nat.le_of_ble_eq_true rfl) rfl (am_deep (sp_S_allocateByRule (d := 0) g1 g2 g3) (by omega)) ?_
  rw [show ck_rule (ck_b1 c) (cg_nL (ck_b1 c)) = ck_b2 c by rw [ck_b1_nL]; rfl]
  refine ar_aload_n kd_S_allocateAtLeastCost_8 rfl ?_
  refine ar_aload_n kd_S_allocateAtLeastCost_9 rfl ?_
  refine ar_get (ci := 4) (k := 0) kd_S_allocateAtLeastCost_10 rfl kw_135 (by decide) rfl rfl ?_
  refine az_callv (z := km_F_totalCost) (As := []) (ci := 1) kd_S_allocateAtLeastCost_13 kw_476 kw_241 rfl ks_F_totalCost kz_F_totalCost rfl rfl rfl rfl rfl (Nat.le_of_ble_eq_true rfl) (Nat.le_of_ble_eq_true rfl) rfl (am_deep (sp_F_totalCostC (d := 0) k1 k3.1.G) (by omega)) ?_
  refine ar_iconst kd_S_allocateAtLeastCost_16 ?_
  refine az_iadd kd_S_allocateAtLeastCost_17 ?_
  refine ar_put (ci := 4) (k := 8) kd_S_allocateAtLeastCost_18 rfl kw_144 (by decide) rfl (Nat.le_of_ble_eq_true rfl) rfl (Nat.le_of_ble_eq_true rfl) rfl rfl rfl ?_
  refine ar_heap (hp_bc (ck_tot (ck_b2 c) + 1)) ?_
  refine ar_heap (h' := hC x (ck_b3 c) t) rfl ?_
  refine ar_aload_n kd_S_allocateAtLeastCost_21 rfl ?_
  refine ar_get (ci := 4) (k := 0) kd_S_allocateAtLeastCost_22 rfl kw_135 (by decide) rfl rfl ?_
  refine az_callv (z := km_F_clear) (As := []) (ci := 1) kd_S_allocateAtLeastCost_25 kw_477 kw_437 rfl ks_F_clear kz_F_clear rfl rfl rfl rfl rfl (Nat.le_of_ble_eq_true rfl) (Nat.le_of_ble_eq_true rfl) rfl (am_deep (sp_F_clear (d := 0) e3) (by omega)) ?_
  refine ar_heap (h' := hC x (ck_b4 c) t) rfl ?_
  refine ar_aload_n kd_S_allocateAtLeastCost_28 rfl ?_
  refine ar_iconst kd_S_allocateAtLeastCost_29 ?_
  refine ar_iconst kd_S_allocateAtLeastCost_30 ?_
  refine az_calls (z := km_S_explore) (As := [_, _, _]) kd_S_allocateAtLeastCost_31 kw_478 kw_479 kw_2 kz_S_explore rfl rfl rfl rfl (Nat.le_of_ble_eq_true rfl) (Nat.le_of_ble_eq_true rfl) rfl (am_deep (sp_S_explore (d := 0) (cg_nL c) 0 0 (ck_b4 c) hV4 (by rw [ck_b4_nL]; omega) (by omega)) (by omega)) ?_
  refine ar_heap (h' := hC x (ck_b5 c) t) rfl ?_
  refine ar_iconst kd_S_allocateAtLeastCost_34 ?_
  refine ar_istore_n kd_S_allocateAtLeastCost_35 (Nat.le_of_ble_eq_true rfl) rfl ?_
  dsimp only [List.set]
  exact loop (cg_nL c + 1) 0 (by omega) (by omega)
