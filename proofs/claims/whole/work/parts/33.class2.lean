/-! new lots and lines, barred lots -/
theorem ar_heap {d : Nat} {y : am_Y} {pc : Nat} {ls : List (Option Value)} {st : List Value} {h h' : am_H} {n cu su : Nat} {Q : am_O → am_H → Nat → Prop} (e : h = h') (k : am_W d y pc ls st h' n cu su Q) : am_W d y pc ls st h n cu su Q := by
  subst e
  exact k
/-- the lot a comes before b, if a is the newer -/
abbrev ck_bf (c : cS) (a b : Nat) : Prop := cg_un c a < cg_un c b ∨ cg_un c a = cg_un c b ∧ cg_pl c a < cg_pl c b
/-- the lot k put into the order, at place i or ahead of it -/
def ck_pt (k : Nat) : Nat → cS → cS
  | 0, c => cs_od c (zu (cg_od c) 0 k)
  | i + 1, c => if ck_bf c k (cg_od c i).toNat then ck_pt k i (cs_od c (zu (cg_od c) (i + 1) (cg_od c i))) else cs_od c (zu (cg_od c) (i + 1) k)
theorem cK_od {c : cS} (h : cK c) {i : Nat} {v : Int} (hv : 0 ≤ v ∧ v ≤ 7) : cK (cs_od c (zu (cg_od c) i v)) := by
  refine ⟨h.1, fun k hk => ⟨(h.2.1 k hk).1, (h.2.1 k hk).2.1, (h.2.1 k hk).2.2.1, ?_⟩, h.2.2⟩
  show 0 ≤ zu (cg_od c) i v k ∧ zu (cg_od c) i v k ≤ 7
  by_cases e : k = i
  · subst e
    rw [zu_s]
    exact hv
  · rw [zu_n e]
    exact (h.2.1 k hk).2.2.2
set_option maxHeartbeats 1000000 in
set_option maxRecDepth 20000 in
theorem sp_T_comesBefore {d : Nat} {x : am_C} {c : cS} {t : List am_C} {n : Nat} {k l : Nat} (hk : k < 8) (hl : l < 8) (hK : cK c) : am_W d km_T_comesBefore 0 [some (.ref 7), some (.int (iI k)), some (.int (iI l))] [] (hC x c t) n 0 0 (am_eq (some (.int (iI (zb (ck_bf c k l))))) (hC x c t) n) := by
  have h1 := hK.lot hk
  have h2 := hK.lot hl
  refine ar_aload_n kd_T_comesBefore_0 rfl ?_
  refine ar_get (ci := 3) (k := 3) kd_T_comesBefore_1 rfl kw_51 (by decide) rfl rfl ?_
  refine ar_iload_n kd_T_comesBefore_4 rfl ?_
  refine az_iald kd_T_comesBefore_5 rfl rfl (by omega) ?_
  refine ar_aload_n kd_T_comesBefore_6 rfl ?_
  refine ar_get (ci := 3) (k := 3) kd_T_comesBefore_7 rfl kw_51 (by decide) rfl rfl ?_
  refine ar_iload_n kd_T_comesBefore_10 rfl ?_
  refine az_iald kd_T_comesBefore_11 rfl rfl (by omega) ?_
  refine az_icmp_eq (tg := 36) kd_T_comesBefore_12 (by decide) (fun q1 => ?_) (fun q1 => ?_)
  · refine ar_aload_n kd_T_comesBefore_36 rfl ?_
    refine ar_get (ci := 3) (k := 1) kd_T_comesBefore_37 rfl kw_47 (by decide) rfl rfl ?_
    refine ar_iload_n kd_T_comesBefore_40 rfl ?_
    refine az_iald kd_T_comesBefore_41 rfl rfl (by omega) ?_
    refine ar_aload_n kd_T_comesBefore_42 rfl ?_
    refine ar_get (ci := 3) (k := 1) kd_T_comesBefore_43 rfl kw_47 (by decide) rfl rfl ?_
    refine ar_iload_n kd_T_comesBefore_46 rfl ?_
    refine az_iald kd_T_comesBefore_47 rfl rfl (by omega) ?_
    refine az_icmp_ge (tg := 55) kd_T_comesBefore_48 (by decide) (fun q2 => ?_) (fun q2 => ?_)
    · have e1 : zb (ck_bf c k l) = 0 := if_neg (by omega)
      refine ar_iconst kd_T_comesBefore_55 ?_
      refine ar_zreturn kd_T_comesBefore_56 rfl rfl (Nat.le_of_ble_eq_true rfl) (Nat.le_of_ble_eq_true rfl) ?_
      exact ⟨by rw [e1], rfl, rfl⟩
    · have e1 : zb (ck_bf c k l) = 1 := if_pos (by omega)
      refine ar_iconst kd_T_comesBefore_51 ?_
      refine ar_goto (tg := 56) kd_T_comesBefore_52 (by decide) ?_
      refine ar_zreturn kd_T_comesBefore_56 rfl rfl (Nat.le_of_ble_eq_true rfl) (Nat.le_of_ble_eq_true rfl) ?_
      exact ⟨by rw [e1], rfl, rfl⟩
  · refine ar_aload_n kd_T_comesBefore_15 rfl ?_
    refine ar_get (ci := 3) (k := 3) kd_T_comesBefore_16 rfl kw_51 (by decide) rfl rfl ?_
    refine ar_iload_n kd_T_comesBefore_19 rfl ?_
    refine az_iald kd_T_comesBefore_20 rfl rfl (by omega) ?_
    refine ar_aload_n kd_T_comesBefore_21 rfl ?_
    refine ar_get (ci := 3) (k := 3) kd_T_comesBefore_22 rfl kw_51 (by decide) rfl rfl ?_
    refine ar_iload_n kd_T_comesBefore_25 rfl ?_
    refine az_iald kd_T_comesBefore_26 rfl rfl (by omega) ?_
    refine az_icmp_ge (tg := 34) kd_T_comesBefore_27 (by decide) (fun q3 => ?_) (fun q3 => ?_)
    · have e1 : zb (ck_bf c k l) = 0 := if_neg (by omega)
      refine ar_iconst kd_T_comesBefore_34 ?_
      refine ar_zreturn kd_T_comesBefore_35 rfl rfl (Nat.le_of_ble_eq_true rfl) (Nat.le_of_ble_eq_true rfl) ?_
      exact ⟨by rw [e1], rfl, rfl⟩
    · have e1 : zb (ck_bf c k l) = 1 := if_pos (by omega)
      refine ar_iconst kd_T_comesBefore_30 ?_
      refine ar_goto (tg := 35) kd_T_comesBefore_31 (by decide) ?_
      refine ar_zreturn kd_T_comesBefore_35 rfl rfl (Nat.le_of_ble_eq_true rfl) (Nat.le_of_ble_eq_true rfl) ?_
      exact ⟨by rw [e1], rfl, rfl⟩
set_option maxHeartbeats 1000000 in
set_option maxRecDepth 20000 in
theorem sp_T_putInOrder {d : Nat} {x : am_C} {c : cS} {t : List am_C} {n : Nat} {k : Nat} (hk : k < 8) (hK : cK c) : am_W (d + 1) km_T_putInOrder 0 [some (.ref 7), some (.int (iI k)), none] [] (hC x c t) n 0 0 (am_eq none (hC x (ck_pt k k c) t) n) := by
  have loop : ∀ i : Nat, ∀ (c1 : cS), cK c1 → i ≤ 7 → ck_pt k k c = ck_pt k i c1 → am_W (d + 1) km_T_putInOrder 2 [some (.ref 7), some (.int (iI k)), some (.int (iI i))] [] (hC x c1 t) n 0 0 (am_eq none (hC x (ck_pt k k c) t) n) := by
    intro i
    induction i with
    | zero =>
      intro c1 hK1 hi e0
      refine ar_iload_n kd_T_putInOrder_2 rfl ?_
      refine az_if_le (tg := 42) kd_T_putInOrder_3 (by decide) (fun q1 => ?_) (fun q1 => absurd (by omega) q1)
      refine ar_aload_n kd_T_putInOrder_42 rfl ?_
      refine ar_get (ci := 3) (k := 6) kd_T_putInOrder_43 rfl kw_60 (by decide) rfl rfl ?_
      refine ar_iload_n kd_T_putInOrder_46 rfl ?_
      refine ar_iload_n kd_T_putInOrder_47 rfl ?_
      have e1 : ck_pt k k c = cs_od c1 (zu (cg_od c1) 0 k) := e0
      refine az_iast kd_T_putInOrder_48 rfl rfl (k := 0) rfl (by omega) ?_
      rw [hw_od]
      refine ar_return kd_T_putInOrder_49 rfl (Nat.le_of_ble_eq_true rfl) (Nat.le_of_ble_eq_true rfl) ?_
      exact ⟨rfl, by rw [e1], rfl⟩
    | succ i ih =>
      intro c1 hK1 hi e0
      have hot := hK1.lot (k := i) (by omega)
      have eo : cg_od c1 i = (((cg_od c1 i).toNat : Nat) : Int) := (Int.toNat_of_nonneg hot.2.2.2.1).symm
      refine ar_iload_n kd_T_putInOrder_2 rfl ?_
      refine az_if_le (tg := 42) kd_T_putInOrder_3 (by decide) (fun q1 => absurd q1 (by omega)) (fun q1 => ?_)
      refine ar_aload_n kd_T_putInOrder_6 rfl ?_
      refine ar_iload_n kd_T_putInOrder_7 rfl ?_
      refine ar_aload_n kd_T_putInOrder_8 rfl ?_
      refine ar_get (ci := 3) (k := 6) kd_T_putInOrder_9 rfl kw_60 (by decide) rfl rfl ?_
      refine ar_iload_n kd_T_putInOrder_12 rfl ?_
      refine ar_iconst kd_T_putInOrder_13 ?_
      refine az_isub kd_T_putInOrder_14 ?_
      refine az_iald kd_T_putInOrder_15 rfl (k := i) (by omega) (by omega) ?_
      rw [eo]
      refine az_callv (z := km_T_comesBefore) (As := [_, _]) (ci := 3) kd_T_putInOrder_16 kw_354 kw_356 rfl ks_T_comesBefore kz_T_comesBefore rfl rfl rfl rfl rfl (Nat.le_of_ble_eq_true rfl) (Nat.le_of_ble_eq_true rfl) rfl (sp_T_comesBefore hk (by omega) hK1) ?_
      refine az_if_eq (tg := 42) kd_T_putInOrder_19 (by decide) (fun qc => ?_) (fun qc => ?_) (by unfold zb; split <;> omega)
      · have hb : ¬ ck_bf c1 k (cg_od c1 i).toNat := fun q => by simp [zb, q] at qc
        have e1 : ck_pt k k c = cs_od c1 (zu (cg_od c1) (i + 1) k) := by
          rw [e0]
          simp only [ck_pt]
          rw [if_neg hb]
        refine ar_aload_n kd_T_putInOrder_42 rfl ?_
        refine ar_get (ci := 3) (k := 6) kd_T_putInOrder_43 rfl kw_60 (by decide) rfl rfl ?_
        refine ar_iload_n kd_T_putInOrder_46 rfl ?_
        refine ar_iload_n kd_T_putInOrder_47 rfl ?_
        refine az_iast kd_T_putInOrder_48 rfl rfl (k := i + 1) (by omega) (by omega) ?_
        rw [hw_od]
        refine ar_return kd_T_putInOrder_49 rfl (Nat.le_of_ble_eq_true rfl) (Nat.le_of_ble_eq_true rfl) ?_
        exact ⟨rfl, by rw [e1], rfl⟩
      · have hb : ck_bf c1 k (cg_od c1 i).toNat := Decidable.byContradiction fun q => qc (if_neg q)
        have e1 : ck_pt k k c = ck_pt k i (cs_od c1 (zu (cg_od c1) (i + 1) (cg_od c1 i))) := by
          rw [e0]
          simp only [ck_pt]
          rw [if_pos hb]
        refine ar_aload_n kd_T_putInOrder_22 rfl ?_
        refine ar_get (ci := 3) (k := 6) kd_T_putInOrder_23 rfl kw_60 (by decide) rfl rfl ?_
        refine ar_iload_n kd_T_putInOrder_26 rfl ?_
        refine ar_aload_n kd_T_putInOrder_27 rfl ?_
        refine ar_get (ci := 3) (k := 6) kd_T_putInOrder_28 rfl kw_60 (by decide) rfl rfl ?_
        refine ar_iload_n kd_T_putInOrder_31 rfl ?_
        refine ar_iconst kd_T_putInOrder_32 ?_
        refine az_isub kd_T_putInOrder_33 ?_
        refine az_iald kd_T_putInOrder_34 rfl (k := i) (by omega) (by omega) ?_
        refine az_iast kd_T_putInOrder_35 rfl rfl (k := i + 1) (by omega) (by omega) ?_
        rw [hw_od]
        refine az_iinc kd_T_putInOrder_36 rfl rfl ?_
        dsimp only [List.set]
        rw [show ((i + 1 : Nat) : Int) + -1 = (i : Int) by omega]
        refine ar_goto (tg := 2) kd_T_putInOrder_39 (by decide) ?_
        exact ih _ (cK_od hK1 hot.2.2.2) (by omega) e1
  refine ar_iload_n kd_T_putInOrder_0 rfl ?_
  refine ar_istore_n kd_T_putInOrder_1 (Nat.le_of_ble_eq_true rfl) rfl ?_
  dsimp only [List.set]
  exact loop k c hK (by omega) rfl
/-- the numbers of a new lot -/
def ck_nw (c : cS) (p g z u : Int) : cS := cs_fr (cs_pc (cs_un (cs_gd (cs_pl c (zu (cg_pl c) (cg_nT c) p)) (zu (cg_gd c) (cg_nT c) g)) (zu (cg_un c) (cg_nT c) u)) (zu (cg_pc c) (cg_nT c) z)) (zu (cg_fr c) (cg_nT c) z)
def ck_addT (c : cS) (p g z u : Int) : cS := cs_nT (ck_pt (cg_nT c) (cg_nT c) (ck_nw c p g z u)) (cg_nT c + 1)
theorem cK_nw {c : cS} (h : cK c) {p g z u : Int} (hp : 0 ≤ p ∧ p ≤ 99) (hg : 0 ≤ g ∧ g ≤ 5) (hu : 0 ≤ u ∧ u ≤ 9999) : cK (ck_nw c p g z u) := by
  refine ⟨h.1, fun k hk => ?_, h.2.2⟩
  have h1 := h.2.1 k hk
  show (0 ≤ zu (cg_pl c) (cg_nT c) p k ∧ zu (cg_pl c) (cg_nT c) p k ≤ 99) ∧ (0 ≤ zu (cg_gd c) (cg_nT c) g k ∧ zu (cg_gd c) (cg_nT c) g k ≤ 5) ∧ (0 ≤ zu (cg_un c) (cg_nT c) u k ∧ zu (cg_un c) (cg_nT c) u k ≤ 9999) ∧ _
  by_cases e : k = cg_nT c
  · subst e
    rw [zu_s, zu_s, zu_s]
    exact ⟨hp, hg, hu, h1.2.2.2⟩
  · rw [zu_n e, zu_n e, zu_n e]
    exact h1
theorem ck_pt_nT (k : Nat) : ∀ (i : Nat) (c : cS), cg_nT (ck_pt k i c) = cg_nT c
  | 0, c => rfl
  | i + 1, c => by
    simp only [ck_pt]
    split
    · exact ck_pt_nT k i _
    · rfl
set_option maxHeartbeats 1000000 in
set_option maxRecDepth 20000 in
theorem sp_T_add {d : Nat} {x : am_C} {c : cS} {t : List am_C} {n : Nat} {p g z u : Int} (hT : cg_nT c < 8) (hp : 0 ≤ p ∧ p ≤ 99) (hg : 0 ≤ g ∧ g ≤ 5) (hu : 0 ≤ u ∧ u ≤ 9999) (hK : cK c) : am_W (d + 2) km_T_add 0 [some (.ref 7), some (.int (iI p)), some (.int (iI g)), some (.int (iI z)), some (.int (iI u)), none] [] (hC x c t) n 0 0 (am_eq (some (.int (iI (cg_nT c)))) (hC x (ck_addT c p g z u) t) n) := by
  refine ar_aload_n kd_T_add_0 rfl ?_
  refine ar_get (ci := 3) (k := 0) kd_T_add_1 rfl kw_43 (by decide) rfl rfl ?_
  refine ar_istore kd_T_add_4 (Nat.le_of_ble_eq_true rfl) rfl ?_
  dsimp only [List.set]
  refine ar_aload_n kd_T_add_6 rfl ?_
  refine ar_get (ci := 3) (k := 1) kd_T_add_7 rfl kw_47 (by decide) rfl rfl ?_
  refine ar_iload kd_T_add_10 rfl ?_
  refine ar_iload_n kd_T_add_12 rfl ?_
  refine az_iast kd_T_add_13 rfl rfl rfl (by omega) ?_
  rw [hw_pl]
  refine ar_aload_n kd_T_add_14 rfl ?_
  refine ar_get (ci := 3) (k := 2) kd_T_add_15 rfl kw_49 (by decide) rfl rfl ?_
  refine ar_iload kd_T_add_18 rfl ?_
  refine ar_iload_n kd_T_add_20 rfl ?_
  refine az_iast kd_T_add_21 rfl rfl rfl (by omega) ?_
  rw [hw_gd]
  refine ar_aload_n kd_T_add_22 rfl ?_
  refine ar_get (ci := 3) (k := 3) kd_T_add_23 rfl kw_51 (by decide) rfl rfl ?_
  refine ar_iload kd_T_add_26 rfl ?_
  refine ar_iload kd_T_add_28 rfl ?_
  refine az_iast kd_T_add_30 rfl rfl rfl (by omega) ?_
  rw [hw_un]
  refine ar_aload_n kd_T_add_31 rfl ?_
  refine ar_get (ci := 3) (k := 4) kd_T_add_32 rfl kw_53 (by decide) rfl rfl ?_
  refine ar_iload kd_T_add_35 rfl ?_
  refine ar_iload_n kd_T_add_37 rfl ?_
  refine az_iast kd_T_add_38 rfl rfl rfl (by omega) ?_
  rw [hw_pc]
  refine ar_aload_n kd_T_add_39 rfl ?_
  refine ar_get (ci := 3) (k := 5) kd_T_add_40 rfl kw_56 (by decide) rfl rfl ?_
  refine ar_iload kd_T_add_43 rfl ?_
  refine ar_iload_n kd_T_add_45 rfl ?_
  refine az_iast kd_T_add_46 rfl rfl rfl (by omega) ?_
  rw [hw_fr]
  refine ar_aload_n kd_T_add_47 rfl ?_
  refine ar_iload kd_T_add_48 rfl ?_
  refine ar_heap (h' := hC x (ck_nw c p g z u) t) rfl ?_
  refine az_callv (z := km_T_putInOrder) (As := [_]) (ci := 3) kd_T_add_50 kw_350 kw_352 rfl ks_T_putInOrder kz_T_putInOrder rfl rfl rfl rfl rfl (Nat.le_of_ble_eq_true rfl) (Nat.le_of_ble_eq_true rfl) rfl (sp_T_putInOrder hT (cK_nw hK hp hg hu)) ?_
  refine ar_aload_n kd_T_add_53 rfl ?_
  refine ar_dup kd_T_add_54 rfl ?_
  refine ar_get (ci := 3) (k := 0) kd_T_add_55 rfl kw_43 (by decide) rfl rfl ?_
  refine ar_iconst kd_T_add_58 ?_
  refine az_iadd kd_T_add_59 ?_
  refine ar_put (ci := 3) (k := 0) kd_T_add_60 rfl kw_43 (by decide) rfl (Nat.le_of_ble_eq_true rfl) rfl (Nat.le_of_ble_eq_true rfl) rfl rfl rfl ?_
  rw [ck_pt_nT]
  refine ar_heap (h' := hC x (ck_addT c p g z u) t) (by rw [show ((cg_nT (ck_nw c p g z u) : Nat) : Int) + 1 = ((cg_nT c + 1 : Nat) : Int) from rfl]; rfl) ?_
  refine ar_iload kd_T_add_63 rfl ?_
  refine ar_ireturn kd_T_add_65 rfl (Nat.le_of_ble_eq_true rfl) (Nat.le_of_ble_eq_true rfl) ?_
  exact ⟨rfl, rfl, rfl⟩
def ck_r1 (c : cS) (l : Nat) (k : Nat) : cS := cs_rl c (zr (cg_rl c) l (zu (cg_rl c l) k (hs_first k)))
def ck_r2 (c : cS) (l : Nat) (k : Nat) : cS := cs_tl c (zr (cg_tl c) l (zu (cg_tl c l) k (-1)))
def ck_nl (c : cS) (g z : Int) : cS := cs_lw (cs_lg c (zu (cg_lg c) (cg_nL c) g)) (zu (cg_lw c) (cg_nL c) z)
theorem hp_nT {x : am_C} {c : cS} {t : List am_C} (v : Nat) : (hC x c t).set 7 (am_ob 3 [.int (iI (v : Int)), .ref 8, .ref 9, .ref 10, .ref 11, .ref 12, .ref 13]) = hC x (cs_nT c v) t := rfl
theorem hp_nL {x : am_C} {c : cS} {t : List am_C} (v : Nat) : (hC x c t).set 14 (am_ob 2 [.int (iI (v : Int)), .ref 15, .ref 16, .ref 17, .ref 18, .ref 25, .ref 32]) = hC x (cs_nL c v) t := rfl
theorem hp_r1 {x : am_C} {c : cS} {t : List am_C} (l k : Nat) : hC x (cs_rl c (zr (cg_rl c) l (zu (cg_rl c l) k (hs_first k)))) t = hC x (ck_r1 c l k) t := rfl
theorem hp_r2 {x : am_C} {c : cS} {t : List am_C} (l k : Nat) : hC x (cs_tl c (zr (cg_tl c) l (zu (cg_tl c l) k (-1)))) t = hC x (ck_r2 c l k) t := rfl
def ck_addL (c : cS) (g z : Int) : cS := cs_nL (zf (fun a k => ck_r2 a (cg_nL c) k) (zf (fun a k => ck_r1 a (cg_nL c) k) (ck_nl c g z) 4) 8) (cg_nL c + 1)
set_option maxHeartbeats 1000000 in
set_option maxRecDepth 20000 in
theorem sp_N_add {d : Nat} {x : am_C} {c : cS} {t : List am_C} {n : Nat} {g z : Int} (hL : cg_nL c < 6) : am_W d km_N_add 0 [some (.ref 14), some (.int (iI g)), some (.int (iI z)), none, none] [] (hC x c t) n 0 0 (am_eq (some (.int (iI (cg_nL c)))) (hC x (ck_addL c g z) t) n) := by
  have loop2 : ∀ (f i : Nat), i ≤ 8 → 8 - i < f → am_W d km_N_add 52 [some (.ref 14), some (.int (iI g)), some (.int (iI z)), some (.int (iI (cg_nL c))), some (.int (iI i))] [] (hC x (zf (fun a k => ck_r2 a (cg_nL c) k) (zf (fun a k => ck_r1 a (cg_nL c) k) (ck_nl c g z) 4) i) t) n 0 0 (am_eq (some (.int (iI (cg_nL c)))) (hC x (ck_addL c g z) t) n) := by
    intro f
    induction f with
    | zero => intro i h1 h2; omega
    | succ f ih =>
      intro i h1 h2
      refine ar_iload kd_N_add_52 rfl ?_
      refine az_bipush kd_N_add_54 (by decide) ?_
      refine az_icmp_ge (tg := 75) kd_N_add_56 (by decide) (fun q1 => ?_) (fun q1 => ?_)
      · obtain rfl : i = 8 := by omega
        refine ar_aload_n kd_N_add_75 rfl ?_
        refine ar_dup kd_N_add_76 rfl ?_
        refine ar_get (ci := 2) (k := 0) kd_N_add_77 rfl kw_87 (by decide) rfl rfl ?_
        refine ar_iconst kd_N_add_80 ?_
        refine az_iadd kd_N_add_81 ?_
        refine ar_put (ci := 2) (k := 0) kd_N_add_82 rfl kw_87 (by decide) rfl (Nat.le_of_ble_eq_true rfl) rfl (Nat.le_of_ble_eq_true rfl) rfl rfl rfl ?_
        have hn : cg_nL (zf (fun a k => ck_r2 a (cg_nL c) k) (zf (fun a k => ck_r1 a (cg_nL c) k) (ck_nl c g z) 4) 8) = cg_nL c := (zf_keep (g := fun a k => ck_r2 a (cg_nL c) k) (P := fun c : cS => cg_nL c) (fun a k => rfl) _ 8).trans (zf_keep (g := fun a k => ck_r1 a (cg_nL c) k) (P := fun c : cS => cg_nL c) (fun a k => rfl) _ 4)
        rw [hn]
        refine ar_heap (hp_nL (cg_nL c + 1)) ?_
        refine ar_iload_n kd_N_add_85 rfl ?_
        refine ar_ireturn kd_N_add_86 rfl (Nat.le_of_ble_eq_true rfl) (Nat.le_of_ble_eq_true rfl) ?_
        exact ⟨rfl, rfl, rfl⟩
      · refine ar_aload_n kd_N_add_59 rfl ?_
        refine ar_get (ci := 2) (k := 5) kd_N_add_60 rfl kw_102 (by decide) rfl rfl ?_
        refine ar_iload_n kd_N_add_63 rfl ?_
        refine az_aald kd_N_add_64 rfl rfl (by omega) (if_pos (by omega)) ?_
        refine ar_iload kd_N_add_65 rfl ?_
        refine ar_iconst kd_N_add_67 ?_
        refine az_iast kd_N_add_68 (Nat.ble_eq_true_of_le (by omega)) (hr_tl (by omega)) rfl (by omega) ?_
        rw [hw_tl (by omega)]
        refine az_iinc kd_N_add_69 rfl rfl ?_
        dsimp only [List.set]
        refine ar_goto (tg := 52) kd_N_add_72 (by decide) ?_
        rw [hp_r2]
        exact ih (i + 1) (by omega) (by omega)
  have loop1 : ∀ (f i : Nat), i ≤ 4 → 4 - i < f → am_W d km_N_add 22 [some (.ref 14), some (.int (iI g)), some (.int (iI z)), some (.int (iI (cg_nL c))), some (.int (iI i))] [] (hC x (zf (fun a k => ck_r1 a (cg_nL c) k) (ck_nl c g z) i) t) n 0 0 (am_eq (some (.int (iI (cg_nL c)))) (hC x (ck_addL c g z) t) n) := by
    intro f
    induction f with
    | zero => intro i h1 h2; omega
    | succ f ih =>
      intro i h1 h2
      refine ar_iload kd_N_add_22 rfl ?_
      refine ar_iconst kd_N_add_24 ?_
      refine az_icmp_ge (tg := 49) kd_N_add_25 (by decide) (fun q1 => ?_) (fun q1 => ?_)
      · obtain rfl : i = 4 := by omega
        refine ar_iconst kd_N_add_49 ?_
        refine ar_istore kd_N_add_50 (Nat.le_of_ble_eq_true rfl) rfl ?_
        dsimp only [List.set]
        exact loop2 9 0 (by omega) (by omega)
      · refine ar_aload_n kd_N_add_28 rfl ?_
        refine ar_get (ci := 2) (k := 4) kd_N_add_29 rfl kw_98 (by decide) rfl rfl ?_
        refine ar_iload_n kd_N_add_32 rfl ?_
        refine az_aald kd_N_add_33 rfl rfl (by omega) (if_pos (by omega)) ?_
        refine ar_iload kd_N_add_34 rfl ?_
        refine ar_first rfl kd_N_add_36 ?_
        refine ar_iload kd_N_add_39 rfl ?_
        refine az_iald kd_N_add_41 rfl rfl (by omega) ?_
        refine az_iast kd_N_add_42 (Nat.ble_eq_true_of_le (by omega)) (hr_rl (by omega)) rfl (by omega) ?_
        rw [hw_rl (by omega)]
        refine az_iinc kd_N_add_43 rfl rfl ?_
        dsimp only [List.set]
        refine ar_goto (tg := 22) kd_N_add_46 (by decide) ?_
        rw [hp_r1]
        exact ih (i + 1) (by omega) (by omega)
  refine ar_aload_n kd_N_add_0 rfl ?_
  refine ar_get (ci := 2) (k := 0) kd_N_add_1 rfl kw_87 (by decide) rfl rfl ?_
  refine ar_istore_n kd_N_add_4 (Nat.le_of_ble_eq_true rfl) rfl ?_
  dsimp only [List.set]
  refine ar_aload_n kd_N_add_5 rfl ?_
  refine ar_get (ci := 2) (k := 1) kd_N_add_6 rfl kw_91 (by decide) rfl rfl ?_
  refine ar_iload_n kd_N_add_9 rfl ?_
  refine ar_iload_n kd_N_add_10 rfl ?_
  refine az_iast kd_N_add_11 rfl rfl rfl (by omega) ?_
  rw [hw_lg]
  refine ar_aload_n kd_N_add_12 rfl ?_
  refine ar_get (ci := 2) (k := 2) kd_N_add_13 rfl kw_93 (by decide) rfl rfl ?_
  refine ar_iload_n kd_N_add_16 rfl ?_
  refine ar_iload_n kd_N_add_17 rfl ?_
  refine az_iast kd_N_add_18 rfl rfl rfl (by omega) ?_
  rw [hw_lw]
  refine ar_heap (h' := hC x (ck_nl c g z) t) rfl ?_
  refine ar_iconst kd_N_add_19 ?_
  refine ar_istore kd_N_add_20 (Nat.le_of_ble_eq_true rfl) rfl ?_
  dsimp only [List.set]
  exact loop1 5 0 (by omega) (by omega)
/-- a bit of the barred lots -/
def ck_sb (c : cS) (l k : Nat) (on : Int) : cS := cs_lb c (upd (cg_lb c) l (if on = 0 then cg_lb c l &&& ((iI 1 <<< (iI k &&& 31)) ^^^ iI (-1)) else cg_lb c l ||| (iI 1 <<< (iI k &&& 31))))
set_option maxHeartbeats 1000000 in
set_option maxRecDepth 20000 in
theorem sp_N_setBarred {d : Nat} {x : am_C} {c : cS} {t : List am_C} {n : Nat} {l k : Nat} {on : Int} (hl : l < 6) (ho : 0 ≤ on ∧ on ≤ 1) : am_W d km_N_setBarred 0 [some (.ref 14), some (.int (iI l)), some (.int (iI k)), some (.int (iI on)), none] [] (hC x c t) n 0 0 (am_eq none (hC x (ck_sb c l k on) t) n) := by
  refine ar_iconst kd_N_setBarred_0 ?_
  refine ar_iload_n kd_N_setBarred_1 rfl ?_
  refine ar_ishl kd_N_setBarred_2 ?_
  refine ar_istore kd_N_setBarred_3 (Nat.le_of_ble_eq_true rfl) rfl ?_
  dsimp only [List.set]
  refine ar_aload_n kd_N_setBarred_5 rfl ?_
  refine ar_get (ci := 2) (k := 3) kd_N_setBarred_6 rfl kw_97 (by decide) rfl rfl ?_
  refine ar_iload_n kd_N_setBarred_9 rfl ?_
  refine ar_iload_n kd_N_setBarred_10 rfl ?_
  refine az_if_eq (tg := 26) kd_N_setBarred_11 (by decide) (fun q1 => ?_) (fun q1 => ?_)
  · have e1 : ck_sb c l k on = cs_lb c (upd (cg_lb c) l (cg_lb c l &&& ((iI 1 <<< (iI k &&& 31)) ^^^ iI (-1)))) := by
      unfold ck_sb
      rw [if_pos q1]
    refine ar_aload_n kd_N_setBarred_26 rfl ?_
    refine ar_get (ci := 2) (k := 3) kd_N_setBarred_27 rfl kw_97 (by decide) rfl rfl ?_
    refine ar_iload_n kd_N_setBarred_30 rfl ?_
    refine az_ialdR kd_N_setBarred_31 rfl rfl (by omega) ?_
    refine ar_iload kd_N_setBarred_32 rfl ?_
    refine ar_iconst kd_N_setBarred_34 ?_
    refine ar_ixor kd_N_setBarred_35 ?_
    refine ar_iand kd_N_setBarred_36 ?_
    refine az_iastR kd_N_setBarred_37 rfl rfl rfl (by omega) ?_
    rw [hw_lb]
    refine ar_return kd_N_setBarred_38 rfl (Nat.le_of_ble_eq_true rfl) (Nat.le_of_ble_eq_true rfl) ?_
    exact ⟨rfl, by rw [e1], rfl⟩
  · have e1 : ck_sb c l k on = cs_lb c (upd (cg_lb c) l (cg_lb c l ||| (iI 1 <<< (iI k &&& 31)))) := by
      unfold ck_sb
      rw [if_neg q1]
    refine ar_aload_n kd_N_setBarred_14 rfl ?_
    refine ar_get (ci := 2) (k := 3) kd_N_setBarred_15 rfl kw_97 (by decide) rfl rfl ?_
    refine ar_iload_n kd_N_setBarred_18 rfl ?_
    refine az_ialdR kd_N_setBarred_19 rfl rfl (by omega) ?_
    refine ar_iload kd_N_setBarred_20 rfl ?_
    refine ar_ior kd_N_setBarred_22 ?_
    refine ar_goto (tg := 37) kd_N_setBarred_23 (by decide) ?_
    refine az_iastR kd_N_setBarred_37 rfl rfl rfl (by omega) ?_
    rw [hw_lb]
    refine ar_return kd_N_setBarred_38 rfl (Nat.le_of_ble_eq_true rfl) (Nat.le_of_ble_eq_true rfl) ?_
    exact ⟨rfl, by rw [e1], rfl⟩
