/-! the search, on -/
theorem hp_bc {x : am_C} {c : cS} {t : List am_C} (v : Int) : (hC x c t).set 5 (am_ob 4 [.ref 6, .ref 7, .ref 14, .ref 39, .ref 46, .ref 47, .ref 48, .ref 49, .int (iI v)]) = hC x (cs_bc c v) t := rfl
theorem zf_invB {α : Type} {g : α → Nat → α} {P : α → Prop} {N : Nat} (h : ∀ a k, k < N → P a → P (g a k)) {a : α} (ha : P a) : ∀ n, n ≤ N → P (zf g a n)
  | 0, _ => ha
  | n + 1, hn => h _ _ (by omega) (zf_invB h ha n (by omega))
/-- the place k of the order is looked at for the line l; then a line's row of allowed lots is laid -/
def ck_a1 (l : Nat) (q : cS × Nat) (k : Nat) : cS × Nat := if ck_all q.1 l (cg_od q.1 k).toNat then (cs_al q.1 (zr (cg_al q.1) l (zu (cg_al q.1 l) q.2 (cg_od q.1 k))), q.2 + 1) else q
def ck_a2 (c : cS) (l k : Nat) : cS × Nat := zf (ck_a1 l) (c, 0) k
def ck_ra (c : cS) (l : Nat) : cS := cs_ac (ck_a2 c l (cg_nT c)).1 (zu (cg_ac (ck_a2 c l (cg_nT c)).1) l ((ck_a2 c l (cg_nT c)).2 : Int))
def ck_read (c : cS) (i : Nat) : cS := zf ck_ra c i
theorem ck_a2_keep {β : Type} {P : cS → β} (h : ∀ c v, P (cs_al c v) = P c) (c : cS) (l k : Nat) : P (ck_a2 c l k).1 = P c := zf_keep (g := ck_a1 l) (P := fun q : cS × Nat => P q.1) (fun q k => by
  unfold ck_a1
  split
  · exact h _ _
  · rfl) (c, 0) k
theorem ck_ra_keep {β : Type} {P : cS → β} (h : ∀ c v, P (cs_al c v) = P c) (h2 : ∀ c v, P (cs_ac c v) = P c) (c : cS) (l : Nat) : P (ck_ra c l) = P c := (h2 _ _).trans (ck_a2_keep h c l _)
theorem ck_read_keep {β : Type} {P : cS → β} (h : ∀ c v, P (cs_al c v) = P c) (h2 : ∀ c v, P (cs_ac c v) = P c) (c : cS) (i : Nat) : P (ck_read c i) = P c := zf_keep (g := ck_ra) (P := P) (fun a k => ck_ra_keep h h2 a k) c i
theorem cK_al {c : cS} (h : cK c) (v : Nat → Nat → Int) : cK (cs_al c v) := h
theorem cP_al {c : cS} (h : cP c) (v : Nat → Nat → Int) : cP (cs_al c v) := h
theorem cK_ac {c : cS} (h : cK c) (v : Nat → Int) : cK (cs_ac c v) := h
theorem cP_ac {c : cS} (h : cP c) (v : Nat → Int) : cP (cs_ac c v) := h
theorem cA_al {c : cS} (h : cA c) {l f : Nat} {v : Int} (hv : 0 ≤ v ∧ v ≤ 7) : cA (cs_al c (zr (cg_al c) l (zu (cg_al c l) f v))) := by
  intro l' hl'
  refine ⟨(h l' hl').1, (h l' hl').2.1, (h l' hl').2.2.1, fun k hk => ?_⟩
  have h1 := (h l' hl').2.2.2 k hk
  show 0 ≤ zr (cg_al c) l (zu (cg_al c l) f v) l' k ∧ zr (cg_al c) l (zu (cg_al c l) f v) l' k ≤ 7
  by_cases e : l' = l
  · subst e
    rw [zr_s]
    by_cases e2 : k = f
    · subst e2
      rw [zu_s]
      exact hv
    · rw [zu_n e2]
      exact h1
  · rw [zr_n e]
    exact h1
theorem cA_ac {c : cS} (h : cA c) {l : Nat} {v : Int} (hv : 0 ≤ v ∧ v ≤ 8) : cA (cs_ac c (zu (cg_ac c) l v)) := by
  intro l' hl'
  refine ⟨?_, (h l' hl').2⟩
  show 0 ≤ zu (cg_ac c) l v l' ∧ zu (cg_ac c) l v l' ≤ 8
  by_cases e : l' = l
  · subst e
    rw [zu_s]
    exact hv
  · rw [zu_n e]
    exact (h l' hl').1
theorem ck_a2_ok {c : cS} (hK : cK c) (hA : cA c) (hP : cP c) (l : Nat) : ∀ k, k ≤ 8 → cK (ck_a2 c l k).1 ∧ cA (ck_a2 c l k).1 ∧ cP (ck_a2 c l k).1 ∧ (ck_a2 c l k).2 ≤ k
  | 0, _ => ⟨hK, hA, hP, Nat.le_refl 0⟩
  | k + 1, hk => by
    obtain ⟨h1, h2, h3, h4⟩ := ck_a2_ok hK hA hP l k (by omega)
    have e : ck_a2 c l (k + 1) = ck_a1 l (ck_a2 c l k) k := rfl
    rw [e]
    unfold ck_a1
    split
    · exact ⟨cK_al h1 _, cA_al h2 (h1.lot (by omega)).2.2.2, cP_al h3 _, by simp only; omega⟩
    · exact ⟨h1, h2, h3, by omega⟩
theorem ck_ra_ok {c : cS} (hK : cK c) (hA : cA c) (hP : cP c) (l : Nat) : cK (ck_ra c l) ∧ cA (ck_ra c l) ∧ cP (ck_ra c l) := by
  have hT := hK.nn.1
  obtain ⟨h1, h2, h3, h4⟩ := ck_a2_ok hK hA hP l (cg_nT c) hT
  exact ⟨cK_ac h1 _, cA_ac h2 (by omega), cP_ac h3 _⟩
theorem ck_read_ok {c : cS} (hK : cK c) (hA : cA c) (hP : cP c) (i : Nat) : cK (ck_read c i) ∧ cA (ck_read c i) ∧ cP (ck_read c i) := zf_inv (P := fun a => cK a ∧ cA a ∧ cP a) (fun a k h => ck_ra_ok h.1 h.2.1 h.2.2 k) ⟨hK, hA, hP⟩ i
theorem sp_F_allowsU {d : Nat} {x : am_C} {c : cS} {t : List am_C} {n : Nat} {l k : Nat} {u : Int} (hl : l < 6) (hk : k < 8) (hu : u = (k : Int)) (hK : cK c) (hG : cG c) : am_W (d + 2) km_F_allows 0 [some (.ref 6), some (.int (iI l)), some (.int (iI u))] [] (hC x c t) n 0 0 (am_eq (some (.int (iI (zb (ck_all c l k))))) (hC x c t) n) := by
  subst hu
  exact sp_F_allows hl hk hK hG
set_option maxHeartbeats 1000000 in
set_option maxRecDepth 20000 in
theorem sp_S_readAllowed {d : Nat} {x : am_C} {c : cS} {t : List am_C} {n : Nat} (hK : cK c) (hA : cA c) (hP : cP c) : am_W (d + 3) km_S_readAllowed 0 [some (.ref 5), none, none, none, none] [] (hC x c t) n 0 0 (am_eq none (hC x (ck_read c (cg_nL c)) t) n) := by
  obtain ⟨hT, hL⟩ := hK.nn
  have loop : ∀ (f i : Nat), i ≤ cg_nL c → cg_nL c - i < f → ∀ (w1 w2 w3 : Option Value), am_W (d + 3) km_S_readAllowed 2 [some (.ref 5), some (.int (iI i)), w1, w2, w3] [] (hC x (ck_read c i) t) n 0 0 (am_eq none (hC x (ck_read c (cg_nL c)) t) n) := by
    intro f
    induction f with
    | zero => intro i h1 h2 w1 w2 w3; omega
    | succ f ih =>
      intro i h1 h2 w1 w2 w3
      obtain ⟨r1, r2, r3⟩ := ck_read_ok hK hA hP i
      have eT : cg_nT (ck_read c i) = cg_nT c := ck_read_keep (P := fun c => cg_nT c) (fun _ _ => rfl) (fun _ _ => rfl) c i
      have eL : cg_nL (ck_read c i) = cg_nL c := ck_read_keep (P := fun c => cg_nL c) (fun _ _ => rfl) (fun _ _ => rfl) c i
      refine ar_iload_n kd_S_readAllowed_2 rfl ?_
      refine ar_aload_n kd_S_readAllowed_3 rfl ?_
      refine ar_get (ci := 4) (k := 2) kd_S_readAllowed_4 rfl kw_138 (by decide) rfl rfl ?_
      refine ar_get (ci := 2) (k := 0) kd_S_readAllowed_7 rfl kw_88 (by decide) rfl rfl ?_
      refine az_icmp_ge (tg := 84) kd_S_readAllowed_10 (by decide) (fun qa => ?_) (fun qa => ?_)
      · obtain rfl : i = cg_nL c := by omega
        refine ar_return kd_S_readAllowed_84 rfl (Nat.le_of_ble_eq_true rfl) (Nat.le_of_ble_eq_true rfl) ?_
        exact ⟨rfl, rfl, rfl⟩
      · have loopj : ∀ (g j : Nat), j ≤ cg_nT c → cg_nT c - j < g → ∀ w : Option Value, am_W (d + 3) km_S_readAllowed 17 [some (.ref 5), some (.int (iI i)), some (.int (iI ((ck_a2 (ck_read c i) i j).2 : Int))), some (.int (iI j)), w] [] (hC x (ck_a2 (ck_read c i) i j).1 t) n 0 0 (am_eq none (hC x (ck_read c (cg_nL c)) t) n) := by
          intro g
          induction g with
          | zero => intro j h3 h4; omega
          | succ g ihj =>
            intro j h3 h4 w
            obtain ⟨g1, g2, g3, g4⟩ := ck_a2_ok r1 r2 r3 i j (by omega)
            have en : cg_nT (ck_a2 (ck_read c i) i j).1 = cg_nT c := (ck_a2_keep (P := fun c => cg_nT c) (fun _ _ => rfl) _ i j).trans eT
            refine ar_iload_n kd_S_readAllowed_17 rfl ?_
            refine ar_aload_n kd_S_readAllowed_18 rfl ?_
            refine ar_get (ci := 4) (k := 1) kd_S_readAllowed_19 rfl kw_137 (by decide) rfl rfl ?_
            refine ar_get (ci := 3) (k := 0) kd_S_readAllowed_22 rfl kw_44 (by decide) rfl rfl ?_
            refine az_icmp_ge (tg := 71) kd_S_readAllowed_25 (by decide) (fun qb => ?_) (fun qb => ?_)
            · obtain rfl : j = cg_nT c := by omega
              refine ar_aload_n kd_S_readAllowed_71 rfl ?_
              refine ar_get (ci := 4) (k := 4) kd_S_readAllowed_72 rfl kw_140 (by decide) rfl rfl ?_
              refine ar_iload_n kd_S_readAllowed_75 rfl ?_
              refine ar_iload_n kd_S_readAllowed_76 rfl ?_
              refine az_iast kd_S_readAllowed_77 rfl rfl rfl (by omega) ?_
              rw [hw_ac]
              have e2 : cs_ac (ck_a2 (ck_read c i) i (cg_nT c)).1 (zu (cg_ac (ck_a2 (ck_read c i) i (cg_nT c)).1) i ((ck_a2 (ck_read c i) i (cg_nT c)).2 : Int)) = ck_read c (i + 1) := by
                show _ = ck_ra (ck_read c i) i
                unfold ck_ra
                rw [eT]
              rw [e2]
              refine az_iinc kd_S_readAllowed_78 rfl rfl ?_
              dsimp only [List.set]
              refine ar_goto (tg := 2) kd_S_readAllowed_81 (by decide) ?_
              exact ih (i + 1) (by omega) (by omega) _ _ _
            · have hot := (g1.lot (k := j) (by omega)).2.2.2
              have eo : cg_od (ck_a2 (ck_read c i) i j).1 j = (((cg_od (ck_a2 (ck_read c i) i j).1 j).toNat : Nat) : Int) := (Int.toNat_of_nonneg hot.1).symm
              refine ar_aload_n kd_S_readAllowed_28 rfl ?_
              refine ar_get (ci := 4) (k := 1) kd_S_readAllowed_29 rfl kw_137 (by decide) rfl rfl ?_
              refine ar_get (ci := 3) (k := 6) kd_S_readAllowed_32 rfl kw_61 (by decide) rfl rfl ?_
              refine ar_iload_n kd_S_readAllowed_35 rfl ?_
              refine az_iald kd_S_readAllowed_36 rfl (k := j) rfl (by omega) ?_
              refine ar_istore kd_S_readAllowed_37 (Nat.le_of_ble_eq_true rfl) rfl ?_
              dsimp only [List.set]
              refine ar_aload_n kd_S_readAllowed_39 rfl ?_
              refine ar_get (ci := 4) (k := 0) kd_S_readAllowed_40 rfl kw_135 (by decide) rfl rfl ?_
              refine ar_iload_n kd_S_readAllowed_43 rfl ?_
              refine ar_iload kd_S_readAllowed_44 rfl ?_
              refine az_callv (z := km_F_allows) (As := [_, _]) (ci := 1) kd_S_readAllowed_46 kw_452 kw_193 rfl ks_F_allows kz_F_allows rfl rfl rfl rfl rfl (Nat.le_of_ble_eq_true rfl) (Nat.le_of_ble_eq_true rfl) rfl (sp_F_allowsU (by omega) (k := (cg_od (ck_a2 (ck_read c i) i j).1 j).toNat) (by omega) eo g1 g3.1.G) ?_
              refine az_if_eq (tg := 65) kd_S_readAllowed_49 (by decide) (fun qc => ?_) (fun qc => ?_) (by unfold zb; split <;> omega)
              · have hb : ¬ ck_all (ck_a2 (ck_read c i) i j).1 i (cg_od (ck_a2 (ck_read c i) i j).1 j).toNat := fun q => by simp [zb, q] at qc
                have e1 : ck_a2 (ck_read c i) i (j + 1) = ck_a2 (ck_read c i) i j := if_neg hb
                refine az_iinc kd_S_readAllowed_65 rfl rfl ?_
                dsimp only [List.set]
                refine ar_goto (tg := 17) kd_S_readAllowed_68 (by decide) ?_
                have h9 := ihj (j + 1) (by omega) (by omega) (some (.int (iI (cg_od (ck_a2 (ck_read c i) i j).1 j))))
                rw [e1] at h9
                exact h9
              · have hb : ck_all (ck_a2 (ck_read c i) i j).1 i (cg_od (ck_a2 (ck_read c i) i j).1 j).toNat := Decidable.byContradiction fun q => qc (if_neg q)
                have e1 : ck_a2 (ck_read c i) i (j + 1) = (cs_al (ck_a2 (ck_read c i) i j).1 (zr (cg_al (ck_a2 (ck_read c i) i j).1) i (zu (cg_al (ck_a2 (ck_read c i) i j).1 i) (ck_a2 (ck_read c i) i j).2 (cg_od (ck_a2 (ck_read c i) i j).1 j))), (ck_a2 (ck_read c i) i j).2 + 1) := if_pos hb
                refine ar_aload_n kd_S_readAllowed_52 rfl ?_
                refine ar_get (ci := 4) (k := 3) kd_S_readAllowed_53 rfl kw_139 (by decide) rfl rfl ?_
                refine ar_iload_n kd_S_readAllowed_56 rfl ?_
                refine az_aald kd_S_readAllowed_57 rfl rfl (by omega) (if_pos (by omega)) ?_
                refine ar_iload_n kd_S_readAllowed_58 rfl ?_
                refine ar_iload kd_S_readAllowed_59 rfl ?_
                refine az_iast kd_S_readAllowed_61 (Nat.ble_eq_true_of_le (by omega)) (hr_al (by omega)) (k := (ck_a2 (ck_read c i) i j).2) rfl (by omega) ?_
                rw [hw_al (by omega)]
                refine az_iinc kd_S_readAllowed_62 rfl rfl ?_
                dsimp only [List.set]
                refine az_iinc kd_S_readAllowed_65 rfl rfl ?_
                dsimp only [List.set]
                refine ar_goto (tg := 17) kd_S_readAllowed_68 (by decide) ?_
                have h9 := ihj (j + 1) (by omega) (by omega) (some (.int (iI (cg_od (ck_a2 (ck_read c i) i j).1 j))))
                rw [e1] at h9
                exact h9
        refine ar_iconst kd_S_readAllowed_13 ?_
        refine ar_istore_n kd_S_readAllowed_14 (Nat.le_of_ble_eq_true rfl) rfl ?_
        dsimp only [List.set]
        refine ar_iconst kd_S_readAllowed_15 ?_
        refine ar_istore_n kd_S_readAllowed_16 (Nat.le_of_ble_eq_true rfl) rfl ?_
        dsimp only [List.set]
        exact loopj (cg_nT c + 1) 0 (by omega) (by omega) _
  refine ar_iconst kd_S_readAllowed_0 ?_
  refine ar_istore_n kd_S_readAllowed_1 (Nat.le_of_ble_eq_true rfl) rfl ?_
  dsimp only [List.set]
  exact loop (cg_nL c + 1) 0 (by omega) (by omega) _ _ _
/-- the first lots, as many as told -/
def ck_r3 (c : cS) (l : Nat) : Nat := 2 ^ (zn (cg_rl c l 2) (cg_ac c l)).toNat - 1
def ck_rule (c : cS) (i : Nat) : cS := zf (fun a l => (ck_take a l (ck_r3 a l)).1) c i
theorem ck_r3_lt {c : cS} (hK : cK c) (hA : cA c) {l : Nat} (hl : l < 6) : ck_r3 c l < 256 := by
  have h1 := hK.line hl
  have h2 := (hA l hl).1
  have h3 : (zn (cg_rl c l 2) (cg_ac c l)).toNat ≤ 8 := by unfold zn; split <;> omega
  have h4 := Nat.pow_le_pow_right (n := 2) (by decide) h3
  have h5 := Nat.pow_pos (n := (zn (cg_rl c l 2) (cg_ac c l)).toNat) (show 0 < 2 by decide)
  unfold ck_r3
  omega
theorem ck_rule_ok {c : cS} (hK : cK c) (hA : cA c) (hP : cP c) : ∀ i, i ≤ 6 → cK (ck_rule c i) ∧ cA (ck_rule c i) ∧ cP (ck_rule c i) := fun i hi => zf_invB (P := fun a => cK a ∧ cA a ∧ cP a) (N := 6) (fun a k hk h => by
  obtain ⟨h1, h2, h3, -⟩ := ck_take_ok h.1 h.2.1 h.2.2 (ck_r3 a k) hk
  exact ⟨h1, h2, h3⟩) ⟨hK, hA, hP⟩ i hi
theorem ck_rule_keep {β : Type} {P : cS → β} (h : ∀ c l k z, P (ck_move c l k z) = P c) (c : cS) (i : Nat) : P (ck_rule c i) = P c := zf_keep (g := fun a l => (ck_take a l (ck_r3 a l)).1) (P := P) (fun a k => ck_take_keep h a k _) c i
set_option maxHeartbeats 1000000 in
set_option maxRecDepth 20000 in
theorem sp_S_allocateByRule {d : Nat} {x : am_C} {c : cS} {t : List am_C} {n : Nat} (hK : cK c) (hA : cA c) (hP : cP c) : am_W (d + 3) km_S_allocateByRule 0 [some (.ref 5), none, none] [] (hC x c t) n 0 0 (am_eq none (hC x (ck_rule c (cg_nL c)) t) n) := by
  obtain ⟨hT, hL⟩ := hK.nn
  have loop : ∀ (f i : Nat), i ≤ cg_nL c → cg_nL c - i < f → ∀ (w : Option Value), am_W (d + 3) km_S_allocateByRule 2 [some (.ref 5), some (.int (iI i)), w] [] (hC x (ck_rule c i) t) n 0 0 (am_eq none (hC x (ck_rule c (cg_nL c)) t) n) := by
    intro f
    induction f with
    | zero => intro i h1 h2 w; omega
    | succ f ih =>
      intro i h1 h2 w
      obtain ⟨r1, r2, r3⟩ := ck_rule_ok hK hA hP i (by omega)
      have eL : cg_nL (ck_rule c i) = cg_nL c := ck_rule_keep (P := fun c => cg_nL c) (fun _ _ _ _ => rfl) c i
      refine ar_iload_n kd_S_allocateByRule_2 rfl ?_
      refine ar_aload_n kd_S_allocateByRule_3 rfl ?_
      refine ar_get (ci := 4) (k := 2) kd_S_allocateByRule_4 rfl kw_138 (by decide) rfl rfl ?_
      refine ar_get (ci := 2) (k := 0) kd_S_allocateByRule_7 rfl kw_88 (by decide) rfl rfl ?_
      refine az_icmp_ge (tg := 51) kd_S_allocateByRule_10 (by decide) (fun q1 => ?_) (fun q1 => ?_)
      · obtain rfl : i = cg_nL c := by omega
        refine ar_return kd_S_allocateByRule_51 rfl (Nat.le_of_ble_eq_true rfl) (Nat.le_of_ble_eq_true rfl) ?_
        exact ⟨rfl, rfl, rfl⟩
      · have g1 := r1.line (l := i) (by omega)
        have g2 := (r2 i (by omega)).1
        have hz : 0 ≤ (zn (cg_rl (ck_rule c i) i 2) (cg_ac (ck_rule c i) i)) ∧ (zn (cg_rl (ck_rule c i) i 2) (cg_ac (ck_rule c i) i)) ≤ 8 := by unfold zn; split <;> omega
        have ez : (zn (cg_rl (ck_rule c i) i 2) (cg_ac (ck_rule c i) i)) = (((zn (cg_rl (ck_rule c i) i 2) (cg_ac (ck_rule c i) i)).toNat : Nat) : Int) := (Int.toNat_of_nonneg hz.1).symm
        have hpp := Nat.pow_pos (n := (zn (cg_rl (ck_rule c i) i 2) (cg_ac (ck_rule c i) i)).toNat) (show 0 < 2 by decide)
        refine ar_aload_n kd_S_allocateByRule_13 rfl ?_
        refine ar_get (ci := 4) (k := 2) kd_S_allocateByRule_14 rfl kw_138 (by decide) rfl rfl ?_
        refine ar_get (ci := 2) (k := 4) kd_S_allocateByRule_17 rfl kw_100 (by decide) rfl rfl ?_
        refine ar_iload_n kd_S_allocateByRule_20 rfl ?_
        refine az_aald kd_S_allocateByRule_21 rfl rfl (by omega) (if_pos (by omega)) ?_
        refine ar_iconst kd_S_allocateByRule_22 ?_
        refine az_iald kd_S_allocateByRule_23 (hr_rl (by omega)) (k := 2) rfl (by omega) ?_
        refine ar_aload_n kd_S_allocateByRule_24 rfl ?_
        refine ar_get (ci := 4) (k := 4) kd_S_allocateByRule_25 rfl kw_140 (by decide) rfl rfl ?_
        refine ar_iload_n kd_S_allocateByRule_28 rfl ?_
        refine az_iald kd_S_allocateByRule_29 rfl rfl (by omega) ?_
        refine ar_min kd_S_allocateByRule_30 kw_466 kw_218 kw_13 kw_219 rfl (Nat.le_of_ble_eq_true rfl) (Nat.zero_le _) (Nat.zero_le _) ?_
        rw [ii_min (by omega) (by omega)]
        refine ar_istore_n kd_S_allocateByRule_33 (Nat.le_of_ble_eq_true rfl) rfl ?_
        dsimp only [List.set]
        refine ar_aload_n kd_S_allocateByRule_34 rfl ?_
        refine ar_iload_n kd_S_allocateByRule_35 rfl ?_
        refine ar_iconst kd_S_allocateByRule_36 ?_
        refine ar_iload_n kd_S_allocateByRule_37 rfl ?_
        refine ar_ishl kd_S_allocateByRule_38 ?_
        rw [show iI (zn (cg_rl (ck_rule c i) i 2) (cg_ac (ck_rule c i) i)) = iI (((zn (cg_rl (ck_rule c i) i 2) (cg_ac (ck_rule c i) i)).toNat : Nat) : Int) from congrArg iI ez, ib_shl (by omega)]
        refine ar_iconst kd_S_allocateByRule_39 ?_
        refine az_isub kd_S_allocateByRule_40 ?_
        rw [show ((2 ^ (zn (cg_rl (ck_rule c i) i 2) (cg_ac (ck_rule c i) i)).toNat : Nat) : Int) - 1 = ((ck_r3 (ck_rule c i) i : Nat) : Int) by unfold ck_r3; omega]
        refine az_callv (z := km_S_take) (As := [_, _]) (ci := 4) kd_S_allocateByRule_41 kw_467 kw_469 rfl ks_S_take kz_S_take rfl rfl rfl rfl rfl (Nat.le_of_ble_eq_true rfl) (Nat.le_of_ble_eq_true rfl) rfl (sp_S_take (by omega) (ck_r3_lt r1 r2 (by omega)) r1 r2 r3) ?_
        refine ar_pop kd_S_allocateByRule_44 rfl ?_
        refine az_iinc kd_S_allocateByRule_45 rfl rfl ?_
        dsimp only [List.set]
        refine ar_goto (tg := 2) kd_S_allocateByRule_48 (by decide) ?_
        exact ih (i + 1) (by omega) (by omega) _
  refine ar_iconst kd_S_allocateByRule_0 ?_
  refine ar_istore_n kd_S_allocateByRule_1 (Nat.le_of_ble_eq_true rfl) rfl ?_
  dsimp only [List.set]
  exact loop (cg_nL c + 1) 0 (by omega) (by omega) _
def ck_rbs : Nat → cS → cS
  | 0, c => c
  | i + 1, c => ck_rbs i (cs_rb c (zu (cg_rb c) i (cg_rb c (i + 1) + ck_lb c i (cg_nT c))))
def ck_rb0 (c : cS) : cS := cs_rb c (zu (cg_rb c) (cg_nL c) 0)
set_option maxHeartbeats 1000000 in
set_option maxRecDepth 20000 in
theorem sp_S_readBounds {d : Nat} {x : am_C} {c : cS} {t : List am_C} {n : Nat} (hK : cK c) (hG : cG c) : am_W (d + 4) km_S_readBounds 0 [some (.ref 5), none] [] (hC x c t) n 0 0 (am_eq none (hC x (ck_rbs (cg_nL c) (ck_rb0 c)) t) n) := by
  obtain ⟨hT, hL⟩ := hK.nn
  have loop : ∀ i : Nat, ∀ (c1 : cS), cK c1 → cG c1 → i ≤ 6 → ck_rbs (cg_nL c) (ck_rb0 c) = ck_rbs i c1 → am_W (d + 4) km_S_readBounds 23 [some (.ref 5), some (.int (iI ((i : Int) - 1)))] [] (hC x c1 t) n 0 0 (am_eq none (hC x (ck_rbs (cg_nL c) (ck_rb0 c)) t) n) := by
    intro i
    induction i with
    | zero =>
      intro c1 hK1 hG1 hi e0
      refine ar_iload_n kd_S_readBounds_23 rfl ?_
      refine az_if_lt (tg := 56) kd_S_readBounds_24 (by decide) (fun q1 => ?_) (fun q1 => absurd (by omega) q1)
      refine ar_return kd_S_readBounds_56 rfl (Nat.le_of_ble_eq_true rfl) (Nat.le_of_ble_eq_true rfl) ?_
      exact ⟨rfl, by rw [e0]; rfl, rfl⟩
    | succ i ih =>
      intro c1 hK1 hG1 hi e0
      rw [show ((i + 1 : Nat) : Int) - 1 = (i : Int) by omega]
      refine ar_iload_n kd_S_readBounds_23 rfl ?_
      refine az_if_lt (tg := 56) kd_S_readBounds_24 (by decide) (fun q1 => absurd q1 (by omega)) (fun q1 => ?_)
      refine ar_aload_n kd_S_readBounds_27 rfl ?_
      refine ar_get (ci := 4) (k := 7) kd_S_readBounds_28 rfl kw_143 (by decide) rfl rfl ?_
      refine ar_iload_n kd_S_readBounds_31 rfl ?_
      refine ar_aload_n kd_S_readBounds_32 rfl ?_
      refine ar_get (ci := 4) (k := 7) kd_S_readBounds_33 rfl kw_143 (by decide) rfl rfl ?_
      refine ar_iload_n kd_S_readBounds_36 rfl ?_
      refine ar_iconst kd_S_readBounds_37 ?_
      refine az_iadd kd_S_readBounds_38 ?_
      refine az_iald kd_S_readBounds_39 rfl (k := i + 1) rfl (by omega) ?_
      refine ar_aload_n kd_S_readBounds_40 rfl ?_
      refine ar_get (ci := 4) (k := 0) kd_S_readBounds_41 rfl kw_135 (by decide) rfl rfl ?_
      refine ar_iload_n kd_S_readBounds_44 rfl ?_
      refine az_callv (z := km_F_lineBound) (As := [_]) (ci := 1) kd_S_readBounds_45 kw_461 kw_210 rfl ks_F_lineBound kz_F_lineBound rfl rfl rfl rfl rfl (Nat.le_of_ble_eq_true rfl) (Nat.le_of_ble_eq_true rfl) rfl (sp_F_lineBound (by omega) hK1 hG1) ?_
      refine az_iadd kd_S_readBounds_48 ?_
      refine az_iast kd_S_readBounds_49 rfl rfl rfl (by omega) ?_
      rw [hw_rb]
      refine az_iinc kd_S_readBounds_50 rfl rfl ?_
      dsimp only [List.set]
      refine ar_goto (tg := 23) kd_S_readBounds_53 (by decide) ?_
      exact ih _ hK1 hG1 (by omega) e0
  refine ar_aload_n kd_S_readBounds_0 rfl ?_
  refine ar_get (ci := 4) (k := 7) kd_S_readBounds_1 rfl kw_143 (by decide) rfl rfl ?_
  refine ar_aload_n kd_S_readBounds_4 rfl ?_
  refine ar_get (ci := 4) (k := 2) kd_S_readBounds_5 rfl kw_138 (by decide) rfl rfl ?_
  refine ar_get (ci := 2) (k := 0) kd_S_readBounds_8 rfl kw_88 (by decide) rfl rfl ?_
  refine ar_iconst kd_S_readBounds_11 ?_
  refine az_iast kd_S_readBounds_12 rfl rfl (k := cg_nL c) rfl (by omega) ?_
  rw [hw_rb]
  refine ar_aload_n kd_S_readBounds_13 rfl ?_
  refine ar_get (ci := 4) (k := 2) kd_S_readBounds_14 rfl kw_138 (by decide) rfl rfl ?_
  refine ar_get (ci := 2) (k := 0) kd_S_readBounds_17 rfl kw_88 (by decide) rfl rfl ?_
  refine ar_iconst kd_S_readBounds_20 ?_
  refine az_isub kd_S_readBounds_21 ?_
  refine ar_istore_n kd_S_readBounds_22 (Nat.le_of_ble_eq_true rfl) rfl ?_
  dsimp only [List.set]
  exact loop (cg_nL c) (ck_rb0 c) hK hG (by omega) rfl
def ck_kp (c : cS) (i : Nat) : cS := zf (fun a j => cs_be a (zu (cg_be a) j (cg_tr a j))) c i
def ck_keep (c : cS) (z : Int) : cS := ck_kp (cs_bc c z) (cg_nL c)
theorem ck_kp_keep {β : Type} {P : cS → β} (h : ∀ c v, P (cs_be c v) = P c) (c : cS) (i : Nat) : P (ck_kp c i) = P c := zf_keep (g := fun a j => cs_be a (zu (cg_be a) j (cg_tr a j))) (P := P) (fun a k => h _ _) c i
set_option maxHeartbeats 1000000 in
set_option maxRecDepth 20000 in
theorem sp_S_keep {d : Nat} {x : am_C} {c : cS} {t : List am_C} {n : Nat} {z : Int} (hK : cK c) : am_W d km_S_keep 0 [some (.ref 5), some (.int (iI z)), none] [] (hC x c t) n 0 0 (am_eq none (hC x (ck_keep c z) t) n) := by
  obtain ⟨hT, hL⟩ := hK.nn
  have loop : ∀ (f i : Nat), i ≤ cg_nL c → cg_nL c - i < f → am_W d km_S_keep 7 [some (.ref 5), some (.int (iI z)), some (.int (iI i))] [] (hC x (ck_kp (cs_bc c z) i) t) n 0 0 (am_eq none (hC x (ck_keep c z) t) n) := by
    intro f
    induction f with
    | zero => intro i h1 h2; omega
    | succ f ih =>
      intro i h1 h2
      have eL : cg_nL (ck_kp (cs_bc c z) i) = cg_nL c := ck_kp_keep (P := fun c => cg_nL c) (fun _ _ => rfl) (cs_bc c z) i
      refine ar_iload_n kd_S_keep_7 rfl ?_
      refine ar_aload_n kd_S_keep_8 rfl ?_
      refine ar_get (ci := 4) (k := 2) kd_S_keep_9 rfl kw_138 (by decide) rfl rfl ?_
      refine ar_get (ci := 2) (k := 0) kd_S_keep_12 rfl kw_88 (by decide) rfl rfl ?_
      refine az_icmp_ge (tg := 36) kd_S_keep_15 (by decide) (fun q1 => ?_) (fun q1 => ?_)
      · obtain rfl : i = cg_nL c := by omega
        refine ar_return kd_S_keep_36 rfl (Nat.le_of_ble_eq_true rfl) (Nat.le_of_ble_eq_true rfl) ?_
        exact ⟨rfl, rfl, rfl⟩
      · refine ar_aload_n kd_S_keep_18 rfl ?_
        refine ar_get (ci := 4) (k := 6) kd_S_keep_19 rfl kw_142 (by decide) rfl rfl ?_
        refine ar_iload_n kd_S_keep_22 rfl ?_
        refine ar_aload_n kd_S_keep_23 rfl ?_
        refine ar_get (ci := 4) (k := 5) kd_S_keep_24 rfl kw_141 (by decide) rfl rfl ?_
        refine ar_iload_n kd_S_keep_27 rfl ?_
        refine az_iald kd_S_keep_28 rfl rfl (by omega) ?_
        refine az_iast kd_S_keep_29 rfl rfl rfl (by omega) ?_
        rw [hw_be]
        refine az_iinc kd_S_keep_30 rfl rfl ?_
        dsimp only [List.set]
        refine ar_goto (tg := 7) kd_S_keep_33 (by decide) ?_
        exact ih (i + 1) (by omega) (by omega)
  refine ar_aload_n kd_S_keep_0 rfl ?_
  refine ar_iload_n kd_S_keep_1 rfl ?_
  refine ar_put (ci := 4) (k := 8) kd_S_keep_2 rfl kw_144 (by decide) rfl (Nat.le_of_ble_eq_true rfl) rfl (Nat.le_of_ble_eq_true rfl) rfl rfl rfl ?_
  refine ar_heap (hp_bc z) ?_
  refine ar_iconst kd_S_keep_5 ?_
  refine ar_istore_n kd_S_keep_6 (Nat.le_of_ble_eq_true rfl) rfl ?_
  dsimp only [List.set]
  exact loop (cg_nL c + 1) 0 (by omega) (by omega)
