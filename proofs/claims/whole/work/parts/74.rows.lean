/-! the rows of allowed lots, in the class and in the reference -/
/-- the places of the order whose lots the line l may have, and how many, among the first k -/
def rP (c : cS) (l : Nat) : Nat → (Nat → Nat) × Nat
  | 0 => (fun _ => 0, 0)
  | k + 1 => if ck_all c l (cg_od c k).toNat then (zN (rP c l k).1 (rP c l k).2 k, (rP c l k).2 + 1) else rP c l k
theorem rP_rg (c : cS) (l : Nat) : ∀ k, (rP c l k).2 ≤ k ∧ (∀ j, j < (rP c l k).2 → (rP c l k).1 j < k ∧ ck_all c l (cg_od c ((rP c l k).1 j)).toNat) ∧ ∀ i j, i < j → j < (rP c l k).2 → (rP c l k).1 i < (rP c l k).1 j
  | 0 => ⟨Nat.le_refl _, fun j hj => absurd hj (Nat.not_lt_zero _), fun i j _ hj => absurd hj (Nat.not_lt_zero _)⟩
  | k + 1 => by
    obtain ⟨h1, h2, h3⟩ := rP_rg c l k
    by_cases q : ck_all c l (cg_od c k).toNat
    · have e : rP c l (k + 1) = (zN (rP c l k).1 (rP c l k).2 k, (rP c l k).2 + 1) := if_pos q
      rw [e]
      refine ⟨by show (rP c l k).2 + 1 ≤ k + 1; omega, fun j hj => ?_, fun i j hi hj => ?_⟩
      · have hj' : j < (rP c l k).2 + 1 := hj
        show zN (rP c l k).1 (rP c l k).2 k j < k + 1 ∧ ck_all c l (cg_od c (zN (rP c l k).1 (rP c l k).2 k j)).toNat
        by_cases w : j = (rP c l k).2
        · rw [w, zN_s]
          exact ⟨Nat.lt_succ_self _, q⟩
        · rw [zN_n w]
          have := h2 j (by omega)
          exact ⟨by omega, this.2⟩
      · have hj' : j < (rP c l k).2 + 1 := hj
        show zN (rP c l k).1 (rP c l k).2 k i < zN (rP c l k).1 (rP c l k).2 k j
        rw [zN_n (by omega)]
        by_cases w : j = (rP c l k).2
        · rw [w, zN_s]
          exact (h2 i (by omega)).1
        · rw [zN_n w]
          exact h3 i j hi (by omega)
    · have e : rP c l (k + 1) = rP c l k := if_neg q
      rw [e]
      exact ⟨by omega, fun j hj => ⟨Nat.lt_succ_of_lt (h2 j hj).1, (h2 j hj).2⟩, h3⟩
/-- the numbers of a state -/
def bc (c : cS) : pB := (fun l j => (cg_od c ((rP c l (cg_nT c)).1 j)).toNat, fun l => (rP c l (cg_nT c)).2, cg_lw c, fun l => cg_rl c l 1, fun l => cg_rl c l 3, fun l => cg_rl c l 2, ck_cost c, cg_pc c, cg_nL c, cg_nT c)
theorem bc_al (c : cS) (l j : Nat) : pb_al (bc c) l j = (cg_od c ((rP c l (cg_nT c)).1 j)).toNat := rfl
theorem bc_ac (c : cS) (l : Nat) : pb_ac (bc c) l = (rP c l (cg_nT c)).2 := rfl
theorem bc_nL (c : cS) : pb_nL (bc c) = cg_nL c := rfl
theorem bc_nT (c : cS) : pb_nT (bc c) = cg_nT c := rfl
theorem od_inj {m : mS} {n : Nat} {od : Nat → Int} (h : cOd m n od) {i j : Nat} (hi : i < n) (hj : j < n) (e : (od i).toNat = (od j).toNat) : i = j := by
  rcases Nat.lt_trichotomy i j with w | w | w
  · have := h.2.1 i j w hj
    rw [e] at this
    exact absurd this bf_irr
  · exact w
  · have := h.2.1 j i w hi
    rw [e] at this
    exact absurd this bf_irr
theorem bc_ok {c : cS} {m : mS} (h : rel c m) : bOK (bc c) := by
  have hK := h.cK
  have hT := hK.nn.1
  have hL := hK.nn.2
  refine ⟨fun l hl => ?_, fun j hj => ?_, hL, hT⟩
  · have hl' : l < cg_nL c := hl
    obtain ⟨r1, r2, r3⟩ := rP_rg c l (cg_nT c)
    refine ⟨?_, (hK.line (by omega)).2.1.1, fun k hk => ?_, fun k k' hk hk' e => ?_, fun j hj => ?_⟩
    · rw [bc_ac]; omega
    · rw [bc_ac] at hk
      rw [bc_al, bc_nT]
      have := h.od.1 _ (r2 k hk).1
      omega
    · rw [bc_ac] at hk hk'
      rw [bc_al, bc_al] at e
      have e2 := od_inj h.od (r2 k hk).1 (r2 k' hk').1 e
      rcases Nat.lt_trichotomy k k' with w | w | w
      · have := r3 k k' w hk'
        omega
      · exact w
      · have := r3 k' k w hk
        omega
    · have hj' : j < cg_nT c := hj
      exact ck_cost_rg hK (by omega) (by omega)
  · have hj' : j < cg_nT c := hj
    exact (h.cP.1.2 j (by omega)).2.1
/-- the class reads them -/
theorem al_al (c : cS) (v : Nat → Nat → Int) : cg_al (cs_al c v) = v := rfl
theorem ac_ac (c : cS) (v : Nat → Int) : cg_ac (cs_ac c v) = v := rfl
theorem al_ac (c : cS) (v : Nat → Int) : cg_al (cs_ac c v) = cg_al c := rfl
abbrev cY (c : cS) := (cg_nT c, cg_gd c, cg_un c, cg_od c, cg_lg c, cg_rl c, cg_lb c)
theorem all_of {c c' : cS} (e : cY c' = cY c) (l k : Nat) : ck_all c' l k ↔ ck_all c l k := by
  simp only [cY, Prod.mk.injEq] at e
  obtain ⟨e1, e2, e3, e4, e5, e6, e7⟩ := e
  unfold ck_all ck_bar
  rw [e2, e3, e5, e6, e7]
theorem a2_rows {c c0 : cS} (e0 : cY c = cY c0) (l : Nat) : ∀ k, (ck_a2 c l k).2 = (rP c0 l k).2 ∧ (∀ j, j < (rP c0 l k).2 → cg_al (ck_a2 c l k).1 l j = cg_od c0 ((rP c0 l k).1 j)) ∧ ∀ l', l' ≠ l → cg_al (ck_a2 c l k).1 l' = cg_al c l'
  | 0 => ⟨rfl, fun j hj => absurd hj (Nat.not_lt_zero _), fun _ _ => rfl⟩
  | k + 1 => by
    obtain ⟨h1, h2, h3⟩ := a2_rows e0 l k
    have hY : cY (ck_a2 c l k).1 = cY c := ck_a2_keep (P := cY) (fun _ _ => rfl) c l k
    have hY0 := hY.trans e0
    have e : ck_a2 c l (k + 1) = ck_a1 l (ck_a2 c l k) k := rfl
    have hod : cg_od (ck_a2 c l k).1 = cg_od c0 := by
      simp only [cY, Prod.mk.injEq] at hY0
      exact hY0.2.2.2.1
    rw [e]
    unfold ck_a1
    rw [hod]
    by_cases q : ck_all c0 l (cg_od c0 k).toNat
    · have e2 : rP c0 l (k + 1) = (zN (rP c0 l k).1 (rP c0 l k).2 k, (rP c0 l k).2 + 1) := if_pos q
      rw [if_pos ((all_of hY0 l _).mpr q), e2]
      refine ⟨by show (ck_a2 c l k).2 + 1 = (rP c0 l k).2 + 1; rw [h1], fun j hj => ?_, fun l' hl' => ?_⟩
      · have hj' : j < (rP c0 l k).2 + 1 := hj
        show cg_al (cs_al (ck_a2 c l k).1 (zr (cg_al (ck_a2 c l k).1) l (zu (cg_al (ck_a2 c l k).1 l) (ck_a2 c l k).2 (cg_od c0 k)))) l j = cg_od c0 (zN (rP c0 l k).1 (rP c0 l k).2 k j)
        rw [al_al, zr_s, h1]
        by_cases w : j = (rP c0 l k).2
        · rw [w, zu_s, zN_s]
        · rw [zu_n w, zN_n w]
          exact h2 j (by omega)
      · show cg_al (cs_al (ck_a2 c l k).1 (zr (cg_al (ck_a2 c l k).1) l (zu (cg_al (ck_a2 c l k).1 l) (ck_a2 c l k).2 (cg_od c0 k)))) l' = cg_al c l'
        rw [al_al, zr_n hl']
        exact h3 l' hl'
    · have e2 : rP c0 l (k + 1) = rP c0 l k := if_neg q
      rw [if_neg (fun a => q ((all_of hY0 l _).mp a)), e2]
      exact ⟨h1, h2, h3⟩
theorem read_rows {c c0 : cS} (e0 : cY c = cY c0) : ∀ i l, l < i → cg_ac (ck_read c i) l = ((rP c0 l (cg_nT c0)).2 : Int) ∧ ∀ j, j < (rP c0 l (cg_nT c0)).2 → cg_al (ck_read c i) l j = cg_od c0 ((rP c0 l (cg_nT c0)).1 j)
  | 0, l, hl => absurd hl (Nat.not_lt_zero _)
  | i + 1, l, hl => by
    have e : ck_read c (i + 1) = ck_ra (ck_read c i) i := rfl
    have hY : cY (ck_read c i) = cY c := ck_read_keep (P := cY) (fun _ _ => rfl) (fun _ _ => rfl) c i
    have hT : cg_nT (ck_read c i) = cg_nT c0 := by
      have hY0 := hY.trans e0
      simp only [cY, Prod.mk.injEq] at hY0
      exact hY0.1
    obtain ⟨h1, h2, h3⟩ := a2_rows (hY.trans e0) i (cg_nT c0)
    have hac : cg_ac (ck_a2 (ck_read c i) i (cg_nT c0)).1 = cg_ac (ck_read c i) := ck_a2_keep (P := fun c => cg_ac c) (fun _ _ => rfl) _ _ _
    rw [e]
    unfold ck_ra
    rw [hT, ac_ac, al_ac]
    by_cases w : l = i
    · subst w
      rw [zu_s, h1]
      exact ⟨rfl, h2⟩
    · rw [zu_n w, h3 l w, hac]
      exact read_rows e0 i l (by omega)
/-- the reference lays them out -/
theorem mal_al (m : mS) (v w : Nat → Int) : mg_al (ms_ac (ms_al m v) w) = v := rfl
theorem mac_ac (m : mS) (v w : Nat → Int) : mg_ac (ms_ac (ms_al m v) w) = w := rfl
theorem ac_ac' (m : mS) (w : Nat → Int) : mg_ac (ms_ac m w) = w := rfl
theorem al_ac' (m : mS) (w : Nat → Int) : mg_al (ms_ac m w) = mg_al m := rfl
abbrev mY (m : mS) := (mg_nT m, mg_pl m, mg_gd m, mg_un m, mg_wi m, mg_rl m, mg_ba m)
theorem mall_of {m m' : mS} (e : mY m' = mY m) (l k : Nat) : mk_all m' k l ↔ mk_all m k l := by
  simp only [mY, Prod.mk.injEq] at e
  obtain ⟨e1, e2, e3, e4, e5, e6, e7⟩ := e
  unfold mk_all mk_p1
  rw [e3, e4, e5, e6, e7]
theorem rk_of {m m' : mS} (e : mY m' = mY m) (l j : Nat) : mk_rk m' l j = mk_rk m l j := by
  simp only [mY, Prod.mk.injEq] at e
  exact zs_congr j (fun k _ => zb_congr (bf_of e.2.2.2.1 e.2.1))
theorem at_of {m m' : mS} (e : mY m' = mY m) (k : Nat) : ∀ f l, mk_at m' k f l = mk_at m k f l
  | 0, _ => rfl
  | f + 1, l => by
    have e1 : mg_nT m' = mg_nT m := by
      simp only [mY, Prod.mk.injEq] at e
      exact e.1
    simp only [mk_at]
    rw [at_of e k f (l + 1), rk_of e, e1]
theorem od_of {m m' : mS} (e : mY m' = mY m) (k : Nat) : mk_od m' k = mk_od m k := by
  have e1 : mg_nT m' = mg_nT m := by
    simp only [mY, Prod.mk.injEq] at e
    exact e.1
  unfold mk_od
  rw [at_of e, e1]
theorem ma2_rows {c : cS} {m m0 : mS} (h : rel c m0) (e0 : mY m = mY m0) {l : Nat} (hl : l < cg_nL c) : ∀ k, k ≤ cg_nT c → mg_ac (mk_a2 m l k) l = ((rP c l k).2 : Int) ∧ (∀ j, j < (rP c l k).2 → mg_al (mk_a2 m l k) (8 * l + j) = cg_od c ((rP c l k).1 j)) ∧ (∀ l', l' ≠ l → mg_ac (mk_a2 m l k) l' = mg_ac m l') ∧ ∀ i, i < 8 * l → mg_al (mk_a2 m l k) i = mg_al m i
  | 0, _ => ⟨zu_s _ _ _, fun j hj => absurd hj (Nat.not_lt_zero _), fun _ hl' => zu_n hl', fun _ _ => rfl⟩
  | k + 1, hk => by
    obtain ⟨h1, h2, h3, h4⟩ := ma2_rows h e0 hl k (by omega)
    have hT := h.cK.nn.1
    have hY : mY (mk_a2 m l k) = mY m := mk_a2_keep (P := mY) (fun _ _ => rfl) (fun _ _ => rfl) m l k
    have hY0 := hY.trans e0
    have e : mk_a2 m l (k + 1) = mk_a1 l (mk_a2 m l k) k := rfl
    have hr := h.od.1 k (by omega)
    have hod : mk_od (mk_a2 m l k) k = (cg_od c k).toNat := (od_of hY0 k).trans (h.mod (by omega)).1
    have r1 := (rP_rg c l k).1
    rw [e]
    unfold mk_a1
    rw [hod]
    have ha : mk_all (mk_a2 m l k) (cg_od c k).toNat l ↔ ck_all c l (cg_od c k).toNat := (mall_of hY0 l _).trans (h.all hl (by omega))
    by_cases q : ck_all c l (cg_od c k).toNat
    · have e2 : rP c l (k + 1) = (zN (rP c l k).1 (rP c l k).2 k, (rP c l k).2 + 1) := if_pos q
      rw [if_pos (ha.mpr q), e2, h1, Int.toNat_natCast]
      refine ⟨?_, fun j hj => ?_, fun l' hl' => ?_, fun i hi => ?_⟩
      · show zu (mg_ac (mk_a2 m l k)) l (((rP c l k).2 : Int) + 1) l = _
        rw [zu_s]
        rfl
      rotate_left
      · show zu (mg_ac (mk_a2 m l k)) l (((rP c l k).2 : Int) + 1) l' = _
        rw [zu_n hl']
        exact h3 l' hl'
      · show zu (mg_al (mk_a2 m l k)) (8 * l + (rP c l k).2) ((cg_od c k).toNat : Int) i = _
        rw [zu_n (by omega)]
        exact h4 i hi
      have hj' : j < (rP c l k).2 + 1 := hj
      show zu (mg_al (mk_a2 m l k)) (8 * l + (rP c l k).2) ((cg_od c k).toNat : Int) (8 * l + j) = cg_od c (zN (rP c l k).1 (rP c l k).2 k j)
      by_cases w : j = (rP c l k).2
      · rw [w, zu_s, zN_s]
        omega
      · rw [zu_n (by omega), zN_n w]
        exact h2 j (by omega)
    · have e2 : rP c l (k + 1) = rP c l k := if_neg q
      rw [if_neg (fun a => q (ha.mp a)), e2]
      exact ⟨h1, h2, h3, h4⟩
theorem lay_rows {c : cS} {m m0 : mS} (h : rel c m0) (e0 : mY m = mY m0) : ∀ i, i ≤ cg_nL c → ∀ l, l < i → mg_ac (mk_lay m i) l = ((rP c l (cg_nT c)).2 : Int) ∧ ∀ j, j < (rP c l (cg_nT c)).2 → mg_al (mk_lay m i) (8 * l + j) = cg_od c ((rP c l (cg_nT c)).1 j)
  | 0, _, l, hl => absurd hl (Nat.not_lt_zero _)
  | i + 1, hi, l, hl => by
    have e : mk_lay m (i + 1) = mk_a2 (mk_lay m i) i (mg_nT (mk_lay m i)) := rfl
    have hY : mY (mk_lay m i) = mY m := mk_lay_keep (P := mY) (fun _ _ => rfl) (fun _ _ => rfl) m i
    have hT : mg_nT (mk_lay m i) = cg_nT c := by
      have hY0 := hY.trans e0
      simp only [mY, Prod.mk.injEq] at hY0
      exact hY0.1.trans h.nT
    have hTT := h.cK.nn.1
    obtain ⟨h1, h2, h3, h4⟩ := ma2_rows h (hY.trans e0) (show i < cg_nL c by omega) (cg_nT c) (Nat.le_refl _)
    rw [e, hT]
    by_cases w : l = i
    · subst w
      exact ⟨h1, h2⟩
    · have ih := lay_rows h e0 i (by omega) l (by omega)
      have r1 := (rP_rg c l (cg_nT c)).1
      rw [h3 l w]
      refine ⟨ih.1, fun j hj => ?_⟩
      rw [h4 _ (by omega)]
      exact ih.2 j hj
