/-! lines that let go, changes of stock -/
def relR (c : cS) (m : mS) : Prop := (mg_nT m = cg_nT c ∧ mg_nL m = cg_nL c ∧ mg_pl m = cg_pl c ∧ mg_gd m = cg_gd c ∧ mg_un m = cg_un c ∧ mg_pc m = cg_pc c ∧ mg_wi m = cg_lg c ∧ mg_ma m = cg_lw c) ∧
  (∀ l k, l < 6 → k < 4 → mg_rl m (4 * l + k) = if l < cg_nL c then cg_rl c l k else 0) ∧ (∀ l k, l < 6 → k < 8 → mg_tl m (8 * l + k) = if l < cg_nL c then cg_tl c l k else -1) ∧ (∀ l k, l < 6 → k < 8 → mg_ba m (8 * l + k) = iI (zb (ck_bar c l k))) ∧ (∀ l k, l < 6 → k < 8 → mg_ho m (8 * l + k) = cg_gi c l k) ∧
  (∀ l k, cg_nL c ≤ l ∨ cg_nT c ≤ k → cg_gi c l k = 0) ∧ (∀ k, cg_fr c k = cg_pc c k - zs (fun l => cg_gi c l k) (cg_nL c)) ∧ cOd m (cg_nT c) (cg_od c) ∧ (mg_ex m = cg_ex c ∧ (cg_ex c = 0 ∨ cg_ex c = 1)) ∧ (∀ l, l < cg_nL c → 1 ≤ cg_rl c l 1) ∧ ∀ l, l < 6 → ∃ s : Nat, s < 256 ∧ cg_lb c l = iI (s : Int)
/-- as rel, but the stock may be short -/
def relw (c : cS) (m : mS) : Prop := (cK c ∧ cI c ∧ cA c ∧ mA m ∧ mE m) ∧ relR c m
theorem rel.w {c : cS} {m : mS} (h : rel c m) : relw c m := ⟨⟨h.1.1, h.1.2.1.1, h.1.2.2⟩, h.2⟩
theorem relw.up {c : cS} {m : mS} (h : relw c m) (hf : ∀ k, k < 8 → 0 ≤ cg_fr c k) : rel c m := ⟨⟨h.1.1, ⟨h.1.2.1, hf⟩, h.1.2.2⟩, h.2⟩
abbrev cU (c : cS) := (cg_nT c, cg_pl c, cg_gd c, cg_un c, cg_pc c, cg_od c, cg_nL c, cg_lg c, cg_lw c, cg_lb c, cg_rl c, cg_tl c, cg_al c, cg_ac c, cg_tr c, cg_be c, cg_ex c)
abbrev mU (m : mS) := (mg_nT m, mg_pl m, mg_gd m, mg_pc m, mg_un m, mg_nL m, mg_wi m, mg_ma m, mg_rl m, mg_tl m, mg_ba m, mg_ex m, mg_al m, mg_ac m, mg_se m, mg_bs m, mg_re m)
theorem zs_cut {f : Nat → Int} {n : Nat} (h : ∀ j, n ≤ j → f j = 0) : ∀ N, n ≤ N → zs f N = zs f n
  | 0, hN => by
    have e : n = 0 := by omega
    rw [e]
  | N + 1, hN => by
    by_cases e : n = N + 1
    · rw [e]
    · have e2 : zs f (N + 1) = zs f N + f N := rfl
      rw [e2, zs_cut h N (by omega), h N (by omega)]
      omega
theorem relw_gi {c c' : cS} {m m' : mS} (h : relw c m) (he : cU c' = cU c) (hm : mU m' = mU m) (h1 : ∀ l k, l < 6 → k < 8 → mg_ho m' (8 * l + k) = cg_gi c' l k) (h2 : ∀ l k, cg_nL c ≤ l ∨ cg_nT c ≤ k → cg_gi c' l k = 0) (h3 : ∀ k, cg_fr c' k = cg_pc c k - zs (fun l => cg_gi c' l k) (cg_nL c)) (h4 : ∀ l k, l < 6 → k < 8 → 0 ≤ cg_gi c' l k ∧ cg_gi c' l k ≤ 500) : relw c' m' := by
  simp only [Prod.mk.injEq] at he hm
  obtain ⟨e1, e2, e3, e4, e5, e6, e7, e8, e9, e10, e11, e12, e13, e14, e15, e16, e17⟩ := he
  obtain ⟨f1, f2, f3, f4, f5, f6, f7, f8, f9, f10, f11, f12, f13, f14, f15, f16, f17⟩ := hm
  obtain ⟨⟨a1, a2, a3, a4, a5⟩, ⟨b1, b2, b3, b4, b5, b6, b7, b8⟩, c1, c2, c3, c4, c5, c6, c7, c8, c9, c10⟩ := h
  have hL := a1.1.2
  refine ⟨⟨?_, ?_, ?_, ?_, ?_⟩, ⟨?_, ?_, ?_, ?_, ?_, ?_, ?_, ?_⟩, ?_, ?_, fun l k hl hk => ?_, h1, ?_, ?_, ?_, ?_, ?_, ?_⟩
  · unfold cK
    rw [e1, e2, e3, e4, e6, e7, e8, e9, e11, e12]
    exact a1
  · refine ⟨h4, fun k hk => ?_⟩
    rw [h3 k, e5, zs_cut (f := fun l => cg_gi c' l k) (fun j hj => h2 j k (Or.inl hj)) 6 hL]
    exact ⟨by omega, (a2.2 k hk).2⟩
  · unfold cA
    rw [e13, e14, e15, e16]
    exact a3
  · unfold mA
    rw [f13, f14, f15, f16]
    exact a4
  · unfold mE
    rw [f17]
    exact a5
  · rw [e1, f1]; exact b1
  · rw [e7, f6]; exact b2
  · rw [e2, f2]; exact b3
  · rw [e3, f3]; exact b4
  · rw [e4, f5]; exact b5
  · rw [e5, f4]; exact b6
  · rw [e8, f7]; exact b7
  · rw [e9, f8]; exact b8
  · rw [e7, e11, f9]; exact c1
  · rw [e7, e12, f10]; exact c2
  · rw [f11, c3 l k hl hk]
    unfold ck_bar
    rw [e10]
  · rw [e7, e1]; exact h2
  · rw [e5, e7]; exact h3
  · rw [e1, e6]; exact cOd_of c7 f5 f2
  · rw [e17, f12]; exact c8
  · rw [e7, e11]; exact c9
  · rw [e10]; exact c10
theorem zr_ho (m : mS) (l : Nat) : ∀ n i, mg_ho (mk_zr m l n) i = if 8 * l ≤ i ∧ i < 8 * l + n then 0 else mg_ho m i
  | 0, i => by
    rw [if_neg (by omega)]
    rfl
  | n + 1, i => by
    have e : mg_ho (mk_zr m l (n + 1)) = zu (mg_ho (mk_zr m l n)) (8 * l + n) 0 := rfl
    rw [e]
    by_cases q : i = 8 * l + n
    · subst q
      rw [zu_s, if_pos (by omega)]
    · rw [zu_n q, zr_ho m l n i]
      by_cases w : 8 * l ≤ i ∧ i < 8 * l + n
      · rw [if_pos w, if_pos (by omega)]
      · rw [if_neg w, if_neg (by omega)]
theorem zs_row0 {F : Nat → Nat → Int} {l n k : Nat} (hl : l < n) (R : Nat → Int) : zs (fun i => zr F l R i k) n = zs (fun i => F i k) n + (R k - F l k) := by
  rw [← zs_upd (f := fun i => F i k) (v := R k) n hl]
  refine zs_congr n (fun i _ => ?_)
  by_cases e : i = l
  · subst e
    rw [zr_s, if_pos rfl]
  · rw [zr_n e, if_neg e]
theorem letGo_U (c : cS) (l : Nat) : cU (ck_letGo c l) = cU c := ck_letGo_keep (P := cU) (fun _ _ _ _ => rfl) c l
theorem zr_U (m : mS) (l k : Nat) : mU (mk_zr m l k) = mU m := mk_zr_keep (P := mU) (fun _ _ => rfl) m l k
theorem relw_letGo {c : cS} {m m' : mS} (h : relw c m) {l : Nat} (hl : l < cg_nL c) (hm : mU m' = mU m) (hh : ∀ l' k, l' < 6 → k < 8 → (l' ≠ l ∨ cg_nT c ≤ k) → mg_ho m' (8 * l' + k) = mg_ho m (8 * l' + k)) : relw (ck_letGo c l) (mk_zr m' l (cg_nT c)) := by
  have hg := h.2.2.2.2.2.2.1
  have hL := h.1.1.1
  obtain ⟨r1, r2⟩ := letGo_row (c := c) (l := l) (fun j hj => hg l j (Or.inr hj))
  refine relw_gi h (letGo_U c l) ((zr_U _ _ _).trans hm) (fun l' k hl' hk => ?_) (fun l' k hh' => ?_) (fun k => ?_) (fun l' k hl' hk => ?_)
  · rw [r1, zr_ho]
    by_cases e : l' = l
    · subst e
      rw [zr_s]
      by_cases w : k < cg_nT c
      · rw [if_pos (by omega)]
      · rw [if_neg (by omega), hh l' k hl' hk (Or.inr (by omega)), h.2.2.2.2.2.1 l' k hl' hk, hg l' k (Or.inr (by omega))]
    · rw [zr_n e, if_neg (by omega), hh l' k hl' hk (Or.inl e)]
      exact h.2.2.2.2.2.1 l' k hl' hk
  · rw [r1]
    by_cases e : l' = l
    · subst e
      rw [zr_s]
    · rw [zr_n e]
      exact hg l' k hh'
  · rw [r1, r2, zs_row0 hl]
    have := h.2.2.2.2.2.2.2.1 k
    show cg_fr c k + cg_gi c l k = _
    omega
  · rw [r1]
    by_cases e : l' = l
    · subst e
      rw [zr_s]
      omega
    · rw [zr_n e]
      exact h.1.2.1.1 l' k hl' hk
theorem rel_undo {c : cS} {m : mS} (h : rel c m) {l : Nat} (hl : l < cg_nL c) : rel (ck_letGo c l) (mk_zr (ms_co m 0) l (mg_nT m)) := by
  have hL := h.cK.nn.2
  rw [h.nT]
  refine (relw_letGo h.w hl (m' := ms_co m 0) rfl (fun _ _ _ _ _ => rfl)).up (fun k hk => ?_)
  have r2 := (letGo_row (c := c) (l := l) (fun j hj => h.g0 (Or.inr hj))).2
  rw [r2]
  have a1 := h.cP.2 k hk
  have a2 := (h.cP.1.1 l k (by omega) hk).1
  show 0 ≤ cg_fr c k + cg_gi c l k
  omega
/-- the stock is told anew -/
theorem relw_set {c : cS} {m : mS} (h : rel c m) {k : Nat} {z : Int} (hz : 0 ≤ z ∧ z ≤ 500) : relw (ck_set c k z) (mk_set m k z) := by
  refine ⟨⟨h.cK, ⟨h.cP.1.1, fun j hj => ?_⟩, h.cA, h.mA, h.mE⟩, ⟨h.nT, h.nL, h.pl, h.gd, h.un, ?_, h.wi, h.ma⟩, h.2.2.1, h.2.2.2.1, h.2.2.2.2.1, h.2.2.2.2.2.1, h.2.2.2.2.2.2.1, fun j => ?_, cOd_of h.od rfl rfl, h.ex, h.2.2.2.2.2.2.2.2.2.2⟩
  · have a := h.cP.1.2 j hj
    show (zu (cg_fr c) k (cg_fr c k + (z - cg_pc c k)) j + zs (fun l => cg_gi c l j) 6 = zu (cg_pc c) k z j) ∧ 0 ≤ zu (cg_pc c) k z j ∧ zu (cg_pc c) k z j ≤ 500
    by_cases e : j = k
    · subst e
      rw [zu_s, zu_s]
      omega
    · rw [zu_n e, zu_n e]
      exact a
  · show zu (mg_pc m) k z = zu (cg_pc c) k z
    rw [h.pc]
  · have a := h.fr j
    show zu (cg_fr c) k (cg_fr c k + (z - cg_pc c k)) j = zu (cg_pc c) k z j - zs (fun l => cg_gi c l j) (cg_nL c)
    by_cases e : j = k
    · subst e
      rw [zu_s, zu_s]
      omega
    · rw [zu_n e, zu_n e]
      exact a
theorem dn_no {k : Nat} {z : Int} {m : mS} (h : ¬ 0 < mk_hof m k - z) : ∀ (i : Nat) (s : Int), mk_dn k z i m s = (m, s)
  | 0, s => rfl
  | i + 1, s => by
    have e : mk_dn k z (i + 1) m s = if 0 < mk_hof m k - z ∧ mg_ho m (8 * i + k) ≠ 0 then mk_dn k z i (mk_up m i k z) (s + 1) else mk_dn k z i m s := rfl
    rw [e, if_neg (fun a => h a.1), dn_no h i s]
theorem relw.hof {c : cS} {m : mS} (h : relw c m) {k : Nat} (hk : k < 8) : mk_hof m k = zs (fun l => cg_gi c l k) (cg_nL c) := by
  have hL := h.1.1.1.2
  unfold mk_hof
  rw [h.2.1.2.1]
  exact zs_congr _ (fun l hl => h.2.2.2.2.2.1 l k (by omega) hk)
theorem rel_up {c : cS} {m : mS} (h : relw c m) {i k : Nat} {z : Int} (hi : i < cg_nL c) (hk : k < cg_nT c) (hz : cg_pc c k = z) (hf : cg_fr c k < 0) (hg : 0 < cg_gi c i k) : relw (ck_up c i k) (mk_up m i k z) ∧ cU (ck_up c i k) = cU c ∧ (∀ j, j ≠ k → cg_fr c j ≤ cg_fr (ck_up c i k) j ∨ 8 ≤ j) ∧ (0 ≤ cg_fr (ck_up c i k) k ∨ cg_gi (ck_up c i k) i k = 0) ∧ (∀ l, l ≠ i → cg_gi (ck_up c i k) l k = cg_gi c l k) := by
  have hL := h.1.1.1.2
  have hT := h.1.1.1.1
  have hg0 := h.2.2.2.2.2.2.1
  have hho := h.2.2.2.2.2.1
  have r3 : mg_rl m (4 * i + 3) = cg_rl c i 3 := by rw [h.2.2.1 i 3 (by omega) (by omega), if_pos hi]
  have hof : mk_hof m k - z = -cg_fr c k := by
    have := h.2.2.2.2.2.2.2.1 k
    rw [h.hof (by omega)]
    omega
  have hgb := h.1.2.1.1 i k (by omega) (by omega)
  have hho1 := hho i k (by omega) (by omega)
  unfold ck_up mk_up
  rw [r3]
  by_cases q : cg_rl c i 3 = 1
  · rw [if_pos q, if_pos q, h.2.1.1]
    obtain ⟨g1, g2⟩ := letGo_row (c := c) (l := i) (fun j hj => hg0 i j (Or.inr hj))
    refine ⟨relw_letGo h hi (m' := mk_u1 m i k z) rfl (fun l' j hl' hj hh => ?_), letGo_U c i, fun j hj => ?_, ?_, fun l hl => ?_⟩
    · show zu (mg_ho m) (8 * i + k) _ (8 * l' + j) = _
      rw [zu_n (by omega)]
    · by_cases w : 8 ≤ j
      · exact Or.inr w
      · refine Or.inl ?_
        rw [g2]
        have := (h.1.2.1.1 i j (by omega) (by omega)).1
        show cg_fr c j ≤ cg_fr c j + cg_gi c i j
        omega
    · rw [g1, zr_s]
      exact Or.inr rfl
    · rw [g1, zr_n hl]
  · rw [if_neg q, if_neg q]
    have g1 := gi_move c i k (-zn (cg_gi c i k) (-cg_fr c k))
    have g2 := fr_move c i k (-zn (cg_gi c i k) (-cg_fr c k))
    have hn : 0 ≤ zn (cg_gi c i k) (-cg_fr c k) ∧ zn (cg_gi c i k) (-cg_fr c k) ≤ cg_gi c i k ∧ (zn (cg_gi c i k) (-cg_fr c k) = cg_gi c i k ∨ zn (cg_gi c i k) (-cg_fr c k) = -cg_fr c k) := by
      unfold zn
      split <;> omega
    have e : mg_ho (mk_u1 m i k z) = zu (mg_ho m) (8 * i + k) (cg_gi c i k + -zn (cg_gi c i k) (-cg_fr c k)) := by
      show zu (mg_ho m) (8 * i + k) (mg_ho m (8 * i + k) - zn (mg_ho m (8 * i + k)) (mk_hof m k - z)) = _
      rw [hho1, hof]
      congr 1
    generalize zn (cg_gi c i k) (-cg_fr c k) = v at g1 g2 hn e ⊢
    have hc : ∀ l j, cg_gi (ck_move c i k (-v)) l j = if l = i ∧ j = k then cg_gi c i k + -v else cg_gi c l j := fun l j => by rw [g1, rl_upd]
    refine ⟨relw_gi h rfl rfl (fun l j hl hj => ?_) (fun l j hh => ?_) (fun j => ?_) (fun l j hl hj => ?_), rfl, fun j hj => ?_, ?_, fun l hl => ?_⟩
    · rw [hc, e]
      by_cases w : l = i ∧ j = k
      · rw [if_pos w, w.1, w.2, zu_s]
      · rw [if_neg w, zu_n (by omega)]
        exact hho l j hl hj
    · rw [hc, if_neg (by omega)]
      exact hg0 l j hh
    · have a := h.2.2.2.2.2.2.2.1 j
      rw [g1, g2, zs_row0 hi]
      by_cases w : j = k
      · subst w
        rw [zu_s, zu_s]
        omega
      · rw [zu_n w, zu_n w]
        omega
    · rw [hc]
      have := h.1.2.1.1 l j hl hj
      split <;> omega
    · rw [g2, zu_n hj]
      exact Or.inl (Int.le_refl _)
    · rw [hc, if_pos ⟨rfl, rfl⟩, g2, zu_s]
      omega
    · rw [hc, if_neg (fun a => hl a.1)]
theorem rel_dn {k : Nat} {z : Int} : ∀ (i : Nat) (c : cS) (m : mS) (s : Int), i ≤ cg_nL c → relw c m → cg_pc c k = z → k < cg_nT c → (∀ j, j < 8 → j ≠ k → 0 ≤ cg_fr c j) → (∀ l, i ≤ l → l < cg_nL c → 0 ≤ cg_fr c k ∨ cg_gi c l k = 0) → rel (ck_dn k i c s).1 (mk_dn k z i m s).1 ∧ (ck_dn k i c s).2 = (mk_dn k z i m s).2
  | 0, c, m, s, hi, h, hz, hk, h1, h2 => by
    have hT := h.1.1.1.1
    refine ⟨h.up (fun j hj => ?_), rfl⟩
    show 0 ≤ cg_fr c j
    by_cases e : j = k
    · subst e
      by_cases q : 0 ≤ cg_fr c j
      · exact q
      · have a := h.2.2.2.2.2.2.2.1 j
        rw [zs_zero (f := fun l => cg_gi c l j) _ (fun l hl => by
          rcases h2 l (Nat.zero_le _) hl with w | w
          · omega
          · exact w)] at a
        have := (h.1.2.1.2 j hj).2.1
        omega
    · exact h1 j hj e
  | i + 1, c, m, s, hi, h, hz, hk, h1, h2 => by
    have hL := h.1.1.1.2
    have hT := h.1.1.1.1
    have hof : mk_hof m k - z = -cg_fr c k := by
      have := h.2.2.2.2.2.2.2.1 k
      rw [h.hof (by omega)]
      omega
    have e1 : ck_dn k (i + 1) c s = if cg_fr c k < 0 then (if 0 < cg_gi c i k then ck_dn k i (ck_up c i k) (s + 1) else ck_dn k i c s) else (c, s) := rfl
    have e2 : mk_dn k z (i + 1) m s = if 0 < mk_hof m k - z ∧ mg_ho m (8 * i + k) ≠ 0 then mk_dn k z i (mk_up m i k z) (s + 1) else mk_dn k z i m s := rfl
    have hho := h.2.2.2.2.2.1 i k (by omega) (by omega)
    have hgb := h.1.2.1.1 i k (by omega) (by omega)
    rw [e1]
    by_cases q : cg_fr c k < 0
    · rw [if_pos q, e2]
      by_cases q2 : 0 < cg_gi c i k
      · rw [if_pos q2, if_pos ⟨by omega, by omega⟩]
        obtain ⟨u1, u2, u3, u4, u5⟩ := rel_up h (by omega) hk hz q q2
        simp only [Prod.mk.injEq] at u2
        refine rel_dn i _ _ (s + 1) (by rw [u2.2.2.2.2.2.2.1]; omega) u1 (by rw [u2.2.2.2.2.1]; exact hz) (by rw [u2.1]; exact hk) (fun j hj hjk => ?_) (fun l hl hl2 => ?_)
        · have a := h1 j hj hjk
          rcases u3 j hjk with w | w <;> omega
        · by_cases e : l = i
          · subst e
            exact u4
          · rw [u5 l e]
            rw [u2.2.2.2.2.2.2.1] at hl2
            rcases h2 l (by omega) hl2 with w | w
            · omega
            · exact Or.inr w
      · rw [if_neg q2, if_neg (by omega)]
        refine rel_dn i c m s (by omega) h hz hk h1 (fun l hl hl2 => ?_)
        by_cases e : l = i
        · subst e
          exact Or.inr (by omega)
        · exact h2 l (by omega) hl2
    · rw [if_neg q, dn_no (by omega)]
      refine ⟨h.up (fun j hj => ?_), rfl⟩
      by_cases e : j = k
      · subst e
        show 0 ≤ cg_fr c j
        omega
      · exact h1 j hj e
theorem rel_change {c : cS} {m : mS} (h : rel c m) {k : Nat} {z : Int} (hk : k < cg_nT c) (hz : 0 ≤ z ∧ z ≤ 500) : rel (ck_dn k (cg_nL c) (ck_set c k z) 0).1 (mk_dn k z (mg_nL m) (mk_set m k z) 0).1 ∧ (ck_dn k (cg_nL c) (ck_set c k z) 0).2 = (mk_dn k z (mg_nL m) (mk_set m k z) 0).2 := by
  rw [h.nL]
  refine rel_dn (cg_nL c) (ck_set c k z) (mk_set m k z) 0 (Nat.le_refl _) (relw_set h hz) (zu_s _ _ _) hk (fun j hj hjk => ?_) (fun l h1 h2 => ?_)
  · show 0 ≤ zu (cg_fr c) k (cg_fr c k + (z - cg_pc c k)) j
    rw [zu_n hjk]
    exact h.cP.2 j hj
  · have : l < cg_nL c := h2
    omega
