/-! both solve alike -/
abbrev mX (m : mS) := (mg_nT m, mg_pl m, mg_gd m, mg_pc m, mg_un m, mg_nL m, mg_wi m, mg_ma m, mg_rl m, mg_tl m, mg_ba m, mg_ho m)
theorem lay_X (m : mS) (i : Nat) : mX (mk_lay m i) = mX m := mk_lay_keep (P := mX) (fun _ _ => rfl) (fun _ _ => rfl) m i
theorem pr1_X (m : mS) (i : Nat) : mX (mk_pr1 m i) = mX m := mk_pr1_keep (P := mX) (fun _ _ => rfl) m i
theorem sp_X (m : mS) (v : Nat → Int) : mX (ms_sp m v) = mX m := rfl
theorem lo_X (m : mS) : mX (mk_lo m) = mX m := by
  unfold mk_lo
  rw [sp_X, pr1_X, lay_X]
theorem pr1_re (m : mS) : ∀ n i, mg_re (mk_pr1 m n) i = if i < n then mg_pc m i else mg_re m i
  | 0, i => by
    rw [if_neg (Nat.not_lt_zero _)]
    rfl
  | n + 1, i => by
    have e : mg_re (mk_pr1 m (n + 1)) = zu (mg_re (mk_pr1 m n)) n (mg_pc (mk_pr1 m n) n) := rfl
    have e2 : mg_pc (mk_pr1 m n) = mg_pc m := mk_pr1_keep (P := fun m : mS => mg_pc m) (fun _ _ => rfl) m n
    rw [e, e2]
    by_cases w : i = n
    · rw [w, zu_s, if_pos (Nat.lt_succ_self _)]
    · rw [zu_n w, pr1_re m n i]
      by_cases v : i < n
      · rw [if_pos v, if_pos (by omega)]
      · rw [if_neg v, if_neg (by omega)]
theorem sp_re (m : mS) (v : Nat → Int) : mg_re (ms_sp m v) = mg_re m ∧ mg_ac (ms_sp m v) = mg_ac m ∧ mg_al (ms_sp m v) = mg_al m ∧ mg_sp (ms_sp m v) = v ∧ mg_se (ms_sp m v) = mg_se m ∧ mg_bs (ms_sp m v) = mg_bs m := ⟨rfl, rfl, rfl, rfl, rfl, rfl⟩
theorem lo_re (m : mS) (i : Nat) : mg_re (mk_lo m) i = if i < mg_nT m then mg_pc m i else mg_re m i := by
  have h2 : mg_re (mk_lay m (mg_nL m)) = mg_re m := mk_lay_keep (P := fun m : mS => mg_re m) (fun _ _ => rfl) (fun _ _ => rfl) m _
  have h3 : mg_pc (mk_lay m (mg_nL m)) = mg_pc m := mk_lay_keep (P := fun m : mS => mg_pc m) (fun _ _ => rfl) (fun _ _ => rfl) m _
  unfold mk_lo
  rw [(sp_re _ _).1, pr1_re, h2, h3]
theorem lo_sp (m : mS) : mg_sp (mk_lo m) 0 = 0 := by
  unfold mk_lo
  rw [(sp_re _ _).2.2.2.1, zu_s]
theorem lo_ac (m : mS) : mg_ac (mk_lo m) = mg_ac (mk_lay m (mg_nL m)) ∧ mg_al (mk_lo m) = mg_al (mk_lay m (mg_nL m)) := by
  unfold mk_lo
  rw [(sp_re _ _).2.1, (sp_re _ _).2.2.1]
  exact ⟨mk_pr1_keep (P := fun m : mS => mg_ac m) (fun _ _ => rfl) _ _, mk_pr1_keep (P := fun m : mS => mg_al m) (fun _ _ => rfl) _ _⟩
theorem lo_ok {c : cS} {m : mS} (h : rel c m) : mM (bc c) (mk_lo (ms_co m 0)) ∧ mE (mk_lo (ms_co m 0)) ∧ mVl (bc c) (mk_lo (ms_co m 0)) (fun _ => 0) 0 := by
  have hK := h.cK
  have hT := hK.nn.1
  have hL := hK.nn.2
  have hX := lo_X (ms_co m 0)
  simp only [mX, Prod.mk.injEq] at hX
  obtain ⟨x1, x2, x3, x4, x5, x6, x7, x8, x9, x10, x11, x12⟩ := hX
  obtain ⟨a1, a2⟩ := lo_ac (ms_co m 0)
  have c1 : mg_nL (ms_co m 0) = cg_nL c := h.nL
  have c2 : mg_nT (ms_co m 0) = cg_nT c := h.nT
  have c3 : mg_pc (ms_co m 0) = cg_pc c := h.pc
  have hlay := lay_rows (m := ms_co m 0) h rfl (cg_nL c) (Nat.le_refl _)
  rw [c1] at a1 a2
  refine ⟨⟨?_, ?_, fun l hl => ?_⟩, fun i hi => ?_, fun i hi => ?_, fun i hi => absurd hi (Nat.not_lt_zero _)⟩
  · rw [x6]; exact h.nL
  · rw [x1]; exact h.nT
  · have hl' : l < cg_nL c := hl
    obtain ⟨r1, r2⟩ := hlay l hl'
    obtain ⟨p1, p2, p3⟩ := rP_rg c l (cg_nT c)
    rw [a1, a2, x8, x9]
    refine ⟨r1, by rw [show mg_ma (ms_co m 0) = cg_lw c from h.ma]; rfl, h.rl hl' (by omega), h.rl hl' (by omega), h.rl hl' (by omega), fun k hk => ?_, fun j hj => ?_, h.r1 hl'⟩
    · have hk' : k < (rP c l (cg_nT c)).2 := hk
      refine (r2 k hk').trans ?_
      have := h.od.1 _ (p2 k hk').1
      rw [bc_al]
      omega
    · have hj' : j < cg_nT c := hj
      have := h.cost hl' (k := j) (by omega)
      refine Eq.trans ?_ this
      unfold mk_cost
      rw [x10, x2]
  · rw [lo_re, c2, c3]
    by_cases w : i < cg_nT c
    · rw [if_pos w]
      exact (h.cP.1.2 i (by omega)).2
    · rw [if_neg w]
      exact h.mE i hi
  · have e : i = 0 := by omega
    subst e
    refine ⟨fun j hj => ?_, lo_sp _⟩
    have hj' : j < cg_nT c := hj
    rw [lo_re, c2, c3, Nat.mul_zero, Nat.zero_add, if_pos hj']
    rfl
theorem sx_na {c : cS} {m : mS} (h : rel c m) {z : Int} (hz : 0 ≤ z ∧ z ≤ 40000) : decide (((2 ^ mk_na m (mg_nL m) : Nat) : Int) ≤ z) = decide (ck_sx c z) := by
  have e : mk_na m (mg_nL m) = ck_na c (cg_nL c) := by rw [h.nL]; exact h.na _ (Nat.le_refl _)
  have h0 := Int.natCast_nonneg (2 ^ ck_na c (cg_nL c))
  rw [e]
  refine decide_eq_decide.mpr ?_
  unfold ck_sx ck_ch
  by_cases q : (1000000 : Int) < ((2 ^ ck_na c (cg_nL c) : Nat) : Int)
  · rw [if_pos q]
    constructor
    · intro a; omega
    · intro a; omega
  · rw [if_neg q]
    exact ⟨fun a => ⟨h0, a⟩, fun a => a.2⟩
theorem rel_solve' {c : cS} {m m1 m2 : mS} (h : rel c m) {z : Int} {e : Bool} (he : e = decide (ck_sx c z)) (hX : mX m1 = mX m) (hC2 : mC m2 = mC (ms_ex m1 (if e = true then 1 else 0))) (hA : mA m2) (hE : mE m2) (hV : mVl (bc c) m2 (sO (bc c) e) (pb_nL (bc c))) : rel (ck_s4 c z) (mk_h3 m2 (pb_nL (bc c))) ∧ ck_tot (ck_s4 c z) = sZ (bc c) (sO (bc c) e) (pb_nL (bc c)) := by
  have hb := bc_ok h
  obtain ⟨r1, r2, r3, r4, r5⟩ := s4_rows h z
  rw [← he] at r1 r2 r5
  obtain ⟨k1, k2, k3⟩ := ck_s4_ok h.cK h.cA h.cP z
  refine ⟨?_, r5⟩
  have hT := h.cK.nn.1
  have hL := h.cK.nn.2
  obtain ⟨f1, f2, f3, f4, f5, f6, f7, f8, f9, f10, f11, f12, f13, f14, f15, f16⟩ := mC_eq hC2
  simp only [mX, Prod.mk.injEq] at hX
  obtain ⟨x1, x2, x3, x4, x5, x6, x7, x8, x9, x10, x11, x12⟩ := hX
  have hkeep : (mg_nT (mk_h3 m2 (pb_nL (bc c))), mg_pl (mk_h3 m2 (pb_nL (bc c))), mg_gd (mk_h3 m2 (pb_nL (bc c))), mg_pc (mk_h3 m2 (pb_nL (bc c))), mg_un (mk_h3 m2 (pb_nL (bc c))), mg_nL (mk_h3 m2 (pb_nL (bc c))), mg_wi (mk_h3 m2 (pb_nL (bc c))), mg_ma (mk_h3 m2 (pb_nL (bc c))), mg_rl (mk_h3 m2 (pb_nL (bc c))), mg_tl (mk_h3 m2 (pb_nL (bc c))), mg_ba (mk_h3 m2 (pb_nL (bc c))), mg_ex (mk_h3 m2 (pb_nL (bc c))), mg_al (mk_h3 m2 (pb_nL (bc c))), mg_ac (mk_h3 m2 (pb_nL (bc c))), mg_se (mk_h3 m2 (pb_nL (bc c))), mg_bs (mk_h3 m2 (pb_nL (bc c))), mg_re (mk_h3 m2 (pb_nL (bc c)))) = mU m2 := mk_h3_keep (P := mU) (fun _ _ => rfl) m2 _
  simp only [mU, Prod.mk.injEq] at hkeep
  obtain ⟨g1, g2, g3, g4, g5, g6, g7, g8, g9, g10, g11, g12, g13, g14, g15, g16, g17⟩ := hkeep
  have hmT : mg_nT m2 = cg_nT c := f2.trans (x1.trans h.nT)
  have hho : ∀ l k, l < 6 → k < 8 → mg_ho (mk_h3 m2 (pb_nL (bc c))) (8 * l + k) = cg_gi (ck_s4 c z) l k := by
    intro l k hl hk
    rw [h3_ho m2 (by rw [hmT]; exact hT) _ _ _ hk, r1, hmT]
    by_cases w : l < pb_nL (bc c) ∧ k < cg_nT c
    · rw [if_pos w, gR_lt (show l < cg_nL c from w.1)]
      exact hV.2 l w.1 k w.2
    · rw [if_neg w]
      have e1 : mg_ho m2 (8 * l + k) = cg_gi c l k := by
        rw [f13]
        refine Eq.trans ?_ (h.ho hl hk)
        show mg_ho m1 (8 * l + k) = _
        rw [x12]
      have w2 : pb_nL (bc c) ≤ l ∨ pb_nT (bc c) ≤ k := by
        rw [bc_nT]
        omega
      rw [e1, h.g0 w2]
      exact (gR_0 hb (sO (bc c) e) w2).symm
  simp only [cX, Prod.mk.injEq] at r3
  obtain ⟨c1, c2, c3, c4, c5, c6, c7, c8, c9, c10, c11, c12⟩ := r3
  generalize mk_h3 m2 (pb_nL (bc c)) = m' at g1 g2 g3 g4 g5 g6 g7 g8 g9 g10 g11 g12 g13 g14 g15 g16 g17 hho ⊢
  generalize ck_s4 c z = c' at r1 r2 r4 r5 k1 k2 k3 c1 c2 c3 c4 c5 c6 c7 c8 c9 c10 c11 c12 hho ⊢
  refine ⟨⟨k1, k3, k2, ?_, ?_⟩, ⟨?_, ?_, ?_, ?_, ?_, ?_, ?_, ?_⟩, ?_, ?_, fun l k hl hk => ?_, hho, fun l k hh => ?_, fun k => ?_, ?_, ⟨?_, ?_⟩, ?_, ?_⟩
  · unfold mA
    rw [g13, g14, g15, g16]
    exact hA
  · unfold mE
    rw [g17]
    exact hE
  · rw [g1, c1]; exact hmT
  · rw [g6, c7]; exact f7.trans (x6.trans h.nL)
  · rw [g2, c2]; exact f3.trans (x2.trans h.pl)
  · rw [g3, c3]; exact f4.trans (x3.trans h.gd)
  · rw [g5, c4]; exact f6.trans (x5.trans h.un)
  · rw [g4, c5]; exact f5.trans (x4.trans h.pc)
  · rw [g7, c8]; exact f8.trans (x7.trans h.wi)
  · rw [g8, c9]; exact f9.trans (x8.trans h.ma)
  · rw [g9, c7, c11, f10]
    have e1 : mg_rl (ms_ex m1 (if e = true then 1 else 0)) = mg_rl m := x9
    rw [e1]
    exact h.2.2.1
  · rw [g10, c7, c12, f11]
    have e1 : mg_tl (ms_ex m1 (if e = true then 1 else 0)) = mg_tl m := x10
    rw [e1]
    exact h.2.2.2.1
  · rw [g11, f12]
    have e1 : mg_ba (ms_ex m1 (if e = true then 1 else 0)) = mg_ba m := x11
    rw [e1, h.ba hl hk]
    unfold ck_bar
    rw [c10]
  · rw [c7, c1] at hh
    rw [r1]
    exact gR_0 hb (sO (bc c) e) hh
  · rw [r2, c5, c7, r1]
    exact gR_sum (bc c) (sO (bc c) e) k
  · rw [c1, c6]
    refine cOd_of h.od ?_ ?_
    · rw [g5]; exact f6.trans x5
    · rw [g2]; exact f3.trans x2
  · rw [g12, r4, f14, he]
    show (if decide (ck_sx c z) = true then (1 : Int) else 0) = zb (ck_sx c z)
    by_cases q : ck_sx c z
    · rw [decide_eq_true q, if_pos rfl, show zb (ck_sx c z) = 1 from if_pos q]
    · rw [decide_eq_false q, if_neg (by decide), show zb (ck_sx c z) = 0 from if_neg q]
  · rw [r4]
    unfold zb
    split
    · exact Or.inr rfl
    · exact Or.inl rfl
  · rw [c7, c11]; exact h.2.2.2.2.2.2.2.2.2.2.1
  · rw [c10]; exact h.2.2.2.2.2.2.2.2.2.2.2
theorem rel_solve {c : cS} {m m2 : mS} (h : rel c m) {z : Int} {e : Bool} (he : e = decide (ck_sx c z)) (hC2 : mC m2 = mC (ms_ex (mk_lo (ms_co m 0)) (if e = true then 1 else 0))) (hA : mA m2) (hE : mE m2) (hV : mVl (bc c) m2 (sO (bc c) e) (pb_nL (bc c))) : rel (ck_s4 c z) (mk_h3 m2 (pb_nL (bc c))) ∧ ck_tot (ck_s4 c z) = sZ (bc c) (sO (bc c) e) (pb_nL (bc c)) := rel_solve' (m1 := mk_lo (ms_co m 0)) h he ((lo_X (ms_co m 0)).trans rfl) hC2 hA hE hV
