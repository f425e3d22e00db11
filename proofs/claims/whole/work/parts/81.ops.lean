/-! a call of the law's, on both sides -/
theorem up_co (m : mS) (i k : Nat) (z : Int) : mg_co (mk_up m i k z) = mg_co m := by
  unfold mk_up
  split
  · exact (mk_zr_keep (P := fun m : mS => mg_co m) (fun _ _ => rfl) _ _ _).trans rfl
  · rfl
theorem dn_co (k : Nat) (z : Int) : ∀ (i : Nat) (m : mS) (s : Int), mg_co (mk_dn k z i m s).1 = mg_co m
  | 0, _, _ => rfl
  | i + 1, m, s => by
    have e : mk_dn k z (i + 1) m s = if 0 < mk_hof m k - z ∧ mg_ho m (8 * i + k) ≠ 0 then mk_dn k z i (mk_up m i k z) (s + 1) else mk_dn k z i m s := rfl
    rw [e]
    split
    · rw [dn_co k z i, up_co]
    · exact dn_co k z i m s
theorem set_co (m : mS) (k : Nat) (z : Int) : mg_co (mk_set m k z) = 0 := rfl
theorem zr_co (m : mS) (l k : Nat) : mg_co (mk_zr (ms_co m 0) l k) = 0 := (mk_zr_keep (P := fun m : mS => mg_co m) (fun _ _ => rfl) _ _ _).trans rfl
/-- the reference's answer to a call that the class answered with the code r and what lies in o -/
def opM (x : am_C) (c : cS) (o : Nat → Int64) (n : Nat) (r : Int) : am_O → am_H → Nat → Prop := fun q h n2 => ∃ (v : Int32) (m : mS), q = .inl (some (.int v)) ∧ h = hC x c (hM m [am_la 1 o]) ∧ n2 = n ∧ rel c m ∧ mg_co m = r ∧ (r = 0 → o 0 = v.toInt64)
def opV (x : am_C) (c : cS) (o : Nat → Int64) (n : Nat) (r : Int) : am_O → am_H → Nat → Prop := fun q h n2 => ∃ m : mS, q = .inl none ∧ h = hC x c (hM m [am_la 1 o]) ∧ n2 = n ∧ rel c m ∧ mg_co m = r
def opZ (x : am_C) (c : cS) (o : Nat → Int64) (n : Nat) (r : Int) : am_O → am_H → Nat → Prop := fun q h n2 => ∃ (v : Int32) (m : mS), q = .inl (some (.int v)) ∧ h = hC x c (hM m [am_la 1 o]) ∧ n2 = n ∧ rel c m ∧ mg_co m = r ∧ (r = 0 → o 0 = if v = 0 then Int64.ofNat 0 else Int64.ofNat 1)
section OP
variable {d d' : Nat} {x : am_C} {c c' : cS} {m m' : mS} {o o' : Nat → Int64} {n n' : Nat} {z : am_Y} {ls : List (Option Value)} {r : Int}
theorem op_M {v : Int32} (w : am_W d z 0 ls [] (hC x c' (hM m [am_la 1 o'])) n' 0 0 (am_eq (some (.int v)) (hC x c' (hM m' [am_la 1 o'])) n')) (hd : d ≤ d') (hr : rel c' m') (hco : mg_co m' = r) (hv : r = 0 → o' 0 = v.toInt64) : am_W d' z 0 ls [] (hC x c' (hM m [am_la 1 o'])) n' 0 0 (opM x c' o' n' r) :=
  (am_deep w hd).imp (fun _ _ _ hq => ⟨v, m', hq.1, hq.2.1, hq.2.2, hr, hco, hv⟩)
theorem op_Z {v : Int32} (w : am_W d z 0 ls [] (hC x c' (hM m [am_la 1 o'])) n' 0 0 (am_eq (some (.int v)) (hC x c' (hM m' [am_la 1 o'])) n')) (hd : d ≤ d') (hr : rel c' m') (hco : mg_co m' = r) (hv : r = 0 → o' 0 = if v = 0 then Int64.ofNat 0 else Int64.ofNat 1) : am_W d' z 0 ls [] (hC x c' (hM m [am_la 1 o'])) n' 0 0 (opZ x c' o' n' r) :=
  (am_deep w hd).imp (fun _ _ _ hq => ⟨v, m', hq.1, hq.2.1, hq.2.2, hr, hco, hv⟩)
theorem op_V (w : am_W d z 0 ls [] (hC x c' (hM m [am_la 1 o'])) n' 0 0 (am_eq none (hC x c' (hM m' [am_la 1 o'])) n')) (hd : d ≤ d') (hr : rel c' m') (hco : mg_co m' = r) : am_W d' z 0 ls [] (hC x c' (hM m [am_la 1 o'])) n' 0 0 (opV x c' o' n' r) :=
  (am_deep w hd).imp (fun _ _ _ hq => ⟨m', hq.1, hq.2.1, hq.2.2, hr, hco⟩)
theorem up0 (o : Nat → Int64) (w : Int64) : vp_updL o 0 w 0 = w := if_pos rfl
/-- both sides: the code, the class's state behind it, what is put out -/
def opL (x : am_C) (c : cS) (m : mS) (o : Nat → Int64) (n : Nat) (L M : am_Y) (lL lM : List (Option Value)) (P : am_C → cS → (Nat → Int64) → Nat → Int → am_O → am_H → Nat → Prop) : Prop := ∃ (r : Int) (c' : cS) (o' : Nat → Int64) (n' : Nat), (0 ≤ r ∧ r ≤ 2) ∧ am_W 19 L 0 lL [] (hC x c (hM m [am_la 1 o])) n 0 0 (am_eq (some (.int (iI r))) (hC x c' (hM m [am_la 1 o'])) n') ∧ am_W 19 M 0 lM [] (hC x c' (hM m [am_la 1 o'])) n' 0 0 (P x c' o' n' r)
theorem op_lot (h : rel c m) (a1 a2 a3 a4 : Int32) : opL x c m o n km_L_lot km_M_lot [some (.ref 4), some (.int a1), some (.int a2), some (.int a3), some (.int a4), some (.ref 68), none] [some (.ref 50), some (.int a1), some (.int a2), some (.int a3), some (.int a4)] opM := by
  obtain ⟨p, rfl, hp⟩ := ii_of a1
  obtain ⟨g, rfl, hg⟩ := ii_of a2
  obtain ⟨z, rfl, hz⟩ := ii_of a3
  obtain ⟨u, rfl, hu⟩ := ii_of a4
  have hK := h.cK
  by_cases q : (0 ≤ p ∧ p ≤ 99) ∧ (0 ≤ g ∧ g ≤ 5) ∧ (0 ≤ z ∧ z ≤ 500) ∧ (0 ≤ u ∧ u ≤ 9999)
  · obtain ⟨q1, q2, q3, q4⟩ := q
    by_cases w : cg_nT c < 8
    · exact ⟨0, _, _, _, by decide, wr_lot_ok (am_deep (sp_A_lot (d := 0) hK w q1 q2 q3 q4) (by decide)), op_M (sp_M_lot (d := 0) h.mK (by rw [h.nT]; exact w) q1 q2 q3 q4) (by decide) (rel_lot h w q1 q2 q3 q4) rfl (fun _ => by rw [up0, h.nT])⟩
    · exact ⟨2, c, o, n + 1, by decide, wr_lot_x1 (am_deep (sp_A_lot_t1 (d := 0) hK w q1 q2 q3 q4) (by decide)), op_M (sp_M_lot_f2 (d := 0) h.mK (by have := hK.nn.1; rw [h.nT]; omega) q1 q2 q3 q4) (by decide) (rel_co h 2) rfl (fun e => absurd e (by decide))⟩
  · exact ⟨1, c, o, n + 1, by decide, wr_lot_x0 (am_deep (sp_A_lot_t0 (d := 0) hp hg hz hu hK q) (by decide)), op_M (sp_M_lot_f1 (d := 0) hp hg hz hu h.mK q) (by decide) (rel_co h 1) rfl (fun e => absurd e (by decide))⟩
theorem op_line (h : rel c m) (a1 a2 : Int32) : opL x c m o n km_L_line km_M_line [some (.ref 4), some (.int a1), some (.int a2), some (.ref 68), none] [some (.ref 50), some (.int a1), some (.int a2)] opM := by
  obtain ⟨g, rfl, hg⟩ := ii_of a1
  obtain ⟨z, rfl, hz⟩ := ii_of a2
  have hK := h.cK
  by_cases q : (0 ≤ g ∧ g ≤ 5) ∧ (1 ≤ z ∧ z ≤ 200)
  · obtain ⟨q1, q2⟩ := q
    by_cases w : cg_nL c < 6
    · exact ⟨0, _, _, _, by decide, wr_line_ok (am_deep (sp_A_line (d := 0) w q1 q2) (by decide)), op_M (sp_M_line (d := 0) h.mK (by rw [h.nL]; exact w) q1 q2) (by decide) (rel_line h w q1 q2) rfl (fun _ => by rw [up0, h.nL])⟩
    · exact ⟨2, c, o, n + 1, by decide, wr_line_x1 (am_deep (sp_A_line_t1 (d := 0) hK w q1 q2) (by decide)), op_M (sp_M_line_f2 (d := 0) h.mK (by have := hK.nn.2; rw [h.nL]; omega) q1 q2) (by decide) (rel_co h 2) rfl (fun e => absurd e (by decide))⟩
  · exact ⟨1, c, o, n + 1, by decide, wr_line_x0 (am_deep (sp_A_line_t0 (d := 0) hg hz hK q) (by decide)), op_M (sp_M_line_f1 (d := 0) hg hz h.mK q) (by decide) (rel_co h 1) rfl (fun e => absurd e (by decide))⟩
theorem nat_of {z : Int} {k : Nat} (h : 0 ≤ z ∧ z < (k : Int)) : ∃ j : Nat, z = (j : Int) ∧ j < k := ⟨z.toNat, by omega, by omega⟩
theorem op_rule (h : rel c m) (a1 a2 a3 : Int32) : opL x c m o n km_L_rule km_M_rule [some (.ref 4), some (.int a1), some (.int a2), some (.int a3), none] [some (.ref 50), some (.int a1), some (.int a2), some (.int a3)] opV := by
  obtain ⟨l, rfl, hl⟩ := ii_of a1
  obtain ⟨k, rfl, hk⟩ := ii_of a2
  obtain ⟨v, rfl, hv⟩ := ii_of a3
  have hK := h.cK
  by_cases q : 0 ≤ l ∧ l < (cg_nL c : Int)
  · have qm : 0 ≤ l ∧ l < (mg_nL m : Int) := by rw [h.nL]; exact q
    by_cases w : 0 ≤ k ∧ k < ((4 : Nat) : Int)
    · obtain ⟨l', rfl, hl'⟩ := nat_of q
      obtain ⟨k', rfl, hk'⟩ := nat_of w
      by_cases t : hs_least k' ≤ v ∧ v ≤ hs_most k'
      · exact ⟨0, _, _, _, by decide, wr_rule_ok (am_deep (sp_A_rule (d := 0) hK hl' hk' t) (by decide)), op_V (sp_M_rule (d := 0) h.mK (by rw [h.nL]; exact hl') hk' hv t) (by decide) (rel_rule h hl' hk' t) rfl⟩
      · exact ⟨2, c, o, n + 1, by decide, wr_rule_x0 (am_deep (sp_A_rule_t0b (d := 0) hK hl' hk' hv t) (by decide)), op_V (sp_M_rule_f2 (d := 0) hl hk hv h.mK qm (fun a => t (by rw [Int.toNat_natCast] at a; exact a.2.2))) (by decide) (rel_co h 2) rfl⟩
    · exact ⟨2, c, o, n + 1, by decide, wr_rule_x0 (am_deep (sp_A_rule_t0 (d := 0) hl hk hv hK q (fun a => w (by omega))) (by decide)), op_V (sp_M_rule_f2 (d := 0) hl hk hv h.mK qm (fun a => w ⟨a.1, a.2.1⟩)) (by decide) (rel_co h 2) rfl⟩
  · exact ⟨1, c, o, n + 1, by decide, wr_rule_x2 (am_deep (sp_A_rule_t2 (d := 0) hl hk hv hK q) (by decide)), op_V (sp_M_rule_f1 (d := 0) hl h.mK (by rw [h.nL]; exact q)) (by decide) (rel_co h 1) rfl⟩
theorem op_cost (h : rel c m) (a1 a2 a3 : Int32) : opL x c m o n km_L_cost km_M_cost [some (.ref 4), some (.int a1), some (.int a2), some (.int a3), none] [some (.ref 50), some (.int a1), some (.int a2), some (.int a3)] opV := by
  obtain ⟨k, rfl, hk⟩ := ii_of a1
  obtain ⟨l, rfl, hl⟩ := ii_of a2
  obtain ⟨v, rfl, hv⟩ := ii_of a3
  have hK := h.cK
  have hT := hK.nn.1
  by_cases q : (0 ≤ k ∧ k < (cg_nT c : Int)) ∧ (0 ≤ l ∧ l < (cg_nL c : Int))
  · obtain ⟨q1, q2⟩ := q
    have m1 : 0 ≤ k ∧ k < (mg_nT m : Int) := by rw [h.nT]; exact q1
    have m2 : 0 ≤ l ∧ l < (mg_nL m : Int) := by rw [h.nL]; exact q2
    by_cases t : -1 ≤ v ∧ v ≤ 1000
    · obtain ⟨k', rfl, hk'⟩ := nat_of q1
      obtain ⟨l', rfl, hl'⟩ := nat_of q2
      exact ⟨0, _, _, _, by decide, wr_cost_ok (am_deep (sp_A_cost (d := 0) hK hk' hl' t) (by decide)), op_V (sp_M_cost (d := 0) h.mK (by rw [h.nT]; exact hk') (by rw [h.nL]; exact hl') t) (by decide) (rel_cost h hl' (by omega) t) rfl⟩
    · exact ⟨2, c, o, n + 1, by decide, wr_cost_x0 (am_deep (sp_A_cost_t0 (d := 0) hk hl hv hK q1 q2 t) (by decide)), op_V (sp_M_cost_f2 (d := 0) hk hl hv h.mK m1 m2 t) (by decide) (rel_co h 2) rfl⟩
  · exact ⟨1, c, o, n + 1, by decide, wr_cost_x2 (am_deep (sp_A_cost_t2 (d := 0) hk hl hv hK q) (by decide)), op_V (sp_M_cost_f1 (d := 0) hk hl hv h.mK (by rw [h.nT, h.nL]; exact q)) (by decide) (rel_co h 1) rfl⟩
theorem op_may (h : rel c m) (a1 a2 : Int32) {v : Int} (hv : 0 ≤ v ∧ v ≤ 1) : opL x c m o n km_L_may km_M_may [some (.ref 4), some (.int a1), some (.int a2), some (.int (iI v)), some (.ref 68), none] [some (.ref 50), some (.int a1), some (.int a2), some (.int (iI v))] opZ := by
  obtain ⟨k, rfl, hk⟩ := ii_of a1
  obtain ⟨l, rfl, hl⟩ := ii_of a2
  have hK := h.cK
  have hT := hK.nn.1
  by_cases q : (0 ≤ k ∧ k < (cg_nT c : Int)) ∧ (0 ≤ l ∧ l < (cg_nL c : Int))
  · obtain ⟨q1, q2⟩ := q
    obtain ⟨k', rfl, hk'⟩ := nat_of q1
    obtain ⟨l', rfl, hl'⟩ := nat_of q2
    have hr := rel_may h hl' (show k' < 8 by omega) hv
    exact ⟨0, _, _, _, by decide, wr_may_ok (am_deep (sp_A_may (d := 0) hK h.cG hk' hl' hv) (by decide)), op_Z (sp_M_may (d := 0) h.mK (by rw [h.nT]; exact hk') (by rw [h.nL]; exact hl') hv) (by decide) hr rfl (fun _ => by
      rw [up0, zb_congr (hr.all (l := l') (k := k') hl' (by omega))])⟩
  · exact ⟨1, c, o, n + 1, by decide, wr_may_x2 (am_deep (sp_A_may_t2 (d := 0) hk hl (by omega) hK q) (by decide)), op_Z (sp_M_may_f1 (d := 0) hk hl (by omega) h.mK (by rw [h.nT, h.nL]; exact q)) (by decide) (rel_co h 1) rfl (fun e => absurd e (by decide))⟩
theorem op_held (h : rel c m) (a1 : Int32) : opL x c m o n km_L_held km_M_held [some (.ref 4), some (.int a1), some (.ref 68), none] [some (.ref 50), some (.int a1)] opM := by
  obtain ⟨k, rfl, hk⟩ := ii_of a1
  have hK := h.cK
  have hT := hK.nn.1
  by_cases q : 0 ≤ k ∧ k < (cg_nT c : Int)
  · obtain ⟨k', rfl, hk'⟩ := nat_of q
    exact ⟨0, _, _, _, by decide, wr_held_ok (am_deep (sp_A_held (d := 0) hK hk') (by decide)), op_M (sp_M_held (d := 0) h.mK (by rw [h.nT]; exact hk')) (by decide) (rel_co h 0) rfl (fun _ => by rw [up0, h.held (by omega)])⟩
  · exact ⟨1, c, o, n + 1, by decide, wr_held_x2 (am_deep (sp_A_held_t2 (d := 0) hk hK q) (by decide)), op_M (sp_M_held_f1 (d := 0) hk h.mK (by rw [h.nT]; exact q)) (by decide) (rel_co h 1) rfl (fun e => absurd e (by decide))⟩
theorem op_left (h : rel c m) (a1 : Int32) : opL x c m o n km_L_left km_M_left [some (.ref 4), some (.int a1), some (.ref 68), none] [some (.ref 50), some (.int a1)] opM := by
  obtain ⟨k, rfl, hk⟩ := ii_of a1
  have hK := h.cK
  have hT := hK.nn.1
  by_cases q : 0 ≤ k ∧ k < (cg_nT c : Int)
  · obtain ⟨k', rfl, hk'⟩ := nat_of q
    exact ⟨0, _, _, _, by decide, wr_left_ok (am_deep (sp_A_left (d := 0) hK hk') (by decide)), op_M (sp_M_left (d := 0) h.mK (by rw [h.nT]; exact hk')) (by decide) (rel_co h 0) rfl (fun _ => by rw [up0, h.left (by omega)])⟩
  · exact ⟨1, c, o, n + 1, by decide, wr_left_x2 (am_deep (sp_A_left_t2 (d := 0) hk hK q) (by decide)), op_M (sp_M_left_f1 (d := 0) hk h.mK (by rw [h.nT]; exact q)) (by decide) (rel_co h 1) rfl (fun e => absurd e (by decide))⟩
theorem op_bar (h : rel c m) (a1 : Int32) : opL x c m o n km_L_bar km_M_bar [some (.ref 4), some (.int a1), some (.ref 68), none] [some (.ref 50), some (.int a1), none, none, none] opM := by
  obtain ⟨l, rfl, hl⟩ := ii_of a1
  have hK := h.cK
  by_cases q : 0 ≤ l ∧ l < (cg_nL c : Int)
  · obtain ⟨l', rfl, hl'⟩ := nat_of q
    exact ⟨0, _, _, _, by decide, wr_bar_ok (am_deep (sp_A_bar (d := 0) hK h.cG hl') (by decide)), op_M (sp_M_bar (d := 0) h.mK (by rw [h.nL]; exact hl')) (by decide) (rel_co h 0) rfl (fun _ => by rw [up0, h.fb hl'])⟩
  · exact ⟨1, c, o, n + 1, by decide, wr_bar_x2 (am_deep (sp_A_bar_t2 (d := 0) hl hK q) (by decide)), op_M (sp_M_bar_f1 (d := 0) hl h.mK (by rw [h.nL]; exact q)) (by decide) (rel_co h 1) rfl (fun e => absurd e (by decide))⟩
theorem op_refused (h : rel c m) (a1 : Int32) : opL x c m o n km_L_refused km_M_refused [some (.ref 4), some (.int a1), some (.ref 68), none] [some (.ref 50), some (.int a1)] opM := by
  obtain ⟨l, rfl, hl⟩ := ii_of a1
  have hK := h.cK
  by_cases q : 0 ≤ l ∧ l < (cg_nL c : Int)
  · obtain ⟨l', rfl, hl'⟩ := nat_of q
    exact ⟨0, _, _, _, by decide, wr_refused_ok (am_deep (sp_A_refused (d := 0) hK hl') (by decide)), op_M (sp_M_refused (d := 0) h.mK (by rw [h.nL]; exact hl')) (by decide) (rel_co h 0) rfl (fun _ => by rw [up0, h.hby hl', h.ma])⟩
  · exact ⟨1, c, o, n + 1, by decide, wr_refused_x2 (am_deep (sp_A_refused_t2 (d := 0) hl hK q) (by decide)), op_M (sp_M_refused_f1 (d := 0) hl h.mK (by rw [h.nL]; exact q)) (by decide) (rel_co h 1) rfl (fun e => absurd e (by decide))⟩
theorem op_undo (h : rel c m) (a1 : Int32) : opL x c m o n km_L_undo km_M_undo [some (.ref 4), some (.int a1), some (.ref 68), none] [some (.ref 50), some (.int a1), none, none] opM := by
  obtain ⟨l, rfl, hl⟩ := ii_of a1
  have hK := h.cK
  by_cases q : 0 ≤ l ∧ l < (cg_nL c : Int)
  · obtain ⟨l', rfl, hl'⟩ := nat_of q
    have hm : l' < mg_nL m := by rw [h.nL]; exact hl'
    by_cases t : zs (cg_gi c l') (cg_nT c) = 0
    · exact ⟨2, c, o, n + 1, by decide, wr_undo_x3 (am_deep (sp_A_undo_t3 (d := 0) hK h.cG hl' t) (by decide)), op_M (sp_M_undo_f2 (d := 0) h.mK hm (by rw [h.hby hl']; exact t)) (by decide) (rel_co h 2) rfl (fun e => absurd e (by decide))⟩
    · exact ⟨0, _, _, _, by decide, wr_undo_ok (am_deep (sp_A_undo (d := 0) hK h.cG hl' t) (by decide)), op_M (sp_M_undo (d := 0) h.mK hm (by rw [h.hby hl']; exact t)) (by decide) (rel_undo h hl') (zr_co m l' _) (fun _ => by rw [up0, h.hby hl'])⟩
  · exact ⟨1, c, o, n + 1, by decide, wr_undo_x2 (am_deep (sp_A_undo_t2 (d := 0) hl hK q) (by decide)), op_M (sp_M_undo_f1 (d := 0) hl h.mK (by rw [h.nL]; exact q)) (by decide) (rel_co h 1) rfl (fun e => absurd e (by decide))⟩
theorem op_average (h : rel c m) (a1 : Int32) : opL x c m o n km_L_average km_M_average [some (.ref 4), some (.int a1), some (.ref 68), none] [some (.ref 50), some (.int a1), none, none] opM := by
  obtain ⟨l, rfl, hl⟩ := ii_of a1
  have hK := h.cK
  by_cases q : 0 ≤ l ∧ l < (cg_nL c : Int)
  · obtain ⟨l', rfl, hl'⟩ := nat_of q
    have hm : l' < mg_nL m := by rw [h.nL]; exact hl'
    by_cases t : zs (cg_gi c l') (cg_nT c) = 0
    · exact ⟨2, c, o, n + 1, by decide, wr_average_x4 (am_deep (sp_A_average_t4 (d := 0) hK h.cG hl' t) (by decide)), op_M (sp_M_average_f2 (d := 0) h.mK hm (by rw [h.hby hl']; exact t)) (by decide) (rel_co h 2) rfl (fun e => absurd e (by decide))⟩
    · exact ⟨0, _, _, _, by decide, wr_average_ok (am_deep (sp_A_average (d := 0) hK h.cG hl' t) (by decide)), op_M (sp_M_average (d := 0) h.mK hm (by rw [h.hby hl']; exact t)) (by decide) (rel_co h 0) rfl (fun _ => by rw [up0, h.hby hl', h.hc hl'])⟩
  · exact ⟨1, c, o, n + 1, by decide, wr_average_x2 (am_deep (sp_A_average_t2 (d := 0) hl hK q) (by decide)), op_M (sp_M_average_f1 (d := 0) hl h.mK (by rw [h.nL]; exact q)) (by decide) (rel_co h 1) rfl (fun e => absurd e (by decide))⟩
theorem op_change (h : rel c m) (a1 a2 : Int32) : opL x c m o n km_L_change km_M_change [some (.ref 4), some (.int a1), some (.int a2), some (.ref 68), none] [some (.ref 50), some (.int a1), some (.int a2), none, none, none, none, none] opM := by
  obtain ⟨k, rfl, hk⟩ := ii_of a1
  obtain ⟨z, rfl, hz⟩ := ii_of a2
  have hK := h.cK
  by_cases q : 0 ≤ k ∧ k < (cg_nT c : Int)
  · have qm : 0 ≤ k ∧ k < (mg_nT m : Int) := by rw [h.nT]; exact q
    by_cases t : 0 ≤ z ∧ z ≤ 500
    · obtain ⟨k', rfl, hk'⟩ := nat_of q
      have hr := rel_change h hk' t
      exact ⟨0, _, _, _, by decide, wr_change_ok (am_deep (sp_A_change (d := 0) hK h.cP.1 hk' t) (by decide)), op_M (sp_M_change (d := 0) h.mK (by rw [h.nT]; exact hk') t) (by decide) hr.1 ((dn_co _ _ _ _ _).trans (set_co m k' z)) (fun _ => by rw [up0, hr.2])⟩
    · exact ⟨2, c, o, n + 1, by decide, wr_change_x0 (am_deep (sp_A_change_t0 (d := 0) hk hz hK q t) (by decide)), op_M (sp_M_change_f2 (d := 0) hk hz h.mK qm t) (by decide) (rel_co h 2) rfl (fun e => absurd e (by decide))⟩
  · exact ⟨1, c, o, n + 1, by decide, wr_change_x2 (am_deep (sp_A_change_t2 (d := 0) hk hz hK q) (by decide)), op_M (sp_M_change_f1 (d := 0) hk h.mK (by rw [h.nT]; exact q)) (by decide) (rel_co h 1) rfl (fun e => absurd e (by decide))⟩
theorem gf_top (c : cS) (l : Nat) (z : Int) (hod : ∀ k, k < 8 → cg_od c k ≤ 7) : ∀ (f k : Nat) (b : Int), k + f ≤ 8 → ck_gf c l z f k b ≤ 7
  | 0, k, b, _ => by simp only [ck_gf]; omega
  | f + 1, k, b, hk => by
    have h1 := gf_top c l z hod f (k + 1) (b + 1) (by omega)
    have h2 := gf_top c l z hod f (k + 1) b (by omega)
    have h3 := hod k (by omega)
    simp only [ck_gf]
    split
    · split
      · exact h3
      · exact h1
    · exact h2
theorem op_give (h : rel c m) (a1 a2 a3 : Int32) : opL x c m o n km_L_give km_M_give [some (.ref 4), some (.int a1), some (.int a2), some (.int a3), some (.ref 68), none] [some (.ref 50), some (.int a1), some (.int a2), some (.int a3), none] opM := by
  obtain ⟨l, rfl, hl⟩ := ii_of a1
  obtain ⟨i, rfl, hi⟩ := ii_of a2
  obtain ⟨w, rfl, hw⟩ := ii_of a3
  have hK := h.cK
  have hT := hK.nn.1
  by_cases q : 0 ≤ l ∧ l < (cg_nL c : Int)
  · obtain ⟨l', rfl, hl'⟩ := nat_of q
    have hm : l' < mg_nL m := by rw [h.nL]; exact hl'
    have hg := h.gift hl' i
    have ht := gf_top c l' i (fun k hk => (hK.lot hk).2.2.2.2) (cg_nT c) 0 0 (by omega)
    by_cases t : 0 ≤ ck_gf c l' i (cg_nT c) 0 0
    · have tm : 0 ≤ mk_gift m l' i := by rw [← hg]; exact t
      by_cases s : 0 ≤ w ∧ w ≤ 2
      · exact ⟨0, _, _, _, by decide, wr_give_ok (am_deep (sp_A_give (d := 0) hK h.cG hl' hi t s) (by decide)), op_M (sp_M_give (d := 0) h.mK h.mO hm hi tm s) (by decide) (rel_co h 0) rfl (fun _ => by rw [up0, h.give hl' w ⟨t, ht⟩, hg])⟩
      · exact ⟨2, c, o, n + 1, by decide, wr_give_x0 (am_deep (sp_A_give_t0 (d := 0) hK h.cG hl' hi t hw s) (by decide)), op_M (sp_M_give_f2 (d := 0) h.mK h.mO hm hi tm hw s) (by decide) (rel_co h 2) rfl (fun e => absurd e (by decide))⟩
    · exact ⟨1, c, o, n + 1, by decide, wr_give_x2 (am_deep (sp_A_give_t2b (d := 0) hK h.cG hl' hi (by omega)) (by decide)), op_M (sp_M_give_f1b (d := 0) h.mK h.mO hm hi (by rw [← hg]; omega)) (by decide) (rel_co h 1) rfl (fun e => absurd e (by decide))⟩
  · exact ⟨1, c, o, n + 1, by decide, wr_give_x2 (am_deep (sp_A_give_t2 (d := 0) hl hK q) (by decide)), op_M (sp_M_give_f1 (d := 0) hl h.mK (by rw [h.nL]; exact q)) (by decide) (rel_co h 1) rfl (fun e => absurd e (by decide))⟩
theorem op_solve (h : rel c m) (a1 : Int32) : opL x c m o n km_L_solve km_M_solve [some (.ref 4), some (.int a1), some (.ref 68), none] [some (.ref 50), some (.int a1), none, none] opM := by
  obtain ⟨z, rfl, hz⟩ := ii_of a1
  have hK := h.cK
  by_cases q : 0 ≤ z ∧ z ≤ 40000
  · obtain ⟨l1, l2, l3⟩ := lo_ok h
    have hL := hK.nn.2
    refine ⟨0, ck_s4 c z, _, n, by decide, wr_solve_ok (am_deep (sp_A_solve (d := 0) hK h.cA h.cP q) (by decide)), (am_deep (sp_M_solve (d := 0) (b := bc c) q (bc_ok h) (fun l hl => ?_) (fun l hl => ?_) h.mK h.mA h.mO l1 l2 l3) (by decide)).imp (fun q' h' n' hq => ?_)⟩
    · have hl' : l < cg_nL c := hl
      exact (hK.line (by omega)).2.2.2.2.1.1
    · have hl' : l < cg_nL c := hl
      exact (hK.line (by omega)).2.1.2
    · obtain ⟨e1, e2, m', m2, e3, e4, e5, e6, e7, e8⟩ := hq
      have hr := rel_solve h (e := decide (((2 ^ mk_na m (mg_nL m) : Nat) : Int) ≤ z)) (sx_na h q) e5 e6 e7 e8
      rw [← e4] at hr
      refine ⟨_, m', e1, e3, e2, hr.1, ?_, fun _ => by rw [up0, hr.2]⟩
      have c1 := (mC_eq e5).1
      have c2 : mg_co (mk_h3 m2 (pb_nL (bc c))) = mg_co m2 := mk_h3_keep (P := fun m : mS => mg_co m) (fun _ _ => rfl) _ _
      have c3 : mg_co (mk_lo (ms_co m 0)) = 0 := by
        unfold mk_lo
        exact (mk_pr1_keep (P := fun m : mS => mg_co m) (fun _ _ => rfl) _ _).trans ((mk_lay_keep (P := fun m : mS => mg_co m) (fun _ _ => rfl) (fun _ _ => rfl) _ _).trans rfl)
      rw [e4, c2, c1]
      exact c3
  · exact ⟨1, c, o, n + 1, by decide, wr_solve_x0 (am_deep (sp_A_solve_t0 (d := 0) hz q) (by decide)), op_M (sp_M_solve_f1 (d := 0) hz q) (by decide) (rel_co h 1) rfl (fun e => absurd e (by decide))⟩
end OP
