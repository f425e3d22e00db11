/-! the class solves -/
abbrev cX (c : cS) := (cg_nT c, cg_pl c, cg_gd c, cg_un c, cg_pc c, cg_od c, cg_nL c, cg_lg c, cg_lw c, cg_lb c, cg_rl c, cg_tl c)
theorem cX_ex (c : cS) {c' : cS} (h : cX c' = cX c) : cY c' = cY c ∧ cg_nL c' = cg_nL c ∧ cg_nT c' = cg_nT c ∧ cg_lw c' = cg_lw c ∧ cg_rl c' = cg_rl c ∧ cg_pc c' = cg_pc c ∧ ck_cost c' = ck_cost c := by
  simp only [cX, Prod.mk.injEq] at h
  obtain ⟨e1, e2, e3, e4, e5, e6, e7, e8, e9, e10, e11, e12⟩ := h
  refine ⟨?_, e7, e1, e9, e11, e5, ?_⟩
  · simp only [cY]
    rw [e1, e3, e4, e6, e8, e11, e10]
  · funext l k
    unfold ck_cost
    rw [e12, e2]
theorem s1_X (c : cS) (z : Int) : cX (ck_s1 c z) = cX c := rfl
theorem s2_X (c : cS) (z : Int) : cX (ck_s2 c z) = cX c := (ck_clear_keep (P := cX) (fun _ _ _ _ => rfl) (ck_s1 c z)).trans (s1_X c z)
theorem s3_X (c : cS) (z : Int) : cX (ck_s3 c z) = cX c := (ck_read_keep (P := cX) (fun _ _ => rfl) (fun _ _ => rfl) (ck_s2 c z) _).trans (s2_X c z)
theorem s1_gi (c : cS) (z : Int) : cg_gi (ck_s1 c z) = cg_gi c ∧ cg_fr (ck_s1 c z) = cg_fr c ∧ cg_nL (ck_s1 c z) = cg_nL c ∧ cg_nT (ck_s1 c z) = cg_nT c := ⟨rfl, rfl, rfl, rfl⟩
theorem s3_rows {c : cS} {m : mS} (h : rel c m) (z : Int) : cM (bc c) (ck_s3 c z) ∧ cg_gi (ck_s3 c z) = (fun _ _ => 0) ∧ cg_fr (ck_s3 c z) = cg_pc c := by
  obtain ⟨a1, a2, a3, a4⟩ := s1_gi c z
  have hcl := clear_rows (c := ck_s1 c z) (fun l j hh => by
    rw [a3, a4] at hh
    rw [a1]
    exact h.g0 hh)
  have g3 : cg_gi (ck_s3 c z) = cg_gi (ck_s2 c z) := ck_read_keep (P := fun c => cg_gi c) (fun _ _ => rfl) (fun _ _ => rfl) (ck_s2 c z) _
  have f3 : cg_fr (ck_s3 c z) = cg_fr (ck_s2 c z) := ck_read_keep (P := fun c => cg_fr c) (fun _ _ => rfl) (fun _ _ => rfl) (ck_s2 c z) _
  obtain ⟨y1, y2, y3, y4, y5, y6, y7⟩ := cX_ex c (s3_X c z)
  have z2 := cX_ex c (s2_X c z)
  refine ⟨⟨y2, y3, fun l hl => ?_⟩, g3.trans hcl.1, f3.trans (hcl.2.trans ?_)⟩
  · have hl' : l < cg_nL c := hl
    obtain ⟨r1, r2⟩ := read_rows z2.1 (cg_nL (ck_s2 c z)) l (by rw [z2.2.1]; exact hl')
    obtain ⟨p1, p2, p3⟩ := rP_rg c l (cg_nT c)
    refine ⟨r1, by rw [y4]; rfl, by rw [y5]; rfl, by rw [y5]; rfl, by rw [y5]; rfl, fun k hk => ?_, fun j hj => by rw [y7]; rfl⟩
    have hk' : k < (rP c l (cg_nT c)).2 := hk
    refine (r2 k hk').trans ?_
    have := h.od.1 _ (p2 k hk').1
    rw [bc_al]
    omega
  · funext j
    rw [a1, a2, a3]
    have := h.fr j
    omega
theorem sO_f (b : pB) : sO b false = rS b := if_neg (by decide)
theorem rule_S {b : pB} {a c : cS} (hM : cM b c) {l : Nat} (hl : l < pb_nL b) (hW : cW a = cW c) : ck_r3 a l = rS b l := by
  have hMa := cM_of hM hW
  obtain ⟨e1, e2, e3, e4, e5, e6, e7⟩ := hMa.2.2 l hl
  unfold ck_r3 rS
  rw [e4, e1]
theorem sR_sum (b : pB) (se : Nat → Nat) (j : Nat) : ∀ y, sR b se y j = pb_pc b j - zs (fun l => tR b l (sR b se l) (se l) j) y
  | 0 => by simp [sR, zs]
  | y + 1 => by
    have e1 : sR b se (y + 1) j = sR b se y j - tR b y (sR b se y) (se y) j := rfl
    have e2 : zs (fun l => tR b l (sR b se l) (se l) j) (y + 1) = zs (fun l => tR b l (sR b se l) (se l) j) y + tR b y (sR b se y) (se y) j := rfl
    rw [e1, e2, sR_sum b se j y]
    omega
theorem gR_sum (b : pB) (se : Nat → Nat) (j : Nat) : sR b se (pb_nL b) j = pb_pc b j - zs (fun l => gR b se (pb_nL b) l j) (pb_nL b) := by
  rw [sR_sum]
  congr 1
  exact zs_congr _ (fun l hl => by rw [gR_lt hl])
theorem gR_0 {b : pB} (hb : bOK b) (se : Nat → Nat) {l j : Nat} (h : pb_nL b ≤ l ∨ pb_nT b ≤ j) : gR b se (pb_nL b) l j = 0 := by
  by_cases w : l < pb_nL b
  · rw [gR_lt w]
    exact tR_ge (hb.1 l w) (by omega)
  · rw [gR_ge w]
/-- at least cost -/
theorem b6_rows {c c3 : cS} {m : mS} (h : rel c m) (hX : cX c3 = cX c) (hK : cK c3) (hA : cA c3) (hP : cP c3) (hM : cM (bc c) c3) (hg : cg_gi c3 = fun _ _ => 0) (hf : cg_fr c3 = cg_pc c) : cg_gi (ck_b6 c3 (cg_nL c3)) = gR (bc c) (sO (bc c) true) (cg_nL c) ∧ cg_fr (ck_b6 c3 (cg_nL c3)) = sR (bc c) (sO (bc c) true) (cg_nL c) ∧ cW (ck_b6 c3 (cg_nL c3)) = cW c3 := by
  have hb := bc_ok h
  have hL := hK.nn.2
  have hn3 : cg_nL c3 = pb_nL (bc c) := hM.1
  have hfw : ∀ l, l < pb_nL (bc c) → 0 ≤ pb_fw (bc c) l := fun l hl => by
    have hl' : l < cg_nL c := hl
    have hLc := h.cK.nn.2
    exact (h.cK.line (by omega)).2.2.2.2.1.1
  -- the bounds
  obtain ⟨k1, k2, k3, k4⟩ := ck_b1_ok hK hA hP
  have w1 : cW (ck_b1 c3) = cW c3 := ck_rbs_keep (P := cW) (fun _ _ => rfl) _ _
  have x1 : cX (ck_b1 c3) = cX c := (ck_rbs_keep (P := cX) (fun _ _ => rfl) _ _).trans hX
  have g1 : cg_gi (ck_b1 c3) = fun _ _ => 0 := (ck_rbs_keep (P := fun c : cS => cg_gi c) (fun _ _ => rfl) _ _).trans hg
  have f1 : cg_fr (ck_b1 c3) = cg_pc c := (ck_rbs_keep (P := fun c : cS => cg_fr c) (fun _ _ => rfl) _ _).trans hf
  have m1 := cM_of hM w1
  have n1 : cg_nL (ck_b1 c3) = pb_nL (bc c) := m1.1
  have hcL : cL (bc c) (cg_rb (ck_b1 c3)) := by
    obtain ⟨r0, r1⟩ := k4
    rw [n1] at r0 r1
    refine ⟨r0, fun l hl r s hr => ?_⟩
    have e := r1 l (Nat.zero_le _) hl
    obtain ⟨y1, y2, y3, y4, y5, y6, y7⟩ := cX_ex c x1
    obtain ⟨b1, b2⟩ := lb_low (ck_b1 c3) l (cg_nT (ck_b1 c3))
    have := tC_low (hb.1 l hl) hr (s := s) (L := ck_lb (ck_b1 c3) l (cg_nT (ck_b1 c3))) (by rw [y4] at b1; exact b1) (fun k hk => by
      obtain ⟨p1, p2, p3⟩ := rP_rg c l (cg_nT c)
      have hk' : k < (rP c l (cg_nT c)).2 := hk
      have q1 := p2 k hk'
      have q2 := h.od.1 _ q1.1
      have q3 := b2 (pb_al (bc c) l k) (by rw [bc_al, y3]; omega) ((all_of y1 l _).mpr (by rw [bc_al]; exact q1.2))
      rw [y4, y7] at q3
      exact q3)
    omega
  -- by rule
  have w2 : cW (ck_b2 c3) = cW c3 := (ck_rule_keep (P := cW) (fun _ _ _ _ => rfl) _ _).trans w1
  have m2 := cM_of hM w2
  have hr2 := seq_rows hb m1 g1 f1 (se := rS (bc c)) (S := ck_r3) (fun a l hl hW _ => rule_S m1 hl hW) (pb_nL (bc c)) (Nat.le_refl _)
  have e2 : ck_b2 c3 = zf (fun a l => (ck_take a l (ck_r3 a l)).1) (ck_b1 c3) (pb_nL (bc c)) := by
    rw [← hn3]
    rfl
  rw [← e2] at hr2
  have t2 := tot_rows hb m2 hr2.1
  -- all let go
  have e3 : cg_gi (ck_b3 c3) = cg_gi (ck_b2 c3) ∧ cg_fr (ck_b3 c3) = cg_fr (ck_b2 c3) ∧ cg_nL (ck_b3 c3) = cg_nL (ck_b2 c3) ∧ cg_nT (ck_b3 c3) = cg_nT (ck_b2 c3) := ⟨rfl, rfl, rfl, rfl⟩
  have hcl := clear_rows (c := ck_b3 c3) (fun l j hh => by
    rw [e3.2.2.1, e3.2.2.2, m2.1, m2.2.1] at hh
    rw [e3.1, hr2.1]
    exact gR_0 hb _ hh)
  have g4 : cg_gi (ck_b4 c3) = fun _ _ => 0 := hcl.1
  have f4 : cg_fr (ck_b4 c3) = cg_pc c := by
    refine hcl.2.trans ?_
    funext j
    rw [e3.1, e3.2.1, e3.2.2.1, m2.1, hr2.1, hr2.2, gR_sum]
    show cg_pc c j - _ + _ = cg_pc c j
    omega
  have w4 : cW (ck_b4 c3) = cW c3 := (ck_clear_keep (P := cW) (fun _ _ _ _ => rfl) (ck_b3 c3)).trans ((show cW (ck_b3 c3) = cW (ck_b2 c3) from rfl).trans w2)
  have m4 := cM_of hM w4
  have hA4 := (ck_b4_ok hK hA hP).2.1
  -- the search
  obtain ⟨q0, hq0, hz0⟩ := rule_mem hb hfw
  have hlow := sq_low hb hcL.1 hcL.2 (pb_nL (bc c)) (p := fun _ => 0) (l := 0) (Nat.zero_add _) q0 hq0
  have hx := ex_math hb (pb_nL (bc c)) 0 0 (ck_b4 c3) (fun _ => 0) (fun i => (cg_be (ck_b4 c3) i).toNat, ck_tot (ck_b2 c3) + 1) (Nat.zero_add _) m4 (fun i _ => by rw [g4]) f4 rfl (fun i hi => absurd hi (Nat.not_lt_zero _)) (by rw [ck_b4_rb]; exact hcL) (by
    rw [ck_b4_rb, ck_b4_bc, t2, ← hz0]
    have e0 : sZ (bc c) (fun _ => 0) 0 = 0 := rfl
    rw [e0] at hlow
    omega) ⟨ck_b4_bc c3, fun i hi => by
      have hi' : i < cg_nL c := hi
      have hLc := h.cK.nn.2
      have := (hA4 i (by omega)).2.2.1
      show cg_be (ck_b4 c3) i = ((cg_be (ck_b4 c3) i).toNat : Int)
      omega⟩
  have e5 : ck_b5 c3 = ck_ex (pb_nL (bc c)) 0 0 (ck_b4 c3) := by
    rw [← hn3]
    rfl
  rw [← e5] at hx
  obtain ⟨u1, u2, u3, u4⟩ := hx
  have hsO : ∀ i, sO (bc c) true i = (fF (bc c) (fun i => (cg_be (ck_b4 c3) i).toNat, ck_tot (ck_b2 c3) + 1) (sq (bc c) (pb_nL (bc c)) (fun _ => 0))).1 i := by
    intro i
    unfold sO
    rw [if_pos rfl]
    generalize sq (bc c) (pb_nL (bc c)) (fun _ => 0) = L at hq0
    cases L with
    | nil => cases hq0
    | cons a L =>
      rw [gF_none (bc c) a L (q := (fun i => (cg_be (ck_b4 c3) i).toNat, ck_tot (ck_b2 c3) + 1)) ⟨q0, hq0, by show zT (bc c) q0 < ck_tot (ck_b2 c3) + 1; rw [t2, hz0]; omega⟩]
  have w5 : cW (ck_b5 c3) = cW c3 := (ck_ex_keep (P := cW) (fun _ _ _ _ => rfl) (fun _ _ => rfl) (fun _ _ => rfl) (fun _ _ => rfl) _ _ _ _).trans w4
  have m5 := cM_of hM w5
  have hr6 := seq_rows hb m5 (u1.trans g4) (u2.trans f4) (se := sO (bc c) true) (S := fun a l => (cg_be a l).toNat) (fun a l hl hW hbe => by
    show (cg_be a l).toNat = _
    rw [hbe, u4.2 l hl, hsO l]
    exact Int.toNat_natCast _) (pb_nL (bc c)) (Nat.le_refl _)
  have e6 : ck_b6 c3 (cg_nL c3) = zf (fun a l => (ck_take a l (cg_be a l).toNat).1) (ck_b5 c3) (pb_nL (bc c)) := by
    rw [hn3]
    rfl
  have w6 : cW (ck_b6 c3 (cg_nL c3)) = cW c3 := (zf_keep (g := fun a l => (ck_take a l (cg_be a l).toNat).1) (P := cW) (fun a l => ck_take_keep (P := cW) (fun _ _ _ _ => rfl) a l _) (ck_b5 c3) (cg_nL c3)).trans w5
  rw [e6]
  rw [e6] at w6
  exact ⟨hr6.1, hr6.2, w6⟩
theorem b6_keep {β : Type} {P : cS → β} (h : ∀ c l k z, P (ck_move c l k z) = P c) (ht : ∀ c v, P (cs_tr c v) = P c) (hb : ∀ c v, P (cs_be c v) = P c) (hc : ∀ c v, P (cs_bc c v) = P c) (hr : ∀ c v, P (cs_rb c v) = P c) (c : cS) (i : Nat) : P (ck_b6 c i) = P c := by
  have e1 : P (ck_b1 c) = P c := (ck_rbs_keep hr _ _).trans (hr _ _)
  have e2 : P (ck_b2 c) = P c := (ck_rule_keep h _ _).trans e1
  have e3 : P (ck_b3 c) = P c := (hc _ _).trans e2
  have e4 : P (ck_b4 c) = P c := (ck_clear_keep h _).trans e3
  have e5 : P (ck_b5 c) = P c := (ck_ex_keep h ht hb hc _ _ _ _).trans e4
  exact (zf_keep (g := fun a l => (ck_take a l (cg_be a l).toNat).1) (P := P) (fun a l => ck_take_keep h a l _) (ck_b5 c) i).trans e5
theorem s4_rows {c : cS} {m : mS} (h : rel c m) (z : Int) : cg_gi (ck_s4 c z) = gR (bc c) (sO (bc c) (decide (ck_sx c z))) (cg_nL c) ∧ cg_fr (ck_s4 c z) = sR (bc c) (sO (bc c) (decide (ck_sx c z))) (cg_nL c) ∧ cX (ck_s4 c z) = cX c ∧ cg_ex (ck_s4 c z) = zb (ck_sx c z) ∧ ck_tot (ck_s4 c z) = sZ (bc c) (sO (bc c) (decide (ck_sx c z))) (cg_nL c) := by
  have hb := bc_ok h
  obtain ⟨r1, r2, r3⟩ := s3_rows h z
  obtain ⟨k1, k2, k3⟩ := ck_s3_ok h.cK h.cA h.cP z
  have x3 := s3_X c z
  have e3 := ck_s3_ex c z
  have hn3 : cg_nL (ck_s3 c z) = pb_nL (bc c) := r1.1
  unfold ck_s4
  by_cases q : ck_sx c z
  · rw [if_pos q, decide_eq_true q]
    obtain ⟨a1, a2, a3⟩ := b6_rows h x3 k1 k2 k3 r1 r2 r3
    refine ⟨a1, a2, (b6_keep (P := cX) (fun _ _ _ _ => rfl) (fun _ _ => rfl) (fun _ _ => rfl) (fun _ _ => rfl) (fun _ _ => rfl) _ _).trans x3, (b6_keep (P := fun c : cS => cg_ex c) (fun _ _ _ _ => rfl) (fun _ _ => rfl) (fun _ _ => rfl) (fun _ _ => rfl) (fun _ _ => rfl) _ _).trans e3, tot_rows hb (cM_of r1 a3) a1⟩
  · rw [if_neg q, decide_eq_false q]
    have hs := seq_rows hb r1 r2 r3 (se := rS (bc c)) (S := ck_r3) (fun a l hl hW _ => rule_S r1 hl hW) (pb_nL (bc c)) (Nat.le_refl _)
    have e4 : ck_rule (ck_s3 c z) (cg_nL (ck_s3 c z)) = zf (fun a l => (ck_take a l (ck_r3 a l)).1) (ck_s3 c z) (pb_nL (bc c)) := by
      rw [hn3]
      rfl
    have w4 : cW (ck_rule (ck_s3 c z) (cg_nL (ck_s3 c z))) = cW (ck_s3 c z) := ck_rule_keep (P := cW) (fun _ _ _ _ => rfl) _ _
    have x4 : cX (ck_rule (ck_s3 c z) (cg_nL (ck_s3 c z))) = cX (ck_s3 c z) := ck_rule_keep (P := cX) (fun _ _ _ _ => rfl) _ _
    have ex4 : cg_ex (ck_rule (ck_s3 c z) (cg_nL (ck_s3 c z))) = cg_ex (ck_s3 c z) := ck_rule_keep (P := fun c : cS => cg_ex c) (fun _ _ _ _ => rfl) _ _
    rw [sO_f]
    rw [← e4] at hs
    exact ⟨hs.1, hs.2, x4.trans x3, ex4.trans e3, tot_rows hb (cM_of r1 w4) hs.1⟩
