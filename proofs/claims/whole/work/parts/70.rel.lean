/-! THE CLASS AND THE REFERENCE, SIDE BY SIDE -/
/-- the order of the lots -/
def cOd (m : mS) (n : Nat) (od : Nat → Int) : Prop := (∀ i, i < n → 0 ≤ od i ∧ od i < (n : Int)) ∧ (∀ i j, i < j → j < n → mk_bf m (od i).toNat (od j).toNat) ∧ ∀ f : Nat → Int, zs f n = zs (fun i => f (od i).toNat) n
/-- they stand at the same -/
def rel (c : cS) (m : mS) : Prop := (cK c ∧ cP c ∧ cA c ∧ mA m ∧ mE m) ∧ (mg_nT m = cg_nT c ∧ mg_nL m = cg_nL c ∧ mg_pl m = cg_pl c ∧ mg_gd m = cg_gd c ∧ mg_un m = cg_un c ∧ mg_pc m = cg_pc c ∧ mg_wi m = cg_lg c ∧ mg_ma m = cg_lw c) ∧
  (∀ l k, l < 6 → k < 4 → mg_rl m (4 * l + k) = if l < cg_nL c then cg_rl c l k else 0) ∧ (∀ l k, l < 6 → k < 8 → mg_tl m (8 * l + k) = if l < cg_nL c then cg_tl c l k else -1) ∧ (∀ l k, l < 6 → k < 8 → mg_ba m (8 * l + k) = iI (zb (ck_bar c l k))) ∧ (∀ l k, l < 6 → k < 8 → mg_ho m (8 * l + k) = cg_gi c l k) ∧
  (∀ l k, cg_nL c ≤ l ∨ cg_nT c ≤ k → cg_gi c l k = 0) ∧ (∀ k, cg_fr c k = cg_pc c k - zs (fun l => cg_gi c l k) (cg_nL c)) ∧ cOd m (cg_nT c) (cg_od c) ∧ (mg_ex m = cg_ex c ∧ (cg_ex c = 0 ∨ cg_ex c = 1)) ∧ (∀ l, l < cg_nL c → 1 ≤ cg_rl c l 1) ∧ ∀ l, l < 6 → ∃ s : Nat, s < 256 ∧ cg_lb c l = iI (s : Int)
section RR
variable {c : cS} {m : mS}
theorem rel.cK (h : rel c m) : cK c := h.1.1
theorem rel.cP (h : rel c m) : cP c := h.1.2.1
theorem rel.cA (h : rel c m) : cA c := h.1.2.2.1
theorem rel.mA (h : rel c m) : mA m := h.1.2.2.2.1
theorem rel.mE (h : rel c m) : mE m := h.1.2.2.2.2
theorem rel.cG (h : rel c m) : cG c := h.1.2.1.1.G
theorem rel.nT (h : rel c m) : mg_nT m = cg_nT c := h.2.1.1
theorem rel.nL (h : rel c m) : mg_nL m = cg_nL c := h.2.1.2.1
theorem rel.pl (h : rel c m) : mg_pl m = cg_pl c := h.2.1.2.2.1
theorem rel.gd (h : rel c m) : mg_gd m = cg_gd c := h.2.1.2.2.2.1
theorem rel.un (h : rel c m) : mg_un m = cg_un c := h.2.1.2.2.2.2.1
theorem rel.pc (h : rel c m) : mg_pc m = cg_pc c := h.2.1.2.2.2.2.2.1
theorem rel.wi (h : rel c m) : mg_wi m = cg_lg c := h.2.1.2.2.2.2.2.2.1
theorem rel.ma (h : rel c m) : mg_ma m = cg_lw c := h.2.1.2.2.2.2.2.2.2
theorem rel.rl0 (h : rel c m) {l k : Nat} (hl : l < 6) (hk : k < 4) : mg_rl m (4 * l + k) = if l < cg_nL c then cg_rl c l k else 0 := h.2.2.1 l k hl hk
theorem rel.tl0 (h : rel c m) {l k : Nat} (hl : l < 6) (hk : k < 8) : mg_tl m (8 * l + k) = if l < cg_nL c then cg_tl c l k else -1 := h.2.2.2.1 l k hl hk
theorem rel.ba (h : rel c m) {l k : Nat} (hl : l < 6) (hk : k < 8) : mg_ba m (8 * l + k) = iI (zb (ck_bar c l k)) := h.2.2.2.2.1 l k hl hk
theorem rel.ho (h : rel c m) {l k : Nat} (hl : l < 6) (hk : k < 8) : mg_ho m (8 * l + k) = cg_gi c l k := h.2.2.2.2.2.1 l k hl hk
theorem rel.g0 (h : rel c m) {l k : Nat} (hh : cg_nL c ≤ l ∨ cg_nT c ≤ k) : cg_gi c l k = 0 := h.2.2.2.2.2.2.1 l k hh
theorem rel.fr (h : rel c m) (k : Nat) : cg_fr c k = cg_pc c k - zs (fun l => cg_gi c l k) (cg_nL c) := h.2.2.2.2.2.2.2.1 k
theorem rel.od (h : rel c m) : cOd m (cg_nT c) (cg_od c) := h.2.2.2.2.2.2.2.2.1
theorem rel.ex (h : rel c m) : mg_ex m = cg_ex c ∧ (cg_ex c = 0 ∨ cg_ex c = 1) := h.2.2.2.2.2.2.2.2.2.1
theorem rel.r1 (h : rel c m) {l : Nat} (hl : l < cg_nL c) : 1 ≤ cg_rl c l 1 := h.2.2.2.2.2.2.2.2.2.2.1 l hl
theorem rel.lbs (h : rel c m) {l : Nat} (hl : l < 6) : ∃ s : Nat, s < 256 ∧ cg_lb c l = iI (s : Int) := h.2.2.2.2.2.2.2.2.2.2.2 l hl
theorem rel_co (h : rel c m) (v : Int) : rel c (ms_co m v) := h
theorem rel.rl (h : rel c m) {l k : Nat} (hl : l < cg_nL c) (hk : k < 4) : mg_rl m (4 * l + k) = cg_rl c l k := by
  have hL := h.cK.nn.2
  rw [h.rl0 (by omega) hk, if_pos hl]
theorem rel.tl (h : rel c m) {l k : Nat} (hl : l < cg_nL c) (hk : k < 8) : mg_tl m (8 * l + k) = cg_tl c l k := by
  have hL := h.cK.nn.2
  rw [h.tl0 (by omega) hk, if_pos hl]
theorem rel.mK (h : rel c m) : mK m := by
  have hK := h.cK
  refine ⟨by rw [h.nT, h.nL]; exact hK.1, fun k hk => ?_, fun l hl => ?_⟩
  · have h1 := hK.lot hk
    have h2 := (h.cP.1.2 k hk).2
    rw [h.pl, h.gd, h.un, h.pc]
    exact ⟨h1.1, h1.2.1, h1.2.2.1, h2⟩
  · obtain ⟨a1, a2, a3, a4, a5, a6⟩ := hK.line hl
    have r0 := h.rl0 hl (k := 0) (by omega)
    have r1 := h.rl0 hl (k := 1) (by omega)
    have r2 := h.rl0 hl (k := 2) (by omega)
    have r3 := h.rl0 hl (k := 3) (by omega)
    rw [Nat.add_zero] at r0
    rw [h.wi, h.ma, r0, r1, r2, r3]
    refine ⟨a1, a2, ?_, ?_, ?_, ?_, fun k hk => ⟨?_, ?_⟩⟩
    · split <;> omega
    · split <;> omega
    · split <;> omega
    · split <;> omega
    · rw [h.tl0 hl hk]
      have := hK.told hl hk
      split <;> omega
    · rw [h.ho hl hk]
      exact h.cP.1.1 l k hl hk
/-- the lot at a place of the order is the same -/
theorem bf_asym {m : mS} {a b : Nat} (h : mk_bf m a b) : ¬ mk_bf m b a := by
  unfold mk_bf at *
  omega
theorem bf_irr {m : mS} {a : Nat} : ¬ mk_bf m a a := by
  unfold mk_bf
  omega
theorem bf_trans {m : mS} {a b d : Nat} (h1 : mk_bf m a b) (h2 : mk_bf m b d) : mk_bf m a d := by
  unfold mk_bf at *
  omega
theorem bf_tot {m : mS} {a b : Nat} (h : a ≠ b) : mk_bf m a b ∨ mk_bf m b a := by
  unfold mk_bf
  omega
theorem zs_lt (n : Nat) : ∀ j, j ≤ n → zs (fun i => zb (i < j)) n = (j : Int) := by
  induction n with
  | zero =>
    intro j hj
    have e : j = 0 := by omega
    subst e
    rfl
  | succ n ih =>
    intro j hj
    simp only [zs]
    by_cases h : j ≤ n
    · rw [ih j h, show zb (n < j) = 0 from if_neg (by omega)]
      omega
    · have e : j = n + 1 := by omega
      subst e
      rw [show zb (n < n + 1) = 1 from if_pos (by omega), zs_congr n (g := fun i => zb (i < n)) (fun k hk => by
        show zb (k < n + 1) = zb (k < n)
        rw [show zb (k < n + 1) = 1 from if_pos (by omega), show zb (k < n) = 1 from if_pos hk]), ih n (Nat.le_refl _)]
      omega
theorem od_rank {n : Nat} {od : Nat → Int} (h : cOd m n od) {j : Nat} (hj : j < n) : mk_rk m (od j).toNat n = (j : Int) := by
  refine (h.2.2 (fun k => zb (mk_bf m k (od j).toNat))).trans ((zs_congr n (fun i hi => ?_)).trans (zs_lt n j (by omega)))
  refine zb_congr ⟨fun q => ?_, fun q => h.2.1 i j q hj⟩
  rcases Nat.lt_trichotomy i j with e | e | e
  · exact e
  · subst e
    exact absurd q bf_irr
  · exact absurd q (bf_asym (h.2.1 j i e hi))
theorem od_all {n : Nat} {od : Nat → Int} (h : cOd m n od) {l : Nat} (hl : l < n) : ∃ i, i < n ∧ (od i).toNat = l := by
  refine Decidable.byContradiction fun hn => ?_
  have h1 := h.2.2 (fun k => zb (k = l))
  have h2 : zs (fun i => zb ((od i).toNat = l)) n = 0 := zs_zero n (fun i hi => if_neg (fun e => hn ⟨i, hi, e⟩))
  rw [h2] at h1
  have h3 : zb (l = l) ≤ zs (fun k => zb (k = l)) n := zs_one (f := fun k => zb (k = l)) (l := l) n (fun k _ => (zb_rg _).1) hl
  rw [h1, show zb (l = l) = 1 from if_pos rfl] at h3
  omega
theorem od_at {n : Nat} {od : Nat → Int} (hn : mg_nT m = n) (h : cOd m n od) {k : Nat} (hk : k < n) : mk_at m k n 0 = od k := by
  have key : ∀ f l, l + f = n → l ≤ (od k).toNat → mk_at m k f l = od k := by
    intro f
    have hr := h.1 k hk
    induction f with
    | zero => intro l h1 h2; omega
    | succ f ih =>
      intro l h1 h2
      simp only [mk_at]
      rw [hn]
      by_cases e : l = (od k).toNat
      · rw [e, od_rank h hk, if_pos rfl]
        omega
      · obtain ⟨i, hi, ei⟩ := od_all h (l := l) (by omega)
        have h3 := od_rank h hi
        rw [ei] at h3
        have hne : i ≠ k := fun q => e (by rw [← ei, q])
        rw [h3, if_neg (by omega)]
        exact ih (l + 1) (by omega) (by omega)
  exact key n 0 (by omega) (by omega)
theorem rel.mod (h : rel c m) {k : Nat} (hk : k < cg_nT c) : mk_od m k = (cg_od c k).toNat ∧ mk_at m k (mg_nT m) 0 = cg_od c k := by
  have h1 := od_at h.nT h.od hk
  unfold mk_od
  rw [h.nT, h1]
  exact ⟨rfl, rfl⟩
theorem rel.mO (h : rel c m) : mO m := by
  intro k hk
  rw [h.nT] at hk
  have h1 := h.mod hk
  have h2 := h.od.1 k hk
  have hT := h.cK.nn.1
  rw [h1.1, h1.2]
  omega
/-- what lots are allowed, what they cost -/
theorem rel.all (h : rel c m) {l k : Nat} (hl : l < cg_nL c) (hk : k < 8) : mk_all m k l ↔ ck_all c l k := by
  have hL := h.cK.nn.2
  have r0 := h.rl hl (k := 0) (by omega)
  rw [Nat.add_zero] at r0
  have hb := h.ba (l := l) (k := k) (by omega) hk
  unfold mk_all mk_p1
  rw [h.gd, h.wi, h.un, r0, hb]
  have e : iI (zb (ck_bar c l k)) = iI 0 ↔ ¬ ck_bar c l k := by
    by_cases q : ck_bar c l k
    · rw [show zb (ck_bar c l k) = 1 from if_pos q]
      exact ⟨fun e => absurd e (by decide), fun e => absurd q e⟩
    · rw [show zb (ck_bar c l k) = 0 from if_neg q]
      exact ⟨fun _ => q, fun _ => rfl⟩
  rw [e]
theorem rel.cost (h : rel c m) {l k : Nat} (hl : l < cg_nL c) (hk : k < 8) : mk_cost m k l = ck_cost c l k := by
  unfold mk_cost ck_cost
  rw [h.tl hl hk, h.pl]
theorem rel.hby (h : rel c m) {l : Nat} (hl : l < cg_nL c) : mk_hby m l = zs (cg_gi c l) (cg_nT c) := by
  have hL := h.cK.nn.2
  have hT := h.cK.nn.1
  unfold mk_hby
  rw [h.nT]
  exact zs_congr _ (fun k hk => h.ho (by omega) (by omega))
theorem rel.hof (h : rel c m) {k : Nat} (hk : k < 8) : mk_hof m k = zs (fun l => cg_gi c l k) (cg_nL c) := by
  have hL := h.cK.nn.2
  unfold mk_hof
  rw [h.nL]
  exact zs_congr _ (fun l hl => h.ho (by omega) hk)
/-- held and left -/
theorem rel.held (h : rel c m) {k : Nat} (hk : k < 8) : cg_pc c k - cg_fr c k = mk_hof m k := by
  rw [h.hof hk, h.fr k]
  omega
theorem rel.left (h : rel c m) {k : Nat} (hk : k < 8) : cg_fr c k = mg_pc m k - mk_hof m k := by
  rw [h.hof hk, h.fr k, h.pc]
/-- choices -/
theorem rel.ln (h : rel c m) {l : Nat} (hl : l < cg_nL c) : ∀ j, j ≤ 8 → mk_ln m l j = ck_ln c l j
  | 0, _ => rfl
  | j + 1, hj => by
    simp only [mk_ln, ck_ln, rel.ln h hl j (by omega)]
    have e := h.all hl (k := j) (by omega)
    by_cases q : ck_all c l j
    · rw [if_pos q, if_pos (e.mpr q)]
    · rw [if_neg q, if_neg (fun a => q (e.mp a))]
theorem rel.na (h : rel c m) : ∀ i, i ≤ cg_nL c → mk_na m i = ck_na c i
  | 0, _ => rfl
  | i + 1, hi => by
    have hT := h.cK.nn.1
    simp only [mk_na, ck_na, rel.na h i (by omega)]
    rw [h.nT, h.ln (by omega) _ hT]
theorem rel.ch (h : rel c m) : ck_ch c = mk_ch m := by
  unfold ck_ch mk_ch
  rw [h.nL, h.na _ (Nat.le_refl _)]
  by_cases q : (1000000 : Int) < ((2 ^ ck_na c (cg_nL c) : Nat) : Int)
  · rw [if_pos q, if_neg (by omega)]
  · rw [if_neg q, if_pos (by omega)]
/-- bounds -/
theorem rel.lb (h : rel c m) {l : Nat} (hl : l < cg_nL c) : ∀ k, k ≤ 8 → mk_lb m l k = ck_lb c l k
  | 0, _ => by
    simp only [mk_lb, ck_lb]
    rw [h.ma]
  | k + 1, hk => by
    simp only [mk_lb, ck_lb, rel.lb h hl k (by omega)]
    rw [h.cost hl (by omega), h.ma]
    have e := h.all hl (k := k) (by omega)
    by_cases q : ck_all c l k
    · rw [if_pos q]
      unfold zn
      rw [Int.mul_comm (ck_cost c l k)]
      by_cases q2 : cg_lw c l * ck_cost c l k + 20 < ck_lb c l k
      · rw [if_pos q2, if_pos ⟨e.mpr q, q2⟩]
      · rw [if_neg q2, if_neg (fun a => q2 a.2)]
    · rw [if_neg q, if_neg (fun a => q (e.mp a.1))]
theorem rel.bd (h : rel c m) : zs (fun l => ck_lb c l (cg_nT c)) (cg_nL c) = zs (fun l => mk_lb m l (mg_nT m)) (mg_nL m) := by
  have hT := h.cK.nn.1
  rw [h.nL, h.nT]
  exact zs_congr _ (fun l hl => (h.lb hl _ hT).symm)
/-- gifts -/
theorem rel.gf (h : rel c m) {l : Nat} (hl : l < cg_nL c) (z : Int) : ∀ (f k : Nat) (b : Int), k + f = cg_nT c → 0 ≤ b → b ≤ z → ck_gf c l z f k b = mk_gf m l f k (z - b)
  | 0, k, b, _, _, _ => rfl
  | f + 1, k, b, hk, hb, hz => by
    have hL := h.cK.nn.2
    have hT := h.cK.nn.1
    have h1 := h.mod (k := k) (by omega)
    have h2 := h.od.1 k (by omega)
    have h3 := h.ho (l := l) (k := (cg_od c k).toNat) (by omega) (by omega)
    have h4 := (h.cP.1.1 l (cg_od c k).toNat (by omega) (by omega)).1
    simp only [ck_gf, mk_gf]
    rw [h1.1, h3]
    by_cases q : 0 < cg_gi c l (cg_od c k).toNat
    · rw [if_pos q, if_neg (show ¬ cg_gi c l (cg_od c k).toNat = 0 by omega)]
      by_cases q2 : b = z
      · rw [if_pos q2, if_pos (show z - b = 0 by omega)]
        omega
      · rw [if_neg q2, if_neg (show ¬ z - b = 0 by omega), rel.gf h hl z f (k + 1) (b + 1) (by omega) (by omega) (by omega), show z - (b + 1) = z - b - 1 by omega]
    · rw [if_neg q, if_pos (show cg_gi c l (cg_od c k).toNat = 0 by omega)]
      exact rel.gf h hl z f (k + 1) b (by omega) hb hz
theorem gf_neg (c : cS) (l : Nat) {z : Int} (hz : z < 0) : ∀ (f k : Nat) (b : Int), 0 ≤ b → ck_gf c l z f k b = -1
  | 0, k, b, _ => rfl
  | f + 1, k, b, hb => by
    simp only [ck_gf]
    rw [gf_neg c l hz f (k + 1) (b + 1) (by omega), gf_neg c l hz f (k + 1) b hb, if_neg (show ¬ b = z by omega)]
    split <;> rfl
theorem rel.gift (h : rel c m) {l : Nat} (hl : l < cg_nL c) (z : Int) : ck_gf c l z (cg_nT c) 0 0 = mk_gift m l z := by
  unfold mk_gift
  by_cases q : z < 0
  · rw [if_pos q, gf_neg c l q _ _ _ (Int.le_refl 0)]
  · rw [if_neg q, h.nT, h.gf hl z (cg_nT c) 0 0 (by omega) (Int.le_refl 0) (by omega), Int.sub_zero]
theorem rel.give (h : rel c m) {l : Nat} (hl : l < cg_nL c) {g : Int} (w : Int) (hg : 0 ≤ g ∧ g ≤ 7) : ck_give c l g w = mk_give m l g w := by
  have hL := h.cK.nn.2
  unfold ck_give mk_give
  rw [h.ho (by omega) (show g.toNat < 8 by omega), h.cost hl (show g.toNat < 8 by omega)]
/-- what bars a line -/
theorem rel.ts (h : rel c m) {l k : Nat} (hl : l < cg_nL c) (hk : k < 8) {i : Nat} (hi : 1 ≤ i ∧ i ≤ 4) : mk_ts m k l i = zb ((i : Int) ≤ ck_pass c l k) := by
  have hL := h.cK.nn.2
  have r0 := h.rl hl (k := 0) (by omega)
  rw [Nat.add_zero] at r0
  have r1 := h.rl hl (k := 1) (by omega)
  have ha := h.all hl hk
  have e1 : mk_p1 m k l ↔ cg_gd c k = cg_lg c l := by
    unfold mk_p1
    rw [h.gd, h.wi]
  have e2 : mk_p2 m k l ↔ cg_gd c k = cg_lg c l ∧ ¬ cg_un c k < cg_rl c l 0 := by
    unfold mk_p2
    rw [h.un, r0, e1]
  have hf := h.left hk
  have e4 : (mk_all m k l ∧ mg_rl m (4 * l + 1) ≤ mg_pc m k - mk_hof m k) ↔ (ck_all c l k ∧ cg_rl c l 1 ≤ cg_fr c k) := by rw [ha, r1, hf]
  have t1 : mk_ts m k l 1 = zb (mk_p1 m k l) := if_pos rfl
  have t2 : mk_ts m k l 2 = zb (mk_p2 m k l) := (if_neg (by decide)).trans (if_pos rfl)
  have t3 : mk_ts m k l 3 = zb (mk_all m k l) := (if_neg (by decide)).trans ((if_neg (by decide)).trans (if_pos rfl))
  have t4 : mk_ts m k l 4 = zb (mk_all m k l ∧ mg_rl m (4 * l + 1) ≤ mg_pc m k - mk_hof m k) := (if_neg (by decide)).trans ((if_neg (by decide)).trans (if_neg (by decide)))
  unfold ck_pass
  rcases (show i = 1 ∨ i = 2 ∨ i = 3 ∨ i = 4 by omega) with rfl | rfl | rfl | rfl
  · rw [t1]
    refine zb_congr (e1.trans ?_)
    by_cases q1 : cg_gd c k = cg_lg c l
    · rw [if_neg (fun a => a q1)]
      refine ⟨fun _ => ?_, fun _ => q1⟩
      split
      · decide
      split
      · decide
      split <;> decide
    · rw [if_pos q1]
      exact ⟨fun a => absurd a q1, fun a => absurd a (by decide)⟩
  · rw [t2]
    refine zb_congr (e2.trans ?_)
    by_cases q1 : cg_gd c k = cg_lg c l
    · rw [if_neg (fun a => a q1)]
      by_cases q2 : cg_un c k < cg_rl c l 0
      · rw [if_pos q2]
        exact ⟨fun a => absurd q2 a.2, fun a => absurd a (by decide)⟩
      · rw [if_neg q2]
        refine ⟨fun _ => ?_, fun _ => ⟨q1, q2⟩⟩
        split
        · decide
        split <;> decide
    · rw [if_pos q1]
      exact ⟨fun a => absurd a.1 q1, fun a => absurd a (by decide)⟩
  · rw [t3]
    refine zb_congr (ha.trans ?_)
    by_cases q1 : cg_gd c k = cg_lg c l
    · rw [if_neg (fun a => a q1)]
      by_cases q2 : cg_un c k < cg_rl c l 0
      · rw [if_pos q2]
        exact ⟨fun a => absurd q2 a.2.1, fun a => absurd a (by decide)⟩
      · rw [if_neg q2]
        by_cases q3 : ck_bar c l k
        · rw [if_pos q3]
          exact ⟨fun a => absurd q3 a.2.2, fun a => absurd a (by decide)⟩
        · rw [if_neg q3]
          refine ⟨fun _ => ?_, fun _ => ⟨q1, q2, q3⟩⟩
          split <;> decide
    · rw [if_pos q1]
      exact ⟨fun a => absurd a.1 q1, fun a => absurd a (by decide)⟩
  · rw [t4]
    refine zb_congr (e4.trans ?_)
    by_cases q1 : cg_gd c k = cg_lg c l
    · rw [if_neg (fun a => a q1)]
      by_cases q2 : cg_un c k < cg_rl c l 0
      · rw [if_pos q2]
        exact ⟨fun a => absurd q2 a.1.2.1, fun a => absurd a (by decide)⟩
      · rw [if_neg q2]
        by_cases q3 : ck_bar c l k
        · rw [if_pos q3]
          exact ⟨fun a => absurd q3 a.1.2.2, fun a => absurd a (by decide)⟩
        · rw [if_neg q3]
          by_cases q4 : cg_fr c k < cg_rl c l 1
          · rw [if_pos q4]
            exact ⟨fun a => by omega, fun a => absurd a (by decide)⟩
          · rw [if_neg q4]
            exact ⟨fun _ => by decide, fun _ => ⟨⟨q1, q2, q3⟩, by omega⟩⟩
    · rw [if_pos q1]
      exact ⟨fun a => absurd a.1.1 q1, fun a => absurd a (by decide)⟩
theorem rel.sm (h : rel c m) {l : Nat} (hl : l < cg_nL c) {i : Nat} (hi : 1 ≤ i ∧ i ≤ 4) : ∀ j, j ≤ 8 → mk_sm m l i j = zb ((i : Int) ≤ ck_mx c l j)
  | 0, _ => by
    simp only [mk_sm, ck_mx]
    exact (if_neg (by omega)).symm
  | j + 1, hj => by
    have e : mk_sm m l i (j + 1) = if mk_sm m l i j = 1 then 1 else mk_ts m j l i := rfl
    have e2 : ck_mx c l (j + 1) = zx (ck_mx c l j) (ck_pass c l j) := rfl
    rw [e, e2, rel.sm h hl hi j (by omega), h.ts hl (by omega) hi]
    unfold zx
    by_cases q : (i : Int) ≤ ck_mx c l j
    · rw [show zb ((i : Int) ≤ ck_mx c l j) = 1 from if_pos q, if_pos rfl]
      refine (if_pos ?_).symm
      split <;> omega
    · rw [show zb ((i : Int) ≤ ck_mx c l j) = 0 from if_neg q, if_neg (by decide)]
      refine zb_congr ?_
      split <;> omega
theorem rel.fb (h : rel c m) {l : Nat} (hl : l < cg_nL c) : ck_fb c l = mk_fb m l := by
  have hT := h.cK.nn.1
  have hr := ck_mx_rg c l (cg_nT c)
  unfold ck_fb mk_fb
  rw [h.nT, h.sm hl (by decide) _ hT, h.sm hl (i := 2) (by decide) _ hT, h.sm hl (i := 3) (by decide) _ hT, h.sm hl (i := 4) (by decide) _ hT]
  unfold zb
  rcases (show ck_mx c l (cg_nT c) = 0 ∨ ck_mx c l (cg_nT c) = 1 ∨ ck_mx c l (cg_nT c) = 2 ∨ ck_mx c l (cg_nT c) = 3 ∨ ck_mx c l (cg_nT c) = 4 by omega) with e | e | e | e | e
  · rw [e]; decide
  · rw [e]; decide
  · rw [e]; decide
  · rw [e]; decide
  · rw [e]; decide
/-- averages, counts -/
theorem rel.hc (h : rel c m) {l : Nat} (hl : l < cg_nL c) : zs (fun k => mg_ho m (8 * l + k) * mk_cost m k l) (mg_nT m) = zs (fun k => cg_gi c l k * ck_cost c l k) (cg_nT c) := by
  have hL := h.cK.nn.2
  have hT := h.cK.nn.1
  rw [h.nT]
  exact zs_congr _ (fun k hk => by rw [h.ho (by omega) (by omega), h.cost hl (by omega)])
theorem rel.count (h : rel c m) (w : Int) : ck_count c w = mk_count m w := by
  have hL := h.cK.nn.2
  have hT := h.cK.nn.1
  have e2 : zs (fun l => zs (cg_gi c l) (cg_nT c)) (cg_nL c) = mk_h m (mg_nL m) := by
    unfold mk_h
    rw [h.nL]
    exact zs_congr _ (fun l hl => (h.hby hl).symm)
  have e3 : zs (fun l => zs (fun k => zb (0 < cg_gi c l k)) (cg_nT c)) (cg_nL c) = mk_g m (mg_nL m) := by
    unfold mk_g
    rw [h.nL, h.nT]
    exact zs_congr _ (fun l hl => zs_congr _ (fun k hk => by rw [h.ho (by omega) (by omega)]))
  have e4 : ck_tot c = mk_c m (mg_nL m) + 20 * mk_g m (mg_nL m) := by
    rw [← e3]
    unfold mk_c ck_tot
    rw [h.nL, ← zs_mul, ← zs_add]
    refine zs_congr _ (fun l hl => ?_)
    rw [h.hc hl, h.ma, h.hby hl]
    unfold ck_lc
    rw [← zs_mul]
    have e5 : zs (ck_lcost c l) (cg_nT c) = zs (fun k => (cg_gi c l k * ck_cost c l k + (-1000) * cg_gi c l k) + 20 * zb (0 < cg_gi c l k)) (cg_nT c) := zs_congr _ (fun k hk => by
      have hg := (h.cP.1.1 l k (by omega) (by omega)).1
      unfold ck_lcost
      by_cases q : 0 < cg_gi c l k
      · rw [if_pos q, show zb (0 < cg_gi c l k) = 1 from if_pos q, Int.mul_sub]
        omega
      · rw [if_neg q, show zb (0 < cg_gi c l k) = 0 from if_neg q, show cg_gi c l k = 0 by omega]
        simp)
    rw [e5, zs_add, zs_add, zs_mul (f := cg_gi c l)]
    omega
  unfold ck_count mk_count
  rw [e2, e3, e4, h.nT, h.nL]
end RR
