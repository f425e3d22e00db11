/-! the search through all sets -/
def ck_lc (c : cS) (l : Nat) : Int := 1000 * cg_lw c l + zs (ck_lcost c l) (cg_nT c)
def ck_xh (F : Int → cS → cS) (l : Nat) (z : Int) (c : cS) : cS := if z + cg_rb c (l + 1) < cg_bc c then F z c else c
def ck_xa (F : Int → cS → cS) (l : Nat) (z : Int) (q : cS × Int) (s : Nat) : cS := if q.2 = pop s then ck_xh F l (z + ck_lc q.1 l) q.1 else q.1
def ck_xb (F : Int → cS → cS) (l : Nat) (z : Int) (c : cS) (s : Nat) : cS := if pop s ≤ cg_rl c l 2 then ck_letGo (ck_xa F l z (ck_take (cs_tr c (zu (cg_tr c) l s)) l s) s) l else c
def ck_ex : Nat → Nat → Int → cS → cS
  | 0, _, z, c => ck_keep c z
  | j + 1, l, z, c => zf (ck_xb (ck_ex j (l + 1)) l z) c (2 ^ (cg_ac c l).toNat)
theorem sp_F_lineCostC {d : Nat} {x : am_C} {c : cS} {t : List am_C} {n : Nat} {l : Nat} (hl : l < 6) (hK : cK c) (hG : cG c) : am_W (d + 1) km_F_lineCost 0 [some (.ref 6), some (.int (iI l)), none, none, none] [] (hC x c t) n 0 0 (am_eq (some (.int (iI (ck_lc c l)))) (hC x c t) n) := sp_F_lineCost hl hK hG
/-- what holds all the while -/
def cV (c : cS) : Prop := cK c ∧ cA c ∧ cP c ∧ (∀ j, j ≤ cg_nL c → 0 ≤ cg_rb c j ∧ cg_rb c j ≤ 2000000) ∧ (-100000000 ≤ cg_bc c ∧ cg_bc c ≤ 100000000)
theorem ck_lcost_rg {c : cS} (hK : cK c) (hG : cG c) {l k : Nat} (hl : l < 6) (hk : k < 8) : -1000000 ≤ ck_lcost c l k ∧ ck_lcost c l k ≤ 20 := by
  unfold ck_lcost
  split
  · have h1 := hG.gi hl hk
    have h2 := ck_cost_rg hK hl hk
    have h3 : 0 ≤ cg_gi c l k * (1000 - ck_cost c l k) := Int.mul_nonneg h1.1 (by omega)
    have h4 : cg_gi c l k * (1000 - ck_cost c l k) ≤ 1000 * 1000 := Int.mul_le_mul h1.2 (by omega) (by omega) (by omega)
    have h5 : cg_gi c l k * (1000 - ck_cost c l k) = -(cg_gi c l k * (ck_cost c l k - 1000)) := by rw [← Int.mul_neg, Int.neg_sub]
    omega
  · omega
theorem zs_ge {f : Nat → Int} {b : Int} : ∀ n, (∀ k, k < n → b ≤ f k) → n * b ≤ zs f n
  | 0, _ => by simp [zs]
  | n + 1, h => by
    have h1 := zs_ge n (fun k hk => h k (by omega))
    have h2 := h n (by omega)
    simp only [zs]
    have e : ((n + 1 : Nat) : Int) * b = n * b + b := by rw [Int.natCast_add, Int.add_mul]; simp
    rw [e]
    omega
theorem ck_lc_rg {c : cS} (hK : cK c) (hG : cG c) {l : Nat} (hl : l < 6) : -9000000 ≤ ck_lc c l ∧ ck_lc c l ≤ 9000000 := by
  have hT := hK.nn.1
  have h0 := hK.line hl
  have h1 := zs_ge (f := ck_lcost c l) (b := -1000000) (cg_nT c) (fun k hk => (ck_lcost_rg hK hG hl (by omega)).1)
  have h2 := zs_le (f := ck_lcost c l) (b := 20) (cg_nT c) (fun k hk => (ck_lcost_rg hK hG hl (by omega)).2)
  unfold ck_lc
  omega
theorem cV_letGo {c : cS} (h : cV c) {l : Nat} (hl : l < 6) : cV (ck_letGo c l) := by
  refine ⟨ck_letGo_K l h.1, ck_letGo_A l h.2.1, cP_letGo h.2.2.1 hl h.1.nn.1, ?_, ?_⟩
  · rw [ck_letGo_nL, ck_letGo_keep (P := fun c => cg_rb c) (fun _ _ _ _ => rfl)]
    exact h.2.2.2.1
  · rw [ck_letGo_keep (P := fun c => cg_bc c) (fun _ _ _ _ => rfl)]
    exact h.2.2.2.2
theorem cV_take {c : cS} (h : cV c) {l : Nat} (s : Nat) (hl : l < 6) : cV (ck_take c l s).1 := by
  obtain ⟨h1, h2, h3, -⟩ := ck_take_ok h.1 h.2.1 h.2.2.1 s hl
  refine ⟨h1, h2, h3, ?_, ?_⟩
  · rw [ck_take_keep (P := fun c => cg_nL c) (fun _ _ _ _ => rfl), ck_take_keep (P := fun c => cg_rb c) (fun _ _ _ _ => rfl)]
    exact h.2.2.2.1
  · rw [ck_take_keep (P := fun c => cg_bc c) (fun _ _ _ _ => rfl)]
    exact h.2.2.2.2
theorem cV_tr {c : cS} (h : cV c) {l s : Nat} (hs : s < 256) : cV (cs_tr c (zu (cg_tr c) l s)) := by
  refine ⟨h.1, fun l' hl' => ⟨(h.2.1 l' hl').1, ?_, (h.2.1 l' hl').2.2⟩, h.2.2⟩
  show 0 ≤ zu (cg_tr c) l s l' ∧ zu (cg_tr c) l s l' < 256
  by_cases e : l' = l
  · subst e
    rw [zu_s]
    omega
  · rw [zu_n e]
    exact (h.2.1 l' hl').2.1
theorem cV_be {c : cS} (h : cV c) {l : Nat} {v : Int} (hs : 0 ≤ v ∧ v < 256) : cV (cs_be c (zu (cg_be c) l v)) := by
  refine ⟨h.1, fun l' hl' => ⟨(h.2.1 l' hl').1, (h.2.1 l' hl').2.1, ?_, (h.2.1 l' hl').2.2.2⟩, h.2.2⟩
  show 0 ≤ zu (cg_be c) l v l' ∧ zu (cg_be c) l v l' < 256
  by_cases e : l' = l
  · subst e
    rw [zu_s]
    omega
  · rw [zu_n e]
    exact (h.2.1 l' hl').2.2.1
theorem cV_keep {c : cS} (h : cV c) {z : Int} (hz : -100000000 ≤ z ∧ z ≤ 100000000) : cV (ck_keep c z) := by
  have h0 : cV (cs_bc c z) := ⟨h.1, h.2.1, h.2.2.1, h.2.2.2.1, hz⟩
  have hL := h.1.nn.2
  exact zf_invB (P := cV) (N := 6) (fun a k hk ha => cV_be ha (ha.2.1 k hk).2.1) h0 _ hL
theorem ck_ex_keep {β : Type} {P : cS → β} (h : ∀ c l k z, P (ck_move c l k z) = P c) (ht : ∀ c v, P (cs_tr c v) = P c) (hb : ∀ c v, P (cs_be c v) = P c) (hc : ∀ c v, P (cs_bc c v) = P c) : ∀ (j l : Nat) (z : Int) (c : cS), P (ck_ex j l z c) = P c
  | 0, l, z, c => (ck_kp_keep hb _ _).trans (hc _ _)
  | j + 1, l, z, c => zf_keep (g := ck_xb (ck_ex j (l + 1)) l z) (P := P) (fun a s => by
    unfold ck_xb
    split
    · rw [ck_letGo_keep h]
      have e : P (ck_take (cs_tr a (zu (cg_tr a) l s)) l s).1 = P a := (ck_take_keep h _ l s).trans (ht _ _)
      unfold ck_xa
      split
      · unfold ck_xh
        split
        · exact (ck_ex_keep h ht hb hc j (l + 1) _ _).trans e
        · exact e
      · exact e
    · rfl) c _
theorem ck_xb_keep {β : Type} {P : cS → β} (h : ∀ c l k z, P (ck_move c l k z) = P c) (ht : ∀ c v, P (cs_tr c v) = P c) (hb : ∀ c v, P (cs_be c v) = P c) (hc : ∀ c v, P (cs_bc c v) = P c) (j l : Nat) (z : Int) (c : cS) (i : Nat) : P (zf (ck_xb (ck_ex j (l + 1)) l z) c i) = P c := zf_keep (g := ck_xb (ck_ex j (l + 1)) l z) (P := P) (fun a s => by
    unfold ck_xb
    split
    · rw [ck_letGo_keep h]
      have e : P (ck_take (cs_tr a (zu (cg_tr a) l s)) l s).1 = P a := (ck_take_keep h _ l s).trans (ht _ _)
      unfold ck_xa
      split
      · unfold ck_xh
        split
        · exact (ck_ex_keep h ht hb hc j (l + 1) _ _).trans e
        · exact e
      · exact e
    · rfl) c i
/-- one set of a line: the state stays good, if what is behind keeps it good -/
theorem ck_xb_ok {j l : Nat} {z : Int} {c : cS} {s : Nat} (hF : ∀ z c, cV c → l + 1 + j = cg_nL c → -(9000000 * ((l + 1 : Nat) : Int)) ≤ z ∧ z ≤ 9000000 * ((l + 1 : Nat) : Int) → cV (ck_ex j (l + 1) z c)) (hV : cV c) (hl : l + (j + 1) = cg_nL c) (hz : -(9000000 * (l : Int)) ≤ z ∧ z ≤ 9000000 * (l : Int)) (hs : s < 256) : cV (ck_xb (ck_ex j (l + 1)) l z c s) := by
  have hL := hV.1.nn.2
  unfold ck_xb
  split
  · refine cV_letGo ?_ (by omega)
    have h1 : cV (ck_take (cs_tr c (zu (cg_tr c) l s)) l s).1 := cV_take (cV_tr hV hs) s (by omega)
    have h2 : cg_nL (ck_take (cs_tr c (zu (cg_tr c) l s)) l s).1 = cg_nL c := ck_take_keep (P := fun c => cg_nL c) (fun _ _ _ _ => rfl) _ l s
    unfold ck_xa
    split
    · unfold ck_xh
      split
      · have h3 := ck_lc_rg h1.1 h1.2.2.1.1.G (l := l) (by omega)
        exact hF _ _ h1 (by omega) (by omega)
      · exact h1
    · exact h1
  · exact hV
theorem pow_ac {c : cS} (hA : cA c) {l : Nat} (hl : l < 6) : 2 ^ (cg_ac c l).toNat ≤ 256 := by
  have h := (hA l hl).1
  have h2 : (cg_ac c l).toNat ≤ 8 := by omega
  exact Nat.pow_le_pow_right (n := 2) (by decide) h2
theorem ck_ex_ok : ∀ (j l : Nat) (z : Int) (c : cS), cV c → l + j = cg_nL c → -(9000000 * (l : Int)) ≤ z ∧ z ≤ 9000000 * (l : Int) → cV (ck_ex j l z c)
  | 0, l, z, c, hV, hl, hz => by
    have hL := hV.1.nn.2
    exact cV_keep hV (by omega)
  | j + 1, l, z, c, hV, hl, hz => by
    have hL := hV.1.nn.2
    have hp := pow_ac hV.2.1 (l := l) (by omega)
    have : ∀ i, i ≤ 2 ^ (cg_ac c l).toNat → cV (zf (ck_xb (ck_ex j (l + 1)) l z) c i) ∧ cg_nL (zf (ck_xb (ck_ex j (l + 1)) l z) c i) = cg_nL c := by
      intro i
      induction i with
      | zero => intro _; exact ⟨hV, rfl⟩
      | succ i ih =>
        intro hi
        obtain ⟨h1, h2⟩ := ih (by omega)
        refine ⟨ck_xb_ok (fun z c => ck_ex_ok j (l + 1) z c) h1 (by omega) hz (by omega), ck_xb_keep (P := fun c => cg_nL c) (fun _ _ _ _ => rfl) (fun _ _ => rfl) (fun _ _ => rfl) (fun _ _ => rfl) j l z c (i + 1)⟩
    exact (this _ (Nat.le_refl _)).1
theorem ck_xz_ok {j l : Nat} {z : Int} {c : cS} (hV : cV c) (hl : l + (j + 1) = cg_nL c) (hz : -(9000000 * (l : Int)) ≤ z ∧ z ≤ 9000000 * (l : Int)) : ∀ i, i ≤ 2 ^ (cg_ac c l).toNat → cV (zf (ck_xb (ck_ex j (l + 1)) l z) c i) := by
  have hL := hV.1.nn.2
  have hp := pow_ac hV.2.1 (l := l) (by omega)
  intro i
  induction i with
  | zero => intro _; exact hV
  | succ i ih =>
    intro hi
    have h2 : cg_nL (zf (ck_xb (ck_ex j (l + 1)) l z) c i) = cg_nL c := ck_xb_keep (P := fun c => cg_nL c) (fun _ _ _ _ => rfl) (fun _ _ => rfl) (fun _ _ => rfl) (fun _ _ => rfl) j l z c i
    exact ck_xb_ok (fun z c => ck_ex_ok j (l + 1) z c) (ih (by omega)) (by omega) hz (by omega)
set_option maxHeartbeats 1000000 in
set_option maxRecDepth 20000 in
theorem sp_S_exploreBehind {d : Nat} {x : am_C} {c : cS} {t : List am_C} {n : Nat} {l : Nat} {z : Int} {F : Int → cS → cS} (hl : l < cg_nL c) (hz : -90000000 ≤ z ∧ z ≤ 90000000) (hV : cV c) (hF : am_W d km_S_explore 0 [some (.ref 5), some (.int (iI ((l + 1 : Nat) : Int))), some (.int (iI z)), none, none, none] [] (hC x c t) n 0 0 (am_eq none (hC x (F z c) t) n)) : am_W (d + 1) km_S_exploreBehind 0 [some (.ref 5), some (.int (iI l)), some (.int (iI z))] [] (hC x c t) n 0 0 (am_eq none (hC x (ck_xh F l z c) t) n) := by
  have hL := hV.1.nn.2
  have hr := hV.2.2.2.1 (l + 1) (by omega)
  have hb := hV.2.2.2.2
  refine ar_iload_n kd_S_exploreBehind_0 rfl ?_
  refine ar_aload_n kd_S_exploreBehind_1 rfl ?_
  refine ar_get (ci := 4) (k := 7) kd_S_exploreBehind_2 rfl kw_143 (by decide) rfl rfl ?_
  refine ar_iload_n kd_S_exploreBehind_5 rfl ?_
  refine ar_iconst kd_S_exploreBehind_6 ?_
  refine az_iadd kd_S_exploreBehind_7 ?_
  refine az_iald kd_S_exploreBehind_8 rfl (k := l + 1) rfl (by omega) ?_
  refine az_iadd kd_S_exploreBehind_9 ?_
  refine ar_aload_n kd_S_exploreBehind_10 rfl ?_
  refine ar_get (ci := 4) (k := 8) kd_S_exploreBehind_11 rfl kw_144 (by decide) rfl rfl ?_
  refine az_icmp_ge (tg := 25) kd_S_exploreBehind_14 (by decide) (fun q1 => ?_) (fun q1 => ?_)
  · have e1 : ck_xh F l z c = c := if_neg (by omega)
    refine ar_return kd_S_exploreBehind_25 rfl (Nat.le_of_ble_eq_true rfl) (Nat.le_of_ble_eq_true rfl) ?_
    exact ⟨rfl, by rw [e1], rfl⟩
  · have e1 : ck_xh F l z c = F z c := if_pos (by omega)
    refine ar_aload_n kd_S_exploreBehind_17 rfl ?_
    refine ar_iload_n kd_S_exploreBehind_18 rfl ?_
    refine ar_iconst kd_S_exploreBehind_19 ?_
    refine az_iadd kd_S_exploreBehind_20 ?_
    refine ar_iload_n kd_S_exploreBehind_21 rfl ?_
    refine az_calls (z := km_S_explore) (As := [_, _, _]) kd_S_exploreBehind_22 kw_478 kw_479 kw_2 kz_S_explore rfl rfl rfl rfl (Nat.le_of_ble_eq_true rfl) (Nat.le_of_ble_eq_true rfl) rfl (hF) ?_
    refine ar_return kd_S_exploreBehind_25 rfl (Nat.le_of_ble_eq_true rfl) (Nat.le_of_ble_eq_true rfl) ?_
    exact ⟨rfl, by rw [e1], rfl⟩
set_option maxHeartbeats 1000000 in
set_option maxRecDepth 20000 in
theorem sp_S_explore {d : Nat} {x : am_C} {t : List am_C} {n : Nat} (j : Nat) : ∀ (l : Nat) (z : Int) (c : cS), cV c → l + j = cg_nL c → -(9000000 * (l : Int)) ≤ z ∧ z ≤ 9000000 * (l : Int) → am_W (d + 4 + 2 * j) km_S_explore 0 [some (.ref 5), some (.int (iI l)), some (.int (iI z)), none, none, none] [] (hC x c t) n 0 0 (am_eq none (hC x (ck_ex j l z c) t) n) := by
  induction j with
  | zero =>
    intro l z c hV hl hz
    have hL := hV.1.nn.2
    refine ar_iload_n kd_S_explore_0 rfl ?_
    refine ar_aload_n kd_S_explore_1 rfl ?_
    refine ar_get (ci := 4) (k := 2) kd_S_explore_2 rfl kw_138 (by decide) rfl rfl ?_
    refine ar_get (ci := 2) (k := 0) kd_S_explore_5 rfl kw_88 (by decide) rfl rfl ?_
    refine az_icmp_lt (tg := 17) kd_S_explore_8 (by decide) (fun q1 => absurd q1 (by omega)) (fun q1 => ?_)
    refine ar_aload_n kd_S_explore_11 rfl ?_
    refine ar_iload_n kd_S_explore_12 rfl ?_
    refine az_callv (z := km_S_keep) (As := [_]) (ci := 4) kd_S_explore_13 kw_481 kw_483 rfl ks_S_keep kz_S_keep rfl rfl rfl rfl rfl (Nat.le_of_ble_eq_true rfl) (Nat.le_of_ble_eq_true rfl) rfl (sp_S_keep (d := d + 3) hV.1) ?_
    refine ar_return kd_S_explore_16 rfl (Nat.le_of_ble_eq_true rfl) (Nat.le_of_ble_eq_true rfl) ?_
    exact ⟨rfl, rfl, rfl⟩
  | succ j ihj =>
    intro l z c hV hl hz
    have hL := hV.1.nn.2
    have hp := pow_ac hV.2.1 (l := l) (by omega)
    rw [show d + 4 + 2 * (j + 1) = d + 4 + 2 * j + 1 + 1 by omega]
    have loop : ∀ (f i : Nat), i ≤ 2 ^ (cg_ac c l).toNat → 2 ^ (cg_ac c l).toNat - i < f → ∀ (w : Option Value), am_W (d + 4 + 2 * j + 1 + 1) km_S_explore 29 [some (.ref 5), some (.int (iI l)), some (.int (iI z)), some (.int (iI ((2 ^ (cg_ac c l).toNat : Nat) : Int))), some (.int (iI i)), w] [] (hC x (zf (ck_xb (ck_ex j (l + 1)) l z) c i) t) n 0 0 (am_eq none (hC x (ck_ex (j + 1) l z c) t) n) := by
      intro f
      induction f with
      | zero => intro i h1 h2 w; omega
      | succ f ih =>
        intro i h1 h2 w
        have hV1 := ck_xz_ok hV hl hz i (by omega)
        have eL : cg_nL (zf (ck_xb (ck_ex j (l + 1)) l z) c i) = cg_nL c := ck_xb_keep (P := fun c => cg_nL c) (fun _ _ _ _ => rfl) (fun _ _ => rfl) (fun _ _ => rfl) (fun _ _ => rfl) j l z c i
        have hpp := pop_rg i
        have hrl := hV1.1.line (l := l) (by omega)
        refine ar_iload kd_S_explore_29 rfl ?_
        refine ar_iload_n kd_S_explore_31 rfl ?_
        refine az_icmp_ge (tg := 107) kd_S_explore_32 (by decide) (fun q1 => ?_) (fun q1 => ?_)
        · obtain rfl : i = 2 ^ (cg_ac c l).toNat := by omega
          refine ar_return kd_S_explore_107 rfl (Nat.le_of_ble_eq_true rfl) (Nat.le_of_ble_eq_true rfl) ?_
          exact ⟨rfl, rfl, rfl⟩
        · have hV2 := cV_tr (l := l) (s := i) hV1 (by omega)
          refine ar_iload kd_S_explore_35 rfl ?_
          refine az_calls (z := km_I_bitCount) (As := [_]) kd_S_explore_37 kw_485 kw_486 kw_14 kz_I_bitCount rfl rfl rfl rfl (Nat.le_of_ble_eq_true rfl) (Nat.le_of_ble_eq_true rfl) rfl (sp_I_bitCount (by omega)) ?_
          refine ar_istore kd_S_explore_40 (Nat.le_of_ble_eq_true rfl) rfl ?_
          dsimp only [List.set]
          refine ar_iload kd_S_explore_42 rfl ?_
          refine ar_aload_n kd_S_explore_44 rfl ?_
          refine ar_get (ci := 4) (k := 2) kd_S_explore_45 rfl kw_138 (by decide) rfl rfl ?_
          refine ar_get (ci := 2) (k := 4) kd_S_explore_48 rfl kw_100 (by decide) rfl rfl ?_
          refine ar_iload_n kd_S_explore_51 rfl ?_
          refine az_aald kd_S_explore_52 rfl rfl (by omega) (if_pos (by omega)) ?_
          refine ar_iconst kd_S_explore_53 ?_
          refine az_iald kd_S_explore_54 (hr_rl (by omega)) (k := 2) rfl (by omega) ?_
          refine az_icmp_gt (tg := 101) kd_S_explore_55 (by decide) (fun q2 => ?_) (fun q2 => ?_)
          · have e1 : zf (ck_xb (ck_ex j (l + 1)) l z) c (i + 1) = zf (ck_xb (ck_ex j (l + 1)) l z) c i := if_neg (by omega)
            refine az_iinc kd_S_explore_101 rfl rfl ?_
            dsimp only [List.set]
            refine ar_goto (tg := 29) kd_S_explore_104 (by decide) ?_
            have h9 := ih (i + 1) (by omega) (by omega) (some (.int (iI (pop i))))
            first | (rw [e1] at h9; exact h9) | (rw [e1, e2] at h9; exact h9)
          · have e1 : zf (ck_xb (ck_ex j (l + 1)) l z) c (i + 1) = ck_letGo (ck_xa (ck_ex j (l + 1)) l z (ck_take (cs_tr (zf (ck_xb (ck_ex j (l + 1)) l z) c i) (zu (cg_tr (zf (ck_xb (ck_ex j (l + 1)) l z) c i)) l i)) l i) i) l := if_pos (by omega)
            have hV3 := cV_take hV2 i (l := l) (by omega)
            obtain ⟨-, -, -, h4⟩ := ck_take_ok hV2.1 hV2.2.1 hV2.2.2.1 i (l := l) (by omega)
            have hlc := ck_lc_rg hV3.1 hV3.2.2.1.1.G (l := l) (by omega)
            have eL3 : cg_nL (ck_take (cs_tr (zf (ck_xb (ck_ex j (l + 1)) l z) c i) (zu (cg_tr (zf (ck_xb (ck_ex j (l + 1)) l z) c i)) l i)) l i).1 = cg_nL c := (ck_take_keep (P := fun c => cg_nL c) (fun _ _ _ _ => rfl) _ l i).trans eL
            refine ar_aload_n kd_S_explore_58 rfl ?_
            refine ar_get (ci := 4) (k := 5) kd_S_explore_59 rfl kw_141 (by decide) rfl rfl ?_
            refine ar_iload_n kd_S_explore_62 rfl ?_
            refine ar_iload kd_S_explore_63 rfl ?_
            refine az_iast kd_S_explore_65 rfl rfl rfl (by omega) ?_
            rw [hw_tr]
            refine ar_aload_n kd_S_explore_66 rfl ?_
            refine ar_iload_n kd_S_explore_67 rfl ?_
            refine ar_iload kd_S_explore_68 rfl ?_
            refine az_callv (z := km_S_take) (As := [_, _]) (ci := 4) kd_S_explore_70 kw_467 kw_469 rfl ks_S_take kz_S_take rfl rfl rfl rfl rfl (Nat.le_of_ble_eq_true rfl) (Nat.le_of_ble_eq_true rfl) rfl (am_deep (sp_S_take (d := d) (by omega) (by omega) hV2.1 hV2.2.1 hV2.2.2.1) (by omega)) ?_
            refine ar_iload kd_S_explore_73 rfl ?_
            refine az_icmp_ne (tg := 93) kd_S_explore_75 (by decide) (fun q3 => ?_) (fun q3 => ?_)
            · have e2 : ck_xa (ck_ex j (l + 1)) l z (ck_take (cs_tr (zf (ck_xb (ck_ex j (l + 1)) l z) c i) (zu (cg_tr (zf (ck_xb (ck_ex j (l + 1)) l z) c i)) l i)) l i) i = (ck_take (cs_tr (zf (ck_xb (ck_ex j (l + 1)) l z) c i) (zu (cg_tr (zf (ck_xb (ck_ex j (l + 1)) l z) c i)) l i)) l i).1 := if_neg (by omega)
              have hV4 := hV3
              refine ar_aload_n kd_S_explore_93 rfl ?_
              refine ar_get (ci := 4) (k := 0) kd_S_explore_94 rfl kw_135 (by decide) rfl rfl ?_
              refine ar_iload_n kd_S_explore_97 rfl ?_
              refine az_callv (z := km_F_letGo) (As := [_]) (ci := 1) kd_S_explore_98 kw_475 kw_441 rfl ks_F_letGo kz_F_letGo rfl rfl rfl rfl rfl (Nat.le_of_ble_eq_true rfl) (Nat.le_of_ble_eq_true rfl) rfl (sp_F_letGo (d := d + 4 + 2 * j) (by omega) hV4.1) ?_
              refine az_iinc kd_S_explore_101 rfl rfl ?_
              dsimp only [List.set]
              refine ar_goto (tg := 29) kd_S_explore_104 (by decide) ?_
              have h9 := ih (i + 1) (by omega) (by omega) (some (.int (iI (pop i))))
              first | (rw [e1] at h9; exact h9) | (rw [e1, e2] at h9; exact h9)
            · have e2 : ck_xa (ck_ex j (l + 1)) l z (ck_take (cs_tr (zf (ck_xb (ck_ex j (l + 1)) l z) c i) (zu (cg_tr (zf (ck_xb (ck_ex j (l + 1)) l z) c i)) l i)) l i) i = ck_xh (ck_ex j (l + 1)) l (z + ck_lc (ck_take (cs_tr (zf (ck_xb (ck_ex j (l + 1)) l z) c i) (zu (cg_tr (zf (ck_xb (ck_ex j (l + 1)) l z) c i)) l i)) l i).1 l) (ck_take (cs_tr (zf (ck_xb (ck_ex j (l + 1)) l z) c i) (zu (cg_tr (zf (ck_xb (ck_ex j (l + 1)) l z) c i)) l i)) l i).1 := if_pos (by omega)
              have hV4 : cV (ck_xh (ck_ex j (l + 1)) l (z + ck_lc (ck_take (cs_tr (zf (ck_xb (ck_ex j (l + 1)) l z) c i) (zu (cg_tr (zf (ck_xb (ck_ex j (l + 1)) l z) c i)) l i)) l i).1 l) (ck_take (cs_tr (zf (ck_xb (ck_ex j (l + 1)) l z) c i) (zu (cg_tr (zf (ck_xb (ck_ex j (l + 1)) l z) c i)) l i)) l i).1) := by
                unfold ck_xh
                split
                · exact ck_ex_ok j (l + 1) _ _ hV3 (by omega) (by omega)
                · exact hV3
              refine ar_aload_n kd_S_explore_78 rfl ?_
              refine ar_iload_n kd_S_explore_79 rfl ?_
              refine ar_iload_n kd_S_explore_80 rfl ?_
              refine ar_aload_n kd_S_explore_81 rfl ?_
              refine ar_get (ci := 4) (k := 0) kd_S_explore_82 rfl kw_135 (by decide) rfl rfl ?_
              refine ar_iload_n kd_S_explore_85 rfl ?_
              refine az_callv (z := km_F_lineCost) (As := [_]) (ci := 1) kd_S_explore_86 kw_491 kw_245 rfl ks_F_lineCost kz_F_lineCost rfl rfl rfl rfl rfl (Nat.le_of_ble_eq_true rfl) (Nat.le_of_ble_eq_true rfl) rfl (sp_F_lineCostC (d := d + 4 + 2 * j) (by omega) hV3.1 hV3.2.2.1.1.G) ?_
              refine az_iadd kd_S_explore_89 ?_
              refine az_calls (z := km_S_exploreBehind) (As := [_, _, _]) kd_S_explore_90 kw_492 kw_493 kw_2 kz_S_exploreBehind rfl rfl rfl rfl (Nat.le_of_ble_eq_true rfl) (Nat.le_of_ble_eq_true rfl) rfl (sp_S_exploreBehind (F := ck_ex j (l + 1)) (by omega) (by omega) hV3 (ihj (l + 1) _ _ hV3 (by omega) (by omega))) ?_
              refine ar_aload_n kd_S_explore_93 rfl ?_
              refine ar_get (ci := 4) (k := 0) kd_S_explore_94 rfl kw_135 (by decide) rfl rfl ?_
              refine ar_iload_n kd_S_explore_97 rfl ?_
              refine az_callv (z := km_F_letGo) (As := [_]) (ci := 1) kd_S_explore_98 kw_475 kw_441 rfl ks_F_letGo kz_F_letGo rfl rfl rfl rfl rfl (Nat.le_of_ble_eq_true rfl) (Nat.le_of_ble_eq_true rfl) rfl (sp_F_letGo (d := d + 4 + 2 * j) (by omega) hV4.1) ?_
              refine az_iinc kd_S_explore_101 rfl rfl ?_
              dsimp only [List.set]
              refine ar_goto (tg := 29) kd_S_explore_104 (by decide) ?_
              have h9 := ih (i + 1) (by omega) (by omega) (some (.int (iI (pop i))))
              first | (rw [e1] at h9; exact h9) | (rw [e1, e2] at h9; exact h9)
    have hac := (hV.2.1 l (by omega)).1
    have eac : cg_ac c l = (((cg_ac c l).toNat : Nat) : Int) := (Int.toNat_of_nonneg hac.1).symm
    refine ar_iload_n kd_S_explore_0 rfl ?_
    refine ar_aload_n kd_S_explore_1 rfl ?_
    refine ar_get (ci := 4) (k := 2) kd_S_explore_2 rfl kw_138 (by decide) rfl rfl ?_
    refine ar_get (ci := 2) (k := 0) kd_S_explore_5 rfl kw_88 (by decide) rfl rfl ?_
    refine az_icmp_lt (tg := 17) kd_S_explore_8 (by decide) (fun q1 => ?_) (fun q1 => absurd (by omega) q1)
    refine ar_iconst kd_S_explore_17 ?_
    refine ar_aload_n kd_S_explore_18 rfl ?_
    refine ar_get (ci := 4) (k := 4) kd_S_explore_19 rfl kw_140 (by decide) rfl rfl ?_
    refine ar_iload_n kd_S_explore_22 rfl ?_
    refine az_iald kd_S_explore_23 rfl rfl (by omega) ?_
    refine ar_ishl kd_S_explore_24 ?_
    rw [show iI (cg_ac c l) = iI (((cg_ac c l).toNat : Nat) : Int) from congrArg iI eac, ib_shl (by omega)]
    refine ar_istore_n kd_S_explore_25 (Nat.le_of_ble_eq_true rfl) rfl ?_
    dsimp only [List.set]
    refine ar_iconst kd_S_explore_26 ?_
    refine ar_istore kd_S_explore_27 (Nat.le_of_ble_eq_true rfl) rfl ?_
    dsimp only [List.set]
    exact loop (2 ^ (cg_ac c l).toNat + 1) 0 (Nat.zero_le _) (Nat.lt_succ_self _) _
