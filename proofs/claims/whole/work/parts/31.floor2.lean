/-! the floor, on: minima, choices, gifts, letting go -/
/-- as Math.max and Math.min have it -/
def zx (a b : Int) : Int := if a < b then b else a
def zn (a b : Int) : Int := if b < a then b else a
theorem ii_max {a b : Int} (ha : -2147483648 ≤ a ∧ a < 2147483648) (hb : -2147483648 ≤ b ∧ b < 2147483648) : (if iI a < iI b then iI b else iI a) = iI (zx a b) := by
  unfold zx
  by_cases h : a < b
  · rw [if_pos h, if_pos ((ii_lt ha hb).mpr h)]
  · rw [if_neg h, if_neg (fun q => h ((ii_lt ha hb).mp q))]
theorem ii_min {a b : Int} (ha : -2147483648 ≤ a ∧ a < 2147483648) (hb : -2147483648 ≤ b ∧ b < 2147483648) : (if iI b < iI a then iI b else iI a) = iI (zn a b) := by
  unfold zn
  by_cases h : b < a
  · rw [if_pos h, if_pos ((ii_lt hb ha).mpr h)]
  · rw [if_neg h, if_neg (fun q => h ((ii_lt hb ha).mp q))]
def ck_mx (c : cS) (l : Nat) : Nat → Int
  | 0 => 0
  | k + 1 => zx (ck_mx c l k) (ck_pass c l k)
theorem ck_mx_rg (c : cS) (l : Nat) : ∀ k, 0 ≤ ck_mx c l k ∧ ck_mx c l k ≤ 4
  | 0 => by simp [ck_mx]
  | k + 1 => by
    have h1 := ck_mx_rg c l k
    have h2 := ck_pass_rg c l k
    simp only [ck_mx, zx]
    split <;> omega
def ck_fb (c : cS) (l : Nat) : Int := if ck_mx c l (cg_nT c) = 4 then 0 else ck_mx c l (cg_nT c) + 1
set_option maxHeartbeats 1000000 in
set_option maxRecDepth 20000 in
theorem sp_F_firstBar {d : Nat} {x : am_C} {c : cS} {t : List am_C} {n : Nat} {l : Nat} (hl : l < 6) (hK : cK c) (hG : cG c) : am_W (d + 2) km_F_firstBar 0 [some (.ref 6), some (.int (iI l)), none, none] [] (hC x c t) n 0 0 (am_eq (some (.int (iI (ck_fb c l)))) (hC x c t) n) := by
  obtain ⟨hT, hL⟩ := hK.nn
  have loop : ∀ (f i : Nat), i ≤ cg_nT c → cg_nT c - i < f → am_W (d + 2) km_F_firstBar 4 [some (.ref 6), some (.int (iI l)), some (.int (iI (ck_mx c l i))), some (.int (iI i))] [] (hC x c t) n 0 0 (am_eq (some (.int (iI (ck_fb c l)))) (hC x c t) n) := by
    intro f
    induction f with
    | zero => intro i h1 h2; omega
    | succ f ih =>
      intro i h1 h2
      refine ar_iload_n kd_F_firstBar_4 rfl ?_
      refine ar_aload_n kd_F_firstBar_5 rfl ?_
      refine ar_get (ci := 1) (k := 0) kd_F_firstBar_6 rfl kw_123 (by decide) rfl rfl ?_
      refine ar_get (ci := 3) (k := 0) kd_F_firstBar_9 rfl kw_46 (by decide) rfl rfl ?_
      refine az_icmp_ge (tg := 32) kd_F_firstBar_12 (by decide) (fun q1 => ?_) (fun q1 => ?_)
      · obtain rfl : i = cg_nT c := by omega
        refine ar_iload_n kd_F_firstBar_32 rfl ?_
        refine ar_iconst kd_F_firstBar_33 ?_
        have hm := ck_mx_rg c l (cg_nT c)
        refine az_icmp_ne (tg := 41) kd_F_firstBar_34 (by decide) (fun q2 => ?_) (fun q2 => ?_)
        · have e1 : ck_fb c l = ck_mx c l (cg_nT c) + 1 := if_neg q2
          refine ar_iload_n kd_F_firstBar_41 rfl ?_
          refine ar_iconst kd_F_firstBar_42 ?_
          refine az_iadd kd_F_firstBar_43 ?_
          refine ar_ireturn kd_F_firstBar_44 rfl (Nat.le_of_ble_eq_true rfl) (Nat.le_of_ble_eq_true rfl) ?_
          first | exact ⟨rfl, rfl, rfl⟩ | exact ⟨by rw [e1], rfl, rfl⟩
        · have e1 : ck_fb c l = 0 := if_pos q2
          refine ar_iconst kd_F_firstBar_37 ?_
          refine ar_goto (tg := 44) kd_F_firstBar_38 (by decide) ?_
          refine ar_ireturn kd_F_firstBar_44 rfl (Nat.le_of_ble_eq_true rfl) (Nat.le_of_ble_eq_true rfl) ?_
          first | exact ⟨rfl, rfl, rfl⟩ | exact ⟨by rw [e1], rfl, rfl⟩
      · refine ar_iload_n kd_F_firstBar_15 rfl ?_
        refine ar_aload_n kd_F_firstBar_16 rfl ?_
        refine ar_iload_n kd_F_firstBar_17 rfl ?_
        refine ar_iload_n kd_F_firstBar_18 rfl ?_
        refine az_callv (z := km_F_barsPassed) (As := [_, _]) (ci := 1) kd_F_firstBar_19 kw_196 kw_198 rfl ks_F_barsPassed kz_F_barsPassed rfl rfl rfl rfl rfl (Nat.le_of_ble_eq_true rfl) (Nat.le_of_ble_eq_true rfl) rfl (sp_F_barsPassed hl (by omega) hK hG) ?_
        refine ar_max kd_F_firstBar_22 kw_534 kw_535 kw_13 kw_536 rfl (Nat.le_of_ble_eq_true rfl) (Nat.zero_le _) (Nat.zero_le _) ?_
        rw [ii_max (by have := ck_mx_rg c l i; omega) (by have := ck_pass_rg c l i; omega)]
        refine ar_istore_n kd_F_firstBar_25 (Nat.le_of_ble_eq_true rfl) rfl ?_
        dsimp only [List.set]
        refine az_iinc kd_F_firstBar_26 rfl rfl ?_
        dsimp only [List.set]
        refine ar_goto (tg := 4) kd_F_firstBar_29 (by decide) ?_
        exact ih (i + 1) (by omega) (by omega)
  refine ar_iconst kd_F_firstBar_0 ?_
  refine ar_istore_n kd_F_firstBar_1 (Nat.le_of_ble_eq_true rfl) rfl ?_
  dsimp only [List.set]
  refine ar_iconst kd_F_firstBar_2 ?_
  refine ar_istore_n kd_F_firstBar_3 (Nat.le_of_ble_eq_true rfl) rfl ?_
  dsimp only [List.set]
  exact loop (cg_nT c + 1) 0 (by omega) (by omega)
/-- allowed lots of a line among the first j; of all lines before i -/
def ck_ln (c : cS) (l : Nat) : Nat → Nat
  | 0 => 0
  | j + 1 => ck_ln c l j + (if ck_all c l j then 1 else 0)
def ck_na (c : cS) : Nat → Nat
  | 0 => 0
  | i + 1 => ck_na c i + ck_ln c i (cg_nT c)
theorem ck_ln_mono (c : cS) (l : Nat) {a b : Nat} (h : a ≤ b) : ck_ln c l a ≤ ck_ln c l b := by
  induction b with
  | zero => have : a = 0 := by omega
            subst this; exact Nat.le_refl _
  | succ b ih =>
    rcases Nat.lt_or_ge a (b + 1) with q | q
    · have := ih (by omega)
      simp only [ck_ln]
      omega
    · have : a = b + 1 := by omega
      subst this; exact Nat.le_refl _
theorem ck_na_mono (c : cS) {a b : Nat} (h : a ≤ b) : ck_na c a ≤ ck_na c b := by
  induction b with
  | zero => have : a = 0 := by omega
            subst this; exact Nat.le_refl _
  | succ b ih =>
    rcases Nat.lt_or_ge a (b + 1) with q | q
    · have := ih (by omega)
      simp only [ck_na]
      omega
    · have : a = b + 1 := by omega
      subst this; exact Nat.le_refl _
def ck_ch (c : cS) : Int := if (1000000 : Int) < ((2 ^ ck_na c (cg_nL c) : Nat) : Int) then -1 else ((2 ^ ck_na c (cg_nL c) : Nat) : Int)
theorem ck_ch_out (c : cS) {i j : Nat} (hi : i < cg_nL c) (hj : j ≤ cg_nT c) (h : (1000000 : Int) < ((2 ^ (ck_na c i + ck_ln c i j) : Nat) : Int)) : ck_ch c = -1 := by
  have h1 : ck_na c i + ck_ln c i j ≤ ck_na c (cg_nL c) := by
    have e1 := ck_ln_mono c i hj
    have e2 := ck_na_mono c (a := i + 1) (b := cg_nL c) (by omega)
    simp only [ck_na] at e2
    omega
  have h2 := Nat.pow_le_pow_right (n := 2) (by decide) h1
  unfold ck_ch
  rw [if_pos (by omega)]
theorem ck_pow2 (a : Nat) : ((2 ^ a : Nat) : Int) * 2 = ((2 ^ (a + 1) : Nat) : Int) := by
  rw [Nat.pow_succ, Int.natCast_mul]
  rfl
set_option maxHeartbeats 1000000 in
set_option maxRecDepth 20000 in
theorem sp_F_countChoices {d : Nat} {x : am_C} {c : cS} {t : List am_C} {n : Nat} (hK : cK c) (hG : cG c) : am_W (d + 3) km_F_countChoices 0 [some (.ref 6), none, none, none] [] (hC x c t) n 0 0 (am_eq (some (.int (iI (ck_ch c)))) (hC x c t) n) := by
  obtain ⟨hT, hL⟩ := hK.nn
  have loop : ∀ (f i : Nat), i ≤ cg_nL c → cg_nL c - i < f → ((2 ^ ck_na c i : Nat) : Int) ≤ 1000000 → ∀ w : Option Value, am_W (d + 3) km_F_countChoices 4 [some (.ref 6), some (.int (iI ((2 ^ ck_na c i : Nat) : Int))), some (.int (iI i)), w] [] (hC x c t) n 0 0 (am_eq (some (.int (iI (ck_ch c)))) (hC x c t) n) := by
    intro f
    induction f with
    | zero => intro i h1 h2; omega
    | succ f ih =>
      intro i h1 h2 hp w
      have loopj : ∀ (g j : Nat), j ≤ cg_nT c → cg_nT c - j < g → ((2 ^ (ck_na c i + ck_ln c i j) : Nat) : Int) ≤ 1000000 → i < cg_nL c → am_W (d + 3) km_F_countChoices 17 [some (.ref 6), some (.int (iI ((2 ^ (ck_na c i + ck_ln c i j) : Nat) : Int))), some (.int (iI i)), some (.int (iI j))] [] (hC x c t) n 0 0 (am_eq (some (.int (iI (ck_ch c)))) (hC x c t) n) := by
        intro g
        induction g with
        | zero => intro j h3 h4; omega
        | succ g ihj =>
          intro j h3 h4 hp hi
          refine ar_iload_n kd_F_countChoices_17 rfl ?_
          refine ar_aload_n kd_F_countChoices_18 rfl ?_
          refine ar_get (ci := 1) (k := 0) kd_F_countChoices_19 rfl kw_123 (by decide) rfl rfl ?_
          refine ar_get (ci := 3) (k := 0) kd_F_countChoices_22 rfl kw_46 (by decide) rfl rfl ?_
          refine az_icmp_ge (tg := 55) kd_F_countChoices_25 (by decide) (fun qb => ?_) (fun qb => ?_)
          · obtain rfl : j = cg_nT c := by omega
            have e9 : ck_na c i + ck_ln c i (cg_nT c) = ck_na c (i + 1) := rfl
            refine az_iinc kd_F_countChoices_55 rfl rfl ?_
            dsimp only [List.set]
            refine ar_goto (tg := 4) kd_F_countChoices_58 (by decide) ?_
            exact ih (i + 1) (by omega) (by omega) (by simpa [ck_na] using hp) _
          · refine ar_aload_n kd_F_countChoices_28 rfl ?_
            refine ar_iload_n kd_F_countChoices_29 rfl ?_
            refine ar_iload_n kd_F_countChoices_30 rfl ?_
            refine az_callv (z := km_F_allows) (As := [_, _]) (ci := 1) kd_F_countChoices_31 kw_192 kw_193 rfl ks_F_allows kz_F_allows rfl rfl rfl rfl rfl (Nat.le_of_ble_eq_true rfl) (Nat.le_of_ble_eq_true rfl) rfl (sp_F_allows (by omega) (by omega) hK hG) ?_
            refine az_if_eq (tg := 41) kd_F_countChoices_34 (by decide) (fun qc => ?_) (fun qc => ?_) (by unfold zb; split <;> omega)
            · have hb : ¬ ck_all c i j := fun q => by simp [zb, q] at qc
              have e1 : ck_ln c i (j + 1) = ck_ln c i j := by simp [ck_ln, hb]
              rw [← e1]
              refine ar_iload_n kd_F_countChoices_41 rfl ?_
              refine az_ldc (u := 1000000) kd_F_countChoices_42 kw_204 (by decide) ?_
              have hp2 : 0 ≤ ((2 ^ (ck_na c i + ck_ln c i (j + 1)) : Nat) : Int) ∧ ((2 ^ (ck_na c i + ck_ln c i (j + 1)) : Nat) : Int) ≤ 2000000 := by
                rw [e1]
                refine ⟨Int.natCast_nonneg _, ?_⟩
                first | exact Int.le_trans hp (by omega) | (rw [← Nat.add_assoc, ← ck_pow2]; omega)
              refine az_icmp_le (tg := 49) kd_F_countChoices_44 (by decide) (fun qd => ?_) (fun qd => ?_)
              · refine az_iinc kd_F_countChoices_49 rfl rfl ?_
                dsimp only [List.set]
                refine ar_goto (tg := 17) kd_F_countChoices_52 (by decide) ?_
                exact ihj (j + 1) (by omega) (by omega) (by omega) hi
              · have e2 : ck_ch c = -1 := ck_ch_out c (i := i) (j := j + 1) (by omega) (by omega) (by omega)
                refine ar_iconst kd_F_countChoices_47 ?_
                refine ar_ireturn kd_F_countChoices_48 rfl (Nat.le_of_ble_eq_true rfl) (Nat.le_of_ble_eq_true rfl) ?_
                exact ⟨by rw [e2], rfl, rfl⟩
            · have hb : ck_all c i j := Decidable.byContradiction fun q => qc (if_neg q)
              have e1 : ck_ln c i (j + 1) = ck_ln c i j + 1 := by simp [ck_ln, hb]
              refine ar_iload_n kd_F_countChoices_37 rfl ?_
              refine ar_iconst kd_F_countChoices_38 ?_
              refine az_imul kd_F_countChoices_39 ?_
              rw [ck_pow2, Nat.add_assoc (ck_na c i), ← e1]
              refine ar_istore_n kd_F_countChoices_40 (Nat.le_of_ble_eq_true rfl) rfl ?_
              dsimp only [List.set]
              refine ar_iload_n kd_F_countChoices_41 rfl ?_
              refine az_ldc (u := 1000000) kd_F_countChoices_42 kw_204 (by decide) ?_
              have hp2 : 0 ≤ ((2 ^ (ck_na c i + ck_ln c i (j + 1)) : Nat) : Int) ∧ ((2 ^ (ck_na c i + ck_ln c i (j + 1)) : Nat) : Int) ≤ 2000000 := by
                rw [e1]
                refine ⟨Int.natCast_nonneg _, ?_⟩
                first | exact Int.le_trans hp (by omega) | (rw [← Nat.add_assoc, ← ck_pow2]; omega)
              refine az_icmp_le (tg := 49) kd_F_countChoices_44 (by decide) (fun qd => ?_) (fun qd => ?_)
              · refine az_iinc kd_F_countChoices_49 rfl rfl ?_
                dsimp only [List.set]
                refine ar_goto (tg := 17) kd_F_countChoices_52 (by decide) ?_
                exact ihj (j + 1) (by omega) (by omega) (by omega) hi
              · have e2 : ck_ch c = -1 := ck_ch_out c (i := i) (j := j + 1) (by omega) (by omega) (by omega)
                refine ar_iconst kd_F_countChoices_47 ?_
                refine ar_ireturn kd_F_countChoices_48 rfl (Nat.le_of_ble_eq_true rfl) (Nat.le_of_ble_eq_true rfl) ?_
                exact ⟨by rw [e2], rfl, rfl⟩
      refine ar_iload_n kd_F_countChoices_4 rfl ?_
      refine ar_aload_n kd_F_countChoices_5 rfl ?_
      refine ar_get (ci := 1) (k := 1) kd_F_countChoices_6 rfl kw_126 (by decide) rfl rfl ?_
      refine ar_get (ci := 2) (k := 0) kd_F_countChoices_9 rfl kw_90 (by decide) rfl rfl ?_
      refine az_icmp_ge (tg := 61) kd_F_countChoices_12 (by decide) (fun qa => ?_) (fun qa => ?_)
      · obtain rfl : i = cg_nL c := by omega
        refine ar_iload_n kd_F_countChoices_61 rfl ?_
        have e3 : ck_ch c = ((2 ^ ck_na c (cg_nL c) : Nat) : Int) := if_neg (by omega)
        refine ar_ireturn kd_F_countChoices_62 rfl (Nat.le_of_ble_eq_true rfl) (Nat.le_of_ble_eq_true rfl) ?_
        exact ⟨by rw [e3], rfl, rfl⟩
      · refine ar_iconst kd_F_countChoices_15 ?_
        refine ar_istore_n kd_F_countChoices_16 (Nat.le_of_ble_eq_true rfl) rfl ?_
        dsimp only [List.set]
        exact loopj (cg_nT c + 1) 0 (by omega) (by omega) (by simpa [ck_ln] using hp) (by omega)
  refine ar_iconst kd_F_countChoices_0 ?_
  refine ar_istore_n kd_F_countChoices_1 (Nat.le_of_ble_eq_true rfl) rfl ?_
  dsimp only [List.set]
  refine ar_iconst kd_F_countChoices_2 ?_
  refine ar_istore_n kd_F_countChoices_3 (Nat.le_of_ble_eq_true rfl) rfl ?_
  dsimp only [List.set]
  exact loop (cg_nL c + 1) 0 (by omega) (by omega) (by simp [ck_na]) _
/-- the least that a line can cost, over the first k lots -/
def ck_lb (c : cS) (l : Nat) : Nat → Int
  | 0 => 1000 * cg_lw c l
  | k + 1 => if ck_all c l k then zn (ck_lb c l k) (ck_cost c l k * cg_lw c l + 20) else ck_lb c l k
theorem ck_cost_rg {c : cS} (hK : cK c) {l k : Nat} (hl : l < 6) (hk : k < 8) : 0 ≤ ck_cost c l k ∧ ck_cost c l k ≤ 1000 := by
  have h1 := hK.told hl hk
  have h2 := hK.lot hk
  unfold ck_cost
  split <;> omega
theorem ck_cw_rg {c : cS} (hK : cK c) {l k : Nat} (hl : l < 6) (hk : k < 8) : 0 ≤ ck_cost c l k * cg_lw c l ∧ ck_cost c l k * cg_lw c l ≤ 200000 := by
  have h1 := ck_cost_rg hK hl hk
  have h2 := hK.line hl
  have h3 : 0 ≤ cg_lw c l ∧ cg_lw c l ≤ 200 := h2.2.1
  refine ⟨Int.mul_nonneg h1.1 h3.1, ?_⟩
  have := Int.mul_le_mul h1.2 h3.2 h3.1 (by omega)
  omega
theorem ck_lb_rg {c : cS} (hK : cK c) {l : Nat} (hl : l < 6) : ∀ k, k ≤ 8 → 0 ≤ ck_lb c l k ∧ ck_lb c l k ≤ 200000
  | 0, _ => by
    have h2 := hK.line hl
    simp only [ck_lb]
    omega
  | k + 1, hk => by
    have h1 := ck_lb_rg hK hl k (by omega)
    have h2 := ck_cw_rg hK hl (k := k) (by omega)
    simp only [ck_lb, zn]
    split
    · split <;> omega
    · omega
set_option maxHeartbeats 1000000 in
set_option maxRecDepth 20000 in
theorem sp_F_lineBound {d : Nat} {x : am_C} {c : cS} {t : List am_C} {n : Nat} {l : Nat} (hl : l < 6) (hK : cK c) (hG : cG c) : am_W (d + 3) km_F_lineBound 0 [some (.ref 6), some (.int (iI l)), none, none, none] [] (hC x c t) n 0 0 (am_eq (some (.int (iI (ck_lb c l (cg_nT c))))) (hC x c t) n) := by
  obtain ⟨hT, hL⟩ := hK.nn
  have loop : ∀ (f i : Nat), i ≤ cg_nT c → cg_nT c - i < f → am_W (d + 3) km_F_lineBound 19 [some (.ref 6), some (.int (iI l)), some (.int (iI (cg_lw c l))), some (.int (iI (ck_lb c l i))), some (.int (iI i))] [] (hC x c t) n 0 0 (am_eq (some (.int (iI (ck_lb c l (cg_nT c))))) (hC x c t) n) := by
    intro f
    induction f with
    | zero => intro i h1 h2; omega
    | succ f ih =>
      intro i h1 h2
      refine ar_iload kd_F_lineBound_19 rfl ?_
      refine ar_aload_n kd_F_lineBound_21 rfl ?_
      refine ar_get (ci := 1) (k := 0) kd_F_lineBound_22 rfl kw_123 (by decide) rfl rfl ?_
      refine ar_get (ci := 3) (k := 0) kd_F_lineBound_25 rfl kw_46 (by decide) rfl rfl ?_
      refine az_icmp_ge (tg := 64) kd_F_lineBound_28 (by decide) (fun q1 => ?_) (fun q1 => ?_)
      · obtain rfl : i = cg_nT c := by omega
        refine ar_iload_n kd_F_lineBound_64 rfl ?_
        refine ar_ireturn kd_F_lineBound_65 rfl (Nat.le_of_ble_eq_true rfl) (Nat.le_of_ble_eq_true rfl) ?_
        first | exact ⟨rfl, rfl, rfl⟩ | exact ⟨by rw [e1], rfl, rfl⟩
      · refine ar_aload_n kd_F_lineBound_31 rfl ?_
        refine ar_iload_n kd_F_lineBound_32 rfl ?_
        refine ar_iload kd_F_lineBound_33 rfl ?_
        refine az_callv (z := km_F_allows) (As := [_, _]) (ci := 1) kd_F_lineBound_35 kw_192 kw_193 rfl ks_F_allows kz_F_allows rfl rfl rfl rfl rfl (Nat.le_of_ble_eq_true rfl) (Nat.le_of_ble_eq_true rfl) rfl (sp_F_allows hl (by omega) hK hG) ?_
        refine az_if_eq (tg := 58) kd_F_lineBound_38 (by decide) (fun qc => ?_) (fun qc => ?_) (by unfold zb; split <;> omega)
        · have hb : ¬ ck_all c l i := fun q => by simp [zb, q] at qc
          have e1 : ck_lb c l i = ck_lb c l (i + 1) := by simp [ck_lb, hb]
          refine az_iinc kd_F_lineBound_58 rfl rfl ?_
          dsimp only [List.set]
          refine ar_goto (tg := 19) kd_F_lineBound_61 (by decide) ?_
          first | exact ih (i + 1) (by omega) (by omega) | (rw [e1]; exact ih (i + 1) (by omega) (by omega))
        · have hb : ck_all c l i := Decidable.byContradiction fun q => qc (if_neg q)
          have e1 : zn (ck_lb c l i) (ck_cost c l i * cg_lw c l + 20) = ck_lb c l (i + 1) := by simp [ck_lb, hb]
          refine ar_iload_n kd_F_lineBound_41 rfl ?_
          refine ar_aload_n kd_F_lineBound_42 rfl ?_
          refine ar_iload_n kd_F_lineBound_43 rfl ?_
          refine ar_iload kd_F_lineBound_44 rfl ?_
          refine az_callv (z := km_F_pieceCost) (As := [_, _]) (ci := 1) kd_F_lineBound_46 kw_213 kw_214 rfl ks_F_pieceCost kz_F_pieceCost rfl rfl rfl rfl rfl (Nat.le_of_ble_eq_true rfl) (Nat.le_of_ble_eq_true rfl) rfl (sp_F_pieceCost (d := d + 2) hl (by omega) hK) ?_
          refine ar_iload_n kd_F_lineBound_49 rfl ?_
          refine az_imul kd_F_lineBound_50 ?_
          refine az_bipush kd_F_lineBound_51 (by decide) ?_
          refine az_iadd kd_F_lineBound_53 ?_
          refine ar_min kd_F_lineBound_54 kw_217 kw_218 kw_13 kw_219 rfl (Nat.le_of_ble_eq_true rfl) (Nat.zero_le _) (Nat.zero_le _) ?_
          rw [ii_min (by have := ck_lb_rg hK hl i (by omega); omega) (by have := ck_cw_rg hK hl (k := i) (by omega); omega)]
          refine ar_istore_n kd_F_lineBound_57 (Nat.le_of_ble_eq_true rfl) rfl ?_
          dsimp only [List.set]
          refine az_iinc kd_F_lineBound_58 rfl rfl ?_
          dsimp only [List.set]
          refine ar_goto (tg := 19) kd_F_lineBound_61 (by decide) ?_
          first | exact ih (i + 1) (by omega) (by omega) | (rw [e1]; exact ih (i + 1) (by omega) (by omega))
  refine ar_aload_n kd_F_lineBound_0 rfl ?_
  refine ar_get (ci := 1) (k := 1) kd_F_lineBound_1 rfl kw_126 (by decide) rfl rfl ?_
  refine ar_get (ci := 2) (k := 2) kd_F_lineBound_4 rfl kw_94 (by decide) rfl rfl ?_
  refine ar_iload_n kd_F_lineBound_7 rfl ?_
  refine az_iald kd_F_lineBound_8 rfl rfl (by omega) ?_
  refine ar_istore_n kd_F_lineBound_9 (Nat.le_of_ble_eq_true rfl) rfl ?_
  dsimp only [List.set]
  refine az_sipush kd_F_lineBound_10 (by decide) ?_
  refine ar_iload_n kd_F_lineBound_13 rfl ?_
  refine az_imul kd_F_lineBound_14 ?_
  refine ar_istore_n kd_F_lineBound_15 (Nat.le_of_ble_eq_true rfl) rfl ?_
  dsimp only [List.set]
  refine ar_iconst kd_F_lineBound_16 ?_
  refine ar_istore kd_F_lineBound_17 (Nat.le_of_ble_eq_true rfl) rfl ?_
  dsimp only [List.set]
  exact loop (cg_nT c + 1) 0 (by omega) (by omega)
/-- the lot of the gift with number z, from place k of the order on, m places to go, b gifts before; or -1 -/
def ck_gf (c : cS) (l : Nat) (z : Int) : Nat → Nat → Int → Int
  | 0, _, _ => -1
  | m + 1, k, b => if 0 < cg_gi c l (cg_od c k).toNat then (if b = z then cg_od c k else ck_gf c l z m (k + 1) (b + 1)) else ck_gf c l z m (k + 1) b
set_option maxHeartbeats 1000000 in
set_option maxRecDepth 20000 in
theorem sp_F_lotOfGift {d : Nat} {x : am_C} {c : cS} {t : List am_C} {n : Nat} {l : Nat} {z : Int} (hl : l < 6) (hz : -2147483648 ≤ z ∧ z < 2147483648) (hK : cK c) (hG : cG c) : am_W d km_F_lotOfGift 0 [some (.ref 6), some (.int (iI l)), some (.int (iI z)), none, none, none] [] (hC x c t) n 0 0 (am_eq (some (.int (iI (ck_gf c l z (cg_nT c) 0 0)))) (hC x c t) n) := by
  obtain ⟨hT, hL⟩ := hK.nn
  have loop : ∀ (f i : Nat), i ≤ cg_nT c → cg_nT c - i < f → ∀ (b : Int) (w : Option Value), 0 ≤ b → b ≤ i → ck_gf c l z (cg_nT c) 0 0 = ck_gf c l z (cg_nT c - i) i b → am_W d km_F_lotOfGift 5 [some (.ref 6), some (.int (iI l)), some (.int (iI z)), some (.int (iI b)), some (.int (iI i)), w] [] (hC x c t) n 0 0 (am_eq (some (.int (iI (ck_gf c l z (cg_nT c) 0 0)))) (hC x c t) n) := by
    intro f
    induction f with
    | zero => intro i h1 h2; omega
    | succ f ih =>
      intro i h1 h2 b w hb1 hb2 hb3
      refine ar_iload kd_F_lotOfGift_5 rfl ?_
      refine ar_aload_n kd_F_lotOfGift_7 rfl ?_
      refine ar_get (ci := 1) (k := 0) kd_F_lotOfGift_8 rfl kw_123 (by decide) rfl rfl ?_
      refine ar_get (ci := 3) (k := 0) kd_F_lotOfGift_11 rfl kw_46 (by decide) rfl rfl ?_
      refine az_icmp_ge (tg := 61) kd_F_lotOfGift_14 (by decide) (fun q1 => ?_) (fun q1 => ?_)
      · have e1 : ck_gf c l z (cg_nT c) 0 0 = -1 := by
          rw [hb3, show cg_nT c - i = 0 by omega]
          rfl
        refine ar_iconst kd_F_lotOfGift_61 ?_
        refine ar_ireturn kd_F_lotOfGift_62 rfl (Nat.le_of_ble_eq_true rfl) (Nat.le_of_ble_eq_true rfl) ?_
        first | exact ⟨rfl, rfl, rfl⟩ | exact ⟨by rw [e1], rfl, rfl⟩
      · have hs : cg_nT c - i = (cg_nT c - (i + 1)) + 1 := by omega
        have hot := hK.lot (k := i) (by omega)
        have hgi := hG.gi (l := l) (k := (cg_od c i).toNat) hl (by omega)
        refine ar_aload_n kd_F_lotOfGift_17 rfl ?_
        refine ar_get (ci := 1) (k := 0) kd_F_lotOfGift_18 rfl kw_123 (by decide) rfl rfl ?_
        refine ar_get (ci := 3) (k := 6) kd_F_lotOfGift_21 rfl kw_62 (by decide) rfl rfl ?_
        refine ar_iload kd_F_lotOfGift_24 rfl ?_
        refine az_iald kd_F_lotOfGift_26 rfl rfl (by omega) ?_
        refine ar_istore kd_F_lotOfGift_27 (Nat.le_of_ble_eq_true rfl) rfl ?_
        dsimp only [List.set]
        refine ar_aload_n kd_F_lotOfGift_29 rfl ?_
        refine ar_get (ci := 1) (k := 1) kd_F_lotOfGift_30 rfl kw_126 (by decide) rfl rfl ?_
        refine ar_get (ci := 2) (k := 6) kd_F_lotOfGift_33 rfl kw_106 (by decide) rfl rfl ?_
        refine ar_iload_n kd_F_lotOfGift_36 rfl ?_
        refine az_aald kd_F_lotOfGift_37 rfl rfl (by omega) (if_pos (by omega)) ?_
        refine ar_iload kd_F_lotOfGift_38 rfl ?_
        refine az_iald kd_F_lotOfGift_40 (hr_gi (by omega)) (k := (cg_od c i).toNat) (Int.toNat_of_nonneg hot.2.2.2.1).symm (by omega) ?_
        refine az_if_le (tg := 55) kd_F_lotOfGift_41 (by decide) (fun q2 => ?_) (fun q2 => ?_)
        · have e2 : ck_gf c l z (cg_nT c) 0 0 = ck_gf c l z (cg_nT c - (i + 1)) (i + 1) b := by
            rw [hb3, hs]
            simp only [ck_gf]
            rw [if_neg (by omega)]
          refine az_iinc kd_F_lotOfGift_55 rfl rfl ?_
          dsimp only [List.set]
          refine ar_goto (tg := 5) kd_F_lotOfGift_58 (by decide) ?_
          exact ih (i + 1) (by omega) (by omega) _ _ (by omega) (by omega) e2
        · 
          refine ar_iload_n kd_F_lotOfGift_44 rfl ?_
          refine ar_iload_n kd_F_lotOfGift_45 rfl ?_
          refine az_icmp_ne (tg := 52) kd_F_lotOfGift_46 (by decide) (fun q3 => ?_) (fun q3 => ?_)
          · have e2 : ck_gf c l z (cg_nT c) 0 0 = ck_gf c l z (cg_nT c - (i + 1)) (i + 1) (b + 1) := by
              rw [hb3, hs]
              simp only [ck_gf]
              rw [if_pos (by omega), if_neg q3]
            refine az_iinc kd_F_lotOfGift_52 rfl rfl ?_
            dsimp only [List.set]
            refine az_iinc kd_F_lotOfGift_55 rfl rfl ?_
            dsimp only [List.set]
            refine ar_goto (tg := 5) kd_F_lotOfGift_58 (by decide) ?_
            exact ih (i + 1) (by omega) (by omega) _ _ (by omega) (by omega) e2
          · have e1 : ck_gf c l z (cg_nT c) 0 0 = cg_od c i := by
              rw [hb3, hs]
              simp only [ck_gf]
              rw [if_pos (by omega), if_pos q3]
            refine ar_iload kd_F_lotOfGift_49 rfl ?_
            refine ar_ireturn kd_F_lotOfGift_51 rfl (Nat.le_of_ble_eq_true rfl) (Nat.le_of_ble_eq_true rfl) ?_
            first | exact ⟨rfl, rfl, rfl⟩ | exact ⟨by rw [e1], rfl, rfl⟩
  refine ar_iconst kd_F_lotOfGift_0 ?_
  refine ar_istore_n kd_F_lotOfGift_1 (Nat.le_of_ble_eq_true rfl) rfl ?_
  dsimp only [List.set]
  refine ar_iconst kd_F_lotOfGift_2 ?_
  refine ar_istore kd_F_lotOfGift_3 (Nat.le_of_ble_eq_true rfl) rfl ?_
  dsimp only [List.set]
  exact loop (cg_nT c + 1) 0 (by omega) (by omega) 0 _ (by omega) (by omega) rfl
theorem zf_keep {α β : Type} {g : α → Nat → α} {P : α → β} (h : ∀ a k, P (g a k) = P a) (a : α) : ∀ n, P (zf g a n) = P a
  | 0 => rfl
  | n + 1 => (h _ _).trans (zf_keep h a n)
theorem zf_inv {α : Type} {g : α → Nat → α} {P : α → Prop} (h : ∀ a k, P a → P (g a k)) {a : α} (ha : P a) : ∀ n, P (zf g a n)
  | 0 => ha
  | n + 1 => h _ _ (zf_inv h ha n)
theorem ck_move_K {c : cS} (l k : Nat) (z : Int) (h : cK c) : cK (ck_move c l k z) := h
theorem ck_letGo_K {c : cS} (l : Nat) (h : cK c) : cK (ck_letGo c l) := zf_inv (fun a k ha => ck_move_K l k _ ha) h _
theorem ck_clear_K {c : cS} (h : cK c) : cK (ck_clear c) := zf_inv (fun a k ha => ck_letGo_K k ha) h _
theorem ck_letGo_nT (c : cS) (l : Nat) : cg_nT (ck_letGo c l) = cg_nT c := zf_keep (g := fun c k => ck_move c l k (-cg_gi c l k)) (P := fun c : cS => cg_nT c) (fun a k => rfl) c _
theorem ck_letGo_nL (c : cS) (l : Nat) : cg_nL (ck_letGo c l) = cg_nL c := zf_keep (g := fun c k => ck_move c l k (-cg_gi c l k)) (P := fun c : cS => cg_nL c) (fun a k => rfl) c _
set_option maxHeartbeats 1000000 in
set_option maxRecDepth 20000 in
theorem sp_F_letGo {d : Nat} {x : am_C} {c : cS} {t : List am_C} {n : Nat} {l : Nat} (hl : l < 6) (hK : cK c) : am_W (d + 1) km_F_letGo 0 [some (.ref 6), some (.int (iI l)), none] [] (hC x c t) n 0 0 (am_eq none (hC x (ck_letGo c l) t) n) := by
  obtain ⟨hT, hL⟩ := hK.nn
  have loop : ∀ (f i : Nat), i ≤ cg_nT c → cg_nT c - i < f → am_W (d + 1) km_F_letGo 2 [some (.ref 6), some (.int (iI l)), some (.int (iI i))] [] (hC x (zf (fun c k => ck_move c l k (-cg_gi c l k)) c i) t) n 0 0 (am_eq none (hC x (ck_letGo c l) t) n) := by
    intro f
    induction f with
    | zero => intro i h1 h2; omega
    | succ f ih =>
      intro i h1 h2
      refine ar_iload_n kd_F_letGo_2 rfl ?_
      refine ar_aload_n kd_F_letGo_3 rfl ?_
      refine ar_get (ci := 1) (k := 0) kd_F_letGo_4 rfl kw_123 (by decide) rfl rfl ?_
      refine ar_get (ci := 3) (k := 0) kd_F_letGo_7 rfl kw_46 (by decide) rfl rfl ?_
      have hn : cg_nT (zf (fun c k => ck_move c l k (-cg_gi c l k)) c i) = cg_nT c := zf_keep (g := fun c k => ck_move c l k (-cg_gi c l k)) (P := fun c : cS => cg_nT c) (fun a k => rfl) c i
      refine az_icmp_ge (tg := 37) kd_F_letGo_10 (by decide) (fun q1 => ?_) (fun q1 => ?_)
      · obtain rfl : i = cg_nT c := by omega
        refine ar_return kd_F_letGo_37 rfl (Nat.le_of_ble_eq_true rfl) (Nat.le_of_ble_eq_true rfl) ?_
        first | exact ⟨rfl, rfl, rfl⟩ | exact ⟨by rw [e1], rfl, rfl⟩
      · refine ar_aload_n kd_F_letGo_13 rfl ?_
        refine ar_iload_n kd_F_letGo_14 rfl ?_
        refine ar_iload_n kd_F_letGo_15 rfl ?_
        refine ar_aload_n kd_F_letGo_16 rfl ?_
        refine ar_get (ci := 1) (k := 1) kd_F_letGo_17 rfl kw_126 (by decide) rfl rfl ?_
        refine ar_get (ci := 2) (k := 6) kd_F_letGo_20 rfl kw_106 (by decide) rfl rfl ?_
        refine ar_iload_n kd_F_letGo_23 rfl ?_
        refine az_aald kd_F_letGo_24 rfl rfl (by omega) (if_pos (by omega)) ?_
        refine ar_iload_n kd_F_letGo_25 rfl ?_
        refine az_iald kd_F_letGo_26 (hr_gi (by omega)) rfl (by omega) ?_
        refine az_ineg kd_F_letGo_27 ?_
        refine az_callv (z := km_F_move) (As := [_, _, _]) (ci := 1) kd_F_letGo_28 kw_444 kw_445 rfl ks_F_move kz_F_move rfl rfl rfl rfl rfl (Nat.le_of_ble_eq_true rfl) (Nat.le_of_ble_eq_true rfl) rfl (sp_F_move hl (by omega)) ?_
        refine az_iinc kd_F_letGo_31 rfl rfl ?_
        dsimp only [List.set]
        refine ar_goto (tg := 2) kd_F_letGo_34 (by decide) ?_
        exact ih (i + 1) (by omega) (by omega)
  refine ar_iconst kd_F_letGo_0 ?_
  refine ar_istore_n kd_F_letGo_1 (Nat.le_of_ble_eq_true rfl) rfl ?_
  dsimp only [List.set]
  exact loop (cg_nT c + 1) 0 (by omega) (by omega)
set_option maxHeartbeats 1000000 in
set_option maxRecDepth 20000 in
theorem sp_F_clear {d : Nat} {x : am_C} {c : cS} {t : List am_C} {n : Nat} (hK : cK c) : am_W (d + 2) km_F_clear 0 [some (.ref 6), none] [] (hC x c t) n 0 0 (am_eq none (hC x (ck_clear c) t) n) := by
  obtain ⟨hT, hL⟩ := hK.nn
  have loop : ∀ (f i : Nat), i ≤ cg_nL c → cg_nL c - i < f → am_W (d + 2) km_F_clear 2 [some (.ref 6), some (.int (iI i))] [] (hC x (zf (fun c l => ck_letGo c l) c i) t) n 0 0 (am_eq none (hC x (ck_clear c) t) n) := by
    intro f
    induction f with
    | zero => intro i h1 h2; omega
    | succ f ih =>
      intro i h1 h2
      refine ar_iload_n kd_F_clear_2 rfl ?_
      refine ar_aload_n kd_F_clear_3 rfl ?_
      refine ar_get (ci := 1) (k := 1) kd_F_clear_4 rfl kw_126 (by decide) rfl rfl ?_
      refine ar_get (ci := 2) (k := 0) kd_F_clear_7 rfl kw_90 (by decide) rfl rfl ?_
      have hn : cg_nL (zf (fun c l => ck_letGo c l) c i) = cg_nL c := zf_keep (g := fun c l => ck_letGo c l) (P := fun c : cS => cg_nL c) (fun a k => ck_letGo_nL a k) c i
      refine az_icmp_ge (tg := 24) kd_F_clear_10 (by decide) (fun q1 => ?_) (fun q1 => ?_)
      · obtain rfl : i = cg_nL c := by omega
        refine ar_return kd_F_clear_24 rfl (Nat.le_of_ble_eq_true rfl) (Nat.le_of_ble_eq_true rfl) ?_
        first | exact ⟨rfl, rfl, rfl⟩ | exact ⟨by rw [e1], rfl, rfl⟩
      · refine ar_aload_n kd_F_clear_13 rfl ?_
        refine ar_iload_n kd_F_clear_14 rfl ?_
        refine az_callv (z := km_F_letGo) (As := [_]) (ci := 1) kd_F_clear_15 kw_440 kw_441 rfl ks_F_letGo kz_F_letGo rfl rfl rfl rfl rfl (Nat.le_of_ble_eq_true rfl) (Nat.le_of_ble_eq_true rfl) rfl (sp_F_letGo (by omega) (zf_inv (g := fun c l => ck_letGo c l) (fun a k ha => ck_letGo_K k ha) hK _)) ?_
        refine az_iinc kd_F_clear_18 rfl rfl ?_
        dsimp only [List.set]
        refine ar_goto (tg := 2) kd_F_clear_21 (by decide) ?_
        exact ih (i + 1) (by omega) (by omega)
  refine ar_iconst kd_F_clear_0 ?_
  refine ar_istore_n kd_F_clear_1 (Nat.le_of_ble_eq_true rfl) rfl ?_
  dsimp only [List.set]
  exact loop (cg_nL c + 1) 0 (by omega) (by omega)
