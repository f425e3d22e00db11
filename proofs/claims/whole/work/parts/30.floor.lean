/-! the floor: its methods -/
theorem hw_pl {x : am_C} {c : cS} {t : List am_C} (R : Nat → Int) : (hC x c t).set 8 (am_ia 8 (fun j => iI (R j))) = hC x (cs_pl c R) t := rfl
theorem hw_gd {x : am_C} {c : cS} {t : List am_C} (R : Nat → Int) : (hC x c t).set 9 (am_ia 8 (fun j => iI (R j))) = hC x (cs_gd c R) t := rfl
theorem hw_un {x : am_C} {c : cS} {t : List am_C} (R : Nat → Int) : (hC x c t).set 10 (am_ia 8 (fun j => iI (R j))) = hC x (cs_un c R) t := rfl
theorem hw_pc {x : am_C} {c : cS} {t : List am_C} (R : Nat → Int) : (hC x c t).set 11 (am_ia 8 (fun j => iI (R j))) = hC x (cs_pc c R) t := rfl
theorem hw_fr {x : am_C} {c : cS} {t : List am_C} (R : Nat → Int) : (hC x c t).set 12 (am_ia 8 (fun j => iI (R j))) = hC x (cs_fr c R) t := rfl
theorem hw_od {x : am_C} {c : cS} {t : List am_C} (R : Nat → Int) : (hC x c t).set 13 (am_ia 8 (fun j => iI (R j))) = hC x (cs_od c R) t := rfl
theorem hw_lg {x : am_C} {c : cS} {t : List am_C} (R : Nat → Int) : (hC x c t).set 15 (am_ia 6 (fun j => iI (R j))) = hC x (cs_lg c R) t := rfl
theorem hw_lw {x : am_C} {c : cS} {t : List am_C} (R : Nat → Int) : (hC x c t).set 16 (am_ia 6 (fun j => iI (R j))) = hC x (cs_lw c R) t := rfl
theorem hw_lb {x : am_C} {c : cS} {t : List am_C} (R : Nat → Int32) : (hC x c t).set 17 (am_ia 6 R) = hC x (cs_lb c R) t := rfl
theorem hw_ac {x : am_C} {c : cS} {t : List am_C} (R : Nat → Int) : (hC x c t).set 46 (am_ia 6 (fun j => iI (R j))) = hC x (cs_ac c R) t := rfl
theorem hw_tr {x : am_C} {c : cS} {t : List am_C} (R : Nat → Int) : (hC x c t).set 47 (am_ia 6 (fun j => iI (R j))) = hC x (cs_tr c R) t := rfl
theorem hw_be {x : am_C} {c : cS} {t : List am_C} (R : Nat → Int) : (hC x c t).set 48 (am_ia 6 (fun j => iI (R j))) = hC x (cs_be c R) t := rfl
theorem hw_rb {x : am_C} {c : cS} {t : List am_C} (R : Nat → Int) : (hC x c t).set 49 (am_ia 7 (fun j => iI (R j))) = hC x (cs_rb c R) t := rfl
/-- the sum of f over the first n -/
def zs (f : Nat → Int) : Nat → Int
  | 0 => 0
  | n + 1 => zs f n + f n
/-- a state changed over and over, n times -/
def zf {α : Type} (g : α → Nat → α) (a : α) : Nat → α
  | 0 => a
  | n + 1 => g (zf g a n) n
/-- numbers that the search leaves as they are, in their ranges -/
def cK (c : cS) : Prop := (cg_nT c ≤ 8 ∧ cg_nL c ≤ 6) ∧ (∀ k, k < 8 → (0 ≤ cg_pl c k ∧ cg_pl c k ≤ 99) ∧ (0 ≤ cg_gd c k ∧ cg_gd c k ≤ 5) ∧ (0 ≤ cg_un c k ∧ cg_un c k ≤ 9999) ∧ (0 ≤ cg_od c k ∧ cg_od c k ≤ 7)) ∧
  (∀ l, l < 6 → (0 ≤ cg_lg c l ∧ cg_lg c l ≤ 5) ∧ (0 ≤ cg_lw c l ∧ cg_lw c l ≤ 200) ∧ (0 ≤ cg_rl c l 0 ∧ cg_rl c l 0 ≤ 9999) ∧ (0 ≤ cg_rl c l 1 ∧ cg_rl c l 1 ≤ 50) ∧ (0 ≤ cg_rl c l 2 ∧ cg_rl c l 2 ≤ 8) ∧ (0 ≤ cg_rl c l 3 ∧ cg_rl c l 3 ≤ 1) ∧ ∀ k, k < 8 → -1 ≤ cg_tl c l k ∧ cg_tl c l k ≤ 1000)
theorem cK.nn {c : cS} (h : cK c) : cg_nT c ≤ 8 ∧ cg_nL c ≤ 6 := h.1
theorem cK.lot {c : cS} (h : cK c) {k : Nat} (hk : k < 8) : (0 ≤ cg_pl c k ∧ cg_pl c k ≤ 99) ∧ (0 ≤ cg_gd c k ∧ cg_gd c k ≤ 5) ∧ (0 ≤ cg_un c k ∧ cg_un c k ≤ 9999) ∧ (0 ≤ cg_od c k ∧ cg_od c k ≤ 7) := h.2.1 k hk
theorem cK.line {c : cS} (h : cK c) {l : Nat} (hl : l < 6) : (0 ≤ cg_lg c l ∧ cg_lg c l ≤ 5) ∧ (0 ≤ cg_lw c l ∧ cg_lw c l ≤ 200) ∧ (0 ≤ cg_rl c l 0 ∧ cg_rl c l 0 ≤ 9999) ∧ (0 ≤ cg_rl c l 1 ∧ cg_rl c l 1 ≤ 50) ∧ (0 ≤ cg_rl c l 2 ∧ cg_rl c l 2 ≤ 8) ∧ (0 ≤ cg_rl c l 3 ∧ cg_rl c l 3 ≤ 1) := ⟨(h.2.2 l hl).1, (h.2.2 l hl).2.1, (h.2.2 l hl).2.2.1, (h.2.2 l hl).2.2.2.1, (h.2.2 l hl).2.2.2.2.1, (h.2.2 l hl).2.2.2.2.2.1⟩
theorem cK.told {c : cS} (h : cK c) {l k : Nat} (hl : l < 6) (hk : k < 8) : -1 ≤ cg_tl c l k ∧ cg_tl c l k ≤ 1000 := (h.2.2 l hl).2.2.2.2.2.2 k hk
/-- what lines hold, and what is free, in a range -/
def cG (c : cS) : Prop := (∀ l k, l < 6 → k < 8 → 0 ≤ cg_gi c l k ∧ cg_gi c l k ≤ 1000) ∧ ∀ k, k < 8 → -100000 ≤ cg_fr c k ∧ cg_fr c k ≤ 1000
theorem cG.gi {c : cS} (h : cG c) {l k : Nat} (hl : l < 6) (hk : k < 8) : 0 ≤ cg_gi c l k ∧ cg_gi c l k ≤ 1000 := h.1 l k hl hk
theorem cG.fr {c : cS} (h : cG c) {k : Nat} (hk : k < 8) : -100000 ≤ cg_fr c k ∧ cg_fr c k ≤ 1000 := h.2 k hk
def ck_move (c : cS) (l k : Nat) (z : Int) : cS := cs_fr (cs_gi c (zr (cg_gi c) l (zu (cg_gi c l) k (cg_gi c l k + z)))) (zu (cg_fr c) k (cg_fr c k - z))
def ck_letGo (c : cS) (l : Nat) : cS := zf (fun c k => ck_move c l k (-cg_gi c l k)) c (cg_nT c)
def ck_clear (c : cS) : cS := zf (fun c l => ck_letGo c l) c (cg_nL c)
def ck_cost (c : cS) (l k : Nat) : Int := if cg_tl c l k = -1 then cg_pl c k else cg_tl c l k
abbrev ck_bar (c : cS) (l k : Nat) : Prop := (cg_lb c l >>> (iI (k : Int) &&& 31)) &&& 1 = 1
def ck_pass (c : cS) (l k : Nat) : Int := if cg_gd c k ≠ cg_lg c l then 0 else if cg_un c k < cg_rl c l 0 then 1 else if ck_bar c l k then 2 else if cg_fr c k < cg_rl c l 1 then 3 else 4
/-- the lot is allowed for the line -/
abbrev ck_all (c : cS) (l k : Nat) : Prop := cg_gd c k = cg_lg c l ∧ ¬ cg_un c k < cg_rl c l 0 ∧ ¬ ck_bar c l k
theorem ck_pass_all (c : cS) (l k : Nat) : 3 ≤ ck_pass c l k ↔ ck_all c l k := by
  unfold ck_pass
  split
  · rename_i h1
    exact ⟨fun q => by omega, fun q => absurd q.1 h1⟩
  · rename_i h1
    split
    · rename_i h2
      exact ⟨fun q => by omega, fun q => absurd h2 q.2.1⟩
    · rename_i h2
      split
      · rename_i h3
        exact ⟨fun q => by omega, fun q => absurd h3 q.2.2⟩
      · rename_i h3
        have hh : ck_all c l k := ⟨Decidable.not_not.mp h1, h2, h3⟩
        split <;> exact ⟨fun _ => hh, fun _ => by omega⟩
theorem ck_pass_rg (c : cS) (l k : Nat) : 0 ≤ ck_pass c l k ∧ ck_pass c l k ≤ 4 := by
  unfold ck_pass
  split
  · omega
  split
  · omega
  split
  · omega
  split <;> omega
/-- 1 if it holds, else 0 -/
def zb (p : Prop) [Decidable p] : Int := if p then 1 else 0
set_option maxHeartbeats 1000000 in
set_option maxRecDepth 20000 in
theorem sp_F_move {d : Nat} {x : am_C} {c : cS} {t : List am_C} {n : Nat} {l k : Nat} {z : Int} (hl : l < 6) (hk : k < 8) : am_W d km_F_move 0 [some (.ref 6), some (.int (iI l)), some (.int (iI k)), some (.int (iI z))] [] (hC x c t) n 0 0 (am_eq none (hC x (ck_move c l k z) t) n) := by
  refine ar_aload_n kd_F_move_0 rfl ?_
  refine ar_get (ci := 1) (k := 1) kd_F_move_1 rfl kw_126 (by decide) rfl rfl ?_
  refine ar_get (ci := 2) (k := 6) kd_F_move_4 rfl kw_106 (by decide) rfl rfl ?_
  refine ar_iload_n kd_F_move_7 rfl ?_
  refine az_aald kd_F_move_8 rfl rfl (by omega) (if_pos (by omega)) ?_
  refine ar_iload_n kd_F_move_9 rfl ?_
  refine ar_dup2 kd_F_move_10 rfl rfl ?_
  refine az_iald kd_F_move_11 (hr_gi (by omega)) rfl (by omega) ?_
  refine ar_iload_n kd_F_move_12 rfl ?_
  refine az_iadd kd_F_move_13 ?_
  refine az_iast kd_F_move_14 (Nat.ble_eq_true_of_le (by omega)) (hr_gi (by omega)) rfl (by omega) ?_
  rw [hw_gi (by omega)]
  refine ar_aload_n kd_F_move_15 rfl ?_
  refine ar_get (ci := 1) (k := 0) kd_F_move_16 rfl kw_123 (by decide) rfl rfl ?_
  refine ar_get (ci := 3) (k := 5) kd_F_move_19 rfl kw_57 (by decide) rfl rfl ?_
  refine ar_iload_n kd_F_move_22 rfl ?_
  refine ar_dup2 kd_F_move_23 rfl rfl ?_
  refine az_iald kd_F_move_24 rfl rfl (by omega) ?_
  refine ar_iload_n kd_F_move_25 rfl ?_
  refine az_isub kd_F_move_26 ?_
  refine az_iast kd_F_move_27 rfl rfl rfl (by omega) ?_
  rw [hw_fr]
  refine ar_return kd_F_move_28 rfl (Nat.le_of_ble_eq_true rfl) (Nat.le_of_ble_eq_true rfl) ?_
  exact ⟨rfl, rfl, rfl⟩
set_option maxHeartbeats 1000000 in
set_option maxRecDepth 20000 in
theorem sp_F_piecesOf {d : Nat} {x : am_C} {c : cS} {t : List am_C} {n : Nat} {l : Nat} (hl : l < 6) (hK : cK c) : am_W d km_F_piecesOf 0 [some (.ref 6), some (.int (iI l)), none, none] [] (hC x c t) n 0 0 (am_eq (some (.int (iI (zs (cg_gi c l) (cg_nT c))))) (hC x c t) n) := by
  obtain ⟨hT, hL⟩ := hK.nn
  have loop : ∀ (f i : Nat), i ≤ cg_nT c → cg_nT c - i < f → am_W d km_F_piecesOf 4 [some (.ref 6), some (.int (iI l)), some (.int (iI (zs (cg_gi c l) i))), some (.int (iI i))] [] (hC x c t) n 0 0 (am_eq (some (.int (iI (zs (cg_gi c l) (cg_nT c))))) (hC x c t) n) := by
    intro f
    induction f with
    | zero => intro i h1 h2; omega
    | succ f ih =>
      intro i h1 h2
      refine ar_iload_n kd_F_piecesOf_4 rfl ?_
      refine ar_aload_n kd_F_piecesOf_5 rfl ?_
      refine ar_get (ci := 1) (k := 0) kd_F_piecesOf_6 rfl kw_123 (by decide) rfl rfl ?_
      refine ar_get (ci := 3) (k := 0) kd_F_piecesOf_9 rfl kw_46 (by decide) rfl rfl ?_
      refine az_icmp_ge (tg := 35) kd_F_piecesOf_12 (by decide) (fun q1 => ?_) (fun q1 => ?_)
      · obtain rfl : i = cg_nT c := by omega
        refine ar_iload_n kd_F_piecesOf_35 rfl ?_
        refine ar_ireturn kd_F_piecesOf_36 rfl (Nat.le_of_ble_eq_true rfl) (Nat.le_of_ble_eq_true rfl) ?_
        first | exact ⟨rfl, rfl, rfl⟩ | exact ⟨by rw [e1], rfl, rfl⟩
      · refine ar_iload_n kd_F_piecesOf_15 rfl ?_
        refine ar_aload_n kd_F_piecesOf_16 rfl ?_
        refine ar_get (ci := 1) (k := 1) kd_F_piecesOf_17 rfl kw_126 (by decide) rfl rfl ?_
        refine ar_get (ci := 2) (k := 6) kd_F_piecesOf_20 rfl kw_106 (by decide) rfl rfl ?_
        refine ar_iload_n kd_F_piecesOf_23 rfl ?_
        refine az_aald kd_F_piecesOf_24 rfl rfl (by omega) (if_pos (by omega)) ?_
        refine ar_iload_n kd_F_piecesOf_25 rfl ?_
        refine az_iald kd_F_piecesOf_26 (hr_gi (by omega)) rfl (by omega) ?_
        refine az_iadd kd_F_piecesOf_27 ?_
        refine ar_istore_n kd_F_piecesOf_28 (Nat.le_of_ble_eq_true rfl) rfl ?_
        dsimp only [List.set]
        refine az_iinc kd_F_piecesOf_29 rfl rfl ?_
        dsimp only [List.set]
        refine ar_goto (tg := 4) kd_F_piecesOf_32 (by decide) ?_
        exact ih (i + 1) (by omega) (by omega)
  refine ar_iconst kd_F_piecesOf_0 ?_
  refine ar_istore_n kd_F_piecesOf_1 (Nat.le_of_ble_eq_true rfl) rfl ?_
  dsimp only [List.set]
  refine ar_iconst kd_F_piecesOf_2 ?_
  refine ar_istore_n kd_F_piecesOf_3 (Nat.le_of_ble_eq_true rfl) rfl ?_
  dsimp only [List.set]
  exact loop (cg_nT c + 1) 0 (by omega) (by omega)
set_option maxHeartbeats 1000000 in
set_option maxRecDepth 20000 in
theorem sp_F_giftsOf {d : Nat} {x : am_C} {c : cS} {t : List am_C} {n : Nat} {l : Nat} (hl : l < 6) (hK : cK c) (hG : cG c) : am_W d km_F_giftsOf 0 [some (.ref 6), some (.int (iI l)), none, none] [] (hC x c t) n 0 0 (am_eq (some (.int (iI (zs (fun k => zb (0 < cg_gi c l k)) (cg_nT c))))) (hC x c t) n) := by
  obtain ⟨hT, hL⟩ := hK.nn
  have loop : ∀ (f i : Nat), i ≤ cg_nT c → cg_nT c - i < f → am_W d km_F_giftsOf 4 [some (.ref 6), some (.int (iI l)), some (.int (iI (zs (fun k => zb (0 < cg_gi c l k)) i))), some (.int (iI i))] [] (hC x c t) n 0 0 (am_eq (some (.int (iI (zs (fun k => zb (0 < cg_gi c l k)) (cg_nT c))))) (hC x c t) n) := by
    intro f
    induction f with
    | zero => intro i h1 h2; omega
    | succ f ih =>
      intro i h1 h2
      refine ar_iload_n kd_F_giftsOf_4 rfl ?_
      refine ar_aload_n kd_F_giftsOf_5 rfl ?_
      refine ar_get (ci := 1) (k := 0) kd_F_giftsOf_6 rfl kw_123 (by decide) rfl rfl ?_
      refine ar_get (ci := 3) (k := 0) kd_F_giftsOf_9 rfl kw_46 (by decide) rfl rfl ?_
      refine az_icmp_ge (tg := 38) kd_F_giftsOf_12 (by decide) (fun q1 => ?_) (fun q1 => ?_)
      · obtain rfl : i = cg_nT c := by omega
        refine ar_iload_n kd_F_giftsOf_38 rfl ?_
        refine ar_ireturn kd_F_giftsOf_39 rfl (Nat.le_of_ble_eq_true rfl) (Nat.le_of_ble_eq_true rfl) ?_
        first | exact ⟨rfl, rfl, rfl⟩ | exact ⟨by rw [e1], rfl, rfl⟩
      · have hg := hG.gi (k := i) hl (by omega)
        refine ar_aload_n kd_F_giftsOf_15 rfl ?_
        refine ar_get (ci := 1) (k := 1) kd_F_giftsOf_16 rfl kw_126 (by decide) rfl rfl ?_
        refine ar_get (ci := 2) (k := 6) kd_F_giftsOf_19 rfl kw_106 (by decide) rfl rfl ?_
        refine ar_iload_n kd_F_giftsOf_22 rfl ?_
        refine az_aald kd_F_giftsOf_23 rfl rfl (by omega) (if_pos (by omega)) ?_
        refine ar_iload_n kd_F_giftsOf_24 rfl ?_
        refine az_iald kd_F_giftsOf_25 (hr_gi (by omega)) rfl (by omega) ?_
        refine az_if_le (tg := 32) kd_F_giftsOf_26 (by decide) (fun q2 => ?_) (fun q2 => ?_)
        · have e1 : zs (fun k => zb (0 < cg_gi c l k)) i = zs (fun k => zb (0 < cg_gi c l k)) (i + 1) := by
            simp only [zs, zb]
            rw [if_neg (by omega)]
            omega
          refine az_iinc kd_F_giftsOf_32 rfl rfl ?_
          dsimp only [List.set]
          refine ar_goto (tg := 4) kd_F_giftsOf_35 (by decide) ?_
          first | exact ih (i + 1) (by omega) (by omega) | (rw [e1]; exact ih (i + 1) (by omega) (by omega))
        · have e1 : zs (fun k => zb (0 < cg_gi c l k)) i + 1 = zs (fun k => zb (0 < cg_gi c l k)) (i + 1) := by
            simp only [zs, zb]
            rw [if_pos (by omega)]
          refine az_iinc kd_F_giftsOf_29 rfl rfl ?_
          dsimp only [List.set]
          refine az_iinc kd_F_giftsOf_32 rfl rfl ?_
          dsimp only [List.set]
          refine ar_goto (tg := 4) kd_F_giftsOf_35 (by decide) ?_
          first | exact ih (i + 1) (by omega) (by omega) | (rw [e1]; exact ih (i + 1) (by omega) (by omega))
  refine ar_iconst kd_F_giftsOf_0 ?_
  refine ar_istore_n kd_F_giftsOf_1 (Nat.le_of_ble_eq_true rfl) rfl ?_
  dsimp only [List.set]
  refine ar_iconst kd_F_giftsOf_2 ?_
  refine ar_istore_n kd_F_giftsOf_3 (Nat.le_of_ble_eq_true rfl) rfl ?_
  dsimp only [List.set]
  exact loop (cg_nT c + 1) 0 (by omega) (by omega)
set_option maxHeartbeats 1000000 in
set_option maxRecDepth 20000 in
theorem sp_F_pieceCost {d : Nat} {x : am_C} {c : cS} {t : List am_C} {n : Nat} {l k : Nat} (hl : l < 6) (hk : k < 8) (hK : cK c) : am_W d km_F_pieceCost 0 [some (.ref 6), some (.int (iI l)), some (.int (iI k)), none] [] (hC x c t) n 0 0 (am_eq (some (.int (iI (ck_cost c l k)))) (hC x c t) n) := by
  obtain ⟨hT, hL⟩ := hK.nn
  have ht := hK.told hl hk
  refine ar_aload_n kd_F_pieceCost_0 rfl ?_
  refine ar_get (ci := 1) (k := 1) kd_F_pieceCost_1 rfl kw_126 (by decide) rfl rfl ?_
  refine ar_get (ci := 2) (k := 5) kd_F_pieceCost_4 rfl kw_103 (by decide) rfl rfl ?_
  refine ar_iload_n kd_F_pieceCost_7 rfl ?_
  refine az_aald kd_F_pieceCost_8 rfl rfl (by omega) (if_pos (by omega)) ?_
  refine ar_iload_n kd_F_pieceCost_9 rfl ?_
  refine az_iald kd_F_pieceCost_10 (hr_tl (by omega)) rfl (by omega) ?_
  refine ar_istore_n kd_F_pieceCost_11 (Nat.le_of_ble_eq_true rfl) rfl ?_
  dsimp only [List.set]
  refine ar_iload_n kd_F_pieceCost_12 rfl ?_
  refine ar_iconst kd_F_pieceCost_13 ?_
  refine az_icmp_ne (tg := 29) kd_F_pieceCost_14 (by decide) (fun q1 => ?_) (fun q1 => ?_)
  · have e1 : ck_cost c l k = cg_tl c l k := if_neg q1
    refine ar_iload_n kd_F_pieceCost_29 rfl ?_
    refine ar_ireturn kd_F_pieceCost_30 rfl (Nat.le_of_ble_eq_true rfl) (Nat.le_of_ble_eq_true rfl) ?_
    first | exact ⟨rfl, rfl, rfl⟩ | exact ⟨by rw [e1], rfl, rfl⟩
  · have e1 : ck_cost c l k = cg_pl c k := if_pos q1
    refine ar_aload_n kd_F_pieceCost_17 rfl ?_
    refine ar_get (ci := 1) (k := 0) kd_F_pieceCost_18 rfl kw_123 (by decide) rfl rfl ?_
    refine ar_get (ci := 3) (k := 1) kd_F_pieceCost_21 rfl kw_48 (by decide) rfl rfl ?_
    refine ar_iload_n kd_F_pieceCost_24 rfl ?_
    refine az_iald kd_F_pieceCost_25 rfl rfl (by omega) ?_
    refine ar_goto (tg := 30) kd_F_pieceCost_26 (by decide) ?_
    refine ar_ireturn kd_F_pieceCost_30 rfl (Nat.le_of_ble_eq_true rfl) (Nat.le_of_ble_eq_true rfl) ?_
    first | exact ⟨rfl, rfl, rfl⟩ | exact ⟨by rw [e1], rfl, rfl⟩
set_option maxHeartbeats 1000000 in
set_option maxRecDepth 20000 in
theorem sp_N_isBarred {d : Nat} {x : am_C} {c : cS} {t : List am_C} {n : Nat} {l k : Nat} (hl : l < 6) : am_W d km_N_isBarred 0 [some (.ref 14), some (.int (iI l)), some (.int (iI k))] [] (hC x c t) n 0 0 (am_eq (some (.int (iI (zb (ck_bar c l k))))) (hC x c t) n) := by
  refine ar_aload_n kd_N_isBarred_0 rfl ?_
  refine ar_get (ci := 2) (k := 3) kd_N_isBarred_1 rfl kw_97 (by decide) rfl rfl ?_
  refine ar_iload_n kd_N_isBarred_4 rfl ?_
  refine az_ialdR kd_N_isBarred_5 rfl rfl (by omega) ?_
  refine ar_iload_n kd_N_isBarred_6 rfl ?_
  refine ar_ishr kd_N_isBarred_7 ?_
  refine ar_iconst kd_N_isBarred_8 ?_
  refine ar_iand kd_N_isBarred_9 ?_
  refine ar_iconst kd_N_isBarred_10 ?_
  refine ar_icmp_ne (tg := 18) kd_N_isBarred_11 (by decide) (fun q1 => ?_) (fun q1 => ?_)
  · have e1 : zb (ck_bar c l k) = 0 := if_neg q1
    refine ar_iconst kd_N_isBarred_18 ?_
    refine ar_zreturn kd_N_isBarred_19 rfl rfl (Nat.le_of_ble_eq_true rfl) (Nat.le_of_ble_eq_true rfl) ?_
    first | exact ⟨rfl, rfl, rfl⟩ | exact ⟨by rw [e1], rfl, rfl⟩
  · have e1 : zb (ck_bar c l k) = 1 := if_pos q1
    refine ar_iconst kd_N_isBarred_14 ?_
    refine ar_goto (tg := 19) kd_N_isBarred_15 (by decide) ?_
    refine ar_zreturn kd_N_isBarred_19 rfl rfl (Nat.le_of_ble_eq_true rfl) (Nat.le_of_ble_eq_true rfl) ?_
    first | exact ⟨rfl, rfl, rfl⟩ | exact ⟨by rw [e1], rfl, rfl⟩
set_option maxHeartbeats 1000000 in
set_option maxRecDepth 20000 in
theorem sp_F_barsPassed {d : Nat} {x : am_C} {c : cS} {t : List am_C} {n : Nat} {l k : Nat} (hl : l < 6) (hk : k < 8) (hK : cK c) (hG : cG c) : am_W (d + 1) km_F_barsPassed 0 [some (.ref 6), some (.int (iI l)), some (.int (iI k))] [] (hC x c t) n 0 0 (am_eq (some (.int (iI (ck_pass c l k)))) (hC x c t) n) := by
  have h1 := hK.line hl
  have h2 := hK.lot hk
  have h3 := hG.fr hk
  refine ar_aload_n kd_F_barsPassed_0 rfl ?_
  refine ar_get (ci := 1) (k := 0) kd_F_barsPassed_1 rfl kw_123 (by decide) rfl rfl ?_
  refine ar_get (ci := 3) (k := 2) kd_F_barsPassed_4 rfl kw_50 (by decide) rfl rfl ?_
  refine ar_iload_n kd_F_barsPassed_7 rfl ?_
  refine az_iald kd_F_barsPassed_8 rfl rfl (by omega) ?_
  refine ar_aload_n kd_F_barsPassed_9 rfl ?_
  refine ar_get (ci := 1) (k := 1) kd_F_barsPassed_10 rfl kw_126 (by decide) rfl rfl ?_
  refine ar_get (ci := 2) (k := 1) kd_F_barsPassed_13 rfl kw_92 (by decide) rfl rfl ?_
  refine ar_iload_n kd_F_barsPassed_16 rfl ?_
  refine az_iald kd_F_barsPassed_17 rfl rfl (by omega) ?_
  refine az_icmp_eq (tg := 23) kd_F_barsPassed_18 (by decide) (fun q1 => ?_) (fun q1 => ?_)
  · refine ar_aload_n kd_F_barsPassed_23 rfl ?_
    refine ar_get (ci := 1) (k := 0) kd_F_barsPassed_24 rfl kw_123 (by decide) rfl rfl ?_
    refine ar_get (ci := 3) (k := 3) kd_F_barsPassed_27 rfl kw_52 (by decide) rfl rfl ?_
    refine ar_iload_n kd_F_barsPassed_30 rfl ?_
    refine az_iald kd_F_barsPassed_31 rfl rfl (by omega) ?_
    refine ar_aload_n kd_F_barsPassed_32 rfl ?_
    refine ar_get (ci := 1) (k := 1) kd_F_barsPassed_33 rfl kw_126 (by decide) rfl rfl ?_
    refine ar_get (ci := 2) (k := 4) kd_F_barsPassed_36 rfl kw_99 (by decide) rfl rfl ?_
    refine ar_iload_n kd_F_barsPassed_39 rfl ?_
    refine az_aald kd_F_barsPassed_40 rfl rfl (by omega) (if_pos (by omega)) ?_
    refine ar_iconst kd_F_barsPassed_41 ?_
    refine az_iald kd_F_barsPassed_42 (hr_rl (by omega)) (k := 0) rfl (by omega) ?_
    refine az_icmp_ge (tg := 48) kd_F_barsPassed_43 (by decide) (fun q2 => ?_) (fun q2 => ?_)
    · refine ar_aload_n kd_F_barsPassed_48 rfl ?_
      refine ar_get (ci := 1) (k := 1) kd_F_barsPassed_49 rfl kw_126 (by decide) rfl rfl ?_
      refine ar_iload_n kd_F_barsPassed_52 rfl ?_
      refine ar_iload_n kd_F_barsPassed_53 rfl ?_
      refine az_callv (z := km_N_isBarred) (As := [_, _]) (ci := 2) kd_F_barsPassed_54 kw_200 kw_201 rfl ks_N_isBarred kz_N_isBarred rfl rfl rfl rfl rfl (Nat.le_of_ble_eq_true rfl) (Nat.le_of_ble_eq_true rfl) rfl (sp_N_isBarred hl) ?_
      refine az_if_eq (tg := 62) kd_F_barsPassed_57 (by decide) (fun q3 => ?_) (fun q3 => ?_) (by unfold zb; split <;> omega)
      · have hb : ¬ ck_bar c l k := fun q => by simp [zb, q] at q3
        refine ar_aload_n kd_F_barsPassed_62 rfl ?_
        refine ar_get (ci := 1) (k := 0) kd_F_barsPassed_63 rfl kw_123 (by decide) rfl rfl ?_
        refine ar_get (ci := 3) (k := 5) kd_F_barsPassed_66 rfl kw_57 (by decide) rfl rfl ?_
        refine ar_iload_n kd_F_barsPassed_69 rfl ?_
        refine az_iald kd_F_barsPassed_70 rfl rfl (by omega) ?_
        refine ar_aload_n kd_F_barsPassed_71 rfl ?_
        refine ar_get (ci := 1) (k := 1) kd_F_barsPassed_72 rfl kw_126 (by decide) rfl rfl ?_
        refine ar_get (ci := 2) (k := 4) kd_F_barsPassed_75 rfl kw_99 (by decide) rfl rfl ?_
        refine ar_iload_n kd_F_barsPassed_78 rfl ?_
        refine az_aald kd_F_barsPassed_79 rfl rfl (by omega) (if_pos (by omega)) ?_
        refine ar_iconst kd_F_barsPassed_80 ?_
        refine az_iald kd_F_barsPassed_81 (hr_rl (by omega)) (k := 1) rfl (by omega) ?_
        refine az_icmp_ge (tg := 89) kd_F_barsPassed_82 (by decide) (fun q4 => ?_) (fun q4 => ?_)
        · have e1 : ck_pass c l k = 4 := by
            unfold ck_pass
            rw [if_neg (by omega), if_neg (by omega), if_neg hb, if_neg (by omega)]
          refine ar_iconst kd_F_barsPassed_89 ?_
          refine ar_ireturn kd_F_barsPassed_90 rfl (Nat.le_of_ble_eq_true rfl) (Nat.le_of_ble_eq_true rfl) ?_
          exact ⟨by rw [e1], rfl, rfl⟩
        · have e1 : ck_pass c l k = 3 := by
            unfold ck_pass
            rw [if_neg (by omega), if_neg (by omega), if_neg hb, if_pos (by omega)]
          refine ar_iconst kd_F_barsPassed_85 ?_
          refine ar_goto (tg := 90) kd_F_barsPassed_86 (by decide) ?_
          refine ar_ireturn kd_F_barsPassed_90 rfl (Nat.le_of_ble_eq_true rfl) (Nat.le_of_ble_eq_true rfl) ?_
          exact ⟨by rw [e1], rfl, rfl⟩
      · have hb : ck_bar c l k := Decidable.byContradiction fun q => q3 (if_neg q)
        have e1 : ck_pass c l k = 2 := by
          unfold ck_pass
          rw [if_neg (by omega), if_neg (by omega), if_pos hb]
        refine ar_iconst kd_F_barsPassed_60 ?_
        refine ar_ireturn kd_F_barsPassed_61 rfl (Nat.le_of_ble_eq_true rfl) (Nat.le_of_ble_eq_true rfl) ?_
        exact ⟨by rw [e1], rfl, rfl⟩
    · have e1 : ck_pass c l k = 1 := by
        unfold ck_pass
        rw [if_neg (by omega), if_pos (by omega)]
      refine ar_iconst kd_F_barsPassed_46 ?_
      refine ar_ireturn kd_F_barsPassed_47 rfl (Nat.le_of_ble_eq_true rfl) (Nat.le_of_ble_eq_true rfl) ?_
      exact ⟨by rw [e1], rfl, rfl⟩
  · have e1 : ck_pass c l k = 0 := by
      unfold ck_pass
      rw [if_pos q1]
    refine ar_iconst kd_F_barsPassed_21 ?_
    refine ar_ireturn kd_F_barsPassed_22 rfl (Nat.le_of_ble_eq_true rfl) (Nat.le_of_ble_eq_true rfl) ?_
    exact ⟨by rw [e1], rfl, rfl⟩
set_option maxHeartbeats 1000000 in
set_option maxRecDepth 20000 in
theorem sp_F_allows {d : Nat} {x : am_C} {c : cS} {t : List am_C} {n : Nat} {l k : Nat} (hl : l < 6) (hk : k < 8) (hK : cK c) (hG : cG c) : am_W (d + 2) km_F_allows 0 [some (.ref 6), some (.int (iI l)), some (.int (iI k))] [] (hC x c t) n 0 0 (am_eq (some (.int (iI (zb (ck_all c l k))))) (hC x c t) n) := by
  refine ar_aload_n kd_F_allows_0 rfl ?_
  refine ar_iload_n kd_F_allows_1 rfl ?_
  refine ar_iload_n kd_F_allows_2 rfl ?_
  refine az_callv (z := km_F_barsPassed) (As := [_, _]) (ci := 1) kd_F_allows_3 kw_196 kw_198 rfl ks_F_barsPassed kz_F_barsPassed rfl rfl rfl rfl rfl (Nat.le_of_ble_eq_true rfl) (Nat.le_of_ble_eq_true rfl) rfl (sp_F_barsPassed hl hk hK hG) ?_
  refine ar_iconst kd_F_allows_6 ?_
  have h1 := ck_pass_rg c l k
  refine az_icmp_lt (tg := 14) kd_F_allows_7 (by decide) (fun q1 => ?_) (fun q1 => ?_)
  · have e1 : zb (ck_all c l k) = 0 := if_neg (fun q => by have := (ck_pass_all c l k).mpr q; omega)
    refine ar_iconst kd_F_allows_14 ?_
    refine ar_zreturn kd_F_allows_15 rfl rfl (Nat.le_of_ble_eq_true rfl) (Nat.le_of_ble_eq_true rfl) ?_
    exact ⟨by rw [e1], rfl, rfl⟩
  · have e1 : zb (ck_all c l k) = 1 := if_pos ((ck_pass_all c l k).mp (by omega))
    refine ar_iconst kd_F_allows_10 ?_
    refine ar_goto (tg := 15) kd_F_allows_11 (by decide) ?_
    refine ar_zreturn kd_F_allows_15 rfl rfl (Nat.le_of_ble_eq_true rfl) (Nat.le_of_ble_eq_true rfl) ?_
    exact ⟨by rw [e1], rfl, rfl⟩
set_option maxHeartbeats 1000000 in
set_option maxRecDepth 20000 in
theorem sp_F_costOfPieces {d : Nat} {x : am_C} {c : cS} {t : List am_C} {n : Nat} {l : Nat} (hl : l < 6) (hK : cK c) : am_W (d + 1) km_F_costOfPieces 0 [some (.ref 6), some (.int (iI l)), none, none] [] (hC x c t) n 0 0 (am_eq (some (.int (iI (zs (fun k => cg_gi c l k * ck_cost c l k) (cg_nT c))))) (hC x c t) n) := by
  obtain ⟨hT, hL⟩ := hK.nn
  have loop : ∀ (f i : Nat), i ≤ cg_nT c → cg_nT c - i < f → am_W (d + 1) km_F_costOfPieces 4 [some (.ref 6), some (.int (iI l)), some (.int (iI (zs (fun k => cg_gi c l k * ck_cost c l k) i))), some (.int (iI i))] [] (hC x c t) n 0 0 (am_eq (some (.int (iI (zs (fun k => cg_gi c l k * ck_cost c l k) (cg_nT c))))) (hC x c t) n) := by
    intro f
    induction f with
    | zero => intro i h1 h2; omega
    | succ f ih =>
      intro i h1 h2
      refine ar_iload_n kd_F_costOfPieces_4 rfl ?_
      refine ar_aload_n kd_F_costOfPieces_5 rfl ?_
      refine ar_get (ci := 1) (k := 0) kd_F_costOfPieces_6 rfl kw_123 (by decide) rfl rfl ?_
      refine ar_get (ci := 3) (k := 0) kd_F_costOfPieces_9 rfl kw_46 (by decide) rfl rfl ?_
      refine az_icmp_ge (tg := 42) kd_F_costOfPieces_12 (by decide) (fun q1 => ?_) (fun q1 => ?_)
      · obtain rfl : i = cg_nT c := by omega
        refine ar_iload_n kd_F_costOfPieces_42 rfl ?_
        refine ar_ireturn kd_F_costOfPieces_43 rfl (Nat.le_of_ble_eq_true rfl) (Nat.le_of_ble_eq_true rfl) ?_
        first | exact ⟨rfl, rfl, rfl⟩ | exact ⟨by rw [e1], rfl, rfl⟩
      · refine ar_iload_n kd_F_costOfPieces_15 rfl ?_
        refine ar_aload_n kd_F_costOfPieces_16 rfl ?_
        refine ar_get (ci := 1) (k := 1) kd_F_costOfPieces_17 rfl kw_126 (by decide) rfl rfl ?_
        refine ar_get (ci := 2) (k := 6) kd_F_costOfPieces_20 rfl kw_106 (by decide) rfl rfl ?_
        refine ar_iload_n kd_F_costOfPieces_23 rfl ?_
        refine az_aald kd_F_costOfPieces_24 rfl rfl (by omega) (if_pos (by omega)) ?_
        refine ar_iload_n kd_F_costOfPieces_25 rfl ?_
        refine az_iald kd_F_costOfPieces_26 (hr_gi (by omega)) rfl (by omega) ?_
        refine ar_aload_n kd_F_costOfPieces_27 rfl ?_
        refine ar_iload_n kd_F_costOfPieces_28 rfl ?_
        refine ar_iload_n kd_F_costOfPieces_29 rfl ?_
        refine az_callv (z := km_F_pieceCost) (As := [_, _]) (ci := 1) kd_F_costOfPieces_30 kw_213 kw_214 rfl ks_F_pieceCost kz_F_pieceCost rfl rfl rfl rfl rfl (Nat.le_of_ble_eq_true rfl) (Nat.le_of_ble_eq_true rfl) rfl (sp_F_pieceCost hl (by omega) hK) ?_
        refine az_imul kd_F_costOfPieces_33 ?_
        refine az_iadd kd_F_costOfPieces_34 ?_
        refine ar_istore_n kd_F_costOfPieces_35 (Nat.le_of_ble_eq_true rfl) rfl ?_
        dsimp only [List.set]
        refine az_iinc kd_F_costOfPieces_36 rfl rfl ?_
        dsimp only [List.set]
        refine ar_goto (tg := 4) kd_F_costOfPieces_39 (by decide) ?_
        exact ih (i + 1) (by omega) (by omega)
  refine ar_iconst kd_F_costOfPieces_0 ?_
  refine ar_istore_n kd_F_costOfPieces_1 (Nat.le_of_ble_eq_true rfl) rfl ?_
  dsimp only [List.set]
  refine ar_iconst kd_F_costOfPieces_2 ?_
  refine ar_istore_n kd_F_costOfPieces_3 (Nat.le_of_ble_eq_true rfl) rfl ?_
  dsimp only [List.set]
  exact loop (cg_nT c + 1) 0 (by omega) (by omega)
def ck_lcost (c : cS) (l : Nat) (k : Nat) : Int := if 0 < cg_gi c l k then 20 + cg_gi c l k * (ck_cost c l k - 1000) else 0
set_option maxHeartbeats 1000000 in
set_option maxRecDepth 20000 in
theorem sp_F_lineCost {d : Nat} {x : am_C} {c : cS} {t : List am_C} {n : Nat} {l : Nat} (hl : l < 6) (hK : cK c) (hG : cG c) : am_W (d + 1) km_F_lineCost 0 [some (.ref 6), some (.int (iI l)), none, none, none] [] (hC x c t) n 0 0 (am_eq (some (.int (iI (1000 * cg_lw c l + zs (ck_lcost c l) (cg_nT c))))) (hC x c t) n) := by
  obtain ⟨hT, hL⟩ := hK.nn
  have hg := fun k hk => hG.gi (l := l) (k := k) hl hk
  have loop : ∀ (f i : Nat), i ≤ cg_nT c → cg_nT c - i < f → ∀ w : Option Value, am_W (d + 1) km_F_lineCost 16 [some (.ref 6), some (.int (iI l)), some (.int (iI (1000 * cg_lw c l + zs (ck_lcost c l) i))), some (.int (iI i)), w] [] (hC x c t) n 0 0 (am_eq (some (.int (iI (1000 * cg_lw c l + zs (ck_lcost c l) (cg_nT c))))) (hC x c t) n) := by
    intro f
    induction f with
    | zero => intro i h1 h2 w; omega
    | succ f ih =>
      intro i h1 h2 w
      refine ar_iload_n kd_F_lineCost_16 rfl ?_
      refine ar_aload_n kd_F_lineCost_17 rfl ?_
      refine ar_get (ci := 1) (k := 0) kd_F_lineCost_18 rfl kw_123 (by decide) rfl rfl ?_
      refine ar_get (ci := 3) (k := 0) kd_F_lineCost_21 rfl kw_46 (by decide) rfl rfl ?_
      refine az_icmp_ge (tg := 70) kd_F_lineCost_24 (by decide) (fun q1 => ?_) (fun q1 => ?_)
      · obtain rfl : i = cg_nT c := by omega
        refine ar_iload_n kd_F_lineCost_70 rfl ?_
        refine ar_ireturn kd_F_lineCost_71 rfl (Nat.le_of_ble_eq_true rfl) (Nat.le_of_ble_eq_true rfl) ?_
        first | exact ⟨rfl, rfl, rfl⟩ | exact ⟨by rw [e1], rfl, rfl⟩
      · have hgi := hg i (by omega)
        refine ar_aload_n kd_F_lineCost_27 rfl ?_
        refine ar_get (ci := 1) (k := 1) kd_F_lineCost_28 rfl kw_126 (by decide) rfl rfl ?_
        refine ar_get (ci := 2) (k := 6) kd_F_lineCost_31 rfl kw_106 (by decide) rfl rfl ?_
        refine ar_iload_n kd_F_lineCost_34 rfl ?_
        refine az_aald kd_F_lineCost_35 rfl rfl (by omega) (if_pos (by omega)) ?_
        refine ar_iload_n kd_F_lineCost_36 rfl ?_
        refine az_iald kd_F_lineCost_37 (hr_gi (by omega)) rfl (by omega) ?_
        refine ar_istore kd_F_lineCost_38 (Nat.le_of_ble_eq_true rfl) rfl ?_
        dsimp only [List.set]
        refine ar_iload kd_F_lineCost_40 rfl ?_
        refine az_if_le (tg := 64) kd_F_lineCost_42 (by decide) (fun q2 => ?_) (fun q2 => ?_)
        · have e1 : 1000 * cg_lw c l + zs (ck_lcost c l) i = 1000 * cg_lw c l + zs (ck_lcost c l) (i + 1) := by
            simp only [zs, ck_lcost]
            rw [if_neg (by omega)]
            omega
          refine az_iinc kd_F_lineCost_64 rfl rfl ?_
          dsimp only [List.set]
          refine ar_goto (tg := 16) kd_F_lineCost_67 (by decide) ?_
          first | exact ih (i + 1) (by omega) (by omega) _ | (rw [e1]; exact ih (i + 1) (by omega) (by omega) _)
        · have e1 : 1000 * cg_lw c l + zs (ck_lcost c l) i + (20 + cg_gi c l i * (ck_cost c l i - 1000)) = 1000 * cg_lw c l + zs (ck_lcost c l) (i + 1) := by
            simp only [zs, ck_lcost]
            rw [if_pos (by omega)]
            omega
          refine ar_iload_n kd_F_lineCost_45 rfl ?_
          refine az_bipush kd_F_lineCost_46 (by decide) ?_
          refine ar_iload kd_F_lineCost_48 rfl ?_
          refine ar_aload_n kd_F_lineCost_50 rfl ?_
          refine ar_iload_n kd_F_lineCost_51 rfl ?_
          refine ar_iload_n kd_F_lineCost_52 rfl ?_
          refine az_callv (z := km_F_pieceCost) (As := [_, _]) (ci := 1) kd_F_lineCost_53 kw_213 kw_214 rfl ks_F_pieceCost kz_F_pieceCost rfl rfl rfl rfl rfl (Nat.le_of_ble_eq_true rfl) (Nat.le_of_ble_eq_true rfl) rfl (sp_F_pieceCost hl (by omega) hK) ?_
          refine az_sipush kd_F_lineCost_56 (by decide) ?_
          refine az_isub kd_F_lineCost_59 ?_
          refine az_imul kd_F_lineCost_60 ?_
          refine az_iadd kd_F_lineCost_61 ?_
          refine az_iadd kd_F_lineCost_62 ?_
          refine ar_istore_n kd_F_lineCost_63 (Nat.le_of_ble_eq_true rfl) rfl ?_
          dsimp only [List.set]
          refine az_iinc kd_F_lineCost_64 rfl rfl ?_
          dsimp only [List.set]
          refine ar_goto (tg := 16) kd_F_lineCost_67 (by decide) ?_
          first | exact ih (i + 1) (by omega) (by omega) _ | (rw [e1]; exact ih (i + 1) (by omega) (by omega) _)
  have e0 : 1000 * cg_lw c l = 1000 * cg_lw c l + zs (ck_lcost c l) 0 := by simp [zs]
  refine az_sipush kd_F_lineCost_0 (by decide) ?_
  refine ar_aload_n kd_F_lineCost_3 rfl ?_
  refine ar_get (ci := 1) (k := 1) kd_F_lineCost_4 rfl kw_126 (by decide) rfl rfl ?_
  refine ar_get (ci := 2) (k := 2) kd_F_lineCost_7 rfl kw_94 (by decide) rfl rfl ?_
  refine ar_iload_n kd_F_lineCost_10 rfl ?_
  refine az_iald kd_F_lineCost_11 rfl rfl (by omega) ?_
  refine az_imul kd_F_lineCost_12 ?_
  refine ar_istore_n kd_F_lineCost_13 (Nat.le_of_ble_eq_true rfl) rfl ?_
  dsimp only [List.set]
  refine ar_iconst kd_F_lineCost_14 ?_
  refine ar_istore_n kd_F_lineCost_15 (Nat.le_of_ble_eq_true rfl) rfl ?_
  dsimp only [List.set]
  have h9 := loop (cg_nT c + 1) 0 (by omega) (by omega) none
  rw [← e0] at h9
  exact h9
set_option maxHeartbeats 1000000 in
set_option maxRecDepth 20000 in
theorem sp_F_totalPieces {d : Nat} {x : am_C} {c : cS} {t : List am_C} {n : Nat} (hK : cK c) : am_W (d + 1) km_F_totalPieces 0 [some (.ref 6), none, none] [] (hC x c t) n 0 0 (am_eq (some (.int (iI (zs (fun l => zs (cg_gi c l) (cg_nT c)) (cg_nL c))))) (hC x c t) n) := by
  obtain ⟨hT, hL⟩ := hK.nn
  have loop : ∀ (f i : Nat), i ≤ cg_nL c → cg_nL c - i < f → am_W (d + 1) km_F_totalPieces 4 [some (.ref 6), some (.int (iI (zs (fun l => zs (cg_gi c l) (cg_nT c)) i))), some (.int (iI i))] [] (hC x c t) n 0 0 (am_eq (some (.int (iI (zs (fun l => zs (cg_gi c l) (cg_nT c)) (cg_nL c))))) (hC x c t) n) := by
    intro f
    induction f with
    | zero => intro i h1 h2; omega
    | succ f ih =>
      intro i h1 h2
      refine ar_iload_n kd_F_totalPieces_4 rfl ?_
      refine ar_aload_n kd_F_totalPieces_5 rfl ?_
      refine ar_get (ci := 1) (k := 1) kd_F_totalPieces_6 rfl kw_126 (by decide) rfl rfl ?_
      refine ar_get (ci := 2) (k := 0) kd_F_totalPieces_9 rfl kw_90 (by decide) rfl rfl ?_
      refine az_icmp_ge (tg := 29) kd_F_totalPieces_12 (by decide) (fun q1 => ?_) (fun q1 => ?_)
      · obtain rfl : i = cg_nL c := by omega
        refine ar_iload_n kd_F_totalPieces_29 rfl ?_
        refine ar_ireturn kd_F_totalPieces_30 rfl (Nat.le_of_ble_eq_true rfl) (Nat.le_of_ble_eq_true rfl) ?_
        first | exact ⟨rfl, rfl, rfl⟩ | exact ⟨by rw [e1], rfl, rfl⟩
      · refine ar_iload_n kd_F_totalPieces_15 rfl ?_
        refine ar_aload_n kd_F_totalPieces_16 rfl ?_
        refine ar_iload_n kd_F_totalPieces_17 rfl ?_
        refine az_callv (z := km_F_piecesOf) (As := [_]) (ci := 1) kd_F_totalPieces_18 kw_228 kw_229 rfl ks_F_piecesOf kz_F_piecesOf rfl rfl rfl rfl rfl (Nat.le_of_ble_eq_true rfl) (Nat.le_of_ble_eq_true rfl) rfl (sp_F_piecesOf (by omega) hK) ?_
        refine az_iadd kd_F_totalPieces_21 ?_
        refine ar_istore_n kd_F_totalPieces_22 (Nat.le_of_ble_eq_true rfl) rfl ?_
        dsimp only [List.set]
        refine az_iinc kd_F_totalPieces_23 rfl rfl ?_
        dsimp only [List.set]
        refine ar_goto (tg := 4) kd_F_totalPieces_26 (by decide) ?_
        exact ih (i + 1) (by omega) (by omega)
  refine ar_iconst kd_F_totalPieces_0 ?_
  refine ar_istore_n kd_F_totalPieces_1 (Nat.le_of_ble_eq_true rfl) rfl ?_
  dsimp only [List.set]
  refine ar_iconst kd_F_totalPieces_2 ?_
  refine ar_istore_n kd_F_totalPieces_3 (Nat.le_of_ble_eq_true rfl) rfl ?_
  dsimp only [List.set]
  exact loop (cg_nL c + 1) 0 (by omega) (by omega)
set_option maxHeartbeats 1000000 in
set_option maxRecDepth 20000 in
theorem sp_F_totalGifts {d : Nat} {x : am_C} {c : cS} {t : List am_C} {n : Nat} (hK : cK c) (hG : cG c) : am_W (d + 1) km_F_totalGifts 0 [some (.ref 6), none, none] [] (hC x c t) n 0 0 (am_eq (some (.int (iI (zs (fun l => zs (fun k => zb (0 < cg_gi c l k)) (cg_nT c)) (cg_nL c))))) (hC x c t) n) := by
  obtain ⟨hT, hL⟩ := hK.nn
  have loop : ∀ (f i : Nat), i ≤ cg_nL c → cg_nL c - i < f → am_W (d + 1) km_F_totalGifts 4 [some (.ref 6), some (.int (iI (zs (fun l => zs (fun k => zb (0 < cg_gi c l k)) (cg_nT c)) i))), some (.int (iI i))] [] (hC x c t) n 0 0 (am_eq (some (.int (iI (zs (fun l => zs (fun k => zb (0 < cg_gi c l k)) (cg_nT c)) (cg_nL c))))) (hC x c t) n) := by
    intro f
    induction f with
    | zero => intro i h1 h2; omega
    | succ f ih =>
      intro i h1 h2
      refine ar_iload_n kd_F_totalGifts_4 rfl ?_
      refine ar_aload_n kd_F_totalGifts_5 rfl ?_
      refine ar_get (ci := 1) (k := 1) kd_F_totalGifts_6 rfl kw_126 (by decide) rfl rfl ?_
      refine ar_get (ci := 2) (k := 0) kd_F_totalGifts_9 rfl kw_90 (by decide) rfl rfl ?_
      refine az_icmp_ge (tg := 29) kd_F_totalGifts_12 (by decide) (fun q1 => ?_) (fun q1 => ?_)
      · obtain rfl : i = cg_nL c := by omega
        refine ar_iload_n kd_F_totalGifts_29 rfl ?_
        refine ar_ireturn kd_F_totalGifts_30 rfl (Nat.le_of_ble_eq_true rfl) (Nat.le_of_ble_eq_true rfl) ?_
        first | exact ⟨rfl, rfl, rfl⟩ | exact ⟨by rw [e1], rfl, rfl⟩
      · refine ar_iload_n kd_F_totalGifts_15 rfl ?_
        refine ar_aload_n kd_F_totalGifts_16 rfl ?_
        refine ar_iload_n kd_F_totalGifts_17 rfl ?_
        refine az_callv (z := km_F_giftsOf) (As := [_]) (ci := 1) kd_F_totalGifts_18 kw_236 kw_238 rfl ks_F_giftsOf kz_F_giftsOf rfl rfl rfl rfl rfl (Nat.le_of_ble_eq_true rfl) (Nat.le_of_ble_eq_true rfl) rfl (sp_F_giftsOf (by omega) hK hG) ?_
        refine az_iadd kd_F_totalGifts_21 ?_
        refine ar_istore_n kd_F_totalGifts_22 (Nat.le_of_ble_eq_true rfl) rfl ?_
        dsimp only [List.set]
        refine az_iinc kd_F_totalGifts_23 rfl rfl ?_
        dsimp only [List.set]
        refine ar_goto (tg := 4) kd_F_totalGifts_26 (by decide) ?_
        exact ih (i + 1) (by omega) (by omega)
  refine ar_iconst kd_F_totalGifts_0 ?_
  refine ar_istore_n kd_F_totalGifts_1 (Nat.le_of_ble_eq_true rfl) rfl ?_
  dsimp only [List.set]
  refine ar_iconst kd_F_totalGifts_2 ?_
  refine ar_istore_n kd_F_totalGifts_3 (Nat.le_of_ble_eq_true rfl) rfl ?_
  dsimp only [List.set]
  exact loop (cg_nL c + 1) 0 (by omega) (by omega)
set_option maxHeartbeats 1000000 in
set_option maxRecDepth 20000 in
theorem sp_F_totalCost {d : Nat} {x : am_C} {c : cS} {t : List am_C} {n : Nat} (hK : cK c) (hG : cG c) : am_W (d + 2) km_F_totalCost 0 [some (.ref 6), none, none] [] (hC x c t) n 0 0 (am_eq (some (.int (iI (zs (fun l => 1000 * cg_lw c l + zs (ck_lcost c l) (cg_nT c)) (cg_nL c))))) (hC x c t) n) := by
  obtain ⟨hT, hL⟩ := hK.nn
  have loop : ∀ (f i : Nat), i ≤ cg_nL c → cg_nL c - i < f → am_W (d + 2) km_F_totalCost 4 [some (.ref 6), some (.int (iI (zs (fun l => 1000 * cg_lw c l + zs (ck_lcost c l) (cg_nT c)) i))), some (.int (iI i))] [] (hC x c t) n 0 0 (am_eq (some (.int (iI (zs (fun l => 1000 * cg_lw c l + zs (ck_lcost c l) (cg_nT c)) (cg_nL c))))) (hC x c t) n) := by
    intro f
    induction f with
    | zero => intro i h1 h2; omega
    | succ f ih =>
      intro i h1 h2
      refine ar_iload_n kd_F_totalCost_4 rfl ?_
      refine ar_aload_n kd_F_totalCost_5 rfl ?_
      refine ar_get (ci := 1) (k := 1) kd_F_totalCost_6 rfl kw_126 (by decide) rfl rfl ?_
      refine ar_get (ci := 2) (k := 0) kd_F_totalCost_9 rfl kw_90 (by decide) rfl rfl ?_
      refine az_icmp_ge (tg := 29) kd_F_totalCost_12 (by decide) (fun q1 => ?_) (fun q1 => ?_)
      · obtain rfl : i = cg_nL c := by omega
        refine ar_iload_n kd_F_totalCost_29 rfl ?_
        refine ar_ireturn kd_F_totalCost_30 rfl (Nat.le_of_ble_eq_true rfl) (Nat.le_of_ble_eq_true rfl) ?_
        first | exact ⟨rfl, rfl, rfl⟩ | exact ⟨by rw [e1], rfl, rfl⟩
      · refine ar_iload_n kd_F_totalCost_15 rfl ?_
        refine ar_aload_n kd_F_totalCost_16 rfl ?_
        refine ar_iload_n kd_F_totalCost_17 rfl ?_
        refine az_callv (z := km_F_lineCost) (As := [_]) (ci := 1) kd_F_totalCost_18 kw_244 kw_245 rfl ks_F_lineCost kz_F_lineCost rfl rfl rfl rfl rfl (Nat.le_of_ble_eq_true rfl) (Nat.le_of_ble_eq_true rfl) rfl (sp_F_lineCost (by omega) hK hG) ?_
        refine az_iadd kd_F_totalCost_21 ?_
        refine ar_istore_n kd_F_totalCost_22 (Nat.le_of_ble_eq_true rfl) rfl ?_
        dsimp only [List.set]
        refine az_iinc kd_F_totalCost_23 rfl rfl ?_
        dsimp only [List.set]
        refine ar_goto (tg := 4) kd_F_totalCost_26 (by decide) ?_
        exact ih (i + 1) (by omega) (by omega)
  refine ar_iconst kd_F_totalCost_0 ?_
  refine ar_istore_n kd_F_totalCost_1 (Nat.le_of_ble_eq_true rfl) rfl ?_
  dsimp only [List.set]
  refine ar_iconst kd_F_totalCost_2 ?_
  refine ar_istore_n kd_F_totalCost_3 (Nat.le_of_ble_eq_true rfl) rfl ?_
  dsimp only [List.set]
  exact loop (cg_nL c + 1) 0 (by omega) (by omega)
