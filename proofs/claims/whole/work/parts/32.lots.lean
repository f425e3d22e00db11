/-! changes of stock; new lots and lines -/
def ck_up (c : cS) (l k : Nat) : cS := if cg_rl c l 3 = 1 then ck_letGo c l else ck_move c l k (-zn (cg_gi c l k) (-cg_fr c k))
/-- the lines below m let go, the last first: the state, and how many had to -/
def ck_dn (k : Nat) : Nat → cS → Int → cS × Int
  | 0, c, s => (c, s)
  | m + 1, c, s => if cg_fr c k < 0 then (if 0 < cg_gi c m k then ck_dn k m (ck_up c m k) (s + 1) else ck_dn k m c s) else (c, s)
def ck_set (c : cS) (k : Nat) (z : Int) : cS := cs_pc (cs_fr c (zu (cg_fr c) k (cg_fr c k + (z - cg_pc c k)))) (zu (cg_pc c) k z)
theorem zs_congr {f g : Nat → Int} : ∀ n, (∀ k, k < n → f k = g k) → zs f n = zs g n
  | 0, _ => rfl
  | n + 1, h => by rw [zs, zs, zs_congr n (fun k hk => h k (by omega)), h n (by omega)]
theorem zs_upd {f : Nat → Int} {l : Nat} {v : Int} : ∀ n, l < n → zs (fun j => if j = l then v else f j) n = zs f n + (v - f l)
  | 0, h => by omega
  | n + 1, h => by
    simp only [zs]
    rcases Nat.lt_or_ge l n with q | q
    · rw [zs_upd n q, if_neg (by omega)]
      omega
    · have e : l = n := by omega
      subst e
      rw [zs_congr l (fun k hk => if_neg (by omega)), if_pos rfl]
      omega
theorem zs_nonneg {f : Nat → Int} : ∀ n, (∀ k, k < n → 0 ≤ f k) → 0 ≤ zs f n
  | 0, _ => Int.le_refl 0
  | n + 1, h => by
    have h1 := zs_nonneg n (fun k hk => h k (by omega))
    have h2 := h n (by omega)
    simp only [zs]
    omega
theorem zs_le {f : Nat → Int} {b : Int} : ∀ n, (∀ k, k < n → f k ≤ b) → zs f n ≤ n * b
  | 0, _ => by simp [zs]
  | n + 1, h => by
    have h1 := zs_le n (fun k hk => h k (by omega))
    have h2 := h n (by omega)
    simp only [zs]
    have e : ((n + 1 : Nat) : Int) * b = n * b + b := by rw [Int.natCast_add, Int.add_mul]; simp
    rw [e]
    omega
/-- what is held and what is free make up the pieces -/
def cI (c : cS) : Prop := (∀ l k, l < 6 → k < 8 → 0 ≤ cg_gi c l k ∧ cg_gi c l k ≤ 500) ∧ ∀ k, k < 8 → (cg_fr c k + zs (fun l => cg_gi c l k) 6 = cg_pc c k) ∧ 0 ≤ cg_pc c k ∧ cg_pc c k ≤ 500
theorem cI.G {c : cS} (h : cI c) : cG c := by
  refine ⟨fun l k hl hk => ?_, fun k hk => ?_⟩
  · have := h.1 l k hl hk
    omega
  · have h1 := h.2 k hk
    have h2 := zs_nonneg (f := fun l => cg_gi c l k) 6 (fun l hl => (h.1 l k hl hk).1)
    have h3 := zs_le (f := fun l => cg_gi c l k) (b := 500) 6 (fun l hl => (h.1 l k hl hk).2)
    omega
theorem cI_move {c : cS} (h : cI c) {l k : Nat} {z : Int} (hl : l < 6) (hk : k < 8) (hz : 0 ≤ cg_gi c l k + z ∧ cg_gi c l k + z ≤ 500) : cI (ck_move c l k z) := by
  refine ⟨fun l' k' hl' hk' => ?_, fun k' hk' => ?_⟩
  · show 0 ≤ zr (cg_gi c) l (zu (cg_gi c l) k (cg_gi c l k + z)) l' k' ∧ _
    show _ ∧ zr (cg_gi c) l (zu (cg_gi c l) k (cg_gi c l k + z)) l' k' ≤ 500
    by_cases e : l' = l
    · subst e
      rw [zr_s]
      by_cases e2 : k' = k
      · subst e2
        rw [zu_s]
        exact hz
      · rw [zu_n e2]
        exact h.1 l' k' hl' hk'
    · rw [zr_n e]
      exact h.1 l' k' hl' hk'
  · show (zu (cg_fr c) k (cg_fr c k - z)) k' + zs (fun l' => zr (cg_gi c) l (zu (cg_gi c l) k (cg_gi c l k + z)) l' k') 6 = cg_pc c k' ∧ _
    refine ⟨?_, (h.2 k' hk').2⟩
    have h1 := (h.2 k' hk').1
    by_cases e2 : k' = k
    · subst e2
      rw [zu_s]
      have e3 : zs (fun l' => zr (cg_gi c) l (zu (cg_gi c l) k' (cg_gi c l k' + z)) l' k') 6 = zs (fun l' => if l' = l then cg_gi c l k' + z else cg_gi c l' k') 6 := zs_congr 6 (fun j hj => by
        by_cases e : j = l
        · subst e
          rw [zr_s, zu_s, if_pos rfl]
        · rw [zr_n e, if_neg e])
      rw [e3, zs_upd (f := fun l' => cg_gi c l' k') 6 hl]
      omega
    · rw [zu_n e2]
      have e3 : zs (fun l' => zr (cg_gi c) l (zu (cg_gi c l) k (cg_gi c l k + z)) l' k') 6 = zs (fun l' => cg_gi c l' k') 6 := zs_congr 6 (fun j hj => by
        by_cases e : j = l
        · subst e
          rw [zr_s, zu_n e2]
        · rw [zr_n e])
      rw [e3]
      exact h1
theorem cI_letGo {c : cS} (h : cI c) {l : Nat} (hl : l < 6) (hT : cg_nT c ≤ 8) : cI (ck_letGo c l) := by
  have : ∀ n, n ≤ 8 → cI (zf (fun c k => ck_move c l k (-cg_gi c l k)) c n) := by
    intro n
    induction n with
    | zero => intro _; exact h
    | succ n ih =>
      intro hn
      have h1 := ih (by omega)
      exact cI_move h1 hl (by omega) (by have := h1.1 l n hl (by omega); omega)
  exact this _ hT
theorem cI_up {c : cS} (h : cI c) {l k : Nat} (hl : l < 6) (hk : k < 8) (hT : cg_nT c ≤ 8) (hf : cg_fr c k < 0) : cI (ck_up c l k) := by
  unfold ck_up
  split
  · exact cI_letGo h hl hT
  · refine cI_move h hl hk ?_
    have h1 := h.1 l k hl hk
    unfold zn
    split <;> omega
theorem ck_up_K {c : cS} (h : cK c) (l k : Nat) : cK (ck_up c l k) := by
  unfold ck_up
  split
  · exact ck_letGo_K l h
  · exact ck_move_K l k _ h
theorem ck_up_nL (c : cS) (l k : Nat) : cg_nL (ck_up c l k) = cg_nL c := by
  unfold ck_up
  split
  · exact ck_letGo_nL c l
  · rfl
theorem cI_set {c : cS} (h : cI c) {k : Nat} {z : Int} (hk : k < 8) (hz : 0 ≤ z ∧ z ≤ 500) : cI (ck_set c k z) := by
  refine ⟨h.1, fun k' hk' => ?_⟩
  show (zu (cg_fr c) k (cg_fr c k + (z - cg_pc c k))) k' + zs (fun l' => cg_gi c l' k') 6 = zu (cg_pc c) k z k' ∧ 0 ≤ zu (cg_pc c) k z k' ∧ zu (cg_pc c) k z k' ≤ 500
  have h1 := h.2 k' hk'
  by_cases e : k' = k
  · subst e
    rw [zu_s, zu_s]
    omega
  · rw [zu_n e, zu_n e]
    exact h1
set_option maxHeartbeats 1000000 in
set_option maxRecDepth 20000 in
theorem sp_F_giveUp {d : Nat} {x : am_C} {c : cS} {t : List am_C} {n : Nat} {l k : Nat} (hl : l < 6) (hk : k < 8) (hK : cK c) (hG : cG c) : am_W (d + 2) km_F_giveUp 0 [some (.ref 6), some (.int (iI l)), some (.int (iI k))] [] (hC x c t) n 0 0 (am_eq none (hC x (ck_up c l k) t) n) := by
  obtain ⟨hT, hL⟩ := hK.nn
  have h1 := hK.line hl
  have h2 := hG.gi hl hk
  have h3 := hG.fr hk
  refine ar_aload_n kd_F_giveUp_0 rfl ?_
  refine ar_get (ci := 1) (k := 1) kd_F_giveUp_1 rfl kw_126 (by decide) rfl rfl ?_
  refine ar_get (ci := 2) (k := 4) kd_F_giveUp_4 rfl kw_99 (by decide) rfl rfl ?_
  refine ar_iload_n kd_F_giveUp_7 rfl ?_
  refine az_aald kd_F_giveUp_8 rfl rfl (by omega) (if_pos (by omega)) ?_
  refine ar_iconst kd_F_giveUp_9 ?_
  refine az_iald kd_F_giveUp_10 (hr_rl (by omega)) (k := 3) rfl (by omega) ?_
  refine ar_iconst kd_F_giveUp_11 ?_
  refine az_icmp_ne (tg := 23) kd_F_giveUp_12 (by decide) (fun q1 => ?_) (fun q1 => ?_)
  · have e1 : ck_up c l k = ck_move c l k (-zn (cg_gi c l k) (-cg_fr c k)) := if_neg q1
    refine ar_aload_n kd_F_giveUp_23 rfl ?_
    refine ar_iload_n kd_F_giveUp_24 rfl ?_
    refine ar_iload_n kd_F_giveUp_25 rfl ?_
    refine ar_aload_n kd_F_giveUp_26 rfl ?_
    refine ar_get (ci := 1) (k := 1) kd_F_giveUp_27 rfl kw_126 (by decide) rfl rfl ?_
    refine ar_get (ci := 2) (k := 6) kd_F_giveUp_30 rfl kw_106 (by decide) rfl rfl ?_
    refine ar_iload_n kd_F_giveUp_33 rfl ?_
    refine az_aald kd_F_giveUp_34 rfl rfl (by omega) (if_pos (by omega)) ?_
    refine ar_iload_n kd_F_giveUp_35 rfl ?_
    refine az_iald kd_F_giveUp_36 (hr_gi (by omega)) rfl (by omega) ?_
    refine ar_aload_n kd_F_giveUp_37 rfl ?_
    refine ar_get (ci := 1) (k := 0) kd_F_giveUp_38 rfl kw_123 (by decide) rfl rfl ?_
    refine ar_get (ci := 3) (k := 5) kd_F_giveUp_41 rfl kw_57 (by decide) rfl rfl ?_
    refine ar_iload_n kd_F_giveUp_44 rfl ?_
    refine az_iald kd_F_giveUp_45 rfl rfl (by omega) ?_
    refine az_ineg kd_F_giveUp_46 ?_
    refine ar_min kd_F_giveUp_47 kw_217 kw_218 kw_13 kw_219 rfl (Nat.le_of_ble_eq_true rfl) (Nat.zero_le _) (Nat.zero_le _) ?_
    rw [ii_min (by omega) (by omega)]
    refine az_ineg kd_F_giveUp_50 ?_
    refine az_callv (z := km_F_move) (As := [_, _, _]) (ci := 1) kd_F_giveUp_51 kw_444 kw_445 rfl ks_F_move kz_F_move rfl rfl rfl rfl rfl (Nat.le_of_ble_eq_true rfl) (Nat.le_of_ble_eq_true rfl) rfl (sp_F_move (d := d + 1) hl hk) ?_
    refine ar_return kd_F_giveUp_54 rfl (Nat.le_of_ble_eq_true rfl) (Nat.le_of_ble_eq_true rfl) ?_
    exact ⟨rfl, by rw [e1], rfl⟩
  · have e1 : ck_up c l k = ck_letGo c l := if_pos q1
    refine ar_aload_n kd_F_giveUp_15 rfl ?_
    refine ar_iload_n kd_F_giveUp_16 rfl ?_
    refine az_callv (z := km_F_letGo) (As := [_]) (ci := 1) kd_F_giveUp_17 kw_440 kw_441 rfl ks_F_letGo kz_F_letGo rfl rfl rfl rfl rfl (Nat.le_of_ble_eq_true rfl) (Nat.le_of_ble_eq_true rfl) rfl (sp_F_letGo hl hK) ?_
    refine ar_goto (tg := 54) kd_F_giveUp_20 (by decide) ?_
    refine ar_return kd_F_giveUp_54 rfl (Nat.le_of_ble_eq_true rfl) (Nat.le_of_ble_eq_true rfl) ?_
    exact ⟨rfl, by rw [e1], rfl⟩
set_option maxHeartbeats 1000000 in
set_option maxRecDepth 20000 in
theorem sp_F_setPieces {d : Nat} {x : am_C} {c : cS} {t : List am_C} {n : Nat} {k : Nat} {z : Int} (hk : k < 8) (hz : 0 ≤ z ∧ z ≤ 500) (hK : cK c) (hI : cI c) : am_W (d + 3) km_F_setPieces 0 [some (.ref 6), some (.int (iI k)), some (.int (iI z)), none, none] [] (hC x c t) n 0 0 (am_eq (some (.int (iI (ck_dn k (cg_nL c) (ck_set c k z) 0).2))) (hC x (ck_dn k (cg_nL c) (ck_set c k z) 0).1 t) n) := by
  obtain ⟨hT, hL⟩ := hK.nn
  have loop : ∀ i : Nat, ∀ (c1 : cS) (s : Int), cK c1 → cI c1 → i ≤ 6 → 0 ≤ s → ck_dn k (cg_nL c) (ck_set c k z) 0 = ck_dn k i c1 s → am_W (d + 3) km_F_setPieces 46 [some (.ref 6), some (.int (iI k)), some (.int (iI z)), some (.int (iI s)), some (.int (iI ((i : Int) - 1)))] [] (hC x c1 t) n 0 0 (am_eq (some (.int (iI (ck_dn k (cg_nL c) (ck_set c k z) 0).2))) (hC x (ck_dn k (cg_nL c) (ck_set c k z) 0).1 t) n) := by
    intro i
    induction i with
    | zero =>
      intro c1 s hK1 hI1 hi6 hs e0
      refine ar_iload kd_F_setPieces_46 rfl ?_
      refine az_if_lt (tg := 94) kd_F_setPieces_48 (by decide) (fun q1 => ?_) (fun q1 => absurd (by omega) q1)
      have e1 : ck_dn k (cg_nL c) (ck_set c k z) 0 = (c1, s) := e0
      refine ar_iload_n kd_F_setPieces_94 rfl ?_
      refine ar_ireturn kd_F_setPieces_95 rfl (Nat.le_of_ble_eq_true rfl) (Nat.le_of_ble_eq_true rfl) ?_
      exact ⟨by rw [e1], by rw [e1], rfl⟩
    | succ i ih =>
      intro c1 s hK1 hI1 hi6 hs e0
      obtain ⟨hT1, hL1⟩ := hK1.nn
      have hfr := hI1.G.fr hk
      have hgi := hI1.G.gi (l := i) (k := k) (by omega) hk
      rw [show ((i + 1 : Nat) : Int) - 1 = (i : Int) by omega]
      refine ar_iload kd_F_setPieces_46 rfl ?_
      refine az_if_lt (tg := 94) kd_F_setPieces_48 (by decide) (fun q1 => absurd q1 (by omega)) (fun q1 => ?_)
      refine ar_aload_n kd_F_setPieces_51 rfl ?_
      refine ar_get (ci := 1) (k := 0) kd_F_setPieces_52 rfl kw_123 (by decide) rfl rfl ?_
      refine ar_get (ci := 3) (k := 5) kd_F_setPieces_55 rfl kw_57 (by decide) rfl rfl ?_
      refine ar_iload_n kd_F_setPieces_58 rfl ?_
      refine az_iald kd_F_setPieces_59 rfl rfl (by omega) ?_
      refine az_if_ge (tg := 94) kd_F_setPieces_60 (by decide) (fun q2 => ?_) (fun q2 => ?_)
      · have e1 : ck_dn k (cg_nL c) (ck_set c k z) 0 = (c1, s) := by
          rw [e0]
          simp only [ck_dn]
          rw [if_neg (by omega)]
        refine ar_iload_n kd_F_setPieces_94 rfl ?_
        refine ar_ireturn kd_F_setPieces_95 rfl (Nat.le_of_ble_eq_true rfl) (Nat.le_of_ble_eq_true rfl) ?_
        exact ⟨by rw [e1], by rw [e1], rfl⟩
      · refine ar_aload_n kd_F_setPieces_63 rfl ?_
        refine ar_get (ci := 1) (k := 1) kd_F_setPieces_64 rfl kw_126 (by decide) rfl rfl ?_
        refine ar_get (ci := 2) (k := 6) kd_F_setPieces_67 rfl kw_106 (by decide) rfl rfl ?_
        refine ar_iload kd_F_setPieces_70 rfl ?_
        refine az_aald kd_F_setPieces_72 rfl rfl (by omega) (if_pos (by omega)) ?_
        refine ar_iload_n kd_F_setPieces_73 rfl ?_
        refine az_iald kd_F_setPieces_74 (hr_gi (by omega)) rfl (by omega) ?_
        refine az_if_le (tg := 88) kd_F_setPieces_75 (by decide) (fun q3 => ?_) (fun q3 => ?_)
        · have e2 : ck_dn k (cg_nL c) (ck_set c k z) 0 = ck_dn k i c1 s := by
            rw [e0]
            simp only [ck_dn]
            rw [if_pos (by omega), if_neg (by omega)]
          refine az_iinc kd_F_setPieces_88 rfl rfl ?_
          dsimp only [List.set]
          refine ar_goto (tg := 46) kd_F_setPieces_91 (by decide) ?_
          first | exact ih _ _ (ck_up_K hK1 i k) (cI_up hI1 (by omega) hk hT1 (by omega)) (by omega) (by omega) e2 | exact ih _ _ hK1 hI1 (by omega) (by omega) e2
        · have e2 : ck_dn k (cg_nL c) (ck_set c k z) 0 = ck_dn k i (ck_up c1 i k) (s + 1) := by
            rw [e0]
            simp only [ck_dn]
            rw [if_pos (by omega), if_pos (by omega)]
          refine ar_aload_n kd_F_setPieces_78 rfl ?_
          refine ar_iload kd_F_setPieces_79 rfl ?_
          refine ar_iload_n kd_F_setPieces_81 rfl ?_
          refine az_callv (z := km_F_giveUp) (As := [_, _]) (ci := 1) kd_F_setPieces_82 kw_548 kw_550 rfl ks_F_giveUp kz_F_giveUp rfl rfl rfl rfl rfl (Nat.le_of_ble_eq_true rfl) (Nat.le_of_ble_eq_true rfl) rfl (sp_F_giveUp (by omega) hk hK1 hI1.G) ?_
          refine az_iinc kd_F_setPieces_85 rfl rfl ?_
          dsimp only [List.set]
          refine az_iinc kd_F_setPieces_88 rfl rfl ?_
          dsimp only [List.set]
          refine ar_goto (tg := 46) kd_F_setPieces_91 (by decide) ?_
          first | exact ih _ _ (ck_up_K hK1 i k) (cI_up hI1 (by omega) hk hT1 (by omega)) (by omega) (by omega) e2 | exact ih _ _ hK1 hI1 (by omega) (by omega) e2
  refine ar_aload_n kd_F_setPieces_0 rfl ?_
  refine ar_get (ci := 1) (k := 0) kd_F_setPieces_1 rfl kw_123 (by decide) rfl rfl ?_
  refine ar_get (ci := 3) (k := 5) kd_F_setPieces_4 rfl kw_57 (by decide) rfl rfl ?_
  refine ar_iload_n kd_F_setPieces_7 rfl ?_
  refine ar_dup2 kd_F_setPieces_8 rfl rfl ?_
  refine az_iald kd_F_setPieces_9 rfl rfl (by omega) ?_
  refine ar_iload_n kd_F_setPieces_10 rfl ?_
  refine ar_aload_n kd_F_setPieces_11 rfl ?_
  refine ar_get (ci := 1) (k := 0) kd_F_setPieces_12 rfl kw_123 (by decide) rfl rfl ?_
  refine ar_get (ci := 3) (k := 4) kd_F_setPieces_15 rfl kw_55 (by decide) rfl rfl ?_
  refine ar_iload_n kd_F_setPieces_18 rfl ?_
  refine az_iald kd_F_setPieces_19 rfl rfl (by omega) ?_
  refine az_isub kd_F_setPieces_20 ?_
  refine az_iadd kd_F_setPieces_21 ?_
  refine az_iast kd_F_setPieces_22 rfl rfl rfl (by omega) ?_
  rw [hw_fr]
  refine ar_aload_n kd_F_setPieces_23 rfl ?_
  refine ar_get (ci := 1) (k := 0) kd_F_setPieces_24 rfl kw_123 (by decide) rfl rfl ?_
  refine ar_get (ci := 3) (k := 4) kd_F_setPieces_27 rfl kw_55 (by decide) rfl rfl ?_
  refine ar_iload_n kd_F_setPieces_30 rfl ?_
  refine ar_iload_n kd_F_setPieces_31 rfl ?_
  refine az_iast kd_F_setPieces_32 rfl rfl rfl (by omega) ?_
  rw [hw_pc]
  refine ar_iconst kd_F_setPieces_33 ?_
  refine ar_istore_n kd_F_setPieces_34 (Nat.le_of_ble_eq_true rfl) rfl ?_
  dsimp only [List.set]
  refine ar_aload_n kd_F_setPieces_35 rfl ?_
  refine ar_get (ci := 1) (k := 1) kd_F_setPieces_36 rfl kw_126 (by decide) rfl rfl ?_
  refine ar_get (ci := 2) (k := 0) kd_F_setPieces_39 rfl kw_90 (by decide) rfl rfl ?_
  refine ar_iconst kd_F_setPieces_42 ?_
  refine az_isub kd_F_setPieces_43 ?_
  refine ar_istore kd_F_setPieces_44 (Nat.le_of_ble_eq_true rfl) rfl ?_
  dsimp only [List.set]
  exact loop (cg_nL c) (ck_set c k z) 0 hK (cI_set hI hk hz) (by omega) (by omega) rfl
