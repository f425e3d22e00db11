/-! what changes both alike: rules, costs, barred lots, new lines, new lots -/
theorem bf_of {m m' : mS} (h1 : mg_un m' = mg_un m) (h2 : mg_pl m' = mg_pl m) {a b : Nat} : mk_bf m' a b ↔ mk_bf m a b := by
  unfold mk_bf
  rw [h1, h2]
theorem cOd_of {m m' : mS} {n : Nat} {od : Nat → Int} (h : cOd m n od) (h1 : mg_un m' = mg_un m) (h2 : mg_pl m' = mg_pl m) : cOd m' n od := ⟨h.1, fun i j hi hj => (bf_of h1 h2).mpr (h.2.1 i j hi hj), h.2.2⟩
theorem cP_rl {c : cS} (h : cP c) (v : Nat → Nat → Int) : cP (cs_rl c v) := h
theorem cA_rl {c : cS} (h : cA c) (v : Nat → Nat → Int) : cA (cs_rl c v) := h
theorem cP_tl {c : cS} (h : cP c) (v : Nat → Nat → Int) : cP (cs_tl c v) := h
theorem cA_tl {c : cS} (h : cA c) (v : Nat → Nat → Int) : cA (cs_tl c v) := h
theorem hs_val : hs_least 0 = 0 ∧ hs_least 1 = 1 ∧ hs_least 2 = 1 ∧ hs_least 3 = 0 ∧ hs_most 0 = 9999 ∧ hs_most 1 = 50 ∧ hs_most 2 = 8 ∧ hs_most 3 = 1 := by decide
theorem rl_upd {F : Nat → Nat → Int} {l k : Nat} {v : Int} (l' k' : Nat) : zr F l (zu (F l) k v) l' k' = if l' = l ∧ k' = k then v else F l' k' := by
  by_cases e : l' = l
  · subst e
    rw [zr_s]
    by_cases e2 : k' = k
    · subst e2
      rw [zu_s, if_pos ⟨rfl, rfl⟩]
    · rw [zu_n e2, if_neg (fun q => e2 q.2)]
  · rw [zr_n e, if_neg (fun q => e q.1)]
theorem cK_rule {c : cS} (h : cK c) {l k : Nat} {v : Int} (hk : k < 4) (hv : hs_least k ≤ v ∧ v ≤ hs_most k) : cK (cs_rl c (zr (cg_rl c) l (zu (cg_rl c l) k v))) := by
  obtain ⟨z1, z2, z3, z4, z5, z6, z7, z8⟩ := hs_val
  have hv2 := (hs_le hk).mp hv
  refine ⟨h.1, h.2.1, fun l' hl' => ?_⟩
  obtain ⟨a1, a2, a3, a4, a5, a6, a7⟩ := h.2.2 l' hl'
  refine ⟨a1, a2, ?_, ?_, ?_, ?_, a7⟩
  · show 0 ≤ zr (cg_rl c) l (zu (cg_rl c l) k v) l' 0 ∧ zr (cg_rl c) l (zu (cg_rl c l) k v) l' 0 ≤ 9999
    rw [rl_upd]
    split <;> omega
  · show 0 ≤ zr (cg_rl c) l (zu (cg_rl c l) k v) l' 1 ∧ zr (cg_rl c) l (zu (cg_rl c l) k v) l' 1 ≤ 50
    rw [rl_upd]
    split <;> omega
  · show 0 ≤ zr (cg_rl c) l (zu (cg_rl c l) k v) l' 2 ∧ zr (cg_rl c) l (zu (cg_rl c l) k v) l' 2 ≤ 8
    rw [rl_upd]
    split <;> omega
  · show 0 ≤ zr (cg_rl c) l (zu (cg_rl c l) k v) l' 3 ∧ zr (cg_rl c) l (zu (cg_rl c l) k v) l' 3 ≤ 1
    rw [rl_upd]
    split <;> omega
theorem rel_rule {c : cS} {m : mS} (h : rel c m) {l k : Nat} {v : Int} (hl : l < cg_nL c) (hk : k < 4) (hv : hs_least k ≤ v ∧ v ≤ hs_most k) : rel (cs_rl c (zr (cg_rl c) l (zu (cg_rl c l) k v))) (ms_rl (ms_co m 0) (zu (mg_rl m) (4 * l + k) v)) := by
  have hv2 := (hs_le hk).mp hv
  refine ⟨⟨cK_rule h.cK hk hv, cP_rl h.cP _, cA_rl h.cA _, h.mA, h.mE⟩, h.2.1, fun l' k' hl' hk' => ?_, h.2.2.2.1, h.2.2.2.2.1, h.2.2.2.2.2.1, h.2.2.2.2.2.2.1, h.2.2.2.2.2.2.2.1, cOd_of h.od rfl rfl, h.ex, fun l' hl' => ?_, h.2.2.2.2.2.2.2.2.2.2.2⟩
  · show zu (mg_rl m) (4 * l + k) v (4 * l' + k') = if l' < cg_nL c then zr (cg_rl c) l (zu (cg_rl c l) k v) l' k' else 0
    rw [rl_upd]
    have h1 := h.rl0 hl' hk'
    by_cases e : l' = l ∧ k' = k
    · obtain ⟨e1, e2⟩ := e
      subst e1
      subst e2
      rw [zu_s, if_pos hl, if_pos ⟨rfl, rfl⟩]
    · rw [zu_n (by omega), if_neg e]
      exact h1
  · show 1 ≤ zr (cg_rl c) l (zu (cg_rl c l) k v) l' 1
    have h1 := h.r1 (l := l') hl'
    rw [rl_upd]
    split <;> omega
theorem cK_cost {c : cS} (h : cK c) {l k : Nat} {v : Int} (hv : -1 ≤ v ∧ v ≤ 1000) : cK (cs_tl c (zr (cg_tl c) l (zu (cg_tl c l) k v))) := by
  refine ⟨h.1, h.2.1, fun l' hl' => ?_⟩
  obtain ⟨a1, a2, a3, a4, a5, a6, a7⟩ := h.2.2 l' hl'
  refine ⟨a1, a2, a3, a4, a5, a6, fun k' hk' => ?_⟩
  show -1 ≤ zr (cg_tl c) l (zu (cg_tl c l) k v) l' k' ∧ zr (cg_tl c) l (zu (cg_tl c l) k v) l' k' ≤ 1000
  have := a7 k' hk'
  rw [rl_upd]
  split <;> omega
theorem rel_cost {c : cS} {m : mS} (h : rel c m) {l k : Nat} {v : Int} (hl : l < cg_nL c) (hk : k < 8) (hv : -1 ≤ v ∧ v ≤ 1000) : rel (cs_tl c (zr (cg_tl c) l (zu (cg_tl c l) k v))) (ms_tl (ms_co m 0) (zu (mg_tl m) (8 * l + k) v)) := by
  refine ⟨⟨cK_cost h.cK hv, cP_tl h.cP _, cA_tl h.cA _, h.mA, h.mE⟩, h.2.1, h.2.2.1, fun l' k' hl' hk' => ?_, h.2.2.2.2.1, h.2.2.2.2.2.1, h.2.2.2.2.2.2.1, h.2.2.2.2.2.2.2.1, cOd_of h.od rfl rfl, h.ex, h.2.2.2.2.2.2.2.2.2.2⟩
  show zu (mg_tl m) (8 * l + k) v (8 * l' + k') = if l' < cg_nL c then zr (cg_tl c) l (zu (cg_tl c l) k v) l' k' else -1
  rw [rl_upd]
  have h1 := h.tl0 hl' hk'
  by_cases e : l' = l ∧ k' = k
  · obtain ⟨e1, e2⟩ := e
    subst e1
    subst e2
    rw [zu_s, if_pos hl, if_pos ⟨rfl, rfl⟩]
  · rw [zu_n (by omega), if_neg e]
    exact h1
set_option maxRecDepth 100000 in
theorem sb_all : ∀ s : Fin 256, ∀ k : Fin 8, (∃ s' : Fin 256, (Int32.ofInt ((s : Nat) : Int) ||| (iI 1 <<< (Int32.ofInt ((k : Nat) : Int) &&& 31))) = Int32.ofInt ((s' : Nat) : Int) ∧ ∀ i : Fin 8, (s' : Nat).testBit i = ((s : Nat).testBit i || decide ((i : Nat) = (k : Nat)))) ∧ (∃ s' : Fin 256, (Int32.ofInt ((s : Nat) : Int) &&& ((iI 1 <<< (Int32.ofInt ((k : Nat) : Int) &&& 31)) ^^^ iI (-1))) = Int32.ofInt ((s' : Nat) : Int) ∧ ∀ i : Fin 8, (s' : Nat).testBit i = ((s : Nat).testBit i && decide ((i : Nat) ≠ (k : Nat)))) := by
  intro s k
  refine ⟨⟨⟨(s : Nat) ||| 2 ^ (k : Nat), ?_⟩, ?_⟩, ⟨⟨(s : Nat) &&& (255 - 2 ^ (k : Nat)), ?_⟩, ?_⟩⟩
  · revert s k; decide +kernel
  · revert s k; decide +kernel
  · revert s k; decide +kernel
  · revert s k; decide +kernel
theorem bar_bit {x : Int32} {s k : Nat} (hx : x = iI (s : Int)) (hs : s < 256) (hk : k < 8) : ((x >>> (iI (k : Int) &&& 31)) &&& 1 = 1) ↔ s.testBit k = true := by
  subst hx
  have h1 := ib_bit hs hk
  have e : ((iI (s : Int) >>> (iI (k : Int) &&& 31)) &&& 1 : Int32) = ((iI (s : Int) >>> (iI (k : Int) &&& 31)) &&& iI 1 : Int32) := rfl
  rw [e, h1]
  by_cases q : s.testBit k = true
  · rw [if_pos q]
    exact ⟨fun _ => q, fun _ => rfl⟩
  · rw [if_neg q]
    exact ⟨fun a => absurd a (by decide), fun a => absurd a q⟩
theorem lb_sb (c : cS) (l k : Nat) (z : Int) (l' : Nat) : cg_lb (ck_sb c l k z) l' = if l' = l then (if z = 0 then cg_lb c l &&& ((iI 1 <<< (iI k &&& 31)) ^^^ iI (-1)) else cg_lb c l ||| (iI 1 <<< (iI k &&& 31))) else cg_lb c l' := by
  show upd (cg_lb c) l _ l' = _
  by_cases e : l' = l
  · subst e
    rw [pk_us, if_pos rfl]
  · rw [pk_un e, if_neg e]
/-- a lot is barred, or no longer -/
theorem bar_sb {c : cS} {m : mS} (h : rel c m) {l k : Nat} {v : Int} (hl : l < 6) (hk : k < 8) (hv : 0 ≤ v ∧ v ≤ 1) : (∀ l' k', l' < 6 → k' < 8 → (ck_bar (ck_sb c l k (1 - v)) l' k' ↔ if l' = l ∧ k' = k then v = 0 else ck_bar c l' k')) ∧ ∀ l', l' < 6 → ∃ s : Nat, s < 256 ∧ cg_lb (ck_sb c l k (1 - v)) l' = iI (s : Int) := by
  obtain ⟨s, hs, es⟩ := h.lbs hl
  obtain ⟨⟨s1, a1, a2⟩, s2, b1, b2⟩ := sb_all ⟨s, hs⟩ ⟨k, hk⟩
  simp only at a1 a2 b1 b2
  have key : ∃ s' : Nat, s' < 256 ∧ cg_lb (ck_sb c l k (1 - v)) l = iI (s' : Int) ∧ ∀ i, i < 8 → (s'.testBit i = true ↔ if i = k then v = 0 else s.testBit i = true) := by
    rcases (show v = 0 ∨ v = 1 by omega) with rfl | rfl
    · refine ⟨s1, s1.2, ?_, fun i hi => ?_⟩
      · rw [lb_sb, if_pos rfl, if_neg (by decide), es]
        exact a1
      · rw [a2 ⟨i, hi⟩]
        by_cases e : i = k
        · simp [e]
        · simp [e]
    · refine ⟨s2, s2.2, ?_, fun i hi => ?_⟩
      · rw [lb_sb, if_pos rfl, if_pos (by decide), es]
        exact b1
      · rw [b2 ⟨i, hi⟩]
        by_cases e : i = k
        · simp [e]
        · simp [e]
  obtain ⟨s', hs', es', hb⟩ := key
  refine ⟨fun l' k' hl' hk' => ?_, fun l' hl' => ?_⟩
  · by_cases e : l' = l
    · subst e
      unfold ck_bar
      rw [bar_bit es' hs' hk', hb k' hk']
      by_cases e2 : k' = k
      · rw [if_pos e2, if_pos ⟨rfl, e2⟩]
      · rw [if_neg e2, if_neg (fun q => e2 q.2), bar_bit es hs hk']
    · rw [if_neg (fun q => e q.1)]
      unfold ck_bar
      rw [lb_sb, if_neg e]
  · by_cases e : l' = l
    · subst e
      exact ⟨s', hs', es'⟩
    · rw [lb_sb, if_neg e]
      exact h.lbs hl'
theorem cP_sb {c : cS} (h : cP c) (l k : Nat) (z : Int) : cP (ck_sb c l k z) := h
theorem cA_sb {c : cS} (h : cA c) (l k : Nat) (z : Int) : cA (ck_sb c l k z) := h
theorem rel_may {c : cS} {m : mS} (h : rel c m) {l k : Nat} {v : Int} (hl : l < cg_nL c) (hk : k < 8) (hv : 0 ≤ v ∧ v ≤ 1) : rel (ck_sb c l k (1 - v)) (mk_may m k l v) := by
  have hL := h.cK.nn.2
  obtain ⟨h1, h2⟩ := bar_sb h (l := l) (k := k) (v := v) (by omega) hk hv
  refine ⟨⟨cK_sb h.cK _ _ _, cP_sb h.cP _ _ _, cA_sb h.cA _ _ _, h.mA, h.mE⟩, h.2.1, h.2.2.1, h.2.2.2.1, fun l' k' hl' hk' => ?_, h.2.2.2.2.2.1, h.2.2.2.2.2.2.1, h.2.2.2.2.2.2.2.1, cOd_of h.od rfl rfl, h.ex, h.2.2.2.2.2.2.2.2.2.2.1, h2⟩
  rw [zb_congr (h1 l' k' hl' hk')]
  show upd (mg_ba m) (8 * l + k) (iI (1 - v)) (8 * l' + k') = _
  by_cases e : l' = l ∧ k' = k
  · obtain ⟨e1, e2⟩ := e
    subst e1
    subst e2
    rw [pk_us]
    congr 1
    rcases (show v = 0 ∨ v = 1 by omega) with rfl | rfl
    · simp [zb]
    · simp [zb]
  · rw [pk_un (by omega), h.ba hl' hk']
    congr 1
    refine zb_congr ?_
    rw [if_neg e]
/-- a new line -/
theorem r1_rows (L : Nat) (c0 : cS) : ∀ n l k, cg_rl (zf (fun a k => ck_r1 a L k) c0 n) l k = if l = L ∧ k < n then hs_first k else cg_rl c0 l k
  | 0, l, k => by rw [if_neg (by omega)]; rfl
  | n + 1, l, k => by
    have e : ∀ g : cS → Nat → cS, zf g c0 (n + 1) = g (zf g c0 n) n := fun _ => rfl
    have e2 : ∀ (a : cS) (l k : Nat), cg_rl (ck_r1 a l k) = zr (cg_rl a) l (zu (cg_rl a l) k (hs_first k)) := fun _ _ _ => rfl
    rw [e, e2, rl_upd, r1_rows L c0 n]
    by_cases q : l = L ∧ k = n
    · obtain ⟨q1, q2⟩ := q
      subst q2
      rw [if_pos ⟨q1, rfl⟩, if_pos ⟨q1, by omega⟩]
    · rw [if_neg q]
      by_cases q2 : l = L ∧ k < n
      · rw [if_pos q2, if_pos ⟨q2.1, by omega⟩]
      · rw [if_neg q2, if_neg (by omega)]
theorem r2_rows (L : Nat) (c0 : cS) : ∀ n l k, cg_tl (zf (fun a k => ck_r2 a L k) c0 n) l k = if l = L ∧ k < n then -1 else cg_tl c0 l k
  | 0, l, k => by rw [if_neg (by omega)]; rfl
  | n + 1, l, k => by
    have e : ∀ g : cS → Nat → cS, zf g c0 (n + 1) = g (zf g c0 n) n := fun _ => rfl
    have e2 : ∀ (a : cS) (l k : Nat), cg_tl (ck_r2 a l k) = zr (cg_tl a) l (zu (cg_tl a l) k (-1)) := fun _ _ _ => rfl
    rw [e, e2, rl_upd, r2_rows L c0 n]
    by_cases q : l = L ∧ k = n
    · obtain ⟨q1, q2⟩ := q
      subst q2
      rw [if_pos ⟨q1, rfl⟩, if_pos ⟨q1, by omega⟩]
    · rw [if_neg q]
      by_cases q2 : l = L ∧ k < n
      · rw [if_pos q2, if_pos ⟨q2.1, by omega⟩]
      · rw [if_neg q2, if_neg (by omega)]
theorem r1_keep {β : Type} {P : cS → β} (hP : ∀ c v, P (cs_rl c v) = P c) (L : Nat) (c0 : cS) (n : Nat) : P (zf (fun a k => ck_r1 a L k) c0 n) = P c0 := zf_keep (g := fun a k => ck_r1 a L k) (fun a k => hP _ _) c0 n
theorem r2_keep {β : Type} {P : cS → β} (hP : ∀ c v, P (cs_tl c v) = P c) (L : Nat) (c0 : cS) (n : Nat) : P (zf (fun a k => ck_r2 a L k) c0 n) = P c0 := zf_keep (g := fun a k => ck_r2 a L k) (fun a k => hP _ _) c0 n
theorem addL_keep {β : Type} {P : cS → β} (hn : ∀ c v, P (cs_nL c v) = P c) (hr : ∀ c v, P (cs_rl c v) = P c) (ht : ∀ c v, P (cs_tl c v) = P c) (c : cS) (g z : Int) : P (ck_addL c g z) = P (ck_nl c g z) := by
  unfold ck_addL
  rw [hn, r2_keep ht, r1_keep hr]
theorem addL_rl (c : cS) (g z : Int) (l k : Nat) : cg_rl (ck_addL c g z) l k = if l = cg_nL c ∧ k < 4 then hs_first k else cg_rl c l k := by
  have e1 : ∀ (c : cS) v, cg_rl (cs_nL c v) = cg_rl c := fun _ _ => rfl
  have e2 : ∀ (c : cS) v, cg_rl (cs_tl c v) = cg_rl c := fun _ _ => rfl
  have e3 : cg_rl (ck_nl c g z) = cg_rl c := rfl
  unfold ck_addL
  rw [e1, r2_keep (P := cg_rl) e2, r1_rows, e3]
theorem addL_tl (c : cS) (g z : Int) (l k : Nat) : cg_tl (ck_addL c g z) l k = if l = cg_nL c ∧ k < 8 then -1 else cg_tl c l k := by
  have e1 : ∀ (c : cS) v, cg_tl (cs_nL c v) = cg_tl c := fun _ _ => rfl
  have e2 : ∀ (c : cS) v, cg_tl (cs_rl c v) = cg_tl c := fun _ _ => rfl
  have e3 : cg_tl (ck_nl c g z) = cg_tl c := rfl
  unfold ck_addL
  rw [e1, r2_rows, r1_keep (P := cg_tl) e2, e3]
abbrev cT10 (c : cS) := (cg_nT c, cg_pl c, cg_gd c, cg_un c, cg_pc c, cg_od c, cg_fr c, cg_gi c, cg_lb c, cg_ex c)
theorem addL_ten (c : cS) (g z : Int) : cT10 (ck_addL c g z) = cT10 c := (addL_keep (P := cT10) (fun _ _ => rfl) (fun _ _ => rfl) (fun _ _ => rfl) c g z).trans rfl
abbrev cT6 (c : cS) := (cg_lg c, cg_lw c, cg_al c, cg_ac c, cg_tr c, cg_be c)
theorem addL_six (c : cS) (g z : Int) : cT6 (ck_addL c g z) = (zu (cg_lg c) (cg_nL c) g, zu (cg_lw c) (cg_nL c) z, cg_al c, cg_ac c, cg_tr c, cg_be c) := (addL_keep (P := cT6) (fun _ _ => rfl) (fun _ _ => rfl) (fun _ _ => rfl) c g z).trans rfl
theorem nL_nL (c : cS) (v : Nat) : cg_nL (cs_nL c v) = v := rfl
theorem addL_nL (c : cS) (g z : Int) : cg_nL (ck_addL c g z) = cg_nL c + 1 := by
  unfold ck_addL
  rw [nL_nL]
theorem rel_line' {c c' : cS} {m : mS} (h : rel c m) {g z : Int} (hL : cg_nL c < 6) (hg : 0 ≤ g ∧ g ≤ 5) (hz : 1 ≤ z ∧ z ≤ 200) (hrl : ∀ l k, cg_rl c' l k = if l = cg_nL c ∧ k < 4 then hs_first k else cg_rl c l k) (htl : ∀ l k, cg_tl c' l k = if l = cg_nL c ∧ k < 8 then -1 else cg_tl c l k) (hall : cT10 c' = cT10 c) (hall2 : cT6 c' = (zu (cg_lg c) (cg_nL c) g, zu (cg_lw c) (cg_nL c) z, cg_al c, cg_ac c, cg_tr c, cg_be c)) (hnL : cg_nL c' = cg_nL c + 1) : rel c' (mk_addL m g z) := by
  simp only [Prod.mk.injEq] at hall hall2
  obtain ⟨e1, e2, e3, e4, e5, e6, e7, e8, e9, e10⟩ := hall
  obtain ⟨f1, f2, f3, f4, f5, f6⟩ := hall2
  have hK := h.cK
  have hT := hK.nn.1
  refine ⟨⟨?_, ?_, ?_, h.mA, h.mE⟩, ⟨?_, ?_, ?_, ?_, ?_, ?_, ?_, ?_⟩, fun l k hl hk => ?_, fun l k hl hk => ?_, fun l k hl hk => ?_, fun l k hl hk => ?_, fun l k hh => ?_, fun k => ?_, ?_, ?_, fun l hl => ?_, fun l hl => ?_⟩
  · refine ⟨by rw [e1, hnL]; omega, fun k hk => by rw [e2, e3, e4, e6]; exact hK.2.1 k hk, fun l hl => ?_⟩
    obtain ⟨a1, a2, a3, a4, a5, a6, a7⟩ := hK.2.2 l hl
    rw [f1, f2]
    refine ⟨?_, ?_, ?_, ?_, ?_, ?_, fun k hk => ?_⟩
    · by_cases q : l = cg_nL c
      · rw [q, zu_s]; exact hg
      · rw [zu_n q]; exact a1
    · by_cases q : l = cg_nL c
      · rw [q, zu_s]; omega
      · rw [zu_n q]; exact a2
    · rw [hrl]
      split
      · decide
      · exact a3
    · rw [hrl]
      split
      · decide
      · exact a4
    · rw [hrl]
      split
      · decide
      · exact a5
    · rw [hrl]
      split
      · decide
      · exact a6
    · rw [htl]
      split
      · decide
      · exact a7 k hk
  · unfold cP cI
    rw [e7, e8, e5]
    exact h.cP
  · unfold cA
    rw [f3, f4, f5, f6]
    exact h.cA
  · rw [e1]; exact h.nT
  · show mg_nL m + 1 = _
    rw [hnL, h.nL]
  · rw [e2]; exact h.pl
  · rw [e3]; exact h.gd
  · rw [e4]; exact h.un
  · rw [e5]; exact h.pc
  · show zu (mg_wi m) (mg_nL m) g = _
    rw [f1, h.wi, h.nL]
  · show zu (mg_ma m) (mg_nL m) z = _
    rw [f2, h.ma, h.nL]
  · show zu (zu (mg_rl m) (4 * mg_nL m + 1) 1) (4 * mg_nL m + 2) 8 (4 * l + k) = _
    rw [hnL, hrl, h.nL]
    have h1 := h.rl0 hl hk
    by_cases q : l = cg_nL c
    · subst q
      rw [if_pos (by omega), if_pos ⟨rfl, hk⟩]
      rw [if_neg (by omega)] at h1
      rcases (show k = 0 ∨ k = 1 ∨ k = 2 ∨ k = 3 by omega) with rfl | rfl | rfl | rfl
      · rw [zu_n (by omega), zu_n (by omega), h1]
        rfl
      · rw [zu_n (by omega), zu_s]
        rfl
      · rw [zu_s]
        rfl
      · rw [zu_n (by omega), zu_n (by omega), h1]
        rfl
    · rw [zu_n (by omega), zu_n (by omega), h1, if_neg (show ¬ (l = cg_nL c ∧ k < 4) from fun a => q a.1)]
      by_cases q2 : l < cg_nL c
      · rw [if_pos q2, if_pos (by omega)]
      · rw [if_neg q2, if_neg (by omega)]
  · show mg_tl m (8 * l + k) = _
    rw [hnL, htl, h.tl0 hl hk]
    by_cases q : l = cg_nL c
    · subst q
      rw [if_neg (by omega), if_pos (by omega), if_pos ⟨rfl, hk⟩]
    · rw [if_neg (show ¬ (l = cg_nL c ∧ k < 8) from fun a => q a.1)]
      by_cases q2 : l < cg_nL c
      · rw [if_pos q2, if_pos (by omega)]
      · rw [if_neg q2, if_neg (by omega)]
  · show mg_ba m (8 * l + k) = _
    rw [h.ba hl hk]
    congr 1
    refine zb_congr ?_
    unfold ck_bar
    rw [e9]
  · rw [e8]; exact h.ho hl hk
  · rw [e8]
    rw [hnL, e1] at hh
    exact h.g0 (by omega)
  · rw [e7, e5, e8, hnL, h.fr k]
    have e : zs (fun l => cg_gi c l k) (cg_nL c + 1) = zs (fun l => cg_gi c l k) (cg_nL c) + cg_gi c (cg_nL c) k := rfl
    rw [e, h.g0 (l := cg_nL c) (k := k) (Or.inl (Nat.le_refl _))]
    omega
  · rw [e1, e6]
    exact cOd_of h.od rfl rfl
  · rw [e10]; exact h.ex
  · rw [hrl]
    by_cases q : l = cg_nL c
    · rw [if_pos ⟨q, by omega⟩]
      decide
    · rw [if_neg (show ¬ (l = cg_nL c ∧ 1 < 4) from fun a => q a.1)]
      exact h.r1 (by omega)
  · rw [e9]; exact h.lbs hl
theorem rel_line {c : cS} {m : mS} (h : rel c m) {g z : Int} (hL : cg_nL c < 6) (hg : 0 ≤ g ∧ g ≤ 5) (hz : 1 ≤ z ∧ z ≤ 200) : rel (ck_addL c g z) (mk_addL m g z) := rel_line' h hL hg hz (addL_rl c g z) (addL_tl c g z) (addL_ten c g z) (addL_six c g z) (addL_nL c g z)
