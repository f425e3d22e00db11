/-! the class's search, in these numbers -/
/-- the class's state holds the numbers b -/
def cM (b : pB) (c : cS) : Prop := cg_nL c = pb_nL b ∧ cg_nT c = pb_nT b ∧ ∀ l, l < pb_nL b → cg_ac c l = (pb_ac b l : Int) ∧ cg_lw c l = pb_w b l ∧ cg_rl c l 1 = pb_p b l ∧ cg_rl c l 2 = pb_fw b l ∧ cg_rl c l 3 = pb_wh b l ∧ (∀ k, k < pb_ac b l → cg_al c l k = (pb_al b l k : Int)) ∧ ∀ j, j < pb_nT b → ck_cost c l j = pb_co b l j
/-- what a state's search leaves as it is -/
abbrev cW (c : cS) : Nat × Nat × (Nat → Int) × (Nat → Int) × (Nat → Nat → Int) × (Nat → Nat → Int) × (Nat → Nat → Int) × (Nat → Int) := (cg_nL c, cg_nT c, cg_ac c, cg_lw c, cg_rl c, cg_al c, cg_tl c, cg_pl c)
theorem cM_of {b : pB} {c c' : cS} (h : cM b c) (e : cW c' = cW c) : cM b c' := by
  obtain ⟨h1, h2, h3⟩ := h
  simp only [cW, Prod.mk.injEq] at e
  obtain ⟨e1, e2, e3, e4, e5, e6, e7, e8⟩ := e
  refine ⟨by rw [e1]; exact h1, by rw [e2]; exact h2, fun l hl => ?_⟩
  obtain ⟨a1, a2, a3, a4, a5, a6, a7⟩ := h3 l hl
  refine ⟨by rw [e3]; exact a1, by rw [e4]; exact a2, by rw [e5]; exact a3, by rw [e5]; exact a4, by rw [e5]; exact a5, fun k hk => by rw [e6]; exact a6 k hk, fun j hj => ?_⟩
  rw [← a7 j hj]
  unfold ck_cost
  rw [e7, e8]
theorem gi_move (c : cS) (l k : Nat) (z : Int) : cg_gi (ck_move c l k z) = zr (cg_gi c) l (zu (cg_gi c l) k (cg_gi c l k + z)) := rfl
theorem fr_move (c : cS) (l k : Nat) (z : Int) : cg_fr (ck_move c l k z) = zu (cg_fr c) k (cg_fr c k - z) := rfl
theorem cW_move (c : cS) (l k : Nat) (z : Int) : cW (ck_move c l k z) = cW c := rfl
theorem zr_zr (F : Nat → Nat → Int) (l : Nat) (A B : Nat → Int) : zr (zr F l A) l B = zr F l B := by
  funext i
  by_cases h : i = l
  · subst h
    rw [zr_s, zr_s]
  · rw [zr_n h, zr_n h, zr_n h]
theorem zr_id {F : Nat → Nat → Int} {l : Nat} {A : Nat → Int} (h : F l = A) : zr F l A = F := by
  funext i
  by_cases e : i = l
  · subst e
    rw [zr_s, h]
  · rw [zr_n e]
/-- a line lets go -/
theorem letGo_row {c : cS} {l : Nat} (h : ∀ j, cg_nT c ≤ j → cg_gi c l j = 0) : cg_gi (ck_letGo c l) = zr (cg_gi c) l (fun _ => 0) ∧ cg_fr (ck_letGo c l) = fun j => cg_fr c j + cg_gi c l j := by
  have : ∀ n, cg_gi (zf (fun c k => ck_move c l k (-cg_gi c l k)) c n) = zr (cg_gi c) l (fun j => if j < n then 0 else cg_gi c l j) ∧ cg_fr (zf (fun c k => ck_move c l k (-cg_gi c l k)) c n) = fun j => if j < n then cg_fr c j + cg_gi c l j else cg_fr c j := by
    intro n
    induction n with
    | zero => exact ⟨(zr_id (F := cg_gi c) (by funext j; simp)).symm, by funext j; show cg_fr c j = _; simp⟩
    | succ n ih =>
      have e : ∀ g : cS → Nat → cS, zf g c (n + 1) = g (zf g c n) n := fun _ => rfl
      rw [e, gi_move, fr_move, ih.1, ih.2]
      refine ⟨?_, ?_⟩
      · rw [zr_zr, zr_s]
        congr 1
        funext j
        by_cases e1 : j = n
        · subst e1
          rw [zu_s]
          show (if j < j then 0 else cg_gi c l j) + -(if j < j then 0 else cg_gi c l j) = (if j < j + 1 then 0 else cg_gi c l j)
          rw [if_neg (show ¬ j < j by omega), if_pos (show j < j + 1 by omega)]
          omega
        · rw [zu_n e1]
          by_cases e2 : j < n
          · rw [if_pos e2, if_pos (show j < n + 1 by omega)]
          · rw [if_neg e2, if_neg (show ¬ j < n + 1 by omega)]
      · funext j
        by_cases e1 : j = n
        · subst e1
          rw [zu_s, zr_s]
          show (if j < j then cg_fr c j + cg_gi c l j else cg_fr c j) - -(if j < j then 0 else cg_gi c l j) = (if j < j + 1 then cg_fr c j + cg_gi c l j else cg_fr c j)
          rw [if_neg (show ¬ j < j by omega), if_neg (show ¬ j < j by omega), if_pos (show j < j + 1 by omega)]
          omega
        · rw [zu_n e1]
          show (if j < n then cg_fr c j + cg_gi c l j else cg_fr c j) = (if j < n + 1 then cg_fr c j + cg_gi c l j else cg_fr c j)
          by_cases e2 : j < n
          · rw [if_pos e2, if_pos (show j < n + 1 by omega)]
          · rw [if_neg e2, if_neg (show ¬ j < n + 1 by omega)]
  obtain ⟨h1, h2⟩ := this (cg_nT c)
  refine ⟨?_, ?_⟩
  · show cg_gi (zf (fun c k => ck_move c l k (-cg_gi c l k)) c (cg_nT c)) = _
    rw [h1]
    congr 1
    funext j
    by_cases e : j < cg_nT c
    · rw [if_pos e]
    · rw [if_neg e, h j (by omega)]
  · show cg_fr (zf (fun c k => ck_move c l k (-cg_gi c l k)) c (cg_nT c)) = _
    rw [h2]
    funext j
    by_cases e : j < cg_nT c
    · rw [if_pos e]
    · rw [if_neg e, h j (by omega)]
      omega
/-- a line takes, place after place -/
theorem tk_row {b : pB} {c : cS} (hb : bOK b) (hM : cM b c) {l : Nat} (hl : l < pb_nL b) (hg : cg_gi c l = fun _ => 0) (s : Nat) : ∀ k, k ≤ pb_ac b l → cg_gi (ck_tk c l s k).1 = zr (cg_gi c) l (tG b l (cg_fr c) s k) ∧ cg_fr (ck_tk c l s k).1 = (fun j => cg_fr c j - tG b l (cg_fr c) s k j) ∧ (ck_tk c l s k).2.1 = tW b l (cg_fr c) s k ∧ (ck_tk c l s k).2.2 = zs (fun k => zb (0 < tX b l (cg_fr c) s k)) k
  | 0, _ => by
    refine ⟨?_, ?_, ?_, rfl⟩
    · exact (zr_id (F := cg_gi c) (by rw [hg]; rfl)).symm
    · funext j
      show cg_fr c j = cg_fr c j - 0
      omega
    · exact (hM.2.2 l hl).2.1
  | k + 1, hk => by
    have hbl := hb.1 l hl
    obtain ⟨h1, h2, h3, h4⟩ := tk_row hb hM hl hg s k (by omega)
    obtain ⟨m1, m2, m3, m4, m5, m6, m7⟩ := hM.2.2 l hl
    have e : ck_tk c l s (k + 1) = ck_t1 l s (ck_tk c l s k) k := rfl
    have eal : cg_al (ck_tk c l s k).1 l k = (pb_al b l k : Int) := by
      rw [ck_tk_keep (P := fun c => cg_al c) (fun _ _ _ _ => rfl)]
      exact m6 k (by omega)
    have epl : cg_rl (ck_tk c l s k).1 l 1 = pb_p b l := by
      rw [ck_tk_keep (P := fun c => cg_rl c) (fun _ _ _ _ => rfl)]
      exact m3
    have efr : cg_fr (ck_tk c l s k).1 (pb_al b l k) = cg_fr c (pb_al b l k) := by
      rw [h2]
      show cg_fr c (pb_al b l k) - tG b l (cg_fr c) s k (pb_al b l k) = _
      rw [tG_far hbl (Nat.le_refl _) (by omega)]
      omega
    rw [e]
    unfold ck_t1
    rw [eal, epl, Int.toNat_natCast, efr, h3, h4]
    have eG : ∀ j, tG b l (cg_fr c) s (k + 1) j = tG b l (cg_fr c) s k j + (if pb_al b l k = j then tX b l (cg_fr c) s k else 0) := fun _ => rfl
    by_cases hbit : s.testBit k = true
    · rw [if_pos hbit]
      have eX : ck_rd (zn (tW b l (cg_fr c) s k) (cg_fr c (pb_al b l k))) (pb_p b l) = tX b l (cg_fr c) s k := (if_pos hbit).symm
      rw [eX]
      refine ⟨?_, ?_, rfl, rfl⟩
      · rw [gi_move, h1, zr_zr, zr_s]
        congr 1
        funext j
        rw [eG]
        by_cases e1 : j = pb_al b l k
        · subst e1
          rw [zu_s, if_pos rfl]
        · rw [zu_n e1, if_neg (fun q => e1 q.symm)]
          omega
      · rw [fr_move, h2]
        funext j
        by_cases e1 : j = pb_al b l k
        · subst e1
          rw [zu_s]
          show cg_fr c (pb_al b l k) - tG b l (cg_fr c) s k (pb_al b l k) - tX b l (cg_fr c) s k = cg_fr c (pb_al b l k) - tG b l (cg_fr c) s (k + 1) (pb_al b l k)
          rw [eG, if_pos rfl]
          omega
        · rw [zu_n e1]
          show cg_fr c j - tG b l (cg_fr c) s k j = cg_fr c j - tG b l (cg_fr c) s (k + 1) j
          rw [eG, if_neg (fun q => e1 q.symm)]
          omega
    · rw [if_neg hbit]
      have eX : tX b l (cg_fr c) s k = 0 := tX_nobit hbit
      have eG2 : tG b l (cg_fr c) s (k + 1) = tG b l (cg_fr c) s k := by
        funext j
        rw [eG, eX]
        split <;> omega
      refine ⟨by rw [h1, eG2], by rw [h2, eG2], ?_, ?_⟩
      · rw [h3]
        show _ = tW b l (cg_fr c) s k - tX b l (cg_fr c) s k
        omega
      · rw [h4]
        show _ = zs (fun k => zb (0 < tX b l (cg_fr c) s k)) k + zb (0 < tX b l (cg_fr c) s k)
        rw [eX]
        have : zb ((0 : Int) < 0) = 0 := rfl
        omega
theorem take_row {b : pB} {c : cS} (hb : bOK b) (hM : cM b c) {l : Nat} (hl : l < pb_nL b) (hg : cg_gi c l = fun _ => 0) (s : Nat) : cg_gi (ck_take c l s).1 = zr (cg_gi c) l (tR b l (cg_fr c) s) ∧ cg_fr (ck_take c l s).1 = (fun j => cg_fr c j - tR b l (cg_fr c) s j) ∧ (ck_take c l s).2 = tV b l (cg_fr c) s := by
  have hbl := hb.1 l hl
  obtain ⟨m1, m2, m3, m4, m5, m6, m7⟩ := hM.2.2 l hl
  have eac : (cg_ac c l).toNat = pb_ac b l := by rw [m1]; exact Int.toNat_natCast _
  obtain ⟨h1, h2, h3, h4⟩ := tk_row hb hM hl hg s (pb_ac b l) (Nat.le_refl _)
  have enT : cg_nT (ck_tk c l s (pb_ac b l)).1 = cg_nT c := ck_tk_keep (P := fun c => cg_nT c) (fun _ _ _ _ => rfl) c l s _
  unfold ck_take tR tV
  rw [eac, h3, m5]
  by_cases ho : tO b l (cg_fr c) s
  · rw [if_pos ho, if_pos ho, if_pos ho]
    have hlg := letGo_row (c := (ck_tk c l s (pb_ac b l)).1) (l := l) (fun j hj => by
      rw [h1, zr_s]
      exact tG_ge hbl (Nat.le_refl _) (by rw [enT, hM.2.1] at hj; exact hj))
    refine ⟨?_, ?_, rfl⟩
    · rw [hlg.1, h1, zr_zr]
    · rw [hlg.2, h1, h2]
      funext j
      rw [zr_s]
      show cg_fr c j - tG b l (cg_fr c) s (pb_ac b l) j + tG b l (cg_fr c) s (pb_ac b l) j = cg_fr c j - 0
      omega
  · rw [if_neg ho, if_neg ho, if_neg ho]
    exact ⟨h1, h2, h4⟩
/-- what a line costs that has taken -/
theorem lc_row {b : pB} {c : cS} (hb : bOK b) (hM : cM b c) {l : Nat} (hl : l < pb_nL b) {r : Nat → Int} (hr : ∀ j, j < pb_nT b → 0 ≤ r j) {s : Nat} (hg : cg_gi c l = tR b l r s) : ck_lc c l = tC b l r s := by
  obtain ⟨m1, m2, m3, m4, m5, m6, m7⟩ := hM.2.2 l hl
  rw [← tC_lots (hb.1 l hl) hr]
  unfold ck_lc
  rw [m2, hM.2.1]
  congr 1
  refine zs_congr _ (fun j hj => ?_)
  unfold ck_lcost
  rw [hg, m7 j hj]
