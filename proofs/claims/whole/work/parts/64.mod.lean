/-! the reference's taking, in these numbers -/
/-- all but what the reference's search writes -/
abbrev mC (m : mS) : (Int × Nat × (Nat → Int) × (Nat → Int) × (Nat → Int) × (Nat → Int) × Nat × (Nat → Int)) × (Nat → Int) × (Nat → Int) × (Nat → Int) × (Nat → Int32) × (Nat → Int) × Int × (Nat → Int) × (Nat → Int) := ((mg_co m, mg_nT m, mg_pl m, mg_gd m, mg_pc m, mg_un m, mg_nL m, mg_wi m), mg_ma m, mg_rl m, mg_tl m, mg_ba m, mg_ho m, mg_ex m, mg_al m, mg_ac m)
def mM (b : pB) (m : mS) : Prop := mg_nL m = pb_nL b ∧ mg_nT m = pb_nT b ∧ ∀ l, l < pb_nL b → mg_ac m l = (pb_ac b l : Int) ∧ mg_ma m l = pb_w b l ∧ mg_rl m (4 * l + 1) = pb_p b l ∧ mg_rl m (4 * l + 2) = pb_fw b l ∧ mg_rl m (4 * l + 3) = pb_wh b l ∧ (∀ k, k < pb_ac b l → mg_al m (8 * l + k) = (pb_al b l k : Int)) ∧ (∀ j, j < pb_nT b → mk_cost m j l = pb_co b l j) ∧ 1 ≤ pb_p b l
theorem mC_eq {m m' : mS} (e : mC m' = mC m) : mg_co m' = mg_co m ∧ mg_nT m' = mg_nT m ∧ mg_pl m' = mg_pl m ∧ mg_gd m' = mg_gd m ∧ mg_pc m' = mg_pc m ∧ mg_un m' = mg_un m ∧ mg_nL m' = mg_nL m ∧ mg_wi m' = mg_wi m ∧ mg_ma m' = mg_ma m ∧ mg_rl m' = mg_rl m ∧ mg_tl m' = mg_tl m ∧ mg_ba m' = mg_ba m ∧ mg_ho m' = mg_ho m ∧ mg_ex m' = mg_ex m ∧ mg_al m' = mg_al m ∧ mg_ac m' = mg_ac m := by
  simp only [mC, Prod.mk.injEq] at e
  obtain ⟨⟨e1, e2, e3, e4, e5, e6, e7, e8⟩, e9, e10, e11, e12, e13, e14, e15, e16⟩ := e
  exact ⟨e1, e2, e3, e4, e5, e6, e7, e8, e9, e10, e11, e12, e13, e14, e15, e16⟩
theorem mM_of {b : pB} {m m' : mS} (h : mM b m) (e : mC m' = mC m) : mM b m' := by
  obtain ⟨h1, h2, h3⟩ := h
  obtain ⟨e1, e2, e3, e4, e5, e6, e7, e8, e9, e10, e11, e12, e13, e14, e15, e16⟩ := mC_eq e
  refine ⟨by rw [e7]; exact h1, by rw [e2]; exact h2, fun l hl => ?_⟩
  obtain ⟨a1, a2, a3, a4, a5, a6, a7, a8⟩ := h3 l hl
  refine ⟨by rw [e16]; exact a1, by rw [e9]; exact a2, by rw [e10]; exact a3, by rw [e10]; exact a4, by rw [e10]; exact a5, fun k hk => by rw [e15]; exact a6 k hk, fun j hj => ?_, a8⟩
  rw [← a7 j hj]
  unfold mk_cost
  rw [e11, e3]
theorem mK_of {m m' : mS} (h : mK m) (e : mC m' = mC m) : mK m' := by
  obtain ⟨e1, e2, e3, e4, e5, e6, e7, e8, e9, e10, e11, e12, e13, e14, e15, e16⟩ := mC_eq e
  unfold mK
  rw [e2, e3, e4, e5, e6, e7, e8, e9, e10, e11, e13]
  exact h
theorem zn_comm (a b : Int) : zn a b = zn b a := by
  unfold zn
  split
  · split <;> omega
  · split <;> omega
theorem rd_mod {n p : Int} (hp : 1 ≤ p) : n - n % p = ck_rd n p := by
  unfold ck_rd
  split
  · rfl
  · have e : p = 1 := by omega
    subst e
    rw [Int.emod_one]
    omega
theorem tX_congr {b : pB} {l s : Nat} {r r' : Nat → Int} (hb : bL b l) (h : ∀ j, j < pb_nT b → r' j = r j) : ∀ k, k ≤ pb_ac b l → (tW b l r' s k = tW b l r s k ∧ ∀ i, i < k → tX b l r' s i = tX b l r s i)
  | 0, _ => ⟨rfl, fun i hi => by omega⟩
  | k + 1, hk => by
    obtain ⟨h1, h2⟩ := tX_congr hb h k (by omega)
    have h3 : tX b l r' s k = tX b l r s k := by
      unfold tX tN
      rw [h1, h _ (hb.2.2.1 k (by omega))]
    refine ⟨?_, fun i hi => ?_⟩
    · show tW b l r' s k - tX b l r' s k = tW b l r s k - tX b l r s k
      rw [h1, h3]
    · rcases Nat.lt_or_ge i k with q | q
      · exact h2 i q
      · have e : i = k := by omega
        subst e
        exact h3
theorem tt_congr {b : pB} {l s : Nat} {r r' : Nat → Int} (hb : bL b l) (h : ∀ j, j < pb_nT b → r' j = r j) : tR b l r' s = tR b l r s ∧ tC b l r' s = tC b l r s := by
  obtain ⟨h1, h2⟩ := tX_congr (s := s) hb h (pb_ac b l) (Nat.le_refl _)
  have e2 : tG b l r' s (pb_ac b l) = tG b l r s (pb_ac b l) := by
    funext j
    exact zs_congr _ (fun k hk => by rw [h2 k hk])
  have e3 : tCk b l r' s (pb_ac b l) = tCk b l r s (pb_ac b l) := zs_congr _ (fun k hk => by rw [h2 k hk])
  unfold tR tC tO
  rw [h1, e2, e3]
  exact ⟨rfl, rfl⟩
theorem re_re (m : mS) (v : Nat → Int) : mg_re (ms_re m v) = v := rfl
theorem ta_re (m : mS) (v : Nat → Int) : mg_ta (ms_re m v) = mg_ta m := rfl
theorem ta_ta (m : mS) (v : Nat → Int) : mg_ta (ms_ta m v) = v := rfl
/-- rows put anew -/
theorem t0_rows (m : mS) (l : Nat) : ∀ k, k ≤ 8 → (∀ i, mg_re (mk_t0 l m k) i = if 8 * (l + 1) ≤ i ∧ i < 8 * (l + 1) + k then mg_re m (i - 8) else mg_re m i) ∧ (∀ i, mg_ta (mk_t0 l m k) i = if 8 * l ≤ i ∧ i < 8 * l + k then 0 else mg_ta m i)
  | 0, _ => ⟨fun i => by rw [if_neg (by omega)]; rfl, fun i => by rw [if_neg (by omega)]; rfl⟩
  | k + 1, hk => by
    obtain ⟨h1, h2⟩ := t0_rows m l k (by omega)
    have e : mk_t0 l m (k + 1) = mk_t0a l (mk_t0 l m k) k := rfl
    rw [e]
    unfold mk_t0a
    refine ⟨fun i => ?_, fun i => ?_⟩
    · rw [re_ta, re_re]
      by_cases e1 : i = 8 * (l + 1) + k
      · subst e1
        rw [zu_s, h1, if_neg (by omega), if_pos (by omega)]
        congr 1
        omega
      · rw [zu_n e1, h1]
        by_cases e2 : 8 * (l + 1) ≤ i ∧ i < 8 * (l + 1) + k
        · rw [if_pos e2, if_pos (by omega)]
        · rw [if_neg e2, if_neg (by omega)]
    · rw [ta_ta]
      by_cases e1 : i = 8 * l + k
      · subst e1
        rw [zu_s, if_pos (by omega)]
      · rw [zu_n e1, ta_re, h2]
        by_cases e2 : 8 * l ≤ i ∧ i < 8 * l + k
        · rw [if_pos e2, if_pos (by omega)]
        · rw [if_neg e2, if_neg (by omega)]
/-- a line of the reference takes, place after place -/
theorem t2_rows {b : pB} {m : mS} (hb : bOK b) (hM : mM b m) {l s : Nat} (hl : l < pb_nL b) (hs : mg_se m l = (s : Int)) : ∀ k, k ≤ pb_ac b l →
    (∀ j, j < pb_nT b → mg_re (mk_t2 m l k).1 (8 * (l + 1) + j) = mg_re m (8 * l + j) - tG b l (fun j => mg_re m (8 * l + j)) s k j) ∧ (∀ i, ¬ (8 * (l + 1) ≤ i ∧ i < 8 * (l + 1) + pb_nT b) → mg_re (mk_t2 m l k).1 i = mg_re m i) ∧
    (∀ j, j < pb_nT b → mg_ta (mk_t2 m l k).1 (8 * l + j) = tG b l (fun j => mg_re m (8 * l + j)) s k j) ∧ (∀ i, ¬ (8 * l ≤ i ∧ i < 8 * l + pb_nT b) → mg_ta (mk_t2 m l k).1 i = mg_ta m i) ∧
    (mk_t2 m l k).2.1 = tW b l (fun j => mg_re m (8 * l + j)) s k ∧ (mk_t2 m l k).2.2 = tCk b l (fun j => mg_re m (8 * l + j)) s k
  | 0, _ => by
    have hT := hb.2.2.2
    obtain ⟨h1, h2⟩ := t0_rows m l (mg_nT m) (by rw [hM.2.1]; exact hT)
    rw [hM.2.1] at h1 h2
    have e : mk_t2 m l 0 = (mk_t0 l m (pb_nT b), mg_ma m l, 0) := by
      show (mk_t0 l m (mg_nT m), mg_ma m l, 0) = _
      rw [hM.2.1]
    rw [e]
    refine ⟨fun j hj => ?_, fun i hi => ?_, fun j hj => ?_, fun i hi => ?_, (hM.2.2 l hl).2.1, rfl⟩
    · show mg_re (mk_t0 l m (pb_nT b)) (8 * (l + 1) + j) = mg_re m (8 * l + j) - 0
      rw [h1, if_pos (by omega), show 8 * (l + 1) + j - 8 = 8 * l + j by omega]
      omega
    · show mg_re (mk_t0 l m (pb_nT b)) i = _
      rw [h1, if_neg hi]
    · show mg_ta (mk_t0 l m (pb_nT b)) (8 * l + j) = 0
      rw [h2, if_pos (by omega)]
    · show mg_ta (mk_t0 l m (pb_nT b)) i = _
      rw [h2, if_neg hi]
  | k + 1, hk => by
    have hbl := hb.1 l hl
    have hT := hb.2.2.2
    obtain ⟨h1, h2, h3, h4, h5, h6⟩ := t2_rows hb hM hl hs k (by omega)
    obtain ⟨m1, m2, m3, m4, m5, m6, m7, m8⟩ := hM.2.2 l hl
    have eC : mC (mk_t2 m l k).1 = mC m := mk_t2_keep (P := mC) (fun _ _ => rfl) (fun _ _ => rfl) m l k
    have hMk := mM_of hM eC
    obtain ⟨n1, n2, n3, n4, n5, n6, n7, n8⟩ := hMk.2.2 l hl
    have ese : mg_se (mk_t2 m l k).1 l = (s : Int) := by
      rw [mk_t2_keep (P := fun m => mg_se m) (fun _ _ => rfl) (fun _ _ => rfl)]
      exact hs
    have hal := hbl.2.2.1 k (by omega)
    have e : mk_t2 m l (k + 1) = mk_t1 l (mk_t2 m l k) k := rfl
    have eN : mk_n (mk_t2 m l k).1 l k (mk_t2 m l k).2.1 = ck_rd (zn (tW b l (fun j => mg_re m (8 * l + j)) s k) (mg_re m (8 * l + pb_al b l k))) (pb_p b l) := by
      unfold mk_n
      rw [n6 k (by omega), Int.toNat_natCast, n3, h5, h2 _ (by omega), rd_mod n8, zn_comm]
    have eG : ∀ j, tG b l (fun j => mg_re m (8 * l + j)) s (k + 1) j = tG b l (fun j => mg_re m (8 * l + j)) s k j + (if pb_al b l k = j then tX b l (fun j => mg_re m (8 * l + j)) s k else 0) := fun _ => rfl
    have eCk : tCk b l (fun j => mg_re m (8 * l + j)) s (k + 1) = tCk b l (fun j => mg_re m (8 * l + j)) s k + (if tX b l (fun j => mg_re m (8 * l + j)) s k = 0 then 0 else tX b l (fun j => mg_re m (8 * l + j)) s k * pb_co b l (pb_al b l k) + 20) := rfl
    have eW : tW b l (fun j => mg_re m (8 * l + j)) s (k + 1) = tW b l (fun j => mg_re m (8 * l + j)) s k - tX b l (fun j => mg_re m (8 * l + j)) s k := rfl
    have hfar := tG_far (r := fun j => mg_re m (8 * l + j)) (s := s) hbl (Nat.le_refl k) (show k < pb_ac b l by omega)
    rw [e]
    unfold mk_t1
    rw [ese, Int.toNat_natCast, eN, n6 k (by omega), Int.toNat_natCast, n7 _ hal]
    by_cases hbit : s.testBit k = true
    · have eX : ck_rd (zn (tW b l (fun j => mg_re m (8 * l + j)) s k) (mg_re m (8 * l + pb_al b l k))) (pb_p b l) = tX b l (fun j => mg_re m (8 * l + j)) s k := (if_pos hbit).symm
      rw [eX]
      by_cases hx : tX b l (fun j => mg_re m (8 * l + j)) s k = 0
      · rw [if_neg (fun q => q.2 hx)]
        refine ⟨fun j hj => ?_, h2, fun j hj => ?_, h4, ?_, ?_⟩
        · rw [h1 j hj, eG, hx]
          split <;> omega
        · rw [h3 j hj, eG, hx]
          split <;> omega
        · rw [eW, hx, h5]
          omega
        · rw [eCk, if_pos hx, h6]
          omega
      · rw [if_pos ⟨hbit, hx⟩]
        refine ⟨fun j hj => ?_, fun i hi => ?_, fun j hj => ?_, fun i hi => ?_, ?_, ?_⟩
        · rw [re_re]
          by_cases e1 : j = pb_al b l k
          · subst e1
            rw [zu_s, h1 _ hj, eG, if_pos rfl]
            omega
          · rw [zu_n (by omega), h1 j hj, eG, if_neg (fun q => e1 q.symm)]
            omega
        · rw [re_re, zu_n (by omega)]
          exact h2 i hi
        · rw [ta_re, ta_ta]
          by_cases e1 : j = pb_al b l k
          · subst e1
            rw [zu_s, eG, if_pos rfl, hfar]
            omega
          · rw [zu_n (by omega), h3 j hj, eG, if_neg (fun q => e1 q.symm)]
            omega
        · rw [ta_re, ta_ta, zu_n (by omega)]
          exact h4 i hi
        · rw [eW, ← h5]
        · rw [eCk, if_neg hx, ← h6]
    · rw [if_neg (fun q => hbit q.1)]
      have eX : tX b l (fun j => mg_re m (8 * l + j)) s k = 0 := tX_nobit hbit
      refine ⟨fun j hj => ?_, h2, fun j hj => ?_, h4, ?_, ?_⟩
      · rw [h1 j hj, eG, eX]
        split <;> omega
      · rw [h3 j hj, eG, eX]
        split <;> omega
      · rw [eW, eX, h5]
        omega
      · rw [eCk, if_pos eX, h6]
        omega
theorem re_sp (m : mS) (v : Nat → Int) : mg_re (ms_sp m v) = mg_re m := rfl
theorem ta_sp (m : mS) (v : Nat → Int) : mg_ta (ms_sp m v) = mg_ta m := rfl
theorem sp_sp (m : mS) (v : Nat → Int) : mg_sp (ms_sp m v) = v := rfl
/-- a line of the reference takes -/
theorem take_rows {b : pB} {m : mS} (hb : bOK b) (hM : mM b m) {l s : Nat} (hl : l < pb_nL b) (hs : mg_se m l = (s : Int)) :
    (∀ j, j < pb_nT b → mg_re (mk_take m l) (8 * (l + 1) + j) = mg_re m (8 * l + j) - tR b l (fun j => mg_re m (8 * l + j)) s j) ∧ (∀ i, ¬ (8 * (l + 1) ≤ i ∧ i < 8 * (l + 1) + pb_nT b) → mg_re (mk_take m l) i = mg_re m i) ∧
    (∀ j, j < pb_nT b → mg_ta (mk_take m l) (8 * l + j) = tR b l (fun j => mg_re m (8 * l + j)) s j) ∧ (∀ i, ¬ (8 * l ≤ i ∧ i < 8 * l + pb_nT b) → mg_ta (mk_take m l) i = mg_ta m i) ∧
    (mg_sp (mk_take m l) = zu (mg_sp m) (l + 1) (mg_sp m l + tC b l (fun j => mg_re m (8 * l + j)) s)) := by
  have hT := hb.2.2.2
  obtain ⟨m1, m2, m3, m4, m5, m6, m7, m8⟩ := hM.2.2 l hl
  have eac : (mg_ac m l).toNat = pb_ac b l := by rw [m1]; exact Int.toNat_natCast _
  obtain ⟨h1, h2, h3, h4, h5, h6⟩ := t2_rows hb hM hl hs (pb_ac b l) (Nat.le_refl _)
  unfold mk_take
  rw [re_sp, ta_sp, sp_sp]
  unfold mk_t3
  rw [eac, m5, h5, m2, hM.2.1]
  unfold tR tC
  by_cases ho : tO b l (fun j => mg_re m (8 * l + j)) s
  · rw [if_pos ⟨ho.2, ho.1⟩, if_pos ho, if_pos ho]
    obtain ⟨g1, g2⟩ := t0_rows (mk_t2 m l (pb_ac b l)).1 l (pb_nT b) hT
    refine ⟨fun j hj => ?_, fun i hi => ?_, fun j hj => ?_, fun i hi => ?_, ?_⟩
    · show mg_re (mk_t0 l (mk_t2 m l (pb_ac b l)).1 (pb_nT b)) (8 * (l + 1) + j) = mg_re m (8 * l + j) - 0
      rw [g1, if_pos (by omega), show 8 * (l + 1) + j - 8 = 8 * l + j by omega, h2 _ (by omega)]
      omega
    · show mg_re (mk_t0 l (mk_t2 m l (pb_ac b l)).1 (pb_nT b)) i = _
      rw [g1, if_neg hi, h2 i hi]
    · show mg_ta (mk_t0 l (mk_t2 m l (pb_ac b l)).1 (pb_nT b)) (8 * l + j) = 0
      rw [g2, if_pos (by omega)]
    · show mg_ta (mk_t0 l (mk_t2 m l (pb_ac b l)).1 (pb_nT b)) i = _
      rw [g2, if_neg hi, h4 i hi]
    · show zu (mg_sp m) (l + 1) (mg_sp m l + 0 + 1000 * pb_w b l) = _
      rw [Int.add_zero]
  · rw [if_neg (fun q => ho ⟨q.2, q.1⟩), if_neg ho, if_neg ho]
    refine ⟨h1, h2, h3, h4, ?_⟩
    rw [h6, h5, Int.add_assoc]
