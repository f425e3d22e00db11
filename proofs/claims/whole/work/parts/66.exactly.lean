/-! the reference, exactly -/
theorem tCk_high {b : pB} {l : Nat} {r : Nat → Int} {s : Nat} (hb : bL b l) (hr : ∀ j, j < pb_nT b → 0 ≤ r j) : ∀ K, K ≤ pb_ac b l → tCk b l r s K ≤ 1000 * zs (tX b l r s) K + 20 * K
  | 0, _ => by
    show (0 : Int) ≤ 1000 * 0 + 20 * 0
    omega
  | K + 1, hK => by
    have h1 := tCk_high (s := s) hb hr K (by omega)
    have hx := tX_rg (s := s) hb hr (k := K) (by omega)
    have hc := hb.2.2.2.2 _ (hb.2.2.1 K (by omega))
    have eC : tCk b l r s (K + 1) = tCk b l r s K + (if tX b l r s K = 0 then 0 else tX b l r s K * pb_co b l (pb_al b l K) + 20) := rfl
    have eS : zs (tX b l r s) (K + 1) = zs (tX b l r s) K + tX b l r s K := rfl
    have h3 := Int.mul_le_mul_of_nonneg_left hc.2 hx.1
    rw [eC, eS]
    split <;> omega
theorem tC_high {b : pB} {l : Nat} {r : Nat → Int} {s : Nat} (hb : bL b l) (hr : ∀ j, j < pb_nT b → 0 ≤ r j) : tC b l r s ≤ 1000 * pb_w b l + 160 := by
  have hac := hb.1
  unfold tC
  split
  · omega
  · have h1 := tCk_high (s := s) hb hr (pb_ac b l) (Nat.le_refl _)
    have h2 := tW_sum (b := b) (l := l) (r := r) (s := s) (pb_ac b l)
    omega
theorem sZ_rg {b : pB} (hb : bOK b) (hw : ∀ l, l < pb_nL b → pb_w b l ≤ 200) (se : Nat → Nat) : ∀ y, y ≤ pb_nL b → 0 ≤ sZ b se y ∧ sZ b se y ≤ 200160 * y
  | 0, _ => by
    show (0 : Int) ≤ 0 ∧ (0 : Int) ≤ 200160 * ((0 : Nat) : Int)
    omega
  | y + 1, hy => by
    have h1 := sZ_rg hb hw se y (by omega)
    have hr : ∀ j, j < pb_nT b → 0 ≤ sR b se y j := fun j hj => (sR_rg hb se y (by omega) j hj).1
    have h2 := tC_nonneg (s := se y) (hb.1 y (by omega)) hr
    have h3 := tC_high (s := se y) (hb.1 y (by omega)) hr
    have h4 := hw y (by omega)
    have e : sZ b se (y + 1) = sZ b se y + tC b y (sR b se y) (se y) := rfl
    rw [e]
    omega
theorem mA_nx : ∀ (i : Nat) {m : mS}, i ≤ 6 → mA m → mA (mk_nx i m).1
  | 0, m, _, h => h
  | i + 1, m, hi, h => by
    have hac := (h i (by omega)).1
    have h8 : (mg_ac m i).toNat ≤ 8 := by omega
    have hB : 2 ^ (mg_ac m i).toNat ≤ 256 := Nat.pow_le_pow_right (n := 2) (by decide) h8
    simp only [mk_nx]
    split
    · exact mA_se h (by omega)
    · exact mA_nx i (by omega) (mA_se h (by decide))
def mk_cb (m : mS) (i : Nat) : mS := zf (fun a k => ms_bs a (zu (mg_bs a) k (mg_se a k))) m i
theorem mk_cb_keep {β : Type} {P : mS → β} (h1 : ∀ m v, P (ms_bs m v) = P m) (m : mS) (i : Nat) : P (mk_cb m i) = P m := zf_keep (g := fun a k => ms_bs a (zu (mg_bs a) k (mg_se a k))) (P := P) (fun a i => h1 _ _) m i
theorem mA_bs {m : mS} (h : mA m) {i : Nat} {v : Int} (hv : 0 ≤ v ∧ v < 256) : mA (ms_bs m (zu (mg_bs m) i v)) := by
  intro l hl
  obtain ⟨a1, a2, a3, a4⟩ := h l hl
  refine ⟨a1, a2, ?_, a4⟩
  show 0 ≤ zu (mg_bs m) i v l ∧ zu (mg_bs m) i v l < 256
  by_cases e : l = i
  · subst e
    rw [zu_s]
    exact hv
  · rw [zu_n e]
    exact a3
theorem mA_cb {m : mS} (h : mA m) (i : Nat) (hi : i ≤ 6) : mA (mk_cb m i) := zf_invB (P := mA) (N := 6) (fun a k hk ha => mA_bs ha (ha k hk).2.1) h i hi
theorem bs_bs (m : mS) (v : Nat → Int) : mg_bs (ms_bs m v) = v := rfl
theorem cb_bs (m : mS) : ∀ n i, mg_bs (mk_cb m n) i = if i < n then mg_se m i else mg_bs m i
  | 0, i => rfl
  | n + 1, i => by
    have e : mk_cb m (n + 1) = ms_bs (mk_cb m n) (zu (mg_bs (mk_cb m n)) n (mg_se (mk_cb m n) n)) := rfl
    rw [e, bs_bs]
    by_cases h : i = n
    · subst h
      rw [zu_s, if_pos (by omega), mk_cb_keep (P := fun m => mg_se m) (fun _ _ => rfl)]
    · rw [zu_n h, cb_bs m n i]
      by_cases h2 : i < n
      · rw [if_pos h2, if_pos (by omega)]
      · rw [if_neg h2, if_neg (by omega)]
def mk_sz (m : mS) (i : Nat) : mS := zf (fun a k => ms_se a (zu (mg_se a) k 0)) m i
theorem mk_sz_keep {β : Type} {P : mS → β} (h1 : ∀ m v, P (ms_se m v) = P m) (m : mS) (i : Nat) : P (mk_sz m i) = P m := zf_keep (g := fun a k => ms_se a (zu (mg_se a) k 0)) (P := P) (fun a i => h1 _ _) m i
theorem mA_sz {m : mS} (h : mA m) (i : Nat) : mA (mk_sz m i) := zf_inv (P := mA) (fun a k ha => mA_se ha (by decide)) h i
theorem sz_se (m : mS) : ∀ n i, mg_se (mk_sz m n) i = if i < n then 0 else mg_se m i
  | 0, i => rfl
  | n + 1, i => by
    have e : mk_sz m (n + 1) = ms_se (mk_sz m n) (zu (mg_se (mk_sz m n)) n 0) := rfl
    rw [e, se_se]
    by_cases h : i = n
    · subst h
      rw [zu_s, if_pos (by omega)]
    · rw [zu_n h, sz_se m n i]
      by_cases h2 : i < n
      · rw [if_pos h2, if_pos (by omega)]
      · rw [if_neg h2, if_neg (by omega)]
/-- the best that the reference knows -/
def mB (b : pB) (m : mS) (z : Int) (o : Option ((Nat → Nat) × Int)) : Prop := (o = none ∧ z = -1) ∨ ∃ q, o = some q ∧ z = q.2 ∧ (0 ≤ q.2 ∧ q.2 ≤ 2000000) ∧ ∀ i, i < pb_nL b → mg_bs m i = (q.1 i : Int)
theorem mB_of {b : pB} {m m' : mS} {z : Int} {o : Option ((Nat → Nat) × Int)} (h : mB b m z o) (e : mg_bs m' = mg_bs m) : mB b m' z o := by
  rcases h with h | ⟨q, h1, h2, h3, h4⟩
  · exact Or.inl h
  · exact Or.inr ⟨q, h1, h2, h3, fun i hi => by rw [e]; exact h4 i hi⟩
theorem mVl_of {b : pB} {m m' : mS} {se : Nat → Nat} {y : Nat} (h : mVl b m se y) (e1 : mg_re m' = mg_re m) (e2 : mg_sp m' = mg_sp m) (e3 : mg_ta m' = mg_ta m) : mVl b m' se y := by
  unfold mVl
  rw [e1, e2, e3]
  exact h
theorem mE_of {m m' : mS} (h : mE m) (e : mg_re m' = mg_re m) : mE m' := by
  unfold mE
  rw [e]
  exact h
/-- other sets, the same below line y -/
theorem mVl_low {b : pB} {m : mS} {se se' : Nat → Nat} {y y' : Nat} (h : mVl b m se y) (hy : y' ≤ y) (e : ∀ k, k < y' → se' k = se k) : mVl b m se' y' := by
  refine ⟨fun i hi => ?_, fun i hi j hj => ?_⟩
  · obtain ⟨e1, e2⟩ := sR_congr (b := b) (se := se') (se' := se) i (fun k hk => e k (by omega))
    rw [e1, e2]
    exact h.1 i (by omega)
  · obtain ⟨e1, e2⟩ := sR_congr (b := b) (se := se') (se' := se) i (fun k hk => e k (by omega))
    rw [e1, e i hi]
    exact h.2 i (by omega) j hj
/-- how the reference's search ends -/
def mQ (b : pB) (x : am_C) (c : cS) (m : mS) (t : List am_C) (n : Nat) : am_O → am_H → Nat → Prop := fun o h n' => o = .inl none ∧ n' = n ∧ ∃ m', h = hC x c (hM m' t) ∧ mC m' = mC m ∧ mA m' ∧ mE m' ∧ mVl b m' (fun _ => 0) 0 ∧ ∃ q, gF b none (sq b (pb_nL b) (fun _ => 0)) = some q ∧ ∀ i, i < pb_nL b → mg_bs m' i = (q.1 i : Int)
set_option maxHeartbeats 1000000 in
set_option maxRecDepth 20000 in
theorem sp_M_exactly {d : Nat} {x : am_C} {c : cS} {m : mS} {t : List am_C} {n : Nat} {b : pB} (hb : bOK b) (hf : ∀ l, l < pb_nL b → 0 ≤ pb_fw b l) (hw : ∀ l, l < pb_nL b → pb_w b l ≤ 200) (hmm : mM b m) (hK : mK m) (hA : mA m) (hE : mE m) (hV : mVl b m (fun _ => 0) 0) : am_W (d + 3) km_M_exactly 0 [some (.ref 50), none, none, none] [] (hC x c (hM m t)) n 0 0 (mQ b x c m t n) := by
  have hL6 := hb.2.2.1
  have hT8 := hb.2.2.2
  have loop : ∀ (p0 : Nat → Nat) (T : List (Nat → Nat)), ∀ (a : Nat → Nat) (y : Nat) (m1 : mS) (z : Int) (o : Option ((Nat → Nat) × Int)) (w3 : Option Value), mC m1 = mC m → mA m1 → mE m1 → mSe b m1 a → mVl b m1 a y → y ≤ pb_nL b → Ch b a T (p0, -1) → mB b m1 z o → gF b none (sq b (pb_nL b) (fun _ => 0)) = gF b o (a :: T) → am_W (d + 3) km_M_exactly 27 [some (.ref 50), some (.int (iI z)), some (.int (iI (y : Int))), w3] [] (hC x c (hM m1 t)) n 0 0 (mQ b x c m t n) := by
    intro p0 T
    induction T with
    | nil =>
      intro a y m1 z o w3 d1 d2 d3 d4 d5 d6 hc d8 d9
      have nxt : ∀ (m3 : mS) (z : Int) (o : Option ((Nat → Nat) × Int)) (w2 w3 : Option Value), mC m3 = mC m → mA m3 → mE m3 → mSe b m3 a → mVl b m3 a (pb_nL b) → mB b m3 z o → o ≠ none → gF b none (sq b (pb_nL b) (fun _ => 0)) = gF b o [] → am_W (d + 3) km_M_exactly 96 [some (.ref 50), some (.int (iI z)), w2, w3] [] (hC x c (hM m3 t)) n 0 0 (mQ b x c m t n) := by
        intro m3 z o w2 w3 c1 c2 c3 c4 c5 c6 c7 c8
        have hM3 := mM_of hmm c1
        have hK3 := mK_of hK c1
        obtain ⟨x1, x2⟩ := mk_nx_is (b := b) (mg_nL m3) m3 a (by rw [hM3.1]; exact Nat.le_refl _) hM3 c4
        rw [hM3.1] at x1 x2
        have k1 : mC (mk_nx (pb_nL b) m3).1 = mC m3 := mk_nx_keep (P := mC) (fun _ _ => rfl) _ _
        have k2 : mg_re (mk_nx (pb_nL b) m3).1 = mg_re m3 := mk_nx_keep (P := fun m => mg_re m) (fun _ _ => rfl) _ _
        have k3 : mg_sp (mk_nx (pb_nL b) m3).1 = mg_sp m3 := mk_nx_keep (P := fun m => mg_sp m) (fun _ _ => rfl) _ _
        have k4 : mg_ta (mk_nx (pb_nL b) m3).1 = mg_ta m3 := mk_nx_keep (P := fun m => mg_ta m) (fun _ _ => rfl) _ _
        have k5 : mg_bs (mk_nx (pb_nL b) m3).1 = mg_bs m3 := mk_nx_keep (P := fun m => mg_bs m) (fun _ _ => rfl) _ _
        have k6 := mA_nx (pb_nL b) hL6 c2
        refine ar_aload_n kd_M_exactly_96 rfl ?_
        refine az_callv (z := km_M_nextSets) (As := []) (ci := 5) kd_M_exactly_97 kw_768 kw_770 rfl ks_M_nextSets kz_M_nextSets rfl rfl rfl rfl rfl (Nat.le_of_ble_eq_true rfl) (Nat.le_of_ble_eq_true rfl) rfl (am_deep (sp_M_nextSets (d := 0) hK3 c2) (by omega)) ?_
        rw [hM3.1, x1, show (nX b (pb_nL b) a).2 = -1 by rw [show nX b (pb_nL b) a = (p0, -1) from hc]]
        refine ar_istore_n kd_M_exactly_100 (Nat.le_of_ble_eq_true rfl) rfl ?_
        dsimp only [List.set]
        refine ar_goto (tg := 27) kd_M_exactly_101 (by decide) ?_
        refine ar_iload_n kd_M_exactly_27 rfl ?_
        refine ar_iconst kd_M_exactly_28 ?_
        refine az_icmp_eq (tg := 104) kd_M_exactly_29 (by decide) (fun q1 => ?_) (fun q1 => (by exfalso; omega))
        refine ar_return kd_M_exactly_104 rfl (Nat.le_of_ble_eq_true rfl) (Nat.le_of_ble_eq_true rfl) ?_
        refine ⟨rfl, rfl, _, rfl, k1.trans c1, k6, mE_of c3 k2, mVl_low (mVl_of c5 k2 k3 k4) (Nat.zero_le _) (fun k hk => by omega), ?_⟩
        rcases c6 with ⟨h1, -⟩ | ⟨q, h1, h2, h3, h4⟩
        · exact absurd h1 c7
        · refine ⟨q, ?_, fun i hi => ?_⟩
          · rw [c8, h1]
            rfl
          · rw [k5]
            exact h4 i hi
      have hM1 := mM_of hmm d1
      have hK1 := mK_of hK d1
      have eL1 := hM1.1
      have ej : y + (mg_nL m1 - y) = pb_nL b := by omega
      obtain ⟨v1, v2⟩ := mVl_tf hb hM1 d4 d5 d3 (mg_nL m1 - y) (by omega)
      rw [ej] at v1
      have f1 : mC (mk_tf m1 y (mg_nL m1 - y)) = mC m1 := mk_tf_keep (P := mC) (fun _ _ => rfl) (fun _ _ => rfl) (fun _ _ => rfl) m1 y _
      have f2 : mg_se (mk_tf m1 y (mg_nL m1 - y)) = mg_se m1 := mk_tf_keep (P := fun m => mg_se m) (fun _ _ => rfl) (fun _ _ => rfl) (fun _ _ => rfl) m1 y _
      have f3 : mg_bs (mk_tf m1 y (mg_nL m1 - y)) = mg_bs m1 := mk_tf_keep (P := fun m => mg_bs m) (fun _ _ => rfl) (fun _ _ => rfl) (fun _ _ => rfl) m1 y _
      have f4 := (mk_tf_ok hK1 d2 y (mg_nL m1 - y)).2
      have f5 := (mC_eq f1).2.2.2.2.2.2.1
      have f6 := (v1.1 (pb_nL b) (Nat.le_refl _)).2
      have f7 := sZ_rg hb hw a (pb_nL b) (Nat.le_refl _)
      have hmb := d8
      have hz2 : -1 ≤ z ∧ z ≤ 2000000 := by
        rcases d8 with h | ⟨q, h1, h2, h3, -⟩ <;> omega
      generalize hm2 : mk_tf m1 y (mg_nL m1 - y) = m2 at v1 v2 f1 f2 f3 f4 f5 f6
      have g1 := f1.trans d1
      have g2 := mM_of hmm g1
      have g3 := g2.1
      have g4 := mSe_of d4 f2
      have g5 := mB_of d8 f3
      have cpy : gF b none (sq b (pb_nL b) (fun _ => 0)) = gF b (some (a, zT b a)) [] → ∀ (f i : Nat), i ≤ pb_nL b → pb_nL b - i < f → am_W (d + 3) km_M_exactly 70 [some (.ref 50), some (.int (iI (zT b a))), some (.int (iI y)), some (.int (iI i))] [] (hC x c (hM (mk_cb m2 i) t)) n 0 0 (mQ b x c m t n) := by
        intro ho2 f
        induction f with
        | zero => intro i h1 h2; omega
        | succ f ihc =>
          intro i h1 h2
          have e1 : mg_nL (mk_cb m2 i) = pb_nL b := (mk_cb_keep (P := fun m => mg_nL m) (fun _ _ => rfl) m2 i).trans g3
          refine ar_iload_n kd_M_exactly_70 rfl ?_
          refine ar_aload_n kd_M_exactly_71 rfl ?_
          refine ar_get (ci := 5) (k := 6) kd_M_exactly_72 rfl kw_625 (by decide) rfl rfl ?_
          refine az_icmp_ge (tg := 96) kd_M_exactly_75 (by decide) (fun qq => ?_) (fun qq => ?_)
          · obtain rfl : i = pb_nL b := by omega
            exact nxt (mk_cb m2 (pb_nL b)) (zT b a) (some (a, zT b a)) _ _ ((mk_cb_keep (P := mC) (fun _ _ => rfl) m2 _).trans g1) (mA_cb f4 _ hL6) (mE_of v2 (mk_cb_keep (P := fun m => mg_re m) (fun _ _ => rfl) m2 _)) (mSe_of g4 (mk_cb_keep (P := fun m => mg_se m) (fun _ _ => rfl) m2 _)) (mVl_of v1 (mk_cb_keep (P := fun m => mg_re m) (fun _ _ => rfl) m2 _) (mk_cb_keep (P := fun m => mg_sp m) (fun _ _ => rfl) m2 _) (mk_cb_keep (P := fun m => mg_ta m) (fun _ _ => rfl) m2 _)) (Or.inr ⟨(a, zT b a), rfl, rfl, by show 0 ≤ sZ b a (pb_nL b) ∧ sZ b a (pb_nL b) ≤ 2000000; omega, fun i hi => by rw [cb_bs, if_pos hi]; exact g4 i hi⟩) (by simp) ho2
          · refine ar_aload_n kd_M_exactly_78 rfl ?_
            refine ar_get (ci := 5) (k := 17) kd_M_exactly_79 rfl kw_636 (by decide) rfl rfl ?_
            refine ar_iload_n kd_M_exactly_82 rfl ?_
            refine ar_aload_n kd_M_exactly_83 rfl ?_
            refine ar_get (ci := 5) (k := 16) kd_M_exactly_84 rfl kw_635 (by decide) rfl rfl ?_
            refine ar_iload_n kd_M_exactly_87 rfl ?_
            refine az_iald kd_M_exactly_88 rfl (k := i) (by omega) (by omega) ?_
            refine az_iast kd_M_exactly_89 rfl rfl (k := i) (by omega) (by omega) ?_
            rw [hv_bs]
            refine az_iinc kd_M_exactly_90 rfl rfl ?_
            dsimp only [List.set]
            refine ar_goto (tg := 70) kd_M_exactly_93 (by decide) ?_
            exact ihc (i + 1) (by omega) (by omega)
      refine ar_iload_n kd_M_exactly_27 rfl ?_
      refine ar_iconst kd_M_exactly_28 ?_
      refine az_icmp_eq (tg := 104) kd_M_exactly_29 (by decide) (fun q0 => (by exfalso; omega)) (fun q0 => ?_)
      refine ar_aload_n kd_M_exactly_32 rfl ?_
      refine ar_iload_n kd_M_exactly_33 rfl ?_
      refine az_callv (z := km_M_takeFrom) (As := [_]) (ci := 5) kd_M_exactly_34 kw_756 kw_758 rfl ks_M_takeFrom kz_M_takeFrom rfl rfl rfl rfl rfl (Nat.le_of_ble_eq_true rfl) (Nat.le_of_ble_eq_true rfl) rfl (am_deep (sp_M_takeFrom (d := 0) hK1 d2 (by omega) (fun l hl => by rw [(hM1.2.2 l (by omega)).2.2.1]; exact (hM1.2.2 l (by omega)).2.2.2.2.2.2.2) (mRw_of hb hM1 d4 d5 d3)) (by omega)) ?_
      rw [hm2]
      refine ar_iload_n kd_M_exactly_37 rfl ?_
      refine ar_iconst kd_M_exactly_38 ?_
      refine az_icmp_eq (tg := 58) kd_M_exactly_39 (by decide) (fun q1 => ?_) (fun q1 => ?_)
      · refine ar_aload_n kd_M_exactly_58 rfl ?_
        refine ar_get (ci := 5) (k := 19) kd_M_exactly_59 rfl kw_638 (by decide) rfl rfl ?_
        refine ar_aload_n kd_M_exactly_62 rfl ?_
        refine ar_get (ci := 5) (k := 6) kd_M_exactly_63 rfl kw_625 (by decide) rfl rfl ?_
        refine az_iald kd_M_exactly_66 rfl (k := mg_nL m2) rfl (by omega) ?_
        rw [g3, f6]
        refine ar_istore_n kd_M_exactly_67 (Nat.le_of_ble_eq_true rfl) rfl ?_
        dsimp only [List.set]
        refine ar_iconst kd_M_exactly_68 ?_
        refine ar_istore_n kd_M_exactly_69 (Nat.le_of_ble_eq_true rfl) rfl ?_
        dsimp only [List.set]
        exact cpy (by
          rw [d9]
          rcases hmb with ⟨h1, h2⟩ | ⟨q, h1, h2, h3, h4⟩
          · rw [h1]
            rfl
          · rw [h1]
            show gF b (if zT b a < q.2 then some (a, zT b a) else some q) [] = _
            rw [if_pos (by show sZ b a (pb_nL b) < q.2; omega)]) (pb_nL b + 1) 0 (by omega) (by omega)
      · refine ar_aload_n kd_M_exactly_42 rfl ?_
        refine ar_get (ci := 5) (k := 19) kd_M_exactly_43 rfl kw_638 (by decide) rfl rfl ?_
        refine ar_aload_n kd_M_exactly_46 rfl ?_
        refine ar_get (ci := 5) (k := 6) kd_M_exactly_47 rfl kw_625 (by decide) rfl rfl ?_
        refine az_iald kd_M_exactly_50 rfl (k := mg_nL m2) rfl (by omega) ?_
        rw [g3, f6]
        refine ar_iload_n kd_M_exactly_51 rfl ?_
        refine az_icmp_lt (tg := 58) kd_M_exactly_52 (by decide) (fun q2 => ?_) (fun q2 => ?_)
        · refine ar_aload_n kd_M_exactly_58 rfl ?_
          refine ar_get (ci := 5) (k := 19) kd_M_exactly_59 rfl kw_638 (by decide) rfl rfl ?_
          refine ar_aload_n kd_M_exactly_62 rfl ?_
          refine ar_get (ci := 5) (k := 6) kd_M_exactly_63 rfl kw_625 (by decide) rfl rfl ?_
          refine az_iald kd_M_exactly_66 rfl (k := mg_nL m2) rfl (by omega) ?_
          rw [g3, f6]
          refine ar_istore_n kd_M_exactly_67 (Nat.le_of_ble_eq_true rfl) rfl ?_
          dsimp only [List.set]
          refine ar_iconst kd_M_exactly_68 ?_
          refine ar_istore_n kd_M_exactly_69 (Nat.le_of_ble_eq_true rfl) rfl ?_
          dsimp only [List.set]
          exact cpy (by
            rw [d9]
            rcases hmb with ⟨h1, h2⟩ | ⟨q, h1, h2, h3, h4⟩
            · rw [h1]
              rfl
            · rw [h1]
              show gF b (if zT b a < q.2 then some (a, zT b a) else some q) [] = _
              rw [if_pos (by show sZ b a (pb_nL b) < q.2; omega)]) (pb_nL b + 1) 0 (by omega) (by omega)
        · refine ar_goto (tg := 96) kd_M_exactly_55 (by decide) ?_
          rcases hmb with ⟨h1, h2⟩ | ⟨q, h1, h2, h3, h4⟩
          · exfalso
            omega
          · exact nxt m2 z o _ _ g1 f4 v2 g4 v1 g5 (by rw [h1]; simp) (by
              rw [d9, h1]
              show gF b (if zT b a < q.2 then some (a, zT b a) else some q) [] = _
              rw [if_neg (by show ¬ sZ b a (pb_nL b) < q.2; omega)])
    | cons a2 T ihT =>
      intro a y m1 z o w3 d1 d2 d3 d4 d5 d6 hc d8 d9
      obtain ⟨y2, ey, ey2, ey3⟩ := nX_low (b := b) (pb_nL b) a hc.2.1
      have nxt : ∀ (m3 : mS) (z : Int) (o : Option ((Nat → Nat) × Int)) (w2 w3 : Option Value), mC m3 = mC m → mA m3 → mE m3 → mSe b m3 a → mVl b m3 a (pb_nL b) → mB b m3 z o → o ≠ none → gF b none (sq b (pb_nL b) (fun _ => 0)) = gF b o (a2 :: T) → am_W (d + 3) km_M_exactly 96 [some (.ref 50), some (.int (iI z)), w2, w3] [] (hC x c (hM m3 t)) n 0 0 (mQ b x c m t n) := by
        intro m3 z o w2 w3 c1 c2 c3 c4 c5 c6 c7 c8
        have hM3 := mM_of hmm c1
        have hK3 := mK_of hK c1
        obtain ⟨x1, x2⟩ := mk_nx_is (b := b) (mg_nL m3) m3 a (by rw [hM3.1]; exact Nat.le_refl _) hM3 c4
        rw [hM3.1] at x1 x2
        have k1 : mC (mk_nx (pb_nL b) m3).1 = mC m3 := mk_nx_keep (P := mC) (fun _ _ => rfl) _ _
        have k2 : mg_re (mk_nx (pb_nL b) m3).1 = mg_re m3 := mk_nx_keep (P := fun m => mg_re m) (fun _ _ => rfl) _ _
        have k3 : mg_sp (mk_nx (pb_nL b) m3).1 = mg_sp m3 := mk_nx_keep (P := fun m => mg_sp m) (fun _ _ => rfl) _ _
        have k4 : mg_ta (mk_nx (pb_nL b) m3).1 = mg_ta m3 := mk_nx_keep (P := fun m => mg_ta m) (fun _ _ => rfl) _ _
        have k5 : mg_bs (mk_nx (pb_nL b) m3).1 = mg_bs m3 := mk_nx_keep (P := fun m => mg_bs m) (fun _ _ => rfl) _ _
        have k6 := mA_nx (pb_nL b) hL6 c2
        refine ar_aload_n kd_M_exactly_96 rfl ?_
        refine az_callv (z := km_M_nextSets) (As := []) (ci := 5) kd_M_exactly_97 kw_768 kw_770 rfl ks_M_nextSets kz_M_nextSets rfl rfl rfl rfl rfl (Nat.le_of_ble_eq_true rfl) (Nat.le_of_ble_eq_true rfl) rfl (am_deep (sp_M_nextSets (d := 0) hK3 c2) (by omega)) ?_
        rw [hM3.1, x1, ey]
        refine ar_istore_n kd_M_exactly_100 (Nat.le_of_ble_eq_true rfl) rfl ?_
        dsimp only [List.set]
        refine ar_goto (tg := 27) kd_M_exactly_101 (by decide) ?_
        exact ihT a2 y2 (mk_nx (pb_nL b) m3).1 z o _ (k1.trans c1) k6 (mE_of c3 k2) (by rw [← hc.1]; exact x2) (mVl_low (mVl_of c5 k2 k3 k4) (by omega) (fun k hk => by rw [← hc.1]; exact ey3 k hk)) (by omega) hc.2.2 (mB_of c6 k5) c8
      have hM1 := mM_of hmm d1
      have hK1 := mK_of hK d1
      have eL1 := hM1.1
      have ej : y + (mg_nL m1 - y) = pb_nL b := by omega
      obtain ⟨v1, v2⟩ := mVl_tf hb hM1 d4 d5 d3 (mg_nL m1 - y) (by omega)
      rw [ej] at v1
      have f1 : mC (mk_tf m1 y (mg_nL m1 - y)) = mC m1 := mk_tf_keep (P := mC) (fun _ _ => rfl) (fun _ _ => rfl) (fun _ _ => rfl) m1 y _
      have f2 : mg_se (mk_tf m1 y (mg_nL m1 - y)) = mg_se m1 := mk_tf_keep (P := fun m => mg_se m) (fun _ _ => rfl) (fun _ _ => rfl) (fun _ _ => rfl) m1 y _
      have f3 : mg_bs (mk_tf m1 y (mg_nL m1 - y)) = mg_bs m1 := mk_tf_keep (P := fun m => mg_bs m) (fun _ _ => rfl) (fun _ _ => rfl) (fun _ _ => rfl) m1 y _
      have f4 := (mk_tf_ok hK1 d2 y (mg_nL m1 - y)).2
      have f5 := (mC_eq f1).2.2.2.2.2.2.1
      have f6 := (v1.1 (pb_nL b) (Nat.le_refl _)).2
      have f7 := sZ_rg hb hw a (pb_nL b) (Nat.le_refl _)
      have hmb := d8
      have hz2 : -1 ≤ z ∧ z ≤ 2000000 := by
        rcases d8 with h | ⟨q, h1, h2, h3, -⟩ <;> omega
      generalize hm2 : mk_tf m1 y (mg_nL m1 - y) = m2 at v1 v2 f1 f2 f3 f4 f5 f6
      have g1 := f1.trans d1
      have g2 := mM_of hmm g1
      have g3 := g2.1
      have g4 := mSe_of d4 f2
      have g5 := mB_of d8 f3
      have cpy : gF b none (sq b (pb_nL b) (fun _ => 0)) = gF b (some (a, zT b a)) (a2 :: T) → ∀ (f i : Nat), i ≤ pb_nL b → pb_nL b - i < f → am_W (d + 3) km_M_exactly 70 [some (.ref 50), some (.int (iI (zT b a))), some (.int (iI y)), some (.int (iI i))] [] (hC x c (hM (mk_cb m2 i) t)) n 0 0 (mQ b x c m t n) := by
        intro ho2 f
        induction f with
        | zero => intro i h1 h2; omega
        | succ f ihc =>
          intro i h1 h2
          have e1 : mg_nL (mk_cb m2 i) = pb_nL b := (mk_cb_keep (P := fun m => mg_nL m) (fun _ _ => rfl) m2 i).trans g3
          refine ar_iload_n kd_M_exactly_70 rfl ?_
          refine ar_aload_n kd_M_exactly_71 rfl ?_
          refine ar_get (ci := 5) (k := 6) kd_M_exactly_72 rfl kw_625 (by decide) rfl rfl ?_
          refine az_icmp_ge (tg := 96) kd_M_exactly_75 (by decide) (fun qq => ?_) (fun qq => ?_)
          · obtain rfl : i = pb_nL b := by omega
            exact nxt (mk_cb m2 (pb_nL b)) (zT b a) (some (a, zT b a)) _ _ ((mk_cb_keep (P := mC) (fun _ _ => rfl) m2 _).trans g1) (mA_cb f4 _ hL6) (mE_of v2 (mk_cb_keep (P := fun m => mg_re m) (fun _ _ => rfl) m2 _)) (mSe_of g4 (mk_cb_keep (P := fun m => mg_se m) (fun _ _ => rfl) m2 _)) (mVl_of v1 (mk_cb_keep (P := fun m => mg_re m) (fun _ _ => rfl) m2 _) (mk_cb_keep (P := fun m => mg_sp m) (fun _ _ => rfl) m2 _) (mk_cb_keep (P := fun m => mg_ta m) (fun _ _ => rfl) m2 _)) (Or.inr ⟨(a, zT b a), rfl, rfl, by show 0 ≤ sZ b a (pb_nL b) ∧ sZ b a (pb_nL b) ≤ 2000000; omega, fun i hi => by rw [cb_bs, if_pos hi]; exact g4 i hi⟩) (by simp) ho2
          · refine ar_aload_n kd_M_exactly_78 rfl ?_
            refine ar_get (ci := 5) (k := 17) kd_M_exactly_79 rfl kw_636 (by decide) rfl rfl ?_
            refine ar_iload_n kd_M_exactly_82 rfl ?_
            refine ar_aload_n kd_M_exactly_83 rfl ?_
            refine ar_get (ci := 5) (k := 16) kd_M_exactly_84 rfl kw_635 (by decide) rfl rfl ?_
            refine ar_iload_n kd_M_exactly_87 rfl ?_
            refine az_iald kd_M_exactly_88 rfl (k := i) (by omega) (by omega) ?_
            refine az_iast kd_M_exactly_89 rfl rfl (k := i) (by omega) (by omega) ?_
            rw [hv_bs]
            refine az_iinc kd_M_exactly_90 rfl rfl ?_
            dsimp only [List.set]
            refine ar_goto (tg := 70) kd_M_exactly_93 (by decide) ?_
            exact ihc (i + 1) (by omega) (by omega)
      refine ar_iload_n kd_M_exactly_27 rfl ?_
      refine ar_iconst kd_M_exactly_28 ?_
      refine az_icmp_eq (tg := 104) kd_M_exactly_29 (by decide) (fun q0 => (by exfalso; omega)) (fun q0 => ?_)
      refine ar_aload_n kd_M_exactly_32 rfl ?_
      refine ar_iload_n kd_M_exactly_33 rfl ?_
      refine az_callv (z := km_M_takeFrom) (As := [_]) (ci := 5) kd_M_exactly_34 kw_756 kw_758 rfl ks_M_takeFrom kz_M_takeFrom rfl rfl rfl rfl rfl (Nat.le_of_ble_eq_true rfl) (Nat.le_of_ble_eq_true rfl) rfl (am_deep (sp_M_takeFrom (d := 0) hK1 d2 (by omega) (fun l hl => by rw [(hM1.2.2 l (by omega)).2.2.1]; exact (hM1.2.2 l (by omega)).2.2.2.2.2.2.2) (mRw_of hb hM1 d4 d5 d3)) (by omega)) ?_
      rw [hm2]
      refine ar_iload_n kd_M_exactly_37 rfl ?_
      refine ar_iconst kd_M_exactly_38 ?_
      refine az_icmp_eq (tg := 58) kd_M_exactly_39 (by decide) (fun q1 => ?_) (fun q1 => ?_)
      · refine ar_aload_n kd_M_exactly_58 rfl ?_
        refine ar_get (ci := 5) (k := 19) kd_M_exactly_59 rfl kw_638 (by decide) rfl rfl ?_
        refine ar_aload_n kd_M_exactly_62 rfl ?_
        refine ar_get (ci := 5) (k := 6) kd_M_exactly_63 rfl kw_625 (by decide) rfl rfl ?_
        refine az_iald kd_M_exactly_66 rfl (k := mg_nL m2) rfl (by omega) ?_
        rw [g3, f6]
        refine ar_istore_n kd_M_exactly_67 (Nat.le_of_ble_eq_true rfl) rfl ?_
        dsimp only [List.set]
        refine ar_iconst kd_M_exactly_68 ?_
        refine ar_istore_n kd_M_exactly_69 (Nat.le_of_ble_eq_true rfl) rfl ?_
        dsimp only [List.set]
        exact cpy (by
          rw [d9]
          rcases hmb with ⟨h1, h2⟩ | ⟨q, h1, h2, h3, h4⟩
          · rw [h1]
            rfl
          · rw [h1]
            show gF b (if zT b a < q.2 then some (a, zT b a) else some q) (a2 :: T) = _
            rw [if_pos (by show sZ b a (pb_nL b) < q.2; omega)]) (pb_nL b + 1) 0 (by omega) (by omega)
      · refine ar_aload_n kd_M_exactly_42 rfl ?_
        refine ar_get (ci := 5) (k := 19) kd_M_exactly_43 rfl kw_638 (by decide) rfl rfl ?_
        refine ar_aload_n kd_M_exactly_46 rfl ?_
        refine ar_get (ci := 5) (k := 6) kd_M_exactly_47 rfl kw_625 (by decide) rfl rfl ?_
        refine az_iald kd_M_exactly_50 rfl (k := mg_nL m2) rfl (by omega) ?_
        rw [g3, f6]
        refine ar_iload_n kd_M_exactly_51 rfl ?_
        refine az_icmp_lt (tg := 58) kd_M_exactly_52 (by decide) (fun q2 => ?_) (fun q2 => ?_)
        · refine ar_aload_n kd_M_exactly_58 rfl ?_
          refine ar_get (ci := 5) (k := 19) kd_M_exactly_59 rfl kw_638 (by decide) rfl rfl ?_
          refine ar_aload_n kd_M_exactly_62 rfl ?_
          refine ar_get (ci := 5) (k := 6) kd_M_exactly_63 rfl kw_625 (by decide) rfl rfl ?_
          refine az_iald kd_M_exactly_66 rfl (k := mg_nL m2) rfl (by omega) ?_
          rw [g3, f6]
          refine ar_istore_n kd_M_exactly_67 (Nat.le_of_ble_eq_true rfl) rfl ?_
          dsimp only [List.set]
          refine ar_iconst kd_M_exactly_68 ?_
          refine ar_istore_n kd_M_exactly_69 (Nat.le_of_ble_eq_true rfl) rfl ?_
          dsimp only [List.set]
          exact cpy (by
            rw [d9]
            rcases hmb with ⟨h1, h2⟩ | ⟨q, h1, h2, h3, h4⟩
            · rw [h1]
              rfl
            · rw [h1]
              show gF b (if zT b a < q.2 then some (a, zT b a) else some q) (a2 :: T) = _
              rw [if_pos (by show sZ b a (pb_nL b) < q.2; omega)]) (pb_nL b + 1) 0 (by omega) (by omega)
        · refine ar_goto (tg := 96) kd_M_exactly_55 (by decide) ?_
          rcases hmb with ⟨h1, h2⟩ | ⟨q, h1, h2, h3, h4⟩
          · exfalso
            omega
          · exact nxt m2 z o _ _ g1 f4 v2 g4 v1 g5 (by rw [h1]; simp) (by
              rw [d9, h1]
              show gF b (if zT b a < q.2 then some (a, zT b a) else some q) (a2 :: T) = _
              rw [if_neg (by show ¬ sZ b a (pb_nL b) < q.2; omega)])
  have start : ∀ (f i : Nat), i ≤ pb_nL b → pb_nL b - i < f → am_W (d + 3) km_M_exactly 2 [some (.ref 50), some (.int (iI i)), none, none] [] (hC x c (hM (mk_sz m i) t)) n 0 0 (mQ b x c m t n) := by
    intro f
    induction f with
    | zero => intro i h1 h2; omega
    | succ f ih =>
      intro i h1 h2
      have eL : mg_nL (mk_sz m i) = pb_nL b := (mk_sz_keep (P := fun m => mg_nL m) (fun _ _ => rfl) m i).trans hmm.1
      refine ar_iload_n kd_M_exactly_2 rfl ?_
      refine ar_aload_n kd_M_exactly_3 rfl ?_
      refine ar_get (ci := 5) (k := 6) kd_M_exactly_4 rfl kw_625 (by decide) rfl rfl ?_
      refine az_icmp_ge (tg := 23) kd_M_exactly_7 (by decide) (fun q1 => ?_) (fun q1 => ?_)
      · obtain rfl : i = pb_nL b := by omega
        refine ar_iconst kd_M_exactly_23 ?_
        refine ar_istore_n kd_M_exactly_24 (Nat.le_of_ble_eq_true rfl) rfl ?_
        dsimp only [List.set]
        refine ar_iconst kd_M_exactly_25 ?_
        refine ar_istore_n kd_M_exactly_26 (Nat.le_of_ble_eq_true rfl) rfl ?_
        dsimp only [List.set]
        obtain ⟨T, e1, e2⟩ := sq_chain hb hf (pb_nL b) (l := 0) (p := fun _ => 0) (by omega) (fun _ _ => rfl)
        exact loop (fun _ => 0) T (fun _ => 0) 0 (mk_sz m (pb_nL b)) (-1) none _ (mk_sz_keep (P := mC) (fun _ _ => rfl) m _) (mA_sz hA _) (mE_of hE (mk_sz_keep (P := fun m => mg_re m) (fun _ _ => rfl) m _)) (fun i hi => by rw [sz_se, if_pos hi]; rfl) (mVl_of hV (mk_sz_keep (P := fun m => mg_re m) (fun _ _ => rfl) m _) (mk_sz_keep (P := fun m => mg_sp m) (fun _ _ => rfl) m _) (mk_sz_keep (P := fun m => mg_ta m) (fun _ _ => rfl) m _)) (Nat.zero_le _) e2 (Or.inl ⟨rfl, rfl⟩) (by rw [e1])
      · refine ar_aload_n kd_M_exactly_10 rfl ?_
        refine ar_get (ci := 5) (k := 16) kd_M_exactly_11 rfl kw_635 (by decide) rfl rfl ?_
        refine ar_iload_n kd_M_exactly_14 rfl ?_
        refine ar_iconst kd_M_exactly_15 ?_
        refine az_iast kd_M_exactly_16 rfl rfl (k := i) (by omega) (by omega) ?_
        rw [hv_se]
        refine az_iinc kd_M_exactly_17 rfl rfl ?_
        dsimp only [List.set]
        refine ar_goto (tg := 2) kd_M_exactly_20 (by decide) ?_
        exact ih (i + 1) (by omega) (by omega)
  refine ar_iconst kd_M_exactly_0 ?_
  refine ar_istore_n kd_M_exactly_1 (Nat.le_of_ble_eq_true rfl) rfl ?_
  dsimp only [List.set]
  exact start (pb_nL b + 1) 0 (by omega) (by omega)
