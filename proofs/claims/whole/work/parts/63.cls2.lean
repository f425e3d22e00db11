/-! the class finds the first of the least -/
theorem gi_tr (c : cS) (v : Nat → Int) : cg_gi (cs_tr c v) = cg_gi c := rfl
theorem fr_tr (c : cS) (v : Nat → Int) : cg_fr (cs_tr c v) = cg_fr c := rfl
theorem tr_tr (c : cS) (v : Nat → Int) : cg_tr (cs_tr c v) = v := rfl
theorem bc_tr (c : cS) (v : Nat → Int) : cg_bc (cs_tr c v) = cg_bc c := rfl
theorem be_tr (c : cS) (v : Nat → Int) : cg_be (cs_tr c v) = cg_be c := rfl
theorem rb_tr (c : cS) (v : Nat → Int) : cg_rb (cs_tr c v) = cg_rb c := rfl
theorem cW_tr (c : cS) (v : Nat → Int) : cW (cs_tr c v) = cW c := rfl
theorem back_row {b : pB} {c3 a : cS} {l s : Nat} {r : Nat → Int} (hbl : bL b l) (h1 : cg_gi c3 = zr (cg_gi a) l (tR b l r s)) (h2 : cg_fr c3 = fun j => r j - tR b l r s j) (h3 : cg_gi a l = fun _ => 0) (hT : cg_nT c3 = pb_nT b) : cg_gi (ck_letGo c3 l) = cg_gi a ∧ cg_fr (ck_letGo c3 l) = r := by
  have h := letGo_row (c := c3) (l := l) (fun j hj => by
    rw [h1, zr_s]
    exact tR_ge hbl (by omega))
  refine ⟨?_, ?_⟩
  · rw [h.1, h1, zr_zr, zr_id h3]
  · rw [h.2, h1, h2]
    funext j
    rw [zr_s]
    show r j - tR b l r s j + tR b l r s j = r j
    omega
theorem kp_be (c : cS) : ∀ n i, cg_be (ck_kp c n) i = if i < n then cg_tr c i else cg_be c i
  | 0, i => rfl
  | n + 1, i => by
    have e : ck_kp c (n + 1) = cs_be (ck_kp c n) (zu (cg_be (ck_kp c n)) n (cg_tr (ck_kp c n) n)) := rfl
    have e2 : ∀ (c : cS) (v : Nat → Int), cg_be (cs_be c v) = v := fun _ _ => rfl
    rw [e, e2]
    by_cases h : i = n
    · subst h
      rw [zu_s, if_pos (by omega), ck_kp_keep (P := fun c => cg_tr c) (fun _ _ => rfl)]
    · rw [zu_n h, kp_be c n i]
      by_cases h2 : i < n
      · rw [if_pos h2, if_pos (by omega)]
      · rw [if_neg h2, if_neg (by omega)]
theorem tr_bc (c : cS) (v : Int) : cg_tr (cs_bc c v) = cg_tr c := rfl
/-- the state agrees with the best that is known -/
def cB (b : pB) (c : cS) (q : (Nat → Nat) × Int) : Prop := cg_bc c = q.2 ∧ ∀ i, i < pb_nL b → cg_be c i = (q.1 i : Int)
/-- the bounds -/
def cL (b : pB) (rb : Nat → Int) : Prop := rb (pb_nL b) = 0 ∧ ∀ l, l < pb_nL b → ∀ r s, (∀ j, j < pb_nT b → 0 ≤ r j) → rb l ≤ rb (l + 1) + tC b l r s
theorem ex_math {b : pB} (hb : bOK b) : ∀ (j l : Nat) (z : Int) (c : cS) (p : Nat → Nat) (q : (Nat → Nat) × Int), l + j = pb_nL b → cM b c → (∀ i, l ≤ i → cg_gi c i = fun _ => 0) → cg_fr c = sR b p l → z = sZ b p l → (∀ i, i < l → cg_tr c i = (p i : Int)) → cL b (cg_rb c) → z + cg_rb c l < cg_bc c → cB b c q →
    cg_gi (ck_ex j l z c) = cg_gi c ∧ cg_fr (ck_ex j l z c) = cg_fr c ∧ (∀ i, i < l → cg_tr (ck_ex j l z c) i = cg_tr c i) ∧ cB b (ck_ex j l z c) (fF b q (sq b j p))
  | 0, l, z, c, p, q, hl, hM, hg, hf, hz, ht, hL, hlt, hB => by
    have e : l = pb_nL b := by omega
    subst e
    have e1 : ck_ex 0 (pb_nL b) z c = ck_kp (cs_bc c z) (cg_nL c) := rfl
    rw [e1]
    refine ⟨ck_kp_keep (P := fun c => cg_gi c) (fun _ _ => rfl) _ _, ck_kp_keep (P := fun c => cg_fr c) (fun _ _ => rfl) _ _, fun i _ => congrFun (ck_kp_keep (P := fun c => cg_tr c) (fun _ _ => rfl) (cs_bc c z) (cg_nL c)) i, ?_⟩
    have e2 : fF b q (sq b 0 p) = (p, zT b p) := by
      show (if zT b p < q.2 then (p, zT b p) else q) = _
      rw [if_pos]
      have h1 := hB.1
      have h2 := hL.1
      show sZ b p (pb_nL b) < q.2
      omega
    rw [e2]
    refine ⟨?_, fun i hi => ?_⟩
    · rw [ck_kp_keep (P := fun c => cg_bc c) (fun _ _ => rfl)]
      exact hz
    · rw [kp_be, if_pos (by rw [hM.1]; exact hi), tr_bc]
      exact ht i hi
  | j + 1, l, z, c, p, q, hl, hM, hg, hf, hz, ht, hL, hlt, hB => by
    have hlL : l < pb_nL b := by omega
    have hbl := hb.1 l hlL
    have eac : (cg_ac c l).toNat = pb_ac b l := by rw [(hM.2.2 l hlL).1]; exact Int.toNat_natCast _
    have hr : ∀ j, j < pb_nT b → 0 ≤ sR b p l j := fun j hj => (sR_rg hb p l (by omega) j hj).1
    have key : ∀ s, s ≤ 2 ^ pb_ac b l → cg_gi (zf (ck_xb (ck_ex j (l + 1)) l z) c s) = cg_gi c ∧ cg_fr (zf (ck_xb (ck_ex j (l + 1)) l z) c s) = cg_fr c ∧ (∀ i, i < l → cg_tr (zf (ck_xb (ck_ex j (l + 1)) l z) c s) i = cg_tr c i) ∧ cB b (zf (ck_xb (ck_ex j (l + 1)) l z) c s) (fF b q (sqP b j l p s)) := by
      intro s
      induction s with
      | zero => exact fun _ => ⟨rfl, rfl, fun _ _ => rfl, hB⟩
      | succ s ih =>
        intro hs
        obtain ⟨i1, i2, i3, i4⟩ := ih (by omega)
        have eW : cW (zf (ck_xb (ck_ex j (l + 1)) l z) c s) = cW c := ck_xb_keep (P := cW) (fun _ _ _ _ => rfl) (fun _ _ => rfl) (fun _ _ => rfl) (fun _ _ => rfl) j l z c s
        have eRb : cg_rb (zf (ck_xb (ck_ex j (l + 1)) l z) c s) = cg_rb c := ck_xb_keep (P := fun c => cg_rb c) (fun _ _ _ _ => rfl) (fun _ _ => rfl) (fun _ _ => rfl) (fun _ _ => rfl) j l z c s
        have es : zf (ck_xb (ck_ex j (l + 1)) l z) c (s + 1) = ck_xb (ck_ex j (l + 1)) l z (zf (ck_xb (ck_ex j (l + 1)) l z) c s) s := rfl
        rw [es]
        generalize zf (ck_xb (ck_ex j (l + 1)) l z) c s = a at i1 i2 i3 i4 eW eRb ⊢
        generalize hq' : fF b q (sqP b j l p s) = q' at i4
        have hMa := cM_of hM eW
        rw [sqP_succ, fF_app, hq']
        unfold ck_xb
        rw [(hMa.2.2 l hlL).2.2.2.1]
        by_cases hp : pop s ≤ pb_fw b l
        · rw [if_pos hp, if_pos hp]
          have hMc := cM_of hMa (cW_tr a (zu (cg_tr a) l s))
          have hga : cg_gi a l = fun _ => 0 := by rw [i1]; exact hg l (Nat.le_refl _)
          obtain ⟨t1, t2, t3⟩ := take_row hb hMc hlL (by rw [gi_tr]; exact hga) s
          rw [fr_tr, i2, hf] at t1 t2 t3
          rw [gi_tr] at t1
          have hM2 : cM b (ck_take (cs_tr a (zu (cg_tr a) l s)) l s).1 := cM_of hMc (ck_take_keep (P := cW) (fun _ _ _ _ => rfl) _ l s)
          have k1 : cg_rb (ck_take (cs_tr a (zu (cg_tr a) l s)) l s).1 = cg_rb c := (ck_take_keep (P := fun c => cg_rb c) (fun _ _ _ _ => rfl) _ l s).trans eRb
          have k2 : cg_bc (ck_take (cs_tr a (zu (cg_tr a) l s)) l s).1 = cg_bc a := ck_take_keep (P := fun c => cg_bc c) (fun _ _ _ _ => rfl) _ l s
          have k3 : cg_be (ck_take (cs_tr a (zu (cg_tr a) l s)) l s).1 = cg_be a := ck_take_keep (P := fun c => cg_be c) (fun _ _ _ _ => rfl) _ l s
          have k4 : cg_tr (ck_take (cs_tr a (zu (cg_tr a) l s)) l s).1 = zu (cg_tr a) l s := ck_take_keep (P := fun c => cg_tr c) (fun _ _ _ _ => rfl) _ l s
          generalize ck_take (cs_tr a (zu (cg_tr a) l s)) l s = w at t1 t2 t3 hM2 k1 k2 k3 k4
          have hlc : ck_lc w.1 l = tC b l (sR b p l) s := lc_row hb hM2 hlL hr (by rw [t1, zr_s])
          obtain ⟨n1, n2⟩ := sR_zN (b := b) (p := p) (l := l) (s := s)
          -- whatever state is left behind, the line lets go
          have fin : ∀ (c3 : cS) (q3 : (Nat → Nat) × Int), cg_gi c3 = cg_gi w.1 → cg_fr c3 = cg_fr w.1 → (∀ i, i < l + 1 → cg_tr c3 i = cg_tr w.1 i) → cW c3 = cW w.1 → cB b c3 q3 → cg_gi (ck_letGo c3 l) = cg_gi c ∧ cg_fr (ck_letGo c3 l) = cg_fr c ∧ (∀ i, i < l → cg_tr (ck_letGo c3 l) i = cg_tr c i) ∧ cB b (ck_letGo c3 l) q3 := by
            intro c3 q3 f1 f2 f3 f4 f5
            have hM3 := cM_of hM2 f4
            obtain ⟨g1, g2⟩ := back_row (s := s) (r := sR b p l) (a := a) hbl (by rw [f1, t1]) (by rw [f2, t2]) hga hM3.2.1
            refine ⟨by rw [g1, i1], by rw [g2, hf], fun i hi => ?_, ?_⟩
            · rw [ck_letGo_keep (P := fun c => cg_tr c) (fun _ _ _ _ => rfl), f3 i (by omega), k4, zu_n (by omega)]
              exact i3 i hi
            · exact ⟨(ck_letGo_keep (P := fun c => cg_bc c) (fun _ _ _ _ => rfl) c3 l).trans f5.1, fun i hi => (congrFun (ck_letGo_keep (P := fun c => cg_be c) (fun _ _ _ _ => rfl) c3 l) i).trans (f5.2 i hi)⟩
          have hBw : cB b w.1 q' := ⟨k2.trans i4.1, fun i hi => (congrFun k3 i).trans (i4.2 i hi)⟩
          unfold ck_xa
          by_cases hv : w.2 = pop s
          · rw [if_pos hv, hlc]
            unfold ck_xh
            rw [k1, k2]
            by_cases hlt2 : z + tC b l (sR b p l) s + cg_rb c (l + 1) < cg_bc a
            · rw [if_pos hlt2]
              obtain ⟨x1, x2, x3, x4⟩ := ex_math hb j (l + 1) (z + tC b l (sR b p l) s) w.1 (zN p l s) q' (by omega) hM2 (fun i hi => by
                rw [t1, zr_n (by omega), i1]
                exact hg i (by omega)) (by rw [t2, n1]) (by rw [n2, hz]) (fun i hi => by
                rw [k4]
                by_cases e : i = l
                · subst e
                  rw [zu_s, zN_s]
                · rw [zu_n e, zN_n e, i3 i (by omega)]
                  exact ht i (by omega)) (by rw [k1]; exact hL) (by rw [k1, k2]; exact hlt2) hBw
              exact fin _ _ x1 x2 x3 (ck_ex_keep (P := cW) (fun _ _ _ _ => rfl) (fun _ _ => rfl) (fun _ _ => rfl) (fun _ _ => rfl) j (l + 1) _ _) x4
            · rw [if_neg hlt2]
              rw [fF_none b (sq b j (zN p l s)) q' (fun p' hp' => by
                have h1 := sq_low hb hL.1 hL.2 j (p := zN p l s) (l := l + 1) (by omega) p' hp'
                rw [n2] at h1
                have h2 := i4.1
                omega)]
              exact fin w.1 q' rfl rfl (fun _ _ => rfl) rfl hBw
          · rw [if_neg hv]
            rw [fF_none b (sq b j (zN p l s)) q' (fun p' hp' => by
              obtain ⟨s', u1, u2, u3, u4⟩ := tU hbl hr (s := s) (by omega) (by rw [← t3]; exact hv)
              obtain ⟨n3, n4⟩ := sR_zN (b := b) (p := p) (l := l) (s := s')
              obtain ⟨p'', v1, v2⟩ := sq_costs j (p := zN p l s) (p' := zN p l s') (l := l + 1) (by omega) (by rw [n1, n3, u3]) (by rw [n2, n4, u4]) p' hp'
              have hm : p'' ∈ sqP b j l p s := List.mem_flatMap.mpr ⟨s', List.mem_filter.mpr ⟨List.mem_range.mpr u1, by simp; omega⟩, v1⟩
              have h3 := (fF_le b (sqP b j l p s) q).2 p'' hm
              rw [hq'] at h3
              omega)]
            exact fin w.1 q' rfl rfl (fun _ _ => rfl) rfl hBw
        · rw [if_neg hp, if_neg hp]
          exact ⟨i1, i2, i3, i4⟩
    have h9 := key (2 ^ pb_ac b l) (Nat.le_refl _)
    rw [← sq_succ b j p hl] at h9
    have e9 : ck_ex (j + 1) l z c = zf (ck_xb (ck_ex j (l + 1)) l z) c (2 ^ (cg_ac c l).toNat) := rfl
    rw [e9, eac]
    exact h9
