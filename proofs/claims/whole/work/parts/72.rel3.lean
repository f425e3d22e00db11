/-! new lots, lines that let go, changes of stock -/
/-- k put in at p, the rest up to i moved on -/
def oI (od : Nat → Int) (p i k : Nat) : Nat → Int := fun j => if j < p then od j else if j = p then (k : Int) else if j ≤ i then od (j - 1) else od j
theorem oI_lt {od : Nat → Int} {p i k j : Nat} (h : j < p) : oI od p i k j = od j := if_pos h
theorem oI_at {od : Nat → Int} {p i k : Nat} : oI od p i k p = (k : Int) := (if_neg (Nat.lt_irrefl p)).trans (if_pos rfl)
theorem oI_mid {od : Nat → Int} {p i k j : Nat} (h1 : p < j) (h2 : j ≤ i) : oI od p i k j = od (j - 1) := (if_neg (by omega)).trans ((if_neg (by omega)).trans (if_pos h2))
theorem oI_hi {od : Nat → Int} {p i k j : Nat} (h1 : p < j) (h2 : ¬ j ≤ i) : oI od p i k j = od j := (if_neg (by omega)).trans ((if_neg (by omega)).trans (if_neg h2))
theorem od_od (c : cS) (v w : Nat → Int) : cs_od (cs_od c v) w = cs_od c w := rfl
theorem pt_spec (k : Nat) : ∀ (i : Nat) (c : cS), ∃ p, p ≤ i ∧ ck_pt k i c = cs_od c (oI (cg_od c) p i k) ∧ (∀ j, p ≤ j → j < i → ck_bf c k (cg_od c j).toNat) ∧ (0 < p → ¬ ck_bf c k (cg_od c (p - 1)).toNat)
  | 0, c => by
    refine ⟨0, Nat.le_refl _, ?_, fun j h1 h2 => by omega, fun h => by omega⟩
    have e : zu (cg_od c) 0 k = oI (cg_od c) 0 0 k := by
      funext j
      by_cases q : j = 0
      · subst q
        rw [zu_s, oI_at]
      · rw [zu_n q, oI_hi (by omega) (by omega)]
    show cs_od c (zu (cg_od c) 0 k) = _
    rw [e]
  | i + 1, c => by
    by_cases q : ck_bf c k (cg_od c i).toNat
    · obtain ⟨p, h1, h2, h3, h4⟩ := pt_spec k i (cs_od c (zu (cg_od c) (i + 1) (cg_od c i)))
      have g : ∀ v : Nat → Int, cg_od (cs_od c v) = v := fun _ => rfl
      refine ⟨p, by omega, ?_, fun j a1 a2 => ?_, fun a => ?_⟩
      · have e0 : ck_pt k (i + 1) c = ck_pt k i (cs_od c (zu (cg_od c) (i + 1) (cg_od c i))) := if_pos q
        rw [e0, h2, od_od, g]
        have e : oI (zu (cg_od c) (i + 1) (cg_od c i)) p i k = oI (cg_od c) p (i + 1) k := by
          funext j
          rcases Nat.lt_trichotomy j p with w | w | w
          · rw [oI_lt w, oI_lt w, zu_n (by omega)]
          · subst w
            rw [oI_at, oI_at]
          · by_cases w2 : j ≤ i
            · rw [oI_mid w w2, oI_mid w (by omega), zu_n (by omega)]
            · by_cases w3 : j = i + 1
              · subst w3
                rw [oI_hi w w2, oI_mid w (Nat.le_refl _), zu_s, Nat.add_sub_cancel]
              · rw [oI_hi w w2, oI_hi w (by omega), zu_n w3]
        rw [e]
      · by_cases w : j = i
        · subst w
          exact q
        · have this : ck_bf c k (zu (cg_od c) (i + 1) (cg_od c i) j).toNat := h3 j a1 (by omega)
          rw [zu_n (by omega)] at this
          exact this
      · have this : ¬ ck_bf c k (zu (cg_od c) (i + 1) (cg_od c i) (p - 1)).toNat := h4 a
        rw [zu_n (by omega)] at this
        exact this
    · refine ⟨i + 1, Nat.le_refl _, ?_, fun j h1 h2 => by omega, fun _ => ?_⟩
      · have e0 : ck_pt k (i + 1) c = cs_od c (zu (cg_od c) (i + 1) k) := if_neg q
        rw [e0]
        have e : zu (cg_od c) (i + 1) k = oI (cg_od c) (i + 1) (i + 1) k := by
          funext j
          rcases Nat.lt_trichotomy j (i + 1) with w | w | w
          · rw [oI_lt w, zu_n (by omega)]
          · subst w
            rw [oI_at, zu_s]
          · rw [oI_hi w (by omega), zu_n (by omega)]
        rw [e]
      · rw [Nat.add_sub_cancel]
        exact q
theorem zs_ins {F G : Nat → Int} {p : Nat} {v : Int} : ∀ i, p ≤ i → (∀ j, j < p → G j = F j) → G p = v → (∀ j, p < j → j ≤ i → G j = F (j - 1)) → zs G (i + 1) = zs F i + v
  | 0, hp, h1, h2, h3 => by
    have e : p = 0 := by omega
    subst e
    simp only [zs, h2]
  | i + 1, hp, h1, h2, h3 => by
    by_cases e : p = i + 1
    · subst e
      have e1 : zs G (i + 1 + 1) = zs G (i + 1) + G (i + 1) := rfl
      rw [e1, h2, zs_congr (i + 1) h1]
    · have e1 : zs G (i + 1 + 1) = zs G (i + 1) + G (i + 1) := rfl
      have e2 : zs F (i + 1) = zs F i + F i := rfl
      rw [e1, e2, zs_ins i (by omega) h1 h2 (fun j a1 a2 => h3 j a1 (by omega)), h3 (i + 1) (by omega) (Nat.le_refl _), Nat.add_sub_cancel]
      omega
theorem cOd_ins {m m' : mS} {n p : Nat} {od : Nat → Int} (h : cOd m n od) (hp : p ≤ n) (hu : ∀ j, j ≠ n → mg_un m' j = mg_un m j) (hl : ∀ j, j ≠ n → mg_pl m' j = mg_pl m j) (h1 : ∀ j, p ≤ j → j < n → mk_bf m' n (od j).toNat) (h2 : 0 < p → mk_bf m' (od (p - 1)).toNat n) : cOd m' (n + 1) (oI od p n n) := by
  have hr := h.1
  have hb : ∀ i j, i < j → j < n → mk_bf m' (od i).toNat (od j).toNat := fun i j hi hj => by
    have r1 := hr i (by omega)
    have r2 := hr j hj
    have := h.2.1 i j hi hj
    unfold mk_bf at this ⊢
    rw [hu _ (by omega), hu _ (by omega), hl _ (by omega), hl _ (by omega)]
    exact this
  refine ⟨fun i hi => ?_, fun i j hi hj => ?_, fun f => ?_⟩
  · rcases Nat.lt_trichotomy i p with w | w | w
    · rw [oI_lt w]
      have := hr i (by omega)
      omega
    · subst w
      rw [oI_at]
      omega
    · rw [oI_mid w (by omega)]
      have := hr (i - 1) (by omega)
      omega
  · rcases Nat.lt_trichotomy i p with w | w | w
    · rw [oI_lt w]
      rcases Nat.lt_trichotomy j p with v | v | v
      · rw [oI_lt v]
        exact hb i j hi (by omega)
      · subst v
        rw [oI_at, Int.toNat_natCast]
        by_cases e : i = j - 1
        · subst e
          exact h2 (by omega)
        · exact bf_trans (hb i (j - 1) (by omega) (by omega)) (h2 (by omega))
      · rw [oI_mid v (by omega)]
        exact hb i (j - 1) (by omega) (by omega)
    · subst w
      rw [oI_at, oI_mid hi (by omega), Int.toNat_natCast]
      exact h1 (j - 1) (by omega) (by omega)
    · rw [oI_mid w (by omega), oI_mid (by omega) (by omega)]
      exact hb (i - 1) (j - 1) (by omega) (by omega)
  · have e : zs (fun i => f (oI od p n n i).toNat) (n + 1) = zs (fun i => f (od i).toNat) n + f n := zs_ins n hp (fun j hj => by
        show f (oI od p n n j).toNat = f (od j).toNat
        rw [oI_lt hj]) (by
        show f (oI od p n n p).toNat = f n
        rw [oI_at, Int.toNat_natCast]) (fun j a1 a2 => by
        show f (oI od p n n j).toNat = f (od (j - 1)).toNat
        rw [oI_mid a1 a2])
    rw [e, ← h.2.2 f]
    rfl
theorem rel_lot {c : cS} {m : mS} (h : rel c m) {p g z u : Int} (hT : cg_nT c < 8) (hp : 0 ≤ p ∧ p ≤ 99) (hg : 0 ≤ g ∧ g ≤ 5) (hz : 0 ≤ z ∧ z ≤ 500) (hu : 0 ≤ u ∧ u ≤ 9999) : rel (ck_addT c p g z u) (mk_addT m p g z u) := by
  obtain ⟨q, q1, q2, q3, q4⟩ := pt_spec (cg_nT c) (cg_nT c) (ck_nw c p g z u)
  have e0 : ck_addT c p g z u = cs_nT (cs_od (ck_nw c p g z u) (oI (cg_od c) q (cg_nT c) (cg_nT c))) (cg_nT c + 1) := by
    unfold ck_addT
    rw [q2]
    rfl
  rw [e0]
  have hK := h.cK
  have hL := hK.nn.2
  have hr := h.od.1
  have hm : ∀ k, cg_un (ck_nw c p g z u) k = zu (cg_un c) (cg_nT c) u k := fun _ => rfl
  have hm2 : ∀ k, cg_pl (ck_nw c p g z u) k = zu (cg_pl c) (cg_nT c) p k := fun _ => rfl
  have hm3 : cg_od (ck_nw c p g z u) = cg_od c := rfl
  have e1 : mg_un (mk_addT m p g z u) = zu (cg_un c) (cg_nT c) u := by
    show zu (mg_un m) (mg_nT m) u = _
    rw [h.un, h.nT]
  have e2 : mg_pl (mk_addT m p g z u) = zu (cg_pl c) (cg_nT c) p := by
    show zu (mg_pl m) (mg_nT m) p = _
    rw [h.pl, h.nT]
  have e3 : mg_gd (mk_addT m p g z u) = zu (cg_gd c) (cg_nT c) g := by
    show zu (mg_gd m) (mg_nT m) g = _
    rw [h.gd, h.nT]
  have e4 : mg_pc (mk_addT m p g z u) = zu (cg_pc c) (cg_nT c) z := by
    show zu (mg_pc m) (mg_nT m) z = _
    rw [h.pc, h.nT]
  have hz0 : ∀ n, zs (fun l => cg_gi c l (cg_nT c)) n = 0 := fun n => zs_zero n (fun l hl => h.g0 (Or.inr (Nat.le_refl _)))
  rw [hm3] at q3 q4
  have hod : cOd (mk_addT m p g z u) (cg_nT c + 1) (oI (cg_od c) q (cg_nT c) (cg_nT c)) := by
    refine cOd_ins h.od q1 (fun j hj => by rw [e1, zu_n hj, h.un]) (fun j hj => by rw [e2, zu_n hj, h.pl]) (fun j a1 a2 => ?_) (fun a => ?_)
    · have w := q3 j a1 a2
      unfold ck_bf at w
      unfold mk_bf
      rw [e1, e2]
      rw [hm, hm, hm2, hm2] at w
      omega
    · have w := q4 a
      have r := hr (q - 1) (by omega)
      unfold ck_bf at w
      unfold mk_bf
      rw [e1, e2]
      rw [hm, hm, hm2, hm2] at w
      omega
  refine ⟨⟨?_, ?_, h.cA, h.mA, h.mE⟩, ⟨?_, h.nL, e2, e3, e1, e4, h.wi, h.ma⟩, h.2.2.1, h.2.2.2.1, h.2.2.2.2.1, h.2.2.2.2.2.1, fun l k hh => ?_, fun k => ?_, hod, h.ex, h.2.2.2.2.2.2.2.2.2.2⟩
  · refine ⟨⟨by show cg_nT c + 1 ≤ 8; omega, hL⟩, fun k hk => ?_, hK.2.2⟩
    obtain ⟨a1, a2, a3, a4⟩ := hK.2.1 k hk
    have b1 := hK.2.1 (k - 1) (by omega)
    refine ⟨?_, ?_, ?_, ?_⟩
    · show 0 ≤ zu (cg_pl c) (cg_nT c) p k ∧ zu (cg_pl c) (cg_nT c) p k ≤ 99
      by_cases w : k = cg_nT c
      · rw [w, zu_s]; exact hp
      · rw [zu_n w]; exact a1
    · show 0 ≤ zu (cg_gd c) (cg_nT c) g k ∧ zu (cg_gd c) (cg_nT c) g k ≤ 5
      by_cases w : k = cg_nT c
      · rw [w, zu_s]; exact hg
      · rw [zu_n w]; exact a2
    · show 0 ≤ zu (cg_un c) (cg_nT c) u k ∧ zu (cg_un c) (cg_nT c) u k ≤ 9999
      by_cases w : k = cg_nT c
      · rw [w, zu_s]; exact hu
      · rw [zu_n w]; exact a3
    · show 0 ≤ oI (cg_od c) q (cg_nT c) (cg_nT c) k ∧ oI (cg_od c) q (cg_nT c) (cg_nT c) k ≤ 7
      unfold oI
      split
      · exact a4
      split
      · omega
      split
      · exact b1.2.2.2
      · exact a4
  · refine ⟨⟨h.cP.1.1, fun k hk => ?_⟩, fun k hk => ?_⟩
    · have a := h.cP.1.2 k hk
      show (zu (cg_fr c) (cg_nT c) z k + zs (fun l => cg_gi c l k) 6 = zu (cg_pc c) (cg_nT c) z k) ∧ 0 ≤ zu (cg_pc c) (cg_nT c) z k ∧ zu (cg_pc c) (cg_nT c) z k ≤ 500
      by_cases w : k = cg_nT c
      · subst w
        rw [zu_s, zu_s, hz0]
        omega
      · rw [zu_n w, zu_n w]
        exact a
    · show 0 ≤ zu (cg_fr c) (cg_nT c) z k
      by_cases w : k = cg_nT c
      · rw [w, zu_s]; exact hz.1
      · rw [zu_n w]; exact h.cP.2 k hk
  · show mg_nT m + 1 = cg_nT c + 1
    rw [h.nT]
  · refine h.g0 (l := l) (k := k) ?_
    rcases hh with a | a
    · exact Or.inl a
    · exact Or.inr (Nat.le_of_succ_le a)
  · show zu (cg_fr c) (cg_nT c) z k = zu (cg_pc c) (cg_nT c) z k - zs (fun l => cg_gi c l k) (cg_nL c)
    by_cases w : k = cg_nT c
    · subst w
      rw [zu_s, zu_s, hz0]
      omega
    · rw [zu_n w, zu_n w]
      exact h.fr k
