/-! the class's plan, in numbers -/
theorem clear_rows {c : cS} (h : ∀ l j, cg_nL c ≤ l ∨ cg_nT c ≤ j → cg_gi c l j = 0) : cg_gi (ck_clear c) = (fun _ _ => 0) ∧ cg_fr (ck_clear c) = fun j => cg_fr c j + zs (fun l => cg_gi c l j) (cg_nL c) := by
  have key : ∀ n, cg_gi (zf (fun c l => ck_letGo c l) c n) = (fun l => if l < n then fun _ => 0 else cg_gi c l) ∧ cg_fr (zf (fun c l => ck_letGo c l) c n) = fun j => cg_fr c j + zs (fun l => cg_gi c l j) n := by
    intro n
    induction n with
    | zero => exact ⟨by funext l; show cg_gi c l = _; rw [if_neg (Nat.not_lt_zero _)], by funext j; show cg_fr c j = cg_fr c j + 0; omega⟩
    | succ n ih =>
      have e : ∀ g : cS → Nat → cS, zf g c (n + 1) = g (zf g c n) n := fun _ => rfl
      have hT : cg_nT (zf (fun c l => ck_letGo c l) c n) = cg_nT c := zf_keep (g := fun c l => ck_letGo c l) (P := fun c : cS => cg_nT c) (fun a k => ck_letGo_nT a k) c n
      rw [e]
      have hg : cg_gi (zf (fun c l => ck_letGo c l) c n) n = cg_gi c n := by rw [ih.1]; exact if_neg (Nat.lt_irrefl n)
      obtain ⟨r1, r2⟩ := letGo_row (c := zf (fun c l => ck_letGo c l) c n) (l := n) (fun j hj => by
        rw [hg]
        rw [hT] at hj
        exact h n j (Or.inr hj))
      refine ⟨?_, ?_⟩
      · refine r1.trans ?_
        rw [ih.1]
        funext l
        by_cases w : l = n
        · subst w
          rw [zr_s, if_pos (Nat.lt_succ_self _)]
        · rw [zr_n w]
          by_cases v : l < n
          · rw [if_pos v, if_pos (by omega)]
          · rw [if_neg v, if_neg (by omega)]
      · refine r2.trans ?_
        rw [hg, ih.2]
        funext j
        show cg_fr c j + zs (fun l => cg_gi c l j) n + cg_gi c n j = cg_fr c j + (zs (fun l => cg_gi c l j) n + cg_gi c n j)
        omega
  obtain ⟨k1, k2⟩ := key (cg_nL c)
  refine ⟨k1.trans ?_, k2⟩
  funext l
  by_cases w : l < cg_nL c
  · rw [if_pos w]
  · rw [if_neg w]
    funext j
    exact h l j (Or.inl (by omega))
/-- what is given, line by line -/
def gR (b : pB) (se : Nat → Nat) (n : Nat) : Nat → Nat → Int := fun l => if l < n then tR b l (sR b se l) (se l) else fun _ => 0
theorem gR_lt {b : pB} {se : Nat → Nat} {n l : Nat} (h : l < n) : gR b se n l = tR b l (sR b se l) (se l) := if_pos h
theorem gR_ge {b : pB} {se : Nat → Nat} {n l : Nat} (h : ¬ l < n) : gR b se n l = fun _ => 0 := if_neg h
theorem seq_rows {b : pB} (hb : bOK b) {c : cS} (hM : cM b c) (hg : cg_gi c = fun _ _ => 0) (hf : cg_fr c = pb_pc b) {se : Nat → Nat} {S : cS → Nat → Nat} (hS : ∀ a l, l < pb_nL b → cW a = cW c → cg_be a = cg_be c → S a l = se l) : ∀ n, n ≤ pb_nL b → cg_gi (zf (fun a l => (ck_take a l (S a l)).1) c n) = gR b se n ∧ cg_fr (zf (fun a l => (ck_take a l (S a l)).1) c n) = sR b se n
  | 0, _ => ⟨hg.trans (by funext l; exact (gR_ge (Nat.not_lt_zero _)).symm), hf⟩
  | n + 1, hn => by
    obtain ⟨h1, h2⟩ := seq_rows hb hM hg hf hS n (by omega)
    have e : ∀ g : cS → Nat → cS, zf g c (n + 1) = g (zf g c n) n := fun _ => rfl
    have hW : cW (zf (fun a l => (ck_take a l (S a l)).1) c n) = cW c := zf_keep (g := fun a l => (ck_take a l (S a l)).1) (P := cW) (fun a l => ck_take_keep (P := cW) (fun _ _ _ _ => rfl) a l _) c n
    have hbe : cg_be (zf (fun a l => (ck_take a l (S a l)).1) c n) = cg_be c := zf_keep (g := fun a l => (ck_take a l (S a l)).1) (P := fun c : cS => cg_be c) (fun a l => ck_take_keep (P := fun c : cS => cg_be c) (fun _ _ _ _ => rfl) a l _) c n
    rw [e]
    have hs := hS _ n (by omega) hW hbe
    generalize zf (fun a l => (ck_take a l (S a l)).1) c n = a at h1 h2 hW hs ⊢
    show cg_gi (ck_take a n (S a n)).1 = _ ∧ cg_fr (ck_take a n (S a n)).1 = _
    rw [hs]
    obtain ⟨t1, t2, t3⟩ := take_row hb (cM_of hM hW) (l := n) (by omega) (by rw [h1, gR_ge (Nat.lt_irrefl _)]) (se n)
    refine ⟨?_, ?_⟩
    · rw [t1, h1, h2]
      funext l
      by_cases w : l = n
      · subst w
        rw [zr_s, gR_lt (Nat.lt_succ_self _)]
      · rw [zr_n w]
        by_cases v : l < n
        · rw [gR_lt v, gR_lt (by omega)]
        · rw [gR_ge v, gR_ge (by omega)]
    · rw [t2, h2]
      rfl
theorem tot_rows {b : pB} (hb : bOK b) {c : cS} (hM : cM b c) {se : Nat → Nat} (hg : cg_gi c = gR b se (pb_nL b)) : ck_tot c = sZ b se (pb_nL b) := by
  have key : ∀ n, n ≤ pb_nL b → zs (ck_lc c) n = sZ b se n := by
    intro n
    induction n with
    | zero => intro _; rfl
    | succ n ih =>
      intro hn
      have e1 : zs (ck_lc c) (n + 1) = zs (ck_lc c) n + ck_lc c n := rfl
      have e2 : sZ b se (n + 1) = sZ b se n + tC b n (sR b se n) (se n) := rfl
      rw [e1, e2, ih (by omega), lc_row hb hM (l := n) (by omega) (fun j hj => (sR_rg hb se n (by omega) j hj).1) (by rw [hg, gR_lt (by omega)])]
  unfold ck_tot
  rw [hM.1]
  exact key _ (Nat.le_refl _)
/-- the plan by rule is one of those looked at -/
theorem pop_rule : ∀ n : Fin 9, pop (2 ^ (n : Nat) - 1) ≤ ((n : Nat) : Int) := by decide +kernel
def rS (b : pB) (l : Nat) : Nat := 2 ^ (zn (pb_fw b l) (pb_ac b l : Int)).toNat - 1
theorem rS_ok {b : pB} (hb : bOK b) {l : Nat} (hl : l < pb_nL b) (hf : 0 ≤ pb_fw b l) : rS b l < 2 ^ pb_ac b l ∧ pop (rS b l) ≤ pb_fw b l := by
  have h8 := (hb.1 l hl).1
  have hz : 0 ≤ zn (pb_fw b l) (pb_ac b l : Int) ∧ zn (pb_fw b l) (pb_ac b l : Int) ≤ pb_fw b l ∧ zn (pb_fw b l) (pb_ac b l : Int) ≤ (pb_ac b l : Int) := by
    unfold zn
    split <;> omega
  unfold rS
  generalize zn (pb_fw b l) (pb_ac b l : Int) = v at hz ⊢
  have h1 : 2 ^ v.toNat ≤ 2 ^ pb_ac b l := Nat.pow_le_pow_right (by decide) (by omega)
  have h2 := Nat.two_pow_pos v.toNat
  refine ⟨by omega, ?_⟩
  have h3 := pop_rule ⟨v.toNat, by omega⟩
  simp only at h3
  omega
theorem sq_mem {b : pB} : ∀ (j : Nat) {l : Nat} {p q : Nat → Nat}, l + j = pb_nL b → (∀ i, ¬ (l ≤ i ∧ i < pb_nL b) → q i = p i) → (∀ i, l ≤ i → i < pb_nL b → q i < 2 ^ pb_ac b i ∧ pop (q i) ≤ pb_fw b i) → q ∈ sq b j p
  | 0, l, p, q, hl, h1, h2 => by
    have e : q = p := funext fun i => h1 i (by omega)
    rw [e]
    exact List.mem_singleton.mpr rfl
  | j + 1, l, p, q, hl, h1, h2 => by
    rw [sq_succ b j p hl]
    unfold sqP
    have h3 := h2 l (Nat.le_refl _) (by omega)
    refine List.mem_flatMap.mpr ⟨q l, ?_, sq_mem j (l := l + 1) (by omega) (fun i hi => ?_) (fun i a1 a2 => h2 i (by omega) a2)⟩
    · unfold cnd
      exact List.mem_filter.mpr ⟨List.mem_range.mpr h3.1, decide_eq_true h3.2⟩
    · by_cases w : i = l
      · rw [w, zN_s]
      · rw [zN_n w]
        exact h1 i (by omega)
theorem rule_mem {b : pB} (hb : bOK b) (hf : ∀ l, l < pb_nL b → 0 ≤ pb_fw b l) : ∃ q, q ∈ sq b (pb_nL b) (fun _ => 0) ∧ zT b q = sZ b (rS b) (pb_nL b) := by
  refine ⟨fun i => if i < pb_nL b then rS b i else 0, sq_mem _ (Nat.zero_add _) (fun i hi => if_neg (by omega)) (fun i _ hi => ?_), ?_⟩
  · simp only [if_pos hi]
    exact rS_ok hb hi (hf i hi)
  · exact (sR_congr (b := b) (pb_nL b) (fun i hi => by simp only [if_pos hi])).2
/-- the bounds -/
theorem lb_low (c : cS) (l : Nat) : ∀ n, ck_lb c l n ≤ 1000 * cg_lw c l ∧ ∀ k, k < n → ck_all c l k → ck_lb c l n ≤ ck_cost c l k * cg_lw c l + 20
  | 0 => ⟨by simp only [ck_lb]; omega, fun k hk => absurd hk (Nat.not_lt_zero _)⟩
  | n + 1 => by
    obtain ⟨h1, h2⟩ := lb_low c l n
    have e : ck_lb c l (n + 1) = if ck_all c l n then zn (ck_lb c l n) (ck_cost c l n * cg_lw c l + 20) else ck_lb c l n := rfl
    have hz : ∀ a b, zn a b ≤ a ∧ zn a b ≤ b := fun a b => by
      unfold zn
      split <;> omega
    rw [e]
    by_cases q : ck_all c l n
    · rw [if_pos q]
      have h3 := hz (ck_lb c l n) (ck_cost c l n * cg_lw c l + 20)
      refine ⟨by omega, fun k hk hk2 => ?_⟩
      by_cases w : k = n
      · subst w
        exact h3.2
      · have := h2 k (by omega) hk2
        omega
    · rw [if_neg q]
      refine ⟨h1, fun k hk hk2 => ?_⟩
      by_cases w : k = n
      · subst w
        exact absurd hk2 q
      · exact h2 k (by omega) hk2
