/-! THE SEARCH, IN NUMBERS: what a line takes, and what that costs -/
/-- the allowed lots of a line, how many; wish, pallet, whole, few; costs; pieces; lines, lots -/
abbrev pB : Type := (Nat → Nat → Nat) × (Nat → Nat) × (Nat → Int) × (Nat → Int) × (Nat → Int) × (Nat → Int) × (Nat → Nat → Int) × (Nat → Int) × Nat × Nat
abbrev pb_al (b : pB) : Nat → Nat → Nat := b.1
abbrev pb_ac (b : pB) : Nat → Nat := b.2.1
abbrev pb_w (b : pB) : Nat → Int := b.2.2.1
abbrev pb_p (b : pB) : Nat → Int := b.2.2.2.1
abbrev pb_wh (b : pB) : Nat → Int := b.2.2.2.2.1
abbrev pb_fw (b : pB) : Nat → Int := b.2.2.2.2.2.1
abbrev pb_co (b : pB) : Nat → Nat → Int := b.2.2.2.2.2.2.1
abbrev pb_pc (b : pB) : Nat → Int := b.2.2.2.2.2.2.2.1
abbrev pb_nL (b : pB) : Nat := b.2.2.2.2.2.2.2.2.1
abbrev pb_nT (b : pB) : Nat := b.2.2.2.2.2.2.2.2.2
/-- taken at place k of a set, if st are still wanted -/
def tN (b : pB) (l : Nat) (r : Nat → Int) (s k : Nat) (st : Int) : Int := if s.testBit k = true then ck_rd (zn st (r (pb_al b l k))) (pb_p b l) else 0
def tW (b : pB) (l : Nat) (r : Nat → Int) (s : Nat) : Nat → Int
  | 0 => pb_w b l
  | k + 1 => tW b l r s k - tN b l r s k (tW b l r s k)
def tX (b : pB) (l : Nat) (r : Nat → Int) (s k : Nat) : Int := tN b l r s k (tW b l r s k)
def tG (b : pB) (l : Nat) (r : Nat → Int) (s K j : Nat) : Int := zs (fun k => if pb_al b l k = j then tX b l r s k else 0) K
abbrev tO (b : pB) (l : Nat) (r : Nat → Int) (s : Nat) : Prop := 0 < tW b l r s (pb_ac b l) ∧ pb_wh b l = 1
def tR (b : pB) (l : Nat) (r : Nat → Int) (s : Nat) : Nat → Int := if tO b l r s then fun _ => 0 else tG b l r s (pb_ac b l)
def tCk (b : pB) (l : Nat) (r : Nat → Int) (s K : Nat) : Int := zs (fun k => if tX b l r s k = 0 then 0 else tX b l r s k * pb_co b l (pb_al b l k) + 20) K
def tC (b : pB) (l : Nat) (r : Nat → Int) (s : Nat) : Int := if tO b l r s then 1000 * pb_w b l else tCk b l r s (pb_ac b l) + 1000 * tW b l r s (pb_ac b l)
def tV (b : pB) (l : Nat) (r : Nat → Int) (s : Nat) : Int := if tO b l r s then 0 else zs (fun k => zb (0 < tX b l r s k)) (pb_ac b l)
/-- a line's numbers are as they should be -/
def bL (b : pB) (l : Nat) : Prop := pb_ac b l ≤ 8 ∧ 0 ≤ pb_w b l ∧ (∀ k, k < pb_ac b l → pb_al b l k < pb_nT b) ∧ (∀ k k', k < pb_ac b l → k' < pb_ac b l → pb_al b l k = pb_al b l k' → k = k') ∧ ∀ j, j < pb_nT b → 0 ≤ pb_co b l j ∧ pb_co b l j ≤ 1000
section TT
variable {b : pB} {l : Nat} {r : Nat → Int} {s : Nat}
theorem tN_rg {k : Nat} {st : Int} (h1 : 0 ≤ st) (h2 : 0 ≤ r (pb_al b l k)) : 0 ≤ tN b l r s k st ∧ tN b l r s k st ≤ st ∧ tN b l r s k st ≤ r (pb_al b l k) := by
  unfold tN
  split
  · have hz : 0 ≤ zn st (r (pb_al b l k)) ∧ zn st (r (pb_al b l k)) ≤ st ∧ zn st (r (pb_al b l k)) ≤ r (pb_al b l k) := by
      unfold zn
      split <;> omega
    have := ck_rd_rg (p := pb_p b l) hz.1
    omega
  · omega
theorem tW_rg (hb : bL b l) (hr : ∀ j, j < pb_nT b → 0 ≤ r j) : ∀ k, k ≤ pb_ac b l → 0 ≤ tW b l r s k ∧ tW b l r s k ≤ pb_w b l
  | 0, _ => ⟨hb.2.1, Int.le_refl _⟩
  | k + 1, hk => by
    have h1 := tW_rg hb hr k (by omega)
    have h2 := tN_rg (b := b) (l := l) (r := r) (s := s) (k := k) h1.1 (hr _ (hb.2.2.1 k (by omega)))
    simp only [tW]
    omega
theorem tX_rg (hb : bL b l) (hr : ∀ j, j < pb_nT b → 0 ≤ r j) {k : Nat} (hk : k < pb_ac b l) : 0 ≤ tX b l r s k ∧ tX b l r s k ≤ tW b l r s k ∧ tX b l r s k ≤ r (pb_al b l k) := tN_rg (tW_rg hb hr k (by omega)).1 (hr _ (hb.2.2.1 k hk))
theorem tW_sum : ∀ k, tW b l r s k = pb_w b l - zs (tX b l r s) k
  | 0 => by simp [tW, zs]
  | k + 1 => by
    have h1 := tW_sum k
    simp only [tW, zs]
    have e : tX b l r s k = tN b l r s k (tW b l r s k) := rfl
    omega
theorem zs_zero {f : Nat → Int} : ∀ n, (∀ k, k < n → f k = 0) → zs f n = 0
  | 0, _ => rfl
  | n + 1, h => by
    simp only [zs]
    rw [zs_zero n (fun k hk => h k (by omega)), h n (by omega)]
    rfl
theorem tG_out {K j : Nat} (h : ∀ k, k < K → pb_al b l k ≠ j) : tG b l r s K j = 0 := zs_zero K (fun k hk => if_neg (h k hk))
theorem tG_far (hb : bL b l) {K k : Nat} (hK : K ≤ k) (hk : k < pb_ac b l) : tG b l r s K (pb_al b l k) = 0 := tG_out (fun i hi e => by
  have := hb.2.2.2.1 i k (by omega) hk e
  omega)
theorem tG_at (hb : bL b l) : ∀ {K k : Nat}, k < K → K ≤ pb_ac b l → tG b l r s K (pb_al b l k) = tX b l r s k
  | K + 1, k, h1, h2 => by
    show tG b l r s K (pb_al b l k) + (if pb_al b l K = pb_al b l k then tX b l r s K else 0) = tX b l r s k
    rcases Nat.lt_or_ge k K with q | q
    · rw [tG_at hb q (by omega), if_neg (fun e => by have := hb.2.2.2.1 K k (by omega) (by omega) e; omega)]
      omega
    · have e : k = K := by omega
      subst e
      rw [tG_far hb (Nat.le_refl _) (by omega), if_pos rfl]
      omega
theorem tG_rg (hb : bL b l) (hr : ∀ j, j < pb_nT b → 0 ≤ r j) {K : Nat} (hK : K ≤ pb_ac b l) {j : Nat} (hj : j < pb_nT b) : 0 ≤ tG b l r s K j ∧ tG b l r s K j ≤ r j := by
  by_cases h : ∃ k, k < K ∧ pb_al b l k = j
  · obtain ⟨k, h1, h2⟩ := h
    have h3 := tX_rg (s := s) hb hr (k := k) (by omega)
    subst h2
    rw [tG_at hb h1 hK]
    omega
  · rw [tG_out (fun k hk e => h ⟨k, hk, e⟩)]
    exact ⟨Int.le_refl _, hr j hj⟩
theorem tG_ge (hb : bL b l) {K j : Nat} (hK : K ≤ pb_ac b l) (hj : pb_nT b ≤ j) : tG b l r s K j = 0 := tG_out (fun k hk e => by
  have := hb.2.2.1 k (by omega)
  omega)
theorem tR_rg (hb : bL b l) (hr : ∀ j, j < pb_nT b → 0 ≤ r j) {j : Nat} (hj : j < pb_nT b) : 0 ≤ tR b l r s j ∧ tR b l r s j ≤ r j := by
  unfold tR
  split
  · exact ⟨Int.le_refl _, hr j hj⟩
  · exact tG_rg hb hr (Nat.le_refl _) hj
theorem tR_ge (hb : bL b l) {j : Nat} (hj : pb_nT b ≤ j) : tR b l r s j = 0 := by
  unfold tR
  split
  · rfl
  · exact tG_ge hb (Nat.le_refl _) hj
/-- a sum over the lots is one over the places -/
theorem zs_re (hb : bL b l) {φ : Nat → Int → Int} (h0 : ∀ j, φ j 0 = 0) : ∀ K, K ≤ pb_ac b l → zs (fun j => φ j (tG b l r s K j)) (pb_nT b) = zs (fun k => φ (pb_al b l k) (tX b l r s k)) K
  | 0, _ => zs_zero _ (fun j _ => h0 j)
  | K + 1, hK => by
    have ih := zs_re hb h0 K (by omega)
    have hl := hb.2.2.1 K (by omega)
    have hf := tG_far (r := r) (s := s) hb (Nat.le_refl K) (show K < pb_ac b l by omega)
    have e : zs (fun j => φ j (tG b l r s (K + 1) j)) (pb_nT b) = zs (fun j => if j = pb_al b l K then φ (pb_al b l K) (tX b l r s K) else φ j (tG b l r s K j)) (pb_nT b) := zs_congr _ (fun j hj => by
      show φ j (tG b l r s K j + (if pb_al b l K = j then tX b l r s K else 0)) = _
      by_cases e : j = pb_al b l K
      · subst e
        rw [if_pos rfl, if_pos rfl, hf, Int.zero_add]
      · rw [if_neg (fun q => e q.symm), if_neg e, Int.add_zero])
    rw [e, zs_upd (f := fun j => φ j (tG b l r s K j)) _ hl, ih, hf, h0]
    simp only [zs]
    omega
theorem zs_add {f g : Nat → Int} : ∀ n, zs (fun k => f k + g k) n = zs f n + zs g n
  | 0 => rfl
  | n + 1 => by
    simp only [zs, zs_add n]
    omega
theorem zs_mul {f : Nat → Int} (a : Int) : ∀ n, zs (fun k => a * f k) n = a * zs f n
  | 0 => by simp [zs]
  | n + 1 => by
    simp only [zs, zs_mul a n, Int.mul_add]
/-- what a line costs, counted over the lots -/
theorem tC_lots (hb : bL b l) (hr : ∀ j, j < pb_nT b → 0 ≤ r j) : 1000 * pb_w b l + zs (fun j => if 0 < tR b l r s j then 20 + tR b l r s j * (pb_co b l j - 1000) else 0) (pb_nT b) = tC b l r s := by
  unfold tR tC
  split
  · rw [zs_zero _ (fun k _ => if_neg (show ¬ (0 : Int) < 0 by omega))]
    omega
  · have e1 := zs_re (r := r) (s := s) (φ := fun j v => if 0 < v then 20 + v * (pb_co b l j - 1000) else 0) hb (fun j => if_neg (by omega)) (pb_ac b l) (Nat.le_refl _)
    rw [e1]
    have e2 : zs (fun k => if 0 < tX b l r s k then 20 + tX b l r s k * (pb_co b l (pb_al b l k) - 1000) else 0) (pb_ac b l) = zs (fun k => (if tX b l r s k = 0 then 0 else tX b l r s k * pb_co b l (pb_al b l k) + 20) + (-1000) * tX b l r s k) (pb_ac b l) := zs_congr _ (fun k hk => by
      have h1 := tX_rg (s := s) hb hr hk
      by_cases h : tX b l r s k = 0
      · rw [if_pos h, if_neg (by omega), h]
        rfl
      · rw [if_neg h, if_pos (by omega), Int.mul_sub]
        omega)
    rw [e2, zs_add, zs_mul, tW_sum]
    unfold tCk
    omega
theorem tCk_low (hb : bL b l) (hr : ∀ j, j < pb_nT b → 0 ≤ r j) : ∀ K, K ≤ pb_ac b l → ((∀ k, k < K → tX b l r s k = 0) ∧ tCk b l r s K = 0) ∨ ∃ k, k < K ∧ pb_co b l (pb_al b l k) * zs (tX b l r s) K + 20 ≤ tCk b l r s K
  | 0, _ => Or.inl ⟨fun k hk => by omega, rfl⟩
  | K + 1, hK => by
    have hx := tX_rg (s := s) hb hr (k := K) (by omega)
    have hc := hb.2.2.2.2 _ (hb.2.2.1 K (by omega))
    have hS := zs_nonneg (f := tX b l r s) K (fun k hk => (tX_rg hb hr (by omega)).1)
    have eC : tCk b l r s (K + 1) = tCk b l r s K + (if tX b l r s K = 0 then 0 else tX b l r s K * pb_co b l (pb_al b l K) + 20) := rfl
    have eS : zs (tX b l r s) (K + 1) = zs (tX b l r s) K + tX b l r s K := rfl
    rcases tCk_low hb hr K (by omega) with ⟨h1, h2⟩ | ⟨k, h1, h2⟩
    · by_cases h : tX b l r s K = 0
      · refine Or.inl ⟨fun k hk => ?_, by rw [eC, if_pos h, h2]; rfl⟩
        rcases Nat.lt_or_ge k K with q | q
        · exact h1 k q
        · have e : k = K := by omega
          subst e
          exact h
      · refine Or.inr ⟨K, by omega, ?_⟩
        rw [eC, eS, if_neg h, h2, zs_zero K h1, Int.mul_comm]
        simp
    · refine Or.inr ?_
      have hk := hb.2.2.2.2 _ (hb.2.2.1 k (by omega))
      by_cases h : tX b l r s K = 0
      · refine ⟨k, by omega, ?_⟩
        rw [eC, eS, if_pos h, h]
        simpa using h2
      · rw [eC, eS, if_neg h]
        by_cases hm : pb_co b l (pb_al b l K) ≤ pb_co b l (pb_al b l k)
        · refine ⟨K, by omega, ?_⟩
          have h5 := Int.mul_le_mul_of_nonneg_right hm hS
          rw [Int.mul_add, Int.mul_comm (tX b l r s K)]
          omega
        · refine ⟨k, by omega, ?_⟩
          have h5 := Int.mul_le_mul_of_nonneg_right (show pb_co b l (pb_al b l k) ≤ pb_co b l (pb_al b l K) by omega) hx.1
          rw [Int.mul_add, Int.mul_comm (tX b l r s K)]
          omega
/-- no line costs less than its bound -/
theorem tC_low (hb : bL b l) (hr : ∀ j, j < pb_nT b → 0 ≤ r j) {L : Int} (h1 : L ≤ 1000 * pb_w b l) (h2 : ∀ k, k < pb_ac b l → L ≤ pb_co b l (pb_al b l k) * pb_w b l + 20) : L ≤ tC b l r s := by
  unfold tC
  split
  · exact h1
  · have hw := tW_rg (s := s) hb hr (pb_ac b l) (Nat.le_refl _)
    have es := tW_sum (b := b) (l := l) (r := r) (s := s) (pb_ac b l)
    rcases tCk_low (s := s) hb hr (pb_ac b l) (Nat.le_refl _) with ⟨h3, h4⟩ | ⟨k, h3, h4⟩
    · rw [zs_zero _ h3] at es
      omega
    · have h5 := h2 k h3
      have hk := hb.2.2.2.2 _ (hb.2.2.1 k h3)
      have h6 := Int.mul_le_mul_of_nonneg_right hk.2 hw.1
      have e : pb_w b l = zs (tX b l r s) (pb_ac b l) + tW b l r s (pb_ac b l) := by omega
      rw [e, Int.mul_add] at h5
      omega
theorem tC_nonneg (hb : bL b l) (hr : ∀ j, j < pb_nT b → 0 ≤ r j) : 0 ≤ tC b l r s := by
  refine tC_low hb hr ?_ (fun k hk => ?_)
  · have := hb.2.1
    omega
  · have h1 := (hb.2.2.2.2 _ (hb.2.2.1 k hk)).1
    have := Int.mul_nonneg h1 hb.2.1
    omega
/-- the same amounts, the same of all -/
theorem tW_same {s' : Nat} : ∀ k, (∀ i, i < k → tX b l r s' i = tX b l r s i) → tW b l r s' k = tW b l r s k
  | k, h => by
    rw [tW_sum, tW_sum, zs_congr k h]
theorem tt_same {s' : Nat} (h : ∀ i, i < pb_ac b l → tX b l r s' i = tX b l r s i) : tR b l r s' = tR b l r s ∧ tC b l r s' = tC b l r s := by
  have e1 : tW b l r s' (pb_ac b l) = tW b l r s (pb_ac b l) := tW_same _ h
  have e2 : tG b l r s' (pb_ac b l) = tG b l r s (pb_ac b l) := by
    funext j
    exact zs_congr _ (fun k hk => by rw [h k hk])
  have e3 : tCk b l r s' (pb_ac b l) = tCk b l r s (pb_ac b l) := zs_congr _ (fun k hk => by rw [h k hk])
  unfold tR tC tO
  rw [e1, e2, e3]
  exact ⟨rfl, rfl⟩
end TT
set_option maxRecDepth 100000 in
theorem bit_all : ∀ s : Fin 256, ∀ k : Fin 8, (s : Nat).testBit k = true → ((s : Nat) - 2 ^ (k : Nat) < (s : Nat)) ∧ pop ((s : Nat) - 2 ^ (k : Nat)) ≤ pop (s : Nat) ∧ ∀ i : Fin 8, ((s : Nat) - 2 ^ (k : Nat)).testBit i = ((s : Nat).testBit i && decide ((i : Nat) ≠ (k : Nat))) := by decide +kernel
set_option maxRecDepth 100000 in
theorem pop_zero : ∀ s : Fin 256, pop (s : Nat) = 0 → (s : Nat) = 0 := by decide +kernel
