/-! sets that give nothing of a lot; rows of sets, and the least of them -/
theorem tX_nobit {b : pB} {l : Nat} {r : Nat → Int} {s k : Nat} (h : ¬ s.testBit k = true) : tX b l r s k = 0 := if_neg h
theorem tW_zero {b : pB} {l : Nat} {r : Nat → Int} {s : Nat} (h : ∀ k, s.testBit k = false) : ∀ k, tW b l r s k = pb_w b l
  | 0 => rfl
  | k + 1 => by
    simp only [tW, tW_zero h k, tN]
    rw [if_neg (by rw [h k]; decide)]
    omega
/-- a set of which a lot gives nothing: a lesser one does the same -/
theorem tU {b : pB} {l : Nat} {r : Nat → Int} {s : Nat} (hb : bL b l) (hr : ∀ j, j < pb_nT b → 0 ≤ r j) (hs : s < 2 ^ pb_ac b l) (h : tV b l r s ≠ pop s) : ∃ s', s' < s ∧ pop s' ≤ pop s ∧ tR b l r s' = tR b l r s ∧ tC b l r s' = tC b l r s := by
  have hac := hb.1
  have h256 : s < 256 := Nat.lt_of_lt_of_le hs (Nat.pow_le_pow_right (n := 2) (by decide) hac)
  by_cases ho : tO b l r s
  · have hV : tV b l r s = 0 := if_pos ho
    have h0 : s ≠ 0 := fun e => h (by rw [hV, e]; decide)
    have hw := tW_rg (s := s) hb hr (pb_ac b l) (Nat.le_refl _)
    have ho' : tO b l r 0 := ⟨by
      have := ho.1
      rw [tW_zero (by simp)]
      omega, ho.2⟩
    refine ⟨0, by omega, ?_, ?_, ?_⟩
    · have := (pop_rg s).1
      have e : pop 0 = 0 := by decide
      omega
    · unfold tR
      rw [if_pos ho, if_pos ho']
    · unfold tC
      rw [if_pos ho, if_pos ho']
  · have hV : tV b l r s = zs (fun k => zb (0 < tX b l r s k)) (pb_ac b l) := if_neg ho
    have hx : ∃ k, k < pb_ac b l ∧ s.testBit k = true ∧ tX b l r s k = 0 := by
      refine Decidable.byContradiction fun hn => h ?_
      have hall : ∀ k, k < pb_ac b l → zb (0 < tX b l r s k) = zb (s.testBit k = true) := fun k hk => by
        have h1 := tX_rg (s := s) hb hr hk
        by_cases hbit : s.testBit k = true
        · have h2 : tX b l r s k ≠ 0 := fun e => hn ⟨k, hk, hbit, e⟩
          unfold zb
          rw [if_pos (by omega), if_pos hbit]
        · rw [tX_nobit hbit]
          unfold zb
          rw [if_neg (by omega), if_neg hbit]
      rw [hV, zs_congr _ hall]
      have hhi : ∀ d, pb_ac b l + d ≤ 8 → zs (fun k => zb (s.testBit k = true)) (pb_ac b l + d) = zs (fun k => zb (s.testBit k = true)) (pb_ac b l) := by
        intro d
        induction d with
        | zero => intro _; rfl
        | succ d ih =>
          intro hd
          have e1 : zs (fun k => zb (s.testBit k = true)) (pb_ac b l + (d + 1)) = zs (fun k => zb (s.testBit k = true)) (pb_ac b l + d) + zb (s.testBit (pb_ac b l + d) = true) := rfl
          have e2 : s.testBit (pb_ac b l + d) = false := Nat.testBit_lt_two_pow (Nat.lt_of_lt_of_le hs (Nat.pow_le_pow_right (by decide) (by omega)))
          rw [e1, ih (by omega), e2]
          simp [zb]
      have h8 := hhi (8 - pb_ac b l) (by omega)
      rw [show pb_ac b l + (8 - pb_ac b l) = 8 by omega] at h8
      exact h8.symm
    obtain ⟨k, hk, hbit, hz⟩ := hx
    obtain ⟨a1, a2, a3⟩ := bit_all ⟨s, h256⟩ ⟨k, by omega⟩ hbit
    have hsame : ∀ i, i ≤ pb_ac b l → ∀ j, j < i → tX b l r (s - 2 ^ k) j = tX b l r s j := by
      intro i
      induction i with
      | zero => intro _ j hj; omega
      | succ i ih =>
        intro hi j hj
        rcases Nat.lt_or_ge j i with q | q
        · exact ih (by omega) j q
        · have e : j = i := by omega
          subst e
          have ew := tW_same (b := b) (l := l) (r := r) (s := s) (s' := s - 2 ^ k) j (ih (by omega))
          have eb := a3 ⟨j, by omega⟩
          simp only at eb
          by_cases ejk : j = k
          · subst ejk
            rw [hz]
            exact tX_nobit (by rw [eb]; simp)
          · show tN b l r (s - 2 ^ k) j (tW b l r (s - 2 ^ k) j) = tN b l r s j (tW b l r s j)
            rw [ew]
            unfold tN
            rw [eb]
            simp [ejk]
    have e := tt_same (b := b) (l := l) (r := r) (s := s) (s' := s - 2 ^ k) (fun i hi => hsame (pb_ac b l) (Nat.le_refl _) i hi)
    exact ⟨s - 2 ^ k, a1, a2, e.1, e.2⟩
/-- what is left before a line, and what was spent: by the sets of the lines before -/
def sR (b : pB) (se : Nat → Nat) : Nat → Nat → Int
  | 0 => pb_pc b
  | y + 1 => fun j => sR b se y j - tR b y (sR b se y) (se y) j
def sZ (b : pB) (se : Nat → Nat) : Nat → Int
  | 0 => 0
  | y + 1 => sZ b se y + tC b y (sR b se y) (se y)
def bOK (b : pB) : Prop := (∀ l, l < pb_nL b → bL b l) ∧ (∀ j, j < pb_nT b → 0 ≤ pb_pc b j) ∧ pb_nL b ≤ 6 ∧ pb_nT b ≤ 8
theorem sR_rg {b : pB} (hb : bOK b) (se : Nat → Nat) : ∀ y, y ≤ pb_nL b → ∀ j, j < pb_nT b → 0 ≤ sR b se y j ∧ sR b se y j ≤ pb_pc b j
  | 0, _, j, hj => ⟨hb.2.1 j hj, Int.le_refl _⟩
  | y + 1, hy, j, hj => by
    have h1 := sR_rg hb se y (by omega)
    have h2 := tR_rg (s := se y) (hb.1 y (by omega)) (fun j hj => (h1 j hj).1) hj
    have h3 := h1 j hj
    simp only [sR]
    omega
theorem sR_congr {b : pB} {se se' : Nat → Nat} : ∀ y, (∀ i, i < y → se i = se' i) → sR b se y = sR b se' y ∧ sZ b se y = sZ b se' y
  | 0, _ => ⟨rfl, rfl⟩
  | y + 1, h => by
    obtain ⟨h1, h2⟩ := sR_congr y (fun i hi => h i (by omega))
    have h3 := h y (by omega)
    refine ⟨?_, ?_⟩
    · show (fun j => sR b se y j - tR b y (sR b se y) (se y) j) = (fun j => sR b se' y j - tR b y (sR b se' y) (se' y) j)
      rw [h1, h3]
    · show sZ b se y + tC b y (sR b se y) (se y) = sZ b se' y + tC b y (sR b se' y) (se' y)
      rw [h1, h2, h3]
def zN (F : Nat → Nat) (i v : Nat) : Nat → Nat := fun j => if j = i then v else F j
theorem zN_s (F : Nat → Nat) (i v : Nat) : zN F i v i = v := if_pos rfl
theorem zN_n {F : Nat → Nat} {i j v : Nat} (h : j ≠ i) : zN F i v j = F j := if_neg h
theorem sR_zN {b : pB} {p : Nat → Nat} {l s : Nat} : sR b (zN p l s) (l + 1) = (fun j => sR b p l j - tR b l (sR b p l) s j) ∧ sZ b (zN p l s) (l + 1) = sZ b p l + tC b l (sR b p l) s := by
  obtain ⟨h1, h2⟩ := sR_congr (b := b) (se := zN p l s) (se' := p) l (fun i hi => zN_n (by omega))
  refine ⟨?_, ?_⟩
  · show (fun j => sR b (zN p l s) l j - tR b l (sR b (zN p l s) l) (zN p l s l) j) = _
    rw [h1, zN_s]
  · show sZ b (zN p l s) l + tC b l (sR b (zN p l s) l) (zN p l s l) = _
    rw [h1, h2, zN_s]
/-- the sets that a line may take of, below s -/
def cnd (b : pB) (l s : Nat) : List Nat := (List.range s).filter (fun v => decide (pop v ≤ pb_fw b l))
/-- all rows of sets from line nL - j on, in their order -/
def sq (b : pB) : Nat → (Nat → Nat) → List (Nat → Nat)
  | 0, p => [p]
  | j + 1, p => (cnd b (pb_nL b - (j + 1)) (2 ^ pb_ac b (pb_nL b - (j + 1)))).flatMap (fun v => sq b j (zN p (pb_nL b - (j + 1)) v))
def sqP (b : pB) (j l : Nat) (p : Nat → Nat) (s : Nat) : List (Nat → Nat) := (cnd b l s).flatMap (fun v => sq b j (zN p l v))
theorem sq_succ (b : pB) (j : Nat) (p : Nat → Nat) {l : Nat} (h : l + (j + 1) = pb_nL b) : sq b (j + 1) p = sqP b j l p (2 ^ pb_ac b l) := by
  have e : pb_nL b - (j + 1) = l := by omega
  simp only [sq, e]
  rfl
theorem cnd_succ (b : pB) (l s : Nat) : cnd b l (s + 1) = cnd b l s ++ (if pop s ≤ pb_fw b l then [s] else []) := by
  unfold cnd
  rw [List.range_succ, List.filter_append]
  congr 1
  by_cases h : pop s ≤ pb_fw b l
  · rw [if_pos h]
    simp [h]
  · rw [if_neg h]
    simp [h]
theorem sqP_succ (b : pB) (j l : Nat) (p : Nat → Nat) (s : Nat) : sqP b j l p (s + 1) = sqP b j l p s ++ (if pop s ≤ pb_fw b l then sq b j (zN p l s) else []) := by
  unfold sqP
  rw [cnd_succ, List.flatMap_append]
  congr 1
  by_cases h : pop s ≤ pb_fw b l
  · rw [if_pos h, if_pos h]
    simp
  · rw [if_neg h, if_neg h]
    simp
abbrev zT (b : pB) (q : Nat → Nat) : Int := sZ b q (pb_nL b)
/-- the first of the least -/
def fF (b : pB) (q : (Nat → Nat) × Int) (L : List (Nat → Nat)) : (Nat → Nat) × Int := L.foldl (fun q p => if zT b p < q.2 then (p, zT b p) else q) q
theorem fF_app (b : pB) (q : (Nat → Nat) × Int) (L L' : List (Nat → Nat)) : fF b q (L ++ L') = fF b (fF b q L) L' := List.foldl_append
theorem fF_le (b : pB) : ∀ (L : List (Nat → Nat)) (q : (Nat → Nat) × Int), (fF b q L).2 ≤ q.2 ∧ ∀ p, p ∈ L → (fF b q L).2 ≤ zT b p
  | [], q => ⟨Int.le_refl _, fun p hp => by cases hp⟩
  | a :: L, q => by
    have e : fF b q (a :: L) = fF b (if zT b a < q.2 then (a, zT b a) else q) L := rfl
    rw [e]
    by_cases h : zT b a < q.2
    · rw [if_pos h]
      obtain ⟨h1, h2⟩ := fF_le b L (a, zT b a)
      simp only at h1
      refine ⟨by omega, fun p hp => ?_⟩
      rcases List.mem_cons.mp hp with rfl | hp
      · exact h1
      · exact h2 p hp
    · rw [if_neg h]
      obtain ⟨h1, h2⟩ := fF_le b L q
      refine ⟨h1, fun p hp => ?_⟩
      rcases List.mem_cons.mp hp with rfl | hp
      · omega
      · exact h2 p hp
theorem fF_none (b : pB) : ∀ (L : List (Nat → Nat)) (q : (Nat → Nat) × Int), (∀ p, p ∈ L → q.2 ≤ zT b p) → fF b q L = q
  | [], q, _ => rfl
  | a :: L, q, h => by
    have e : fF b q (a :: L) = fF b (if zT b a < q.2 then (a, zT b a) else q) L := rfl
    have ha := h a List.mem_cons_self
    rw [e, if_neg (by omega)]
    exact fF_none b L q (fun p hp => h p (List.mem_cons_of_mem _ hp))
/-- where to begin does not matter, if something is less -/
theorem fF_start (b : pB) : ∀ (L : List (Nat → Nat)) (a q : (Nat → Nat) × Int), q.2 ≤ a.2 → (∃ p, p ∈ L ∧ zT b p < q.2) → fF b a L = fF b q L
  | [], a, q, _, h => by
    obtain ⟨p, hp, -⟩ := h
    cases hp
  | x :: L, a, q, hq, h => by
    have e : ∀ q, fF b q (x :: L) = fF b (if zT b x < q.2 then (x, zT b x) else q) L := fun _ => rfl
    rw [e, e]
    by_cases hx : zT b x < q.2
    · rw [if_pos hx, if_pos (by omega)]
    · rw [if_neg hx]
      obtain ⟨p, hp, hp2⟩ := h
      have hL : ∃ p, p ∈ L ∧ zT b p < q.2 := by
        rcases List.mem_cons.mp hp with rfl | hp
        · omega
        · exact ⟨p, hp, hp2⟩
      by_cases hy : zT b x < a.2
      · rw [if_pos hy]
        exact fF_start b L (x, zT b x) q (by simp only; omega) hL
      · rw [if_neg hy]
        exact fF_start b L a q hq hL
/-- the same left and spent, the same costs behind -/
theorem sq_costs {b : pB} : ∀ (j : Nat) {p p' : Nat → Nat} {l : Nat}, l + j = pb_nL b → sR b p l = sR b p' l → sZ b p l = sZ b p' l → ∀ q, q ∈ sq b j p → ∃ q', q' ∈ sq b j p' ∧ zT b q' = zT b q
  | 0, p, p', l, hl, h1, h2, q, hq => by
    have e : l = pb_nL b := by omega
    subst e
    have e2 : q = p := List.mem_singleton.mp hq
    subst e2
    exact ⟨p', List.mem_singleton.mpr rfl, h2.symm⟩
  | j + 1, p, p', l, hl, h1, h2, q, hq => by
    rw [sq_succ b j p hl] at hq
    rw [sq_succ b j p' hl]
    obtain ⟨v, hv, hq⟩ := List.mem_flatMap.mp hq
    obtain ⟨e1, e2⟩ := sR_zN (b := b) (p := p) (l := l) (s := v)
    obtain ⟨e3, e4⟩ := sR_zN (b := b) (p := p') (l := l) (s := v)
    obtain ⟨q', g1, g2⟩ := sq_costs j (p := zN p l v) (p' := zN p' l v) (l := l + 1) (by omega) (by rw [e1, e3, h1]) (by rw [e2, e4, h1, h2]) q hq
    exact ⟨q', List.mem_flatMap.mpr ⟨v, hv, g1⟩, g2⟩
/-- what is behind costs no less than the bounds say -/
theorem sq_low {b : pB} (hb : bOK b) {rb : Nat → Int} (h0 : rb (pb_nL b) = 0) (hrb : ∀ l, l < pb_nL b → ∀ r s, (∀ j, j < pb_nT b → 0 ≤ r j) → rb l ≤ rb (l + 1) + tC b l r s) : ∀ (j : Nat) {p : Nat → Nat} {l : Nat}, l + j = pb_nL b → ∀ q, q ∈ sq b j p → sZ b p l + rb l ≤ zT b q
  | 0, p, l, hl, q, hq => by
    have e : l = pb_nL b := by omega
    subst e
    have e2 : q = p := List.mem_singleton.mp hq
    subst e2
    rw [h0]
    show sZ b q (pb_nL b) + 0 ≤ sZ b q (pb_nL b)
    omega
  | j + 1, p, l, hl, q, hq => by
    rw [sq_succ b j p hl] at hq
    obtain ⟨v, hv, hq⟩ := List.mem_flatMap.mp hq
    have h1 := sq_low hb h0 hrb j (p := zN p l v) (l := l + 1) (by omega) q hq
    rw [sR_zN.2] at h1
    have h2 := hrb l (by omega) (sR b p l) v (fun j hj => (sR_rg hb p l (by omega) j hj).1)
    omega
