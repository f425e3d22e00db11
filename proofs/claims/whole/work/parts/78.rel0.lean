/-! both at their start -/
theorem m00_tl (n i : Nat) : (zf (fun (F : Nat → Int) k => zu F k (-1)) (fun _ => 0) n) i = if i < n then -1 else 0 := by
  induction n with
  | zero => exact (if_neg (Nat.not_lt_zero _)).symm
  | succ n ih =>
    have e : zf (fun (F : Nat → Int) k => zu F k (-1)) (fun _ => 0) (n + 1) = zu (zf (fun (F : Nat → Int) k => zu F k (-1)) (fun _ => 0) n) n (-1) := rfl
    rw [e]
    by_cases w : i = n
    · rw [w, zu_s, if_pos (Nat.lt_succ_self _)]
    · rw [zu_n w, ih]
      by_cases v : i < n
      · rw [if_pos v, if_pos (by omega)]
      · rw [if_neg v, if_neg (by omega)]
theorem zs0 (n : Nat) : zs (fun _ => 0) n = 0 := zs_zero n (fun _ _ => rfl)
theorem rel0' {c : cS} {m : mS} (hc : c = c00) {v : Nat → Int} (hv : ∀ i, i < 48 → v i = -1) (hm : m = ms_tl m01 v) : rel c m := by
  subst hc
  subst hm
  have A : ∀ l : Nat, l < 6 → (((0 : Int) ≤ 0 ∧ (0 : Int) ≤ 8) ∧ ((0 : Int) ≤ 0 ∧ (0 : Int) < 256) ∧ ((0 : Int) ≤ 0 ∧ (0 : Int) < 256) ∧ ∀ k : Nat, k < 8 → (0 : Int) ≤ 0 ∧ (0 : Int) ≤ 7) := fun _ _ => ⟨by decide, by decide, by decide, fun _ _ => by decide⟩
  have K1 : ∀ k : Nat, k < 8 → (((0 : Int) ≤ 0 ∧ (0 : Int) ≤ 99) ∧ ((0 : Int) ≤ 0 ∧ (0 : Int) ≤ 5) ∧ ((0 : Int) ≤ 0 ∧ (0 : Int) ≤ 9999) ∧ ((0 : Int) ≤ 0 ∧ (0 : Int) ≤ 7)) := fun _ _ => by decide
  have K2 : ∀ l : Nat, l < 6 → (((0 : Int) ≤ 0 ∧ (0 : Int) ≤ 5) ∧ ((0 : Int) ≤ 0 ∧ (0 : Int) ≤ 200) ∧ ((0 : Int) ≤ 0 ∧ (0 : Int) ≤ 9999) ∧ ((0 : Int) ≤ 0 ∧ (0 : Int) ≤ 50) ∧ ((0 : Int) ≤ 0 ∧ (0 : Int) ≤ 8) ∧ ((0 : Int) ≤ 0 ∧ (0 : Int) ≤ 1) ∧ ∀ k : Nat, k < 8 → (-1 : Int) ≤ 0 ∧ (0 : Int) ≤ 1000) := fun _ _ => ⟨by decide, by decide, by decide, by decide, by decide, by decide, fun _ _ => by decide⟩
  have G : ∀ l k : Nat, l < 6 → k < 8 → (0 : Int) ≤ 0 ∧ (0 : Int) ≤ 500 := fun _ _ _ _ => by decide
  refine ⟨⟨⟨⟨by decide, by decide⟩, K1, K2⟩, ⟨⟨G, fun k _ => ⟨?_, G 0 0 (by decide) (by decide)⟩⟩, fun k _ => Int.le_refl 0⟩, A, A, fun i _ => G 0 0 (by decide) (by decide)⟩, ⟨rfl, rfl, rfl, rfl, rfl, rfl, rfl, rfl⟩, fun l k _ _ => ?_, fun l k hl hk => ?_, fun l k hl hk => ?_, fun l k _ _ => rfl, fun l k _ => rfl, fun k => ?_, ⟨fun i hi => absurd hi (Nat.not_lt_zero _), fun i j _ hj => absurd hj (Nat.not_lt_zero _), fun f => rfl⟩, ⟨rfl, Or.inl rfl⟩, fun l hl => absurd hl (Nat.not_lt_zero _), fun l _ => ⟨0, by decide, rfl⟩⟩
  · show (0 : Int) + zs (fun _ => 0) 6 = 0
    rw [zs0]
    rfl
  · exact (if_neg (Nat.not_lt_zero _)).symm
  · refine Eq.trans ?_ (if_neg (Nat.not_lt_zero _)).symm
    exact hv _ (by omega)
  · show iI 0 = iI (zb (ck_bar c00 l k))
    rw [show zb (ck_bar c00 l k) = 0 from if_neg (fun a => by
      have := (bar_bit (x := cg_lb c00 l) (s := 0) rfl (by decide) hk).mp a
      simp at this)]
  · show (0 : Int) = 0 - zs (fun _ => 0) 0
    rw [zs0]
    rfl
theorem rel0 : rel c00 (m00 48) := rel0' rfl (v := zf (fun (F : Nat → Int) k => zu F k (-1)) (fun _ => 0) 48) (fun i hi => by rw [m00_tl, if_pos hi]) rfl
