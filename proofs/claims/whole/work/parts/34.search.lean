/-! the search: bits, taking -/
set_option maxRecDepth 100000 in
theorem ib_all : ∀ s : Fin 256, ∀ k : Fin 8, ((Int32.ofInt ((s : Nat) : Int) >>> (Int32.ofInt ((k : Nat) : Int) &&& 31)) &&& 1 : Int32) = if (s : Nat).testBit k = true then 1 else 0 := by decide +kernel
theorem ib_bit {s k : Nat} (hs : s < 256) (hk : k < 8) : ((iI (s : Int) >>> (iI (k : Int) &&& 31)) &&& iI 1 : Int32) = if s.testBit k = true then iI 1 else iI 0 := ib_all ⟨s, hs⟩ ⟨k, hk⟩
theorem ib_shlAll : ∀ k : Fin 9, (iI 1 <<< (Int32.ofInt ((k : Nat) : Int) &&& 31)) = Int32.ofInt ((2 ^ (k : Nat) : Nat) : Int) := by decide +kernel
theorem ib_shl {k : Nat} (h : k < 9) : (iI 1 <<< (iI (k : Int) &&& 31)) = iI ((2 ^ k : Nat) : Int) := ib_shlAll ⟨k, h⟩
def pop (s : Nat) : Int := zs (fun k => zb (s.testBit k = true)) 8
theorem pop_rg (s : Nat) : 0 ≤ pop s ∧ pop s ≤ 8 := by
  refine ⟨zs_nonneg 8 (fun k hk => ?_), ?_⟩
  · unfold zb
    split <;> omega
  · have := zs_le (f := fun k => zb (s.testBit k = true)) (b := 1) 8 (fun k hk => by unfold zb; split <;> omega)
    unfold pop
    omega
def uS (x : Int32) (u : Int) : Int32 := (x.toUInt32 >>> ((iI u).toUInt32 &&& Int32.toUInt32 31)).toInt32
def pc1 (x : Int32) : Int32 := x - (uS x 1 &&& (1431655765 : Int32))
def pc2 (x : Int32) : Int32 := (x &&& (858993459 : Int32)) + (uS x 2 &&& (858993459 : Int32))
def pc3 (x : Int32) : Int32 := (x + uS x 4) &&& (252645135 : Int32)
def pc4 (x : Int32) : Int32 := x + uS x 8
def pc5 (x : Int32) : Int32 := x + uS x 16
theorem pc_all : ∀ s : Fin 256, (pc5 (pc4 (pc3 (pc2 (pc1 (Int32.ofInt ((s : Nat) : Int)))))) &&& iI 63) = Int32.ofInt (pop s) := by decide +kernel
theorem pc_is {s : Nat} (h : s < 256) : (pc5 (pc4 (pc3 (pc2 (pc1 (iI (s : Int)))))) &&& iI 63) = iI (pop s) := pc_all ⟨s, h⟩
set_option maxHeartbeats 1000000 in
set_option maxRecDepth 20000 in
theorem sp_I_bitCount {d : Nat} {h : am_H} {n s : Nat} (hs : s < 256) : am_W d km_I_bitCount 0 [some (.int (iI s))] [] h n 0 0 (am_eq (some (.int (iI (pop s)))) h n) := by
  refine ar_iload_n kd_I_bitCount_0 rfl ?_
  refine ar_iload_n kd_I_bitCount_1 rfl ?_
  refine ar_iconst kd_I_bitCount_2 ?_
  refine ar_iushr kd_I_bitCount_3 ?_
  refine ar_ldcw kd_I_bitCount_4 kw_488 ?_
  refine ar_iand kd_I_bitCount_7 ?_
  refine ar_isub kd_I_bitCount_8 ?_
  refine ar_istore_n kd_I_bitCount_9 (Nat.le_of_ble_eq_true rfl) rfl ?_
  dsimp only [List.set]
  refine ar_iload_n kd_I_bitCount_10 rfl ?_
  refine ar_ldcw kd_I_bitCount_11 kw_489 ?_
  refine ar_iand kd_I_bitCount_14 ?_
  refine ar_iload_n kd_I_bitCount_15 rfl ?_
  refine ar_iconst kd_I_bitCount_16 ?_
  refine ar_iushr kd_I_bitCount_17 ?_
  refine ar_ldcw kd_I_bitCount_18 kw_489 ?_
  refine ar_iand kd_I_bitCount_21 ?_
  refine ar_iadd kd_I_bitCount_22 ?_
  refine ar_istore_n kd_I_bitCount_23 (Nat.le_of_ble_eq_true rfl) rfl ?_
  dsimp only [List.set]
  refine ar_iload_n kd_I_bitCount_24 rfl ?_
  refine ar_iload_n kd_I_bitCount_25 rfl ?_
  refine ar_iconst kd_I_bitCount_26 ?_
  refine ar_iushr kd_I_bitCount_27 ?_
  refine ar_iadd kd_I_bitCount_28 ?_
  refine ar_ldcw kd_I_bitCount_29 kw_490 ?_
  refine ar_iand kd_I_bitCount_32 ?_
  refine ar_istore_n kd_I_bitCount_33 (Nat.le_of_ble_eq_true rfl) rfl ?_
  dsimp only [List.set]
  refine ar_iload_n kd_I_bitCount_34 rfl ?_
  refine ar_iload_n kd_I_bitCount_35 rfl ?_
  refine az_bipush kd_I_bitCount_36 (by decide) ?_
  refine ar_iushr kd_I_bitCount_38 ?_
  refine ar_iadd kd_I_bitCount_39 ?_
  refine ar_istore_n kd_I_bitCount_40 (Nat.le_of_ble_eq_true rfl) rfl ?_
  dsimp only [List.set]
  refine ar_iload_n kd_I_bitCount_41 rfl ?_
  refine ar_iload_n kd_I_bitCount_42 rfl ?_
  refine az_bipush kd_I_bitCount_43 (by decide) ?_
  refine ar_iushr kd_I_bitCount_45 ?_
  refine ar_iadd kd_I_bitCount_46 ?_
  refine ar_istore_n kd_I_bitCount_47 (Nat.le_of_ble_eq_true rfl) rfl ?_
  dsimp only [List.set]
  refine ar_iload_n kd_I_bitCount_48 rfl ?_
  refine az_bipush kd_I_bitCount_49 (by decide) ?_
  refine ar_iand kd_I_bitCount_51 ?_
  refine ar_ireturn kd_I_bitCount_52 rfl (Nat.le_of_ble_eq_true rfl) (Nat.le_of_ble_eq_true rfl) ?_
  exact ⟨congrArg (fun v => Sum.inl (some (Value.int v))) (pc_is hs), rfl, rfl⟩
def ck_rd (n p : Int) : Int := if 1 < p then n - n % p else n
theorem ck_rd_rg {n p : Int} (hn : 0 ≤ n) : 0 ≤ ck_rd n p ∧ ck_rd n p ≤ n := by
  unfold ck_rd
  split
  · rename_i h
    have h1 := Int.emod_nonneg n (show p ≠ 0 by omega)
    have h2 : n % p ≤ n := by
      have h3 := Int.mul_ediv_add_emod n p
      have h4 := Int.mul_nonneg (show 0 ≤ p by omega) (Int.ediv_nonneg hn (show 0 ≤ p by omega))
      omega
    omega
  · omega
set_option maxHeartbeats 1000000 in
set_option maxRecDepth 20000 in
theorem sp_S_roundDown {d : Nat} {h : am_H} {n : Nat} {a p : Int} (ha : 0 ≤ a ∧ a < 2147483648) (hp : 0 ≤ p ∧ p ≤ 50) : am_W d km_S_roundDown 0 [some (.int (iI a)), some (.int (iI p))] [] h n 0 0 (am_eq (some (.int (iI (ck_rd a p)))) h n) := by
  refine ar_iload_n kd_S_roundDown_0 rfl ?_
  refine ar_iconst kd_S_roundDown_1 ?_
  refine az_icmp_le (tg := 13) kd_S_roundDown_2 (by decide) (fun q1 => ?_) (fun q1 => ?_)
  · have e1 : ck_rd a p = a := if_neg (by omega)
    refine ar_iload_n kd_S_roundDown_13 rfl ?_
    refine ar_ireturn kd_S_roundDown_14 rfl (Nat.le_of_ble_eq_true rfl) (Nat.le_of_ble_eq_true rfl) ?_
    exact ⟨by rw [e1], rfl, rfl⟩
  · have e1 : ck_rd a p = a - a % p := if_pos (by omega)
    refine ar_iload_n kd_S_roundDown_5 rfl ?_
    refine ar_iload_n kd_S_roundDown_6 rfl ?_
    refine ar_iload_n kd_S_roundDown_7 rfl ?_
    refine az_irem kd_S_roundDown_8 (by omega) (by omega) ?_
    refine az_isub kd_S_roundDown_9 ?_
    refine ar_goto (tg := 14) kd_S_roundDown_10 (by decide) ?_
    refine ar_ireturn kd_S_roundDown_14 rfl (Nat.le_of_ble_eq_true rfl) (Nat.le_of_ble_eq_true rfl) ?_
    exact ⟨by rw [e1], rfl, rfl⟩
/-- what the search keeps, in its ranges -/
def cA (c : cS) : Prop := ∀ l, l < 6 → (0 ≤ cg_ac c l ∧ cg_ac c l ≤ 8) ∧ (0 ≤ cg_tr c l ∧ cg_tr c l < 256) ∧ (0 ≤ cg_be c l ∧ cg_be c l < 256) ∧ ∀ k, k < 8 → 0 ≤ cg_al c l k ∧ cg_al c l k ≤ 7
/-- nothing is given twice -/
def cP (c : cS) : Prop := cI c ∧ ∀ k, k < 8 → 0 ≤ cg_fr c k
theorem zs_one {f : Nat → Int} {l : Nat} : ∀ n, (∀ k, k < n → 0 ≤ f k) → l < n → f l ≤ zs f n
  | 0, _, h => by omega
  | n + 1, h, hl => by
    have h1 := zs_nonneg (f := f) n (fun k hk => h k (by omega))
    have h2 := h n (by omega)
    simp only [zs]
    rcases Nat.lt_or_ge l n with q | q
    · have := zs_one n (fun k hk => h k (by omega)) q
      omega
    · have e : l = n := by omega
      subst e
      omega
theorem cP_move {c : cS} (h : cP c) {l k : Nat} {z : Int} (hl : l < 6) (hk : k < 8) (hz : -cg_gi c l k ≤ z ∧ z ≤ cg_fr c k) : cP (ck_move c l k z) := by
  have h1 := h.1.2 k hk
  have h2 := zs_one (f := fun l => cg_gi c l k) (l := l) 6 (fun j hj => (h.1.1 j k hj hk).1) hl
  refine ⟨cI_move h.1 hl hk (by omega), fun k' hk' => ?_⟩
  show 0 ≤ zu (cg_fr c) k (cg_fr c k - z) k'
  by_cases e : k' = k
  · subst e
    rw [zu_s]
    omega
  · rw [zu_n e]
    exact h.2 k' hk'
theorem cP_letGo {c : cS} (h : cP c) {l : Nat} (hl : l < 6) (hT : cg_nT c ≤ 8) : cP (ck_letGo c l) := by
  have : ∀ n, n ≤ 8 → cP (zf (fun c k => ck_move c l k (-cg_gi c l k)) c n) := by
    intro n
    induction n with
    | zero => intro _; exact h
    | succ n ih =>
      intro hn
      have h1 := ih (by omega)
      have h2 := h1.1.1 l n hl (by omega)
      have h3 := h1.2 n (by omega)
      exact cP_move h1 hl (by omega) (by omega)
  exact this _ hT
theorem ck_move_A {c : cS} (l k : Nat) (z : Int) (h : cA c) : cA (ck_move c l k z) := h
theorem ck_letGo_A {c : cS} (l : Nat) (h : cA c) : cA (ck_letGo c l) := zf_inv (fun a k ha => ck_move_A l k _ ha) h _
theorem sp_F_moveU {d : Nat} {x : am_C} {c : cS} {t : List am_C} {n : Nat} {l k : Nat} {z u : Int} (hl : l < 6) (hk : k < 8) (hu : u = (k : Int)) : am_W d km_F_move 0 [some (.ref 6), some (.int (iI l)), some (.int (iI u)), some (.int (iI z))] [] (hC x c t) n 0 0 (am_eq none (hC x (ck_move c l k z) t) n) := by
  subst hu
  exact sp_F_move hl hk
/-- a line takes of the lot at place k of its allowed ones -/
def ck_t1 (l s : Nat) (q : cS × Int × Int) (k : Nat) : cS × Int × Int :=
  if s.testBit k = true then
    (ck_move q.1 l (cg_al q.1 l k).toNat (ck_rd (zn q.2.1 (cg_fr q.1 (cg_al q.1 l k).toNat)) (cg_rl q.1 l 1)), q.2.1 - ck_rd (zn q.2.1 (cg_fr q.1 (cg_al q.1 l k).toNat)) (cg_rl q.1 l 1), q.2.2 + zb (0 < ck_rd (zn q.2.1 (cg_fr q.1 (cg_al q.1 l k).toNat)) (cg_rl q.1 l 1)))
  else q
def ck_tk (c : cS) (l s k : Nat) : cS × Int × Int := zf (ck_t1 l s) (c, cg_lw c l, 0) k
def ck_take (c : cS) (l s : Nat) : cS × Int := if 0 < (ck_tk c l s (cg_ac c l).toNat).2.1 ∧ cg_rl c l 3 = 1 then (ck_letGo (ck_tk c l s (cg_ac c l).toNat).1 l, 0) else ((ck_tk c l s (cg_ac c l).toNat).1, (ck_tk c l s (cg_ac c l).toNat).2.2)
theorem ck_t1_keep {β : Type} {P : cS → β} (h : ∀ c l k z, P (ck_move c l k z) = P c) (l s : Nat) (q : cS × Int × Int) (k : Nat) : P (ck_t1 l s q k).1 = P q.1 := by
  unfold ck_t1
  split
  · exact h _ _ _ _
  · rfl
theorem ck_tk_keep {β : Type} {P : cS → β} (h : ∀ c l k z, P (ck_move c l k z) = P c) (c : cS) (l s k : Nat) : P (ck_tk c l s k).1 = P c := zf_keep (g := ck_t1 l s) (P := fun q : cS × Int × Int => P q.1) (fun q k => ck_t1_keep h l s q k) (c, cg_lw c l, 0) k
theorem ck_letGo_keep {β : Type} {P : cS → β} (h : ∀ c l k z, P (ck_move c l k z) = P c) (c : cS) (l : Nat) : P (ck_letGo c l) = P c := zf_keep (g := fun c k => ck_move c l k (-cg_gi c l k)) (P := P) (fun a k => h _ _ _ _) c _
theorem ck_take_keep {β : Type} {P : cS → β} (h : ∀ c l k z, P (ck_move c l k z) = P c) (c : cS) (l s : Nat) : P (ck_take c l s).1 = P c := by
  unfold ck_take
  split
  · exact (ck_letGo_keep h _ _).trans (ck_tk_keep h c l s _)
  · exact ck_tk_keep h c l s _
/-- what holds of a state while a line takes -/
theorem ck_tk_ok {c : cS} (hK : cK c) (hA : cA c) (hP : cP c) {l : Nat} (s : Nat) (hl : l < 6) : ∀ k, k ≤ 8 → cK (ck_tk c l s k).1 ∧ cA (ck_tk c l s k).1 ∧ cP (ck_tk c l s k).1 ∧ (0 ≤ (ck_tk c l s k).2.1 ∧ (ck_tk c l s k).2.1 ≤ 200) ∧ (0 ≤ (ck_tk c l s k).2.2 ∧ (ck_tk c l s k).2.2 ≤ k)
  | 0, _ => by
    have h1 := hK.line hl
    exact ⟨hK, hA, hP, h1.2.1, Int.le_refl 0, Int.le_refl 0⟩
  | k + 1, hk => by
    obtain ⟨h1, h2, h3, h4, h5⟩ := ck_tk_ok hK hA hP s hl k (by omega)
    have e : ck_tk c l s (k + 1) = ck_t1 l s (ck_tk c l s k) k := rfl
    rw [e]
    unfold ck_t1
    split
    · have ha := (h2 l hl).2.2.2 k (by omega)
      have hl8 : (cg_al (ck_tk c l s k).1 l k).toNat < 8 := by omega
      have hf := h3.2 _ hl8
      have hz : 0 ≤ zn (ck_tk c l s k).2.1 (cg_fr (ck_tk c l s k).1 (cg_al (ck_tk c l s k).1 l k).toNat) ∧ zn (ck_tk c l s k).2.1 (cg_fr (ck_tk c l s k).1 (cg_al (ck_tk c l s k).1 l k).toNat) ≤ (ck_tk c l s k).2.1 ∧ zn (ck_tk c l s k).2.1 (cg_fr (ck_tk c l s k).1 (cg_al (ck_tk c l s k).1 l k).toNat) ≤ cg_fr (ck_tk c l s k).1 (cg_al (ck_tk c l s k).1 l k).toNat := by
        unfold zn
        split <;> omega
      have hr := ck_rd_rg (p := cg_rl (ck_tk c l s k).1 l 1) hz.1
      have hg := h3.1.1 l _ hl hl8
      refine ⟨h1, h2, cP_move h3 hl hl8 (by omega), by simp only; omega, ?_⟩
      simp only [zb]
      split <;> omega
    · exact ⟨h1, h2, h3, h4, by omega⟩
theorem ck_take_ok {c : cS} (hK : cK c) (hA : cA c) (hP : cP c) {l : Nat} (s : Nat) (hl : l < 6) : cK (ck_take c l s).1 ∧ cA (ck_take c l s).1 ∧ cP (ck_take c l s).1 ∧ 0 ≤ (ck_take c l s).2 ∧ (ck_take c l s).2 ≤ 8 := by
  have ha := (hA l hl).1
  obtain ⟨h1, h2, h3, h4, h5⟩ := ck_tk_ok hK hA hP s hl (cg_ac c l).toNat (by omega)
  unfold ck_take
  split
  · exact ⟨ck_letGo_K l h1, ck_letGo_A l h2, cP_letGo h3 hl h1.nn.1, Int.le_refl 0, by omega⟩
  · exact ⟨h1, h2, h3, h5.1, by simp only; omega⟩
set_option maxHeartbeats 1000000 in
set_option maxRecDepth 20000 in
theorem sp_S_take {d : Nat} {x : am_C} {c : cS} {t : List am_C} {n : Nat} {l s : Nat} (hl : l < 6) (hs : s < 256) (hK : cK c) (hA : cA c) (hP : cP c) : am_W (d + 2) km_S_take 0 [some (.ref 5), some (.int (iI l)), some (.int (iI s)), none, none, none, none, none] [] (hC x c t) n 0 0 (am_eq (some (.int (iI (ck_take c l s).2))) (hC x (ck_take c l s).1 t) n) := by
  have hac0 := (hA l hl).1
  have loop : ∀ (f i : Nat), i ≤ (cg_ac c l).toNat → (cg_ac c l).toNat - i < f → ∀ (w1 w2 : Option Value), am_W (d + 2) km_S_take 16 [some (.ref 5), some (.int (iI l)), some (.int (iI s)), some (.int (iI (ck_tk c l s i).2.1)), some (.int (iI (ck_tk c l s i).2.2)), some (.int (iI i)), w1, w2] [] (hC x (ck_tk c l s i).1 t) n 0 0 (am_eq (some (.int (iI (ck_take c l s).2))) (hC x (ck_take c l s).1 t) n) := by
    intro f
    induction f with
    | zero => intro i hi1 hi2 w1 w2; omega
    | succ f ih =>
      intro i hi1 hi2 w1 w2
      obtain ⟨h1, h2, h3, h4, h5⟩ := ck_tk_ok hK hA hP s hl i (by omega)
      have hac := (hA l hl).1
      have eac : cg_ac (ck_tk c l s i).1 l = cg_ac c l := congrFun (ck_tk_keep (P := fun c => cg_ac c) (fun _ _ _ _ => rfl) c l s i) l
      have hrl := h1.line hl
      refine ar_iload kd_S_take_16 rfl ?_
      refine ar_aload_n kd_S_take_18 rfl ?_
      refine ar_get (ci := 4) (k := 4) kd_S_take_19 rfl kw_140 (by decide) rfl rfl ?_
      refine ar_iload_n kd_S_take_22 rfl ?_
      refine az_iald kd_S_take_23 rfl rfl (by omega) ?_
      refine az_icmp_ge (tg := 116) kd_S_take_24 (by decide) (fun qa => ?_) (fun qa => ?_)
      · obtain rfl : i = (cg_ac c l).toNat := by omega
        refine ar_iload_n kd_S_take_116 rfl ?_
        have erl : cg_rl (ck_tk c l s (cg_ac c l).toNat).1 l 3 = cg_rl c l 3 := congrFun (congrFun (ck_tk_keep (P := fun c => cg_rl c) (fun _ _ _ _ => rfl) c l s _) l) 3
        refine az_if_le (tg := 145) kd_S_take_117 (by decide) (fun qd => ?_) (fun qd => ?_)
        · have e3 : ck_take c l s = ((ck_tk c l s (cg_ac c l).toNat).1, (ck_tk c l s (cg_ac c l).toNat).2.2) := if_neg (by omega)
          refine ar_iload kd_S_take_145 rfl ?_
          refine ar_ireturn kd_S_take_147 rfl (Nat.le_of_ble_eq_true rfl) (Nat.le_of_ble_eq_true rfl) ?_
          exact ⟨by rw [e3], by rw [e3], rfl⟩
        · refine ar_aload_n kd_S_take_120 rfl ?_
          refine ar_get (ci := 4) (k := 2) kd_S_take_121 rfl kw_138 (by decide) rfl rfl ?_
          refine ar_get (ci := 2) (k := 4) kd_S_take_124 rfl kw_100 (by decide) rfl rfl ?_
          refine ar_iload_n kd_S_take_127 rfl ?_
          refine az_aald kd_S_take_128 rfl rfl (by omega) (if_pos (by omega)) ?_
          refine ar_iconst kd_S_take_129 ?_
          refine az_iald kd_S_take_130 (hr_rl (by omega)) (k := 3) rfl (by omega) ?_
          refine ar_iconst kd_S_take_131 ?_
          refine az_icmp_ne (tg := 145) kd_S_take_132 (by decide) (fun qe => ?_) (fun qe => ?_)
          · have e3 : ck_take c l s = ((ck_tk c l s (cg_ac c l).toNat).1, (ck_tk c l s (cg_ac c l).toNat).2.2) := if_neg (fun q => qe (by rw [erl]; exact q.2))
            refine ar_iload kd_S_take_145 rfl ?_
            refine ar_ireturn kd_S_take_147 rfl (Nat.le_of_ble_eq_true rfl) (Nat.le_of_ble_eq_true rfl) ?_
            exact ⟨by rw [e3], by rw [e3], rfl⟩
          · have e3 : ck_take c l s = (ck_letGo (ck_tk c l s (cg_ac c l).toNat).1 l, 0) := if_pos ⟨by omega, by rw [← erl]; exact qe⟩
            refine ar_aload_n kd_S_take_135 rfl ?_
            refine ar_get (ci := 4) (k := 0) kd_S_take_136 rfl kw_135 (by decide) rfl rfl ?_
            refine ar_iload_n kd_S_take_139 rfl ?_
            refine az_callv (z := km_F_letGo) (As := [_]) (ci := 1) kd_S_take_140 kw_475 kw_441 rfl ks_F_letGo kz_F_letGo rfl rfl rfl rfl rfl (Nat.le_of_ble_eq_true rfl) (Nat.le_of_ble_eq_true rfl) rfl (sp_F_letGo hl h1) ?_
            refine ar_iconst kd_S_take_143 ?_
            refine ar_ireturn kd_S_take_144 rfl (Nat.le_of_ble_eq_true rfl) (Nat.le_of_ble_eq_true rfl) ?_
            exact ⟨by rw [e3], by rw [e3], rfl⟩
      · refine ar_iload_n kd_S_take_27 rfl ?_
        refine ar_iload kd_S_take_28 rfl ?_
        refine ar_ishr kd_S_take_30 ?_
        refine ar_iconst kd_S_take_31 ?_
        refine ar_iand kd_S_take_32 ?_
        refine ar_iconst kd_S_take_33 ?_
        refine ar_icmp_ne (tg := 110) kd_S_take_34 (by decide) (fun qb => ?_) (fun qb => ?_)
        · have e1 : ck_tk c l s (i + 1) = ck_tk c l s i := if_neg (fun q => qb (by rw [ib_bit hs (by omega), if_pos q]))
          refine az_iinc kd_S_take_110 rfl rfl ?_
          dsimp only [List.set]
          refine ar_goto (tg := 16) kd_S_take_113 (by decide) ?_
          first | (have h9 := ih (i + 1) (by omega) (by omega) w1 w2; rw [e1] at h9; exact h9) | (have h9 := ih (i + 1) (by omega) (by omega) (some (.int (iI (cg_al (ck_tk c l s i).1 l i)))) (some (.int (iI (ck_rd (zn (ck_tk c l s i).2.1 (cg_fr (ck_tk c l s i).1 (cg_al (ck_tk c l s i).1 l i).toNat)) (cg_rl (ck_tk c l s i).1 l 1))))); rw [e1, e2] at h9; exact h9)
        · have ha := (h2 l hl).2.2.2 i (by omega)
          have ea : cg_al (ck_tk c l s i).1 l i = (((cg_al (ck_tk c l s i).1 l i).toNat : Nat) : Int) := (Int.toNat_of_nonneg ha.1).symm
          have hl8 : (cg_al (ck_tk c l s i).1 l i).toNat < 8 := by omega
          have hfr := h3.1.G.fr hl8
          have hf0 := h3.2 _ hl8
          have hz : 0 ≤ zn (ck_tk c l s i).2.1 (cg_fr (ck_tk c l s i).1 (cg_al (ck_tk c l s i).1 l i).toNat) ∧ zn (ck_tk c l s i).2.1 (cg_fr (ck_tk c l s i).1 (cg_al (ck_tk c l s i).1 l i).toNat) ≤ 200 := by
            unfold zn
            split <;> omega
          have hr := ck_rd_rg (p := cg_rl (ck_tk c l s i).1 l 1) hz.1
          have e1 : ck_tk c l s (i + 1) = (ck_move (ck_tk c l s i).1 l (cg_al (ck_tk c l s i).1 l i).toNat (ck_rd (zn (ck_tk c l s i).2.1 (cg_fr (ck_tk c l s i).1 (cg_al (ck_tk c l s i).1 l i).toNat)) (cg_rl (ck_tk c l s i).1 l 1)), (ck_tk c l s i).2.1 - (ck_rd (zn (ck_tk c l s i).2.1 (cg_fr (ck_tk c l s i).1 (cg_al (ck_tk c l s i).1 l i).toNat)) (cg_rl (ck_tk c l s i).1 l 1)), (ck_tk c l s i).2.2 + zb (0 < (ck_rd (zn (ck_tk c l s i).2.1 (cg_fr (ck_tk c l s i).1 (cg_al (ck_tk c l s i).1 l i).toNat)) (cg_rl (ck_tk c l s i).1 l 1)))) := if_pos (Decidable.byContradiction fun q => absurd qb (by rw [ib_bit hs (by omega), if_neg q]; decide))
          refine ar_aload_n kd_S_take_37 rfl ?_
          refine ar_get (ci := 4) (k := 3) kd_S_take_38 rfl kw_139 (by decide) rfl rfl ?_
          refine ar_iload_n kd_S_take_41 rfl ?_
          refine az_aald kd_S_take_42 rfl rfl (by omega) (if_pos (by omega)) ?_
          refine ar_iload kd_S_take_43 rfl ?_
          refine az_iald kd_S_take_45 (hr_al (by omega)) rfl (by omega) ?_
          refine ar_istore kd_S_take_46 (Nat.le_of_ble_eq_true rfl) rfl ?_
          dsimp only [List.set]
          refine ar_iload_n kd_S_take_48 rfl ?_
          refine ar_aload_n kd_S_take_49 rfl ?_
          refine ar_get (ci := 4) (k := 1) kd_S_take_50 rfl kw_137 (by decide) rfl rfl ?_
          refine ar_get (ci := 3) (k := 5) kd_S_take_53 rfl kw_58 (by decide) rfl rfl ?_
          refine ar_iload kd_S_take_56 rfl ?_
          refine az_iald kd_S_take_58 rfl (k := (cg_al (ck_tk c l s i).1 l i).toNat) ea hl8 ?_
          refine ar_min kd_S_take_59 kw_466 kw_218 kw_13 kw_219 rfl (Nat.le_of_ble_eq_true rfl) (Nat.zero_le _) (Nat.zero_le _) ?_
          rw [ii_min (by omega) (by omega)]
          refine ar_aload_n kd_S_take_62 rfl ?_
          refine ar_get (ci := 4) (k := 2) kd_S_take_63 rfl kw_138 (by decide) rfl rfl ?_
          refine ar_get (ci := 2) (k := 4) kd_S_take_66 rfl kw_100 (by decide) rfl rfl ?_
          refine ar_iload_n kd_S_take_69 rfl ?_
          refine az_aald kd_S_take_70 rfl rfl (by omega) (if_pos (by omega)) ?_
          refine ar_iconst kd_S_take_71 ?_
          refine az_iald kd_S_take_72 (hr_rl (by omega)) (k := 1) rfl (by omega) ?_
          refine az_calls (z := km_S_roundDown) (As := [_, _]) kd_S_take_73 kw_471 kw_472 kw_2 kz_S_roundDown rfl rfl rfl rfl (Nat.le_of_ble_eq_true rfl) (Nat.le_of_ble_eq_true rfl) rfl (sp_S_roundDown (by omega) (by omega)) ?_
          refine ar_istore kd_S_take_76 (Nat.le_of_ble_eq_true rfl) rfl ?_
          dsimp only [List.set]
          refine ar_aload_n kd_S_take_78 rfl ?_
          refine ar_get (ci := 4) (k := 0) kd_S_take_79 rfl kw_135 (by decide) rfl rfl ?_
          refine ar_iload_n kd_S_take_82 rfl ?_
          refine ar_iload kd_S_take_83 rfl ?_
          refine ar_iload kd_S_take_85 rfl ?_
          refine az_callv (z := km_F_move) (As := [_, _, _]) (ci := 1) kd_S_take_87 kw_474 kw_445 rfl ks_F_move kz_F_move rfl rfl rfl rfl rfl (Nat.le_of_ble_eq_true rfl) (Nat.le_of_ble_eq_true rfl) rfl (sp_F_moveU (d := d + 1) hl hl8 ea) ?_
          refine ar_iload_n kd_S_take_90 rfl ?_
          refine ar_iload kd_S_take_91 rfl ?_
          refine az_isub kd_S_take_93 ?_
          refine ar_istore_n kd_S_take_94 (Nat.le_of_ble_eq_true rfl) rfl ?_
          dsimp only [List.set]
          refine ar_iload kd_S_take_95 rfl ?_
          refine ar_iload kd_S_take_97 rfl ?_
          refine az_if_le (tg := 106) kd_S_take_99 (by decide) (fun q5 => ?_) (fun q5 => ?_)
          · have e2 : zb (0 < (ck_rd (zn (ck_tk c l s i).2.1 (cg_fr (ck_tk c l s i).1 (cg_al (ck_tk c l s i).1 l i).toNat)) (cg_rl (ck_tk c l s i).1 l 1))) = 0 := if_neg (by omega)
            refine ar_iconst kd_S_take_106 ?_
            refine az_iadd kd_S_take_107 ?_
            refine ar_istore kd_S_take_108 (Nat.le_of_ble_eq_true rfl) rfl ?_
            dsimp only [List.set]
            refine az_iinc kd_S_take_110 rfl rfl ?_
            dsimp only [List.set]
            refine ar_goto (tg := 16) kd_S_take_113 (by decide) ?_
            first | (have h9 := ih (i + 1) (by omega) (by omega) w1 w2; rw [e1] at h9; exact h9) | (have h9 := ih (i + 1) (by omega) (by omega) (some (.int (iI (cg_al (ck_tk c l s i).1 l i)))) (some (.int (iI (ck_rd (zn (ck_tk c l s i).2.1 (cg_fr (ck_tk c l s i).1 (cg_al (ck_tk c l s i).1 l i).toNat)) (cg_rl (ck_tk c l s i).1 l 1))))); rw [e1, e2] at h9; exact h9)
          · have e2 : zb (0 < (ck_rd (zn (ck_tk c l s i).2.1 (cg_fr (ck_tk c l s i).1 (cg_al (ck_tk c l s i).1 l i).toNat)) (cg_rl (ck_tk c l s i).1 l 1))) = 1 := if_pos (by omega)
            refine ar_iconst kd_S_take_102 ?_
            refine ar_goto (tg := 107) kd_S_take_103 (by decide) ?_
            refine az_iadd kd_S_take_107 ?_
            refine ar_istore kd_S_take_108 (Nat.le_of_ble_eq_true rfl) rfl ?_
            dsimp only [List.set]
            refine az_iinc kd_S_take_110 rfl rfl ?_
            dsimp only [List.set]
            refine ar_goto (tg := 16) kd_S_take_113 (by decide) ?_
            first | (have h9 := ih (i + 1) (by omega) (by omega) w1 w2; rw [e1] at h9; exact h9) | (have h9 := ih (i + 1) (by omega) (by omega) (some (.int (iI (cg_al (ck_tk c l s i).1 l i)))) (some (.int (iI (ck_rd (zn (ck_tk c l s i).2.1 (cg_fr (ck_tk c l s i).1 (cg_al (ck_tk c l s i).1 l i).toNat)) (cg_rl (ck_tk c l s i).1 l 1))))); rw [e1, e2] at h9; exact h9)
  refine ar_aload_n kd_S_take_0 rfl ?_
  refine ar_get (ci := 4) (k := 2) kd_S_take_1 rfl kw_138 (by decide) rfl rfl ?_
  refine ar_get (ci := 2) (k := 2) kd_S_take_4 rfl kw_95 (by decide) rfl rfl ?_
  refine ar_iload_n kd_S_take_7 rfl ?_
  refine az_iald kd_S_take_8 rfl rfl (by omega) ?_
  refine ar_istore_n kd_S_take_9 (Nat.le_of_ble_eq_true rfl) rfl ?_
  dsimp only [List.set]
  refine ar_iconst kd_S_take_10 ?_
  refine ar_istore kd_S_take_11 (Nat.le_of_ble_eq_true rfl) rfl ?_
  dsimp only [List.set]
  refine ar_iconst kd_S_take_13 ?_
  refine ar_istore kd_S_take_14 (Nat.le_of_ble_eq_true rfl) rfl ?_
  dsimp only [List.set]
  exact loop ((cg_ac c l).toNat + 1) 0 (by omega) (by omega) _ _
