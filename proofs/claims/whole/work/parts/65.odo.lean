/-! the reference goes through all rows of sets, in their order -/
/-- what is left, spent and taken is that of the sets se, up to line y -/
def mVl (b : pB) (m : mS) (se : Nat → Nat) (y : Nat) : Prop := (∀ i, i ≤ y → (∀ j, j < pb_nT b → mg_re m (8 * i + j) = sR b se i j) ∧ mg_sp m i = sZ b se i) ∧ ∀ i, i < y → ∀ j, j < pb_nT b → mg_ta m (8 * i + j) = tR b i (sR b se i) (se i) j
/-- what is left is in its range -/
def mE (m : mS) : Prop := ∀ i, i < 56 → 0 ≤ mg_re m i ∧ mg_re m i ≤ 500
/-- the sets are se -/
def mSe (b : pB) (m : mS) (se : Nat → Nat) : Prop := ∀ i, i < pb_nL b → mg_se m i = (se i : Int)
theorem mC_take (m : mS) (l : Nat) : mC (mk_take m l) = mC m := mk_take_keep (P := mC) (fun _ _ => rfl) (fun _ _ => rfl) (fun _ _ => rfl) m l
theorem se_take (m : mS) (l : Nat) : mg_se (mk_take m l) = mg_se m := mk_take_keep (P := fun m => mg_se m) (fun _ _ => rfl) (fun _ _ => rfl) (fun _ _ => rfl) m l
theorem bs_take (m : mS) (l : Nat) : mg_bs (mk_take m l) = mg_bs m := mk_take_keep (P := fun m => mg_bs m) (fun _ _ => rfl) (fun _ _ => rfl) (fun _ _ => rfl) m l
theorem mVl_take {b : pB} {m : mS} {se : Nat → Nat} {y : Nat} (hb : bOK b) (hM : mM b m) (hy : y < pb_nL b) (hs : mSe b m se) (hV : mVl b m se y) (hE : mE m) : mVl b (mk_take m y) se (y + 1) ∧ mE (mk_take m y) := by
  have hT := hb.2.2.2
  have hL := hb.2.2.1
  obtain ⟨h1, h2, h3, h4, h5⟩ := take_rows hb hM hy (hs y hy)
  have hbl := hb.1 y hy
  have hrow := (hV.1 y (Nat.le_refl _)).1
  obtain ⟨c1, c2⟩ := tt_congr (s := se y) hbl (r := sR b se y) (r' := fun j => mg_re m (8 * y + j)) (fun j hj => hrow j hj)
  rw [c1] at h1 h3
  rw [c2] at h5
  have hr : ∀ j, j < pb_nT b → 0 ≤ sR b se y j := fun j hj => (sR_rg hb se y (by omega) j hj).1
  refine ⟨⟨fun i hi => ?_, fun i hi j hj => ?_⟩, fun i hi => ?_⟩
  · by_cases e : i = y + 1
    · subst e
      refine ⟨fun j hj => ?_, ?_⟩
      · rw [h1 j hj, hrow j hj]
        rfl
      · rw [h5, zu_s, (hV.1 y (Nat.le_refl _)).2]
        rfl
    · have h6 := hV.1 i (by omega)
      refine ⟨fun j hj => ?_, ?_⟩
      · rw [h2 _ (by omega)]
        exact h6.1 j hj
      · rw [h5, zu_n (by omega)]
        exact h6.2
  · by_cases e : i = y
    · subst e
      exact h3 j hj
    · rw [h4 _ (by omega)]
      exact hV.2 i (by omega) j hj
  · by_cases e : 8 * (y + 1) ≤ i ∧ i < 8 * (y + 1) + pb_nT b
    · have e2 : i = 8 * (y + 1) + (i - 8 * (y + 1)) := by omega
      have hj : i - 8 * (y + 1) < pb_nT b := by omega
      have h7 := tR_rg (s := se y) hbl hr hj
      have h8 := hE (8 * y + (i - 8 * (y + 1))) (by omega)
      have h9 := hrow _ hj
      rw [e2, h1 _ hj]
      omega
    · rw [h2 i e]
      exact hE i hi
theorem mSe_of {b : pB} {m m' : mS} {se : Nat → Nat} (h : mSe b m se) (e : mg_se m' = mg_se m) : mSe b m' se := fun i hi => by
  rw [e]
  exact h i hi
theorem mVl_tf {b : pB} {m : mS} {se : Nat → Nat} {y : Nat} (hb : bOK b) (hM : mM b m) (hs : mSe b m se) (hV : mVl b m se y) (hE : mE m) : ∀ j, y + j ≤ pb_nL b → mVl b (mk_tf m y j) se (y + j) ∧ mE (mk_tf m y j)
  | 0, _ => ⟨hV, hE⟩
  | j + 1, hj => by
    obtain ⟨h1, h2⟩ := mVl_tf hb hM hs hV hE j (by omega)
    have eC : mC (mk_tf m y j) = mC m := mk_tf_keep (P := mC) (fun _ _ => rfl) (fun _ _ => rfl) (fun _ _ => rfl) m y j
    have eS : mg_se (mk_tf m y j) = mg_se m := mk_tf_keep (P := fun m => mg_se m) (fun _ _ => rfl) (fun _ _ => rfl) (fun _ _ => rfl) m y j
    exact mVl_take hb (mM_of hM eC) (by omega) (mSe_of hs eS) h1 h2
theorem mRw_of {b : pB} {m : mS} {se : Nat → Nat} {y : Nat} (hb : bOK b) (hM : mM b m) (hs : mSe b m se) (hV : mVl b m se y) (hE : mE m) : mRw m y := by
  intro j hj k hk
  rw [hM.1] at hj
  have hL := hb.2.2.1
  exact (mVl_tf hb hM hs hV hE j (by omega)).2 _ (by omega)
/-- the next row of sets, from line i - 1 down; and the line that changed, or -1 -/
def nX (b : pB) : Nat → (Nat → Nat) → (Nat → Nat) × Int
  | 0, p => (p, -1)
  | i + 1, p => if mk_adv (2 ^ pb_ac b i) (pb_fw b i) 256 (p i + 1) < 2 ^ pb_ac b i then (zN p i (mk_adv (2 ^ pb_ac b i) (pb_fw b i) 256 (p i + 1)), (i : Int)) else nX b i (zN p i 0)
theorem mk_nx_keep {β : Type} {P : mS → β} (h1 : ∀ m v, P (ms_se m v) = P m) : ∀ (i : Nat) (m : mS), P (mk_nx i m).1 = P m
  | 0, m => rfl
  | i + 1, m => by
    simp only [mk_nx]
    split
    · exact h1 _ _
    · exact (mk_nx_keep h1 i _).trans (h1 _ _)
theorem se_se (m : mS) (v : Nat → Int) : mg_se (ms_se m v) = v := rfl
theorem mC_se (m : mS) (v : Nat → Int) : mC (ms_se m v) = mC m := rfl
theorem mk_nx_is {b : pB} : ∀ (i : Nat) (m : mS) (p : Nat → Nat), i ≤ pb_nL b → mM b m → mSe b m p → (mk_nx i m).2 = (nX b i p).2 ∧ mSe b (mk_nx i m).1 (nX b i p).1
  | 0, m, p, _, _, h => ⟨rfl, h⟩
  | i + 1, m, p, hi, hM, h => by
    obtain ⟨a1, a2, a3, a4, -⟩ := hM.2.2 i (by omega)
    have hp := h i (by omega)
    have ev : mk_nv m i = mk_adv (2 ^ pb_ac b i) (pb_fw b i) 256 (p i + 1) := by
      unfold mk_nv
      rw [a1, a4, hp, Int.toNat_natCast, Int.toNat_natCast]
    have hset : ∀ v : Nat, mSe b (ms_se m (zu (mg_se m) i (v : Int))) (zN p i v) := fun v k hk => by
      rw [se_se]
      by_cases e : k = i
      · subst e
        rw [zu_s, zN_s]
      · rw [zu_n e, zN_n e]
        exact h k hk
    simp only [mk_nx, nX]
    rw [ev, a1, Int.toNat_natCast]
    by_cases hc : mk_adv (2 ^ pb_ac b i) (pb_fw b i) 256 (p i + 1) < 2 ^ pb_ac b i
    · rw [if_pos hc, if_pos hc]
      exact ⟨rfl, hset _⟩
    · rw [if_neg hc, if_neg hc]
      exact mk_nx_is i _ _ (by omega) (mM_of hM (mC_se m _)) (hset 0)
/-- below the line that changed nothing changes -/
theorem nX_low {b : pB} : ∀ (i : Nat) (p : Nat → Nat), 0 ≤ (nX b i p).2 → ∃ y : Nat, (nX b i p).2 = (y : Int) ∧ y < i ∧ ∀ k, k < y → (nX b i p).1 k = p k
  | 0, p, h => by
    have e : (nX b 0 p).2 = -1 := rfl
    omega
  | i + 1, p, h => by
    simp only [nX] at h ⊢
    by_cases hc : mk_adv (2 ^ pb_ac b i) (pb_fw b i) 256 (p i + 1) < 2 ^ pb_ac b i
    · rw [if_pos hc]
      exact ⟨i, rfl, by omega, fun k hk => zN_n (by omega)⟩
    · rw [if_neg hc] at h ⊢
      obtain ⟨y, h1, h2, h3⟩ := nX_low i (zN p i 0) h
      exact ⟨y, h1, by omega, fun k hk => by rw [h3 k hk, zN_n (by omega)]⟩
/-- the sets from v on, n numbers looked at -/
def cF (b : pB) (l : Nat) : Nat → Nat → List Nat
  | _, 0 => []
  | v, n + 1 => if pop v ≤ pb_fw b l then v :: cF b l (v + 1) n else cF b l (v + 1) n
theorem cF_app (b : pB) (l : Nat) : ∀ (n v : Nat), cF b l v (n + 1) = cF b l v n ++ (if pop (v + n) ≤ pb_fw b l then [v + n] else [])
  | 0, v => rfl
  | n + 1, v => by
    have e : cF b l v (n + 1 + 1) = if pop v ≤ pb_fw b l then v :: cF b l (v + 1) (n + 1) else cF b l (v + 1) (n + 1) := rfl
    have e2 : cF b l v (n + 1) = if pop v ≤ pb_fw b l then v :: cF b l (v + 1) n else cF b l (v + 1) n := rfl
    rw [e, e2, cF_app b l n (v + 1), show v + 1 + n = v + (n + 1) by omega]
    split <;> rfl
theorem cnd_cF (b : pB) (l : Nat) : ∀ s, cnd b l s = cF b l 0 s
  | 0 => rfl
  | s + 1 => by
    rw [cnd_succ, cF_app, cnd_cF b l s, Nat.zero_add]
theorem adv_cF (b : pB) (l B : Nat) : ∀ (n v g : Nat), B - v = n → n ≤ g → (cF b l v n = [] → B ≤ mk_adv B (pb_fw b l) g v) ∧ ∀ a t, cF b l v n = a :: t → mk_adv B (pb_fw b l) g v = a ∧ a < B ∧ t = cF b l (a + 1) (B - (a + 1))
  | 0, v, g, h, _ => by
    refine ⟨fun _ => ?_, fun a t e => by cases e⟩
    cases g with
    | zero => simp only [mk_adv]; omega
    | succ g =>
      simp only [mk_adv]
      rw [if_neg (by omega)]
      omega
  | n + 1, v, g, h, hg => by
    cases g with
    | zero => omega
    | succ g =>
      have e : cF b l v (n + 1) = if pop v ≤ pb_fw b l then v :: cF b l (v + 1) n else cF b l (v + 1) n := rfl
      simp only [mk_adv]
      rw [e]
      by_cases hp : pop v ≤ pb_fw b l
      · rw [if_pos hp, if_neg (by omega)]
        refine ⟨fun q => (by cases q), fun a t q => ?_⟩
        cases q
        exact ⟨rfl, by omega, by rw [show B - (v + 1) = n by omega]⟩
      · rw [if_neg hp, if_pos ⟨by omega, by omega⟩]
        exact adv_cF b l B n (v + 1) g (by omega) (by omega)
/-- a chain: each row of sets is the next of the one before; behind the last comes out -/
def Ch (b : pB) : (Nat → Nat) → List (Nat → Nat) → ((Nat → Nat) × Int) → Prop
  | a, [], out => nX b (pb_nL b) a = out
  | a, a' :: L, out => (nX b (pb_nL b) a).1 = a' ∧ 0 ≤ (nX b (pb_nL b) a).2 ∧ Ch b a' L out
theorem Ch_app {b : pB} {h : Nat → Nat} {i : Int} {L2 : List (Nat → Nat)} {out : (Nat → Nat) × Int} (hi : 0 ≤ i) (h2 : Ch b h L2 out) : ∀ (L : List (Nat → Nat)) (a : Nat → Nat), Ch b a L (h, i) → Ch b a (L ++ h :: L2) out
  | [], a, h1 => by
    have e : nX b (pb_nL b) a = (h, i) := h1
    exact ⟨by rw [e], by rw [e]; exact hi, h2⟩
  | a' :: L, a, h1 => ⟨h1.1, h1.2.1, Ch_app hi h2 L a' h1.2.2⟩
theorem zN_zN (F : Nat → Nat) (i a c : Nat) : zN (zN F i a) i c = zN F i c := by
  funext j
  by_cases h : j = i
  · subst h
    rw [zN_s, zN_s]
  · rw [zN_n h, zN_n h, zN_n h]
theorem zN_id {F : Nat → Nat} {i v : Nat} (h : F i = v) : zN F i v = F := by
  funext j
  by_cases e : j = i
  · subst e
    rw [zN_s, h]
  · rw [zN_n e]
theorem pop_zero0 : pop 0 = 0 := by decide
theorem sq_chain {b : pB} (hb : bOK b) (hf : ∀ l, l < pb_nL b → 0 ≤ pb_fw b l) : ∀ (j : Nat) {l : Nat} {p : Nat → Nat}, l + j = pb_nL b → (∀ i, l ≤ i → p i = 0) → ∃ T, sq b j p = p :: T ∧ Ch b p T (nX b l p)
  | 0, l, p, hl, hp => by
    have e : l = pb_nL b := by omega
    subst e
    exact ⟨[], rfl, rfl⟩
  | j + 1, l, p, hl, hp => by
    have hlL : l < pb_nL b := by omega
    have hac := (hb.1 l hlL).1
    have hB : 2 ^ pb_ac b l ≤ 256 := Nat.pow_le_pow_right (n := 2) (by decide) hac
    have hB0 := Nat.pow_pos (n := pb_ac b l) (show 0 < 2 by decide)
    rw [sq_succ b j p hl]
    unfold sqP
    rw [cnd_cF]
    -- from a set a on
    have key : ∀ (n : Nat) (t : List Nat) (a : Nat), t.length = n → t = cF b l (a + 1) (2 ^ pb_ac b l - (a + 1)) → a < 2 ^ pb_ac b l → ∃ T, (a :: t).flatMap (fun v => sq b j (zN p l v)) = zN p l a :: T ∧ Ch b (zN p l a) T (nX b l p) := by
      intro n
      induction n with
      | zero =>
        intro t a hn ht ha
        have et : t = [] := List.length_eq_zero_iff.mp hn
        subst et
        obtain ⟨T, e1, e2⟩ := sq_chain hb hf j (l := l + 1) (p := zN p l a) (by omega) (fun i hi => by rw [zN_n (by omega)]; exact hp i (by omega))
        refine ⟨T, by simp [e1], ?_⟩
        have h1 := (adv_cF b l (2 ^ pb_ac b l) _ (a + 1) 256 rfl (by omega)).1 ht.symm
        have e3 : nX b (l + 1) (zN p l a) = nX b l p := by
          simp only [nX]
          rw [zN_s, if_neg (by omega), zN_zN, zN_id (hp l (Nat.le_refl _))]
        rw [e3] at e2
        exact e2
      | succ n ih =>
        intro t a hn ht ha
        match t, hn, ht with
        | a' :: t', hn, ht =>
          obtain ⟨h1, h2, h3⟩ := (adv_cF b l (2 ^ pb_ac b l) _ (a + 1) 256 rfl (by omega)).2 a' t' ht.symm
          obtain ⟨T, e1, e2⟩ := sq_chain hb hf j (l := l + 1) (p := zN p l a) (by omega) (fun i hi => by rw [zN_n (by omega)]; exact hp i (by omega))
          obtain ⟨T2, e3, e4⟩ := ih t' a' (by simpa using hn) h3 h2
          have e5 : nX b (l + 1) (zN p l a) = (zN p l a', (l : Int)) := by
            simp only [nX]
            rw [zN_s, h1, if_pos h2, zN_zN]
          rw [e5] at e2
          refine ⟨T ++ zN p l a' :: T2, ?_, Ch_app (by omega) e4 T _ e2⟩
          rw [List.flatMap_cons, e1, e3]
          rfl
    have e0 : cF b l 0 (2 ^ pb_ac b l) = 0 :: cF b l (0 + 1) (2 ^ pb_ac b l - (0 + 1)) := by
      have e1 : 2 ^ pb_ac b l = (2 ^ pb_ac b l - 1) + 1 := by omega
      have h1 := hf l hlL
      rw [e1]
      have e2 : cF b l 0 (2 ^ pb_ac b l - 1 + 1) = if pop 0 ≤ pb_fw b l then 0 :: cF b l (0 + 1) (2 ^ pb_ac b l - 1) else cF b l (0 + 1) (2 ^ pb_ac b l - 1) := rfl
      rw [e2, if_pos (by rw [pop_zero0]; exact h1)]
      simp
    rw [e0]
    obtain ⟨T, g1, g2⟩ := key _ _ 0 rfl rfl hB0
    rw [zN_id (hp l (Nat.le_refl _))] at g1 g2
    exact ⟨T, g1, g2⟩
/-- the first of the least, of none at the start -/
def gF (b : pB) (o : Option ((Nat → Nat) × Int)) (L : List (Nat → Nat)) : Option ((Nat → Nat) × Int) := L.foldl (fun o p => match o with
  | none => some (p, zT b p)
  | some q => if zT b p < q.2 then some (p, zT b p) else some q) o
theorem gF_some (b : pB) : ∀ (L : List (Nat → Nat)) (q : (Nat → Nat) × Int), gF b (some q) L = some (fF b q L)
  | [], q => rfl
  | a :: L, q => by
    have e : gF b (some q) (a :: L) = gF b (if zT b a < q.2 then some (a, zT b a) else some q) L := rfl
    have e2 : fF b q (a :: L) = fF b (if zT b a < q.2 then (a, zT b a) else q) L := rfl
    rw [e, e2]
    by_cases h : zT b a < q.2
    · rw [if_pos h, if_pos h]
      exact gF_some b L _
    · rw [if_neg h, if_neg h]
      exact gF_some b L _
theorem gF_none (b : pB) (a : Nat → Nat) (L : List (Nat → Nat)) {q : (Nat → Nat) × Int} (h : ∃ p, p ∈ a :: L ∧ zT b p < q.2) : gF b none (a :: L) = some (fF b q (a :: L)) := by
  have e : gF b none (a :: L) = gF b (some (a, zT b a)) L := rfl
  have e2 : fF b q (a :: L) = fF b (if zT b a < q.2 then (a, zT b a) else q) L := rfl
  rw [e, e2, gF_some]
  by_cases hx : zT b a < q.2
  · rw [if_pos hx]
  · rw [if_neg hx]
    obtain ⟨p, hp, hp2⟩ := h
    have hL : ∃ p, p ∈ L ∧ zT b p < q.2 := by
      rcases List.mem_cons.mp hp with rfl | hp
      · omega
      · exact ⟨p, hp, hp2⟩
    rw [fF_start b L (a, zT b a) q (by simp only; omega) hL]
