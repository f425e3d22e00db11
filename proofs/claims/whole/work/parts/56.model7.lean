/-! the reference: a line takes -/
theorem az_top {d : Nat} {y : am_Y} {pc : Nat} {ls : List (Option Value)} {st : List Value} {h : am_H} {n cu su : Nat} {Q : am_O → am_H → Nat → Prop} {a b : Int} (e : a = b) (k : am_W d y pc ls (.int (iI b) :: st) h n cu su Q) : am_W d y pc ls (.int (iI a) :: st) h n cu su Q := by
  subst e
  exact k
def mk_t0a (i : Nat) (a : mS) (k : Nat) : mS := ms_ta (ms_re a (zu (mg_re a) (8 * (i + 1) + k) (mg_re a (8 * i + k)))) (zu (mg_ta a) (8 * i + k) 0)
def mk_t0 (i : Nat) (m : mS) (k : Nat) : mS := zf (mk_t0a i) m k
/-- as many as may be taken of a lot -/
def mk_n (m : mS) (i k : Nat) (w : Int) : Int := zn (mg_re m (8 * i + (mg_al m (8 * i + k)).toNat)) w - zn (mg_re m (8 * i + (mg_al m (8 * i + k)).toNat)) w % mg_rl m (4 * i + 1)
def mk_t1 (i : Nat) (q : mS × Int × Int) (k : Nat) : mS × Int × Int :=
  if (mg_se q.1 i).toNat.testBit k = true ∧ mk_n q.1 i k q.2.1 ≠ 0 then
    (ms_re (ms_ta q.1 (zu (mg_ta q.1) (8 * i + (mg_al q.1 (8 * i + k)).toNat) (mk_n q.1 i k q.2.1))) (zu (mg_re q.1) (8 * (i + 1) + (mg_al q.1 (8 * i + k)).toNat) (mg_re q.1 (8 * (i + 1) + (mg_al q.1 (8 * i + k)).toNat) - mk_n q.1 i k q.2.1)), q.2.1 - mk_n q.1 i k q.2.1, q.2.2 + (mk_n q.1 i k q.2.1 * mk_cost q.1 (mg_al q.1 (8 * i + k)).toNat i + 20))
  else q
def mk_t2 (m : mS) (i k : Nat) : mS × Int × Int := zf (mk_t1 i) (mk_t0 i m (mg_nT m), mg_ma m i, 0) k
def mk_t3 (m : mS) (i : Nat) : mS × Int × Int := if mg_rl m (4 * i + 3) = 1 ∧ 0 < (mk_t2 m i (mg_ac m i).toNat).2.1 then (mk_t0 i (mk_t2 m i (mg_ac m i).toNat).1 (mg_nT m), mg_ma m i, 0) else mk_t2 m i (mg_ac m i).toNat
def mk_take (m : mS) (i : Nat) : mS := ms_sp (mk_t3 m i).1 (zu (mg_sp m) (i + 1) (mg_sp m i + (mk_t3 m i).2.2 + 1000 * (mk_t3 m i).2.1))
theorem mk_t0_keep {β : Type} {P : mS → β} (h1 : ∀ m v, P (ms_re m v) = P m) (h2 : ∀ m v, P (ms_ta m v) = P m) (i : Nat) (m : mS) (k : Nat) : P (mk_t0 i m k) = P m := zf_keep (g := mk_t0a i) (P := P) (fun a k => (h2 _ _).trans (h1 _ _)) m k
theorem mk_t1_keep {β : Type} {P : mS → β} (h1 : ∀ m v, P (ms_re m v) = P m) (h2 : ∀ m v, P (ms_ta m v) = P m) (i : Nat) (q : mS × Int × Int) (k : Nat) : P (mk_t1 i q k).1 = P q.1 := by
  unfold mk_t1
  split
  · exact (h1 _ _).trans (h2 _ _)
  · rfl
theorem mk_t2_keep {β : Type} {P : mS → β} (h1 : ∀ m v, P (ms_re m v) = P m) (h2 : ∀ m v, P (ms_ta m v) = P m) (m : mS) (i k : Nat) : P (mk_t2 m i k).1 = P m := (zf_keep (g := mk_t1 i) (P := fun q : mS × Int × Int => P q.1) (fun q k => mk_t1_keep h1 h2 i q k) (mk_t0 i m (mg_nT m), mg_ma m i, 0) k).trans (mk_t0_keep h1 h2 i m _)
theorem mk_t3_keep {β : Type} {P : mS → β} (h1 : ∀ m v, P (ms_re m v) = P m) (h2 : ∀ m v, P (ms_ta m v) = P m) (m : mS) (i : Nat) : P (mk_t3 m i).1 = P m := by
  unfold mk_t3
  split
  · exact (mk_t0_keep h1 h2 i _ _).trans (mk_t2_keep h1 h2 m i _)
  · exact mk_t2_keep h1 h2 m i _
theorem mk_take_keep {β : Type} {P : mS → β} (h1 : ∀ m v, P (ms_re m v) = P m) (h2 : ∀ m v, P (ms_ta m v) = P m) (h3 : ∀ m v, P (ms_sp m v) = P m) (m : mS) (i : Nat) : P (mk_take m i) = P m := (h3 _ _).trans (mk_t3_keep h1 h2 m i)
theorem mK_ta {m : mS} (h : mK m) (v : Nat → Int) : mK (ms_ta m v) := h
theorem mA_ta {m : mS} (h : mA m) (v : Nat → Int) : mA (ms_ta m v) := h
theorem mA_re {m : mS} (h : mA m) (v : Nat → Int) : mA (ms_re m v) := h
theorem mK_t0 (i : Nat) {m : mS} (h : mK m) (k : Nat) : mK (mk_t0 i m k) := zf_inv (P := mK) (fun a k ha => mK_ta (mK_re ha _) _) h k
theorem mA_t0 (i : Nat) {m : mS} (h : mA m) (k : Nat) : mA (mk_t0 i m k) := zf_inv (P := mA) (fun a k ha => mA_ta (mA_re ha _) _) h k
/-- row i of what is left stays -/
theorem re_zu {m : mS} {F : Nat → Int} {v : Int} {i k j : Nat} (hj : j < 8) (hF : F (8 * i + j) = mg_re m (8 * i + j)) : mg_re (ms_re m (zu F (8 * (i + 1) + k) v)) (8 * i + j) = mg_re m (8 * i + j) := by
  show zu F (8 * (i + 1) + k) v (8 * i + j) = mg_re m (8 * i + j)
  rw [zu_n (by omega)]
  exact hF
theorem re_ta (m : mS) (v : Nat → Int) : mg_re (ms_ta m v) = mg_re m := rfl
theorem mk_t0_row (i : Nat) (m : mS) {j : Nat} (hj : j < 8) : ∀ k, mg_re (mk_t0 i m k) (8 * i + j) = mg_re m (8 * i + j)
  | 0 => rfl
  | k + 1 => by
    have e : mk_t0 i m (k + 1) = mk_t0a i (mk_t0 i m k) k := rfl
    rw [e]
    unfold mk_t0a
    rw [re_ta, re_zu hj rfl]
    exact mk_t0_row i m hj k
theorem mk_t1_row (i : Nat) (q : mS × Int × Int) (k : Nat) {j : Nat} (hj : j < 8) : mg_re (mk_t1 i q k).1 (8 * i + j) = mg_re q.1 (8 * i + j) := by
  unfold mk_t1
  split
  · exact re_zu (m := ms_ta q.1 _) hj rfl
  · rfl
theorem mk_t2_row (m : mS) (i : Nat) {j : Nat} (hj : j < 8) : ∀ k, mg_re (mk_t2 m i k).1 (8 * i + j) = mg_re m (8 * i + j)
  | 0 => mk_t0_row i m hj _
  | k + 1 => (mk_t1_row i (mk_t2 m i k) k hj).trans (mk_t2_row m i hj k)
theorem mk_n_rg {m : mS} {i k : Nat} {w : Int} (hw : 0 ≤ w) (hr : 0 ≤ mg_re m (8 * i + (mg_al m (8 * i + k)).toNat)) (hp : 1 ≤ mg_rl m (4 * i + 1)) : 0 ≤ mk_n m i k w ∧ mk_n m i k w ≤ w ∧ mk_n m i k w ≤ mg_re m (8 * i + (mg_al m (8 * i + k)).toNat) := by
  have hz : 0 ≤ zn (mg_re m (8 * i + (mg_al m (8 * i + k)).toNat)) w ∧ zn (mg_re m (8 * i + (mg_al m (8 * i + k)).toNat)) w ≤ w ∧ zn (mg_re m (8 * i + (mg_al m (8 * i + k)).toNat)) w ≤ mg_re m (8 * i + (mg_al m (8 * i + k)).toNat) := by
    unfold zn
    split <;> omega
  have h1 := Int.emod_nonneg (zn (mg_re m (8 * i + (mg_al m (8 * i + k)).toNat)) w) (show mg_rl m (4 * i + 1) ≠ 0 by omega)
  have h3 := Int.mul_ediv_add_emod (zn (mg_re m (8 * i + (mg_al m (8 * i + k)).toNat)) w) (mg_rl m (4 * i + 1))
  have h4 := Int.mul_nonneg (show 0 ≤ mg_rl m (4 * i + 1) by omega) (Int.ediv_nonneg hz.1 (show 0 ≤ mg_rl m (4 * i + 1) by omega))
  unfold mk_n
  omega
theorem mk_t2_ok {m : mS} (hK : mK m) (hA : mA m) {i : Nat} (hi : i < 6) (hp : 1 ≤ mg_rl m (4 * i + 1)) (hr : ∀ j, j < 8 → 0 ≤ mg_re m (8 * i + j) ∧ mg_re m (8 * i + j) ≤ 500) : ∀ k, k ≤ 8 → mK (mk_t2 m i k).1 ∧ mA (mk_t2 m i k).1 ∧ 0 ≤ (mk_t2 m i k).2.1 ∧ (mk_t2 m i k).2.1 ≤ 200
  | 0, _ => ⟨mK_t0 i hK _, mA_t0 i hA _, (hK.line hi).2.1⟩
  | k + 1, hk => by
    obtain ⟨h1, h2, h3⟩ := mk_t2_ok hK hA hi hp hr k (by omega)
    have e : mk_t2 m i (k + 1) = mk_t1 i (mk_t2 m i k) k := rfl
    have ha := (h2 i hi).2.2.2 k (by omega)
    have hj : (mg_al (mk_t2 m i k).1 (8 * i + k)).toNat < 8 := by omega
    have hr1 := hr _ hj
    have er := mk_t2_row m i hj k
    have ep : mg_rl (mk_t2 m i k).1 (4 * i + 1) = mg_rl m (4 * i + 1) := congrFun (mk_t2_keep (P := fun m => mg_rl m) (fun _ _ => rfl) (fun _ _ => rfl) m i k) _
    have hn := mk_n_rg (m := (mk_t2 m i k).1) (i := i) (k := k) h3.1 (by omega) (by omega)
    rw [e]
    unfold mk_t1
    split
    · exact ⟨mK_re (mK_ta h1 _) _, mA_re (mA_ta h2 _) _, by simp only; omega⟩
    · exact ⟨h1, h2, h3⟩
set_option maxHeartbeats 1000000 in
set_option maxRecDepth 20000 in
theorem sp_M_take {d : Nat} {x : am_C} {c : cS} {m : mS} {t : List am_C} {n : Nat} {l : Nat} (hK : mK m) (hA : mA m) (hl : l < 6) (hp : 1 ≤ mg_rl m (4 * l + 1)) (hr : ∀ j, j < 8 → 0 ≤ mg_re m (8 * l + j) ∧ mg_re m (8 * l + j) ≤ 500) : am_W (d + 1) km_M_take 0 [some (.ref 50), some (.int (iI l)), none, none, none, none, none] [] (hC x c (hM m t)) n 0 0 (am_eq none (hC x c (hM (mk_take m l) t)) n) := by
  obtain ⟨hT, hL⟩ := hK.nn
  have hac0 := (hA l hl).1
  have hse0 := (hA l hl).2.1
  have hli0 := hK.line hl
  have fin : ∀ (q : mS × Int × Int) (w4 w5 w6 : Option Value), mk_t3 m l = q → mg_sp q.1 = mg_sp m → am_W (d + 1) km_M_take 315 [some (.ref 50), some (.int (iI l)), some (.int (iI q.2.1)), some (.int (iI q.2.2)), w4, w5, w6] [] (hC x c (hM q.1 t)) n 0 0 (am_eq none (hC x c (hM (mk_take m l) t)) n) := by
    intro q w4 w5 w6 eq esp
    refine ar_aload_n kd_M_take_315 rfl ?_
    refine ar_get (ci := 5) (k := 19) kd_M_take_316 rfl kw_638 (by decide) rfl rfl ?_
    refine ar_iload_n kd_M_take_319 rfl ?_
    refine ar_iconst kd_M_take_320 ?_
    refine az_iadd kd_M_take_321 ?_
    refine ar_aload_n kd_M_take_322 rfl ?_
    refine ar_get (ci := 5) (k := 19) kd_M_take_323 rfl kw_638 (by decide) rfl rfl ?_
    refine ar_iload_n kd_M_take_326 rfl ?_
    refine az_iald kd_M_take_327 rfl (k := l) (by omega) (by omega) ?_
    refine ar_iload_n kd_M_take_328 rfl ?_
    refine az_iadd kd_M_take_329 ?_
    refine az_sipush kd_M_take_330 (by decide) ?_
    refine ar_iload_n kd_M_take_333 rfl ?_
    refine az_imul kd_M_take_334 ?_
    refine az_iadd kd_M_take_335 ?_
    refine az_iast kd_M_take_336 rfl rfl (k := l + 1) rfl (by omega) ?_
    rw [hv_sp]
    refine ar_heap (h' := hC x c (hM (mk_take m l) t)) (by unfold mk_take; rw [eq, esp]) ?_
    refine ar_return kd_M_take_337 rfl (Nat.le_of_ble_eq_true rfl) (Nat.le_of_ble_eq_true rfl) ?_
    exact ⟨rfl, rfl, rfl⟩
  have loopC : mg_rl m (4 * l + 3) = 1 → 0 < (mk_t2 m l (mg_ac m l).toNat).2.1 → ∀ (f i : Nat), i ≤ mg_nT m → mg_nT m - i < f → ∀ (w1 w2 : Option Value), am_W (d + 1) km_M_take 252 [some (.ref 50), some (.int (iI l)), some (.int (iI ((mk_t2 m l (mg_ac m l).toNat).2.1))), some (.int (iI ((mk_t2 m l (mg_ac m l).toNat).2.2))), some (.int (iI i)), w1, w2] [] (hC x c (hM (mk_t0 l ((mk_t2 m l (mg_ac m l).toNat).1) i) t)) n 0 0 (am_eq none (hC x c (hM (mk_take m l) t)) n) := by
    intro hw3 hw4
    intro f
    induction f with
    | zero => intro i h1 h2 w1 w2; omega
    | succ f ih =>
      intro i h1 h2 w1 w2
      have eT : mg_nT (mk_t0 l ((mk_t2 m l (mg_ac m l).toNat).1) i) = mg_nT m := (mk_t0_keep (P := fun m => mg_nT m) (fun _ _ => rfl) (fun _ _ => rfl) l ((mk_t2 m l (mg_ac m l).toNat).1) i).trans (mk_t2_keep (P := fun m => mg_nT m) (fun _ _ => rfl) (fun _ _ => rfl) m l _)
      refine ar_iload kd_M_take_252 rfl ?_
      refine ar_aload_n kd_M_take_254 rfl ?_
      refine ar_get (ci := 5) (k := 1) kd_M_take_255 rfl kw_620 (by decide) rfl rfl ?_
      refine az_icmp_ge (tg := 306) kd_M_take_258 (by decide) (fun qi => ?_) (fun qi => ?_)
      · obtain rfl : i = mg_nT m := by omega
        have ema : mg_ma (mk_t0 l (mk_t2 m l (mg_ac m l).toNat).1 (mg_nT m)) l = mg_ma m l := congrFun ((mk_t0_keep (P := fun m => mg_ma m) (fun _ _ => rfl) (fun _ _ => rfl) l _ _).trans (mk_t2_keep (P := fun m => mg_ma m) (fun _ _ => rfl) (fun _ _ => rfl) m l _)) l
        refine ar_iconst kd_M_take_306 ?_
        refine ar_istore_n kd_M_take_307 (Nat.le_of_ble_eq_true rfl) rfl ?_
        dsimp only [List.set]
        refine ar_aload_n kd_M_take_308 rfl ?_
        refine ar_get (ci := 5) (k := 8) kd_M_take_309 rfl kw_627 (by decide) rfl rfl ?_
        refine ar_iload_n kd_M_take_312 rfl ?_
        refine az_iald kd_M_take_313 rfl (k := l) (by omega) (by omega) ?_
        rw [ema]
        refine ar_istore_n kd_M_take_314 (Nat.le_of_ble_eq_true rfl) rfl ?_
        dsimp only [List.set]
        exact fin (mk_t0 l (mk_t2 m l (mg_ac m l).toNat).1 (mg_nT m), mg_ma m l, 0) _ _ _ (if_pos ⟨hw3, by omega⟩) ((mk_t0_keep (P := fun m => mg_sp m) (fun _ _ => rfl) (fun _ _ => rfl) l _ _).trans (mk_t2_keep (P := fun m => mg_sp m) (fun _ _ => rfl) (fun _ _ => rfl) m l _))
      · refine ar_aload_n kd_M_take_261 rfl ?_
        refine ar_get (ci := 5) (k := 18) kd_M_take_262 rfl kw_637 (by decide) rfl rfl ?_
        refine az_bipush kd_M_take_265 (by decide) ?_
        refine ar_iload_n kd_M_take_267 rfl ?_
        refine ar_iconst kd_M_take_268 ?_
        refine az_iadd kd_M_take_269 ?_
        refine az_imul kd_M_take_270 ?_
        refine ar_iload kd_M_take_271 rfl ?_
        refine az_iadd kd_M_take_273 ?_
        refine ar_aload_n kd_M_take_274 rfl ?_
        refine ar_get (ci := 5) (k := 18) kd_M_take_275 rfl kw_637 (by decide) rfl rfl ?_
        refine az_bipush kd_M_take_278 (by decide) ?_
        refine ar_iload_n kd_M_take_280 rfl ?_
        refine az_imul kd_M_take_281 ?_
        refine ar_iload kd_M_take_282 rfl ?_
        refine az_iadd kd_M_take_284 ?_
        refine az_iald kd_M_take_285 rfl (k := 8 * l + i) (by omega) (by omega) ?_
        refine az_iast kd_M_take_286 rfl rfl (k := 8 * (l + 1) + i) (by omega) (by omega) ?_
        rw [hv_re]
        refine ar_aload_n kd_M_take_287 rfl ?_
        refine ar_get (ci := 5) (k := 20) kd_M_take_288 rfl kw_639 (by decide) rfl rfl ?_
        refine az_bipush kd_M_take_291 (by decide) ?_
        refine ar_iload_n kd_M_take_293 rfl ?_
        refine az_imul kd_M_take_294 ?_
        refine ar_iload kd_M_take_295 rfl ?_
        refine az_iadd kd_M_take_297 ?_
        refine ar_iconst kd_M_take_298 ?_
        refine az_iast kd_M_take_299 rfl rfl (k := 8 * l + i) (by omega) (by omega) ?_
        rw [hv_ta]
        refine az_iinc kd_M_take_300 rfl rfl ?_
        dsimp only [List.set]
        refine ar_goto (tg := 252) kd_M_take_303 (by decide) ?_
        exact ih (i + 1) (by omega) (by omega) _ _
  have loopB : ∀ (f i : Nat), i ≤ (mg_ac m l).toNat → (mg_ac m l).toNat - i < f → ∀ (w1 w2 : Option Value), am_W (d + 1) km_M_take 69 [some (.ref 50), some (.int (iI l)), some (.int (iI (mk_t2 m l i).2.1)), some (.int (iI (mk_t2 m l i).2.2)), some (.int (iI i)), w1, w2] [] (hC x c (hM (mk_t2 m l i).1 t)) n 0 0 (am_eq none (hC x c (hM (mk_take m l) t)) n) := by
    intro f
    induction f with
    | zero => intro i h1 h2 w1 w2; omega
    | succ f ih =>
      intro i h1 h2 w1 w2
      obtain ⟨g1, g2, g3, g4⟩ := mk_t2_ok hK hA hl hp hr i (by omega)
      have eac : mg_ac (mk_t2 m l i).1 l = mg_ac m l := congrFun (mk_t2_keep (P := fun m => mg_ac m) (fun _ _ => rfl) (fun _ _ => rfl) m l i) l
      have ese : mg_se (mk_t2 m l i).1 l = mg_se m l := congrFun (mk_t2_keep (P := fun m => mg_se m) (fun _ _ => rfl) (fun _ _ => rfl) m l i) l
      have erl : mg_rl (mk_t2 m l i).1 = mg_rl m := mk_t2_keep (P := fun m => mg_rl m) (fun _ _ => rfl) (fun _ _ => rfl) m l i
      have hli := g1.line hl
      refine ar_iload kd_M_take_69 rfl ?_
      refine ar_aload_n kd_M_take_71 rfl ?_
      refine ar_get (ci := 5) (k := 15) kd_M_take_72 rfl kw_634 (by decide) rfl rfl ?_
      refine ar_iload_n kd_M_take_75 rfl ?_
      refine az_iald kd_M_take_76 rfl (k := l) (by omega) (by omega) ?_
      refine az_icmp_ge (tg := 231) kd_M_take_77 (by decide) (fun qa => ?_) (fun qa => ?_)
      · obtain rfl : i = (mg_ac m l).toNat := by omega
        refine ar_aload_n kd_M_take_231 rfl ?_
        refine ar_get (ci := 5) (k := 9) kd_M_take_232 rfl kw_628 (by decide) rfl rfl ?_
        refine ar_iconst kd_M_take_235 ?_
        refine ar_iload_n kd_M_take_236 rfl ?_
        refine az_imul kd_M_take_237 ?_
        refine ar_iconst kd_M_take_238 ?_
        refine az_iadd kd_M_take_239 ?_
        refine az_iald kd_M_take_240 rfl (k := 4 * l + 3) (by omega) (by omega) ?_
        rw [congrFun erl (4 * l + 3)]
        refine ar_iconst kd_M_take_241 ?_
        refine az_icmp_ne (tg := 315) kd_M_take_242 (by decide) (fun qw => ?_) (fun qw => ?_)
        · have e3 : mk_t3 m l = (mk_t2 m l (mg_ac m l).toNat) := if_neg (fun q => qw q.1)
          exact fin (mk_t2 m l (mg_ac m l).toNat) _ _ _ e3 (mk_t2_keep (P := fun m => mg_sp m) (fun _ _ => rfl) (fun _ _ => rfl) m l _)
        · refine ar_iload_n kd_M_take_245 rfl ?_
          refine az_if_le (tg := 315) kd_M_take_246 (by decide) (fun qx => ?_) (fun qx => ?_)
          · have e3 : mk_t3 m l = (mk_t2 m l (mg_ac m l).toNat) := if_neg (by omega)
            exact fin (mk_t2 m l (mg_ac m l).toNat) _ _ _ e3 (mk_t2_keep (P := fun m => mg_sp m) (fun _ _ => rfl) (fun _ _ => rfl) m l _)
          · refine ar_iconst kd_M_take_249 ?_
            refine ar_istore kd_M_take_250 (Nat.le_of_ble_eq_true rfl) rfl ?_
            dsimp only [List.set]
            exact loopC (by omega) (by omega) (mg_nT m + 1) 0 (by omega) (by omega) _ _
      · refine ar_aload_n kd_M_take_80 rfl ?_
        refine ar_get (ci := 5) (k := 16) kd_M_take_81 rfl kw_635 (by decide) rfl rfl ?_
        refine ar_iload_n kd_M_take_84 rfl ?_
        refine az_iald kd_M_take_85 rfl (k := l) (by omega) (by omega) ?_
        refine ar_iload kd_M_take_86 rfl ?_
        refine ar_ishr kd_M_take_88 ?_
        refine ar_iconst kd_M_take_89 ?_
        refine ar_iand kd_M_take_90 ?_
        rw [show iI (mg_se (mk_t2 m l i).1 l) = iI (((mg_se (mk_t2 m l i).1 l).toNat : Nat) : Int) from congrArg iI (Int.toNat_of_nonneg (by omega)).symm, ib_bit (by omega) (by omega), ib_zb]
        refine az_if_ne (tg := 97) kd_M_take_91 (by decide) (fun qb => ?_) (fun qb => ?_) (by have := zb_rg ((mg_se (mk_t2 m l i).1 l).toNat.testBit i = true); omega)
        · have hb : (mg_se (mk_t2 m l i).1 l).toNat.testBit i = true := Decidable.byContradiction fun q => qb (if_neg q)
          have ha := (g2 l hl).2.2.2 i (by omega)
          have ea : mg_al (mk_t2 m l i).1 (8 * l + i) = (((mg_al (mk_t2 m l i).1 (8 * l + i)).toNat : Nat) : Int) := (Int.toNat_of_nonneg ha.1).symm
          have hl8 : (mg_al (mk_t2 m l i).1 (8 * l + i)).toNat < 8 := by omega
          have hr1 := hr _ hl8
          have er := mk_t2_row m l hl8 i
          have ep : mg_rl (mk_t2 m l i).1 (4 * l + 1) = mg_rl m (4 * l + 1) := congrFun erl _
          have hn := mk_n_rg (m := (mk_t2 m l i).1) (i := l) (k := i) g3 (by omega) (by omega)
          have hzz : 0 ≤ zn (mg_re (mk_t2 m l i).1 (8 * l + (mg_al (mk_t2 m l i).1 (8 * l + i)).toNat)) (mk_t2 m l i).2.1 ∧ zn (mg_re (mk_t2 m l i).1 (8 * l + (mg_al (mk_t2 m l i).1 (8 * l + i)).toNat)) (mk_t2 m l i).2.1 ≤ 200 := by
            unfold zn
            split <;> omega
          refine ar_aload_n kd_M_take_97 rfl ?_
          refine ar_get (ci := 5) (k := 14) kd_M_take_98 rfl kw_633 (by decide) rfl rfl ?_
          refine az_bipush kd_M_take_101 (by decide) ?_
          refine ar_iload_n kd_M_take_103 rfl ?_
          refine az_imul kd_M_take_104 ?_
          refine ar_iload kd_M_take_105 rfl ?_
          refine az_iadd kd_M_take_107 ?_
          refine az_iald kd_M_take_108 rfl (k := 8 * l + i) (by omega) (by omega) ?_
          refine ar_istore kd_M_take_109 (Nat.le_of_ble_eq_true rfl) rfl ?_
          dsimp only [List.set]
          refine ar_iload_n kd_M_take_111 rfl ?_
          refine ar_aload_n kd_M_take_112 rfl ?_
          refine ar_get (ci := 5) (k := 18) kd_M_take_113 rfl kw_637 (by decide) rfl rfl ?_
          refine az_bipush kd_M_take_116 (by decide) ?_
          refine ar_iload_n kd_M_take_118 rfl ?_
          refine az_imul kd_M_take_119 ?_
          refine ar_iload kd_M_take_120 rfl ?_
          refine az_iadd kd_M_take_122 ?_
          refine az_iald kd_M_take_123 rfl (k := 8 * l + (mg_al (mk_t2 m l i).1 (8 * l + i)).toNat) (by omega) (by omega) ?_
          refine az_icmp_ge (tg := 131) kd_M_take_124 (by decide) (fun qm => ?_) (fun qm => ?_)
          · have ez : mg_re (mk_t2 m l i).1 (8 * l + (mg_al (mk_t2 m l i).1 (8 * l + i)).toNat) = zn (mg_re (mk_t2 m l i).1 (8 * l + (mg_al (mk_t2 m l i).1 (8 * l + i)).toNat)) (mk_t2 m l i).2.1 := (if_neg (by omega)).symm
            refine ar_aload_n kd_M_take_131 rfl ?_
            refine ar_get (ci := 5) (k := 18) kd_M_take_132 rfl kw_637 (by decide) rfl rfl ?_
            refine az_bipush kd_M_take_135 (by decide) ?_
            refine ar_iload_n kd_M_take_137 rfl ?_
            refine az_imul kd_M_take_138 ?_
            refine ar_iload kd_M_take_139 rfl ?_
            refine az_iadd kd_M_take_141 ?_
            refine az_iald kd_M_take_142 rfl (k := 8 * l + (mg_al (mk_t2 m l i).1 (8 * l + i)).toNat) (by omega) (by omega) ?_
            refine az_top ez ?_
            refine ar_istore kd_M_take_143 (Nat.le_of_ble_eq_true rfl) rfl ?_
            dsimp only [List.set]
            refine ar_iload kd_M_take_145 rfl ?_
            refine ar_iload kd_M_take_147 rfl ?_
            refine ar_aload_n kd_M_take_149 rfl ?_
            refine ar_get (ci := 5) (k := 9) kd_M_take_150 rfl kw_628 (by decide) rfl rfl ?_
            refine ar_iconst kd_M_take_153 ?_
            refine ar_iload_n kd_M_take_154 rfl ?_
            refine az_imul kd_M_take_155 ?_
            refine ar_iconst kd_M_take_156 ?_
            refine az_iadd kd_M_take_157 ?_
            refine az_iald kd_M_take_158 rfl (k := 4 * l + 1) (by omega) (by omega) ?_
            refine az_irem kd_M_take_159 (by omega) (by omega) ?_
            refine az_isub kd_M_take_160 ?_
            refine (show am_W _ _ _ _ [.int (iI (mk_n (mk_t2 m l i).1 l i (mk_t2 m l i).2.1))] _ _ _ _ _ from ?_)
            refine ar_istore kd_M_take_161 (Nat.le_of_ble_eq_true rfl) rfl ?_
            dsimp only [List.set]
            refine ar_iload kd_M_take_163 rfl ?_
            refine az_if_ne (tg := 171) kd_M_take_165 (by decide) (fun qn => ?_) (fun qn => ?_)
            · have e1 : mk_t2 m l (i + 1) = (ms_re (ms_ta (mk_t2 m l i).1 (zu (mg_ta (mk_t2 m l i).1) (8 * l + (mg_al (mk_t2 m l i).1 (8 * l + i)).toNat) (mk_n (mk_t2 m l i).1 l i (mk_t2 m l i).2.1))) (zu (mg_re (mk_t2 m l i).1) (8 * (l + 1) + (mg_al (mk_t2 m l i).1 (8 * l + i)).toNat) (mg_re (mk_t2 m l i).1 (8 * (l + 1) + (mg_al (mk_t2 m l i).1 (8 * l + i)).toNat) - mk_n (mk_t2 m l i).1 l i (mk_t2 m l i).2.1)), (mk_t2 m l i).2.1 - mk_n (mk_t2 m l i).1 l i (mk_t2 m l i).2.1, (mk_t2 m l i).2.2 + (mk_n (mk_t2 m l i).1 l i (mk_t2 m l i).2.1 * mk_cost (mk_t2 m l i).1 (mg_al (mk_t2 m l i).1 (8 * l + i)).toNat l + 20)) := if_pos ⟨hb, qn⟩
              refine ar_aload_n kd_M_take_171 rfl ?_
              refine ar_get (ci := 5) (k := 20) kd_M_take_172 rfl kw_639 (by decide) rfl rfl ?_
              refine az_bipush kd_M_take_175 (by decide) ?_
              refine ar_iload_n kd_M_take_177 rfl ?_
              refine az_imul kd_M_take_178 ?_
              refine ar_iload kd_M_take_179 rfl ?_
              refine az_iadd kd_M_take_181 ?_
              refine ar_iload kd_M_take_182 rfl ?_
              refine az_iast kd_M_take_184 rfl rfl (k := 8 * l + (mg_al (mk_t2 m l i).1 (8 * l + i)).toNat) (by omega) (by omega) ?_
              rw [hv_ta]
              refine ar_aload_n kd_M_take_185 rfl ?_
              refine ar_get (ci := 5) (k := 18) kd_M_take_186 rfl kw_637 (by decide) rfl rfl ?_
              refine az_bipush kd_M_take_189 (by decide) ?_
              refine ar_iload_n kd_M_take_191 rfl ?_
              refine ar_iconst kd_M_take_192 ?_
              refine az_iadd kd_M_take_193 ?_
              refine az_imul kd_M_take_194 ?_
              refine ar_iload kd_M_take_195 rfl ?_
              refine az_iadd kd_M_take_197 ?_
              refine ar_dup2 kd_M_take_198 rfl rfl ?_
              refine az_iald kd_M_take_199 rfl (k := 8 * (l + 1) + (mg_al (mk_t2 m l i).1 (8 * l + i)).toNat) (by omega) (by omega) ?_
              refine ar_iload kd_M_take_200 rfl ?_
              refine az_isub kd_M_take_202 ?_
              refine az_iast kd_M_take_203 rfl rfl (k := 8 * (l + 1) + (mg_al (mk_t2 m l i).1 (8 * l + i)).toNat) (by omega) (by omega) ?_
              rw [hv_re]
              refine ar_iload_n kd_M_take_204 rfl ?_
              refine ar_iload kd_M_take_205 rfl ?_
              refine az_isub kd_M_take_207 ?_
              refine ar_istore_n kd_M_take_208 (Nat.le_of_ble_eq_true rfl) rfl ?_
              dsimp only [List.set]
              refine ar_iload_n kd_M_take_209 rfl ?_
              refine ar_iload kd_M_take_210 rfl ?_
              refine ar_aload_n kd_M_take_212 rfl ?_
              refine ar_iload kd_M_take_213 rfl ?_
              refine ar_iload_n kd_M_take_215 rfl ?_
              refine az_callv (z := km_M_costOf) (As := [_, _]) (ci := 5) kd_M_take_216 kw_764 kw_766 rfl ks_M_costOf kz_M_costOf rfl rfl rfl rfl rfl (Nat.le_of_ble_eq_true rfl) (Nat.le_of_ble_eq_true rfl) rfl (am_deep (sp_M_costOfU (d := 0) (k := (mg_al (mk_t2 m l i).1 (8 * l + i)).toNat) hl8 hl ea (mK_re (mK_ta g1 _) _)) (by omega)) ?_
              refine az_imul kd_M_take_219 ?_
              refine az_bipush kd_M_take_220 (by decide) ?_
              refine az_iadd kd_M_take_222 ?_
              refine az_iadd kd_M_take_223 ?_
              refine ar_istore_n kd_M_take_224 (Nat.le_of_ble_eq_true rfl) rfl ?_
              dsimp only [List.set]
              refine az_iinc kd_M_take_225 rfl rfl ?_
              dsimp only [List.set]
              refine ar_goto (tg := 69) kd_M_take_228 (by decide) ?_
              first | (have h9 := ih (i + 1) (by omega) (by omega) w1 w2; rw [e1] at h9; exact h9) | (have h9 := ih (i + 1) (by omega) (by omega) (some (.int (iI (mg_al (mk_t2 m l i).1 (8 * l + i))))) w2; rw [e1] at h9; exact h9) | (have h9 := ih (i + 1) (by omega) (by omega) (some (.int (iI (mg_al (mk_t2 m l i).1 (8 * l + i))))) (some (.int (iI (mk_n (mk_t2 m l i).1 l i (mk_t2 m l i).2.1)))); rw [e1] at h9; exact h9)
            · have e1 : mk_t2 m l (i + 1) = mk_t2 m l i := if_neg (fun q => q.2 qn)
              refine ar_goto (tg := 225) kd_M_take_168 (by decide) ?_
              refine az_iinc kd_M_take_225 rfl rfl ?_
              dsimp only [List.set]
              refine ar_goto (tg := 69) kd_M_take_228 (by decide) ?_
              first | (have h9 := ih (i + 1) (by omega) (by omega) w1 w2; rw [e1] at h9; exact h9) | (have h9 := ih (i + 1) (by omega) (by omega) (some (.int (iI (mg_al (mk_t2 m l i).1 (8 * l + i))))) w2; rw [e1] at h9; exact h9) | (have h9 := ih (i + 1) (by omega) (by omega) (some (.int (iI (mg_al (mk_t2 m l i).1 (8 * l + i))))) (some (.int (iI (mk_n (mk_t2 m l i).1 l i (mk_t2 m l i).2.1)))); rw [e1] at h9; exact h9)
          · have ez : (mk_t2 m l i).2.1 = zn (mg_re (mk_t2 m l i).1 (8 * l + (mg_al (mk_t2 m l i).1 (8 * l + i)).toNat)) (mk_t2 m l i).2.1 := (if_pos (by omega)).symm
            refine ar_iload_n kd_M_take_127 rfl ?_
            refine ar_goto (tg := 143) kd_M_take_128 (by decide) ?_
            refine az_top ez ?_
            refine ar_istore kd_M_take_143 (Nat.le_of_ble_eq_true rfl) rfl ?_
            dsimp only [List.set]
            refine ar_iload kd_M_take_145 rfl ?_
            refine ar_iload kd_M_take_147 rfl ?_
            refine ar_aload_n kd_M_take_149 rfl ?_
            refine ar_get (ci := 5) (k := 9) kd_M_take_150 rfl kw_628 (by decide) rfl rfl ?_
            refine ar_iconst kd_M_take_153 ?_
            refine ar_iload_n kd_M_take_154 rfl ?_
            refine az_imul kd_M_take_155 ?_
            refine ar_iconst kd_M_take_156 ?_
            refine az_iadd kd_M_take_157 ?_
            refine az_iald kd_M_take_158 rfl (k := 4 * l + 1) (by omega) (by omega) ?_
            refine az_irem kd_M_take_159 (by omega) (by omega) ?_
            refine az_isub kd_M_take_160 ?_
            refine (show am_W _ _ _ _ [.int (iI (mk_n (mk_t2 m l i).1 l i (mk_t2 m l i).2.1))] _ _ _ _ _ from ?_)
            refine ar_istore kd_M_take_161 (Nat.le_of_ble_eq_true rfl) rfl ?_
            dsimp only [List.set]
            refine ar_iload kd_M_take_163 rfl ?_
            refine az_if_ne (tg := 171) kd_M_take_165 (by decide) (fun qn => ?_) (fun qn => ?_)
            · have e1 : mk_t2 m l (i + 1) = (ms_re (ms_ta (mk_t2 m l i).1 (zu (mg_ta (mk_t2 m l i).1) (8 * l + (mg_al (mk_t2 m l i).1 (8 * l + i)).toNat) (mk_n (mk_t2 m l i).1 l i (mk_t2 m l i).2.1))) (zu (mg_re (mk_t2 m l i).1) (8 * (l + 1) + (mg_al (mk_t2 m l i).1 (8 * l + i)).toNat) (mg_re (mk_t2 m l i).1 (8 * (l + 1) + (mg_al (mk_t2 m l i).1 (8 * l + i)).toNat) - mk_n (mk_t2 m l i).1 l i (mk_t2 m l i).2.1)), (mk_t2 m l i).2.1 - mk_n (mk_t2 m l i).1 l i (mk_t2 m l i).2.1, (mk_t2 m l i).2.2 + (mk_n (mk_t2 m l i).1 l i (mk_t2 m l i).2.1 * mk_cost (mk_t2 m l i).1 (mg_al (mk_t2 m l i).1 (8 * l + i)).toNat l + 20)) := if_pos ⟨hb, qn⟩
              refine ar_aload_n kd_M_take_171 rfl ?_
              refine ar_get (ci := 5) (k := 20) kd_M_take_172 rfl kw_639 (by decide) rfl rfl ?_
              refine az_bipush kd_M_take_175 (by decide) ?_
              refine ar_iload_n kd_M_take_177 rfl ?_
              refine az_imul kd_M_take_178 ?_
              refine ar_iload kd_M_take_179 rfl ?_
              refine az_iadd kd_M_take_181 ?_
              refine ar_iload kd_M_take_182 rfl ?_
              refine az_iast kd_M_take_184 rfl rfl (k := 8 * l + (mg_al (mk_t2 m l i).1 (8 * l + i)).toNat) (by omega) (by omega) ?_
              rw [hv_ta]
              refine ar_aload_n kd_M_take_185 rfl ?_
              refine ar_get (ci := 5) (k := 18) kd_M_take_186 rfl kw_637 (by decide) rfl rfl ?_
              refine az_bipush kd_M_take_189 (by decide) ?_
              refine ar_iload_n kd_M_take_191 rfl ?_
              refine ar_iconst kd_M_take_192 ?_
              refine az_iadd kd_M_take_193 ?_
              refine az_imul kd_M_take_194 ?_
              refine ar_iload kd_M_take_195 rfl ?_
              refine az_iadd kd_M_take_197 ?_
              refine ar_dup2 kd_M_take_198 rfl rfl ?_
              refine az_iald kd_M_take_199 rfl (k := 8 * (l + 1) + (mg_al (mk_t2 m l i).1 (8 * l + i)).toNat) (by omega) (by omega) ?_
              refine ar_iload kd_M_take_200 rfl ?_
              refine az_isub kd_M_take_202 ?_
              refine az_iast kd_M_take_203 rfl rfl (k := 8 * (l + 1) + (mg_al (mk_t2 m l i).1 (8 * l + i)).toNat) (by omega) (by omega) ?_
              rw [hv_re]
              refine ar_iload_n kd_M_take_204 rfl ?_
              refine ar_iload kd_M_take_205 rfl ?_
              refine az_isub kd_M_take_207 ?_
              refine ar_istore_n kd_M_take_208 (Nat.le_of_ble_eq_true rfl) rfl ?_
              dsimp only [List.set]
              refine ar_iload_n kd_M_take_209 rfl ?_
              refine ar_iload kd_M_take_210 rfl ?_
              refine ar_aload_n kd_M_take_212 rfl ?_
              refine ar_iload kd_M_take_213 rfl ?_
              refine ar_iload_n kd_M_take_215 rfl ?_
              refine az_callv (z := km_M_costOf) (As := [_, _]) (ci := 5) kd_M_take_216 kw_764 kw_766 rfl ks_M_costOf kz_M_costOf rfl rfl rfl rfl rfl (Nat.le_of_ble_eq_true rfl) (Nat.le_of_ble_eq_true rfl) rfl (am_deep (sp_M_costOfU (d := 0) (k := (mg_al (mk_t2 m l i).1 (8 * l + i)).toNat) hl8 hl ea (mK_re (mK_ta g1 _) _)) (by omega)) ?_
              refine az_imul kd_M_take_219 ?_
              refine az_bipush kd_M_take_220 (by decide) ?_
              refine az_iadd kd_M_take_222 ?_
              refine az_iadd kd_M_take_223 ?_
              refine ar_istore_n kd_M_take_224 (Nat.le_of_ble_eq_true rfl) rfl ?_
              dsimp only [List.set]
              refine az_iinc kd_M_take_225 rfl rfl ?_
              dsimp only [List.set]
              refine ar_goto (tg := 69) kd_M_take_228 (by decide) ?_
              first | (have h9 := ih (i + 1) (by omega) (by omega) w1 w2; rw [e1] at h9; exact h9) | (have h9 := ih (i + 1) (by omega) (by omega) (some (.int (iI (mg_al (mk_t2 m l i).1 (8 * l + i))))) w2; rw [e1] at h9; exact h9) | (have h9 := ih (i + 1) (by omega) (by omega) (some (.int (iI (mg_al (mk_t2 m l i).1 (8 * l + i))))) (some (.int (iI (mk_n (mk_t2 m l i).1 l i (mk_t2 m l i).2.1)))); rw [e1] at h9; exact h9)
            · have e1 : mk_t2 m l (i + 1) = mk_t2 m l i := if_neg (fun q => q.2 qn)
              refine ar_goto (tg := 225) kd_M_take_168 (by decide) ?_
              refine az_iinc kd_M_take_225 rfl rfl ?_
              dsimp only [List.set]
              refine ar_goto (tg := 69) kd_M_take_228 (by decide) ?_
              first | (have h9 := ih (i + 1) (by omega) (by omega) w1 w2; rw [e1] at h9; exact h9) | (have h9 := ih (i + 1) (by omega) (by omega) (some (.int (iI (mg_al (mk_t2 m l i).1 (8 * l + i))))) w2; rw [e1] at h9; exact h9) | (have h9 := ih (i + 1) (by omega) (by omega) (some (.int (iI (mg_al (mk_t2 m l i).1 (8 * l + i))))) (some (.int (iI (mk_n (mk_t2 m l i).1 l i (mk_t2 m l i).2.1)))); rw [e1] at h9; exact h9)
        · have hb : ¬ ((mg_se (mk_t2 m l i).1 l).toNat.testBit i = true) := fun q => by
            have : zb ((mg_se (mk_t2 m l i).1 l).toNat.testBit i = true) = 1 := if_pos q
            omega
          have e1 : mk_t2 m l (i + 1) = mk_t2 m l i := if_neg (fun q => hb q.1)
          refine ar_goto (tg := 225) kd_M_take_94 (by decide) ?_
          refine az_iinc kd_M_take_225 rfl rfl ?_
          dsimp only [List.set]
          refine ar_goto (tg := 69) kd_M_take_228 (by decide) ?_
          first | (have h9 := ih (i + 1) (by omega) (by omega) w1 w2; rw [e1] at h9; exact h9) | (have h9 := ih (i + 1) (by omega) (by omega) (some (.int (iI (mg_al (mk_t2 m l i).1 (8 * l + i))))) w2; rw [e1] at h9; exact h9) | (have h9 := ih (i + 1) (by omega) (by omega) (some (.int (iI (mg_al (mk_t2 m l i).1 (8 * l + i))))) (some (.int (iI (mk_n (mk_t2 m l i).1 l i (mk_t2 m l i).2.1)))); rw [e1] at h9; exact h9)
  have loopA : ∀ (f i : Nat), i ≤ mg_nT m → mg_nT m - i < f → ∀ (w1 w2 : Option Value), am_W (d + 1) km_M_take 12 [some (.ref 50), some (.int (iI l)), some (.int (iI (mg_ma m l))), some (.int (iI (0))), some (.int (iI i)), w1, w2] [] (hC x c (hM (mk_t0 l (m) i) t)) n 0 0 (am_eq none (hC x c (hM (mk_take m l) t)) n) := by
    intro f
    induction f with
    | zero => intro i h1 h2 w1 w2; omega
    | succ f ih =>
      intro i h1 h2 w1 w2
      have eT : mg_nT (mk_t0 l (m) i) = mg_nT m := (mk_t0_keep (P := fun m => mg_nT m) (fun _ _ => rfl) (fun _ _ => rfl) l (m) i)
      refine ar_iload kd_M_take_12 rfl ?_
      refine ar_aload_n kd_M_take_14 rfl ?_
      refine ar_get (ci := 5) (k := 1) kd_M_take_15 rfl kw_620 (by decide) rfl rfl ?_
      refine az_icmp_ge (tg := 66) kd_M_take_18 (by decide) (fun qi => ?_) (fun qi => ?_)
      · obtain rfl : i = mg_nT m := by omega
        refine ar_iconst kd_M_take_66 ?_
        refine ar_istore kd_M_take_67 (Nat.le_of_ble_eq_true rfl) rfl ?_
        dsimp only [List.set]
        exact loopB ((mg_ac m l).toNat + 1) 0 (by omega) (by omega) _ _
      · refine ar_aload_n kd_M_take_21 rfl ?_
        refine ar_get (ci := 5) (k := 18) kd_M_take_22 rfl kw_637 (by decide) rfl rfl ?_
        refine az_bipush kd_M_take_25 (by decide) ?_
        refine ar_iload_n kd_M_take_27 rfl ?_
        refine ar_iconst kd_M_take_28 ?_
        refine az_iadd kd_M_take_29 ?_
        refine az_imul kd_M_take_30 ?_
        refine ar_iload kd_M_take_31 rfl ?_
        refine az_iadd kd_M_take_33 ?_
        refine ar_aload_n kd_M_take_34 rfl ?_
        refine ar_get (ci := 5) (k := 18) kd_M_take_35 rfl kw_637 (by decide) rfl rfl ?_
        refine az_bipush kd_M_take_38 (by decide) ?_
        refine ar_iload_n kd_M_take_40 rfl ?_
        refine az_imul kd_M_take_41 ?_
        refine ar_iload kd_M_take_42 rfl ?_
        refine az_iadd kd_M_take_44 ?_
        refine az_iald kd_M_take_45 rfl (k := 8 * l + i) (by omega) (by omega) ?_
        refine az_iast kd_M_take_46 rfl rfl (k := 8 * (l + 1) + i) (by omega) (by omega) ?_
        rw [hv_re]
        refine ar_aload_n kd_M_take_47 rfl ?_
        refine ar_get (ci := 5) (k := 20) kd_M_take_48 rfl kw_639 (by decide) rfl rfl ?_
        refine az_bipush kd_M_take_51 (by decide) ?_
        refine ar_iload_n kd_M_take_53 rfl ?_
        refine az_imul kd_M_take_54 ?_
        refine ar_iload kd_M_take_55 rfl ?_
        refine az_iadd kd_M_take_57 ?_
        refine ar_iconst kd_M_take_58 ?_
        refine az_iast kd_M_take_59 rfl rfl (k := 8 * l + i) (by omega) (by omega) ?_
        rw [hv_ta]
        refine az_iinc kd_M_take_60 rfl rfl ?_
        dsimp only [List.set]
        refine ar_goto (tg := 12) kd_M_take_63 (by decide) ?_
        exact ih (i + 1) (by omega) (by omega) _ _
  refine ar_aload_n kd_M_take_0 rfl ?_
  refine ar_get (ci := 5) (k := 8) kd_M_take_1 rfl kw_627 (by decide) rfl rfl ?_
  refine ar_iload_n kd_M_take_4 rfl ?_
  refine az_iald kd_M_take_5 rfl (k := l) (by omega) (by omega) ?_
  refine ar_istore_n kd_M_take_6 (Nat.le_of_ble_eq_true rfl) rfl ?_
  dsimp only [List.set]
  refine ar_iconst kd_M_take_7 ?_
  refine ar_istore_n kd_M_take_8 (Nat.le_of_ble_eq_true rfl) rfl ?_
  dsimp only [List.set]
  refine ar_iconst kd_M_take_9 ?_
  refine ar_istore kd_M_take_10 (Nat.le_of_ble_eq_true rfl) rfl ?_
  dsimp only [List.set]
  exact loopA (mg_nT m + 1) 0 (by omega) (by omega) _ _
