/-! THE JUDGEMENT am_W: a walk of one method over a picture of the heap. Cells are numbered: 0 .. 3 are cells that were there at the law's start (the script, three static tables), from 4 on those that the law's run makes, in their order. -/
abbrev am_C : Type := (Nat × (Nat → Int32)) ⊕ (Nat × (Nat → Int64)) ⊕ (Nat × (Nat → Option Nat)) ⊕ (Nat × List Value) ⊕ (Nat × (Nat → Int32))
abbrev am_ia (n : Nat) (f : Nat → Int32) : am_C := .inl (n, f)
abbrev am_la (n : Nat) (f : Nat → Int64) : am_C := .inr (.inl (n, f))
abbrev am_ra (n : Nat) (f : Nat → Option Nat) : am_C := .inr (.inr (.inl (n, f)))
abbrev am_ob (ci : Nat) (fs : List Value) : am_C := .inr (.inr (.inr (.inl (ci, fs))))
abbrev am_za (n : Nat) (f : Nat → Int32) : am_C := .inr (.inr (.inr (.inr (n, f))))
abbrev am_H : Type := List am_C
/-- how a method ends: it returned a value, or it threw an object of a kind (the kind, its number) -/
abbrev am_O : Type := (Option Value) ⊕ (Nat × Nat)
/-- launch, the heap's size at the law's start, the heap there, numbers of the classes, their slots, the addresses of the old cells -/
abbrev am_G : Type := Launch × Nat × Heap × (Nat → ClassId) × (Nat → Nat → Nat) × (Nat → Nat)
abbrev am_l (G : am_G) : Launch := G.1
abbrev am_b (G : am_G) : Nat := G.2.1
abbrev am_B (G : am_G) : Heap := G.2.2.1
abbrev am_cC (G : am_G) : Nat → ClassId := G.2.2.2.1
abbrev am_iS (G : am_G) : Nat → Nat → Nat := G.2.2.2.2.1
abbrev am_od (G : am_G) : Nat → Nat := G.2.2.2.2.2
def am_ad (G : am_G) (k : Nat) : Nat := if k < 4 then am_od G k else am_b G + (k - 4)
def am_cv (G : am_G) : Value → Value
  | .ref k => .ref (am_ad G k)
  | v => v
theorem am_cv_cat (G : am_G) (v : Value) : (am_cv G v).category = v.category := by cases v <;> rfl
theorem am_cv_sum (G : am_G) (st : List Value) : ((st.map (am_cv G)).map fun v => v.category).sum = (st.map fun v => v.category).sum := by
  induction st with
  | nil => rfl
  | cons a t ih => simp only [List.map_cons, List.sum_cons, ih, am_cv_cat]
/-- an array of a type in the heap at a, by its contents -/
def am_ar (s : State) (ty : FieldType) (n : Nat) (f : Nat → Value) (a : Nat) (H : Heap) : Prop :=
  ∃ cell : Cell, H[a]? = some cell ∧ s.isArrayOf cell ty ∧ cell.vm ≠ .unknown ∧ cell.slots.size = n ∧ ∀ j : Nat, j < n → cell.slots[j]? = some (f j)
/-- a cell of the picture, in the heap at a -/
def am_ok (cl : List vw_C) (G : am_G) (s : State) (c : am_C) (a : Nat) (H : Heap) : Prop := match c with
  | .inl q => am_ar s .int q.1 (fun j => .int (q.2 j)) a H
  | .inr (.inl q) => am_ar s .long q.1 (fun j => .long (q.2 j)) a H
  | .inr (.inr (.inl q)) => am_ar s (.array .int) q.1 (fun j => va_rf ((q.2 j).map (am_ad G))) a H
  | .inr (.inr (.inr (.inl q))) => ∃ r : vw_C, cl[q.1]? = some r ∧ t_OB a (am_cC G q.1) r.2.2 (am_iS G q.1) H (vp_V (q.2.map (am_cv G)))
  | .inr (.inr (.inr (.inr q))) => am_ar s .boolean q.1 (fun j => .int (q.2 j)) a H
theorem am_ar.kept {s : State} {ty : FieldType} {n : Nat} {f : Nat → Value} {a : Nat} {H H1 : Heap} (h : am_ar s ty n f a H) (hq : H1[a]? = H[a]?) : am_ar s ty n f a H1 := by
  obtain ⟨cell, h1, h2⟩ := h
  exact ⟨cell, hq.trans h1, h2⟩
theorem am_ar.moved {s U : State} {ty : FieldType} {n : Nat} {f : Nat → Value} {a : Nat} {H : Heap} (hvm : s.vm.Alike U.vm) (h : am_ar s ty n f a H) : am_ar U ty n f a H := by
  obtain ⟨cell, h1, h2, h3⟩ := h
  exact ⟨cell, h1, State.isArrayOf_alike hvm h2, h3⟩
theorem am_ar.lt {s : State} {ty : FieldType} {n : Nat} {f : Nat → Value} {a : Nat} {H : Heap} (h : am_ar s ty n f a H) : a < H.size := by
  obtain ⟨cell, h1, h2⟩ := h
  exact (Array.getElem?_eq_some_iff.mp h1).1
theorem am_ar.set {s : State} {ty : FieldType} {n k : Nat} {f f' : Nat → Value} {a : Nat} {H1 : Heap} {cell : Cell} {v : Value} (ht : s.isArrayOf cell ty) (hv : cell.vm ≠ .unknown) (hn : cell.slots.size = n) (hf : ∀ j : Nat, j < n → cell.slots[j]? = some (f j)) (hk : k < n) (h1 : H1[a]? = some (cell.setSlot k v)) (he : f' k = v) (hne : ∀ j : Nat, j ≠ k → f' j = f j) : am_ar s ty n f' a H1 := by
  refine ⟨cell.setSlot k v, h1, ht, hv, by rw [k2_slotsz]; exact hn, fun j hj => ?_⟩
  by_cases e : j = k
  · subst e
    rw [Cell.slots_setSlot_self _ (by rw [hn]; exact hj), he]
  · rw [slot_ne _ _ (Ne.symm e), hf j hj, hne j e]
theorem am_ok.kept {cl : List vw_C} {G : am_G} {s : State} {c : am_C} {a : Nat} {H H1 : Heap} (h : am_ok cl G s c a H) (hq : H1[a]? = H[a]?) : am_ok cl G s c a H1 := by
  match c, h with
  | .inl q, h => exact am_ar.kept h hq
  | .inr (.inl q), h => exact am_ar.kept h hq
  | .inr (.inr (.inl q)), h => exact am_ar.kept h hq
  | .inr (.inr (.inr (.inl q))), ⟨r, h1, h2⟩ => exact ⟨r, h1, h2.kept hq⟩
  | .inr (.inr (.inr (.inr q))), h => exact am_ar.kept h hq
theorem am_ok.moved {cl : List vw_C} {G : am_G} {s U : State} {c : am_C} {a : Nat} {H : Heap} (hvm : s.vm.Alike U.vm) (h : am_ok cl G s c a H) : am_ok cl G U c a H := by
  match c, h with
  | .inl q, h => exact am_ar.moved hvm h
  | .inr (.inl q), h => exact am_ar.moved hvm h
  | .inr (.inr (.inl q)), h => exact am_ar.moved hvm h
  | .inr (.inr (.inr (.inl q))), ⟨r, h1, h2⟩ => exact ⟨r, h1, h2⟩
  | .inr (.inr (.inr (.inr q))), h => exact am_ar.moved hvm h
theorem am_ok.lt {cl : List vw_C} {G : am_G} {s : State} {c : am_C} {a : Nat} {H : Heap} (h : am_ok cl G s c a H) : a < H.size := by
  match c, h with
  | .inl q, h => exact am_ar.lt h
  | .inr (.inl q), h => exact am_ar.lt h
  | .inr (.inr (.inl q)), h => exact am_ar.lt h
  | .inr (.inr (.inr (.inl q))), ⟨r, h1, h2⟩ =>
    obtain ⟨cl2, h3, -⟩ := h2
    exact (Array.getElem?_eq_some_iff.mp h3).1
  | .inr (.inr (.inr (.inr q))), h => exact am_ar.lt h
/-- the picture h with n numbers given out, in the heap H -/
def am_R (cl : List vw_C) (G : am_G) (s : State) (h : am_H) (n : Nat) (H : Heap) : Prop :=
  4 ≤ n ∧ H.size = am_b G + (n - 4) ∧ (∀ k : Nat, k < 4 → am_od G k < am_b G) ∧ (∀ q : Nat, q < am_b G → H[q]? = (am_B G)[q]?) ∧ ∀ (k : Nat) (c : am_C), h[k]? = some c → k < n ∧ am_ok cl G s c (am_ad G k) H
theorem am_R.moved {cl : List vw_C} {G : am_G} {s U : State} {h : am_H} {n : Nat} {H : Heap} (hvm : s.vm.Alike U.vm) (r : am_R cl G s h n H) : am_R cl G U h n H :=
  ⟨r.1, r.2.1, r.2.2.1, r.2.2.2.1, fun k c hk => ⟨(r.2.2.2.2 k c hk).1, (r.2.2.2.2 k c hk).2.moved hvm⟩⟩
theorem am_ad_ne {G : am_G} {k j : Nat} (ho : ∀ k : Nat, k < 4 → am_od G k < am_b G) (hk : 4 ≤ k) (hj : j ≠ k) : am_ad G j ≠ am_ad G k := by
  unfold am_ad
  rw [if_neg (Nat.not_lt.mpr hk)]
  split
  · rename_i h
    have := ho j h
    omega
  · omega
theorem am_ad_new {G : am_G} {k : Nat} (hk : 4 ≤ k) : am_ad G k = am_b G + (k - 4) := by
  unfold am_ad
  rw [if_neg (Nat.not_lt.mpr hk)]
theorem am_ad_ge {G : am_G} {k : Nat} (hk : 4 ≤ k) : am_b G ≤ am_ad G k := by
  rw [am_ad_new hk]
  omega
/-- a cell is written -/
theorem am_R.put {cl : List vw_C} {G : am_G} {s : State} {h : am_H} {n k : Nat} {c : am_C} {H H1 : Heap} (r : am_R cl G s h n H) (hk : 4 ≤ k) (hn : k < n) (hz : H1.size = H.size) (hq : ∀ q : Nat, q ≠ am_ad G k → H1[q]? = H[q]?) (hc : am_ok cl G s c (am_ad G k) H1) : am_R cl G s (h.set k c) n H1 := by
  obtain ⟨r1, r2, r3, r4, r5⟩ := r
  refine ⟨r1, by rw [hz]; exact r2, r3, fun q hlt => ?_, fun j c' hj => ?_⟩
  · rw [hq q (by have := am_ad_ge (G := G) hk; omega)]
    exact r4 q hlt
  · rw [List.getElem?_set] at hj
    split at hj
    · rename_i e
      subst e
      split at hj
      · cases hj
        exact ⟨hn, hc⟩
      · cases hj
    · rename_i e
      obtain ⟨g1, g2⟩ := r5 j c' hj
      exact ⟨g1, g2.kept (hq _ (am_ad_ne r3 hk (Ne.symm e)))⟩
/-- a cell is made -/
theorem am_R.new {cl : List vw_C} {G : am_G} {s : State} {h : am_H} {n : Nat} {c : am_C} {H H1 : Heap} (r : am_R cl G s h n H) (hl : h.length = n) (hz : H1.size = H.size + 1) (hq : ∀ q : Nat, q < H.size → H1[q]? = H[q]?) (hc : am_ok cl G s c (am_ad G n) H1) : am_R cl G s (h ++ [c]) (n + 1) H1 := by
  obtain ⟨r1, r2, r3, r4, r5⟩ := r
  refine ⟨by omega, by omega, r3, fun q hlt => ?_, fun j c' hj => ?_⟩
  · rw [hq q (by omega)]
    exact r4 q hlt
  · rw [List.getElem?_append] at hj
    split at hj
    · obtain ⟨g1, g2⟩ := r5 j c' hj
      exact ⟨by omega, g2.kept (hq _ g2.lt)⟩
    · rename_i e
      have hj0 : j = n := by
        have := (List.getElem?_eq_some_iff.mp hj).1
        simp at this
        omega
      subst hj0
      rw [hl, Nat.sub_self] at hj
      cases hj
      exact ⟨by omega, hc⟩
/-- a cell is made that the picture leaves out -/
theorem am_R.junk {cl : List vw_C} {G : am_G} {s : State} {h : am_H} {n : Nat} {H H1 : Heap} (r : am_R cl G s h n H) (hz : H1.size = H.size + 1) (hq : ∀ q : Nat, q < H.size → H1[q]? = H[q]?) : am_R cl G s h (n + 1) H1 := by
  obtain ⟨r1, r2, r3, r4, r5⟩ := r
  refine ⟨by omega, by omega, r3, fun q hlt => ?_, fun j c' hj => ?_⟩
  · rw [hq q (by omega)]
    exact r4 q hlt
  · obtain ⟨g1, g2⟩ := r5 j c' hj
    exact ⟨by omega, g2.kept (hq _ g2.lt)⟩
/-- the locals -/
def am_L (G : am_G) (lc : Array Slot) (ls : List (Option Value)) : Prop := lc.size = ls.length ∧ lv_wf lc ∧ ∀ (i : Nat) (v : Value), ls[i]? = some (some v) → lc[i]? = some (.val (am_cv G v))
def am_pr (G : am_G) (ls : List (Option Value)) : List (Nat × Value) := (List.range ls.length).filterMap fun i => match ls[i]? with
  | some (some v) => some (i, am_cv G v)
  | _ => none
theorem am_pr_mem {G : am_G} {ls : List (Option Value)} {q : Nat × Value} : q ∈ am_pr G ls ↔ ∃ v, ls[q.1]? = some (some v) ∧ q.2 = am_cv G v := by
  unfold am_pr
  rw [List.mem_filterMap]
  constructor
  · rintro ⟨i, -, h⟩
    split at h
    · rename_i v hv
      cases h
      exact ⟨v, hv, rfl⟩
    · cases h
  · rintro ⟨v, hv, e⟩
    refine ⟨q.1, List.mem_range.mpr (List.getElem?_eq_some_iff.mp hv).1, ?_⟩
    rw [hv]
    simp only [← e]
theorem am_L.has {G : am_G} {lc : Array Slot} {ls : List (Option Value)} (h : am_L G lc ls) : lv_has lc ls.length (am_pr G ls) := by
  refine ⟨h.1, h.2.1, fun q hq => ?_⟩
  obtain ⟨v, h1, h2⟩ := am_pr_mem.mp hq
  rw [h2]
  exact h.2.2 q.1 v h1
/-- no long ends at place i -/
def am_nc (ls : List (Option Value)) : Nat → Bool
  | 0 => true
  | j + 1 => match ls[j]? with
    | some (some (.long _)) => false
    | some (some (.double _)) => false
    | _ => true
theorem am_nc_spec {ls : List (Option Value)} {i j : Nat} {v : Value} (h : am_nc ls i = true) (hj : j + 1 = i) (hv : ls[j]? = some (some v)) : v.category = 1 := by
  subst hj
  simp only [am_nc, hv] at h
  cases v <;> first | rfl | cases h
theorem am_L.put {G : am_G} {lc lc' : Array Slot} {ls : List (Option Value)} {i : Nat} {v : Value} (h : am_L G lc ls) (hi : i < ls.length) (hn : am_nc ls i = true)
    (h' : lv_has lc' ls.length ((i, am_cv G v) :: (am_pr G ls).filter (fun q => !(q.1 == i) && !(q.1 + 1 == i && q.2.category == 2)))) : am_L G lc' (ls.set i (some v)) := by
  obtain ⟨a1, a2, a3⟩ := h'
  refine ⟨by rw [a1, List.length_set], a2, fun j w hj => ?_⟩
  rw [List.getElem?_set] at hj
  split at hj
  · rename_i e
    subst e
    first
      | (rw [if_pos hi] at hj; cases hj; exact a3 (i, am_cv G v) List.mem_cons_self)
      | (cases hj; exact a3 (i, am_cv G v) List.mem_cons_self)
  · rename_i e
    refine a3 (j, am_cv G w) (List.mem_cons_of_mem _ (List.mem_filter.mpr ⟨am_pr_mem.mpr ⟨w, hj, rfl⟩, ?_⟩))
    have e1 : (j == i) = false := by simpa using fun q => e q.symm
    by_cases e2 : j + 1 = i
    · have c3 : (am_cv G w).category = 1 := by rw [am_cv_cat]; exact am_nc_spec hn e2 hj
      simp [e1, c3]
    · simp [e1, e2]
theorem am_L.put2 {G : am_G} {lc lc' : Array Slot} {ls : List (Option Value)} {i : Nat} {v : Value} (h : am_L G lc ls) (hi : i + 1 < ls.length) (hn : am_nc ls i = true)
    (h' : lv_has lc' ls.length ((i, am_cv G v) :: (am_pr G ls).filter (fun q => !(q.1 == i) && (!(q.1 == i + 1) && !(q.1 + 1 == i && q.2.category == 2))))) : am_L G lc' ((ls.set i (some v)).set (i + 1) none) := by
  obtain ⟨a1, a2, a3⟩ := h'
  refine ⟨by rw [a1, List.length_set, List.length_set], a2, fun j w hj => ?_⟩
  rw [List.getElem?_set] at hj
  split at hj
  · split at hj <;> cases hj
  · rename_i e0
    rw [List.getElem?_set] at hj
    split at hj
    · rename_i e
      subst e
      first
        | (rw [if_pos (by omega)] at hj; cases hj; exact a3 (i, am_cv G v) List.mem_cons_self)
        | (cases hj; exact a3 (i, am_cv G v) List.mem_cons_self)
    · rename_i e
      refine a3 (j, am_cv G w) (List.mem_cons_of_mem _ (List.mem_filter.mpr ⟨am_pr_mem.mpr ⟨w, hj, rfl⟩, ?_⟩))
      have e1 : (j == i) = false := by simpa using fun q => e q.symm
      have e3 : (j == i + 1) = false := by simpa using fun q => e0 q.symm
      by_cases e2 : j + 1 = i
      · have c3 : (am_cv G w).category = 1 := by rw [am_cv_cat]; exact am_nc_spec hn e2 hj
        simp [e1, e3, c3]
      · simp [e1, e3, e2]
theorem am_L.entry (G : am_G) (As : List Value) (nL : Nat) (hA : ∀ v ∈ As, v.category = 1) (hn : As.length ≤ nL) :
    am_L G ((lg_sl (As.map (am_cv G)) ++ List.replicate (nL - (lg_sl (As.map (am_cv G))).length) Slot.unset).toArray) (As.map some ++ List.replicate (nL - As.length) none) := by
  have hsl : ∀ l : List Value, (∀ v ∈ l, v.category = 1) → lg_sl (l.map (am_cv G)) = (l.map (am_cv G)).map Slot.val := by
    intro l
    induction l with
    | nil => intro _; rfl
    | cons a t ih =>
      intro hl
      have h1 : (am_cv G a).category = 1 := by rw [am_cv_cat]; exact hl a List.mem_cons_self
      have h2 := ih (fun v hv => hl v (List.mem_cons_of_mem _ hv))
      unfold lg_sl at h2 ⊢
      simp only [List.map_cons, List.flatMap_cons, h2, h1]
      rfl
  have hE := lv_entry (As.map (am_cv G)) (n := nL) (by rw [hsl As hA]; simpa using hn)
  refine ⟨?_, hE.2.1, fun i v hv => ?_⟩
  · rw [hE.1]
    simp
    omega
  · rw [hsl As hA]
    rw [List.getElem?_append] at hv
    split at hv
    · rename_i hi
      simp only [List.length_map] at hi
      rw [List.getElem?_map] at hv
      cases hAi : As[i]? with
      | none => rw [hAi] at hv; cases hv
      | some w =>
        rw [hAi] at hv
        cases hv
        rw [List.getElem?_toArray, List.getElem?_append_left (by simpa using hi)]
        simp [hAi]
    · rw [List.getElem?_replicate] at hv
      split at hv <;> cases hv
