/-! a walk that has room to go deeper -/
theorem am_deep {d d' : Nat} {y : am_Y} {pc : Nat} {ls : List (Option Value)} {st : List Value} {h : am_H} {n cu su : Nat} {Q : am_O → am_H → Nat → Prop} (w : am_W d y pc ls st h n cu su Q) (hd : d ≤ d') : am_W d' y pc ls st h n cu su Q := by
  intro G p e R s m args below meth c lc H locs C hl hr hL
  obtain ⟨c1, c2, c3, c4, c5, c6, c7, c8, c9, c10, c11, c12, c13, c14, c15⟩ := C
  exact w G p e R s m args below meth c lc H locs ⟨c1, c2, c3, c4, c5, c6, c7, c8, c9, c10, c11, c12, by omega, by omega, c15⟩ hl hr hL
