/-! constants of the pool by whole numbers -/
theorem az_ldc {d : Nat} {y : am_Y} {pc : Nat} {ls : List (Option Value)} {st : List Value} {h : am_H} {n cu su : Nat} {Q : am_O → am_H → Nat → Prop} {i j : Nat} {x : Int32} {u : Int} (hd : decode (am_bc y) pc = .ok (.ldc i, 2)) (hw : tables_1[j]? = some (Jvm.Cond.constant (am_nm y).cls i x)) (hu : x = iI u) (k : am_W d y (pc + 2) ls (.int (iI u) :: st) h n cu su Q) : am_W d y pc ls st h n cu su Q := by
  subst hu
  exact ar_ldc hd hw k
