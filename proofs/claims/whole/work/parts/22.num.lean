/-! numbers: an int by a whole number; rules over such -/
abbrev iI (z : Int) : Int32 := Int32.ofInt z
theorem ii_toInt {z : Int} (h1 : -2147483648 ≤ z) (h2 : z < 2147483648) : (iI z).toInt = z := Int32.toInt_ofInt_of_le (by omega) (by omega)
theorem ii_add (a b : Int) : iI a + iI b = iI (a + b) := (Int32.ofInt_add a b).symm
theorem ii_sub (a b : Int) : iI a - iI b = iI (a - b) := (Int32.ofInt_sub a b).symm
theorem ii_mul (a b : Int) : iI a * iI b = iI (a * b) := (Int32.ofInt_mul a b).symm
theorem ii_neg (a : Int) : -iI a = iI (-a) := (Int32.ofInt_neg a).symm
theorem ii_lt {a b : Int} (ha : -2147483648 ≤ a ∧ a < 2147483648) (hb : -2147483648 ≤ b ∧ b < 2147483648) : iI a < iI b ↔ a < b := by
  rw [Int32.lt_iff_toInt_lt, ii_toInt ha.1 ha.2, ii_toInt hb.1 hb.2]
theorem ii_le {a b : Int} (ha : -2147483648 ≤ a ∧ a < 2147483648) (hb : -2147483648 ≤ b ∧ b < 2147483648) : iI a ≤ iI b ↔ a ≤ b := by
  rw [Int32.le_iff_toInt_le, ii_toInt ha.1 ha.2, ii_toInt hb.1 hb.2]
theorem ii_eq {a b : Int} (ha : -2147483648 ≤ a ∧ a < 2147483648) (hb : -2147483648 ≤ b ∧ b < 2147483648) : iI a = iI b ↔ a = b := by
  constructor
  · intro h
    have := congrArg Int32.toInt h
    rwa [ii_toInt ha.1 ha.2, ii_toInt hb.1 hb.2] at this
  · rintro rfl
    rfl
theorem ii_nat (n : Nat) : iI (n : Int) = nI n := rfl
theorem ii_cl {n : Nat} (h : n < 2147483648) : (iI (n : Int)).toNatClampNeg = n := nI_clamp h
theorem ii_in {n N : Nat} (h : n < N) (hN : N < 2147483648) : vp_in (iI (n : Int)) N := vp_in_nI h hN
theorem ii_of (x : Int32) : ∃ z : Int, x = iI z ∧ -2147483648 ≤ z ∧ z < 2147483648 := by
  refine ⟨x.toInt, ?_, Int32.le_toInt x, ?_⟩
  · exact (Int32.ofInt_toInt x).symm
  · have := Int32.toInt_lt x
    omega
theorem ii_div {a b : Int} (ha : 0 ≤ a ∧ a < 2147483648) (hb : 0 < b ∧ b < 2147483648) : iI a / iI b = iI (a / b) := by
  obtain ⟨n, rfl⟩ := Int.eq_ofNat_of_zero_le ha.1
  obtain ⟨k, rfl⟩ := Int.eq_ofNat_of_zero_le (Int.le_of_lt hb.1)
  have h1 := pk_div (a := n) (d := k) (by omega) (by omega) (by omega)
  exact h1
/-- f, but z at k -/
def zu (F : Nat → Int) (k : Nat) (z : Int) : Nat → Int := fun j => if j = k then z else F j
theorem zu_s (F : Nat → Int) (k : Nat) (z : Int) : zu F k z k = z := if_pos rfl
theorem zu_n {F : Nat → Int} {k j : Nat} {z : Int} (h : j ≠ k) : zu F k z j = F j := if_neg h
theorem zu_upd (F : Nat → Int) (k : Nat) (z : Int) : upd (fun j => iI (F j)) k (iI z) = fun j => iI (zu F k z j) := by
  funext j
  by_cases h : j = k
  · subst h
    rw [pk_us, zu_s]
  · rw [pk_un h, zu_n h]
/-- a row of a grid, put anew -/
def zr (F : Nat → Nat → Int) (i : Nat) (R : Nat → Int) : Nat → Nat → Int := fun a => if a = i then R else F a
theorem zr_s (F : Nat → Nat → Int) (i : Nat) (R : Nat → Int) : zr F i R i = R := if_pos rfl
theorem zr_n {F : Nat → Nat → Int} {i a : Nat} {R : Nat → Int} (h : a ≠ i) : zr F i R a = F a := if_neg h
section AI
variable {d : Nat} {y z : am_Y} {pc : Nat} {ls : List (Option Value)} {st : List Value} {h : am_H} {n cu su : Nat} {Q : am_O → am_H → Nat → Prop}
theorem az_bipush {u : Int} (hd : decode (am_bc y) pc = .ok (.bipush u, 2)) (hu : (Int8.ofInt u).toInt32 = iI u) (k : am_W d y (pc + 2) ls (.int (iI u) :: st) h n cu su Q) : am_W d y pc ls st h n cu su Q := ar_bipush hd (by rw [hu]; exact k)
theorem az_sipush {u : Int} (hd : decode (am_bc y) pc = .ok (.sipush u, 3)) (hu : (Int16.ofInt u).toInt32 = iI u) (k : am_W d y (pc + 3) ls (.int (iI u) :: st) h n cu su Q) : am_W d y pc ls st h n cu su Q := ar_sipush hd (by rw [hu]; exact k)
theorem az_iadd {a b : Int} (hd : decode (am_bc y) pc = .ok (.iadd, 1)) (k : am_W d y (pc + 1) ls (.int (iI (a + b)) :: st) h n cu su Q) : am_W d y pc ls (.int (iI b) :: .int (iI a) :: st) h n cu su Q := ar_iadd hd (by rw [ii_add]; exact k)
theorem az_isub {a b : Int} (hd : decode (am_bc y) pc = .ok (.isub, 1)) (k : am_W d y (pc + 1) ls (.int (iI (a - b)) :: st) h n cu su Q) : am_W d y pc ls (.int (iI b) :: .int (iI a) :: st) h n cu su Q := ar_isub hd (by rw [ii_sub]; exact k)
theorem az_imul {a b : Int} (hd : decode (am_bc y) pc = .ok (.imul, 1)) (k : am_W d y (pc + 1) ls (.int (iI (a * b)) :: st) h n cu su Q) : am_W d y pc ls (.int (iI b) :: .int (iI a) :: st) h n cu su Q := ar_imul hd (by rw [ii_mul]; exact k)
theorem az_ineg {a : Int} (hd : decode (am_bc y) pc = .ok (.ineg, 1)) (k : am_W d y (pc + 1) ls (.int (iI (-a)) :: st) h n cu su Q) : am_W d y pc ls (.int (iI a) :: st) h n cu su Q := ar_ineg hd (by rw [ii_neg]; exact k)
theorem az_iinc {i : Nat} {u a : Int} (hd : decode (am_bc y) pc = .ok (.iinc i u, 3)) (hx : ls[i]? = some (some (.int (iI a)))) (hc : am_nc ls i = true) (k : am_W d y (pc + 3) (ls.set i (some (.int (iI (a + u))))) st h n cu su Q) : am_W d y pc ls st h n cu su Q := ar_iinc hd hx hc (by rw [ii_add]; exact k)
theorem az_if_eq {a : Int} {f : Int} {tg : Nat} (hd : decode (am_bc y) pc = .ok (.ifCond .eq f, 3)) (ht : (pc : Int) + f = (tg : Int)) (kt : a = 0 → am_W d y tg ls st h n cu su Q) (kf : ¬ a = 0 → am_W d y (pc + 3) ls st h n cu su Q) (ha : -2147483648 ≤ a ∧ a < 2147483648 := by omega) : am_W d y pc ls (.int (iI a) :: st) h n cu su Q :=
  ar_if_eq hd ht (fun q => kt ((ii_eq ha (by decide : (-2147483648 : Int) ≤ 0 ∧ (0 : Int) < 2147483648)).mp q)) (fun q => kf (fun e => q ((ii_eq ha (by decide : (-2147483648 : Int) ≤ 0 ∧ (0 : Int) < 2147483648)).mpr e)))
theorem az_icmp_eq {a b : Int} {f : Int} {tg : Nat} (hd : decode (am_bc y) pc = .ok (.if_icmp .eq f, 3)) (ht : (pc : Int) + f = (tg : Int)) (kt : a = b → am_W d y tg ls st h n cu su Q) (kf : ¬ a = b → am_W d y (pc + 3) ls st h n cu su Q) (ha : -2147483648 ≤ a ∧ a < 2147483648 := by omega) (hb : -2147483648 ≤ b ∧ b < 2147483648 := by omega) : am_W d y pc ls (.int (iI b) :: .int (iI a) :: st) h n cu su Q :=
  ar_icmp_eq hd ht (fun q => kt ((ii_eq ha hb).mp q)) (fun q => kf (fun e => q ((ii_eq ha hb).mpr e)))
theorem az_if_ne {a : Int} {f : Int} {tg : Nat} (hd : decode (am_bc y) pc = .ok (.ifCond .ne f, 3)) (ht : (pc : Int) + f = (tg : Int)) (kt : ¬ a = 0 → am_W d y tg ls st h n cu su Q) (kf : a = 0 → am_W d y (pc + 3) ls st h n cu su Q) (ha : -2147483648 ≤ a ∧ a < 2147483648 := by omega) : am_W d y pc ls (.int (iI a) :: st) h n cu su Q :=
  ar_if_ne hd ht (fun q => kt (fun e => q ((ii_eq ha (by decide : (-2147483648 : Int) ≤ 0 ∧ (0 : Int) < 2147483648)).mpr e))) (fun q => kf ((ii_eq ha (by decide : (-2147483648 : Int) ≤ 0 ∧ (0 : Int) < 2147483648)).mp q))
theorem az_icmp_ne {a b : Int} {f : Int} {tg : Nat} (hd : decode (am_bc y) pc = .ok (.if_icmp .ne f, 3)) (ht : (pc : Int) + f = (tg : Int)) (kt : ¬ a = b → am_W d y tg ls st h n cu su Q) (kf : a = b → am_W d y (pc + 3) ls st h n cu su Q) (ha : -2147483648 ≤ a ∧ a < 2147483648 := by omega) (hb : -2147483648 ≤ b ∧ b < 2147483648 := by omega) : am_W d y pc ls (.int (iI b) :: .int (iI a) :: st) h n cu su Q :=
  ar_icmp_ne hd ht (fun q => kt (fun e => q ((ii_eq ha hb).mpr e))) (fun q => kf ((ii_eq ha hb).mp q))
theorem az_if_lt {a : Int} {f : Int} {tg : Nat} (hd : decode (am_bc y) pc = .ok (.ifCond .lt f, 3)) (ht : (pc : Int) + f = (tg : Int)) (kt : a < 0 → am_W d y tg ls st h n cu su Q) (kf : ¬ a < 0 → am_W d y (pc + 3) ls st h n cu su Q) (ha : -2147483648 ≤ a ∧ a < 2147483648 := by omega) : am_W d y pc ls (.int (iI a) :: st) h n cu su Q :=
  ar_if_lt hd ht (fun q => kt ((ii_lt ha (by decide : (-2147483648 : Int) ≤ 0 ∧ (0 : Int) < 2147483648)).mp q)) (fun q => kf (fun e => q ((ii_lt ha (by decide : (-2147483648 : Int) ≤ 0 ∧ (0 : Int) < 2147483648)).mpr e)))
theorem az_icmp_lt {a b : Int} {f : Int} {tg : Nat} (hd : decode (am_bc y) pc = .ok (.if_icmp .lt f, 3)) (ht : (pc : Int) + f = (tg : Int)) (kt : a < b → am_W d y tg ls st h n cu su Q) (kf : ¬ a < b → am_W d y (pc + 3) ls st h n cu su Q) (ha : -2147483648 ≤ a ∧ a < 2147483648 := by omega) (hb : -2147483648 ≤ b ∧ b < 2147483648 := by omega) : am_W d y pc ls (.int (iI b) :: .int (iI a) :: st) h n cu su Q :=
  ar_icmp_lt hd ht (fun q => kt ((ii_lt ha hb).mp q)) (fun q => kf (fun e => q ((ii_lt ha hb).mpr e)))
theorem az_if_ge {a : Int} {f : Int} {tg : Nat} (hd : decode (am_bc y) pc = .ok (.ifCond .ge f, 3)) (ht : (pc : Int) + f = (tg : Int)) (kt : 0 ≤ a → am_W d y tg ls st h n cu su Q) (kf : ¬ 0 ≤ a → am_W d y (pc + 3) ls st h n cu su Q) (ha : -2147483648 ≤ a ∧ a < 2147483648 := by omega) : am_W d y pc ls (.int (iI a) :: st) h n cu su Q :=
  ar_if_ge hd ht (fun q => kt ((ii_le (by decide : (-2147483648 : Int) ≤ 0 ∧ (0 : Int) < 2147483648) ha).mp q)) (fun q => kf (fun e => q ((ii_le (by decide : (-2147483648 : Int) ≤ 0 ∧ (0 : Int) < 2147483648) ha).mpr e)))
theorem az_icmp_ge {a b : Int} {f : Int} {tg : Nat} (hd : decode (am_bc y) pc = .ok (.if_icmp .ge f, 3)) (ht : (pc : Int) + f = (tg : Int)) (kt : b ≤ a → am_W d y tg ls st h n cu su Q) (kf : ¬ b ≤ a → am_W d y (pc + 3) ls st h n cu su Q) (ha : -2147483648 ≤ a ∧ a < 2147483648 := by omega) (hb : -2147483648 ≤ b ∧ b < 2147483648 := by omega) : am_W d y pc ls (.int (iI b) :: .int (iI a) :: st) h n cu su Q :=
  ar_icmp_ge hd ht (fun q => kt ((ii_le hb ha).mp q)) (fun q => kf (fun e => q ((ii_le hb ha).mpr e)))
theorem az_if_gt {a : Int} {f : Int} {tg : Nat} (hd : decode (am_bc y) pc = .ok (.ifCond .gt f, 3)) (ht : (pc : Int) + f = (tg : Int)) (kt : 0 < a → am_W d y tg ls st h n cu su Q) (kf : ¬ 0 < a → am_W d y (pc + 3) ls st h n cu su Q) (ha : -2147483648 ≤ a ∧ a < 2147483648 := by omega) : am_W d y pc ls (.int (iI a) :: st) h n cu su Q :=
  ar_if_gt hd ht (fun q => kt ((ii_lt (by decide : (-2147483648 : Int) ≤ 0 ∧ (0 : Int) < 2147483648) ha).mp q)) (fun q => kf (fun e => q ((ii_lt (by decide : (-2147483648 : Int) ≤ 0 ∧ (0 : Int) < 2147483648) ha).mpr e)))
theorem az_icmp_gt {a b : Int} {f : Int} {tg : Nat} (hd : decode (am_bc y) pc = .ok (.if_icmp .gt f, 3)) (ht : (pc : Int) + f = (tg : Int)) (kt : b < a → am_W d y tg ls st h n cu su Q) (kf : ¬ b < a → am_W d y (pc + 3) ls st h n cu su Q) (ha : -2147483648 ≤ a ∧ a < 2147483648 := by omega) (hb : -2147483648 ≤ b ∧ b < 2147483648 := by omega) : am_W d y pc ls (.int (iI b) :: .int (iI a) :: st) h n cu su Q :=
  ar_icmp_gt hd ht (fun q => kt ((ii_lt hb ha).mp q)) (fun q => kf (fun e => q ((ii_lt hb ha).mpr e)))
theorem az_if_le {a : Int} {f : Int} {tg : Nat} (hd : decode (am_bc y) pc = .ok (.ifCond .le f, 3)) (ht : (pc : Int) + f = (tg : Int)) (kt : a ≤ 0 → am_W d y tg ls st h n cu su Q) (kf : ¬ a ≤ 0 → am_W d y (pc + 3) ls st h n cu su Q) (ha : -2147483648 ≤ a ∧ a < 2147483648 := by omega) : am_W d y pc ls (.int (iI a) :: st) h n cu su Q :=
  ar_if_le hd ht (fun q => kt ((ii_le ha (by decide : (-2147483648 : Int) ≤ 0 ∧ (0 : Int) < 2147483648)).mp q)) (fun q => kf (fun e => q ((ii_le ha (by decide : (-2147483648 : Int) ≤ 0 ∧ (0 : Int) < 2147483648)).mpr e)))
theorem az_icmp_le {a b : Int} {f : Int} {tg : Nat} (hd : decode (am_bc y) pc = .ok (.if_icmp .le f, 3)) (ht : (pc : Int) + f = (tg : Int)) (kt : a ≤ b → am_W d y tg ls st h n cu su Q) (kf : ¬ a ≤ b → am_W d y (pc + 3) ls st h n cu su Q) (ha : -2147483648 ≤ a ∧ a < 2147483648 := by omega) (hb : -2147483648 ≤ b ∧ b < 2147483648 := by omega) : am_W d y pc ls (.int (iI b) :: .int (iI a) :: st) h n cu su Q :=
  ar_icmp_le hd ht (fun q => kt ((ii_le ha hb).mp q)) (fun q => kf (fun e => q ((ii_le ha hb).mpr e)))
theorem az_iald {r N k : Nat} {F : Nat → Int} {u : Int} (hd : decode (am_bc y) pc = .ok (.iaload, 1)) (ho : h[r]? = some (am_ia N (fun j => iI (F j)))) (hu : u = (k : Int)) (hk : k < N) (kk : am_W d y (pc + 1) ls (.int (iI (F k)) :: st) h n cu su Q) (hN : N < 2147483648 := by omega) : am_W d y pc ls (.int (iI u) :: .ref r :: st) h n cu su Q := by
  subst hu
  refine ar_iald hd ho (ii_in hk hN) ?_
  rw [ii_cl (by omega)]
  exact kk
theorem az_iast {r N k : Nat} {F : Nat → Int} {u x : Int} (hd : decode (am_bc y) pc = .ok (.iastore, 1)) (h4 : Nat.ble 4 r = true) (ho : h[r]? = some (am_ia N (fun j => iI (F j)))) (hu : u = (k : Int)) (hk : k < N) (kk : am_W d y (pc + 1) ls st (h.set r (am_ia N (fun j => iI (zu F k x j)))) n cu su Q) (hN : N < 2147483648 := by omega) : am_W d y pc ls (.int (iI x) :: .int (iI u) :: .ref r :: st) h n cu su Q := by
  subst hu
  refine ar_iast hd (Nat.le_of_ble_eq_true h4) ho (ii_in hk hN) ?_
  rw [ii_cl (by omega), zu_upd]
  exact kk
/-- a raw element -/
theorem az_ialdR {r N k : Nat} {f : Nat → Int32} {u : Int} (hd : decode (am_bc y) pc = .ok (.iaload, 1)) (ho : h[r]? = some (am_ia N f)) (hu : u = (k : Int)) (hk : k < N) (kk : am_W d y (pc + 1) ls (.int (f k) :: st) h n cu su Q) (hN : N < 2147483648 := by omega) : am_W d y pc ls (.int (iI u) :: .ref r :: st) h n cu su Q := by
  subst hu
  refine ar_iald hd ho (ii_in hk hN) ?_
  rw [ii_cl (by omega)]
  exact kk
theorem az_iastR {r N k : Nat} {f : Nat → Int32} {u : Int} {x : Int32} (hd : decode (am_bc y) pc = .ok (.iastore, 1)) (h4 : Nat.ble 4 r = true) (ho : h[r]? = some (am_ia N f)) (hu : u = (k : Int)) (hk : k < N) (kk : am_W d y (pc + 1) ls st (h.set r (am_ia N (upd f k x))) n cu su Q) (hN : N < 2147483648 := by omega) : am_W d y pc ls (.int x :: .int (iI u) :: .ref r :: st) h n cu su Q := by
  subst hu
  refine ar_iast hd (Nat.le_of_ble_eq_true h4) ho (ii_in hk hN) ?_
  rw [ii_cl (by omega)]
  exact kk
theorem az_aald {r N k t : Nat} {f : Nat → Option Nat} {u : Int} (hd : decode (am_bc y) pc = .ok (.aaload, 1)) (ho : h[r]? = some (am_ra N f)) (hu : u = (k : Int)) (hk : k < N) (hv : f k = some t) (kk : am_W d y (pc + 1) ls (.ref t :: st) h n cu su Q) (hN : N < 2147483648 := by omega) : am_W d y pc ls (.int (iI u) :: .ref r :: st) h n cu su Q := by
  subst hu
  refine ar_aald hd ho (ii_in hk hN) ?_ kk
  rw [ii_cl (by omega)]
  exact hv
theorem az_zald {r N k : Nat} {f : Nat → Int32} {u : Int} (hd : decode (am_bc y) pc = .ok (.baload, 1)) (ho : h[r]? = some (am_za N f)) (hu : u = (k : Int)) (hk : k < N) (kk : am_W d y (pc + 1) ls (.int (f k) :: st) h n cu su Q) (hN : N < 2147483648 := by omega) : am_W d y pc ls (.int (iI u) :: .ref r :: st) h n cu su Q := by
  subst hu
  refine ar_zald hd ho (ii_in hk hN) ?_
  rw [ii_cl (by omega)]
  exact kk
theorem az_zast {r N k : Nat} {f : Nat → Int32} {u : Int} {x : Int32} (hd : decode (am_bc y) pc = .ok (.bastore, 1)) (h4 : Nat.ble 4 r = true) (ho : h[r]? = some (am_za N f)) (hu : u = (k : Int)) (hk : k < N) (kk : am_W d y (pc + 1) ls st (h.set r (am_za N (upd f k (vp_nar .boolean x)))) n cu su Q) (hN : N < 2147483648 := by omega) : am_W d y pc ls (.int x :: .int (iI u) :: .ref r :: st) h n cu su Q := by
  subst hu
  refine ar_zast hd (Nat.le_of_ble_eq_true h4) ho (ii_in hk hN) ?_
  rw [ii_cl (by omega)]
  exact kk
theorem az_idiv {a b : Int} (hd : decode (am_bc y) pc = .ok (.idiv, 1)) (ha : 0 ≤ a ∧ a < 2147483648) (hb : 0 < b ∧ b < 2147483648) (k : am_W d y (pc + 1) ls (.int (iI (a / b)) :: st) h n cu su Q) : am_W d y pc ls (.int (iI b) :: .int (iI a) :: st) h n cu su Q :=
  ar_idiv hd (fun e => by have := (ii_eq (a := b) (b := 0) (by omega) (by decide)).mp e; omega) (by rw [ii_div ha hb]; exact k)
theorem az_irem {a b : Int} (hd : decode (am_bc y) pc = .ok (.irem, 1)) (ha : 0 ≤ a ∧ a < 2147483648) (hb : 0 < b ∧ b < 2147483648) (k : am_W d y (pc + 1) ls (.int (iI (a % b)) :: st) h n cu su Q) : am_W d y pc ls (.int (iI b) :: .int (iI a) :: st) h n cu su Q :=
  ar_irem hd (fun e => by have := (ii_eq (a := b) (b := 0) (by omega) (by decide)).mp e; omega) (by
    rw [ii_div ha hb, ii_mul, ii_sub]
    have e : a - a / b * b = a % b := by have := Int.emod_def a b; rw [Int.mul_comm]; omega
    rw [e]; exact k)
end AI
