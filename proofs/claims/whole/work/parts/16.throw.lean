/-! a throw: new X("a written text"), thrown where no handler of the method covers it -/
abbrev am_rx : String := "java/lang/RuntimeException"
def am_xsp (X : String) : List Cond := [.laysStatic tN_ "UNASSIGNED_STACK" am_steD, .laysStatic tN_ "SUPPRESSED_SENTINEL" am_lstD, .castable X X, .declares ⟨"java/lang/RuntimeException", "<init>", "(Ljava/lang/String;)V"⟩, .declares ⟨"java/lang/Exception", "<init>", "(Ljava/lang/String;)V"⟩, .declares ⟨"java/lang/Throwable", "<init>", "(Ljava/lang/String;)V"⟩]
/-- where the class calls an exception's constructor, and where that goes on: the entries, by the kind -/
def am_xi (k : Nat) : Nat := match k with
  | 0 => 181
  | 1 => 51
  | 2 => 126
  | 3 => 152
  | _ => 163
def am_xp (k : Nat) : Nat := match k with
  | 2 => 13
  | _ => 7
def am_xb (k : Nat) : ByteArray := match k with
  | 2 => ⟨#[0x2a, 0x2b, 0xb7, 0x00, 0x0d, 0xb1]⟩
  | _ => ⟨#[0x2a, 0x2b, 0xb7, 0x00, 0x07, 0xb1]⟩
theorem am_xb_ok {k : Nat} (hk : k < 5) : decode (am_xb k) 0 = .ok (.aload_n 0, 1) ∧ decode (am_xb k) 1 = .ok (.aload_n 1, 1) ∧ decode (am_xb k) 2 = .ok (.invokespecial (am_xp k), 3) ∧ decode (am_xb k) 5 = .ok (.return_, 1) := by
  match k, hk with
  | 0, _ => exact ⟨by decide +kernel, by decide +kernel, by decide +kernel, by decide +kernel⟩
  | 1, _ => exact ⟨by decide +kernel, by decide +kernel, by decide +kernel, by decide +kernel⟩
  | 2, _ => exact ⟨by decide +kernel, by decide +kernel, by decide +kernel, by decide +kernel⟩
  | 3, _ => exact ⟨by decide +kernel, by decide +kernel, by decide +kernel, by decide +kernel⟩
  | 4, _ => exact ⟨by decide +kernel, by decide +kernel, by decide +kernel, by decide +kernel⟩
theorem am_xn_ok {k : Nat} (hk : k < 5) : plainName (am_xn k) = true ∧ (am_xn k ≠ "java/lang/invoke/MethodHandle" ∧ am_xn k ≠ "java/lang/invoke/VarHandle") := by
  match k, hk with
  | 0, _ => exact ⟨by decide +kernel, by decide +kernel, by decide +kernel⟩
  | 1, _ => exact ⟨by decide +kernel, by decide +kernel, by decide +kernel⟩
  | 2, _ => exact ⟨by decide +kernel, by decide +kernel, by decide +kernel⟩
  | 3, _ => exact ⟨by decide +kernel, by decide +kernel, by decide +kernel⟩
  | 4, _ => exact ⟨by decide +kernel, by decide +kernel, by decide +kernel⟩
/-- the words that a throw of kind k needs -/
def am_o1 (k : Nat) : List Cond := Jvm.Bundle.passSAtoms (am_xn k) am_rx (am_xp k) (am_xb k)
def am_o2 : List Cond := Jvm.Bundle.chainSAtoms am_rx ["java/lang/Exception"]
def am_o3 (k : Nat) : List Cond := [.methodLink "AllocateSolve" (am_xi k) (Jvm.Bundle.initS (am_xn k)), .instantiable (am_xn k) 6, .selects (am_xn k) Jvm.Bundle.tFill0 Jvm.Bundle.tFill0, .selects (am_xn k) Jvm.Bundle.tFill Jvm.Bundle.tFill,
   .lays (am_xn k) tN_ "cause" "Ljava/lang/Throwable;", .lays (am_xn k) tN_ "stackTrace" am_steD, .lays (am_xn k) tN_ "suppressedExceptions" am_lstD, .lays (am_xn k) tN_ "detailMessage" "Ljava/lang/String;",
   .fieldLink tN_ 198 tN_ "backtrace" "Ljava/lang/Object;", .lays tN_ tN_ "backtrace" "Ljava/lang/Object;", .lays (am_xn k) tN_ "backtrace" "Ljava/lang/Object;"]
theorem kx_t : ∀ w ∈ Jvm.Bundle.throwableAtoms ++ Jvm.Bundle.throwableSAtoms ++ am_o2, (w ∈ lw_tbl ∧ goodWord w = true) ∨ w ∈ am_xsp "" := by decide +kernel
theorem kx_0 : ∀ w ∈ am_o1 0 ++ am_o3 0, (w ∈ lw_tbl ∧ goodWord w = true) ∨ w ∈ am_xsp (am_xn 0) := by decide +kernel
theorem kx_1 : ∀ w ∈ am_o1 1 ++ am_o3 1, (w ∈ lw_tbl ∧ goodWord w = true) ∨ w ∈ am_xsp (am_xn 1) := by decide +kernel
theorem kx_2 : ∀ w ∈ am_o1 2 ++ am_o3 2, (w ∈ lw_tbl ∧ goodWord w = true) ∨ w ∈ am_xsp (am_xn 2) := by decide +kernel
theorem kx_3 : ∀ w ∈ am_o1 3 ++ am_o3 3, (w ∈ lw_tbl ∧ goodWord w = true) ∨ w ∈ am_xsp (am_xn 3) := by decide +kernel
theorem kx_4 : ∀ w ∈ am_o1 4 ++ am_o3 4, (w ∈ lw_tbl ∧ goodWord w = true) ∨ w ∈ am_xsp (am_xn 4) := by decide +kernel
theorem kx_all {k : Nat} (hk : k < 5) : ∀ w ∈ am_o1 k ++ am_o3 k, (w ∈ lw_tbl ∧ goodWord w = true) ∨ w ∈ am_xsp (am_xn k) := by
  match k, hk with
  | 0, _ => exact kx_0
  | 1, _ => exact kx_1
  | 2, _ => exact kx_2
  | 3, _ => exact kx_3
  | 4, _ => exact kx_4
theorem am_cast {G : am_G} {s : State} (hK : am_kn G s) {k : Nat} (hk : k < 5) (args : Array Value) : (Cond.castable (am_xn k) (am_xn k)).before args s = true := by
  obtain ⟨h1, h2, h3, h6, h7, h8, h9, h10, h11, h13, h12⟩ := hK
  obtain ⟨c1, c2, e1, e2, e3⟩ := h12 k k hk hk
  cases e1.symm.trans e2
  simp only [decide_true] at e3
  simp [Cond.before, Cond.holds, Cond.value, e1, e3]
theorem am_sp {G : am_G} {s : State} (hK : am_kn G s) (hH : ∀ q : Nat, q < am_b G → s.heap[q]? = (am_B G)[q]?) {X : String} (hX : X = "" ∨ ∃ k, k < 5 ∧ X = am_xn k) {w : Cond} (hw : (w ∈ lw_tbl ∧ goodWord w = true) ∨ w ∈ am_xsp X) (hn : w ≠ .castable "" "") (args : Array Value) : w.before args s = true := by
  obtain ⟨h1, h2, h3, ⟨v6, g6, h6⟩, ⟨v7, g7, h7⟩, h8, h9, h10, h11, h13, h12⟩ := id hK
  rcases hw with ⟨w1, w2⟩ | hsp
  · exact hK.sel w1 w2 args
  · simp only [am_xsp, List.mem_cons, List.not_mem_nil, or_false] at hsp
    rcases hsp with rfl | rfl | rfl | rfl | rfl | rfl
    · exact h6.lays hH args
    · exact h7.lays hH args
    · rcases hX with rfl | ⟨k, hk, rfl⟩
      · exact absurd rfl hn
      · exact am_cast hK hk args
    · exact va_Nw.use rfl (h13 _ (by decide))
    · exact va_Nw.use rfl (h13 _ (by decide))
    · exact va_Nw.use rfl (h13 _ (by decide))
theorem kx_nc : ∀ w ∈ Jvm.Bundle.throwableAtoms ++ Jvm.Bundle.throwableSAtoms ++ am_o2, w ≠ .castable "" "" := by
  intro w hw hc
  subst hc
  simp [Jvm.Bundle.throwableAtoms, Jvm.Bundle.throwableSAtoms, am_o2, Jvm.Bundle.chainSAtoms, Jvm.Bundle.passSAtoms] at hw
theorem am_aT {G : am_G} {s : State} (hK : am_kn G s) (hH : ∀ q : Nat, q < am_b G → s.heap[q]? = (am_B G)[q]?) (args : Array Value) : ∀ w ∈ Jvm.Bundle.throwableAtoms ++ Jvm.Bundle.throwableSAtoms ++ am_o2, w.before args s = true :=
  fun w hw => am_sp hK hH (Or.inl rfl) (kx_t w hw) (kx_nc w hw) args
theorem am_xn_ne {k : Nat} (hk : k < 5) : am_xn k ≠ "" := by
  match k, hk with
  | 0, _ => decide
  | 1, _ => decide
  | 2, _ => decide
  | 3, _ => decide
  | 4, _ => decide
theorem am_aX {G : am_G} {s : State} (hK : am_kn G s) (hH : ∀ q : Nat, q < am_b G → s.heap[q]? = (am_B G)[q]?) {k : Nat} (hk : k < 5) (args : Array Value) : ∀ w ∈ am_o1 k ++ am_o3 k, w.before args s = true := fun w hw =>
  am_sp hK hH (Or.inr ⟨k, hk, rfl⟩) (kx_all hk w hw) (fun hc => by
    subst hc
    simp [am_o1, am_o3, Jvm.Bundle.passSAtoms] at hw) args
