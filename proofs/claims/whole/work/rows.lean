section
-- ===== PART A: goes FIRST, ahead of the names: the tables' words, and 'selects' of the private methods out of them =====
/-- a private method of a class that the tables say can be made, by its rows of tables_1 -/
def lw_okq (q : MethodName × Nat) : Prop := (q.1.cls ≠ "java/lang/invoke/MethodHandle" ∧ q.1.cls ≠ "java/lang/invoke/VarHandle") ∧ Cond.instantiable q.1.cls q.2 ∈ tables_1 ∧ Cond.privateMethod q.1 ∈ tables_1 ∧ Cond.instanceMethod q.1 ∈ tables_1
theorem lw_p0 : lw_okq (⟨"AllocateSolve$Floor", "barsPassed", "(II)I"⟩, 2) := ⟨⟨by decide +kernel, by decide +kernel⟩, List.mem_of_getElem? (i := 26) (by decide +kernel), List.mem_of_getElem? (i := 196) (by decide +kernel), List.mem_of_getElem? (i := 197) (by decide +kernel)⟩
theorem lw_p1 : lw_okq (⟨"AllocateSolve$Floor", "giftsOf", "(I)I"⟩, 2) := ⟨⟨by decide +kernel, by decide +kernel⟩, List.mem_of_getElem? (i := 26) (by decide +kernel), List.mem_of_getElem? (i := 236) (by decide +kernel), List.mem_of_getElem? (i := 237) (by decide +kernel)⟩
theorem lw_p2 : lw_okq (⟨"java/lang/Throwable", "fillInStackTrace", "(I)Ljava/lang/Throwable;"⟩, 6) := ⟨⟨by decide +kernel, by decide +kernel⟩, List.mem_of_getElem? (i := 300) (by decide +kernel), List.mem_of_getElem? (i := 298) (by decide +kernel), List.mem_of_getElem? (i := 299) (by decide +kernel)⟩
theorem lw_p3 : lw_okq (⟨"AllocateSolve$Lots", "putInOrder", "(I)V"⟩, 7) := ⟨⟨by decide +kernel, by decide +kernel⟩, List.mem_of_getElem? (i := 32) (by decide +kernel), List.mem_of_getElem? (i := 350) (by decide +kernel), List.mem_of_getElem? (i := 351) (by decide +kernel)⟩
theorem lw_p4 : lw_okq (⟨"AllocateSolve$Lots", "comesBefore", "(II)Z"⟩, 7) := ⟨⟨by decide +kernel, by decide +kernel⟩, List.mem_of_getElem? (i := 32) (by decide +kernel), List.mem_of_getElem? (i := 354) (by decide +kernel), List.mem_of_getElem? (i := 355) (by decide +kernel)⟩
theorem lw_p5 : lw_okq (⟨"AllocateSolve", "needLine", "(I)V"⟩, 5) := ⟨⟨by decide +kernel, by decide +kernel⟩, List.mem_of_getElem? (i := 18) (by decide +kernel), List.mem_of_getElem? (i := 380) (by decide +kernel), List.mem_of_getElem? (i := 381) (by decide +kernel)⟩
theorem lw_p6 : lw_okq (⟨"AllocateSolve", "needLot", "(I)V"⟩, 5) := ⟨⟨by decide +kernel, by decide +kernel⟩, List.mem_of_getElem? (i := 18) (by decide +kernel), List.mem_of_getElem? (i := 411) (by decide +kernel), List.mem_of_getElem? (i := 412) (by decide +kernel)⟩
theorem lw_p7 : lw_okq (⟨"AllocateSolve$Search", "readBounds", "()V"⟩, 9) := ⟨⟨by decide +kernel, by decide +kernel⟩, List.mem_of_getElem? (i := 129) (by decide +kernel), List.mem_of_getElem? (i := 457) (by decide +kernel), List.mem_of_getElem? (i := 458) (by decide +kernel)⟩
theorem lw_p8 : lw_okq (⟨"AllocateSolve$Search", "take", "(II)I"⟩, 9) := ⟨⟨by decide +kernel, by decide +kernel⟩, List.mem_of_getElem? (i := 129) (by decide +kernel), List.mem_of_getElem? (i := 467) (by decide +kernel), List.mem_of_getElem? (i := 468) (by decide +kernel)⟩
theorem lw_p9 : lw_okq (⟨"AllocateSolve$Search", "keep", "(I)V"⟩, 9) := ⟨⟨by decide +kernel, by decide +kernel⟩, List.mem_of_getElem? (i := 129) (by decide +kernel), List.mem_of_getElem? (i := 481) (by decide +kernel), List.mem_of_getElem? (i := 482) (by decide +kernel)⟩
theorem lw_p10 : lw_okq (⟨"AllocateSolve$Floor", "giveUp", "(II)V"⟩, 2) := ⟨⟨by decide +kernel, by decide +kernel⟩, List.mem_of_getElem? (i := 26) (by decide +kernel), List.mem_of_getElem? (i := 548) (by decide +kernel), List.mem_of_getElem? (i := 549) (by decide +kernel)⟩
theorem lw_p11 : lw_okq (⟨"AllocateSolveModel", "isLine", "(I)Z"⟩, 21) := ⟨⟨by decide +kernel, by decide +kernel⟩, List.mem_of_getElem? (i := 613) (by decide +kernel), List.mem_of_getElem? (i := 703) (by decide +kernel), List.mem_of_getElem? (i := 704) (by decide +kernel)⟩
theorem lw_p12 : lw_okq (⟨"AllocateSolveModel", "isLot", "(I)Z"⟩, 21) := ⟨⟨by decide +kernel, by decide +kernel⟩, List.mem_of_getElem? (i := 613) (by decide +kernel), List.mem_of_getElem? (i := 714) (by decide +kernel), List.mem_of_getElem? (i := 715) (by decide +kernel)⟩
theorem lw_p13 : lw_okq (⟨"AllocateSolveModel", "isAllowed", "(II)Z"⟩, 21) := ⟨⟨by decide +kernel, by decide +kernel⟩, List.mem_of_getElem? (i := 613) (by decide +kernel), List.mem_of_getElem? (i := 722) (by decide +kernel), List.mem_of_getElem? (i := 723) (by decide +kernel)⟩
theorem lw_p14 : lw_okq (⟨"AllocateSolveModel", "passes", "(III)Z"⟩, 21) := ⟨⟨by decide +kernel, by decide +kernel⟩, List.mem_of_getElem? (i := 613) (by decide +kernel), List.mem_of_getElem? (i := 726) (by decide +kernel), List.mem_of_getElem? (i := 727) (by decide +kernel)⟩
theorem lw_p15 : lw_okq (⟨"AllocateSolveModel", "layOut", "()V"⟩, 21) := ⟨⟨by decide +kernel, by decide +kernel⟩, List.mem_of_getElem? (i := 613) (by decide +kernel), List.mem_of_getElem? (i := 735) (by decide +kernel), List.mem_of_getElem? (i := 736) (by decide +kernel)⟩
def lw_privs_1 : List (MethodName × Nat) := [(⟨"AllocateSolve$Floor", "barsPassed", "(II)I"⟩, 2), (⟨"AllocateSolve$Floor", "giftsOf", "(I)I"⟩, 2), (⟨"java/lang/Throwable", "fillInStackTrace", "(I)Ljava/lang/Throwable;"⟩, 6), (⟨"AllocateSolve$Lots", "putInOrder", "(I)V"⟩, 7), (⟨"AllocateSolve$Lots", "comesBefore", "(II)Z"⟩, 7), (⟨"AllocateSolve", "needLine", "(I)V"⟩, 5), (⟨"AllocateSolve", "needLot", "(I)V"⟩, 5), (⟨"AllocateSolve$Search", "readBounds", "()V"⟩, 9), (⟨"AllocateSolve$Search", "take", "(II)I"⟩, 9), (⟨"AllocateSolve$Search", "keep", "(I)V"⟩, 9), (⟨"AllocateSolve$Floor", "giveUp", "(II)V"⟩, 2), (⟨"AllocateSolveModel", "isLine", "(I)Z"⟩, 21), (⟨"AllocateSolveModel", "isLot", "(I)Z"⟩, 21), (⟨"AllocateSolveModel", "isAllowed", "(II)Z"⟩, 21), (⟨"AllocateSolveModel", "passes", "(III)Z"⟩, 21), (⟨"AllocateSolveModel", "layOut", "()V"⟩, 21)]
theorem lw_r1 : ∀ q ∈ lw_privs_1, lw_okq q := List.forall_mem_cons.mpr ⟨lw_p0, List.forall_mem_cons.mpr ⟨lw_p1, List.forall_mem_cons.mpr ⟨lw_p2, List.forall_mem_cons.mpr ⟨lw_p3, List.forall_mem_cons.mpr ⟨lw_p4, List.forall_mem_cons.mpr ⟨lw_p5, List.forall_mem_cons.mpr ⟨lw_p6, List.forall_mem_cons.mpr ⟨lw_p7, List.forall_mem_cons.mpr ⟨lw_p8, List.forall_mem_cons.mpr ⟨lw_p9, List.forall_mem_cons.mpr ⟨lw_p10, List.forall_mem_cons.mpr ⟨lw_p11, List.forall_mem_cons.mpr ⟨lw_p12, List.forall_mem_cons.mpr ⟨lw_p13, List.forall_mem_cons.mpr ⟨lw_p14, List.forall_mem_cons.mpr ⟨lw_p15, fun _ h => absurd h List.not_mem_nil⟩⟩⟩⟩⟩⟩⟩⟩⟩⟩⟩⟩⟩⟩⟩⟩
theorem lw_p16 : lw_okq (⟨"AllocateSolveModel", "lotAt", "(I)I"⟩, 21) := ⟨⟨by decide +kernel, by decide +kernel⟩, List.mem_of_getElem? (i := 613) (by decide +kernel), List.mem_of_getElem? (i := 739) (by decide +kernel), List.mem_of_getElem? (i := 740) (by decide +kernel)⟩
theorem lw_p17 : lw_okq (⟨"AllocateSolveModel", "isBefore", "(II)Z"⟩, 21) := ⟨⟨by decide +kernel, by decide +kernel⟩, List.mem_of_getElem? (i := 613) (by decide +kernel), List.mem_of_getElem? (i := 743) (by decide +kernel), List.mem_of_getElem? (i := 744) (by decide +kernel)⟩
theorem lw_p18 : lw_okq (⟨"AllocateSolveModel", "product", "()J"⟩, 21) := ⟨⟨by decide +kernel, by decide +kernel⟩, List.mem_of_getElem? (i := 613) (by decide +kernel), List.mem_of_getElem? (i := 747) (by decide +kernel), List.mem_of_getElem? (i := 748) (by decide +kernel)⟩
theorem lw_p19 : lw_okq (⟨"AllocateSolveModel", "exactly", "()V"⟩, 21) := ⟨⟨by decide +kernel, by decide +kernel⟩, List.mem_of_getElem? (i := 613) (by decide +kernel), List.mem_of_getElem? (i := 752) (by decide +kernel), List.mem_of_getElem? (i := 753) (by decide +kernel)⟩
theorem lw_p20 : lw_okq (⟨"AllocateSolveModel", "takeFrom", "(I)V"⟩, 21) := ⟨⟨by decide +kernel, by decide +kernel⟩, List.mem_of_getElem? (i := 613) (by decide +kernel), List.mem_of_getElem? (i := 756) (by decide +kernel), List.mem_of_getElem? (i := 757) (by decide +kernel)⟩
theorem lw_p21 : lw_okq (⟨"AllocateSolveModel", "take", "(I)V"⟩, 21) := ⟨⟨by decide +kernel, by decide +kernel⟩, List.mem_of_getElem? (i := 613) (by decide +kernel), List.mem_of_getElem? (i := 760) (by decide +kernel), List.mem_of_getElem? (i := 761) (by decide +kernel)⟩
theorem lw_p22 : lw_okq (⟨"AllocateSolveModel", "costOf", "(II)I"⟩, 21) := ⟨⟨by decide +kernel, by decide +kernel⟩, List.mem_of_getElem? (i := 613) (by decide +kernel), List.mem_of_getElem? (i := 764) (by decide +kernel), List.mem_of_getElem? (i := 765) (by decide +kernel)⟩
theorem lw_p23 : lw_okq (⟨"AllocateSolveModel", "nextSets", "()I"⟩, 21) := ⟨⟨by decide +kernel, by decide +kernel⟩, List.mem_of_getElem? (i := 613) (by decide +kernel), List.mem_of_getElem? (i := 768) (by decide +kernel), List.mem_of_getElem? (i := 769) (by decide +kernel)⟩
theorem lw_p24 : lw_okq (⟨"AllocateSolveModel", "byRule", "()V"⟩, 21) := ⟨⟨by decide +kernel, by decide +kernel⟩, List.mem_of_getElem? (i := 613) (by decide +kernel), List.mem_of_getElem? (i := 775) (by decide +kernel), List.mem_of_getElem? (i := 776) (by decide +kernel)⟩
theorem lw_p25 : lw_okq (⟨"AllocateSolveModel", "giftAt", "(II)I"⟩, 21) := ⟨⟨by decide +kernel, by decide +kernel⟩, List.mem_of_getElem? (i := 613) (by decide +kernel), List.mem_of_getElem? (i := 796) (by decide +kernel), List.mem_of_getElem? (i := 797) (by decide +kernel)⟩
theorem lw_p26 : lw_okq (⟨"AllocateSolveModel", "heldOf", "(I)I"⟩, 21) := ⟨⟨by decide +kernel, by decide +kernel⟩, List.mem_of_getElem? (i := 613) (by decide +kernel), List.mem_of_getElem? (i := 804) (by decide +kernel), List.mem_of_getElem? (i := 805) (by decide +kernel)⟩
theorem lw_p27 : lw_okq (⟨"AllocateSolveModel", "heldBy", "(I)I"⟩, 21) := ⟨⟨by decide +kernel, by decide +kernel⟩, List.mem_of_getElem? (i := 613) (by decide +kernel), List.mem_of_getElem? (i := 824) (by decide +kernel), List.mem_of_getElem? (i := 825) (by decide +kernel)⟩
def lw_privs_2 : List (MethodName × Nat) := [(⟨"AllocateSolveModel", "lotAt", "(I)I"⟩, 21), (⟨"AllocateSolveModel", "isBefore", "(II)Z"⟩, 21), (⟨"AllocateSolveModel", "product", "()J"⟩, 21), (⟨"AllocateSolveModel", "exactly", "()V"⟩, 21), (⟨"AllocateSolveModel", "takeFrom", "(I)V"⟩, 21), (⟨"AllocateSolveModel", "take", "(I)V"⟩, 21), (⟨"AllocateSolveModel", "costOf", "(II)I"⟩, 21), (⟨"AllocateSolveModel", "nextSets", "()I"⟩, 21), (⟨"AllocateSolveModel", "byRule", "()V"⟩, 21), (⟨"AllocateSolveModel", "giftAt", "(II)I"⟩, 21), (⟨"AllocateSolveModel", "heldOf", "(I)I"⟩, 21), (⟨"AllocateSolveModel", "heldBy", "(I)I"⟩, 21)]
theorem lw_r2 : ∀ q ∈ lw_privs_2, lw_okq q := List.forall_mem_cons.mpr ⟨lw_p16, List.forall_mem_cons.mpr ⟨lw_p17, List.forall_mem_cons.mpr ⟨lw_p18, List.forall_mem_cons.mpr ⟨lw_p19, List.forall_mem_cons.mpr ⟨lw_p20, List.forall_mem_cons.mpr ⟨lw_p21, List.forall_mem_cons.mpr ⟨lw_p22, List.forall_mem_cons.mpr ⟨lw_p23, List.forall_mem_cons.mpr ⟨lw_p24, List.forall_mem_cons.mpr ⟨lw_p25, List.forall_mem_cons.mpr ⟨lw_p26, List.forall_mem_cons.mpr ⟨lw_p27, fun _ h => absurd h List.not_mem_nil⟩⟩⟩⟩⟩⟩⟩⟩⟩⟩⟩⟩
def lw_privs : List (MethodName × Nat) := lw_privs_1 ++ (lw_privs_2)
def lw_tbl : List Cond := k2_sels lw_privs ++ tables_1
theorem lw_privs_ok : ∀ q ∈ lw_privs, lw_okq q := by
  show ∀ q ∈ lw_privs_1 ++ (lw_privs_2), lw_okq q
  exact List.forall_mem_append.mpr ⟨lw_r1, lw_r2⟩
-- ===== end of PART A; then your names; then what follows =====
end
section
/-! names: methods of the class, the reference and the law (by program, wip/whole/names.py) -/
abbrev kc_A_init : ByteArray := prog_1_method_1_code
def ky_A_init : MethodName := ⟨"AllocateSolve", "<init>", "()V"⟩
abbrev kc_F_init : ByteArray := prog_2_method_1_code
def ky_F_init : MethodName := ⟨"AllocateSolve$Floor", "<init>", "()V"⟩
abbrev kc_T_init : ByteArray := prog_4_method_1_code
def ky_T_init : MethodName := ⟨"AllocateSolve$Lots", "<init>", "()V"⟩
abbrev kc_N_init : ByteArray := prog_3_method_1_code
def ky_N_init : MethodName := ⟨"AllocateSolve$Lines", "<init>", "()V"⟩
abbrev kc_S_init : ByteArray := prog_5_method_1_code
def ky_S_init : MethodName := ⟨"AllocateSolve$Search", "<init>", "(LAllocateSolve$Floor;)V"⟩
abbrev kc_A_exact : ByteArray := prog_1_method_8_code
def ky_A_exact : MethodName := ⟨"AllocateSolve", "exact", "()Z"⟩
abbrev kc_A_choices : ByteArray := prog_1_method_9_code
def ky_A_choices : MethodName := ⟨"AllocateSolve", "choices", "()I"⟩
abbrev kc_F_countChoices : ByteArray := prog_2_method_6_code
def ky_F_countChoices : MethodName := ⟨"AllocateSolve$Floor", "countChoices", "()I"⟩
abbrev kc_F_allows : ByteArray := prog_2_method_3_code
def ky_F_allows : MethodName := ⟨"AllocateSolve$Floor", "allows", "(II)Z"⟩
abbrev kc_F_barsPassed : ByteArray := prog_2_method_2_code
def ky_F_barsPassed : MethodName := ⟨"AllocateSolve$Floor", "barsPassed", "(II)I"⟩
abbrev kc_N_isBarred : ByteArray := prog_3_method_4_code
def ky_N_isBarred : MethodName := ⟨"AllocateSolve$Lines", "isBarred", "(II)Z"⟩
abbrev kc_A_bound : ByteArray := prog_1_method_10_code
def ky_A_bound : MethodName := ⟨"AllocateSolve", "bound", "()I"⟩
abbrev kc_F_lineBound : ByteArray := prog_2_method_7_code
def ky_F_lineBound : MethodName := ⟨"AllocateSolve$Floor", "lineBound", "(I)I"⟩
abbrev kc_F_pieceCost : ByteArray := prog_2_method_5_code
def ky_F_pieceCost : MethodName := ⟨"AllocateSolve$Floor", "pieceCost", "(II)I"⟩
abbrev kc_A_count : ByteArray := prog_1_method_19_code
def ky_A_count : MethodName := ⟨"AllocateSolve", "count", "(I)I"⟩
abbrev kc_F_totalPieces : ByteArray := prog_2_method_13_code
def ky_F_totalPieces : MethodName := ⟨"AllocateSolve$Floor", "totalPieces", "()I"⟩
abbrev kc_F_piecesOf : ByteArray := prog_2_method_9_code
def ky_F_piecesOf : MethodName := ⟨"AllocateSolve$Floor", "piecesOf", "(I)I"⟩
abbrev kc_F_totalGifts : ByteArray := prog_2_method_14_code
def ky_F_totalGifts : MethodName := ⟨"AllocateSolve$Floor", "totalGifts", "()I"⟩
abbrev kc_F_giftsOf : ByteArray := prog_2_method_10_code
def ky_F_giftsOf : MethodName := ⟨"AllocateSolve$Floor", "giftsOf", "(I)I"⟩
abbrev kc_F_totalCost : ByteArray := prog_2_method_15_code
def ky_F_totalCost : MethodName := ⟨"AllocateSolve$Floor", "totalCost", "()I"⟩
abbrev kc_F_lineCost : ByteArray := prog_2_method_12_code
def ky_F_lineCost : MethodName := ⟨"AllocateSolve$Floor", "lineCost", "(I)I"⟩
abbrev kc_L_lot : ByteArray := method_3_code
def ky_L_lot : MethodName := ⟨"AllocateSolveLaw", "lot", "(LAllocateSolve;IIII[J)I"⟩
abbrev kc_A_lot : ByteArray := prog_1_method_2_code
def ky_A_lot : MethodName := ⟨"AllocateSolve", "lot", "(IIII)I"⟩
abbrev kc_A_needRange : ByteArray := prog_1_method_22_code
def ky_A_needRange : MethodName := ⟨"AllocateSolve", "needRange", "(III)V"⟩
abbrev kc_T_add : ByteArray := prog_4_method_2_code
def ky_T_add : MethodName := ⟨"AllocateSolve$Lots", "add", "(IIII)I"⟩
abbrev kc_T_putInOrder : ByteArray := prog_4_method_3_code
def ky_T_putInOrder : MethodName := ⟨"AllocateSolve$Lots", "putInOrder", "(I)V"⟩
abbrev kc_T_comesBefore : ByteArray := prog_4_method_4_code
def ky_T_comesBefore : MethodName := ⟨"AllocateSolve$Lots", "comesBefore", "(II)Z"⟩
abbrev kc_L_line : ByteArray := method_4_code
def ky_L_line : MethodName := ⟨"AllocateSolveLaw", "line", "(LAllocateSolve;II[J)I"⟩
abbrev kc_A_line : ByteArray := prog_1_method_3_code
def ky_A_line : MethodName := ⟨"AllocateSolve", "line", "(II)I"⟩
abbrev kc_N_add : ByteArray := prog_3_method_2_code
def ky_N_add : MethodName := ⟨"AllocateSolve$Lines", "add", "(II)I"⟩
abbrev kc_L_rule : ByteArray := method_5_code
def ky_L_rule : MethodName := ⟨"AllocateSolveLaw", "rule", "(LAllocateSolve;III)I"⟩
abbrev kc_A_rule : ByteArray := prog_1_method_4_code
def ky_A_rule : MethodName := ⟨"AllocateSolve", "rule", "(III)V"⟩
abbrev kc_A_needLine : ByteArray := prog_1_method_21_code
def ky_A_needLine : MethodName := ⟨"AllocateSolve", "needLine", "(I)V"⟩
abbrev kc_L_cost : ByteArray := method_6_code
def ky_L_cost : MethodName := ⟨"AllocateSolveLaw", "cost", "(LAllocateSolve;III)I"⟩
abbrev kc_A_cost : ByteArray := prog_1_method_5_code
def ky_A_cost : MethodName := ⟨"AllocateSolve", "cost", "(III)V"⟩
abbrev kc_A_needLot : ByteArray := prog_1_method_20_code
def ky_A_needLot : MethodName := ⟨"AllocateSolve", "needLot", "(I)V"⟩
abbrev kc_L_may : ByteArray := method_7_code
def ky_L_may : MethodName := ⟨"AllocateSolveLaw", "may", "(LAllocateSolve;IIZ[J)I"⟩
abbrev kc_A_may : ByteArray := prog_1_method_6_code
def ky_A_may : MethodName := ⟨"AllocateSolve", "may", "(IIZ)Z"⟩
abbrev kc_N_setBarred : ByteArray := prog_3_method_3_code
def ky_N_setBarred : MethodName := ⟨"AllocateSolve$Lines", "setBarred", "(IIZ)V"⟩
abbrev kc_L_solve : ByteArray := method_8_code
def ky_L_solve : MethodName := ⟨"AllocateSolveLaw", "solve", "(LAllocateSolve;I[J)I"⟩
abbrev kc_A_solve : ByteArray := prog_1_method_7_code
def ky_A_solve : MethodName := ⟨"AllocateSolve", "solve", "(I)I"⟩
abbrev kc_F_clear : ByteArray := prog_2_method_18_code
def ky_F_clear : MethodName := ⟨"AllocateSolve$Floor", "clear", "()V"⟩
abbrev kc_F_letGo : ByteArray := prog_2_method_17_code
def ky_F_letGo : MethodName := ⟨"AllocateSolve$Floor", "letGo", "(I)V"⟩
abbrev kc_F_move : ByteArray := prog_2_method_16_code
def ky_F_move : MethodName := ⟨"AllocateSolve$Floor", "move", "(III)V"⟩
abbrev kc_S_readAllowed : ByteArray := prog_5_method_2_code
def ky_S_readAllowed : MethodName := ⟨"AllocateSolve$Search", "readAllowed", "()V"⟩
abbrev kc_S_allocateAtLeastCost : ByteArray := prog_5_method_4_code
def ky_S_allocateAtLeastCost : MethodName := ⟨"AllocateSolve$Search", "allocateAtLeastCost", "()V"⟩
abbrev kc_S_readBounds : ByteArray := prog_5_method_5_code
def ky_S_readBounds : MethodName := ⟨"AllocateSolve$Search", "readBounds", "()V"⟩
abbrev kc_S_allocateByRule : ByteArray := prog_5_method_3_code
def ky_S_allocateByRule : MethodName := ⟨"AllocateSolve$Search", "allocateByRule", "()V"⟩
abbrev kc_S_take : ByteArray := prog_5_method_9_code
def ky_S_take : MethodName := ⟨"AllocateSolve$Search", "take", "(II)I"⟩
abbrev kc_S_roundDown : ByteArray := prog_5_method_10_code
def ky_S_roundDown : MethodName := ⟨"AllocateSolve$Search", "roundDown", "(II)I"⟩
abbrev kc_S_explore : ByteArray := prog_5_method_6_code
def ky_S_explore : MethodName := ⟨"AllocateSolve$Search", "explore", "(LAllocateSolve$Search;II)V"⟩
abbrev kc_S_keep : ByteArray := prog_5_method_8_code
def ky_S_keep : MethodName := ⟨"AllocateSolve$Search", "keep", "(I)V"⟩
abbrev kc_I_bitCount : ByteArray := prog_12_method_49_code
def ky_I_bitCount : MethodName := ⟨"java/lang/Integer", "bitCount", "(I)I"⟩
abbrev kc_S_exploreBehind : ByteArray := prog_5_method_7_code
def ky_S_exploreBehind : MethodName := ⟨"AllocateSolve$Search", "exploreBehind", "(LAllocateSolve$Search;II)V"⟩
abbrev kc_L_give : ByteArray := method_9_code
def ky_L_give : MethodName := ⟨"AllocateSolveLaw", "give", "(LAllocateSolve;III[J)I"⟩
abbrev kc_A_give : ByteArray := prog_1_method_11_code
def ky_A_give : MethodName := ⟨"AllocateSolve", "give", "(III)I"⟩
abbrev kc_F_lotOfGift : ByteArray := prog_2_method_8_code
def ky_F_lotOfGift : MethodName := ⟨"AllocateSolve$Floor", "lotOfGift", "(II)I"⟩
abbrev kc_L_held : ByteArray := method_10_code
def ky_L_held : MethodName := ⟨"AllocateSolveLaw", "held", "(LAllocateSolve;I[J)I"⟩
abbrev kc_A_held : ByteArray := prog_1_method_12_code
def ky_A_held : MethodName := ⟨"AllocateSolve", "held", "(I)I"⟩
abbrev kc_L_left : ByteArray := method_11_code
def ky_L_left : MethodName := ⟨"AllocateSolveLaw", "left", "(LAllocateSolve;I[J)I"⟩
abbrev kc_A_left : ByteArray := prog_1_method_13_code
def ky_A_left : MethodName := ⟨"AllocateSolve", "left", "(I)I"⟩
abbrev kc_L_bar : ByteArray := method_12_code
def ky_L_bar : MethodName := ⟨"AllocateSolveLaw", "bar", "(LAllocateSolve;I[J)I"⟩
abbrev kc_A_bar : ByteArray := prog_1_method_14_code
def ky_A_bar : MethodName := ⟨"AllocateSolve", "bar", "(I)I"⟩
abbrev kc_F_firstBar : ByteArray := prog_2_method_4_code
def ky_F_firstBar : MethodName := ⟨"AllocateSolve$Floor", "firstBar", "(I)I"⟩
abbrev kc_L_change : ByteArray := method_13_code
def ky_L_change : MethodName := ⟨"AllocateSolveLaw", "change", "(LAllocateSolve;II[J)I"⟩
abbrev kc_A_change : ByteArray := prog_1_method_15_code
def ky_A_change : MethodName := ⟨"AllocateSolve", "change", "(II)I"⟩
abbrev kc_F_setPieces : ByteArray := prog_2_method_19_code
def ky_F_setPieces : MethodName := ⟨"AllocateSolve$Floor", "setPieces", "(II)I"⟩
abbrev kc_F_giveUp : ByteArray := prog_2_method_20_code
def ky_F_giveUp : MethodName := ⟨"AllocateSolve$Floor", "giveUp", "(II)V"⟩
abbrev kc_L_undo : ByteArray := method_14_code
def ky_L_undo : MethodName := ⟨"AllocateSolveLaw", "undo", "(LAllocateSolve;I[J)I"⟩
abbrev kc_A_undo : ByteArray := prog_1_method_16_code
def ky_A_undo : MethodName := ⟨"AllocateSolve", "undo", "(I)I"⟩
abbrev kc_L_refused : ByteArray := method_15_code
def ky_L_refused : MethodName := ⟨"AllocateSolveLaw", "refused", "(LAllocateSolve;I[J)I"⟩
abbrev kc_A_refused : ByteArray := prog_1_method_17_code
def ky_A_refused : MethodName := ⟨"AllocateSolve", "refused", "(I)I"⟩
abbrev kc_L_average : ByteArray := method_16_code
def ky_L_average : MethodName := ⟨"AllocateSolveLaw", "average", "(LAllocateSolve;I[J)I"⟩
abbrev kc_A_average : ByteArray := prog_1_method_18_code
def ky_A_average : MethodName := ⟨"AllocateSolve", "average", "(I)I"⟩
abbrev kc_F_costOfPieces : ByteArray := prog_2_method_11_code
def ky_F_costOfPieces : MethodName := ⟨"AllocateSolve$Floor", "costOfPieces", "(I)I"⟩
abbrev kc_M_init : ByteArray := prog_7_method_1_code
def ky_M_init : MethodName := ⟨"AllocateSolveModel", "<init>", "()V"⟩
abbrev kc_M_thrown : ByteArray := prog_7_method_2_code
def ky_M_thrown : MethodName := ⟨"AllocateSolveModel", "thrown", "()I"⟩
abbrev kc_M_lot : ByteArray := prog_7_method_6_code
def ky_M_lot : MethodName := ⟨"AllocateSolveModel", "lot", "(IIII)I"⟩
abbrev kc_M_in : ByteArray := prog_7_method_3_code
def ky_M_in : MethodName := ⟨"AllocateSolveModel", "in", "(III)Z"⟩
abbrev kc_M_line : ByteArray := prog_7_method_7_code
def ky_M_line : MethodName := ⟨"AllocateSolveModel", "line", "(II)I"⟩
abbrev kc_M_rule : ByteArray := prog_7_method_9_code
def ky_M_rule : MethodName := ⟨"AllocateSolveModel", "rule", "(III)V"⟩
abbrev kc_M_isLine : ByteArray := prog_7_method_5_code
def ky_M_isLine : MethodName := ⟨"AllocateSolveModel", "isLine", "(I)Z"⟩
abbrev kc_M_isRule : ByteArray := prog_7_method_8_code
def ky_M_isRule : MethodName := ⟨"AllocateSolveModel", "isRule", "(II)Z"⟩
abbrev kc_M_cost : ByteArray := prog_7_method_10_code
def ky_M_cost : MethodName := ⟨"AllocateSolveModel", "cost", "(III)V"⟩
abbrev kc_M_isLot : ByteArray := prog_7_method_4_code
def ky_M_isLot : MethodName := ⟨"AllocateSolveModel", "isLot", "(I)Z"⟩
abbrev kc_M_may : ByteArray := prog_7_method_14_code
def ky_M_may : MethodName := ⟨"AllocateSolveModel", "may", "(IIZ)Z"⟩
abbrev kc_M_isAllowed : ByteArray := prog_7_method_12_code
def ky_M_isAllowed : MethodName := ⟨"AllocateSolveModel", "isAllowed", "(II)Z"⟩
abbrev kc_M_passes : ByteArray := prog_7_method_11_code
def ky_M_passes : MethodName := ⟨"AllocateSolveModel", "passes", "(III)Z"⟩
abbrev kc_M_solve : ByteArray := prog_7_method_25_code
def ky_M_solve : MethodName := ⟨"AllocateSolveModel", "solve", "(I)I"⟩
abbrev kc_M_layOut : ByteArray := prog_7_method_17_code
def ky_M_layOut : MethodName := ⟨"AllocateSolveModel", "layOut", "()V"⟩
abbrev kc_M_lotAt : ByteArray := prog_7_method_16_code
def ky_M_lotAt : MethodName := ⟨"AllocateSolveModel", "lotAt", "(I)I"⟩
abbrev kc_M_isBefore : ByteArray := prog_7_method_15_code
def ky_M_isBefore : MethodName := ⟨"AllocateSolveModel", "isBefore", "(II)Z"⟩
abbrev kc_M_product : ByteArray := prog_7_method_24_code
def ky_M_product : MethodName := ⟨"AllocateSolveModel", "product", "()J"⟩
abbrev kc_M_exactly : ByteArray := prog_7_method_22_code
def ky_M_exactly : MethodName := ⟨"AllocateSolveModel", "exactly", "()V"⟩
abbrev kc_M_takeFrom : ByteArray := prog_7_method_20_code
def ky_M_takeFrom : MethodName := ⟨"AllocateSolveModel", "takeFrom", "(I)V"⟩
abbrev kc_M_take : ByteArray := prog_7_method_19_code
def ky_M_take : MethodName := ⟨"AllocateSolveModel", "take", "(I)V"⟩
abbrev kc_M_costOf : ByteArray := prog_7_method_13_code
def ky_M_costOf : MethodName := ⟨"AllocateSolveModel", "costOf", "(II)I"⟩
abbrev kc_M_nextSets : ByteArray := prog_7_method_21_code
def ky_M_nextSets : MethodName := ⟨"AllocateSolveModel", "nextSets", "()I"⟩
abbrev kc_M_bits : ByteArray := prog_7_method_18_code
def ky_M_bits : MethodName := ⟨"AllocateSolveModel", "bits", "(I)I"⟩
abbrev kc_M_byRule : ByteArray := prog_7_method_23_code
def ky_M_byRule : MethodName := ⟨"AllocateSolveModel", "byRule", "()V"⟩
abbrev kc_M_exact : ByteArray := prog_7_method_26_code
def ky_M_exact : MethodName := ⟨"AllocateSolveModel", "exact", "()Z"⟩
abbrev kc_M_choices : ByteArray := prog_7_method_27_code
def ky_M_choices : MethodName := ⟨"AllocateSolveModel", "choices", "()I"⟩
abbrev kc_M_bound : ByteArray := prog_7_method_28_code
def ky_M_bound : MethodName := ⟨"AllocateSolveModel", "bound", "()I"⟩
abbrev kc_M_give : ByteArray := prog_7_method_32_code
def ky_M_give : MethodName := ⟨"AllocateSolveModel", "give", "(III)I"⟩
abbrev kc_M_giftAt : ByteArray := prog_7_method_31_code
def ky_M_giftAt : MethodName := ⟨"AllocateSolveModel", "giftAt", "(II)I"⟩
abbrev kc_M_held : ByteArray := prog_7_method_33_code
def ky_M_held : MethodName := ⟨"AllocateSolveModel", "held", "(I)I"⟩
abbrev kc_M_heldOf : ByteArray := prog_7_method_30_code
def ky_M_heldOf : MethodName := ⟨"AllocateSolveModel", "heldOf", "(I)I"⟩
abbrev kc_M_left : ByteArray := prog_7_method_34_code
def ky_M_left : MethodName := ⟨"AllocateSolveModel", "left", "(I)I"⟩
abbrev kc_M_bar : ByteArray := prog_7_method_35_code
def ky_M_bar : MethodName := ⟨"AllocateSolveModel", "bar", "(I)I"⟩
abbrev kc_M_change : ByteArray := prog_7_method_36_code
def ky_M_change : MethodName := ⟨"AllocateSolveModel", "change", "(II)I"⟩
abbrev kc_M_undo : ByteArray := prog_7_method_37_code
def ky_M_undo : MethodName := ⟨"AllocateSolveModel", "undo", "(I)I"⟩
abbrev kc_M_heldBy : ByteArray := prog_7_method_29_code
def ky_M_heldBy : MethodName := ⟨"AllocateSolveModel", "heldBy", "(I)I"⟩
abbrev kc_M_refused : ByteArray := prog_7_method_38_code
def ky_M_refused : MethodName := ⟨"AllocateSolveModel", "refused", "(I)I"⟩
abbrev kc_M_average : ByteArray := prog_7_method_39_code
def ky_M_average : MethodName := ⟨"AllocateSolveModel", "average", "(I)I"⟩
abbrev kc_M_count : ByteArray := prog_7_method_40_code
def ky_M_count : MethodName := ⟨"AllocateSolveModel", "count", "(I)I"⟩
abbrev kc_L_law : ByteArray := code
def ky_L_law : MethodName := x
end
section
/-! decode rows, by program -/
theorem kd_A_init_0 : decode kc_A_init 0 = .ok (.aload_n 0, 1) := by decide +kernel
theorem kd_A_init_1 : decode kc_A_init 1 = .ok (.invokespecial 1, 3) := by decide +kernel
theorem kd_A_init_4 : decode kc_A_init 4 = .ok (.aload_n 0, 1) := by decide +kernel
theorem kd_A_init_5 : decode kc_A_init 5 = .ok (.new 7, 3) := by decide +kernel
theorem kd_A_init_8 : decode kc_A_init 8 = .ok (.dup, 1) := by decide +kernel
theorem kd_A_init_9 : decode kc_A_init 9 = .ok (.invokespecial 9, 3) := by decide +kernel
theorem kd_A_init_12 : decode kc_A_init 12 = .ok (.putfield 10, 3) := by decide +kernel
theorem kd_A_init_15 : decode kc_A_init 15 = .ok (.aload_n 0, 1) := by decide +kernel
theorem kd_A_init_16 : decode kc_A_init 16 = .ok (.aload_n 0, 1) := by decide +kernel
theorem kd_A_init_17 : decode kc_A_init 17 = .ok (.getfield 10, 3) := by decide +kernel
theorem kd_A_init_20 : decode kc_A_init 20 = .ok (.getfield 16, 3) := by decide +kernel
theorem kd_A_init_23 : decode kc_A_init 23 = .ok (.putfield 20, 3) := by decide +kernel
theorem kd_A_init_26 : decode kc_A_init 26 = .ok (.aload_n 0, 1) := by decide +kernel
theorem kd_A_init_27 : decode kc_A_init 27 = .ok (.aload_n 0, 1) := by decide +kernel
theorem kd_A_init_28 : decode kc_A_init 28 = .ok (.getfield 10, 3) := by decide +kernel
theorem kd_A_init_31 : decode kc_A_init 31 = .ok (.getfield 21, 3) := by decide +kernel
theorem kd_A_init_34 : decode kc_A_init 34 = .ok (.putfield 25, 3) := by decide +kernel
theorem kd_A_init_37 : decode kc_A_init 37 = .ok (.aload_n 0, 1) := by decide +kernel
theorem kd_A_init_38 : decode kc_A_init 38 = .ok (.new 26, 3) := by decide +kernel
theorem kd_A_init_41 : decode kc_A_init 41 = .ok (.dup, 1) := by decide +kernel
theorem kd_A_init_42 : decode kc_A_init 42 = .ok (.aload_n 0, 1) := by decide +kernel
theorem kd_A_init_43 : decode kc_A_init 43 = .ok (.getfield 10, 3) := by decide +kernel
theorem kd_A_init_46 : decode kc_A_init 46 = .ok (.invokespecial 28, 3) := by decide +kernel
theorem kd_A_init_49 : decode kc_A_init 49 = .ok (.putfield 31, 3) := by decide +kernel
theorem kd_A_init_52 : decode kc_A_init 52 = .ok (.aload_n 0, 1) := by decide +kernel
theorem kd_A_init_53 : decode kc_A_init 53 = .ok (.iconst 0, 1) := by decide +kernel
theorem kd_A_init_54 : decode kc_A_init 54 = .ok (.putfield 35, 3) := by decide +kernel
theorem kd_A_init_57 : decode kc_A_init 57 = .ok (.return_, 1) := by decide +kernel
theorem kd_A_exact_0 : decode kc_A_exact 0 = .ok (.aload_n 0, 1) := by decide +kernel
theorem kd_A_exact_1 : decode kc_A_exact 1 = .ok (.getfield 35, 3) := by decide +kernel
theorem kd_A_exact_4 : decode kc_A_exact 4 = .ok (.ireturn, 1) := by decide +kernel
theorem kd_A_choices_0 : decode kc_A_choices 0 = .ok (.aload_n 0, 1) := by decide +kernel
theorem kd_A_choices_1 : decode kc_A_choices 1 = .ok (.getfield 10, 3) := by decide +kernel
theorem kd_A_choices_4 : decode kc_A_choices 4 = .ok (.invokevirtual 98, 3) := by decide +kernel
theorem kd_A_choices_7 : decode kc_A_choices 7 = .ok (.ireturn, 1) := by decide +kernel
theorem kd_A_bound_0 : decode kc_A_bound 0 = .ok (.iconst 0, 1) := by decide +kernel
theorem kd_A_bound_1 : decode kc_A_bound 1 = .ok (.istore_n 1, 1) := by decide +kernel
theorem kd_A_bound_2 : decode kc_A_bound 2 = .ok (.iconst 0, 1) := by decide +kernel
theorem kd_A_bound_3 : decode kc_A_bound 3 = .ok (.istore_n 2, 1) := by decide +kernel
theorem kd_A_bound_4 : decode kc_A_bound 4 = .ok (.iload_n 2, 1) := by decide +kernel
theorem kd_A_bound_5 : decode kc_A_bound 5 = .ok (.aload_n 0, 1) := by decide +kernel
theorem kd_A_bound_6 : decode kc_A_bound 6 = .ok (.getfield 25, 3) := by decide +kernel
theorem kd_A_bound_9 : decode kc_A_bound 9 = .ok (.getfield 60, 3) := by decide +kernel
theorem kd_A_bound_12 : decode kc_A_bound 12 = .ok (.if_icmp .ge 20, 3) := by decide +kernel
theorem kd_A_bound_15 : decode kc_A_bound 15 = .ok (.iload_n 1, 1) := by decide +kernel
theorem kd_A_bound_16 : decode kc_A_bound 16 = .ok (.aload_n 0, 1) := by decide +kernel
theorem kd_A_bound_17 : decode kc_A_bound 17 = .ok (.getfield 10, 3) := by decide +kernel
theorem kd_A_bound_20 : decode kc_A_bound 20 = .ok (.iload_n 2, 1) := by decide +kernel
theorem kd_A_bound_21 : decode kc_A_bound 21 = .ok (.invokevirtual 117, 3) := by decide +kernel
theorem kd_A_bound_24 : decode kc_A_bound 24 = .ok (.iadd, 1) := by decide +kernel
theorem kd_A_bound_25 : decode kc_A_bound 25 = .ok (.istore_n 1, 1) := by decide +kernel
theorem kd_A_bound_26 : decode kc_A_bound 26 = .ok (.iinc 2 1, 3) := by decide +kernel
theorem kd_A_bound_29 : decode kc_A_bound 29 = .ok (.goto (-25), 3) := by decide +kernel
theorem kd_A_bound_32 : decode kc_A_bound 32 = .ok (.iload_n 1, 1) := by decide +kernel
theorem kd_A_bound_33 : decode kc_A_bound 33 = .ok (.ireturn, 1) := by decide +kernel
theorem kd_A_count_0 : decode kc_A_count 0 = .ok (.iload_n 1, 1) := by decide +kernel
theorem kd_A_count_1 : decode kc_A_count 1 = .ok (.tableswitch 75 0 4 #[35, 43, 51, 59, 67], 35) := by decide +kernel
theorem kd_A_count_36 : decode kc_A_count 36 = .ok (.aload_n 0, 1) := by decide +kernel
theorem kd_A_count_37 : decode kc_A_count 37 = .ok (.getfield 20, 3) := by decide +kernel
theorem kd_A_count_40 : decode kc_A_count 40 = .ok (.getfield 43, 3) := by decide +kernel
theorem kd_A_count_43 : decode kc_A_count 43 = .ok (.ireturn, 1) := by decide +kernel
theorem kd_A_count_44 : decode kc_A_count 44 = .ok (.aload_n 0, 1) := by decide +kernel
theorem kd_A_count_45 : decode kc_A_count 45 = .ok (.getfield 25, 3) := by decide +kernel
theorem kd_A_count_48 : decode kc_A_count 48 = .ok (.getfield 60, 3) := by decide +kernel
theorem kd_A_count_51 : decode kc_A_count 51 = .ok (.ireturn, 1) := by decide +kernel
theorem kd_A_count_52 : decode kc_A_count 52 = .ok (.aload_n 0, 1) := by decide +kernel
theorem kd_A_count_53 : decode kc_A_count 53 = .ok (.getfield 10, 3) := by decide +kernel
theorem kd_A_count_56 : decode kc_A_count 56 = .ok (.invokevirtual 169, 3) := by decide +kernel
theorem kd_A_count_59 : decode kc_A_count 59 = .ok (.ireturn, 1) := by decide +kernel
theorem kd_A_count_60 : decode kc_A_count 60 = .ok (.aload_n 0, 1) := by decide +kernel
theorem kd_A_count_61 : decode kc_A_count 61 = .ok (.getfield 10, 3) := by decide +kernel
theorem kd_A_count_64 : decode kc_A_count 64 = .ok (.invokevirtual 172, 3) := by decide +kernel
theorem kd_A_count_67 : decode kc_A_count 67 = .ok (.ireturn, 1) := by decide +kernel
theorem kd_A_count_68 : decode kc_A_count 68 = .ok (.aload_n 0, 1) := by decide +kernel
theorem kd_A_count_69 : decode kc_A_count 69 = .ok (.getfield 10, 3) := by decide +kernel
theorem kd_A_count_72 : decode kc_A_count 72 = .ok (.invokevirtual 114, 3) := by decide +kernel
theorem kd_A_count_75 : decode kc_A_count 75 = .ok (.ireturn, 1) := by decide +kernel
theorem kd_A_count_76 : decode kc_A_count 76 = .ok (.iconst (-1), 1) := by decide +kernel
theorem kd_A_count_77 : decode kc_A_count 77 = .ok (.ireturn, 1) := by decide +kernel
theorem kd_A_lot_0 : decode kc_A_lot 0 = .ok (.iload_n 1, 1) := by decide +kernel
theorem kd_A_lot_1 : decode kc_A_lot 1 = .ok (.iconst 0, 1) := by decide +kernel
theorem kd_A_lot_2 : decode kc_A_lot 2 = .ok (.bipush 99, 2) := by decide +kernel
theorem kd_A_lot_4 : decode kc_A_lot 4 = .ok (.invokestatic 39, 3) := by decide +kernel
theorem kd_A_lot_7 : decode kc_A_lot 7 = .ok (.iload_n 2, 1) := by decide +kernel
theorem kd_A_lot_8 : decode kc_A_lot 8 = .ok (.iconst 0, 1) := by decide +kernel
theorem kd_A_lot_9 : decode kc_A_lot 9 = .ok (.iconst 5, 1) := by decide +kernel
theorem kd_A_lot_10 : decode kc_A_lot 10 = .ok (.invokestatic 39, 3) := by decide +kernel
theorem kd_A_lot_13 : decode kc_A_lot 13 = .ok (.iload_n 3, 1) := by decide +kernel
theorem kd_A_lot_14 : decode kc_A_lot 14 = .ok (.iconst 0, 1) := by decide +kernel
theorem kd_A_lot_15 : decode kc_A_lot 15 = .ok (.sipush 500, 3) := by decide +kernel
theorem kd_A_lot_18 : decode kc_A_lot 18 = .ok (.invokestatic 39, 3) := by decide +kernel
theorem kd_A_lot_21 : decode kc_A_lot 21 = .ok (.iload 4, 2) := by decide +kernel
theorem kd_A_lot_23 : decode kc_A_lot 23 = .ok (.iconst 0, 1) := by decide +kernel
theorem kd_A_lot_24 : decode kc_A_lot 24 = .ok (.sipush 9999, 3) := by decide +kernel
theorem kd_A_lot_27 : decode kc_A_lot 27 = .ok (.invokestatic 39, 3) := by decide +kernel
theorem kd_A_lot_30 : decode kc_A_lot 30 = .ok (.aload_n 0, 1) := by decide +kernel
theorem kd_A_lot_31 : decode kc_A_lot 31 = .ok (.getfield 20, 3) := by decide +kernel
theorem kd_A_lot_34 : decode kc_A_lot 34 = .ok (.getfield 43, 3) := by decide +kernel
theorem kd_A_lot_37 : decode kc_A_lot 37 = .ok (.bipush 8, 2) := by decide +kernel
theorem kd_A_lot_39 : decode kc_A_lot 39 = .ok (.if_icmp .lt 13, 3) := by decide +kernel
theorem kd_A_lot_42 : decode kc_A_lot 42 = .ok (.new 49, 3) := by decide +kernel
theorem kd_A_lot_45 : decode kc_A_lot 45 = .ok (.dup, 1) := by decide +kernel
theorem kd_A_lot_46 : decode kc_A_lot 46 = .ok (.ldc 51, 2) := by decide +kernel
theorem kd_A_lot_48 : decode kc_A_lot 48 = .ok (.invokespecial 53, 3) := by decide +kernel
theorem kd_A_lot_51 : decode kc_A_lot 51 = .ok (.athrow, 1) := by decide +kernel
theorem kd_A_lot_52 : decode kc_A_lot 52 = .ok (.aload_n 0, 1) := by decide +kernel
theorem kd_A_lot_53 : decode kc_A_lot 53 = .ok (.getfield 20, 3) := by decide +kernel
theorem kd_A_lot_56 : decode kc_A_lot 56 = .ok (.iload_n 1, 1) := by decide +kernel
theorem kd_A_lot_57 : decode kc_A_lot 57 = .ok (.iload_n 2, 1) := by decide +kernel
theorem kd_A_lot_58 : decode kc_A_lot 58 = .ok (.iload_n 3, 1) := by decide +kernel
theorem kd_A_lot_59 : decode kc_A_lot 59 = .ok (.iload 4, 2) := by decide +kernel
theorem kd_A_lot_61 : decode kc_A_lot 61 = .ok (.invokevirtual 56, 3) := by decide +kernel
theorem kd_A_lot_64 : decode kc_A_lot 64 = .ok (.ireturn, 1) := by decide +kernel
theorem kd_A_needRange_0 : decode kc_A_needRange 0 = .ok (.iload_n 0, 1) := by decide +kernel
theorem kd_A_needRange_1 : decode kc_A_needRange 1 = .ok (.iload_n 1, 1) := by decide +kernel
theorem kd_A_needRange_2 : decode kc_A_needRange 2 = .ok (.if_icmp .lt 8, 3) := by decide +kernel
theorem kd_A_needRange_5 : decode kc_A_needRange 5 = .ok (.iload_n 0, 1) := by decide +kernel
theorem kd_A_needRange_6 : decode kc_A_needRange 6 = .ok (.iload_n 2, 1) := by decide +kernel
theorem kd_A_needRange_7 : decode kc_A_needRange 7 = .ok (.if_icmp .le 13, 3) := by decide +kernel
theorem kd_A_needRange_10 : decode kc_A_needRange 10 = .ok (.new 179, 3) := by decide +kernel
theorem kd_A_needRange_13 : decode kc_A_needRange 13 = .ok (.dup, 1) := by decide +kernel
theorem kd_A_needRange_14 : decode kc_A_needRange 14 = .ok (.ldc 181, 2) := by decide +kernel
theorem kd_A_needRange_16 : decode kc_A_needRange 16 = .ok (.invokespecial 183, 3) := by decide +kernel
theorem kd_A_needRange_19 : decode kc_A_needRange 19 = .ok (.athrow, 1) := by decide +kernel
theorem kd_A_needRange_20 : decode kc_A_needRange 20 = .ok (.return_, 1) := by decide +kernel
theorem kd_A_line_0 : decode kc_A_line 0 = .ok (.iload_n 1, 1) := by decide +kernel
theorem kd_A_line_1 : decode kc_A_line 1 = .ok (.iconst 0, 1) := by decide +kernel
theorem kd_A_line_2 : decode kc_A_line 2 = .ok (.iconst 5, 1) := by decide +kernel
theorem kd_A_line_3 : decode kc_A_line 3 = .ok (.invokestatic 39, 3) := by decide +kernel
theorem kd_A_line_6 : decode kc_A_line 6 = .ok (.iload_n 2, 1) := by decide +kernel
theorem kd_A_line_7 : decode kc_A_line 7 = .ok (.iconst 1, 1) := by decide +kernel
theorem kd_A_line_8 : decode kc_A_line 8 = .ok (.sipush 200, 3) := by decide +kernel
theorem kd_A_line_11 : decode kc_A_line 11 = .ok (.invokestatic 39, 3) := by decide +kernel
theorem kd_A_line_14 : decode kc_A_line 14 = .ok (.aload_n 0, 1) := by decide +kernel
theorem kd_A_line_15 : decode kc_A_line 15 = .ok (.getfield 25, 3) := by decide +kernel
theorem kd_A_line_18 : decode kc_A_line 18 = .ok (.getfield 60, 3) := by decide +kernel
theorem kd_A_line_21 : decode kc_A_line 21 = .ok (.bipush 6, 2) := by decide +kernel
theorem kd_A_line_23 : decode kc_A_line 23 = .ok (.if_icmp .lt 13, 3) := by decide +kernel
theorem kd_A_line_26 : decode kc_A_line 26 = .ok (.new 49, 3) := by decide +kernel
theorem kd_A_line_29 : decode kc_A_line 29 = .ok (.dup, 1) := by decide +kernel
theorem kd_A_line_30 : decode kc_A_line 30 = .ok (.ldc 63, 2) := by decide +kernel
theorem kd_A_line_32 : decode kc_A_line 32 = .ok (.invokespecial 53, 3) := by decide +kernel
theorem kd_A_line_35 : decode kc_A_line 35 = .ok (.athrow, 1) := by decide +kernel
theorem kd_A_line_36 : decode kc_A_line 36 = .ok (.aload_n 0, 1) := by decide +kernel
theorem kd_A_line_37 : decode kc_A_line 37 = .ok (.getfield 25, 3) := by decide +kernel
theorem kd_A_line_40 : decode kc_A_line 40 = .ok (.iload_n 1, 1) := by decide +kernel
theorem kd_A_line_41 : decode kc_A_line 41 = .ok (.iload_n 2, 1) := by decide +kernel
theorem kd_A_line_42 : decode kc_A_line 42 = .ok (.invokevirtual 65, 3) := by decide +kernel
theorem kd_A_line_45 : decode kc_A_line 45 = .ok (.ireturn, 1) := by decide +kernel
theorem kd_A_rule_0 : decode kc_A_rule 0 = .ok (.aload_n 0, 1) := by decide +kernel
theorem kd_A_rule_1 : decode kc_A_rule 1 = .ok (.iload_n 1, 1) := by decide +kernel
theorem kd_A_rule_2 : decode kc_A_rule 2 = .ok (.invokevirtual 68, 3) := by decide +kernel
theorem kd_A_rule_5 : decode kc_A_rule 5 = .ok (.iload_n 2, 1) := by decide +kernel
theorem kd_A_rule_6 : decode kc_A_rule 6 = .ok (.iconst 0, 1) := by decide +kernel
theorem kd_A_rule_7 : decode kc_A_rule 7 = .ok (.iconst 3, 1) := by decide +kernel
theorem kd_A_rule_8 : decode kc_A_rule 8 = .ok (.invokestatic 39, 3) := by decide +kernel
theorem kd_A_rule_11 : decode kc_A_rule 11 = .ok (.iload_n 3, 1) := by decide +kernel
theorem kd_A_rule_12 : decode kc_A_rule 12 = .ok (.getstatic 72, 3) := by decide +kernel
theorem kd_A_rule_15 : decode kc_A_rule 15 = .ok (.iload_n 2, 1) := by decide +kernel
theorem kd_A_rule_16 : decode kc_A_rule 16 = .ok (.iaload, 1) := by decide +kernel
theorem kd_A_rule_17 : decode kc_A_rule 17 = .ok (.getstatic 76, 3) := by decide +kernel
theorem kd_A_rule_20 : decode kc_A_rule 20 = .ok (.iload_n 2, 1) := by decide +kernel
theorem kd_A_rule_21 : decode kc_A_rule 21 = .ok (.iaload, 1) := by decide +kernel
theorem kd_A_rule_22 : decode kc_A_rule 22 = .ok (.invokestatic 39, 3) := by decide +kernel
theorem kd_A_rule_25 : decode kc_A_rule 25 = .ok (.aload_n 0, 1) := by decide +kernel
theorem kd_A_rule_26 : decode kc_A_rule 26 = .ok (.getfield 25, 3) := by decide +kernel
theorem kd_A_rule_29 : decode kc_A_rule 29 = .ok (.getfield 79, 3) := by decide +kernel
theorem kd_A_rule_32 : decode kc_A_rule 32 = .ok (.iload_n 1, 1) := by decide +kernel
theorem kd_A_rule_33 : decode kc_A_rule 33 = .ok (.aaload, 1) := by decide +kernel
theorem kd_A_rule_34 : decode kc_A_rule 34 = .ok (.iload_n 2, 1) := by decide +kernel
theorem kd_A_rule_35 : decode kc_A_rule 35 = .ok (.iload_n 3, 1) := by decide +kernel
theorem kd_A_rule_36 : decode kc_A_rule 36 = .ok (.iastore, 1) := by decide +kernel
theorem kd_A_rule_37 : decode kc_A_rule 37 = .ok (.return_, 1) := by decide +kernel
theorem kd_A_needLine_0 : decode kc_A_needLine 0 = .ok (.iload_n 1, 1) := by decide +kernel
theorem kd_A_needLine_1 : decode kc_A_needLine 1 = .ok (.ifCond .lt 14, 3) := by decide +kernel
theorem kd_A_needLine_4 : decode kc_A_needLine 4 = .ok (.iload_n 1, 1) := by decide +kernel
theorem kd_A_needLine_5 : decode kc_A_needLine 5 = .ok (.aload_n 0, 1) := by decide +kernel
theorem kd_A_needLine_6 : decode kc_A_needLine 6 = .ok (.getfield 25, 3) := by decide +kernel
theorem kd_A_needLine_9 : decode kc_A_needLine 9 = .ok (.getfield 60, 3) := by decide +kernel
theorem kd_A_needLine_12 : decode kc_A_needLine 12 = .ok (.if_icmp .lt 13, 3) := by decide +kernel
theorem kd_A_needLine_15 : decode kc_A_needLine 15 = .ok (.new 124, 3) := by decide +kernel
theorem kd_A_needLine_18 : decode kc_A_needLine 18 = .ok (.dup, 1) := by decide +kernel
theorem kd_A_needLine_19 : decode kc_A_needLine 19 = .ok (.ldc 177, 2) := by decide +kernel
theorem kd_A_needLine_21 : decode kc_A_needLine 21 = .ok (.invokespecial 128, 3) := by decide +kernel
theorem kd_A_needLine_24 : decode kc_A_needLine 24 = .ok (.athrow, 1) := by decide +kernel
theorem kd_A_needLine_25 : decode kc_A_needLine 25 = .ok (.return_, 1) := by decide +kernel
theorem kd_A_cost_0 : decode kc_A_cost 0 = .ok (.aload_n 0, 1) := by decide +kernel
theorem kd_A_cost_1 : decode kc_A_cost 1 = .ok (.iload_n 1, 1) := by decide +kernel
theorem kd_A_cost_2 : decode kc_A_cost 2 = .ok (.invokevirtual 83, 3) := by decide +kernel
theorem kd_A_cost_5 : decode kc_A_cost 5 = .ok (.aload_n 0, 1) := by decide +kernel
theorem kd_A_cost_6 : decode kc_A_cost 6 = .ok (.iload_n 2, 1) := by decide +kernel
theorem kd_A_cost_7 : decode kc_A_cost 7 = .ok (.invokevirtual 68, 3) := by decide +kernel
theorem kd_A_cost_10 : decode kc_A_cost 10 = .ok (.iload_n 3, 1) := by decide +kernel
theorem kd_A_cost_11 : decode kc_A_cost 11 = .ok (.iconst (-1), 1) := by decide +kernel
theorem kd_A_cost_12 : decode kc_A_cost 12 = .ok (.sipush 1000, 3) := by decide +kernel
theorem kd_A_cost_15 : decode kc_A_cost 15 = .ok (.invokestatic 39, 3) := by decide +kernel
theorem kd_A_cost_18 : decode kc_A_cost 18 = .ok (.aload_n 0, 1) := by decide +kernel
theorem kd_A_cost_19 : decode kc_A_cost 19 = .ok (.getfield 25, 3) := by decide +kernel
theorem kd_A_cost_22 : decode kc_A_cost 22 = .ok (.getfield 86, 3) := by decide +kernel
theorem kd_A_cost_25 : decode kc_A_cost 25 = .ok (.iload_n 2, 1) := by decide +kernel
theorem kd_A_cost_26 : decode kc_A_cost 26 = .ok (.aaload, 1) := by decide +kernel
theorem kd_A_cost_27 : decode kc_A_cost 27 = .ok (.iload_n 1, 1) := by decide +kernel
theorem kd_A_cost_28 : decode kc_A_cost 28 = .ok (.iload_n 3, 1) := by decide +kernel
theorem kd_A_cost_29 : decode kc_A_cost 29 = .ok (.iastore, 1) := by decide +kernel
theorem kd_A_cost_30 : decode kc_A_cost 30 = .ok (.return_, 1) := by decide +kernel
theorem kd_A_needLot_0 : decode kc_A_needLot 0 = .ok (.iload_n 1, 1) := by decide +kernel
theorem kd_A_needLot_1 : decode kc_A_needLot 1 = .ok (.ifCond .lt 14, 3) := by decide +kernel
theorem kd_A_needLot_4 : decode kc_A_needLot 4 = .ok (.iload_n 1, 1) := by decide +kernel
theorem kd_A_needLot_5 : decode kc_A_needLot 5 = .ok (.aload_n 0, 1) := by decide +kernel
theorem kd_A_needLot_6 : decode kc_A_needLot 6 = .ok (.getfield 20, 3) := by decide +kernel
theorem kd_A_needLot_9 : decode kc_A_needLot 9 = .ok (.getfield 43, 3) := by decide +kernel
theorem kd_A_needLot_12 : decode kc_A_needLot 12 = .ok (.if_icmp .lt 13, 3) := by decide +kernel
theorem kd_A_needLot_15 : decode kc_A_needLot 15 = .ok (.new 124, 3) := by decide +kernel
theorem kd_A_needLot_18 : decode kc_A_needLot 18 = .ok (.dup, 1) := by decide +kernel
theorem kd_A_needLot_19 : decode kc_A_needLot 19 = .ok (.ldc 175, 2) := by decide +kernel
theorem kd_A_needLot_21 : decode kc_A_needLot 21 = .ok (.invokespecial 128, 3) := by decide +kernel
theorem kd_A_needLot_24 : decode kc_A_needLot 24 = .ok (.athrow, 1) := by decide +kernel
theorem kd_A_needLot_25 : decode kc_A_needLot 25 = .ok (.return_, 1) := by decide +kernel
theorem kd_A_may_0 : decode kc_A_may 0 = .ok (.aload_n 0, 1) := by decide +kernel
theorem kd_A_may_1 : decode kc_A_may 1 = .ok (.iload_n 1, 1) := by decide +kernel
theorem kd_A_may_2 : decode kc_A_may 2 = .ok (.invokevirtual 83, 3) := by decide +kernel
theorem kd_A_may_5 : decode kc_A_may 5 = .ok (.aload_n 0, 1) := by decide +kernel
theorem kd_A_may_6 : decode kc_A_may 6 = .ok (.iload_n 2, 1) := by decide +kernel
theorem kd_A_may_7 : decode kc_A_may 7 = .ok (.invokevirtual 68, 3) := by decide +kernel
theorem kd_A_may_10 : decode kc_A_may 10 = .ok (.aload_n 0, 1) := by decide +kernel
theorem kd_A_may_11 : decode kc_A_may 11 = .ok (.getfield 25, 3) := by decide +kernel
theorem kd_A_may_14 : decode kc_A_may 14 = .ok (.iload_n 2, 1) := by decide +kernel
theorem kd_A_may_15 : decode kc_A_may 15 = .ok (.iload_n 1, 1) := by decide +kernel
theorem kd_A_may_16 : decode kc_A_may 16 = .ok (.iload_n 3, 1) := by decide +kernel
theorem kd_A_may_17 : decode kc_A_may 17 = .ok (.ifCond .ne 7, 3) := by decide +kernel
theorem kd_A_may_20 : decode kc_A_may 20 = .ok (.iconst 1, 1) := by decide +kernel
theorem kd_A_may_21 : decode kc_A_may 21 = .ok (.goto 4, 3) := by decide +kernel
theorem kd_A_may_24 : decode kc_A_may 24 = .ok (.iconst 0, 1) := by decide +kernel
theorem kd_A_may_25 : decode kc_A_may 25 = .ok (.invokevirtual 89, 3) := by decide +kernel
theorem kd_A_may_28 : decode kc_A_may 28 = .ok (.aload_n 0, 1) := by decide +kernel
theorem kd_A_may_29 : decode kc_A_may 29 = .ok (.getfield 10, 3) := by decide +kernel
theorem kd_A_may_32 : decode kc_A_may 32 = .ok (.iload_n 2, 1) := by decide +kernel
theorem kd_A_may_33 : decode kc_A_may 33 = .ok (.iload_n 1, 1) := by decide +kernel
theorem kd_A_may_34 : decode kc_A_may 34 = .ok (.invokevirtual 93, 3) := by decide +kernel
theorem kd_A_may_37 : decode kc_A_may 37 = .ok (.ireturn, 1) := by decide +kernel
theorem kd_A_solve_0 : decode kc_A_solve 0 = .ok (.iload_n 1, 1) := by decide +kernel
theorem kd_A_solve_1 : decode kc_A_solve 1 = .ok (.iconst 0, 1) := by decide +kernel
theorem kd_A_solve_2 : decode kc_A_solve 2 = .ok (.ldc 97, 2) := by decide +kernel
theorem kd_A_solve_4 : decode kc_A_solve 4 = .ok (.invokestatic 39, 3) := by decide +kernel
theorem kd_A_solve_7 : decode kc_A_solve 7 = .ok (.aload_n 0, 1) := by decide +kernel
theorem kd_A_solve_8 : decode kc_A_solve 8 = .ok (.getfield 10, 3) := by decide +kernel
theorem kd_A_solve_11 : decode kc_A_solve 11 = .ok (.invokevirtual 98, 3) := by decide +kernel
theorem kd_A_solve_14 : decode kc_A_solve 14 = .ok (.istore_n 2, 1) := by decide +kernel
theorem kd_A_solve_15 : decode kc_A_solve 15 = .ok (.aload_n 0, 1) := by decide +kernel
theorem kd_A_solve_16 : decode kc_A_solve 16 = .ok (.iload_n 2, 1) := by decide +kernel
theorem kd_A_solve_17 : decode kc_A_solve 17 = .ok (.ifCond .lt 12, 3) := by decide +kernel
theorem kd_A_solve_20 : decode kc_A_solve 20 = .ok (.iload_n 2, 1) := by decide +kernel
theorem kd_A_solve_21 : decode kc_A_solve 21 = .ok (.iload_n 1, 1) := by decide +kernel
theorem kd_A_solve_22 : decode kc_A_solve 22 = .ok (.if_icmp .gt 7, 3) := by decide +kernel
theorem kd_A_solve_25 : decode kc_A_solve 25 = .ok (.iconst 1, 1) := by decide +kernel
theorem kd_A_solve_26 : decode kc_A_solve 26 = .ok (.goto 4, 3) := by decide +kernel
theorem kd_A_solve_29 : decode kc_A_solve 29 = .ok (.iconst 0, 1) := by decide +kernel
theorem kd_A_solve_30 : decode kc_A_solve 30 = .ok (.putfield 35, 3) := by decide +kernel
theorem kd_A_solve_33 : decode kc_A_solve 33 = .ok (.aload_n 0, 1) := by decide +kernel
theorem kd_A_solve_34 : decode kc_A_solve 34 = .ok (.getfield 10, 3) := by decide +kernel
theorem kd_A_solve_37 : decode kc_A_solve 37 = .ok (.invokevirtual 102, 3) := by decide +kernel
theorem kd_A_solve_40 : decode kc_A_solve 40 = .ok (.aload_n 0, 1) := by decide +kernel
theorem kd_A_solve_41 : decode kc_A_solve 41 = .ok (.getfield 31, 3) := by decide +kernel
theorem kd_A_solve_44 : decode kc_A_solve 44 = .ok (.invokevirtual 105, 3) := by decide +kernel
theorem kd_A_solve_47 : decode kc_A_solve 47 = .ok (.aload_n 0, 1) := by decide +kernel
theorem kd_A_solve_48 : decode kc_A_solve 48 = .ok (.getfield 35, 3) := by decide +kernel
theorem kd_A_solve_51 : decode kc_A_solve 51 = .ok (.ifCond .eq 13, 3) := by decide +kernel
theorem kd_A_solve_54 : decode kc_A_solve 54 = .ok (.aload_n 0, 1) := by decide +kernel
theorem kd_A_solve_55 : decode kc_A_solve 55 = .ok (.getfield 31, 3) := by decide +kernel
theorem kd_A_solve_58 : decode kc_A_solve 58 = .ok (.invokevirtual 108, 3) := by decide +kernel
theorem kd_A_solve_61 : decode kc_A_solve 61 = .ok (.goto 10, 3) := by decide +kernel
theorem kd_A_solve_64 : decode kc_A_solve 64 = .ok (.aload_n 0, 1) := by decide +kernel
theorem kd_A_solve_65 : decode kc_A_solve 65 = .ok (.getfield 31, 3) := by decide +kernel
theorem kd_A_solve_68 : decode kc_A_solve 68 = .ok (.invokevirtual 111, 3) := by decide +kernel
theorem kd_A_solve_71 : decode kc_A_solve 71 = .ok (.aload_n 0, 1) := by decide +kernel
theorem kd_A_solve_72 : decode kc_A_solve 72 = .ok (.getfield 10, 3) := by decide +kernel
theorem kd_A_solve_75 : decode kc_A_solve 75 = .ok (.invokevirtual 114, 3) := by decide +kernel
theorem kd_A_solve_78 : decode kc_A_solve 78 = .ok (.ireturn, 1) := by decide +kernel
theorem kd_A_give_0 : decode kc_A_give 0 = .ok (.aload_n 0, 1) := by decide +kernel
theorem kd_A_give_1 : decode kc_A_give 1 = .ok (.iload_n 1, 1) := by decide +kernel
theorem kd_A_give_2 : decode kc_A_give 2 = .ok (.invokevirtual 68, 3) := by decide +kernel
theorem kd_A_give_5 : decode kc_A_give 5 = .ok (.aload_n 0, 1) := by decide +kernel
theorem kd_A_give_6 : decode kc_A_give 6 = .ok (.getfield 10, 3) := by decide +kernel
theorem kd_A_give_9 : decode kc_A_give 9 = .ok (.iload_n 1, 1) := by decide +kernel
theorem kd_A_give_10 : decode kc_A_give 10 = .ok (.iload_n 2, 1) := by decide +kernel
theorem kd_A_give_11 : decode kc_A_give 11 = .ok (.invokevirtual 121, 3) := by decide +kernel
theorem kd_A_give_14 : decode kc_A_give 14 = .ok (.istore 4, 2) := by decide +kernel
theorem kd_A_give_16 : decode kc_A_give 16 = .ok (.iload 4, 2) := by decide +kernel
theorem kd_A_give_18 : decode kc_A_give 18 = .ok (.ifCond .ge 13, 3) := by decide +kernel
theorem kd_A_give_21 : decode kc_A_give 21 = .ok (.new 124, 3) := by decide +kernel
theorem kd_A_give_24 : decode kc_A_give 24 = .ok (.dup, 1) := by decide +kernel
theorem kd_A_give_25 : decode kc_A_give 25 = .ok (.ldc 126, 2) := by decide +kernel
theorem kd_A_give_27 : decode kc_A_give 27 = .ok (.invokespecial 128, 3) := by decide +kernel
theorem kd_A_give_30 : decode kc_A_give 30 = .ok (.athrow, 1) := by decide +kernel
theorem kd_A_give_31 : decode kc_A_give 31 = .ok (.iload_n 3, 1) := by decide +kernel
theorem kd_A_give_32 : decode kc_A_give 32 = .ok (.iconst 0, 1) := by decide +kernel
theorem kd_A_give_33 : decode kc_A_give 33 = .ok (.iconst 2, 1) := by decide +kernel
theorem kd_A_give_34 : decode kc_A_give 34 = .ok (.invokestatic 39, 3) := by decide +kernel
theorem kd_A_give_37 : decode kc_A_give 37 = .ok (.iload_n 3, 1) := by decide +kernel
theorem kd_A_give_38 : decode kc_A_give 38 = .ok (.ifCond .ne 6, 3) := by decide +kernel
theorem kd_A_give_41 : decode kc_A_give 41 = .ok (.iload 4, 2) := by decide +kernel
theorem kd_A_give_43 : decode kc_A_give 43 = .ok (.ireturn, 1) := by decide +kernel
theorem kd_A_give_44 : decode kc_A_give 44 = .ok (.iload_n 3, 1) := by decide +kernel
theorem kd_A_give_45 : decode kc_A_give 45 = .ok (.iconst 1, 1) := by decide +kernel
theorem kd_A_give_46 : decode kc_A_give 46 = .ok (.if_icmp .ne 18, 3) := by decide +kernel
theorem kd_A_give_49 : decode kc_A_give 49 = .ok (.aload_n 0, 1) := by decide +kernel
theorem kd_A_give_50 : decode kc_A_give 50 = .ok (.getfield 25, 3) := by decide +kernel
theorem kd_A_give_53 : decode kc_A_give 53 = .ok (.getfield 129, 3) := by decide +kernel
theorem kd_A_give_56 : decode kc_A_give 56 = .ok (.iload_n 1, 1) := by decide +kernel
theorem kd_A_give_57 : decode kc_A_give 57 = .ok (.aaload, 1) := by decide +kernel
theorem kd_A_give_58 : decode kc_A_give 58 = .ok (.iload 4, 2) := by decide +kernel
theorem kd_A_give_60 : decode kc_A_give 60 = .ok (.iaload, 1) := by decide +kernel
theorem kd_A_give_61 : decode kc_A_give 61 = .ok (.goto 13, 3) := by decide +kernel
theorem kd_A_give_64 : decode kc_A_give 64 = .ok (.aload_n 0, 1) := by decide +kernel
theorem kd_A_give_65 : decode kc_A_give 65 = .ok (.getfield 10, 3) := by decide +kernel
theorem kd_A_give_68 : decode kc_A_give 68 = .ok (.iload_n 1, 1) := by decide +kernel
theorem kd_A_give_69 : decode kc_A_give 69 = .ok (.iload 4, 2) := by decide +kernel
theorem kd_A_give_71 : decode kc_A_give 71 = .ok (.invokevirtual 132, 3) := by decide +kernel
theorem kd_A_give_74 : decode kc_A_give 74 = .ok (.ireturn, 1) := by decide +kernel
theorem kd_A_held_0 : decode kc_A_held 0 = .ok (.aload_n 0, 1) := by decide +kernel
theorem kd_A_held_1 : decode kc_A_held 1 = .ok (.iload_n 1, 1) := by decide +kernel
theorem kd_A_held_2 : decode kc_A_held 2 = .ok (.invokevirtual 83, 3) := by decide +kernel
theorem kd_A_held_5 : decode kc_A_held 5 = .ok (.aload_n 0, 1) := by decide +kernel
theorem kd_A_held_6 : decode kc_A_held 6 = .ok (.getfield 20, 3) := by decide +kernel
theorem kd_A_held_9 : decode kc_A_held 9 = .ok (.getfield 135, 3) := by decide +kernel
theorem kd_A_held_12 : decode kc_A_held 12 = .ok (.iload_n 1, 1) := by decide +kernel
theorem kd_A_held_13 : decode kc_A_held 13 = .ok (.iaload, 1) := by decide +kernel
theorem kd_A_held_14 : decode kc_A_held 14 = .ok (.aload_n 0, 1) := by decide +kernel
theorem kd_A_held_15 : decode kc_A_held 15 = .ok (.getfield 20, 3) := by decide +kernel
theorem kd_A_held_18 : decode kc_A_held 18 = .ok (.getfield 138, 3) := by decide +kernel
theorem kd_A_held_21 : decode kc_A_held 21 = .ok (.iload_n 1, 1) := by decide +kernel
theorem kd_A_held_22 : decode kc_A_held 22 = .ok (.iaload, 1) := by decide +kernel
theorem kd_A_held_23 : decode kc_A_held 23 = .ok (.isub, 1) := by decide +kernel
theorem kd_A_held_24 : decode kc_A_held 24 = .ok (.ireturn, 1) := by decide +kernel
theorem kd_A_left_0 : decode kc_A_left 0 = .ok (.aload_n 0, 1) := by decide +kernel
theorem kd_A_left_1 : decode kc_A_left 1 = .ok (.iload_n 1, 1) := by decide +kernel
theorem kd_A_left_2 : decode kc_A_left 2 = .ok (.invokevirtual 83, 3) := by decide +kernel
theorem kd_A_left_5 : decode kc_A_left 5 = .ok (.aload_n 0, 1) := by decide +kernel
theorem kd_A_left_6 : decode kc_A_left 6 = .ok (.getfield 20, 3) := by decide +kernel
theorem kd_A_left_9 : decode kc_A_left 9 = .ok (.getfield 138, 3) := by decide +kernel
theorem kd_A_left_12 : decode kc_A_left 12 = .ok (.iload_n 1, 1) := by decide +kernel
theorem kd_A_left_13 : decode kc_A_left 13 = .ok (.iaload, 1) := by decide +kernel
theorem kd_A_left_14 : decode kc_A_left 14 = .ok (.ireturn, 1) := by decide +kernel
theorem kd_A_bar_0 : decode kc_A_bar 0 = .ok (.aload_n 0, 1) := by decide +kernel
theorem kd_A_bar_1 : decode kc_A_bar 1 = .ok (.iload_n 1, 1) := by decide +kernel
theorem kd_A_bar_2 : decode kc_A_bar 2 = .ok (.invokevirtual 68, 3) := by decide +kernel
theorem kd_A_bar_5 : decode kc_A_bar 5 = .ok (.aload_n 0, 1) := by decide +kernel
theorem kd_A_bar_6 : decode kc_A_bar 6 = .ok (.getfield 10, 3) := by decide +kernel
theorem kd_A_bar_9 : decode kc_A_bar 9 = .ok (.iload_n 1, 1) := by decide +kernel
theorem kd_A_bar_10 : decode kc_A_bar 10 = .ok (.invokevirtual 141, 3) := by decide +kernel
theorem kd_A_bar_13 : decode kc_A_bar 13 = .ok (.ireturn, 1) := by decide +kernel
theorem kd_A_change_0 : decode kc_A_change 0 = .ok (.aload_n 0, 1) := by decide +kernel
theorem kd_A_change_1 : decode kc_A_change 1 = .ok (.iload_n 1, 1) := by decide +kernel
theorem kd_A_change_2 : decode kc_A_change 2 = .ok (.invokevirtual 83, 3) := by decide +kernel
theorem kd_A_change_5 : decode kc_A_change 5 = .ok (.iload_n 2, 1) := by decide +kernel
theorem kd_A_change_6 : decode kc_A_change 6 = .ok (.iconst 0, 1) := by decide +kernel
theorem kd_A_change_7 : decode kc_A_change 7 = .ok (.sipush 500, 3) := by decide +kernel
theorem kd_A_change_10 : decode kc_A_change 10 = .ok (.invokestatic 39, 3) := by decide +kernel
theorem kd_A_change_13 : decode kc_A_change 13 = .ok (.aload_n 0, 1) := by decide +kernel
theorem kd_A_change_14 : decode kc_A_change 14 = .ok (.getfield 10, 3) := by decide +kernel
theorem kd_A_change_17 : decode kc_A_change 17 = .ok (.iload_n 1, 1) := by decide +kernel
theorem kd_A_change_18 : decode kc_A_change 18 = .ok (.iload_n 2, 1) := by decide +kernel
theorem kd_A_change_19 : decode kc_A_change 19 = .ok (.invokevirtual 144, 3) := by decide +kernel
theorem kd_A_change_22 : decode kc_A_change 22 = .ok (.ireturn, 1) := by decide +kernel
theorem kd_A_undo_0 : decode kc_A_undo 0 = .ok (.aload_n 0, 1) := by decide +kernel
theorem kd_A_undo_1 : decode kc_A_undo 1 = .ok (.iload_n 1, 1) := by decide +kernel
theorem kd_A_undo_2 : decode kc_A_undo 2 = .ok (.invokevirtual 68, 3) := by decide +kernel
theorem kd_A_undo_5 : decode kc_A_undo 5 = .ok (.aload_n 0, 1) := by decide +kernel
theorem kd_A_undo_6 : decode kc_A_undo 6 = .ok (.getfield 10, 3) := by decide +kernel
theorem kd_A_undo_9 : decode kc_A_undo 9 = .ok (.iload_n 1, 1) := by decide +kernel
theorem kd_A_undo_10 : decode kc_A_undo 10 = .ok (.invokevirtual 147, 3) := by decide +kernel
theorem kd_A_undo_13 : decode kc_A_undo 13 = .ok (.istore_n 2, 1) := by decide +kernel
theorem kd_A_undo_14 : decode kc_A_undo 14 = .ok (.iload_n 2, 1) := by decide +kernel
theorem kd_A_undo_15 : decode kc_A_undo 15 = .ok (.ifCond .ne 13, 3) := by decide +kernel
theorem kd_A_undo_18 : decode kc_A_undo 18 = .ok (.new 150, 3) := by decide +kernel
theorem kd_A_undo_21 : decode kc_A_undo 21 = .ok (.dup, 1) := by decide +kernel
theorem kd_A_undo_22 : decode kc_A_undo 22 = .ok (.ldc 152, 2) := by decide +kernel
theorem kd_A_undo_24 : decode kc_A_undo 24 = .ok (.invokespecial 154, 3) := by decide +kernel
theorem kd_A_undo_27 : decode kc_A_undo 27 = .ok (.athrow, 1) := by decide +kernel
theorem kd_A_undo_28 : decode kc_A_undo 28 = .ok (.aload_n 0, 1) := by decide +kernel
theorem kd_A_undo_29 : decode kc_A_undo 29 = .ok (.getfield 10, 3) := by decide +kernel
theorem kd_A_undo_32 : decode kc_A_undo 32 = .ok (.iload_n 1, 1) := by decide +kernel
theorem kd_A_undo_33 : decode kc_A_undo 33 = .ok (.invokevirtual 155, 3) := by decide +kernel
theorem kd_A_undo_36 : decode kc_A_undo 36 = .ok (.iload_n 2, 1) := by decide +kernel
theorem kd_A_undo_37 : decode kc_A_undo 37 = .ok (.ireturn, 1) := by decide +kernel
theorem kd_A_refused_0 : decode kc_A_refused 0 = .ok (.aload_n 0, 1) := by decide +kernel
theorem kd_A_refused_1 : decode kc_A_refused 1 = .ok (.iload_n 1, 1) := by decide +kernel
theorem kd_A_refused_2 : decode kc_A_refused 2 = .ok (.invokevirtual 68, 3) := by decide +kernel
theorem kd_A_refused_5 : decode kc_A_refused 5 = .ok (.aload_n 0, 1) := by decide +kernel
theorem kd_A_refused_6 : decode kc_A_refused 6 = .ok (.getfield 25, 3) := by decide +kernel
theorem kd_A_refused_9 : decode kc_A_refused 9 = .ok (.getfield 158, 3) := by decide +kernel
theorem kd_A_refused_12 : decode kc_A_refused 12 = .ok (.iload_n 1, 1) := by decide +kernel
theorem kd_A_refused_13 : decode kc_A_refused 13 = .ok (.iaload, 1) := by decide +kernel
theorem kd_A_refused_14 : decode kc_A_refused 14 = .ok (.aload_n 0, 1) := by decide +kernel
theorem kd_A_refused_15 : decode kc_A_refused 15 = .ok (.getfield 10, 3) := by decide +kernel
theorem kd_A_refused_18 : decode kc_A_refused 18 = .ok (.iload_n 1, 1) := by decide +kernel
theorem kd_A_refused_19 : decode kc_A_refused 19 = .ok (.invokevirtual 147, 3) := by decide +kernel
theorem kd_A_refused_22 : decode kc_A_refused 22 = .ok (.isub, 1) := by decide +kernel
theorem kd_A_refused_23 : decode kc_A_refused 23 = .ok (.ireturn, 1) := by decide +kernel
theorem kd_A_average_0 : decode kc_A_average 0 = .ok (.aload_n 0, 1) := by decide +kernel
theorem kd_A_average_1 : decode kc_A_average 1 = .ok (.iload_n 1, 1) := by decide +kernel
theorem kd_A_average_2 : decode kc_A_average 2 = .ok (.invokevirtual 68, 3) := by decide +kernel
theorem kd_A_average_5 : decode kc_A_average 5 = .ok (.aload_n 0, 1) := by decide +kernel
theorem kd_A_average_6 : decode kc_A_average 6 = .ok (.getfield 10, 3) := by decide +kernel
theorem kd_A_average_9 : decode kc_A_average 9 = .ok (.iload_n 1, 1) := by decide +kernel
theorem kd_A_average_10 : decode kc_A_average 10 = .ok (.invokevirtual 147, 3) := by decide +kernel
theorem kd_A_average_13 : decode kc_A_average 13 = .ok (.istore_n 2, 1) := by decide +kernel
theorem kd_A_average_14 : decode kc_A_average 14 = .ok (.iload_n 2, 1) := by decide +kernel
theorem kd_A_average_15 : decode kc_A_average 15 = .ok (.ifCond .ne 13, 3) := by decide +kernel
theorem kd_A_average_18 : decode kc_A_average 18 = .ok (.new 161, 3) := by decide +kernel
theorem kd_A_average_21 : decode kc_A_average 21 = .ok (.dup, 1) := by decide +kernel
theorem kd_A_average_22 : decode kc_A_average 22 = .ok (.ldc 163, 2) := by decide +kernel
theorem kd_A_average_24 : decode kc_A_average 24 = .ok (.invokespecial 165, 3) := by decide +kernel
theorem kd_A_average_27 : decode kc_A_average 27 = .ok (.athrow, 1) := by decide +kernel
theorem kd_A_average_28 : decode kc_A_average 28 = .ok (.aload_n 0, 1) := by decide +kernel
theorem kd_A_average_29 : decode kc_A_average 29 = .ok (.getfield 10, 3) := by decide +kernel
theorem kd_A_average_32 : decode kc_A_average 32 = .ok (.iload_n 1, 1) := by decide +kernel
theorem kd_A_average_33 : decode kc_A_average 33 = .ok (.invokevirtual 166, 3) := by decide +kernel
theorem kd_A_average_36 : decode kc_A_average 36 = .ok (.iload_n 2, 1) := by decide +kernel
theorem kd_A_average_37 : decode kc_A_average 37 = .ok (.idiv, 1) := by decide +kernel
theorem kd_A_average_38 : decode kc_A_average 38 = .ok (.ireturn, 1) := by decide +kernel
end
section
/-! decode rows, by program -/
theorem kd_F_init_0 : decode kc_F_init 0 = .ok (.aload_n 0, 1) := by decide +kernel
theorem kd_F_init_1 : decode kc_F_init 1 = .ok (.invokespecial 3, 3) := by decide +kernel
theorem kd_F_init_4 : decode kc_F_init 4 = .ok (.aload_n 0, 1) := by decide +kernel
theorem kd_F_init_5 : decode kc_F_init 5 = .ok (.new 9, 3) := by decide +kernel
theorem kd_F_init_8 : decode kc_F_init 8 = .ok (.dup, 1) := by decide +kernel
theorem kd_F_init_9 : decode kc_F_init 9 = .ok (.invokespecial 11, 3) := by decide +kernel
theorem kd_F_init_12 : decode kc_F_init 12 = .ok (.putfield 12, 3) := by decide +kernel
theorem kd_F_init_15 : decode kc_F_init 15 = .ok (.aload_n 0, 1) := by decide +kernel
theorem kd_F_init_16 : decode kc_F_init 16 = .ok (.new 18, 3) := by decide +kernel
theorem kd_F_init_19 : decode kc_F_init 19 = .ok (.dup, 1) := by decide +kernel
theorem kd_F_init_20 : decode kc_F_init 20 = .ok (.invokespecial 20, 3) := by decide +kernel
theorem kd_F_init_23 : decode kc_F_init 23 = .ok (.putfield 21, 3) := by decide +kernel
theorem kd_F_init_26 : decode kc_F_init 26 = .ok (.return_, 1) := by decide +kernel
theorem kd_T_init_0 : decode kc_T_init 0 = .ok (.aload_n 0, 1) := by decide +kernel
theorem kd_T_init_1 : decode kc_T_init 1 = .ok (.invokespecial 3, 3) := by decide +kernel
theorem kd_T_init_4 : decode kc_T_init 4 = .ok (.aload_n 0, 1) := by decide +kernel
theorem kd_T_init_5 : decode kc_T_init 5 = .ok (.bipush 8, 2) := by decide +kernel
theorem kd_T_init_7 : decode kc_T_init 7 = .ok (.newarray .int, 2) := by decide +kernel
theorem kd_T_init_9 : decode kc_T_init 9 = .ok (.putfield 9, 3) := by decide +kernel
theorem kd_T_init_12 : decode kc_T_init 12 = .ok (.aload_n 0, 1) := by decide +kernel
theorem kd_T_init_13 : decode kc_T_init 13 = .ok (.bipush 8, 2) := by decide +kernel
theorem kd_T_init_15 : decode kc_T_init 15 = .ok (.newarray .int, 2) := by decide +kernel
theorem kd_T_init_17 : decode kc_T_init 17 = .ok (.putfield 15, 3) := by decide +kernel
theorem kd_T_init_20 : decode kc_T_init 20 = .ok (.aload_n 0, 1) := by decide +kernel
theorem kd_T_init_21 : decode kc_T_init 21 = .ok (.bipush 8, 2) := by decide +kernel
theorem kd_T_init_23 : decode kc_T_init 23 = .ok (.newarray .int, 2) := by decide +kernel
theorem kd_T_init_25 : decode kc_T_init 25 = .ok (.putfield 18, 3) := by decide +kernel
theorem kd_T_init_28 : decode kc_T_init 28 = .ok (.aload_n 0, 1) := by decide +kernel
theorem kd_T_init_29 : decode kc_T_init 29 = .ok (.bipush 8, 2) := by decide +kernel
theorem kd_T_init_31 : decode kc_T_init 31 = .ok (.newarray .int, 2) := by decide +kernel
theorem kd_T_init_33 : decode kc_T_init 33 = .ok (.putfield 21, 3) := by decide +kernel
theorem kd_T_init_36 : decode kc_T_init 36 = .ok (.aload_n 0, 1) := by decide +kernel
theorem kd_T_init_37 : decode kc_T_init 37 = .ok (.bipush 8, 2) := by decide +kernel
theorem kd_T_init_39 : decode kc_T_init 39 = .ok (.newarray .int, 2) := by decide +kernel
theorem kd_T_init_41 : decode kc_T_init 41 = .ok (.putfield 24, 3) := by decide +kernel
theorem kd_T_init_44 : decode kc_T_init 44 = .ok (.aload_n 0, 1) := by decide +kernel
theorem kd_T_init_45 : decode kc_T_init 45 = .ok (.bipush 8, 2) := by decide +kernel
theorem kd_T_init_47 : decode kc_T_init 47 = .ok (.newarray .int, 2) := by decide +kernel
theorem kd_T_init_49 : decode kc_T_init 49 = .ok (.putfield 27, 3) := by decide +kernel
theorem kd_T_init_52 : decode kc_T_init 52 = .ok (.return_, 1) := by decide +kernel
theorem kd_N_init_0 : decode kc_N_init 0 = .ok (.aload_n 0, 1) := by decide +kernel
theorem kd_N_init_1 : decode kc_N_init 1 = .ok (.invokespecial 3, 3) := by decide +kernel
theorem kd_N_init_4 : decode kc_N_init 4 = .ok (.aload_n 0, 1) := by decide +kernel
theorem kd_N_init_5 : decode kc_N_init 5 = .ok (.bipush 6, 2) := by decide +kernel
theorem kd_N_init_7 : decode kc_N_init 7 = .ok (.newarray .int, 2) := by decide +kernel
theorem kd_N_init_9 : decode kc_N_init 9 = .ok (.putfield 9, 3) := by decide +kernel
theorem kd_N_init_12 : decode kc_N_init 12 = .ok (.aload_n 0, 1) := by decide +kernel
theorem kd_N_init_13 : decode kc_N_init 13 = .ok (.bipush 6, 2) := by decide +kernel
theorem kd_N_init_15 : decode kc_N_init 15 = .ok (.newarray .int, 2) := by decide +kernel
theorem kd_N_init_17 : decode kc_N_init 17 = .ok (.putfield 15, 3) := by decide +kernel
theorem kd_N_init_20 : decode kc_N_init 20 = .ok (.aload_n 0, 1) := by decide +kernel
theorem kd_N_init_21 : decode kc_N_init 21 = .ok (.bipush 6, 2) := by decide +kernel
theorem kd_N_init_23 : decode kc_N_init 23 = .ok (.newarray .int, 2) := by decide +kernel
theorem kd_N_init_25 : decode kc_N_init 25 = .ok (.putfield 18, 3) := by decide +kernel
theorem kd_N_init_28 : decode kc_N_init 28 = .ok (.aload_n 0, 1) := by decide +kernel
theorem kd_N_init_29 : decode kc_N_init 29 = .ok (.bipush 6, 2) := by decide +kernel
theorem kd_N_init_31 : decode kc_N_init 31 = .ok (.iconst 4, 1) := by decide +kernel
theorem kd_N_init_32 : decode kc_N_init 32 = .ok (.multianewarray 21 2, 4) := by decide +kernel
theorem kd_N_init_36 : decode kc_N_init 36 = .ok (.putfield 23, 3) := by decide +kernel
theorem kd_N_init_39 : decode kc_N_init 39 = .ok (.aload_n 0, 1) := by decide +kernel
theorem kd_N_init_40 : decode kc_N_init 40 = .ok (.bipush 6, 2) := by decide +kernel
theorem kd_N_init_42 : decode kc_N_init 42 = .ok (.bipush 8, 2) := by decide +kernel
theorem kd_N_init_44 : decode kc_N_init 44 = .ok (.multianewarray 21 2, 4) := by decide +kernel
theorem kd_N_init_48 : decode kc_N_init 48 = .ok (.putfield 26, 3) := by decide +kernel
theorem kd_N_init_51 : decode kc_N_init 51 = .ok (.aload_n 0, 1) := by decide +kernel
theorem kd_N_init_52 : decode kc_N_init 52 = .ok (.bipush 6, 2) := by decide +kernel
theorem kd_N_init_54 : decode kc_N_init 54 = .ok (.bipush 8, 2) := by decide +kernel
theorem kd_N_init_56 : decode kc_N_init 56 = .ok (.multianewarray 21 2, 4) := by decide +kernel
theorem kd_N_init_60 : decode kc_N_init 60 = .ok (.putfield 29, 3) := by decide +kernel
theorem kd_N_init_63 : decode kc_N_init 63 = .ok (.return_, 1) := by decide +kernel
theorem kd_F_countChoices_0 : decode kc_F_countChoices 0 = .ok (.iconst 1, 1) := by decide +kernel
theorem kd_F_countChoices_1 : decode kc_F_countChoices 1 = .ok (.istore_n 1, 1) := by decide +kernel
theorem kd_F_countChoices_2 : decode kc_F_countChoices 2 = .ok (.iconst 0, 1) := by decide +kernel
theorem kd_F_countChoices_3 : decode kc_F_countChoices 3 = .ok (.istore_n 2, 1) := by decide +kernel
theorem kd_F_countChoices_4 : decode kc_F_countChoices 4 = .ok (.iload_n 2, 1) := by decide +kernel
theorem kd_F_countChoices_5 : decode kc_F_countChoices 5 = .ok (.aload_n 0, 1) := by decide +kernel
theorem kd_F_countChoices_6 : decode kc_F_countChoices 6 = .ok (.getfield 21, 3) := by decide +kernel
theorem kd_F_countChoices_9 : decode kc_F_countChoices 9 = .ok (.getfield 63, 3) := by decide +kernel
theorem kd_F_countChoices_12 : decode kc_F_countChoices 12 = .ok (.if_icmp .ge 49, 3) := by decide +kernel
theorem kd_F_countChoices_15 : decode kc_F_countChoices 15 = .ok (.iconst 0, 1) := by decide +kernel
theorem kd_F_countChoices_16 : decode kc_F_countChoices 16 = .ok (.istore_n 3, 1) := by decide +kernel
theorem kd_F_countChoices_17 : decode kc_F_countChoices 17 = .ok (.iload_n 3, 1) := by decide +kernel
theorem kd_F_countChoices_18 : decode kc_F_countChoices 18 = .ok (.aload_n 0, 1) := by decide +kernel
theorem kd_F_countChoices_19 : decode kc_F_countChoices 19 = .ok (.getfield 12, 3) := by decide +kernel
theorem kd_F_countChoices_22 : decode kc_F_countChoices 22 = .ok (.getfield 48, 3) := by decide +kernel
theorem kd_F_countChoices_25 : decode kc_F_countChoices 25 = .ok (.if_icmp .ge 30, 3) := by decide +kernel
theorem kd_F_countChoices_28 : decode kc_F_countChoices 28 = .ok (.aload_n 0, 1) := by decide +kernel
theorem kd_F_countChoices_29 : decode kc_F_countChoices 29 = .ok (.iload_n 2, 1) := by decide +kernel
theorem kd_F_countChoices_30 : decode kc_F_countChoices 30 = .ok (.iload_n 3, 1) := by decide +kernel
theorem kd_F_countChoices_31 : decode kc_F_countChoices 31 = .ok (.invokevirtual 64, 3) := by decide +kernel
theorem kd_F_countChoices_34 : decode kc_F_countChoices 34 = .ok (.ifCond .eq 7, 3) := by decide +kernel
theorem kd_F_countChoices_37 : decode kc_F_countChoices 37 = .ok (.iload_n 1, 1) := by decide +kernel
theorem kd_F_countChoices_38 : decode kc_F_countChoices 38 = .ok (.iconst 2, 1) := by decide +kernel
theorem kd_F_countChoices_39 : decode kc_F_countChoices 39 = .ok (.imul, 1) := by decide +kernel
theorem kd_F_countChoices_40 : decode kc_F_countChoices 40 = .ok (.istore_n 1, 1) := by decide +kernel
theorem kd_F_countChoices_41 : decode kc_F_countChoices 41 = .ok (.iload_n 1, 1) := by decide +kernel
theorem kd_F_countChoices_42 : decode kc_F_countChoices 42 = .ok (.ldc 67, 2) := by decide +kernel
theorem kd_F_countChoices_44 : decode kc_F_countChoices 44 = .ok (.if_icmp .le 5, 3) := by decide +kernel
theorem kd_F_countChoices_47 : decode kc_F_countChoices 47 = .ok (.iconst (-1), 1) := by decide +kernel
theorem kd_F_countChoices_48 : decode kc_F_countChoices 48 = .ok (.ireturn, 1) := by decide +kernel
theorem kd_F_countChoices_49 : decode kc_F_countChoices 49 = .ok (.iinc 3 1, 3) := by decide +kernel
theorem kd_F_countChoices_52 : decode kc_F_countChoices 52 = .ok (.goto (-35), 3) := by decide +kernel
theorem kd_F_countChoices_55 : decode kc_F_countChoices 55 = .ok (.iinc 2 1, 3) := by decide +kernel
theorem kd_F_countChoices_58 : decode kc_F_countChoices 58 = .ok (.goto (-54), 3) := by decide +kernel
theorem kd_F_countChoices_61 : decode kc_F_countChoices 61 = .ok (.iload_n 1, 1) := by decide +kernel
theorem kd_F_countChoices_62 : decode kc_F_countChoices 62 = .ok (.ireturn, 1) := by decide +kernel
theorem kd_F_allows_0 : decode kc_F_allows 0 = .ok (.aload_n 0, 1) := by decide +kernel
theorem kd_F_allows_1 : decode kc_F_allows 1 = .ok (.iload_n 1, 1) := by decide +kernel
theorem kd_F_allows_2 : decode kc_F_allows 2 = .ok (.iload_n 2, 1) := by decide +kernel
theorem kd_F_allows_3 : decode kc_F_allows 3 = .ok (.invokevirtual 44, 3) := by decide +kernel
theorem kd_F_allows_6 : decode kc_F_allows 6 = .ok (.iconst 3, 1) := by decide +kernel
theorem kd_F_allows_7 : decode kc_F_allows 7 = .ok (.if_icmp .lt 7, 3) := by decide +kernel
theorem kd_F_allows_10 : decode kc_F_allows 10 = .ok (.iconst 1, 1) := by decide +kernel
theorem kd_F_allows_11 : decode kc_F_allows 11 = .ok (.goto 4, 3) := by decide +kernel
theorem kd_F_allows_14 : decode kc_F_allows 14 = .ok (.iconst 0, 1) := by decide +kernel
theorem kd_F_allows_15 : decode kc_F_allows 15 = .ok (.ireturn, 1) := by decide +kernel
theorem kd_F_barsPassed_0 : decode kc_F_barsPassed 0 = .ok (.aload_n 0, 1) := by decide +kernel
theorem kd_F_barsPassed_1 : decode kc_F_barsPassed 1 = .ok (.getfield 12, 3) := by decide +kernel
theorem kd_F_barsPassed_4 : decode kc_F_barsPassed 4 = .ok (.getfield 25, 3) := by decide +kernel
theorem kd_F_barsPassed_7 : decode kc_F_barsPassed 7 = .ok (.iload_n 2, 1) := by decide +kernel
theorem kd_F_barsPassed_8 : decode kc_F_barsPassed 8 = .ok (.iaload, 1) := by decide +kernel
theorem kd_F_barsPassed_9 : decode kc_F_barsPassed 9 = .ok (.aload_n 0, 1) := by decide +kernel
theorem kd_F_barsPassed_10 : decode kc_F_barsPassed 10 = .ok (.getfield 21, 3) := by decide +kernel
theorem kd_F_barsPassed_13 : decode kc_F_barsPassed 13 = .ok (.getfield 29, 3) := by decide +kernel
theorem kd_F_barsPassed_16 : decode kc_F_barsPassed 16 = .ok (.iload_n 1, 1) := by decide +kernel
theorem kd_F_barsPassed_17 : decode kc_F_barsPassed 17 = .ok (.iaload, 1) := by decide +kernel
theorem kd_F_barsPassed_18 : decode kc_F_barsPassed 18 = .ok (.if_icmp .eq 5, 3) := by decide +kernel
theorem kd_F_barsPassed_21 : decode kc_F_barsPassed 21 = .ok (.iconst 0, 1) := by decide +kernel
theorem kd_F_barsPassed_22 : decode kc_F_barsPassed 22 = .ok (.ireturn, 1) := by decide +kernel
theorem kd_F_barsPassed_23 : decode kc_F_barsPassed 23 = .ok (.aload_n 0, 1) := by decide +kernel
theorem kd_F_barsPassed_24 : decode kc_F_barsPassed 24 = .ok (.getfield 12, 3) := by decide +kernel
theorem kd_F_barsPassed_27 : decode kc_F_barsPassed 27 = .ok (.getfield 30, 3) := by decide +kernel
theorem kd_F_barsPassed_30 : decode kc_F_barsPassed 30 = .ok (.iload_n 2, 1) := by decide +kernel
theorem kd_F_barsPassed_31 : decode kc_F_barsPassed 31 = .ok (.iaload, 1) := by decide +kernel
theorem kd_F_barsPassed_32 : decode kc_F_barsPassed 32 = .ok (.aload_n 0, 1) := by decide +kernel
theorem kd_F_barsPassed_33 : decode kc_F_barsPassed 33 = .ok (.getfield 21, 3) := by decide +kernel
theorem kd_F_barsPassed_36 : decode kc_F_barsPassed 36 = .ok (.getfield 33, 3) := by decide +kernel
theorem kd_F_barsPassed_39 : decode kc_F_barsPassed 39 = .ok (.iload_n 1, 1) := by decide +kernel
theorem kd_F_barsPassed_40 : decode kc_F_barsPassed 40 = .ok (.aaload, 1) := by decide +kernel
theorem kd_F_barsPassed_41 : decode kc_F_barsPassed 41 = .ok (.iconst 0, 1) := by decide +kernel
theorem kd_F_barsPassed_42 : decode kc_F_barsPassed 42 = .ok (.iaload, 1) := by decide +kernel
theorem kd_F_barsPassed_43 : decode kc_F_barsPassed 43 = .ok (.if_icmp .ge 5, 3) := by decide +kernel
theorem kd_F_barsPassed_46 : decode kc_F_barsPassed 46 = .ok (.iconst 1, 1) := by decide +kernel
theorem kd_F_barsPassed_47 : decode kc_F_barsPassed 47 = .ok (.ireturn, 1) := by decide +kernel
theorem kd_F_barsPassed_48 : decode kc_F_barsPassed 48 = .ok (.aload_n 0, 1) := by decide +kernel
theorem kd_F_barsPassed_49 : decode kc_F_barsPassed 49 = .ok (.getfield 21, 3) := by decide +kernel
theorem kd_F_barsPassed_52 : decode kc_F_barsPassed 52 = .ok (.iload_n 1, 1) := by decide +kernel
theorem kd_F_barsPassed_53 : decode kc_F_barsPassed 53 = .ok (.iload_n 2, 1) := by decide +kernel
theorem kd_F_barsPassed_54 : decode kc_F_barsPassed 54 = .ok (.invokevirtual 37, 3) := by decide +kernel
theorem kd_F_barsPassed_57 : decode kc_F_barsPassed 57 = .ok (.ifCond .eq 5, 3) := by decide +kernel
theorem kd_F_barsPassed_60 : decode kc_F_barsPassed 60 = .ok (.iconst 2, 1) := by decide +kernel
theorem kd_F_barsPassed_61 : decode kc_F_barsPassed 61 = .ok (.ireturn, 1) := by decide +kernel
theorem kd_F_barsPassed_62 : decode kc_F_barsPassed 62 = .ok (.aload_n 0, 1) := by decide +kernel
theorem kd_F_barsPassed_63 : decode kc_F_barsPassed 63 = .ok (.getfield 12, 3) := by decide +kernel
theorem kd_F_barsPassed_66 : decode kc_F_barsPassed 66 = .ok (.getfield 41, 3) := by decide +kernel
theorem kd_F_barsPassed_69 : decode kc_F_barsPassed 69 = .ok (.iload_n 2, 1) := by decide +kernel
theorem kd_F_barsPassed_70 : decode kc_F_barsPassed 70 = .ok (.iaload, 1) := by decide +kernel
theorem kd_F_barsPassed_71 : decode kc_F_barsPassed 71 = .ok (.aload_n 0, 1) := by decide +kernel
theorem kd_F_barsPassed_72 : decode kc_F_barsPassed 72 = .ok (.getfield 21, 3) := by decide +kernel
theorem kd_F_barsPassed_75 : decode kc_F_barsPassed 75 = .ok (.getfield 33, 3) := by decide +kernel
theorem kd_F_barsPassed_78 : decode kc_F_barsPassed 78 = .ok (.iload_n 1, 1) := by decide +kernel
theorem kd_F_barsPassed_79 : decode kc_F_barsPassed 79 = .ok (.aaload, 1) := by decide +kernel
theorem kd_F_barsPassed_80 : decode kc_F_barsPassed 80 = .ok (.iconst 1, 1) := by decide +kernel
theorem kd_F_barsPassed_81 : decode kc_F_barsPassed 81 = .ok (.iaload, 1) := by decide +kernel
theorem kd_F_barsPassed_82 : decode kc_F_barsPassed 82 = .ok (.if_icmp .ge 7, 3) := by decide +kernel
theorem kd_F_barsPassed_85 : decode kc_F_barsPassed 85 = .ok (.iconst 3, 1) := by decide +kernel
theorem kd_F_barsPassed_86 : decode kc_F_barsPassed 86 = .ok (.goto 4, 3) := by decide +kernel
theorem kd_F_barsPassed_89 : decode kc_F_barsPassed 89 = .ok (.iconst 4, 1) := by decide +kernel
theorem kd_F_barsPassed_90 : decode kc_F_barsPassed 90 = .ok (.ireturn, 1) := by decide +kernel
theorem kd_N_isBarred_0 : decode kc_N_isBarred 0 = .ok (.aload_n 0, 1) := by decide +kernel
theorem kd_N_isBarred_1 : decode kc_N_isBarred 1 = .ok (.getfield 18, 3) := by decide +kernel
theorem kd_N_isBarred_4 : decode kc_N_isBarred 4 = .ok (.iload_n 1, 1) := by decide +kernel
theorem kd_N_isBarred_5 : decode kc_N_isBarred 5 = .ok (.iaload, 1) := by decide +kernel
theorem kd_N_isBarred_6 : decode kc_N_isBarred 6 = .ok (.iload_n 2, 1) := by decide +kernel
theorem kd_N_isBarred_7 : decode kc_N_isBarred 7 = .ok (.ishr, 1) := by decide +kernel
theorem kd_N_isBarred_8 : decode kc_N_isBarred 8 = .ok (.iconst 1, 1) := by decide +kernel
theorem kd_N_isBarred_9 : decode kc_N_isBarred 9 = .ok (.iand, 1) := by decide +kernel
theorem kd_N_isBarred_10 : decode kc_N_isBarred 10 = .ok (.iconst 1, 1) := by decide +kernel
theorem kd_N_isBarred_11 : decode kc_N_isBarred 11 = .ok (.if_icmp .ne 7, 3) := by decide +kernel
theorem kd_N_isBarred_14 : decode kc_N_isBarred 14 = .ok (.iconst 1, 1) := by decide +kernel
theorem kd_N_isBarred_15 : decode kc_N_isBarred 15 = .ok (.goto 4, 3) := by decide +kernel
theorem kd_N_isBarred_18 : decode kc_N_isBarred 18 = .ok (.iconst 0, 1) := by decide +kernel
theorem kd_N_isBarred_19 : decode kc_N_isBarred 19 = .ok (.ireturn, 1) := by decide +kernel
theorem kd_F_lineBound_0 : decode kc_F_lineBound 0 = .ok (.aload_n 0, 1) := by decide +kernel
theorem kd_F_lineBound_1 : decode kc_F_lineBound 1 = .ok (.getfield 21, 3) := by decide +kernel
theorem kd_F_lineBound_4 : decode kc_F_lineBound 4 = .ok (.getfield 68, 3) := by decide +kernel
theorem kd_F_lineBound_7 : decode kc_F_lineBound 7 = .ok (.iload_n 1, 1) := by decide +kernel
theorem kd_F_lineBound_8 : decode kc_F_lineBound 8 = .ok (.iaload, 1) := by decide +kernel
theorem kd_F_lineBound_9 : decode kc_F_lineBound 9 = .ok (.istore_n 2, 1) := by decide +kernel
theorem kd_F_lineBound_10 : decode kc_F_lineBound 10 = .ok (.sipush 1000, 3) := by decide +kernel
theorem kd_F_lineBound_13 : decode kc_F_lineBound 13 = .ok (.iload_n 2, 1) := by decide +kernel
theorem kd_F_lineBound_14 : decode kc_F_lineBound 14 = .ok (.imul, 1) := by decide +kernel
theorem kd_F_lineBound_15 : decode kc_F_lineBound 15 = .ok (.istore_n 3, 1) := by decide +kernel
theorem kd_F_lineBound_16 : decode kc_F_lineBound 16 = .ok (.iconst 0, 1) := by decide +kernel
theorem kd_F_lineBound_17 : decode kc_F_lineBound 17 = .ok (.istore 4, 2) := by decide +kernel
theorem kd_F_lineBound_19 : decode kc_F_lineBound 19 = .ok (.iload 4, 2) := by decide +kernel
theorem kd_F_lineBound_21 : decode kc_F_lineBound 21 = .ok (.aload_n 0, 1) := by decide +kernel
theorem kd_F_lineBound_22 : decode kc_F_lineBound 22 = .ok (.getfield 12, 3) := by decide +kernel
theorem kd_F_lineBound_25 : decode kc_F_lineBound 25 = .ok (.getfield 48, 3) := by decide +kernel
theorem kd_F_lineBound_28 : decode kc_F_lineBound 28 = .ok (.if_icmp .ge 36, 3) := by decide +kernel
theorem kd_F_lineBound_31 : decode kc_F_lineBound 31 = .ok (.aload_n 0, 1) := by decide +kernel
theorem kd_F_lineBound_32 : decode kc_F_lineBound 32 = .ok (.iload_n 1, 1) := by decide +kernel
theorem kd_F_lineBound_33 : decode kc_F_lineBound 33 = .ok (.iload 4, 2) := by decide +kernel
theorem kd_F_lineBound_35 : decode kc_F_lineBound 35 = .ok (.invokevirtual 64, 3) := by decide +kernel
theorem kd_F_lineBound_38 : decode kc_F_lineBound 38 = .ok (.ifCond .eq 20, 3) := by decide +kernel
theorem kd_F_lineBound_41 : decode kc_F_lineBound 41 = .ok (.iload_n 3, 1) := by decide +kernel
theorem kd_F_lineBound_42 : decode kc_F_lineBound 42 = .ok (.aload_n 0, 1) := by decide +kernel
theorem kd_F_lineBound_43 : decode kc_F_lineBound 43 = .ok (.iload_n 1, 1) := by decide +kernel
theorem kd_F_lineBound_44 : decode kc_F_lineBound 44 = .ok (.iload 4, 2) := by decide +kernel
theorem kd_F_lineBound_46 : decode kc_F_lineBound 46 = .ok (.invokevirtual 71, 3) := by decide +kernel
theorem kd_F_lineBound_49 : decode kc_F_lineBound 49 = .ok (.iload_n 2, 1) := by decide +kernel
theorem kd_F_lineBound_50 : decode kc_F_lineBound 50 = .ok (.imul, 1) := by decide +kernel
theorem kd_F_lineBound_51 : decode kc_F_lineBound 51 = .ok (.bipush 20, 2) := by decide +kernel
theorem kd_F_lineBound_53 : decode kc_F_lineBound 53 = .ok (.iadd, 1) := by decide +kernel
theorem kd_F_lineBound_54 : decode kc_F_lineBound 54 = .ok (.invokestatic 74, 3) := by decide +kernel
theorem kd_F_lineBound_57 : decode kc_F_lineBound 57 = .ok (.istore_n 3, 1) := by decide +kernel
theorem kd_F_lineBound_58 : decode kc_F_lineBound 58 = .ok (.iinc 4 1, 3) := by decide +kernel
theorem kd_F_lineBound_61 : decode kc_F_lineBound 61 = .ok (.goto (-42), 3) := by decide +kernel
theorem kd_F_lineBound_64 : decode kc_F_lineBound 64 = .ok (.iload_n 3, 1) := by decide +kernel
theorem kd_F_lineBound_65 : decode kc_F_lineBound 65 = .ok (.ireturn, 1) := by decide +kernel
theorem kd_F_pieceCost_0 : decode kc_F_pieceCost 0 = .ok (.aload_n 0, 1) := by decide +kernel
theorem kd_F_pieceCost_1 : decode kc_F_pieceCost 1 = .ok (.getfield 21, 3) := by decide +kernel
theorem kd_F_pieceCost_4 : decode kc_F_pieceCost 4 = .ok (.getfield 57, 3) := by decide +kernel
theorem kd_F_pieceCost_7 : decode kc_F_pieceCost 7 = .ok (.iload_n 1, 1) := by decide +kernel
theorem kd_F_pieceCost_8 : decode kc_F_pieceCost 8 = .ok (.aaload, 1) := by decide +kernel
theorem kd_F_pieceCost_9 : decode kc_F_pieceCost 9 = .ok (.iload_n 2, 1) := by decide +kernel
theorem kd_F_pieceCost_10 : decode kc_F_pieceCost 10 = .ok (.iaload, 1) := by decide +kernel
theorem kd_F_pieceCost_11 : decode kc_F_pieceCost 11 = .ok (.istore_n 3, 1) := by decide +kernel
theorem kd_F_pieceCost_12 : decode kc_F_pieceCost 12 = .ok (.iload_n 3, 1) := by decide +kernel
theorem kd_F_pieceCost_13 : decode kc_F_pieceCost 13 = .ok (.iconst (-1), 1) := by decide +kernel
theorem kd_F_pieceCost_14 : decode kc_F_pieceCost 14 = .ok (.if_icmp .ne 15, 3) := by decide +kernel
theorem kd_F_pieceCost_17 : decode kc_F_pieceCost 17 = .ok (.aload_n 0, 1) := by decide +kernel
theorem kd_F_pieceCost_18 : decode kc_F_pieceCost 18 = .ok (.getfield 12, 3) := by decide +kernel
theorem kd_F_pieceCost_21 : decode kc_F_pieceCost 21 = .ok (.getfield 60, 3) := by decide +kernel
theorem kd_F_pieceCost_24 : decode kc_F_pieceCost 24 = .ok (.iload_n 2, 1) := by decide +kernel
theorem kd_F_pieceCost_25 : decode kc_F_pieceCost 25 = .ok (.iaload, 1) := by decide +kernel
theorem kd_F_pieceCost_26 : decode kc_F_pieceCost 26 = .ok (.goto 4, 3) := by decide +kernel
theorem kd_F_pieceCost_29 : decode kc_F_pieceCost 29 = .ok (.iload_n 3, 1) := by decide +kernel
theorem kd_F_pieceCost_30 : decode kc_F_pieceCost 30 = .ok (.ireturn, 1) := by decide +kernel
theorem kd_F_totalPieces_0 : decode kc_F_totalPieces 0 = .ok (.iconst 0, 1) := by decide +kernel
theorem kd_F_totalPieces_1 : decode kc_F_totalPieces 1 = .ok (.istore_n 1, 1) := by decide +kernel
theorem kd_F_totalPieces_2 : decode kc_F_totalPieces 2 = .ok (.iconst 0, 1) := by decide +kernel
theorem kd_F_totalPieces_3 : decode kc_F_totalPieces 3 = .ok (.istore_n 2, 1) := by decide +kernel
theorem kd_F_totalPieces_4 : decode kc_F_totalPieces 4 = .ok (.iload_n 2, 1) := by decide +kernel
theorem kd_F_totalPieces_5 : decode kc_F_totalPieces 5 = .ok (.aload_n 0, 1) := by decide +kernel
theorem kd_F_totalPieces_6 : decode kc_F_totalPieces 6 = .ok (.getfield 21, 3) := by decide +kernel
theorem kd_F_totalPieces_9 : decode kc_F_totalPieces 9 = .ok (.getfield 63, 3) := by decide +kernel
theorem kd_F_totalPieces_12 : decode kc_F_totalPieces 12 = .ok (.if_icmp .ge 17, 3) := by decide +kernel
theorem kd_F_totalPieces_15 : decode kc_F_totalPieces 15 = .ok (.iload_n 1, 1) := by decide +kernel
theorem kd_F_totalPieces_16 : decode kc_F_totalPieces 16 = .ok (.aload_n 0, 1) := by decide +kernel
theorem kd_F_totalPieces_17 : decode kc_F_totalPieces 17 = .ok (.iload_n 2, 1) := by decide +kernel
theorem kd_F_totalPieces_18 : decode kc_F_totalPieces 18 = .ok (.invokevirtual 83, 3) := by decide +kernel
theorem kd_F_totalPieces_21 : decode kc_F_totalPieces 21 = .ok (.iadd, 1) := by decide +kernel
theorem kd_F_totalPieces_22 : decode kc_F_totalPieces 22 = .ok (.istore_n 1, 1) := by decide +kernel
theorem kd_F_totalPieces_23 : decode kc_F_totalPieces 23 = .ok (.iinc 2 1, 3) := by decide +kernel
theorem kd_F_totalPieces_26 : decode kc_F_totalPieces 26 = .ok (.goto (-22), 3) := by decide +kernel
theorem kd_F_totalPieces_29 : decode kc_F_totalPieces 29 = .ok (.iload_n 1, 1) := by decide +kernel
theorem kd_F_totalPieces_30 : decode kc_F_totalPieces 30 = .ok (.ireturn, 1) := by decide +kernel
theorem kd_F_piecesOf_0 : decode kc_F_piecesOf 0 = .ok (.iconst 0, 1) := by decide +kernel
theorem kd_F_piecesOf_1 : decode kc_F_piecesOf 1 = .ok (.istore_n 2, 1) := by decide +kernel
theorem kd_F_piecesOf_2 : decode kc_F_piecesOf 2 = .ok (.iconst 0, 1) := by decide +kernel
theorem kd_F_piecesOf_3 : decode kc_F_piecesOf 3 = .ok (.istore_n 3, 1) := by decide +kernel
theorem kd_F_piecesOf_4 : decode kc_F_piecesOf 4 = .ok (.iload_n 3, 1) := by decide +kernel
theorem kd_F_piecesOf_5 : decode kc_F_piecesOf 5 = .ok (.aload_n 0, 1) := by decide +kernel
theorem kd_F_piecesOf_6 : decode kc_F_piecesOf 6 = .ok (.getfield 12, 3) := by decide +kernel
theorem kd_F_piecesOf_9 : decode kc_F_piecesOf 9 = .ok (.getfield 48, 3) := by decide +kernel
theorem kd_F_piecesOf_12 : decode kc_F_piecesOf 12 = .ok (.if_icmp .ge 23, 3) := by decide +kernel
theorem kd_F_piecesOf_15 : decode kc_F_piecesOf 15 = .ok (.iload_n 2, 1) := by decide +kernel
theorem kd_F_piecesOf_16 : decode kc_F_piecesOf 16 = .ok (.aload_n 0, 1) := by decide +kernel
theorem kd_F_piecesOf_17 : decode kc_F_piecesOf 17 = .ok (.getfield 21, 3) := by decide +kernel
theorem kd_F_piecesOf_20 : decode kc_F_piecesOf 20 = .ok (.getfield 80, 3) := by decide +kernel
theorem kd_F_piecesOf_23 : decode kc_F_piecesOf 23 = .ok (.iload_n 1, 1) := by decide +kernel
theorem kd_F_piecesOf_24 : decode kc_F_piecesOf 24 = .ok (.aaload, 1) := by decide +kernel
theorem kd_F_piecesOf_25 : decode kc_F_piecesOf 25 = .ok (.iload_n 3, 1) := by decide +kernel
theorem kd_F_piecesOf_26 : decode kc_F_piecesOf 26 = .ok (.iaload, 1) := by decide +kernel
theorem kd_F_piecesOf_27 : decode kc_F_piecesOf 27 = .ok (.iadd, 1) := by decide +kernel
theorem kd_F_piecesOf_28 : decode kc_F_piecesOf 28 = .ok (.istore_n 2, 1) := by decide +kernel
theorem kd_F_piecesOf_29 : decode kc_F_piecesOf 29 = .ok (.iinc 3 1, 3) := by decide +kernel
theorem kd_F_piecesOf_32 : decode kc_F_piecesOf 32 = .ok (.goto (-28), 3) := by decide +kernel
theorem kd_F_piecesOf_35 : decode kc_F_piecesOf 35 = .ok (.iload_n 2, 1) := by decide +kernel
theorem kd_F_piecesOf_36 : decode kc_F_piecesOf 36 = .ok (.ireturn, 1) := by decide +kernel
theorem kd_F_totalGifts_0 : decode kc_F_totalGifts 0 = .ok (.iconst 0, 1) := by decide +kernel
theorem kd_F_totalGifts_1 : decode kc_F_totalGifts 1 = .ok (.istore_n 1, 1) := by decide +kernel
theorem kd_F_totalGifts_2 : decode kc_F_totalGifts 2 = .ok (.iconst 0, 1) := by decide +kernel
theorem kd_F_totalGifts_3 : decode kc_F_totalGifts 3 = .ok (.istore_n 2, 1) := by decide +kernel
theorem kd_F_totalGifts_4 : decode kc_F_totalGifts 4 = .ok (.iload_n 2, 1) := by decide +kernel
theorem kd_F_totalGifts_5 : decode kc_F_totalGifts 5 = .ok (.aload_n 0, 1) := by decide +kernel
theorem kd_F_totalGifts_6 : decode kc_F_totalGifts 6 = .ok (.getfield 21, 3) := by decide +kernel
theorem kd_F_totalGifts_9 : decode kc_F_totalGifts 9 = .ok (.getfield 63, 3) := by decide +kernel
theorem kd_F_totalGifts_12 : decode kc_F_totalGifts 12 = .ok (.if_icmp .ge 17, 3) := by decide +kernel
theorem kd_F_totalGifts_15 : decode kc_F_totalGifts 15 = .ok (.iload_n 1, 1) := by decide +kernel
theorem kd_F_totalGifts_16 : decode kc_F_totalGifts 16 = .ok (.aload_n 0, 1) := by decide +kernel
theorem kd_F_totalGifts_17 : decode kc_F_totalGifts 17 = .ok (.iload_n 2, 1) := by decide +kernel
theorem kd_F_totalGifts_18 : decode kc_F_totalGifts 18 = .ok (.invokevirtual 87, 3) := by decide +kernel
theorem kd_F_totalGifts_21 : decode kc_F_totalGifts 21 = .ok (.iadd, 1) := by decide +kernel
theorem kd_F_totalGifts_22 : decode kc_F_totalGifts 22 = .ok (.istore_n 1, 1) := by decide +kernel
theorem kd_F_totalGifts_23 : decode kc_F_totalGifts 23 = .ok (.iinc 2 1, 3) := by decide +kernel
theorem kd_F_totalGifts_26 : decode kc_F_totalGifts 26 = .ok (.goto (-22), 3) := by decide +kernel
theorem kd_F_totalGifts_29 : decode kc_F_totalGifts 29 = .ok (.iload_n 1, 1) := by decide +kernel
theorem kd_F_totalGifts_30 : decode kc_F_totalGifts 30 = .ok (.ireturn, 1) := by decide +kernel
theorem kd_F_giftsOf_0 : decode kc_F_giftsOf 0 = .ok (.iconst 0, 1) := by decide +kernel
theorem kd_F_giftsOf_1 : decode kc_F_giftsOf 1 = .ok (.istore_n 2, 1) := by decide +kernel
theorem kd_F_giftsOf_2 : decode kc_F_giftsOf 2 = .ok (.iconst 0, 1) := by decide +kernel
theorem kd_F_giftsOf_3 : decode kc_F_giftsOf 3 = .ok (.istore_n 3, 1) := by decide +kernel
theorem kd_F_giftsOf_4 : decode kc_F_giftsOf 4 = .ok (.iload_n 3, 1) := by decide +kernel
theorem kd_F_giftsOf_5 : decode kc_F_giftsOf 5 = .ok (.aload_n 0, 1) := by decide +kernel
theorem kd_F_giftsOf_6 : decode kc_F_giftsOf 6 = .ok (.getfield 12, 3) := by decide +kernel
theorem kd_F_giftsOf_9 : decode kc_F_giftsOf 9 = .ok (.getfield 48, 3) := by decide +kernel
theorem kd_F_giftsOf_12 : decode kc_F_giftsOf 12 = .ok (.if_icmp .ge 26, 3) := by decide +kernel
theorem kd_F_giftsOf_15 : decode kc_F_giftsOf 15 = .ok (.aload_n 0, 1) := by decide +kernel
theorem kd_F_giftsOf_16 : decode kc_F_giftsOf 16 = .ok (.getfield 21, 3) := by decide +kernel
theorem kd_F_giftsOf_19 : decode kc_F_giftsOf 19 = .ok (.getfield 80, 3) := by decide +kernel
theorem kd_F_giftsOf_22 : decode kc_F_giftsOf 22 = .ok (.iload_n 1, 1) := by decide +kernel
theorem kd_F_giftsOf_23 : decode kc_F_giftsOf 23 = .ok (.aaload, 1) := by decide +kernel
theorem kd_F_giftsOf_24 : decode kc_F_giftsOf 24 = .ok (.iload_n 3, 1) := by decide +kernel
theorem kd_F_giftsOf_25 : decode kc_F_giftsOf 25 = .ok (.iaload, 1) := by decide +kernel
theorem kd_F_giftsOf_26 : decode kc_F_giftsOf 26 = .ok (.ifCond .le 6, 3) := by decide +kernel
theorem kd_F_giftsOf_29 : decode kc_F_giftsOf 29 = .ok (.iinc 2 1, 3) := by decide +kernel
theorem kd_F_giftsOf_32 : decode kc_F_giftsOf 32 = .ok (.iinc 3 1, 3) := by decide +kernel
theorem kd_F_giftsOf_35 : decode kc_F_giftsOf 35 = .ok (.goto (-31), 3) := by decide +kernel
theorem kd_F_giftsOf_38 : decode kc_F_giftsOf 38 = .ok (.iload_n 2, 1) := by decide +kernel
theorem kd_F_giftsOf_39 : decode kc_F_giftsOf 39 = .ok (.ireturn, 1) := by decide +kernel
theorem kd_F_totalCost_0 : decode kc_F_totalCost 0 = .ok (.iconst 0, 1) := by decide +kernel
theorem kd_F_totalCost_1 : decode kc_F_totalCost 1 = .ok (.istore_n 1, 1) := by decide +kernel
theorem kd_F_totalCost_2 : decode kc_F_totalCost 2 = .ok (.iconst 0, 1) := by decide +kernel
theorem kd_F_totalCost_3 : decode kc_F_totalCost 3 = .ok (.istore_n 2, 1) := by decide +kernel
theorem kd_F_totalCost_4 : decode kc_F_totalCost 4 = .ok (.iload_n 2, 1) := by decide +kernel
theorem kd_F_totalCost_5 : decode kc_F_totalCost 5 = .ok (.aload_n 0, 1) := by decide +kernel
theorem kd_F_totalCost_6 : decode kc_F_totalCost 6 = .ok (.getfield 21, 3) := by decide +kernel
theorem kd_F_totalCost_9 : decode kc_F_totalCost 9 = .ok (.getfield 63, 3) := by decide +kernel
theorem kd_F_totalCost_12 : decode kc_F_totalCost 12 = .ok (.if_icmp .ge 17, 3) := by decide +kernel
theorem kd_F_totalCost_15 : decode kc_F_totalCost 15 = .ok (.iload_n 1, 1) := by decide +kernel
theorem kd_F_totalCost_16 : decode kc_F_totalCost 16 = .ok (.aload_n 0, 1) := by decide +kernel
theorem kd_F_totalCost_17 : decode kc_F_totalCost 17 = .ok (.iload_n 2, 1) := by decide +kernel
theorem kd_F_totalCost_18 : decode kc_F_totalCost 18 = .ok (.invokevirtual 90, 3) := by decide +kernel
theorem kd_F_totalCost_21 : decode kc_F_totalCost 21 = .ok (.iadd, 1) := by decide +kernel
theorem kd_F_totalCost_22 : decode kc_F_totalCost 22 = .ok (.istore_n 1, 1) := by decide +kernel
theorem kd_F_totalCost_23 : decode kc_F_totalCost 23 = .ok (.iinc 2 1, 3) := by decide +kernel
theorem kd_F_totalCost_26 : decode kc_F_totalCost 26 = .ok (.goto (-22), 3) := by decide +kernel
theorem kd_F_totalCost_29 : decode kc_F_totalCost 29 = .ok (.iload_n 1, 1) := by decide +kernel
theorem kd_F_totalCost_30 : decode kc_F_totalCost 30 = .ok (.ireturn, 1) := by decide +kernel
theorem kd_F_lineCost_0 : decode kc_F_lineCost 0 = .ok (.sipush 1000, 3) := by decide +kernel
theorem kd_F_lineCost_3 : decode kc_F_lineCost 3 = .ok (.aload_n 0, 1) := by decide +kernel
theorem kd_F_lineCost_4 : decode kc_F_lineCost 4 = .ok (.getfield 21, 3) := by decide +kernel
theorem kd_F_lineCost_7 : decode kc_F_lineCost 7 = .ok (.getfield 68, 3) := by decide +kernel
theorem kd_F_lineCost_10 : decode kc_F_lineCost 10 = .ok (.iload_n 1, 1) := by decide +kernel
theorem kd_F_lineCost_11 : decode kc_F_lineCost 11 = .ok (.iaload, 1) := by decide +kernel
theorem kd_F_lineCost_12 : decode kc_F_lineCost 12 = .ok (.imul, 1) := by decide +kernel
theorem kd_F_lineCost_13 : decode kc_F_lineCost 13 = .ok (.istore_n 2, 1) := by decide +kernel
theorem kd_F_lineCost_14 : decode kc_F_lineCost 14 = .ok (.iconst 0, 1) := by decide +kernel
theorem kd_F_lineCost_15 : decode kc_F_lineCost 15 = .ok (.istore_n 3, 1) := by decide +kernel
theorem kd_F_lineCost_16 : decode kc_F_lineCost 16 = .ok (.iload_n 3, 1) := by decide +kernel
theorem kd_F_lineCost_17 : decode kc_F_lineCost 17 = .ok (.aload_n 0, 1) := by decide +kernel
theorem kd_F_lineCost_18 : decode kc_F_lineCost 18 = .ok (.getfield 12, 3) := by decide +kernel
theorem kd_F_lineCost_21 : decode kc_F_lineCost 21 = .ok (.getfield 48, 3) := by decide +kernel
theorem kd_F_lineCost_24 : decode kc_F_lineCost 24 = .ok (.if_icmp .ge 46, 3) := by decide +kernel
theorem kd_F_lineCost_27 : decode kc_F_lineCost 27 = .ok (.aload_n 0, 1) := by decide +kernel
theorem kd_F_lineCost_28 : decode kc_F_lineCost 28 = .ok (.getfield 21, 3) := by decide +kernel
theorem kd_F_lineCost_31 : decode kc_F_lineCost 31 = .ok (.getfield 80, 3) := by decide +kernel
theorem kd_F_lineCost_34 : decode kc_F_lineCost 34 = .ok (.iload_n 1, 1) := by decide +kernel
theorem kd_F_lineCost_35 : decode kc_F_lineCost 35 = .ok (.aaload, 1) := by decide +kernel
theorem kd_F_lineCost_36 : decode kc_F_lineCost 36 = .ok (.iload_n 3, 1) := by decide +kernel
theorem kd_F_lineCost_37 : decode kc_F_lineCost 37 = .ok (.iaload, 1) := by decide +kernel
theorem kd_F_lineCost_38 : decode kc_F_lineCost 38 = .ok (.istore 4, 2) := by decide +kernel
theorem kd_F_lineCost_40 : decode kc_F_lineCost 40 = .ok (.iload 4, 2) := by decide +kernel
theorem kd_F_lineCost_42 : decode kc_F_lineCost 42 = .ok (.ifCond .le 22, 3) := by decide +kernel
theorem kd_F_lineCost_45 : decode kc_F_lineCost 45 = .ok (.iload_n 2, 1) := by decide +kernel
theorem kd_F_lineCost_46 : decode kc_F_lineCost 46 = .ok (.bipush 20, 2) := by decide +kernel
theorem kd_F_lineCost_48 : decode kc_F_lineCost 48 = .ok (.iload 4, 2) := by decide +kernel
theorem kd_F_lineCost_50 : decode kc_F_lineCost 50 = .ok (.aload_n 0, 1) := by decide +kernel
theorem kd_F_lineCost_51 : decode kc_F_lineCost 51 = .ok (.iload_n 1, 1) := by decide +kernel
theorem kd_F_lineCost_52 : decode kc_F_lineCost 52 = .ok (.iload_n 3, 1) := by decide +kernel
theorem kd_F_lineCost_53 : decode kc_F_lineCost 53 = .ok (.invokevirtual 71, 3) := by decide +kernel
theorem kd_F_lineCost_56 : decode kc_F_lineCost 56 = .ok (.sipush 1000, 3) := by decide +kernel
theorem kd_F_lineCost_59 : decode kc_F_lineCost 59 = .ok (.isub, 1) := by decide +kernel
theorem kd_F_lineCost_60 : decode kc_F_lineCost 60 = .ok (.imul, 1) := by decide +kernel
theorem kd_F_lineCost_61 : decode kc_F_lineCost 61 = .ok (.iadd, 1) := by decide +kernel
theorem kd_F_lineCost_62 : decode kc_F_lineCost 62 = .ok (.iadd, 1) := by decide +kernel
theorem kd_F_lineCost_63 : decode kc_F_lineCost 63 = .ok (.istore_n 2, 1) := by decide +kernel
theorem kd_F_lineCost_64 : decode kc_F_lineCost 64 = .ok (.iinc 3 1, 3) := by decide +kernel
theorem kd_F_lineCost_67 : decode kc_F_lineCost 67 = .ok (.goto (-51), 3) := by decide +kernel
theorem kd_F_lineCost_70 : decode kc_F_lineCost 70 = .ok (.iload_n 2, 1) := by decide +kernel
theorem kd_F_lineCost_71 : decode kc_F_lineCost 71 = .ok (.ireturn, 1) := by decide +kernel
theorem kd_T_add_0 : decode kc_T_add 0 = .ok (.aload_n 0, 1) := by decide +kernel
theorem kd_T_add_1 : decode kc_T_add 1 = .ok (.getfield 30, 3) := by decide +kernel
theorem kd_T_add_4 : decode kc_T_add 4 = .ok (.istore 5, 2) := by decide +kernel
theorem kd_T_add_6 : decode kc_T_add 6 = .ok (.aload_n 0, 1) := by decide +kernel
theorem kd_T_add_7 : decode kc_T_add 7 = .ok (.getfield 9, 3) := by decide +kernel
theorem kd_T_add_10 : decode kc_T_add 10 = .ok (.iload 5, 2) := by decide +kernel
theorem kd_T_add_12 : decode kc_T_add 12 = .ok (.iload_n 1, 1) := by decide +kernel
theorem kd_T_add_13 : decode kc_T_add 13 = .ok (.iastore, 1) := by decide +kernel
theorem kd_T_add_14 : decode kc_T_add 14 = .ok (.aload_n 0, 1) := by decide +kernel
theorem kd_T_add_15 : decode kc_T_add 15 = .ok (.getfield 15, 3) := by decide +kernel
theorem kd_T_add_18 : decode kc_T_add 18 = .ok (.iload 5, 2) := by decide +kernel
theorem kd_T_add_20 : decode kc_T_add 20 = .ok (.iload_n 2, 1) := by decide +kernel
theorem kd_T_add_21 : decode kc_T_add 21 = .ok (.iastore, 1) := by decide +kernel
theorem kd_T_add_22 : decode kc_T_add 22 = .ok (.aload_n 0, 1) := by decide +kernel
theorem kd_T_add_23 : decode kc_T_add 23 = .ok (.getfield 18, 3) := by decide +kernel
theorem kd_T_add_26 : decode kc_T_add 26 = .ok (.iload 5, 2) := by decide +kernel
theorem kd_T_add_28 : decode kc_T_add 28 = .ok (.iload 4, 2) := by decide +kernel
theorem kd_T_add_30 : decode kc_T_add 30 = .ok (.iastore, 1) := by decide +kernel
theorem kd_T_add_31 : decode kc_T_add 31 = .ok (.aload_n 0, 1) := by decide +kernel
theorem kd_T_add_32 : decode kc_T_add 32 = .ok (.getfield 21, 3) := by decide +kernel
theorem kd_T_add_35 : decode kc_T_add 35 = .ok (.iload 5, 2) := by decide +kernel
theorem kd_T_add_37 : decode kc_T_add 37 = .ok (.iload_n 3, 1) := by decide +kernel
theorem kd_T_add_38 : decode kc_T_add 38 = .ok (.iastore, 1) := by decide +kernel
theorem kd_T_add_39 : decode kc_T_add 39 = .ok (.aload_n 0, 1) := by decide +kernel
theorem kd_T_add_40 : decode kc_T_add 40 = .ok (.getfield 24, 3) := by decide +kernel
theorem kd_T_add_43 : decode kc_T_add 43 = .ok (.iload 5, 2) := by decide +kernel
theorem kd_T_add_45 : decode kc_T_add 45 = .ok (.iload_n 3, 1) := by decide +kernel
theorem kd_T_add_46 : decode kc_T_add 46 = .ok (.iastore, 1) := by decide +kernel
theorem kd_T_add_47 : decode kc_T_add 47 = .ok (.aload_n 0, 1) := by decide +kernel
theorem kd_T_add_48 : decode kc_T_add 48 = .ok (.iload 5, 2) := by decide +kernel
theorem kd_T_add_50 : decode kc_T_add 50 = .ok (.invokevirtual 34, 3) := by decide +kernel
theorem kd_T_add_53 : decode kc_T_add 53 = .ok (.aload_n 0, 1) := by decide +kernel
theorem kd_T_add_54 : decode kc_T_add 54 = .ok (.dup, 1) := by decide +kernel
theorem kd_T_add_55 : decode kc_T_add 55 = .ok (.getfield 30, 3) := by decide +kernel
theorem kd_T_add_58 : decode kc_T_add 58 = .ok (.iconst 1, 1) := by decide +kernel
theorem kd_T_add_59 : decode kc_T_add 59 = .ok (.iadd, 1) := by decide +kernel
theorem kd_T_add_60 : decode kc_T_add 60 = .ok (.putfield 30, 3) := by decide +kernel
theorem kd_T_add_63 : decode kc_T_add 63 = .ok (.iload 5, 2) := by decide +kernel
theorem kd_T_add_65 : decode kc_T_add 65 = .ok (.ireturn, 1) := by decide +kernel
theorem kd_T_putInOrder_0 : decode kc_T_putInOrder 0 = .ok (.iload_n 1, 1) := by decide +kernel
theorem kd_T_putInOrder_1 : decode kc_T_putInOrder 1 = .ok (.istore_n 2, 1) := by decide +kernel
theorem kd_T_putInOrder_2 : decode kc_T_putInOrder 2 = .ok (.iload_n 2, 1) := by decide +kernel
theorem kd_T_putInOrder_3 : decode kc_T_putInOrder 3 = .ok (.ifCond .le 39, 3) := by decide +kernel
theorem kd_T_putInOrder_6 : decode kc_T_putInOrder 6 = .ok (.aload_n 0, 1) := by decide +kernel
theorem kd_T_putInOrder_7 : decode kc_T_putInOrder 7 = .ok (.iload_n 1, 1) := by decide +kernel
theorem kd_T_putInOrder_8 : decode kc_T_putInOrder 8 = .ok (.aload_n 0, 1) := by decide +kernel
theorem kd_T_putInOrder_9 : decode kc_T_putInOrder 9 = .ok (.getfield 27, 3) := by decide +kernel
theorem kd_T_putInOrder_12 : decode kc_T_putInOrder 12 = .ok (.iload_n 2, 1) := by decide +kernel
theorem kd_T_putInOrder_13 : decode kc_T_putInOrder 13 = .ok (.iconst 1, 1) := by decide +kernel
theorem kd_T_putInOrder_14 : decode kc_T_putInOrder 14 = .ok (.isub, 1) := by decide +kernel
theorem kd_T_putInOrder_15 : decode kc_T_putInOrder 15 = .ok (.iaload, 1) := by decide +kernel
theorem kd_T_putInOrder_16 : decode kc_T_putInOrder 16 = .ok (.invokevirtual 38, 3) := by decide +kernel
theorem kd_T_putInOrder_19 : decode kc_T_putInOrder 19 = .ok (.ifCond .eq 23, 3) := by decide +kernel
theorem kd_T_putInOrder_22 : decode kc_T_putInOrder 22 = .ok (.aload_n 0, 1) := by decide +kernel
theorem kd_T_putInOrder_23 : decode kc_T_putInOrder 23 = .ok (.getfield 27, 3) := by decide +kernel
theorem kd_T_putInOrder_26 : decode kc_T_putInOrder 26 = .ok (.iload_n 2, 1) := by decide +kernel
theorem kd_T_putInOrder_27 : decode kc_T_putInOrder 27 = .ok (.aload_n 0, 1) := by decide +kernel
theorem kd_T_putInOrder_28 : decode kc_T_putInOrder 28 = .ok (.getfield 27, 3) := by decide +kernel
theorem kd_T_putInOrder_31 : decode kc_T_putInOrder 31 = .ok (.iload_n 2, 1) := by decide +kernel
theorem kd_T_putInOrder_32 : decode kc_T_putInOrder 32 = .ok (.iconst 1, 1) := by decide +kernel
theorem kd_T_putInOrder_33 : decode kc_T_putInOrder 33 = .ok (.isub, 1) := by decide +kernel
theorem kd_T_putInOrder_34 : decode kc_T_putInOrder 34 = .ok (.iaload, 1) := by decide +kernel
theorem kd_T_putInOrder_35 : decode kc_T_putInOrder 35 = .ok (.iastore, 1) := by decide +kernel
theorem kd_T_putInOrder_36 : decode kc_T_putInOrder 36 = .ok (.iinc 2 (-1), 3) := by decide +kernel
theorem kd_T_putInOrder_39 : decode kc_T_putInOrder 39 = .ok (.goto (-37), 3) := by decide +kernel
theorem kd_T_putInOrder_42 : decode kc_T_putInOrder 42 = .ok (.aload_n 0, 1) := by decide +kernel
theorem kd_T_putInOrder_43 : decode kc_T_putInOrder 43 = .ok (.getfield 27, 3) := by decide +kernel
theorem kd_T_putInOrder_46 : decode kc_T_putInOrder 46 = .ok (.iload_n 2, 1) := by decide +kernel
theorem kd_T_putInOrder_47 : decode kc_T_putInOrder 47 = .ok (.iload_n 1, 1) := by decide +kernel
theorem kd_T_putInOrder_48 : decode kc_T_putInOrder 48 = .ok (.iastore, 1) := by decide +kernel
theorem kd_T_putInOrder_49 : decode kc_T_putInOrder 49 = .ok (.return_, 1) := by decide +kernel
theorem kd_T_comesBefore_0 : decode kc_T_comesBefore 0 = .ok (.aload_n 0, 1) := by decide +kernel
theorem kd_T_comesBefore_1 : decode kc_T_comesBefore 1 = .ok (.getfield 18, 3) := by decide +kernel
theorem kd_T_comesBefore_4 : decode kc_T_comesBefore 4 = .ok (.iload_n 1, 1) := by decide +kernel
theorem kd_T_comesBefore_5 : decode kc_T_comesBefore 5 = .ok (.iaload, 1) := by decide +kernel
theorem kd_T_comesBefore_6 : decode kc_T_comesBefore 6 = .ok (.aload_n 0, 1) := by decide +kernel
theorem kd_T_comesBefore_7 : decode kc_T_comesBefore 7 = .ok (.getfield 18, 3) := by decide +kernel
theorem kd_T_comesBefore_10 : decode kc_T_comesBefore 10 = .ok (.iload_n 2, 1) := by decide +kernel
theorem kd_T_comesBefore_11 : decode kc_T_comesBefore 11 = .ok (.iaload, 1) := by decide +kernel
theorem kd_T_comesBefore_12 : decode kc_T_comesBefore 12 = .ok (.if_icmp .eq 24, 3) := by decide +kernel
theorem kd_T_comesBefore_15 : decode kc_T_comesBefore 15 = .ok (.aload_n 0, 1) := by decide +kernel
theorem kd_T_comesBefore_16 : decode kc_T_comesBefore 16 = .ok (.getfield 18, 3) := by decide +kernel
theorem kd_T_comesBefore_19 : decode kc_T_comesBefore 19 = .ok (.iload_n 1, 1) := by decide +kernel
theorem kd_T_comesBefore_20 : decode kc_T_comesBefore 20 = .ok (.iaload, 1) := by decide +kernel
theorem kd_T_comesBefore_21 : decode kc_T_comesBefore 21 = .ok (.aload_n 0, 1) := by decide +kernel
theorem kd_T_comesBefore_22 : decode kc_T_comesBefore 22 = .ok (.getfield 18, 3) := by decide +kernel
theorem kd_T_comesBefore_25 : decode kc_T_comesBefore 25 = .ok (.iload_n 2, 1) := by decide +kernel
theorem kd_T_comesBefore_26 : decode kc_T_comesBefore 26 = .ok (.iaload, 1) := by decide +kernel
theorem kd_T_comesBefore_27 : decode kc_T_comesBefore 27 = .ok (.if_icmp .ge 7, 3) := by decide +kernel
theorem kd_T_comesBefore_30 : decode kc_T_comesBefore 30 = .ok (.iconst 1, 1) := by decide +kernel
theorem kd_T_comesBefore_31 : decode kc_T_comesBefore 31 = .ok (.goto 4, 3) := by decide +kernel
theorem kd_T_comesBefore_34 : decode kc_T_comesBefore 34 = .ok (.iconst 0, 1) := by decide +kernel
theorem kd_T_comesBefore_35 : decode kc_T_comesBefore 35 = .ok (.ireturn, 1) := by decide +kernel
theorem kd_T_comesBefore_36 : decode kc_T_comesBefore 36 = .ok (.aload_n 0, 1) := by decide +kernel
theorem kd_T_comesBefore_37 : decode kc_T_comesBefore 37 = .ok (.getfield 9, 3) := by decide +kernel
theorem kd_T_comesBefore_40 : decode kc_T_comesBefore 40 = .ok (.iload_n 1, 1) := by decide +kernel
theorem kd_T_comesBefore_41 : decode kc_T_comesBefore 41 = .ok (.iaload, 1) := by decide +kernel
theorem kd_T_comesBefore_42 : decode kc_T_comesBefore 42 = .ok (.aload_n 0, 1) := by decide +kernel
theorem kd_T_comesBefore_43 : decode kc_T_comesBefore 43 = .ok (.getfield 9, 3) := by decide +kernel
theorem kd_T_comesBefore_46 : decode kc_T_comesBefore 46 = .ok (.iload_n 2, 1) := by decide +kernel
theorem kd_T_comesBefore_47 : decode kc_T_comesBefore 47 = .ok (.iaload, 1) := by decide +kernel
theorem kd_T_comesBefore_48 : decode kc_T_comesBefore 48 = .ok (.if_icmp .ge 7, 3) := by decide +kernel
theorem kd_T_comesBefore_51 : decode kc_T_comesBefore 51 = .ok (.iconst 1, 1) := by decide +kernel
theorem kd_T_comesBefore_52 : decode kc_T_comesBefore 52 = .ok (.goto 4, 3) := by decide +kernel
theorem kd_T_comesBefore_55 : decode kc_T_comesBefore 55 = .ok (.iconst 0, 1) := by decide +kernel
theorem kd_T_comesBefore_56 : decode kc_T_comesBefore 56 = .ok (.ireturn, 1) := by decide +kernel
theorem kd_N_add_0 : decode kc_N_add 0 = .ok (.aload_n 0, 1) := by decide +kernel
theorem kd_N_add_1 : decode kc_N_add 1 = .ok (.getfield 32, 3) := by decide +kernel
theorem kd_N_add_4 : decode kc_N_add 4 = .ok (.istore_n 3, 1) := by decide +kernel
theorem kd_N_add_5 : decode kc_N_add 5 = .ok (.aload_n 0, 1) := by decide +kernel
theorem kd_N_add_6 : decode kc_N_add 6 = .ok (.getfield 9, 3) := by decide +kernel
theorem kd_N_add_9 : decode kc_N_add 9 = .ok (.iload_n 3, 1) := by decide +kernel
theorem kd_N_add_10 : decode kc_N_add 10 = .ok (.iload_n 1, 1) := by decide +kernel
theorem kd_N_add_11 : decode kc_N_add 11 = .ok (.iastore, 1) := by decide +kernel
theorem kd_N_add_12 : decode kc_N_add 12 = .ok (.aload_n 0, 1) := by decide +kernel
theorem kd_N_add_13 : decode kc_N_add 13 = .ok (.getfield 15, 3) := by decide +kernel
theorem kd_N_add_16 : decode kc_N_add 16 = .ok (.iload_n 3, 1) := by decide +kernel
theorem kd_N_add_17 : decode kc_N_add 17 = .ok (.iload_n 2, 1) := by decide +kernel
theorem kd_N_add_18 : decode kc_N_add 18 = .ok (.iastore, 1) := by decide +kernel
theorem kd_N_add_19 : decode kc_N_add 19 = .ok (.iconst 0, 1) := by decide +kernel
theorem kd_N_add_20 : decode kc_N_add 20 = .ok (.istore 4, 2) := by decide +kernel
theorem kd_N_add_22 : decode kc_N_add 22 = .ok (.iload 4, 2) := by decide +kernel
theorem kd_N_add_24 : decode kc_N_add 24 = .ok (.iconst 4, 1) := by decide +kernel
theorem kd_N_add_25 : decode kc_N_add 25 = .ok (.if_icmp .ge 24, 3) := by decide +kernel
theorem kd_N_add_28 : decode kc_N_add 28 = .ok (.aload_n 0, 1) := by decide +kernel
theorem kd_N_add_29 : decode kc_N_add 29 = .ok (.getfield 23, 3) := by decide +kernel
theorem kd_N_add_32 : decode kc_N_add 32 = .ok (.iload_n 3, 1) := by decide +kernel
theorem kd_N_add_33 : decode kc_N_add 33 = .ok (.aaload, 1) := by decide +kernel
theorem kd_N_add_34 : decode kc_N_add 34 = .ok (.iload 4, 2) := by decide +kernel
theorem kd_N_add_36 : decode kc_N_add 36 = .ok (.getstatic 36, 3) := by decide +kernel
theorem kd_N_add_39 : decode kc_N_add 39 = .ok (.iload 4, 2) := by decide +kernel
theorem kd_N_add_41 : decode kc_N_add 41 = .ok (.iaload, 1) := by decide +kernel
theorem kd_N_add_42 : decode kc_N_add 42 = .ok (.iastore, 1) := by decide +kernel
theorem kd_N_add_43 : decode kc_N_add 43 = .ok (.iinc 4 1, 3) := by decide +kernel
theorem kd_N_add_46 : decode kc_N_add 46 = .ok (.goto (-24), 3) := by decide +kernel
theorem kd_N_add_49 : decode kc_N_add 49 = .ok (.iconst 0, 1) := by decide +kernel
theorem kd_N_add_50 : decode kc_N_add 50 = .ok (.istore 4, 2) := by decide +kernel
theorem kd_N_add_52 : decode kc_N_add 52 = .ok (.iload 4, 2) := by decide +kernel
theorem kd_N_add_54 : decode kc_N_add 54 = .ok (.bipush 8, 2) := by decide +kernel
theorem kd_N_add_56 : decode kc_N_add 56 = .ok (.if_icmp .ge 19, 3) := by decide +kernel
theorem kd_N_add_59 : decode kc_N_add 59 = .ok (.aload_n 0, 1) := by decide +kernel
theorem kd_N_add_60 : decode kc_N_add 60 = .ok (.getfield 26, 3) := by decide +kernel
theorem kd_N_add_63 : decode kc_N_add 63 = .ok (.iload_n 3, 1) := by decide +kernel
theorem kd_N_add_64 : decode kc_N_add 64 = .ok (.aaload, 1) := by decide +kernel
theorem kd_N_add_65 : decode kc_N_add 65 = .ok (.iload 4, 2) := by decide +kernel
theorem kd_N_add_67 : decode kc_N_add 67 = .ok (.iconst (-1), 1) := by decide +kernel
theorem kd_N_add_68 : decode kc_N_add 68 = .ok (.iastore, 1) := by decide +kernel
theorem kd_N_add_69 : decode kc_N_add 69 = .ok (.iinc 4 1, 3) := by decide +kernel
theorem kd_N_add_72 : decode kc_N_add 72 = .ok (.goto (-20), 3) := by decide +kernel
theorem kd_N_add_75 : decode kc_N_add 75 = .ok (.aload_n 0, 1) := by decide +kernel
theorem kd_N_add_76 : decode kc_N_add 76 = .ok (.dup, 1) := by decide +kernel
theorem kd_N_add_77 : decode kc_N_add 77 = .ok (.getfield 32, 3) := by decide +kernel
theorem kd_N_add_80 : decode kc_N_add 80 = .ok (.iconst 1, 1) := by decide +kernel
theorem kd_N_add_81 : decode kc_N_add 81 = .ok (.iadd, 1) := by decide +kernel
theorem kd_N_add_82 : decode kc_N_add 82 = .ok (.putfield 32, 3) := by decide +kernel
theorem kd_N_add_85 : decode kc_N_add 85 = .ok (.iload_n 3, 1) := by decide +kernel
theorem kd_N_add_86 : decode kc_N_add 86 = .ok (.ireturn, 1) := by decide +kernel
theorem kd_N_setBarred_0 : decode kc_N_setBarred 0 = .ok (.iconst 1, 1) := by decide +kernel
theorem kd_N_setBarred_1 : decode kc_N_setBarred 1 = .ok (.iload_n 2, 1) := by decide +kernel
theorem kd_N_setBarred_2 : decode kc_N_setBarred 2 = .ok (.ishl, 1) := by decide +kernel
theorem kd_N_setBarred_3 : decode kc_N_setBarred 3 = .ok (.istore 4, 2) := by decide +kernel
theorem kd_N_setBarred_5 : decode kc_N_setBarred 5 = .ok (.aload_n 0, 1) := by decide +kernel
theorem kd_N_setBarred_6 : decode kc_N_setBarred 6 = .ok (.getfield 18, 3) := by decide +kernel
theorem kd_N_setBarred_9 : decode kc_N_setBarred 9 = .ok (.iload_n 1, 1) := by decide +kernel
theorem kd_N_setBarred_10 : decode kc_N_setBarred 10 = .ok (.iload_n 3, 1) := by decide +kernel
theorem kd_N_setBarred_11 : decode kc_N_setBarred 11 = .ok (.ifCond .eq 15, 3) := by decide +kernel
theorem kd_N_setBarred_14 : decode kc_N_setBarred 14 = .ok (.aload_n 0, 1) := by decide +kernel
theorem kd_N_setBarred_15 : decode kc_N_setBarred 15 = .ok (.getfield 18, 3) := by decide +kernel
theorem kd_N_setBarred_18 : decode kc_N_setBarred 18 = .ok (.iload_n 1, 1) := by decide +kernel
theorem kd_N_setBarred_19 : decode kc_N_setBarred 19 = .ok (.iaload, 1) := by decide +kernel
theorem kd_N_setBarred_20 : decode kc_N_setBarred 20 = .ok (.iload 4, 2) := by decide +kernel
theorem kd_N_setBarred_22 : decode kc_N_setBarred 22 = .ok (.ior, 1) := by decide +kernel
theorem kd_N_setBarred_23 : decode kc_N_setBarred 23 = .ok (.goto 14, 3) := by decide +kernel
theorem kd_N_setBarred_26 : decode kc_N_setBarred 26 = .ok (.aload_n 0, 1) := by decide +kernel
theorem kd_N_setBarred_27 : decode kc_N_setBarred 27 = .ok (.getfield 18, 3) := by decide +kernel
theorem kd_N_setBarred_30 : decode kc_N_setBarred 30 = .ok (.iload_n 1, 1) := by decide +kernel
theorem kd_N_setBarred_31 : decode kc_N_setBarred 31 = .ok (.iaload, 1) := by decide +kernel
theorem kd_N_setBarred_32 : decode kc_N_setBarred 32 = .ok (.iload 4, 2) := by decide +kernel
theorem kd_N_setBarred_34 : decode kc_N_setBarred 34 = .ok (.iconst (-1), 1) := by decide +kernel
theorem kd_N_setBarred_35 : decode kc_N_setBarred 35 = .ok (.ixor, 1) := by decide +kernel
theorem kd_N_setBarred_36 : decode kc_N_setBarred 36 = .ok (.iand, 1) := by decide +kernel
theorem kd_N_setBarred_37 : decode kc_N_setBarred 37 = .ok (.iastore, 1) := by decide +kernel
theorem kd_N_setBarred_38 : decode kc_N_setBarred 38 = .ok (.return_, 1) := by decide +kernel
theorem kd_F_clear_0 : decode kc_F_clear 0 = .ok (.iconst 0, 1) := by decide +kernel
theorem kd_F_clear_1 : decode kc_F_clear 1 = .ok (.istore_n 1, 1) := by decide +kernel
theorem kd_F_clear_2 : decode kc_F_clear 2 = .ok (.iload_n 1, 1) := by decide +kernel
theorem kd_F_clear_3 : decode kc_F_clear 3 = .ok (.aload_n 0, 1) := by decide +kernel
theorem kd_F_clear_4 : decode kc_F_clear 4 = .ok (.getfield 21, 3) := by decide +kernel
theorem kd_F_clear_7 : decode kc_F_clear 7 = .ok (.getfield 63, 3) := by decide +kernel
theorem kd_F_clear_10 : decode kc_F_clear 10 = .ok (.if_icmp .ge 14, 3) := by decide +kernel
theorem kd_F_clear_13 : decode kc_F_clear 13 = .ok (.aload_n 0, 1) := by decide +kernel
theorem kd_F_clear_14 : decode kc_F_clear 14 = .ok (.iload_n 1, 1) := by decide +kernel
theorem kd_F_clear_15 : decode kc_F_clear 15 = .ok (.invokevirtual 97, 3) := by decide +kernel
theorem kd_F_clear_18 : decode kc_F_clear 18 = .ok (.iinc 1 1, 3) := by decide +kernel
theorem kd_F_clear_21 : decode kc_F_clear 21 = .ok (.goto (-19), 3) := by decide +kernel
theorem kd_F_clear_24 : decode kc_F_clear 24 = .ok (.return_, 1) := by decide +kernel
theorem kd_F_letGo_0 : decode kc_F_letGo 0 = .ok (.iconst 0, 1) := by decide +kernel
theorem kd_F_letGo_1 : decode kc_F_letGo 1 = .ok (.istore_n 2, 1) := by decide +kernel
theorem kd_F_letGo_2 : decode kc_F_letGo 2 = .ok (.iload_n 2, 1) := by decide +kernel
theorem kd_F_letGo_3 : decode kc_F_letGo 3 = .ok (.aload_n 0, 1) := by decide +kernel
theorem kd_F_letGo_4 : decode kc_F_letGo 4 = .ok (.getfield 12, 3) := by decide +kernel
theorem kd_F_letGo_7 : decode kc_F_letGo 7 = .ok (.getfield 48, 3) := by decide +kernel
theorem kd_F_letGo_10 : decode kc_F_letGo 10 = .ok (.if_icmp .ge 27, 3) := by decide +kernel
theorem kd_F_letGo_13 : decode kc_F_letGo 13 = .ok (.aload_n 0, 1) := by decide +kernel
theorem kd_F_letGo_14 : decode kc_F_letGo 14 = .ok (.iload_n 1, 1) := by decide +kernel
theorem kd_F_letGo_15 : decode kc_F_letGo 15 = .ok (.iload_n 2, 1) := by decide +kernel
theorem kd_F_letGo_16 : decode kc_F_letGo 16 = .ok (.aload_n 0, 1) := by decide +kernel
theorem kd_F_letGo_17 : decode kc_F_letGo 17 = .ok (.getfield 21, 3) := by decide +kernel
theorem kd_F_letGo_20 : decode kc_F_letGo 20 = .ok (.getfield 80, 3) := by decide +kernel
theorem kd_F_letGo_23 : decode kc_F_letGo 23 = .ok (.iload_n 1, 1) := by decide +kernel
theorem kd_F_letGo_24 : decode kc_F_letGo 24 = .ok (.aaload, 1) := by decide +kernel
theorem kd_F_letGo_25 : decode kc_F_letGo 25 = .ok (.iload_n 2, 1) := by decide +kernel
theorem kd_F_letGo_26 : decode kc_F_letGo 26 = .ok (.iaload, 1) := by decide +kernel
theorem kd_F_letGo_27 : decode kc_F_letGo 27 = .ok (.ineg, 1) := by decide +kernel
theorem kd_F_letGo_28 : decode kc_F_letGo 28 = .ok (.invokevirtual 93, 3) := by decide +kernel
theorem kd_F_letGo_31 : decode kc_F_letGo 31 = .ok (.iinc 2 1, 3) := by decide +kernel
theorem kd_F_letGo_34 : decode kc_F_letGo 34 = .ok (.goto (-32), 3) := by decide +kernel
theorem kd_F_letGo_37 : decode kc_F_letGo 37 = .ok (.return_, 1) := by decide +kernel
theorem kd_F_move_0 : decode kc_F_move 0 = .ok (.aload_n 0, 1) := by decide +kernel
theorem kd_F_move_1 : decode kc_F_move 1 = .ok (.getfield 21, 3) := by decide +kernel
theorem kd_F_move_4 : decode kc_F_move 4 = .ok (.getfield 80, 3) := by decide +kernel
theorem kd_F_move_7 : decode kc_F_move 7 = .ok (.iload_n 1, 1) := by decide +kernel
theorem kd_F_move_8 : decode kc_F_move 8 = .ok (.aaload, 1) := by decide +kernel
theorem kd_F_move_9 : decode kc_F_move 9 = .ok (.iload_n 2, 1) := by decide +kernel
theorem kd_F_move_10 : decode kc_F_move 10 = .ok (.dup2, 1) := by decide +kernel
theorem kd_F_move_11 : decode kc_F_move 11 = .ok (.iaload, 1) := by decide +kernel
theorem kd_F_move_12 : decode kc_F_move 12 = .ok (.iload_n 3, 1) := by decide +kernel
theorem kd_F_move_13 : decode kc_F_move 13 = .ok (.iadd, 1) := by decide +kernel
theorem kd_F_move_14 : decode kc_F_move 14 = .ok (.iastore, 1) := by decide +kernel
theorem kd_F_move_15 : decode kc_F_move 15 = .ok (.aload_n 0, 1) := by decide +kernel
theorem kd_F_move_16 : decode kc_F_move 16 = .ok (.getfield 12, 3) := by decide +kernel
theorem kd_F_move_19 : decode kc_F_move 19 = .ok (.getfield 41, 3) := by decide +kernel
theorem kd_F_move_22 : decode kc_F_move 22 = .ok (.iload_n 2, 1) := by decide +kernel
theorem kd_F_move_23 : decode kc_F_move 23 = .ok (.dup2, 1) := by decide +kernel
theorem kd_F_move_24 : decode kc_F_move 24 = .ok (.iaload, 1) := by decide +kernel
theorem kd_F_move_25 : decode kc_F_move 25 = .ok (.iload_n 3, 1) := by decide +kernel
theorem kd_F_move_26 : decode kc_F_move 26 = .ok (.isub, 1) := by decide +kernel
theorem kd_F_move_27 : decode kc_F_move 27 = .ok (.iastore, 1) := by decide +kernel
theorem kd_F_move_28 : decode kc_F_move 28 = .ok (.return_, 1) := by decide +kernel
theorem kd_I_bitCount_0 : decode kc_I_bitCount 0 = .ok (.iload_n 0, 1) := by decide +kernel
theorem kd_I_bitCount_1 : decode kc_I_bitCount 1 = .ok (.iload_n 0, 1) := by decide +kernel
theorem kd_I_bitCount_2 : decode kc_I_bitCount 2 = .ok (.iconst 1, 1) := by decide +kernel
theorem kd_I_bitCount_3 : decode kc_I_bitCount 3 = .ok (.iushr, 1) := by decide +kernel
theorem kd_I_bitCount_4 : decode kc_I_bitCount 4 = .ok (.ldc_w 265, 3) := by decide +kernel
theorem kd_I_bitCount_7 : decode kc_I_bitCount 7 = .ok (.iand, 1) := by decide +kernel
theorem kd_I_bitCount_8 : decode kc_I_bitCount 8 = .ok (.isub, 1) := by decide +kernel
theorem kd_I_bitCount_9 : decode kc_I_bitCount 9 = .ok (.istore_n 0, 1) := by decide +kernel
theorem kd_I_bitCount_10 : decode kc_I_bitCount 10 = .ok (.iload_n 0, 1) := by decide +kernel
theorem kd_I_bitCount_11 : decode kc_I_bitCount 11 = .ok (.ldc_w 266, 3) := by decide +kernel
theorem kd_I_bitCount_14 : decode kc_I_bitCount 14 = .ok (.iand, 1) := by decide +kernel
theorem kd_I_bitCount_15 : decode kc_I_bitCount 15 = .ok (.iload_n 0, 1) := by decide +kernel
theorem kd_I_bitCount_16 : decode kc_I_bitCount 16 = .ok (.iconst 2, 1) := by decide +kernel
theorem kd_I_bitCount_17 : decode kc_I_bitCount 17 = .ok (.iushr, 1) := by decide +kernel
theorem kd_I_bitCount_18 : decode kc_I_bitCount 18 = .ok (.ldc_w 266, 3) := by decide +kernel
theorem kd_I_bitCount_21 : decode kc_I_bitCount 21 = .ok (.iand, 1) := by decide +kernel
theorem kd_I_bitCount_22 : decode kc_I_bitCount 22 = .ok (.iadd, 1) := by decide +kernel
theorem kd_I_bitCount_23 : decode kc_I_bitCount 23 = .ok (.istore_n 0, 1) := by decide +kernel
theorem kd_I_bitCount_24 : decode kc_I_bitCount 24 = .ok (.iload_n 0, 1) := by decide +kernel
theorem kd_I_bitCount_25 : decode kc_I_bitCount 25 = .ok (.iload_n 0, 1) := by decide +kernel
theorem kd_I_bitCount_26 : decode kc_I_bitCount 26 = .ok (.iconst 4, 1) := by decide +kernel
theorem kd_I_bitCount_27 : decode kc_I_bitCount 27 = .ok (.iushr, 1) := by decide +kernel
theorem kd_I_bitCount_28 : decode kc_I_bitCount 28 = .ok (.iadd, 1) := by decide +kernel
theorem kd_I_bitCount_29 : decode kc_I_bitCount 29 = .ok (.ldc_w 267, 3) := by decide +kernel
theorem kd_I_bitCount_32 : decode kc_I_bitCount 32 = .ok (.iand, 1) := by decide +kernel
theorem kd_I_bitCount_33 : decode kc_I_bitCount 33 = .ok (.istore_n 0, 1) := by decide +kernel
theorem kd_I_bitCount_34 : decode kc_I_bitCount 34 = .ok (.iload_n 0, 1) := by decide +kernel
theorem kd_I_bitCount_35 : decode kc_I_bitCount 35 = .ok (.iload_n 0, 1) := by decide +kernel
theorem kd_I_bitCount_36 : decode kc_I_bitCount 36 = .ok (.bipush 8, 2) := by decide +kernel
theorem kd_I_bitCount_38 : decode kc_I_bitCount 38 = .ok (.iushr, 1) := by decide +kernel
theorem kd_I_bitCount_39 : decode kc_I_bitCount 39 = .ok (.iadd, 1) := by decide +kernel
theorem kd_I_bitCount_40 : decode kc_I_bitCount 40 = .ok (.istore_n 0, 1) := by decide +kernel
theorem kd_I_bitCount_41 : decode kc_I_bitCount 41 = .ok (.iload_n 0, 1) := by decide +kernel
theorem kd_I_bitCount_42 : decode kc_I_bitCount 42 = .ok (.iload_n 0, 1) := by decide +kernel
theorem kd_I_bitCount_43 : decode kc_I_bitCount 43 = .ok (.bipush 16, 2) := by decide +kernel
theorem kd_I_bitCount_45 : decode kc_I_bitCount 45 = .ok (.iushr, 1) := by decide +kernel
theorem kd_I_bitCount_46 : decode kc_I_bitCount 46 = .ok (.iadd, 1) := by decide +kernel
theorem kd_I_bitCount_47 : decode kc_I_bitCount 47 = .ok (.istore_n 0, 1) := by decide +kernel
theorem kd_I_bitCount_48 : decode kc_I_bitCount 48 = .ok (.iload_n 0, 1) := by decide +kernel
theorem kd_I_bitCount_49 : decode kc_I_bitCount 49 = .ok (.bipush 63, 2) := by decide +kernel
theorem kd_I_bitCount_51 : decode kc_I_bitCount 51 = .ok (.iand, 1) := by decide +kernel
theorem kd_I_bitCount_52 : decode kc_I_bitCount 52 = .ok (.ireturn, 1) := by decide +kernel
theorem kd_F_lotOfGift_0 : decode kc_F_lotOfGift 0 = .ok (.iconst 0, 1) := by decide +kernel
theorem kd_F_lotOfGift_1 : decode kc_F_lotOfGift 1 = .ok (.istore_n 3, 1) := by decide +kernel
theorem kd_F_lotOfGift_2 : decode kc_F_lotOfGift 2 = .ok (.iconst 0, 1) := by decide +kernel
theorem kd_F_lotOfGift_3 : decode kc_F_lotOfGift 3 = .ok (.istore 4, 2) := by decide +kernel
theorem kd_F_lotOfGift_5 : decode kc_F_lotOfGift 5 = .ok (.iload 4, 2) := by decide +kernel
theorem kd_F_lotOfGift_7 : decode kc_F_lotOfGift 7 = .ok (.aload_n 0, 1) := by decide +kernel
theorem kd_F_lotOfGift_8 : decode kc_F_lotOfGift 8 = .ok (.getfield 12, 3) := by decide +kernel
theorem kd_F_lotOfGift_11 : decode kc_F_lotOfGift 11 = .ok (.getfield 48, 3) := by decide +kernel
theorem kd_F_lotOfGift_14 : decode kc_F_lotOfGift 14 = .ok (.if_icmp .ge 47, 3) := by decide +kernel
theorem kd_F_lotOfGift_17 : decode kc_F_lotOfGift 17 = .ok (.aload_n 0, 1) := by decide +kernel
theorem kd_F_lotOfGift_18 : decode kc_F_lotOfGift 18 = .ok (.getfield 12, 3) := by decide +kernel
theorem kd_F_lotOfGift_21 : decode kc_F_lotOfGift 21 = .ok (.getfield 77, 3) := by decide +kernel
theorem kd_F_lotOfGift_24 : decode kc_F_lotOfGift 24 = .ok (.iload 4, 2) := by decide +kernel
theorem kd_F_lotOfGift_26 : decode kc_F_lotOfGift 26 = .ok (.iaload, 1) := by decide +kernel
theorem kd_F_lotOfGift_27 : decode kc_F_lotOfGift 27 = .ok (.istore 5, 2) := by decide +kernel
theorem kd_F_lotOfGift_29 : decode kc_F_lotOfGift 29 = .ok (.aload_n 0, 1) := by decide +kernel
theorem kd_F_lotOfGift_30 : decode kc_F_lotOfGift 30 = .ok (.getfield 21, 3) := by decide +kernel
theorem kd_F_lotOfGift_33 : decode kc_F_lotOfGift 33 = .ok (.getfield 80, 3) := by decide +kernel
theorem kd_F_lotOfGift_36 : decode kc_F_lotOfGift 36 = .ok (.iload_n 1, 1) := by decide +kernel
theorem kd_F_lotOfGift_37 : decode kc_F_lotOfGift 37 = .ok (.aaload, 1) := by decide +kernel
theorem kd_F_lotOfGift_38 : decode kc_F_lotOfGift 38 = .ok (.iload 5, 2) := by decide +kernel
theorem kd_F_lotOfGift_40 : decode kc_F_lotOfGift 40 = .ok (.iaload, 1) := by decide +kernel
theorem kd_F_lotOfGift_41 : decode kc_F_lotOfGift 41 = .ok (.ifCond .le 14, 3) := by decide +kernel
theorem kd_F_lotOfGift_44 : decode kc_F_lotOfGift 44 = .ok (.iload_n 3, 1) := by decide +kernel
theorem kd_F_lotOfGift_45 : decode kc_F_lotOfGift 45 = .ok (.iload_n 2, 1) := by decide +kernel
theorem kd_F_lotOfGift_46 : decode kc_F_lotOfGift 46 = .ok (.if_icmp .ne 6, 3) := by decide +kernel
theorem kd_F_lotOfGift_49 : decode kc_F_lotOfGift 49 = .ok (.iload 5, 2) := by decide +kernel
theorem kd_F_lotOfGift_51 : decode kc_F_lotOfGift 51 = .ok (.ireturn, 1) := by decide +kernel
theorem kd_F_lotOfGift_52 : decode kc_F_lotOfGift 52 = .ok (.iinc 3 1, 3) := by decide +kernel
theorem kd_F_lotOfGift_55 : decode kc_F_lotOfGift 55 = .ok (.iinc 4 1, 3) := by decide +kernel
theorem kd_F_lotOfGift_58 : decode kc_F_lotOfGift 58 = .ok (.goto (-53), 3) := by decide +kernel
theorem kd_F_lotOfGift_61 : decode kc_F_lotOfGift 61 = .ok (.iconst (-1), 1) := by decide +kernel
theorem kd_F_lotOfGift_62 : decode kc_F_lotOfGift 62 = .ok (.ireturn, 1) := by decide +kernel
theorem kd_F_firstBar_0 : decode kc_F_firstBar 0 = .ok (.iconst 0, 1) := by decide +kernel
theorem kd_F_firstBar_1 : decode kc_F_firstBar 1 = .ok (.istore_n 2, 1) := by decide +kernel
theorem kd_F_firstBar_2 : decode kc_F_firstBar 2 = .ok (.iconst 0, 1) := by decide +kernel
theorem kd_F_firstBar_3 : decode kc_F_firstBar 3 = .ok (.istore_n 3, 1) := by decide +kernel
theorem kd_F_firstBar_4 : decode kc_F_firstBar 4 = .ok (.iload_n 3, 1) := by decide +kernel
theorem kd_F_firstBar_5 : decode kc_F_firstBar 5 = .ok (.aload_n 0, 1) := by decide +kernel
theorem kd_F_firstBar_6 : decode kc_F_firstBar 6 = .ok (.getfield 12, 3) := by decide +kernel
theorem kd_F_firstBar_9 : decode kc_F_firstBar 9 = .ok (.getfield 48, 3) := by decide +kernel
theorem kd_F_firstBar_12 : decode kc_F_firstBar 12 = .ok (.if_icmp .ge 20, 3) := by decide +kernel
theorem kd_F_firstBar_15 : decode kc_F_firstBar 15 = .ok (.iload_n 2, 1) := by decide +kernel
theorem kd_F_firstBar_16 : decode kc_F_firstBar 16 = .ok (.aload_n 0, 1) := by decide +kernel
theorem kd_F_firstBar_17 : decode kc_F_firstBar 17 = .ok (.iload_n 1, 1) := by decide +kernel
theorem kd_F_firstBar_18 : decode kc_F_firstBar 18 = .ok (.iload_n 3, 1) := by decide +kernel
theorem kd_F_firstBar_19 : decode kc_F_firstBar 19 = .ok (.invokevirtual 44, 3) := by decide +kernel
theorem kd_F_firstBar_22 : decode kc_F_firstBar 22 = .ok (.invokestatic 52, 3) := by decide +kernel
theorem kd_F_firstBar_25 : decode kc_F_firstBar 25 = .ok (.istore_n 2, 1) := by decide +kernel
theorem kd_F_firstBar_26 : decode kc_F_firstBar 26 = .ok (.iinc 3 1, 3) := by decide +kernel
theorem kd_F_firstBar_29 : decode kc_F_firstBar 29 = .ok (.goto (-25), 3) := by decide +kernel
theorem kd_F_firstBar_32 : decode kc_F_firstBar 32 = .ok (.iload_n 2, 1) := by decide +kernel
theorem kd_F_firstBar_33 : decode kc_F_firstBar 33 = .ok (.iconst 4, 1) := by decide +kernel
theorem kd_F_firstBar_34 : decode kc_F_firstBar 34 = .ok (.if_icmp .ne 7, 3) := by decide +kernel
theorem kd_F_firstBar_37 : decode kc_F_firstBar 37 = .ok (.iconst 0, 1) := by decide +kernel
theorem kd_F_firstBar_38 : decode kc_F_firstBar 38 = .ok (.goto 6, 3) := by decide +kernel
theorem kd_F_firstBar_41 : decode kc_F_firstBar 41 = .ok (.iload_n 2, 1) := by decide +kernel
theorem kd_F_firstBar_42 : decode kc_F_firstBar 42 = .ok (.iconst 1, 1) := by decide +kernel
theorem kd_F_firstBar_43 : decode kc_F_firstBar 43 = .ok (.iadd, 1) := by decide +kernel
theorem kd_F_firstBar_44 : decode kc_F_firstBar 44 = .ok (.ireturn, 1) := by decide +kernel
theorem kd_F_setPieces_0 : decode kc_F_setPieces 0 = .ok (.aload_n 0, 1) := by decide +kernel
theorem kd_F_setPieces_1 : decode kc_F_setPieces 1 = .ok (.getfield 12, 3) := by decide +kernel
theorem kd_F_setPieces_4 : decode kc_F_setPieces 4 = .ok (.getfield 41, 3) := by decide +kernel
theorem kd_F_setPieces_7 : decode kc_F_setPieces 7 = .ok (.iload_n 1, 1) := by decide +kernel
theorem kd_F_setPieces_8 : decode kc_F_setPieces 8 = .ok (.dup2, 1) := by decide +kernel
theorem kd_F_setPieces_9 : decode kc_F_setPieces 9 = .ok (.iaload, 1) := by decide +kernel
theorem kd_F_setPieces_10 : decode kc_F_setPieces 10 = .ok (.iload_n 2, 1) := by decide +kernel
theorem kd_F_setPieces_11 : decode kc_F_setPieces 11 = .ok (.aload_n 0, 1) := by decide +kernel
theorem kd_F_setPieces_12 : decode kc_F_setPieces 12 = .ok (.getfield 12, 3) := by decide +kernel
theorem kd_F_setPieces_15 : decode kc_F_setPieces 15 = .ok (.getfield 101, 3) := by decide +kernel
theorem kd_F_setPieces_18 : decode kc_F_setPieces 18 = .ok (.iload_n 1, 1) := by decide +kernel
theorem kd_F_setPieces_19 : decode kc_F_setPieces 19 = .ok (.iaload, 1) := by decide +kernel
theorem kd_F_setPieces_20 : decode kc_F_setPieces 20 = .ok (.isub, 1) := by decide +kernel
theorem kd_F_setPieces_21 : decode kc_F_setPieces 21 = .ok (.iadd, 1) := by decide +kernel
theorem kd_F_setPieces_22 : decode kc_F_setPieces 22 = .ok (.iastore, 1) := by decide +kernel
theorem kd_F_setPieces_23 : decode kc_F_setPieces 23 = .ok (.aload_n 0, 1) := by decide +kernel
theorem kd_F_setPieces_24 : decode kc_F_setPieces 24 = .ok (.getfield 12, 3) := by decide +kernel
theorem kd_F_setPieces_27 : decode kc_F_setPieces 27 = .ok (.getfield 101, 3) := by decide +kernel
theorem kd_F_setPieces_30 : decode kc_F_setPieces 30 = .ok (.iload_n 1, 1) := by decide +kernel
theorem kd_F_setPieces_31 : decode kc_F_setPieces 31 = .ok (.iload_n 2, 1) := by decide +kernel
theorem kd_F_setPieces_32 : decode kc_F_setPieces 32 = .ok (.iastore, 1) := by decide +kernel
theorem kd_F_setPieces_33 : decode kc_F_setPieces 33 = .ok (.iconst 0, 1) := by decide +kernel
theorem kd_F_setPieces_34 : decode kc_F_setPieces 34 = .ok (.istore_n 3, 1) := by decide +kernel
theorem kd_F_setPieces_35 : decode kc_F_setPieces 35 = .ok (.aload_n 0, 1) := by decide +kernel
theorem kd_F_setPieces_36 : decode kc_F_setPieces 36 = .ok (.getfield 21, 3) := by decide +kernel
theorem kd_F_setPieces_39 : decode kc_F_setPieces 39 = .ok (.getfield 63, 3) := by decide +kernel
theorem kd_F_setPieces_42 : decode kc_F_setPieces 42 = .ok (.iconst 1, 1) := by decide +kernel
theorem kd_F_setPieces_43 : decode kc_F_setPieces 43 = .ok (.isub, 1) := by decide +kernel
theorem kd_F_setPieces_44 : decode kc_F_setPieces 44 = .ok (.istore 4, 2) := by decide +kernel
theorem kd_F_setPieces_46 : decode kc_F_setPieces 46 = .ok (.iload 4, 2) := by decide +kernel
theorem kd_F_setPieces_48 : decode kc_F_setPieces 48 = .ok (.ifCond .lt 46, 3) := by decide +kernel
theorem kd_F_setPieces_51 : decode kc_F_setPieces 51 = .ok (.aload_n 0, 1) := by decide +kernel
theorem kd_F_setPieces_52 : decode kc_F_setPieces 52 = .ok (.getfield 12, 3) := by decide +kernel
theorem kd_F_setPieces_55 : decode kc_F_setPieces 55 = .ok (.getfield 41, 3) := by decide +kernel
theorem kd_F_setPieces_58 : decode kc_F_setPieces 58 = .ok (.iload_n 1, 1) := by decide +kernel
theorem kd_F_setPieces_59 : decode kc_F_setPieces 59 = .ok (.iaload, 1) := by decide +kernel
theorem kd_F_setPieces_60 : decode kc_F_setPieces 60 = .ok (.ifCond .ge 34, 3) := by decide +kernel
theorem kd_F_setPieces_63 : decode kc_F_setPieces 63 = .ok (.aload_n 0, 1) := by decide +kernel
theorem kd_F_setPieces_64 : decode kc_F_setPieces 64 = .ok (.getfield 21, 3) := by decide +kernel
theorem kd_F_setPieces_67 : decode kc_F_setPieces 67 = .ok (.getfield 80, 3) := by decide +kernel
theorem kd_F_setPieces_70 : decode kc_F_setPieces 70 = .ok (.iload 4, 2) := by decide +kernel
theorem kd_F_setPieces_72 : decode kc_F_setPieces 72 = .ok (.aaload, 1) := by decide +kernel
theorem kd_F_setPieces_73 : decode kc_F_setPieces 73 = .ok (.iload_n 1, 1) := by decide +kernel
theorem kd_F_setPieces_74 : decode kc_F_setPieces 74 = .ok (.iaload, 1) := by decide +kernel
theorem kd_F_setPieces_75 : decode kc_F_setPieces 75 = .ok (.ifCond .le 13, 3) := by decide +kernel
theorem kd_F_setPieces_78 : decode kc_F_setPieces 78 = .ok (.aload_n 0, 1) := by decide +kernel
theorem kd_F_setPieces_79 : decode kc_F_setPieces 79 = .ok (.iload 4, 2) := by decide +kernel
theorem kd_F_setPieces_81 : decode kc_F_setPieces 81 = .ok (.iload_n 1, 1) := by decide +kernel
theorem kd_F_setPieces_82 : decode kc_F_setPieces 82 = .ok (.invokevirtual 104, 3) := by decide +kernel
theorem kd_F_setPieces_85 : decode kc_F_setPieces 85 = .ok (.iinc 3 1, 3) := by decide +kernel
theorem kd_F_setPieces_88 : decode kc_F_setPieces 88 = .ok (.iinc 4 (-1), 3) := by decide +kernel
theorem kd_F_setPieces_91 : decode kc_F_setPieces 91 = .ok (.goto (-45), 3) := by decide +kernel
theorem kd_F_setPieces_94 : decode kc_F_setPieces 94 = .ok (.iload_n 3, 1) := by decide +kernel
theorem kd_F_setPieces_95 : decode kc_F_setPieces 95 = .ok (.ireturn, 1) := by decide +kernel
theorem kd_F_giveUp_0 : decode kc_F_giveUp 0 = .ok (.aload_n 0, 1) := by decide +kernel
theorem kd_F_giveUp_1 : decode kc_F_giveUp 1 = .ok (.getfield 21, 3) := by decide +kernel
theorem kd_F_giveUp_4 : decode kc_F_giveUp 4 = .ok (.getfield 33, 3) := by decide +kernel
theorem kd_F_giveUp_7 : decode kc_F_giveUp 7 = .ok (.iload_n 1, 1) := by decide +kernel
theorem kd_F_giveUp_8 : decode kc_F_giveUp 8 = .ok (.aaload, 1) := by decide +kernel
theorem kd_F_giveUp_9 : decode kc_F_giveUp 9 = .ok (.iconst 3, 1) := by decide +kernel
theorem kd_F_giveUp_10 : decode kc_F_giveUp 10 = .ok (.iaload, 1) := by decide +kernel
theorem kd_F_giveUp_11 : decode kc_F_giveUp 11 = .ok (.iconst 1, 1) := by decide +kernel
theorem kd_F_giveUp_12 : decode kc_F_giveUp 12 = .ok (.if_icmp .ne 11, 3) := by decide +kernel
theorem kd_F_giveUp_15 : decode kc_F_giveUp 15 = .ok (.aload_n 0, 1) := by decide +kernel
theorem kd_F_giveUp_16 : decode kc_F_giveUp 16 = .ok (.iload_n 1, 1) := by decide +kernel
theorem kd_F_giveUp_17 : decode kc_F_giveUp 17 = .ok (.invokevirtual 97, 3) := by decide +kernel
theorem kd_F_giveUp_20 : decode kc_F_giveUp 20 = .ok (.goto 34, 3) := by decide +kernel
theorem kd_F_giveUp_23 : decode kc_F_giveUp 23 = .ok (.aload_n 0, 1) := by decide +kernel
theorem kd_F_giveUp_24 : decode kc_F_giveUp 24 = .ok (.iload_n 1, 1) := by decide +kernel
theorem kd_F_giveUp_25 : decode kc_F_giveUp 25 = .ok (.iload_n 2, 1) := by decide +kernel
theorem kd_F_giveUp_26 : decode kc_F_giveUp 26 = .ok (.aload_n 0, 1) := by decide +kernel
theorem kd_F_giveUp_27 : decode kc_F_giveUp 27 = .ok (.getfield 21, 3) := by decide +kernel
theorem kd_F_giveUp_30 : decode kc_F_giveUp 30 = .ok (.getfield 80, 3) := by decide +kernel
theorem kd_F_giveUp_33 : decode kc_F_giveUp 33 = .ok (.iload_n 1, 1) := by decide +kernel
theorem kd_F_giveUp_34 : decode kc_F_giveUp 34 = .ok (.aaload, 1) := by decide +kernel
theorem kd_F_giveUp_35 : decode kc_F_giveUp 35 = .ok (.iload_n 2, 1) := by decide +kernel
theorem kd_F_giveUp_36 : decode kc_F_giveUp 36 = .ok (.iaload, 1) := by decide +kernel
theorem kd_F_giveUp_37 : decode kc_F_giveUp 37 = .ok (.aload_n 0, 1) := by decide +kernel
theorem kd_F_giveUp_38 : decode kc_F_giveUp 38 = .ok (.getfield 12, 3) := by decide +kernel
theorem kd_F_giveUp_41 : decode kc_F_giveUp 41 = .ok (.getfield 41, 3) := by decide +kernel
theorem kd_F_giveUp_44 : decode kc_F_giveUp 44 = .ok (.iload_n 2, 1) := by decide +kernel
theorem kd_F_giveUp_45 : decode kc_F_giveUp 45 = .ok (.iaload, 1) := by decide +kernel
theorem kd_F_giveUp_46 : decode kc_F_giveUp 46 = .ok (.ineg, 1) := by decide +kernel
theorem kd_F_giveUp_47 : decode kc_F_giveUp 47 = .ok (.invokestatic 74, 3) := by decide +kernel
theorem kd_F_giveUp_50 : decode kc_F_giveUp 50 = .ok (.ineg, 1) := by decide +kernel
theorem kd_F_giveUp_51 : decode kc_F_giveUp 51 = .ok (.invokevirtual 93, 3) := by decide +kernel
theorem kd_F_giveUp_54 : decode kc_F_giveUp 54 = .ok (.return_, 1) := by decide +kernel
theorem kd_F_costOfPieces_0 : decode kc_F_costOfPieces 0 = .ok (.iconst 0, 1) := by decide +kernel
theorem kd_F_costOfPieces_1 : decode kc_F_costOfPieces 1 = .ok (.istore_n 2, 1) := by decide +kernel
theorem kd_F_costOfPieces_2 : decode kc_F_costOfPieces 2 = .ok (.iconst 0, 1) := by decide +kernel
theorem kd_F_costOfPieces_3 : decode kc_F_costOfPieces 3 = .ok (.istore_n 3, 1) := by decide +kernel
theorem kd_F_costOfPieces_4 : decode kc_F_costOfPieces 4 = .ok (.iload_n 3, 1) := by decide +kernel
theorem kd_F_costOfPieces_5 : decode kc_F_costOfPieces 5 = .ok (.aload_n 0, 1) := by decide +kernel
theorem kd_F_costOfPieces_6 : decode kc_F_costOfPieces 6 = .ok (.getfield 12, 3) := by decide +kernel
theorem kd_F_costOfPieces_9 : decode kc_F_costOfPieces 9 = .ok (.getfield 48, 3) := by decide +kernel
theorem kd_F_costOfPieces_12 : decode kc_F_costOfPieces 12 = .ok (.if_icmp .ge 30, 3) := by decide +kernel
theorem kd_F_costOfPieces_15 : decode kc_F_costOfPieces 15 = .ok (.iload_n 2, 1) := by decide +kernel
theorem kd_F_costOfPieces_16 : decode kc_F_costOfPieces 16 = .ok (.aload_n 0, 1) := by decide +kernel
theorem kd_F_costOfPieces_17 : decode kc_F_costOfPieces 17 = .ok (.getfield 21, 3) := by decide +kernel
theorem kd_F_costOfPieces_20 : decode kc_F_costOfPieces 20 = .ok (.getfield 80, 3) := by decide +kernel
theorem kd_F_costOfPieces_23 : decode kc_F_costOfPieces 23 = .ok (.iload_n 1, 1) := by decide +kernel
theorem kd_F_costOfPieces_24 : decode kc_F_costOfPieces 24 = .ok (.aaload, 1) := by decide +kernel
theorem kd_F_costOfPieces_25 : decode kc_F_costOfPieces 25 = .ok (.iload_n 3, 1) := by decide +kernel
theorem kd_F_costOfPieces_26 : decode kc_F_costOfPieces 26 = .ok (.iaload, 1) := by decide +kernel
theorem kd_F_costOfPieces_27 : decode kc_F_costOfPieces 27 = .ok (.aload_n 0, 1) := by decide +kernel
theorem kd_F_costOfPieces_28 : decode kc_F_costOfPieces 28 = .ok (.iload_n 1, 1) := by decide +kernel
theorem kd_F_costOfPieces_29 : decode kc_F_costOfPieces 29 = .ok (.iload_n 3, 1) := by decide +kernel
theorem kd_F_costOfPieces_30 : decode kc_F_costOfPieces 30 = .ok (.invokevirtual 71, 3) := by decide +kernel
theorem kd_F_costOfPieces_33 : decode kc_F_costOfPieces 33 = .ok (.imul, 1) := by decide +kernel
theorem kd_F_costOfPieces_34 : decode kc_F_costOfPieces 34 = .ok (.iadd, 1) := by decide +kernel
theorem kd_F_costOfPieces_35 : decode kc_F_costOfPieces 35 = .ok (.istore_n 2, 1) := by decide +kernel
theorem kd_F_costOfPieces_36 : decode kc_F_costOfPieces 36 = .ok (.iinc 3 1, 3) := by decide +kernel
theorem kd_F_costOfPieces_39 : decode kc_F_costOfPieces 39 = .ok (.goto (-35), 3) := by decide +kernel
theorem kd_F_costOfPieces_42 : decode kc_F_costOfPieces 42 = .ok (.iload_n 2, 1) := by decide +kernel
theorem kd_F_costOfPieces_43 : decode kc_F_costOfPieces 43 = .ok (.ireturn, 1) := by decide +kernel
end
section
/-! decode rows, by program -/
theorem kd_S_init_0 : decode kc_S_init 0 = .ok (.aload_n 0, 1) := by decide +kernel
theorem kd_S_init_1 : decode kc_S_init 1 = .ok (.invokespecial 3, 3) := by decide +kernel
theorem kd_S_init_4 : decode kc_S_init 4 = .ok (.aload_n 0, 1) := by decide +kernel
theorem kd_S_init_5 : decode kc_S_init 5 = .ok (.bipush 6, 2) := by decide +kernel
theorem kd_S_init_7 : decode kc_S_init 7 = .ok (.bipush 8, 2) := by decide +kernel
theorem kd_S_init_9 : decode kc_S_init 9 = .ok (.multianewarray 9 2, 4) := by decide +kernel
theorem kd_S_init_13 : decode kc_S_init 13 = .ok (.putfield 11, 3) := by decide +kernel
theorem kd_S_init_16 : decode kc_S_init 16 = .ok (.aload_n 0, 1) := by decide +kernel
theorem kd_S_init_17 : decode kc_S_init 17 = .ok (.bipush 6, 2) := by decide +kernel
theorem kd_S_init_19 : decode kc_S_init 19 = .ok (.newarray .int, 2) := by decide +kernel
theorem kd_S_init_21 : decode kc_S_init 21 = .ok (.putfield 16, 3) := by decide +kernel
theorem kd_S_init_24 : decode kc_S_init 24 = .ok (.aload_n 0, 1) := by decide +kernel
theorem kd_S_init_25 : decode kc_S_init 25 = .ok (.bipush 6, 2) := by decide +kernel
theorem kd_S_init_27 : decode kc_S_init 27 = .ok (.newarray .int, 2) := by decide +kernel
theorem kd_S_init_29 : decode kc_S_init 29 = .ok (.putfield 20, 3) := by decide +kernel
theorem kd_S_init_32 : decode kc_S_init 32 = .ok (.aload_n 0, 1) := by decide +kernel
theorem kd_S_init_33 : decode kc_S_init 33 = .ok (.bipush 6, 2) := by decide +kernel
theorem kd_S_init_35 : decode kc_S_init 35 = .ok (.newarray .int, 2) := by decide +kernel
theorem kd_S_init_37 : decode kc_S_init 37 = .ok (.putfield 23, 3) := by decide +kernel
theorem kd_S_init_40 : decode kc_S_init 40 = .ok (.aload_n 0, 1) := by decide +kernel
theorem kd_S_init_41 : decode kc_S_init 41 = .ok (.bipush 7, 2) := by decide +kernel
theorem kd_S_init_43 : decode kc_S_init 43 = .ok (.newarray .int, 2) := by decide +kernel
theorem kd_S_init_45 : decode kc_S_init 45 = .ok (.putfield 26, 3) := by decide +kernel
theorem kd_S_init_48 : decode kc_S_init 48 = .ok (.aload_n 0, 1) := by decide +kernel
theorem kd_S_init_49 : decode kc_S_init 49 = .ok (.aload_n 1, 1) := by decide +kernel
theorem kd_S_init_50 : decode kc_S_init 50 = .ok (.putfield 29, 3) := by decide +kernel
theorem kd_S_init_53 : decode kc_S_init 53 = .ok (.aload_n 0, 1) := by decide +kernel
theorem kd_S_init_54 : decode kc_S_init 54 = .ok (.aload_n 1, 1) := by decide +kernel
theorem kd_S_init_55 : decode kc_S_init 55 = .ok (.getfield 33, 3) := by decide +kernel
theorem kd_S_init_58 : decode kc_S_init 58 = .ok (.putfield 39, 3) := by decide +kernel
theorem kd_S_init_61 : decode kc_S_init 61 = .ok (.aload_n 0, 1) := by decide +kernel
theorem kd_S_init_62 : decode kc_S_init 62 = .ok (.aload_n 1, 1) := by decide +kernel
theorem kd_S_init_63 : decode kc_S_init 63 = .ok (.getfield 40, 3) := by decide +kernel
theorem kd_S_init_66 : decode kc_S_init 66 = .ok (.putfield 44, 3) := by decide +kernel
theorem kd_S_init_69 : decode kc_S_init 69 = .ok (.return_, 1) := by decide +kernel
theorem kd_S_readAllowed_0 : decode kc_S_readAllowed 0 = .ok (.iconst 0, 1) := by decide +kernel
theorem kd_S_readAllowed_1 : decode kc_S_readAllowed 1 = .ok (.istore_n 1, 1) := by decide +kernel
theorem kd_S_readAllowed_2 : decode kc_S_readAllowed 2 = .ok (.iload_n 1, 1) := by decide +kernel
theorem kd_S_readAllowed_3 : decode kc_S_readAllowed 3 = .ok (.aload_n 0, 1) := by decide +kernel
theorem kd_S_readAllowed_4 : decode kc_S_readAllowed 4 = .ok (.getfield 44, 3) := by decide +kernel
theorem kd_S_readAllowed_7 : decode kc_S_readAllowed 7 = .ok (.getfield 45, 3) := by decide +kernel
theorem kd_S_readAllowed_10 : decode kc_S_readAllowed 10 = .ok (.if_icmp .ge 74, 3) := by decide +kernel
theorem kd_S_readAllowed_13 : decode kc_S_readAllowed 13 = .ok (.iconst 0, 1) := by decide +kernel
theorem kd_S_readAllowed_14 : decode kc_S_readAllowed 14 = .ok (.istore_n 2, 1) := by decide +kernel
theorem kd_S_readAllowed_15 : decode kc_S_readAllowed 15 = .ok (.iconst 0, 1) := by decide +kernel
theorem kd_S_readAllowed_16 : decode kc_S_readAllowed 16 = .ok (.istore_n 3, 1) := by decide +kernel
theorem kd_S_readAllowed_17 : decode kc_S_readAllowed 17 = .ok (.iload_n 3, 1) := by decide +kernel
theorem kd_S_readAllowed_18 : decode kc_S_readAllowed 18 = .ok (.aload_n 0, 1) := by decide +kernel
theorem kd_S_readAllowed_19 : decode kc_S_readAllowed 19 = .ok (.getfield 39, 3) := by decide +kernel
theorem kd_S_readAllowed_22 : decode kc_S_readAllowed 22 = .ok (.getfield 51, 3) := by decide +kernel
theorem kd_S_readAllowed_25 : decode kc_S_readAllowed 25 = .ok (.if_icmp .ge 46, 3) := by decide +kernel
theorem kd_S_readAllowed_28 : decode kc_S_readAllowed 28 = .ok (.aload_n 0, 1) := by decide +kernel
theorem kd_S_readAllowed_29 : decode kc_S_readAllowed 29 = .ok (.getfield 39, 3) := by decide +kernel
theorem kd_S_readAllowed_32 : decode kc_S_readAllowed 32 = .ok (.getfield 54, 3) := by decide +kernel
theorem kd_S_readAllowed_35 : decode kc_S_readAllowed 35 = .ok (.iload_n 3, 1) := by decide +kernel
theorem kd_S_readAllowed_36 : decode kc_S_readAllowed 36 = .ok (.iaload, 1) := by decide +kernel
theorem kd_S_readAllowed_37 : decode kc_S_readAllowed 37 = .ok (.istore 4, 2) := by decide +kernel
theorem kd_S_readAllowed_39 : decode kc_S_readAllowed 39 = .ok (.aload_n 0, 1) := by decide +kernel
theorem kd_S_readAllowed_40 : decode kc_S_readAllowed 40 = .ok (.getfield 29, 3) := by decide +kernel
theorem kd_S_readAllowed_43 : decode kc_S_readAllowed 43 = .ok (.iload_n 1, 1) := by decide +kernel
theorem kd_S_readAllowed_44 : decode kc_S_readAllowed 44 = .ok (.iload 4, 2) := by decide +kernel
theorem kd_S_readAllowed_46 : decode kc_S_readAllowed 46 = .ok (.invokevirtual 57, 3) := by decide +kernel
theorem kd_S_readAllowed_49 : decode kc_S_readAllowed 49 = .ok (.ifCond .eq 16, 3) := by decide +kernel
theorem kd_S_readAllowed_52 : decode kc_S_readAllowed 52 = .ok (.aload_n 0, 1) := by decide +kernel
theorem kd_S_readAllowed_53 : decode kc_S_readAllowed 53 = .ok (.getfield 11, 3) := by decide +kernel
theorem kd_S_readAllowed_56 : decode kc_S_readAllowed 56 = .ok (.iload_n 1, 1) := by decide +kernel
theorem kd_S_readAllowed_57 : decode kc_S_readAllowed 57 = .ok (.aaload, 1) := by decide +kernel
theorem kd_S_readAllowed_58 : decode kc_S_readAllowed 58 = .ok (.iload_n 2, 1) := by decide +kernel
theorem kd_S_readAllowed_59 : decode kc_S_readAllowed 59 = .ok (.iload 4, 2) := by decide +kernel
theorem kd_S_readAllowed_61 : decode kc_S_readAllowed 61 = .ok (.iastore, 1) := by decide +kernel
theorem kd_S_readAllowed_62 : decode kc_S_readAllowed 62 = .ok (.iinc 2 1, 3) := by decide +kernel
theorem kd_S_readAllowed_65 : decode kc_S_readAllowed 65 = .ok (.iinc 3 1, 3) := by decide +kernel
theorem kd_S_readAllowed_68 : decode kc_S_readAllowed 68 = .ok (.goto (-51), 3) := by decide +kernel
theorem kd_S_readAllowed_71 : decode kc_S_readAllowed 71 = .ok (.aload_n 0, 1) := by decide +kernel
theorem kd_S_readAllowed_72 : decode kc_S_readAllowed 72 = .ok (.getfield 16, 3) := by decide +kernel
theorem kd_S_readAllowed_75 : decode kc_S_readAllowed 75 = .ok (.iload_n 1, 1) := by decide +kernel
theorem kd_S_readAllowed_76 : decode kc_S_readAllowed 76 = .ok (.iload_n 2, 1) := by decide +kernel
theorem kd_S_readAllowed_77 : decode kc_S_readAllowed 77 = .ok (.iastore, 1) := by decide +kernel
theorem kd_S_readAllowed_78 : decode kc_S_readAllowed 78 = .ok (.iinc 1 1, 3) := by decide +kernel
theorem kd_S_readAllowed_81 : decode kc_S_readAllowed 81 = .ok (.goto (-79), 3) := by decide +kernel
theorem kd_S_readAllowed_84 : decode kc_S_readAllowed 84 = .ok (.return_, 1) := by decide +kernel
theorem kd_S_allocateAtLeastCost_0 : decode kc_S_allocateAtLeastCost 0 = .ok (.aload_n 0, 1) := by decide +kernel
theorem kd_S_allocateAtLeastCost_1 : decode kc_S_allocateAtLeastCost 1 = .ok (.invokevirtual 73, 3) := by decide +kernel
theorem kd_S_allocateAtLeastCost_4 : decode kc_S_allocateAtLeastCost 4 = .ok (.aload_n 0, 1) := by decide +kernel
theorem kd_S_allocateAtLeastCost_5 : decode kc_S_allocateAtLeastCost 5 = .ok (.invokevirtual 76, 3) := by decide +kernel
theorem kd_S_allocateAtLeastCost_8 : decode kc_S_allocateAtLeastCost 8 = .ok (.aload_n 0, 1) := by decide +kernel
theorem kd_S_allocateAtLeastCost_9 : decode kc_S_allocateAtLeastCost 9 = .ok (.aload_n 0, 1) := by decide +kernel
theorem kd_S_allocateAtLeastCost_10 : decode kc_S_allocateAtLeastCost 10 = .ok (.getfield 29, 3) := by decide +kernel
theorem kd_S_allocateAtLeastCost_13 : decode kc_S_allocateAtLeastCost 13 = .ok (.invokevirtual 79, 3) := by decide +kernel
theorem kd_S_allocateAtLeastCost_16 : decode kc_S_allocateAtLeastCost 16 = .ok (.iconst 1, 1) := by decide +kernel
theorem kd_S_allocateAtLeastCost_17 : decode kc_S_allocateAtLeastCost 17 = .ok (.iadd, 1) := by decide +kernel
theorem kd_S_allocateAtLeastCost_18 : decode kc_S_allocateAtLeastCost 18 = .ok (.putfield 83, 3) := by decide +kernel
theorem kd_S_allocateAtLeastCost_21 : decode kc_S_allocateAtLeastCost 21 = .ok (.aload_n 0, 1) := by decide +kernel
theorem kd_S_allocateAtLeastCost_22 : decode kc_S_allocateAtLeastCost 22 = .ok (.getfield 29, 3) := by decide +kernel
theorem kd_S_allocateAtLeastCost_25 : decode kc_S_allocateAtLeastCost 25 = .ok (.invokevirtual 86, 3) := by decide +kernel
theorem kd_S_allocateAtLeastCost_28 : decode kc_S_allocateAtLeastCost 28 = .ok (.aload_n 0, 1) := by decide +kernel
theorem kd_S_allocateAtLeastCost_29 : decode kc_S_allocateAtLeastCost 29 = .ok (.iconst 0, 1) := by decide +kernel
theorem kd_S_allocateAtLeastCost_30 : decode kc_S_allocateAtLeastCost 30 = .ok (.iconst 0, 1) := by decide +kernel
theorem kd_S_allocateAtLeastCost_31 : decode kc_S_allocateAtLeastCost 31 = .ok (.invokestatic 89, 3) := by decide +kernel
theorem kd_S_allocateAtLeastCost_34 : decode kc_S_allocateAtLeastCost 34 = .ok (.iconst 0, 1) := by decide +kernel
theorem kd_S_allocateAtLeastCost_35 : decode kc_S_allocateAtLeastCost 35 = .ok (.istore_n 1, 1) := by decide +kernel
theorem kd_S_allocateAtLeastCost_36 : decode kc_S_allocateAtLeastCost 36 = .ok (.iload_n 1, 1) := by decide +kernel
theorem kd_S_allocateAtLeastCost_37 : decode kc_S_allocateAtLeastCost 37 = .ok (.aload_n 0, 1) := by decide +kernel
theorem kd_S_allocateAtLeastCost_38 : decode kc_S_allocateAtLeastCost 38 = .ok (.getfield 44, 3) := by decide +kernel
theorem kd_S_allocateAtLeastCost_41 : decode kc_S_allocateAtLeastCost 41 = .ok (.getfield 45, 3) := by decide +kernel
theorem kd_S_allocateAtLeastCost_44 : decode kc_S_allocateAtLeastCost 44 = .ok (.if_icmp .ge 21, 3) := by decide +kernel
theorem kd_S_allocateAtLeastCost_47 : decode kc_S_allocateAtLeastCost 47 = .ok (.aload_n 0, 1) := by decide +kernel
theorem kd_S_allocateAtLeastCost_48 : decode kc_S_allocateAtLeastCost 48 = .ok (.iload_n 1, 1) := by decide +kernel
theorem kd_S_allocateAtLeastCost_49 : decode kc_S_allocateAtLeastCost 49 = .ok (.aload_n 0, 1) := by decide +kernel
theorem kd_S_allocateAtLeastCost_50 : decode kc_S_allocateAtLeastCost 50 = .ok (.getfield 23, 3) := by decide +kernel
theorem kd_S_allocateAtLeastCost_53 : decode kc_S_allocateAtLeastCost 53 = .ok (.iload_n 1, 1) := by decide +kernel
theorem kd_S_allocateAtLeastCost_54 : decode kc_S_allocateAtLeastCost 54 = .ok (.iaload, 1) := by decide +kernel
theorem kd_S_allocateAtLeastCost_55 : decode kc_S_allocateAtLeastCost 55 = .ok (.invokevirtual 70, 3) := by decide +kernel
theorem kd_S_allocateAtLeastCost_58 : decode kc_S_allocateAtLeastCost 58 = .ok (.pop, 1) := by decide +kernel
theorem kd_S_allocateAtLeastCost_59 : decode kc_S_allocateAtLeastCost 59 = .ok (.iinc 1 1, 3) := by decide +kernel
theorem kd_S_allocateAtLeastCost_62 : decode kc_S_allocateAtLeastCost 62 = .ok (.goto (-26), 3) := by decide +kernel
theorem kd_S_allocateAtLeastCost_65 : decode kc_S_allocateAtLeastCost 65 = .ok (.return_, 1) := by decide +kernel
theorem kd_S_readBounds_0 : decode kc_S_readBounds 0 = .ok (.aload_n 0, 1) := by decide +kernel
theorem kd_S_readBounds_1 : decode kc_S_readBounds 1 = .ok (.getfield 26, 3) := by decide +kernel
theorem kd_S_readBounds_4 : decode kc_S_readBounds 4 = .ok (.aload_n 0, 1) := by decide +kernel
theorem kd_S_readBounds_5 : decode kc_S_readBounds 5 = .ok (.getfield 44, 3) := by decide +kernel
theorem kd_S_readBounds_8 : decode kc_S_readBounds 8 = .ok (.getfield 45, 3) := by decide +kernel
theorem kd_S_readBounds_11 : decode kc_S_readBounds 11 = .ok (.iconst 0, 1) := by decide +kernel
theorem kd_S_readBounds_12 : decode kc_S_readBounds 12 = .ok (.iastore, 1) := by decide +kernel
theorem kd_S_readBounds_13 : decode kc_S_readBounds 13 = .ok (.aload_n 0, 1) := by decide +kernel
theorem kd_S_readBounds_14 : decode kc_S_readBounds 14 = .ok (.getfield 44, 3) := by decide +kernel
theorem kd_S_readBounds_17 : decode kc_S_readBounds 17 = .ok (.getfield 45, 3) := by decide +kernel
theorem kd_S_readBounds_20 : decode kc_S_readBounds 20 = .ok (.iconst 1, 1) := by decide +kernel
theorem kd_S_readBounds_21 : decode kc_S_readBounds 21 = .ok (.isub, 1) := by decide +kernel
theorem kd_S_readBounds_22 : decode kc_S_readBounds 22 = .ok (.istore_n 1, 1) := by decide +kernel
theorem kd_S_readBounds_23 : decode kc_S_readBounds 23 = .ok (.iload_n 1, 1) := by decide +kernel
theorem kd_S_readBounds_24 : decode kc_S_readBounds 24 = .ok (.ifCond .lt 32, 3) := by decide +kernel
theorem kd_S_readBounds_27 : decode kc_S_readBounds 27 = .ok (.aload_n 0, 1) := by decide +kernel
theorem kd_S_readBounds_28 : decode kc_S_readBounds 28 = .ok (.getfield 26, 3) := by decide +kernel
theorem kd_S_readBounds_31 : decode kc_S_readBounds 31 = .ok (.iload_n 1, 1) := by decide +kernel
theorem kd_S_readBounds_32 : decode kc_S_readBounds 32 = .ok (.aload_n 0, 1) := by decide +kernel
theorem kd_S_readBounds_33 : decode kc_S_readBounds 33 = .ok (.getfield 26, 3) := by decide +kernel
theorem kd_S_readBounds_36 : decode kc_S_readBounds 36 = .ok (.iload_n 1, 1) := by decide +kernel
theorem kd_S_readBounds_37 : decode kc_S_readBounds 37 = .ok (.iconst 1, 1) := by decide +kernel
theorem kd_S_readBounds_38 : decode kc_S_readBounds 38 = .ok (.iadd, 1) := by decide +kernel
theorem kd_S_readBounds_39 : decode kc_S_readBounds 39 = .ok (.iaload, 1) := by decide +kernel
theorem kd_S_readBounds_40 : decode kc_S_readBounds 40 = .ok (.aload_n 0, 1) := by decide +kernel
theorem kd_S_readBounds_41 : decode kc_S_readBounds 41 = .ok (.getfield 29, 3) := by decide +kernel
theorem kd_S_readBounds_44 : decode kc_S_readBounds 44 = .ok (.iload_n 1, 1) := by decide +kernel
theorem kd_S_readBounds_45 : decode kc_S_readBounds 45 = .ok (.invokevirtual 93, 3) := by decide +kernel
theorem kd_S_readBounds_48 : decode kc_S_readBounds 48 = .ok (.iadd, 1) := by decide +kernel
theorem kd_S_readBounds_49 : decode kc_S_readBounds 49 = .ok (.iastore, 1) := by decide +kernel
theorem kd_S_readBounds_50 : decode kc_S_readBounds 50 = .ok (.iinc 1 (-1), 3) := by decide +kernel
theorem kd_S_readBounds_53 : decode kc_S_readBounds 53 = .ok (.goto (-30), 3) := by decide +kernel
theorem kd_S_readBounds_56 : decode kc_S_readBounds 56 = .ok (.return_, 1) := by decide +kernel
theorem kd_S_allocateByRule_0 : decode kc_S_allocateByRule 0 = .ok (.iconst 0, 1) := by decide +kernel
theorem kd_S_allocateByRule_1 : decode kc_S_allocateByRule 1 = .ok (.istore_n 1, 1) := by decide +kernel
theorem kd_S_allocateByRule_2 : decode kc_S_allocateByRule 2 = .ok (.iload_n 1, 1) := by decide +kernel
theorem kd_S_allocateByRule_3 : decode kc_S_allocateByRule 3 = .ok (.aload_n 0, 1) := by decide +kernel
theorem kd_S_allocateByRule_4 : decode kc_S_allocateByRule 4 = .ok (.getfield 44, 3) := by decide +kernel
theorem kd_S_allocateByRule_7 : decode kc_S_allocateByRule 7 = .ok (.getfield 45, 3) := by decide +kernel
theorem kd_S_allocateByRule_10 : decode kc_S_allocateByRule 10 = .ok (.if_icmp .ge 41, 3) := by decide +kernel
theorem kd_S_allocateByRule_13 : decode kc_S_allocateByRule 13 = .ok (.aload_n 0, 1) := by decide +kernel
theorem kd_S_allocateByRule_14 : decode kc_S_allocateByRule 14 = .ok (.getfield 44, 3) := by decide +kernel
theorem kd_S_allocateByRule_17 : decode kc_S_allocateByRule 17 = .ok (.getfield 61, 3) := by decide +kernel
theorem kd_S_allocateByRule_20 : decode kc_S_allocateByRule 20 = .ok (.iload_n 1, 1) := by decide +kernel
theorem kd_S_allocateByRule_21 : decode kc_S_allocateByRule 21 = .ok (.aaload, 1) := by decide +kernel
theorem kd_S_allocateByRule_22 : decode kc_S_allocateByRule 22 = .ok (.iconst 2, 1) := by decide +kernel
theorem kd_S_allocateByRule_23 : decode kc_S_allocateByRule 23 = .ok (.iaload, 1) := by decide +kernel
theorem kd_S_allocateByRule_24 : decode kc_S_allocateByRule 24 = .ok (.aload_n 0, 1) := by decide +kernel
theorem kd_S_allocateByRule_25 : decode kc_S_allocateByRule 25 = .ok (.getfield 16, 3) := by decide +kernel
theorem kd_S_allocateByRule_28 : decode kc_S_allocateByRule 28 = .ok (.iload_n 1, 1) := by decide +kernel
theorem kd_S_allocateByRule_29 : decode kc_S_allocateByRule 29 = .ok (.iaload, 1) := by decide +kernel
theorem kd_S_allocateByRule_30 : decode kc_S_allocateByRule 30 = .ok (.invokestatic 64, 3) := by decide +kernel
theorem kd_S_allocateByRule_33 : decode kc_S_allocateByRule 33 = .ok (.istore_n 2, 1) := by decide +kernel
theorem kd_S_allocateByRule_34 : decode kc_S_allocateByRule 34 = .ok (.aload_n 0, 1) := by decide +kernel
theorem kd_S_allocateByRule_35 : decode kc_S_allocateByRule 35 = .ok (.iload_n 1, 1) := by decide +kernel
theorem kd_S_allocateByRule_36 : decode kc_S_allocateByRule 36 = .ok (.iconst 1, 1) := by decide +kernel
theorem kd_S_allocateByRule_37 : decode kc_S_allocateByRule 37 = .ok (.iload_n 2, 1) := by decide +kernel
theorem kd_S_allocateByRule_38 : decode kc_S_allocateByRule 38 = .ok (.ishl, 1) := by decide +kernel
theorem kd_S_allocateByRule_39 : decode kc_S_allocateByRule 39 = .ok (.iconst 1, 1) := by decide +kernel
theorem kd_S_allocateByRule_40 : decode kc_S_allocateByRule 40 = .ok (.isub, 1) := by decide +kernel
theorem kd_S_allocateByRule_41 : decode kc_S_allocateByRule 41 = .ok (.invokevirtual 70, 3) := by decide +kernel
theorem kd_S_allocateByRule_44 : decode kc_S_allocateByRule 44 = .ok (.pop, 1) := by decide +kernel
theorem kd_S_allocateByRule_45 : decode kc_S_allocateByRule 45 = .ok (.iinc 1 1, 3) := by decide +kernel
theorem kd_S_allocateByRule_48 : decode kc_S_allocateByRule 48 = .ok (.goto (-46), 3) := by decide +kernel
theorem kd_S_allocateByRule_51 : decode kc_S_allocateByRule 51 = .ok (.return_, 1) := by decide +kernel
theorem kd_S_take_0 : decode kc_S_take 0 = .ok (.aload_n 0, 1) := by decide +kernel
theorem kd_S_take_1 : decode kc_S_take 1 = .ok (.getfield 44, 3) := by decide +kernel
theorem kd_S_take_4 : decode kc_S_take 4 = .ok (.getfield 115, 3) := by decide +kernel
theorem kd_S_take_7 : decode kc_S_take 7 = .ok (.iload_n 1, 1) := by decide +kernel
theorem kd_S_take_8 : decode kc_S_take 8 = .ok (.iaload, 1) := by decide +kernel
theorem kd_S_take_9 : decode kc_S_take 9 = .ok (.istore_n 3, 1) := by decide +kernel
theorem kd_S_take_10 : decode kc_S_take 10 = .ok (.iconst 0, 1) := by decide +kernel
theorem kd_S_take_11 : decode kc_S_take 11 = .ok (.istore 4, 2) := by decide +kernel
theorem kd_S_take_13 : decode kc_S_take 13 = .ok (.iconst 0, 1) := by decide +kernel
theorem kd_S_take_14 : decode kc_S_take 14 = .ok (.istore 5, 2) := by decide +kernel
theorem kd_S_take_16 : decode kc_S_take 16 = .ok (.iload 5, 2) := by decide +kernel
theorem kd_S_take_18 : decode kc_S_take 18 = .ok (.aload_n 0, 1) := by decide +kernel
theorem kd_S_take_19 : decode kc_S_take 19 = .ok (.getfield 16, 3) := by decide +kernel
theorem kd_S_take_22 : decode kc_S_take 22 = .ok (.iload_n 1, 1) := by decide +kernel
theorem kd_S_take_23 : decode kc_S_take 23 = .ok (.iaload, 1) := by decide +kernel
theorem kd_S_take_24 : decode kc_S_take 24 = .ok (.if_icmp .ge 92, 3) := by decide +kernel
theorem kd_S_take_27 : decode kc_S_take 27 = .ok (.iload_n 2, 1) := by decide +kernel
theorem kd_S_take_28 : decode kc_S_take 28 = .ok (.iload 5, 2) := by decide +kernel
theorem kd_S_take_30 : decode kc_S_take 30 = .ok (.ishr, 1) := by decide +kernel
theorem kd_S_take_31 : decode kc_S_take 31 = .ok (.iconst 1, 1) := by decide +kernel
theorem kd_S_take_32 : decode kc_S_take 32 = .ok (.iand, 1) := by decide +kernel
theorem kd_S_take_33 : decode kc_S_take 33 = .ok (.iconst 1, 1) := by decide +kernel
theorem kd_S_take_34 : decode kc_S_take 34 = .ok (.if_icmp .ne 76, 3) := by decide +kernel
theorem kd_S_take_37 : decode kc_S_take 37 = .ok (.aload_n 0, 1) := by decide +kernel
theorem kd_S_take_38 : decode kc_S_take 38 = .ok (.getfield 11, 3) := by decide +kernel
theorem kd_S_take_41 : decode kc_S_take 41 = .ok (.iload_n 1, 1) := by decide +kernel
theorem kd_S_take_42 : decode kc_S_take 42 = .ok (.aaload, 1) := by decide +kernel
theorem kd_S_take_43 : decode kc_S_take 43 = .ok (.iload 5, 2) := by decide +kernel
theorem kd_S_take_45 : decode kc_S_take 45 = .ok (.iaload, 1) := by decide +kernel
theorem kd_S_take_46 : decode kc_S_take 46 = .ok (.istore 6, 2) := by decide +kernel
theorem kd_S_take_48 : decode kc_S_take 48 = .ok (.iload_n 3, 1) := by decide +kernel
theorem kd_S_take_49 : decode kc_S_take 49 = .ok (.aload_n 0, 1) := by decide +kernel
theorem kd_S_take_50 : decode kc_S_take 50 = .ok (.getfield 39, 3) := by decide +kernel
theorem kd_S_take_53 : decode kc_S_take 53 = .ok (.getfield 118, 3) := by decide +kernel
theorem kd_S_take_56 : decode kc_S_take 56 = .ok (.iload 6, 2) := by decide +kernel
theorem kd_S_take_58 : decode kc_S_take 58 = .ok (.iaload, 1) := by decide +kernel
theorem kd_S_take_59 : decode kc_S_take 59 = .ok (.invokestatic 64, 3) := by decide +kernel
theorem kd_S_take_62 : decode kc_S_take 62 = .ok (.aload_n 0, 1) := by decide +kernel
theorem kd_S_take_63 : decode kc_S_take 63 = .ok (.getfield 44, 3) := by decide +kernel
theorem kd_S_take_66 : decode kc_S_take 66 = .ok (.getfield 61, 3) := by decide +kernel
theorem kd_S_take_69 : decode kc_S_take 69 = .ok (.iload_n 1, 1) := by decide +kernel
theorem kd_S_take_70 : decode kc_S_take 70 = .ok (.aaload, 1) := by decide +kernel
theorem kd_S_take_71 : decode kc_S_take 71 = .ok (.iconst 1, 1) := by decide +kernel
theorem kd_S_take_72 : decode kc_S_take 72 = .ok (.iaload, 1) := by decide +kernel
theorem kd_S_take_73 : decode kc_S_take 73 = .ok (.invokestatic 121, 3) := by decide +kernel
theorem kd_S_take_76 : decode kc_S_take 76 = .ok (.istore 7, 2) := by decide +kernel
theorem kd_S_take_78 : decode kc_S_take 78 = .ok (.aload_n 0, 1) := by decide +kernel
theorem kd_S_take_79 : decode kc_S_take 79 = .ok (.getfield 29, 3) := by decide +kernel
theorem kd_S_take_82 : decode kc_S_take 82 = .ok (.iload_n 1, 1) := by decide +kernel
theorem kd_S_take_83 : decode kc_S_take 83 = .ok (.iload 6, 2) := by decide +kernel
theorem kd_S_take_85 : decode kc_S_take 85 = .ok (.iload 7, 2) := by decide +kernel
theorem kd_S_take_87 : decode kc_S_take 87 = .ok (.invokevirtual 124, 3) := by decide +kernel
theorem kd_S_take_90 : decode kc_S_take 90 = .ok (.iload_n 3, 1) := by decide +kernel
theorem kd_S_take_91 : decode kc_S_take 91 = .ok (.iload 7, 2) := by decide +kernel
theorem kd_S_take_93 : decode kc_S_take 93 = .ok (.isub, 1) := by decide +kernel
theorem kd_S_take_94 : decode kc_S_take 94 = .ok (.istore_n 3, 1) := by decide +kernel
theorem kd_S_take_95 : decode kc_S_take 95 = .ok (.iload 4, 2) := by decide +kernel
theorem kd_S_take_97 : decode kc_S_take 97 = .ok (.iload 7, 2) := by decide +kernel
theorem kd_S_take_99 : decode kc_S_take 99 = .ok (.ifCond .le 7, 3) := by decide +kernel
theorem kd_S_take_102 : decode kc_S_take 102 = .ok (.iconst 1, 1) := by decide +kernel
theorem kd_S_take_103 : decode kc_S_take 103 = .ok (.goto 4, 3) := by decide +kernel
theorem kd_S_take_106 : decode kc_S_take 106 = .ok (.iconst 0, 1) := by decide +kernel
theorem kd_S_take_107 : decode kc_S_take 107 = .ok (.iadd, 1) := by decide +kernel
theorem kd_S_take_108 : decode kc_S_take 108 = .ok (.istore 4, 2) := by decide +kernel
theorem kd_S_take_110 : decode kc_S_take 110 = .ok (.iinc 5 1, 3) := by decide +kernel
theorem kd_S_take_113 : decode kc_S_take 113 = .ok (.goto (-97), 3) := by decide +kernel
theorem kd_S_take_116 : decode kc_S_take 116 = .ok (.iload_n 3, 1) := by decide +kernel
theorem kd_S_take_117 : decode kc_S_take 117 = .ok (.ifCond .le 28, 3) := by decide +kernel
theorem kd_S_take_120 : decode kc_S_take 120 = .ok (.aload_n 0, 1) := by decide +kernel
theorem kd_S_take_121 : decode kc_S_take 121 = .ok (.getfield 44, 3) := by decide +kernel
theorem kd_S_take_124 : decode kc_S_take 124 = .ok (.getfield 61, 3) := by decide +kernel
theorem kd_S_take_127 : decode kc_S_take 127 = .ok (.iload_n 1, 1) := by decide +kernel
theorem kd_S_take_128 : decode kc_S_take 128 = .ok (.aaload, 1) := by decide +kernel
theorem kd_S_take_129 : decode kc_S_take 129 = .ok (.iconst 3, 1) := by decide +kernel
theorem kd_S_take_130 : decode kc_S_take 130 = .ok (.iaload, 1) := by decide +kernel
theorem kd_S_take_131 : decode kc_S_take 131 = .ok (.iconst 1, 1) := by decide +kernel
theorem kd_S_take_132 : decode kc_S_take 132 = .ok (.if_icmp .ne 13, 3) := by decide +kernel
theorem kd_S_take_135 : decode kc_S_take 135 = .ok (.aload_n 0, 1) := by decide +kernel
theorem kd_S_take_136 : decode kc_S_take 136 = .ok (.getfield 29, 3) := by decide +kernel
theorem kd_S_take_139 : decode kc_S_take 139 = .ok (.iload_n 1, 1) := by decide +kernel
theorem kd_S_take_140 : decode kc_S_take 140 = .ok (.invokevirtual 112, 3) := by decide +kernel
theorem kd_S_take_143 : decode kc_S_take 143 = .ok (.iconst 0, 1) := by decide +kernel
theorem kd_S_take_144 : decode kc_S_take 144 = .ok (.ireturn, 1) := by decide +kernel
theorem kd_S_take_145 : decode kc_S_take 145 = .ok (.iload 4, 2) := by decide +kernel
theorem kd_S_take_147 : decode kc_S_take 147 = .ok (.ireturn, 1) := by decide +kernel
theorem kd_S_roundDown_0 : decode kc_S_roundDown 0 = .ok (.iload_n 1, 1) := by decide +kernel
theorem kd_S_roundDown_1 : decode kc_S_roundDown 1 = .ok (.iconst 1, 1) := by decide +kernel
theorem kd_S_roundDown_2 : decode kc_S_roundDown 2 = .ok (.if_icmp .le 11, 3) := by decide +kernel
theorem kd_S_roundDown_5 : decode kc_S_roundDown 5 = .ok (.iload_n 0, 1) := by decide +kernel
theorem kd_S_roundDown_6 : decode kc_S_roundDown 6 = .ok (.iload_n 0, 1) := by decide +kernel
theorem kd_S_roundDown_7 : decode kc_S_roundDown 7 = .ok (.iload_n 1, 1) := by decide +kernel
theorem kd_S_roundDown_8 : decode kc_S_roundDown 8 = .ok (.irem, 1) := by decide +kernel
theorem kd_S_roundDown_9 : decode kc_S_roundDown 9 = .ok (.isub, 1) := by decide +kernel
theorem kd_S_roundDown_10 : decode kc_S_roundDown 10 = .ok (.goto 4, 3) := by decide +kernel
theorem kd_S_roundDown_13 : decode kc_S_roundDown 13 = .ok (.iload_n 0, 1) := by decide +kernel
theorem kd_S_roundDown_14 : decode kc_S_roundDown 14 = .ok (.ireturn, 1) := by decide +kernel
theorem kd_S_explore_0 : decode kc_S_explore 0 = .ok (.iload_n 1, 1) := by decide +kernel
theorem kd_S_explore_1 : decode kc_S_explore 1 = .ok (.aload_n 0, 1) := by decide +kernel
theorem kd_S_explore_2 : decode kc_S_explore 2 = .ok (.getfield 44, 3) := by decide +kernel
theorem kd_S_explore_5 : decode kc_S_explore 5 = .ok (.getfield 45, 3) := by decide +kernel
theorem kd_S_explore_8 : decode kc_S_explore 8 = .ok (.if_icmp .lt 9, 3) := by decide +kernel
theorem kd_S_explore_11 : decode kc_S_explore 11 = .ok (.aload_n 0, 1) := by decide +kernel
theorem kd_S_explore_12 : decode kc_S_explore 12 = .ok (.iload_n 2, 1) := by decide +kernel
theorem kd_S_explore_13 : decode kc_S_explore 13 = .ok (.invokevirtual 97, 3) := by decide +kernel
theorem kd_S_explore_16 : decode kc_S_explore 16 = .ok (.return_, 1) := by decide +kernel
theorem kd_S_explore_17 : decode kc_S_explore 17 = .ok (.iconst 1, 1) := by decide +kernel
theorem kd_S_explore_18 : decode kc_S_explore 18 = .ok (.aload_n 0, 1) := by decide +kernel
theorem kd_S_explore_19 : decode kc_S_explore 19 = .ok (.getfield 16, 3) := by decide +kernel
theorem kd_S_explore_22 : decode kc_S_explore 22 = .ok (.iload_n 1, 1) := by decide +kernel
theorem kd_S_explore_23 : decode kc_S_explore 23 = .ok (.iaload, 1) := by decide +kernel
theorem kd_S_explore_24 : decode kc_S_explore 24 = .ok (.ishl, 1) := by decide +kernel
theorem kd_S_explore_25 : decode kc_S_explore 25 = .ok (.istore_n 3, 1) := by decide +kernel
theorem kd_S_explore_26 : decode kc_S_explore 26 = .ok (.iconst 0, 1) := by decide +kernel
theorem kd_S_explore_27 : decode kc_S_explore 27 = .ok (.istore 4, 2) := by decide +kernel
theorem kd_S_explore_29 : decode kc_S_explore 29 = .ok (.iload 4, 2) := by decide +kernel
theorem kd_S_explore_31 : decode kc_S_explore 31 = .ok (.iload_n 3, 1) := by decide +kernel
theorem kd_S_explore_32 : decode kc_S_explore 32 = .ok (.if_icmp .ge 75, 3) := by decide +kernel
theorem kd_S_explore_35 : decode kc_S_explore 35 = .ok (.iload 4, 2) := by decide +kernel
theorem kd_S_explore_37 : decode kc_S_explore 37 = .ok (.invokestatic 101, 3) := by decide +kernel
theorem kd_S_explore_40 : decode kc_S_explore 40 = .ok (.istore 5, 2) := by decide +kernel
theorem kd_S_explore_42 : decode kc_S_explore 42 = .ok (.iload 5, 2) := by decide +kernel
theorem kd_S_explore_44 : decode kc_S_explore 44 = .ok (.aload_n 0, 1) := by decide +kernel
theorem kd_S_explore_45 : decode kc_S_explore 45 = .ok (.getfield 44, 3) := by decide +kernel
theorem kd_S_explore_48 : decode kc_S_explore 48 = .ok (.getfield 61, 3) := by decide +kernel
theorem kd_S_explore_51 : decode kc_S_explore 51 = .ok (.iload_n 1, 1) := by decide +kernel
theorem kd_S_explore_52 : decode kc_S_explore 52 = .ok (.aaload, 1) := by decide +kernel
theorem kd_S_explore_53 : decode kc_S_explore 53 = .ok (.iconst 2, 1) := by decide +kernel
theorem kd_S_explore_54 : decode kc_S_explore 54 = .ok (.iaload, 1) := by decide +kernel
theorem kd_S_explore_55 : decode kc_S_explore 55 = .ok (.if_icmp .gt 46, 3) := by decide +kernel
theorem kd_S_explore_58 : decode kc_S_explore 58 = .ok (.aload_n 0, 1) := by decide +kernel
theorem kd_S_explore_59 : decode kc_S_explore 59 = .ok (.getfield 20, 3) := by decide +kernel
theorem kd_S_explore_62 : decode kc_S_explore 62 = .ok (.iload_n 1, 1) := by decide +kernel
theorem kd_S_explore_63 : decode kc_S_explore 63 = .ok (.iload 4, 2) := by decide +kernel
theorem kd_S_explore_65 : decode kc_S_explore 65 = .ok (.iastore, 1) := by decide +kernel
theorem kd_S_explore_66 : decode kc_S_explore 66 = .ok (.aload_n 0, 1) := by decide +kernel
theorem kd_S_explore_67 : decode kc_S_explore 67 = .ok (.iload_n 1, 1) := by decide +kernel
theorem kd_S_explore_68 : decode kc_S_explore 68 = .ok (.iload 4, 2) := by decide +kernel
theorem kd_S_explore_70 : decode kc_S_explore 70 = .ok (.invokevirtual 70, 3) := by decide +kernel
theorem kd_S_explore_73 : decode kc_S_explore 73 = .ok (.iload 5, 2) := by decide +kernel
theorem kd_S_explore_75 : decode kc_S_explore 75 = .ok (.if_icmp .ne 18, 3) := by decide +kernel
theorem kd_S_explore_78 : decode kc_S_explore 78 = .ok (.aload_n 0, 1) := by decide +kernel
theorem kd_S_explore_79 : decode kc_S_explore 79 = .ok (.iload_n 1, 1) := by decide +kernel
theorem kd_S_explore_80 : decode kc_S_explore 80 = .ok (.iload_n 2, 1) := by decide +kernel
theorem kd_S_explore_81 : decode kc_S_explore 81 = .ok (.aload_n 0, 1) := by decide +kernel
theorem kd_S_explore_82 : decode kc_S_explore 82 = .ok (.getfield 29, 3) := by decide +kernel
theorem kd_S_explore_85 : decode kc_S_explore 85 = .ok (.iload_n 1, 1) := by decide +kernel
theorem kd_S_explore_86 : decode kc_S_explore 86 = .ok (.invokevirtual 106, 3) := by decide +kernel
theorem kd_S_explore_89 : decode kc_S_explore 89 = .ok (.iadd, 1) := by decide +kernel
theorem kd_S_explore_90 : decode kc_S_explore 90 = .ok (.invokestatic 109, 3) := by decide +kernel
theorem kd_S_explore_93 : decode kc_S_explore 93 = .ok (.aload_n 0, 1) := by decide +kernel
theorem kd_S_explore_94 : decode kc_S_explore 94 = .ok (.getfield 29, 3) := by decide +kernel
theorem kd_S_explore_97 : decode kc_S_explore 97 = .ok (.iload_n 1, 1) := by decide +kernel
theorem kd_S_explore_98 : decode kc_S_explore 98 = .ok (.invokevirtual 112, 3) := by decide +kernel
theorem kd_S_explore_101 : decode kc_S_explore 101 = .ok (.iinc 4 1, 3) := by decide +kernel
theorem kd_S_explore_104 : decode kc_S_explore 104 = .ok (.goto (-75), 3) := by decide +kernel
theorem kd_S_explore_107 : decode kc_S_explore 107 = .ok (.return_, 1) := by decide +kernel
theorem kd_S_keep_0 : decode kc_S_keep 0 = .ok (.aload_n 0, 1) := by decide +kernel
theorem kd_S_keep_1 : decode kc_S_keep 1 = .ok (.iload_n 1, 1) := by decide +kernel
theorem kd_S_keep_2 : decode kc_S_keep 2 = .ok (.putfield 83, 3) := by decide +kernel
theorem kd_S_keep_5 : decode kc_S_keep 5 = .ok (.iconst 0, 1) := by decide +kernel
theorem kd_S_keep_6 : decode kc_S_keep 6 = .ok (.istore_n 2, 1) := by decide +kernel
theorem kd_S_keep_7 : decode kc_S_keep 7 = .ok (.iload_n 2, 1) := by decide +kernel
theorem kd_S_keep_8 : decode kc_S_keep 8 = .ok (.aload_n 0, 1) := by decide +kernel
theorem kd_S_keep_9 : decode kc_S_keep 9 = .ok (.getfield 44, 3) := by decide +kernel
theorem kd_S_keep_12 : decode kc_S_keep 12 = .ok (.getfield 45, 3) := by decide +kernel
theorem kd_S_keep_15 : decode kc_S_keep 15 = .ok (.if_icmp .ge 21, 3) := by decide +kernel
theorem kd_S_keep_18 : decode kc_S_keep 18 = .ok (.aload_n 0, 1) := by decide +kernel
theorem kd_S_keep_19 : decode kc_S_keep 19 = .ok (.getfield 23, 3) := by decide +kernel
theorem kd_S_keep_22 : decode kc_S_keep 22 = .ok (.iload_n 2, 1) := by decide +kernel
theorem kd_S_keep_23 : decode kc_S_keep 23 = .ok (.aload_n 0, 1) := by decide +kernel
theorem kd_S_keep_24 : decode kc_S_keep 24 = .ok (.getfield 20, 3) := by decide +kernel
theorem kd_S_keep_27 : decode kc_S_keep 27 = .ok (.iload_n 2, 1) := by decide +kernel
theorem kd_S_keep_28 : decode kc_S_keep 28 = .ok (.iaload, 1) := by decide +kernel
theorem kd_S_keep_29 : decode kc_S_keep 29 = .ok (.iastore, 1) := by decide +kernel
theorem kd_S_keep_30 : decode kc_S_keep 30 = .ok (.iinc 2 1, 3) := by decide +kernel
theorem kd_S_keep_33 : decode kc_S_keep 33 = .ok (.goto (-26), 3) := by decide +kernel
theorem kd_S_keep_36 : decode kc_S_keep 36 = .ok (.return_, 1) := by decide +kernel
theorem kd_S_exploreBehind_0 : decode kc_S_exploreBehind 0 = .ok (.iload_n 2, 1) := by decide +kernel
theorem kd_S_exploreBehind_1 : decode kc_S_exploreBehind 1 = .ok (.aload_n 0, 1) := by decide +kernel
theorem kd_S_exploreBehind_2 : decode kc_S_exploreBehind 2 = .ok (.getfield 26, 3) := by decide +kernel
theorem kd_S_exploreBehind_5 : decode kc_S_exploreBehind 5 = .ok (.iload_n 1, 1) := by decide +kernel
theorem kd_S_exploreBehind_6 : decode kc_S_exploreBehind 6 = .ok (.iconst 1, 1) := by decide +kernel
theorem kd_S_exploreBehind_7 : decode kc_S_exploreBehind 7 = .ok (.iadd, 1) := by decide +kernel
theorem kd_S_exploreBehind_8 : decode kc_S_exploreBehind 8 = .ok (.iaload, 1) := by decide +kernel
theorem kd_S_exploreBehind_9 : decode kc_S_exploreBehind 9 = .ok (.iadd, 1) := by decide +kernel
theorem kd_S_exploreBehind_10 : decode kc_S_exploreBehind 10 = .ok (.aload_n 0, 1) := by decide +kernel
theorem kd_S_exploreBehind_11 : decode kc_S_exploreBehind 11 = .ok (.getfield 83, 3) := by decide +kernel
theorem kd_S_exploreBehind_14 : decode kc_S_exploreBehind 14 = .ok (.if_icmp .ge 11, 3) := by decide +kernel
theorem kd_S_exploreBehind_17 : decode kc_S_exploreBehind 17 = .ok (.aload_n 0, 1) := by decide +kernel
theorem kd_S_exploreBehind_18 : decode kc_S_exploreBehind 18 = .ok (.iload_n 1, 1) := by decide +kernel
theorem kd_S_exploreBehind_19 : decode kc_S_exploreBehind 19 = .ok (.iconst 1, 1) := by decide +kernel
theorem kd_S_exploreBehind_20 : decode kc_S_exploreBehind 20 = .ok (.iadd, 1) := by decide +kernel
theorem kd_S_exploreBehind_21 : decode kc_S_exploreBehind 21 = .ok (.iload_n 2, 1) := by decide +kernel
theorem kd_S_exploreBehind_22 : decode kc_S_exploreBehind 22 = .ok (.invokestatic 89, 3) := by decide +kernel
theorem kd_S_exploreBehind_25 : decode kc_S_exploreBehind 25 = .ok (.return_, 1) := by decide +kernel
end
section
/-! decode rows, by program -/
theorem kd_M_init_0 : decode kc_M_init 0 = .ok (.aload_n 0, 1) := by decide +kernel
theorem kd_M_init_1 : decode kc_M_init 1 = .ok (.invokespecial 1, 3) := by decide +kernel
theorem kd_M_init_4 : decode kc_M_init 4 = .ok (.aload_n 0, 1) := by decide +kernel
theorem kd_M_init_5 : decode kc_M_init 5 = .ok (.bipush 8, 2) := by decide +kernel
theorem kd_M_init_7 : decode kc_M_init 7 = .ok (.newarray .int, 2) := by decide +kernel
theorem kd_M_init_9 : decode kc_M_init 9 = .ok (.putfield 7, 3) := by decide +kernel
theorem kd_M_init_12 : decode kc_M_init 12 = .ok (.aload_n 0, 1) := by decide +kernel
theorem kd_M_init_13 : decode kc_M_init 13 = .ok (.bipush 8, 2) := by decide +kernel
theorem kd_M_init_15 : decode kc_M_init 15 = .ok (.newarray .int, 2) := by decide +kernel
theorem kd_M_init_17 : decode kc_M_init 17 = .ok (.putfield 13, 3) := by decide +kernel
theorem kd_M_init_20 : decode kc_M_init 20 = .ok (.aload_n 0, 1) := by decide +kernel
theorem kd_M_init_21 : decode kc_M_init 21 = .ok (.bipush 8, 2) := by decide +kernel
theorem kd_M_init_23 : decode kc_M_init 23 = .ok (.newarray .int, 2) := by decide +kernel
theorem kd_M_init_25 : decode kc_M_init 25 = .ok (.putfield 16, 3) := by decide +kernel
theorem kd_M_init_28 : decode kc_M_init 28 = .ok (.aload_n 0, 1) := by decide +kernel
theorem kd_M_init_29 : decode kc_M_init 29 = .ok (.bipush 8, 2) := by decide +kernel
theorem kd_M_init_31 : decode kc_M_init 31 = .ok (.newarray .int, 2) := by decide +kernel
theorem kd_M_init_33 : decode kc_M_init 33 = .ok (.putfield 19, 3) := by decide +kernel
theorem kd_M_init_36 : decode kc_M_init 36 = .ok (.aload_n 0, 1) := by decide +kernel
theorem kd_M_init_37 : decode kc_M_init 37 = .ok (.bipush 6, 2) := by decide +kernel
theorem kd_M_init_39 : decode kc_M_init 39 = .ok (.newarray .int, 2) := by decide +kernel
theorem kd_M_init_41 : decode kc_M_init 41 = .ok (.putfield 22, 3) := by decide +kernel
theorem kd_M_init_44 : decode kc_M_init 44 = .ok (.aload_n 0, 1) := by decide +kernel
theorem kd_M_init_45 : decode kc_M_init 45 = .ok (.bipush 6, 2) := by decide +kernel
theorem kd_M_init_47 : decode kc_M_init 47 = .ok (.newarray .int, 2) := by decide +kernel
theorem kd_M_init_49 : decode kc_M_init 49 = .ok (.putfield 25, 3) := by decide +kernel
theorem kd_M_init_52 : decode kc_M_init 52 = .ok (.aload_n 0, 1) := by decide +kernel
theorem kd_M_init_53 : decode kc_M_init 53 = .ok (.bipush 24, 2) := by decide +kernel
theorem kd_M_init_55 : decode kc_M_init 55 = .ok (.newarray .int, 2) := by decide +kernel
theorem kd_M_init_57 : decode kc_M_init 57 = .ok (.putfield 28, 3) := by decide +kernel
theorem kd_M_init_60 : decode kc_M_init 60 = .ok (.aload_n 0, 1) := by decide +kernel
theorem kd_M_init_61 : decode kc_M_init 61 = .ok (.bipush 48, 2) := by decide +kernel
theorem kd_M_init_63 : decode kc_M_init 63 = .ok (.newarray .int, 2) := by decide +kernel
theorem kd_M_init_65 : decode kc_M_init 65 = .ok (.putfield 31, 3) := by decide +kernel
theorem kd_M_init_68 : decode kc_M_init 68 = .ok (.aload_n 0, 1) := by decide +kernel
theorem kd_M_init_69 : decode kc_M_init 69 = .ok (.bipush 48, 2) := by decide +kernel
theorem kd_M_init_71 : decode kc_M_init 71 = .ok (.newarray .boolean, 2) := by decide +kernel
theorem kd_M_init_73 : decode kc_M_init 73 = .ok (.putfield 34, 3) := by decide +kernel
theorem kd_M_init_76 : decode kc_M_init 76 = .ok (.aload_n 0, 1) := by decide +kernel
theorem kd_M_init_77 : decode kc_M_init 77 = .ok (.bipush 48, 2) := by decide +kernel
theorem kd_M_init_79 : decode kc_M_init 79 = .ok (.newarray .int, 2) := by decide +kernel
theorem kd_M_init_81 : decode kc_M_init 81 = .ok (.putfield 38, 3) := by decide +kernel
theorem kd_M_init_84 : decode kc_M_init 84 = .ok (.aload_n 0, 1) := by decide +kernel
theorem kd_M_init_85 : decode kc_M_init 85 = .ok (.bipush 48, 2) := by decide +kernel
theorem kd_M_init_87 : decode kc_M_init 87 = .ok (.newarray .int, 2) := by decide +kernel
theorem kd_M_init_89 : decode kc_M_init 89 = .ok (.putfield 41, 3) := by decide +kernel
theorem kd_M_init_92 : decode kc_M_init 92 = .ok (.aload_n 0, 1) := by decide +kernel
theorem kd_M_init_93 : decode kc_M_init 93 = .ok (.bipush 6, 2) := by decide +kernel
theorem kd_M_init_95 : decode kc_M_init 95 = .ok (.newarray .int, 2) := by decide +kernel
theorem kd_M_init_97 : decode kc_M_init 97 = .ok (.putfield 44, 3) := by decide +kernel
theorem kd_M_init_100 : decode kc_M_init 100 = .ok (.aload_n 0, 1) := by decide +kernel
theorem kd_M_init_101 : decode kc_M_init 101 = .ok (.bipush 6, 2) := by decide +kernel
theorem kd_M_init_103 : decode kc_M_init 103 = .ok (.newarray .int, 2) := by decide +kernel
theorem kd_M_init_105 : decode kc_M_init 105 = .ok (.putfield 47, 3) := by decide +kernel
theorem kd_M_init_108 : decode kc_M_init 108 = .ok (.aload_n 0, 1) := by decide +kernel
theorem kd_M_init_109 : decode kc_M_init 109 = .ok (.bipush 6, 2) := by decide +kernel
theorem kd_M_init_111 : decode kc_M_init 111 = .ok (.newarray .int, 2) := by decide +kernel
theorem kd_M_init_113 : decode kc_M_init 113 = .ok (.putfield 50, 3) := by decide +kernel
theorem kd_M_init_116 : decode kc_M_init 116 = .ok (.aload_n 0, 1) := by decide +kernel
theorem kd_M_init_117 : decode kc_M_init 117 = .ok (.bipush 56, 2) := by decide +kernel
theorem kd_M_init_119 : decode kc_M_init 119 = .ok (.newarray .int, 2) := by decide +kernel
theorem kd_M_init_121 : decode kc_M_init 121 = .ok (.putfield 53, 3) := by decide +kernel
theorem kd_M_init_124 : decode kc_M_init 124 = .ok (.aload_n 0, 1) := by decide +kernel
theorem kd_M_init_125 : decode kc_M_init 125 = .ok (.bipush 7, 2) := by decide +kernel
theorem kd_M_init_127 : decode kc_M_init 127 = .ok (.newarray .int, 2) := by decide +kernel
theorem kd_M_init_129 : decode kc_M_init 129 = .ok (.putfield 56, 3) := by decide +kernel
theorem kd_M_init_132 : decode kc_M_init 132 = .ok (.aload_n 0, 1) := by decide +kernel
theorem kd_M_init_133 : decode kc_M_init 133 = .ok (.bipush 48, 2) := by decide +kernel
theorem kd_M_init_135 : decode kc_M_init 135 = .ok (.newarray .int, 2) := by decide +kernel
theorem kd_M_init_137 : decode kc_M_init 137 = .ok (.putfield 59, 3) := by decide +kernel
theorem kd_M_init_140 : decode kc_M_init 140 = .ok (.iconst 0, 1) := by decide +kernel
theorem kd_M_init_141 : decode kc_M_init 141 = .ok (.istore_n 1, 1) := by decide +kernel
theorem kd_M_init_142 : decode kc_M_init 142 = .ok (.iload_n 1, 1) := by decide +kernel
theorem kd_M_init_143 : decode kc_M_init 143 = .ok (.bipush 48, 2) := by decide +kernel
theorem kd_M_init_145 : decode kc_M_init 145 = .ok (.if_icmp .ge 16, 3) := by decide +kernel
theorem kd_M_init_148 : decode kc_M_init 148 = .ok (.aload_n 0, 1) := by decide +kernel
theorem kd_M_init_149 : decode kc_M_init 149 = .ok (.getfield 31, 3) := by decide +kernel
theorem kd_M_init_152 : decode kc_M_init 152 = .ok (.iload_n 1, 1) := by decide +kernel
theorem kd_M_init_153 : decode kc_M_init 153 = .ok (.iconst (-1), 1) := by decide +kernel
theorem kd_M_init_154 : decode kc_M_init 154 = .ok (.iastore, 1) := by decide +kernel
theorem kd_M_init_155 : decode kc_M_init 155 = .ok (.iinc 1 1, 3) := by decide +kernel
theorem kd_M_init_158 : decode kc_M_init 158 = .ok (.goto (-16), 3) := by decide +kernel
theorem kd_M_init_161 : decode kc_M_init 161 = .ok (.return_, 1) := by decide +kernel
theorem kd_M_thrown_0 : decode kc_M_thrown 0 = .ok (.aload_n 0, 1) := by decide +kernel
theorem kd_M_thrown_1 : decode kc_M_thrown 1 = .ok (.getfield 62, 3) := by decide +kernel
theorem kd_M_thrown_4 : decode kc_M_thrown 4 = .ok (.ireturn, 1) := by decide +kernel
theorem kd_M_lot_0 : decode kc_M_lot 0 = .ok (.aload_n 0, 1) := by decide +kernel
theorem kd_M_lot_1 : decode kc_M_lot 1 = .ok (.iload_n 1, 1) := by decide +kernel
theorem kd_M_lot_2 : decode kc_M_lot 2 = .ok (.iconst 0, 1) := by decide +kernel
theorem kd_M_lot_3 : decode kc_M_lot 3 = .ok (.bipush 99, 2) := by decide +kernel
theorem kd_M_lot_5 : decode kc_M_lot 5 = .ok (.invokestatic 69, 3) := by decide +kernel
theorem kd_M_lot_8 : decode kc_M_lot 8 = .ok (.ifCond .eq 35, 3) := by decide +kernel
theorem kd_M_lot_11 : decode kc_M_lot 11 = .ok (.iload_n 2, 1) := by decide +kernel
theorem kd_M_lot_12 : decode kc_M_lot 12 = .ok (.iconst 0, 1) := by decide +kernel
theorem kd_M_lot_13 : decode kc_M_lot 13 = .ok (.iconst 5, 1) := by decide +kernel
theorem kd_M_lot_14 : decode kc_M_lot 14 = .ok (.invokestatic 69, 3) := by decide +kernel
theorem kd_M_lot_17 : decode kc_M_lot 17 = .ok (.ifCond .eq 26, 3) := by decide +kernel
theorem kd_M_lot_20 : decode kc_M_lot 20 = .ok (.iload_n 3, 1) := by decide +kernel
theorem kd_M_lot_21 : decode kc_M_lot 21 = .ok (.iconst 0, 1) := by decide +kernel
theorem kd_M_lot_22 : decode kc_M_lot 22 = .ok (.sipush 500, 3) := by decide +kernel
theorem kd_M_lot_25 : decode kc_M_lot 25 = .ok (.invokestatic 69, 3) := by decide +kernel
theorem kd_M_lot_28 : decode kc_M_lot 28 = .ok (.ifCond .eq 15, 3) := by decide +kernel
theorem kd_M_lot_31 : decode kc_M_lot 31 = .ok (.iload 4, 2) := by decide +kernel
theorem kd_M_lot_33 : decode kc_M_lot 33 = .ok (.iconst 0, 1) := by decide +kernel
theorem kd_M_lot_34 : decode kc_M_lot 34 = .ok (.sipush 9999, 3) := by decide +kernel
theorem kd_M_lot_37 : decode kc_M_lot 37 = .ok (.invokestatic 69, 3) := by decide +kernel
theorem kd_M_lot_40 : decode kc_M_lot 40 = .ok (.ifCond .ne 7, 3) := by decide +kernel
theorem kd_M_lot_43 : decode kc_M_lot 43 = .ok (.iconst 1, 1) := by decide +kernel
theorem kd_M_lot_44 : decode kc_M_lot 44 = .ok (.goto 17, 3) := by decide +kernel
theorem kd_M_lot_47 : decode kc_M_lot 47 = .ok (.aload_n 0, 1) := by decide +kernel
theorem kd_M_lot_48 : decode kc_M_lot 48 = .ok (.getfield 66, 3) := by decide +kernel
theorem kd_M_lot_51 : decode kc_M_lot 51 = .ok (.bipush 8, 2) := by decide +kernel
theorem kd_M_lot_53 : decode kc_M_lot 53 = .ok (.if_icmp .ne 7, 3) := by decide +kernel
theorem kd_M_lot_56 : decode kc_M_lot 56 = .ok (.iconst 2, 1) := by decide +kernel
theorem kd_M_lot_57 : decode kc_M_lot 57 = .ok (.goto 4, 3) := by decide +kernel
theorem kd_M_lot_60 : decode kc_M_lot 60 = .ok (.iconst 0, 1) := by decide +kernel
theorem kd_M_lot_61 : decode kc_M_lot 61 = .ok (.putfield 62, 3) := by decide +kernel
theorem kd_M_lot_64 : decode kc_M_lot 64 = .ok (.aload_n 0, 1) := by decide +kernel
theorem kd_M_lot_65 : decode kc_M_lot 65 = .ok (.getfield 62, 3) := by decide +kernel
theorem kd_M_lot_68 : decode kc_M_lot 68 = .ok (.ifCond .le 5, 3) := by decide +kernel
theorem kd_M_lot_71 : decode kc_M_lot 71 = .ok (.iconst 0, 1) := by decide +kernel
theorem kd_M_lot_72 : decode kc_M_lot 72 = .ok (.ireturn, 1) := by decide +kernel
theorem kd_M_lot_73 : decode kc_M_lot 73 = .ok (.aload_n 0, 1) := by decide +kernel
theorem kd_M_lot_74 : decode kc_M_lot 74 = .ok (.getfield 7, 3) := by decide +kernel
theorem kd_M_lot_77 : decode kc_M_lot 77 = .ok (.aload_n 0, 1) := by decide +kernel
theorem kd_M_lot_78 : decode kc_M_lot 78 = .ok (.getfield 66, 3) := by decide +kernel
theorem kd_M_lot_81 : decode kc_M_lot 81 = .ok (.iload_n 1, 1) := by decide +kernel
theorem kd_M_lot_82 : decode kc_M_lot 82 = .ok (.iastore, 1) := by decide +kernel
theorem kd_M_lot_83 : decode kc_M_lot 83 = .ok (.aload_n 0, 1) := by decide +kernel
theorem kd_M_lot_84 : decode kc_M_lot 84 = .ok (.getfield 13, 3) := by decide +kernel
theorem kd_M_lot_87 : decode kc_M_lot 87 = .ok (.aload_n 0, 1) := by decide +kernel
theorem kd_M_lot_88 : decode kc_M_lot 88 = .ok (.getfield 66, 3) := by decide +kernel
theorem kd_M_lot_91 : decode kc_M_lot 91 = .ok (.iload_n 2, 1) := by decide +kernel
theorem kd_M_lot_92 : decode kc_M_lot 92 = .ok (.iastore, 1) := by decide +kernel
theorem kd_M_lot_93 : decode kc_M_lot 93 = .ok (.aload_n 0, 1) := by decide +kernel
theorem kd_M_lot_94 : decode kc_M_lot 94 = .ok (.getfield 16, 3) := by decide +kernel
theorem kd_M_lot_97 : decode kc_M_lot 97 = .ok (.aload_n 0, 1) := by decide +kernel
theorem kd_M_lot_98 : decode kc_M_lot 98 = .ok (.getfield 66, 3) := by decide +kernel
theorem kd_M_lot_101 : decode kc_M_lot 101 = .ok (.iload_n 3, 1) := by decide +kernel
theorem kd_M_lot_102 : decode kc_M_lot 102 = .ok (.iastore, 1) := by decide +kernel
theorem kd_M_lot_103 : decode kc_M_lot 103 = .ok (.aload_n 0, 1) := by decide +kernel
theorem kd_M_lot_104 : decode kc_M_lot 104 = .ok (.getfield 19, 3) := by decide +kernel
theorem kd_M_lot_107 : decode kc_M_lot 107 = .ok (.aload_n 0, 1) := by decide +kernel
theorem kd_M_lot_108 : decode kc_M_lot 108 = .ok (.getfield 66, 3) := by decide +kernel
theorem kd_M_lot_111 : decode kc_M_lot 111 = .ok (.iload 4, 2) := by decide +kernel
theorem kd_M_lot_113 : decode kc_M_lot 113 = .ok (.iastore, 1) := by decide +kernel
theorem kd_M_lot_114 : decode kc_M_lot 114 = .ok (.aload_n 0, 1) := by decide +kernel
theorem kd_M_lot_115 : decode kc_M_lot 115 = .ok (.dup, 1) := by decide +kernel
theorem kd_M_lot_116 : decode kc_M_lot 116 = .ok (.getfield 66, 3) := by decide +kernel
theorem kd_M_lot_119 : decode kc_M_lot 119 = .ok (.iconst 1, 1) := by decide +kernel
theorem kd_M_lot_120 : decode kc_M_lot 120 = .ok (.iadd, 1) := by decide +kernel
theorem kd_M_lot_121 : decode kc_M_lot 121 = .ok (.putfield 66, 3) := by decide +kernel
theorem kd_M_lot_124 : decode kc_M_lot 124 = .ok (.aload_n 0, 1) := by decide +kernel
theorem kd_M_lot_125 : decode kc_M_lot 125 = .ok (.getfield 66, 3) := by decide +kernel
theorem kd_M_lot_128 : decode kc_M_lot 128 = .ok (.iconst 1, 1) := by decide +kernel
theorem kd_M_lot_129 : decode kc_M_lot 129 = .ok (.isub, 1) := by decide +kernel
theorem kd_M_lot_130 : decode kc_M_lot 130 = .ok (.ireturn, 1) := by decide +kernel
theorem kd_M_in_0 : decode kc_M_in 0 = .ok (.iload_n 0, 1) := by decide +kernel
theorem kd_M_in_1 : decode kc_M_in 1 = .ok (.iload_n 1, 1) := by decide +kernel
theorem kd_M_in_2 : decode kc_M_in 2 = .ok (.if_icmp .lt 12, 3) := by decide +kernel
theorem kd_M_in_5 : decode kc_M_in 5 = .ok (.iload_n 0, 1) := by decide +kernel
theorem kd_M_in_6 : decode kc_M_in 6 = .ok (.iload_n 2, 1) := by decide +kernel
theorem kd_M_in_7 : decode kc_M_in 7 = .ok (.if_icmp .gt 7, 3) := by decide +kernel
theorem kd_M_in_10 : decode kc_M_in 10 = .ok (.iconst 1, 1) := by decide +kernel
theorem kd_M_in_11 : decode kc_M_in 11 = .ok (.goto 4, 3) := by decide +kernel
theorem kd_M_in_14 : decode kc_M_in 14 = .ok (.iconst 0, 1) := by decide +kernel
theorem kd_M_in_15 : decode kc_M_in 15 = .ok (.ireturn, 1) := by decide +kernel
theorem kd_M_line_0 : decode kc_M_line 0 = .ok (.aload_n 0, 1) := by decide +kernel
theorem kd_M_line_1 : decode kc_M_line 1 = .ok (.iload_n 1, 1) := by decide +kernel
theorem kd_M_line_2 : decode kc_M_line 2 = .ok (.iconst 0, 1) := by decide +kernel
theorem kd_M_line_3 : decode kc_M_line 3 = .ok (.iconst 5, 1) := by decide +kernel
theorem kd_M_line_4 : decode kc_M_line 4 = .ok (.invokestatic 69, 3) := by decide +kernel
theorem kd_M_line_7 : decode kc_M_line 7 = .ok (.ifCond .eq 14, 3) := by decide +kernel
theorem kd_M_line_10 : decode kc_M_line 10 = .ok (.iload_n 2, 1) := by decide +kernel
theorem kd_M_line_11 : decode kc_M_line 11 = .ok (.iconst 1, 1) := by decide +kernel
theorem kd_M_line_12 : decode kc_M_line 12 = .ok (.sipush 200, 3) := by decide +kernel
theorem kd_M_line_15 : decode kc_M_line 15 = .ok (.invokestatic 69, 3) := by decide +kernel
theorem kd_M_line_18 : decode kc_M_line 18 = .ok (.ifCond .ne 7, 3) := by decide +kernel
theorem kd_M_line_21 : decode kc_M_line 21 = .ok (.iconst 1, 1) := by decide +kernel
theorem kd_M_line_22 : decode kc_M_line 22 = .ok (.goto 17, 3) := by decide +kernel
theorem kd_M_line_25 : decode kc_M_line 25 = .ok (.aload_n 0, 1) := by decide +kernel
theorem kd_M_line_26 : decode kc_M_line 26 = .ok (.getfield 73, 3) := by decide +kernel
theorem kd_M_line_29 : decode kc_M_line 29 = .ok (.bipush 6, 2) := by decide +kernel
theorem kd_M_line_31 : decode kc_M_line 31 = .ok (.if_icmp .ne 7, 3) := by decide +kernel
theorem kd_M_line_34 : decode kc_M_line 34 = .ok (.iconst 2, 1) := by decide +kernel
theorem kd_M_line_35 : decode kc_M_line 35 = .ok (.goto 4, 3) := by decide +kernel
theorem kd_M_line_38 : decode kc_M_line 38 = .ok (.iconst 0, 1) := by decide +kernel
theorem kd_M_line_39 : decode kc_M_line 39 = .ok (.putfield 62, 3) := by decide +kernel
theorem kd_M_line_42 : decode kc_M_line 42 = .ok (.aload_n 0, 1) := by decide +kernel
theorem kd_M_line_43 : decode kc_M_line 43 = .ok (.getfield 62, 3) := by decide +kernel
theorem kd_M_line_46 : decode kc_M_line 46 = .ok (.ifCond .le 5, 3) := by decide +kernel
theorem kd_M_line_49 : decode kc_M_line 49 = .ok (.iconst 0, 1) := by decide +kernel
theorem kd_M_line_50 : decode kc_M_line 50 = .ok (.ireturn, 1) := by decide +kernel
theorem kd_M_line_51 : decode kc_M_line 51 = .ok (.aload_n 0, 1) := by decide +kernel
theorem kd_M_line_52 : decode kc_M_line 52 = .ok (.getfield 22, 3) := by decide +kernel
theorem kd_M_line_55 : decode kc_M_line 55 = .ok (.aload_n 0, 1) := by decide +kernel
theorem kd_M_line_56 : decode kc_M_line 56 = .ok (.getfield 73, 3) := by decide +kernel
theorem kd_M_line_59 : decode kc_M_line 59 = .ok (.iload_n 1, 1) := by decide +kernel
theorem kd_M_line_60 : decode kc_M_line 60 = .ok (.iastore, 1) := by decide +kernel
theorem kd_M_line_61 : decode kc_M_line 61 = .ok (.aload_n 0, 1) := by decide +kernel
theorem kd_M_line_62 : decode kc_M_line 62 = .ok (.getfield 25, 3) := by decide +kernel
theorem kd_M_line_65 : decode kc_M_line 65 = .ok (.aload_n 0, 1) := by decide +kernel
theorem kd_M_line_66 : decode kc_M_line 66 = .ok (.getfield 73, 3) := by decide +kernel
theorem kd_M_line_69 : decode kc_M_line 69 = .ok (.iload_n 2, 1) := by decide +kernel
theorem kd_M_line_70 : decode kc_M_line 70 = .ok (.iastore, 1) := by decide +kernel
theorem kd_M_line_71 : decode kc_M_line 71 = .ok (.aload_n 0, 1) := by decide +kernel
theorem kd_M_line_72 : decode kc_M_line 72 = .ok (.getfield 28, 3) := by decide +kernel
theorem kd_M_line_75 : decode kc_M_line 75 = .ok (.iconst 4, 1) := by decide +kernel
theorem kd_M_line_76 : decode kc_M_line 76 = .ok (.aload_n 0, 1) := by decide +kernel
theorem kd_M_line_77 : decode kc_M_line 77 = .ok (.getfield 73, 3) := by decide +kernel
theorem kd_M_line_80 : decode kc_M_line 80 = .ok (.imul, 1) := by decide +kernel
theorem kd_M_line_81 : decode kc_M_line 81 = .ok (.iconst 1, 1) := by decide +kernel
theorem kd_M_line_82 : decode kc_M_line 82 = .ok (.iadd, 1) := by decide +kernel
theorem kd_M_line_83 : decode kc_M_line 83 = .ok (.iconst 1, 1) := by decide +kernel
theorem kd_M_line_84 : decode kc_M_line 84 = .ok (.iastore, 1) := by decide +kernel
theorem kd_M_line_85 : decode kc_M_line 85 = .ok (.aload_n 0, 1) := by decide +kernel
theorem kd_M_line_86 : decode kc_M_line 86 = .ok (.getfield 28, 3) := by decide +kernel
theorem kd_M_line_89 : decode kc_M_line 89 = .ok (.iconst 4, 1) := by decide +kernel
theorem kd_M_line_90 : decode kc_M_line 90 = .ok (.aload_n 0, 1) := by decide +kernel
theorem kd_M_line_91 : decode kc_M_line 91 = .ok (.getfield 73, 3) := by decide +kernel
theorem kd_M_line_94 : decode kc_M_line 94 = .ok (.imul, 1) := by decide +kernel
theorem kd_M_line_95 : decode kc_M_line 95 = .ok (.iconst 2, 1) := by decide +kernel
theorem kd_M_line_96 : decode kc_M_line 96 = .ok (.iadd, 1) := by decide +kernel
theorem kd_M_line_97 : decode kc_M_line 97 = .ok (.bipush 8, 2) := by decide +kernel
theorem kd_M_line_99 : decode kc_M_line 99 = .ok (.iastore, 1) := by decide +kernel
theorem kd_M_line_100 : decode kc_M_line 100 = .ok (.aload_n 0, 1) := by decide +kernel
theorem kd_M_line_101 : decode kc_M_line 101 = .ok (.dup, 1) := by decide +kernel
theorem kd_M_line_102 : decode kc_M_line 102 = .ok (.getfield 73, 3) := by decide +kernel
theorem kd_M_line_105 : decode kc_M_line 105 = .ok (.iconst 1, 1) := by decide +kernel
theorem kd_M_line_106 : decode kc_M_line 106 = .ok (.iadd, 1) := by decide +kernel
theorem kd_M_line_107 : decode kc_M_line 107 = .ok (.putfield 73, 3) := by decide +kernel
theorem kd_M_line_110 : decode kc_M_line 110 = .ok (.aload_n 0, 1) := by decide +kernel
theorem kd_M_line_111 : decode kc_M_line 111 = .ok (.getfield 73, 3) := by decide +kernel
theorem kd_M_line_114 : decode kc_M_line 114 = .ok (.iconst 1, 1) := by decide +kernel
theorem kd_M_line_115 : decode kc_M_line 115 = .ok (.isub, 1) := by decide +kernel
theorem kd_M_line_116 : decode kc_M_line 116 = .ok (.ireturn, 1) := by decide +kernel
theorem kd_M_rule_0 : decode kc_M_rule 0 = .ok (.aload_n 0, 1) := by decide +kernel
theorem kd_M_rule_1 : decode kc_M_rule 1 = .ok (.aload_n 0, 1) := by decide +kernel
theorem kd_M_rule_2 : decode kc_M_rule 2 = .ok (.iload_n 1, 1) := by decide +kernel
theorem kd_M_rule_3 : decode kc_M_rule 3 = .ok (.invokevirtual 76, 3) := by decide +kernel
theorem kd_M_rule_6 : decode kc_M_rule 6 = .ok (.ifCond .ne 7, 3) := by decide +kernel
theorem kd_M_rule_9 : decode kc_M_rule 9 = .ok (.iconst 1, 1) := by decide +kernel
theorem kd_M_rule_10 : decode kc_M_rule 10 = .ok (.goto 16, 3) := by decide +kernel
theorem kd_M_rule_13 : decode kc_M_rule 13 = .ok (.iload_n 2, 1) := by decide +kernel
theorem kd_M_rule_14 : decode kc_M_rule 14 = .ok (.iload_n 3, 1) := by decide +kernel
theorem kd_M_rule_15 : decode kc_M_rule 15 = .ok (.invokestatic 80, 3) := by decide +kernel
theorem kd_M_rule_18 : decode kc_M_rule 18 = .ok (.ifCond .ne 7, 3) := by decide +kernel
theorem kd_M_rule_21 : decode kc_M_rule 21 = .ok (.iconst 2, 1) := by decide +kernel
theorem kd_M_rule_22 : decode kc_M_rule 22 = .ok (.goto 4, 3) := by decide +kernel
theorem kd_M_rule_25 : decode kc_M_rule 25 = .ok (.iconst 0, 1) := by decide +kernel
theorem kd_M_rule_26 : decode kc_M_rule 26 = .ok (.putfield 62, 3) := by decide +kernel
theorem kd_M_rule_29 : decode kc_M_rule 29 = .ok (.aload_n 0, 1) := by decide +kernel
theorem kd_M_rule_30 : decode kc_M_rule 30 = .ok (.getfield 62, 3) := by decide +kernel
theorem kd_M_rule_33 : decode kc_M_rule 33 = .ok (.ifCond .ne 14, 3) := by decide +kernel
theorem kd_M_rule_36 : decode kc_M_rule 36 = .ok (.aload_n 0, 1) := by decide +kernel
theorem kd_M_rule_37 : decode kc_M_rule 37 = .ok (.getfield 28, 3) := by decide +kernel
theorem kd_M_rule_40 : decode kc_M_rule 40 = .ok (.iconst 4, 1) := by decide +kernel
theorem kd_M_rule_41 : decode kc_M_rule 41 = .ok (.iload_n 1, 1) := by decide +kernel
theorem kd_M_rule_42 : decode kc_M_rule 42 = .ok (.imul, 1) := by decide +kernel
theorem kd_M_rule_43 : decode kc_M_rule 43 = .ok (.iload_n 2, 1) := by decide +kernel
theorem kd_M_rule_44 : decode kc_M_rule 44 = .ok (.iadd, 1) := by decide +kernel
theorem kd_M_rule_45 : decode kc_M_rule 45 = .ok (.iload_n 3, 1) := by decide +kernel
theorem kd_M_rule_46 : decode kc_M_rule 46 = .ok (.iastore, 1) := by decide +kernel
theorem kd_M_rule_47 : decode kc_M_rule 47 = .ok (.return_, 1) := by decide +kernel
theorem kd_M_isLine_0 : decode kc_M_isLine 0 = .ok (.iload_n 1, 1) := by decide +kernel
theorem kd_M_isLine_1 : decode kc_M_isLine 1 = .ok (.iconst 0, 1) := by decide +kernel
theorem kd_M_isLine_2 : decode kc_M_isLine 2 = .ok (.aload_n 0, 1) := by decide +kernel
theorem kd_M_isLine_3 : decode kc_M_isLine 3 = .ok (.getfield 73, 3) := by decide +kernel
theorem kd_M_isLine_6 : decode kc_M_isLine 6 = .ok (.iconst 1, 1) := by decide +kernel
theorem kd_M_isLine_7 : decode kc_M_isLine 7 = .ok (.isub, 1) := by decide +kernel
theorem kd_M_isLine_8 : decode kc_M_isLine 8 = .ok (.invokestatic 69, 3) := by decide +kernel
theorem kd_M_isLine_11 : decode kc_M_isLine 11 = .ok (.ireturn, 1) := by decide +kernel
theorem kd_M_isRule_0 : decode kc_M_isRule 0 = .ok (.iload_n 0, 1) := by decide +kernel
theorem kd_M_isRule_1 : decode kc_M_isRule 1 = .ok (.ifCond .ne 12, 3) := by decide +kernel
theorem kd_M_isRule_4 : decode kc_M_isRule 4 = .ok (.iload_n 1, 1) := by decide +kernel
theorem kd_M_isRule_5 : decode kc_M_isRule 5 = .ok (.iconst 0, 1) := by decide +kernel
theorem kd_M_isRule_6 : decode kc_M_isRule 6 = .ok (.sipush 9999, 3) := by decide +kernel
theorem kd_M_isRule_9 : decode kc_M_isRule 9 = .ok (.invokestatic 69, 3) := by decide +kernel
theorem kd_M_isRule_12 : decode kc_M_isRule 12 = .ok (.ireturn, 1) := by decide +kernel
theorem kd_M_isRule_13 : decode kc_M_isRule 13 = .ok (.iload_n 0, 1) := by decide +kernel
theorem kd_M_isRule_14 : decode kc_M_isRule 14 = .ok (.iconst 1, 1) := by decide +kernel
theorem kd_M_isRule_15 : decode kc_M_isRule 15 = .ok (.if_icmp .ne 11, 3) := by decide +kernel
theorem kd_M_isRule_18 : decode kc_M_isRule 18 = .ok (.iload_n 1, 1) := by decide +kernel
theorem kd_M_isRule_19 : decode kc_M_isRule 19 = .ok (.iconst 1, 1) := by decide +kernel
theorem kd_M_isRule_20 : decode kc_M_isRule 20 = .ok (.bipush 50, 2) := by decide +kernel
theorem kd_M_isRule_22 : decode kc_M_isRule 22 = .ok (.invokestatic 69, 3) := by decide +kernel
theorem kd_M_isRule_25 : decode kc_M_isRule 25 = .ok (.ireturn, 1) := by decide +kernel
theorem kd_M_isRule_26 : decode kc_M_isRule 26 = .ok (.iload_n 0, 1) := by decide +kernel
theorem kd_M_isRule_27 : decode kc_M_isRule 27 = .ok (.iconst 2, 1) := by decide +kernel
theorem kd_M_isRule_28 : decode kc_M_isRule 28 = .ok (.if_icmp .ne 13, 3) := by decide +kernel
theorem kd_M_isRule_31 : decode kc_M_isRule 31 = .ok (.iload_n 1, 1) := by decide +kernel
theorem kd_M_isRule_32 : decode kc_M_isRule 32 = .ok (.iconst 1, 1) := by decide +kernel
theorem kd_M_isRule_33 : decode kc_M_isRule 33 = .ok (.bipush 8, 2) := by decide +kernel
theorem kd_M_isRule_35 : decode kc_M_isRule 35 = .ok (.invokestatic 69, 3) := by decide +kernel
theorem kd_M_isRule_38 : decode kc_M_isRule 38 = .ok (.goto 22, 3) := by decide +kernel
theorem kd_M_isRule_41 : decode kc_M_isRule 41 = .ok (.iload_n 0, 1) := by decide +kernel
theorem kd_M_isRule_42 : decode kc_M_isRule 42 = .ok (.iconst 3, 1) := by decide +kernel
theorem kd_M_isRule_43 : decode kc_M_isRule 43 = .ok (.if_icmp .ne 16, 3) := by decide +kernel
theorem kd_M_isRule_46 : decode kc_M_isRule 46 = .ok (.iload_n 1, 1) := by decide +kernel
theorem kd_M_isRule_47 : decode kc_M_isRule 47 = .ok (.iconst 0, 1) := by decide +kernel
theorem kd_M_isRule_48 : decode kc_M_isRule 48 = .ok (.iconst 1, 1) := by decide +kernel
theorem kd_M_isRule_49 : decode kc_M_isRule 49 = .ok (.invokestatic 69, 3) := by decide +kernel
theorem kd_M_isRule_52 : decode kc_M_isRule 52 = .ok (.ifCond .eq 7, 3) := by decide +kernel
theorem kd_M_isRule_55 : decode kc_M_isRule 55 = .ok (.iconst 1, 1) := by decide +kernel
theorem kd_M_isRule_56 : decode kc_M_isRule 56 = .ok (.goto 4, 3) := by decide +kernel
theorem kd_M_isRule_59 : decode kc_M_isRule 59 = .ok (.iconst 0, 1) := by decide +kernel
theorem kd_M_isRule_60 : decode kc_M_isRule 60 = .ok (.ireturn, 1) := by decide +kernel
theorem kd_M_cost_0 : decode kc_M_cost 0 = .ok (.aload_n 0, 1) := by decide +kernel
theorem kd_M_cost_1 : decode kc_M_cost 1 = .ok (.aload_n 0, 1) := by decide +kernel
theorem kd_M_cost_2 : decode kc_M_cost 2 = .ok (.iload_n 1, 1) := by decide +kernel
theorem kd_M_cost_3 : decode kc_M_cost 3 = .ok (.invokevirtual 84, 3) := by decide +kernel
theorem kd_M_cost_6 : decode kc_M_cost 6 = .ok (.ifCond .eq 11, 3) := by decide +kernel
theorem kd_M_cost_9 : decode kc_M_cost 9 = .ok (.aload_n 0, 1) := by decide +kernel
theorem kd_M_cost_10 : decode kc_M_cost 10 = .ok (.iload_n 2, 1) := by decide +kernel
theorem kd_M_cost_11 : decode kc_M_cost 11 = .ok (.invokevirtual 76, 3) := by decide +kernel
theorem kd_M_cost_14 : decode kc_M_cost 14 = .ok (.ifCond .ne 7, 3) := by decide +kernel
theorem kd_M_cost_17 : decode kc_M_cost 17 = .ok (.iconst 1, 1) := by decide +kernel
theorem kd_M_cost_18 : decode kc_M_cost 18 = .ok (.goto 19, 3) := by decide +kernel
theorem kd_M_cost_21 : decode kc_M_cost 21 = .ok (.iload_n 3, 1) := by decide +kernel
theorem kd_M_cost_22 : decode kc_M_cost 22 = .ok (.iconst (-1), 1) := by decide +kernel
theorem kd_M_cost_23 : decode kc_M_cost 23 = .ok (.sipush 1000, 3) := by decide +kernel
theorem kd_M_cost_26 : decode kc_M_cost 26 = .ok (.invokestatic 69, 3) := by decide +kernel
theorem kd_M_cost_29 : decode kc_M_cost 29 = .ok (.ifCond .ne 7, 3) := by decide +kernel
theorem kd_M_cost_32 : decode kc_M_cost 32 = .ok (.iconst 2, 1) := by decide +kernel
theorem kd_M_cost_33 : decode kc_M_cost 33 = .ok (.goto 4, 3) := by decide +kernel
theorem kd_M_cost_36 : decode kc_M_cost 36 = .ok (.iconst 0, 1) := by decide +kernel
theorem kd_M_cost_37 : decode kc_M_cost 37 = .ok (.putfield 62, 3) := by decide +kernel
theorem kd_M_cost_40 : decode kc_M_cost 40 = .ok (.aload_n 0, 1) := by decide +kernel
theorem kd_M_cost_41 : decode kc_M_cost 41 = .ok (.getfield 62, 3) := by decide +kernel
theorem kd_M_cost_44 : decode kc_M_cost 44 = .ok (.ifCond .ne 15, 3) := by decide +kernel
theorem kd_M_cost_47 : decode kc_M_cost 47 = .ok (.aload_n 0, 1) := by decide +kernel
theorem kd_M_cost_48 : decode kc_M_cost 48 = .ok (.getfield 31, 3) := by decide +kernel
theorem kd_M_cost_51 : decode kc_M_cost 51 = .ok (.bipush 8, 2) := by decide +kernel
theorem kd_M_cost_53 : decode kc_M_cost 53 = .ok (.iload_n 2, 1) := by decide +kernel
theorem kd_M_cost_54 : decode kc_M_cost 54 = .ok (.imul, 1) := by decide +kernel
theorem kd_M_cost_55 : decode kc_M_cost 55 = .ok (.iload_n 1, 1) := by decide +kernel
theorem kd_M_cost_56 : decode kc_M_cost 56 = .ok (.iadd, 1) := by decide +kernel
theorem kd_M_cost_57 : decode kc_M_cost 57 = .ok (.iload_n 3, 1) := by decide +kernel
theorem kd_M_cost_58 : decode kc_M_cost 58 = .ok (.iastore, 1) := by decide +kernel
theorem kd_M_cost_59 : decode kc_M_cost 59 = .ok (.return_, 1) := by decide +kernel
theorem kd_M_isLot_0 : decode kc_M_isLot 0 = .ok (.iload_n 1, 1) := by decide +kernel
theorem kd_M_isLot_1 : decode kc_M_isLot 1 = .ok (.iconst 0, 1) := by decide +kernel
theorem kd_M_isLot_2 : decode kc_M_isLot 2 = .ok (.aload_n 0, 1) := by decide +kernel
theorem kd_M_isLot_3 : decode kc_M_isLot 3 = .ok (.getfield 66, 3) := by decide +kernel
theorem kd_M_isLot_6 : decode kc_M_isLot 6 = .ok (.iconst 1, 1) := by decide +kernel
theorem kd_M_isLot_7 : decode kc_M_isLot 7 = .ok (.isub, 1) := by decide +kernel
theorem kd_M_isLot_8 : decode kc_M_isLot 8 = .ok (.invokestatic 69, 3) := by decide +kernel
theorem kd_M_isLot_11 : decode kc_M_isLot 11 = .ok (.ireturn, 1) := by decide +kernel
theorem kd_M_may_0 : decode kc_M_may 0 = .ok (.aload_n 0, 1) := by decide +kernel
theorem kd_M_may_1 : decode kc_M_may 1 = .ok (.aload_n 0, 1) := by decide +kernel
theorem kd_M_may_2 : decode kc_M_may 2 = .ok (.iload_n 1, 1) := by decide +kernel
theorem kd_M_may_3 : decode kc_M_may 3 = .ok (.invokevirtual 84, 3) := by decide +kernel
theorem kd_M_may_6 : decode kc_M_may 6 = .ok (.ifCond .eq 11, 3) := by decide +kernel
theorem kd_M_may_9 : decode kc_M_may 9 = .ok (.aload_n 0, 1) := by decide +kernel
theorem kd_M_may_10 : decode kc_M_may 10 = .ok (.iload_n 2, 1) := by decide +kernel
theorem kd_M_may_11 : decode kc_M_may 11 = .ok (.invokevirtual 76, 3) := by decide +kernel
theorem kd_M_may_14 : decode kc_M_may 14 = .ok (.ifCond .ne 7, 3) := by decide +kernel
theorem kd_M_may_17 : decode kc_M_may 17 = .ok (.iconst 1, 1) := by decide +kernel
theorem kd_M_may_18 : decode kc_M_may 18 = .ok (.goto 4, 3) := by decide +kernel
theorem kd_M_may_21 : decode kc_M_may 21 = .ok (.iconst 0, 1) := by decide +kernel
theorem kd_M_may_22 : decode kc_M_may 22 = .ok (.putfield 62, 3) := by decide +kernel
theorem kd_M_may_25 : decode kc_M_may 25 = .ok (.aload_n 0, 1) := by decide +kernel
theorem kd_M_may_26 : decode kc_M_may 26 = .ok (.getfield 62, 3) := by decide +kernel
theorem kd_M_may_29 : decode kc_M_may 29 = .ok (.ifCond .le 5, 3) := by decide +kernel
theorem kd_M_may_32 : decode kc_M_may 32 = .ok (.iconst 0, 1) := by decide +kernel
theorem kd_M_may_33 : decode kc_M_may 33 = .ok (.ireturn, 1) := by decide +kernel
theorem kd_M_may_34 : decode kc_M_may 34 = .ok (.aload_n 0, 1) := by decide +kernel
theorem kd_M_may_35 : decode kc_M_may 35 = .ok (.getfield 34, 3) := by decide +kernel
theorem kd_M_may_38 : decode kc_M_may 38 = .ok (.bipush 8, 2) := by decide +kernel
theorem kd_M_may_40 : decode kc_M_may 40 = .ok (.iload_n 2, 1) := by decide +kernel
theorem kd_M_may_41 : decode kc_M_may 41 = .ok (.imul, 1) := by decide +kernel
theorem kd_M_may_42 : decode kc_M_may 42 = .ok (.iload_n 1, 1) := by decide +kernel
theorem kd_M_may_43 : decode kc_M_may 43 = .ok (.iadd, 1) := by decide +kernel
theorem kd_M_may_44 : decode kc_M_may 44 = .ok (.iload_n 3, 1) := by decide +kernel
theorem kd_M_may_45 : decode kc_M_may 45 = .ok (.ifCond .ne 7, 3) := by decide +kernel
theorem kd_M_may_48 : decode kc_M_may 48 = .ok (.iconst 1, 1) := by decide +kernel
theorem kd_M_may_49 : decode kc_M_may 49 = .ok (.goto 4, 3) := by decide +kernel
theorem kd_M_may_52 : decode kc_M_may 52 = .ok (.iconst 0, 1) := by decide +kernel
theorem kd_M_may_53 : decode kc_M_may 53 = .ok (.bastore, 1) := by decide +kernel
theorem kd_M_may_54 : decode kc_M_may 54 = .ok (.aload_n 0, 1) := by decide +kernel
theorem kd_M_may_55 : decode kc_M_may 55 = .ok (.iload_n 1, 1) := by decide +kernel
theorem kd_M_may_56 : decode kc_M_may 56 = .ok (.iload_n 2, 1) := by decide +kernel
theorem kd_M_may_57 : decode kc_M_may 57 = .ok (.invokevirtual 90, 3) := by decide +kernel
theorem kd_M_may_60 : decode kc_M_may 60 = .ok (.ireturn, 1) := by decide +kernel
theorem kd_M_isAllowed_0 : decode kc_M_isAllowed 0 = .ok (.aload_n 0, 1) := by decide +kernel
theorem kd_M_isAllowed_1 : decode kc_M_isAllowed 1 = .ok (.iload_n 1, 1) := by decide +kernel
theorem kd_M_isAllowed_2 : decode kc_M_isAllowed 2 = .ok (.iload_n 2, 1) := by decide +kernel
theorem kd_M_isAllowed_3 : decode kc_M_isAllowed 3 = .ok (.iconst 3, 1) := by decide +kernel
theorem kd_M_isAllowed_4 : decode kc_M_isAllowed 4 = .ok (.invokevirtual 87, 3) := by decide +kernel
theorem kd_M_isAllowed_7 : decode kc_M_isAllowed 7 = .ok (.ireturn, 1) := by decide +kernel
theorem kd_M_passes_0 : decode kc_M_passes 0 = .ok (.iload_n 3, 1) := by decide +kernel
theorem kd_M_passes_1 : decode kc_M_passes 1 = .ok (.ifCond .le 20, 3) := by decide +kernel
theorem kd_M_passes_4 : decode kc_M_passes 4 = .ok (.aload_n 0, 1) := by decide +kernel
theorem kd_M_passes_5 : decode kc_M_passes 5 = .ok (.getfield 13, 3) := by decide +kernel
theorem kd_M_passes_8 : decode kc_M_passes 8 = .ok (.iload_n 1, 1) := by decide +kernel
theorem kd_M_passes_9 : decode kc_M_passes 9 = .ok (.iaload, 1) := by decide +kernel
theorem kd_M_passes_10 : decode kc_M_passes 10 = .ok (.aload_n 0, 1) := by decide +kernel
theorem kd_M_passes_11 : decode kc_M_passes 11 = .ok (.getfield 22, 3) := by decide +kernel
theorem kd_M_passes_14 : decode kc_M_passes 14 = .ok (.iload_n 2, 1) := by decide +kernel
theorem kd_M_passes_15 : decode kc_M_passes 15 = .ok (.iaload, 1) := by decide +kernel
theorem kd_M_passes_16 : decode kc_M_passes 16 = .ok (.if_icmp .eq 5, 3) := by decide +kernel
theorem kd_M_passes_19 : decode kc_M_passes 19 = .ok (.iconst 0, 1) := by decide +kernel
theorem kd_M_passes_20 : decode kc_M_passes 20 = .ok (.ireturn, 1) := by decide +kernel
theorem kd_M_passes_21 : decode kc_M_passes 21 = .ok (.iload_n 3, 1) := by decide +kernel
theorem kd_M_passes_22 : decode kc_M_passes 22 = .ok (.iconst 1, 1) := by decide +kernel
theorem kd_M_passes_23 : decode kc_M_passes 23 = .ok (.if_icmp .le 22, 3) := by decide +kernel
theorem kd_M_passes_26 : decode kc_M_passes 26 = .ok (.aload_n 0, 1) := by decide +kernel
theorem kd_M_passes_27 : decode kc_M_passes 27 = .ok (.getfield 19, 3) := by decide +kernel
theorem kd_M_passes_30 : decode kc_M_passes 30 = .ok (.iload_n 1, 1) := by decide +kernel
theorem kd_M_passes_31 : decode kc_M_passes 31 = .ok (.iaload, 1) := by decide +kernel
theorem kd_M_passes_32 : decode kc_M_passes 32 = .ok (.aload_n 0, 1) := by decide +kernel
theorem kd_M_passes_33 : decode kc_M_passes 33 = .ok (.getfield 28, 3) := by decide +kernel
theorem kd_M_passes_36 : decode kc_M_passes 36 = .ok (.iconst 4, 1) := by decide +kernel
theorem kd_M_passes_37 : decode kc_M_passes 37 = .ok (.iload_n 2, 1) := by decide +kernel
theorem kd_M_passes_38 : decode kc_M_passes 38 = .ok (.imul, 1) := by decide +kernel
theorem kd_M_passes_39 : decode kc_M_passes 39 = .ok (.iaload, 1) := by decide +kernel
theorem kd_M_passes_40 : decode kc_M_passes 40 = .ok (.if_icmp .ge 5, 3) := by decide +kernel
theorem kd_M_passes_43 : decode kc_M_passes 43 = .ok (.iconst 0, 1) := by decide +kernel
theorem kd_M_passes_44 : decode kc_M_passes 44 = .ok (.ireturn, 1) := by decide +kernel
theorem kd_M_passes_45 : decode kc_M_passes 45 = .ok (.iload_n 3, 1) := by decide +kernel
theorem kd_M_passes_46 : decode kc_M_passes 46 = .ok (.iconst 3, 1) := by decide +kernel
theorem kd_M_passes_47 : decode kc_M_passes 47 = .ok (.if_icmp .lt 17, 3) := by decide +kernel
theorem kd_M_passes_50 : decode kc_M_passes 50 = .ok (.aload_n 0, 1) := by decide +kernel
theorem kd_M_passes_51 : decode kc_M_passes 51 = .ok (.getfield 34, 3) := by decide +kernel
theorem kd_M_passes_54 : decode kc_M_passes 54 = .ok (.bipush 8, 2) := by decide +kernel
theorem kd_M_passes_56 : decode kc_M_passes 56 = .ok (.iload_n 2, 1) := by decide +kernel
theorem kd_M_passes_57 : decode kc_M_passes 57 = .ok (.imul, 1) := by decide +kernel
theorem kd_M_passes_58 : decode kc_M_passes 58 = .ok (.iload_n 1, 1) := by decide +kernel
theorem kd_M_passes_59 : decode kc_M_passes 59 = .ok (.iadd, 1) := by decide +kernel
theorem kd_M_passes_60 : decode kc_M_passes 60 = .ok (.baload, 1) := by decide +kernel
theorem kd_M_passes_61 : decode kc_M_passes 61 = .ok (.ifCond .ne 7, 3) := by decide +kernel
theorem kd_M_passes_64 : decode kc_M_passes 64 = .ok (.iconst 1, 1) := by decide +kernel
theorem kd_M_passes_65 : decode kc_M_passes 65 = .ok (.goto 4, 3) := by decide +kernel
theorem kd_M_passes_68 : decode kc_M_passes 68 = .ok (.iconst 0, 1) := by decide +kernel
theorem kd_M_passes_69 : decode kc_M_passes 69 = .ok (.ireturn, 1) := by decide +kernel
theorem kd_M_solve_0 : decode kc_M_solve 0 = .ok (.aload_n 0, 1) := by decide +kernel
theorem kd_M_solve_1 : decode kc_M_solve 1 = .ok (.iload_n 1, 1) := by decide +kernel
theorem kd_M_solve_2 : decode kc_M_solve 2 = .ok (.iconst 0, 1) := by decide +kernel
theorem kd_M_solve_3 : decode kc_M_solve 3 = .ok (.ldc 120, 2) := by decide +kernel
theorem kd_M_solve_5 : decode kc_M_solve 5 = .ok (.invokestatic 69, 3) := by decide +kernel
theorem kd_M_solve_8 : decode kc_M_solve 8 = .ok (.ifCond .eq 7, 3) := by decide +kernel
theorem kd_M_solve_11 : decode kc_M_solve 11 = .ok (.iconst 0, 1) := by decide +kernel
theorem kd_M_solve_12 : decode kc_M_solve 12 = .ok (.goto 4, 3) := by decide +kernel
theorem kd_M_solve_15 : decode kc_M_solve 15 = .ok (.iconst 1, 1) := by decide +kernel
theorem kd_M_solve_16 : decode kc_M_solve 16 = .ok (.putfield 62, 3) := by decide +kernel
theorem kd_M_solve_19 : decode kc_M_solve 19 = .ok (.aload_n 0, 1) := by decide +kernel
theorem kd_M_solve_20 : decode kc_M_solve 20 = .ok (.getfield 62, 3) := by decide +kernel
theorem kd_M_solve_23 : decode kc_M_solve 23 = .ok (.ifCond .le 5, 3) := by decide +kernel
theorem kd_M_solve_26 : decode kc_M_solve 26 = .ok (.iconst 0, 1) := by decide +kernel
theorem kd_M_solve_27 : decode kc_M_solve 27 = .ok (.ireturn, 1) := by decide +kernel
theorem kd_M_solve_28 : decode kc_M_solve 28 = .ok (.aload_n 0, 1) := by decide +kernel
theorem kd_M_solve_29 : decode kc_M_solve 29 = .ok (.invokevirtual 121, 3) := by decide +kernel
theorem kd_M_solve_32 : decode kc_M_solve 32 = .ok (.aload_n 0, 1) := by decide +kernel
theorem kd_M_solve_33 : decode kc_M_solve 33 = .ok (.aload_n 0, 1) := by decide +kernel
theorem kd_M_solve_34 : decode kc_M_solve 34 = .ok (.invokevirtual 124, 3) := by decide +kernel
theorem kd_M_solve_37 : decode kc_M_solve 37 = .ok (.iload_n 1, 1) := by decide +kernel
theorem kd_M_solve_38 : decode kc_M_solve 38 = .ok (.i2l, 1) := by decide +kernel
theorem kd_M_solve_39 : decode kc_M_solve 39 = .ok (.lcmp, 1) := by decide +kernel
theorem kd_M_solve_40 : decode kc_M_solve 40 = .ok (.ifCond .gt 7, 3) := by decide +kernel
theorem kd_M_solve_43 : decode kc_M_solve 43 = .ok (.iconst 1, 1) := by decide +kernel
theorem kd_M_solve_44 : decode kc_M_solve 44 = .ok (.goto 4, 3) := by decide +kernel
theorem kd_M_solve_47 : decode kc_M_solve 47 = .ok (.iconst 0, 1) := by decide +kernel
theorem kd_M_solve_48 : decode kc_M_solve 48 = .ok (.putfield 128, 3) := by decide +kernel
theorem kd_M_solve_51 : decode kc_M_solve 51 = .ok (.aload_n 0, 1) := by decide +kernel
theorem kd_M_solve_52 : decode kc_M_solve 52 = .ok (.getfield 128, 3) := by decide +kernel
theorem kd_M_solve_55 : decode kc_M_solve 55 = .ok (.ifCond .eq 10, 3) := by decide +kernel
theorem kd_M_solve_58 : decode kc_M_solve 58 = .ok (.aload_n 0, 1) := by decide +kernel
theorem kd_M_solve_59 : decode kc_M_solve 59 = .ok (.invokevirtual 132, 3) := by decide +kernel
theorem kd_M_solve_62 : decode kc_M_solve 62 = .ok (.goto 7, 3) := by decide +kernel
theorem kd_M_solve_65 : decode kc_M_solve 65 = .ok (.aload_n 0, 1) := by decide +kernel
theorem kd_M_solve_66 : decode kc_M_solve 66 = .ok (.invokevirtual 135, 3) := by decide +kernel
theorem kd_M_solve_69 : decode kc_M_solve 69 = .ok (.iconst 0, 1) := by decide +kernel
theorem kd_M_solve_70 : decode kc_M_solve 70 = .ok (.istore_n 2, 1) := by decide +kernel
theorem kd_M_solve_71 : decode kc_M_solve 71 = .ok (.iload_n 2, 1) := by decide +kernel
theorem kd_M_solve_72 : decode kc_M_solve 72 = .ok (.aload_n 0, 1) := by decide +kernel
theorem kd_M_solve_73 : decode kc_M_solve 73 = .ok (.getfield 73, 3) := by decide +kernel
theorem kd_M_solve_76 : decode kc_M_solve 76 = .ok (.if_icmp .ge 21, 3) := by decide +kernel
theorem kd_M_solve_79 : decode kc_M_solve 79 = .ok (.aload_n 0, 1) := by decide +kernel
theorem kd_M_solve_80 : decode kc_M_solve 80 = .ok (.getfield 47, 3) := by decide +kernel
theorem kd_M_solve_83 : decode kc_M_solve 83 = .ok (.iload_n 2, 1) := by decide +kernel
theorem kd_M_solve_84 : decode kc_M_solve 84 = .ok (.aload_n 0, 1) := by decide +kernel
theorem kd_M_solve_85 : decode kc_M_solve 85 = .ok (.getfield 50, 3) := by decide +kernel
theorem kd_M_solve_88 : decode kc_M_solve 88 = .ok (.iload_n 2, 1) := by decide +kernel
theorem kd_M_solve_89 : decode kc_M_solve 89 = .ok (.iaload, 1) := by decide +kernel
theorem kd_M_solve_90 : decode kc_M_solve 90 = .ok (.iastore, 1) := by decide +kernel
theorem kd_M_solve_91 : decode kc_M_solve 91 = .ok (.iinc 2 1, 3) := by decide +kernel
theorem kd_M_solve_94 : decode kc_M_solve 94 = .ok (.goto (-23), 3) := by decide +kernel
theorem kd_M_solve_97 : decode kc_M_solve 97 = .ok (.aload_n 0, 1) := by decide +kernel
theorem kd_M_solve_98 : decode kc_M_solve 98 = .ok (.iconst 0, 1) := by decide +kernel
theorem kd_M_solve_99 : decode kc_M_solve 99 = .ok (.invokevirtual 111, 3) := by decide +kernel
theorem kd_M_solve_102 : decode kc_M_solve 102 = .ok (.iconst 0, 1) := by decide +kernel
theorem kd_M_solve_103 : decode kc_M_solve 103 = .ok (.istore_n 2, 1) := by decide +kernel
theorem kd_M_solve_104 : decode kc_M_solve 104 = .ok (.iload_n 2, 1) := by decide +kernel
theorem kd_M_solve_105 : decode kc_M_solve 105 = .ok (.aload_n 0, 1) := by decide +kernel
theorem kd_M_solve_106 : decode kc_M_solve 106 = .ok (.getfield 73, 3) := by decide +kernel
theorem kd_M_solve_109 : decode kc_M_solve 109 = .ok (.if_icmp .ge 47, 3) := by decide +kernel
theorem kd_M_solve_112 : decode kc_M_solve 112 = .ok (.iconst 0, 1) := by decide +kernel
theorem kd_M_solve_113 : decode kc_M_solve 113 = .ok (.istore_n 3, 1) := by decide +kernel
theorem kd_M_solve_114 : decode kc_M_solve 114 = .ok (.iload_n 3, 1) := by decide +kernel
theorem kd_M_solve_115 : decode kc_M_solve 115 = .ok (.aload_n 0, 1) := by decide +kernel
theorem kd_M_solve_116 : decode kc_M_solve 116 = .ok (.getfield 66, 3) := by decide +kernel
theorem kd_M_solve_119 : decode kc_M_solve 119 = .ok (.if_icmp .ge 31, 3) := by decide +kernel
theorem kd_M_solve_122 : decode kc_M_solve 122 = .ok (.aload_n 0, 1) := by decide +kernel
theorem kd_M_solve_123 : decode kc_M_solve 123 = .ok (.getfield 38, 3) := by decide +kernel
theorem kd_M_solve_126 : decode kc_M_solve 126 = .ok (.bipush 8, 2) := by decide +kernel
theorem kd_M_solve_128 : decode kc_M_solve 128 = .ok (.iload_n 2, 1) := by decide +kernel
theorem kd_M_solve_129 : decode kc_M_solve 129 = .ok (.imul, 1) := by decide +kernel
theorem kd_M_solve_130 : decode kc_M_solve 130 = .ok (.iload_n 3, 1) := by decide +kernel
theorem kd_M_solve_131 : decode kc_M_solve 131 = .ok (.iadd, 1) := by decide +kernel
theorem kd_M_solve_132 : decode kc_M_solve 132 = .ok (.aload_n 0, 1) := by decide +kernel
theorem kd_M_solve_133 : decode kc_M_solve 133 = .ok (.getfield 59, 3) := by decide +kernel
theorem kd_M_solve_136 : decode kc_M_solve 136 = .ok (.bipush 8, 2) := by decide +kernel
theorem kd_M_solve_138 : decode kc_M_solve 138 = .ok (.iload_n 2, 1) := by decide +kernel
theorem kd_M_solve_139 : decode kc_M_solve 139 = .ok (.imul, 1) := by decide +kernel
theorem kd_M_solve_140 : decode kc_M_solve 140 = .ok (.iload_n 3, 1) := by decide +kernel
theorem kd_M_solve_141 : decode kc_M_solve 141 = .ok (.iadd, 1) := by decide +kernel
theorem kd_M_solve_142 : decode kc_M_solve 142 = .ok (.iaload, 1) := by decide +kernel
theorem kd_M_solve_143 : decode kc_M_solve 143 = .ok (.iastore, 1) := by decide +kernel
theorem kd_M_solve_144 : decode kc_M_solve 144 = .ok (.iinc 3 1, 3) := by decide +kernel
theorem kd_M_solve_147 : decode kc_M_solve 147 = .ok (.goto (-33), 3) := by decide +kernel
theorem kd_M_solve_150 : decode kc_M_solve 150 = .ok (.iinc 2 1, 3) := by decide +kernel
theorem kd_M_solve_153 : decode kc_M_solve 153 = .ok (.goto (-49), 3) := by decide +kernel
theorem kd_M_solve_156 : decode kc_M_solve 156 = .ok (.aload_n 0, 1) := by decide +kernel
theorem kd_M_solve_157 : decode kc_M_solve 157 = .ok (.getfield 56, 3) := by decide +kernel
theorem kd_M_solve_160 : decode kc_M_solve 160 = .ok (.aload_n 0, 1) := by decide +kernel
theorem kd_M_solve_161 : decode kc_M_solve 161 = .ok (.getfield 73, 3) := by decide +kernel
theorem kd_M_solve_164 : decode kc_M_solve 164 = .ok (.iaload, 1) := by decide +kernel
theorem kd_M_solve_165 : decode kc_M_solve 165 = .ok (.ireturn, 1) := by decide +kernel
theorem kd_M_layOut_0 : decode kc_M_layOut 0 = .ok (.iconst 0, 1) := by decide +kernel
theorem kd_M_layOut_1 : decode kc_M_layOut 1 = .ok (.istore_n 1, 1) := by decide +kernel
theorem kd_M_layOut_2 : decode kc_M_layOut 2 = .ok (.iload_n 1, 1) := by decide +kernel
theorem kd_M_layOut_3 : decode kc_M_layOut 3 = .ok (.aload_n 0, 1) := by decide +kernel
theorem kd_M_layOut_4 : decode kc_M_layOut 4 = .ok (.getfield 73, 3) := by decide +kernel
theorem kd_M_layOut_7 : decode kc_M_layOut 7 = .ok (.if_icmp .ge 77, 3) := by decide +kernel
theorem kd_M_layOut_10 : decode kc_M_layOut 10 = .ok (.aload_n 0, 1) := by decide +kernel
theorem kd_M_layOut_11 : decode kc_M_layOut 11 = .ok (.getfield 44, 3) := by decide +kernel
theorem kd_M_layOut_14 : decode kc_M_layOut 14 = .ok (.iload_n 1, 1) := by decide +kernel
theorem kd_M_layOut_15 : decode kc_M_layOut 15 = .ok (.iconst 0, 1) := by decide +kernel
theorem kd_M_layOut_16 : decode kc_M_layOut 16 = .ok (.iastore, 1) := by decide +kernel
theorem kd_M_layOut_17 : decode kc_M_layOut 17 = .ok (.iconst 0, 1) := by decide +kernel
theorem kd_M_layOut_18 : decode kc_M_layOut 18 = .ok (.istore_n 2, 1) := by decide +kernel
theorem kd_M_layOut_19 : decode kc_M_layOut 19 = .ok (.iload_n 2, 1) := by decide +kernel
theorem kd_M_layOut_20 : decode kc_M_layOut 20 = .ok (.aload_n 0, 1) := by decide +kernel
theorem kd_M_layOut_21 : decode kc_M_layOut 21 = .ok (.getfield 66, 3) := by decide +kernel
theorem kd_M_layOut_24 : decode kc_M_layOut 24 = .ok (.if_icmp .ge 54, 3) := by decide +kernel
theorem kd_M_layOut_27 : decode kc_M_layOut 27 = .ok (.aload_n 0, 1) := by decide +kernel
theorem kd_M_layOut_28 : decode kc_M_layOut 28 = .ok (.iload_n 2, 1) := by decide +kernel
theorem kd_M_layOut_29 : decode kc_M_layOut 29 = .ok (.invokevirtual 96, 3) := by decide +kernel
theorem kd_M_layOut_32 : decode kc_M_layOut 32 = .ok (.istore_n 3, 1) := by decide +kernel
theorem kd_M_layOut_33 : decode kc_M_layOut 33 = .ok (.aload_n 0, 1) := by decide +kernel
theorem kd_M_layOut_34 : decode kc_M_layOut 34 = .ok (.iload_n 3, 1) := by decide +kernel
theorem kd_M_layOut_35 : decode kc_M_layOut 35 = .ok (.iload_n 1, 1) := by decide +kernel
theorem kd_M_layOut_36 : decode kc_M_layOut 36 = .ok (.invokevirtual 90, 3) := by decide +kernel
theorem kd_M_layOut_39 : decode kc_M_layOut 39 = .ok (.ifCond .ne 6, 3) := by decide +kernel
theorem kd_M_layOut_42 : decode kc_M_layOut 42 = .ok (.goto 30, 3) := by decide +kernel
theorem kd_M_layOut_45 : decode kc_M_layOut 45 = .ok (.aload_n 0, 1) := by decide +kernel
theorem kd_M_layOut_46 : decode kc_M_layOut 46 = .ok (.getfield 41, 3) := by decide +kernel
theorem kd_M_layOut_49 : decode kc_M_layOut 49 = .ok (.bipush 8, 2) := by decide +kernel
theorem kd_M_layOut_51 : decode kc_M_layOut 51 = .ok (.iload_n 1, 1) := by decide +kernel
theorem kd_M_layOut_52 : decode kc_M_layOut 52 = .ok (.imul, 1) := by decide +kernel
theorem kd_M_layOut_53 : decode kc_M_layOut 53 = .ok (.aload_n 0, 1) := by decide +kernel
theorem kd_M_layOut_54 : decode kc_M_layOut 54 = .ok (.getfield 44, 3) := by decide +kernel
theorem kd_M_layOut_57 : decode kc_M_layOut 57 = .ok (.iload_n 1, 1) := by decide +kernel
theorem kd_M_layOut_58 : decode kc_M_layOut 58 = .ok (.iaload, 1) := by decide +kernel
theorem kd_M_layOut_59 : decode kc_M_layOut 59 = .ok (.iadd, 1) := by decide +kernel
theorem kd_M_layOut_60 : decode kc_M_layOut 60 = .ok (.iload_n 3, 1) := by decide +kernel
theorem kd_M_layOut_61 : decode kc_M_layOut 61 = .ok (.iastore, 1) := by decide +kernel
theorem kd_M_layOut_62 : decode kc_M_layOut 62 = .ok (.aload_n 0, 1) := by decide +kernel
theorem kd_M_layOut_63 : decode kc_M_layOut 63 = .ok (.getfield 44, 3) := by decide +kernel
theorem kd_M_layOut_66 : decode kc_M_layOut 66 = .ok (.iload_n 1, 1) := by decide +kernel
theorem kd_M_layOut_67 : decode kc_M_layOut 67 = .ok (.dup2, 1) := by decide +kernel
theorem kd_M_layOut_68 : decode kc_M_layOut 68 = .ok (.iaload, 1) := by decide +kernel
theorem kd_M_layOut_69 : decode kc_M_layOut 69 = .ok (.iconst 1, 1) := by decide +kernel
theorem kd_M_layOut_70 : decode kc_M_layOut 70 = .ok (.iadd, 1) := by decide +kernel
theorem kd_M_layOut_71 : decode kc_M_layOut 71 = .ok (.iastore, 1) := by decide +kernel
theorem kd_M_layOut_72 : decode kc_M_layOut 72 = .ok (.iinc 2 1, 3) := by decide +kernel
theorem kd_M_layOut_75 : decode kc_M_layOut 75 = .ok (.goto (-56), 3) := by decide +kernel
theorem kd_M_layOut_78 : decode kc_M_layOut 78 = .ok (.iinc 1 1, 3) := by decide +kernel
theorem kd_M_layOut_81 : decode kc_M_layOut 81 = .ok (.goto (-79), 3) := by decide +kernel
theorem kd_M_layOut_84 : decode kc_M_layOut 84 = .ok (.iconst 0, 1) := by decide +kernel
theorem kd_M_layOut_85 : decode kc_M_layOut 85 = .ok (.istore_n 1, 1) := by decide +kernel
theorem kd_M_layOut_86 : decode kc_M_layOut 86 = .ok (.iload_n 1, 1) := by decide +kernel
theorem kd_M_layOut_87 : decode kc_M_layOut 87 = .ok (.aload_n 0, 1) := by decide +kernel
theorem kd_M_layOut_88 : decode kc_M_layOut 88 = .ok (.getfield 66, 3) := by decide +kernel
theorem kd_M_layOut_91 : decode kc_M_layOut 91 = .ok (.if_icmp .ge 21, 3) := by decide +kernel
theorem kd_M_layOut_94 : decode kc_M_layOut 94 = .ok (.aload_n 0, 1) := by decide +kernel
theorem kd_M_layOut_95 : decode kc_M_layOut 95 = .ok (.getfield 53, 3) := by decide +kernel
theorem kd_M_layOut_98 : decode kc_M_layOut 98 = .ok (.iload_n 1, 1) := by decide +kernel
theorem kd_M_layOut_99 : decode kc_M_layOut 99 = .ok (.aload_n 0, 1) := by decide +kernel
theorem kd_M_layOut_100 : decode kc_M_layOut 100 = .ok (.getfield 16, 3) := by decide +kernel
theorem kd_M_layOut_103 : decode kc_M_layOut 103 = .ok (.iload_n 1, 1) := by decide +kernel
theorem kd_M_layOut_104 : decode kc_M_layOut 104 = .ok (.iaload, 1) := by decide +kernel
theorem kd_M_layOut_105 : decode kc_M_layOut 105 = .ok (.iastore, 1) := by decide +kernel
theorem kd_M_layOut_106 : decode kc_M_layOut 106 = .ok (.iinc 1 1, 3) := by decide +kernel
theorem kd_M_layOut_109 : decode kc_M_layOut 109 = .ok (.goto (-23), 3) := by decide +kernel
theorem kd_M_layOut_112 : decode kc_M_layOut 112 = .ok (.aload_n 0, 1) := by decide +kernel
theorem kd_M_layOut_113 : decode kc_M_layOut 113 = .ok (.getfield 56, 3) := by decide +kernel
theorem kd_M_layOut_116 : decode kc_M_layOut 116 = .ok (.iconst 0, 1) := by decide +kernel
theorem kd_M_layOut_117 : decode kc_M_layOut 117 = .ok (.iconst 0, 1) := by decide +kernel
theorem kd_M_layOut_118 : decode kc_M_layOut 118 = .ok (.iastore, 1) := by decide +kernel
theorem kd_M_layOut_119 : decode kc_M_layOut 119 = .ok (.return_, 1) := by decide +kernel
theorem kd_M_lotAt_0 : decode kc_M_lotAt 0 = .ok (.iconst 0, 1) := by decide +kernel
theorem kd_M_lotAt_1 : decode kc_M_lotAt 1 = .ok (.istore_n 2, 1) := by decide +kernel
theorem kd_M_lotAt_2 : decode kc_M_lotAt 2 = .ok (.iload_n 2, 1) := by decide +kernel
theorem kd_M_lotAt_3 : decode kc_M_lotAt 3 = .ok (.aload_n 0, 1) := by decide +kernel
theorem kd_M_lotAt_4 : decode kc_M_lotAt 4 = .ok (.getfield 66, 3) := by decide +kernel
theorem kd_M_lotAt_7 : decode kc_M_lotAt 7 = .ok (.if_icmp .ge 54, 3) := by decide +kernel
theorem kd_M_lotAt_10 : decode kc_M_lotAt 10 = .ok (.iconst 0, 1) := by decide +kernel
theorem kd_M_lotAt_11 : decode kc_M_lotAt 11 = .ok (.istore_n 3, 1) := by decide +kernel
theorem kd_M_lotAt_12 : decode kc_M_lotAt 12 = .ok (.iconst 0, 1) := by decide +kernel
theorem kd_M_lotAt_13 : decode kc_M_lotAt 13 = .ok (.istore 4, 2) := by decide +kernel
theorem kd_M_lotAt_15 : decode kc_M_lotAt 15 = .ok (.iload 4, 2) := by decide +kernel
theorem kd_M_lotAt_17 : decode kc_M_lotAt 17 = .ok (.aload_n 0, 1) := by decide +kernel
theorem kd_M_lotAt_18 : decode kc_M_lotAt 18 = .ok (.getfield 66, 3) := by decide +kernel
theorem kd_M_lotAt_21 : decode kc_M_lotAt 21 = .ok (.if_icmp .ge 27, 3) := by decide +kernel
theorem kd_M_lotAt_24 : decode kc_M_lotAt 24 = .ok (.iload_n 3, 1) := by decide +kernel
theorem kd_M_lotAt_25 : decode kc_M_lotAt 25 = .ok (.aload_n 0, 1) := by decide +kernel
theorem kd_M_lotAt_26 : decode kc_M_lotAt 26 = .ok (.iload 4, 2) := by decide +kernel
theorem kd_M_lotAt_28 : decode kc_M_lotAt 28 = .ok (.iload_n 2, 1) := by decide +kernel
theorem kd_M_lotAt_29 : decode kc_M_lotAt 29 = .ok (.invokevirtual 93, 3) := by decide +kernel
theorem kd_M_lotAt_32 : decode kc_M_lotAt 32 = .ok (.ifCond .eq 7, 3) := by decide +kernel
theorem kd_M_lotAt_35 : decode kc_M_lotAt 35 = .ok (.iconst 1, 1) := by decide +kernel
theorem kd_M_lotAt_36 : decode kc_M_lotAt 36 = .ok (.goto 4, 3) := by decide +kernel
theorem kd_M_lotAt_39 : decode kc_M_lotAt 39 = .ok (.iconst 0, 1) := by decide +kernel
theorem kd_M_lotAt_40 : decode kc_M_lotAt 40 = .ok (.iadd, 1) := by decide +kernel
theorem kd_M_lotAt_41 : decode kc_M_lotAt 41 = .ok (.istore_n 3, 1) := by decide +kernel
theorem kd_M_lotAt_42 : decode kc_M_lotAt 42 = .ok (.iinc 4 1, 3) := by decide +kernel
theorem kd_M_lotAt_45 : decode kc_M_lotAt 45 = .ok (.goto (-30), 3) := by decide +kernel
theorem kd_M_lotAt_48 : decode kc_M_lotAt 48 = .ok (.iload_n 3, 1) := by decide +kernel
theorem kd_M_lotAt_49 : decode kc_M_lotAt 49 = .ok (.iload_n 1, 1) := by decide +kernel
theorem kd_M_lotAt_50 : decode kc_M_lotAt 50 = .ok (.if_icmp .ne 5, 3) := by decide +kernel
theorem kd_M_lotAt_53 : decode kc_M_lotAt 53 = .ok (.iload_n 2, 1) := by decide +kernel
theorem kd_M_lotAt_54 : decode kc_M_lotAt 54 = .ok (.ireturn, 1) := by decide +kernel
theorem kd_M_lotAt_55 : decode kc_M_lotAt 55 = .ok (.iinc 2 1, 3) := by decide +kernel
theorem kd_M_lotAt_58 : decode kc_M_lotAt 58 = .ok (.goto (-56), 3) := by decide +kernel
theorem kd_M_lotAt_61 : decode kc_M_lotAt 61 = .ok (.iconst (-1), 1) := by decide +kernel
theorem kd_M_lotAt_62 : decode kc_M_lotAt 62 = .ok (.ireturn, 1) := by decide +kernel
theorem kd_M_isBefore_0 : decode kc_M_isBefore 0 = .ok (.aload_n 0, 1) := by decide +kernel
theorem kd_M_isBefore_1 : decode kc_M_isBefore 1 = .ok (.getfield 19, 3) := by decide +kernel
theorem kd_M_isBefore_4 : decode kc_M_isBefore 4 = .ok (.iload_n 1, 1) := by decide +kernel
theorem kd_M_isBefore_5 : decode kc_M_isBefore 5 = .ok (.iaload, 1) := by decide +kernel
theorem kd_M_isBefore_6 : decode kc_M_isBefore 6 = .ok (.aload_n 0, 1) := by decide +kernel
theorem kd_M_isBefore_7 : decode kc_M_isBefore 7 = .ok (.getfield 19, 3) := by decide +kernel
theorem kd_M_isBefore_10 : decode kc_M_isBefore 10 = .ok (.iload_n 2, 1) := by decide +kernel
theorem kd_M_isBefore_11 : decode kc_M_isBefore 11 = .ok (.iaload, 1) := by decide +kernel
theorem kd_M_isBefore_12 : decode kc_M_isBefore 12 = .ok (.if_icmp .eq 24, 3) := by decide +kernel
theorem kd_M_isBefore_15 : decode kc_M_isBefore 15 = .ok (.aload_n 0, 1) := by decide +kernel
theorem kd_M_isBefore_16 : decode kc_M_isBefore 16 = .ok (.getfield 19, 3) := by decide +kernel
theorem kd_M_isBefore_19 : decode kc_M_isBefore 19 = .ok (.iload_n 1, 1) := by decide +kernel
theorem kd_M_isBefore_20 : decode kc_M_isBefore 20 = .ok (.iaload, 1) := by decide +kernel
theorem kd_M_isBefore_21 : decode kc_M_isBefore 21 = .ok (.aload_n 0, 1) := by decide +kernel
theorem kd_M_isBefore_22 : decode kc_M_isBefore 22 = .ok (.getfield 19, 3) := by decide +kernel
theorem kd_M_isBefore_25 : decode kc_M_isBefore 25 = .ok (.iload_n 2, 1) := by decide +kernel
theorem kd_M_isBefore_26 : decode kc_M_isBefore 26 = .ok (.iaload, 1) := by decide +kernel
theorem kd_M_isBefore_27 : decode kc_M_isBefore 27 = .ok (.if_icmp .ge 7, 3) := by decide +kernel
theorem kd_M_isBefore_30 : decode kc_M_isBefore 30 = .ok (.iconst 1, 1) := by decide +kernel
theorem kd_M_isBefore_31 : decode kc_M_isBefore 31 = .ok (.goto 4, 3) := by decide +kernel
theorem kd_M_isBefore_34 : decode kc_M_isBefore 34 = .ok (.iconst 0, 1) := by decide +kernel
theorem kd_M_isBefore_35 : decode kc_M_isBefore 35 = .ok (.ireturn, 1) := by decide +kernel
theorem kd_M_isBefore_36 : decode kc_M_isBefore 36 = .ok (.aload_n 0, 1) := by decide +kernel
theorem kd_M_isBefore_37 : decode kc_M_isBefore 37 = .ok (.getfield 7, 3) := by decide +kernel
theorem kd_M_isBefore_40 : decode kc_M_isBefore 40 = .ok (.iload_n 1, 1) := by decide +kernel
theorem kd_M_isBefore_41 : decode kc_M_isBefore 41 = .ok (.iaload, 1) := by decide +kernel
theorem kd_M_isBefore_42 : decode kc_M_isBefore 42 = .ok (.aload_n 0, 1) := by decide +kernel
theorem kd_M_isBefore_43 : decode kc_M_isBefore 43 = .ok (.getfield 7, 3) := by decide +kernel
theorem kd_M_isBefore_46 : decode kc_M_isBefore 46 = .ok (.iload_n 2, 1) := by decide +kernel
theorem kd_M_isBefore_47 : decode kc_M_isBefore 47 = .ok (.iaload, 1) := by decide +kernel
theorem kd_M_isBefore_48 : decode kc_M_isBefore 48 = .ok (.if_icmp .eq 26, 3) := by decide +kernel
theorem kd_M_isBefore_51 : decode kc_M_isBefore 51 = .ok (.aload_n 0, 1) := by decide +kernel
theorem kd_M_isBefore_52 : decode kc_M_isBefore 52 = .ok (.getfield 7, 3) := by decide +kernel
theorem kd_M_isBefore_55 : decode kc_M_isBefore 55 = .ok (.iload_n 1, 1) := by decide +kernel
theorem kd_M_isBefore_56 : decode kc_M_isBefore 56 = .ok (.iaload, 1) := by decide +kernel
theorem kd_M_isBefore_57 : decode kc_M_isBefore 57 = .ok (.aload_n 0, 1) := by decide +kernel
theorem kd_M_isBefore_58 : decode kc_M_isBefore 58 = .ok (.getfield 7, 3) := by decide +kernel
theorem kd_M_isBefore_61 : decode kc_M_isBefore 61 = .ok (.iload_n 2, 1) := by decide +kernel
theorem kd_M_isBefore_62 : decode kc_M_isBefore 62 = .ok (.iaload, 1) := by decide +kernel
theorem kd_M_isBefore_63 : decode kc_M_isBefore 63 = .ok (.if_icmp .ge 7, 3) := by decide +kernel
theorem kd_M_isBefore_66 : decode kc_M_isBefore 66 = .ok (.iconst 1, 1) := by decide +kernel
theorem kd_M_isBefore_67 : decode kc_M_isBefore 67 = .ok (.goto 17, 3) := by decide +kernel
theorem kd_M_isBefore_70 : decode kc_M_isBefore 70 = .ok (.iconst 0, 1) := by decide +kernel
theorem kd_M_isBefore_71 : decode kc_M_isBefore 71 = .ok (.goto 13, 3) := by decide +kernel
theorem kd_M_isBefore_74 : decode kc_M_isBefore 74 = .ok (.iload_n 1, 1) := by decide +kernel
theorem kd_M_isBefore_75 : decode kc_M_isBefore 75 = .ok (.iload_n 2, 1) := by decide +kernel
theorem kd_M_isBefore_76 : decode kc_M_isBefore 76 = .ok (.if_icmp .ge 7, 3) := by decide +kernel
theorem kd_M_isBefore_79 : decode kc_M_isBefore 79 = .ok (.iconst 1, 1) := by decide +kernel
theorem kd_M_isBefore_80 : decode kc_M_isBefore 80 = .ok (.goto 4, 3) := by decide +kernel
theorem kd_M_isBefore_83 : decode kc_M_isBefore 83 = .ok (.iconst 0, 1) := by decide +kernel
theorem kd_M_isBefore_84 : decode kc_M_isBefore 84 = .ok (.ireturn, 1) := by decide +kernel
theorem kd_M_product_0 : decode kc_M_product 0 = .ok (.lconst 1, 1) := by decide +kernel
theorem kd_M_product_1 : decode kc_M_product 1 = .ok (.lstore_n 1, 1) := by decide +kernel
theorem kd_M_product_2 : decode kc_M_product 2 = .ok (.iconst 0, 1) := by decide +kernel
theorem kd_M_product_3 : decode kc_M_product 3 = .ok (.istore_n 3, 1) := by decide +kernel
theorem kd_M_product_4 : decode kc_M_product 4 = .ok (.iload_n 3, 1) := by decide +kernel
theorem kd_M_product_5 : decode kc_M_product 5 = .ok (.aload_n 0, 1) := by decide +kernel
theorem kd_M_product_6 : decode kc_M_product 6 = .ok (.getfield 73, 3) := by decide +kernel
theorem kd_M_product_9 : decode kc_M_product 9 = .ok (.if_icmp .ge 47, 3) := by decide +kernel
theorem kd_M_product_12 : decode kc_M_product 12 = .ok (.iconst 0, 1) := by decide +kernel
theorem kd_M_product_13 : decode kc_M_product 13 = .ok (.istore 4, 2) := by decide +kernel
theorem kd_M_product_15 : decode kc_M_product 15 = .ok (.iload 4, 2) := by decide +kernel
theorem kd_M_product_17 : decode kc_M_product 17 = .ok (.aload_n 0, 1) := by decide +kernel
theorem kd_M_product_18 : decode kc_M_product 18 = .ok (.getfield 66, 3) := by decide +kernel
theorem kd_M_product_21 : decode kc_M_product 21 = .ok (.if_icmp .ge 29, 3) := by decide +kernel
theorem kd_M_product_24 : decode kc_M_product 24 = .ok (.lload_n 1, 1) := by decide +kernel
theorem kd_M_product_25 : decode kc_M_product 25 = .ok (.aload_n 0, 1) := by decide +kernel
theorem kd_M_product_26 : decode kc_M_product 26 = .ok (.iload 4, 2) := by decide +kernel
theorem kd_M_product_28 : decode kc_M_product 28 = .ok (.iload_n 3, 1) := by decide +kernel
theorem kd_M_product_29 : decode kc_M_product 29 = .ok (.invokevirtual 90, 3) := by decide +kernel
theorem kd_M_product_32 : decode kc_M_product 32 = .ok (.ifCond .eq 9, 3) := by decide +kernel
theorem kd_M_product_35 : decode kc_M_product 35 = .ok (.ldc2_w 118, 3) := by decide +kernel
theorem kd_M_product_38 : decode kc_M_product 38 = .ok (.goto 4, 3) := by decide +kernel
theorem kd_M_product_41 : decode kc_M_product 41 = .ok (.lconst 1, 1) := by decide +kernel
theorem kd_M_product_42 : decode kc_M_product 42 = .ok (.lmul, 1) := by decide +kernel
theorem kd_M_product_43 : decode kc_M_product 43 = .ok (.lstore_n 1, 1) := by decide +kernel
theorem kd_M_product_44 : decode kc_M_product 44 = .ok (.iinc 4 1, 3) := by decide +kernel
theorem kd_M_product_47 : decode kc_M_product 47 = .ok (.goto (-32), 3) := by decide +kernel
theorem kd_M_product_50 : decode kc_M_product 50 = .ok (.iinc 3 1, 3) := by decide +kernel
theorem kd_M_product_53 : decode kc_M_product 53 = .ok (.goto (-49), 3) := by decide +kernel
theorem kd_M_product_56 : decode kc_M_product 56 = .ok (.lload_n 1, 1) := by decide +kernel
theorem kd_M_product_57 : decode kc_M_product 57 = .ok (.lreturn, 1) := by decide +kernel
theorem kd_M_exactly_0 : decode kc_M_exactly 0 = .ok (.iconst 0, 1) := by decide +kernel
theorem kd_M_exactly_1 : decode kc_M_exactly 1 = .ok (.istore_n 1, 1) := by decide +kernel
theorem kd_M_exactly_2 : decode kc_M_exactly 2 = .ok (.iload_n 1, 1) := by decide +kernel
theorem kd_M_exactly_3 : decode kc_M_exactly 3 = .ok (.aload_n 0, 1) := by decide +kernel
theorem kd_M_exactly_4 : decode kc_M_exactly 4 = .ok (.getfield 73, 3) := by decide +kernel
theorem kd_M_exactly_7 : decode kc_M_exactly 7 = .ok (.if_icmp .ge 16, 3) := by decide +kernel
theorem kd_M_exactly_10 : decode kc_M_exactly 10 = .ok (.aload_n 0, 1) := by decide +kernel
theorem kd_M_exactly_11 : decode kc_M_exactly 11 = .ok (.getfield 47, 3) := by decide +kernel
theorem kd_M_exactly_14 : decode kc_M_exactly 14 = .ok (.iload_n 1, 1) := by decide +kernel
theorem kd_M_exactly_15 : decode kc_M_exactly 15 = .ok (.iconst 0, 1) := by decide +kernel
theorem kd_M_exactly_16 : decode kc_M_exactly 16 = .ok (.iastore, 1) := by decide +kernel
theorem kd_M_exactly_17 : decode kc_M_exactly 17 = .ok (.iinc 1 1, 3) := by decide +kernel
theorem kd_M_exactly_20 : decode kc_M_exactly 20 = .ok (.goto (-18), 3) := by decide +kernel
theorem kd_M_exactly_23 : decode kc_M_exactly 23 = .ok (.iconst (-1), 1) := by decide +kernel
theorem kd_M_exactly_24 : decode kc_M_exactly 24 = .ok (.istore_n 1, 1) := by decide +kernel
theorem kd_M_exactly_25 : decode kc_M_exactly 25 = .ok (.iconst 0, 1) := by decide +kernel
theorem kd_M_exactly_26 : decode kc_M_exactly 26 = .ok (.istore_n 2, 1) := by decide +kernel
theorem kd_M_exactly_27 : decode kc_M_exactly 27 = .ok (.iload_n 2, 1) := by decide +kernel
theorem kd_M_exactly_28 : decode kc_M_exactly 28 = .ok (.iconst (-1), 1) := by decide +kernel
theorem kd_M_exactly_29 : decode kc_M_exactly 29 = .ok (.if_icmp .eq 75, 3) := by decide +kernel
theorem kd_M_exactly_32 : decode kc_M_exactly 32 = .ok (.aload_n 0, 1) := by decide +kernel
theorem kd_M_exactly_33 : decode kc_M_exactly 33 = .ok (.iload_n 2, 1) := by decide +kernel
theorem kd_M_exactly_34 : decode kc_M_exactly 34 = .ok (.invokevirtual 111, 3) := by decide +kernel
theorem kd_M_exactly_37 : decode kc_M_exactly 37 = .ok (.iload_n 1, 1) := by decide +kernel
theorem kd_M_exactly_38 : decode kc_M_exactly 38 = .ok (.iconst (-1), 1) := by decide +kernel
theorem kd_M_exactly_39 : decode kc_M_exactly 39 = .ok (.if_icmp .eq 19, 3) := by decide +kernel
theorem kd_M_exactly_42 : decode kc_M_exactly 42 = .ok (.aload_n 0, 1) := by decide +kernel
theorem kd_M_exactly_43 : decode kc_M_exactly 43 = .ok (.getfield 56, 3) := by decide +kernel
theorem kd_M_exactly_46 : decode kc_M_exactly 46 = .ok (.aload_n 0, 1) := by decide +kernel
theorem kd_M_exactly_47 : decode kc_M_exactly 47 = .ok (.getfield 73, 3) := by decide +kernel
theorem kd_M_exactly_50 : decode kc_M_exactly 50 = .ok (.iaload, 1) := by decide +kernel
theorem kd_M_exactly_51 : decode kc_M_exactly 51 = .ok (.iload_n 1, 1) := by decide +kernel
theorem kd_M_exactly_52 : decode kc_M_exactly 52 = .ok (.if_icmp .lt 6, 3) := by decide +kernel
theorem kd_M_exactly_55 : decode kc_M_exactly 55 = .ok (.goto 41, 3) := by decide +kernel
theorem kd_M_exactly_58 : decode kc_M_exactly 58 = .ok (.aload_n 0, 1) := by decide +kernel
theorem kd_M_exactly_59 : decode kc_M_exactly 59 = .ok (.getfield 56, 3) := by decide +kernel
theorem kd_M_exactly_62 : decode kc_M_exactly 62 = .ok (.aload_n 0, 1) := by decide +kernel
theorem kd_M_exactly_63 : decode kc_M_exactly 63 = .ok (.getfield 73, 3) := by decide +kernel
theorem kd_M_exactly_66 : decode kc_M_exactly 66 = .ok (.iaload, 1) := by decide +kernel
theorem kd_M_exactly_67 : decode kc_M_exactly 67 = .ok (.istore_n 1, 1) := by decide +kernel
theorem kd_M_exactly_68 : decode kc_M_exactly 68 = .ok (.iconst 0, 1) := by decide +kernel
theorem kd_M_exactly_69 : decode kc_M_exactly 69 = .ok (.istore_n 3, 1) := by decide +kernel
theorem kd_M_exactly_70 : decode kc_M_exactly 70 = .ok (.iload_n 3, 1) := by decide +kernel
theorem kd_M_exactly_71 : decode kc_M_exactly 71 = .ok (.aload_n 0, 1) := by decide +kernel
theorem kd_M_exactly_72 : decode kc_M_exactly 72 = .ok (.getfield 73, 3) := by decide +kernel
theorem kd_M_exactly_75 : decode kc_M_exactly 75 = .ok (.if_icmp .ge 21, 3) := by decide +kernel
theorem kd_M_exactly_78 : decode kc_M_exactly 78 = .ok (.aload_n 0, 1) := by decide +kernel
theorem kd_M_exactly_79 : decode kc_M_exactly 79 = .ok (.getfield 50, 3) := by decide +kernel
theorem kd_M_exactly_82 : decode kc_M_exactly 82 = .ok (.iload_n 3, 1) := by decide +kernel
theorem kd_M_exactly_83 : decode kc_M_exactly 83 = .ok (.aload_n 0, 1) := by decide +kernel
theorem kd_M_exactly_84 : decode kc_M_exactly 84 = .ok (.getfield 47, 3) := by decide +kernel
theorem kd_M_exactly_87 : decode kc_M_exactly 87 = .ok (.iload_n 3, 1) := by decide +kernel
theorem kd_M_exactly_88 : decode kc_M_exactly 88 = .ok (.iaload, 1) := by decide +kernel
theorem kd_M_exactly_89 : decode kc_M_exactly 89 = .ok (.iastore, 1) := by decide +kernel
theorem kd_M_exactly_90 : decode kc_M_exactly 90 = .ok (.iinc 3 1, 3) := by decide +kernel
theorem kd_M_exactly_93 : decode kc_M_exactly 93 = .ok (.goto (-23), 3) := by decide +kernel
theorem kd_M_exactly_96 : decode kc_M_exactly 96 = .ok (.aload_n 0, 1) := by decide +kernel
theorem kd_M_exactly_97 : decode kc_M_exactly 97 = .ok (.invokevirtual 114, 3) := by decide +kernel
theorem kd_M_exactly_100 : decode kc_M_exactly 100 = .ok (.istore_n 2, 1) := by decide +kernel
theorem kd_M_exactly_101 : decode kc_M_exactly 101 = .ok (.goto (-74), 3) := by decide +kernel
theorem kd_M_exactly_104 : decode kc_M_exactly 104 = .ok (.return_, 1) := by decide +kernel
theorem kd_M_takeFrom_0 : decode kc_M_takeFrom 0 = .ok (.iload_n 1, 1) := by decide +kernel
theorem kd_M_takeFrom_1 : decode kc_M_takeFrom 1 = .ok (.istore_n 2, 1) := by decide +kernel
theorem kd_M_takeFrom_2 : decode kc_M_takeFrom 2 = .ok (.iload_n 2, 1) := by decide +kernel
theorem kd_M_takeFrom_3 : decode kc_M_takeFrom 3 = .ok (.aload_n 0, 1) := by decide +kernel
theorem kd_M_takeFrom_4 : decode kc_M_takeFrom 4 = .ok (.getfield 73, 3) := by decide +kernel
theorem kd_M_takeFrom_7 : decode kc_M_takeFrom 7 = .ok (.if_icmp .ge 14, 3) := by decide +kernel
theorem kd_M_takeFrom_10 : decode kc_M_takeFrom 10 = .ok (.aload_n 0, 1) := by decide +kernel
theorem kd_M_takeFrom_11 : decode kc_M_takeFrom 11 = .ok (.iload_n 2, 1) := by decide +kernel
theorem kd_M_takeFrom_12 : decode kc_M_takeFrom 12 = .ok (.invokevirtual 104, 3) := by decide +kernel
theorem kd_M_takeFrom_15 : decode kc_M_takeFrom 15 = .ok (.iinc 2 1, 3) := by decide +kernel
theorem kd_M_takeFrom_18 : decode kc_M_takeFrom 18 = .ok (.goto (-16), 3) := by decide +kernel
theorem kd_M_takeFrom_21 : decode kc_M_takeFrom 21 = .ok (.return_, 1) := by decide +kernel
theorem kd_M_take_0 : decode kc_M_take 0 = .ok (.aload_n 0, 1) := by decide +kernel
theorem kd_M_take_1 : decode kc_M_take 1 = .ok (.getfield 25, 3) := by decide +kernel
theorem kd_M_take_4 : decode kc_M_take 4 = .ok (.iload_n 1, 1) := by decide +kernel
theorem kd_M_take_5 : decode kc_M_take 5 = .ok (.iaload, 1) := by decide +kernel
theorem kd_M_take_6 : decode kc_M_take 6 = .ok (.istore_n 2, 1) := by decide +kernel
theorem kd_M_take_7 : decode kc_M_take 7 = .ok (.iconst 0, 1) := by decide +kernel
theorem kd_M_take_8 : decode kc_M_take 8 = .ok (.istore_n 3, 1) := by decide +kernel
theorem kd_M_take_9 : decode kc_M_take 9 = .ok (.iconst 0, 1) := by decide +kernel
theorem kd_M_take_10 : decode kc_M_take 10 = .ok (.istore 4, 2) := by decide +kernel
theorem kd_M_take_12 : decode kc_M_take 12 = .ok (.iload 4, 2) := by decide +kernel
theorem kd_M_take_14 : decode kc_M_take 14 = .ok (.aload_n 0, 1) := by decide +kernel
theorem kd_M_take_15 : decode kc_M_take 15 = .ok (.getfield 66, 3) := by decide +kernel
theorem kd_M_take_18 : decode kc_M_take 18 = .ok (.if_icmp .ge 48, 3) := by decide +kernel
theorem kd_M_take_21 : decode kc_M_take 21 = .ok (.aload_n 0, 1) := by decide +kernel
theorem kd_M_take_22 : decode kc_M_take 22 = .ok (.getfield 53, 3) := by decide +kernel
theorem kd_M_take_25 : decode kc_M_take 25 = .ok (.bipush 8, 2) := by decide +kernel
theorem kd_M_take_27 : decode kc_M_take 27 = .ok (.iload_n 1, 1) := by decide +kernel
theorem kd_M_take_28 : decode kc_M_take 28 = .ok (.iconst 1, 1) := by decide +kernel
theorem kd_M_take_29 : decode kc_M_take 29 = .ok (.iadd, 1) := by decide +kernel
theorem kd_M_take_30 : decode kc_M_take 30 = .ok (.imul, 1) := by decide +kernel
theorem kd_M_take_31 : decode kc_M_take 31 = .ok (.iload 4, 2) := by decide +kernel
theorem kd_M_take_33 : decode kc_M_take 33 = .ok (.iadd, 1) := by decide +kernel
theorem kd_M_take_34 : decode kc_M_take 34 = .ok (.aload_n 0, 1) := by decide +kernel
theorem kd_M_take_35 : decode kc_M_take 35 = .ok (.getfield 53, 3) := by decide +kernel
theorem kd_M_take_38 : decode kc_M_take 38 = .ok (.bipush 8, 2) := by decide +kernel
theorem kd_M_take_40 : decode kc_M_take 40 = .ok (.iload_n 1, 1) := by decide +kernel
theorem kd_M_take_41 : decode kc_M_take 41 = .ok (.imul, 1) := by decide +kernel
theorem kd_M_take_42 : decode kc_M_take 42 = .ok (.iload 4, 2) := by decide +kernel
theorem kd_M_take_44 : decode kc_M_take 44 = .ok (.iadd, 1) := by decide +kernel
theorem kd_M_take_45 : decode kc_M_take 45 = .ok (.iaload, 1) := by decide +kernel
theorem kd_M_take_46 : decode kc_M_take 46 = .ok (.iastore, 1) := by decide +kernel
theorem kd_M_take_47 : decode kc_M_take 47 = .ok (.aload_n 0, 1) := by decide +kernel
theorem kd_M_take_48 : decode kc_M_take 48 = .ok (.getfield 59, 3) := by decide +kernel
theorem kd_M_take_51 : decode kc_M_take 51 = .ok (.bipush 8, 2) := by decide +kernel
theorem kd_M_take_53 : decode kc_M_take 53 = .ok (.iload_n 1, 1) := by decide +kernel
theorem kd_M_take_54 : decode kc_M_take 54 = .ok (.imul, 1) := by decide +kernel
theorem kd_M_take_55 : decode kc_M_take 55 = .ok (.iload 4, 2) := by decide +kernel
theorem kd_M_take_57 : decode kc_M_take 57 = .ok (.iadd, 1) := by decide +kernel
theorem kd_M_take_58 : decode kc_M_take 58 = .ok (.iconst 0, 1) := by decide +kernel
theorem kd_M_take_59 : decode kc_M_take 59 = .ok (.iastore, 1) := by decide +kernel
theorem kd_M_take_60 : decode kc_M_take 60 = .ok (.iinc 4 1, 3) := by decide +kernel
theorem kd_M_take_63 : decode kc_M_take 63 = .ok (.goto (-51), 3) := by decide +kernel
theorem kd_M_take_66 : decode kc_M_take 66 = .ok (.iconst 0, 1) := by decide +kernel
theorem kd_M_take_67 : decode kc_M_take 67 = .ok (.istore 4, 2) := by decide +kernel
theorem kd_M_take_69 : decode kc_M_take 69 = .ok (.iload 4, 2) := by decide +kernel
theorem kd_M_take_71 : decode kc_M_take 71 = .ok (.aload_n 0, 1) := by decide +kernel
theorem kd_M_take_72 : decode kc_M_take 72 = .ok (.getfield 44, 3) := by decide +kernel
theorem kd_M_take_75 : decode kc_M_take 75 = .ok (.iload_n 1, 1) := by decide +kernel
theorem kd_M_take_76 : decode kc_M_take 76 = .ok (.iaload, 1) := by decide +kernel
theorem kd_M_take_77 : decode kc_M_take 77 = .ok (.if_icmp .ge 154, 3) := by decide +kernel
theorem kd_M_take_80 : decode kc_M_take 80 = .ok (.aload_n 0, 1) := by decide +kernel
theorem kd_M_take_81 : decode kc_M_take 81 = .ok (.getfield 47, 3) := by decide +kernel
theorem kd_M_take_84 : decode kc_M_take 84 = .ok (.iload_n 1, 1) := by decide +kernel
theorem kd_M_take_85 : decode kc_M_take 85 = .ok (.iaload, 1) := by decide +kernel
theorem kd_M_take_86 : decode kc_M_take 86 = .ok (.iload 4, 2) := by decide +kernel
theorem kd_M_take_88 : decode kc_M_take 88 = .ok (.ishr, 1) := by decide +kernel
theorem kd_M_take_89 : decode kc_M_take 89 = .ok (.iconst 1, 1) := by decide +kernel
theorem kd_M_take_90 : decode kc_M_take 90 = .ok (.iand, 1) := by decide +kernel
theorem kd_M_take_91 : decode kc_M_take 91 = .ok (.ifCond .ne 6, 3) := by decide +kernel
theorem kd_M_take_94 : decode kc_M_take 94 = .ok (.goto 131, 3) := by decide +kernel
theorem kd_M_take_97 : decode kc_M_take 97 = .ok (.aload_n 0, 1) := by decide +kernel
theorem kd_M_take_98 : decode kc_M_take 98 = .ok (.getfield 41, 3) := by decide +kernel
theorem kd_M_take_101 : decode kc_M_take 101 = .ok (.bipush 8, 2) := by decide +kernel
theorem kd_M_take_103 : decode kc_M_take 103 = .ok (.iload_n 1, 1) := by decide +kernel
theorem kd_M_take_104 : decode kc_M_take 104 = .ok (.imul, 1) := by decide +kernel
theorem kd_M_take_105 : decode kc_M_take 105 = .ok (.iload 4, 2) := by decide +kernel
theorem kd_M_take_107 : decode kc_M_take 107 = .ok (.iadd, 1) := by decide +kernel
theorem kd_M_take_108 : decode kc_M_take 108 = .ok (.iaload, 1) := by decide +kernel
theorem kd_M_take_109 : decode kc_M_take 109 = .ok (.istore 5, 2) := by decide +kernel
theorem kd_M_take_111 : decode kc_M_take 111 = .ok (.iload_n 2, 1) := by decide +kernel
theorem kd_M_take_112 : decode kc_M_take 112 = .ok (.aload_n 0, 1) := by decide +kernel
theorem kd_M_take_113 : decode kc_M_take 113 = .ok (.getfield 53, 3) := by decide +kernel
theorem kd_M_take_116 : decode kc_M_take 116 = .ok (.bipush 8, 2) := by decide +kernel
theorem kd_M_take_118 : decode kc_M_take 118 = .ok (.iload_n 1, 1) := by decide +kernel
theorem kd_M_take_119 : decode kc_M_take 119 = .ok (.imul, 1) := by decide +kernel
theorem kd_M_take_120 : decode kc_M_take 120 = .ok (.iload 5, 2) := by decide +kernel
theorem kd_M_take_122 : decode kc_M_take 122 = .ok (.iadd, 1) := by decide +kernel
theorem kd_M_take_123 : decode kc_M_take 123 = .ok (.iaload, 1) := by decide +kernel
theorem kd_M_take_124 : decode kc_M_take 124 = .ok (.if_icmp .ge 7, 3) := by decide +kernel
theorem kd_M_take_127 : decode kc_M_take 127 = .ok (.iload_n 2, 1) := by decide +kernel
theorem kd_M_take_128 : decode kc_M_take 128 = .ok (.goto 15, 3) := by decide +kernel
theorem kd_M_take_131 : decode kc_M_take 131 = .ok (.aload_n 0, 1) := by decide +kernel
theorem kd_M_take_132 : decode kc_M_take 132 = .ok (.getfield 53, 3) := by decide +kernel
theorem kd_M_take_135 : decode kc_M_take 135 = .ok (.bipush 8, 2) := by decide +kernel
theorem kd_M_take_137 : decode kc_M_take 137 = .ok (.iload_n 1, 1) := by decide +kernel
theorem kd_M_take_138 : decode kc_M_take 138 = .ok (.imul, 1) := by decide +kernel
theorem kd_M_take_139 : decode kc_M_take 139 = .ok (.iload 5, 2) := by decide +kernel
theorem kd_M_take_141 : decode kc_M_take 141 = .ok (.iadd, 1) := by decide +kernel
theorem kd_M_take_142 : decode kc_M_take 142 = .ok (.iaload, 1) := by decide +kernel
theorem kd_M_take_143 : decode kc_M_take 143 = .ok (.istore 6, 2) := by decide +kernel
theorem kd_M_take_145 : decode kc_M_take 145 = .ok (.iload 6, 2) := by decide +kernel
theorem kd_M_take_147 : decode kc_M_take 147 = .ok (.iload 6, 2) := by decide +kernel
theorem kd_M_take_149 : decode kc_M_take 149 = .ok (.aload_n 0, 1) := by decide +kernel
theorem kd_M_take_150 : decode kc_M_take 150 = .ok (.getfield 28, 3) := by decide +kernel
theorem kd_M_take_153 : decode kc_M_take 153 = .ok (.iconst 4, 1) := by decide +kernel
theorem kd_M_take_154 : decode kc_M_take 154 = .ok (.iload_n 1, 1) := by decide +kernel
theorem kd_M_take_155 : decode kc_M_take 155 = .ok (.imul, 1) := by decide +kernel
theorem kd_M_take_156 : decode kc_M_take 156 = .ok (.iconst 1, 1) := by decide +kernel
theorem kd_M_take_157 : decode kc_M_take 157 = .ok (.iadd, 1) := by decide +kernel
theorem kd_M_take_158 : decode kc_M_take 158 = .ok (.iaload, 1) := by decide +kernel
theorem kd_M_take_159 : decode kc_M_take 159 = .ok (.irem, 1) := by decide +kernel
theorem kd_M_take_160 : decode kc_M_take 160 = .ok (.isub, 1) := by decide +kernel
theorem kd_M_take_161 : decode kc_M_take 161 = .ok (.istore 6, 2) := by decide +kernel
theorem kd_M_take_163 : decode kc_M_take 163 = .ok (.iload 6, 2) := by decide +kernel
theorem kd_M_take_165 : decode kc_M_take 165 = .ok (.ifCond .ne 6, 3) := by decide +kernel
theorem kd_M_take_168 : decode kc_M_take 168 = .ok (.goto 57, 3) := by decide +kernel
theorem kd_M_take_171 : decode kc_M_take 171 = .ok (.aload_n 0, 1) := by decide +kernel
theorem kd_M_take_172 : decode kc_M_take 172 = .ok (.getfield 59, 3) := by decide +kernel
theorem kd_M_take_175 : decode kc_M_take 175 = .ok (.bipush 8, 2) := by decide +kernel
theorem kd_M_take_177 : decode kc_M_take 177 = .ok (.iload_n 1, 1) := by decide +kernel
theorem kd_M_take_178 : decode kc_M_take 178 = .ok (.imul, 1) := by decide +kernel
theorem kd_M_take_179 : decode kc_M_take 179 = .ok (.iload 5, 2) := by decide +kernel
theorem kd_M_take_181 : decode kc_M_take 181 = .ok (.iadd, 1) := by decide +kernel
theorem kd_M_take_182 : decode kc_M_take 182 = .ok (.iload 6, 2) := by decide +kernel
theorem kd_M_take_184 : decode kc_M_take 184 = .ok (.iastore, 1) := by decide +kernel
theorem kd_M_take_185 : decode kc_M_take 185 = .ok (.aload_n 0, 1) := by decide +kernel
theorem kd_M_take_186 : decode kc_M_take 186 = .ok (.getfield 53, 3) := by decide +kernel
theorem kd_M_take_189 : decode kc_M_take 189 = .ok (.bipush 8, 2) := by decide +kernel
theorem kd_M_take_191 : decode kc_M_take 191 = .ok (.iload_n 1, 1) := by decide +kernel
theorem kd_M_take_192 : decode kc_M_take 192 = .ok (.iconst 1, 1) := by decide +kernel
theorem kd_M_take_193 : decode kc_M_take 193 = .ok (.iadd, 1) := by decide +kernel
theorem kd_M_take_194 : decode kc_M_take 194 = .ok (.imul, 1) := by decide +kernel
theorem kd_M_take_195 : decode kc_M_take 195 = .ok (.iload 5, 2) := by decide +kernel
theorem kd_M_take_197 : decode kc_M_take 197 = .ok (.iadd, 1) := by decide +kernel
theorem kd_M_take_198 : decode kc_M_take 198 = .ok (.dup2, 1) := by decide +kernel
theorem kd_M_take_199 : decode kc_M_take 199 = .ok (.iaload, 1) := by decide +kernel
theorem kd_M_take_200 : decode kc_M_take 200 = .ok (.iload 6, 2) := by decide +kernel
theorem kd_M_take_202 : decode kc_M_take 202 = .ok (.isub, 1) := by decide +kernel
theorem kd_M_take_203 : decode kc_M_take 203 = .ok (.iastore, 1) := by decide +kernel
theorem kd_M_take_204 : decode kc_M_take 204 = .ok (.iload_n 2, 1) := by decide +kernel
theorem kd_M_take_205 : decode kc_M_take 205 = .ok (.iload 6, 2) := by decide +kernel
theorem kd_M_take_207 : decode kc_M_take 207 = .ok (.isub, 1) := by decide +kernel
theorem kd_M_take_208 : decode kc_M_take 208 = .ok (.istore_n 2, 1) := by decide +kernel
theorem kd_M_take_209 : decode kc_M_take 209 = .ok (.iload_n 3, 1) := by decide +kernel
theorem kd_M_take_210 : decode kc_M_take 210 = .ok (.iload 6, 2) := by decide +kernel
theorem kd_M_take_212 : decode kc_M_take 212 = .ok (.aload_n 0, 1) := by decide +kernel
theorem kd_M_take_213 : decode kc_M_take 213 = .ok (.iload 5, 2) := by decide +kernel
theorem kd_M_take_215 : decode kc_M_take 215 = .ok (.iload_n 1, 1) := by decide +kernel
theorem kd_M_take_216 : decode kc_M_take 216 = .ok (.invokevirtual 100, 3) := by decide +kernel
theorem kd_M_take_219 : decode kc_M_take 219 = .ok (.imul, 1) := by decide +kernel
theorem kd_M_take_220 : decode kc_M_take 220 = .ok (.bipush 20, 2) := by decide +kernel
theorem kd_M_take_222 : decode kc_M_take 222 = .ok (.iadd, 1) := by decide +kernel
theorem kd_M_take_223 : decode kc_M_take 223 = .ok (.iadd, 1) := by decide +kernel
theorem kd_M_take_224 : decode kc_M_take 224 = .ok (.istore_n 3, 1) := by decide +kernel
theorem kd_M_take_225 : decode kc_M_take 225 = .ok (.iinc 4 1, 3) := by decide +kernel
theorem kd_M_take_228 : decode kc_M_take 228 = .ok (.goto (-159), 3) := by decide +kernel
theorem kd_M_take_231 : decode kc_M_take 231 = .ok (.aload_n 0, 1) := by decide +kernel
theorem kd_M_take_232 : decode kc_M_take 232 = .ok (.getfield 28, 3) := by decide +kernel
theorem kd_M_take_235 : decode kc_M_take 235 = .ok (.iconst 4, 1) := by decide +kernel
theorem kd_M_take_236 : decode kc_M_take 236 = .ok (.iload_n 1, 1) := by decide +kernel
theorem kd_M_take_237 : decode kc_M_take 237 = .ok (.imul, 1) := by decide +kernel
theorem kd_M_take_238 : decode kc_M_take 238 = .ok (.iconst 3, 1) := by decide +kernel
theorem kd_M_take_239 : decode kc_M_take 239 = .ok (.iadd, 1) := by decide +kernel
theorem kd_M_take_240 : decode kc_M_take 240 = .ok (.iaload, 1) := by decide +kernel
theorem kd_M_take_241 : decode kc_M_take 241 = .ok (.iconst 1, 1) := by decide +kernel
theorem kd_M_take_242 : decode kc_M_take 242 = .ok (.if_icmp .ne 73, 3) := by decide +kernel
theorem kd_M_take_245 : decode kc_M_take 245 = .ok (.iload_n 2, 1) := by decide +kernel
theorem kd_M_take_246 : decode kc_M_take 246 = .ok (.ifCond .le 69, 3) := by decide +kernel
theorem kd_M_take_249 : decode kc_M_take 249 = .ok (.iconst 0, 1) := by decide +kernel
theorem kd_M_take_250 : decode kc_M_take 250 = .ok (.istore 4, 2) := by decide +kernel
theorem kd_M_take_252 : decode kc_M_take 252 = .ok (.iload 4, 2) := by decide +kernel
theorem kd_M_take_254 : decode kc_M_take 254 = .ok (.aload_n 0, 1) := by decide +kernel
theorem kd_M_take_255 : decode kc_M_take 255 = .ok (.getfield 66, 3) := by decide +kernel
theorem kd_M_take_258 : decode kc_M_take 258 = .ok (.if_icmp .ge 48, 3) := by decide +kernel
theorem kd_M_take_261 : decode kc_M_take 261 = .ok (.aload_n 0, 1) := by decide +kernel
theorem kd_M_take_262 : decode kc_M_take 262 = .ok (.getfield 53, 3) := by decide +kernel
theorem kd_M_take_265 : decode kc_M_take 265 = .ok (.bipush 8, 2) := by decide +kernel
theorem kd_M_take_267 : decode kc_M_take 267 = .ok (.iload_n 1, 1) := by decide +kernel
theorem kd_M_take_268 : decode kc_M_take 268 = .ok (.iconst 1, 1) := by decide +kernel
theorem kd_M_take_269 : decode kc_M_take 269 = .ok (.iadd, 1) := by decide +kernel
theorem kd_M_take_270 : decode kc_M_take 270 = .ok (.imul, 1) := by decide +kernel
theorem kd_M_take_271 : decode kc_M_take 271 = .ok (.iload 4, 2) := by decide +kernel
theorem kd_M_take_273 : decode kc_M_take 273 = .ok (.iadd, 1) := by decide +kernel
theorem kd_M_take_274 : decode kc_M_take 274 = .ok (.aload_n 0, 1) := by decide +kernel
theorem kd_M_take_275 : decode kc_M_take 275 = .ok (.getfield 53, 3) := by decide +kernel
theorem kd_M_take_278 : decode kc_M_take 278 = .ok (.bipush 8, 2) := by decide +kernel
theorem kd_M_take_280 : decode kc_M_take 280 = .ok (.iload_n 1, 1) := by decide +kernel
theorem kd_M_take_281 : decode kc_M_take 281 = .ok (.imul, 1) := by decide +kernel
theorem kd_M_take_282 : decode kc_M_take 282 = .ok (.iload 4, 2) := by decide +kernel
theorem kd_M_take_284 : decode kc_M_take 284 = .ok (.iadd, 1) := by decide +kernel
theorem kd_M_take_285 : decode kc_M_take 285 = .ok (.iaload, 1) := by decide +kernel
theorem kd_M_take_286 : decode kc_M_take 286 = .ok (.iastore, 1) := by decide +kernel
theorem kd_M_take_287 : decode kc_M_take 287 = .ok (.aload_n 0, 1) := by decide +kernel
theorem kd_M_take_288 : decode kc_M_take 288 = .ok (.getfield 59, 3) := by decide +kernel
theorem kd_M_take_291 : decode kc_M_take 291 = .ok (.bipush 8, 2) := by decide +kernel
theorem kd_M_take_293 : decode kc_M_take 293 = .ok (.iload_n 1, 1) := by decide +kernel
theorem kd_M_take_294 : decode kc_M_take 294 = .ok (.imul, 1) := by decide +kernel
theorem kd_M_take_295 : decode kc_M_take 295 = .ok (.iload 4, 2) := by decide +kernel
theorem kd_M_take_297 : decode kc_M_take 297 = .ok (.iadd, 1) := by decide +kernel
theorem kd_M_take_298 : decode kc_M_take 298 = .ok (.iconst 0, 1) := by decide +kernel
theorem kd_M_take_299 : decode kc_M_take 299 = .ok (.iastore, 1) := by decide +kernel
theorem kd_M_take_300 : decode kc_M_take 300 = .ok (.iinc 4 1, 3) := by decide +kernel
theorem kd_M_take_303 : decode kc_M_take 303 = .ok (.goto (-51), 3) := by decide +kernel
theorem kd_M_take_306 : decode kc_M_take 306 = .ok (.iconst 0, 1) := by decide +kernel
theorem kd_M_take_307 : decode kc_M_take 307 = .ok (.istore_n 3, 1) := by decide +kernel
theorem kd_M_take_308 : decode kc_M_take 308 = .ok (.aload_n 0, 1) := by decide +kernel
theorem kd_M_take_309 : decode kc_M_take 309 = .ok (.getfield 25, 3) := by decide +kernel
theorem kd_M_take_312 : decode kc_M_take 312 = .ok (.iload_n 1, 1) := by decide +kernel
theorem kd_M_take_313 : decode kc_M_take 313 = .ok (.iaload, 1) := by decide +kernel
theorem kd_M_take_314 : decode kc_M_take 314 = .ok (.istore_n 2, 1) := by decide +kernel
theorem kd_M_take_315 : decode kc_M_take 315 = .ok (.aload_n 0, 1) := by decide +kernel
theorem kd_M_take_316 : decode kc_M_take 316 = .ok (.getfield 56, 3) := by decide +kernel
theorem kd_M_take_319 : decode kc_M_take 319 = .ok (.iload_n 1, 1) := by decide +kernel
theorem kd_M_take_320 : decode kc_M_take 320 = .ok (.iconst 1, 1) := by decide +kernel
theorem kd_M_take_321 : decode kc_M_take 321 = .ok (.iadd, 1) := by decide +kernel
theorem kd_M_take_322 : decode kc_M_take 322 = .ok (.aload_n 0, 1) := by decide +kernel
theorem kd_M_take_323 : decode kc_M_take 323 = .ok (.getfield 56, 3) := by decide +kernel
theorem kd_M_take_326 : decode kc_M_take 326 = .ok (.iload_n 1, 1) := by decide +kernel
theorem kd_M_take_327 : decode kc_M_take 327 = .ok (.iaload, 1) := by decide +kernel
theorem kd_M_take_328 : decode kc_M_take 328 = .ok (.iload_n 3, 1) := by decide +kernel
theorem kd_M_take_329 : decode kc_M_take 329 = .ok (.iadd, 1) := by decide +kernel
theorem kd_M_take_330 : decode kc_M_take 330 = .ok (.sipush 1000, 3) := by decide +kernel
theorem kd_M_take_333 : decode kc_M_take 333 = .ok (.iload_n 2, 1) := by decide +kernel
theorem kd_M_take_334 : decode kc_M_take 334 = .ok (.imul, 1) := by decide +kernel
theorem kd_M_take_335 : decode kc_M_take 335 = .ok (.iadd, 1) := by decide +kernel
theorem kd_M_take_336 : decode kc_M_take 336 = .ok (.iastore, 1) := by decide +kernel
theorem kd_M_take_337 : decode kc_M_take 337 = .ok (.return_, 1) := by decide +kernel
theorem kd_M_costOf_0 : decode kc_M_costOf 0 = .ok (.aload_n 0, 1) := by decide +kernel
theorem kd_M_costOf_1 : decode kc_M_costOf 1 = .ok (.getfield 31, 3) := by decide +kernel
theorem kd_M_costOf_4 : decode kc_M_costOf 4 = .ok (.bipush 8, 2) := by decide +kernel
theorem kd_M_costOf_6 : decode kc_M_costOf 6 = .ok (.iload_n 2, 1) := by decide +kernel
theorem kd_M_costOf_7 : decode kc_M_costOf 7 = .ok (.imul, 1) := by decide +kernel
theorem kd_M_costOf_8 : decode kc_M_costOf 8 = .ok (.iload_n 1, 1) := by decide +kernel
theorem kd_M_costOf_9 : decode kc_M_costOf 9 = .ok (.iadd, 1) := by decide +kernel
theorem kd_M_costOf_10 : decode kc_M_costOf 10 = .ok (.iaload, 1) := by decide +kernel
theorem kd_M_costOf_11 : decode kc_M_costOf 11 = .ok (.iconst (-1), 1) := by decide +kernel
theorem kd_M_costOf_12 : decode kc_M_costOf 12 = .ok (.if_icmp .ne 12, 3) := by decide +kernel
theorem kd_M_costOf_15 : decode kc_M_costOf 15 = .ok (.aload_n 0, 1) := by decide +kernel
theorem kd_M_costOf_16 : decode kc_M_costOf 16 = .ok (.getfield 7, 3) := by decide +kernel
theorem kd_M_costOf_19 : decode kc_M_costOf 19 = .ok (.iload_n 1, 1) := by decide +kernel
theorem kd_M_costOf_20 : decode kc_M_costOf 20 = .ok (.iaload, 1) := by decide +kernel
theorem kd_M_costOf_21 : decode kc_M_costOf 21 = .ok (.goto 14, 3) := by decide +kernel
theorem kd_M_costOf_24 : decode kc_M_costOf 24 = .ok (.aload_n 0, 1) := by decide +kernel
theorem kd_M_costOf_25 : decode kc_M_costOf 25 = .ok (.getfield 31, 3) := by decide +kernel
theorem kd_M_costOf_28 : decode kc_M_costOf 28 = .ok (.bipush 8, 2) := by decide +kernel
theorem kd_M_costOf_30 : decode kc_M_costOf 30 = .ok (.iload_n 2, 1) := by decide +kernel
theorem kd_M_costOf_31 : decode kc_M_costOf 31 = .ok (.imul, 1) := by decide +kernel
theorem kd_M_costOf_32 : decode kc_M_costOf 32 = .ok (.iload_n 1, 1) := by decide +kernel
theorem kd_M_costOf_33 : decode kc_M_costOf 33 = .ok (.iadd, 1) := by decide +kernel
theorem kd_M_costOf_34 : decode kc_M_costOf 34 = .ok (.iaload, 1) := by decide +kernel
theorem kd_M_costOf_35 : decode kc_M_costOf 35 = .ok (.ireturn, 1) := by decide +kernel
theorem kd_M_nextSets_0 : decode kc_M_nextSets 0 = .ok (.aload_n 0, 1) := by decide +kernel
theorem kd_M_nextSets_1 : decode kc_M_nextSets 1 = .ok (.getfield 73, 3) := by decide +kernel
theorem kd_M_nextSets_4 : decode kc_M_nextSets 4 = .ok (.iconst 1, 1) := by decide +kernel
theorem kd_M_nextSets_5 : decode kc_M_nextSets 5 = .ok (.isub, 1) := by decide +kernel
theorem kd_M_nextSets_6 : decode kc_M_nextSets 6 = .ok (.istore_n 1, 1) := by decide +kernel
theorem kd_M_nextSets_7 : decode kc_M_nextSets 7 = .ok (.iload_n 1, 1) := by decide +kernel
theorem kd_M_nextSets_8 : decode kc_M_nextSets 8 = .ok (.ifCond .lt 97, 3) := by decide +kernel
theorem kd_M_nextSets_11 : decode kc_M_nextSets 11 = .ok (.aload_n 0, 1) := by decide +kernel
theorem kd_M_nextSets_12 : decode kc_M_nextSets 12 = .ok (.getfield 47, 3) := by decide +kernel
theorem kd_M_nextSets_15 : decode kc_M_nextSets 15 = .ok (.iload_n 1, 1) := by decide +kernel
theorem kd_M_nextSets_16 : decode kc_M_nextSets 16 = .ok (.dup2, 1) := by decide +kernel
theorem kd_M_nextSets_17 : decode kc_M_nextSets 17 = .ok (.iaload, 1) := by decide +kernel
theorem kd_M_nextSets_18 : decode kc_M_nextSets 18 = .ok (.iconst 1, 1) := by decide +kernel
theorem kd_M_nextSets_19 : decode kc_M_nextSets 19 = .ok (.iadd, 1) := by decide +kernel
theorem kd_M_nextSets_20 : decode kc_M_nextSets 20 = .ok (.iastore, 1) := by decide +kernel
theorem kd_M_nextSets_21 : decode kc_M_nextSets 21 = .ok (.aload_n 0, 1) := by decide +kernel
theorem kd_M_nextSets_22 : decode kc_M_nextSets 22 = .ok (.getfield 47, 3) := by decide +kernel
theorem kd_M_nextSets_25 : decode kc_M_nextSets 25 = .ok (.iload_n 1, 1) := by decide +kernel
theorem kd_M_nextSets_26 : decode kc_M_nextSets 26 = .ok (.iaload, 1) := by decide +kernel
theorem kd_M_nextSets_27 : decode kc_M_nextSets 27 = .ok (.iconst 1, 1) := by decide +kernel
theorem kd_M_nextSets_28 : decode kc_M_nextSets 28 = .ok (.aload_n 0, 1) := by decide +kernel
theorem kd_M_nextSets_29 : decode kc_M_nextSets 29 = .ok (.getfield 44, 3) := by decide +kernel
theorem kd_M_nextSets_32 : decode kc_M_nextSets 32 = .ok (.iload_n 1, 1) := by decide +kernel
theorem kd_M_nextSets_33 : decode kc_M_nextSets 33 = .ok (.iaload, 1) := by decide +kernel
theorem kd_M_nextSets_34 : decode kc_M_nextSets 34 = .ok (.ishl, 1) := by decide +kernel
theorem kd_M_nextSets_35 : decode kc_M_nextSets 35 = .ok (.if_icmp .ge 38, 3) := by decide +kernel
theorem kd_M_nextSets_38 : decode kc_M_nextSets 38 = .ok (.aload_n 0, 1) := by decide +kernel
theorem kd_M_nextSets_39 : decode kc_M_nextSets 39 = .ok (.getfield 47, 3) := by decide +kernel
theorem kd_M_nextSets_42 : decode kc_M_nextSets 42 = .ok (.iload_n 1, 1) := by decide +kernel
theorem kd_M_nextSets_43 : decode kc_M_nextSets 43 = .ok (.iaload, 1) := by decide +kernel
theorem kd_M_nextSets_44 : decode kc_M_nextSets 44 = .ok (.invokestatic 108, 3) := by decide +kernel
theorem kd_M_nextSets_47 : decode kc_M_nextSets 47 = .ok (.aload_n 0, 1) := by decide +kernel
theorem kd_M_nextSets_48 : decode kc_M_nextSets 48 = .ok (.getfield 28, 3) := by decide +kernel
theorem kd_M_nextSets_51 : decode kc_M_nextSets 51 = .ok (.iconst 4, 1) := by decide +kernel
theorem kd_M_nextSets_52 : decode kc_M_nextSets 52 = .ok (.iload_n 1, 1) := by decide +kernel
theorem kd_M_nextSets_53 : decode kc_M_nextSets 53 = .ok (.imul, 1) := by decide +kernel
theorem kd_M_nextSets_54 : decode kc_M_nextSets 54 = .ok (.iconst 2, 1) := by decide +kernel
theorem kd_M_nextSets_55 : decode kc_M_nextSets 55 = .ok (.iadd, 1) := by decide +kernel
theorem kd_M_nextSets_56 : decode kc_M_nextSets 56 = .ok (.iaload, 1) := by decide +kernel
theorem kd_M_nextSets_57 : decode kc_M_nextSets 57 = .ok (.if_icmp .le 16, 3) := by decide +kernel
theorem kd_M_nextSets_60 : decode kc_M_nextSets 60 = .ok (.aload_n 0, 1) := by decide +kernel
theorem kd_M_nextSets_61 : decode kc_M_nextSets 61 = .ok (.getfield 47, 3) := by decide +kernel
theorem kd_M_nextSets_64 : decode kc_M_nextSets 64 = .ok (.iload_n 1, 1) := by decide +kernel
theorem kd_M_nextSets_65 : decode kc_M_nextSets 65 = .ok (.dup2, 1) := by decide +kernel
theorem kd_M_nextSets_66 : decode kc_M_nextSets 66 = .ok (.iaload, 1) := by decide +kernel
theorem kd_M_nextSets_67 : decode kc_M_nextSets 67 = .ok (.iconst 1, 1) := by decide +kernel
theorem kd_M_nextSets_68 : decode kc_M_nextSets 68 = .ok (.iadd, 1) := by decide +kernel
theorem kd_M_nextSets_69 : decode kc_M_nextSets 69 = .ok (.iastore, 1) := by decide +kernel
theorem kd_M_nextSets_70 : decode kc_M_nextSets 70 = .ok (.goto (-49), 3) := by decide +kernel
theorem kd_M_nextSets_73 : decode kc_M_nextSets 73 = .ok (.aload_n 0, 1) := by decide +kernel
theorem kd_M_nextSets_74 : decode kc_M_nextSets 74 = .ok (.getfield 47, 3) := by decide +kernel
theorem kd_M_nextSets_77 : decode kc_M_nextSets 77 = .ok (.iload_n 1, 1) := by decide +kernel
theorem kd_M_nextSets_78 : decode kc_M_nextSets 78 = .ok (.iaload, 1) := by decide +kernel
theorem kd_M_nextSets_79 : decode kc_M_nextSets 79 = .ok (.iconst 1, 1) := by decide +kernel
theorem kd_M_nextSets_80 : decode kc_M_nextSets 80 = .ok (.aload_n 0, 1) := by decide +kernel
theorem kd_M_nextSets_81 : decode kc_M_nextSets 81 = .ok (.getfield 44, 3) := by decide +kernel
theorem kd_M_nextSets_84 : decode kc_M_nextSets 84 = .ok (.iload_n 1, 1) := by decide +kernel
theorem kd_M_nextSets_85 : decode kc_M_nextSets 85 = .ok (.iaload, 1) := by decide +kernel
theorem kd_M_nextSets_86 : decode kc_M_nextSets 86 = .ok (.ishl, 1) := by decide +kernel
theorem kd_M_nextSets_87 : decode kc_M_nextSets 87 = .ok (.if_icmp .ge 5, 3) := by decide +kernel
theorem kd_M_nextSets_90 : decode kc_M_nextSets 90 = .ok (.iload_n 1, 1) := by decide +kernel
theorem kd_M_nextSets_91 : decode kc_M_nextSets 91 = .ok (.ireturn, 1) := by decide +kernel
theorem kd_M_nextSets_92 : decode kc_M_nextSets 92 = .ok (.aload_n 0, 1) := by decide +kernel
theorem kd_M_nextSets_93 : decode kc_M_nextSets 93 = .ok (.getfield 47, 3) := by decide +kernel
theorem kd_M_nextSets_96 : decode kc_M_nextSets 96 = .ok (.iload_n 1, 1) := by decide +kernel
theorem kd_M_nextSets_97 : decode kc_M_nextSets 97 = .ok (.iconst 0, 1) := by decide +kernel
theorem kd_M_nextSets_98 : decode kc_M_nextSets 98 = .ok (.iastore, 1) := by decide +kernel
theorem kd_M_nextSets_99 : decode kc_M_nextSets 99 = .ok (.iinc 1 (-1), 3) := by decide +kernel
theorem kd_M_nextSets_102 : decode kc_M_nextSets 102 = .ok (.goto (-95), 3) := by decide +kernel
theorem kd_M_nextSets_105 : decode kc_M_nextSets 105 = .ok (.iconst (-1), 1) := by decide +kernel
theorem kd_M_nextSets_106 : decode kc_M_nextSets 106 = .ok (.ireturn, 1) := by decide +kernel
theorem kd_M_bits_0 : decode kc_M_bits 0 = .ok (.iconst 0, 1) := by decide +kernel
theorem kd_M_bits_1 : decode kc_M_bits 1 = .ok (.istore_n 1, 1) := by decide +kernel
theorem kd_M_bits_2 : decode kc_M_bits 2 = .ok (.iconst 0, 1) := by decide +kernel
theorem kd_M_bits_3 : decode kc_M_bits 3 = .ok (.istore_n 2, 1) := by decide +kernel
theorem kd_M_bits_4 : decode kc_M_bits 4 = .ok (.iload_n 2, 1) := by decide +kernel
theorem kd_M_bits_5 : decode kc_M_bits 5 = .ok (.bipush 8, 2) := by decide +kernel
theorem kd_M_bits_7 : decode kc_M_bits 7 = .ok (.if_icmp .ge 17, 3) := by decide +kernel
theorem kd_M_bits_10 : decode kc_M_bits 10 = .ok (.iload_n 1, 1) := by decide +kernel
theorem kd_M_bits_11 : decode kc_M_bits 11 = .ok (.iload_n 0, 1) := by decide +kernel
theorem kd_M_bits_12 : decode kc_M_bits 12 = .ok (.iload_n 2, 1) := by decide +kernel
theorem kd_M_bits_13 : decode kc_M_bits 13 = .ok (.ishr, 1) := by decide +kernel
theorem kd_M_bits_14 : decode kc_M_bits 14 = .ok (.iconst 1, 1) := by decide +kernel
theorem kd_M_bits_15 : decode kc_M_bits 15 = .ok (.iand, 1) := by decide +kernel
theorem kd_M_bits_16 : decode kc_M_bits 16 = .ok (.iadd, 1) := by decide +kernel
theorem kd_M_bits_17 : decode kc_M_bits 17 = .ok (.istore_n 1, 1) := by decide +kernel
theorem kd_M_bits_18 : decode kc_M_bits 18 = .ok (.iinc 2 1, 3) := by decide +kernel
theorem kd_M_bits_21 : decode kc_M_bits 21 = .ok (.goto (-17), 3) := by decide +kernel
theorem kd_M_bits_24 : decode kc_M_bits 24 = .ok (.iload_n 1, 1) := by decide +kernel
theorem kd_M_bits_25 : decode kc_M_bits 25 = .ok (.ireturn, 1) := by decide +kernel
theorem kd_M_byRule_0 : decode kc_M_byRule 0 = .ok (.iconst 0, 1) := by decide +kernel
theorem kd_M_byRule_1 : decode kc_M_byRule 1 = .ok (.istore_n 1, 1) := by decide +kernel
theorem kd_M_byRule_2 : decode kc_M_byRule 2 = .ok (.iload_n 1, 1) := by decide +kernel
theorem kd_M_byRule_3 : decode kc_M_byRule 3 = .ok (.aload_n 0, 1) := by decide +kernel
theorem kd_M_byRule_4 : decode kc_M_byRule 4 = .ok (.getfield 73, 3) := by decide +kernel
theorem kd_M_byRule_7 : decode kc_M_byRule 7 = .ok (.if_icmp .ge 59, 3) := by decide +kernel
theorem kd_M_byRule_10 : decode kc_M_byRule 10 = .ok (.aload_n 0, 1) := by decide +kernel
theorem kd_M_byRule_11 : decode kc_M_byRule 11 = .ok (.getfield 44, 3) := by decide +kernel
theorem kd_M_byRule_14 : decode kc_M_byRule 14 = .ok (.iload_n 1, 1) := by decide +kernel
theorem kd_M_byRule_15 : decode kc_M_byRule 15 = .ok (.iaload, 1) := by decide +kernel
theorem kd_M_byRule_16 : decode kc_M_byRule 16 = .ok (.aload_n 0, 1) := by decide +kernel
theorem kd_M_byRule_17 : decode kc_M_byRule 17 = .ok (.getfield 28, 3) := by decide +kernel
theorem kd_M_byRule_20 : decode kc_M_byRule 20 = .ok (.iconst 4, 1) := by decide +kernel
theorem kd_M_byRule_21 : decode kc_M_byRule 21 = .ok (.iload_n 1, 1) := by decide +kernel
theorem kd_M_byRule_22 : decode kc_M_byRule 22 = .ok (.imul, 1) := by decide +kernel
theorem kd_M_byRule_23 : decode kc_M_byRule 23 = .ok (.iconst 2, 1) := by decide +kernel
theorem kd_M_byRule_24 : decode kc_M_byRule 24 = .ok (.iadd, 1) := by decide +kernel
theorem kd_M_byRule_25 : decode kc_M_byRule 25 = .ok (.iaload, 1) := by decide +kernel
theorem kd_M_byRule_26 : decode kc_M_byRule 26 = .ok (.if_icmp .ge 12, 3) := by decide +kernel
theorem kd_M_byRule_29 : decode kc_M_byRule 29 = .ok (.aload_n 0, 1) := by decide +kernel
theorem kd_M_byRule_30 : decode kc_M_byRule 30 = .ok (.getfield 44, 3) := by decide +kernel
theorem kd_M_byRule_33 : decode kc_M_byRule 33 = .ok (.iload_n 1, 1) := by decide +kernel
theorem kd_M_byRule_34 : decode kc_M_byRule 34 = .ok (.iaload, 1) := by decide +kernel
theorem kd_M_byRule_35 : decode kc_M_byRule 35 = .ok (.goto 13, 3) := by decide +kernel
theorem kd_M_byRule_38 : decode kc_M_byRule 38 = .ok (.aload_n 0, 1) := by decide +kernel
theorem kd_M_byRule_39 : decode kc_M_byRule 39 = .ok (.getfield 28, 3) := by decide +kernel
theorem kd_M_byRule_42 : decode kc_M_byRule 42 = .ok (.iconst 4, 1) := by decide +kernel
theorem kd_M_byRule_43 : decode kc_M_byRule 43 = .ok (.iload_n 1, 1) := by decide +kernel
theorem kd_M_byRule_44 : decode kc_M_byRule 44 = .ok (.imul, 1) := by decide +kernel
theorem kd_M_byRule_45 : decode kc_M_byRule 45 = .ok (.iconst 2, 1) := by decide +kernel
theorem kd_M_byRule_46 : decode kc_M_byRule 46 = .ok (.iadd, 1) := by decide +kernel
theorem kd_M_byRule_47 : decode kc_M_byRule 47 = .ok (.iaload, 1) := by decide +kernel
theorem kd_M_byRule_48 : decode kc_M_byRule 48 = .ok (.istore_n 2, 1) := by decide +kernel
theorem kd_M_byRule_49 : decode kc_M_byRule 49 = .ok (.aload_n 0, 1) := by decide +kernel
theorem kd_M_byRule_50 : decode kc_M_byRule 50 = .ok (.getfield 50, 3) := by decide +kernel
theorem kd_M_byRule_53 : decode kc_M_byRule 53 = .ok (.iload_n 1, 1) := by decide +kernel
theorem kd_M_byRule_54 : decode kc_M_byRule 54 = .ok (.iconst 1, 1) := by decide +kernel
theorem kd_M_byRule_55 : decode kc_M_byRule 55 = .ok (.iload_n 2, 1) := by decide +kernel
theorem kd_M_byRule_56 : decode kc_M_byRule 56 = .ok (.ishl, 1) := by decide +kernel
theorem kd_M_byRule_57 : decode kc_M_byRule 57 = .ok (.iconst 1, 1) := by decide +kernel
theorem kd_M_byRule_58 : decode kc_M_byRule 58 = .ok (.isub, 1) := by decide +kernel
theorem kd_M_byRule_59 : decode kc_M_byRule 59 = .ok (.iastore, 1) := by decide +kernel
theorem kd_M_byRule_60 : decode kc_M_byRule 60 = .ok (.iinc 1 1, 3) := by decide +kernel
theorem kd_M_byRule_63 : decode kc_M_byRule 63 = .ok (.goto (-61), 3) := by decide +kernel
theorem kd_M_byRule_66 : decode kc_M_byRule 66 = .ok (.return_, 1) := by decide +kernel
theorem kd_M_exact_0 : decode kc_M_exact 0 = .ok (.aload_n 0, 1) := by decide +kernel
theorem kd_M_exact_1 : decode kc_M_exact 1 = .ok (.iconst 0, 1) := by decide +kernel
theorem kd_M_exact_2 : decode kc_M_exact 2 = .ok (.putfield 62, 3) := by decide +kernel
theorem kd_M_exact_5 : decode kc_M_exact 5 = .ok (.aload_n 0, 1) := by decide +kernel
theorem kd_M_exact_6 : decode kc_M_exact 6 = .ok (.getfield 128, 3) := by decide +kernel
theorem kd_M_exact_9 : decode kc_M_exact 9 = .ok (.ireturn, 1) := by decide +kernel
theorem kd_M_choices_0 : decode kc_M_choices 0 = .ok (.aload_n 0, 1) := by decide +kernel
theorem kd_M_choices_1 : decode kc_M_choices 1 = .ok (.iconst 0, 1) := by decide +kernel
theorem kd_M_choices_2 : decode kc_M_choices 2 = .ok (.putfield 62, 3) := by decide +kernel
theorem kd_M_choices_5 : decode kc_M_choices 5 = .ok (.aload_n 0, 1) := by decide +kernel
theorem kd_M_choices_6 : decode kc_M_choices 6 = .ok (.invokevirtual 124, 3) := by decide +kernel
theorem kd_M_choices_9 : decode kc_M_choices 9 = .ok (.ldc2_w 138, 3) := by decide +kernel
theorem kd_M_choices_12 : decode kc_M_choices 12 = .ok (.lcmp, 1) := by decide +kernel
theorem kd_M_choices_13 : decode kc_M_choices 13 = .ok (.ifCond .le 7, 3) := by decide +kernel
theorem kd_M_choices_16 : decode kc_M_choices 16 = .ok (.iconst (-1), 1) := by decide +kernel
theorem kd_M_choices_17 : decode kc_M_choices 17 = .ok (.goto 8, 3) := by decide +kernel
theorem kd_M_choices_20 : decode kc_M_choices 20 = .ok (.aload_n 0, 1) := by decide +kernel
theorem kd_M_choices_21 : decode kc_M_choices 21 = .ok (.invokevirtual 124, 3) := by decide +kernel
theorem kd_M_choices_24 : decode kc_M_choices 24 = .ok (.l2i, 1) := by decide +kernel
theorem kd_M_choices_25 : decode kc_M_choices 25 = .ok (.ireturn, 1) := by decide +kernel
theorem kd_M_bound_0 : decode kc_M_bound 0 = .ok (.aload_n 0, 1) := by decide +kernel
theorem kd_M_bound_1 : decode kc_M_bound 1 = .ok (.iconst 0, 1) := by decide +kernel
theorem kd_M_bound_2 : decode kc_M_bound 2 = .ok (.putfield 62, 3) := by decide +kernel
theorem kd_M_bound_5 : decode kc_M_bound 5 = .ok (.iconst 0, 1) := by decide +kernel
theorem kd_M_bound_6 : decode kc_M_bound 6 = .ok (.istore_n 1, 1) := by decide +kernel
theorem kd_M_bound_7 : decode kc_M_bound 7 = .ok (.iconst 0, 1) := by decide +kernel
theorem kd_M_bound_8 : decode kc_M_bound 8 = .ok (.istore_n 2, 1) := by decide +kernel
theorem kd_M_bound_9 : decode kc_M_bound 9 = .ok (.iload_n 2, 1) := by decide +kernel
theorem kd_M_bound_10 : decode kc_M_bound 10 = .ok (.aload_n 0, 1) := by decide +kernel
theorem kd_M_bound_11 : decode kc_M_bound 11 = .ok (.getfield 73, 3) := by decide +kernel
theorem kd_M_bound_14 : decode kc_M_bound 14 = .ok (.if_icmp .ge 88, 3) := by decide +kernel
theorem kd_M_bound_17 : decode kc_M_bound 17 = .ok (.sipush 1000, 3) := by decide +kernel
theorem kd_M_bound_20 : decode kc_M_bound 20 = .ok (.aload_n 0, 1) := by decide +kernel
theorem kd_M_bound_21 : decode kc_M_bound 21 = .ok (.getfield 25, 3) := by decide +kernel
theorem kd_M_bound_24 : decode kc_M_bound 24 = .ok (.iload_n 2, 1) := by decide +kernel
theorem kd_M_bound_25 : decode kc_M_bound 25 = .ok (.iaload, 1) := by decide +kernel
theorem kd_M_bound_26 : decode kc_M_bound 26 = .ok (.imul, 1) := by decide +kernel
theorem kd_M_bound_27 : decode kc_M_bound 27 = .ok (.istore_n 3, 1) := by decide +kernel
theorem kd_M_bound_28 : decode kc_M_bound 28 = .ok (.iconst 0, 1) := by decide +kernel
theorem kd_M_bound_29 : decode kc_M_bound 29 = .ok (.istore 4, 2) := by decide +kernel
theorem kd_M_bound_31 : decode kc_M_bound 31 = .ok (.iload 4, 2) := by decide +kernel
theorem kd_M_bound_33 : decode kc_M_bound 33 = .ok (.aload_n 0, 1) := by decide +kernel
theorem kd_M_bound_34 : decode kc_M_bound 34 = .ok (.getfield 66, 3) := by decide +kernel
theorem kd_M_bound_37 : decode kc_M_bound 37 = .ok (.if_icmp .ge 55, 3) := by decide +kernel
theorem kd_M_bound_40 : decode kc_M_bound 40 = .ok (.aload_n 0, 1) := by decide +kernel
theorem kd_M_bound_41 : decode kc_M_bound 41 = .ok (.iload 4, 2) := by decide +kernel
theorem kd_M_bound_43 : decode kc_M_bound 43 = .ok (.iload_n 2, 1) := by decide +kernel
theorem kd_M_bound_44 : decode kc_M_bound 44 = .ok (.invokevirtual 90, 3) := by decide +kernel
theorem kd_M_bound_47 : decode kc_M_bound 47 = .ok (.ifCond .eq 23, 3) := by decide +kernel
theorem kd_M_bound_50 : decode kc_M_bound 50 = .ok (.aload_n 0, 1) := by decide +kernel
theorem kd_M_bound_51 : decode kc_M_bound 51 = .ok (.getfield 25, 3) := by decide +kernel
theorem kd_M_bound_54 : decode kc_M_bound 54 = .ok (.iload_n 2, 1) := by decide +kernel
theorem kd_M_bound_55 : decode kc_M_bound 55 = .ok (.iaload, 1) := by decide +kernel
theorem kd_M_bound_56 : decode kc_M_bound 56 = .ok (.aload_n 0, 1) := by decide +kernel
theorem kd_M_bound_57 : decode kc_M_bound 57 = .ok (.iload 4, 2) := by decide +kernel
theorem kd_M_bound_59 : decode kc_M_bound 59 = .ok (.iload_n 2, 1) := by decide +kernel
theorem kd_M_bound_60 : decode kc_M_bound 60 = .ok (.invokevirtual 100, 3) := by decide +kernel
theorem kd_M_bound_63 : decode kc_M_bound 63 = .ok (.imul, 1) := by decide +kernel
theorem kd_M_bound_64 : decode kc_M_bound 64 = .ok (.bipush 20, 2) := by decide +kernel
theorem kd_M_bound_66 : decode kc_M_bound 66 = .ok (.iadd, 1) := by decide +kernel
theorem kd_M_bound_67 : decode kc_M_bound 67 = .ok (.goto 4, 3) := by decide +kernel
theorem kd_M_bound_70 : decode kc_M_bound 70 = .ok (.iload_n 3, 1) := by decide +kernel
theorem kd_M_bound_71 : decode kc_M_bound 71 = .ok (.istore 5, 2) := by decide +kernel
theorem kd_M_bound_73 : decode kc_M_bound 73 = .ok (.iload 5, 2) := by decide +kernel
theorem kd_M_bound_75 : decode kc_M_bound 75 = .ok (.iload_n 3, 1) := by decide +kernel
theorem kd_M_bound_76 : decode kc_M_bound 76 = .ok (.if_icmp .ge 8, 3) := by decide +kernel
theorem kd_M_bound_79 : decode kc_M_bound 79 = .ok (.iload 5, 2) := by decide +kernel
theorem kd_M_bound_81 : decode kc_M_bound 81 = .ok (.goto 4, 3) := by decide +kernel
theorem kd_M_bound_84 : decode kc_M_bound 84 = .ok (.iload_n 3, 1) := by decide +kernel
theorem kd_M_bound_85 : decode kc_M_bound 85 = .ok (.istore_n 3, 1) := by decide +kernel
theorem kd_M_bound_86 : decode kc_M_bound 86 = .ok (.iinc 4 1, 3) := by decide +kernel
theorem kd_M_bound_89 : decode kc_M_bound 89 = .ok (.goto (-58), 3) := by decide +kernel
theorem kd_M_bound_92 : decode kc_M_bound 92 = .ok (.iload_n 1, 1) := by decide +kernel
theorem kd_M_bound_93 : decode kc_M_bound 93 = .ok (.iload_n 3, 1) := by decide +kernel
theorem kd_M_bound_94 : decode kc_M_bound 94 = .ok (.iadd, 1) := by decide +kernel
theorem kd_M_bound_95 : decode kc_M_bound 95 = .ok (.istore_n 1, 1) := by decide +kernel
theorem kd_M_bound_96 : decode kc_M_bound 96 = .ok (.iinc 2 1, 3) := by decide +kernel
theorem kd_M_bound_99 : decode kc_M_bound 99 = .ok (.goto (-90), 3) := by decide +kernel
theorem kd_M_bound_102 : decode kc_M_bound 102 = .ok (.iload_n 1, 1) := by decide +kernel
theorem kd_M_bound_103 : decode kc_M_bound 103 = .ok (.ireturn, 1) := by decide +kernel
theorem kd_M_give_0 : decode kc_M_give 0 = .ok (.aload_n 0, 1) := by decide +kernel
theorem kd_M_give_1 : decode kc_M_give 1 = .ok (.iload_n 1, 1) := by decide +kernel
theorem kd_M_give_2 : decode kc_M_give 2 = .ok (.invokevirtual 76, 3) := by decide +kernel
theorem kd_M_give_5 : decode kc_M_give 5 = .ok (.ifCond .eq 12, 3) := by decide +kernel
theorem kd_M_give_8 : decode kc_M_give 8 = .ok (.aload_n 0, 1) := by decide +kernel
theorem kd_M_give_9 : decode kc_M_give 9 = .ok (.iload_n 1, 1) := by decide +kernel
theorem kd_M_give_10 : decode kc_M_give 10 = .ok (.iload_n 2, 1) := by decide +kernel
theorem kd_M_give_11 : decode kc_M_give 11 = .ok (.invokevirtual 140, 3) := by decide +kernel
theorem kd_M_give_14 : decode kc_M_give 14 = .ok (.goto 4, 3) := by decide +kernel
theorem kd_M_give_17 : decode kc_M_give 17 = .ok (.iconst (-1), 1) := by decide +kernel
theorem kd_M_give_18 : decode kc_M_give 18 = .ok (.istore 4, 2) := by decide +kernel
theorem kd_M_give_20 : decode kc_M_give 20 = .ok (.aload_n 0, 1) := by decide +kernel
theorem kd_M_give_21 : decode kc_M_give 21 = .ok (.iload 4, 2) := by decide +kernel
theorem kd_M_give_23 : decode kc_M_give 23 = .ok (.iconst (-1), 1) := by decide +kernel
theorem kd_M_give_24 : decode kc_M_give 24 = .ok (.if_icmp .ne 7, 3) := by decide +kernel
theorem kd_M_give_27 : decode kc_M_give 27 = .ok (.iconst 1, 1) := by decide +kernel
theorem kd_M_give_28 : decode kc_M_give 28 = .ok (.goto 17, 3) := by decide +kernel
theorem kd_M_give_31 : decode kc_M_give 31 = .ok (.iload_n 3, 1) := by decide +kernel
theorem kd_M_give_32 : decode kc_M_give 32 = .ok (.iconst 0, 1) := by decide +kernel
theorem kd_M_give_33 : decode kc_M_give 33 = .ok (.iconst 2, 1) := by decide +kernel
theorem kd_M_give_34 : decode kc_M_give 34 = .ok (.invokestatic 69, 3) := by decide +kernel
theorem kd_M_give_37 : decode kc_M_give 37 = .ok (.ifCond .ne 7, 3) := by decide +kernel
theorem kd_M_give_40 : decode kc_M_give 40 = .ok (.iconst 2, 1) := by decide +kernel
theorem kd_M_give_41 : decode kc_M_give 41 = .ok (.goto 4, 3) := by decide +kernel
theorem kd_M_give_44 : decode kc_M_give 44 = .ok (.iconst 0, 1) := by decide +kernel
theorem kd_M_give_45 : decode kc_M_give 45 = .ok (.putfield 62, 3) := by decide +kernel
theorem kd_M_give_48 : decode kc_M_give 48 = .ok (.aload_n 0, 1) := by decide +kernel
theorem kd_M_give_49 : decode kc_M_give 49 = .ok (.getfield 62, 3) := by decide +kernel
theorem kd_M_give_52 : decode kc_M_give 52 = .ok (.ifCond .le 5, 3) := by decide +kernel
theorem kd_M_give_55 : decode kc_M_give 55 = .ok (.iconst 0, 1) := by decide +kernel
theorem kd_M_give_56 : decode kc_M_give 56 = .ok (.ireturn, 1) := by decide +kernel
theorem kd_M_give_57 : decode kc_M_give 57 = .ok (.iload_n 3, 1) := by decide +kernel
theorem kd_M_give_58 : decode kc_M_give 58 = .ok (.ifCond .ne 8, 3) := by decide +kernel
theorem kd_M_give_61 : decode kc_M_give 61 = .ok (.iload 4, 2) := by decide +kernel
theorem kd_M_give_63 : decode kc_M_give 63 = .ok (.goto 30, 3) := by decide +kernel
theorem kd_M_give_66 : decode kc_M_give 66 = .ok (.iload_n 3, 1) := by decide +kernel
theorem kd_M_give_67 : decode kc_M_give 67 = .ok (.iconst 1, 1) := by decide +kernel
theorem kd_M_give_68 : decode kc_M_give 68 = .ok (.if_icmp .ne 18, 3) := by decide +kernel
theorem kd_M_give_71 : decode kc_M_give 71 = .ok (.aload_n 0, 1) := by decide +kernel
theorem kd_M_give_72 : decode kc_M_give 72 = .ok (.getfield 38, 3) := by decide +kernel
theorem kd_M_give_75 : decode kc_M_give 75 = .ok (.bipush 8, 2) := by decide +kernel
theorem kd_M_give_77 : decode kc_M_give 77 = .ok (.iload_n 1, 1) := by decide +kernel
theorem kd_M_give_78 : decode kc_M_give 78 = .ok (.imul, 1) := by decide +kernel
theorem kd_M_give_79 : decode kc_M_give 79 = .ok (.iload 4, 2) := by decide +kernel
theorem kd_M_give_81 : decode kc_M_give 81 = .ok (.iadd, 1) := by decide +kernel
theorem kd_M_give_82 : decode kc_M_give 82 = .ok (.iaload, 1) := by decide +kernel
theorem kd_M_give_83 : decode kc_M_give 83 = .ok (.goto 10, 3) := by decide +kernel
theorem kd_M_give_86 : decode kc_M_give 86 = .ok (.aload_n 0, 1) := by decide +kernel
theorem kd_M_give_87 : decode kc_M_give 87 = .ok (.iload 4, 2) := by decide +kernel
theorem kd_M_give_89 : decode kc_M_give 89 = .ok (.iload_n 1, 1) := by decide +kernel
theorem kd_M_give_90 : decode kc_M_give 90 = .ok (.invokevirtual 100, 3) := by decide +kernel
theorem kd_M_give_93 : decode kc_M_give 93 = .ok (.ireturn, 1) := by decide +kernel
theorem kd_M_giftAt_0 : decode kc_M_giftAt 0 = .ok (.iload_n 2, 1) := by decide +kernel
theorem kd_M_giftAt_1 : decode kc_M_giftAt 1 = .ok (.istore_n 3, 1) := by decide +kernel
theorem kd_M_giftAt_2 : decode kc_M_giftAt 2 = .ok (.iconst 0, 1) := by decide +kernel
theorem kd_M_giftAt_3 : decode kc_M_giftAt 3 = .ok (.istore 4, 2) := by decide +kernel
theorem kd_M_giftAt_5 : decode kc_M_giftAt 5 = .ok (.iload 4, 2) := by decide +kernel
theorem kd_M_giftAt_7 : decode kc_M_giftAt 7 = .ok (.aload_n 0, 1) := by decide +kernel
theorem kd_M_giftAt_8 : decode kc_M_giftAt 8 = .ok (.getfield 66, 3) := by decide +kernel
theorem kd_M_giftAt_11 : decode kc_M_giftAt 11 = .ok (.if_icmp .ge 49, 3) := by decide +kernel
theorem kd_M_giftAt_14 : decode kc_M_giftAt 14 = .ok (.iload_n 2, 1) := by decide +kernel
theorem kd_M_giftAt_15 : decode kc_M_giftAt 15 = .ok (.ifCond .lt 45, 3) := by decide +kernel
theorem kd_M_giftAt_18 : decode kc_M_giftAt 18 = .ok (.aload_n 0, 1) := by decide +kernel
theorem kd_M_giftAt_19 : decode kc_M_giftAt 19 = .ok (.iload 4, 2) := by decide +kernel
theorem kd_M_giftAt_21 : decode kc_M_giftAt 21 = .ok (.invokevirtual 96, 3) := by decide +kernel
theorem kd_M_giftAt_24 : decode kc_M_giftAt 24 = .ok (.istore 5, 2) := by decide +kernel
theorem kd_M_giftAt_26 : decode kc_M_giftAt 26 = .ok (.aload_n 0, 1) := by decide +kernel
theorem kd_M_giftAt_27 : decode kc_M_giftAt 27 = .ok (.getfield 38, 3) := by decide +kernel
theorem kd_M_giftAt_30 : decode kc_M_giftAt 30 = .ok (.bipush 8, 2) := by decide +kernel
theorem kd_M_giftAt_32 : decode kc_M_giftAt 32 = .ok (.iload_n 1, 1) := by decide +kernel
theorem kd_M_giftAt_33 : decode kc_M_giftAt 33 = .ok (.imul, 1) := by decide +kernel
theorem kd_M_giftAt_34 : decode kc_M_giftAt 34 = .ok (.iload 5, 2) := by decide +kernel
theorem kd_M_giftAt_36 : decode kc_M_giftAt 36 = .ok (.iadd, 1) := by decide +kernel
theorem kd_M_giftAt_37 : decode kc_M_giftAt 37 = .ok (.iaload, 1) := by decide +kernel
theorem kd_M_giftAt_38 : decode kc_M_giftAt 38 = .ok (.ifCond .ne 6, 3) := by decide +kernel
theorem kd_M_giftAt_41 : decode kc_M_giftAt 41 = .ok (.goto 13, 3) := by decide +kernel
theorem kd_M_giftAt_44 : decode kc_M_giftAt 44 = .ok (.iload_n 3, 1) := by decide +kernel
theorem kd_M_giftAt_45 : decode kc_M_giftAt 45 = .ok (.ifCond .ne 6, 3) := by decide +kernel
theorem kd_M_giftAt_48 : decode kc_M_giftAt 48 = .ok (.iload 5, 2) := by decide +kernel
theorem kd_M_giftAt_50 : decode kc_M_giftAt 50 = .ok (.ireturn, 1) := by decide +kernel
theorem kd_M_giftAt_51 : decode kc_M_giftAt 51 = .ok (.iinc 3 (-1), 3) := by decide +kernel
theorem kd_M_giftAt_54 : decode kc_M_giftAt 54 = .ok (.iinc 4 1, 3) := by decide +kernel
theorem kd_M_giftAt_57 : decode kc_M_giftAt 57 = .ok (.goto (-52), 3) := by decide +kernel
theorem kd_M_giftAt_60 : decode kc_M_giftAt 60 = .ok (.iconst (-1), 1) := by decide +kernel
theorem kd_M_giftAt_61 : decode kc_M_giftAt 61 = .ok (.ireturn, 1) := by decide +kernel
theorem kd_M_held_0 : decode kc_M_held 0 = .ok (.aload_n 0, 1) := by decide +kernel
theorem kd_M_held_1 : decode kc_M_held 1 = .ok (.aload_n 0, 1) := by decide +kernel
theorem kd_M_held_2 : decode kc_M_held 2 = .ok (.iload_n 1, 1) := by decide +kernel
theorem kd_M_held_3 : decode kc_M_held 3 = .ok (.invokevirtual 84, 3) := by decide +kernel
theorem kd_M_held_6 : decode kc_M_held 6 = .ok (.ifCond .eq 7, 3) := by decide +kernel
theorem kd_M_held_9 : decode kc_M_held 9 = .ok (.iconst 0, 1) := by decide +kernel
theorem kd_M_held_10 : decode kc_M_held 10 = .ok (.goto 4, 3) := by decide +kernel
theorem kd_M_held_13 : decode kc_M_held 13 = .ok (.iconst 1, 1) := by decide +kernel
theorem kd_M_held_14 : decode kc_M_held 14 = .ok (.putfield 62, 3) := by decide +kernel
theorem kd_M_held_17 : decode kc_M_held 17 = .ok (.aload_n 0, 1) := by decide +kernel
theorem kd_M_held_18 : decode kc_M_held 18 = .ok (.getfield 62, 3) := by decide +kernel
theorem kd_M_held_21 : decode kc_M_held 21 = .ok (.ifCond .le 7, 3) := by decide +kernel
theorem kd_M_held_24 : decode kc_M_held 24 = .ok (.iconst 0, 1) := by decide +kernel
theorem kd_M_held_25 : decode kc_M_held 25 = .ok (.goto 8, 3) := by decide +kernel
theorem kd_M_held_28 : decode kc_M_held 28 = .ok (.aload_n 0, 1) := by decide +kernel
theorem kd_M_held_29 : decode kc_M_held 29 = .ok (.iload_n 1, 1) := by decide +kernel
theorem kd_M_held_30 : decode kc_M_held 30 = .ok (.invokevirtual 143, 3) := by decide +kernel
theorem kd_M_held_33 : decode kc_M_held 33 = .ok (.ireturn, 1) := by decide +kernel
theorem kd_M_heldOf_0 : decode kc_M_heldOf 0 = .ok (.iconst 0, 1) := by decide +kernel
theorem kd_M_heldOf_1 : decode kc_M_heldOf 1 = .ok (.istore_n 2, 1) := by decide +kernel
theorem kd_M_heldOf_2 : decode kc_M_heldOf 2 = .ok (.iconst 0, 1) := by decide +kernel
theorem kd_M_heldOf_3 : decode kc_M_heldOf 3 = .ok (.istore_n 3, 1) := by decide +kernel
theorem kd_M_heldOf_4 : decode kc_M_heldOf 4 = .ok (.iload_n 3, 1) := by decide +kernel
theorem kd_M_heldOf_5 : decode kc_M_heldOf 5 = .ok (.aload_n 0, 1) := by decide +kernel
theorem kd_M_heldOf_6 : decode kc_M_heldOf 6 = .ok (.getfield 73, 3) := by decide +kernel
theorem kd_M_heldOf_9 : decode kc_M_heldOf 9 = .ok (.if_icmp .ge 23, 3) := by decide +kernel
theorem kd_M_heldOf_12 : decode kc_M_heldOf 12 = .ok (.iload_n 2, 1) := by decide +kernel
theorem kd_M_heldOf_13 : decode kc_M_heldOf 13 = .ok (.aload_n 0, 1) := by decide +kernel
theorem kd_M_heldOf_14 : decode kc_M_heldOf 14 = .ok (.getfield 38, 3) := by decide +kernel
theorem kd_M_heldOf_17 : decode kc_M_heldOf 17 = .ok (.bipush 8, 2) := by decide +kernel
theorem kd_M_heldOf_19 : decode kc_M_heldOf 19 = .ok (.iload_n 3, 1) := by decide +kernel
theorem kd_M_heldOf_20 : decode kc_M_heldOf 20 = .ok (.imul, 1) := by decide +kernel
theorem kd_M_heldOf_21 : decode kc_M_heldOf 21 = .ok (.iload_n 1, 1) := by decide +kernel
theorem kd_M_heldOf_22 : decode kc_M_heldOf 22 = .ok (.iadd, 1) := by decide +kernel
theorem kd_M_heldOf_23 : decode kc_M_heldOf 23 = .ok (.iaload, 1) := by decide +kernel
theorem kd_M_heldOf_24 : decode kc_M_heldOf 24 = .ok (.iadd, 1) := by decide +kernel
theorem kd_M_heldOf_25 : decode kc_M_heldOf 25 = .ok (.istore_n 2, 1) := by decide +kernel
theorem kd_M_heldOf_26 : decode kc_M_heldOf 26 = .ok (.iinc 3 1, 3) := by decide +kernel
theorem kd_M_heldOf_29 : decode kc_M_heldOf 29 = .ok (.goto (-25), 3) := by decide +kernel
theorem kd_M_heldOf_32 : decode kc_M_heldOf 32 = .ok (.iload_n 2, 1) := by decide +kernel
theorem kd_M_heldOf_33 : decode kc_M_heldOf 33 = .ok (.ireturn, 1) := by decide +kernel
theorem kd_M_left_0 : decode kc_M_left 0 = .ok (.aload_n 0, 1) := by decide +kernel
theorem kd_M_left_1 : decode kc_M_left 1 = .ok (.aload_n 0, 1) := by decide +kernel
theorem kd_M_left_2 : decode kc_M_left 2 = .ok (.iload_n 1, 1) := by decide +kernel
theorem kd_M_left_3 : decode kc_M_left 3 = .ok (.invokevirtual 84, 3) := by decide +kernel
theorem kd_M_left_6 : decode kc_M_left 6 = .ok (.ifCond .eq 7, 3) := by decide +kernel
theorem kd_M_left_9 : decode kc_M_left 9 = .ok (.iconst 0, 1) := by decide +kernel
theorem kd_M_left_10 : decode kc_M_left 10 = .ok (.goto 4, 3) := by decide +kernel
theorem kd_M_left_13 : decode kc_M_left 13 = .ok (.iconst 1, 1) := by decide +kernel
theorem kd_M_left_14 : decode kc_M_left 14 = .ok (.putfield 62, 3) := by decide +kernel
theorem kd_M_left_17 : decode kc_M_left 17 = .ok (.aload_n 0, 1) := by decide +kernel
theorem kd_M_left_18 : decode kc_M_left 18 = .ok (.getfield 62, 3) := by decide +kernel
theorem kd_M_left_21 : decode kc_M_left 21 = .ok (.ifCond .le 7, 3) := by decide +kernel
theorem kd_M_left_24 : decode kc_M_left 24 = .ok (.iconst 0, 1) := by decide +kernel
theorem kd_M_left_25 : decode kc_M_left 25 = .ok (.goto 15, 3) := by decide +kernel
theorem kd_M_left_28 : decode kc_M_left 28 = .ok (.aload_n 0, 1) := by decide +kernel
theorem kd_M_left_29 : decode kc_M_left 29 = .ok (.getfield 16, 3) := by decide +kernel
theorem kd_M_left_32 : decode kc_M_left 32 = .ok (.iload_n 1, 1) := by decide +kernel
theorem kd_M_left_33 : decode kc_M_left 33 = .ok (.iaload, 1) := by decide +kernel
theorem kd_M_left_34 : decode kc_M_left 34 = .ok (.aload_n 0, 1) := by decide +kernel
theorem kd_M_left_35 : decode kc_M_left 35 = .ok (.iload_n 1, 1) := by decide +kernel
theorem kd_M_left_36 : decode kc_M_left 36 = .ok (.invokevirtual 143, 3) := by decide +kernel
theorem kd_M_left_39 : decode kc_M_left 39 = .ok (.isub, 1) := by decide +kernel
theorem kd_M_left_40 : decode kc_M_left 40 = .ok (.ireturn, 1) := by decide +kernel
theorem kd_M_bar_0 : decode kc_M_bar 0 = .ok (.aload_n 0, 1) := by decide +kernel
theorem kd_M_bar_1 : decode kc_M_bar 1 = .ok (.aload_n 0, 1) := by decide +kernel
theorem kd_M_bar_2 : decode kc_M_bar 2 = .ok (.iload_n 1, 1) := by decide +kernel
theorem kd_M_bar_3 : decode kc_M_bar 3 = .ok (.invokevirtual 76, 3) := by decide +kernel
theorem kd_M_bar_6 : decode kc_M_bar 6 = .ok (.ifCond .eq 7, 3) := by decide +kernel
theorem kd_M_bar_9 : decode kc_M_bar 9 = .ok (.iconst 0, 1) := by decide +kernel
theorem kd_M_bar_10 : decode kc_M_bar 10 = .ok (.goto 4, 3) := by decide +kernel
theorem kd_M_bar_13 : decode kc_M_bar 13 = .ok (.iconst 1, 1) := by decide +kernel
theorem kd_M_bar_14 : decode kc_M_bar 14 = .ok (.putfield 62, 3) := by decide +kernel
theorem kd_M_bar_17 : decode kc_M_bar 17 = .ok (.aload_n 0, 1) := by decide +kernel
theorem kd_M_bar_18 : decode kc_M_bar 18 = .ok (.getfield 62, 3) := by decide +kernel
theorem kd_M_bar_21 : decode kc_M_bar 21 = .ok (.ifCond .le 5, 3) := by decide +kernel
theorem kd_M_bar_24 : decode kc_M_bar 24 = .ok (.iconst 0, 1) := by decide +kernel
theorem kd_M_bar_25 : decode kc_M_bar 25 = .ok (.ireturn, 1) := by decide +kernel
theorem kd_M_bar_26 : decode kc_M_bar 26 = .ok (.iconst 1, 1) := by decide +kernel
theorem kd_M_bar_27 : decode kc_M_bar 27 = .ok (.istore_n 2, 1) := by decide +kernel
theorem kd_M_bar_28 : decode kc_M_bar 28 = .ok (.iload_n 2, 1) := by decide +kernel
theorem kd_M_bar_29 : decode kc_M_bar 29 = .ok (.iconst 5, 1) := by decide +kernel
theorem kd_M_bar_30 : decode kc_M_bar 30 = .ok (.if_icmp .ge 97, 3) := by decide +kernel
theorem kd_M_bar_33 : decode kc_M_bar 33 = .ok (.iconst 0, 1) := by decide +kernel
theorem kd_M_bar_34 : decode kc_M_bar 34 = .ok (.istore_n 3, 1) := by decide +kernel
theorem kd_M_bar_35 : decode kc_M_bar 35 = .ok (.iconst 0, 1) := by decide +kernel
theorem kd_M_bar_36 : decode kc_M_bar 36 = .ok (.istore 4, 2) := by decide +kernel
theorem kd_M_bar_38 : decode kc_M_bar 38 = .ok (.iload 4, 2) := by decide +kernel
theorem kd_M_bar_40 : decode kc_M_bar 40 = .ok (.aload_n 0, 1) := by decide +kernel
theorem kd_M_bar_41 : decode kc_M_bar 41 = .ok (.getfield 66, 3) := by decide +kernel
theorem kd_M_bar_44 : decode kc_M_bar 44 = .ok (.if_icmp .ge 71, 3) := by decide +kernel
theorem kd_M_bar_47 : decode kc_M_bar 47 = .ok (.iload_n 3, 1) := by decide +kernel
theorem kd_M_bar_48 : decode kc_M_bar 48 = .ok (.ifCond .ne 55, 3) := by decide +kernel
theorem kd_M_bar_51 : decode kc_M_bar 51 = .ok (.aload_n 0, 1) := by decide +kernel
theorem kd_M_bar_52 : decode kc_M_bar 52 = .ok (.iload 4, 2) := by decide +kernel
theorem kd_M_bar_54 : decode kc_M_bar 54 = .ok (.iload_n 1, 1) := by decide +kernel
theorem kd_M_bar_55 : decode kc_M_bar 55 = .ok (.iload_n 2, 1) := by decide +kernel
theorem kd_M_bar_56 : decode kc_M_bar 56 = .ok (.iconst 3, 1) := by decide +kernel
theorem kd_M_bar_57 : decode kc_M_bar 57 = .ok (.if_icmp .ge 7, 3) := by decide +kernel
theorem kd_M_bar_60 : decode kc_M_bar 60 = .ok (.iload_n 2, 1) := by decide +kernel
theorem kd_M_bar_61 : decode kc_M_bar 61 = .ok (.goto 4, 3) := by decide +kernel
theorem kd_M_bar_64 : decode kc_M_bar 64 = .ok (.iconst 3, 1) := by decide +kernel
theorem kd_M_bar_65 : decode kc_M_bar 65 = .ok (.invokevirtual 87, 3) := by decide +kernel
theorem kd_M_bar_68 : decode kc_M_bar 68 = .ok (.ifCond .eq 39, 3) := by decide +kernel
theorem kd_M_bar_71 : decode kc_M_bar 71 = .ok (.iload_n 2, 1) := by decide +kernel
theorem kd_M_bar_72 : decode kc_M_bar 72 = .ok (.iconst 4, 1) := by decide +kernel
theorem kd_M_bar_73 : decode kc_M_bar 73 = .ok (.if_icmp .lt 30, 3) := by decide +kernel
theorem kd_M_bar_76 : decode kc_M_bar 76 = .ok (.aload_n 0, 1) := by decide +kernel
theorem kd_M_bar_77 : decode kc_M_bar 77 = .ok (.getfield 16, 3) := by decide +kernel
theorem kd_M_bar_80 : decode kc_M_bar 80 = .ok (.iload 4, 2) := by decide +kernel
theorem kd_M_bar_82 : decode kc_M_bar 82 = .ok (.iaload, 1) := by decide +kernel
theorem kd_M_bar_83 : decode kc_M_bar 83 = .ok (.aload_n 0, 1) := by decide +kernel
theorem kd_M_bar_84 : decode kc_M_bar 84 = .ok (.iload 4, 2) := by decide +kernel
theorem kd_M_bar_86 : decode kc_M_bar 86 = .ok (.invokevirtual 143, 3) := by decide +kernel
theorem kd_M_bar_89 : decode kc_M_bar 89 = .ok (.isub, 1) := by decide +kernel
theorem kd_M_bar_90 : decode kc_M_bar 90 = .ok (.aload_n 0, 1) := by decide +kernel
theorem kd_M_bar_91 : decode kc_M_bar 91 = .ok (.getfield 28, 3) := by decide +kernel
theorem kd_M_bar_94 : decode kc_M_bar 94 = .ok (.iconst 4, 1) := by decide +kernel
theorem kd_M_bar_95 : decode kc_M_bar 95 = .ok (.iload_n 1, 1) := by decide +kernel
theorem kd_M_bar_96 : decode kc_M_bar 96 = .ok (.imul, 1) := by decide +kernel
theorem kd_M_bar_97 : decode kc_M_bar 97 = .ok (.iconst 1, 1) := by decide +kernel
theorem kd_M_bar_98 : decode kc_M_bar 98 = .ok (.iadd, 1) := by decide +kernel
theorem kd_M_bar_99 : decode kc_M_bar 99 = .ok (.iaload, 1) := by decide +kernel
theorem kd_M_bar_100 : decode kc_M_bar 100 = .ok (.if_icmp .lt 7, 3) := by decide +kernel
theorem kd_M_bar_103 : decode kc_M_bar 103 = .ok (.iconst 1, 1) := by decide +kernel
theorem kd_M_bar_104 : decode kc_M_bar 104 = .ok (.goto 4, 3) := by decide +kernel
theorem kd_M_bar_107 : decode kc_M_bar 107 = .ok (.iconst 0, 1) := by decide +kernel
theorem kd_M_bar_108 : decode kc_M_bar 108 = .ok (.istore_n 3, 1) := by decide +kernel
theorem kd_M_bar_109 : decode kc_M_bar 109 = .ok (.iinc 4 1, 3) := by decide +kernel
theorem kd_M_bar_112 : decode kc_M_bar 112 = .ok (.goto (-74), 3) := by decide +kernel
theorem kd_M_bar_115 : decode kc_M_bar 115 = .ok (.iload_n 3, 1) := by decide +kernel
theorem kd_M_bar_116 : decode kc_M_bar 116 = .ok (.ifCond .ne 5, 3) := by decide +kernel
theorem kd_M_bar_119 : decode kc_M_bar 119 = .ok (.iload_n 2, 1) := by decide +kernel
theorem kd_M_bar_120 : decode kc_M_bar 120 = .ok (.ireturn, 1) := by decide +kernel
theorem kd_M_bar_121 : decode kc_M_bar 121 = .ok (.iinc 2 1, 3) := by decide +kernel
theorem kd_M_bar_124 : decode kc_M_bar 124 = .ok (.goto (-96), 3) := by decide +kernel
theorem kd_M_bar_127 : decode kc_M_bar 127 = .ok (.iconst 0, 1) := by decide +kernel
theorem kd_M_bar_128 : decode kc_M_bar 128 = .ok (.ireturn, 1) := by decide +kernel
theorem kd_M_change_0 : decode kc_M_change 0 = .ok (.aload_n 0, 1) := by decide +kernel
theorem kd_M_change_1 : decode kc_M_change 1 = .ok (.aload_n 0, 1) := by decide +kernel
theorem kd_M_change_2 : decode kc_M_change 2 = .ok (.iload_n 1, 1) := by decide +kernel
theorem kd_M_change_3 : decode kc_M_change 3 = .ok (.invokevirtual 84, 3) := by decide +kernel
theorem kd_M_change_6 : decode kc_M_change 6 = .ok (.ifCond .ne 7, 3) := by decide +kernel
theorem kd_M_change_9 : decode kc_M_change 9 = .ok (.iconst 1, 1) := by decide +kernel
theorem kd_M_change_10 : decode kc_M_change 10 = .ok (.goto 19, 3) := by decide +kernel
theorem kd_M_change_13 : decode kc_M_change 13 = .ok (.iload_n 2, 1) := by decide +kernel
theorem kd_M_change_14 : decode kc_M_change 14 = .ok (.iconst 0, 1) := by decide +kernel
theorem kd_M_change_15 : decode kc_M_change 15 = .ok (.sipush 500, 3) := by decide +kernel
theorem kd_M_change_18 : decode kc_M_change 18 = .ok (.invokestatic 69, 3) := by decide +kernel
theorem kd_M_change_21 : decode kc_M_change 21 = .ok (.ifCond .ne 7, 3) := by decide +kernel
theorem kd_M_change_24 : decode kc_M_change 24 = .ok (.iconst 2, 1) := by decide +kernel
theorem kd_M_change_25 : decode kc_M_change 25 = .ok (.goto 4, 3) := by decide +kernel
theorem kd_M_change_28 : decode kc_M_change 28 = .ok (.iconst 0, 1) := by decide +kernel
theorem kd_M_change_29 : decode kc_M_change 29 = .ok (.putfield 62, 3) := by decide +kernel
theorem kd_M_change_32 : decode kc_M_change 32 = .ok (.aload_n 0, 1) := by decide +kernel
theorem kd_M_change_33 : decode kc_M_change 33 = .ok (.getfield 62, 3) := by decide +kernel
theorem kd_M_change_36 : decode kc_M_change 36 = .ok (.ifCond .le 5, 3) := by decide +kernel
theorem kd_M_change_39 : decode kc_M_change 39 = .ok (.iconst 0, 1) := by decide +kernel
theorem kd_M_change_40 : decode kc_M_change 40 = .ok (.ireturn, 1) := by decide +kernel
theorem kd_M_change_41 : decode kc_M_change 41 = .ok (.aload_n 0, 1) := by decide +kernel
theorem kd_M_change_42 : decode kc_M_change 42 = .ok (.getfield 16, 3) := by decide +kernel
theorem kd_M_change_45 : decode kc_M_change 45 = .ok (.iload_n 1, 1) := by decide +kernel
theorem kd_M_change_46 : decode kc_M_change 46 = .ok (.iload_n 2, 1) := by decide +kernel
theorem kd_M_change_47 : decode kc_M_change 47 = .ok (.iastore, 1) := by decide +kernel
theorem kd_M_change_48 : decode kc_M_change 48 = .ok (.iconst 0, 1) := by decide +kernel
theorem kd_M_change_49 : decode kc_M_change 49 = .ok (.istore_n 3, 1) := by decide +kernel
theorem kd_M_change_50 : decode kc_M_change 50 = .ok (.aload_n 0, 1) := by decide +kernel
theorem kd_M_change_51 : decode kc_M_change 51 = .ok (.getfield 73, 3) := by decide +kernel
theorem kd_M_change_54 : decode kc_M_change 54 = .ok (.iconst 1, 1) := by decide +kernel
theorem kd_M_change_55 : decode kc_M_change 55 = .ok (.isub, 1) := by decide +kernel
theorem kd_M_change_56 : decode kc_M_change 56 = .ok (.istore 4, 2) := by decide +kernel
theorem kd_M_change_58 : decode kc_M_change 58 = .ok (.iload 4, 2) := by decide +kernel
theorem kd_M_change_60 : decode kc_M_change 60 = .ok (.ifCond .lt 144, 3) := by decide +kernel
theorem kd_M_change_63 : decode kc_M_change 63 = .ok (.aload_n 0, 1) := by decide +kernel
theorem kd_M_change_64 : decode kc_M_change 64 = .ok (.iload_n 1, 1) := by decide +kernel
theorem kd_M_change_65 : decode kc_M_change 65 = .ok (.invokevirtual 143, 3) := by decide +kernel
theorem kd_M_change_68 : decode kc_M_change 68 = .ok (.iload_n 2, 1) := by decide +kernel
theorem kd_M_change_69 : decode kc_M_change 69 = .ok (.isub, 1) := by decide +kernel
theorem kd_M_change_70 : decode kc_M_change 70 = .ok (.istore 5, 2) := by decide +kernel
theorem kd_M_change_72 : decode kc_M_change 72 = .ok (.iload 5, 2) := by decide +kernel
theorem kd_M_change_74 : decode kc_M_change 74 = .ok (.ifCond .le 124, 3) := by decide +kernel
theorem kd_M_change_77 : decode kc_M_change 77 = .ok (.aload_n 0, 1) := by decide +kernel
theorem kd_M_change_78 : decode kc_M_change 78 = .ok (.getfield 38, 3) := by decide +kernel
theorem kd_M_change_81 : decode kc_M_change 81 = .ok (.bipush 8, 2) := by decide +kernel
theorem kd_M_change_83 : decode kc_M_change 83 = .ok (.iload 4, 2) := by decide +kernel
theorem kd_M_change_85 : decode kc_M_change 85 = .ok (.imul, 1) := by decide +kernel
theorem kd_M_change_86 : decode kc_M_change 86 = .ok (.iload_n 1, 1) := by decide +kernel
theorem kd_M_change_87 : decode kc_M_change 87 = .ok (.iadd, 1) := by decide +kernel
theorem kd_M_change_88 : decode kc_M_change 88 = .ok (.iaload, 1) := by decide +kernel
theorem kd_M_change_89 : decode kc_M_change 89 = .ok (.ifCond .ne 6, 3) := by decide +kernel
theorem kd_M_change_92 : decode kc_M_change 92 = .ok (.goto 106, 3) := by decide +kernel
theorem kd_M_change_95 : decode kc_M_change 95 = .ok (.iinc 3 1, 3) := by decide +kernel
theorem kd_M_change_98 : decode kc_M_change 98 = .ok (.iload 5, 2) := by decide +kernel
theorem kd_M_change_100 : decode kc_M_change 100 = .ok (.aload_n 0, 1) := by decide +kernel
theorem kd_M_change_101 : decode kc_M_change 101 = .ok (.getfield 38, 3) := by decide +kernel
theorem kd_M_change_104 : decode kc_M_change 104 = .ok (.bipush 8, 2) := by decide +kernel
theorem kd_M_change_106 : decode kc_M_change 106 = .ok (.iload 4, 2) := by decide +kernel
theorem kd_M_change_108 : decode kc_M_change 108 = .ok (.imul, 1) := by decide +kernel
theorem kd_M_change_109 : decode kc_M_change 109 = .ok (.iload_n 1, 1) := by decide +kernel
theorem kd_M_change_110 : decode kc_M_change 110 = .ok (.iadd, 1) := by decide +kernel
theorem kd_M_change_111 : decode kc_M_change 111 = .ok (.iaload, 1) := by decide +kernel
theorem kd_M_change_112 : decode kc_M_change 112 = .ok (.if_icmp .ge 8, 3) := by decide +kernel
theorem kd_M_change_115 : decode kc_M_change 115 = .ok (.iload 5, 2) := by decide +kernel
theorem kd_M_change_117 : decode kc_M_change 117 = .ok (.goto 15, 3) := by decide +kernel
theorem kd_M_change_120 : decode kc_M_change 120 = .ok (.aload_n 0, 1) := by decide +kernel
theorem kd_M_change_121 : decode kc_M_change 121 = .ok (.getfield 38, 3) := by decide +kernel
theorem kd_M_change_124 : decode kc_M_change 124 = .ok (.bipush 8, 2) := by decide +kernel
theorem kd_M_change_126 : decode kc_M_change 126 = .ok (.iload 4, 2) := by decide +kernel
theorem kd_M_change_128 : decode kc_M_change 128 = .ok (.imul, 1) := by decide +kernel
theorem kd_M_change_129 : decode kc_M_change 129 = .ok (.iload_n 1, 1) := by decide +kernel
theorem kd_M_change_130 : decode kc_M_change 130 = .ok (.iadd, 1) := by decide +kernel
theorem kd_M_change_131 : decode kc_M_change 131 = .ok (.iaload, 1) := by decide +kernel
theorem kd_M_change_132 : decode kc_M_change 132 = .ok (.istore 6, 2) := by decide +kernel
theorem kd_M_change_134 : decode kc_M_change 134 = .ok (.aload_n 0, 1) := by decide +kernel
theorem kd_M_change_135 : decode kc_M_change 135 = .ok (.getfield 38, 3) := by decide +kernel
theorem kd_M_change_138 : decode kc_M_change 138 = .ok (.bipush 8, 2) := by decide +kernel
theorem kd_M_change_140 : decode kc_M_change 140 = .ok (.iload 4, 2) := by decide +kernel
theorem kd_M_change_142 : decode kc_M_change 142 = .ok (.imul, 1) := by decide +kernel
theorem kd_M_change_143 : decode kc_M_change 143 = .ok (.iload_n 1, 1) := by decide +kernel
theorem kd_M_change_144 : decode kc_M_change 144 = .ok (.iadd, 1) := by decide +kernel
theorem kd_M_change_145 : decode kc_M_change 145 = .ok (.dup2, 1) := by decide +kernel
theorem kd_M_change_146 : decode kc_M_change 146 = .ok (.iaload, 1) := by decide +kernel
theorem kd_M_change_147 : decode kc_M_change 147 = .ok (.iload 6, 2) := by decide +kernel
theorem kd_M_change_149 : decode kc_M_change 149 = .ok (.isub, 1) := by decide +kernel
theorem kd_M_change_150 : decode kc_M_change 150 = .ok (.iastore, 1) := by decide +kernel
theorem kd_M_change_151 : decode kc_M_change 151 = .ok (.iconst 0, 1) := by decide +kernel
theorem kd_M_change_152 : decode kc_M_change 152 = .ok (.istore 7, 2) := by decide +kernel
theorem kd_M_change_154 : decode kc_M_change 154 = .ok (.iload 7, 2) := by decide +kernel
theorem kd_M_change_156 : decode kc_M_change 156 = .ok (.aload_n 0, 1) := by decide +kernel
theorem kd_M_change_157 : decode kc_M_change 157 = .ok (.getfield 66, 3) := by decide +kernel
theorem kd_M_change_160 : decode kc_M_change 160 = .ok (.if_icmp .ge 38, 3) := by decide +kernel
theorem kd_M_change_163 : decode kc_M_change 163 = .ok (.aload_n 0, 1) := by decide +kernel
theorem kd_M_change_164 : decode kc_M_change 164 = .ok (.getfield 28, 3) := by decide +kernel
theorem kd_M_change_167 : decode kc_M_change 167 = .ok (.iconst 4, 1) := by decide +kernel
theorem kd_M_change_168 : decode kc_M_change 168 = .ok (.iload 4, 2) := by decide +kernel
theorem kd_M_change_170 : decode kc_M_change 170 = .ok (.imul, 1) := by decide +kernel
theorem kd_M_change_171 : decode kc_M_change 171 = .ok (.iconst 3, 1) := by decide +kernel
theorem kd_M_change_172 : decode kc_M_change 172 = .ok (.iadd, 1) := by decide +kernel
theorem kd_M_change_173 : decode kc_M_change 173 = .ok (.iaload, 1) := by decide +kernel
theorem kd_M_change_174 : decode kc_M_change 174 = .ok (.iconst 1, 1) := by decide +kernel
theorem kd_M_change_175 : decode kc_M_change 175 = .ok (.if_icmp .ne 23, 3) := by decide +kernel
theorem kd_M_change_178 : decode kc_M_change 178 = .ok (.aload_n 0, 1) := by decide +kernel
theorem kd_M_change_179 : decode kc_M_change 179 = .ok (.getfield 38, 3) := by decide +kernel
theorem kd_M_change_182 : decode kc_M_change 182 = .ok (.bipush 8, 2) := by decide +kernel
theorem kd_M_change_184 : decode kc_M_change 184 = .ok (.iload 4, 2) := by decide +kernel
theorem kd_M_change_186 : decode kc_M_change 186 = .ok (.imul, 1) := by decide +kernel
theorem kd_M_change_187 : decode kc_M_change 187 = .ok (.iload 7, 2) := by decide +kernel
theorem kd_M_change_189 : decode kc_M_change 189 = .ok (.iadd, 1) := by decide +kernel
theorem kd_M_change_190 : decode kc_M_change 190 = .ok (.iconst 0, 1) := by decide +kernel
theorem kd_M_change_191 : decode kc_M_change 191 = .ok (.iastore, 1) := by decide +kernel
theorem kd_M_change_192 : decode kc_M_change 192 = .ok (.iinc 7 1, 3) := by decide +kernel
theorem kd_M_change_195 : decode kc_M_change 195 = .ok (.goto (-41), 3) := by decide +kernel
theorem kd_M_change_198 : decode kc_M_change 198 = .ok (.iinc 4 (-1), 3) := by decide +kernel
theorem kd_M_change_201 : decode kc_M_change 201 = .ok (.goto (-143), 3) := by decide +kernel
theorem kd_M_change_204 : decode kc_M_change 204 = .ok (.iload_n 3, 1) := by decide +kernel
theorem kd_M_change_205 : decode kc_M_change 205 = .ok (.ireturn, 1) := by decide +kernel
theorem kd_M_undo_0 : decode kc_M_undo 0 = .ok (.aload_n 0, 1) := by decide +kernel
theorem kd_M_undo_1 : decode kc_M_undo 1 = .ok (.aload_n 0, 1) := by decide +kernel
theorem kd_M_undo_2 : decode kc_M_undo 2 = .ok (.iload_n 1, 1) := by decide +kernel
theorem kd_M_undo_3 : decode kc_M_undo 3 = .ok (.invokevirtual 76, 3) := by decide +kernel
theorem kd_M_undo_6 : decode kc_M_undo 6 = .ok (.ifCond .ne 7, 3) := by decide +kernel
theorem kd_M_undo_9 : decode kc_M_undo 9 = .ok (.iconst 1, 1) := by decide +kernel
theorem kd_M_undo_10 : decode kc_M_undo 10 = .ok (.goto 16, 3) := by decide +kernel
theorem kd_M_undo_13 : decode kc_M_undo 13 = .ok (.aload_n 0, 1) := by decide +kernel
theorem kd_M_undo_14 : decode kc_M_undo 14 = .ok (.iload_n 1, 1) := by decide +kernel
theorem kd_M_undo_15 : decode kc_M_undo 15 = .ok (.invokevirtual 146, 3) := by decide +kernel
theorem kd_M_undo_18 : decode kc_M_undo 18 = .ok (.ifCond .ne 7, 3) := by decide +kernel
theorem kd_M_undo_21 : decode kc_M_undo 21 = .ok (.iconst 2, 1) := by decide +kernel
theorem kd_M_undo_22 : decode kc_M_undo 22 = .ok (.goto 4, 3) := by decide +kernel
theorem kd_M_undo_25 : decode kc_M_undo 25 = .ok (.iconst 0, 1) := by decide +kernel
theorem kd_M_undo_26 : decode kc_M_undo 26 = .ok (.putfield 62, 3) := by decide +kernel
theorem kd_M_undo_29 : decode kc_M_undo 29 = .ok (.aload_n 0, 1) := by decide +kernel
theorem kd_M_undo_30 : decode kc_M_undo 30 = .ok (.getfield 62, 3) := by decide +kernel
theorem kd_M_undo_33 : decode kc_M_undo 33 = .ok (.ifCond .le 5, 3) := by decide +kernel
theorem kd_M_undo_36 : decode kc_M_undo 36 = .ok (.iconst 0, 1) := by decide +kernel
theorem kd_M_undo_37 : decode kc_M_undo 37 = .ok (.ireturn, 1) := by decide +kernel
theorem kd_M_undo_38 : decode kc_M_undo 38 = .ok (.aload_n 0, 1) := by decide +kernel
theorem kd_M_undo_39 : decode kc_M_undo 39 = .ok (.iload_n 1, 1) := by decide +kernel
theorem kd_M_undo_40 : decode kc_M_undo 40 = .ok (.invokevirtual 146, 3) := by decide +kernel
theorem kd_M_undo_43 : decode kc_M_undo 43 = .ok (.istore_n 2, 1) := by decide +kernel
theorem kd_M_undo_44 : decode kc_M_undo 44 = .ok (.iconst 0, 1) := by decide +kernel
theorem kd_M_undo_45 : decode kc_M_undo 45 = .ok (.istore_n 3, 1) := by decide +kernel
theorem kd_M_undo_46 : decode kc_M_undo 46 = .ok (.iload_n 3, 1) := by decide +kernel
theorem kd_M_undo_47 : decode kc_M_undo 47 = .ok (.aload_n 0, 1) := by decide +kernel
theorem kd_M_undo_48 : decode kc_M_undo 48 = .ok (.getfield 66, 3) := by decide +kernel
theorem kd_M_undo_51 : decode kc_M_undo 51 = .ok (.if_icmp .ge 21, 3) := by decide +kernel
theorem kd_M_undo_54 : decode kc_M_undo 54 = .ok (.aload_n 0, 1) := by decide +kernel
theorem kd_M_undo_55 : decode kc_M_undo 55 = .ok (.getfield 38, 3) := by decide +kernel
theorem kd_M_undo_58 : decode kc_M_undo 58 = .ok (.bipush 8, 2) := by decide +kernel
theorem kd_M_undo_60 : decode kc_M_undo 60 = .ok (.iload_n 1, 1) := by decide +kernel
theorem kd_M_undo_61 : decode kc_M_undo 61 = .ok (.imul, 1) := by decide +kernel
theorem kd_M_undo_62 : decode kc_M_undo 62 = .ok (.iload_n 3, 1) := by decide +kernel
theorem kd_M_undo_63 : decode kc_M_undo 63 = .ok (.iadd, 1) := by decide +kernel
theorem kd_M_undo_64 : decode kc_M_undo 64 = .ok (.iconst 0, 1) := by decide +kernel
theorem kd_M_undo_65 : decode kc_M_undo 65 = .ok (.iastore, 1) := by decide +kernel
theorem kd_M_undo_66 : decode kc_M_undo 66 = .ok (.iinc 3 1, 3) := by decide +kernel
theorem kd_M_undo_69 : decode kc_M_undo 69 = .ok (.goto (-23), 3) := by decide +kernel
theorem kd_M_undo_72 : decode kc_M_undo 72 = .ok (.iload_n 2, 1) := by decide +kernel
theorem kd_M_undo_73 : decode kc_M_undo 73 = .ok (.ireturn, 1) := by decide +kernel
theorem kd_M_heldBy_0 : decode kc_M_heldBy 0 = .ok (.iconst 0, 1) := by decide +kernel
theorem kd_M_heldBy_1 : decode kc_M_heldBy 1 = .ok (.istore_n 2, 1) := by decide +kernel
theorem kd_M_heldBy_2 : decode kc_M_heldBy 2 = .ok (.iconst 0, 1) := by decide +kernel
theorem kd_M_heldBy_3 : decode kc_M_heldBy 3 = .ok (.istore_n 3, 1) := by decide +kernel
theorem kd_M_heldBy_4 : decode kc_M_heldBy 4 = .ok (.iload_n 3, 1) := by decide +kernel
theorem kd_M_heldBy_5 : decode kc_M_heldBy 5 = .ok (.aload_n 0, 1) := by decide +kernel
theorem kd_M_heldBy_6 : decode kc_M_heldBy 6 = .ok (.getfield 66, 3) := by decide +kernel
theorem kd_M_heldBy_9 : decode kc_M_heldBy 9 = .ok (.if_icmp .ge 23, 3) := by decide +kernel
theorem kd_M_heldBy_12 : decode kc_M_heldBy 12 = .ok (.iload_n 2, 1) := by decide +kernel
theorem kd_M_heldBy_13 : decode kc_M_heldBy 13 = .ok (.aload_n 0, 1) := by decide +kernel
theorem kd_M_heldBy_14 : decode kc_M_heldBy 14 = .ok (.getfield 38, 3) := by decide +kernel
theorem kd_M_heldBy_17 : decode kc_M_heldBy 17 = .ok (.bipush 8, 2) := by decide +kernel
theorem kd_M_heldBy_19 : decode kc_M_heldBy 19 = .ok (.iload_n 1, 1) := by decide +kernel
theorem kd_M_heldBy_20 : decode kc_M_heldBy 20 = .ok (.imul, 1) := by decide +kernel
theorem kd_M_heldBy_21 : decode kc_M_heldBy 21 = .ok (.iload_n 3, 1) := by decide +kernel
theorem kd_M_heldBy_22 : decode kc_M_heldBy 22 = .ok (.iadd, 1) := by decide +kernel
theorem kd_M_heldBy_23 : decode kc_M_heldBy 23 = .ok (.iaload, 1) := by decide +kernel
theorem kd_M_heldBy_24 : decode kc_M_heldBy 24 = .ok (.iadd, 1) := by decide +kernel
theorem kd_M_heldBy_25 : decode kc_M_heldBy 25 = .ok (.istore_n 2, 1) := by decide +kernel
theorem kd_M_heldBy_26 : decode kc_M_heldBy 26 = .ok (.iinc 3 1, 3) := by decide +kernel
theorem kd_M_heldBy_29 : decode kc_M_heldBy 29 = .ok (.goto (-25), 3) := by decide +kernel
theorem kd_M_heldBy_32 : decode kc_M_heldBy 32 = .ok (.iload_n 2, 1) := by decide +kernel
theorem kd_M_heldBy_33 : decode kc_M_heldBy 33 = .ok (.ireturn, 1) := by decide +kernel
theorem kd_M_refused_0 : decode kc_M_refused 0 = .ok (.aload_n 0, 1) := by decide +kernel
theorem kd_M_refused_1 : decode kc_M_refused 1 = .ok (.aload_n 0, 1) := by decide +kernel
theorem kd_M_refused_2 : decode kc_M_refused 2 = .ok (.iload_n 1, 1) := by decide +kernel
theorem kd_M_refused_3 : decode kc_M_refused 3 = .ok (.invokevirtual 76, 3) := by decide +kernel
theorem kd_M_refused_6 : decode kc_M_refused 6 = .ok (.ifCond .eq 7, 3) := by decide +kernel
theorem kd_M_refused_9 : decode kc_M_refused 9 = .ok (.iconst 0, 1) := by decide +kernel
theorem kd_M_refused_10 : decode kc_M_refused 10 = .ok (.goto 4, 3) := by decide +kernel
theorem kd_M_refused_13 : decode kc_M_refused 13 = .ok (.iconst 1, 1) := by decide +kernel
theorem kd_M_refused_14 : decode kc_M_refused 14 = .ok (.putfield 62, 3) := by decide +kernel
theorem kd_M_refused_17 : decode kc_M_refused 17 = .ok (.aload_n 0, 1) := by decide +kernel
theorem kd_M_refused_18 : decode kc_M_refused 18 = .ok (.getfield 62, 3) := by decide +kernel
theorem kd_M_refused_21 : decode kc_M_refused 21 = .ok (.ifCond .le 7, 3) := by decide +kernel
theorem kd_M_refused_24 : decode kc_M_refused 24 = .ok (.iconst 0, 1) := by decide +kernel
theorem kd_M_refused_25 : decode kc_M_refused 25 = .ok (.goto 15, 3) := by decide +kernel
theorem kd_M_refused_28 : decode kc_M_refused 28 = .ok (.aload_n 0, 1) := by decide +kernel
theorem kd_M_refused_29 : decode kc_M_refused 29 = .ok (.getfield 25, 3) := by decide +kernel
theorem kd_M_refused_32 : decode kc_M_refused 32 = .ok (.iload_n 1, 1) := by decide +kernel
theorem kd_M_refused_33 : decode kc_M_refused 33 = .ok (.iaload, 1) := by decide +kernel
theorem kd_M_refused_34 : decode kc_M_refused 34 = .ok (.aload_n 0, 1) := by decide +kernel
theorem kd_M_refused_35 : decode kc_M_refused 35 = .ok (.iload_n 1, 1) := by decide +kernel
theorem kd_M_refused_36 : decode kc_M_refused 36 = .ok (.invokevirtual 146, 3) := by decide +kernel
theorem kd_M_refused_39 : decode kc_M_refused 39 = .ok (.isub, 1) := by decide +kernel
theorem kd_M_refused_40 : decode kc_M_refused 40 = .ok (.ireturn, 1) := by decide +kernel
theorem kd_M_average_0 : decode kc_M_average 0 = .ok (.aload_n 0, 1) := by decide +kernel
theorem kd_M_average_1 : decode kc_M_average 1 = .ok (.aload_n 0, 1) := by decide +kernel
theorem kd_M_average_2 : decode kc_M_average 2 = .ok (.iload_n 1, 1) := by decide +kernel
theorem kd_M_average_3 : decode kc_M_average 3 = .ok (.invokevirtual 76, 3) := by decide +kernel
theorem kd_M_average_6 : decode kc_M_average 6 = .ok (.ifCond .ne 7, 3) := by decide +kernel
theorem kd_M_average_9 : decode kc_M_average 9 = .ok (.iconst 1, 1) := by decide +kernel
theorem kd_M_average_10 : decode kc_M_average 10 = .ok (.goto 16, 3) := by decide +kernel
theorem kd_M_average_13 : decode kc_M_average 13 = .ok (.aload_n 0, 1) := by decide +kernel
theorem kd_M_average_14 : decode kc_M_average 14 = .ok (.iload_n 1, 1) := by decide +kernel
theorem kd_M_average_15 : decode kc_M_average 15 = .ok (.invokevirtual 146, 3) := by decide +kernel
theorem kd_M_average_18 : decode kc_M_average 18 = .ok (.ifCond .ne 7, 3) := by decide +kernel
theorem kd_M_average_21 : decode kc_M_average 21 = .ok (.iconst 2, 1) := by decide +kernel
theorem kd_M_average_22 : decode kc_M_average 22 = .ok (.goto 4, 3) := by decide +kernel
theorem kd_M_average_25 : decode kc_M_average 25 = .ok (.iconst 0, 1) := by decide +kernel
theorem kd_M_average_26 : decode kc_M_average 26 = .ok (.putfield 62, 3) := by decide +kernel
theorem kd_M_average_29 : decode kc_M_average 29 = .ok (.aload_n 0, 1) := by decide +kernel
theorem kd_M_average_30 : decode kc_M_average 30 = .ok (.getfield 62, 3) := by decide +kernel
theorem kd_M_average_33 : decode kc_M_average 33 = .ok (.ifCond .le 5, 3) := by decide +kernel
theorem kd_M_average_36 : decode kc_M_average 36 = .ok (.iconst 0, 1) := by decide +kernel
theorem kd_M_average_37 : decode kc_M_average 37 = .ok (.ireturn, 1) := by decide +kernel
theorem kd_M_average_38 : decode kc_M_average 38 = .ok (.iconst 0, 1) := by decide +kernel
theorem kd_M_average_39 : decode kc_M_average 39 = .ok (.istore_n 2, 1) := by decide +kernel
theorem kd_M_average_40 : decode kc_M_average 40 = .ok (.iconst 0, 1) := by decide +kernel
theorem kd_M_average_41 : decode kc_M_average 41 = .ok (.istore_n 3, 1) := by decide +kernel
theorem kd_M_average_42 : decode kc_M_average 42 = .ok (.iload_n 3, 1) := by decide +kernel
theorem kd_M_average_43 : decode kc_M_average 43 = .ok (.aload_n 0, 1) := by decide +kernel
theorem kd_M_average_44 : decode kc_M_average 44 = .ok (.getfield 66, 3) := by decide +kernel
theorem kd_M_average_47 : decode kc_M_average 47 = .ok (.if_icmp .ge 30, 3) := by decide +kernel
theorem kd_M_average_50 : decode kc_M_average 50 = .ok (.iload_n 2, 1) := by decide +kernel
theorem kd_M_average_51 : decode kc_M_average 51 = .ok (.aload_n 0, 1) := by decide +kernel
theorem kd_M_average_52 : decode kc_M_average 52 = .ok (.getfield 38, 3) := by decide +kernel
theorem kd_M_average_55 : decode kc_M_average 55 = .ok (.bipush 8, 2) := by decide +kernel
theorem kd_M_average_57 : decode kc_M_average 57 = .ok (.iload_n 1, 1) := by decide +kernel
theorem kd_M_average_58 : decode kc_M_average 58 = .ok (.imul, 1) := by decide +kernel
theorem kd_M_average_59 : decode kc_M_average 59 = .ok (.iload_n 3, 1) := by decide +kernel
theorem kd_M_average_60 : decode kc_M_average 60 = .ok (.iadd, 1) := by decide +kernel
theorem kd_M_average_61 : decode kc_M_average 61 = .ok (.iaload, 1) := by decide +kernel
theorem kd_M_average_62 : decode kc_M_average 62 = .ok (.aload_n 0, 1) := by decide +kernel
theorem kd_M_average_63 : decode kc_M_average 63 = .ok (.iload_n 3, 1) := by decide +kernel
theorem kd_M_average_64 : decode kc_M_average 64 = .ok (.iload_n 1, 1) := by decide +kernel
theorem kd_M_average_65 : decode kc_M_average 65 = .ok (.invokevirtual 100, 3) := by decide +kernel
theorem kd_M_average_68 : decode kc_M_average 68 = .ok (.imul, 1) := by decide +kernel
theorem kd_M_average_69 : decode kc_M_average 69 = .ok (.iadd, 1) := by decide +kernel
theorem kd_M_average_70 : decode kc_M_average 70 = .ok (.istore_n 2, 1) := by decide +kernel
theorem kd_M_average_71 : decode kc_M_average 71 = .ok (.iinc 3 1, 3) := by decide +kernel
theorem kd_M_average_74 : decode kc_M_average 74 = .ok (.goto (-32), 3) := by decide +kernel
theorem kd_M_average_77 : decode kc_M_average 77 = .ok (.iload_n 2, 1) := by decide +kernel
theorem kd_M_average_78 : decode kc_M_average 78 = .ok (.aload_n 0, 1) := by decide +kernel
theorem kd_M_average_79 : decode kc_M_average 79 = .ok (.iload_n 1, 1) := by decide +kernel
theorem kd_M_average_80 : decode kc_M_average 80 = .ok (.invokevirtual 146, 3) := by decide +kernel
theorem kd_M_average_83 : decode kc_M_average 83 = .ok (.idiv, 1) := by decide +kernel
theorem kd_M_average_84 : decode kc_M_average 84 = .ok (.ireturn, 1) := by decide +kernel
theorem kd_M_count_0 : decode kc_M_count 0 = .ok (.aload_n 0, 1) := by decide +kernel
theorem kd_M_count_1 : decode kc_M_count 1 = .ok (.iconst 0, 1) := by decide +kernel
theorem kd_M_count_2 : decode kc_M_count 2 = .ok (.putfield 62, 3) := by decide +kernel
theorem kd_M_count_5 : decode kc_M_count 5 = .ok (.iload_n 1, 1) := by decide +kernel
theorem kd_M_count_6 : decode kc_M_count 6 = .ok (.ifCond .ne 8, 3) := by decide +kernel
theorem kd_M_count_9 : decode kc_M_count 9 = .ok (.aload_n 0, 1) := by decide +kernel
theorem kd_M_count_10 : decode kc_M_count 10 = .ok (.getfield 66, 3) := by decide +kernel
theorem kd_M_count_13 : decode kc_M_count 13 = .ok (.ireturn, 1) := by decide +kernel
theorem kd_M_count_14 : decode kc_M_count 14 = .ok (.iload_n 1, 1) := by decide +kernel
theorem kd_M_count_15 : decode kc_M_count 15 = .ok (.iconst 1, 1) := by decide +kernel
theorem kd_M_count_16 : decode kc_M_count 16 = .ok (.if_icmp .ne 8, 3) := by decide +kernel
theorem kd_M_count_19 : decode kc_M_count 19 = .ok (.aload_n 0, 1) := by decide +kernel
theorem kd_M_count_20 : decode kc_M_count 20 = .ok (.getfield 73, 3) := by decide +kernel
theorem kd_M_count_23 : decode kc_M_count 23 = .ok (.ireturn, 1) := by decide +kernel
theorem kd_M_count_24 : decode kc_M_count 24 = .ok (.iconst 0, 1) := by decide +kernel
theorem kd_M_count_25 : decode kc_M_count 25 = .ok (.istore_n 2, 1) := by decide +kernel
theorem kd_M_count_26 : decode kc_M_count 26 = .ok (.iconst 0, 1) := by decide +kernel
theorem kd_M_count_27 : decode kc_M_count 27 = .ok (.istore_n 3, 1) := by decide +kernel
theorem kd_M_count_28 : decode kc_M_count 28 = .ok (.iconst 0, 1) := by decide +kernel
theorem kd_M_count_29 : decode kc_M_count 29 = .ok (.istore 4, 2) := by decide +kernel
theorem kd_M_count_31 : decode kc_M_count 31 = .ok (.iconst 0, 1) := by decide +kernel
theorem kd_M_count_32 : decode kc_M_count 32 = .ok (.istore 5, 2) := by decide +kernel
theorem kd_M_count_34 : decode kc_M_count 34 = .ok (.iload 5, 2) := by decide +kernel
theorem kd_M_count_36 : decode kc_M_count 36 = .ok (.aload_n 0, 1) := by decide +kernel
theorem kd_M_count_37 : decode kc_M_count 37 = .ok (.getfield 73, 3) := by decide +kernel
theorem kd_M_count_40 : decode kc_M_count 40 = .ok (.if_icmp .ge 99, 3) := by decide +kernel
theorem kd_M_count_43 : decode kc_M_count 43 = .ok (.iconst 0, 1) := by decide +kernel
theorem kd_M_count_44 : decode kc_M_count 44 = .ok (.istore 6, 2) := by decide +kernel
theorem kd_M_count_46 : decode kc_M_count 46 = .ok (.iload 6, 2) := by decide +kernel
theorem kd_M_count_48 : decode kc_M_count 48 = .ok (.aload_n 0, 1) := by decide +kernel
theorem kd_M_count_49 : decode kc_M_count 49 = .ok (.getfield 66, 3) := by decide +kernel
theorem kd_M_count_52 : decode kc_M_count 52 = .ok (.if_icmp .ge 58, 3) := by decide +kernel
theorem kd_M_count_55 : decode kc_M_count 55 = .ok (.aload_n 0, 1) := by decide +kernel
theorem kd_M_count_56 : decode kc_M_count 56 = .ok (.getfield 38, 3) := by decide +kernel
theorem kd_M_count_59 : decode kc_M_count 59 = .ok (.bipush 8, 2) := by decide +kernel
theorem kd_M_count_61 : decode kc_M_count 61 = .ok (.iload 5, 2) := by decide +kernel
theorem kd_M_count_63 : decode kc_M_count 63 = .ok (.imul, 1) := by decide +kernel
theorem kd_M_count_64 : decode kc_M_count 64 = .ok (.iload 6, 2) := by decide +kernel
theorem kd_M_count_66 : decode kc_M_count 66 = .ok (.iadd, 1) := by decide +kernel
theorem kd_M_count_67 : decode kc_M_count 67 = .ok (.iaload, 1) := by decide +kernel
theorem kd_M_count_68 : decode kc_M_count 68 = .ok (.istore 7, 2) := by decide +kernel
theorem kd_M_count_70 : decode kc_M_count 70 = .ok (.iload_n 2, 1) := by decide +kernel
theorem kd_M_count_71 : decode kc_M_count 71 = .ok (.iload 7, 2) := by decide +kernel
theorem kd_M_count_73 : decode kc_M_count 73 = .ok (.iadd, 1) := by decide +kernel
theorem kd_M_count_74 : decode kc_M_count 74 = .ok (.istore_n 2, 1) := by decide +kernel
theorem kd_M_count_75 : decode kc_M_count 75 = .ok (.iload_n 3, 1) := by decide +kernel
theorem kd_M_count_76 : decode kc_M_count 76 = .ok (.iload 7, 2) := by decide +kernel
theorem kd_M_count_78 : decode kc_M_count 78 = .ok (.ifCond .le 7, 3) := by decide +kernel
theorem kd_M_count_81 : decode kc_M_count 81 = .ok (.iconst 1, 1) := by decide +kernel
theorem kd_M_count_82 : decode kc_M_count 82 = .ok (.goto 4, 3) := by decide +kernel
theorem kd_M_count_85 : decode kc_M_count 85 = .ok (.iconst 0, 1) := by decide +kernel
theorem kd_M_count_86 : decode kc_M_count 86 = .ok (.iadd, 1) := by decide +kernel
theorem kd_M_count_87 : decode kc_M_count 87 = .ok (.istore_n 3, 1) := by decide +kernel
theorem kd_M_count_88 : decode kc_M_count 88 = .ok (.iload 4, 2) := by decide +kernel
theorem kd_M_count_90 : decode kc_M_count 90 = .ok (.iload 7, 2) := by decide +kernel
theorem kd_M_count_92 : decode kc_M_count 92 = .ok (.aload_n 0, 1) := by decide +kernel
theorem kd_M_count_93 : decode kc_M_count 93 = .ok (.iload 6, 2) := by decide +kernel
theorem kd_M_count_95 : decode kc_M_count 95 = .ok (.iload 5, 2) := by decide +kernel
theorem kd_M_count_97 : decode kc_M_count 97 = .ok (.invokevirtual 100, 3) := by decide +kernel
theorem kd_M_count_100 : decode kc_M_count 100 = .ok (.imul, 1) := by decide +kernel
theorem kd_M_count_101 : decode kc_M_count 101 = .ok (.iadd, 1) := by decide +kernel
theorem kd_M_count_102 : decode kc_M_count 102 = .ok (.istore 4, 2) := by decide +kernel
theorem kd_M_count_104 : decode kc_M_count 104 = .ok (.iinc 6 1, 3) := by decide +kernel
theorem kd_M_count_107 : decode kc_M_count 107 = .ok (.goto (-61), 3) := by decide +kernel
theorem kd_M_count_110 : decode kc_M_count 110 = .ok (.iload 4, 2) := by decide +kernel
theorem kd_M_count_112 : decode kc_M_count 112 = .ok (.sipush 1000, 3) := by decide +kernel
theorem kd_M_count_115 : decode kc_M_count 115 = .ok (.aload_n 0, 1) := by decide +kernel
theorem kd_M_count_116 : decode kc_M_count 116 = .ok (.getfield 25, 3) := by decide +kernel
theorem kd_M_count_119 : decode kc_M_count 119 = .ok (.iload 5, 2) := by decide +kernel
theorem kd_M_count_121 : decode kc_M_count 121 = .ok (.iaload, 1) := by decide +kernel
theorem kd_M_count_122 : decode kc_M_count 122 = .ok (.aload_n 0, 1) := by decide +kernel
theorem kd_M_count_123 : decode kc_M_count 123 = .ok (.iload 5, 2) := by decide +kernel
theorem kd_M_count_125 : decode kc_M_count 125 = .ok (.invokevirtual 146, 3) := by decide +kernel
theorem kd_M_count_128 : decode kc_M_count 128 = .ok (.isub, 1) := by decide +kernel
theorem kd_M_count_129 : decode kc_M_count 129 = .ok (.imul, 1) := by decide +kernel
theorem kd_M_count_130 : decode kc_M_count 130 = .ok (.iadd, 1) := by decide +kernel
theorem kd_M_count_131 : decode kc_M_count 131 = .ok (.istore 4, 2) := by decide +kernel
theorem kd_M_count_133 : decode kc_M_count 133 = .ok (.iinc 5 1, 3) := by decide +kernel
theorem kd_M_count_136 : decode kc_M_count 136 = .ok (.goto (-102), 3) := by decide +kernel
theorem kd_M_count_139 : decode kc_M_count 139 = .ok (.iload_n 1, 1) := by decide +kernel
theorem kd_M_count_140 : decode kc_M_count 140 = .ok (.iconst 2, 1) := by decide +kernel
theorem kd_M_count_141 : decode kc_M_count 141 = .ok (.if_icmp .ne 7, 3) := by decide +kernel
theorem kd_M_count_144 : decode kc_M_count 144 = .ok (.iload_n 2, 1) := by decide +kernel
theorem kd_M_count_145 : decode kc_M_count 145 = .ok (.goto 28, 3) := by decide +kernel
theorem kd_M_count_148 : decode kc_M_count 148 = .ok (.iload_n 1, 1) := by decide +kernel
theorem kd_M_count_149 : decode kc_M_count 149 = .ok (.iconst 3, 1) := by decide +kernel
theorem kd_M_count_150 : decode kc_M_count 150 = .ok (.if_icmp .ne 7, 3) := by decide +kernel
theorem kd_M_count_153 : decode kc_M_count 153 = .ok (.iload_n 3, 1) := by decide +kernel
theorem kd_M_count_154 : decode kc_M_count 154 = .ok (.goto 19, 3) := by decide +kernel
theorem kd_M_count_157 : decode kc_M_count 157 = .ok (.iload_n 1, 1) := by decide +kernel
theorem kd_M_count_158 : decode kc_M_count 158 = .ok (.iconst 4, 1) := by decide +kernel
theorem kd_M_count_159 : decode kc_M_count 159 = .ok (.if_icmp .ne 13, 3) := by decide +kernel
theorem kd_M_count_162 : decode kc_M_count 162 = .ok (.iload 4, 2) := by decide +kernel
theorem kd_M_count_164 : decode kc_M_count 164 = .ok (.bipush 20, 2) := by decide +kernel
theorem kd_M_count_166 : decode kc_M_count 166 = .ok (.iload_n 3, 1) := by decide +kernel
theorem kd_M_count_167 : decode kc_M_count 167 = .ok (.imul, 1) := by decide +kernel
theorem kd_M_count_168 : decode kc_M_count 168 = .ok (.iadd, 1) := by decide +kernel
theorem kd_M_count_169 : decode kc_M_count 169 = .ok (.goto 4, 3) := by decide +kernel
theorem kd_M_count_172 : decode kc_M_count 172 = .ok (.iconst (-1), 1) := by decide +kernel
theorem kd_M_count_173 : decode kc_M_count 173 = .ok (.ireturn, 1) := by decide +kernel
end
section
/-! decode rows, by program -/
theorem kd_L_lot_0 : decode kc_L_lot 0 = .ok (.aload 5, 2) := by decide +kernel
theorem kd_L_lot_2 : decode kc_L_lot 2 = .ok (.iconst 0, 1) := by decide +kernel
theorem kd_L_lot_3 : decode kc_L_lot 3 = .ok (.aload_n 0, 1) := by decide +kernel
theorem kd_L_lot_4 : decode kc_L_lot 4 = .ok (.iload_n 1, 1) := by decide +kernel
theorem kd_L_lot_5 : decode kc_L_lot 5 = .ok (.iload_n 2, 1) := by decide +kernel
theorem kd_L_lot_6 : decode kc_L_lot 6 = .ok (.iload_n 3, 1) := by decide +kernel
theorem kd_L_lot_7 : decode kc_L_lot 7 = .ok (.iload 4, 2) := by decide +kernel
theorem kd_L_lot_9 : decode kc_L_lot 9 = .ok (.invokevirtual 7, 3) := by decide +kernel
theorem kd_L_lot_12 : decode kc_L_lot 12 = .ok (.i2l, 1) := by decide +kernel
theorem kd_L_lot_13 : decode kc_L_lot 13 = .ok (.lastore, 1) := by decide +kernel
theorem kd_L_lot_14 : decode kc_L_lot 14 = .ok (.goto 11, 3) := by decide +kernel
theorem kd_L_lot_17 : decode kc_L_lot 17 = .ok (.astore 6, 2) := by decide +kernel
theorem kd_L_lot_19 : decode kc_L_lot 19 = .ok (.iconst 1, 1) := by decide +kernel
theorem kd_L_lot_20 : decode kc_L_lot 20 = .ok (.ireturn, 1) := by decide +kernel
theorem kd_L_lot_21 : decode kc_L_lot 21 = .ok (.astore 6, 2) := by decide +kernel
theorem kd_L_lot_23 : decode kc_L_lot 23 = .ok (.iconst 2, 1) := by decide +kernel
theorem kd_L_lot_24 : decode kc_L_lot 24 = .ok (.ireturn, 1) := by decide +kernel
theorem kd_L_lot_25 : decode kc_L_lot 25 = .ok (.iconst 0, 1) := by decide +kernel
theorem kd_L_lot_26 : decode kc_L_lot 26 = .ok (.ireturn, 1) := by decide +kernel
theorem kd_L_line_0 : decode kc_L_line 0 = .ok (.aload_n 3, 1) := by decide +kernel
theorem kd_L_line_1 : decode kc_L_line 1 = .ok (.iconst 0, 1) := by decide +kernel
theorem kd_L_line_2 : decode kc_L_line 2 = .ok (.aload_n 0, 1) := by decide +kernel
theorem kd_L_line_3 : decode kc_L_line 3 = .ok (.iload_n 1, 1) := by decide +kernel
theorem kd_L_line_4 : decode kc_L_line 4 = .ok (.iload_n 2, 1) := by decide +kernel
theorem kd_L_line_5 : decode kc_L_line 5 = .ok (.invokevirtual 17, 3) := by decide +kernel
theorem kd_L_line_8 : decode kc_L_line 8 = .ok (.i2l, 1) := by decide +kernel
theorem kd_L_line_9 : decode kc_L_line 9 = .ok (.lastore, 1) := by decide +kernel
theorem kd_L_line_10 : decode kc_L_line 10 = .ok (.goto 11, 3) := by decide +kernel
theorem kd_L_line_13 : decode kc_L_line 13 = .ok (.astore 4, 2) := by decide +kernel
theorem kd_L_line_15 : decode kc_L_line 15 = .ok (.iconst 1, 1) := by decide +kernel
theorem kd_L_line_16 : decode kc_L_line 16 = .ok (.ireturn, 1) := by decide +kernel
theorem kd_L_line_17 : decode kc_L_line 17 = .ok (.astore 4, 2) := by decide +kernel
theorem kd_L_line_19 : decode kc_L_line 19 = .ok (.iconst 2, 1) := by decide +kernel
theorem kd_L_line_20 : decode kc_L_line 20 = .ok (.ireturn, 1) := by decide +kernel
theorem kd_L_line_21 : decode kc_L_line 21 = .ok (.iconst 0, 1) := by decide +kernel
theorem kd_L_line_22 : decode kc_L_line 22 = .ok (.ireturn, 1) := by decide +kernel
theorem kd_L_rule_0 : decode kc_L_rule 0 = .ok (.aload_n 0, 1) := by decide +kernel
theorem kd_L_rule_1 : decode kc_L_rule 1 = .ok (.iload_n 1, 1) := by decide +kernel
theorem kd_L_rule_2 : decode kc_L_rule 2 = .ok (.iload_n 2, 1) := by decide +kernel
theorem kd_L_rule_3 : decode kc_L_rule 3 = .ok (.iload_n 3, 1) := by decide +kernel
theorem kd_L_rule_4 : decode kc_L_rule 4 = .ok (.invokevirtual 21, 3) := by decide +kernel
theorem kd_L_rule_7 : decode kc_L_rule 7 = .ok (.goto 11, 3) := by decide +kernel
theorem kd_L_rule_10 : decode kc_L_rule 10 = .ok (.astore 4, 2) := by decide +kernel
theorem kd_L_rule_12 : decode kc_L_rule 12 = .ok (.iconst 1, 1) := by decide +kernel
theorem kd_L_rule_13 : decode kc_L_rule 13 = .ok (.ireturn, 1) := by decide +kernel
theorem kd_L_rule_14 : decode kc_L_rule 14 = .ok (.astore 4, 2) := by decide +kernel
theorem kd_L_rule_16 : decode kc_L_rule 16 = .ok (.iconst 2, 1) := by decide +kernel
theorem kd_L_rule_17 : decode kc_L_rule 17 = .ok (.ireturn, 1) := by decide +kernel
theorem kd_L_rule_18 : decode kc_L_rule 18 = .ok (.iconst 0, 1) := by decide +kernel
theorem kd_L_rule_19 : decode kc_L_rule 19 = .ok (.ireturn, 1) := by decide +kernel
theorem kd_L_cost_0 : decode kc_L_cost 0 = .ok (.aload_n 0, 1) := by decide +kernel
theorem kd_L_cost_1 : decode kc_L_cost 1 = .ok (.iload_n 1, 1) := by decide +kernel
theorem kd_L_cost_2 : decode kc_L_cost 2 = .ok (.iload_n 2, 1) := by decide +kernel
theorem kd_L_cost_3 : decode kc_L_cost 3 = .ok (.iload_n 3, 1) := by decide +kernel
theorem kd_L_cost_4 : decode kc_L_cost 4 = .ok (.invokevirtual 27, 3) := by decide +kernel
theorem kd_L_cost_7 : decode kc_L_cost 7 = .ok (.goto 11, 3) := by decide +kernel
theorem kd_L_cost_10 : decode kc_L_cost 10 = .ok (.astore 4, 2) := by decide +kernel
theorem kd_L_cost_12 : decode kc_L_cost 12 = .ok (.iconst 1, 1) := by decide +kernel
theorem kd_L_cost_13 : decode kc_L_cost 13 = .ok (.ireturn, 1) := by decide +kernel
theorem kd_L_cost_14 : decode kc_L_cost 14 = .ok (.astore 4, 2) := by decide +kernel
theorem kd_L_cost_16 : decode kc_L_cost 16 = .ok (.iconst 2, 1) := by decide +kernel
theorem kd_L_cost_17 : decode kc_L_cost 17 = .ok (.ireturn, 1) := by decide +kernel
theorem kd_L_cost_18 : decode kc_L_cost 18 = .ok (.iconst 0, 1) := by decide +kernel
theorem kd_L_cost_19 : decode kc_L_cost 19 = .ok (.ireturn, 1) := by decide +kernel
theorem kd_L_may_0 : decode kc_L_may 0 = .ok (.aload 4, 2) := by decide +kernel
theorem kd_L_may_2 : decode kc_L_may 2 = .ok (.iconst 0, 1) := by decide +kernel
theorem kd_L_may_3 : decode kc_L_may 3 = .ok (.aload_n 0, 1) := by decide +kernel
theorem kd_L_may_4 : decode kc_L_may 4 = .ok (.iload_n 1, 1) := by decide +kernel
theorem kd_L_may_5 : decode kc_L_may 5 = .ok (.iload_n 2, 1) := by decide +kernel
theorem kd_L_may_6 : decode kc_L_may 6 = .ok (.iload_n 3, 1) := by decide +kernel
theorem kd_L_may_7 : decode kc_L_may 7 = .ok (.invokevirtual 30, 3) := by decide +kernel
theorem kd_L_may_10 : decode kc_L_may 10 = .ok (.ifCond .eq 7, 3) := by decide +kernel
theorem kd_L_may_13 : decode kc_L_may 13 = .ok (.lconst 1, 1) := by decide +kernel
theorem kd_L_may_14 : decode kc_L_may 14 = .ok (.goto 4, 3) := by decide +kernel
theorem kd_L_may_17 : decode kc_L_may 17 = .ok (.lconst 0, 1) := by decide +kernel
theorem kd_L_may_18 : decode kc_L_may 18 = .ok (.lastore, 1) := by decide +kernel
theorem kd_L_may_19 : decode kc_L_may 19 = .ok (.goto 7, 3) := by decide +kernel
theorem kd_L_may_22 : decode kc_L_may 22 = .ok (.astore 5, 2) := by decide +kernel
theorem kd_L_may_24 : decode kc_L_may 24 = .ok (.iconst 1, 1) := by decide +kernel
theorem kd_L_may_25 : decode kc_L_may 25 = .ok (.ireturn, 1) := by decide +kernel
theorem kd_L_may_26 : decode kc_L_may 26 = .ok (.iconst 0, 1) := by decide +kernel
theorem kd_L_may_27 : decode kc_L_may 27 = .ok (.ireturn, 1) := by decide +kernel
theorem kd_L_solve_0 : decode kc_L_solve 0 = .ok (.aload_n 2, 1) := by decide +kernel
theorem kd_L_solve_1 : decode kc_L_solve 1 = .ok (.iconst 0, 1) := by decide +kernel
theorem kd_L_solve_2 : decode kc_L_solve 2 = .ok (.aload_n 0, 1) := by decide +kernel
theorem kd_L_solve_3 : decode kc_L_solve 3 = .ok (.iload_n 1, 1) := by decide +kernel
theorem kd_L_solve_4 : decode kc_L_solve 4 = .ok (.invokevirtual 34, 3) := by decide +kernel
theorem kd_L_solve_7 : decode kc_L_solve 7 = .ok (.i2l, 1) := by decide +kernel
theorem kd_L_solve_8 : decode kc_L_solve 8 = .ok (.lastore, 1) := by decide +kernel
theorem kd_L_solve_9 : decode kc_L_solve 9 = .ok (.goto 6, 3) := by decide +kernel
theorem kd_L_solve_12 : decode kc_L_solve 12 = .ok (.astore_n 3, 1) := by decide +kernel
theorem kd_L_solve_13 : decode kc_L_solve 13 = .ok (.iconst 1, 1) := by decide +kernel
theorem kd_L_solve_14 : decode kc_L_solve 14 = .ok (.ireturn, 1) := by decide +kernel
theorem kd_L_solve_15 : decode kc_L_solve 15 = .ok (.iconst 0, 1) := by decide +kernel
theorem kd_L_solve_16 : decode kc_L_solve 16 = .ok (.ireturn, 1) := by decide +kernel
theorem kd_L_give_0 : decode kc_L_give 0 = .ok (.aload 4, 2) := by decide +kernel
theorem kd_L_give_2 : decode kc_L_give 2 = .ok (.iconst 0, 1) := by decide +kernel
theorem kd_L_give_3 : decode kc_L_give 3 = .ok (.aload_n 0, 1) := by decide +kernel
theorem kd_L_give_4 : decode kc_L_give 4 = .ok (.iload_n 1, 1) := by decide +kernel
theorem kd_L_give_5 : decode kc_L_give 5 = .ok (.iload_n 2, 1) := by decide +kernel
theorem kd_L_give_6 : decode kc_L_give 6 = .ok (.iload_n 3, 1) := by decide +kernel
theorem kd_L_give_7 : decode kc_L_give 7 = .ok (.invokevirtual 38, 3) := by decide +kernel
theorem kd_L_give_10 : decode kc_L_give 10 = .ok (.i2l, 1) := by decide +kernel
theorem kd_L_give_11 : decode kc_L_give 11 = .ok (.lastore, 1) := by decide +kernel
theorem kd_L_give_12 : decode kc_L_give 12 = .ok (.goto 11, 3) := by decide +kernel
theorem kd_L_give_15 : decode kc_L_give 15 = .ok (.astore 5, 2) := by decide +kernel
theorem kd_L_give_17 : decode kc_L_give 17 = .ok (.iconst 1, 1) := by decide +kernel
theorem kd_L_give_18 : decode kc_L_give 18 = .ok (.ireturn, 1) := by decide +kernel
theorem kd_L_give_19 : decode kc_L_give 19 = .ok (.astore 5, 2) := by decide +kernel
theorem kd_L_give_21 : decode kc_L_give 21 = .ok (.iconst 2, 1) := by decide +kernel
theorem kd_L_give_22 : decode kc_L_give 22 = .ok (.ireturn, 1) := by decide +kernel
theorem kd_L_give_23 : decode kc_L_give 23 = .ok (.iconst 0, 1) := by decide +kernel
theorem kd_L_give_24 : decode kc_L_give 24 = .ok (.ireturn, 1) := by decide +kernel
theorem kd_L_held_0 : decode kc_L_held 0 = .ok (.aload_n 2, 1) := by decide +kernel
theorem kd_L_held_1 : decode kc_L_held 1 = .ok (.iconst 0, 1) := by decide +kernel
theorem kd_L_held_2 : decode kc_L_held 2 = .ok (.aload_n 0, 1) := by decide +kernel
theorem kd_L_held_3 : decode kc_L_held 3 = .ok (.iload_n 1, 1) := by decide +kernel
theorem kd_L_held_4 : decode kc_L_held 4 = .ok (.invokevirtual 42, 3) := by decide +kernel
theorem kd_L_held_7 : decode kc_L_held 7 = .ok (.i2l, 1) := by decide +kernel
theorem kd_L_held_8 : decode kc_L_held 8 = .ok (.lastore, 1) := by decide +kernel
theorem kd_L_held_9 : decode kc_L_held 9 = .ok (.goto 6, 3) := by decide +kernel
theorem kd_L_held_12 : decode kc_L_held 12 = .ok (.astore_n 3, 1) := by decide +kernel
theorem kd_L_held_13 : decode kc_L_held 13 = .ok (.iconst 1, 1) := by decide +kernel
theorem kd_L_held_14 : decode kc_L_held 14 = .ok (.ireturn, 1) := by decide +kernel
theorem kd_L_held_15 : decode kc_L_held 15 = .ok (.iconst 0, 1) := by decide +kernel
theorem kd_L_held_16 : decode kc_L_held 16 = .ok (.ireturn, 1) := by decide +kernel
theorem kd_L_left_0 : decode kc_L_left 0 = .ok (.aload_n 2, 1) := by decide +kernel
theorem kd_L_left_1 : decode kc_L_left 1 = .ok (.iconst 0, 1) := by decide +kernel
theorem kd_L_left_2 : decode kc_L_left 2 = .ok (.aload_n 0, 1) := by decide +kernel
theorem kd_L_left_3 : decode kc_L_left 3 = .ok (.iload_n 1, 1) := by decide +kernel
theorem kd_L_left_4 : decode kc_L_left 4 = .ok (.invokevirtual 45, 3) := by decide +kernel
theorem kd_L_left_7 : decode kc_L_left 7 = .ok (.i2l, 1) := by decide +kernel
theorem kd_L_left_8 : decode kc_L_left 8 = .ok (.lastore, 1) := by decide +kernel
theorem kd_L_left_9 : decode kc_L_left 9 = .ok (.goto 6, 3) := by decide +kernel
theorem kd_L_left_12 : decode kc_L_left 12 = .ok (.astore_n 3, 1) := by decide +kernel
theorem kd_L_left_13 : decode kc_L_left 13 = .ok (.iconst 1, 1) := by decide +kernel
theorem kd_L_left_14 : decode kc_L_left 14 = .ok (.ireturn, 1) := by decide +kernel
theorem kd_L_left_15 : decode kc_L_left 15 = .ok (.iconst 0, 1) := by decide +kernel
theorem kd_L_left_16 : decode kc_L_left 16 = .ok (.ireturn, 1) := by decide +kernel
theorem kd_L_bar_0 : decode kc_L_bar 0 = .ok (.aload_n 2, 1) := by decide +kernel
theorem kd_L_bar_1 : decode kc_L_bar 1 = .ok (.iconst 0, 1) := by decide +kernel
theorem kd_L_bar_2 : decode kc_L_bar 2 = .ok (.aload_n 0, 1) := by decide +kernel
theorem kd_L_bar_3 : decode kc_L_bar 3 = .ok (.iload_n 1, 1) := by decide +kernel
theorem kd_L_bar_4 : decode kc_L_bar 4 = .ok (.invokevirtual 48, 3) := by decide +kernel
theorem kd_L_bar_7 : decode kc_L_bar 7 = .ok (.i2l, 1) := by decide +kernel
theorem kd_L_bar_8 : decode kc_L_bar 8 = .ok (.lastore, 1) := by decide +kernel
theorem kd_L_bar_9 : decode kc_L_bar 9 = .ok (.goto 6, 3) := by decide +kernel
theorem kd_L_bar_12 : decode kc_L_bar 12 = .ok (.astore_n 3, 1) := by decide +kernel
theorem kd_L_bar_13 : decode kc_L_bar 13 = .ok (.iconst 1, 1) := by decide +kernel
theorem kd_L_bar_14 : decode kc_L_bar 14 = .ok (.ireturn, 1) := by decide +kernel
theorem kd_L_bar_15 : decode kc_L_bar 15 = .ok (.iconst 0, 1) := by decide +kernel
theorem kd_L_bar_16 : decode kc_L_bar 16 = .ok (.ireturn, 1) := by decide +kernel
theorem kd_L_change_0 : decode kc_L_change 0 = .ok (.aload_n 3, 1) := by decide +kernel
theorem kd_L_change_1 : decode kc_L_change 1 = .ok (.iconst 0, 1) := by decide +kernel
theorem kd_L_change_2 : decode kc_L_change 2 = .ok (.aload_n 0, 1) := by decide +kernel
theorem kd_L_change_3 : decode kc_L_change 3 = .ok (.iload_n 1, 1) := by decide +kernel
theorem kd_L_change_4 : decode kc_L_change 4 = .ok (.iload_n 2, 1) := by decide +kernel
theorem kd_L_change_5 : decode kc_L_change 5 = .ok (.invokevirtual 51, 3) := by decide +kernel
theorem kd_L_change_8 : decode kc_L_change 8 = .ok (.i2l, 1) := by decide +kernel
theorem kd_L_change_9 : decode kc_L_change 9 = .ok (.lastore, 1) := by decide +kernel
theorem kd_L_change_10 : decode kc_L_change 10 = .ok (.goto 11, 3) := by decide +kernel
theorem kd_L_change_13 : decode kc_L_change 13 = .ok (.astore 4, 2) := by decide +kernel
theorem kd_L_change_15 : decode kc_L_change 15 = .ok (.iconst 1, 1) := by decide +kernel
theorem kd_L_change_16 : decode kc_L_change 16 = .ok (.ireturn, 1) := by decide +kernel
theorem kd_L_change_17 : decode kc_L_change 17 = .ok (.astore 4, 2) := by decide +kernel
theorem kd_L_change_19 : decode kc_L_change 19 = .ok (.iconst 2, 1) := by decide +kernel
theorem kd_L_change_20 : decode kc_L_change 20 = .ok (.ireturn, 1) := by decide +kernel
theorem kd_L_change_21 : decode kc_L_change 21 = .ok (.iconst 0, 1) := by decide +kernel
theorem kd_L_change_22 : decode kc_L_change 22 = .ok (.ireturn, 1) := by decide +kernel
theorem kd_L_undo_0 : decode kc_L_undo 0 = .ok (.aload_n 2, 1) := by decide +kernel
theorem kd_L_undo_1 : decode kc_L_undo 1 = .ok (.iconst 0, 1) := by decide +kernel
theorem kd_L_undo_2 : decode kc_L_undo 2 = .ok (.aload_n 0, 1) := by decide +kernel
theorem kd_L_undo_3 : decode kc_L_undo 3 = .ok (.iload_n 1, 1) := by decide +kernel
theorem kd_L_undo_4 : decode kc_L_undo 4 = .ok (.invokevirtual 54, 3) := by decide +kernel
theorem kd_L_undo_7 : decode kc_L_undo 7 = .ok (.i2l, 1) := by decide +kernel
theorem kd_L_undo_8 : decode kc_L_undo 8 = .ok (.lastore, 1) := by decide +kernel
theorem kd_L_undo_9 : decode kc_L_undo 9 = .ok (.goto 9, 3) := by decide +kernel
theorem kd_L_undo_12 : decode kc_L_undo 12 = .ok (.astore_n 3, 1) := by decide +kernel
theorem kd_L_undo_13 : decode kc_L_undo 13 = .ok (.iconst 1, 1) := by decide +kernel
theorem kd_L_undo_14 : decode kc_L_undo 14 = .ok (.ireturn, 1) := by decide +kernel
theorem kd_L_undo_15 : decode kc_L_undo 15 = .ok (.astore_n 3, 1) := by decide +kernel
theorem kd_L_undo_16 : decode kc_L_undo 16 = .ok (.iconst 2, 1) := by decide +kernel
theorem kd_L_undo_17 : decode kc_L_undo 17 = .ok (.ireturn, 1) := by decide +kernel
theorem kd_L_undo_18 : decode kc_L_undo 18 = .ok (.iconst 0, 1) := by decide +kernel
theorem kd_L_undo_19 : decode kc_L_undo 19 = .ok (.ireturn, 1) := by decide +kernel
theorem kd_L_refused_0 : decode kc_L_refused 0 = .ok (.aload_n 2, 1) := by decide +kernel
theorem kd_L_refused_1 : decode kc_L_refused 1 = .ok (.iconst 0, 1) := by decide +kernel
theorem kd_L_refused_2 : decode kc_L_refused 2 = .ok (.aload_n 0, 1) := by decide +kernel
theorem kd_L_refused_3 : decode kc_L_refused 3 = .ok (.iload_n 1, 1) := by decide +kernel
theorem kd_L_refused_4 : decode kc_L_refused 4 = .ok (.invokevirtual 59, 3) := by decide +kernel
theorem kd_L_refused_7 : decode kc_L_refused 7 = .ok (.i2l, 1) := by decide +kernel
theorem kd_L_refused_8 : decode kc_L_refused 8 = .ok (.lastore, 1) := by decide +kernel
theorem kd_L_refused_9 : decode kc_L_refused 9 = .ok (.goto 6, 3) := by decide +kernel
theorem kd_L_refused_12 : decode kc_L_refused 12 = .ok (.astore_n 3, 1) := by decide +kernel
theorem kd_L_refused_13 : decode kc_L_refused 13 = .ok (.iconst 1, 1) := by decide +kernel
theorem kd_L_refused_14 : decode kc_L_refused 14 = .ok (.ireturn, 1) := by decide +kernel
theorem kd_L_refused_15 : decode kc_L_refused 15 = .ok (.iconst 0, 1) := by decide +kernel
theorem kd_L_refused_16 : decode kc_L_refused 16 = .ok (.ireturn, 1) := by decide +kernel
theorem kd_L_average_0 : decode kc_L_average 0 = .ok (.aload_n 2, 1) := by decide +kernel
theorem kd_L_average_1 : decode kc_L_average 1 = .ok (.iconst 0, 1) := by decide +kernel
theorem kd_L_average_2 : decode kc_L_average 2 = .ok (.aload_n 0, 1) := by decide +kernel
theorem kd_L_average_3 : decode kc_L_average 3 = .ok (.iload_n 1, 1) := by decide +kernel
theorem kd_L_average_4 : decode kc_L_average 4 = .ok (.invokevirtual 62, 3) := by decide +kernel
theorem kd_L_average_7 : decode kc_L_average 7 = .ok (.i2l, 1) := by decide +kernel
theorem kd_L_average_8 : decode kc_L_average 8 = .ok (.lastore, 1) := by decide +kernel
theorem kd_L_average_9 : decode kc_L_average 9 = .ok (.goto 9, 3) := by decide +kernel
theorem kd_L_average_12 : decode kc_L_average 12 = .ok (.astore_n 3, 1) := by decide +kernel
theorem kd_L_average_13 : decode kc_L_average 13 = .ok (.iconst 1, 1) := by decide +kernel
theorem kd_L_average_14 : decode kc_L_average 14 = .ok (.ireturn, 1) := by decide +kernel
theorem kd_L_average_15 : decode kc_L_average 15 = .ok (.astore_n 3, 1) := by decide +kernel
theorem kd_L_average_16 : decode kc_L_average 16 = .ok (.iconst 2, 1) := by decide +kernel
theorem kd_L_average_17 : decode kc_L_average 17 = .ok (.ireturn, 1) := by decide +kernel
theorem kd_L_average_18 : decode kc_L_average 18 = .ok (.iconst 0, 1) := by decide +kernel
theorem kd_L_average_19 : decode kc_L_average 19 = .ok (.ireturn, 1) := by decide +kernel
theorem kd_L_law_0 : decode kc_L_law 0 = .ok (.new 8, 3) := by decide +kernel
theorem kd_L_law_3 : decode kc_L_law 3 = .ok (.dup, 1) := by decide +kernel
theorem kd_L_law_4 : decode kc_L_law 4 = .ok (.invokespecial 67, 3) := by decide +kernel
theorem kd_L_law_7 : decode kc_L_law 7 = .ok (.astore_n 1, 1) := by decide +kernel
theorem kd_L_law_8 : decode kc_L_law 8 = .ok (.new 68, 3) := by decide +kernel
theorem kd_L_law_11 : decode kc_L_law 11 = .ok (.dup, 1) := by decide +kernel
theorem kd_L_law_12 : decode kc_L_law 12 = .ok (.invokespecial 70, 3) := by decide +kernel
theorem kd_L_law_15 : decode kc_L_law 15 = .ok (.astore_n 2, 1) := by decide +kernel
theorem kd_L_law_16 : decode kc_L_law 16 = .ok (.iconst 1, 1) := by decide +kernel
theorem kd_L_law_17 : decode kc_L_law 17 = .ok (.newarray .long, 2) := by decide +kernel
theorem kd_L_law_19 : decode kc_L_law 19 = .ok (.astore_n 3, 1) := by decide +kernel
theorem kd_L_law_20 : decode kc_L_law 20 = .ok (.iconst 0, 1) := by decide +kernel
theorem kd_L_law_21 : decode kc_L_law 21 = .ok (.istore 4, 2) := by decide +kernel
theorem kd_L_law_23 : decode kc_L_law 23 = .ok (.iload 4, 2) := by decide +kernel
theorem kd_L_law_25 : decode kc_L_law 25 = .ok (.aload_n 0, 1) := by decide +kernel
theorem kd_L_law_26 : decode kc_L_law 26 = .ok (.arraylength, 1) := by decide +kernel
theorem kd_L_law_27 : decode kc_L_law 27 = .ok (.iconst 5, 1) := by decide +kernel
theorem kd_L_law_28 : decode kc_L_law 28 = .ok (.isub, 1) := by decide +kernel
theorem kd_L_law_29 : decode kc_L_law 29 = .ok (.if_icmp .gt 1088, 3) := by decide +kernel
theorem kd_L_law_32 : decode kc_L_law 32 = .ok (.aload_n 0, 1) := by decide +kernel
theorem kd_L_law_33 : decode kc_L_law 33 = .ok (.iload 4, 2) := by decide +kernel
theorem kd_L_law_35 : decode kc_L_law 35 = .ok (.iaload, 1) := by decide +kernel
theorem kd_L_law_36 : decode kc_L_law 36 = .ok (.bipush 31, 2) := by decide +kernel
theorem kd_L_law_38 : decode kc_L_law 38 = .ok (.iand, 1) := by decide +kernel
theorem kd_L_law_39 : decode kc_L_law 39 = .ok (.tableswitch 1072 0 17 #[85, 177, 245, 305, 365, 468, 524, 537, 550, 563, 643, 699, 755, 811, 879, 935, 991, 1047], 85) := by decide +kernel
theorem kd_L_law_124 : decode kc_L_law 124 = .ok (.aload_n 1, 1) := by decide +kernel
theorem kd_L_law_125 : decode kc_L_law 125 = .ok (.aload_n 0, 1) := by decide +kernel
theorem kd_L_law_126 : decode kc_L_law 126 = .ok (.iload 4, 2) := by decide +kernel
theorem kd_L_law_128 : decode kc_L_law 128 = .ok (.iconst 1, 1) := by decide +kernel
theorem kd_L_law_129 : decode kc_L_law 129 = .ok (.iadd, 1) := by decide +kernel
theorem kd_L_law_130 : decode kc_L_law 130 = .ok (.iaload, 1) := by decide +kernel
theorem kd_L_law_131 : decode kc_L_law 131 = .ok (.aload_n 0, 1) := by decide +kernel
theorem kd_L_law_132 : decode kc_L_law 132 = .ok (.iload 4, 2) := by decide +kernel
theorem kd_L_law_134 : decode kc_L_law 134 = .ok (.iconst 2, 1) := by decide +kernel
theorem kd_L_law_135 : decode kc_L_law 135 = .ok (.iadd, 1) := by decide +kernel
theorem kd_L_law_136 : decode kc_L_law 136 = .ok (.iaload, 1) := by decide +kernel
theorem kd_L_law_137 : decode kc_L_law 137 = .ok (.aload_n 0, 1) := by decide +kernel
theorem kd_L_law_138 : decode kc_L_law 138 = .ok (.iload 4, 2) := by decide +kernel
theorem kd_L_law_140 : decode kc_L_law 140 = .ok (.iconst 3, 1) := by decide +kernel
theorem kd_L_law_141 : decode kc_L_law 141 = .ok (.iadd, 1) := by decide +kernel
theorem kd_L_law_142 : decode kc_L_law 142 = .ok (.iaload, 1) := by decide +kernel
theorem kd_L_law_143 : decode kc_L_law 143 = .ok (.aload_n 0, 1) := by decide +kernel
theorem kd_L_law_144 : decode kc_L_law 144 = .ok (.iload 4, 2) := by decide +kernel
theorem kd_L_law_146 : decode kc_L_law 146 = .ok (.iconst 4, 1) := by decide +kernel
theorem kd_L_law_147 : decode kc_L_law 147 = .ok (.iadd, 1) := by decide +kernel
theorem kd_L_law_148 : decode kc_L_law 148 = .ok (.iaload, 1) := by decide +kernel
theorem kd_L_law_149 : decode kc_L_law 149 = .ok (.aload_n 3, 1) := by decide +kernel
theorem kd_L_law_150 : decode kc_L_law 150 = .ok (.invokestatic 71, 3) := by decide +kernel
theorem kd_L_law_153 : decode kc_L_law 153 = .ok (.istore 5, 2) := by decide +kernel
theorem kd_L_law_155 : decode kc_L_law 155 = .ok (.aload_n 2, 1) := by decide +kernel
theorem kd_L_law_156 : decode kc_L_law 156 = .ok (.aload_n 0, 1) := by decide +kernel
theorem kd_L_law_157 : decode kc_L_law 157 = .ok (.iload 4, 2) := by decide +kernel
theorem kd_L_law_159 : decode kc_L_law 159 = .ok (.iconst 1, 1) := by decide +kernel
theorem kd_L_law_160 : decode kc_L_law 160 = .ok (.iadd, 1) := by decide +kernel
theorem kd_L_law_161 : decode kc_L_law 161 = .ok (.iaload, 1) := by decide +kernel
theorem kd_L_law_162 : decode kc_L_law 162 = .ok (.aload_n 0, 1) := by decide +kernel
theorem kd_L_law_163 : decode kc_L_law 163 = .ok (.iload 4, 2) := by decide +kernel
theorem kd_L_law_165 : decode kc_L_law 165 = .ok (.iconst 2, 1) := by decide +kernel
theorem kd_L_law_166 : decode kc_L_law 166 = .ok (.iadd, 1) := by decide +kernel
theorem kd_L_law_167 : decode kc_L_law 167 = .ok (.iaload, 1) := by decide +kernel
theorem kd_L_law_168 : decode kc_L_law 168 = .ok (.aload_n 0, 1) := by decide +kernel
theorem kd_L_law_169 : decode kc_L_law 169 = .ok (.iload 4, 2) := by decide +kernel
theorem kd_L_law_171 : decode kc_L_law 171 = .ok (.iconst 3, 1) := by decide +kernel
theorem kd_L_law_172 : decode kc_L_law 172 = .ok (.iadd, 1) := by decide +kernel
theorem kd_L_law_173 : decode kc_L_law 173 = .ok (.iaload, 1) := by decide +kernel
theorem kd_L_law_174 : decode kc_L_law 174 = .ok (.aload_n 0, 1) := by decide +kernel
theorem kd_L_law_175 : decode kc_L_law 175 = .ok (.iload 4, 2) := by decide +kernel
theorem kd_L_law_177 : decode kc_L_law 177 = .ok (.iconst 4, 1) := by decide +kernel
theorem kd_L_law_178 : decode kc_L_law 178 = .ok (.iadd, 1) := by decide +kernel
theorem kd_L_law_179 : decode kc_L_law 179 = .ok (.iaload, 1) := by decide +kernel
theorem kd_L_law_180 : decode kc_L_law 180 = .ok (.invokevirtual 76, 3) := by decide +kernel
theorem kd_L_law_183 : decode kc_L_law 183 = .ok (.istore 6, 2) := by decide +kernel
theorem kd_L_law_185 : decode kc_L_law 185 = .ok (.aload_n 2, 1) := by decide +kernel
theorem kd_L_law_186 : decode kc_L_law 186 = .ok (.invokevirtual 77, 3) := by decide +kernel
theorem kd_L_law_189 : decode kc_L_law 189 = .ok (.iload 5, 2) := by decide +kernel
theorem kd_L_law_191 : decode kc_L_law 191 = .ok (.if_icmp .eq 5, 3) := by decide +kernel
theorem kd_L_law_194 : decode kc_L_law 194 = .ok (.iconst 0, 1) := by decide +kernel
theorem kd_L_law_195 : decode kc_L_law 195 = .ok (.ireturn, 1) := by decide +kernel
theorem kd_L_law_196 : decode kc_L_law 196 = .ok (.iload 5, 2) := by decide +kernel
theorem kd_L_law_198 : decode kc_L_law 198 = .ok (.ifCond .ne 15, 3) := by decide +kernel
theorem kd_L_law_201 : decode kc_L_law 201 = .ok (.aload_n 3, 1) := by decide +kernel
theorem kd_L_law_202 : decode kc_L_law 202 = .ok (.iconst 0, 1) := by decide +kernel
theorem kd_L_law_203 : decode kc_L_law 203 = .ok (.laload, 1) := by decide +kernel
theorem kd_L_law_204 : decode kc_L_law 204 = .ok (.iload 6, 2) := by decide +kernel
theorem kd_L_law_206 : decode kc_L_law 206 = .ok (.i2l, 1) := by decide +kernel
theorem kd_L_law_207 : decode kc_L_law 207 = .ok (.lcmp, 1) := by decide +kernel
theorem kd_L_law_208 : decode kc_L_law 208 = .ok (.ifCond .eq 5, 3) := by decide +kernel
theorem kd_L_law_211 : decode kc_L_law 211 = .ok (.iconst 0, 1) := by decide +kernel
theorem kd_L_law_212 : decode kc_L_law 212 = .ok (.ireturn, 1) := by decide +kernel
theorem kd_L_law_213 : decode kc_L_law 213 = .ok (.goto 898, 3) := by decide +kernel
theorem kd_L_law_216 : decode kc_L_law 216 = .ok (.aload_n 1, 1) := by decide +kernel
theorem kd_L_law_217 : decode kc_L_law 217 = .ok (.aload_n 0, 1) := by decide +kernel
theorem kd_L_law_218 : decode kc_L_law 218 = .ok (.iload 4, 2) := by decide +kernel
theorem kd_L_law_220 : decode kc_L_law 220 = .ok (.iconst 1, 1) := by decide +kernel
theorem kd_L_law_221 : decode kc_L_law 221 = .ok (.iadd, 1) := by decide +kernel
theorem kd_L_law_222 : decode kc_L_law 222 = .ok (.iaload, 1) := by decide +kernel
theorem kd_L_law_223 : decode kc_L_law 223 = .ok (.aload_n 0, 1) := by decide +kernel
theorem kd_L_law_224 : decode kc_L_law 224 = .ok (.iload 4, 2) := by decide +kernel
theorem kd_L_law_226 : decode kc_L_law 226 = .ok (.iconst 2, 1) := by decide +kernel
theorem kd_L_law_227 : decode kc_L_law 227 = .ok (.iadd, 1) := by decide +kernel
theorem kd_L_law_228 : decode kc_L_law 228 = .ok (.iaload, 1) := by decide +kernel
theorem kd_L_law_229 : decode kc_L_law 229 = .ok (.aload_n 3, 1) := by decide +kernel
theorem kd_L_law_230 : decode kc_L_law 230 = .ok (.invokestatic 81, 3) := by decide +kernel
theorem kd_L_law_233 : decode kc_L_law 233 = .ok (.istore 5, 2) := by decide +kernel
theorem kd_L_law_235 : decode kc_L_law 235 = .ok (.aload_n 2, 1) := by decide +kernel
theorem kd_L_law_236 : decode kc_L_law 236 = .ok (.aload_n 0, 1) := by decide +kernel
theorem kd_L_law_237 : decode kc_L_law 237 = .ok (.iload 4, 2) := by decide +kernel
theorem kd_L_law_239 : decode kc_L_law 239 = .ok (.iconst 1, 1) := by decide +kernel
theorem kd_L_law_240 : decode kc_L_law 240 = .ok (.iadd, 1) := by decide +kernel
theorem kd_L_law_241 : decode kc_L_law 241 = .ok (.iaload, 1) := by decide +kernel
theorem kd_L_law_242 : decode kc_L_law 242 = .ok (.aload_n 0, 1) := by decide +kernel
theorem kd_L_law_243 : decode kc_L_law 243 = .ok (.iload 4, 2) := by decide +kernel
theorem kd_L_law_245 : decode kc_L_law 245 = .ok (.iconst 2, 1) := by decide +kernel
theorem kd_L_law_246 : decode kc_L_law 246 = .ok (.iadd, 1) := by decide +kernel
theorem kd_L_law_247 : decode kc_L_law 247 = .ok (.iaload, 1) := by decide +kernel
theorem kd_L_law_248 : decode kc_L_law 248 = .ok (.invokevirtual 84, 3) := by decide +kernel
theorem kd_L_law_251 : decode kc_L_law 251 = .ok (.istore 6, 2) := by decide +kernel
theorem kd_L_law_253 : decode kc_L_law 253 = .ok (.aload_n 2, 1) := by decide +kernel
theorem kd_L_law_254 : decode kc_L_law 254 = .ok (.invokevirtual 77, 3) := by decide +kernel
theorem kd_L_law_257 : decode kc_L_law 257 = .ok (.iload 5, 2) := by decide +kernel
theorem kd_L_law_259 : decode kc_L_law 259 = .ok (.if_icmp .eq 5, 3) := by decide +kernel
theorem kd_L_law_262 : decode kc_L_law 262 = .ok (.iconst 0, 1) := by decide +kernel
theorem kd_L_law_263 : decode kc_L_law 263 = .ok (.ireturn, 1) := by decide +kernel
theorem kd_L_law_264 : decode kc_L_law 264 = .ok (.iload 5, 2) := by decide +kernel
theorem kd_L_law_266 : decode kc_L_law 266 = .ok (.ifCond .ne 15, 3) := by decide +kernel
theorem kd_L_law_269 : decode kc_L_law 269 = .ok (.aload_n 3, 1) := by decide +kernel
theorem kd_L_law_270 : decode kc_L_law 270 = .ok (.iconst 0, 1) := by decide +kernel
theorem kd_L_law_271 : decode kc_L_law 271 = .ok (.laload, 1) := by decide +kernel
theorem kd_L_law_272 : decode kc_L_law 272 = .ok (.iload 6, 2) := by decide +kernel
theorem kd_L_law_274 : decode kc_L_law 274 = .ok (.i2l, 1) := by decide +kernel
theorem kd_L_law_275 : decode kc_L_law 275 = .ok (.lcmp, 1) := by decide +kernel
theorem kd_L_law_276 : decode kc_L_law 276 = .ok (.ifCond .eq 5, 3) := by decide +kernel
theorem kd_L_law_279 : decode kc_L_law 279 = .ok (.iconst 0, 1) := by decide +kernel
theorem kd_L_law_280 : decode kc_L_law 280 = .ok (.ireturn, 1) := by decide +kernel
theorem kd_L_law_281 : decode kc_L_law 281 = .ok (.goto 830, 3) := by decide +kernel
theorem kd_L_law_284 : decode kc_L_law 284 = .ok (.aload_n 1, 1) := by decide +kernel
theorem kd_L_law_285 : decode kc_L_law 285 = .ok (.aload_n 0, 1) := by decide +kernel
theorem kd_L_law_286 : decode kc_L_law 286 = .ok (.iload 4, 2) := by decide +kernel
theorem kd_L_law_288 : decode kc_L_law 288 = .ok (.iconst 1, 1) := by decide +kernel
theorem kd_L_law_289 : decode kc_L_law 289 = .ok (.iadd, 1) := by decide +kernel
theorem kd_L_law_290 : decode kc_L_law 290 = .ok (.iaload, 1) := by decide +kernel
theorem kd_L_law_291 : decode kc_L_law 291 = .ok (.aload_n 0, 1) := by decide +kernel
theorem kd_L_law_292 : decode kc_L_law 292 = .ok (.iload 4, 2) := by decide +kernel
theorem kd_L_law_294 : decode kc_L_law 294 = .ok (.iconst 2, 1) := by decide +kernel
theorem kd_L_law_295 : decode kc_L_law 295 = .ok (.iadd, 1) := by decide +kernel
theorem kd_L_law_296 : decode kc_L_law 296 = .ok (.iaload, 1) := by decide +kernel
theorem kd_L_law_297 : decode kc_L_law 297 = .ok (.aload_n 0, 1) := by decide +kernel
theorem kd_L_law_298 : decode kc_L_law 298 = .ok (.iload 4, 2) := by decide +kernel
theorem kd_L_law_300 : decode kc_L_law 300 = .ok (.iconst 3, 1) := by decide +kernel
theorem kd_L_law_301 : decode kc_L_law 301 = .ok (.iadd, 1) := by decide +kernel
theorem kd_L_law_302 : decode kc_L_law 302 = .ok (.iaload, 1) := by decide +kernel
theorem kd_L_law_303 : decode kc_L_law 303 = .ok (.invokestatic 85, 3) := by decide +kernel
theorem kd_L_law_306 : decode kc_L_law 306 = .ok (.istore 5, 2) := by decide +kernel
theorem kd_L_law_308 : decode kc_L_law 308 = .ok (.aload_n 2, 1) := by decide +kernel
theorem kd_L_law_309 : decode kc_L_law 309 = .ok (.aload_n 0, 1) := by decide +kernel
theorem kd_L_law_310 : decode kc_L_law 310 = .ok (.iload 4, 2) := by decide +kernel
theorem kd_L_law_312 : decode kc_L_law 312 = .ok (.iconst 1, 1) := by decide +kernel
theorem kd_L_law_313 : decode kc_L_law 313 = .ok (.iadd, 1) := by decide +kernel
theorem kd_L_law_314 : decode kc_L_law 314 = .ok (.iaload, 1) := by decide +kernel
theorem kd_L_law_315 : decode kc_L_law 315 = .ok (.aload_n 0, 1) := by decide +kernel
theorem kd_L_law_316 : decode kc_L_law 316 = .ok (.iload 4, 2) := by decide +kernel
theorem kd_L_law_318 : decode kc_L_law 318 = .ok (.iconst 2, 1) := by decide +kernel
theorem kd_L_law_319 : decode kc_L_law 319 = .ok (.iadd, 1) := by decide +kernel
theorem kd_L_law_320 : decode kc_L_law 320 = .ok (.iaload, 1) := by decide +kernel
theorem kd_L_law_321 : decode kc_L_law 321 = .ok (.aload_n 0, 1) := by decide +kernel
theorem kd_L_law_322 : decode kc_L_law 322 = .ok (.iload 4, 2) := by decide +kernel
theorem kd_L_law_324 : decode kc_L_law 324 = .ok (.iconst 3, 1) := by decide +kernel
theorem kd_L_law_325 : decode kc_L_law 325 = .ok (.iadd, 1) := by decide +kernel
theorem kd_L_law_326 : decode kc_L_law 326 = .ok (.iaload, 1) := by decide +kernel
theorem kd_L_law_327 : decode kc_L_law 327 = .ok (.invokevirtual 88, 3) := by decide +kernel
theorem kd_L_law_330 : decode kc_L_law 330 = .ok (.aload_n 2, 1) := by decide +kernel
theorem kd_L_law_331 : decode kc_L_law 331 = .ok (.invokevirtual 77, 3) := by decide +kernel
theorem kd_L_law_334 : decode kc_L_law 334 = .ok (.iload 5, 2) := by decide +kernel
theorem kd_L_law_336 : decode kc_L_law 336 = .ok (.if_icmp .eq 5, 3) := by decide +kernel
theorem kd_L_law_339 : decode kc_L_law 339 = .ok (.iconst 0, 1) := by decide +kernel
theorem kd_L_law_340 : decode kc_L_law 340 = .ok (.ireturn, 1) := by decide +kernel
theorem kd_L_law_341 : decode kc_L_law 341 = .ok (.goto 770, 3) := by decide +kernel
theorem kd_L_law_344 : decode kc_L_law 344 = .ok (.aload_n 1, 1) := by decide +kernel
theorem kd_L_law_345 : decode kc_L_law 345 = .ok (.aload_n 0, 1) := by decide +kernel
theorem kd_L_law_346 : decode kc_L_law 346 = .ok (.iload 4, 2) := by decide +kernel
theorem kd_L_law_348 : decode kc_L_law 348 = .ok (.iconst 1, 1) := by decide +kernel
theorem kd_L_law_349 : decode kc_L_law 349 = .ok (.iadd, 1) := by decide +kernel
theorem kd_L_law_350 : decode kc_L_law 350 = .ok (.iaload, 1) := by decide +kernel
theorem kd_L_law_351 : decode kc_L_law 351 = .ok (.aload_n 0, 1) := by decide +kernel
theorem kd_L_law_352 : decode kc_L_law 352 = .ok (.iload 4, 2) := by decide +kernel
theorem kd_L_law_354 : decode kc_L_law 354 = .ok (.iconst 2, 1) := by decide +kernel
theorem kd_L_law_355 : decode kc_L_law 355 = .ok (.iadd, 1) := by decide +kernel
theorem kd_L_law_356 : decode kc_L_law 356 = .ok (.iaload, 1) := by decide +kernel
theorem kd_L_law_357 : decode kc_L_law 357 = .ok (.aload_n 0, 1) := by decide +kernel
theorem kd_L_law_358 : decode kc_L_law 358 = .ok (.iload 4, 2) := by decide +kernel
theorem kd_L_law_360 : decode kc_L_law 360 = .ok (.iconst 3, 1) := by decide +kernel
theorem kd_L_law_361 : decode kc_L_law 361 = .ok (.iadd, 1) := by decide +kernel
theorem kd_L_law_362 : decode kc_L_law 362 = .ok (.iaload, 1) := by decide +kernel
theorem kd_L_law_363 : decode kc_L_law 363 = .ok (.invokestatic 89, 3) := by decide +kernel
theorem kd_L_law_366 : decode kc_L_law 366 = .ok (.istore 5, 2) := by decide +kernel
theorem kd_L_law_368 : decode kc_L_law 368 = .ok (.aload_n 2, 1) := by decide +kernel
theorem kd_L_law_369 : decode kc_L_law 369 = .ok (.aload_n 0, 1) := by decide +kernel
theorem kd_L_law_370 : decode kc_L_law 370 = .ok (.iload 4, 2) := by decide +kernel
theorem kd_L_law_372 : decode kc_L_law 372 = .ok (.iconst 1, 1) := by decide +kernel
theorem kd_L_law_373 : decode kc_L_law 373 = .ok (.iadd, 1) := by decide +kernel
theorem kd_L_law_374 : decode kc_L_law 374 = .ok (.iaload, 1) := by decide +kernel
theorem kd_L_law_375 : decode kc_L_law 375 = .ok (.aload_n 0, 1) := by decide +kernel
theorem kd_L_law_376 : decode kc_L_law 376 = .ok (.iload 4, 2) := by decide +kernel
theorem kd_L_law_378 : decode kc_L_law 378 = .ok (.iconst 2, 1) := by decide +kernel
theorem kd_L_law_379 : decode kc_L_law 379 = .ok (.iadd, 1) := by decide +kernel
theorem kd_L_law_380 : decode kc_L_law 380 = .ok (.iaload, 1) := by decide +kernel
theorem kd_L_law_381 : decode kc_L_law 381 = .ok (.aload_n 0, 1) := by decide +kernel
theorem kd_L_law_382 : decode kc_L_law 382 = .ok (.iload 4, 2) := by decide +kernel
theorem kd_L_law_384 : decode kc_L_law 384 = .ok (.iconst 3, 1) := by decide +kernel
theorem kd_L_law_385 : decode kc_L_law 385 = .ok (.iadd, 1) := by decide +kernel
theorem kd_L_law_386 : decode kc_L_law 386 = .ok (.iaload, 1) := by decide +kernel
theorem kd_L_law_387 : decode kc_L_law 387 = .ok (.invokevirtual 91, 3) := by decide +kernel
theorem kd_L_law_390 : decode kc_L_law 390 = .ok (.aload_n 2, 1) := by decide +kernel
theorem kd_L_law_391 : decode kc_L_law 391 = .ok (.invokevirtual 77, 3) := by decide +kernel
theorem kd_L_law_394 : decode kc_L_law 394 = .ok (.iload 5, 2) := by decide +kernel
theorem kd_L_law_396 : decode kc_L_law 396 = .ok (.if_icmp .eq 5, 3) := by decide +kernel
theorem kd_L_law_399 : decode kc_L_law 399 = .ok (.iconst 0, 1) := by decide +kernel
theorem kd_L_law_400 : decode kc_L_law 400 = .ok (.ireturn, 1) := by decide +kernel
theorem kd_L_law_401 : decode kc_L_law 401 = .ok (.goto 710, 3) := by decide +kernel
theorem kd_L_law_404 : decode kc_L_law 404 = .ok (.aload_n 1, 1) := by decide +kernel
theorem kd_L_law_405 : decode kc_L_law 405 = .ok (.aload_n 0, 1) := by decide +kernel
theorem kd_L_law_406 : decode kc_L_law 406 = .ok (.iload 4, 2) := by decide +kernel
theorem kd_L_law_408 : decode kc_L_law 408 = .ok (.iconst 1, 1) := by decide +kernel
theorem kd_L_law_409 : decode kc_L_law 409 = .ok (.iadd, 1) := by decide +kernel
theorem kd_L_law_410 : decode kc_L_law 410 = .ok (.iaload, 1) := by decide +kernel
theorem kd_L_law_411 : decode kc_L_law 411 = .ok (.aload_n 0, 1) := by decide +kernel
theorem kd_L_law_412 : decode kc_L_law 412 = .ok (.iload 4, 2) := by decide +kernel
theorem kd_L_law_414 : decode kc_L_law 414 = .ok (.iconst 2, 1) := by decide +kernel
theorem kd_L_law_415 : decode kc_L_law 415 = .ok (.iadd, 1) := by decide +kernel
theorem kd_L_law_416 : decode kc_L_law 416 = .ok (.iaload, 1) := by decide +kernel
theorem kd_L_law_417 : decode kc_L_law 417 = .ok (.aload_n 0, 1) := by decide +kernel
theorem kd_L_law_418 : decode kc_L_law 418 = .ok (.iload 4, 2) := by decide +kernel
theorem kd_L_law_420 : decode kc_L_law 420 = .ok (.iconst 3, 1) := by decide +kernel
theorem kd_L_law_421 : decode kc_L_law 421 = .ok (.iadd, 1) := by decide +kernel
theorem kd_L_law_422 : decode kc_L_law 422 = .ok (.iaload, 1) := by decide +kernel
theorem kd_L_law_423 : decode kc_L_law 423 = .ok (.ifCond .eq 7, 3) := by decide +kernel
theorem kd_L_law_426 : decode kc_L_law 426 = .ok (.iconst 1, 1) := by decide +kernel
theorem kd_L_law_427 : decode kc_L_law 427 = .ok (.goto 4, 3) := by decide +kernel
theorem kd_L_law_430 : decode kc_L_law 430 = .ok (.iconst 0, 1) := by decide +kernel
theorem kd_L_law_431 : decode kc_L_law 431 = .ok (.aload_n 3, 1) := by decide +kernel
theorem kd_L_law_432 : decode kc_L_law 432 = .ok (.invokestatic 92, 3) := by decide +kernel
theorem kd_L_law_435 : decode kc_L_law 435 = .ok (.istore 5, 2) := by decide +kernel
theorem kd_L_law_437 : decode kc_L_law 437 = .ok (.aload_n 2, 1) := by decide +kernel
theorem kd_L_law_438 : decode kc_L_law 438 = .ok (.aload_n 0, 1) := by decide +kernel
theorem kd_L_law_439 : decode kc_L_law 439 = .ok (.iload 4, 2) := by decide +kernel
theorem kd_L_law_441 : decode kc_L_law 441 = .ok (.iconst 1, 1) := by decide +kernel
theorem kd_L_law_442 : decode kc_L_law 442 = .ok (.iadd, 1) := by decide +kernel
theorem kd_L_law_443 : decode kc_L_law 443 = .ok (.iaload, 1) := by decide +kernel
theorem kd_L_law_444 : decode kc_L_law 444 = .ok (.aload_n 0, 1) := by decide +kernel
theorem kd_L_law_445 : decode kc_L_law 445 = .ok (.iload 4, 2) := by decide +kernel
theorem kd_L_law_447 : decode kc_L_law 447 = .ok (.iconst 2, 1) := by decide +kernel
theorem kd_L_law_448 : decode kc_L_law 448 = .ok (.iadd, 1) := by decide +kernel
theorem kd_L_law_449 : decode kc_L_law 449 = .ok (.iaload, 1) := by decide +kernel
theorem kd_L_law_450 : decode kc_L_law 450 = .ok (.aload_n 0, 1) := by decide +kernel
theorem kd_L_law_451 : decode kc_L_law 451 = .ok (.iload 4, 2) := by decide +kernel
theorem kd_L_law_453 : decode kc_L_law 453 = .ok (.iconst 3, 1) := by decide +kernel
theorem kd_L_law_454 : decode kc_L_law 454 = .ok (.iadd, 1) := by decide +kernel
theorem kd_L_law_455 : decode kc_L_law 455 = .ok (.iaload, 1) := by decide +kernel
theorem kd_L_law_456 : decode kc_L_law 456 = .ok (.ifCond .eq 7, 3) := by decide +kernel
theorem kd_L_law_459 : decode kc_L_law 459 = .ok (.iconst 1, 1) := by decide +kernel
theorem kd_L_law_460 : decode kc_L_law 460 = .ok (.goto 4, 3) := by decide +kernel
theorem kd_L_law_463 : decode kc_L_law 463 = .ok (.iconst 0, 1) := by decide +kernel
theorem kd_L_law_464 : decode kc_L_law 464 = .ok (.invokevirtual 95, 3) := by decide +kernel
theorem kd_L_law_467 : decode kc_L_law 467 = .ok (.istore 6, 2) := by decide +kernel
theorem kd_L_law_469 : decode kc_L_law 469 = .ok (.aload_n 2, 1) := by decide +kernel
theorem kd_L_law_470 : decode kc_L_law 470 = .ok (.invokevirtual 77, 3) := by decide +kernel
theorem kd_L_law_473 : decode kc_L_law 473 = .ok (.iload 5, 2) := by decide +kernel
theorem kd_L_law_475 : decode kc_L_law 475 = .ok (.if_icmp .eq 5, 3) := by decide +kernel
theorem kd_L_law_478 : decode kc_L_law 478 = .ok (.iconst 0, 1) := by decide +kernel
theorem kd_L_law_479 : decode kc_L_law 479 = .ok (.ireturn, 1) := by decide +kernel
theorem kd_L_law_480 : decode kc_L_law 480 = .ok (.iload 5, 2) := by decide +kernel
theorem kd_L_law_482 : decode kc_L_law 482 = .ok (.ifCond .ne 22, 3) := by decide +kernel
theorem kd_L_law_485 : decode kc_L_law 485 = .ok (.aload_n 3, 1) := by decide +kernel
theorem kd_L_law_486 : decode kc_L_law 486 = .ok (.iconst 0, 1) := by decide +kernel
theorem kd_L_law_487 : decode kc_L_law 487 = .ok (.laload, 1) := by decide +kernel
theorem kd_L_law_488 : decode kc_L_law 488 = .ok (.iload 6, 2) := by decide +kernel
theorem kd_L_law_490 : decode kc_L_law 490 = .ok (.ifCond .eq 7, 3) := by decide +kernel
theorem kd_L_law_493 : decode kc_L_law 493 = .ok (.lconst 1, 1) := by decide +kernel
theorem kd_L_law_494 : decode kc_L_law 494 = .ok (.goto 4, 3) := by decide +kernel
theorem kd_L_law_497 : decode kc_L_law 497 = .ok (.lconst 0, 1) := by decide +kernel
theorem kd_L_law_498 : decode kc_L_law 498 = .ok (.lcmp, 1) := by decide +kernel
theorem kd_L_law_499 : decode kc_L_law 499 = .ok (.ifCond .eq 5, 3) := by decide +kernel
theorem kd_L_law_502 : decode kc_L_law 502 = .ok (.iconst 0, 1) := by decide +kernel
theorem kd_L_law_503 : decode kc_L_law 503 = .ok (.ireturn, 1) := by decide +kernel
theorem kd_L_law_504 : decode kc_L_law 504 = .ok (.goto 607, 3) := by decide +kernel
theorem kd_L_law_507 : decode kc_L_law 507 = .ok (.aload_n 1, 1) := by decide +kernel
theorem kd_L_law_508 : decode kc_L_law 508 = .ok (.aload_n 0, 1) := by decide +kernel
theorem kd_L_law_509 : decode kc_L_law 509 = .ok (.iload 4, 2) := by decide +kernel
theorem kd_L_law_511 : decode kc_L_law 511 = .ok (.iconst 1, 1) := by decide +kernel
theorem kd_L_law_512 : decode kc_L_law 512 = .ok (.iadd, 1) := by decide +kernel
theorem kd_L_law_513 : decode kc_L_law 513 = .ok (.iaload, 1) := by decide +kernel
theorem kd_L_law_514 : decode kc_L_law 514 = .ok (.aload_n 3, 1) := by decide +kernel
theorem kd_L_law_515 : decode kc_L_law 515 = .ok (.invokestatic 96, 3) := by decide +kernel
theorem kd_L_law_518 : decode kc_L_law 518 = .ok (.istore 5, 2) := by decide +kernel
theorem kd_L_law_520 : decode kc_L_law 520 = .ok (.aload_n 2, 1) := by decide +kernel
theorem kd_L_law_521 : decode kc_L_law 521 = .ok (.aload_n 0, 1) := by decide +kernel
theorem kd_L_law_522 : decode kc_L_law 522 = .ok (.iload 4, 2) := by decide +kernel
theorem kd_L_law_524 : decode kc_L_law 524 = .ok (.iconst 1, 1) := by decide +kernel
theorem kd_L_law_525 : decode kc_L_law 525 = .ok (.iadd, 1) := by decide +kernel
theorem kd_L_law_526 : decode kc_L_law 526 = .ok (.iaload, 1) := by decide +kernel
theorem kd_L_law_527 : decode kc_L_law 527 = .ok (.invokevirtual 99, 3) := by decide +kernel
theorem kd_L_law_530 : decode kc_L_law 530 = .ok (.istore 6, 2) := by decide +kernel
theorem kd_L_law_532 : decode kc_L_law 532 = .ok (.aload_n 2, 1) := by decide +kernel
theorem kd_L_law_533 : decode kc_L_law 533 = .ok (.invokevirtual 77, 3) := by decide +kernel
theorem kd_L_law_536 : decode kc_L_law 536 = .ok (.iload 5, 2) := by decide +kernel
theorem kd_L_law_538 : decode kc_L_law 538 = .ok (.if_icmp .eq 5, 3) := by decide +kernel
theorem kd_L_law_541 : decode kc_L_law 541 = .ok (.iconst 0, 1) := by decide +kernel
theorem kd_L_law_542 : decode kc_L_law 542 = .ok (.ireturn, 1) := by decide +kernel
theorem kd_L_law_543 : decode kc_L_law 543 = .ok (.iload 5, 2) := by decide +kernel
theorem kd_L_law_545 : decode kc_L_law 545 = .ok (.ifCond .ne 15, 3) := by decide +kernel
theorem kd_L_law_548 : decode kc_L_law 548 = .ok (.aload_n 3, 1) := by decide +kernel
theorem kd_L_law_549 : decode kc_L_law 549 = .ok (.iconst 0, 1) := by decide +kernel
theorem kd_L_law_550 : decode kc_L_law 550 = .ok (.laload, 1) := by decide +kernel
theorem kd_L_law_551 : decode kc_L_law 551 = .ok (.iload 6, 2) := by decide +kernel
theorem kd_L_law_553 : decode kc_L_law 553 = .ok (.i2l, 1) := by decide +kernel
theorem kd_L_law_554 : decode kc_L_law 554 = .ok (.lcmp, 1) := by decide +kernel
theorem kd_L_law_555 : decode kc_L_law 555 = .ok (.ifCond .eq 5, 3) := by decide +kernel
theorem kd_L_law_558 : decode kc_L_law 558 = .ok (.iconst 0, 1) := by decide +kernel
theorem kd_L_law_559 : decode kc_L_law 559 = .ok (.ireturn, 1) := by decide +kernel
theorem kd_L_law_560 : decode kc_L_law 560 = .ok (.goto 551, 3) := by decide +kernel
theorem kd_L_law_563 : decode kc_L_law 563 = .ok (.aload_n 1, 1) := by decide +kernel
theorem kd_L_law_564 : decode kc_L_law 564 = .ok (.invokevirtual 100, 3) := by decide +kernel
theorem kd_L_law_567 : decode kc_L_law 567 = .ok (.aload_n 2, 1) := by decide +kernel
theorem kd_L_law_568 : decode kc_L_law 568 = .ok (.invokevirtual 104, 3) := by decide +kernel
theorem kd_L_law_571 : decode kc_L_law 571 = .ok (.if_icmp .eq 540, 3) := by decide +kernel
theorem kd_L_law_574 : decode kc_L_law 574 = .ok (.iconst 0, 1) := by decide +kernel
theorem kd_L_law_575 : decode kc_L_law 575 = .ok (.ireturn, 1) := by decide +kernel
theorem kd_L_law_576 : decode kc_L_law 576 = .ok (.aload_n 1, 1) := by decide +kernel
theorem kd_L_law_577 : decode kc_L_law 577 = .ok (.invokevirtual 105, 3) := by decide +kernel
theorem kd_L_law_580 : decode kc_L_law 580 = .ok (.aload_n 2, 1) := by decide +kernel
theorem kd_L_law_581 : decode kc_L_law 581 = .ok (.invokevirtual 108, 3) := by decide +kernel
theorem kd_L_law_584 : decode kc_L_law 584 = .ok (.if_icmp .eq 527, 3) := by decide +kernel
theorem kd_L_law_587 : decode kc_L_law 587 = .ok (.iconst 0, 1) := by decide +kernel
theorem kd_L_law_588 : decode kc_L_law 588 = .ok (.ireturn, 1) := by decide +kernel
theorem kd_L_law_589 : decode kc_L_law 589 = .ok (.aload_n 1, 1) := by decide +kernel
theorem kd_L_law_590 : decode kc_L_law 590 = .ok (.invokevirtual 109, 3) := by decide +kernel
theorem kd_L_law_593 : decode kc_L_law 593 = .ok (.aload_n 2, 1) := by decide +kernel
theorem kd_L_law_594 : decode kc_L_law 594 = .ok (.invokevirtual 112, 3) := by decide +kernel
theorem kd_L_law_597 : decode kc_L_law 597 = .ok (.if_icmp .eq 514, 3) := by decide +kernel
theorem kd_L_law_600 : decode kc_L_law 600 = .ok (.iconst 0, 1) := by decide +kernel
theorem kd_L_law_601 : decode kc_L_law 601 = .ok (.ireturn, 1) := by decide +kernel
theorem kd_L_law_602 : decode kc_L_law 602 = .ok (.aload_n 1, 1) := by decide +kernel
theorem kd_L_law_603 : decode kc_L_law 603 = .ok (.aload_n 0, 1) := by decide +kernel
theorem kd_L_law_604 : decode kc_L_law 604 = .ok (.iload 4, 2) := by decide +kernel
theorem kd_L_law_606 : decode kc_L_law 606 = .ok (.iconst 1, 1) := by decide +kernel
theorem kd_L_law_607 : decode kc_L_law 607 = .ok (.iadd, 1) := by decide +kernel
theorem kd_L_law_608 : decode kc_L_law 608 = .ok (.iaload, 1) := by decide +kernel
theorem kd_L_law_609 : decode kc_L_law 609 = .ok (.aload_n 0, 1) := by decide +kernel
theorem kd_L_law_610 : decode kc_L_law 610 = .ok (.iload 4, 2) := by decide +kernel
theorem kd_L_law_612 : decode kc_L_law 612 = .ok (.iconst 2, 1) := by decide +kernel
theorem kd_L_law_613 : decode kc_L_law 613 = .ok (.iadd, 1) := by decide +kernel
theorem kd_L_law_614 : decode kc_L_law 614 = .ok (.iaload, 1) := by decide +kernel
theorem kd_L_law_615 : decode kc_L_law 615 = .ok (.aload_n 0, 1) := by decide +kernel
theorem kd_L_law_616 : decode kc_L_law 616 = .ok (.iload 4, 2) := by decide +kernel
theorem kd_L_law_618 : decode kc_L_law 618 = .ok (.iconst 3, 1) := by decide +kernel
theorem kd_L_law_619 : decode kc_L_law 619 = .ok (.iadd, 1) := by decide +kernel
theorem kd_L_law_620 : decode kc_L_law 620 = .ok (.iaload, 1) := by decide +kernel
theorem kd_L_law_621 : decode kc_L_law 621 = .ok (.aload_n 3, 1) := by decide +kernel
theorem kd_L_law_622 : decode kc_L_law 622 = .ok (.invokestatic 113, 3) := by decide +kernel
theorem kd_L_law_625 : decode kc_L_law 625 = .ok (.istore 5, 2) := by decide +kernel
theorem kd_L_law_627 : decode kc_L_law 627 = .ok (.aload_n 2, 1) := by decide +kernel
theorem kd_L_law_628 : decode kc_L_law 628 = .ok (.aload_n 0, 1) := by decide +kernel
theorem kd_L_law_629 : decode kc_L_law 629 = .ok (.iload 4, 2) := by decide +kernel
theorem kd_L_law_631 : decode kc_L_law 631 = .ok (.iconst 1, 1) := by decide +kernel
theorem kd_L_law_632 : decode kc_L_law 632 = .ok (.iadd, 1) := by decide +kernel
theorem kd_L_law_633 : decode kc_L_law 633 = .ok (.iaload, 1) := by decide +kernel
theorem kd_L_law_634 : decode kc_L_law 634 = .ok (.aload_n 0, 1) := by decide +kernel
theorem kd_L_law_635 : decode kc_L_law 635 = .ok (.iload 4, 2) := by decide +kernel
theorem kd_L_law_637 : decode kc_L_law 637 = .ok (.iconst 2, 1) := by decide +kernel
theorem kd_L_law_638 : decode kc_L_law 638 = .ok (.iadd, 1) := by decide +kernel
theorem kd_L_law_639 : decode kc_L_law 639 = .ok (.iaload, 1) := by decide +kernel
theorem kd_L_law_640 : decode kc_L_law 640 = .ok (.aload_n 0, 1) := by decide +kernel
theorem kd_L_law_641 : decode kc_L_law 641 = .ok (.iload 4, 2) := by decide +kernel
theorem kd_L_law_643 : decode kc_L_law 643 = .ok (.iconst 3, 1) := by decide +kernel
theorem kd_L_law_644 : decode kc_L_law 644 = .ok (.iadd, 1) := by decide +kernel
theorem kd_L_law_645 : decode kc_L_law 645 = .ok (.iaload, 1) := by decide +kernel
theorem kd_L_law_646 : decode kc_L_law 646 = .ok (.invokevirtual 116, 3) := by decide +kernel
theorem kd_L_law_649 : decode kc_L_law 649 = .ok (.istore 6, 2) := by decide +kernel
theorem kd_L_law_651 : decode kc_L_law 651 = .ok (.aload_n 2, 1) := by decide +kernel
theorem kd_L_law_652 : decode kc_L_law 652 = .ok (.invokevirtual 77, 3) := by decide +kernel
theorem kd_L_law_655 : decode kc_L_law 655 = .ok (.iload 5, 2) := by decide +kernel
theorem kd_L_law_657 : decode kc_L_law 657 = .ok (.if_icmp .eq 5, 3) := by decide +kernel
theorem kd_L_law_660 : decode kc_L_law 660 = .ok (.iconst 0, 1) := by decide +kernel
theorem kd_L_law_661 : decode kc_L_law 661 = .ok (.ireturn, 1) := by decide +kernel
theorem kd_L_law_662 : decode kc_L_law 662 = .ok (.iload 5, 2) := by decide +kernel
theorem kd_L_law_664 : decode kc_L_law 664 = .ok (.ifCond .ne 15, 3) := by decide +kernel
theorem kd_L_law_667 : decode kc_L_law 667 = .ok (.aload_n 3, 1) := by decide +kernel
theorem kd_L_law_668 : decode kc_L_law 668 = .ok (.iconst 0, 1) := by decide +kernel
theorem kd_L_law_669 : decode kc_L_law 669 = .ok (.laload, 1) := by decide +kernel
theorem kd_L_law_670 : decode kc_L_law 670 = .ok (.iload 6, 2) := by decide +kernel
theorem kd_L_law_672 : decode kc_L_law 672 = .ok (.i2l, 1) := by decide +kernel
theorem kd_L_law_673 : decode kc_L_law 673 = .ok (.lcmp, 1) := by decide +kernel
theorem kd_L_law_674 : decode kc_L_law 674 = .ok (.ifCond .eq 5, 3) := by decide +kernel
theorem kd_L_law_677 : decode kc_L_law 677 = .ok (.iconst 0, 1) := by decide +kernel
theorem kd_L_law_678 : decode kc_L_law 678 = .ok (.ireturn, 1) := by decide +kernel
theorem kd_L_law_679 : decode kc_L_law 679 = .ok (.goto 432, 3) := by decide +kernel
theorem kd_L_law_682 : decode kc_L_law 682 = .ok (.aload_n 1, 1) := by decide +kernel
theorem kd_L_law_683 : decode kc_L_law 683 = .ok (.aload_n 0, 1) := by decide +kernel
theorem kd_L_law_684 : decode kc_L_law 684 = .ok (.iload 4, 2) := by decide +kernel
theorem kd_L_law_686 : decode kc_L_law 686 = .ok (.iconst 1, 1) := by decide +kernel
theorem kd_L_law_687 : decode kc_L_law 687 = .ok (.iadd, 1) := by decide +kernel
theorem kd_L_law_688 : decode kc_L_law 688 = .ok (.iaload, 1) := by decide +kernel
theorem kd_L_law_689 : decode kc_L_law 689 = .ok (.aload_n 3, 1) := by decide +kernel
theorem kd_L_law_690 : decode kc_L_law 690 = .ok (.invokestatic 117, 3) := by decide +kernel
theorem kd_L_law_693 : decode kc_L_law 693 = .ok (.istore 5, 2) := by decide +kernel
theorem kd_L_law_695 : decode kc_L_law 695 = .ok (.aload_n 2, 1) := by decide +kernel
theorem kd_L_law_696 : decode kc_L_law 696 = .ok (.aload_n 0, 1) := by decide +kernel
theorem kd_L_law_697 : decode kc_L_law 697 = .ok (.iload 4, 2) := by decide +kernel
theorem kd_L_law_699 : decode kc_L_law 699 = .ok (.iconst 1, 1) := by decide +kernel
theorem kd_L_law_700 : decode kc_L_law 700 = .ok (.iadd, 1) := by decide +kernel
theorem kd_L_law_701 : decode kc_L_law 701 = .ok (.iaload, 1) := by decide +kernel
theorem kd_L_law_702 : decode kc_L_law 702 = .ok (.invokevirtual 119, 3) := by decide +kernel
theorem kd_L_law_705 : decode kc_L_law 705 = .ok (.istore 6, 2) := by decide +kernel
theorem kd_L_law_707 : decode kc_L_law 707 = .ok (.aload_n 2, 1) := by decide +kernel
theorem kd_L_law_708 : decode kc_L_law 708 = .ok (.invokevirtual 77, 3) := by decide +kernel
theorem kd_L_law_711 : decode kc_L_law 711 = .ok (.iload 5, 2) := by decide +kernel
theorem kd_L_law_713 : decode kc_L_law 713 = .ok (.if_icmp .eq 5, 3) := by decide +kernel
theorem kd_L_law_716 : decode kc_L_law 716 = .ok (.iconst 0, 1) := by decide +kernel
theorem kd_L_law_717 : decode kc_L_law 717 = .ok (.ireturn, 1) := by decide +kernel
theorem kd_L_law_718 : decode kc_L_law 718 = .ok (.iload 5, 2) := by decide +kernel
theorem kd_L_law_720 : decode kc_L_law 720 = .ok (.ifCond .ne 15, 3) := by decide +kernel
theorem kd_L_law_723 : decode kc_L_law 723 = .ok (.aload_n 3, 1) := by decide +kernel
theorem kd_L_law_724 : decode kc_L_law 724 = .ok (.iconst 0, 1) := by decide +kernel
theorem kd_L_law_725 : decode kc_L_law 725 = .ok (.laload, 1) := by decide +kernel
theorem kd_L_law_726 : decode kc_L_law 726 = .ok (.iload 6, 2) := by decide +kernel
theorem kd_L_law_728 : decode kc_L_law 728 = .ok (.i2l, 1) := by decide +kernel
theorem kd_L_law_729 : decode kc_L_law 729 = .ok (.lcmp, 1) := by decide +kernel
theorem kd_L_law_730 : decode kc_L_law 730 = .ok (.ifCond .eq 5, 3) := by decide +kernel
theorem kd_L_law_733 : decode kc_L_law 733 = .ok (.iconst 0, 1) := by decide +kernel
theorem kd_L_law_734 : decode kc_L_law 734 = .ok (.ireturn, 1) := by decide +kernel
theorem kd_L_law_735 : decode kc_L_law 735 = .ok (.goto 376, 3) := by decide +kernel
theorem kd_L_law_738 : decode kc_L_law 738 = .ok (.aload_n 1, 1) := by decide +kernel
theorem kd_L_law_739 : decode kc_L_law 739 = .ok (.aload_n 0, 1) := by decide +kernel
theorem kd_L_law_740 : decode kc_L_law 740 = .ok (.iload 4, 2) := by decide +kernel
theorem kd_L_law_742 : decode kc_L_law 742 = .ok (.iconst 1, 1) := by decide +kernel
theorem kd_L_law_743 : decode kc_L_law 743 = .ok (.iadd, 1) := by decide +kernel
theorem kd_L_law_744 : decode kc_L_law 744 = .ok (.iaload, 1) := by decide +kernel
theorem kd_L_law_745 : decode kc_L_law 745 = .ok (.aload_n 3, 1) := by decide +kernel
theorem kd_L_law_746 : decode kc_L_law 746 = .ok (.invokestatic 120, 3) := by decide +kernel
theorem kd_L_law_749 : decode kc_L_law 749 = .ok (.istore 5, 2) := by decide +kernel
theorem kd_L_law_751 : decode kc_L_law 751 = .ok (.aload_n 2, 1) := by decide +kernel
theorem kd_L_law_752 : decode kc_L_law 752 = .ok (.aload_n 0, 1) := by decide +kernel
theorem kd_L_law_753 : decode kc_L_law 753 = .ok (.iload 4, 2) := by decide +kernel
theorem kd_L_law_755 : decode kc_L_law 755 = .ok (.iconst 1, 1) := by decide +kernel
theorem kd_L_law_756 : decode kc_L_law 756 = .ok (.iadd, 1) := by decide +kernel
theorem kd_L_law_757 : decode kc_L_law 757 = .ok (.iaload, 1) := by decide +kernel
theorem kd_L_law_758 : decode kc_L_law 758 = .ok (.invokevirtual 122, 3) := by decide +kernel
theorem kd_L_law_761 : decode kc_L_law 761 = .ok (.istore 6, 2) := by decide +kernel
theorem kd_L_law_763 : decode kc_L_law 763 = .ok (.aload_n 2, 1) := by decide +kernel
theorem kd_L_law_764 : decode kc_L_law 764 = .ok (.invokevirtual 77, 3) := by decide +kernel
theorem kd_L_law_767 : decode kc_L_law 767 = .ok (.iload 5, 2) := by decide +kernel
theorem kd_L_law_769 : decode kc_L_law 769 = .ok (.if_icmp .eq 5, 3) := by decide +kernel
theorem kd_L_law_772 : decode kc_L_law 772 = .ok (.iconst 0, 1) := by decide +kernel
theorem kd_L_law_773 : decode kc_L_law 773 = .ok (.ireturn, 1) := by decide +kernel
theorem kd_L_law_774 : decode kc_L_law 774 = .ok (.iload 5, 2) := by decide +kernel
theorem kd_L_law_776 : decode kc_L_law 776 = .ok (.ifCond .ne 15, 3) := by decide +kernel
theorem kd_L_law_779 : decode kc_L_law 779 = .ok (.aload_n 3, 1) := by decide +kernel
theorem kd_L_law_780 : decode kc_L_law 780 = .ok (.iconst 0, 1) := by decide +kernel
theorem kd_L_law_781 : decode kc_L_law 781 = .ok (.laload, 1) := by decide +kernel
theorem kd_L_law_782 : decode kc_L_law 782 = .ok (.iload 6, 2) := by decide +kernel
theorem kd_L_law_784 : decode kc_L_law 784 = .ok (.i2l, 1) := by decide +kernel
theorem kd_L_law_785 : decode kc_L_law 785 = .ok (.lcmp, 1) := by decide +kernel
theorem kd_L_law_786 : decode kc_L_law 786 = .ok (.ifCond .eq 5, 3) := by decide +kernel
theorem kd_L_law_789 : decode kc_L_law 789 = .ok (.iconst 0, 1) := by decide +kernel
theorem kd_L_law_790 : decode kc_L_law 790 = .ok (.ireturn, 1) := by decide +kernel
theorem kd_L_law_791 : decode kc_L_law 791 = .ok (.goto 320, 3) := by decide +kernel
theorem kd_L_law_794 : decode kc_L_law 794 = .ok (.aload_n 1, 1) := by decide +kernel
theorem kd_L_law_795 : decode kc_L_law 795 = .ok (.aload_n 0, 1) := by decide +kernel
theorem kd_L_law_796 : decode kc_L_law 796 = .ok (.iload 4, 2) := by decide +kernel
theorem kd_L_law_798 : decode kc_L_law 798 = .ok (.iconst 1, 1) := by decide +kernel
theorem kd_L_law_799 : decode kc_L_law 799 = .ok (.iadd, 1) := by decide +kernel
theorem kd_L_law_800 : decode kc_L_law 800 = .ok (.iaload, 1) := by decide +kernel
theorem kd_L_law_801 : decode kc_L_law 801 = .ok (.aload_n 3, 1) := by decide +kernel
theorem kd_L_law_802 : decode kc_L_law 802 = .ok (.invokestatic 123, 3) := by decide +kernel
theorem kd_L_law_805 : decode kc_L_law 805 = .ok (.istore 5, 2) := by decide +kernel
theorem kd_L_law_807 : decode kc_L_law 807 = .ok (.aload_n 2, 1) := by decide +kernel
theorem kd_L_law_808 : decode kc_L_law 808 = .ok (.aload_n 0, 1) := by decide +kernel
theorem kd_L_law_809 : decode kc_L_law 809 = .ok (.iload 4, 2) := by decide +kernel
theorem kd_L_law_811 : decode kc_L_law 811 = .ok (.iconst 1, 1) := by decide +kernel
theorem kd_L_law_812 : decode kc_L_law 812 = .ok (.iadd, 1) := by decide +kernel
theorem kd_L_law_813 : decode kc_L_law 813 = .ok (.iaload, 1) := by decide +kernel
theorem kd_L_law_814 : decode kc_L_law 814 = .ok (.invokevirtual 125, 3) := by decide +kernel
theorem kd_L_law_817 : decode kc_L_law 817 = .ok (.istore 6, 2) := by decide +kernel
theorem kd_L_law_819 : decode kc_L_law 819 = .ok (.aload_n 2, 1) := by decide +kernel
theorem kd_L_law_820 : decode kc_L_law 820 = .ok (.invokevirtual 77, 3) := by decide +kernel
theorem kd_L_law_823 : decode kc_L_law 823 = .ok (.iload 5, 2) := by decide +kernel
theorem kd_L_law_825 : decode kc_L_law 825 = .ok (.if_icmp .eq 5, 3) := by decide +kernel
theorem kd_L_law_828 : decode kc_L_law 828 = .ok (.iconst 0, 1) := by decide +kernel
theorem kd_L_law_829 : decode kc_L_law 829 = .ok (.ireturn, 1) := by decide +kernel
theorem kd_L_law_830 : decode kc_L_law 830 = .ok (.iload 5, 2) := by decide +kernel
theorem kd_L_law_832 : decode kc_L_law 832 = .ok (.ifCond .ne 15, 3) := by decide +kernel
theorem kd_L_law_835 : decode kc_L_law 835 = .ok (.aload_n 3, 1) := by decide +kernel
theorem kd_L_law_836 : decode kc_L_law 836 = .ok (.iconst 0, 1) := by decide +kernel
theorem kd_L_law_837 : decode kc_L_law 837 = .ok (.laload, 1) := by decide +kernel
theorem kd_L_law_838 : decode kc_L_law 838 = .ok (.iload 6, 2) := by decide +kernel
theorem kd_L_law_840 : decode kc_L_law 840 = .ok (.i2l, 1) := by decide +kernel
theorem kd_L_law_841 : decode kc_L_law 841 = .ok (.lcmp, 1) := by decide +kernel
theorem kd_L_law_842 : decode kc_L_law 842 = .ok (.ifCond .eq 5, 3) := by decide +kernel
theorem kd_L_law_845 : decode kc_L_law 845 = .ok (.iconst 0, 1) := by decide +kernel
theorem kd_L_law_846 : decode kc_L_law 846 = .ok (.ireturn, 1) := by decide +kernel
theorem kd_L_law_847 : decode kc_L_law 847 = .ok (.goto 264, 3) := by decide +kernel
theorem kd_L_law_850 : decode kc_L_law 850 = .ok (.aload_n 1, 1) := by decide +kernel
theorem kd_L_law_851 : decode kc_L_law 851 = .ok (.aload_n 0, 1) := by decide +kernel
theorem kd_L_law_852 : decode kc_L_law 852 = .ok (.iload 4, 2) := by decide +kernel
theorem kd_L_law_854 : decode kc_L_law 854 = .ok (.iconst 1, 1) := by decide +kernel
theorem kd_L_law_855 : decode kc_L_law 855 = .ok (.iadd, 1) := by decide +kernel
theorem kd_L_law_856 : decode kc_L_law 856 = .ok (.iaload, 1) := by decide +kernel
theorem kd_L_law_857 : decode kc_L_law 857 = .ok (.aload_n 0, 1) := by decide +kernel
theorem kd_L_law_858 : decode kc_L_law 858 = .ok (.iload 4, 2) := by decide +kernel
theorem kd_L_law_860 : decode kc_L_law 860 = .ok (.iconst 2, 1) := by decide +kernel
theorem kd_L_law_861 : decode kc_L_law 861 = .ok (.iadd, 1) := by decide +kernel
theorem kd_L_law_862 : decode kc_L_law 862 = .ok (.iaload, 1) := by decide +kernel
theorem kd_L_law_863 : decode kc_L_law 863 = .ok (.aload_n 3, 1) := by decide +kernel
theorem kd_L_law_864 : decode kc_L_law 864 = .ok (.invokestatic 126, 3) := by decide +kernel
theorem kd_L_law_867 : decode kc_L_law 867 = .ok (.istore 5, 2) := by decide +kernel
theorem kd_L_law_869 : decode kc_L_law 869 = .ok (.aload_n 2, 1) := by decide +kernel
theorem kd_L_law_870 : decode kc_L_law 870 = .ok (.aload_n 0, 1) := by decide +kernel
theorem kd_L_law_871 : decode kc_L_law 871 = .ok (.iload 4, 2) := by decide +kernel
theorem kd_L_law_873 : decode kc_L_law 873 = .ok (.iconst 1, 1) := by decide +kernel
theorem kd_L_law_874 : decode kc_L_law 874 = .ok (.iadd, 1) := by decide +kernel
theorem kd_L_law_875 : decode kc_L_law 875 = .ok (.iaload, 1) := by decide +kernel
theorem kd_L_law_876 : decode kc_L_law 876 = .ok (.aload_n 0, 1) := by decide +kernel
theorem kd_L_law_877 : decode kc_L_law 877 = .ok (.iload 4, 2) := by decide +kernel
theorem kd_L_law_879 : decode kc_L_law 879 = .ok (.iconst 2, 1) := by decide +kernel
theorem kd_L_law_880 : decode kc_L_law 880 = .ok (.iadd, 1) := by decide +kernel
theorem kd_L_law_881 : decode kc_L_law 881 = .ok (.iaload, 1) := by decide +kernel
theorem kd_L_law_882 : decode kc_L_law 882 = .ok (.invokevirtual 128, 3) := by decide +kernel
theorem kd_L_law_885 : decode kc_L_law 885 = .ok (.istore 6, 2) := by decide +kernel
theorem kd_L_law_887 : decode kc_L_law 887 = .ok (.aload_n 2, 1) := by decide +kernel
theorem kd_L_law_888 : decode kc_L_law 888 = .ok (.invokevirtual 77, 3) := by decide +kernel
theorem kd_L_law_891 : decode kc_L_law 891 = .ok (.iload 5, 2) := by decide +kernel
theorem kd_L_law_893 : decode kc_L_law 893 = .ok (.if_icmp .eq 5, 3) := by decide +kernel
theorem kd_L_law_896 : decode kc_L_law 896 = .ok (.iconst 0, 1) := by decide +kernel
theorem kd_L_law_897 : decode kc_L_law 897 = .ok (.ireturn, 1) := by decide +kernel
theorem kd_L_law_898 : decode kc_L_law 898 = .ok (.iload 5, 2) := by decide +kernel
theorem kd_L_law_900 : decode kc_L_law 900 = .ok (.ifCond .ne 15, 3) := by decide +kernel
theorem kd_L_law_903 : decode kc_L_law 903 = .ok (.aload_n 3, 1) := by decide +kernel
theorem kd_L_law_904 : decode kc_L_law 904 = .ok (.iconst 0, 1) := by decide +kernel
theorem kd_L_law_905 : decode kc_L_law 905 = .ok (.laload, 1) := by decide +kernel
theorem kd_L_law_906 : decode kc_L_law 906 = .ok (.iload 6, 2) := by decide +kernel
theorem kd_L_law_908 : decode kc_L_law 908 = .ok (.i2l, 1) := by decide +kernel
theorem kd_L_law_909 : decode kc_L_law 909 = .ok (.lcmp, 1) := by decide +kernel
theorem kd_L_law_910 : decode kc_L_law 910 = .ok (.ifCond .eq 5, 3) := by decide +kernel
theorem kd_L_law_913 : decode kc_L_law 913 = .ok (.iconst 0, 1) := by decide +kernel
theorem kd_L_law_914 : decode kc_L_law 914 = .ok (.ireturn, 1) := by decide +kernel
theorem kd_L_law_915 : decode kc_L_law 915 = .ok (.goto 196, 3) := by decide +kernel
theorem kd_L_law_918 : decode kc_L_law 918 = .ok (.aload_n 1, 1) := by decide +kernel
theorem kd_L_law_919 : decode kc_L_law 919 = .ok (.aload_n 0, 1) := by decide +kernel
theorem kd_L_law_920 : decode kc_L_law 920 = .ok (.iload 4, 2) := by decide +kernel
theorem kd_L_law_922 : decode kc_L_law 922 = .ok (.iconst 1, 1) := by decide +kernel
theorem kd_L_law_923 : decode kc_L_law 923 = .ok (.iadd, 1) := by decide +kernel
theorem kd_L_law_924 : decode kc_L_law 924 = .ok (.iaload, 1) := by decide +kernel
theorem kd_L_law_925 : decode kc_L_law 925 = .ok (.aload_n 3, 1) := by decide +kernel
theorem kd_L_law_926 : decode kc_L_law 926 = .ok (.invokestatic 129, 3) := by decide +kernel
theorem kd_L_law_929 : decode kc_L_law 929 = .ok (.istore 5, 2) := by decide +kernel
theorem kd_L_law_931 : decode kc_L_law 931 = .ok (.aload_n 2, 1) := by decide +kernel
theorem kd_L_law_932 : decode kc_L_law 932 = .ok (.aload_n 0, 1) := by decide +kernel
theorem kd_L_law_933 : decode kc_L_law 933 = .ok (.iload 4, 2) := by decide +kernel
theorem kd_L_law_935 : decode kc_L_law 935 = .ok (.iconst 1, 1) := by decide +kernel
theorem kd_L_law_936 : decode kc_L_law 936 = .ok (.iadd, 1) := by decide +kernel
theorem kd_L_law_937 : decode kc_L_law 937 = .ok (.iaload, 1) := by decide +kernel
theorem kd_L_law_938 : decode kc_L_law 938 = .ok (.invokevirtual 131, 3) := by decide +kernel
theorem kd_L_law_941 : decode kc_L_law 941 = .ok (.istore 6, 2) := by decide +kernel
theorem kd_L_law_943 : decode kc_L_law 943 = .ok (.aload_n 2, 1) := by decide +kernel
theorem kd_L_law_944 : decode kc_L_law 944 = .ok (.invokevirtual 77, 3) := by decide +kernel
theorem kd_L_law_947 : decode kc_L_law 947 = .ok (.iload 5, 2) := by decide +kernel
theorem kd_L_law_949 : decode kc_L_law 949 = .ok (.if_icmp .eq 5, 3) := by decide +kernel
theorem kd_L_law_952 : decode kc_L_law 952 = .ok (.iconst 0, 1) := by decide +kernel
theorem kd_L_law_953 : decode kc_L_law 953 = .ok (.ireturn, 1) := by decide +kernel
theorem kd_L_law_954 : decode kc_L_law 954 = .ok (.iload 5, 2) := by decide +kernel
theorem kd_L_law_956 : decode kc_L_law 956 = .ok (.ifCond .ne 15, 3) := by decide +kernel
theorem kd_L_law_959 : decode kc_L_law 959 = .ok (.aload_n 3, 1) := by decide +kernel
theorem kd_L_law_960 : decode kc_L_law 960 = .ok (.iconst 0, 1) := by decide +kernel
theorem kd_L_law_961 : decode kc_L_law 961 = .ok (.laload, 1) := by decide +kernel
theorem kd_L_law_962 : decode kc_L_law 962 = .ok (.iload 6, 2) := by decide +kernel
theorem kd_L_law_964 : decode kc_L_law 964 = .ok (.i2l, 1) := by decide +kernel
theorem kd_L_law_965 : decode kc_L_law 965 = .ok (.lcmp, 1) := by decide +kernel
theorem kd_L_law_966 : decode kc_L_law 966 = .ok (.ifCond .eq 5, 3) := by decide +kernel
theorem kd_L_law_969 : decode kc_L_law 969 = .ok (.iconst 0, 1) := by decide +kernel
theorem kd_L_law_970 : decode kc_L_law 970 = .ok (.ireturn, 1) := by decide +kernel
theorem kd_L_law_971 : decode kc_L_law 971 = .ok (.goto 140, 3) := by decide +kernel
theorem kd_L_law_974 : decode kc_L_law 974 = .ok (.aload_n 1, 1) := by decide +kernel
theorem kd_L_law_975 : decode kc_L_law 975 = .ok (.aload_n 0, 1) := by decide +kernel
theorem kd_L_law_976 : decode kc_L_law 976 = .ok (.iload 4, 2) := by decide +kernel
theorem kd_L_law_978 : decode kc_L_law 978 = .ok (.iconst 1, 1) := by decide +kernel
theorem kd_L_law_979 : decode kc_L_law 979 = .ok (.iadd, 1) := by decide +kernel
theorem kd_L_law_980 : decode kc_L_law 980 = .ok (.iaload, 1) := by decide +kernel
theorem kd_L_law_981 : decode kc_L_law 981 = .ok (.aload_n 3, 1) := by decide +kernel
theorem kd_L_law_982 : decode kc_L_law 982 = .ok (.invokestatic 132, 3) := by decide +kernel
theorem kd_L_law_985 : decode kc_L_law 985 = .ok (.istore 5, 2) := by decide +kernel
theorem kd_L_law_987 : decode kc_L_law 987 = .ok (.aload_n 2, 1) := by decide +kernel
theorem kd_L_law_988 : decode kc_L_law 988 = .ok (.aload_n 0, 1) := by decide +kernel
theorem kd_L_law_989 : decode kc_L_law 989 = .ok (.iload 4, 2) := by decide +kernel
theorem kd_L_law_991 : decode kc_L_law 991 = .ok (.iconst 1, 1) := by decide +kernel
theorem kd_L_law_992 : decode kc_L_law 992 = .ok (.iadd, 1) := by decide +kernel
theorem kd_L_law_993 : decode kc_L_law 993 = .ok (.iaload, 1) := by decide +kernel
theorem kd_L_law_994 : decode kc_L_law 994 = .ok (.invokevirtual 134, 3) := by decide +kernel
theorem kd_L_law_997 : decode kc_L_law 997 = .ok (.istore 6, 2) := by decide +kernel
theorem kd_L_law_999 : decode kc_L_law 999 = .ok (.aload_n 2, 1) := by decide +kernel
theorem kd_L_law_1000 : decode kc_L_law 1000 = .ok (.invokevirtual 77, 3) := by decide +kernel
theorem kd_L_law_1003 : decode kc_L_law 1003 = .ok (.iload 5, 2) := by decide +kernel
theorem kd_L_law_1005 : decode kc_L_law 1005 = .ok (.if_icmp .eq 5, 3) := by decide +kernel
theorem kd_L_law_1008 : decode kc_L_law 1008 = .ok (.iconst 0, 1) := by decide +kernel
theorem kd_L_law_1009 : decode kc_L_law 1009 = .ok (.ireturn, 1) := by decide +kernel
theorem kd_L_law_1010 : decode kc_L_law 1010 = .ok (.iload 5, 2) := by decide +kernel
theorem kd_L_law_1012 : decode kc_L_law 1012 = .ok (.ifCond .ne 15, 3) := by decide +kernel
theorem kd_L_law_1015 : decode kc_L_law 1015 = .ok (.aload_n 3, 1) := by decide +kernel
theorem kd_L_law_1016 : decode kc_L_law 1016 = .ok (.iconst 0, 1) := by decide +kernel
theorem kd_L_law_1017 : decode kc_L_law 1017 = .ok (.laload, 1) := by decide +kernel
theorem kd_L_law_1018 : decode kc_L_law 1018 = .ok (.iload 6, 2) := by decide +kernel
theorem kd_L_law_1020 : decode kc_L_law 1020 = .ok (.i2l, 1) := by decide +kernel
theorem kd_L_law_1021 : decode kc_L_law 1021 = .ok (.lcmp, 1) := by decide +kernel
theorem kd_L_law_1022 : decode kc_L_law 1022 = .ok (.ifCond .eq 5, 3) := by decide +kernel
theorem kd_L_law_1025 : decode kc_L_law 1025 = .ok (.iconst 0, 1) := by decide +kernel
theorem kd_L_law_1026 : decode kc_L_law 1026 = .ok (.ireturn, 1) := by decide +kernel
theorem kd_L_law_1027 : decode kc_L_law 1027 = .ok (.goto 84, 3) := by decide +kernel
theorem kd_L_law_1030 : decode kc_L_law 1030 = .ok (.aload_n 1, 1) := by decide +kernel
theorem kd_L_law_1031 : decode kc_L_law 1031 = .ok (.aload_n 0, 1) := by decide +kernel
theorem kd_L_law_1032 : decode kc_L_law 1032 = .ok (.iload 4, 2) := by decide +kernel
theorem kd_L_law_1034 : decode kc_L_law 1034 = .ok (.iconst 1, 1) := by decide +kernel
theorem kd_L_law_1035 : decode kc_L_law 1035 = .ok (.iadd, 1) := by decide +kernel
theorem kd_L_law_1036 : decode kc_L_law 1036 = .ok (.iaload, 1) := by decide +kernel
theorem kd_L_law_1037 : decode kc_L_law 1037 = .ok (.aload_n 3, 1) := by decide +kernel
theorem kd_L_law_1038 : decode kc_L_law 1038 = .ok (.invokestatic 135, 3) := by decide +kernel
theorem kd_L_law_1041 : decode kc_L_law 1041 = .ok (.istore 5, 2) := by decide +kernel
theorem kd_L_law_1043 : decode kc_L_law 1043 = .ok (.aload_n 2, 1) := by decide +kernel
theorem kd_L_law_1044 : decode kc_L_law 1044 = .ok (.aload_n 0, 1) := by decide +kernel
theorem kd_L_law_1045 : decode kc_L_law 1045 = .ok (.iload 4, 2) := by decide +kernel
theorem kd_L_law_1047 : decode kc_L_law 1047 = .ok (.iconst 1, 1) := by decide +kernel
theorem kd_L_law_1048 : decode kc_L_law 1048 = .ok (.iadd, 1) := by decide +kernel
theorem kd_L_law_1049 : decode kc_L_law 1049 = .ok (.iaload, 1) := by decide +kernel
theorem kd_L_law_1050 : decode kc_L_law 1050 = .ok (.invokevirtual 137, 3) := by decide +kernel
theorem kd_L_law_1053 : decode kc_L_law 1053 = .ok (.istore 6, 2) := by decide +kernel
theorem kd_L_law_1055 : decode kc_L_law 1055 = .ok (.aload_n 2, 1) := by decide +kernel
theorem kd_L_law_1056 : decode kc_L_law 1056 = .ok (.invokevirtual 77, 3) := by decide +kernel
theorem kd_L_law_1059 : decode kc_L_law 1059 = .ok (.iload 5, 2) := by decide +kernel
theorem kd_L_law_1061 : decode kc_L_law 1061 = .ok (.if_icmp .eq 5, 3) := by decide +kernel
theorem kd_L_law_1064 : decode kc_L_law 1064 = .ok (.iconst 0, 1) := by decide +kernel
theorem kd_L_law_1065 : decode kc_L_law 1065 = .ok (.ireturn, 1) := by decide +kernel
theorem kd_L_law_1066 : decode kc_L_law 1066 = .ok (.iload 5, 2) := by decide +kernel
theorem kd_L_law_1068 : decode kc_L_law 1068 = .ok (.ifCond .ne 15, 3) := by decide +kernel
theorem kd_L_law_1071 : decode kc_L_law 1071 = .ok (.aload_n 3, 1) := by decide +kernel
theorem kd_L_law_1072 : decode kc_L_law 1072 = .ok (.iconst 0, 1) := by decide +kernel
theorem kd_L_law_1073 : decode kc_L_law 1073 = .ok (.laload, 1) := by decide +kernel
theorem kd_L_law_1074 : decode kc_L_law 1074 = .ok (.iload 6, 2) := by decide +kernel
theorem kd_L_law_1076 : decode kc_L_law 1076 = .ok (.i2l, 1) := by decide +kernel
theorem kd_L_law_1077 : decode kc_L_law 1077 = .ok (.lcmp, 1) := by decide +kernel
theorem kd_L_law_1078 : decode kc_L_law 1078 = .ok (.ifCond .eq 5, 3) := by decide +kernel
theorem kd_L_law_1081 : decode kc_L_law 1081 = .ok (.iconst 0, 1) := by decide +kernel
theorem kd_L_law_1082 : decode kc_L_law 1082 = .ok (.ireturn, 1) := by decide +kernel
theorem kd_L_law_1083 : decode kc_L_law 1083 = .ok (.goto 28, 3) := by decide +kernel
theorem kd_L_law_1086 : decode kc_L_law 1086 = .ok (.aload_n 1, 1) := by decide +kernel
theorem kd_L_law_1087 : decode kc_L_law 1087 = .ok (.aload_n 0, 1) := by decide +kernel
theorem kd_L_law_1088 : decode kc_L_law 1088 = .ok (.iload 4, 2) := by decide +kernel
theorem kd_L_law_1090 : decode kc_L_law 1090 = .ok (.iconst 1, 1) := by decide +kernel
theorem kd_L_law_1091 : decode kc_L_law 1091 = .ok (.iadd, 1) := by decide +kernel
theorem kd_L_law_1092 : decode kc_L_law 1092 = .ok (.iaload, 1) := by decide +kernel
theorem kd_L_law_1093 : decode kc_L_law 1093 = .ok (.invokevirtual 138, 3) := by decide +kernel
theorem kd_L_law_1096 : decode kc_L_law 1096 = .ok (.aload_n 2, 1) := by decide +kernel
theorem kd_L_law_1097 : decode kc_L_law 1097 = .ok (.aload_n 0, 1) := by decide +kernel
theorem kd_L_law_1098 : decode kc_L_law 1098 = .ok (.iload 4, 2) := by decide +kernel
theorem kd_L_law_1100 : decode kc_L_law 1100 = .ok (.iconst 1, 1) := by decide +kernel
theorem kd_L_law_1101 : decode kc_L_law 1101 = .ok (.iadd, 1) := by decide +kernel
theorem kd_L_law_1102 : decode kc_L_law 1102 = .ok (.iaload, 1) := by decide +kernel
theorem kd_L_law_1103 : decode kc_L_law 1103 = .ok (.invokevirtual 141, 3) := by decide +kernel
theorem kd_L_law_1106 : decode kc_L_law 1106 = .ok (.if_icmp .eq 5, 3) := by decide +kernel
theorem kd_L_law_1109 : decode kc_L_law 1109 = .ok (.iconst 0, 1) := by decide +kernel
theorem kd_L_law_1110 : decode kc_L_law 1110 = .ok (.ireturn, 1) := by decide +kernel
theorem kd_L_law_1111 : decode kc_L_law 1111 = .ok (.iinc 4 5, 3) := by decide +kernel
theorem kd_L_law_1114 : decode kc_L_law 1114 = .ok (.goto (-1091), 3) := by decide +kernel
theorem kd_L_law_1117 : decode kc_L_law 1117 = .ok (.iconst 1, 1) := by decide +kernel
theorem kd_L_law_1118 : decode kc_L_law 1118 = .ok (.ireturn, 1) := by decide +kernel
end
section
/-! classes, fields, words, by program -/
def kT_A : u_T := fun k => match k with
  | 0 => ("AllocateSolve", "floor", "LAllocateSolve$Floor;", true)
  | 1 => ("AllocateSolve", "lots", "LAllocateSolve$Lots;", true)
  | 2 => ("AllocateSolve", "lines", "LAllocateSolve$Lines;", true)
  | 3 => ("AllocateSolve", "search", "LAllocateSolve$Search;", true)
  | _ => ("AllocateSolve", "solvedExactly", "Z", false)
def kt_A : Nat → FieldType := fun k => match k with
  | 0 => .object "AllocateSolve$Floor"
  | 1 => .object "AllocateSolve$Lots"
  | 2 => .object "AllocateSolve$Lines"
  | 3 => .object "AllocateSolve$Search"
  | _ => .boolean
theorem kn_A : ∀ a, a < 5 → ∀ b, b < 5 → a ≠ b → (kT_A a).2.1 ≠ (kT_A b).2.1 := by decide +kernel
theorem ko_A : ∀ k, k < 5 → parseFieldDescriptor (kT_A k).2.2.1 = some (kt_A k) := by decide +kernel
def kT_F : u_T := fun k => match k with
  | 0 => ("AllocateSolve$Floor", "lots", "LAllocateSolve$Lots;", true)
  | _ => ("AllocateSolve$Floor", "lines", "LAllocateSolve$Lines;", true)
def kt_F : Nat → FieldType := fun k => match k with
  | 0 => .object "AllocateSolve$Lots"
  | _ => .object "AllocateSolve$Lines"
theorem kn_F : ∀ a, a < 2 → ∀ b, b < 2 → a ≠ b → (kT_F a).2.1 ≠ (kT_F b).2.1 := by decide +kernel
theorem ko_F : ∀ k, k < 2 → parseFieldDescriptor (kT_F k).2.2.1 = some (kt_F k) := by decide +kernel
def kT_N : u_T := fun k => match k with
  | 0 => ("AllocateSolve$Lines", "size", "I", false)
  | 1 => ("AllocateSolve$Lines", "good", "[I", true)
  | 2 => ("AllocateSolve$Lines", "want", "[I", true)
  | 3 => ("AllocateSolve$Lines", "barred", "[I", true)
  | 4 => ("AllocateSolve$Lines", "rules", "[[I", true)
  | 5 => ("AllocateSolve$Lines", "told", "[[I", true)
  | _ => ("AllocateSolve$Lines", "gifts", "[[I", true)
def kt_N : Nat → FieldType := fun k => match k with
  | 0 => .int
  | 1 => .array .int
  | 2 => .array .int
  | 3 => .array .int
  | 4 => .array (.array .int)
  | 5 => .array (.array .int)
  | _ => .array (.array .int)
theorem kn_N : ∀ a, a < 7 → ∀ b, b < 7 → a ≠ b → (kT_N a).2.1 ≠ (kT_N b).2.1 := by decide +kernel
theorem ko_N : ∀ k, k < 7 → parseFieldDescriptor (kT_N k).2.2.1 = some (kt_N k) := by decide +kernel
def kT_T : u_T := fun k => match k with
  | 0 => ("AllocateSolve$Lots", "size", "I", false)
  | 1 => ("AllocateSolve$Lots", "place", "[I", true)
  | 2 => ("AllocateSolve$Lots", "good", "[I", true)
  | 3 => ("AllocateSolve$Lots", "until", "[I", true)
  | 4 => ("AllocateSolve$Lots", "pieces", "[I", true)
  | 5 => ("AllocateSolve$Lots", "free", "[I", true)
  | _ => ("AllocateSolve$Lots", "order", "[I", true)
def kt_T : Nat → FieldType := fun k => match k with
  | 0 => .int
  | 1 => .array .int
  | 2 => .array .int
  | 3 => .array .int
  | 4 => .array .int
  | 5 => .array .int
  | _ => .array .int
theorem kn_T : ∀ a, a < 7 → ∀ b, b < 7 → a ≠ b → (kT_T a).2.1 ≠ (kT_T b).2.1 := by decide +kernel
theorem ko_T : ∀ k, k < 7 → parseFieldDescriptor (kT_T k).2.2.1 = some (kt_T k) := by decide +kernel
def kT_S : u_T := fun k => match k with
  | 0 => ("AllocateSolve$Search", "floor", "LAllocateSolve$Floor;", true)
  | 1 => ("AllocateSolve$Search", "lots", "LAllocateSolve$Lots;", true)
  | 2 => ("AllocateSolve$Search", "lines", "LAllocateSolve$Lines;", true)
  | 3 => ("AllocateSolve$Search", "allowed", "[[I", true)
  | 4 => ("AllocateSolve$Search", "allowedCount", "[I", true)
  | 5 => ("AllocateSolve$Search", "tried", "[I", true)
  | 6 => ("AllocateSolve$Search", "best", "[I", true)
  | 7 => ("AllocateSolve$Search", "restBound", "[I", true)
  | _ => ("AllocateSolve$Search", "bestCost", "I", false)
def kt_S : Nat → FieldType := fun k => match k with
  | 0 => .object "AllocateSolve$Floor"
  | 1 => .object "AllocateSolve$Lots"
  | 2 => .object "AllocateSolve$Lines"
  | 3 => .array (.array .int)
  | 4 => .array .int
  | 5 => .array .int
  | 6 => .array .int
  | 7 => .array .int
  | _ => .int
theorem kn_S : ∀ a, a < 9 → ∀ b, b < 9 → a ≠ b → (kT_S a).2.1 ≠ (kT_S b).2.1 := by decide +kernel
theorem ko_S : ∀ k, k < 9 → parseFieldDescriptor (kT_S k).2.2.1 = some (kt_S k) := by decide +kernel
def kT_M : u_T := fun k => match k with
  | 0 => ("AllocateSolveModel", "code", "I", false)
  | 1 => ("AllocateSolveModel", "lots", "I", false)
  | 2 => ("AllocateSolveModel", "place", "[I", true)
  | 3 => ("AllocateSolveModel", "good", "[I", true)
  | 4 => ("AllocateSolveModel", "pieces", "[I", true)
  | 5 => ("AllocateSolveModel", "until", "[I", true)
  | 6 => ("AllocateSolveModel", "lines", "I", false)
  | 7 => ("AllocateSolveModel", "wish", "[I", true)
  | 8 => ("AllocateSolveModel", "many", "[I", true)
  | 9 => ("AllocateSolveModel", "rules", "[I", true)
  | 10 => ("AllocateSolveModel", "told", "[I", true)
  | 11 => ("AllocateSolveModel", "barred", "[Z", true)
  | 12 => ("AllocateSolveModel", "holds", "[I", true)
  | 13 => ("AllocateSolveModel", "exact", "Z", false)
  | 14 => ("AllocateSolveModel", "allowed", "[I", true)
  | 15 => ("AllocateSolveModel", "allowedCount", "[I", true)
  | 16 => ("AllocateSolveModel", "sets", "[I", true)
  | 17 => ("AllocateSolveModel", "bestSets", "[I", true)
  | 18 => ("AllocateSolveModel", "rest", "[I", true)
  | 19 => ("AllocateSolveModel", "spent", "[I", true)
  | _ => ("AllocateSolveModel", "taken", "[I", true)
def kt_M : Nat → FieldType := fun k => match k with
  | 0 => .int
  | 1 => .int
  | 2 => .array .int
  | 3 => .array .int
  | 4 => .array .int
  | 5 => .array .int
  | 6 => .int
  | 7 => .array .int
  | 8 => .array .int
  | 9 => .array .int
  | 10 => .array .int
  | 11 => .array .boolean
  | 12 => .array .int
  | 13 => .boolean
  | 14 => .array .int
  | 15 => .array .int
  | 16 => .array .int
  | 17 => .array .int
  | 18 => .array .int
  | 19 => .array .int
  | _ => .array .int
theorem kn_M : ∀ a, a < 21 → ∀ b, b < 21 → a ≠ b → (kT_M a).2.1 ≠ (kT_M b).2.1 := by decide +kernel
theorem ko_M : ∀ k, k < 21 → parseFieldDescriptor (kT_M k).2.2.1 = some (kt_M k) := by decide +kernel
def am_cl : List vw_C := [("AllocateSolve", kT_A, 5), ("AllocateSolve$Floor", kT_F, 2), ("AllocateSolve$Lines", kT_N, 7), ("AllocateSolve$Lots", kT_T, 7), ("AllocateSolve$Search", kT_S, 9), ("AllocateSolveModel", kT_M, 21)]
def am_ty : Nat → Nat → FieldType := fun c => match c with
  | 0 => kt_A
  | 1 => kt_F
  | 2 => kt_N
  | 3 => kt_T
  | 4 => kt_S
  | _ => kt_M
theorem kw_in {i : Nat} {w : Cond} (h : tables_1[i]? = some w) : w ∈ lw_tbl := List.mem_append_right _ (List.mem_of_getElem? h)
/-! the words of tables_1 by their places, by program -/
set_option maxRecDepth 50000 in
theorem kw_0 : tables_1[0]? = some (Jvm.Cond.initialized "AllocateSolveLaw") := rfl
set_option maxRecDepth 50000 in
theorem kw_1 : tables_1[1]? = some (Jvm.Cond.initialized "AllocateSolve") := rfl
set_option maxRecDepth 50000 in
theorem kw_2 : tables_1[2]? = some (Jvm.Cond.initialized "AllocateSolve$Floor") := rfl
set_option maxRecDepth 50000 in
theorem kw_3 : tables_1[3]? = some (Jvm.Cond.initialized "AllocateSolve$Lots") := rfl
set_option maxRecDepth 50000 in
theorem kw_4 : tables_1[4]? = some (Jvm.Cond.initialized "AllocateSolve$Lines") := rfl
set_option maxRecDepth 50000 in
theorem kw_5 : tables_1[5]? = some (Jvm.Cond.initialized "AllocateSolve$Search") := rfl
set_option maxRecDepth 50000 in
theorem kw_6 : tables_1[6]? = some (Jvm.Cond.initialized "AllocateSolveModel") := rfl
set_option maxRecDepth 50000 in
theorem kw_7 : tables_1[7]? = some (Jvm.Cond.initialized "java/lang/Throwable") := rfl
set_option maxRecDepth 50000 in
theorem kw_8 : tables_1[8]? = some (Jvm.Cond.initialized "java/lang/Exception") := rfl
set_option maxRecDepth 50000 in
theorem kw_9 : tables_1[9]? = some (Jvm.Cond.initialized "java/lang/RuntimeException") := rfl
set_option maxRecDepth 50000 in
theorem kw_10 : tables_1[10]? = some (Jvm.Cond.initialized "java/lang/IllegalArgumentException") := rfl
set_option maxRecDepth 50000 in
theorem kw_11 : tables_1[11]? = some (Jvm.Cond.initialized "java/lang/UnsupportedOperationException") := rfl
set_option maxRecDepth 50000 in
theorem kw_12 : tables_1[12]? = some (Jvm.Cond.initialized "java/util/NoSuchElementException") := rfl
set_option maxRecDepth 50000 in
theorem kw_13 : tables_1[13]? = some (Jvm.Cond.initialized "java/lang/Math") := rfl
set_option maxRecDepth 50000 in
theorem kw_14 : tables_1[14]? = some (Jvm.Cond.initialized "java/lang/Integer") := rfl
set_option maxRecDepth 50000 in
theorem kw_15 : tables_1[15]? = some (Jvm.Cond.initialized "java/lang/IllegalStateException") := rfl
set_option maxRecDepth 50000 in
theorem kw_16 : tables_1[16]? = some (Jvm.Cond.initialized "java/lang/ArithmeticException") := rfl
set_option maxRecDepth 50000 in
theorem kw_17 : tables_1[17]? = some (Jvm.Cond.classLink "AllocateSolveLaw" (8 : Nat) "AllocateSolve") := rfl
set_option maxRecDepth 50000 in
theorem kw_18 : tables_1[18]? = some (Jvm.Cond.instantiable "AllocateSolve" (5 : Nat)) := rfl
set_option maxRecDepth 50000 in
theorem kw_19 : tables_1[19]? = some (Jvm.Cond.methodLink "AllocateSolveLaw" (67 : Nat) ⟨"AllocateSolve", "<init>", "()V"⟩) := rfl
set_option maxRecDepth 50000 in
theorem kw_20 : tables_1[20]? = some (Jvm.Cond.instanceMethod ⟨"AllocateSolve", "<init>", "()V"⟩) := rfl
set_option maxRecDepth 50000 in
theorem kw_21 : tables_1[21]? = some (Jvm.Cond.code ⟨"AllocateSolve", "<init>", "()V"⟩ prog_1_method_1_code (1 : Nat) (Option.none : Option Jvm.ClassFile.FieldType)) := rfl
set_option maxRecDepth 50000 in
theorem kw_22 : tables_1[22]? = some (Jvm.Cond.methodLink "AllocateSolve" (1 : Nat) ⟨"java/lang/Object", "<init>", "()V"⟩) := rfl
set_option maxRecDepth 50000 in
theorem kw_23 : tables_1[23]? = some (Jvm.Cond.instanceMethod ⟨"java/lang/Object", "<init>", "()V"⟩) := rfl
set_option maxRecDepth 50000 in
theorem kw_24 : tables_1[24]? = some (Jvm.Cond.code ⟨"java/lang/Object", "<init>", "()V"⟩ object_method_1_code (1 : Nat) (Option.none : Option Jvm.ClassFile.FieldType)) := rfl
set_option maxRecDepth 50000 in
theorem kw_25 : tables_1[25]? = some (Jvm.Cond.classLink "AllocateSolve" (7 : Nat) "AllocateSolve$Floor") := rfl
set_option maxRecDepth 50000 in
theorem kw_26 : tables_1[26]? = some (Jvm.Cond.instantiable "AllocateSolve$Floor" (2 : Nat)) := rfl
set_option maxRecDepth 50000 in
theorem kw_27 : tables_1[27]? = some (Jvm.Cond.methodLinkNest "AllocateSolve" (9 : Nat) ⟨"AllocateSolve$Floor", "<init>", "()V"⟩ "AllocateSolve") := rfl
set_option maxRecDepth 50000 in
theorem kw_28 : tables_1[28]? = some (Jvm.Cond.instanceMethod ⟨"AllocateSolve$Floor", "<init>", "()V"⟩) := rfl
set_option maxRecDepth 50000 in
theorem kw_29 : tables_1[29]? = some (Jvm.Cond.code ⟨"AllocateSolve$Floor", "<init>", "()V"⟩ prog_2_method_1_code (1 : Nat) (Option.none : Option Jvm.ClassFile.FieldType)) := rfl
set_option maxRecDepth 50000 in
theorem kw_30 : tables_1[30]? = some (Jvm.Cond.methodLink "AllocateSolve$Floor" (3 : Nat) ⟨"java/lang/Object", "<init>", "()V"⟩) := rfl
set_option maxRecDepth 50000 in
theorem kw_31 : tables_1[31]? = some (Jvm.Cond.classLink "AllocateSolve$Floor" (9 : Nat) "AllocateSolve$Lots") := rfl
set_option maxRecDepth 50000 in
theorem kw_32 : tables_1[32]? = some (Jvm.Cond.instantiable "AllocateSolve$Lots" (7 : Nat)) := rfl
set_option maxRecDepth 50000 in
theorem kw_33 : tables_1[33]? = some (Jvm.Cond.methodLinkNest "AllocateSolve$Floor" (11 : Nat) ⟨"AllocateSolve$Lots", "<init>", "()V"⟩ "AllocateSolve") := rfl
set_option maxRecDepth 50000 in
theorem kw_34 : tables_1[34]? = some (Jvm.Cond.instanceMethod ⟨"AllocateSolve$Lots", "<init>", "()V"⟩) := rfl
set_option maxRecDepth 50000 in
theorem kw_35 : tables_1[35]? = some (Jvm.Cond.code ⟨"AllocateSolve$Lots", "<init>", "()V"⟩ prog_4_method_1_code (1 : Nat) (Option.none : Option Jvm.ClassFile.FieldType)) := rfl
set_option maxRecDepth 50000 in
theorem kw_36 : tables_1[36]? = some (Jvm.Cond.methodLink "AllocateSolve$Lots" (3 : Nat) ⟨"java/lang/Object", "<init>", "()V"⟩) := rfl
set_option maxRecDepth 50000 in
theorem kw_37 : tables_1[37]? = some (Jvm.Cond.fieldLink "AllocateSolve$Lots" (30 : Nat) "AllocateSolve$Lots" "size" "I") := rfl
set_option maxRecDepth 50000 in
theorem kw_38 : tables_1[38]? = some (Jvm.Cond.fieldLink "AllocateSolve$Search" (51 : Nat) "AllocateSolve$Lots" "size" "I") := rfl
set_option maxRecDepth 50000 in
theorem kw_39 : tables_1[39]? = some (Jvm.Cond.fieldLink "AllocateSolve" (43 : Nat) "AllocateSolve$Lots" "size" "I") := rfl
set_option maxRecDepth 50000 in
theorem kw_40 : tables_1[40]? = some (Jvm.Cond.fieldLink "AllocateSolve$Floor" (48 : Nat) "AllocateSolve$Lots" "size" "I") := rfl
set_option maxRecDepth 50000 in
theorem kw_41 : tables_1[41]? = some (Jvm.Cond.fieldLink "AllocateSolve$Lots" (9 : Nat) "AllocateSolve$Lots" "place" "[I") := rfl
set_option maxRecDepth 50000 in
theorem kw_42 : tables_1[42]? = some (Jvm.Cond.fieldLink "AllocateSolve$Floor" (60 : Nat) "AllocateSolve$Lots" "place" "[I") := rfl
set_option maxRecDepth 50000 in
theorem kw_43 : tables_1[43]? = some (Jvm.Cond.fieldLink "AllocateSolve$Lots" (15 : Nat) "AllocateSolve$Lots" "good" "[I") := rfl
set_option maxRecDepth 50000 in
theorem kw_44 : tables_1[44]? = some (Jvm.Cond.fieldLink "AllocateSolve$Floor" (25 : Nat) "AllocateSolve$Lots" "good" "[I") := rfl
set_option maxRecDepth 50000 in
theorem kw_45 : tables_1[45]? = some (Jvm.Cond.fieldLink "AllocateSolve$Lots" (18 : Nat) "AllocateSolve$Lots" "until" "[I") := rfl
set_option maxRecDepth 50000 in
theorem kw_46 : tables_1[46]? = some (Jvm.Cond.fieldLink "AllocateSolve$Floor" (30 : Nat) "AllocateSolve$Lots" "until" "[I") := rfl
set_option maxRecDepth 50000 in
theorem kw_47 : tables_1[47]? = some (Jvm.Cond.fieldLink "AllocateSolve$Lots" (21 : Nat) "AllocateSolve$Lots" "pieces" "[I") := rfl
set_option maxRecDepth 50000 in
theorem kw_48 : tables_1[48]? = some (Jvm.Cond.fieldLink "AllocateSolve" (135 : Nat) "AllocateSolve$Lots" "pieces" "[I") := rfl
set_option maxRecDepth 50000 in
theorem kw_49 : tables_1[49]? = some (Jvm.Cond.fieldLink "AllocateSolve$Floor" (101 : Nat) "AllocateSolve$Lots" "pieces" "[I") := rfl
set_option maxRecDepth 50000 in
theorem kw_50 : tables_1[50]? = some (Jvm.Cond.fieldLink "AllocateSolve$Lots" (24 : Nat) "AllocateSolve$Lots" "free" "[I") := rfl
set_option maxRecDepth 50000 in
theorem kw_51 : tables_1[51]? = some (Jvm.Cond.fieldLink "AllocateSolve$Floor" (41 : Nat) "AllocateSolve$Lots" "free" "[I") := rfl
set_option maxRecDepth 50000 in
theorem kw_52 : tables_1[52]? = some (Jvm.Cond.fieldLink "AllocateSolve$Search" (118 : Nat) "AllocateSolve$Lots" "free" "[I") := rfl
set_option maxRecDepth 50000 in
theorem kw_53 : tables_1[53]? = some (Jvm.Cond.fieldLink "AllocateSolve" (138 : Nat) "AllocateSolve$Lots" "free" "[I") := rfl
set_option maxRecDepth 50000 in
theorem kw_54 : tables_1[54]? = some (Jvm.Cond.fieldLink "AllocateSolve$Lots" (27 : Nat) "AllocateSolve$Lots" "order" "[I") := rfl
set_option maxRecDepth 50000 in
theorem kw_55 : tables_1[55]? = some (Jvm.Cond.fieldLink "AllocateSolve$Search" (54 : Nat) "AllocateSolve$Lots" "order" "[I") := rfl
set_option maxRecDepth 50000 in
theorem kw_56 : tables_1[56]? = some (Jvm.Cond.fieldLink "AllocateSolve$Floor" (77 : Nat) "AllocateSolve$Lots" "order" "[I") := rfl
set_option maxRecDepth 50000 in
theorem kw_57 : tables_1[57]? = some (Jvm.Cond.lays "AllocateSolve$Lots" "AllocateSolve$Lots" "size" "I") := rfl
set_option maxRecDepth 50000 in
theorem kw_59 : tables_1[59]? = some (Jvm.Cond.laysFinal "AllocateSolve$Lots" "AllocateSolve$Lots" "place" "[I") := rfl
set_option maxRecDepth 50000 in
theorem kw_61 : tables_1[61]? = some (Jvm.Cond.laysFinal "AllocateSolve$Lots" "AllocateSolve$Lots" "good" "[I") := rfl
set_option maxRecDepth 50000 in
theorem kw_63 : tables_1[63]? = some (Jvm.Cond.laysFinal "AllocateSolve$Lots" "AllocateSolve$Lots" "until" "[I") := rfl
set_option maxRecDepth 50000 in
theorem kw_65 : tables_1[65]? = some (Jvm.Cond.laysFinal "AllocateSolve$Lots" "AllocateSolve$Lots" "pieces" "[I") := rfl
set_option maxRecDepth 50000 in
theorem kw_67 : tables_1[67]? = some (Jvm.Cond.laysFinal "AllocateSolve$Lots" "AllocateSolve$Lots" "free" "[I") := rfl
set_option maxRecDepth 50000 in
theorem kw_69 : tables_1[69]? = some (Jvm.Cond.laysFinal "AllocateSolve$Lots" "AllocateSolve$Lots" "order" "[I") := rfl
set_option maxRecDepth 50000 in
theorem kw_72 : tables_1[72]? = some (Jvm.Cond.arrayClass Jvm.ClassFile.FieldType.int) := rfl
set_option maxRecDepth 50000 in
theorem kw_73 : tables_1[73]? = some (Jvm.Cond.classLink "AllocateSolve$Floor" (18 : Nat) "AllocateSolve$Lines") := rfl
set_option maxRecDepth 50000 in
theorem kw_74 : tables_1[74]? = some (Jvm.Cond.instantiable "AllocateSolve$Lines" (7 : Nat)) := rfl
set_option maxRecDepth 50000 in
theorem kw_75 : tables_1[75]? = some (Jvm.Cond.methodLinkNest "AllocateSolve$Floor" (20 : Nat) ⟨"AllocateSolve$Lines", "<init>", "()V"⟩ "AllocateSolve") := rfl
set_option maxRecDepth 50000 in
theorem kw_76 : tables_1[76]? = some (Jvm.Cond.instanceMethod ⟨"AllocateSolve$Lines", "<init>", "()V"⟩) := rfl
set_option maxRecDepth 50000 in
theorem kw_77 : tables_1[77]? = some (Jvm.Cond.code ⟨"AllocateSolve$Lines", "<init>", "()V"⟩ prog_3_method_1_code (1 : Nat) (Option.none : Option Jvm.ClassFile.FieldType)) := rfl
set_option maxRecDepth 50000 in
theorem kw_78 : tables_1[78]? = some (Jvm.Cond.methodLink "AllocateSolve$Lines" (3 : Nat) ⟨"java/lang/Object", "<init>", "()V"⟩) := rfl
set_option maxRecDepth 50000 in
theorem kw_79 : tables_1[79]? = some (Jvm.Cond.classLink "AllocateSolve$Lines" (21 : Nat) "[[I") := rfl
set_option maxRecDepth 50000 in
theorem kw_80 : tables_1[80]? = some (Jvm.Cond.arrayOver (Jvm.ClassFile.FieldType.array Jvm.ClassFile.FieldType.int)) := rfl
set_option maxRecDepth 50000 in
theorem kw_81 : tables_1[81]? = some (Jvm.Cond.fieldLink "AllocateSolve$Lines" (32 : Nat) "AllocateSolve$Lines" "size" "I") := rfl
set_option maxRecDepth 50000 in
theorem kw_82 : tables_1[82]? = some (Jvm.Cond.fieldLink "AllocateSolve$Search" (45 : Nat) "AllocateSolve$Lines" "size" "I") := rfl
set_option maxRecDepth 50000 in
theorem kw_83 : tables_1[83]? = some (Jvm.Cond.fieldLink "AllocateSolve" (60 : Nat) "AllocateSolve$Lines" "size" "I") := rfl
set_option maxRecDepth 50000 in
theorem kw_84 : tables_1[84]? = some (Jvm.Cond.fieldLink "AllocateSolve$Floor" (63 : Nat) "AllocateSolve$Lines" "size" "I") := rfl
set_option maxRecDepth 50000 in
theorem kw_85 : tables_1[85]? = some (Jvm.Cond.fieldLink "AllocateSolve$Lines" (9 : Nat) "AllocateSolve$Lines" "good" "[I") := rfl
set_option maxRecDepth 50000 in
theorem kw_86 : tables_1[86]? = some (Jvm.Cond.fieldLink "AllocateSolve$Floor" (29 : Nat) "AllocateSolve$Lines" "good" "[I") := rfl
set_option maxRecDepth 50000 in
theorem kw_87 : tables_1[87]? = some (Jvm.Cond.fieldLink "AllocateSolve$Lines" (15 : Nat) "AllocateSolve$Lines" "want" "[I") := rfl
set_option maxRecDepth 50000 in
theorem kw_88 : tables_1[88]? = some (Jvm.Cond.fieldLink "AllocateSolve$Floor" (68 : Nat) "AllocateSolve$Lines" "want" "[I") := rfl
set_option maxRecDepth 50000 in
theorem kw_89 : tables_1[89]? = some (Jvm.Cond.fieldLink "AllocateSolve$Search" (115 : Nat) "AllocateSolve$Lines" "want" "[I") := rfl
set_option maxRecDepth 50000 in
theorem kw_90 : tables_1[90]? = some (Jvm.Cond.fieldLink "AllocateSolve" (158 : Nat) "AllocateSolve$Lines" "want" "[I") := rfl
set_option maxRecDepth 50000 in
theorem kw_91 : tables_1[91]? = some (Jvm.Cond.fieldLink "AllocateSolve$Lines" (18 : Nat) "AllocateSolve$Lines" "barred" "[I") := rfl
set_option maxRecDepth 50000 in
theorem kw_92 : tables_1[92]? = some (Jvm.Cond.fieldLink "AllocateSolve$Lines" (23 : Nat) "AllocateSolve$Lines" "rules" "[[I") := rfl
set_option maxRecDepth 50000 in
theorem kw_93 : tables_1[93]? = some (Jvm.Cond.fieldLink "AllocateSolve$Floor" (33 : Nat) "AllocateSolve$Lines" "rules" "[[I") := rfl
set_option maxRecDepth 50000 in
theorem kw_94 : tables_1[94]? = some (Jvm.Cond.fieldLink "AllocateSolve$Search" (61 : Nat) "AllocateSolve$Lines" "rules" "[[I") := rfl
set_option maxRecDepth 50000 in
theorem kw_95 : tables_1[95]? = some (Jvm.Cond.fieldLink "AllocateSolve" (79 : Nat) "AllocateSolve$Lines" "rules" "[[I") := rfl
set_option maxRecDepth 50000 in
theorem kw_96 : tables_1[96]? = some (Jvm.Cond.fieldLink "AllocateSolve$Lines" (26 : Nat) "AllocateSolve$Lines" "told" "[[I") := rfl
set_option maxRecDepth 50000 in
theorem kw_97 : tables_1[97]? = some (Jvm.Cond.fieldLink "AllocateSolve$Floor" (57 : Nat) "AllocateSolve$Lines" "told" "[[I") := rfl
set_option maxRecDepth 50000 in
theorem kw_98 : tables_1[98]? = some (Jvm.Cond.fieldLink "AllocateSolve" (86 : Nat) "AllocateSolve$Lines" "told" "[[I") := rfl
set_option maxRecDepth 50000 in
theorem kw_99 : tables_1[99]? = some (Jvm.Cond.fieldLink "AllocateSolve$Lines" (29 : Nat) "AllocateSolve$Lines" "gifts" "[[I") := rfl
set_option maxRecDepth 50000 in
theorem kw_100 : tables_1[100]? = some (Jvm.Cond.fieldLink "AllocateSolve$Floor" (80 : Nat) "AllocateSolve$Lines" "gifts" "[[I") := rfl
set_option maxRecDepth 50000 in
theorem kw_101 : tables_1[101]? = some (Jvm.Cond.fieldLink "AllocateSolve" (129 : Nat) "AllocateSolve$Lines" "gifts" "[[I") := rfl
set_option maxRecDepth 50000 in
theorem kw_102 : tables_1[102]? = some (Jvm.Cond.lays "AllocateSolve$Lines" "AllocateSolve$Lines" "size" "I") := rfl
set_option maxRecDepth 50000 in
theorem kw_104 : tables_1[104]? = some (Jvm.Cond.laysFinal "AllocateSolve$Lines" "AllocateSolve$Lines" "good" "[I") := rfl
set_option maxRecDepth 50000 in
theorem kw_106 : tables_1[106]? = some (Jvm.Cond.laysFinal "AllocateSolve$Lines" "AllocateSolve$Lines" "want" "[I") := rfl
set_option maxRecDepth 50000 in
theorem kw_108 : tables_1[108]? = some (Jvm.Cond.laysFinal "AllocateSolve$Lines" "AllocateSolve$Lines" "barred" "[I") := rfl
set_option maxRecDepth 50000 in
theorem kw_110 : tables_1[110]? = some (Jvm.Cond.laysFinal "AllocateSolve$Lines" "AllocateSolve$Lines" "rules" "[[I") := rfl
set_option maxRecDepth 50000 in
theorem kw_112 : tables_1[112]? = some (Jvm.Cond.laysFinal "AllocateSolve$Lines" "AllocateSolve$Lines" "told" "[[I") := rfl
set_option maxRecDepth 50000 in
theorem kw_114 : tables_1[114]? = some (Jvm.Cond.laysFinal "AllocateSolve$Lines" "AllocateSolve$Lines" "gifts" "[[I") := rfl
set_option maxRecDepth 50000 in
theorem kw_117 : tables_1[117]? = some (Jvm.Cond.fieldLink "AllocateSolve$Floor" (12 : Nat) "AllocateSolve$Floor" "lots" "LAllocateSolve$Lots;") := rfl
set_option maxRecDepth 50000 in
theorem kw_118 : tables_1[118]? = some (Jvm.Cond.fieldLink "AllocateSolve" (16 : Nat) "AllocateSolve$Floor" "lots" "LAllocateSolve$Lots;") := rfl
set_option maxRecDepth 50000 in
theorem kw_119 : tables_1[119]? = some (Jvm.Cond.fieldLink "AllocateSolve$Search" (33 : Nat) "AllocateSolve$Floor" "lots" "LAllocateSolve$Lots;") := rfl
set_option maxRecDepth 50000 in
theorem kw_120 : tables_1[120]? = some (Jvm.Cond.fieldLink "AllocateSolve$Floor" (21 : Nat) "AllocateSolve$Floor" "lines" "LAllocateSolve$Lines;") := rfl
set_option maxRecDepth 50000 in
theorem kw_121 : tables_1[121]? = some (Jvm.Cond.fieldLink "AllocateSolve" (21 : Nat) "AllocateSolve$Floor" "lines" "LAllocateSolve$Lines;") := rfl
set_option maxRecDepth 50000 in
theorem kw_122 : tables_1[122]? = some (Jvm.Cond.fieldLink "AllocateSolve$Search" (40 : Nat) "AllocateSolve$Floor" "lines" "LAllocateSolve$Lines;") := rfl
set_option maxRecDepth 50000 in
theorem kw_123 : tables_1[123]? = some (Jvm.Cond.laysFinal "AllocateSolve$Floor" "AllocateSolve$Floor" "lots" "LAllocateSolve$Lots;") := rfl
set_option maxRecDepth 50000 in
theorem kw_125 : tables_1[125]? = some (Jvm.Cond.laysFinal "AllocateSolve$Floor" "AllocateSolve$Floor" "lines" "LAllocateSolve$Lines;") := rfl
set_option maxRecDepth 50000 in
theorem kw_128 : tables_1[128]? = some (Jvm.Cond.classLink "AllocateSolve" (26 : Nat) "AllocateSolve$Search") := rfl
set_option maxRecDepth 50000 in
theorem kw_129 : tables_1[129]? = some (Jvm.Cond.instantiable "AllocateSolve$Search" (9 : Nat)) := rfl
set_option maxRecDepth 50000 in
theorem kw_130 : tables_1[130]? = some (Jvm.Cond.methodLink "AllocateSolve" (28 : Nat) ⟨"AllocateSolve$Search", "<init>", "(LAllocateSolve$Floor;)V"⟩) := rfl
set_option maxRecDepth 50000 in
theorem kw_131 : tables_1[131]? = some (Jvm.Cond.instanceMethod ⟨"AllocateSolve$Search", "<init>", "(LAllocateSolve$Floor;)V"⟩) := rfl
set_option maxRecDepth 50000 in
theorem kw_132 : tables_1[132]? = some (Jvm.Cond.code ⟨"AllocateSolve$Search", "<init>", "(LAllocateSolve$Floor;)V"⟩ prog_5_method_1_code (2 : Nat) (Option.none : Option Jvm.ClassFile.FieldType)) := rfl
set_option maxRecDepth 50000 in
theorem kw_133 : tables_1[133]? = some (Jvm.Cond.methodLink "AllocateSolve$Search" (3 : Nat) ⟨"java/lang/Object", "<init>", "()V"⟩) := rfl
set_option maxRecDepth 50000 in
theorem kw_134 : tables_1[134]? = some (Jvm.Cond.classLink "AllocateSolve$Search" (9 : Nat) "[[I") := rfl
set_option maxRecDepth 50000 in
theorem kw_135 : tables_1[135]? = some (Jvm.Cond.fieldLink "AllocateSolve$Search" (29 : Nat) "AllocateSolve$Search" "floor" "LAllocateSolve$Floor;") := rfl
set_option maxRecDepth 50000 in
theorem kw_136 : tables_1[136]? = some (Jvm.Cond.fieldLink "AllocateSolve$Search" (39 : Nat) "AllocateSolve$Search" "lots" "LAllocateSolve$Lots;") := rfl
set_option maxRecDepth 50000 in
theorem kw_137 : tables_1[137]? = some (Jvm.Cond.fieldLink "AllocateSolve$Search" (44 : Nat) "AllocateSolve$Search" "lines" "LAllocateSolve$Lines;") := rfl
set_option maxRecDepth 50000 in
theorem kw_138 : tables_1[138]? = some (Jvm.Cond.fieldLink "AllocateSolve$Search" (11 : Nat) "AllocateSolve$Search" "allowed" "[[I") := rfl
set_option maxRecDepth 50000 in
theorem kw_139 : tables_1[139]? = some (Jvm.Cond.fieldLink "AllocateSolve$Search" (16 : Nat) "AllocateSolve$Search" "allowedCount" "[I") := rfl
set_option maxRecDepth 50000 in
theorem kw_140 : tables_1[140]? = some (Jvm.Cond.fieldLink "AllocateSolve$Search" (20 : Nat) "AllocateSolve$Search" "tried" "[I") := rfl
set_option maxRecDepth 50000 in
theorem kw_141 : tables_1[141]? = some (Jvm.Cond.fieldLink "AllocateSolve$Search" (23 : Nat) "AllocateSolve$Search" "best" "[I") := rfl
set_option maxRecDepth 50000 in
theorem kw_142 : tables_1[142]? = some (Jvm.Cond.fieldLink "AllocateSolve$Search" (26 : Nat) "AllocateSolve$Search" "restBound" "[I") := rfl
set_option maxRecDepth 50000 in
theorem kw_143 : tables_1[143]? = some (Jvm.Cond.fieldLink "AllocateSolve$Search" (83 : Nat) "AllocateSolve$Search" "bestCost" "I") := rfl
set_option maxRecDepth 50000 in
theorem kw_144 : tables_1[144]? = some (Jvm.Cond.laysFinal "AllocateSolve$Search" "AllocateSolve$Search" "floor" "LAllocateSolve$Floor;") := rfl
set_option maxRecDepth 50000 in
theorem kw_146 : tables_1[146]? = some (Jvm.Cond.laysFinal "AllocateSolve$Search" "AllocateSolve$Search" "lots" "LAllocateSolve$Lots;") := rfl
set_option maxRecDepth 50000 in
theorem kw_148 : tables_1[148]? = some (Jvm.Cond.laysFinal "AllocateSolve$Search" "AllocateSolve$Search" "lines" "LAllocateSolve$Lines;") := rfl
set_option maxRecDepth 50000 in
theorem kw_150 : tables_1[150]? = some (Jvm.Cond.laysFinal "AllocateSolve$Search" "AllocateSolve$Search" "allowed" "[[I") := rfl
set_option maxRecDepth 50000 in
theorem kw_152 : tables_1[152]? = some (Jvm.Cond.laysFinal "AllocateSolve$Search" "AllocateSolve$Search" "allowedCount" "[I") := rfl
set_option maxRecDepth 50000 in
theorem kw_154 : tables_1[154]? = some (Jvm.Cond.laysFinal "AllocateSolve$Search" "AllocateSolve$Search" "tried" "[I") := rfl
set_option maxRecDepth 50000 in
theorem kw_156 : tables_1[156]? = some (Jvm.Cond.laysFinal "AllocateSolve$Search" "AllocateSolve$Search" "best" "[I") := rfl
set_option maxRecDepth 50000 in
theorem kw_158 : tables_1[158]? = some (Jvm.Cond.laysFinal "AllocateSolve$Search" "AllocateSolve$Search" "restBound" "[I") := rfl
set_option maxRecDepth 50000 in
theorem kw_160 : tables_1[160]? = some (Jvm.Cond.lays "AllocateSolve$Search" "AllocateSolve$Search" "bestCost" "I") := rfl
set_option maxRecDepth 50000 in
theorem kw_163 : tables_1[163]? = some (Jvm.Cond.fieldLink "AllocateSolve" (10 : Nat) "AllocateSolve" "floor" "LAllocateSolve$Floor;") := rfl
set_option maxRecDepth 50000 in
theorem kw_164 : tables_1[164]? = some (Jvm.Cond.fieldLink "AllocateSolve" (20 : Nat) "AllocateSolve" "lots" "LAllocateSolve$Lots;") := rfl
set_option maxRecDepth 50000 in
theorem kw_165 : tables_1[165]? = some (Jvm.Cond.fieldLink "AllocateSolve" (25 : Nat) "AllocateSolve" "lines" "LAllocateSolve$Lines;") := rfl
set_option maxRecDepth 50000 in
theorem kw_166 : tables_1[166]? = some (Jvm.Cond.fieldLink "AllocateSolve" (31 : Nat) "AllocateSolve" "search" "LAllocateSolve$Search;") := rfl
set_option maxRecDepth 50000 in
theorem kw_167 : tables_1[167]? = some (Jvm.Cond.fieldLink "AllocateSolve" (35 : Nat) "AllocateSolve" "solvedExactly" "Z") := rfl
set_option maxRecDepth 50000 in
theorem kw_168 : tables_1[168]? = some (Jvm.Cond.laysFinal "AllocateSolve" "AllocateSolve" "floor" "LAllocateSolve$Floor;") := rfl
set_option maxRecDepth 50000 in
theorem kw_170 : tables_1[170]? = some (Jvm.Cond.laysFinal "AllocateSolve" "AllocateSolve" "lots" "LAllocateSolve$Lots;") := rfl
set_option maxRecDepth 50000 in
theorem kw_172 : tables_1[172]? = some (Jvm.Cond.laysFinal "AllocateSolve" "AllocateSolve" "lines" "LAllocateSolve$Lines;") := rfl
set_option maxRecDepth 50000 in
theorem kw_174 : tables_1[174]? = some (Jvm.Cond.laysFinal "AllocateSolve" "AllocateSolve" "search" "LAllocateSolve$Search;") := rfl
set_option maxRecDepth 50000 in
theorem kw_176 : tables_1[176]? = some (Jvm.Cond.lays "AllocateSolve" "AllocateSolve" "solvedExactly" "Z") := rfl
set_option maxRecDepth 50000 in
theorem kw_179 : tables_1[179]? = some (Jvm.Cond.methodLink "AllocateSolveLaw" (100 : Nat) ⟨"AllocateSolve", "exact", "()Z"⟩) := rfl
set_option maxRecDepth 50000 in
theorem kw_180 : tables_1[180]? = some (Jvm.Cond.instanceMethod ⟨"AllocateSolve", "exact", "()Z"⟩) := rfl
set_option maxRecDepth 50000 in
theorem kw_181 : tables_1[181]? = some (Jvm.Cond.selects "AllocateSolve" ⟨"AllocateSolve", "exact", "()Z"⟩ ⟨"AllocateSolve", "exact", "()Z"⟩) := rfl
set_option maxRecDepth 50000 in
theorem kw_182 : tables_1[182]? = some (Jvm.Cond.code ⟨"AllocateSolve", "exact", "()Z"⟩ prog_1_method_8_code (1 : Nat) (Option.some Jvm.ClassFile.FieldType.boolean)) := rfl
set_option maxRecDepth 50000 in
theorem kw_183 : tables_1[183]? = some (Jvm.Cond.methodLink "AllocateSolveLaw" (105 : Nat) ⟨"AllocateSolve", "choices", "()I"⟩) := rfl
set_option maxRecDepth 50000 in
theorem kw_184 : tables_1[184]? = some (Jvm.Cond.instanceMethod ⟨"AllocateSolve", "choices", "()I"⟩) := rfl
set_option maxRecDepth 50000 in
theorem kw_185 : tables_1[185]? = some (Jvm.Cond.selects "AllocateSolve" ⟨"AllocateSolve", "choices", "()I"⟩ ⟨"AllocateSolve", "choices", "()I"⟩) := rfl
set_option maxRecDepth 50000 in
theorem kw_186 : tables_1[186]? = some (Jvm.Cond.code ⟨"AllocateSolve", "choices", "()I"⟩ prog_1_method_9_code (1 : Nat) (Option.some Jvm.ClassFile.FieldType.int)) := rfl
set_option maxRecDepth 50000 in
theorem kw_187 : tables_1[187]? = some (Jvm.Cond.methodLink "AllocateSolve" (98 : Nat) ⟨"AllocateSolve$Floor", "countChoices", "()I"⟩) := rfl
set_option maxRecDepth 50000 in
theorem kw_188 : tables_1[188]? = some (Jvm.Cond.instanceMethod ⟨"AllocateSolve$Floor", "countChoices", "()I"⟩) := rfl
set_option maxRecDepth 50000 in
theorem kw_189 : tables_1[189]? = some (Jvm.Cond.selects "AllocateSolve$Floor" ⟨"AllocateSolve$Floor", "countChoices", "()I"⟩ ⟨"AllocateSolve$Floor", "countChoices", "()I"⟩) := rfl
set_option maxRecDepth 50000 in
theorem kw_190 : tables_1[190]? = some (Jvm.Cond.code ⟨"AllocateSolve$Floor", "countChoices", "()I"⟩ prog_2_method_6_code (4 : Nat) (Option.some Jvm.ClassFile.FieldType.int)) := rfl
set_option maxRecDepth 50000 in
theorem kw_191 : tables_1[191]? = some (Jvm.Cond.methodLink "AllocateSolve$Floor" (64 : Nat) ⟨"AllocateSolve$Floor", "allows", "(II)Z"⟩) := rfl
set_option maxRecDepth 50000 in
theorem kw_192 : tables_1[192]? = some (Jvm.Cond.instanceMethod ⟨"AllocateSolve$Floor", "allows", "(II)Z"⟩) := rfl
set_option maxRecDepth 50000 in
theorem kw_193 : tables_1[193]? = some (Jvm.Cond.selects "AllocateSolve$Floor" ⟨"AllocateSolve$Floor", "allows", "(II)Z"⟩ ⟨"AllocateSolve$Floor", "allows", "(II)Z"⟩) := rfl
set_option maxRecDepth 50000 in
theorem kw_194 : tables_1[194]? = some (Jvm.Cond.code ⟨"AllocateSolve$Floor", "allows", "(II)Z"⟩ prog_2_method_3_code (3 : Nat) (Option.some Jvm.ClassFile.FieldType.boolean)) := rfl
set_option maxRecDepth 50000 in
theorem kw_195 : tables_1[195]? = some (Jvm.Cond.methodLink "AllocateSolve$Floor" (44 : Nat) ⟨"AllocateSolve$Floor", "barsPassed", "(II)I"⟩) := rfl
set_option maxRecDepth 50000 in
theorem kw_197 : tables_1[197]? = some (Jvm.Cond.instanceMethod ⟨"AllocateSolve$Floor", "barsPassed", "(II)I"⟩) := rfl
set_option maxRecDepth 50000 in
theorem kw_198 : tables_1[198]? = some (Jvm.Cond.code ⟨"AllocateSolve$Floor", "barsPassed", "(II)I"⟩ prog_2_method_2_code (3 : Nat) (Option.some Jvm.ClassFile.FieldType.int)) := rfl
set_option maxRecDepth 50000 in
theorem kw_199 : tables_1[199]? = some (Jvm.Cond.methodLink "AllocateSolve$Floor" (37 : Nat) ⟨"AllocateSolve$Lines", "isBarred", "(II)Z"⟩) := rfl
set_option maxRecDepth 50000 in
theorem kw_200 : tables_1[200]? = some (Jvm.Cond.instanceMethod ⟨"AllocateSolve$Lines", "isBarred", "(II)Z"⟩) := rfl
set_option maxRecDepth 50000 in
theorem kw_201 : tables_1[201]? = some (Jvm.Cond.selects "AllocateSolve$Lines" ⟨"AllocateSolve$Lines", "isBarred", "(II)Z"⟩ ⟨"AllocateSolve$Lines", "isBarred", "(II)Z"⟩) := rfl
set_option maxRecDepth 50000 in
theorem kw_202 : tables_1[202]? = some (Jvm.Cond.code ⟨"AllocateSolve$Lines", "isBarred", "(II)Z"⟩ prog_3_method_4_code (3 : Nat) (Option.some Jvm.ClassFile.FieldType.boolean)) := rfl
set_option maxRecDepth 50000 in
theorem kw_203 : tables_1[203]? = some (Jvm.Cond.constant "AllocateSolve$Floor" (67 : Nat) (1000000 : Int32)) := rfl
set_option maxRecDepth 50000 in
theorem kw_204 : tables_1[204]? = some (Jvm.Cond.methodLink "AllocateSolveLaw" (109 : Nat) ⟨"AllocateSolve", "bound", "()I"⟩) := rfl
set_option maxRecDepth 50000 in
theorem kw_205 : tables_1[205]? = some (Jvm.Cond.instanceMethod ⟨"AllocateSolve", "bound", "()I"⟩) := rfl
set_option maxRecDepth 50000 in
theorem kw_206 : tables_1[206]? = some (Jvm.Cond.selects "AllocateSolve" ⟨"AllocateSolve", "bound", "()I"⟩ ⟨"AllocateSolve", "bound", "()I"⟩) := rfl
set_option maxRecDepth 50000 in
theorem kw_207 : tables_1[207]? = some (Jvm.Cond.code ⟨"AllocateSolve", "bound", "()I"⟩ prog_1_method_10_code (3 : Nat) (Option.some Jvm.ClassFile.FieldType.int)) := rfl
set_option maxRecDepth 50000 in
theorem kw_208 : tables_1[208]? = some (Jvm.Cond.methodLink "AllocateSolve" (117 : Nat) ⟨"AllocateSolve$Floor", "lineBound", "(I)I"⟩) := rfl
set_option maxRecDepth 50000 in
theorem kw_209 : tables_1[209]? = some (Jvm.Cond.instanceMethod ⟨"AllocateSolve$Floor", "lineBound", "(I)I"⟩) := rfl
set_option maxRecDepth 50000 in
theorem kw_210 : tables_1[210]? = some (Jvm.Cond.selects "AllocateSolve$Floor" ⟨"AllocateSolve$Floor", "lineBound", "(I)I"⟩ ⟨"AllocateSolve$Floor", "lineBound", "(I)I"⟩) := rfl
set_option maxRecDepth 50000 in
theorem kw_211 : tables_1[211]? = some (Jvm.Cond.code ⟨"AllocateSolve$Floor", "lineBound", "(I)I"⟩ prog_2_method_7_code (5 : Nat) (Option.some Jvm.ClassFile.FieldType.int)) := rfl
set_option maxRecDepth 50000 in
theorem kw_212 : tables_1[212]? = some (Jvm.Cond.methodLink "AllocateSolve$Floor" (71 : Nat) ⟨"AllocateSolve$Floor", "pieceCost", "(II)I"⟩) := rfl
set_option maxRecDepth 50000 in
theorem kw_213 : tables_1[213]? = some (Jvm.Cond.instanceMethod ⟨"AllocateSolve$Floor", "pieceCost", "(II)I"⟩) := rfl
set_option maxRecDepth 50000 in
theorem kw_214 : tables_1[214]? = some (Jvm.Cond.selects "AllocateSolve$Floor" ⟨"AllocateSolve$Floor", "pieceCost", "(II)I"⟩ ⟨"AllocateSolve$Floor", "pieceCost", "(II)I"⟩) := rfl
set_option maxRecDepth 50000 in
theorem kw_215 : tables_1[215]? = some (Jvm.Cond.code ⟨"AllocateSolve$Floor", "pieceCost", "(II)I"⟩ prog_2_method_5_code (4 : Nat) (Option.some Jvm.ClassFile.FieldType.int)) := rfl
set_option maxRecDepth 50000 in
theorem kw_216 : tables_1[216]? = some (Jvm.Cond.methodLink "AllocateSolve$Floor" (74 : Nat) ⟨"java/lang/Math", "min", "(II)I"⟩) := rfl
set_option maxRecDepth 50000 in
theorem kw_217 : tables_1[217]? = some (Jvm.Cond.static ⟨"java/lang/Math", "min", "(II)I"⟩) := rfl
set_option maxRecDepth 50000 in
theorem kw_218 : tables_1[218]? = some (Jvm.Cond.code ⟨"java/lang/Math", "min", "(II)I"⟩ prog_13_method_69_code (2 : Nat) (Option.some Jvm.ClassFile.FieldType.int)) := rfl
set_option maxRecDepth 50000 in
theorem kw_219 : tables_1[219]? = some (Jvm.Cond.methodLink "AllocateSolveLaw" (138 : Nat) ⟨"AllocateSolve", "count", "(I)I"⟩) := rfl
set_option maxRecDepth 50000 in
theorem kw_220 : tables_1[220]? = some (Jvm.Cond.instanceMethod ⟨"AllocateSolve", "count", "(I)I"⟩) := rfl
set_option maxRecDepth 50000 in
theorem kw_221 : tables_1[221]? = some (Jvm.Cond.selects "AllocateSolve" ⟨"AllocateSolve", "count", "(I)I"⟩ ⟨"AllocateSolve", "count", "(I)I"⟩) := rfl
set_option maxRecDepth 50000 in
theorem kw_222 : tables_1[222]? = some (Jvm.Cond.code ⟨"AllocateSolve", "count", "(I)I"⟩ prog_1_method_19_code (2 : Nat) (Option.some Jvm.ClassFile.FieldType.int)) := rfl
set_option maxRecDepth 50000 in
theorem kw_223 : tables_1[223]? = some (Jvm.Cond.methodLink "AllocateSolve" (169 : Nat) ⟨"AllocateSolve$Floor", "totalPieces", "()I"⟩) := rfl
set_option maxRecDepth 50000 in
theorem kw_224 : tables_1[224]? = some (Jvm.Cond.instanceMethod ⟨"AllocateSolve$Floor", "totalPieces", "()I"⟩) := rfl
set_option maxRecDepth 50000 in
theorem kw_225 : tables_1[225]? = some (Jvm.Cond.selects "AllocateSolve$Floor" ⟨"AllocateSolve$Floor", "totalPieces", "()I"⟩ ⟨"AllocateSolve$Floor", "totalPieces", "()I"⟩) := rfl
set_option maxRecDepth 50000 in
theorem kw_226 : tables_1[226]? = some (Jvm.Cond.code ⟨"AllocateSolve$Floor", "totalPieces", "()I"⟩ prog_2_method_13_code (3 : Nat) (Option.some Jvm.ClassFile.FieldType.int)) := rfl
set_option maxRecDepth 50000 in
theorem kw_227 : tables_1[227]? = some (Jvm.Cond.methodLink "AllocateSolve$Floor" (83 : Nat) ⟨"AllocateSolve$Floor", "piecesOf", "(I)I"⟩) := rfl
set_option maxRecDepth 50000 in
theorem kw_228 : tables_1[228]? = some (Jvm.Cond.instanceMethod ⟨"AllocateSolve$Floor", "piecesOf", "(I)I"⟩) := rfl
set_option maxRecDepth 50000 in
theorem kw_229 : tables_1[229]? = some (Jvm.Cond.selects "AllocateSolve$Floor" ⟨"AllocateSolve$Floor", "piecesOf", "(I)I"⟩ ⟨"AllocateSolve$Floor", "piecesOf", "(I)I"⟩) := rfl
set_option maxRecDepth 50000 in
theorem kw_230 : tables_1[230]? = some (Jvm.Cond.code ⟨"AllocateSolve$Floor", "piecesOf", "(I)I"⟩ prog_2_method_9_code (4 : Nat) (Option.some Jvm.ClassFile.FieldType.int)) := rfl
set_option maxRecDepth 50000 in
theorem kw_231 : tables_1[231]? = some (Jvm.Cond.methodLink "AllocateSolve" (172 : Nat) ⟨"AllocateSolve$Floor", "totalGifts", "()I"⟩) := rfl
set_option maxRecDepth 50000 in
theorem kw_232 : tables_1[232]? = some (Jvm.Cond.instanceMethod ⟨"AllocateSolve$Floor", "totalGifts", "()I"⟩) := rfl
set_option maxRecDepth 50000 in
theorem kw_233 : tables_1[233]? = some (Jvm.Cond.selects "AllocateSolve$Floor" ⟨"AllocateSolve$Floor", "totalGifts", "()I"⟩ ⟨"AllocateSolve$Floor", "totalGifts", "()I"⟩) := rfl
set_option maxRecDepth 50000 in
theorem kw_234 : tables_1[234]? = some (Jvm.Cond.code ⟨"AllocateSolve$Floor", "totalGifts", "()I"⟩ prog_2_method_14_code (3 : Nat) (Option.some Jvm.ClassFile.FieldType.int)) := rfl
set_option maxRecDepth 50000 in
theorem kw_235 : tables_1[235]? = some (Jvm.Cond.methodLink "AllocateSolve$Floor" (87 : Nat) ⟨"AllocateSolve$Floor", "giftsOf", "(I)I"⟩) := rfl
set_option maxRecDepth 50000 in
theorem kw_237 : tables_1[237]? = some (Jvm.Cond.instanceMethod ⟨"AllocateSolve$Floor", "giftsOf", "(I)I"⟩) := rfl
set_option maxRecDepth 50000 in
theorem kw_238 : tables_1[238]? = some (Jvm.Cond.code ⟨"AllocateSolve$Floor", "giftsOf", "(I)I"⟩ prog_2_method_10_code (4 : Nat) (Option.some Jvm.ClassFile.FieldType.int)) := rfl
set_option maxRecDepth 50000 in
theorem kw_239 : tables_1[239]? = some (Jvm.Cond.methodLink "AllocateSolve" (114 : Nat) ⟨"AllocateSolve$Floor", "totalCost", "()I"⟩) := rfl
set_option maxRecDepth 50000 in
theorem kw_240 : tables_1[240]? = some (Jvm.Cond.instanceMethod ⟨"AllocateSolve$Floor", "totalCost", "()I"⟩) := rfl
set_option maxRecDepth 50000 in
theorem kw_241 : tables_1[241]? = some (Jvm.Cond.selects "AllocateSolve$Floor" ⟨"AllocateSolve$Floor", "totalCost", "()I"⟩ ⟨"AllocateSolve$Floor", "totalCost", "()I"⟩) := rfl
set_option maxRecDepth 50000 in
theorem kw_242 : tables_1[242]? = some (Jvm.Cond.code ⟨"AllocateSolve$Floor", "totalCost", "()I"⟩ prog_2_method_15_code (3 : Nat) (Option.some Jvm.ClassFile.FieldType.int)) := rfl
set_option maxRecDepth 50000 in
theorem kw_243 : tables_1[243]? = some (Jvm.Cond.methodLink "AllocateSolve$Floor" (90 : Nat) ⟨"AllocateSolve$Floor", "lineCost", "(I)I"⟩) := rfl
set_option maxRecDepth 50000 in
theorem kw_244 : tables_1[244]? = some (Jvm.Cond.instanceMethod ⟨"AllocateSolve$Floor", "lineCost", "(I)I"⟩) := rfl
set_option maxRecDepth 50000 in
theorem kw_245 : tables_1[245]? = some (Jvm.Cond.selects "AllocateSolve$Floor" ⟨"AllocateSolve$Floor", "lineCost", "(I)I"⟩ ⟨"AllocateSolve$Floor", "lineCost", "(I)I"⟩) := rfl
set_option maxRecDepth 50000 in
theorem kw_246 : tables_1[246]? = some (Jvm.Cond.code ⟨"AllocateSolve$Floor", "lineCost", "(I)I"⟩ prog_2_method_12_code (5 : Nat) (Option.some Jvm.ClassFile.FieldType.int)) := rfl
set_option maxRecDepth 50000 in
theorem kw_247 : tables_1[247]? = some (Jvm.Cond.methodLink "AllocateSolveLaw" (71 : Nat) ⟨"AllocateSolveLaw", "lot", "(LAllocateSolve;IIII[J)I"⟩) := rfl
set_option maxRecDepth 50000 in
theorem kw_248 : tables_1[248]? = some (Jvm.Cond.static ⟨"AllocateSolveLaw", "lot", "(LAllocateSolve;IIII[J)I"⟩) := rfl
set_option maxRecDepth 50000 in
theorem kw_249 : tables_1[249]? = some (Jvm.Cond.codeWith ⟨"AllocateSolveLaw", "lot", "(LAllocateSolve;IIII[J)I"⟩ method_3_code (7 : Nat) (Option.some Jvm.ClassFile.FieldType.int) [((0 : Nat), (14 : Nat), (17 : Nat), (13 : Nat)), ((0 : Nat), (14 : Nat), (21 : Nat), (15 : Nat))]) := rfl
set_option maxRecDepth 50000 in
theorem kw_250 : tables_1[250]? = some (Jvm.Cond.classLink "AllocateSolveLaw" (13 : Nat) "java/lang/IllegalArgumentException") := rfl
set_option maxRecDepth 50000 in
theorem kw_251 : tables_1[251]? = some (Jvm.Cond.classLink "AllocateSolveLaw" (15 : Nat) "java/lang/UnsupportedOperationException") := rfl
set_option maxRecDepth 50000 in
theorem kw_252 : tables_1[252]? = some (Jvm.Cond.methodLink "AllocateSolveLaw" (7 : Nat) ⟨"AllocateSolve", "lot", "(IIII)I"⟩) := rfl
set_option maxRecDepth 50000 in
theorem kw_253 : tables_1[253]? = some (Jvm.Cond.instanceMethod ⟨"AllocateSolve", "lot", "(IIII)I"⟩) := rfl
set_option maxRecDepth 50000 in
theorem kw_254 : tables_1[254]? = some (Jvm.Cond.selects "AllocateSolve" ⟨"AllocateSolve", "lot", "(IIII)I"⟩ ⟨"AllocateSolve", "lot", "(IIII)I"⟩) := rfl
set_option maxRecDepth 50000 in
theorem kw_255 : tables_1[255]? = some (Jvm.Cond.code ⟨"AllocateSolve", "lot", "(IIII)I"⟩ prog_1_method_2_code (5 : Nat) (Option.some Jvm.ClassFile.FieldType.int)) := rfl
set_option maxRecDepth 50000 in
theorem kw_256 : tables_1[256]? = some (Jvm.Cond.methodLink "AllocateSolve" (39 : Nat) ⟨"AllocateSolve", "needRange", "(III)V"⟩) := rfl
set_option maxRecDepth 50000 in
theorem kw_257 : tables_1[257]? = some (Jvm.Cond.static ⟨"AllocateSolve", "needRange", "(III)V"⟩) := rfl
set_option maxRecDepth 50000 in
theorem kw_258 : tables_1[258]? = some (Jvm.Cond.code ⟨"AllocateSolve", "needRange", "(III)V"⟩ prog_1_method_22_code (3 : Nat) (Option.none : Option Jvm.ClassFile.FieldType)) := rfl
set_option maxRecDepth 50000 in
theorem kw_259 : tables_1[259]? = some (Jvm.Cond.classLink "AllocateSolve" (179 : Nat) "java/lang/IllegalArgumentException") := rfl
set_option maxRecDepth 50000 in
theorem kw_260 : tables_1[260]? = some (Jvm.Cond.instantiable "java/lang/IllegalArgumentException" (6 : Nat)) := rfl
set_option maxRecDepth 50000 in
theorem kw_261 : tables_1[261]? = some (Jvm.Cond.castable "java/lang/IllegalArgumentException" "java/lang/IllegalArgumentException") := rfl
set_option maxRecDepth 50000 in
theorem kw_268 : tables_1[268]? = some (Jvm.Cond.selects "java/lang/IllegalArgumentException" ⟨"java/lang/Throwable", "fillInStackTrace", "(I)Ljava/lang/Throwable;"⟩ ⟨"java/lang/Throwable", "fillInStackTrace", "(I)Ljava/lang/Throwable;"⟩) := rfl
set_option maxRecDepth 50000 in
theorem kw_269 : tables_1[269]? = some (Jvm.Cond.selects "java/lang/IllegalArgumentException" ⟨"java/lang/Throwable", "fillInStackTrace", "()Ljava/lang/Throwable;"⟩ ⟨"java/lang/Throwable", "fillInStackTrace", "()Ljava/lang/Throwable;"⟩) := rfl
set_option maxRecDepth 50000 in
theorem kw_280 : tables_1[280]? = some (Jvm.Cond.fieldLink "java/lang/Throwable" (198 : Nat) "java/lang/Throwable" "backtrace" "Ljava/lang/Object;") := rfl
set_option maxRecDepth 50000 in
theorem kw_282 : tables_1[282]? = some (Jvm.Cond.instanceMethod ⟨"java/lang/Throwable", "<init>", "()V"⟩) := rfl
set_option maxRecDepth 50000 in
theorem kw_283 : tables_1[283]? = some (Jvm.Cond.code ⟨"java/lang/Throwable", "<init>", "()V"⟩ prog_16_method_1_code (1 : Nat) (Option.none : Option Jvm.ClassFile.FieldType)) := rfl
set_option maxRecDepth 50000 in
theorem kw_284 : tables_1[284]? = some (Jvm.Cond.methodLink "java/lang/Throwable" (1 : Nat) ⟨"java/lang/Object", "<init>", "()V"⟩) := rfl
set_option maxRecDepth 50000 in
theorem kw_285 : tables_1[285]? = some (Jvm.Cond.fieldLink "java/lang/Throwable" (13 : Nat) "java/lang/Throwable" "UNASSIGNED_STACK" "[Ljava/lang/StackTraceElement;") := rfl
set_option maxRecDepth 50000 in
theorem kw_287 : tables_1[287]? = some (Jvm.Cond.fieldLink "java/lang/Throwable" (20 : Nat) "java/lang/Throwable" "SUPPRESSED_SENTINEL" "Ljava/util/List;") := rfl
set_option maxRecDepth 50000 in
theorem kw_289 : tables_1[289]? = some (Jvm.Cond.methodLink "java/lang/Throwable" (27 : Nat) ⟨"java/lang/Throwable", "fillInStackTrace", "()Ljava/lang/Throwable;"⟩) := rfl
set_option maxRecDepth 50000 in
theorem kw_290 : tables_1[290]? = some (Jvm.Cond.instanceMethod ⟨"java/lang/Throwable", "fillInStackTrace", "()Ljava/lang/Throwable;"⟩) := rfl
set_option maxRecDepth 50000 in
theorem kw_292 : tables_1[292]? = some (Jvm.Cond.selects "java/lang/ArithmeticException" ⟨"java/lang/Throwable", "fillInStackTrace", "()Ljava/lang/Throwable;"⟩ ⟨"java/lang/Throwable", "fillInStackTrace", "()Ljava/lang/Throwable;"⟩) := rfl
set_option maxRecDepth 50000 in
theorem kw_293 : tables_1[293]? = some (Jvm.Cond.selects "java/lang/IllegalStateException" ⟨"java/lang/Throwable", "fillInStackTrace", "()Ljava/lang/Throwable;"⟩ ⟨"java/lang/Throwable", "fillInStackTrace", "()Ljava/lang/Throwable;"⟩) := rfl
set_option maxRecDepth 50000 in
theorem kw_294 : tables_1[294]? = some (Jvm.Cond.selects "java/lang/UnsupportedOperationException" ⟨"java/lang/Throwable", "fillInStackTrace", "()Ljava/lang/Throwable;"⟩ ⟨"java/lang/Throwable", "fillInStackTrace", "()Ljava/lang/Throwable;"⟩) := rfl
set_option maxRecDepth 50000 in
theorem kw_295 : tables_1[295]? = some (Jvm.Cond.selects "java/util/NoSuchElementException" ⟨"java/lang/Throwable", "fillInStackTrace", "()Ljava/lang/Throwable;"⟩ ⟨"java/lang/Throwable", "fillInStackTrace", "()Ljava/lang/Throwable;"⟩) := rfl
set_option maxRecDepth 50000 in
theorem kw_297 : tables_1[297]? = some (Jvm.Cond.methodLink "java/lang/Throwable" (202 : Nat) ⟨"java/lang/Throwable", "fillInStackTrace", "(I)Ljava/lang/Throwable;"⟩) := rfl
set_option maxRecDepth 50000 in
theorem kw_299 : tables_1[299]? = some (Jvm.Cond.instanceMethod ⟨"java/lang/Throwable", "fillInStackTrace", "(I)Ljava/lang/Throwable;"⟩) := rfl
set_option maxRecDepth 50000 in
theorem kw_300 : tables_1[300]? = some (Jvm.Cond.instantiable "java/lang/Throwable" (6 : Nat)) := rfl
set_option maxRecDepth 50000 in
theorem kw_302 : tables_1[302]? = some (Jvm.Cond.stringRef "AllocateSolve" (181 : Nat) "a number outside its range") := rfl
set_option maxRecDepth 50000 in
theorem kw_303 : tables_1[303]? = some (Jvm.Cond.methodLink "AllocateSolve" (183 : Nat) ⟨"java/lang/IllegalArgumentException", "<init>", "(Ljava/lang/String;)V"⟩) := rfl
set_option maxRecDepth 50000 in
theorem kw_304 : tables_1[304]? = some (Jvm.Cond.instanceMethod ⟨"java/lang/IllegalArgumentException", "<init>", "(Ljava/lang/String;)V"⟩) := rfl
set_option maxRecDepth 50000 in
theorem kw_305 : tables_1[305]? = some (Jvm.Cond.code ⟨"java/lang/IllegalArgumentException", "<init>", "(Ljava/lang/String;)V"⟩ prog_10_method_2_code (2 : Nat) (Option.none : Option Jvm.ClassFile.FieldType)) := rfl
set_option maxRecDepth 50000 in
theorem kw_306 : tables_1[306]? = some (Jvm.Cond.methodLink "java/lang/IllegalArgumentException" (7 : Nat) ⟨"java/lang/RuntimeException", "<init>", "(Ljava/lang/String;)V"⟩) := rfl
set_option maxRecDepth 50000 in
theorem kw_307 : tables_1[307]? = some (Jvm.Cond.instanceMethod ⟨"java/lang/RuntimeException", "<init>", "(Ljava/lang/String;)V"⟩) := rfl
set_option maxRecDepth 50000 in
theorem kw_308 : tables_1[308]? = some (Jvm.Cond.code ⟨"java/lang/RuntimeException", "<init>", "(Ljava/lang/String;)V"⟩ prog_14_method_2_code (2 : Nat) (Option.none : Option Jvm.ClassFile.FieldType)) := rfl
set_option maxRecDepth 50000 in
theorem kw_309 : tables_1[309]? = some (Jvm.Cond.methodLink "java/lang/RuntimeException" (7 : Nat) ⟨"java/lang/Exception", "<init>", "(Ljava/lang/String;)V"⟩) := rfl
set_option maxRecDepth 50000 in
theorem kw_310 : tables_1[310]? = some (Jvm.Cond.instanceMethod ⟨"java/lang/Exception", "<init>", "(Ljava/lang/String;)V"⟩) := rfl
set_option maxRecDepth 50000 in
theorem kw_311 : tables_1[311]? = some (Jvm.Cond.code ⟨"java/lang/Exception", "<init>", "(Ljava/lang/String;)V"⟩ prog_9_method_2_code (2 : Nat) (Option.none : Option Jvm.ClassFile.FieldType)) := rfl
set_option maxRecDepth 50000 in
theorem kw_312 : tables_1[312]? = some (Jvm.Cond.methodLink "java/lang/Exception" (7 : Nat) ⟨"java/lang/Throwable", "<init>", "(Ljava/lang/String;)V"⟩) := rfl
set_option maxRecDepth 50000 in
theorem kw_313 : tables_1[313]? = some (Jvm.Cond.instanceMethod ⟨"java/lang/Throwable", "<init>", "(Ljava/lang/String;)V"⟩) := rfl
set_option maxRecDepth 50000 in
theorem kw_314 : tables_1[314]? = some (Jvm.Cond.code ⟨"java/lang/Throwable", "<init>", "(Ljava/lang/String;)V"⟩ prog_16_method_2_code (2 : Nat) (Option.none : Option Jvm.ClassFile.FieldType)) := rfl
set_option maxRecDepth 50000 in
theorem kw_315 : tables_1[315]? = some (Jvm.Cond.fieldLink "java/lang/Throwable" (198 : Nat) "java/lang/Throwable" "backtrace" "Ljava/lang/Object;") := rfl
set_option maxRecDepth 50000 in
theorem kw_316 : tables_1[316]? = some (Jvm.Cond.fieldLink "java/lang/Throwable" (31 : Nat) "java/lang/Throwable" "detailMessage" "Ljava/lang/String;") := rfl
set_option maxRecDepth 50000 in
theorem kw_317 : tables_1[317]? = some (Jvm.Cond.fieldLink "java/lang/Throwable" (7 : Nat) "java/lang/Throwable" "cause" "Ljava/lang/Throwable;") := rfl
set_option maxRecDepth 50000 in
theorem kw_318 : tables_1[318]? = some (Jvm.Cond.fieldLink "java/lang/Throwable" (17 : Nat) "java/lang/Throwable" "stackTrace" "[Ljava/lang/StackTraceElement;") := rfl
set_option maxRecDepth 50000 in
theorem kw_319 : tables_1[319]? = some (Jvm.Cond.fieldLink "java/lang/Throwable" (24 : Nat) "java/lang/Throwable" "suppressedExceptions" "Ljava/util/List;") := rfl
set_option maxRecDepth 50000 in
theorem kw_328 : tables_1[328]? = some (Jvm.Cond.arrayClass Jvm.ClassFile.FieldType.byte) := rfl
set_option maxRecDepth 50000 in
theorem kw_329 : tables_1[329]? = some (Jvm.Cond.classLink "AllocateSolve" (49 : Nat) "java/lang/UnsupportedOperationException") := rfl
set_option maxRecDepth 50000 in
theorem kw_330 : tables_1[330]? = some (Jvm.Cond.instantiable "java/lang/UnsupportedOperationException" (6 : Nat)) := rfl
set_option maxRecDepth 50000 in
theorem kw_331 : tables_1[331]? = some (Jvm.Cond.castable "java/lang/UnsupportedOperationException" "java/lang/UnsupportedOperationException") := rfl
set_option maxRecDepth 50000 in
theorem kw_332 : tables_1[332]? = some (Jvm.Cond.selects "java/lang/UnsupportedOperationException" ⟨"java/lang/Throwable", "fillInStackTrace", "(I)Ljava/lang/Throwable;"⟩ ⟨"java/lang/Throwable", "fillInStackTrace", "(I)Ljava/lang/Throwable;"⟩) := rfl
set_option maxRecDepth 50000 in
theorem kw_338 : tables_1[338]? = some (Jvm.Cond.stringRef "AllocateSolve" (51 : Nat) "no room for a lot") := rfl
set_option maxRecDepth 50000 in
theorem kw_339 : tables_1[339]? = some (Jvm.Cond.methodLink "AllocateSolve" (53 : Nat) ⟨"java/lang/UnsupportedOperationException", "<init>", "(Ljava/lang/String;)V"⟩) := rfl
set_option maxRecDepth 50000 in
theorem kw_340 : tables_1[340]? = some (Jvm.Cond.instanceMethod ⟨"java/lang/UnsupportedOperationException", "<init>", "(Ljava/lang/String;)V"⟩) := rfl
set_option maxRecDepth 50000 in
theorem kw_341 : tables_1[341]? = some (Jvm.Cond.code ⟨"java/lang/UnsupportedOperationException", "<init>", "(Ljava/lang/String;)V"⟩ prog_17_method_2_code (2 : Nat) (Option.none : Option Jvm.ClassFile.FieldType)) := rfl
set_option maxRecDepth 50000 in
theorem kw_342 : tables_1[342]? = some (Jvm.Cond.methodLink "java/lang/UnsupportedOperationException" (7 : Nat) ⟨"java/lang/RuntimeException", "<init>", "(Ljava/lang/String;)V"⟩) := rfl
set_option maxRecDepth 50000 in
theorem kw_345 : tables_1[345]? = some (Jvm.Cond.methodLink "AllocateSolve" (56 : Nat) ⟨"AllocateSolve$Lots", "add", "(IIII)I"⟩) := rfl
set_option maxRecDepth 50000 in
theorem kw_346 : tables_1[346]? = some (Jvm.Cond.instanceMethod ⟨"AllocateSolve$Lots", "add", "(IIII)I"⟩) := rfl
set_option maxRecDepth 50000 in
theorem kw_347 : tables_1[347]? = some (Jvm.Cond.selects "AllocateSolve$Lots" ⟨"AllocateSolve$Lots", "add", "(IIII)I"⟩ ⟨"AllocateSolve$Lots", "add", "(IIII)I"⟩) := rfl
set_option maxRecDepth 50000 in
theorem kw_348 : tables_1[348]? = some (Jvm.Cond.code ⟨"AllocateSolve$Lots", "add", "(IIII)I"⟩ prog_4_method_2_code (6 : Nat) (Option.some Jvm.ClassFile.FieldType.int)) := rfl
set_option maxRecDepth 50000 in
theorem kw_349 : tables_1[349]? = some (Jvm.Cond.methodLink "AllocateSolve$Lots" (34 : Nat) ⟨"AllocateSolve$Lots", "putInOrder", "(I)V"⟩) := rfl
set_option maxRecDepth 50000 in
theorem kw_351 : tables_1[351]? = some (Jvm.Cond.instanceMethod ⟨"AllocateSolve$Lots", "putInOrder", "(I)V"⟩) := rfl
set_option maxRecDepth 50000 in
theorem kw_352 : tables_1[352]? = some (Jvm.Cond.code ⟨"AllocateSolve$Lots", "putInOrder", "(I)V"⟩ prog_4_method_3_code (3 : Nat) (Option.none : Option Jvm.ClassFile.FieldType)) := rfl
set_option maxRecDepth 50000 in
theorem kw_353 : tables_1[353]? = some (Jvm.Cond.methodLink "AllocateSolve$Lots" (38 : Nat) ⟨"AllocateSolve$Lots", "comesBefore", "(II)Z"⟩) := rfl
set_option maxRecDepth 50000 in
theorem kw_355 : tables_1[355]? = some (Jvm.Cond.instanceMethod ⟨"AllocateSolve$Lots", "comesBefore", "(II)Z"⟩) := rfl
set_option maxRecDepth 50000 in
theorem kw_356 : tables_1[356]? = some (Jvm.Cond.code ⟨"AllocateSolve$Lots", "comesBefore", "(II)Z"⟩ prog_4_method_4_code (3 : Nat) (Option.some Jvm.ClassFile.FieldType.boolean)) := rfl
set_option maxRecDepth 50000 in
theorem kw_357 : tables_1[357]? = some (Jvm.Cond.methodLink "AllocateSolveLaw" (81 : Nat) ⟨"AllocateSolveLaw", "line", "(LAllocateSolve;II[J)I"⟩) := rfl
set_option maxRecDepth 50000 in
theorem kw_358 : tables_1[358]? = some (Jvm.Cond.static ⟨"AllocateSolveLaw", "line", "(LAllocateSolve;II[J)I"⟩) := rfl
set_option maxRecDepth 50000 in
theorem kw_359 : tables_1[359]? = some (Jvm.Cond.codeWith ⟨"AllocateSolveLaw", "line", "(LAllocateSolve;II[J)I"⟩ method_4_code (5 : Nat) (Option.some Jvm.ClassFile.FieldType.int) [((0 : Nat), (10 : Nat), (13 : Nat), (13 : Nat)), ((0 : Nat), (10 : Nat), (17 : Nat), (15 : Nat))]) := rfl
set_option maxRecDepth 50000 in
theorem kw_360 : tables_1[360]? = some (Jvm.Cond.methodLink "AllocateSolveLaw" (17 : Nat) ⟨"AllocateSolve", "line", "(II)I"⟩) := rfl
set_option maxRecDepth 50000 in
theorem kw_361 : tables_1[361]? = some (Jvm.Cond.instanceMethod ⟨"AllocateSolve", "line", "(II)I"⟩) := rfl
set_option maxRecDepth 50000 in
theorem kw_362 : tables_1[362]? = some (Jvm.Cond.selects "AllocateSolve" ⟨"AllocateSolve", "line", "(II)I"⟩ ⟨"AllocateSolve", "line", "(II)I"⟩) := rfl
set_option maxRecDepth 50000 in
theorem kw_363 : tables_1[363]? = some (Jvm.Cond.code ⟨"AllocateSolve", "line", "(II)I"⟩ prog_1_method_3_code (3 : Nat) (Option.some Jvm.ClassFile.FieldType.int)) := rfl
set_option maxRecDepth 50000 in
theorem kw_364 : tables_1[364]? = some (Jvm.Cond.stringRef "AllocateSolve" (63 : Nat) "no room for a line") := rfl
set_option maxRecDepth 50000 in
theorem kw_365 : tables_1[365]? = some (Jvm.Cond.methodLink "AllocateSolve" (65 : Nat) ⟨"AllocateSolve$Lines", "add", "(II)I"⟩) := rfl
set_option maxRecDepth 50000 in
theorem kw_366 : tables_1[366]? = some (Jvm.Cond.instanceMethod ⟨"AllocateSolve$Lines", "add", "(II)I"⟩) := rfl
set_option maxRecDepth 50000 in
theorem kw_367 : tables_1[367]? = some (Jvm.Cond.selects "AllocateSolve$Lines" ⟨"AllocateSolve$Lines", "add", "(II)I"⟩ ⟨"AllocateSolve$Lines", "add", "(II)I"⟩) := rfl
set_option maxRecDepth 50000 in
theorem kw_368 : tables_1[368]? = some (Jvm.Cond.code ⟨"AllocateSolve$Lines", "add", "(II)I"⟩ prog_3_method_2_code (5 : Nat) (Option.some Jvm.ClassFile.FieldType.int)) := rfl
set_option maxRecDepth 50000 in
theorem kw_369 : tables_1[369]? = some (Jvm.Cond.fieldLinkNest "AllocateSolve$Lines" (36 : Nat) "AllocateSolve" "RULE_FIRST" "[I" "AllocateSolve") := rfl
set_option maxRecDepth 50000 in
theorem kw_371 : tables_1[371]? = some (Jvm.Cond.methodLink "AllocateSolveLaw" (85 : Nat) ⟨"AllocateSolveLaw", "rule", "(LAllocateSolve;III)I"⟩) := rfl
set_option maxRecDepth 50000 in
theorem kw_372 : tables_1[372]? = some (Jvm.Cond.static ⟨"AllocateSolveLaw", "rule", "(LAllocateSolve;III)I"⟩) := rfl
set_option maxRecDepth 50000 in
theorem kw_373 : tables_1[373]? = some (Jvm.Cond.codeWith ⟨"AllocateSolveLaw", "rule", "(LAllocateSolve;III)I"⟩ method_5_code (5 : Nat) (Option.some Jvm.ClassFile.FieldType.int) [((0 : Nat), (7 : Nat), (10 : Nat), (25 : Nat)), ((0 : Nat), (7 : Nat), (14 : Nat), (13 : Nat))]) := rfl
set_option maxRecDepth 50000 in
theorem kw_374 : tables_1[374]? = some (Jvm.Cond.classLink "AllocateSolveLaw" (25 : Nat) "java/util/NoSuchElementException") := rfl
set_option maxRecDepth 50000 in
theorem kw_375 : tables_1[375]? = some (Jvm.Cond.methodLink "AllocateSolveLaw" (21 : Nat) ⟨"AllocateSolve", "rule", "(III)V"⟩) := rfl
set_option maxRecDepth 50000 in
theorem kw_376 : tables_1[376]? = some (Jvm.Cond.instanceMethod ⟨"AllocateSolve", "rule", "(III)V"⟩) := rfl
set_option maxRecDepth 50000 in
theorem kw_377 : tables_1[377]? = some (Jvm.Cond.selects "AllocateSolve" ⟨"AllocateSolve", "rule", "(III)V"⟩ ⟨"AllocateSolve", "rule", "(III)V"⟩) := rfl
set_option maxRecDepth 50000 in
theorem kw_378 : tables_1[378]? = some (Jvm.Cond.code ⟨"AllocateSolve", "rule", "(III)V"⟩ prog_1_method_4_code (4 : Nat) (Option.none : Option Jvm.ClassFile.FieldType)) := rfl
set_option maxRecDepth 50000 in
theorem kw_379 : tables_1[379]? = some (Jvm.Cond.methodLink "AllocateSolve" (68 : Nat) ⟨"AllocateSolve", "needLine", "(I)V"⟩) := rfl
set_option maxRecDepth 50000 in
theorem kw_381 : tables_1[381]? = some (Jvm.Cond.instanceMethod ⟨"AllocateSolve", "needLine", "(I)V"⟩) := rfl
set_option maxRecDepth 50000 in
theorem kw_382 : tables_1[382]? = some (Jvm.Cond.code ⟨"AllocateSolve", "needLine", "(I)V"⟩ prog_1_method_21_code (2 : Nat) (Option.none : Option Jvm.ClassFile.FieldType)) := rfl
set_option maxRecDepth 50000 in
theorem kw_383 : tables_1[383]? = some (Jvm.Cond.classLink "AllocateSolve" (124 : Nat) "java/util/NoSuchElementException") := rfl
set_option maxRecDepth 50000 in
theorem kw_384 : tables_1[384]? = some (Jvm.Cond.instantiable "java/util/NoSuchElementException" (6 : Nat)) := rfl
set_option maxRecDepth 50000 in
theorem kw_385 : tables_1[385]? = some (Jvm.Cond.castable "java/util/NoSuchElementException" "java/util/NoSuchElementException") := rfl
set_option maxRecDepth 50000 in
theorem kw_386 : tables_1[386]? = some (Jvm.Cond.selects "java/util/NoSuchElementException" ⟨"java/lang/Throwable", "fillInStackTrace", "(I)Ljava/lang/Throwable;"⟩ ⟨"java/lang/Throwable", "fillInStackTrace", "(I)Ljava/lang/Throwable;"⟩) := rfl
set_option maxRecDepth 50000 in
theorem kw_392 : tables_1[392]? = some (Jvm.Cond.stringRef "AllocateSolve" (177 : Nat) "no such line") := rfl
set_option maxRecDepth 50000 in
theorem kw_393 : tables_1[393]? = some (Jvm.Cond.methodLink "AllocateSolve" (128 : Nat) ⟨"java/util/NoSuchElementException", "<init>", "(Ljava/lang/String;)V"⟩) := rfl
set_option maxRecDepth 50000 in
theorem kw_394 : tables_1[394]? = some (Jvm.Cond.instanceMethod ⟨"java/util/NoSuchElementException", "<init>", "(Ljava/lang/String;)V"⟩) := rfl
set_option maxRecDepth 50000 in
theorem kw_395 : tables_1[395]? = some (Jvm.Cond.code ⟨"java/util/NoSuchElementException", "<init>", "(Ljava/lang/String;)V"⟩ prog_18_method_4_code (2 : Nat) (Option.none : Option Jvm.ClassFile.FieldType)) := rfl
set_option maxRecDepth 50000 in
theorem kw_396 : tables_1[396]? = some (Jvm.Cond.methodLink "java/util/NoSuchElementException" (13 : Nat) ⟨"java/lang/RuntimeException", "<init>", "(Ljava/lang/String;)V"⟩) := rfl
set_option maxRecDepth 50000 in
theorem kw_399 : tables_1[399]? = some (Jvm.Cond.fieldLink "AllocateSolve" (72 : Nat) "AllocateSolve" "RULE_LEAST" "[I") := rfl
set_option maxRecDepth 50000 in
theorem kw_401 : tables_1[401]? = some (Jvm.Cond.fieldLink "AllocateSolve" (76 : Nat) "AllocateSolve" "RULE_MOST" "[I") := rfl
set_option maxRecDepth 50000 in
theorem kw_403 : tables_1[403]? = some (Jvm.Cond.methodLink "AllocateSolveLaw" (89 : Nat) ⟨"AllocateSolveLaw", "cost", "(LAllocateSolve;III)I"⟩) := rfl
set_option maxRecDepth 50000 in
theorem kw_404 : tables_1[404]? = some (Jvm.Cond.static ⟨"AllocateSolveLaw", "cost", "(LAllocateSolve;III)I"⟩) := rfl
set_option maxRecDepth 50000 in
theorem kw_405 : tables_1[405]? = some (Jvm.Cond.codeWith ⟨"AllocateSolveLaw", "cost", "(LAllocateSolve;III)I"⟩ method_6_code (5 : Nat) (Option.some Jvm.ClassFile.FieldType.int) [((0 : Nat), (7 : Nat), (10 : Nat), (25 : Nat)), ((0 : Nat), (7 : Nat), (14 : Nat), (13 : Nat))]) := rfl
set_option maxRecDepth 50000 in
theorem kw_406 : tables_1[406]? = some (Jvm.Cond.methodLink "AllocateSolveLaw" (27 : Nat) ⟨"AllocateSolve", "cost", "(III)V"⟩) := rfl
set_option maxRecDepth 50000 in
theorem kw_407 : tables_1[407]? = some (Jvm.Cond.instanceMethod ⟨"AllocateSolve", "cost", "(III)V"⟩) := rfl
set_option maxRecDepth 50000 in
theorem kw_408 : tables_1[408]? = some (Jvm.Cond.selects "AllocateSolve" ⟨"AllocateSolve", "cost", "(III)V"⟩ ⟨"AllocateSolve", "cost", "(III)V"⟩) := rfl
set_option maxRecDepth 50000 in
theorem kw_409 : tables_1[409]? = some (Jvm.Cond.code ⟨"AllocateSolve", "cost", "(III)V"⟩ prog_1_method_5_code (4 : Nat) (Option.none : Option Jvm.ClassFile.FieldType)) := rfl
set_option maxRecDepth 50000 in
theorem kw_410 : tables_1[410]? = some (Jvm.Cond.methodLink "AllocateSolve" (83 : Nat) ⟨"AllocateSolve", "needLot", "(I)V"⟩) := rfl
set_option maxRecDepth 50000 in
theorem kw_412 : tables_1[412]? = some (Jvm.Cond.instanceMethod ⟨"AllocateSolve", "needLot", "(I)V"⟩) := rfl
set_option maxRecDepth 50000 in
theorem kw_413 : tables_1[413]? = some (Jvm.Cond.code ⟨"AllocateSolve", "needLot", "(I)V"⟩ prog_1_method_20_code (2 : Nat) (Option.none : Option Jvm.ClassFile.FieldType)) := rfl
set_option maxRecDepth 50000 in
theorem kw_414 : tables_1[414]? = some (Jvm.Cond.stringRef "AllocateSolve" (175 : Nat) "no such lot") := rfl
set_option maxRecDepth 50000 in
theorem kw_415 : tables_1[415]? = some (Jvm.Cond.methodLink "AllocateSolveLaw" (92 : Nat) ⟨"AllocateSolveLaw", "may", "(LAllocateSolve;IIZ[J)I"⟩) := rfl
set_option maxRecDepth 50000 in
theorem kw_416 : tables_1[416]? = some (Jvm.Cond.static ⟨"AllocateSolveLaw", "may", "(LAllocateSolve;IIZ[J)I"⟩) := rfl
set_option maxRecDepth 50000 in
theorem kw_417 : tables_1[417]? = some (Jvm.Cond.codeWith ⟨"AllocateSolveLaw", "may", "(LAllocateSolve;IIZ[J)I"⟩ method_7_code (6 : Nat) (Option.some Jvm.ClassFile.FieldType.int) [((0 : Nat), (19 : Nat), (22 : Nat), (25 : Nat))]) := rfl
set_option maxRecDepth 50000 in
theorem kw_418 : tables_1[418]? = some (Jvm.Cond.methodLink "AllocateSolveLaw" (30 : Nat) ⟨"AllocateSolve", "may", "(IIZ)Z"⟩) := rfl
set_option maxRecDepth 50000 in
theorem kw_419 : tables_1[419]? = some (Jvm.Cond.instanceMethod ⟨"AllocateSolve", "may", "(IIZ)Z"⟩) := rfl
set_option maxRecDepth 50000 in
theorem kw_420 : tables_1[420]? = some (Jvm.Cond.selects "AllocateSolve" ⟨"AllocateSolve", "may", "(IIZ)Z"⟩ ⟨"AllocateSolve", "may", "(IIZ)Z"⟩) := rfl
set_option maxRecDepth 50000 in
theorem kw_421 : tables_1[421]? = some (Jvm.Cond.code ⟨"AllocateSolve", "may", "(IIZ)Z"⟩ prog_1_method_6_code (4 : Nat) (Option.some Jvm.ClassFile.FieldType.boolean)) := rfl
set_option maxRecDepth 50000 in
theorem kw_422 : tables_1[422]? = some (Jvm.Cond.methodLink "AllocateSolve" (89 : Nat) ⟨"AllocateSolve$Lines", "setBarred", "(IIZ)V"⟩) := rfl
set_option maxRecDepth 50000 in
theorem kw_423 : tables_1[423]? = some (Jvm.Cond.instanceMethod ⟨"AllocateSolve$Lines", "setBarred", "(IIZ)V"⟩) := rfl
set_option maxRecDepth 50000 in
theorem kw_424 : tables_1[424]? = some (Jvm.Cond.selects "AllocateSolve$Lines" ⟨"AllocateSolve$Lines", "setBarred", "(IIZ)V"⟩ ⟨"AllocateSolve$Lines", "setBarred", "(IIZ)V"⟩) := rfl
set_option maxRecDepth 50000 in
theorem kw_425 : tables_1[425]? = some (Jvm.Cond.code ⟨"AllocateSolve$Lines", "setBarred", "(IIZ)V"⟩ prog_3_method_3_code (5 : Nat) (Option.none : Option Jvm.ClassFile.FieldType)) := rfl
set_option maxRecDepth 50000 in
theorem kw_426 : tables_1[426]? = some (Jvm.Cond.methodLink "AllocateSolve" (93 : Nat) ⟨"AllocateSolve$Floor", "allows", "(II)Z"⟩) := rfl
set_option maxRecDepth 50000 in
theorem kw_427 : tables_1[427]? = some (Jvm.Cond.methodLink "AllocateSolveLaw" (96 : Nat) ⟨"AllocateSolveLaw", "solve", "(LAllocateSolve;I[J)I"⟩) := rfl
set_option maxRecDepth 50000 in
theorem kw_428 : tables_1[428]? = some (Jvm.Cond.static ⟨"AllocateSolveLaw", "solve", "(LAllocateSolve;I[J)I"⟩) := rfl
set_option maxRecDepth 50000 in
theorem kw_429 : tables_1[429]? = some (Jvm.Cond.codeWith ⟨"AllocateSolveLaw", "solve", "(LAllocateSolve;I[J)I"⟩ method_8_code (4 : Nat) (Option.some Jvm.ClassFile.FieldType.int) [((0 : Nat), (9 : Nat), (12 : Nat), (13 : Nat))]) := rfl
set_option maxRecDepth 50000 in
theorem kw_430 : tables_1[430]? = some (Jvm.Cond.methodLink "AllocateSolveLaw" (34 : Nat) ⟨"AllocateSolve", "solve", "(I)I"⟩) := rfl
set_option maxRecDepth 50000 in
theorem kw_431 : tables_1[431]? = some (Jvm.Cond.instanceMethod ⟨"AllocateSolve", "solve", "(I)I"⟩) := rfl
set_option maxRecDepth 50000 in
theorem kw_432 : tables_1[432]? = some (Jvm.Cond.selects "AllocateSolve" ⟨"AllocateSolve", "solve", "(I)I"⟩ ⟨"AllocateSolve", "solve", "(I)I"⟩) := rfl
set_option maxRecDepth 50000 in
theorem kw_433 : tables_1[433]? = some (Jvm.Cond.code ⟨"AllocateSolve", "solve", "(I)I"⟩ prog_1_method_7_code (3 : Nat) (Option.some Jvm.ClassFile.FieldType.int)) := rfl
set_option maxRecDepth 50000 in
theorem kw_434 : tables_1[434]? = some (Jvm.Cond.constant "AllocateSolve" (97 : Nat) (40000 : Int32)) := rfl
set_option maxRecDepth 50000 in
theorem kw_435 : tables_1[435]? = some (Jvm.Cond.methodLink "AllocateSolve" (102 : Nat) ⟨"AllocateSolve$Floor", "clear", "()V"⟩) := rfl
set_option maxRecDepth 50000 in
theorem kw_436 : tables_1[436]? = some (Jvm.Cond.instanceMethod ⟨"AllocateSolve$Floor", "clear", "()V"⟩) := rfl
set_option maxRecDepth 50000 in
theorem kw_437 : tables_1[437]? = some (Jvm.Cond.selects "AllocateSolve$Floor" ⟨"AllocateSolve$Floor", "clear", "()V"⟩ ⟨"AllocateSolve$Floor", "clear", "()V"⟩) := rfl
set_option maxRecDepth 50000 in
theorem kw_438 : tables_1[438]? = some (Jvm.Cond.code ⟨"AllocateSolve$Floor", "clear", "()V"⟩ prog_2_method_18_code (2 : Nat) (Option.none : Option Jvm.ClassFile.FieldType)) := rfl
set_option maxRecDepth 50000 in
theorem kw_439 : tables_1[439]? = some (Jvm.Cond.methodLink "AllocateSolve$Floor" (97 : Nat) ⟨"AllocateSolve$Floor", "letGo", "(I)V"⟩) := rfl
set_option maxRecDepth 50000 in
theorem kw_440 : tables_1[440]? = some (Jvm.Cond.instanceMethod ⟨"AllocateSolve$Floor", "letGo", "(I)V"⟩) := rfl
set_option maxRecDepth 50000 in
theorem kw_441 : tables_1[441]? = some (Jvm.Cond.selects "AllocateSolve$Floor" ⟨"AllocateSolve$Floor", "letGo", "(I)V"⟩ ⟨"AllocateSolve$Floor", "letGo", "(I)V"⟩) := rfl
set_option maxRecDepth 50000 in
theorem kw_442 : tables_1[442]? = some (Jvm.Cond.code ⟨"AllocateSolve$Floor", "letGo", "(I)V"⟩ prog_2_method_17_code (3 : Nat) (Option.none : Option Jvm.ClassFile.FieldType)) := rfl
set_option maxRecDepth 50000 in
theorem kw_443 : tables_1[443]? = some (Jvm.Cond.methodLink "AllocateSolve$Floor" (93 : Nat) ⟨"AllocateSolve$Floor", "move", "(III)V"⟩) := rfl
set_option maxRecDepth 50000 in
theorem kw_444 : tables_1[444]? = some (Jvm.Cond.instanceMethod ⟨"AllocateSolve$Floor", "move", "(III)V"⟩) := rfl
set_option maxRecDepth 50000 in
theorem kw_445 : tables_1[445]? = some (Jvm.Cond.selects "AllocateSolve$Floor" ⟨"AllocateSolve$Floor", "move", "(III)V"⟩ ⟨"AllocateSolve$Floor", "move", "(III)V"⟩) := rfl
set_option maxRecDepth 50000 in
theorem kw_446 : tables_1[446]? = some (Jvm.Cond.code ⟨"AllocateSolve$Floor", "move", "(III)V"⟩ prog_2_method_16_code (4 : Nat) (Option.none : Option Jvm.ClassFile.FieldType)) := rfl
set_option maxRecDepth 50000 in
theorem kw_447 : tables_1[447]? = some (Jvm.Cond.methodLink "AllocateSolve" (105 : Nat) ⟨"AllocateSolve$Search", "readAllowed", "()V"⟩) := rfl
set_option maxRecDepth 50000 in
theorem kw_448 : tables_1[448]? = some (Jvm.Cond.instanceMethod ⟨"AllocateSolve$Search", "readAllowed", "()V"⟩) := rfl
set_option maxRecDepth 50000 in
theorem kw_449 : tables_1[449]? = some (Jvm.Cond.selects "AllocateSolve$Search" ⟨"AllocateSolve$Search", "readAllowed", "()V"⟩ ⟨"AllocateSolve$Search", "readAllowed", "()V"⟩) := rfl
set_option maxRecDepth 50000 in
theorem kw_450 : tables_1[450]? = some (Jvm.Cond.code ⟨"AllocateSolve$Search", "readAllowed", "()V"⟩ prog_5_method_2_code (5 : Nat) (Option.none : Option Jvm.ClassFile.FieldType)) := rfl
set_option maxRecDepth 50000 in
theorem kw_451 : tables_1[451]? = some (Jvm.Cond.methodLink "AllocateSolve$Search" (57 : Nat) ⟨"AllocateSolve$Floor", "allows", "(II)Z"⟩) := rfl
set_option maxRecDepth 50000 in
theorem kw_452 : tables_1[452]? = some (Jvm.Cond.methodLink "AllocateSolve" (108 : Nat) ⟨"AllocateSolve$Search", "allocateAtLeastCost", "()V"⟩) := rfl
set_option maxRecDepth 50000 in
theorem kw_453 : tables_1[453]? = some (Jvm.Cond.instanceMethod ⟨"AllocateSolve$Search", "allocateAtLeastCost", "()V"⟩) := rfl
set_option maxRecDepth 50000 in
theorem kw_454 : tables_1[454]? = some (Jvm.Cond.selects "AllocateSolve$Search" ⟨"AllocateSolve$Search", "allocateAtLeastCost", "()V"⟩ ⟨"AllocateSolve$Search", "allocateAtLeastCost", "()V"⟩) := rfl
set_option maxRecDepth 50000 in
theorem kw_455 : tables_1[455]? = some (Jvm.Cond.code ⟨"AllocateSolve$Search", "allocateAtLeastCost", "()V"⟩ prog_5_method_4_code (2 : Nat) (Option.none : Option Jvm.ClassFile.FieldType)) := rfl
set_option maxRecDepth 50000 in
theorem kw_456 : tables_1[456]? = some (Jvm.Cond.methodLink "AllocateSolve$Search" (73 : Nat) ⟨"AllocateSolve$Search", "readBounds", "()V"⟩) := rfl
set_option maxRecDepth 50000 in
theorem kw_458 : tables_1[458]? = some (Jvm.Cond.instanceMethod ⟨"AllocateSolve$Search", "readBounds", "()V"⟩) := rfl
set_option maxRecDepth 50000 in
theorem kw_459 : tables_1[459]? = some (Jvm.Cond.code ⟨"AllocateSolve$Search", "readBounds", "()V"⟩ prog_5_method_5_code (2 : Nat) (Option.none : Option Jvm.ClassFile.FieldType)) := rfl
set_option maxRecDepth 50000 in
theorem kw_460 : tables_1[460]? = some (Jvm.Cond.methodLink "AllocateSolve$Search" (93 : Nat) ⟨"AllocateSolve$Floor", "lineBound", "(I)I"⟩) := rfl
set_option maxRecDepth 50000 in
theorem kw_461 : tables_1[461]? = some (Jvm.Cond.methodLink "AllocateSolve$Search" (76 : Nat) ⟨"AllocateSolve$Search", "allocateByRule", "()V"⟩) := rfl
set_option maxRecDepth 50000 in
theorem kw_462 : tables_1[462]? = some (Jvm.Cond.instanceMethod ⟨"AllocateSolve$Search", "allocateByRule", "()V"⟩) := rfl
set_option maxRecDepth 50000 in
theorem kw_463 : tables_1[463]? = some (Jvm.Cond.selects "AllocateSolve$Search" ⟨"AllocateSolve$Search", "allocateByRule", "()V"⟩ ⟨"AllocateSolve$Search", "allocateByRule", "()V"⟩) := rfl
set_option maxRecDepth 50000 in
theorem kw_464 : tables_1[464]? = some (Jvm.Cond.code ⟨"AllocateSolve$Search", "allocateByRule", "()V"⟩ prog_5_method_3_code (3 : Nat) (Option.none : Option Jvm.ClassFile.FieldType)) := rfl
set_option maxRecDepth 50000 in
theorem kw_465 : tables_1[465]? = some (Jvm.Cond.methodLink "AllocateSolve$Search" (64 : Nat) ⟨"java/lang/Math", "min", "(II)I"⟩) := rfl
set_option maxRecDepth 50000 in
theorem kw_466 : tables_1[466]? = some (Jvm.Cond.methodLink "AllocateSolve$Search" (70 : Nat) ⟨"AllocateSolve$Search", "take", "(II)I"⟩) := rfl
set_option maxRecDepth 50000 in
theorem kw_468 : tables_1[468]? = some (Jvm.Cond.instanceMethod ⟨"AllocateSolve$Search", "take", "(II)I"⟩) := rfl
set_option maxRecDepth 50000 in
theorem kw_469 : tables_1[469]? = some (Jvm.Cond.code ⟨"AllocateSolve$Search", "take", "(II)I"⟩ prog_5_method_9_code (8 : Nat) (Option.some Jvm.ClassFile.FieldType.int)) := rfl
set_option maxRecDepth 50000 in
theorem kw_470 : tables_1[470]? = some (Jvm.Cond.methodLink "AllocateSolve$Search" (121 : Nat) ⟨"AllocateSolve$Search", "roundDown", "(II)I"⟩) := rfl
set_option maxRecDepth 50000 in
theorem kw_471 : tables_1[471]? = some (Jvm.Cond.static ⟨"AllocateSolve$Search", "roundDown", "(II)I"⟩) := rfl
set_option maxRecDepth 50000 in
theorem kw_472 : tables_1[472]? = some (Jvm.Cond.code ⟨"AllocateSolve$Search", "roundDown", "(II)I"⟩ prog_5_method_10_code (2 : Nat) (Option.some Jvm.ClassFile.FieldType.int)) := rfl
set_option maxRecDepth 50000 in
theorem kw_473 : tables_1[473]? = some (Jvm.Cond.methodLink "AllocateSolve$Search" (124 : Nat) ⟨"AllocateSolve$Floor", "move", "(III)V"⟩) := rfl
set_option maxRecDepth 50000 in
theorem kw_474 : tables_1[474]? = some (Jvm.Cond.methodLink "AllocateSolve$Search" (112 : Nat) ⟨"AllocateSolve$Floor", "letGo", "(I)V"⟩) := rfl
set_option maxRecDepth 50000 in
theorem kw_475 : tables_1[475]? = some (Jvm.Cond.methodLink "AllocateSolve$Search" (79 : Nat) ⟨"AllocateSolve$Floor", "totalCost", "()I"⟩) := rfl
set_option maxRecDepth 50000 in
theorem kw_476 : tables_1[476]? = some (Jvm.Cond.methodLink "AllocateSolve$Search" (86 : Nat) ⟨"AllocateSolve$Floor", "clear", "()V"⟩) := rfl
set_option maxRecDepth 50000 in
theorem kw_477 : tables_1[477]? = some (Jvm.Cond.methodLink "AllocateSolve$Search" (89 : Nat) ⟨"AllocateSolve$Search", "explore", "(LAllocateSolve$Search;II)V"⟩) := rfl
set_option maxRecDepth 50000 in
theorem kw_478 : tables_1[478]? = some (Jvm.Cond.static ⟨"AllocateSolve$Search", "explore", "(LAllocateSolve$Search;II)V"⟩) := rfl
set_option maxRecDepth 50000 in
theorem kw_479 : tables_1[479]? = some (Jvm.Cond.code ⟨"AllocateSolve$Search", "explore", "(LAllocateSolve$Search;II)V"⟩ prog_5_method_6_code (6 : Nat) (Option.none : Option Jvm.ClassFile.FieldType)) := rfl
set_option maxRecDepth 50000 in
theorem kw_480 : tables_1[480]? = some (Jvm.Cond.methodLink "AllocateSolve$Search" (97 : Nat) ⟨"AllocateSolve$Search", "keep", "(I)V"⟩) := rfl
set_option maxRecDepth 50000 in
theorem kw_482 : tables_1[482]? = some (Jvm.Cond.instanceMethod ⟨"AllocateSolve$Search", "keep", "(I)V"⟩) := rfl
set_option maxRecDepth 50000 in
theorem kw_483 : tables_1[483]? = some (Jvm.Cond.code ⟨"AllocateSolve$Search", "keep", "(I)V"⟩ prog_5_method_8_code (3 : Nat) (Option.none : Option Jvm.ClassFile.FieldType)) := rfl
set_option maxRecDepth 50000 in
theorem kw_484 : tables_1[484]? = some (Jvm.Cond.methodLink "AllocateSolve$Search" (101 : Nat) ⟨"java/lang/Integer", "bitCount", "(I)I"⟩) := rfl
set_option maxRecDepth 50000 in
theorem kw_485 : tables_1[485]? = some (Jvm.Cond.static ⟨"java/lang/Integer", "bitCount", "(I)I"⟩) := rfl
set_option maxRecDepth 50000 in
theorem kw_486 : tables_1[486]? = some (Jvm.Cond.code ⟨"java/lang/Integer", "bitCount", "(I)I"⟩ prog_12_method_49_code (1 : Nat) (Option.some Jvm.ClassFile.FieldType.int)) := rfl
set_option maxRecDepth 50000 in
theorem kw_487 : tables_1[487]? = some (Jvm.Cond.constant "java/lang/Integer" (265 : Nat) (1431655765 : Int32)) := rfl
set_option maxRecDepth 50000 in
theorem kw_488 : tables_1[488]? = some (Jvm.Cond.constant "java/lang/Integer" (266 : Nat) (858993459 : Int32)) := rfl
set_option maxRecDepth 50000 in
theorem kw_489 : tables_1[489]? = some (Jvm.Cond.constant "java/lang/Integer" (267 : Nat) (252645135 : Int32)) := rfl
set_option maxRecDepth 50000 in
theorem kw_490 : tables_1[490]? = some (Jvm.Cond.methodLink "AllocateSolve$Search" (106 : Nat) ⟨"AllocateSolve$Floor", "lineCost", "(I)I"⟩) := rfl
set_option maxRecDepth 50000 in
theorem kw_491 : tables_1[491]? = some (Jvm.Cond.methodLink "AllocateSolve$Search" (109 : Nat) ⟨"AllocateSolve$Search", "exploreBehind", "(LAllocateSolve$Search;II)V"⟩) := rfl
set_option maxRecDepth 50000 in
theorem kw_492 : tables_1[492]? = some (Jvm.Cond.static ⟨"AllocateSolve$Search", "exploreBehind", "(LAllocateSolve$Search;II)V"⟩) := rfl
set_option maxRecDepth 50000 in
theorem kw_493 : tables_1[493]? = some (Jvm.Cond.code ⟨"AllocateSolve$Search", "exploreBehind", "(LAllocateSolve$Search;II)V"⟩ prog_5_method_7_code (3 : Nat) (Option.none : Option Jvm.ClassFile.FieldType)) := rfl
set_option maxRecDepth 50000 in
theorem kw_494 : tables_1[494]? = some (Jvm.Cond.methodLink "AllocateSolve" (111 : Nat) ⟨"AllocateSolve$Search", "allocateByRule", "()V"⟩) := rfl
set_option maxRecDepth 50000 in
theorem kw_495 : tables_1[495]? = some (Jvm.Cond.methodLink "AllocateSolveLaw" (113 : Nat) ⟨"AllocateSolveLaw", "give", "(LAllocateSolve;III[J)I"⟩) := rfl
set_option maxRecDepth 50000 in
theorem kw_496 : tables_1[496]? = some (Jvm.Cond.static ⟨"AllocateSolveLaw", "give", "(LAllocateSolve;III[J)I"⟩) := rfl
set_option maxRecDepth 50000 in
theorem kw_497 : tables_1[497]? = some (Jvm.Cond.codeWith ⟨"AllocateSolveLaw", "give", "(LAllocateSolve;III[J)I"⟩ method_9_code (6 : Nat) (Option.some Jvm.ClassFile.FieldType.int) [((0 : Nat), (12 : Nat), (15 : Nat), (25 : Nat)), ((0 : Nat), (12 : Nat), (19 : Nat), (13 : Nat))]) := rfl
set_option maxRecDepth 50000 in
theorem kw_498 : tables_1[498]? = some (Jvm.Cond.methodLink "AllocateSolveLaw" (38 : Nat) ⟨"AllocateSolve", "give", "(III)I"⟩) := rfl
set_option maxRecDepth 50000 in
theorem kw_499 : tables_1[499]? = some (Jvm.Cond.instanceMethod ⟨"AllocateSolve", "give", "(III)I"⟩) := rfl
set_option maxRecDepth 50000 in
theorem kw_500 : tables_1[500]? = some (Jvm.Cond.selects "AllocateSolve" ⟨"AllocateSolve", "give", "(III)I"⟩ ⟨"AllocateSolve", "give", "(III)I"⟩) := rfl
set_option maxRecDepth 50000 in
theorem kw_501 : tables_1[501]? = some (Jvm.Cond.code ⟨"AllocateSolve", "give", "(III)I"⟩ prog_1_method_11_code (5 : Nat) (Option.some Jvm.ClassFile.FieldType.int)) := rfl
set_option maxRecDepth 50000 in
theorem kw_502 : tables_1[502]? = some (Jvm.Cond.methodLink "AllocateSolve" (121 : Nat) ⟨"AllocateSolve$Floor", "lotOfGift", "(II)I"⟩) := rfl
set_option maxRecDepth 50000 in
theorem kw_503 : tables_1[503]? = some (Jvm.Cond.instanceMethod ⟨"AllocateSolve$Floor", "lotOfGift", "(II)I"⟩) := rfl
set_option maxRecDepth 50000 in
theorem kw_504 : tables_1[504]? = some (Jvm.Cond.selects "AllocateSolve$Floor" ⟨"AllocateSolve$Floor", "lotOfGift", "(II)I"⟩ ⟨"AllocateSolve$Floor", "lotOfGift", "(II)I"⟩) := rfl
set_option maxRecDepth 50000 in
theorem kw_505 : tables_1[505]? = some (Jvm.Cond.code ⟨"AllocateSolve$Floor", "lotOfGift", "(II)I"⟩ prog_2_method_8_code (6 : Nat) (Option.some Jvm.ClassFile.FieldType.int)) := rfl
set_option maxRecDepth 50000 in
theorem kw_506 : tables_1[506]? = some (Jvm.Cond.stringRef "AllocateSolve" (126 : Nat) "no such gift") := rfl
set_option maxRecDepth 50000 in
theorem kw_507 : tables_1[507]? = some (Jvm.Cond.methodLink "AllocateSolve" (132 : Nat) ⟨"AllocateSolve$Floor", "pieceCost", "(II)I"⟩) := rfl
set_option maxRecDepth 50000 in
theorem kw_508 : tables_1[508]? = some (Jvm.Cond.methodLink "AllocateSolveLaw" (117 : Nat) ⟨"AllocateSolveLaw", "held", "(LAllocateSolve;I[J)I"⟩) := rfl
set_option maxRecDepth 50000 in
theorem kw_509 : tables_1[509]? = some (Jvm.Cond.static ⟨"AllocateSolveLaw", "held", "(LAllocateSolve;I[J)I"⟩) := rfl
set_option maxRecDepth 50000 in
theorem kw_510 : tables_1[510]? = some (Jvm.Cond.codeWith ⟨"AllocateSolveLaw", "held", "(LAllocateSolve;I[J)I"⟩ method_10_code (4 : Nat) (Option.some Jvm.ClassFile.FieldType.int) [((0 : Nat), (9 : Nat), (12 : Nat), (25 : Nat))]) := rfl
set_option maxRecDepth 50000 in
theorem kw_511 : tables_1[511]? = some (Jvm.Cond.methodLink "AllocateSolveLaw" (42 : Nat) ⟨"AllocateSolve", "held", "(I)I"⟩) := rfl
set_option maxRecDepth 50000 in
theorem kw_512 : tables_1[512]? = some (Jvm.Cond.instanceMethod ⟨"AllocateSolve", "held", "(I)I"⟩) := rfl
set_option maxRecDepth 50000 in
theorem kw_513 : tables_1[513]? = some (Jvm.Cond.selects "AllocateSolve" ⟨"AllocateSolve", "held", "(I)I"⟩ ⟨"AllocateSolve", "held", "(I)I"⟩) := rfl
set_option maxRecDepth 50000 in
theorem kw_514 : tables_1[514]? = some (Jvm.Cond.code ⟨"AllocateSolve", "held", "(I)I"⟩ prog_1_method_12_code (2 : Nat) (Option.some Jvm.ClassFile.FieldType.int)) := rfl
set_option maxRecDepth 50000 in
theorem kw_515 : tables_1[515]? = some (Jvm.Cond.methodLink "AllocateSolveLaw" (120 : Nat) ⟨"AllocateSolveLaw", "left", "(LAllocateSolve;I[J)I"⟩) := rfl
set_option maxRecDepth 50000 in
theorem kw_516 : tables_1[516]? = some (Jvm.Cond.static ⟨"AllocateSolveLaw", "left", "(LAllocateSolve;I[J)I"⟩) := rfl
set_option maxRecDepth 50000 in
theorem kw_517 : tables_1[517]? = some (Jvm.Cond.codeWith ⟨"AllocateSolveLaw", "left", "(LAllocateSolve;I[J)I"⟩ method_11_code (4 : Nat) (Option.some Jvm.ClassFile.FieldType.int) [((0 : Nat), (9 : Nat), (12 : Nat), (25 : Nat))]) := rfl
set_option maxRecDepth 50000 in
theorem kw_518 : tables_1[518]? = some (Jvm.Cond.methodLink "AllocateSolveLaw" (45 : Nat) ⟨"AllocateSolve", "left", "(I)I"⟩) := rfl
set_option maxRecDepth 50000 in
theorem kw_519 : tables_1[519]? = some (Jvm.Cond.instanceMethod ⟨"AllocateSolve", "left", "(I)I"⟩) := rfl
set_option maxRecDepth 50000 in
theorem kw_520 : tables_1[520]? = some (Jvm.Cond.selects "AllocateSolve" ⟨"AllocateSolve", "left", "(I)I"⟩ ⟨"AllocateSolve", "left", "(I)I"⟩) := rfl
set_option maxRecDepth 50000 in
theorem kw_521 : tables_1[521]? = some (Jvm.Cond.code ⟨"AllocateSolve", "left", "(I)I"⟩ prog_1_method_13_code (2 : Nat) (Option.some Jvm.ClassFile.FieldType.int)) := rfl
set_option maxRecDepth 50000 in
theorem kw_522 : tables_1[522]? = some (Jvm.Cond.methodLink "AllocateSolveLaw" (123 : Nat) ⟨"AllocateSolveLaw", "bar", "(LAllocateSolve;I[J)I"⟩) := rfl
set_option maxRecDepth 50000 in
theorem kw_523 : tables_1[523]? = some (Jvm.Cond.static ⟨"AllocateSolveLaw", "bar", "(LAllocateSolve;I[J)I"⟩) := rfl
set_option maxRecDepth 50000 in
theorem kw_524 : tables_1[524]? = some (Jvm.Cond.codeWith ⟨"AllocateSolveLaw", "bar", "(LAllocateSolve;I[J)I"⟩ method_12_code (4 : Nat) (Option.some Jvm.ClassFile.FieldType.int) [((0 : Nat), (9 : Nat), (12 : Nat), (25 : Nat))]) := rfl
set_option maxRecDepth 50000 in
theorem kw_525 : tables_1[525]? = some (Jvm.Cond.methodLink "AllocateSolveLaw" (48 : Nat) ⟨"AllocateSolve", "bar", "(I)I"⟩) := rfl
set_option maxRecDepth 50000 in
theorem kw_526 : tables_1[526]? = some (Jvm.Cond.instanceMethod ⟨"AllocateSolve", "bar", "(I)I"⟩) := rfl
set_option maxRecDepth 50000 in
theorem kw_527 : tables_1[527]? = some (Jvm.Cond.selects "AllocateSolve" ⟨"AllocateSolve", "bar", "(I)I"⟩ ⟨"AllocateSolve", "bar", "(I)I"⟩) := rfl
set_option maxRecDepth 50000 in
theorem kw_528 : tables_1[528]? = some (Jvm.Cond.code ⟨"AllocateSolve", "bar", "(I)I"⟩ prog_1_method_14_code (2 : Nat) (Option.some Jvm.ClassFile.FieldType.int)) := rfl
set_option maxRecDepth 50000 in
theorem kw_529 : tables_1[529]? = some (Jvm.Cond.methodLink "AllocateSolve" (141 : Nat) ⟨"AllocateSolve$Floor", "firstBar", "(I)I"⟩) := rfl
set_option maxRecDepth 50000 in
theorem kw_530 : tables_1[530]? = some (Jvm.Cond.instanceMethod ⟨"AllocateSolve$Floor", "firstBar", "(I)I"⟩) := rfl
set_option maxRecDepth 50000 in
theorem kw_531 : tables_1[531]? = some (Jvm.Cond.selects "AllocateSolve$Floor" ⟨"AllocateSolve$Floor", "firstBar", "(I)I"⟩ ⟨"AllocateSolve$Floor", "firstBar", "(I)I"⟩) := rfl
set_option maxRecDepth 50000 in
theorem kw_532 : tables_1[532]? = some (Jvm.Cond.code ⟨"AllocateSolve$Floor", "firstBar", "(I)I"⟩ prog_2_method_4_code (4 : Nat) (Option.some Jvm.ClassFile.FieldType.int)) := rfl
set_option maxRecDepth 50000 in
theorem kw_533 : tables_1[533]? = some (Jvm.Cond.methodLink "AllocateSolve$Floor" (52 : Nat) ⟨"java/lang/Math", "max", "(II)I"⟩) := rfl
set_option maxRecDepth 50000 in
theorem kw_534 : tables_1[534]? = some (Jvm.Cond.static ⟨"java/lang/Math", "max", "(II)I"⟩) := rfl
set_option maxRecDepth 50000 in
theorem kw_535 : tables_1[535]? = some (Jvm.Cond.code ⟨"java/lang/Math", "max", "(II)I"⟩ prog_13_method_65_code (2 : Nat) (Option.some Jvm.ClassFile.FieldType.int)) := rfl
set_option maxRecDepth 50000 in
theorem kw_536 : tables_1[536]? = some (Jvm.Cond.methodLink "AllocateSolveLaw" (126 : Nat) ⟨"AllocateSolveLaw", "change", "(LAllocateSolve;II[J)I"⟩) := rfl
set_option maxRecDepth 50000 in
theorem kw_537 : tables_1[537]? = some (Jvm.Cond.static ⟨"AllocateSolveLaw", "change", "(LAllocateSolve;II[J)I"⟩) := rfl
set_option maxRecDepth 50000 in
theorem kw_538 : tables_1[538]? = some (Jvm.Cond.codeWith ⟨"AllocateSolveLaw", "change", "(LAllocateSolve;II[J)I"⟩ method_13_code (5 : Nat) (Option.some Jvm.ClassFile.FieldType.int) [((0 : Nat), (10 : Nat), (13 : Nat), (25 : Nat)), ((0 : Nat), (10 : Nat), (17 : Nat), (13 : Nat))]) := rfl
set_option maxRecDepth 50000 in
theorem kw_539 : tables_1[539]? = some (Jvm.Cond.methodLink "AllocateSolveLaw" (51 : Nat) ⟨"AllocateSolve", "change", "(II)I"⟩) := rfl
set_option maxRecDepth 50000 in
theorem kw_540 : tables_1[540]? = some (Jvm.Cond.instanceMethod ⟨"AllocateSolve", "change", "(II)I"⟩) := rfl
set_option maxRecDepth 50000 in
theorem kw_541 : tables_1[541]? = some (Jvm.Cond.selects "AllocateSolve" ⟨"AllocateSolve", "change", "(II)I"⟩ ⟨"AllocateSolve", "change", "(II)I"⟩) := rfl
set_option maxRecDepth 50000 in
theorem kw_542 : tables_1[542]? = some (Jvm.Cond.code ⟨"AllocateSolve", "change", "(II)I"⟩ prog_1_method_15_code (3 : Nat) (Option.some Jvm.ClassFile.FieldType.int)) := rfl
set_option maxRecDepth 50000 in
theorem kw_543 : tables_1[543]? = some (Jvm.Cond.methodLink "AllocateSolve" (144 : Nat) ⟨"AllocateSolve$Floor", "setPieces", "(II)I"⟩) := rfl
set_option maxRecDepth 50000 in
theorem kw_544 : tables_1[544]? = some (Jvm.Cond.instanceMethod ⟨"AllocateSolve$Floor", "setPieces", "(II)I"⟩) := rfl
set_option maxRecDepth 50000 in
theorem kw_545 : tables_1[545]? = some (Jvm.Cond.selects "AllocateSolve$Floor" ⟨"AllocateSolve$Floor", "setPieces", "(II)I"⟩ ⟨"AllocateSolve$Floor", "setPieces", "(II)I"⟩) := rfl
set_option maxRecDepth 50000 in
theorem kw_546 : tables_1[546]? = some (Jvm.Cond.code ⟨"AllocateSolve$Floor", "setPieces", "(II)I"⟩ prog_2_method_19_code (5 : Nat) (Option.some Jvm.ClassFile.FieldType.int)) := rfl
set_option maxRecDepth 50000 in
theorem kw_547 : tables_1[547]? = some (Jvm.Cond.methodLink "AllocateSolve$Floor" (104 : Nat) ⟨"AllocateSolve$Floor", "giveUp", "(II)V"⟩) := rfl
set_option maxRecDepth 50000 in
theorem kw_549 : tables_1[549]? = some (Jvm.Cond.instanceMethod ⟨"AllocateSolve$Floor", "giveUp", "(II)V"⟩) := rfl
set_option maxRecDepth 50000 in
theorem kw_550 : tables_1[550]? = some (Jvm.Cond.code ⟨"AllocateSolve$Floor", "giveUp", "(II)V"⟩ prog_2_method_20_code (3 : Nat) (Option.none : Option Jvm.ClassFile.FieldType)) := rfl
set_option maxRecDepth 50000 in
theorem kw_551 : tables_1[551]? = some (Jvm.Cond.methodLink "AllocateSolveLaw" (129 : Nat) ⟨"AllocateSolveLaw", "undo", "(LAllocateSolve;I[J)I"⟩) := rfl
set_option maxRecDepth 50000 in
theorem kw_552 : tables_1[552]? = some (Jvm.Cond.static ⟨"AllocateSolveLaw", "undo", "(LAllocateSolve;I[J)I"⟩) := rfl
set_option maxRecDepth 50000 in
theorem kw_553 : tables_1[553]? = some (Jvm.Cond.codeWith ⟨"AllocateSolveLaw", "undo", "(LAllocateSolve;I[J)I"⟩ method_14_code (4 : Nat) (Option.some Jvm.ClassFile.FieldType.int) [((0 : Nat), (9 : Nat), (12 : Nat), (25 : Nat)), ((0 : Nat), (9 : Nat), (15 : Nat), (57 : Nat))]) := rfl
set_option maxRecDepth 50000 in
theorem kw_554 : tables_1[554]? = some (Jvm.Cond.classLink "AllocateSolveLaw" (57 : Nat) "java/lang/IllegalStateException") := rfl
set_option maxRecDepth 50000 in
theorem kw_555 : tables_1[555]? = some (Jvm.Cond.methodLink "AllocateSolveLaw" (54 : Nat) ⟨"AllocateSolve", "undo", "(I)I"⟩) := rfl
set_option maxRecDepth 50000 in
theorem kw_556 : tables_1[556]? = some (Jvm.Cond.instanceMethod ⟨"AllocateSolve", "undo", "(I)I"⟩) := rfl
set_option maxRecDepth 50000 in
theorem kw_557 : tables_1[557]? = some (Jvm.Cond.selects "AllocateSolve" ⟨"AllocateSolve", "undo", "(I)I"⟩ ⟨"AllocateSolve", "undo", "(I)I"⟩) := rfl
set_option maxRecDepth 50000 in
theorem kw_558 : tables_1[558]? = some (Jvm.Cond.code ⟨"AllocateSolve", "undo", "(I)I"⟩ prog_1_method_16_code (3 : Nat) (Option.some Jvm.ClassFile.FieldType.int)) := rfl
set_option maxRecDepth 50000 in
theorem kw_559 : tables_1[559]? = some (Jvm.Cond.methodLink "AllocateSolve" (147 : Nat) ⟨"AllocateSolve$Floor", "piecesOf", "(I)I"⟩) := rfl
set_option maxRecDepth 50000 in
theorem kw_560 : tables_1[560]? = some (Jvm.Cond.classLink "AllocateSolve" (150 : Nat) "java/lang/IllegalStateException") := rfl
set_option maxRecDepth 50000 in
theorem kw_561 : tables_1[561]? = some (Jvm.Cond.instantiable "java/lang/IllegalStateException" (6 : Nat)) := rfl
set_option maxRecDepth 50000 in
theorem kw_562 : tables_1[562]? = some (Jvm.Cond.castable "java/lang/IllegalStateException" "java/lang/IllegalStateException") := rfl
set_option maxRecDepth 50000 in
theorem kw_563 : tables_1[563]? = some (Jvm.Cond.selects "java/lang/IllegalStateException" ⟨"java/lang/Throwable", "fillInStackTrace", "(I)Ljava/lang/Throwable;"⟩ ⟨"java/lang/Throwable", "fillInStackTrace", "(I)Ljava/lang/Throwable;"⟩) := rfl
set_option maxRecDepth 50000 in
theorem kw_569 : tables_1[569]? = some (Jvm.Cond.stringRef "AllocateSolve" (152 : Nat) "the line holds nothing") := rfl
set_option maxRecDepth 50000 in
theorem kw_570 : tables_1[570]? = some (Jvm.Cond.methodLink "AllocateSolve" (154 : Nat) ⟨"java/lang/IllegalStateException", "<init>", "(Ljava/lang/String;)V"⟩) := rfl
set_option maxRecDepth 50000 in
theorem kw_571 : tables_1[571]? = some (Jvm.Cond.instanceMethod ⟨"java/lang/IllegalStateException", "<init>", "(Ljava/lang/String;)V"⟩) := rfl
set_option maxRecDepth 50000 in
theorem kw_572 : tables_1[572]? = some (Jvm.Cond.code ⟨"java/lang/IllegalStateException", "<init>", "(Ljava/lang/String;)V"⟩ prog_11_method_2_code (2 : Nat) (Option.none : Option Jvm.ClassFile.FieldType)) := rfl
set_option maxRecDepth 50000 in
theorem kw_573 : tables_1[573]? = some (Jvm.Cond.methodLink "java/lang/IllegalStateException" (7 : Nat) ⟨"java/lang/RuntimeException", "<init>", "(Ljava/lang/String;)V"⟩) := rfl
set_option maxRecDepth 50000 in
theorem kw_576 : tables_1[576]? = some (Jvm.Cond.methodLink "AllocateSolve" (155 : Nat) ⟨"AllocateSolve$Floor", "letGo", "(I)V"⟩) := rfl
set_option maxRecDepth 50000 in
theorem kw_577 : tables_1[577]? = some (Jvm.Cond.methodLink "AllocateSolveLaw" (132 : Nat) ⟨"AllocateSolveLaw", "refused", "(LAllocateSolve;I[J)I"⟩) := rfl
set_option maxRecDepth 50000 in
theorem kw_578 : tables_1[578]? = some (Jvm.Cond.static ⟨"AllocateSolveLaw", "refused", "(LAllocateSolve;I[J)I"⟩) := rfl
set_option maxRecDepth 50000 in
theorem kw_579 : tables_1[579]? = some (Jvm.Cond.codeWith ⟨"AllocateSolveLaw", "refused", "(LAllocateSolve;I[J)I"⟩ method_15_code (4 : Nat) (Option.some Jvm.ClassFile.FieldType.int) [((0 : Nat), (9 : Nat), (12 : Nat), (25 : Nat))]) := rfl
set_option maxRecDepth 50000 in
theorem kw_580 : tables_1[580]? = some (Jvm.Cond.methodLink "AllocateSolveLaw" (59 : Nat) ⟨"AllocateSolve", "refused", "(I)I"⟩) := rfl
set_option maxRecDepth 50000 in
theorem kw_581 : tables_1[581]? = some (Jvm.Cond.instanceMethod ⟨"AllocateSolve", "refused", "(I)I"⟩) := rfl
set_option maxRecDepth 50000 in
theorem kw_582 : tables_1[582]? = some (Jvm.Cond.selects "AllocateSolve" ⟨"AllocateSolve", "refused", "(I)I"⟩ ⟨"AllocateSolve", "refused", "(I)I"⟩) := rfl
set_option maxRecDepth 50000 in
theorem kw_583 : tables_1[583]? = some (Jvm.Cond.code ⟨"AllocateSolve", "refused", "(I)I"⟩ prog_1_method_17_code (2 : Nat) (Option.some Jvm.ClassFile.FieldType.int)) := rfl
set_option maxRecDepth 50000 in
theorem kw_584 : tables_1[584]? = some (Jvm.Cond.methodLink "AllocateSolveLaw" (135 : Nat) ⟨"AllocateSolveLaw", "average", "(LAllocateSolve;I[J)I"⟩) := rfl
set_option maxRecDepth 50000 in
theorem kw_585 : tables_1[585]? = some (Jvm.Cond.static ⟨"AllocateSolveLaw", "average", "(LAllocateSolve;I[J)I"⟩) := rfl
set_option maxRecDepth 50000 in
theorem kw_586 : tables_1[586]? = some (Jvm.Cond.codeWith ⟨"AllocateSolveLaw", "average", "(LAllocateSolve;I[J)I"⟩ method_16_code (4 : Nat) (Option.some Jvm.ClassFile.FieldType.int) [((0 : Nat), (9 : Nat), (12 : Nat), (25 : Nat)), ((0 : Nat), (9 : Nat), (15 : Nat), (65 : Nat))]) := rfl
set_option maxRecDepth 50000 in
theorem kw_587 : tables_1[587]? = some (Jvm.Cond.classLink "AllocateSolveLaw" (65 : Nat) "java/lang/ArithmeticException") := rfl
set_option maxRecDepth 50000 in
theorem kw_588 : tables_1[588]? = some (Jvm.Cond.methodLink "AllocateSolveLaw" (62 : Nat) ⟨"AllocateSolve", "average", "(I)I"⟩) := rfl
set_option maxRecDepth 50000 in
theorem kw_589 : tables_1[589]? = some (Jvm.Cond.instanceMethod ⟨"AllocateSolve", "average", "(I)I"⟩) := rfl
set_option maxRecDepth 50000 in
theorem kw_590 : tables_1[590]? = some (Jvm.Cond.selects "AllocateSolve" ⟨"AllocateSolve", "average", "(I)I"⟩ ⟨"AllocateSolve", "average", "(I)I"⟩) := rfl
set_option maxRecDepth 50000 in
theorem kw_591 : tables_1[591]? = some (Jvm.Cond.code ⟨"AllocateSolve", "average", "(I)I"⟩ prog_1_method_18_code (3 : Nat) (Option.some Jvm.ClassFile.FieldType.int)) := rfl
set_option maxRecDepth 50000 in
theorem kw_592 : tables_1[592]? = some (Jvm.Cond.classLink "AllocateSolve" (161 : Nat) "java/lang/ArithmeticException") := rfl
set_option maxRecDepth 50000 in
theorem kw_593 : tables_1[593]? = some (Jvm.Cond.instantiable "java/lang/ArithmeticException" (6 : Nat)) := rfl
set_option maxRecDepth 50000 in
theorem kw_594 : tables_1[594]? = some (Jvm.Cond.castable "java/lang/ArithmeticException" "java/lang/ArithmeticException") := rfl
set_option maxRecDepth 50000 in
theorem kw_595 : tables_1[595]? = some (Jvm.Cond.selects "java/lang/ArithmeticException" ⟨"java/lang/Throwable", "fillInStackTrace", "(I)Ljava/lang/Throwable;"⟩ ⟨"java/lang/Throwable", "fillInStackTrace", "(I)Ljava/lang/Throwable;"⟩) := rfl
set_option maxRecDepth 50000 in
theorem kw_601 : tables_1[601]? = some (Jvm.Cond.stringRef "AllocateSolve" (163 : Nat) "/ by zero") := rfl
set_option maxRecDepth 50000 in
theorem kw_602 : tables_1[602]? = some (Jvm.Cond.methodLink "AllocateSolve" (165 : Nat) ⟨"java/lang/ArithmeticException", "<init>", "(Ljava/lang/String;)V"⟩) := rfl
set_option maxRecDepth 50000 in
theorem kw_603 : tables_1[603]? = some (Jvm.Cond.instanceMethod ⟨"java/lang/ArithmeticException", "<init>", "(Ljava/lang/String;)V"⟩) := rfl
set_option maxRecDepth 50000 in
theorem kw_604 : tables_1[604]? = some (Jvm.Cond.code ⟨"java/lang/ArithmeticException", "<init>", "(Ljava/lang/String;)V"⟩ prog_8_method_2_code (2 : Nat) (Option.none : Option Jvm.ClassFile.FieldType)) := rfl
set_option maxRecDepth 50000 in
theorem kw_605 : tables_1[605]? = some (Jvm.Cond.methodLink "java/lang/ArithmeticException" (7 : Nat) ⟨"java/lang/RuntimeException", "<init>", "(Ljava/lang/String;)V"⟩) := rfl
set_option maxRecDepth 50000 in
theorem kw_608 : tables_1[608]? = some (Jvm.Cond.methodLink "AllocateSolve" (166 : Nat) ⟨"AllocateSolve$Floor", "costOfPieces", "(I)I"⟩) := rfl
set_option maxRecDepth 50000 in
theorem kw_609 : tables_1[609]? = some (Jvm.Cond.instanceMethod ⟨"AllocateSolve$Floor", "costOfPieces", "(I)I"⟩) := rfl
set_option maxRecDepth 50000 in
theorem kw_610 : tables_1[610]? = some (Jvm.Cond.selects "AllocateSolve$Floor" ⟨"AllocateSolve$Floor", "costOfPieces", "(I)I"⟩ ⟨"AllocateSolve$Floor", "costOfPieces", "(I)I"⟩) := rfl
set_option maxRecDepth 50000 in
theorem kw_611 : tables_1[611]? = some (Jvm.Cond.code ⟨"AllocateSolve$Floor", "costOfPieces", "(I)I"⟩ prog_2_method_11_code (4 : Nat) (Option.some Jvm.ClassFile.FieldType.int)) := rfl
set_option maxRecDepth 50000 in
theorem kw_612 : tables_1[612]? = some (Jvm.Cond.classLink "AllocateSolveLaw" (68 : Nat) "AllocateSolveModel") := rfl
set_option maxRecDepth 50000 in
theorem kw_613 : tables_1[613]? = some (Jvm.Cond.instantiable "AllocateSolveModel" (21 : Nat)) := rfl
set_option maxRecDepth 50000 in
theorem kw_614 : tables_1[614]? = some (Jvm.Cond.methodLink "AllocateSolveLaw" (70 : Nat) ⟨"AllocateSolveModel", "<init>", "()V"⟩) := rfl
set_option maxRecDepth 50000 in
theorem kw_615 : tables_1[615]? = some (Jvm.Cond.instanceMethod ⟨"AllocateSolveModel", "<init>", "()V"⟩) := rfl
set_option maxRecDepth 50000 in
theorem kw_616 : tables_1[616]? = some (Jvm.Cond.code ⟨"AllocateSolveModel", "<init>", "()V"⟩ prog_7_method_1_code (2 : Nat) (Option.none : Option Jvm.ClassFile.FieldType)) := rfl
set_option maxRecDepth 50000 in
theorem kw_617 : tables_1[617]? = some (Jvm.Cond.methodLink "AllocateSolveModel" (1 : Nat) ⟨"java/lang/Object", "<init>", "()V"⟩) := rfl
set_option maxRecDepth 50000 in
theorem kw_618 : tables_1[618]? = some (Jvm.Cond.fieldLink "AllocateSolveModel" (62 : Nat) "AllocateSolveModel" "code" "I") := rfl
set_option maxRecDepth 50000 in
theorem kw_619 : tables_1[619]? = some (Jvm.Cond.fieldLink "AllocateSolveModel" (66 : Nat) "AllocateSolveModel" "lots" "I") := rfl
set_option maxRecDepth 50000 in
theorem kw_620 : tables_1[620]? = some (Jvm.Cond.fieldLink "AllocateSolveModel" (7 : Nat) "AllocateSolveModel" "place" "[I") := rfl
set_option maxRecDepth 50000 in
theorem kw_621 : tables_1[621]? = some (Jvm.Cond.fieldLink "AllocateSolveModel" (13 : Nat) "AllocateSolveModel" "good" "[I") := rfl
set_option maxRecDepth 50000 in
theorem kw_622 : tables_1[622]? = some (Jvm.Cond.fieldLink "AllocateSolveModel" (16 : Nat) "AllocateSolveModel" "pieces" "[I") := rfl
set_option maxRecDepth 50000 in
theorem kw_623 : tables_1[623]? = some (Jvm.Cond.fieldLink "AllocateSolveModel" (19 : Nat) "AllocateSolveModel" "until" "[I") := rfl
set_option maxRecDepth 50000 in
theorem kw_624 : tables_1[624]? = some (Jvm.Cond.fieldLink "AllocateSolveModel" (73 : Nat) "AllocateSolveModel" "lines" "I") := rfl
set_option maxRecDepth 50000 in
theorem kw_625 : tables_1[625]? = some (Jvm.Cond.fieldLink "AllocateSolveModel" (22 : Nat) "AllocateSolveModel" "wish" "[I") := rfl
set_option maxRecDepth 50000 in
theorem kw_626 : tables_1[626]? = some (Jvm.Cond.fieldLink "AllocateSolveModel" (25 : Nat) "AllocateSolveModel" "many" "[I") := rfl
set_option maxRecDepth 50000 in
theorem kw_627 : tables_1[627]? = some (Jvm.Cond.fieldLink "AllocateSolveModel" (28 : Nat) "AllocateSolveModel" "rules" "[I") := rfl
set_option maxRecDepth 50000 in
theorem kw_628 : tables_1[628]? = some (Jvm.Cond.fieldLink "AllocateSolveModel" (31 : Nat) "AllocateSolveModel" "told" "[I") := rfl
set_option maxRecDepth 50000 in
theorem kw_629 : tables_1[629]? = some (Jvm.Cond.fieldLink "AllocateSolveModel" (34 : Nat) "AllocateSolveModel" "barred" "[Z") := rfl
set_option maxRecDepth 50000 in
theorem kw_630 : tables_1[630]? = some (Jvm.Cond.fieldLink "AllocateSolveModel" (38 : Nat) "AllocateSolveModel" "holds" "[I") := rfl
set_option maxRecDepth 50000 in
theorem kw_631 : tables_1[631]? = some (Jvm.Cond.fieldLink "AllocateSolveModel" (128 : Nat) "AllocateSolveModel" "exact" "Z") := rfl
set_option maxRecDepth 50000 in
theorem kw_632 : tables_1[632]? = some (Jvm.Cond.fieldLink "AllocateSolveModel" (41 : Nat) "AllocateSolveModel" "allowed" "[I") := rfl
set_option maxRecDepth 50000 in
theorem kw_633 : tables_1[633]? = some (Jvm.Cond.fieldLink "AllocateSolveModel" (44 : Nat) "AllocateSolveModel" "allowedCount" "[I") := rfl
set_option maxRecDepth 50000 in
theorem kw_634 : tables_1[634]? = some (Jvm.Cond.fieldLink "AllocateSolveModel" (47 : Nat) "AllocateSolveModel" "sets" "[I") := rfl
set_option maxRecDepth 50000 in
theorem kw_635 : tables_1[635]? = some (Jvm.Cond.fieldLink "AllocateSolveModel" (50 : Nat) "AllocateSolveModel" "bestSets" "[I") := rfl
set_option maxRecDepth 50000 in
theorem kw_636 : tables_1[636]? = some (Jvm.Cond.fieldLink "AllocateSolveModel" (53 : Nat) "AllocateSolveModel" "rest" "[I") := rfl
set_option maxRecDepth 50000 in
theorem kw_637 : tables_1[637]? = some (Jvm.Cond.fieldLink "AllocateSolveModel" (56 : Nat) "AllocateSolveModel" "spent" "[I") := rfl
set_option maxRecDepth 50000 in
theorem kw_638 : tables_1[638]? = some (Jvm.Cond.fieldLink "AllocateSolveModel" (59 : Nat) "AllocateSolveModel" "taken" "[I") := rfl
set_option maxRecDepth 50000 in
theorem kw_639 : tables_1[639]? = some (Jvm.Cond.lays "AllocateSolveModel" "AllocateSolveModel" "code" "I") := rfl
set_option maxRecDepth 50000 in
theorem kw_641 : tables_1[641]? = some (Jvm.Cond.lays "AllocateSolveModel" "AllocateSolveModel" "lots" "I") := rfl
set_option maxRecDepth 50000 in
theorem kw_643 : tables_1[643]? = some (Jvm.Cond.laysFinal "AllocateSolveModel" "AllocateSolveModel" "place" "[I") := rfl
set_option maxRecDepth 50000 in
theorem kw_645 : tables_1[645]? = some (Jvm.Cond.laysFinal "AllocateSolveModel" "AllocateSolveModel" "good" "[I") := rfl
set_option maxRecDepth 50000 in
theorem kw_647 : tables_1[647]? = some (Jvm.Cond.laysFinal "AllocateSolveModel" "AllocateSolveModel" "pieces" "[I") := rfl
set_option maxRecDepth 50000 in
theorem kw_649 : tables_1[649]? = some (Jvm.Cond.laysFinal "AllocateSolveModel" "AllocateSolveModel" "until" "[I") := rfl
set_option maxRecDepth 50000 in
theorem kw_651 : tables_1[651]? = some (Jvm.Cond.lays "AllocateSolveModel" "AllocateSolveModel" "lines" "I") := rfl
set_option maxRecDepth 50000 in
theorem kw_653 : tables_1[653]? = some (Jvm.Cond.laysFinal "AllocateSolveModel" "AllocateSolveModel" "wish" "[I") := rfl
set_option maxRecDepth 50000 in
theorem kw_655 : tables_1[655]? = some (Jvm.Cond.laysFinal "AllocateSolveModel" "AllocateSolveModel" "many" "[I") := rfl
set_option maxRecDepth 50000 in
theorem kw_657 : tables_1[657]? = some (Jvm.Cond.laysFinal "AllocateSolveModel" "AllocateSolveModel" "rules" "[I") := rfl
set_option maxRecDepth 50000 in
theorem kw_659 : tables_1[659]? = some (Jvm.Cond.laysFinal "AllocateSolveModel" "AllocateSolveModel" "told" "[I") := rfl
set_option maxRecDepth 50000 in
theorem kw_661 : tables_1[661]? = some (Jvm.Cond.laysFinal "AllocateSolveModel" "AllocateSolveModel" "barred" "[Z") := rfl
set_option maxRecDepth 50000 in
theorem kw_663 : tables_1[663]? = some (Jvm.Cond.laysFinal "AllocateSolveModel" "AllocateSolveModel" "holds" "[I") := rfl
set_option maxRecDepth 50000 in
theorem kw_665 : tables_1[665]? = some (Jvm.Cond.lays "AllocateSolveModel" "AllocateSolveModel" "exact" "Z") := rfl
set_option maxRecDepth 50000 in
theorem kw_667 : tables_1[667]? = some (Jvm.Cond.laysFinal "AllocateSolveModel" "AllocateSolveModel" "allowed" "[I") := rfl
set_option maxRecDepth 50000 in
theorem kw_669 : tables_1[669]? = some (Jvm.Cond.laysFinal "AllocateSolveModel" "AllocateSolveModel" "allowedCount" "[I") := rfl
set_option maxRecDepth 50000 in
theorem kw_671 : tables_1[671]? = some (Jvm.Cond.laysFinal "AllocateSolveModel" "AllocateSolveModel" "sets" "[I") := rfl
set_option maxRecDepth 50000 in
theorem kw_673 : tables_1[673]? = some (Jvm.Cond.laysFinal "AllocateSolveModel" "AllocateSolveModel" "bestSets" "[I") := rfl
set_option maxRecDepth 50000 in
theorem kw_675 : tables_1[675]? = some (Jvm.Cond.laysFinal "AllocateSolveModel" "AllocateSolveModel" "rest" "[I") := rfl
set_option maxRecDepth 50000 in
theorem kw_677 : tables_1[677]? = some (Jvm.Cond.laysFinal "AllocateSolveModel" "AllocateSolveModel" "spent" "[I") := rfl
set_option maxRecDepth 50000 in
theorem kw_679 : tables_1[679]? = some (Jvm.Cond.laysFinal "AllocateSolveModel" "AllocateSolveModel" "taken" "[I") := rfl
set_option maxRecDepth 50000 in
theorem kw_682 : tables_1[682]? = some (Jvm.Cond.arrayClass Jvm.ClassFile.FieldType.boolean) := rfl
set_option maxRecDepth 50000 in
theorem kw_683 : tables_1[683]? = some (Jvm.Cond.methodLink "AllocateSolveLaw" (77 : Nat) ⟨"AllocateSolveModel", "thrown", "()I"⟩) := rfl
set_option maxRecDepth 50000 in
theorem kw_684 : tables_1[684]? = some (Jvm.Cond.instanceMethod ⟨"AllocateSolveModel", "thrown", "()I"⟩) := rfl
set_option maxRecDepth 50000 in
theorem kw_685 : tables_1[685]? = some (Jvm.Cond.selects "AllocateSolveModel" ⟨"AllocateSolveModel", "thrown", "()I"⟩ ⟨"AllocateSolveModel", "thrown", "()I"⟩) := rfl
set_option maxRecDepth 50000 in
theorem kw_686 : tables_1[686]? = some (Jvm.Cond.code ⟨"AllocateSolveModel", "thrown", "()I"⟩ prog_7_method_2_code (1 : Nat) (Option.some Jvm.ClassFile.FieldType.int)) := rfl
set_option maxRecDepth 50000 in
theorem kw_687 : tables_1[687]? = some (Jvm.Cond.methodLink "AllocateSolveLaw" (76 : Nat) ⟨"AllocateSolveModel", "lot", "(IIII)I"⟩) := rfl
set_option maxRecDepth 50000 in
theorem kw_688 : tables_1[688]? = some (Jvm.Cond.instanceMethod ⟨"AllocateSolveModel", "lot", "(IIII)I"⟩) := rfl
set_option maxRecDepth 50000 in
theorem kw_689 : tables_1[689]? = some (Jvm.Cond.selects "AllocateSolveModel" ⟨"AllocateSolveModel", "lot", "(IIII)I"⟩ ⟨"AllocateSolveModel", "lot", "(IIII)I"⟩) := rfl
set_option maxRecDepth 50000 in
theorem kw_690 : tables_1[690]? = some (Jvm.Cond.code ⟨"AllocateSolveModel", "lot", "(IIII)I"⟩ prog_7_method_6_code (5 : Nat) (Option.some Jvm.ClassFile.FieldType.int)) := rfl
set_option maxRecDepth 50000 in
theorem kw_691 : tables_1[691]? = some (Jvm.Cond.methodLink "AllocateSolveModel" (69 : Nat) ⟨"AllocateSolveModel", "in", "(III)Z"⟩) := rfl
set_option maxRecDepth 50000 in
theorem kw_692 : tables_1[692]? = some (Jvm.Cond.static ⟨"AllocateSolveModel", "in", "(III)Z"⟩) := rfl
set_option maxRecDepth 50000 in
theorem kw_693 : tables_1[693]? = some (Jvm.Cond.code ⟨"AllocateSolveModel", "in", "(III)Z"⟩ prog_7_method_3_code (3 : Nat) (Option.some Jvm.ClassFile.FieldType.boolean)) := rfl
set_option maxRecDepth 50000 in
theorem kw_694 : tables_1[694]? = some (Jvm.Cond.methodLink "AllocateSolveLaw" (84 : Nat) ⟨"AllocateSolveModel", "line", "(II)I"⟩) := rfl
set_option maxRecDepth 50000 in
theorem kw_695 : tables_1[695]? = some (Jvm.Cond.instanceMethod ⟨"AllocateSolveModel", "line", "(II)I"⟩) := rfl
set_option maxRecDepth 50000 in
theorem kw_696 : tables_1[696]? = some (Jvm.Cond.selects "AllocateSolveModel" ⟨"AllocateSolveModel", "line", "(II)I"⟩ ⟨"AllocateSolveModel", "line", "(II)I"⟩) := rfl
set_option maxRecDepth 50000 in
theorem kw_697 : tables_1[697]? = some (Jvm.Cond.code ⟨"AllocateSolveModel", "line", "(II)I"⟩ prog_7_method_7_code (3 : Nat) (Option.some Jvm.ClassFile.FieldType.int)) := rfl
set_option maxRecDepth 50000 in
theorem kw_698 : tables_1[698]? = some (Jvm.Cond.methodLink "AllocateSolveLaw" (88 : Nat) ⟨"AllocateSolveModel", "rule", "(III)V"⟩) := rfl
set_option maxRecDepth 50000 in
theorem kw_699 : tables_1[699]? = some (Jvm.Cond.instanceMethod ⟨"AllocateSolveModel", "rule", "(III)V"⟩) := rfl
set_option maxRecDepth 50000 in
theorem kw_700 : tables_1[700]? = some (Jvm.Cond.selects "AllocateSolveModel" ⟨"AllocateSolveModel", "rule", "(III)V"⟩ ⟨"AllocateSolveModel", "rule", "(III)V"⟩) := rfl
set_option maxRecDepth 50000 in
theorem kw_701 : tables_1[701]? = some (Jvm.Cond.code ⟨"AllocateSolveModel", "rule", "(III)V"⟩ prog_7_method_9_code (4 : Nat) (Option.none : Option Jvm.ClassFile.FieldType)) := rfl
set_option maxRecDepth 50000 in
theorem kw_702 : tables_1[702]? = some (Jvm.Cond.methodLink "AllocateSolveModel" (76 : Nat) ⟨"AllocateSolveModel", "isLine", "(I)Z"⟩) := rfl
set_option maxRecDepth 50000 in
theorem kw_704 : tables_1[704]? = some (Jvm.Cond.instanceMethod ⟨"AllocateSolveModel", "isLine", "(I)Z"⟩) := rfl
set_option maxRecDepth 50000 in
theorem kw_705 : tables_1[705]? = some (Jvm.Cond.code ⟨"AllocateSolveModel", "isLine", "(I)Z"⟩ prog_7_method_5_code (2 : Nat) (Option.some Jvm.ClassFile.FieldType.boolean)) := rfl
set_option maxRecDepth 50000 in
theorem kw_706 : tables_1[706]? = some (Jvm.Cond.methodLink "AllocateSolveModel" (80 : Nat) ⟨"AllocateSolveModel", "isRule", "(II)Z"⟩) := rfl
set_option maxRecDepth 50000 in
theorem kw_707 : tables_1[707]? = some (Jvm.Cond.static ⟨"AllocateSolveModel", "isRule", "(II)Z"⟩) := rfl
set_option maxRecDepth 50000 in
theorem kw_708 : tables_1[708]? = some (Jvm.Cond.code ⟨"AllocateSolveModel", "isRule", "(II)Z"⟩ prog_7_method_8_code (2 : Nat) (Option.some Jvm.ClassFile.FieldType.boolean)) := rfl
set_option maxRecDepth 50000 in
theorem kw_709 : tables_1[709]? = some (Jvm.Cond.methodLink "AllocateSolveLaw" (91 : Nat) ⟨"AllocateSolveModel", "cost", "(III)V"⟩) := rfl
set_option maxRecDepth 50000 in
theorem kw_710 : tables_1[710]? = some (Jvm.Cond.instanceMethod ⟨"AllocateSolveModel", "cost", "(III)V"⟩) := rfl
set_option maxRecDepth 50000 in
theorem kw_711 : tables_1[711]? = some (Jvm.Cond.selects "AllocateSolveModel" ⟨"AllocateSolveModel", "cost", "(III)V"⟩ ⟨"AllocateSolveModel", "cost", "(III)V"⟩) := rfl
set_option maxRecDepth 50000 in
theorem kw_712 : tables_1[712]? = some (Jvm.Cond.code ⟨"AllocateSolveModel", "cost", "(III)V"⟩ prog_7_method_10_code (4 : Nat) (Option.none : Option Jvm.ClassFile.FieldType)) := rfl
set_option maxRecDepth 50000 in
theorem kw_713 : tables_1[713]? = some (Jvm.Cond.methodLink "AllocateSolveModel" (84 : Nat) ⟨"AllocateSolveModel", "isLot", "(I)Z"⟩) := rfl
set_option maxRecDepth 50000 in
theorem kw_715 : tables_1[715]? = some (Jvm.Cond.instanceMethod ⟨"AllocateSolveModel", "isLot", "(I)Z"⟩) := rfl
set_option maxRecDepth 50000 in
theorem kw_716 : tables_1[716]? = some (Jvm.Cond.code ⟨"AllocateSolveModel", "isLot", "(I)Z"⟩ prog_7_method_4_code (2 : Nat) (Option.some Jvm.ClassFile.FieldType.boolean)) := rfl
set_option maxRecDepth 50000 in
theorem kw_717 : tables_1[717]? = some (Jvm.Cond.methodLink "AllocateSolveLaw" (95 : Nat) ⟨"AllocateSolveModel", "may", "(IIZ)Z"⟩) := rfl
set_option maxRecDepth 50000 in
theorem kw_718 : tables_1[718]? = some (Jvm.Cond.instanceMethod ⟨"AllocateSolveModel", "may", "(IIZ)Z"⟩) := rfl
set_option maxRecDepth 50000 in
theorem kw_719 : tables_1[719]? = some (Jvm.Cond.selects "AllocateSolveModel" ⟨"AllocateSolveModel", "may", "(IIZ)Z"⟩ ⟨"AllocateSolveModel", "may", "(IIZ)Z"⟩) := rfl
set_option maxRecDepth 50000 in
theorem kw_720 : tables_1[720]? = some (Jvm.Cond.code ⟨"AllocateSolveModel", "may", "(IIZ)Z"⟩ prog_7_method_14_code (4 : Nat) (Option.some Jvm.ClassFile.FieldType.boolean)) := rfl
set_option maxRecDepth 50000 in
theorem kw_721 : tables_1[721]? = some (Jvm.Cond.methodLink "AllocateSolveModel" (90 : Nat) ⟨"AllocateSolveModel", "isAllowed", "(II)Z"⟩) := rfl
set_option maxRecDepth 50000 in
theorem kw_723 : tables_1[723]? = some (Jvm.Cond.instanceMethod ⟨"AllocateSolveModel", "isAllowed", "(II)Z"⟩) := rfl
set_option maxRecDepth 50000 in
theorem kw_724 : tables_1[724]? = some (Jvm.Cond.code ⟨"AllocateSolveModel", "isAllowed", "(II)Z"⟩ prog_7_method_12_code (3 : Nat) (Option.some Jvm.ClassFile.FieldType.boolean)) := rfl
set_option maxRecDepth 50000 in
theorem kw_725 : tables_1[725]? = some (Jvm.Cond.methodLink "AllocateSolveModel" (87 : Nat) ⟨"AllocateSolveModel", "passes", "(III)Z"⟩) := rfl
set_option maxRecDepth 50000 in
theorem kw_727 : tables_1[727]? = some (Jvm.Cond.instanceMethod ⟨"AllocateSolveModel", "passes", "(III)Z"⟩) := rfl
set_option maxRecDepth 50000 in
theorem kw_728 : tables_1[728]? = some (Jvm.Cond.code ⟨"AllocateSolveModel", "passes", "(III)Z"⟩ prog_7_method_11_code (4 : Nat) (Option.some Jvm.ClassFile.FieldType.boolean)) := rfl
set_option maxRecDepth 50000 in
theorem kw_729 : tables_1[729]? = some (Jvm.Cond.methodLink "AllocateSolveLaw" (99 : Nat) ⟨"AllocateSolveModel", "solve", "(I)I"⟩) := rfl
set_option maxRecDepth 50000 in
theorem kw_730 : tables_1[730]? = some (Jvm.Cond.instanceMethod ⟨"AllocateSolveModel", "solve", "(I)I"⟩) := rfl
set_option maxRecDepth 50000 in
theorem kw_731 : tables_1[731]? = some (Jvm.Cond.selects "AllocateSolveModel" ⟨"AllocateSolveModel", "solve", "(I)I"⟩ ⟨"AllocateSolveModel", "solve", "(I)I"⟩) := rfl
set_option maxRecDepth 50000 in
theorem kw_732 : tables_1[732]? = some (Jvm.Cond.code ⟨"AllocateSolveModel", "solve", "(I)I"⟩ prog_7_method_25_code (4 : Nat) (Option.some Jvm.ClassFile.FieldType.int)) := rfl
set_option maxRecDepth 50000 in
theorem kw_733 : tables_1[733]? = some (Jvm.Cond.constant "AllocateSolveModel" (120 : Nat) (40000 : Int32)) := rfl
set_option maxRecDepth 50000 in
theorem kw_734 : tables_1[734]? = some (Jvm.Cond.methodLink "AllocateSolveModel" (121 : Nat) ⟨"AllocateSolveModel", "layOut", "()V"⟩) := rfl
set_option maxRecDepth 50000 in
theorem kw_736 : tables_1[736]? = some (Jvm.Cond.instanceMethod ⟨"AllocateSolveModel", "layOut", "()V"⟩) := rfl
set_option maxRecDepth 50000 in
theorem kw_737 : tables_1[737]? = some (Jvm.Cond.code ⟨"AllocateSolveModel", "layOut", "()V"⟩ prog_7_method_17_code (4 : Nat) (Option.none : Option Jvm.ClassFile.FieldType)) := rfl
set_option maxRecDepth 50000 in
theorem kw_738 : tables_1[738]? = some (Jvm.Cond.methodLink "AllocateSolveModel" (96 : Nat) ⟨"AllocateSolveModel", "lotAt", "(I)I"⟩) := rfl
set_option maxRecDepth 50000 in
theorem kw_740 : tables_1[740]? = some (Jvm.Cond.instanceMethod ⟨"AllocateSolveModel", "lotAt", "(I)I"⟩) := rfl
set_option maxRecDepth 50000 in
theorem kw_741 : tables_1[741]? = some (Jvm.Cond.code ⟨"AllocateSolveModel", "lotAt", "(I)I"⟩ prog_7_method_16_code (5 : Nat) (Option.some Jvm.ClassFile.FieldType.int)) := rfl
set_option maxRecDepth 50000 in
theorem kw_742 : tables_1[742]? = some (Jvm.Cond.methodLink "AllocateSolveModel" (93 : Nat) ⟨"AllocateSolveModel", "isBefore", "(II)Z"⟩) := rfl
set_option maxRecDepth 50000 in
theorem kw_744 : tables_1[744]? = some (Jvm.Cond.instanceMethod ⟨"AllocateSolveModel", "isBefore", "(II)Z"⟩) := rfl
set_option maxRecDepth 50000 in
theorem kw_745 : tables_1[745]? = some (Jvm.Cond.code ⟨"AllocateSolveModel", "isBefore", "(II)Z"⟩ prog_7_method_15_code (3 : Nat) (Option.some Jvm.ClassFile.FieldType.boolean)) := rfl
set_option maxRecDepth 50000 in
theorem kw_746 : tables_1[746]? = some (Jvm.Cond.methodLink "AllocateSolveModel" (124 : Nat) ⟨"AllocateSolveModel", "product", "()J"⟩) := rfl
set_option maxRecDepth 50000 in
theorem kw_748 : tables_1[748]? = some (Jvm.Cond.instanceMethod ⟨"AllocateSolveModel", "product", "()J"⟩) := rfl
set_option maxRecDepth 50000 in
theorem kw_749 : tables_1[749]? = some (Jvm.Cond.code ⟨"AllocateSolveModel", "product", "()J"⟩ prog_7_method_24_code (5 : Nat) (Option.some Jvm.ClassFile.FieldType.long)) := rfl
set_option maxRecDepth 50000 in
theorem kw_750 : tables_1[750]? = some (Jvm.Cond.constantLong "AllocateSolveModel" (118 : Nat) (2 : Int64)) := rfl
set_option maxRecDepth 50000 in
theorem kw_751 : tables_1[751]? = some (Jvm.Cond.methodLink "AllocateSolveModel" (132 : Nat) ⟨"AllocateSolveModel", "exactly", "()V"⟩) := rfl
set_option maxRecDepth 50000 in
theorem kw_753 : tables_1[753]? = some (Jvm.Cond.instanceMethod ⟨"AllocateSolveModel", "exactly", "()V"⟩) := rfl
set_option maxRecDepth 50000 in
theorem kw_754 : tables_1[754]? = some (Jvm.Cond.code ⟨"AllocateSolveModel", "exactly", "()V"⟩ prog_7_method_22_code (4 : Nat) (Option.none : Option Jvm.ClassFile.FieldType)) := rfl
set_option maxRecDepth 50000 in
theorem kw_755 : tables_1[755]? = some (Jvm.Cond.methodLink "AllocateSolveModel" (111 : Nat) ⟨"AllocateSolveModel", "takeFrom", "(I)V"⟩) := rfl
set_option maxRecDepth 50000 in
theorem kw_757 : tables_1[757]? = some (Jvm.Cond.instanceMethod ⟨"AllocateSolveModel", "takeFrom", "(I)V"⟩) := rfl
set_option maxRecDepth 50000 in
theorem kw_758 : tables_1[758]? = some (Jvm.Cond.code ⟨"AllocateSolveModel", "takeFrom", "(I)V"⟩ prog_7_method_20_code (3 : Nat) (Option.none : Option Jvm.ClassFile.FieldType)) := rfl
set_option maxRecDepth 50000 in
theorem kw_759 : tables_1[759]? = some (Jvm.Cond.methodLink "AllocateSolveModel" (104 : Nat) ⟨"AllocateSolveModel", "take", "(I)V"⟩) := rfl
set_option maxRecDepth 50000 in
theorem kw_761 : tables_1[761]? = some (Jvm.Cond.instanceMethod ⟨"AllocateSolveModel", "take", "(I)V"⟩) := rfl
set_option maxRecDepth 50000 in
theorem kw_762 : tables_1[762]? = some (Jvm.Cond.code ⟨"AllocateSolveModel", "take", "(I)V"⟩ prog_7_method_19_code (7 : Nat) (Option.none : Option Jvm.ClassFile.FieldType)) := rfl
set_option maxRecDepth 50000 in
theorem kw_763 : tables_1[763]? = some (Jvm.Cond.methodLink "AllocateSolveModel" (100 : Nat) ⟨"AllocateSolveModel", "costOf", "(II)I"⟩) := rfl
set_option maxRecDepth 50000 in
theorem kw_765 : tables_1[765]? = some (Jvm.Cond.instanceMethod ⟨"AllocateSolveModel", "costOf", "(II)I"⟩) := rfl
set_option maxRecDepth 50000 in
theorem kw_766 : tables_1[766]? = some (Jvm.Cond.code ⟨"AllocateSolveModel", "costOf", "(II)I"⟩ prog_7_method_13_code (3 : Nat) (Option.some Jvm.ClassFile.FieldType.int)) := rfl
set_option maxRecDepth 50000 in
theorem kw_767 : tables_1[767]? = some (Jvm.Cond.methodLink "AllocateSolveModel" (114 : Nat) ⟨"AllocateSolveModel", "nextSets", "()I"⟩) := rfl
set_option maxRecDepth 50000 in
theorem kw_769 : tables_1[769]? = some (Jvm.Cond.instanceMethod ⟨"AllocateSolveModel", "nextSets", "()I"⟩) := rfl
set_option maxRecDepth 50000 in
theorem kw_770 : tables_1[770]? = some (Jvm.Cond.code ⟨"AllocateSolveModel", "nextSets", "()I"⟩ prog_7_method_21_code (2 : Nat) (Option.some Jvm.ClassFile.FieldType.int)) := rfl
set_option maxRecDepth 50000 in
theorem kw_771 : tables_1[771]? = some (Jvm.Cond.methodLink "AllocateSolveModel" (108 : Nat) ⟨"AllocateSolveModel", "bits", "(I)I"⟩) := rfl
set_option maxRecDepth 50000 in
theorem kw_772 : tables_1[772]? = some (Jvm.Cond.static ⟨"AllocateSolveModel", "bits", "(I)I"⟩) := rfl
set_option maxRecDepth 50000 in
theorem kw_773 : tables_1[773]? = some (Jvm.Cond.code ⟨"AllocateSolveModel", "bits", "(I)I"⟩ prog_7_method_18_code (3 : Nat) (Option.some Jvm.ClassFile.FieldType.int)) := rfl
set_option maxRecDepth 50000 in
theorem kw_774 : tables_1[774]? = some (Jvm.Cond.methodLink "AllocateSolveModel" (135 : Nat) ⟨"AllocateSolveModel", "byRule", "()V"⟩) := rfl
set_option maxRecDepth 50000 in
theorem kw_776 : tables_1[776]? = some (Jvm.Cond.instanceMethod ⟨"AllocateSolveModel", "byRule", "()V"⟩) := rfl
set_option maxRecDepth 50000 in
theorem kw_777 : tables_1[777]? = some (Jvm.Cond.code ⟨"AllocateSolveModel", "byRule", "()V"⟩ prog_7_method_23_code (3 : Nat) (Option.none : Option Jvm.ClassFile.FieldType)) := rfl
set_option maxRecDepth 50000 in
theorem kw_778 : tables_1[778]? = some (Jvm.Cond.methodLink "AllocateSolveLaw" (104 : Nat) ⟨"AllocateSolveModel", "exact", "()Z"⟩) := rfl
set_option maxRecDepth 50000 in
theorem kw_779 : tables_1[779]? = some (Jvm.Cond.instanceMethod ⟨"AllocateSolveModel", "exact", "()Z"⟩) := rfl
set_option maxRecDepth 50000 in
theorem kw_780 : tables_1[780]? = some (Jvm.Cond.selects "AllocateSolveModel" ⟨"AllocateSolveModel", "exact", "()Z"⟩ ⟨"AllocateSolveModel", "exact", "()Z"⟩) := rfl
set_option maxRecDepth 50000 in
theorem kw_781 : tables_1[781]? = some (Jvm.Cond.code ⟨"AllocateSolveModel", "exact", "()Z"⟩ prog_7_method_26_code (1 : Nat) (Option.some Jvm.ClassFile.FieldType.boolean)) := rfl
set_option maxRecDepth 50000 in
theorem kw_782 : tables_1[782]? = some (Jvm.Cond.methodLink "AllocateSolveLaw" (108 : Nat) ⟨"AllocateSolveModel", "choices", "()I"⟩) := rfl
set_option maxRecDepth 50000 in
theorem kw_783 : tables_1[783]? = some (Jvm.Cond.instanceMethod ⟨"AllocateSolveModel", "choices", "()I"⟩) := rfl
set_option maxRecDepth 50000 in
theorem kw_784 : tables_1[784]? = some (Jvm.Cond.selects "AllocateSolveModel" ⟨"AllocateSolveModel", "choices", "()I"⟩ ⟨"AllocateSolveModel", "choices", "()I"⟩) := rfl
set_option maxRecDepth 50000 in
theorem kw_785 : tables_1[785]? = some (Jvm.Cond.code ⟨"AllocateSolveModel", "choices", "()I"⟩ prog_7_method_27_code (1 : Nat) (Option.some Jvm.ClassFile.FieldType.int)) := rfl
set_option maxRecDepth 50000 in
theorem kw_786 : tables_1[786]? = some (Jvm.Cond.constantLong "AllocateSolveModel" (138 : Nat) (1000000 : Int64)) := rfl
set_option maxRecDepth 50000 in
theorem kw_787 : tables_1[787]? = some (Jvm.Cond.methodLink "AllocateSolveLaw" (112 : Nat) ⟨"AllocateSolveModel", "bound", "()I"⟩) := rfl
set_option maxRecDepth 50000 in
theorem kw_788 : tables_1[788]? = some (Jvm.Cond.instanceMethod ⟨"AllocateSolveModel", "bound", "()I"⟩) := rfl
set_option maxRecDepth 50000 in
theorem kw_789 : tables_1[789]? = some (Jvm.Cond.selects "AllocateSolveModel" ⟨"AllocateSolveModel", "bound", "()I"⟩ ⟨"AllocateSolveModel", "bound", "()I"⟩) := rfl
set_option maxRecDepth 50000 in
theorem kw_790 : tables_1[790]? = some (Jvm.Cond.code ⟨"AllocateSolveModel", "bound", "()I"⟩ prog_7_method_28_code (6 : Nat) (Option.some Jvm.ClassFile.FieldType.int)) := rfl
set_option maxRecDepth 50000 in
theorem kw_791 : tables_1[791]? = some (Jvm.Cond.methodLink "AllocateSolveLaw" (116 : Nat) ⟨"AllocateSolveModel", "give", "(III)I"⟩) := rfl
set_option maxRecDepth 50000 in
theorem kw_792 : tables_1[792]? = some (Jvm.Cond.instanceMethod ⟨"AllocateSolveModel", "give", "(III)I"⟩) := rfl
set_option maxRecDepth 50000 in
theorem kw_793 : tables_1[793]? = some (Jvm.Cond.selects "AllocateSolveModel" ⟨"AllocateSolveModel", "give", "(III)I"⟩ ⟨"AllocateSolveModel", "give", "(III)I"⟩) := rfl
set_option maxRecDepth 50000 in
theorem kw_794 : tables_1[794]? = some (Jvm.Cond.code ⟨"AllocateSolveModel", "give", "(III)I"⟩ prog_7_method_32_code (5 : Nat) (Option.some Jvm.ClassFile.FieldType.int)) := rfl
set_option maxRecDepth 50000 in
theorem kw_795 : tables_1[795]? = some (Jvm.Cond.methodLink "AllocateSolveModel" (140 : Nat) ⟨"AllocateSolveModel", "giftAt", "(II)I"⟩) := rfl
set_option maxRecDepth 50000 in
theorem kw_797 : tables_1[797]? = some (Jvm.Cond.instanceMethod ⟨"AllocateSolveModel", "giftAt", "(II)I"⟩) := rfl
set_option maxRecDepth 50000 in
theorem kw_798 : tables_1[798]? = some (Jvm.Cond.code ⟨"AllocateSolveModel", "giftAt", "(II)I"⟩ prog_7_method_31_code (6 : Nat) (Option.some Jvm.ClassFile.FieldType.int)) := rfl
set_option maxRecDepth 50000 in
theorem kw_799 : tables_1[799]? = some (Jvm.Cond.methodLink "AllocateSolveLaw" (119 : Nat) ⟨"AllocateSolveModel", "held", "(I)I"⟩) := rfl
set_option maxRecDepth 50000 in
theorem kw_800 : tables_1[800]? = some (Jvm.Cond.instanceMethod ⟨"AllocateSolveModel", "held", "(I)I"⟩) := rfl
set_option maxRecDepth 50000 in
theorem kw_801 : tables_1[801]? = some (Jvm.Cond.selects "AllocateSolveModel" ⟨"AllocateSolveModel", "held", "(I)I"⟩ ⟨"AllocateSolveModel", "held", "(I)I"⟩) := rfl
set_option maxRecDepth 50000 in
theorem kw_802 : tables_1[802]? = some (Jvm.Cond.code ⟨"AllocateSolveModel", "held", "(I)I"⟩ prog_7_method_33_code (2 : Nat) (Option.some Jvm.ClassFile.FieldType.int)) := rfl
set_option maxRecDepth 50000 in
theorem kw_803 : tables_1[803]? = some (Jvm.Cond.methodLink "AllocateSolveModel" (143 : Nat) ⟨"AllocateSolveModel", "heldOf", "(I)I"⟩) := rfl
set_option maxRecDepth 50000 in
theorem kw_805 : tables_1[805]? = some (Jvm.Cond.instanceMethod ⟨"AllocateSolveModel", "heldOf", "(I)I"⟩) := rfl
set_option maxRecDepth 50000 in
theorem kw_806 : tables_1[806]? = some (Jvm.Cond.code ⟨"AllocateSolveModel", "heldOf", "(I)I"⟩ prog_7_method_30_code (4 : Nat) (Option.some Jvm.ClassFile.FieldType.int)) := rfl
set_option maxRecDepth 50000 in
theorem kw_807 : tables_1[807]? = some (Jvm.Cond.methodLink "AllocateSolveLaw" (122 : Nat) ⟨"AllocateSolveModel", "left", "(I)I"⟩) := rfl
set_option maxRecDepth 50000 in
theorem kw_808 : tables_1[808]? = some (Jvm.Cond.instanceMethod ⟨"AllocateSolveModel", "left", "(I)I"⟩) := rfl
set_option maxRecDepth 50000 in
theorem kw_809 : tables_1[809]? = some (Jvm.Cond.selects "AllocateSolveModel" ⟨"AllocateSolveModel", "left", "(I)I"⟩ ⟨"AllocateSolveModel", "left", "(I)I"⟩) := rfl
set_option maxRecDepth 50000 in
theorem kw_810 : tables_1[810]? = some (Jvm.Cond.code ⟨"AllocateSolveModel", "left", "(I)I"⟩ prog_7_method_34_code (2 : Nat) (Option.some Jvm.ClassFile.FieldType.int)) := rfl
set_option maxRecDepth 50000 in
theorem kw_811 : tables_1[811]? = some (Jvm.Cond.methodLink "AllocateSolveLaw" (125 : Nat) ⟨"AllocateSolveModel", "bar", "(I)I"⟩) := rfl
set_option maxRecDepth 50000 in
theorem kw_812 : tables_1[812]? = some (Jvm.Cond.instanceMethod ⟨"AllocateSolveModel", "bar", "(I)I"⟩) := rfl
set_option maxRecDepth 50000 in
theorem kw_813 : tables_1[813]? = some (Jvm.Cond.selects "AllocateSolveModel" ⟨"AllocateSolveModel", "bar", "(I)I"⟩ ⟨"AllocateSolveModel", "bar", "(I)I"⟩) := rfl
set_option maxRecDepth 50000 in
theorem kw_814 : tables_1[814]? = some (Jvm.Cond.code ⟨"AllocateSolveModel", "bar", "(I)I"⟩ prog_7_method_35_code (5 : Nat) (Option.some Jvm.ClassFile.FieldType.int)) := rfl
set_option maxRecDepth 50000 in
theorem kw_815 : tables_1[815]? = some (Jvm.Cond.methodLink "AllocateSolveLaw" (128 : Nat) ⟨"AllocateSolveModel", "change", "(II)I"⟩) := rfl
set_option maxRecDepth 50000 in
theorem kw_816 : tables_1[816]? = some (Jvm.Cond.instanceMethod ⟨"AllocateSolveModel", "change", "(II)I"⟩) := rfl
set_option maxRecDepth 50000 in
theorem kw_817 : tables_1[817]? = some (Jvm.Cond.selects "AllocateSolveModel" ⟨"AllocateSolveModel", "change", "(II)I"⟩ ⟨"AllocateSolveModel", "change", "(II)I"⟩) := rfl
set_option maxRecDepth 50000 in
theorem kw_818 : tables_1[818]? = some (Jvm.Cond.code ⟨"AllocateSolveModel", "change", "(II)I"⟩ prog_7_method_36_code (8 : Nat) (Option.some Jvm.ClassFile.FieldType.int)) := rfl
set_option maxRecDepth 50000 in
theorem kw_819 : tables_1[819]? = some (Jvm.Cond.methodLink "AllocateSolveLaw" (131 : Nat) ⟨"AllocateSolveModel", "undo", "(I)I"⟩) := rfl
set_option maxRecDepth 50000 in
theorem kw_820 : tables_1[820]? = some (Jvm.Cond.instanceMethod ⟨"AllocateSolveModel", "undo", "(I)I"⟩) := rfl
set_option maxRecDepth 50000 in
theorem kw_821 : tables_1[821]? = some (Jvm.Cond.selects "AllocateSolveModel" ⟨"AllocateSolveModel", "undo", "(I)I"⟩ ⟨"AllocateSolveModel", "undo", "(I)I"⟩) := rfl
set_option maxRecDepth 50000 in
theorem kw_822 : tables_1[822]? = some (Jvm.Cond.code ⟨"AllocateSolveModel", "undo", "(I)I"⟩ prog_7_method_37_code (4 : Nat) (Option.some Jvm.ClassFile.FieldType.int)) := rfl
set_option maxRecDepth 50000 in
theorem kw_823 : tables_1[823]? = some (Jvm.Cond.methodLink "AllocateSolveModel" (146 : Nat) ⟨"AllocateSolveModel", "heldBy", "(I)I"⟩) := rfl
set_option maxRecDepth 50000 in
theorem kw_825 : tables_1[825]? = some (Jvm.Cond.instanceMethod ⟨"AllocateSolveModel", "heldBy", "(I)I"⟩) := rfl
set_option maxRecDepth 50000 in
theorem kw_826 : tables_1[826]? = some (Jvm.Cond.code ⟨"AllocateSolveModel", "heldBy", "(I)I"⟩ prog_7_method_29_code (4 : Nat) (Option.some Jvm.ClassFile.FieldType.int)) := rfl
set_option maxRecDepth 50000 in
theorem kw_827 : tables_1[827]? = some (Jvm.Cond.methodLink "AllocateSolveLaw" (134 : Nat) ⟨"AllocateSolveModel", "refused", "(I)I"⟩) := rfl
set_option maxRecDepth 50000 in
theorem kw_828 : tables_1[828]? = some (Jvm.Cond.instanceMethod ⟨"AllocateSolveModel", "refused", "(I)I"⟩) := rfl
set_option maxRecDepth 50000 in
theorem kw_829 : tables_1[829]? = some (Jvm.Cond.selects "AllocateSolveModel" ⟨"AllocateSolveModel", "refused", "(I)I"⟩ ⟨"AllocateSolveModel", "refused", "(I)I"⟩) := rfl
set_option maxRecDepth 50000 in
theorem kw_830 : tables_1[830]? = some (Jvm.Cond.code ⟨"AllocateSolveModel", "refused", "(I)I"⟩ prog_7_method_38_code (2 : Nat) (Option.some Jvm.ClassFile.FieldType.int)) := rfl
set_option maxRecDepth 50000 in
theorem kw_831 : tables_1[831]? = some (Jvm.Cond.methodLink "AllocateSolveLaw" (137 : Nat) ⟨"AllocateSolveModel", "average", "(I)I"⟩) := rfl
set_option maxRecDepth 50000 in
theorem kw_832 : tables_1[832]? = some (Jvm.Cond.instanceMethod ⟨"AllocateSolveModel", "average", "(I)I"⟩) := rfl
set_option maxRecDepth 50000 in
theorem kw_833 : tables_1[833]? = some (Jvm.Cond.selects "AllocateSolveModel" ⟨"AllocateSolveModel", "average", "(I)I"⟩ ⟨"AllocateSolveModel", "average", "(I)I"⟩) := rfl
set_option maxRecDepth 50000 in
theorem kw_834 : tables_1[834]? = some (Jvm.Cond.code ⟨"AllocateSolveModel", "average", "(I)I"⟩ prog_7_method_39_code (4 : Nat) (Option.some Jvm.ClassFile.FieldType.int)) := rfl
set_option maxRecDepth 50000 in
theorem kw_835 : tables_1[835]? = some (Jvm.Cond.methodLink "AllocateSolveLaw" (141 : Nat) ⟨"AllocateSolveModel", "count", "(I)I"⟩) := rfl
set_option maxRecDepth 50000 in
theorem kw_836 : tables_1[836]? = some (Jvm.Cond.instanceMethod ⟨"AllocateSolveModel", "count", "(I)I"⟩) := rfl
set_option maxRecDepth 50000 in
theorem kw_837 : tables_1[837]? = some (Jvm.Cond.selects "AllocateSolveModel" ⟨"AllocateSolveModel", "count", "(I)I"⟩ ⟨"AllocateSolveModel", "count", "(I)I"⟩) := rfl
set_option maxRecDepth 50000 in
theorem kw_838 : tables_1[838]? = some (Jvm.Cond.code ⟨"AllocateSolveModel", "count", "(I)I"⟩ prog_7_method_40_code (8 : Nat) (Option.some Jvm.ClassFile.FieldType.int)) := rfl
set_option maxRecDepth 50000 in
theorem kw_839 : tables_1[839]? = some (Jvm.Cond.arrayClass Jvm.ClassFile.FieldType.long) := rfl
end
section
/-! THE JUDGEMENT am_W: a walk of one method over a picture of the heap. Cells are numbered: 0 .. 3 are cells that were there at the law's start (the script, three static tables), from 4 on those that the law's run makes, in their order. -/
abbrev am_C : Type := (Nat × (Nat → Int32)) ⊕ (Nat × (Nat → Int64)) ⊕ (Nat × (Nat → Option Nat)) ⊕ (Nat × List Value) ⊕ (Nat × (Nat → Int32))
abbrev am_ia (n : Nat) (f : Nat → Int32) : am_C := .inl (n, f)
abbrev am_la (n : Nat) (f : Nat → Int64) : am_C := .inr (.inl (n, f))
abbrev am_ra (n : Nat) (f : Nat → Option Nat) : am_C := .inr (.inr (.inl (n, f)))
abbrev am_ob (ci : Nat) (fs : List Value) : am_C := .inr (.inr (.inr (.inl (ci, fs))))
abbrev am_za (n : Nat) (f : Nat → Int32) : am_C := .inr (.inr (.inr (.inr (n, f))))
abbrev am_H : Type := List am_C
/-- how a method ends: it returned a value, or it threw an object of a kind (the kind, its number) -/
abbrev am_O : Type := (Option Value) ⊕ (Nat × Nat)
/-- launch, the heap's size at the law's start, the heap there, numbers of the classes, their slots, the addresses of the old cells -/
abbrev am_G : Type := Launch × Nat × Heap × (Nat → ClassId) × (Nat → Nat → Nat) × (Nat → Nat)
abbrev am_l (G : am_G) : Launch := G.1
abbrev am_b (G : am_G) : Nat := G.2.1
abbrev am_B (G : am_G) : Heap := G.2.2.1
abbrev am_cC (G : am_G) : Nat → ClassId := G.2.2.2.1
abbrev am_iS (G : am_G) : Nat → Nat → Nat := G.2.2.2.2.1
abbrev am_od (G : am_G) : Nat → Nat := G.2.2.2.2.2
def am_ad (G : am_G) (k : Nat) : Nat := if k < 4 then am_od G k else am_b G + (k - 4)
def am_cv (G : am_G) : Value → Value
  | .ref k => .ref (am_ad G k)
  | v => v
theorem am_cv_cat (G : am_G) (v : Value) : (am_cv G v).category = v.category := by cases v <;> rfl
theorem am_cv_sum (G : am_G) (st : List Value) : ((st.map (am_cv G)).map fun v => v.category).sum = (st.map fun v => v.category).sum := by
  induction st with
  | nil => rfl
  | cons a t ih => simp only [List.map_cons, List.sum_cons, ih, am_cv_cat]
/-- an array of a type in the heap at a, by its contents -/
def am_ar (s : State) (ty : FieldType) (n : Nat) (f : Nat → Value) (a : Nat) (H : Heap) : Prop :=
  ∃ cell : Cell, H[a]? = some cell ∧ s.isArrayOf cell ty ∧ cell.vm ≠ .unknown ∧ cell.slots.size = n ∧ ∀ j : Nat, j < n → cell.slots[j]? = some (f j)
/-- a cell of the picture, in the heap at a -/
def am_ok (cl : List vw_C) (G : am_G) (s : State) (c : am_C) (a : Nat) (H : Heap) : Prop := match c with
  | .inl q => am_ar s .int q.1 (fun j => .int (q.2 j)) a H
  | .inr (.inl q) => am_ar s .long q.1 (fun j => .long (q.2 j)) a H
  | .inr (.inr (.inl q)) => am_ar s (.array .int) q.1 (fun j => va_rf ((q.2 j).map (am_ad G))) a H
  | .inr (.inr (.inr (.inl q))) => ∃ r : vw_C, cl[q.1]? = some r ∧ t_OB a (am_cC G q.1) r.2.2 (am_iS G q.1) H (vp_V (q.2.map (am_cv G)))
  | .inr (.inr (.inr (.inr q))) => am_ar s .boolean q.1 (fun j => .int (q.2 j)) a H
theorem am_ar.kept {s : State} {ty : FieldType} {n : Nat} {f : Nat → Value} {a : Nat} {H H1 : Heap} (h : am_ar s ty n f a H) (hq : H1[a]? = H[a]?) : am_ar s ty n f a H1 := by
  obtain ⟨cell, h1, h2⟩ := h
  exact ⟨cell, hq.trans h1, h2⟩
theorem am_ar.moved {s U : State} {ty : FieldType} {n : Nat} {f : Nat → Value} {a : Nat} {H : Heap} (hvm : s.vm.Alike U.vm) (h : am_ar s ty n f a H) : am_ar U ty n f a H := by
  obtain ⟨cell, h1, h2, h3⟩ := h
  exact ⟨cell, h1, State.isArrayOf_alike hvm h2, h3⟩
theorem am_ar.lt {s : State} {ty : FieldType} {n : Nat} {f : Nat → Value} {a : Nat} {H : Heap} (h : am_ar s ty n f a H) : a < H.size := by
  obtain ⟨cell, h1, h2⟩ := h
  exact (Array.getElem?_eq_some_iff.mp h1).1
theorem am_ar.set {s : State} {ty : FieldType} {n k : Nat} {f f' : Nat → Value} {a : Nat} {H1 : Heap} {cell : Cell} {v : Value} (ht : s.isArrayOf cell ty) (hv : cell.vm ≠ .unknown) (hn : cell.slots.size = n) (hf : ∀ j : Nat, j < n → cell.slots[j]? = some (f j)) (hk : k < n) (h1 : H1[a]? = some (cell.setSlot k v)) (he : f' k = v) (hne : ∀ j : Nat, j ≠ k → f' j = f j) : am_ar s ty n f' a H1 := by
  refine ⟨cell.setSlot k v, h1, ht, hv, by rw [k2_slotsz]; exact hn, fun j hj => ?_⟩
  by_cases e : j = k
  · subst e
    rw [Cell.slots_setSlot_self _ (by rw [hn]; exact hj), he]
  · rw [slot_ne _ _ (Ne.symm e), hf j hj, hne j e]
theorem am_ok.kept {cl : List vw_C} {G : am_G} {s : State} {c : am_C} {a : Nat} {H H1 : Heap} (h : am_ok cl G s c a H) (hq : H1[a]? = H[a]?) : am_ok cl G s c a H1 := by
  match c, h with
  | .inl q, h => exact am_ar.kept h hq
  | .inr (.inl q), h => exact am_ar.kept h hq
  | .inr (.inr (.inl q)), h => exact am_ar.kept h hq
  | .inr (.inr (.inr (.inl q))), ⟨r, h1, h2⟩ => exact ⟨r, h1, h2.kept hq⟩
  | .inr (.inr (.inr (.inr q))), h => exact am_ar.kept h hq
theorem am_ok.moved {cl : List vw_C} {G : am_G} {s U : State} {c : am_C} {a : Nat} {H : Heap} (hvm : s.vm.Alike U.vm) (h : am_ok cl G s c a H) : am_ok cl G U c a H := by
  match c, h with
  | .inl q, h => exact am_ar.moved hvm h
  | .inr (.inl q), h => exact am_ar.moved hvm h
  | .inr (.inr (.inl q)), h => exact am_ar.moved hvm h
  | .inr (.inr (.inr (.inl q))), ⟨r, h1, h2⟩ => exact ⟨r, h1, h2⟩
  | .inr (.inr (.inr (.inr q))), h => exact am_ar.moved hvm h
theorem am_ok.lt {cl : List vw_C} {G : am_G} {s : State} {c : am_C} {a : Nat} {H : Heap} (h : am_ok cl G s c a H) : a < H.size := by
  match c, h with
  | .inl q, h => exact am_ar.lt h
  | .inr (.inl q), h => exact am_ar.lt h
  | .inr (.inr (.inl q)), h => exact am_ar.lt h
  | .inr (.inr (.inr (.inl q))), ⟨r, h1, h2⟩ =>
    obtain ⟨cl2, h3, -⟩ := h2
    exact (Array.getElem?_eq_some_iff.mp h3).1
  | .inr (.inr (.inr (.inr q))), h => exact am_ar.lt h
/-- the picture h with n numbers given out, in the heap H -/
def am_R (cl : List vw_C) (G : am_G) (s : State) (h : am_H) (n : Nat) (H : Heap) : Prop :=
  4 ≤ n ∧ H.size = am_b G + (n - 4) ∧ (∀ k : Nat, k < 4 → am_od G k < am_b G) ∧ (∀ q : Nat, q < am_b G → H[q]? = (am_B G)[q]?) ∧ ∀ (k : Nat) (c : am_C), h[k]? = some c → k < n ∧ am_ok cl G s c (am_ad G k) H
theorem am_R.moved {cl : List vw_C} {G : am_G} {s U : State} {h : am_H} {n : Nat} {H : Heap} (hvm : s.vm.Alike U.vm) (r : am_R cl G s h n H) : am_R cl G U h n H :=
  ⟨r.1, r.2.1, r.2.2.1, r.2.2.2.1, fun k c hk => ⟨(r.2.2.2.2 k c hk).1, (r.2.2.2.2 k c hk).2.moved hvm⟩⟩
theorem am_ad_ne {G : am_G} {k j : Nat} (ho : ∀ k : Nat, k < 4 → am_od G k < am_b G) (hk : 4 ≤ k) (hj : j ≠ k) : am_ad G j ≠ am_ad G k := by
  unfold am_ad
  rw [if_neg (Nat.not_lt.mpr hk)]
  split
  · rename_i h
    have := ho j h
    omega
  · omega
theorem am_ad_new {G : am_G} {k : Nat} (hk : 4 ≤ k) : am_ad G k = am_b G + (k - 4) := by
  unfold am_ad
  rw [if_neg (Nat.not_lt.mpr hk)]
theorem am_ad_ge {G : am_G} {k : Nat} (hk : 4 ≤ k) : am_b G ≤ am_ad G k := by
  rw [am_ad_new hk]
  omega
/-- a cell is written -/
theorem am_R.put {cl : List vw_C} {G : am_G} {s : State} {h : am_H} {n k : Nat} {c : am_C} {H H1 : Heap} (r : am_R cl G s h n H) (hk : 4 ≤ k) (hn : k < n) (hz : H1.size = H.size) (hq : ∀ q : Nat, q ≠ am_ad G k → H1[q]? = H[q]?) (hc : am_ok cl G s c (am_ad G k) H1) : am_R cl G s (h.set k c) n H1 := by
  obtain ⟨r1, r2, r3, r4, r5⟩ := r
  refine ⟨r1, by rw [hz]; exact r2, r3, fun q hlt => ?_, fun j c' hj => ?_⟩
  · rw [hq q (by have := am_ad_ge (G := G) hk; omega)]
    exact r4 q hlt
  · rw [List.getElem?_set] at hj
    split at hj
    · rename_i e
      subst e
      split at hj
      · cases hj
        exact ⟨hn, hc⟩
      · cases hj
    · rename_i e
      obtain ⟨g1, g2⟩ := r5 j c' hj
      exact ⟨g1, g2.kept (hq _ (am_ad_ne r3 hk (Ne.symm e)))⟩
/-- a cell is made -/
theorem am_R.new {cl : List vw_C} {G : am_G} {s : State} {h : am_H} {n : Nat} {c : am_C} {H H1 : Heap} (r : am_R cl G s h n H) (hl : h.length = n) (hz : H1.size = H.size + 1) (hq : ∀ q : Nat, q < H.size → H1[q]? = H[q]?) (hc : am_ok cl G s c (am_ad G n) H1) : am_R cl G s (h ++ [c]) (n + 1) H1 := by
  obtain ⟨r1, r2, r3, r4, r5⟩ := r
  refine ⟨by omega, by omega, r3, fun q hlt => ?_, fun j c' hj => ?_⟩
  · rw [hq q (by omega)]
    exact r4 q hlt
  · rw [List.getElem?_append] at hj
    split at hj
    · obtain ⟨g1, g2⟩ := r5 j c' hj
      exact ⟨by omega, g2.kept (hq _ g2.lt)⟩
    · rename_i e
      have hj0 : j = n := by
        have := (List.getElem?_eq_some_iff.mp hj).1
        simp at this
        omega
      subst hj0
      rw [hl, Nat.sub_self] at hj
      cases hj
      exact ⟨by omega, hc⟩
/-- a cell is made that the picture leaves out -/
theorem am_R.junk {cl : List vw_C} {G : am_G} {s : State} {h : am_H} {n : Nat} {H H1 : Heap} (r : am_R cl G s h n H) (hz : H1.size = H.size + 1) (hq : ∀ q : Nat, q < H.size → H1[q]? = H[q]?) : am_R cl G s h (n + 1) H1 := by
  obtain ⟨r1, r2, r3, r4, r5⟩ := r
  refine ⟨by omega, by omega, r3, fun q hlt => ?_, fun j c' hj => ?_⟩
  · rw [hq q (by omega)]
    exact r4 q hlt
  · obtain ⟨g1, g2⟩ := r5 j c' hj
    exact ⟨by omega, g2.kept (hq _ g2.lt)⟩
/-- the locals -/
def am_L (G : am_G) (lc : Array Slot) (ls : List (Option Value)) : Prop := lc.size = ls.length ∧ lv_wf lc ∧ ∀ (i : Nat) (v : Value), ls[i]? = some (some v) → lc[i]? = some (.val (am_cv G v))
def am_pr (G : am_G) (ls : List (Option Value)) : List (Nat × Value) := (List.range ls.length).filterMap fun i => match ls[i]? with
  | some (some v) => some (i, am_cv G v)
  | _ => none
theorem am_pr_mem {G : am_G} {ls : List (Option Value)} {q : Nat × Value} : q ∈ am_pr G ls ↔ ∃ v, ls[q.1]? = some (some v) ∧ q.2 = am_cv G v := by
  unfold am_pr
  rw [List.mem_filterMap]
  constructor
  · rintro ⟨i, -, h⟩
    split at h
    · rename_i v hv
      cases h
      exact ⟨v, hv, rfl⟩
    · cases h
  · rintro ⟨v, hv, e⟩
    refine ⟨q.1, List.mem_range.mpr (List.getElem?_eq_some_iff.mp hv).1, ?_⟩
    rw [hv]
    simp only [← e]
theorem am_L.has {G : am_G} {lc : Array Slot} {ls : List (Option Value)} (h : am_L G lc ls) : lv_has lc ls.length (am_pr G ls) := by
  refine ⟨h.1, h.2.1, fun q hq => ?_⟩
  obtain ⟨v, h1, h2⟩ := am_pr_mem.mp hq
  rw [h2]
  exact h.2.2 q.1 v h1
/-- no long ends at place i -/
def am_nc (ls : List (Option Value)) : Nat → Bool
  | 0 => true
  | j + 1 => match ls[j]? with
    | some (some (.long _)) => false
    | some (some (.double _)) => false
    | _ => true
theorem am_nc_spec {ls : List (Option Value)} {i j : Nat} {v : Value} (h : am_nc ls i = true) (hj : j + 1 = i) (hv : ls[j]? = some (some v)) : v.category = 1 := by
  subst hj
  simp only [am_nc, hv] at h
  cases v <;> first | rfl | cases h
theorem am_L.put {G : am_G} {lc lc' : Array Slot} {ls : List (Option Value)} {i : Nat} {v : Value} (h : am_L G lc ls) (hi : i < ls.length) (hn : am_nc ls i = true)
    (h' : lv_has lc' ls.length ((i, am_cv G v) :: (am_pr G ls).filter (fun q => !(q.1 == i) && !(q.1 + 1 == i && q.2.category == 2)))) : am_L G lc' (ls.set i (some v)) := by
  obtain ⟨a1, a2, a3⟩ := h'
  refine ⟨by rw [a1, List.length_set], a2, fun j w hj => ?_⟩
  rw [List.getElem?_set] at hj
  split at hj
  · rename_i e
    subst e
    first
      | (rw [if_pos hi] at hj; cases hj; exact a3 (i, am_cv G v) List.mem_cons_self)
      | (cases hj; exact a3 (i, am_cv G v) List.mem_cons_self)
  · rename_i e
    refine a3 (j, am_cv G w) (List.mem_cons_of_mem _ (List.mem_filter.mpr ⟨am_pr_mem.mpr ⟨w, hj, rfl⟩, ?_⟩))
    have e1 : (j == i) = false := by simpa using fun q => e q.symm
    by_cases e2 : j + 1 = i
    · have c3 : (am_cv G w).category = 1 := by rw [am_cv_cat]; exact am_nc_spec hn e2 hj
      simp [e1, c3]
    · simp [e1, e2]
theorem am_L.put2 {G : am_G} {lc lc' : Array Slot} {ls : List (Option Value)} {i : Nat} {v : Value} (h : am_L G lc ls) (hi : i + 1 < ls.length) (hn : am_nc ls i = true)
    (h' : lv_has lc' ls.length ((i, am_cv G v) :: (am_pr G ls).filter (fun q => !(q.1 == i) && (!(q.1 == i + 1) && !(q.1 + 1 == i && q.2.category == 2))))) : am_L G lc' ((ls.set i (some v)).set (i + 1) none) := by
  obtain ⟨a1, a2, a3⟩ := h'
  refine ⟨by rw [a1, List.length_set, List.length_set], a2, fun j w hj => ?_⟩
  rw [List.getElem?_set] at hj
  split at hj
  · split at hj <;> cases hj
  · rename_i e0
    rw [List.getElem?_set] at hj
    split at hj
    · rename_i e
      subst e
      first
        | (rw [if_pos (by omega)] at hj; cases hj; exact a3 (i, am_cv G v) List.mem_cons_self)
        | (cases hj; exact a3 (i, am_cv G v) List.mem_cons_self)
    · rename_i e
      refine a3 (j, am_cv G w) (List.mem_cons_of_mem _ (List.mem_filter.mpr ⟨am_pr_mem.mpr ⟨w, hj, rfl⟩, ?_⟩))
      have e1 : (j == i) = false := by simpa using fun q => e q.symm
      have e3 : (j == i + 1) = false := by simpa using fun q => e0 q.symm
      by_cases e2 : j + 1 = i
      · have c3 : (am_cv G w).category = 1 := by rw [am_cv_cat]; exact am_nc_spec hn e2 hj
        simp [e1, e3, c3]
      · simp [e1, e3, e2]
theorem am_L.entry (G : am_G) (As : List Value) (nL : Nat) (hA : ∀ v ∈ As, v.category = 1) (hn : As.length ≤ nL) :
    am_L G ((lg_sl (As.map (am_cv G)) ++ List.replicate (nL - (lg_sl (As.map (am_cv G))).length) Slot.unset).toArray) (As.map some ++ List.replicate (nL - As.length) none) := by
  have hsl : ∀ l : List Value, (∀ v ∈ l, v.category = 1) → lg_sl (l.map (am_cv G)) = (l.map (am_cv G)).map Slot.val := by
    intro l
    induction l with
    | nil => intro _; rfl
    | cons a t ih =>
      intro hl
      have h1 : (am_cv G a).category = 1 := by rw [am_cv_cat]; exact hl a List.mem_cons_self
      have h2 := ih (fun v hv => hl v (List.mem_cons_of_mem _ hv))
      unfold lg_sl at h2 ⊢
      simp only [List.map_cons, List.flatMap_cons, h2, h1]
      rfl
  have hE := lv_entry (As.map (am_cv G)) (n := nL) (by rw [hsl As hA]; simpa using hn)
  refine ⟨?_, hE.2.1, fun i v hv => ?_⟩
  · rw [hE.1]
    simp
    omega
  · rw [hsl As hA]
    rw [List.getElem?_append] at hv
    split at hv
    · rename_i hi
      simp only [List.length_map] at hi
      rw [List.getElem?_map] at hv
      cases hAi : As[i]? with
      | none => rw [hAi] at hv; cases hv
      | some w =>
        rw [hAi] at hv
        cases hv
        rw [List.getElem?_toArray, List.getElem?_append_left (by simpa using hi)]
        simp [hAi]
    · rw [List.getElem?_replicate] at hv
      split at hv <;> cases hv
end
section
/-! WHAT IS KNOWN AT EVERY STATE OF THE RUN: the tables' words, the classes' numbers and slots, the static fields, the exceptions' classes -/
/-- a static field, in the heap at the law's start -/
def am_sf (G : am_G) (U : State) (C n d : String) (v : Value) : Prop := ∃ (c : ClassId) (k : Class) (i : Nat) (f : Field) (a : Nat) (cell : Cell), U.vm.findClass C = some c ∧ U.fieldFound? C n d = some (c, k, i, f) ∧ f.isStatic = true ∧ k.init = .initialized ∧ k.statics = some a ∧ (am_B G)[a]? = some cell ∧ cell.vm.isStatics = true ∧ cell.cls = c ∧ f.slot < cell.slots.size ∧ k.staticTypes[f.slot]? = some f.type ∧ cell.slots[f.slot]? = some v ∧ a < am_b G
theorem am_sf.moved {G : am_G} {u U : State} {C n d : String} {v : Value} (hvm : u.vm.Alike U.vm) (h : am_sf G u C n d v) : am_sf G U C n d v := by
  obtain ⟨c, k, i, f, a, cell, h1, h2, h3, h4, h5, h6, h7, h8, h9, h10, h11, h12⟩ := h
  obtain ⟨k', hi', he⟩ := State.fieldFound?_setVm hvm h2
  exact ⟨c, k', i, f, a, cell, by rw [hvm.findClass]; exact h1, hi', h3, by rw [he]; exact h4, by rw [he]; exact h5, h6, h7, h8, h9, by rw [he]; exact h10, h11, h12⟩
theorem am_sf.lays {G : am_G} {U : State} {C n d : String} {v : Value} (h : am_sf G U C n d v) (hH : ∀ q : Nat, q < am_b G → U.heap[q]? = (am_B G)[q]?) (args : Array Value) : (Cond.laysStatic C n d).before args U = true := by
  obtain ⟨c, k, i, f, a, cell, h1, h2, h3, h4, h5, h6, h7, h8, h9, h10, h11, h12⟩ := h
  exact Cond.laysStatic_of h1 h2 h3 h5 (by rw [hH a h12]; exact h6) h7 h8 h9 h10
theorem am_sf.isRef {G : am_G} {U : State} {C n d : String} {v : Value} (h : am_sf G U C n d v) (hv : v.isRef = true) (hH : ∀ q : Nat, q < am_b G → U.heap[q]? = (am_B G)[q]?) (args : Array Value) : (Cond.isRef (.static C n d)).before args U = true := by
  obtain ⟨c, k, i, f, a, cell, h1, h2, h3, h4, h5, h6, h7, h8, h9, h10, h11, h12⟩ := h
  have h6' : U.heap[a]? = some cell := by rw [hH a h12]; exact h6
  have e : (Term.static C n d).eval args U none [] U = some v := by
    simp [Term.eval, State.fieldNamed?, h2, h3, h5, h6', h7, h11]
  simp only [Cond.before, Cond.holds, Cond.value, e]
  cases v <;> simp_all [Value.isRef]
theorem am_sf.of {G : am_G} {s : State} {args : Array Value} {C n d : String} {v : Value} (hB : am_B G = s.heap) (hb : am_b G = s.heap.size) (hl : (Cond.laysStatic C n d).before args s = true) (hini : (Cond.initialized C).before args s = true) (hv : (Term.static C n d).eval args s none [] s = some v) : am_sf G s C n d v := by
  obtain ⟨c, k, i, f, a, cell, hc, hi, hst, ha, hcell, hs, hcls, hlt, hty⟩ := Cond.laysStatic_spec hl
  obtain ⟨hst', a', cell', ha', hcell', -, hslot⟩ := Term.static_spec hi hv
  cases ha.symm.trans ha'
  cases hcell.symm.trans hcell'
  exact ⟨c, k, i, f, a, cell, hc, hi, hst, Cond.initialized_spec hc (State.fieldFound?_spec hi).1 hini, ha, by rw [hB]; exact hcell, hs, hcls, hlt, hty, hslot, by rw [hb]; exact (Array.getElem?_eq_some_iff.mp hcell).1⟩
/-- the exceptions' classes by their kinds -/
def am_xn (k : Nat) : String := match k with
  | 0 => "java/lang/IllegalArgumentException"
  | 1 => "java/lang/UnsupportedOperationException"
  | 2 => "java/util/NoSuchElementException"
  | 3 => "java/lang/IllegalStateException"
  | _ => "java/lang/ArithmeticException"
/-- strings that are thrown: class, entry, text -/
def am_sr : List (String × Nat × String) := [("AllocateSolve", 181, "a number outside its range"), ("AllocateSolve", 51, "no room for a lot"), ("AllocateSolve", 63, "no room for a line"), ("AllocateSolve", 177, "no such line"), ("AllocateSolve", 175, "no such lot"), ("AllocateSolve", 126, "no such gift"), ("AllocateSolve", 152, "the line holds nothing"), ("AllocateSolve", 163, "/ by zero")]
/-- private constructors of nest mates -/
def am_ml : List (String × Nat × MethodName × String) := [("AllocateSolve", 9, ky_F_init, "AllocateSolve"), ("AllocateSolve$Floor", 11, ky_T_init, "AllocateSolve"), ("AllocateSolve$Floor", 20, ky_N_init, "AllocateSolve")]
abbrev tN_ : String := "java/lang/Throwable"
abbrev am_steD : String := "[Ljava/lang/StackTraceElement;"
abbrev am_lstD : String := "Ljava/util/List;"
/-- constructors that the exceptions' constructors go on to -/
def am_dw : List MethodName := [⟨"java/lang/RuntimeException", "<init>", "(Ljava/lang/String;)V"⟩, ⟨"java/lang/Exception", "<init>", "(Ljava/lang/String;)V"⟩, ⟨"java/lang/Throwable", "<init>", "(Ljava/lang/String;)V"⟩]
def am_kn (G : am_G) (U : State) : Prop :=
  (∀ w ∈ lw_tbl, goodWord w = true → w.before #[] U = true) ∧
  (∀ (ci : Nat) (q : vw_C), am_cl[ci]? = some q → u_Kn U q.1 q.2.1 q.2.2 (am_cC G ci) (am_iS G ci)) ∧
  (am_sf G U "AllocateSolve" "RULE_LEAST" "[I" (.ref (am_od G 1)) ∧ am_sf G U "AllocateSolve" "RULE_MOST" "[I" (.ref (am_od G 2)) ∧ am_sf G U "AllocateSolve" "RULE_FIRST" "[I" (.ref (am_od G 3))) ∧
  (∃ v : Value, v.isRef = true ∧ am_sf G U tN_ "UNASSIGNED_STACK" am_steD v) ∧ (∃ v : Value, v.isRef = true ∧ am_sf G U tN_ "SUPPRESSED_SENTINEL" am_lstD v) ∧
  (∀ q ∈ am_sr, ∃ a : Nat, vk_R q.1 q.2.1 q.2.2 a U) ∧
  (∀ q ∈ am_ml, va_Nw (.methodLinkNest q.1 q.2.1 q.2.2.1 q.2.2.2) U) ∧
  va_Nw (.fieldLinkNest "AllocateSolve$Lines" 36 "AllocateSolve" "RULE_FIRST" "[I" "AllocateSolve") U ∧
  (Cond.arrayOver (.array .int)).before #[] U = true ∧
  (∀ x ∈ am_dw, va_Nw (.declares x) U) ∧
  (∀ i j : Nat, i < 5 → j < 5 → ∃ c1 c2 : ClassId, U.vm.findClass (am_xn i) = some c1 ∧ U.vm.findClass (am_xn j) = some c2 ∧ U.vm.assignable c1 c2 = decide (i = j))
theorem am_kn.moved {G : am_G} {s U : State} (hW : s.WarmedH U.vm) (h : am_kn G s) : am_kn G U := by
  obtain ⟨h1, h2, ⟨h3, h4, h5⟩, ⟨v6, g6, h6⟩, ⟨v7, g7, h7⟩, h8, h9, h10, h11, h13, h12⟩ := h
  have hvm := hW.alike
  refine ⟨fun w hw hg => word_at hW (good_of_word hg) (h1 w hw hg), fun ci q hq => u_Kn_moved hvm (h2 ci q hq), ⟨h3.moved hvm, h4.moved hvm, h5.moved hvm⟩, ⟨v6, g6, h6.moved hvm⟩, ⟨v7, g7, h7.moved hvm⟩, fun q hq => ?_, fun q hq => va_Nw.warmM hW (h9 q hq), va_Nw.warmF hW h10, over_moved hvm h11, fun x hx => va_Nw.warmD hW (h13 x hx), fun i j hi hj => ?_⟩
  · obtain ⟨a, ha⟩ := h8 q hq
    exact ⟨a, ha.warm hW⟩
  · obtain ⟨c1, c2, g1, g2, g3⟩ := h12 i j hi hj
    exact ⟨c1, c2, by rw [hvm.findClass]; exact g1, by rw [hvm.findClass]; exact g2, by rw [hvm.assignable]; exact g3⟩
theorem am_kn.word {G : am_G} {U : State} (h : am_kn G U) {i : Nat} {w : Cond} (hw : tables_1[i]? = some w) (hg : goodWord w = true) (args : Array Value) : w.before args U = true := by
  have h1 := h.1 w (kw_in hw) hg
  rcases good_of_word hg with hc | ⟨ty, rfl⟩
  · simp only [Bool.and_eq_true] at hc
    exact va_any hc.1 h1
  · exact h1
theorem am_kn.sel {G : am_G} {U : State} (h : am_kn G U) {w : Cond} (hw : w ∈ lw_tbl) (hg : goodWord w = true) (args : Array Value) : w.before args U = true := by
  have h1 := h.1 w hw hg
  rcases good_of_word hg with hc | ⟨ty, rfl⟩
  · simp only [Bool.and_eq_true] at hc
    exact va_any hc.1 h1
  · exact h1
end
section
/-! THE JUDGEMENT -/
/-- a method: its name, bytes, locals, result, handlers, the cells and slots that it may make -/
abbrev am_Y : Type := MethodName × ByteArray × Nat × Option FieldType × List (Nat × Nat × Nat × Nat) × Nat × Nat
abbrev am_nm (y : am_Y) : MethodName := y.1
abbrev am_bc (y : am_Y) : ByteArray := y.2.1
abbrev am_mx (y : am_Y) : Nat := y.2.2.1
abbrev am_rt (y : am_Y) : Option FieldType := y.2.2.2.1
abbrev am_hd (y : am_Y) : List (Nat × Nat × Nat × Nat) := y.2.2.2.2.1
abbrev am_mc (y : am_Y) : Nat := y.2.2.2.2.2.1
abbrev am_ms (y : am_Y) : Nat := y.2.2.2.2.2.2
/-- the method y is being run, d calls deep to go -/
def am_X (G : am_G) (d : Nat) (y : am_Y) (p : Program) (e : Env) (R : Room) (s : State) (m : MethodId) (meth : Method) (c : Code) : Prop :=
  p.tables.exec = Jvm.exec ∧ c.code = am_bc y ∧ c.maxLocals = am_mx y ∧ s.vm.findClass (am_nm y).cls = some m.cls ∧ meth.sig.returnType = am_rt y ∧ meth.locks = false ∧ meth.name = (am_nm y).name ∧
  (c.exceptionTable.toList.map fun x => (x.startPc, x.endPc, x.handlerPc, x.catchType)) = am_hd y ∧ am_kn G s ∧ (∀ q : Nat, q < am_b G → s.heap[q]? = (am_B G)[q]?) ∧ am_b G ≤ s.heap.size ∧ e.platform.stackTraces = false ∧
  d + 12 ≤ R.frames ∧ 60 * d + 400 ≤ R.locals ∧ am_mc y ≤ R.cells ∧ am_ms y ≤ R.slots
/-- an outcome, in the heap -/
def am_oc (G : am_G) (s : State) (o' : am_O) (o : Outcome) (H : Heap) : Prop := match o' with
  | .inl v => o = .returned (v.map (am_cv G))
  | .inr q => o = .threw (am_ad G q.2) ∧ q.1 < 5 ∧ ∃ cell : Cell, H[am_ad G q.2]? = some cell ∧ cell.vm.isStatics = false ∧ s.vm.findClass (am_xn q.1) = some cell.cls
/-- the method's end -/
def am_E (G : am_G) (y : am_Y) (s : State) (below : List Frame) (Q : am_O → am_H → Nat → Prop) : State → Prop := fun t =>
  ∃ (o : Outcome) (o' : am_O) (h' : am_H) (n' : Nat), t.status = .running ∧ Ended t below o ∧ Q o' h' n' ∧ am_oc G s o' o t.heap ∧ am_R am_cl G s h' n' t.heap ∧ s.WarmedH t.vm ∧
    ∃ L : List Loc, s.sameButNew ({ t with vm := s.vm } : State) L (am_mc y) (am_ms y) ∧ ∀ q ∈ L, am_b G ≤ q.base
def am_W (d : Nat) (y : am_Y) (pc : Nat) (ls : List (Option Value)) (st : List Value) (h : am_H) (n cu su : Nat) (Q : am_O → am_H → Nat → Prop) : Prop :=
  ∀ (G : am_G) (p : Program) (e : Env) (R : Room) (s : State) (m : MethodId) (args : Array Value) (below : List Frame) (meth : Method) (c : Code) (lc : Array Slot) (H : Heap) (locs : List Loc),
    am_X G d y p e R s m meth c → am_L G lc ls → am_R am_cl G s h n H → (∀ q ∈ locs, am_b G ≤ q.base) →
    W p (am_l G) e R s m args below meth c H locs cu su (am_E G y s below Q) (F0 m pc lc (st.map (am_cv G)))
section AMX
variable {G : am_G} {d : Nat} {y : am_Y} {p : Program} {e : Env} {R : Room} {s : State} {m : MethodId} {meth : Method} {c : Code}
theorem am_X.exec (C : am_X G d y p e R s m meth c) : p.tables.exec = Jvm.exec := C.1
theorem am_X.bytes (C : am_X G d y p e R s m meth c) : c.code = am_bc y := C.2.1
theorem am_X.maxL (C : am_X G d y p e R s m meth c) : c.maxLocals = am_mx y := C.2.2.1
theorem am_X.own (C : am_X G d y p e R s m meth c) : s.vm.findClass (am_nm y).cls = some m.cls := C.2.2.2.1
theorem am_X.ret (C : am_X G d y p e R s m meth c) : meth.sig.returnType = am_rt y := C.2.2.2.2.1
theorem am_X.locks (C : am_X G d y p e R s m meth c) : meth.locks = false := C.2.2.2.2.2.1
theorem am_X.name (C : am_X G d y p e R s m meth c) : meth.name = (am_nm y).name := C.2.2.2.2.2.2.1
theorem am_X.hand (C : am_X G d y p e R s m meth c) : (c.exceptionTable.toList.map fun x => (x.startPc, x.endPc, x.handlerPc, x.catchType)) = am_hd y := C.2.2.2.2.2.2.2.1
theorem am_X.kn (C : am_X G d y p e R s m meth c) : am_kn G s := C.2.2.2.2.2.2.2.2.1
theorem am_X.old (C : am_X G d y p e R s m meth c) : ∀ q : Nat, q < am_b G → s.heap[q]? = (am_B G)[q]? := C.2.2.2.2.2.2.2.2.2.1
theorem am_X.size (C : am_X G d y p e R s m meth c) : am_b G ≤ s.heap.size := C.2.2.2.2.2.2.2.2.2.2.1
theorem am_X.traces (C : am_X G d y p e R s m meth c) : e.platform.stackTraces = false := C.2.2.2.2.2.2.2.2.2.2.2.1
theorem am_X.frames (C : am_X G d y p e R s m meth c) : d + 12 ≤ R.frames := C.2.2.2.2.2.2.2.2.2.2.2.2.1
theorem am_X.locals (C : am_X G d y p e R s m meth c) : 60 * d + 400 ≤ R.locals := C.2.2.2.2.2.2.2.2.2.2.2.2.2.1
theorem am_X.cells (C : am_X G d y p e R s m meth c) : am_mc y ≤ R.cells := C.2.2.2.2.2.2.2.2.2.2.2.2.2.2.1
theorem am_X.slots (C : am_X G d y p e R s m meth c) : am_ms y ≤ R.slots := C.2.2.2.2.2.2.2.2.2.2.2.2.2.2.2
theorem am_X.word (C : am_X G d y p e R s m meth c) {i : Nat} {w : Cond} (hw : tables_1[i]? = some w) (args : Array Value) (hg : goodWord w = true := by rfl) : w.before args s = true := C.kn.word hw hg args
end AMX
theorem am_wmono {p : Program} {l : Launch} {e : Env} {R : Room} {s : State} {m : MethodId} {args : Array Value} {below : List Frame} {meth : Method} {c : Code} {H : Heap} {locs : List Loc} {cells slots : Nat} {Q Q' : State → Prop} {g : JFrame} (hq : ∀ t, Q t → Q' t) (h : W p l e R s m args below meth c H locs cells slots Q g) : W p l e R s m args below meth c H locs cells slots Q' g := by
  intro T hT X
  obtain ⟨t, a, b⟩ := h T hT X
  exact ⟨t, a, hq t b⟩
section AMR
variable {d : Nat} {y : am_Y} {pc : Nat} {ls : List (Option Value)} {st : List Value} {h : am_H} {n cu su : Nat} {Q Q' : am_O → am_H → Nat → Prop}
theorem am_W.imp (w : am_W d y pc ls st h n cu su Q) (hq : ∀ o h' n', Q o h' n' → Q' o h' n') : am_W d y pc ls st h n cu su Q' := by
  intro G p e R s m args below meth c lc H locs C hl hr hL
  refine am_wmono (fun t ht => ?_) (w G p e R s m args below meth c lc H locs C hl hr hL)
  obtain ⟨o, o', h', n', h1, h2, h3, h4⟩ := ht
  exact ⟨o, o', h', n', h1, h2, hq _ _ _ h3, h4⟩
/-- cells and slots rounded up -/
theorem am_W.wide {cu' su' : Nat} (w : am_W d y pc ls st h n cu' su' Q) (hc : cu ≤ cu') (hs : su ≤ su') : am_W d y pc ls st h n cu su Q :=
  fun G p e R s m args below meth c lc H locs C hl hr hL => W.widen hc hs (w G p e R s m args below meth c lc H locs C hl hr hL)
theorem ar_iconst {z : Int} (hd : decode (am_bc y) pc = .ok (.iconst z, 1)) (k : am_W d y (pc + 1) ls (.int (Int32.ofInt z) :: st) h n cu su Q) : am_W d y pc ls (st) h n cu su Q :=
  fun G p e R s m args below meth c lc H locs C hl hr hL => lv_iconst C.exec C.bytes hd rfl (k G p e R s m args below meth c lc H locs C hl hr hL)
theorem ar_bipush {z : Int} (hd : decode (am_bc y) pc = .ok (.bipush z, 2)) (k : am_W d y (pc + 2) ls (.int (Int8.ofInt z).toInt32 :: st) h n cu su Q) : am_W d y pc ls (st) h n cu su Q :=
  fun G p e R s m args below meth c lc H locs C hl hr hL => lv_bipush C.exec C.bytes hd rfl (k G p e R s m args below meth c lc H locs C hl hr hL)
theorem ar_sipush {z : Int} (hd : decode (am_bc y) pc = .ok (.sipush z, 3)) (k : am_W d y (pc + 3) ls (.int (Int16.ofInt z).toInt32 :: st) h n cu su Q) : am_W d y pc ls (st) h n cu su Q :=
  fun G p e R s m args below meth c lc H locs C hl hr hL => lv_sipush C.exec C.bytes hd rfl (k G p e R s m args below meth c lc H locs C hl hr hL)
theorem ar_lconst {z : Fin 2} (hd : decode (am_bc y) pc = .ok (.lconst z, 1)) (k : am_W d y (pc + 1) ls (.long (Int64.ofNat (z : Nat)) :: st) h n cu su Q) : am_W d y pc ls (st) h n cu su Q :=
  fun G p e R s m args below meth c lc H locs C hl hr hL => lv_lconst C.exec C.bytes hd rfl (k G p e R s m args below meth c lc H locs C hl hr hL)
theorem ar_iload_n {i : Fin 4} {x : Int32} (hd : decode (am_bc y) pc = .ok (.iload_n i, 1)) (hx : ls[(i : Nat)]? = some (some (.int x))) (k : am_W d y (pc + 1) ls (.int x :: st) h n cu su Q) : am_W d y pc ls st h n cu su Q :=
  fun G p e R s m args below meth c lc H locs C hl hr hL => lv_iload_n C.exec C.bytes hd rfl (hl.2.2 _ _ hx) (k G p e R s m args below meth c lc H locs C hl hr hL)
theorem ar_iload {i : Nat} {x : Int32} (hd : decode (am_bc y) pc = .ok (.iload i, 2)) (hx : ls[i]? = some (some (.int x))) (k : am_W d y (pc + 2) ls (.int x :: st) h n cu su Q) : am_W d y pc ls st h n cu su Q :=
  fun G p e R s m args below meth c lc H locs C hl hr hL => lv_iload C.exec C.bytes hd (hl.2.2 _ _ hx) (k G p e R s m args below meth c lc H locs C hl hr hL)
theorem ar_lload_n {i : Fin 4} {x : Int64} (hd : decode (am_bc y) pc = .ok (.lload_n i, 1)) (hx : ls[(i : Nat)]? = some (some (.long x))) (k : am_W d y (pc + 1) ls (.long x :: st) h n cu su Q) : am_W d y pc ls st h n cu su Q :=
  fun G p e R s m args below meth c lc H locs C hl hr hL => lv_lload_n C.exec C.bytes hd rfl (hl.2.2 _ _ hx) (k G p e R s m args below meth c lc H locs C hl hr hL)
theorem ar_lload {i : Nat} {x : Int64} (hd : decode (am_bc y) pc = .ok (.lload i, 2)) (hx : ls[i]? = some (some (.long x))) (k : am_W d y (pc + 2) ls (.long x :: st) h n cu su Q) : am_W d y pc ls st h n cu su Q :=
  fun G p e R s m args below meth c lc H locs C hl hr hL => lv_lload C.exec C.bytes hd (hl.2.2 _ _ hx) (k G p e R s m args below meth c lc H locs C hl hr hL)
theorem ar_aload_n {i : Fin 4} {x : Nat} (hd : decode (am_bc y) pc = .ok (.aload_n i, 1)) (hx : ls[(i : Nat)]? = some (some (.ref x))) (k : am_W d y (pc + 1) ls (.ref x :: st) h n cu su Q) : am_W d y pc ls st h n cu su Q :=
  fun G p e R s m args below meth c lc H locs C hl hr hL => lv_aload_n C.exec C.bytes hd rfl (hl.2.2 _ _ hx) (k G p e R s m args below meth c lc H locs C hl hr hL)
theorem ar_aload {i : Nat} {x : Nat} (hd : decode (am_bc y) pc = .ok (.aload i, 2)) (hx : ls[i]? = some (some (.ref x))) (k : am_W d y (pc + 2) ls (.ref x :: st) h n cu su Q) : am_W d y pc ls st h n cu su Q :=
  fun G p e R s m args below meth c lc H locs C hl hr hL => lv_aload C.exec C.bytes hd (hl.2.2 _ _ hx) (k G p e R s m args below meth c lc H locs C hl hr hL)
theorem ar_istore_n {i : Fin 4} {x : Int32} (hd : decode (am_bc y) pc = .ok (.istore_n i, 1)) (hi : (i : Nat) < ls.length) (hc : am_nc ls (i : Nat) = true) (k : am_W d y (pc + 1) (ls.set (i : Nat) (some (.int x))) st h n cu su Q) : am_W d y pc ls (.int x :: st) h n cu su Q :=
  fun G p e R s m args below meth c lc H locs C hl hr hL => lv_istore_n C.exec C.bytes hd rfl hl.has hi rfl (fun lc' hl' => k G p e R s m args below meth c lc' H locs C (hl.put (v := .int x) hi hc hl') hr hL)
theorem ar_istore {i : Nat} {x : Int32} (hd : decode (am_bc y) pc = .ok (.istore i, 2)) (hi : i < ls.length) (hc : am_nc ls i = true) (k : am_W d y (pc + 2) (ls.set i (some (.int x))) st h n cu su Q) : am_W d y pc ls (.int x :: st) h n cu su Q :=
  fun G p e R s m args below meth c lc H locs C hl hr hL => lv_istore C.exec C.bytes hd hl.has hi rfl (fun lc' hl' => k G p e R s m args below meth c lc' H locs C (hl.put (v := .int x) hi hc hl') hr hL)
theorem ar_astore_n {i : Fin 4} {x : Nat} (hd : decode (am_bc y) pc = .ok (.astore_n i, 1)) (hi : (i : Nat) < ls.length) (hc : am_nc ls (i : Nat) = true) (k : am_W d y (pc + 1) (ls.set (i : Nat) (some (.ref x))) st h n cu su Q) : am_W d y pc ls (.ref x :: st) h n cu su Q :=
  fun G p e R s m args below meth c lc H locs C hl hr hL => lv_astore_n C.exec C.bytes hd rfl hl.has hi rfl (fun lc' hl' => k G p e R s m args below meth c lc' H locs C (hl.put (v := .ref x) hi hc hl') hr hL)
theorem ar_astore {i : Nat} {x : Nat} (hd : decode (am_bc y) pc = .ok (.astore i, 2)) (hi : i < ls.length) (hc : am_nc ls i = true) (k : am_W d y (pc + 2) (ls.set i (some (.ref x))) st h n cu su Q) : am_W d y pc ls (.ref x :: st) h n cu su Q :=
  fun G p e R s m args below meth c lc H locs C hl hr hL => lv_astore C.exec C.bytes hd hl.has hi rfl (fun lc' hl' => k G p e R s m args below meth c lc' H locs C (hl.put (v := .ref x) hi hc hl') hr hL)
theorem ar_lstore_n {i : Fin 4} {x : Int64} (hd : decode (am_bc y) pc = .ok (.lstore_n i, 1)) (hi : (i : Nat) + 1 < ls.length) (hc : am_nc ls (i : Nat) = true) (k : am_W d y (pc + 1) ((ls.set (i : Nat) (some (.long x))).set ((i : Nat) + 1) none) st h n cu su Q) : am_W d y pc ls (.long x :: st) h n cu su Q :=
  fun G p e R s m args below meth c lc H locs C hl hr hL => lv_lstore_n C.exec C.bytes hd rfl hl.has hi rfl (fun lc' hl' => k G p e R s m args below meth c lc' H locs C (hl.put2 (v := .long x) hi hc hl') hr hL)
theorem ar_lstore {i : Nat} {x : Int64} (hd : decode (am_bc y) pc = .ok (.lstore i, 2)) (hi : i + 1 < ls.length) (hc : am_nc ls i = true) (k : am_W d y (pc + 2) ((ls.set i (some (.long x))).set (i + 1) none) st h n cu su Q) : am_W d y pc ls (.long x :: st) h n cu su Q :=
  fun G p e R s m args below meth c lc H locs C hl hr hL => lv_lstore C.exec C.bytes hd hl.has hi rfl (fun lc' hl' => k G p e R s m args below meth c lc' H locs C (hl.put2 (v := .long x) hi hc hl') hr hL)
theorem ar_iinc {i : Nat} {z : Int} {x : Int32} (hd : decode (am_bc y) pc = .ok (.iinc i z, 3)) (hx : ls[i]? = some (some (.int x))) (hc : am_nc ls i = true) (k : am_W d y (pc + 3) (ls.set i (some (.int (x + Int32.ofInt z)))) st h n cu su Q) : am_W d y pc ls st h n cu su Q := by
  intro G p e R s m args below meth c lc H locs C hl hr hL
  have hi : i < ls.length := (List.getElem?_eq_some_iff.mp hx).1
  obtain ⟨j, hj⟩ := List.getElem?_of_mem (am_pr_mem (G := G) (q := (i, .int x)).mpr ⟨_, hx, rfl⟩)
  exact lv_iinc C.exec C.bytes hd hl.has hj rfl hi rfl (fun lc' hl' => k G p e R s m args below meth c lc' H locs C (hl.put (v := .int (x + Int32.ofInt z)) hi hc hl') hr hL)
theorem ar_iadd {x z : Int32} (hd : decode (am_bc y) pc = .ok (.iadd, 1)) (k : am_W d y (pc + 1) ls (.int (x + z) :: st) h n cu su Q) : am_W d y pc ls (.int z :: .int x :: st) h n cu su Q :=
  fun G p e R s m args below meth c lc H locs C hl hr hL => lv_iadd C.exec C.bytes hd (k G p e R s m args below meth c lc H locs C hl hr hL)
theorem ar_isub {x z : Int32} (hd : decode (am_bc y) pc = .ok (.isub, 1)) (k : am_W d y (pc + 1) ls (.int (x - z) :: st) h n cu su Q) : am_W d y pc ls (.int z :: .int x :: st) h n cu su Q :=
  fun G p e R s m args below meth c lc H locs C hl hr hL => lv_isub C.exec C.bytes hd (k G p e R s m args below meth c lc H locs C hl hr hL)
theorem ar_imul {x z : Int32} (hd : decode (am_bc y) pc = .ok (.imul, 1)) (k : am_W d y (pc + 1) ls (.int (x * z) :: st) h n cu su Q) : am_W d y pc ls (.int z :: .int x :: st) h n cu su Q :=
  fun G p e R s m args below meth c lc H locs C hl hr hL => lv_imul C.exec C.bytes hd (k G p e R s m args below meth c lc H locs C hl hr hL)
theorem ar_iand {x z : Int32} (hd : decode (am_bc y) pc = .ok (.iand, 1)) (k : am_W d y (pc + 1) ls (.int (x &&& z) :: st) h n cu su Q) : am_W d y pc ls (.int z :: .int x :: st) h n cu su Q :=
  fun G p e R s m args below meth c lc H locs C hl hr hL => lv_iand C.exec C.bytes hd (k G p e R s m args below meth c lc H locs C hl hr hL)
theorem ar_ior {x z : Int32} (hd : decode (am_bc y) pc = .ok (.ior, 1)) (k : am_W d y (pc + 1) ls (.int (x ||| z) :: st) h n cu su Q) : am_W d y pc ls (.int z :: .int x :: st) h n cu su Q :=
  fun G p e R s m args below meth c lc H locs C hl hr hL => lv_ior C.exec C.bytes hd (k G p e R s m args below meth c lc H locs C hl hr hL)
theorem ar_ixor {x z : Int32} (hd : decode (am_bc y) pc = .ok (.ixor, 1)) (k : am_W d y (pc + 1) ls (.int (x ^^^ z) :: st) h n cu su Q) : am_W d y pc ls (.int z :: .int x :: st) h n cu su Q :=
  fun G p e R s m args below meth c lc H locs C hl hr hL => lv_ixor C.exec C.bytes hd (k G p e R s m args below meth c lc H locs C hl hr hL)
theorem ar_ishl {x z : Int32} (hd : decode (am_bc y) pc = .ok (.ishl, 1)) (k : am_W d y (pc + 1) ls (.int (x <<< (z &&& 31)) :: st) h n cu su Q) : am_W d y pc ls (.int z :: .int x :: st) h n cu su Q :=
  fun G p e R s m args below meth c lc H locs C hl hr hL => lv_ishl C.exec C.bytes hd (k G p e R s m args below meth c lc H locs C hl hr hL)
theorem ar_ishr {x z : Int32} (hd : decode (am_bc y) pc = .ok (.ishr, 1)) (k : am_W d y (pc + 1) ls (.int (x >>> (z &&& 31)) :: st) h n cu su Q) : am_W d y pc ls (.int z :: .int x :: st) h n cu su Q :=
  fun G p e R s m args below meth c lc H locs C hl hr hL => lv_ishr C.exec C.bytes hd (k G p e R s m args below meth c lc H locs C hl hr hL)
theorem ar_idiv {x z : Int32} (hd : decode (am_bc y) pc = .ok (.idiv, 1)) (hz : ¬ z = 0) (k : am_W d y (pc + 1) ls (.int (x / z) :: st) h n cu su Q) : am_W d y pc ls (.int z :: .int x :: st) h n cu su Q :=
  fun G p e R s m args below meth c lc H locs C hl hr hL => lv_idiv C.exec C.bytes hd hz (k G p e R s m args below meth c lc H locs C hl hr hL)
theorem ar_irem {x z : Int32} (hd : decode (am_bc y) pc = .ok (.irem, 1)) (hz : ¬ z = 0) (k : am_W d y (pc + 1) ls (.int (x - x / z * z) :: st) h n cu su Q) : am_W d y pc ls (.int z :: .int x :: st) h n cu su Q :=
  fun G p e R s m args below meth c lc H locs C hl hr hL => lv_irem C.exec C.bytes hd hz (k G p e R s m args below meth c lc H locs C hl hr hL)
theorem ar_ineg {x : Int32} (hd : decode (am_bc y) pc = .ok (.ineg, 1)) (k : am_W d y (pc + 1) ls (.int (-x) :: st) h n cu su Q) : am_W d y pc ls (.int x :: st) h n cu su Q :=
  fun G p e R s m args below meth c lc H locs C hl hr hL => lv_ineg C.exec C.bytes hd (k G p e R s m args below meth c lc H locs C hl hr hL)
theorem ar_iushr {x z : Int32} (hd : decode (am_bc y) pc = .ok (.iushr, 1)) (k : am_W d y (pc + 1) ls (.int (x.toUInt32 >>> (z.toUInt32 &&& Int32.toUInt32 31)).toInt32 :: st) h n cu su Q) : am_W d y pc ls (.int z :: .int x :: st) h n cu su Q :=
  fun G p e R s m args below meth c lc H locs C hl hr hL => lv_iushr C.exec C.bytes hd rfl (k G p e R s m args below meth c lc H locs C hl hr hL)
theorem ar_i2l {x : Int32} (hd : decode (am_bc y) pc = .ok (.i2l, 1)) (k : am_W d y (pc + 1) ls (.long x.toInt64 :: st) h n cu su Q) : am_W d y pc ls (.int x :: st) h n cu su Q :=
  fun G p e R s m args below meth c lc H locs C hl hr hL => lv_i2l C.exec C.bytes hd rfl (k G p e R s m args below meth c lc H locs C hl hr hL)
theorem ar_l2i {x : Int64} (hd : decode (am_bc y) pc = .ok (.l2i, 1)) (k : am_W d y (pc + 1) ls (.int x.toInt32 :: st) h n cu su Q) : am_W d y pc ls (.long x :: st) h n cu su Q :=
  fun G p e R s m args below meth c lc H locs C hl hr hL => lv_l2i C.exec C.bytes hd rfl (k G p e R s m args below meth c lc H locs C hl hr hL)
theorem ar_ladd {x z : Int64} (hd : decode (am_bc y) pc = .ok (.ladd, 1)) (k : am_W d y (pc + 1) ls (.long (x + z) :: st) h n cu su Q) : am_W d y pc ls (.long z :: .long x :: st) h n cu su Q :=
  fun G p e R s m args below meth c lc H locs C hl hr hL => lv_ladd C.exec C.bytes hd (k G p e R s m args below meth c lc H locs C hl hr hL)
theorem ar_lsub {x z : Int64} (hd : decode (am_bc y) pc = .ok (.lsub, 1)) (k : am_W d y (pc + 1) ls (.long (x - z) :: st) h n cu su Q) : am_W d y pc ls (.long z :: .long x :: st) h n cu su Q :=
  fun G p e R s m args below meth c lc H locs C hl hr hL => lv_lsub C.exec C.bytes hd (k G p e R s m args below meth c lc H locs C hl hr hL)
theorem ar_lmul {x z : Int64} (hd : decode (am_bc y) pc = .ok (.lmul, 1)) (k : am_W d y (pc + 1) ls (.long (x * z) :: st) h n cu su Q) : am_W d y pc ls (.long z :: .long x :: st) h n cu su Q :=
  fun G p e R s m args below meth c lc H locs C hl hr hL => lv_lmul C.exec C.bytes hd (k G p e R s m args below meth c lc H locs C hl hr hL)
theorem ar_lcmp {x z : Int64} (hd : decode (am_bc y) pc = .ok (.lcmp, 1)) (k : am_W d y (pc + 1) ls (.int (lg_cmp x z) :: st) h n cu su Q) : am_W d y pc ls (.long z :: .long x :: st) h n cu su Q :=
  fun G p e R s m args below meth c lc H locs C hl hr hL => W.lcmp C.exec C.bytes hd (k G p e R s m args below meth c lc H locs C hl hr hL)
theorem ar_dup {v : Value} (hd : decode (am_bc y) pc = .ok (.dup, 1)) (hv : v.category = 1) (k : am_W d y (pc + 1) ls (v :: v :: st) h n cu su Q) : am_W d y pc ls (v :: st) h n cu su Q :=
  fun G p e R s m args below meth c lc H locs C hl hr hL => lv_dup C.exec C.bytes hd (by rw [am_cv_cat]; exact hv) (k G p e R s m args below meth c lc H locs C hl hr hL)
theorem ar_pop {v : Value} (hd : decode (am_bc y) pc = .ok (.pop, 1)) (hv : v.category = 1) (k : am_W d y (pc + 1) ls st h n cu su Q) : am_W d y pc ls (v :: st) h n cu su Q :=
  fun G p e R s m args below meth c lc H locs C hl hr hL => lv_pop C.exec C.bytes hd (by rw [am_cv_cat]; exact hv) (k G p e R s m args below meth c lc H locs C hl hr hL)
theorem ar_dup_x1 {v w : Value} (hd : decode (am_bc y) pc = .ok (.dup_x1, 1)) (hv : v.category = 1) (hw : w.category = 1) (k : am_W d y (pc + 1) ls (v :: w :: v :: st) h n cu su Q) : am_W d y pc ls (v :: w :: st) h n cu su Q :=
  fun G p e R s m args below meth c lc H locs C hl hr hL => lv_dup_x1 C.exec C.bytes hd (by rw [am_cv_cat]; exact hv) (by rw [am_cv_cat]; exact hw) (k G p e R s m args below meth c lc H locs C hl hr hL)
theorem ar_dup2 {v w : Value} (hd : decode (am_bc y) pc = .ok (.dup2, 1)) (hv : v.category = 1) (hw : w.category = 1) (k : am_W d y (pc + 1) ls (v :: w :: v :: w :: st) h n cu su Q) : am_W d y pc ls (v :: w :: st) h n cu su Q :=
  fun G p e R s m args below meth c lc H locs C hl hr hL => lv_dup2_11 C.exec C.bytes hd (by rw [am_cv_cat]; exact hv) (by rw [am_cv_cat]; exact hw) (k G p e R s m args below meth c lc H locs C hl hr hL)
theorem ar_if_eq {x : Int32} {f : Int} {tg : Nat} (hd : decode (am_bc y) pc = .ok (.ifCond .eq f, 3)) (ht : (pc : Int) + f = (tg : Int)) (kt : x = 0 → am_W d y tg ls st h n cu su Q) (kf : ¬ x = 0 → am_W d y (pc + 3) ls st h n cu su Q) : am_W d y pc ls (.int x :: st) h n cu su Q :=
  fun G p e R s m args below meth c lc H locs C hl hr hL => lv_if_eq C.exec C.bytes hd ht (fun q => kt q G p e R s m args below meth c lc H locs C hl hr hL) (fun q => kf q G p e R s m args below meth c lc H locs C hl hr hL)
theorem ar_icmp_eq {x z : Int32} {f : Int} {tg : Nat} (hd : decode (am_bc y) pc = .ok (.if_icmp .eq f, 3)) (ht : (pc : Int) + f = (tg : Int)) (kt : x = z → am_W d y tg ls st h n cu su Q) (kf : ¬ x = z → am_W d y (pc + 3) ls st h n cu su Q) : am_W d y pc ls (.int z :: .int x :: st) h n cu su Q :=
  fun G p e R s m args below meth c lc H locs C hl hr hL => lv_icmp_eq C.exec C.bytes hd ht (fun q => kt q G p e R s m args below meth c lc H locs C hl hr hL) (fun q => kf q G p e R s m args below meth c lc H locs C hl hr hL)
theorem ar_if_ne {x : Int32} {f : Int} {tg : Nat} (hd : decode (am_bc y) pc = .ok (.ifCond .ne f, 3)) (ht : (pc : Int) + f = (tg : Int)) (kt : ¬ x = 0 → am_W d y tg ls st h n cu su Q) (kf : x = 0 → am_W d y (pc + 3) ls st h n cu su Q) : am_W d y pc ls (.int x :: st) h n cu su Q :=
  fun G p e R s m args below meth c lc H locs C hl hr hL => lv_if_ne C.exec C.bytes hd ht (fun q => kt q G p e R s m args below meth c lc H locs C hl hr hL) (fun q => kf q G p e R s m args below meth c lc H locs C hl hr hL)
theorem ar_icmp_ne {x z : Int32} {f : Int} {tg : Nat} (hd : decode (am_bc y) pc = .ok (.if_icmp .ne f, 3)) (ht : (pc : Int) + f = (tg : Int)) (kt : ¬ x = z → am_W d y tg ls st h n cu su Q) (kf : x = z → am_W d y (pc + 3) ls st h n cu su Q) : am_W d y pc ls (.int z :: .int x :: st) h n cu su Q :=
  fun G p e R s m args below meth c lc H locs C hl hr hL => lv_icmp_ne C.exec C.bytes hd ht (fun q => kt q G p e R s m args below meth c lc H locs C hl hr hL) (fun q => kf q G p e R s m args below meth c lc H locs C hl hr hL)
theorem ar_if_lt {x : Int32} {f : Int} {tg : Nat} (hd : decode (am_bc y) pc = .ok (.ifCond .lt f, 3)) (ht : (pc : Int) + f = (tg : Int)) (kt : x < 0 → am_W d y tg ls st h n cu su Q) (kf : ¬ x < 0 → am_W d y (pc + 3) ls st h n cu su Q) : am_W d y pc ls (.int x :: st) h n cu su Q :=
  fun G p e R s m args below meth c lc H locs C hl hr hL => lv_if_lt C.exec C.bytes hd ht (fun q => kt q G p e R s m args below meth c lc H locs C hl hr hL) (fun q => kf q G p e R s m args below meth c lc H locs C hl hr hL)
theorem ar_icmp_lt {x z : Int32} {f : Int} {tg : Nat} (hd : decode (am_bc y) pc = .ok (.if_icmp .lt f, 3)) (ht : (pc : Int) + f = (tg : Int)) (kt : x < z → am_W d y tg ls st h n cu su Q) (kf : ¬ x < z → am_W d y (pc + 3) ls st h n cu su Q) : am_W d y pc ls (.int z :: .int x :: st) h n cu su Q :=
  fun G p e R s m args below meth c lc H locs C hl hr hL => lv_icmp_lt C.exec C.bytes hd ht (fun q => kt q G p e R s m args below meth c lc H locs C hl hr hL) (fun q => kf q G p e R s m args below meth c lc H locs C hl hr hL)
theorem ar_if_ge {x : Int32} {f : Int} {tg : Nat} (hd : decode (am_bc y) pc = .ok (.ifCond .ge f, 3)) (ht : (pc : Int) + f = (tg : Int)) (kt : 0 ≤ x → am_W d y tg ls st h n cu su Q) (kf : ¬ 0 ≤ x → am_W d y (pc + 3) ls st h n cu su Q) : am_W d y pc ls (.int x :: st) h n cu su Q :=
  fun G p e R s m args below meth c lc H locs C hl hr hL => lv_if_ge C.exec C.bytes hd ht (fun q => kt q G p e R s m args below meth c lc H locs C hl hr hL) (fun q => kf q G p e R s m args below meth c lc H locs C hl hr hL)
theorem ar_icmp_ge {x z : Int32} {f : Int} {tg : Nat} (hd : decode (am_bc y) pc = .ok (.if_icmp .ge f, 3)) (ht : (pc : Int) + f = (tg : Int)) (kt : z ≤ x → am_W d y tg ls st h n cu su Q) (kf : ¬ z ≤ x → am_W d y (pc + 3) ls st h n cu su Q) : am_W d y pc ls (.int z :: .int x :: st) h n cu su Q :=
  fun G p e R s m args below meth c lc H locs C hl hr hL => lv_icmp_ge C.exec C.bytes hd ht (fun q => kt q G p e R s m args below meth c lc H locs C hl hr hL) (fun q => kf q G p e R s m args below meth c lc H locs C hl hr hL)
theorem ar_if_gt {x : Int32} {f : Int} {tg : Nat} (hd : decode (am_bc y) pc = .ok (.ifCond .gt f, 3)) (ht : (pc : Int) + f = (tg : Int)) (kt : 0 < x → am_W d y tg ls st h n cu su Q) (kf : ¬ 0 < x → am_W d y (pc + 3) ls st h n cu su Q) : am_W d y pc ls (.int x :: st) h n cu su Q :=
  fun G p e R s m args below meth c lc H locs C hl hr hL => lv_if_gt C.exec C.bytes hd ht (fun q => kt q G p e R s m args below meth c lc H locs C hl hr hL) (fun q => kf q G p e R s m args below meth c lc H locs C hl hr hL)
theorem ar_icmp_gt {x z : Int32} {f : Int} {tg : Nat} (hd : decode (am_bc y) pc = .ok (.if_icmp .gt f, 3)) (ht : (pc : Int) + f = (tg : Int)) (kt : z < x → am_W d y tg ls st h n cu su Q) (kf : ¬ z < x → am_W d y (pc + 3) ls st h n cu su Q) : am_W d y pc ls (.int z :: .int x :: st) h n cu su Q :=
  fun G p e R s m args below meth c lc H locs C hl hr hL => lv_icmp_gt C.exec C.bytes hd ht (fun q => kt q G p e R s m args below meth c lc H locs C hl hr hL) (fun q => kf q G p e R s m args below meth c lc H locs C hl hr hL)
theorem ar_if_le {x : Int32} {f : Int} {tg : Nat} (hd : decode (am_bc y) pc = .ok (.ifCond .le f, 3)) (ht : (pc : Int) + f = (tg : Int)) (kt : x ≤ 0 → am_W d y tg ls st h n cu su Q) (kf : ¬ x ≤ 0 → am_W d y (pc + 3) ls st h n cu su Q) : am_W d y pc ls (.int x :: st) h n cu su Q :=
  fun G p e R s m args below meth c lc H locs C hl hr hL => lv_if_le C.exec C.bytes hd ht (fun q => kt q G p e R s m args below meth c lc H locs C hl hr hL) (fun q => kf q G p e R s m args below meth c lc H locs C hl hr hL)
theorem ar_icmp_le {x z : Int32} {f : Int} {tg : Nat} (hd : decode (am_bc y) pc = .ok (.if_icmp .le f, 3)) (ht : (pc : Int) + f = (tg : Int)) (kt : x ≤ z → am_W d y tg ls st h n cu su Q) (kf : ¬ x ≤ z → am_W d y (pc + 3) ls st h n cu su Q) : am_W d y pc ls (.int z :: .int x :: st) h n cu su Q :=
  fun G p e R s m args below meth c lc H locs C hl hr hL => lv_icmp_le C.exec C.bytes hd ht (fun q => kt q G p e R s m args below meth c lc H locs C hl hr hL) (fun q => kf q G p e R s m args below meth c lc H locs C hl hr hL)
theorem ar_goto {f : Int} {tg : Nat} (hd : decode (am_bc y) pc = .ok (.goto f, 3)) (ht : (pc : Int) + f = (tg : Int)) (k : am_W d y tg ls st h n cu su Q) : am_W d y pc ls st h n cu su Q :=
  fun G p e R s m args below meth c lc H locs C hl hr hL => lv_goto C.exec C.bytes hd ht (k G p e R s m args below meth c lc H locs C hl hr hL)
theorem ar_swOut {df lo hi : Int} {offs : Array Int} {len : Nat} {x : Int32} {tg : Nat} (hd : decode (am_bc y) pc = .ok (.tableswitch df lo hi offs, len)) (hx : x.toInt < lo ∨ hi < x.toInt) (ht : (pc : Int) + df = (tg : Int)) (k : am_W d y tg ls st h n cu su Q) : am_W d y pc ls (.int x :: st) h n cu su Q :=
  fun G p e R s m args below meth c lc H locs C hl hr hL => lv_tableOut C.exec C.bytes hd hx ht (k G p e R s m args below meth c lc H locs C hl hr hL)
theorem ar_swIn {df lo hi : Int} {offs : Array Int} {len : Nat} {x : Int32} {f : Int} {tg : Nat} (hd : decode (am_bc y) pc = .ok (.tableswitch df lo hi offs, len)) (h1 : ¬ x.toInt < lo) (h2 : ¬ hi < x.toInt) (ho : offs[(x.toInt - lo).toNat]? = some f) (ht : (pc : Int) + f = (tg : Int)) (k : am_W d y tg ls st h n cu su Q) : am_W d y pc ls (.int x :: st) h n cu su Q :=
  fun G p e R s m args below meth c lc H locs C hl hr hL => lv_tableIn C.exec C.bytes hd h1 h2 ho ht (k G p e R s m args below meth c lc H locs C hl hr hL)
theorem ar_ldc {i : Nat} {x : Int32} {j : Nat} (hd : decode (am_bc y) pc = .ok (.ldc i, 2)) (hw : tables_1[j]? = some (Jvm.Cond.constant (am_nm y).cls i x)) (k : am_W d y (pc + 2) ls (.int x :: st) h n cu su Q) : am_W d y pc ls st h n cu su Q :=
  fun G p e R s m args below meth c lc H locs C hl hr hL => lv_ldc C.exec C.bytes C.own (C.word hw args) hd (k G p e R s m args below meth c lc H locs C hl hr hL)
theorem ar_ldcw {i : Nat} {x : Int32} {j : Nat} (hd : decode (am_bc y) pc = .ok (.ldc_w i, 3)) (hw : tables_1[j]? = some (Jvm.Cond.constant (am_nm y).cls i x)) (k : am_W d y (pc + 3) ls (.int x :: st) h n cu su Q) : am_W d y pc ls st h n cu su Q :=
  fun G p e R s m args below meth c lc H locs C hl hr hL => lv_ldcw C.exec C.bytes C.own (C.word hw args) hd (k G p e R s m args below meth c lc H locs C hl hr hL)
theorem ar_ldc2 {i : Nat} {x : Int64} {j : Nat} (hd : decode (am_bc y) pc = .ok (.ldc2_w i, 3)) (hw : tables_1[j]? = some (Jvm.Cond.constantLong (am_nm y).cls i x)) (k : am_W d y (pc + 3) ls (.long x :: st) h n cu su Q) : am_W d y pc ls st h n cu su Q :=
  fun G p e R s m args below meth c lc H locs C hl hr hL => lv_ldc2 C.exec C.bytes C.own (C.word hw args) hd (k G p e R s m args below meth c lc H locs C hl hr hL)
end AMR
end
section
/-! rules of the heap: fields, arrays, static tables, returns -/
theorem kl_0 : ∀ w ∈ u_ws "AllocateSolve" kT_A 5, w ∈ lw_tbl ∧ goodWord w = true := by decide +kernel
theorem kl_1 : ∀ w ∈ u_ws "AllocateSolve$Floor" kT_F 2, w ∈ lw_tbl ∧ goodWord w = true := by decide +kernel
theorem kl_2 : ∀ w ∈ u_ws "AllocateSolve$Lines" kT_N 7, w ∈ lw_tbl ∧ goodWord w = true := by decide +kernel
theorem kl_3 : ∀ w ∈ u_ws "AllocateSolve$Lots" kT_T 7, w ∈ lw_tbl ∧ goodWord w = true := by decide +kernel
theorem kl_4 : ∀ w ∈ u_ws "AllocateSolve$Search" kT_S 9, w ∈ lw_tbl ∧ goodWord w = true := by decide +kernel
theorem kl_5 : ∀ w ∈ u_ws "AllocateSolveModel" kT_M 21, w ∈ lw_tbl ∧ goodWord w = true := by decide +kernel
/-- what the tables say of the classes: their fields' words, types and names -/
theorem am_cls {ci : Nat} {q : vw_C} (hc : am_cl[ci]? = some q) : (∀ w ∈ u_ws q.1 q.2.1 q.2.2, w ∈ lw_tbl ∧ goodWord w = true) ∧ (∀ k, k < q.2.2 → parseFieldDescriptor (q.2.1 k).2.2.1 = some (am_ty ci k)) ∧ (∀ a, a < q.2.2 → ∀ b, b < q.2.2 → a ≠ b → (q.2.1 a).2.1 ≠ (q.2.1 b).2.1) := by
  match ci, hc with
  | 0, hc => cases hc; exact ⟨kl_0, ko_A, kn_A⟩
  | 1, hc => cases hc; exact ⟨kl_1, ko_F, kn_F⟩
  | 2, hc => cases hc; exact ⟨kl_2, ko_N, kn_N⟩
  | 3, hc => cases hc; exact ⟨kl_3, ko_T, kn_T⟩
  | 4, hc => cases hc; exact ⟨kl_4, ko_S, kn_S⟩
  | 5, hc => cases hc; exact ⟨kl_5, ko_M, kn_M⟩
  | i + 6, hc => simp [am_cl] at hc
theorem am_lay {G : am_G} {U : State} (hK : am_kn G U) {ci : Nat} {q : vw_C} (hc : am_cl[ci]? = some q) {k : Nat} (hk : k < q.2.2) (args : Array Value) : (u_lay q.1 q.2.1 k).before args U = true :=
  hK.sel ((am_cls hc).1 _ (u_in_lay hk)).1 ((am_cls hc).1 _ (u_in_lay hk)).2 args
theorem am_lays {G : am_G} {U : State} (hK : am_kn G U) {ci : Nat} {q : vw_C} (hc : am_cl[ci]? = some q) {k : Nat} (hk : k < q.2.2) (args : Array Value) : (Cond.lays q.1 (q.2.1 k).1 (q.2.1 k).2.1 (q.2.1 k).2.2.1).before args U = true ∨ (Cond.laysFinal q.1 (q.2.1 k).1 (q.2.1 k).2.1 (q.2.1 k).2.2.1).before args U = true := by
  have h := am_lay hK hc hk args
  unfold u_lay at h
  split at h
  · exact Or.inr h
  · exact Or.inl h
theorem am_apart {G : am_G} {U : State} (hK : am_kn G U) {ci : Nat} {q : vw_C} (hc : am_cl[ci]? = some q) : ∀ x z, x < q.2.2 → z < q.2.2 → x ≠ z → am_iS G ci x ≠ am_iS G ci z := by
  intro x z hx hz hne
  obtain ⟨hS, -⟩ := hK.2.1 ci _ hc
  obtain ⟨_, _, _, fa, hia, ea⟩ := hS x hx
  obtain ⟨_, _, _, fb, hib, eb⟩ := hS z hz
  rw [← ea, ← eb]
  refine u_apart (args := #[]) (am_lays hK hc hx #[]) (am_lays hK hc hz #[]) hia hib ?_
  rw [(State.fieldFound?_type hia ((am_cls hc).2.1 x hx)).1, (State.fieldFound?_type hib ((am_cls hc).2.1 z hz)).1]
  exact (am_cls hc).2.2 x hx z hz hne
section AMH
variable {d : Nat} {y : am_Y} {pc : Nat} {ls : List (Option Value)} {st : List Value} {h : am_H} {n cu su : Nat} {Q : am_O → am_H → Nat → Prop}
theorem ar_get {i j ci k r : Nat} {q : vw_C} {fs : List Value} {v : Value} (hd : decode (am_bc y) pc = .ok (.getfield i, 3)) (hc : am_cl[ci]? = some q) (hw : tables_1[j]? = some (Jvm.Cond.fieldLink (am_nm y).cls i (q.2.1 k).1 (q.2.1 k).2.1 (q.2.1 k).2.2.1)) (hk : k < q.2.2) (ho : h[r]? = some (am_ob ci fs)) (hv : fs[k]? = some v)
    (kk : am_W d y (pc + 3) ls (v :: st) h n cu su Q) : am_W d y pc ls (.ref r :: st) h n cu su Q := by
  intro G p e R s m args below meth c lc H locs C hl hr hL
  obtain ⟨-, rr, h1, cell, q1, q2, q3, q4⟩ := hr.2.2.2.2 r _ ho
  obtain rfl : rr = q := Option.some.inj (h1.symm.trans hc)
  obtain ⟨hS, hfc, kC, hkC, hkind⟩ := C.kn.2.1 ci _ hc
  obtain ⟨cf, kf, fi, f, hi, hsl⟩ := hS k hk
  refine W.getf C.exec C.bytes C.own (C.word hw args) hi (u_facts hfc hkC (am_lays C.kn hc hk args) hi).1 q1 (by rw [q3]; exact fun z => by cases z) (v := am_cv G v) ?_ rfl rfl hd (kk G p e R s m args below meth c lc H locs C hl hr hL)
  rw [hsl, q4 k hk]
  simp [vp_V, hv]
theorem am_obset {G : am_G} {fs : List Value} {k : Nat} {v : Value} (hk : k < fs.length) (j : Nat) : updV (vp_V (fs.map (am_cv G))) k (am_cv G v) j = vp_V ((fs.set k v).map (am_cv G)) j := by
  rw [vp_updV_set (by simpa using hk), List.map_set]
theorem ar_put {i j ci k r : Nat} {q : vw_C} {fs : List Value} {v : Value} (hd : decode (am_bc y) pc = .ok (.putfield i, 3)) (hc : am_cl[ci]? = some q) (hw : tables_1[j]? = some (Jvm.Cond.fieldLink (am_nm y).cls i (q.2.1 k).1 (q.2.1 k).2.1 (q.2.1 k).2.2.1)) (hk : k < q.2.2) (hf : (q.2.1 k).2.2.2 = false) (h4 : 4 ≤ r) (ho : h[r]? = some (am_ob ci fs)) (hkl : k < fs.length)
    (hn : narrow (am_ty ci k) v = v) (hfit : fits (am_ty ci k) v = true) (hre : v.isRef = false) (kk : am_W d y (pc + 3) ls st (h.set r (am_ob ci (fs.set k v))) n cu su Q) : am_W d y pc ls (v :: .ref r :: st) h n cu su Q := by
  intro G p e R s m args below meth c lc H locs C hl hr hL
  have hcv : am_cv G v = v := by cases v <;> first | rfl | cases hre
  obtain ⟨hrn, rr, h1, cell, q1, q2, q3, q4⟩ := hr.2.2.2.2 r _ ho
  obtain rfl : rr = q := Option.some.inj (h1.symm.trans hc)
  obtain ⟨hS, hfc, kC, hkC, hkind⟩ := C.kn.2.1 ci _ hc
  obtain ⟨cf, kf, fi, f, hi, hsl⟩ := hS k hk
  have hlay := am_lay C.kn hc hk args
  unfold u_lay at hlay
  rw [if_neg (by rw [hf]; decide)] at hlay
  have hst := (u_facts hfc hkC (am_lays C.kn hc hk args) hi).1
  have h6 := u_store (v := am_cv G v) hfc hkC hkind hlay hi ((am_cls hc).2.1 k hk) (by rw [hcv]; exact hn) (by rw [hcv]; exact hfit)
  refine W.putK C.exec C.bytes (f := f) ⟨C.own, C.word hw args, ⟨_, _, _, hi⟩, hst⟩ (by rw [q2]; exact h6) q1 q3 (by rw [hsl]; exact k2_hasslot (q4 k hk)) rfl rfl hd fun H' e1 e2 e3 => ?_
  rw [hsl] at e1 ⊢
  refine kk G p e R s m args below meth c lc H' _ C hl (hr.put h4 hrn e2 e3 ⟨_, hc, t_OB.to (V := updV (vp_V (fs.map (am_cv G))) k (am_cv G v)) ⟨_, e1, q2, q3, t_set q4 (am_apart C.kn hc) hk _⟩ (fun j _ => am_obset hkl j)⟩) (t_lc hL (am_ad_ge h4))
/-- a final field, in a constructor -/
theorem ar_putF {i j ci k r : Nat} {q : vw_C} {fs : List Value} {v : Value} (hd : decode (am_bc y) pc = .ok (.putfield i, 3)) (hc : am_cl[ci]? = some q) (hw : tables_1[j]? = some (Jvm.Cond.fieldLink (am_nm y).cls i (q.2.1 k).1 (q.2.1 k).2.1 (q.2.1 k).2.2.1)) (hk : k < q.2.2) (hf : (q.2.1 k).2.2.2 = true) (hin : (am_nm y).name = "<init>") (hdc : (q.2.1 k).1 = (am_nm y).cls) (h4 : 4 ≤ r) (ho : h[r]? = some (am_ob ci fs)) (hkl : k < fs.length)
    (hn : ∀ G, narrow (am_ty ci k) (am_cv G v) = am_cv G v) (hfit : ∀ G, fits (am_ty ci k) (am_cv G v) = true) (kk : am_W d y (pc + 3) ls st (h.set r (am_ob ci (fs.set k v))) n cu su Q) : am_W d y pc ls (v :: .ref r :: st) h n cu su Q := by
  intro G p e R s m args below meth c lc H locs C hl hr hL
  obtain ⟨hrn, rr, h1, cell, q1, q2, q3, q4⟩ := hr.2.2.2.2 r _ ho
  obtain rfl : rr = q := Option.some.inj (h1.symm.trans hc)
  obtain ⟨hS, hfc, kC, hkC, hkind⟩ := C.kn.2.1 ci _ hc
  obtain ⟨cf, kf, fi, f, hi, hsl⟩ := hS k hk
  have hlay := am_lay C.kn hc hk args
  unfold u_lay at hlay
  rw [if_pos hf] at hlay
  have hst := (u_facts hfc hkC (am_lays C.kn hc hk args) hi).1
  have hcf : m.cls = cf := by
    obtain ⟨_, _, c', _, _, _, -, -, hf', -, -, -, hown2, -⟩ := Cond.laysFinal_spec hlay
    have e1 : c' = cf := by have := hi.symm.trans hf'; simp at this; exact this.1.symm
    rw [hdc] at hown2
    rw [← e1]; exact Option.some.inj (C.own.symm.trans hown2)
  have h6 := u_fits (v := am_cv G v) hfc hkC hkind (Or.inr hlay) hi ((am_cls hc).2.1 k hk) (hn G) (hfit G)
  refine W.putFinK C.exec C.bytes C.own (C.word hw args) hi hst hcf (by rw [C.name]; exact hin) (by rw [q2]; exact h6) q1 q3 (by rw [hsl]; exact k2_hasslot (q4 k hk)) rfl rfl hd fun H' e1 e2 e3 => ?_
  rw [hsl] at e1 ⊢
  exact kk G p e R s m args below meth c lc H' _ C hl (hr.put h4 hrn e2 e3 ⟨_, hc, t_OB.to (V := updV (vp_V (fs.map (am_cv G))) k (am_cv G v)) ⟨_, e1, q2, q3, t_set q4 (am_apart C.kn hc) hk _⟩ (fun j _ => am_obset hkl j)⟩) (t_lc hL (am_ad_ge h4))
theorem am_lt {i : Int32} {N : Nat} (hin : vp_in i N) : i.toNatClampNeg < N := Nat.not_le.mp fun q => hin (Or.inr q)
theorem ar_iald {r N : Nat} {f : Nat → Int32} {i : Int32} (hd : decode (am_bc y) pc = .ok (.iaload, 1)) (ho : h[r]? = some (am_ia N f)) (hin : vp_in i N) (kk : am_W d y (pc + 1) ls (.int (f i.toNatClampNeg) :: st) h n cu su Q) : am_W d y pc ls (.int i :: .ref r :: st) h n cu su Q := by
  intro G p e R s m args below meth c lc H locs C hl hr hL
  obtain ⟨-, cell, q1, q2, q3, q4, q5⟩ := hr.2.2.2.2 r _ ho
  exact W.iald C.exec C.bytes q1 q2 q3 (by rw [q4]; exact hin) (q5 _ (am_lt hin)) rfl rfl hd (kk G p e R s m args below meth c lc H locs C hl hr hL)
theorem ar_iast {r N : Nat} {f : Nat → Int32} {i x : Int32} (hd : decode (am_bc y) pc = .ok (.iastore, 1)) (h4 : 4 ≤ r) (ho : h[r]? = some (am_ia N f)) (hin : vp_in i N) (kk : am_W d y (pc + 1) ls st (h.set r (am_ia N (upd f i.toNatClampNeg x))) n cu su Q) : am_W d y pc ls (.int x :: .int i :: .ref r :: st) h n cu su Q := by
  intro G p e R s m args below meth c lc H locs C hl hr hL
  obtain ⟨hrn, cell, q1, q2, q3, q4, q5⟩ := hr.2.2.2.2 r _ ho
  refine W.iast C.exec C.bytes q1 q2 q3 (by rw [q4]; exact hin) rfl rfl hd fun H' e1 e2 e3 => ?_
  exact kk G p e R s m args below meth c lc H' _ C hl (hr.put h4 hrn e2 e3 (am_ar.set q2 q3 q4 q5 (am_lt hin) e1 (by simp [upd]) (fun j hj => by simp [upd, hj]))) (t_lc hL (am_ad_ge h4))
theorem ar_zald {r N : Nat} {f : Nat → Int32} {i : Int32} (hd : decode (am_bc y) pc = .ok (.baload, 1)) (ho : h[r]? = some (am_za N f)) (hin : vp_in i N) (kk : am_W d y (pc + 1) ls (.int (f i.toNatClampNeg) :: st) h n cu su Q) : am_W d y pc ls (.int i :: .ref r :: st) h n cu su Q := by
  intro G p e R s m args below meth c lc H locs C hl hr hL
  obtain ⟨-, cell, q1, q2, q3, q4, q5⟩ := hr.2.2.2.2 r _ ho
  exact W.zald C.exec C.bytes q1 q2 q3 (by rw [q4]; exact hin) (q5 _ (am_lt hin)) rfl rfl hd (kk G p e R s m args below meth c lc H locs C hl hr hL)
theorem ar_zast {r N : Nat} {f : Nat → Int32} {i x : Int32} (hd : decode (am_bc y) pc = .ok (.bastore, 1)) (h4 : 4 ≤ r) (ho : h[r]? = some (am_za N f)) (hin : vp_in i N) (kk : am_W d y (pc + 1) ls st (h.set r (am_za N (upd f i.toNatClampNeg (vp_nar .boolean x)))) n cu su Q) : am_W d y pc ls (.int x :: .int i :: .ref r :: st) h n cu su Q := by
  intro G p e R s m args below meth c lc H locs C hl hr hL
  obtain ⟨hrn, cell, q1, q2, q3, q4, q5⟩ := hr.2.2.2.2 r _ ho
  refine W.zast C.exec C.bytes q1 q2 q3 (by rw [q4]; exact hin) rfl rfl hd fun H' e1 e2 e3 => ?_
  exact kk G p e R s m args below meth c lc H' _ C hl (hr.put h4 hrn e2 e3 (am_ar.set q2 q3 q4 q5 (am_lt hin) e1 (by simp [upd, vp_nar]; rfl) (fun j hj => by simp [upd, hj]))) (t_lc hL (am_ad_ge h4))
theorem ar_lald {r N : Nat} {f : Nat → Int64} {i : Int32} (hd : decode (am_bc y) pc = .ok (.laload, 1)) (ho : h[r]? = some (am_la N f)) (hin : vp_in i N) (kk : am_W d y (pc + 1) ls (.long (f i.toNatClampNeg) :: st) h n cu su Q) : am_W d y pc ls (.int i :: .ref r :: st) h n cu su Q := by
  intro G p e R s m args below meth c lc H locs C hl hr hL
  obtain ⟨-, cell, q1, q2, q3, q4, q5⟩ := hr.2.2.2.2 r _ ho
  exact W.lald C.exec C.bytes q1 q2 q3 (by rw [q4]; exact hin) (q5 _ (am_lt hin)) rfl rfl hd (kk G p e R s m args below meth c lc H locs C hl hr hL)
theorem ar_last {r N : Nat} {f : Nat → Int64} {i : Int32} {x : Int64} (hd : decode (am_bc y) pc = .ok (.lastore, 1)) (h4 : 4 ≤ r) (ho : h[r]? = some (am_la N f)) (hin : vp_in i N) (kk : am_W d y (pc + 1) ls st (h.set r (am_la N (vp_updL f i.toNatClampNeg x))) n cu su Q) : am_W d y pc ls (.long x :: .int i :: .ref r :: st) h n cu su Q := by
  intro G p e R s m args below meth c lc H locs C hl hr hL
  obtain ⟨hrn, cell, q1, q2, q3, q4, q5⟩ := hr.2.2.2.2 r _ ho
  refine W.last C.exec C.bytes q1 q2 q3 (by rw [q4]; exact hin) rfl rfl hd fun H' e1 e2 e3 => ?_
  exact kk G p e R s m args below meth c lc H' _ C hl (hr.put h4 hrn e2 e3 (am_ar.set q2 q3 q4 q5 (am_lt hin) e1 (by simp [vp_updL]) (fun j hj => by simp [vp_updL, hj]))) (t_lc hL (am_ad_ge h4))
theorem ar_aald {r N t : Nat} {f : Nat → Option Nat} {i : Int32} (hd : decode (am_bc y) pc = .ok (.aaload, 1)) (ho : h[r]? = some (am_ra N f)) (hin : vp_in i N) (hv : f i.toNatClampNeg = some t) (kk : am_W d y (pc + 1) ls (.ref t :: st) h n cu su Q) : am_W d y pc ls (.int i :: .ref r :: st) h n cu su Q := by
  intro G p e R s m args below meth c lc H locs C hl hr hL
  obtain ⟨-, cell, q1, q2, q3, q4, q5⟩ := hr.2.2.2.2 r _ ho
  exact W.aald (v := .ref (am_ad G t)) C.exec C.bytes q1 q2 rfl q3 (by rw [q4]; exact hin) (by rw [q5 _ (am_lt hin)]; show some (va_rf ((f i.toNatClampNeg).map (am_ad G))) = _; rw [hv]; rfl) rfl rfl hd (kk G p e R s m args below meth c lc H locs C hl hr hL)
theorem ar_alen {r N : Nat} {f : Nat → Int32} (hd : decode (am_bc y) pc = .ok (.arraylength, 1)) (ho : h[r]? = some (am_ia N f)) (kk : am_W d y (pc + 1) ls (.int (nI N) :: st) h n cu su Q) : am_W d y pc ls (.ref r :: st) h n cu su Q := by
  intro G p e R s m args below meth c lc H locs C hl hr hL
  obtain ⟨-, cell, q1, q2, q3, q4, q5⟩ := hr.2.2.2.2 r _ ho
  exact W.alen (n := nI N) C.exec C.bytes q1 q2 (by rw [q4]; rfl) rfl rfl hd (kk G p e R s m args below meth c lc H locs C hl hr hL)
/-- a static table of the class's own -/
theorem am_gets {G : am_G} {p : Program} {e : Env} {R : Room} {s : State} {m : MethodId} {args : Array Value} {below : List Frame} {meth : Method} {c : Code} {lc : Array Slot} {H : Heap} {locs : List Loc} {rest : List Value} {Qs : State → Prop} {i j : Nat} {nm : String} {v : Value} (C : am_X G d y p e R s m meth c) (hr : am_R am_cl G s h n H) (hd : decode (am_bc y) pc = .ok (.getstatic i, 3)) (hw : tables_1[j]? = some (Jvm.Cond.fieldLink (am_nm y).cls i "AllocateSolve" nm "[I")) (hs : am_sf G s "AllocateSolve" nm "[I" v)
    (kk : W p (am_l G) e R s m args below meth c H locs cu su Qs (F0 m (pc + 3) lc (v :: rest))) : W p (am_l G) e R s m args below meth c H locs cu su Qs (F0 m pc lc rest) := by
  obtain ⟨cc, k, fi, f, a, cell, h1, h2, h3, h4, h5, h6, h7, h8, h9, h10, h11, h12⟩ := hs
  exact W.gets C.exec C.bytes C.own (C.word hw args) h2 h3 h4 h5 (by rw [hr.2.2.2.1 a h12]; exact h6) (fun z => by rw [z] at h7; cases h7) h11 rfl hd kk
theorem ar_least {i j : Nat} (hd : decode (am_bc y) pc = .ok (.getstatic i, 3)) (hw : tables_1[j]? = some (Jvm.Cond.fieldLink (am_nm y).cls i "AllocateSolve" "RULE_LEAST" "[I")) (kk : am_W d y (pc + 3) ls (.ref 1 :: st) h n cu su Q) : am_W d y pc ls st h n cu su Q :=
  fun G p e R s m args below meth c lc H locs C hl hr hL => am_gets C hr hd hw C.kn.2.2.1.1 (kk G p e R s m args below meth c lc H locs C hl hr hL)
theorem ar_most {i j : Nat} (hd : decode (am_bc y) pc = .ok (.getstatic i, 3)) (hw : tables_1[j]? = some (Jvm.Cond.fieldLink (am_nm y).cls i "AllocateSolve" "RULE_MOST" "[I")) (kk : am_W d y (pc + 3) ls (.ref 2 :: st) h n cu su Q) : am_W d y pc ls st h n cu su Q :=
  fun G p e R s m args below meth c lc H locs C hl hr hL => am_gets C hr hd hw C.kn.2.2.1.2.1 (kk G p e R s m args below meth c lc H locs C hl hr hL)
/-- returns -/
theorem am_leave {G : am_G} {s : State} {args : Array Value} {below : List Frame} {H : Heap} {v : Option Value} (hr : am_R am_cl G s h n H) (hq : Q (.inl v) h n) :
    ∀ t : State, MQ below (fun _ s o t => o = .returned (v.map (am_cv G)) ∧ t.heap = H) args s (am_mc y) (am_ms y) (fun q => am_b G ≤ q) t → am_E G y s below Q t := by
  intro t ht
  obtain ⟨o, h1, h2, ⟨rfl, h4⟩, L, ⟨-, h6, h7⟩, h8⟩ := ht
  exact ⟨_, .inl v, h, n, h1, h2, hq, rfl, by rw [h4]; exact hr, h6, L, h7, h8⟩
theorem ar_ireturn {v : Int32} (hd : decode (am_bc y) pc = .ok (.ireturn, 1)) (ht : am_rt y = some .int) (hc : cu ≤ am_mc y) (hs : su ≤ am_ms y) (hq : Q (.inl (some (.int v))) h n) : am_W d y pc ls [.int v] h n cu su Q :=
  fun G p e R s m args below meth c lc H locs C hl hr hL => W.widen hc hs (am_wmono (am_leave hr hq) (W.iret C.exec C.bytes (C.ret.trans ht) (fun t ht hW => ⟨rfl, ht⟩) hL hd C.locks))
theorem ar_zreturn {v : Int32} (hd : decode (am_bc y) pc = .ok (.ireturn, 1)) (ht : am_rt y = some .boolean) (hn : narrow .boolean (.int v) = .int v) (hc : cu ≤ am_mc y) (hs : su ≤ am_ms y) (hq : Q (.inl (some (.int v))) h n) : am_W d y pc ls [.int v] h n cu su Q :=
  fun G p e R s m args below meth c lc H locs C hl hr hL => W.widen hc hs (am_wmono (am_leave hr hq) (W.zret C.exec C.bytes (C.ret.trans ht) hn (fun t ht hW => ⟨rfl, ht⟩) hL hd C.locks))
theorem ar_lreturn {v : Int64} (hd : decode (am_bc y) pc = .ok (.lreturn, 1)) (ht : am_rt y = some .long) (hc : cu ≤ am_mc y) (hs : su ≤ am_ms y) (hq : Q (.inl (some (.long v))) h n) : am_W d y pc ls [.long v] h n cu su Q :=
  fun G p e R s m args below meth c lc H locs C hl hr hL => W.widen hc hs (am_wmono (am_leave hr hq) (W.lret C.exec C.bytes (C.ret.trans ht) (fun t ht hW => ⟨rfl, ht⟩) hL hd C.locks))
theorem ar_return (hd : decode (am_bc y) pc = .ok (.return_, 1)) (ht : am_rt y = none) (hc : cu ≤ am_mc y) (hs : su ≤ am_ms y) (hq : Q (.inl none) h n) : am_W d y pc ls [] h n cu su Q :=
  fun G p e R s m args below meth c lc H locs C hl hr hL => W.widen hc hs (am_wmono (am_leave hr hq) (W.vret C.exec C.bytes (C.ret.trans ht) (fun t ht hW => ⟨rfl, ht⟩) hL hd C.locks))
end AMH
end
section
/-! calls: the callee's walk inside the caller's -/
theorem am_steps {tb : Tables} {e : Env} {mid below : List Frame} {s t : State} (h : Steps tb e (mid ++ below) s t) : Steps tb e below s t := by
  obtain ⟨k, h1, h2⟩ := h
  exact ⟨k, h1, fun j hj => (h2 j hj).weaken⟩
/-- the locals at a method's entry -/
abbrev am_en (z : am_Y) (As : List Value) : List (Option Value) := As.map some ++ List.replicate (am_mx z - As.length) none
/-- the code of z, in the tables -/
def am_co (z : am_Y) (s : State) (mk : MethodId) : Prop := s.methodNamed? (am_nm z) = some mk ∧ ∃ (methk : Method) (ck : Code), s.vm.method? mk = some methk ∧ methk.code = some ck ∧ ck.code = am_bc z ∧ ck.maxLocals = am_mx z ∧ methk.sig.returnType = am_rt z ∧ methk.locks = false ∧ (ck.exceptionTable.toList.map fun x => (x.startPc, x.endPc, x.handlerPc, x.catchType)) = am_hd z
set_option maxRecDepth 20000 in
theorem am_loc {a b q d L : Nat} (h1 : 2 * a + b ≤ 8) (h2 : q ≤ 41) (h3 : 60 * (d + 1) + 400 ≤ L) : 2 * a + b + (q + 11) + (60 * d + 400) ≤ L := by omega
section AMC
variable {G : am_G} {d : Nat} {y z : am_Y} {p : Program} {e : Env} {R : Room} {s : State} {m : MethodId} {args : Array Value} {below : List Frame} {meth : Method} {c : Code} {T : State} {locs : List Loc} {h : am_H} {n cu su : Nat} {Qc : am_O → am_H → Nat → Prop}
theorem am_go (C : am_X G (d + 1) y p e R s m meth c) (X : Stand p (am_l G) e R s m args below meth c T locs cu su) {g : JFrame} (hg : g.method = m) (hsz : g.locals.size = c.maxLocals) {ig : Instr} {len : Nat} (hdg : decode c.code g.pc = .ok (ig, len)) (hW : 2 * g.monitorRoom + (g.stack.map fun v => v.category).sum ≤ 8)
    {mk : MethodId} (hco : am_co z s mk) (hpl : plainName (am_nm z).cls = true) (hmx : am_mx z ≤ 41) {As : List Value} (hA : ∀ v ∈ As, v.category = 1) (hAn : As.length ≤ am_mx z) (hcu : cu + am_mc z ≤ am_mc y) (hsu : su + am_ms z ≤ am_ms y)
    (hr : am_R am_cl G s h n T.heap) (hL : ∀ q ∈ locs, am_b G ≤ q.base) (hcal : am_W d z 0 (am_en z As) [] h n 0 0 Qc) :
    ∃ (o' : am_O) (h' : am_H) (n' : Nat) (T' : State) (locs' : List Loc), Qc o' h' n' ∧ Stand p (am_l G) e R s m args below meth c T' locs' (cu + am_mc z) (su + am_ms z) ∧ am_R am_cl G s h' n' T'.heap ∧ (∀ q ∈ locs', am_b G ≤ q.base) ∧
      ((∃ v : Option Value, o' = .inl v ∧ ∀ acts, Steps p.tables e below (doInvoke e (T.setTop g) acts mk (As.map (am_cv G)).toArray).1 (T'.setTop { g with pc := g.pc + len, stack := (v.map (am_cv G)).toList ++ g.stack })) ∨
       (∃ k i : Nat, o' = .inr (k, i) ∧ k < 5 ∧ (∃ cell : Cell, T'.heap[am_ad G i]? = some cell ∧ cell.vm.isStatics = false ∧ s.vm.findClass (am_xn k) = some cell.cls) ∧ ∀ acts, Steps p.tables e below (doInvoke e (T.setTop g) acts mk (As.map (am_cv G)).toArray).1 ((T'.setTop g).pushFrame (.throwing (am_ad G i))))) := by
  obtain ⟨hnamed, methk, ck, hmk, hck, hbk, hlk, hrk, hlocks, hhk⟩ := hco
  have hmT : T.vm.method? mk = some methk := by rw [X.warmed.alike.method?]; exact hmk
  have hpk : T.plainMethod mk := X.warmed.plainAt (fun k hk => by
    obtain ⟨k2, hk2, hn2⟩ := className_of_methodNamed hnamed
    cases hk.symm.trans hk2
    rw [hn2]; exact hpl)
  obtain ⟨Y, hin⟩ := X.into hg hsz hdg (mk := mk) (methk := methk) (ck := ck) (As.map (am_cv G)).toArray (R' := { frames := d + 12, cells := am_mc z, slots := am_ms z, locals := 60 * d + 400 }) hmT hck hlocks hpk
    (by have := C.frames; show d + 12 + 1 ≤ R.frames; omega) (by rw [hlk]; exact am_loc hW hmx C.locals) (by have := C.cells; show cu + am_mc z ≤ R.cells; omega) (by have := C.slots; show su + am_ms z ≤ R.slots; omega)
  have hal : s.vm.Alike T.vm := X.warmed.alike
  have C' : am_X G d z p e { frames := d + 12, cells := am_mc z, slots := am_ms z, locals := 60 * d + 400 } (T.calling g mk (As.map (am_cv G)).toArray) mk methk ck := by
    refine ⟨C.exec, hbk, hlk, ?_, hrk, hlocks, (name_of_methodNamed hnamed hmk).1, hhk, C.kn.moved (U := T.calling g mk (As.map (am_cv G)).toArray) X.warmed, fun q hq => hr.2.2.2.1 q hq, ?_, C.traces, Nat.le_refl _, Nat.le_refl _, Nat.le_refl _, Nat.le_refl _⟩
    · show T.vm.findClass _ = _
      rw [hal.findClass]
      exact findClass_of_methodNamed hnamed
    · show am_b G ≤ T.heap.size
      have := hr.2.1
      omega
  have hr' : am_R am_cl G (T.calling g mk (As.map (am_cv G)).toArray) h n T.heap := hr.moved hal
  have hl' := am_L.entry G As (am_mx z) hA hAn
  have w := hcal G p e _ _ mk (As.map (am_cv G)).toArray (.java g :: below) methk ck _ T.heap [] C' hl' hr' (fun q hq => by cases hq)
  obtain ⟨t, st, o, o', h', n', hrun, hend, hQ, hoc, hR', hWt, L, hsame, hLL⟩ := w ((T.setTop g).pushFrame (.java (entryFrame mk (As.map (am_cv G)).toArray ck.maxLocals))) rfl Y
  have st' : ∀ acts, Steps p.tables e below (doInvoke e (T.setTop g) acts mk (As.map (am_cv G)).toArray).1 t := by
    intro acts
    rw [hin acts, lg_entry_eq, hlk]
    refine am_steps (mid := [.java g]) ?_
    rw [lg_entry_eq, hlk] at st
    exact st
  match o', hQ, hoc with
  | .inl v, hQ, hoc =>
    obtain rfl : o = .returned (v.map (am_cv G)) := hoc
    obtain ⟨T', X', hWT, hs', rfl⟩ := X.outOf hg hdg hend hWt hsame
    exact ⟨.inl v, h', n', T', locs ++ L, hQ, X', hR'.moved hal.symm, t_lL hL hLL, Or.inl ⟨v, rfl, st'⟩⟩
  | .inr (k, i), hQ, hoc =>
    obtain ⟨rfl, hk5, cell, g1, g2, g3⟩ := hoc
    obtain ⟨T', X', hWT, hs', rfl⟩ := X.outOfThrown hg hend hWt hsame
    refine ⟨.inr (k, i), h', n', T', locs ++ L, hQ, X', hR'.moved hal.symm, t_lL hL hLL, Or.inr ⟨k, i, rfl, hk5, ⟨cell, g1, g2, ?_⟩, st'⟩⟩
    have g3' : T.vm.findClass (am_xn k) = some cell.cls := g3
    rw [hal.findClass] at g3'
    exact g3'
end AMC
end
section
/-! the rules of calls -/
theorem am_co.of {G : am_G} {s : State} (hK : am_kn G s) {z : am_Y} {j : Nat} (hw : tables_1[j]? = some (Jvm.Cond.code (am_nm z) (am_bc z) (am_mx z) (am_rt z))) (hh : am_hd z = []) : ∃ mk, am_co z s mk := by
  have hcode := hK.word hw rfl #[]
  obtain ⟨mk, hnamed⟩ := Cond.code_named hcode
  obtain ⟨methM, cM, h1, h2, h3, h4, h5, h6, h7, -⟩ := Cond.code_spec hnamed hcode
  refine ⟨mk, hnamed, methM, cM, h1, h2, h3, h4, h5, h6, ?_⟩
  have h0 : cM.exceptionTable.size = 0 := by simpa [Array.isEmpty] using h7
  have h9 : cM.exceptionTable.toList = [] := List.eq_nil_of_length_eq_zero (by simpa using h0)
  rw [h9, hh]
  rfl
theorem am_co.ofW {G : am_G} {s : State} (hK : am_kn G s) {z : am_Y} {j : Nat} (hw : tables_1[j]? = some (Jvm.Cond.codeWith (am_nm z) (am_bc z) (am_mx z) (am_rt z) (am_hd z))) : ∃ mk, am_co z s mk := by
  have hcode := hK.word hw rfl #[]
  obtain ⟨mk, methM, cM, h0, h1, h2, h3, h4, h5, h6, h7, -⟩ := Cond.codeWith_spec hcode
  exact ⟨mk, h0, methM, cM, h1, h2, h3, h4, h6, h7, h5⟩
/-- what is said of a callee once: its code's word, its shape -/
def am_Z (z : am_Y) (np : Nat) : Prop := ((∃ j : Nat, tables_1[j]? = some (Jvm.Cond.code (am_nm z) (am_bc z) (am_mx z) (am_rt z)) ∧ am_hd z = []) ∨ ∃ j : Nat, tables_1[j]? = some (Jvm.Cond.codeWith (am_nm z) (am_bc z) (am_mx z) (am_rt z) (am_hd z))) ∧ plainName (am_nm z).cls = true ∧ am_mx z ≤ 41 ∧
  ((am_nm z).cls ≠ "java/lang/invoke/MethodHandle" ∧ (am_nm z).cls ≠ "java/lang/invoke/VarHandle") ∧ (parseMethodDescriptor (am_nm z).desc).map (fun q => q.parameters.length) = some np
theorem am_Z.co {G : am_G} {s : State} (hK : am_kn G s) {z : am_Y} {np : Nat} (hz : am_Z z np) : ∃ mk, am_co z s mk := by
  rcases hz.1 with ⟨j, h1, h2⟩ | ⟨j, h1⟩
  · exact am_co.of hK h1 h2
  · exact am_co.ofW hK h1
theorem am_Z.len {z : am_Y} {np : Nat} (hz : am_Z z np) : ∀ sig, parseMethodDescriptor (am_nm z).desc = some sig → np = sig.parameters.length := by
  intro sig hs
  have h2 := hz.2.2.2.2
  rw [hs] at h2
  exact (Option.some.inj h2).symm
section AMD
variable {G : am_G} {d : Nat} {y z : am_Y} {p : Program} {e : Env} {R : Room} {s : State} {m : MethodId} {args : Array Value} {below : List Frame} {meth : Method} {c : Code} {T : State} {locs : List Loc} {h : am_H} {n cu su : Nat} {Q Qc : am_O → am_H → Nat → Prop}
/-- no handler of the method covers pc -/
def am_nh (y : am_Y) (pc : Nat) : Bool := (am_hd y).all fun q => !(decide (q.1 ≤ pc) && decide (pc < q.2.1))
theorem am_nh_out (C : am_X G d y p e R s m meth c) {pc : Nat} (hh : am_nh y pc = true) : ∀ x ∈ c.exceptionTable.toList, covers x pc = false := by
  intro x hx
  have hm : (x.startPc, x.endPc, x.handlerPc, x.catchType) ∈ am_hd y := by
    rw [← C.hand]
    exact List.mem_map.mpr ⟨x, hx, rfl⟩
  have h1 := List.all_eq_true.mp hh _ hm
  simp only [Bool.not_eq_true'] at h1
  exact h1
/-- an exception leaves the method -/
theorem am_out (C : am_X G d y p e R s m meth c) (X : Stand p (am_l G) e R s m args below meth c T locs cu su) (hcu : cu ≤ am_mc y) (hsu : su ≤ am_ms y) {g : JFrame} (hg : g.method = m) (hlk : g.locked = none) (hen : g.entered = []) (hh : am_nh y g.pc = true)
    (hr : am_R am_cl G s h n T.heap) (hL : ∀ q ∈ locs, am_b G ≤ q.base) {k i : Nat} (hk : k < 5) (hce : ∃ cell : Cell, T.heap[am_ad G i]? = some cell ∧ cell.vm.isStatics = false ∧ s.vm.findClass (am_xn k) = some cell.cls) (hq : Q (.inr (k, i)) h n) :
    ∃ t, Steps p.tables e below ((T.setTop g).pushFrame (.throwing (am_ad G i))) t ∧ am_E G y s below Q t := by
  obtain ⟨h1, h2, h3, h4, h5⟩ := X.leaveThrown (am_ad G i) hg hlk hen (am_nh_out C hh) C.locks
  exact ⟨_, h1, _, .inr (k, i), h, n, h2, h3, hq, ⟨rfl, hk, hce⟩, hr, h4, locs, h5.mono hcu hsu, hL⟩
/-- behind a call: it came back, or it threw -/
theorem am_behind (C : am_X G (d + 1) y p e R s m meth c) (X : Stand p (am_l G) e R s m args below meth c T locs cu su) {pc : Nat} {lc : Array Slot} {ls : List (Option Value)} {st : List Value} (hl : am_L G lc ls) (hls : ls.length = am_mx y) {ig : Instr} (hdg : decode c.code pc = .ok (ig, 3)) (hst : (st.map fun v => v.category).sum ≤ 8)
    {np : Nat} (hz : am_Z z np) {mk : MethodId} (hco : am_co z s mk) {As : List Value} (hA : ∀ v ∈ As, v.category = 1) (hAn : As.length ≤ am_mx z) (hcu : cu + am_mc z ≤ am_mc y) (hsu : su + am_ms z ≤ am_ms y)
    (hr : am_R am_cl G s h n T.heap) (hL : ∀ q ∈ locs, am_b G ≤ q.base) (hcal : am_W d z 0 (am_en z As) [] h n 0 0 Qc) (hh : am_nh y pc = true)
    (kk : ∀ (v : Option Value) (h' : am_H) (n' : Nat), Qc (.inl v) h' n' → am_W (d + 1) y (pc + 3) ls (v.toList ++ st) h' n' (cu + am_mc z) (su + am_ms z) Q)
    (kt : ∀ (k i : Nat) (h' : am_H) (n' : Nat), Qc (.inr (k, i)) h' n' → Q (.inr (k, i)) h' n') :
    ∃ t, (∀ acts, Steps p.tables e below (doInvoke e (T.setTop (F0 m pc lc (st.map (am_cv G)))) acts mk (As.map (am_cv G)).toArray).1 t) ∧ am_E G y s below Q t := by
  obtain ⟨o', h', n', T', locs', hQ, X', hr', hL', hor⟩ := am_go C X (g := F0 m pc lc (st.map (am_cv G))) rfl (by show lc.size = _; rw [hl.1, hls, C.maxL]) hdg (by show 2 * 0 + _ ≤ 8; rw [am_cv_sum]; omega) hco hz.2.1 hz.2.2.1 hA hAn hcu hsu hr hL hcal
  rcases hor with ⟨v, rfl, st1⟩ | ⟨k, i, rfl, hk5, hce, st1⟩
  · obtain ⟨t, a, b⟩ := kk v h' n' hQ G p e R s m args below meth c lc T'.heap locs' C hl hr' hL' T' rfl X'
    refine ⟨t, fun acts => (st1 acts).trans ?_, b⟩
    have he : (v.map (am_cv G)).toList ++ st.map (am_cv G) = (v.toList ++ st).map (am_cv G) := by cases v <;> simp
    rw [show ((F0 m pc lc (st.map (am_cv G))).stack) = st.map (am_cv G) from rfl, he]
    exact a
  · obtain ⟨t, a, b⟩ := am_out (Q := Q) C X' hcu hsu (g := F0 m pc lc (st.map (am_cv G))) rfl rfl rfl hh hr' hL' hk5 hce (kt k i h' n' hQ)
    exact ⟨t, fun acts => (st1 acts).trans a, b⟩
end AMD
section AMS
variable {d : Nat} {y z : am_Y} {pc : Nat} {ls : List (Option Value)} {st : List Value} {h : am_H} {n cu su : Nat} {Q Qc : am_O → am_H → Nat → Prop}
/-- invokevirtual -/
theorem ar_callv {i j1 j2 r ci : Nat} {q : vw_C} {fs As : List Value} (hd : decode (am_bc y) pc = .ok (.invokevirtual i, 3)) (hlk : tables_1[j1]? = some (Jvm.Cond.methodLink (am_nm y).cls i (am_nm z))) (hin : tables_1[j2]? = some (Jvm.Cond.instanceMethod (am_nm z))) (hc : am_cl[ci]? = some q) (hse : Jvm.Cond.selects q.1 (am_nm z) (am_nm z) ∈ lw_tbl) (hz : am_Z z As.length) (ho : h[r]? = some (am_ob ci fs))
    (hls : ls.length = am_mx y) (hst : (st.map fun v => v.category).sum ≤ 8) (hA : ∀ v ∈ As, v.category = 1) (hAn : As.length + 1 ≤ am_mx z) (hcu : cu + am_mc z ≤ am_mc y) (hsu : su + am_ms z ≤ am_ms y) (hh : am_nh y pc = true)
    (hcal : am_W d z 0 (am_en z (.ref r :: As)) [] h n 0 0 Qc)
    (kk : ∀ (v : Option Value) (h' : am_H) (n' : Nat), Qc (.inl v) h' n' → am_W (d + 1) y (pc + 3) ls (v.toList ++ st) h' n' (cu + am_mc z) (su + am_ms z) Q)
    (kt : ∀ (k i : Nat) (h' : am_H) (n' : Nat), Qc (.inr (k, i)) h' n' → Q (.inr (k, i)) h' n') : am_W (d + 1) y pc ls (As.reverse ++ .ref r :: st) h n cu su Q := by
  intro G p e R s m args below meth c lc H locs C hl hr hL T hT X
  subst hT
  obtain ⟨mk, hco⟩ := hz.co C.kn
  obtain ⟨hnamed, methk, ck, hmk, -⟩ := id hco
  obtain ⟨mk', methM, hnamed', hmethM, hstM, habM⟩ := Cond.instanceMethod_spec (C.word hin args)
  cases hnamed.symm.trans hnamed'
  obtain ⟨-, rr, h1, cell, q1, q2, q3, q4⟩ := hr.2.2.2.2 r _ ho
  obtain ⟨hS, hfc, kC, hkC, hkind⟩ := C.kn.2.1 ci _ hc
  obtain ⟨c2, r2, m2, g1, g2, g3, g4, kP, hkP, hkPi⟩ := Cond.selects_spec (C.kn.sel hse rfl args)
  have hcell : s.vm.findClass q.1 = some cell.cls := by rw [q2]; exact hfc
  cases hcell.symm.trans g1
  cases (State.methodFound?_of_named hnamed hz.2.2.2.1).symm.trans g2
  cases hnamed.symm.trans g3
  have hselP : selectMethod e.platform s.vm cell.cls mk = .method mk := by rw [Launch.admits_selectMethod X.admits]; exact g4
  have hsig : parseMethodDescriptor (am_nm z).desc = some methM.sig := by
    rcases hz.1 with ⟨j, w1, -⟩ | ⟨j, w1⟩
    · obtain ⟨mt, cM, e1, -, -, -, -, -, -, e2⟩ := Cond.code_spec hnamed (C.word w1 args)
      cases hmethM.symm.trans e1
      exact e2
    · obtain ⟨mm, mt, cM, e0, e1, -, -, -, -, -, -, e2⟩ := Cond.codeWith_spec (C.word w1 args)
      cases hnamed.symm.trans e0
      cases hmethM.symm.trans e1
      exact e2
  obtain ⟨vm₁, X₁, hstep₁⟩ := X.invokevirtual C.exec C.own (C.word hlk args) hnamed hmethM hstM hkP hkPi hz.2.2.2.1 (a := am_ad G r) (cell := cell) q1
    (fun w hw => by rw [q3] at hw; cases hw) hselP hmethM habM hkP hkPi (g := F0 m pc lc ((As.reverse ++ .ref r :: st).map (am_cv G))) rfl (argsL := As.map (am_cv G)) (rest := st.map (am_cv G)) (by rw [List.length_map]; exact hz.len _ hsig)
    (by show (As.reverse ++ .ref r :: st).map (am_cv G) = _; simp [am_cv]) (by rw [C.bytes]; exact hd)
  obtain ⟨t, a, b⟩ := am_behind (As := .ref r :: As) C X₁ hl hls (by rw [C.bytes]; exact hd) hst hz hco (fun v hv => by
    rcases List.mem_cons.mp hv with rfl | hv
    · rfl
    · exact hA v hv) (by simpa using hAn) hcu hsu hr hL hcal hh kk kt
  exact ⟨t, hstep₁ _ (fun acts => a acts), b⟩
/-- invokestatic -/
theorem ar_calls {i j1 j2 j3 : Nat} {As : List Value} (hd : decode (am_bc y) pc = .ok (.invokestatic i, 3)) (hlk : tables_1[j1]? = some (Jvm.Cond.methodLink (am_nm y).cls i (am_nm z))) (hsta : tables_1[j2]? = some (Jvm.Cond.static (am_nm z))) (hini : tables_1[j3]? = some (Jvm.Cond.initialized (am_nm z).cls)) (hz : am_Z z As.length)
    (hls : ls.length = am_mx y) (hst : (st.map fun v => v.category).sum ≤ 8) (hA : ∀ v ∈ As, v.category = 1) (hAn : As.length ≤ am_mx z) (hcu : cu + am_mc z ≤ am_mc y) (hsu : su + am_ms z ≤ am_ms y) (hh : am_nh y pc = true)
    (hcal : am_W d z 0 (am_en z As) [] h n 0 0 Qc)
    (kk : ∀ (v : Option Value) (h' : am_H) (n' : Nat), Qc (.inl v) h' n' → am_W (d + 1) y (pc + 3) ls (v.toList ++ st) h' n' (cu + am_mc z) (su + am_ms z) Q)
    (kt : ∀ (k i : Nat) (h' : am_H) (n' : Nat), Qc (.inr (k, i)) h' n' → Q (.inr (k, i)) h' n') : am_W (d + 1) y pc ls (As.reverse ++ st) h n cu su Q := by
  intro G p e R s m args below meth c lc H locs C hl hr hL T hT X
  subst hT
  obtain ⟨mk, hco⟩ := hz.co C.kn
  obtain ⟨hnamed, methM, ck, hmethM, -⟩ := id hco
  have hsig : parseMethodDescriptor (am_nm z).desc = some methM.sig := by
    rcases hz.1 with ⟨j, w1, -⟩ | ⟨j, w1⟩
    · obtain ⟨mt, cM, e1, -, -, -, -, -, -, e2⟩ := Cond.code_spec hnamed (C.word w1 args)
      cases hmethM.symm.trans e1
      exact e2
    · obtain ⟨mm, mt, cM, e0, e1, -, -, -, -, -, -, e2⟩ := Cond.codeWith_spec (C.word w1 args)
      cases hnamed.symm.trans e0
      cases hmethM.symm.trans e1
      exact e2
  have hstatic : methM.isStatic = true := Cond.static_spec hnamed hmethM (C.word hsta args)
  obtain ⟨kP, hkP, -⟩ := className_of_methodNamed hnamed
  have hinitP : kP.init = .initialized := Cond.initialized_spec (findClass_of_methodNamed hnamed) hkP (C.word hini args)
  obtain ⟨vm₁, X₁, hstep₁⟩ := X.invokestatic C.exec C.own (C.word hlk args) hnamed hmethM hstatic hkP hinitP hz.2.2.2.1 (g := F0 m pc lc ((As.reverse ++ st).map (am_cv G))) rfl (argsL := As.map (am_cv G)) (rest := st.map (am_cv G)) (by rw [List.length_map]; exact hz.len _ hsig)
    (by show (As.reverse ++ st).map (am_cv G) = _; simp) (by rw [C.bytes]; exact hd)
  obtain ⟨t, a, b⟩ := am_behind (As := As) C X₁ hl hls (by rw [C.bytes]; exact hd) hst hz hco hA hAn hcu hsu hr hL hcal hh kk kt
  exact ⟨t, hstep₁ _ (fun acts => a acts), b⟩
end AMS
end
section
/-! a throw: new X("a written text"), thrown where no handler of the method covers it -/
abbrev am_rx : String := "java/lang/RuntimeException"
def am_xsp (X : String) : List Cond := [.laysStatic tN_ "UNASSIGNED_STACK" am_steD, .laysStatic tN_ "SUPPRESSED_SENTINEL" am_lstD, .castable X X, .declares ⟨"java/lang/RuntimeException", "<init>", "(Ljava/lang/String;)V"⟩, .declares ⟨"java/lang/Exception", "<init>", "(Ljava/lang/String;)V"⟩, .declares ⟨"java/lang/Throwable", "<init>", "(Ljava/lang/String;)V"⟩]
/-- where the class calls an exception's constructor, and where that goes on: the entries, by the kind -/
def am_xi (k : Nat) : Nat := match k with
  | 0 => 183
  | 1 => 53
  | 2 => 128
  | 3 => 154
  | _ => 165
def am_xp (k : Nat) : Nat := match k with
  | 2 => 13
  | _ => 7
def am_xb (k : Nat) : ByteArray := match k with
  | 2 => ⟨#[0x2a, 0x2b, 0xb7, 0x00, 0x0d, 0xb1]⟩
  | _ => ⟨#[0x2a, 0x2b, 0xb7, 0x00, 0x07, 0xb1]⟩
theorem am_xb_ok {k : Nat} (hk : k < 5) : decode (am_xb k) 0 = .ok (.aload_n 0, 1) ∧ decode (am_xb k) 1 = .ok (.aload_n 1, 1) ∧ decode (am_xb k) 2 = .ok (.invokespecial (am_xp k), 3) ∧ decode (am_xb k) 5 = .ok (.return_, 1) := by
  match k, hk with
  | 0, _ => exact ⟨by decide +kernel, by decide +kernel, by decide +kernel, by decide +kernel⟩
  | 1, _ => exact ⟨by decide +kernel, by decide +kernel, by decide +kernel, by decide +kernel⟩
  | 2, _ => exact ⟨by decide +kernel, by decide +kernel, by decide +kernel, by decide +kernel⟩
  | 3, _ => exact ⟨by decide +kernel, by decide +kernel, by decide +kernel, by decide +kernel⟩
  | 4, _ => exact ⟨by decide +kernel, by decide +kernel, by decide +kernel, by decide +kernel⟩
theorem am_xn_ok {k : Nat} (hk : k < 5) : plainName (am_xn k) = true ∧ (am_xn k ≠ "java/lang/invoke/MethodHandle" ∧ am_xn k ≠ "java/lang/invoke/VarHandle") := by
  match k, hk with
  | 0, _ => exact ⟨by decide +kernel, by decide +kernel, by decide +kernel⟩
  | 1, _ => exact ⟨by decide +kernel, by decide +kernel, by decide +kernel⟩
  | 2, _ => exact ⟨by decide +kernel, by decide +kernel, by decide +kernel⟩
  | 3, _ => exact ⟨by decide +kernel, by decide +kernel, by decide +kernel⟩
  | 4, _ => exact ⟨by decide +kernel, by decide +kernel, by decide +kernel⟩
/-- the words that a throw of kind k needs -/
def am_o1 (k : Nat) : List Cond := Jvm.Bundle.passSAtoms (am_xn k) am_rx (am_xp k) (am_xb k)
def am_o2 : List Cond := Jvm.Bundle.chainSAtoms am_rx ["java/lang/Exception"]
def am_o3 (k : Nat) : List Cond := [.methodLink "AllocateSolve" (am_xi k) (Jvm.Bundle.initS (am_xn k)), .instantiable (am_xn k) 6, .selects (am_xn k) Jvm.Bundle.tFill0 Jvm.Bundle.tFill0, .selects (am_xn k) Jvm.Bundle.tFill Jvm.Bundle.tFill,
   .lays (am_xn k) tN_ "cause" "Ljava/lang/Throwable;", .lays (am_xn k) tN_ "stackTrace" am_steD, .lays (am_xn k) tN_ "suppressedExceptions" am_lstD, .lays (am_xn k) tN_ "detailMessage" "Ljava/lang/String;",
   .fieldLink tN_ 198 tN_ "backtrace" "Ljava/lang/Object;", .lays tN_ tN_ "backtrace" "Ljava/lang/Object;", .lays (am_xn k) tN_ "backtrace" "Ljava/lang/Object;"]
theorem kx_t : ∀ w ∈ Jvm.Bundle.throwableAtoms ++ Jvm.Bundle.throwableSAtoms ++ am_o2, (w ∈ lw_tbl ∧ goodWord w = true) ∨ w ∈ am_xsp "" := by decide +kernel
theorem kx_0 : ∀ w ∈ am_o1 0 ++ am_o3 0, (w ∈ lw_tbl ∧ goodWord w = true) ∨ w ∈ am_xsp (am_xn 0) := by decide +kernel
theorem kx_1 : ∀ w ∈ am_o1 1 ++ am_o3 1, (w ∈ lw_tbl ∧ goodWord w = true) ∨ w ∈ am_xsp (am_xn 1) := by decide +kernel
theorem kx_2 : ∀ w ∈ am_o1 2 ++ am_o3 2, (w ∈ lw_tbl ∧ goodWord w = true) ∨ w ∈ am_xsp (am_xn 2) := by decide +kernel
theorem kx_3 : ∀ w ∈ am_o1 3 ++ am_o3 3, (w ∈ lw_tbl ∧ goodWord w = true) ∨ w ∈ am_xsp (am_xn 3) := by decide +kernel
theorem kx_4 : ∀ w ∈ am_o1 4 ++ am_o3 4, (w ∈ lw_tbl ∧ goodWord w = true) ∨ w ∈ am_xsp (am_xn 4) := by decide +kernel
theorem kx_all {k : Nat} (hk : k < 5) : ∀ w ∈ am_o1 k ++ am_o3 k, (w ∈ lw_tbl ∧ goodWord w = true) ∨ w ∈ am_xsp (am_xn k) := by
  match k, hk with
  | 0, _ => exact kx_0
  | 1, _ => exact kx_1
  | 2, _ => exact kx_2
  | 3, _ => exact kx_3
  | 4, _ => exact kx_4
theorem am_cast {G : am_G} {s : State} (hK : am_kn G s) {k : Nat} (hk : k < 5) (args : Array Value) : (Cond.castable (am_xn k) (am_xn k)).before args s = true := by
  obtain ⟨h1, h2, h3, h6, h7, h8, h9, h10, h11, h13, h12⟩ := hK
  obtain ⟨c1, c2, e1, e2, e3⟩ := h12 k k hk hk
  cases e1.symm.trans e2
  simp only [decide_true] at e3
  simp [Cond.before, Cond.holds, Cond.value, e1, e3]
theorem am_sp {G : am_G} {s : State} (hK : am_kn G s) (hH : ∀ q : Nat, q < am_b G → s.heap[q]? = (am_B G)[q]?) {X : String} (hX : X = "" ∨ ∃ k, k < 5 ∧ X = am_xn k) {w : Cond} (hw : (w ∈ lw_tbl ∧ goodWord w = true) ∨ w ∈ am_xsp X) (hn : w ≠ .castable "" "") (args : Array Value) : w.before args s = true := by
  obtain ⟨h1, h2, h3, ⟨v6, g6, h6⟩, ⟨v7, g7, h7⟩, h8, h9, h10, h11, h13, h12⟩ := id hK
  rcases hw with ⟨w1, w2⟩ | hsp
  · exact hK.sel w1 w2 args
  · simp only [am_xsp, List.mem_cons, List.not_mem_nil, or_false] at hsp
    rcases hsp with rfl | rfl | rfl | rfl | rfl | rfl
    · exact h6.lays hH args
    · exact h7.lays hH args
    · rcases hX with rfl | ⟨k, hk, rfl⟩
      · exact absurd rfl hn
      · exact am_cast hK hk args
    · exact va_Nw.use rfl (h13 _ (by decide))
    · exact va_Nw.use rfl (h13 _ (by decide))
    · exact va_Nw.use rfl (h13 _ (by decide))
theorem kx_nc : ∀ w ∈ Jvm.Bundle.throwableAtoms ++ Jvm.Bundle.throwableSAtoms ++ am_o2, w ≠ .castable "" "" := by
  intro w hw hc
  subst hc
  simp [Jvm.Bundle.throwableAtoms, Jvm.Bundle.throwableSAtoms, am_o2, Jvm.Bundle.chainSAtoms, Jvm.Bundle.passSAtoms] at hw
theorem am_aT {G : am_G} {s : State} (hK : am_kn G s) (hH : ∀ q : Nat, q < am_b G → s.heap[q]? = (am_B G)[q]?) (args : Array Value) : ∀ w ∈ Jvm.Bundle.throwableAtoms ++ Jvm.Bundle.throwableSAtoms ++ am_o2, w.before args s = true :=
  fun w hw => am_sp hK hH (Or.inl rfl) (kx_t w hw) (kx_nc w hw) args
theorem am_xn_ne {k : Nat} (hk : k < 5) : am_xn k ≠ "" := by
  match k, hk with
  | 0, _ => decide
  | 1, _ => decide
  | 2, _ => decide
  | 3, _ => decide
  | 4, _ => decide
theorem am_aX {G : am_G} {s : State} (hK : am_kn G s) (hH : ∀ q : Nat, q < am_b G → s.heap[q]? = (am_B G)[q]?) {k : Nat} (hk : k < 5) (args : Array Value) : ∀ w ∈ am_o1 k ++ am_o3 k, w.before args s = true := fun w hw =>
  am_sp hK hH (Or.inr ⟨k, hk, rfl⟩) (kx_all hk w hw) (fun hc => by
    subst hc
    simp [am_o1, am_o3, Jvm.Bundle.passSAtoms] at hw) args
end
section
/-! the walk of a throw -/
section AMT
variable {G : am_G} {d : Nat} {y : am_Y} {p : Program} {e : Env} {R : Room} {s : State} {m : MethodId} {args : Array Value} {below : List Frame} {meth : Method} {c : Code} {T : State} {locs : List Loc} {h : am_H} {n cu su : Nat} {Q : am_O → am_H → Nat → Prop}
set_option maxHeartbeats 4000000 in
set_option maxRecDepth 20000 in
theorem am_thr (C : am_X G d y p e R s m meth c) (hy : (am_nm y).cls = "AllocateSolve") (X : Stand p (am_l G) e R s m args below meth c T locs cu su) (hr4 : ∀ q : Nat, q < am_b G → T.heap[q]? = (am_B G)[q]?) {k : Nat} (hk : k < 5) {a : Addr} {cX : ClassId} {kX : Class} (hfX : s.vm.findClass (am_xn k) = some cX) (hkX : s.vm.classes[cX]? = some kX) (hcell : T.heap[a]? = some (freshCell cX kX)) (hnew : am_b G ≤ a)
    {msg : Value} (hmsg : msg.isRef = true) {g : JFrame} (hg : g.method = m) (hsz : g.locals.size = c.maxLocals) (hlk : g.locked = none) (hen : g.entered = []) {rest : List Value} (hstack : g.stack = msg :: .ref a :: .ref a :: rest) (hmr : 2 * g.monitorRoom + (rest.map fun v => v.category).sum ≤ 8)
    (hd6 : decode c.code g.pc = .ok (.invokespecial (am_xi k), 3)) (hd9 : decode c.code (g.pc + 3) = .ok (.athrow, 1)) (hh : am_nh y (g.pc + 3) = true) :
    ∃ (U : State) (L : List Loc), Steps p.tables e below (T.setTop g) U ∧ U.status = .running ∧ Ended U below (.threw a) ∧ s.WarmedH U.vm ∧ s.sameButNew ({ U with vm := s.vm } : State) (locs ++ L) cu su ∧ (∀ q ∈ L, q.base = a) ∧ U.heap.size = T.heap.size ∧ (∀ q : Nat, q ≠ a → U.heap[q]? = T.heap[q]?) ∧ ∃ ce : Cell, U.heap[a]? = some ce ∧ ce.cls = cX ∧ ce.vm = .none := by
  have howns : e.platform.frameOwnsMonitors = true := by rw [X.admits.platform]
  have hfin : e.platform.finalization = false := by rw [X.admits.platform]
  have hpl : e.platform.magicAccessors = ({} : Platform).magicAccessors := by rw [X.admits.platform]
  have aT := am_aT C.kn C.old args
  have aX := am_aX C.kn C.old hk args
  have bX : ∀ w ∈ am_o3 k, w.holds args s none s [] = true := fun w hw => aX w (List.mem_append_right _ hw)
  obtain ⟨TT, Z0, L, -, Y⟩ := ThrowableC.of_atoms (args := args) howns hfin hpl (fun x hx => aT x (List.mem_append_left _ (List.mem_append_left _ hx)))
  obtain ⟨Z, M, LZ, LM, hnZ⟩ := Init0T.ofS_atoms (args := args) hpl L Y (fun x hx => aT x (List.mem_append_left _ (List.mem_append_right _ hx)))
  obtain ⟨P2, Ps, hlen, L2, hL, hP2m, hlink2, hlink⟩ := Jvm.Bundle.chainS (args := args) hpl hnZ ["java/lang/Exception"] am_rx (by decide +kernel) (by decide +kernel) (fun x hx => aT x (List.mem_append_right _ hx))
  obtain ⟨q0, q1, q2, q5⟩ := am_xb_ok hk
  obtain ⟨P1, L1, hP1m, hP1s⟩ := PassC.ofS_atoms (args := args) (s := s) hpl (X := am_xn k) (Y := am_rx) (am_xn_ok hk).1 (by decide +kernel) q0 q1 q2 q5 (fun x hx => aX x (List.mem_append_left _ hx))
  have hfound : s.vm.findClass (am_xn k) = some P1.m.cls := findClass_of_methodNamed hP1m
  cases Option.some.inj (hfX.symm.trans hfound)
  have hP1sup : P1.sup = P2.m := Option.some.inj (hP1s.symm.trans hP2m)
  obtain ⟨c1, kX', hc1, hk1, hord, -, -, hn6⟩ := Cond.instantiable_spec (bX (.instantiable (am_xn k) 6) (by simp [am_o3]))
  cases Option.some.inj (hc1.symm.trans hfound)
  cases Option.some.inj (hkX.symm.trans hk1)
  have hsel0 : selectMethod e.platform s.vm P1.m.cls TT.fill0 = .method TT.fill0 := by
    obtain ⟨c2, r2, m2, g1, g2, g3, g4, -⟩ := Cond.selects_spec (bX (.selects (am_xn k) Jvm.Bundle.tFill0 Jvm.Bundle.tFill0) (by simp [am_o3]))
    cases Option.some.inj (g1.symm.trans hfound)
    cases Option.some.inj (g2.symm.trans (State.methodFound?_of_named Y.fill0 (by decide)))
    cases Option.some.inj (g3.symm.trans Y.fill0)
    rw [Launch.admits_selectMethod X.admits]; exact g4
  have hselF : selectMethod e.platform s.vm P1.m.cls TT.fill = .method TT.fill := by
    obtain ⟨c2, r2, m2, g1, g2, g3, g4, -⟩ := Cond.selects_spec (bX (.selects (am_xn k) Jvm.Bundle.tFill Jvm.Bundle.tFill) (by simp [am_o3]))
    cases Option.some.inj (g1.symm.trans hfound)
    cases Option.some.inj (g2.symm.trans (State.methodFound?_of_named Y.fill (by decide)))
    cases Option.some.inj (g3.symm.trans Y.fill)
    rw [Launch.admits_selectMethod X.admits]; exact g4
  obtain ⟨-, -, -, ⟨v6, g6, u1, u2, u3, u4, u5, u6, w1, w2, w3, w4, w5, w6, w7, w8, w9, w10, w11, w12⟩, ⟨v7, g7, x1, x2, x3, x4, x5, x6, z1, z2, z3, z4, z5, z6, z7, z8, z9, z10, z11, z12⟩, -⟩ := C.kn
  have eU := Option.some.inj (w2.symm.trans Y.unassigned)
  have eS := Option.some.inj (z2.symm.trans Y.sentinel)
  simp only [Prod.mk.injEq] at eU eS
  obtain ⟨rfl, rfl, rfl, rfl⟩ := eU
  obtain ⟨-, rfl, -, rfl⟩ := eS
  have ea : u5 = TT.aS := Option.some.inj (w5.symm.trans L.statics)
  have eb : x5 = TT.aS := Option.some.inj (z5.symm.trans L.statics)
  subst eb
  rw [ea] at w6 w12
  have ec : u6 = x6 := Option.some.inj (w6.symm.trans z6)
  subst ec
  have hcellS : T.heap[TT.aS]? = some u6 := by rw [hr4 _ w12]; exact w6
  have hneS : TT.aS ≠ a := Nat.ne_of_lt (Nat.lt_of_lt_of_le w12 hnew)
  have hknownS : u6.vm ≠ .unknown := fun hu => by rw [hu] at w7; cases w7
  obtain ⟨ci198, i198, fB, hk198, hg198, ha198, hsB, -, hnB, htB, hffB⟩ := Cond.ownField (t := .object "java/lang/Object") Y.found L.cls (by decide +kernel) (bX (.fieldLink tN_ 198 tN_ "backtrace" "Ljava/lang/Object;") (by simp [am_o3])) (bX (.lays tN_ tN_ "backtrace" "Ljava/lang/Object;") (by simp [am_o3])) e.platform hpl
  obtain ⟨iM, hffM⟩ := Y.msg
  obtain ⟨tyC, dC, hdC, hdnC⟩ := Cond.laysAt hfound hkX Y.cause (bX (.lays (am_xn k) tN_ "cause" "Ljava/lang/Throwable;") (by simp [am_o3]))
  obtain ⟨tyS, dS, hdS, hdnS⟩ := Cond.laysAt hfound hkX Y.stack (bX (.lays (am_xn k) tN_ "stackTrace" am_steD) (by simp [am_o3]))
  obtain ⟨tyP, dP, hdP, hdnP⟩ := Cond.laysAt hfound hkX Y.supp (bX (.lays (am_xn k) tN_ "suppressedExceptions" am_lstD) (by simp [am_o3]))
  obtain ⟨tyM, dM, hdM, hdnM⟩ := Cond.laysAt hfound hkX hffM (bX (.lays (am_xn k) tN_ "detailMessage" "Ljava/lang/String;") (by simp [am_o3]))
  obtain ⟨tyB, dB, hdB, hdnB⟩ := Cond.laysAt hfound hkX hffB (bX (.lays (am_xn k) tN_ "backtrace" "Ljava/lang/Object;") (by simp [am_o3]))
  have bC := Cond.laysApart hdB hdC hdnB hdnC (by rw [hnB, Y.causeName]; decide)
  have bS := Cond.laysApart hdB hdS hdnB hdnS (by rw [hnB, Y.stackName]; decide)
  have bP := Cond.laysApart hdB hdP hdnB hdnP (by rw [hnB, Y.suppName]; decide)
  have hskip : SkipFacts TT e.platform s (fun u => u) ⟨v6, g6⟩ ((preparedCellV TT.toThrowableT (freshCell P1.m.cls kX) a ⟨v6, g6⟩ ⟨v7, g7⟩).withEntry T.cur) :=
    ⟨{ ci198 := ci198, i198 := i198, fBack := fB }, ⟨hk198, hg198, ha198, hsB⟩, by
      have := fresh_default (c := P1.m.cls) tyB
      rw [htB] at this
      simpa [preparedCellV, Cell.setSlot, Cell.withEntry, Array.getElem?_setIfInBounds, bC, bS, bP, bC.symm, bS.symm, bP.symm, defaultValue] using this, fun _ _ => rfl⟩
  obtain ⟨tm, methC, cdC, kC, vm₁, hnC, -, -, -, -, -, -, -, hW₁, st1⟩ := Steps.initColdS (tb := p.tables) (e := e) (below := below) (s := s) (U := T) X.here C.exec X.warmed hpl (by rw [← hy]; exact C.own) (t := Jvm.Bundle.initS (am_xn k)) rfl rfl (am_xn_ok hk).2
    (bX (.methodLink "AllocateSolve" (am_xi k) (Jvm.Bundle.initS (am_xn k))) (by simp [am_o3])) (aX (.instanceMethod (Jvm.Bundle.initS (am_xn k))) (List.mem_append_left _ (by simp [am_o1, Jvm.Bundle.passSAtoms]))) (bytes := am_xb k) (maxL := 2) (aX (.code (Jvm.Bundle.initS (am_xn k)) (am_xb k) 2 none) (List.mem_append_left _ (by simp [am_o1, Jvm.Bundle.passSAtoms])))
    (f := g) hg (a := a) (msg := msg) (rest := .ref a :: rest) hstack hd6
  cases Option.some.inj (hnC.symm.trans hP1m)
  have X₁ := X.noted hW₁
  have hfr := C.frames
  have hlo := C.locals
  obtain ⟨vm₂, X₂, st2⟩ := X₁.ctorMessageOffV C.exec (g := { g with stack := .ref a :: rest }) hg hsz TT L Z LZ M LM (P1 :: P2 :: Ps)
    (fun P hP => by
      rcases List.mem_cons.mp hP with rfl | hP
      · exact L1
      rcases List.mem_cons.mp hP with rfl | hP
      · exact L2
      · exact hL P hP) ⟨hP1sup, hlink2, hlink⟩ (u0 := ⟨v6, g6⟩) (sen := ⟨v7, g7⟩) (self := a) hmsg (cell := freshCell P1.m.cls kX) (cellS := u6)
    hcell (fun _ => by simp) (by simp) rfl rfl hsel0 hselF hcellS hneS hknownS w11 z11
    (Takes.of_laid hkX hord tyC (by rw [Y.causeType]; rfl)) (Takes.of_laid hkX hord tyS (by rw [Y.stackType]; exact fits_refV_array _ ⟨v6, g6⟩)) (Takes.of_laid hkX hord tyP (by rw [Y.suppType]; exact fits_refV_object _ ⟨v7, g7⟩))
    (Takes.of_laid hkX hord tyM (by rw [Y.msgType]; exact fits_refV_object _ ⟨msg, hmsg⟩)) Y.objLocals hskip C.traces [] hd6
    (by simp only [List.length_cons, hlen, List.length_nil]; omega) (by
      simp only [List.length_cons, hlen, List.length_nil, List.map_cons, List.sum_cons]
      show 2 * g.monitorRoom + (1 + (rest.map fun v => v.category).sum) + (13 * (0 + 1 + 1 + 1) + 42) ≤ R.locals
      omega)
  obtain ⟨hwalk, hrun, hended, hWU, hsame⟩ := X₂.athrowLeaves C.exec (g := { g with stack := .ref a :: rest, pc := g.pc + 3 }) hg hlk hen (am_nh_out C hh) (a := a) (rest := rest) rfl hd9 C.locks
  have hlt : a < ((T.setVm vm₁).setVm vm₂).heap.size := (Array.getElem?_eq_some_iff.mp hcell).1
  refine ⟨_, [⟨a, TT.fCause.slot⟩, ⟨a, TT.fStack.slot⟩, ⟨a, TT.fSupp.slot⟩, ⟨a, TT.fStack.slot⟩, ⟨a, TT.fMsg.slot⟩], st1 _ (fun acts => ?_), hrun, hended, hWU, hsame, fun q hq => ?_, ?_, fun q hq => ?_, _, heapAt_setCell_self (s := (T.setVm vm₁).setVm vm₂) (plainBareV TT.toThrowableT (freshCell P1.m.cls kX) a ⟨v6, g6⟩ ⟨v7, g7⟩ msg) hlt, rfl, rfl⟩
  · rw [doInvoke_state]
    exact st2 _ hwalk
  · simp only [List.mem_cons, List.not_mem_nil, or_false] at hq
    rcases hq with rfl | rfl | rfl | rfl | rfl <;> rfl
  · exact size_setCell ((T.setVm vm₁).setVm vm₂) a _
  · exact heapAt_setCell_ne (s := (T.setVm vm₁).setVm vm₂) _ (Ne.symm hq)
end AMT
end
section
/-! throws, Math.min and Math.max, Object's constructor, new objects and arrays -/
theorem kw_oi : tables_1[23]? = some (Jvm.Cond.instanceMethod ⟨"java/lang/Object", "<init>", "()V"⟩) := rfl
theorem kw_oc : tables_1[24]? = some (Jvm.Cond.code ⟨"java/lang/Object", "<init>", "()V"⟩ ⟨#[0xb1]⟩ 1 none) := rfl
section AMM
variable {d : Nat} {y z : am_Y} {pc : Nat} {ls : List (Option Value)} {st : List Value} {h : am_H} {n cu su : Nat} {Q Qc : am_O → am_H → Nat → Prop}
theorem ar_throw {i si k j1 j2 j3 : Nat} {tx : String} (hy : (am_nm y).cls = "AllocateSolve") (hk : k < 5) (hd0 : decode (am_bc y) pc = .ok (.new i, 3)) (hd3 : decode (am_bc y) (pc + 3) = .ok (.dup, 1)) (hd4 : decode (am_bc y) (pc + 4) = .ok (.ldc si, 2)) (hd6 : decode (am_bc y) (pc + 6) = .ok (.invokespecial (am_xi k), 3)) (hd9 : decode (am_bc y) (pc + 9) = .ok (.athrow, 1))
    (hcl : tables_1[j1]? = some (Jvm.Cond.classLink "AllocateSolve" i (am_xn k))) (hins : tables_1[j2]? = some (Jvm.Cond.instantiable (am_xn k) 6)) (hini : tables_1[j3]? = some (Jvm.Cond.initialized (am_xn k))) (hstr : ("AllocateSolve", si, tx) ∈ am_sr) (hh : am_nh y (pc + 9) = true) (hls : ls.length = am_mx y) (hst : (st.map fun v => v.category).sum ≤ 8) (hcu : cu + 1 ≤ am_mc y) (hsu : su + 6 ≤ am_ms y) (hq : Q (.inr (k, n)) h (n + 1)) : am_W d y pc ls st h n cu su Q := by
  intro G p e R s m args below meth c lc H locs C hl hr hL
  have hown : s.vm.findClass "AllocateSolve" = some m.cls := by rw [← hy]; exact C.own
  obtain ⟨r1, r2, r3, r4, r5⟩ := id hr
  have hcc := C.cells
  have hss := C.slots
  refine W.newc C.exec C.bytes hown (C.word hcl args) (C.word hins args) (C.word hini args) (g := F0 m pc lc (st.map (am_cv G))) rfl hd0 (by omega) (by omega) fun cC kC h1 h2 h3 h4 => ?_
  refine lv_dup C.exec C.bytes hd3 rfl ?_
  obtain ⟨q, hZ⟩ := C.kn.2.2.2.2.2.1 _ hstr
  refine va_ldcS C.exec C.bytes hown hZ hd4 ?_
  intro T hT X
  have hcell : T.heap[H.size]? = some (freshCell cC kC) := by rw [hT]; simp [freshCell]
  obtain ⟨U, L, u1, u2, u3, u4, u5, u6, u7, u8, ce, u9, u10, u11⟩ := am_thr C hy X (fun q hq => by rw [hT, Array.getElem?_push, if_neg (by omega)]; exact r4 q hq) hk h1 h2 hcell (by omega) (msg := .ref q) rfl (g := F0 m (pc + 6) lc (.ref q :: .ref H.size :: .ref H.size :: st.map (am_cv G))) rfl (by show lc.size = _; rw [hl.1, hls, C.maxL]) rfl rfl rfl (by show 2 * 0 + _ ≤ 8; rw [am_cv_sum]; omega) (by rw [C.bytes]; exact hd6) (by rw [C.bytes]; exact hd9) hh
  have hTz : T.heap.size = H.size + 1 := by rw [hT]; simp
  have ea : H.size = am_ad G n := by rw [am_ad_new r1]; exact r2
  refine ⟨U, u1, .threw H.size, .inr (k, n), h, n + 1, u2, u3, hq, ⟨by rw [ea], hk, ce, by rw [← ea]; exact u9, by rw [u11]; rfl, by rw [u10]; exact h1⟩, ?_, u4, locs ++ L, u5.mono hcu hsu, t_lL hL (fun q hq => by rw [u6 q hq]; omega)⟩
  refine hr.junk (by rw [u7]; exact hTz) (fun q hq => ?_)
  rw [u8 q (by omega), hT, Array.getElem?_push, if_neg (by omega)]
theorem ar_min {i j1 j2 j3 j4 : Nat} {x w : Int32} (hd : decode (am_bc y) pc = .ok (.invokestatic i, 3)) (hlk : tables_1[j1]? = some (Jvm.Cond.methodLink (am_nm y).cls i Lib.Math.min.name)) (hsta : tables_1[j2]? = some (Jvm.Cond.static Lib.Math.min.name)) (hini : tables_1[j3]? = some (Jvm.Cond.initialized "java/lang/Math")) (hco : tables_1[j4]? = some (Jvm.Cond.code Lib.Math.min.name Lib.Math.min.code 2 (some .int))) (hls : ls.length = am_mx y) (hst : (st.map fun v => v.category).sum ≤ 8) (hcu : cu ≤ am_mc y) (hsu : su ≤ am_ms y)
    (k : am_W d y (pc + 3) ls (.int (if w < x then w else x) :: st) h n cu su Q) : am_W d y pc ls (.int w :: .int x :: st) h n cu su Q := by
  intro G p e R s m args below meth c lc H locs C hl hr hL
  have hfr := C.frames
  have hlo := C.locals
  have hcc := C.cells
  have hss := C.slots
  exact va_mmin C.exec C.bytes (by rw [C.maxL, hl.1, hls]) C.own (C.word hlk args) (C.word hsta args) (C.word hini args) (C.word hco args) (by omega) (by rw [am_cv_sum]; omega) (by omega) (by omega) hd (k G p e R s m args below meth c lc H locs C hl hr hL)
theorem ar_max {i j1 j2 j3 j4 : Nat} {x w : Int32} (hd : decode (am_bc y) pc = .ok (.invokestatic i, 3)) (hlk : tables_1[j1]? = some (Jvm.Cond.methodLink (am_nm y).cls i Lib.Math.max.name)) (hsta : tables_1[j2]? = some (Jvm.Cond.static Lib.Math.max.name)) (hini : tables_1[j3]? = some (Jvm.Cond.initialized "java/lang/Math")) (hco : tables_1[j4]? = some (Jvm.Cond.code Lib.Math.max.name Lib.Math.max.code 2 (some .int))) (hls : ls.length = am_mx y) (hst : (st.map fun v => v.category).sum ≤ 8) (hcu : cu ≤ am_mc y) (hsu : su ≤ am_ms y)
    (k : am_W d y (pc + 3) ls (.int (if x < w then w else x) :: st) h n cu su Q) : am_W d y pc ls (.int w :: .int x :: st) h n cu su Q := by
  intro G p e R s m args below meth c lc H locs C hl hr hL
  have hfr := C.frames
  have hlo := C.locals
  have hcc := C.cells
  have hss := C.slots
  exact va_mmax C.exec C.bytes (by rw [C.maxL, hl.1, hls]) C.own (C.word hlk args) (C.word hsta args) (C.word hini args) (C.word hco args) (by omega) (by rw [am_cv_sum]; omega) (by omega) (by omega) hd (k G p e R s m args below meth c lc H locs C hl hr hL)
/-- Object's constructor -/
theorem ar_obj {i j r : Nat} (hd : decode (am_bc y) pc = .ok (.invokespecial i, 3)) (hlk : tables_1[j]? = some (Jvm.Cond.methodLink (am_nm y).cls i ⟨"java/lang/Object", "<init>", "()V"⟩)) (hls : ls.length = am_mx y) (hst : (st.map fun v => v.category).sum ≤ 8) (k : am_W d y (pc + 3) ls st h n cu su Q) : am_W d y pc ls (.ref r :: st) h n cu su Q := by
  intro G p e R s m args below meth c lc H locs C hl hr hL
  have hfr := C.frames
  have hlo := C.locals
  refine W.objInit C.exec C.bytes C.own (C.word hlk args) (C.word kw_oi args) (C.word kw_oc args) (g := F0 m pc lc ((Value.ref r :: st).map (am_cv G))) rfl (by show lc.size = _; rw [hl.1, hls, C.maxL]) (a := am_ad G r) (rest := st.map (am_cv G)) rfl hd (by omega) (by show 2 * 0 + _ + 12 ≤ _; rw [am_cv_sum]; omega) (k G p e R s m args below meth c lc H locs C hl hr hL)
/-- a new object -/
theorem ar_new {i j1 j2 j3 ci : Nat} {q : vw_C} {fs : List Value} (hd : decode (am_bc y) pc = .ok (.new i, 3)) (hc : am_cl[ci]? = some q) (hcl : tables_1[j1]? = some (Jvm.Cond.classLink (am_nm y).cls i q.1)) (hins : tables_1[j2]? = some (Jvm.Cond.instantiable q.1 q.2.2)) (hini : tables_1[j3]? = some (Jvm.Cond.initialized q.1)) (hln : h.length = n) (hcu : cu + 1 ≤ am_mc y) (hsu : su + q.2.2 ≤ am_ms y) (hf : ∀ k, k < q.2.2 → fs[k]? = some (defaultValue (am_ty ci k)))
    (k : am_W d y (pc + 3) ls (.ref n :: st) (h ++ [am_ob ci fs]) (n + 1) (cu + 1) (su + q.2.2) Q) : am_W d y pc ls st h n cu su Q := by
  intro G p e R s m args below meth c lc H locs C hl hr hL
  have hcc := C.cells
  have hss := C.slots
  obtain ⟨hS, hfc, -⟩ := C.kn.2.1 ci _ hc
  have ea : H.size = am_ad G n := by rw [am_ad_new hr.1]; exact hr.2.1
  refine W.newcK C.exec C.bytes C.own (C.word hcl args) (C.word hins args) (C.word hini args) (g := F0 m pc lc (st.map (am_cv G))) rfl hd (by omega) (by omega) hfc rfl fun H' kC h2 e1 e2 e3 => ?_
  have hob := u_born (ws := u_ws q.1 q.2.1 q.2.2) (args := args) (o := am_ad G n) (am_ty ci) (fun w hw => C.kn.sel ((am_cls hc).1 w hw).1 ((am_cls hc).1 w hw).2 args) (fun w hw => hw) (C.kn.2.1 ci _ hc) h2 (by rw [← ea]; exact e1) (am_cls hc).2.1
  have hk := k G p e R s m args below meth c lc H' locs C hl (hr.new hln e2 e3 ⟨q, hc, t_OB.to hob (fun j hj => by
    have h9 := hf j hj
    simp only [vp_V, List.getD_eq_getElem?_getD, List.getElem?_map, h9, Option.map_some, Option.getD_some]
    cases am_ty ci j <;> rfl)⟩) hL
  show W p (am_l G) e R s m args below meth c H' locs (cu + 1) (su + q.2.2) (am_E G y s below Q) (F0 m (pc + 3) lc (.ref H.size :: st.map (am_cv G)))
  rw [ea]
  exact hk
/-- new arrays -/
theorem am_newa {G : am_G} {s : State} {n : Nat} {H H' : Heap} {N : Nat} {cA : ClassId} {ty : FieldType} {f : Nat → Value} (e1 : H'[H.size]? = some (arrV cA N f)) (ea : H.size = am_ad G n) (ha : ArrOfT s cA ty) : am_ar s ty N f (am_ad G n) H' :=
  ⟨_, by rw [← ea]; exact e1, ha N f, (fun q => by cases q), arrV_size _ _ _, fun j hj => arrV_read _ _ hj⟩
theorem ar_newi {x : Int32} {N : Nat} (hd : decode (am_bc y) pc = .ok (.newarray .int, 2)) (hx : ¬ x < 0) (hN : x.toNatClampNeg = N) (hb : N ≤ 100000) (hln : h.length = n) (hcu : cu + 1 ≤ am_mc y) (hsu : su + N ≤ am_ms y)
    (k : am_W d y (pc + 2) ls (.ref n :: st) (h ++ [am_ia N (fun _ => 0)]) (n + 1) (cu + 1) (su + N) Q) : am_W d y pc ls (.int x :: st) h n cu su Q := by
  intro G p e R s m args below meth c lc H locs C hl hr hL
  have hcc := C.cells
  have hss := C.slots
  have ea : H.size = am_ad G n := by rw [am_ad_new hr.1]; exact hr.2.1
  refine W.newaK C.exec C.bytes (atype := .int) (C.word kw_72 args) (g := F0 m pc lc ((Value.int x :: st).map (am_cv G))) rfl hd (rest := st.map (am_cv G)) rfl hx hN (by show N * 4 ≤ _; omega) (by omega) (by omega) rfl fun H' cA e1 e2 e3 e4 => ?_
  have hk := k G p e R s m args below meth c lc H' locs C hl (hr.new hln e2 e3 (am_newa e1 ea e4)) hL
  show W p (am_l G) e R s m args below meth c H' locs (cu + 1) (su + N) (am_E G y s below Q) (F0 m (pc + 2) lc (.ref H.size :: st.map (am_cv G)))
  rw [ea]
  exact hk
theorem ar_newl {x : Int32} {N : Nat} (hd : decode (am_bc y) pc = .ok (.newarray .long, 2)) (hx : ¬ x < 0) (hN : x.toNatClampNeg = N) (hb : N ≤ 100000) (hln : h.length = n) (hcu : cu + 1 ≤ am_mc y) (hsu : su + N ≤ am_ms y)
    (k : am_W d y (pc + 2) ls (.ref n :: st) (h ++ [am_la N (fun _ => 0)]) (n + 1) (cu + 1) (su + N) Q) : am_W d y pc ls (.int x :: st) h n cu su Q := by
  intro G p e R s m args below meth c lc H locs C hl hr hL
  have hcc := C.cells
  have hss := C.slots
  have ea : H.size = am_ad G n := by rw [am_ad_new hr.1]; exact hr.2.1
  refine W.newaK C.exec C.bytes (atype := .long) (C.word kw_839 args) (g := F0 m pc lc ((Value.int x :: st).map (am_cv G))) rfl hd (rest := st.map (am_cv G)) rfl hx hN (by show N * 8 ≤ _; omega) (by omega) (by omega) rfl fun H' cA e1 e2 e3 e4 => ?_
  have hk := k G p e R s m args below meth c lc H' locs C hl (hr.new hln e2 e3 (am_newa e1 ea e4)) hL
  show W p (am_l G) e R s m args below meth c H' locs (cu + 1) (su + N) (am_E G y s below Q) (F0 m (pc + 2) lc (.ref H.size :: st.map (am_cv G)))
  rw [ea]
  exact hk
theorem ar_newz {x : Int32} {N : Nat} (hd : decode (am_bc y) pc = .ok (.newarray .boolean, 2)) (hx : ¬ x < 0) (hN : x.toNatClampNeg = N) (hb : N ≤ 100000) (hln : h.length = n) (hcu : cu + 1 ≤ am_mc y) (hsu : su + N ≤ am_ms y)
    (k : am_W d y (pc + 2) ls (.ref n :: st) (h ++ [am_za N (fun _ => 0)]) (n + 1) (cu + 1) (su + N) Q) : am_W d y pc ls (.int x :: st) h n cu su Q := by
  intro G p e R s m args below meth c lc H locs C hl hr hL
  have hcc := C.cells
  have hss := C.slots
  have ea : H.size = am_ad G n := by rw [am_ad_new hr.1]; exact hr.2.1
  refine W.newaK C.exec C.bytes (atype := .boolean) (C.word kw_682 args) (g := F0 m pc lc ((Value.int x :: st).map (am_cv G))) rfl hd (rest := st.map (am_cv G)) rfl hx hN (by show N * 1 ≤ _; omega) (by omega) (by omega) rfl fun H' cA e1 e2 e3 e4 => ?_
  have hk := k G p e R s m args below meth c lc H' locs C hl (hr.new hln e2 e3 (am_newa e1 ea e4)) hL
  show W p (am_l G) e R s m args below meth c H' locs (cu + 1) (su + N) (am_E G y s below Q) (F0 m (pc + 2) lc (.ref H.size :: st.map (am_cv G)))
  rw [ea]
  exact hk
end AMM
theorem am_R.app {cl : List vw_C} {G : am_G} {s : State} {h : am_H} {n : Nat} {cs : List am_C} {H H1 : Heap} (r : am_R cl G s h n H) (hl : h.length = n) (hz : H1.size = H.size + cs.length) (hq : ∀ q : Nat, q < H.size → H1[q]? = H[q]?) (hc : ∀ (j : Nat) (c : am_C), cs[j]? = some c → am_ok cl G s c (am_ad G (n + j)) H1) : am_R cl G s (h ++ cs) (n + cs.length) H1 := by
  obtain ⟨r1, r2, r3, r4, r5⟩ := r
  refine ⟨by omega, by omega, r3, fun q hlt => ?_, fun j c' hj => ?_⟩
  · rw [hq q (by omega)]
    exact r4 q hlt
  · rw [List.getElem?_append] at hj
    split at hj
    · obtain ⟨g1, g2⟩ := r5 j c' hj
      exact ⟨by omega, g2.kept (hq _ g2.lt)⟩
    · rename_i e
      have hj0 := (List.getElem?_eq_some_iff.mp hj).1
      have h9 := hc _ _ hj
      rw [hl, show n + (j - n) = j by omega] at h9
      exact ⟨by omega, h9⟩
theorem am_outer (c : ClassId) (N h0 : Nat) : ∀ i : Nat, Jvm.Free.Multi.outerC c N h0 i = arrV c N (fun j => va_rf (if j < i then some (h0 + 1 + j) else none))
  | 0 => by
    show ({ cls := c, slots := Array.replicate N .null, vm := .none } : Cell) = _
    rw [arrV_new]
    refine congrArg (arrV c N) (funext fun j => ?_)
    simp [va_rf]
  | i + 1 => by
    show (Jvm.Free.Multi.outerC c N h0 i).setSlot i (.ref (h0 + 1 + i)) = _
    rw [am_outer c N h0 i, arrV_store]
    refine congrArg (arrV c N) (funext fun j => ?_)
    by_cases e : j = i
    · subst e
      simp [updV, va_rf]
    · by_cases hji : j < i
      · simp [updV, e, hji, Nat.lt_succ_of_lt hji]
      · simp [updV, e, hji, show ¬ j < i + 1 by omega]
section AMN
variable {d : Nat} {y z : am_Y} {pc : Nat} {ls : List (Option Value)} {st : List Value} {h : am_H} {n cu su : Nat} {Q Qc : am_O → am_H → Nat → Prop}
/-- new int[N][K] -/
theorem ar_mna {i j : Nat} {x w : Int32} {N K : Nat} (hd : decode (am_bc y) pc = .ok (.multianewarray i 2, 4)) (hcl : tables_1[j]? = some (Jvm.Cond.classLink (am_nm y).cls i "[[I")) (hx : ¬ x < 0) (hw : ¬ w < 0) (hN : x.toNatClampNeg = N) (hK : w.toNatClampNeg = K) (hb1 : N ≤ 1000) (hb2 : K ≤ 1000) (hln : h.length = n) (hcu : cu + 1 + N ≤ am_mc y) (hsu : su + N + N * K ≤ am_ms y)
    (k : am_W d y (pc + 4) ls (.ref n :: st) (h ++ (am_ra N (fun i => if i < N then some (n + 1 + i) else none) :: List.replicate N (am_ia K (fun _ => 0)))) (n + (N + 1)) (cu + 1 + N) (su + N + N * K) Q) : am_W d y pc ls (.int w :: .int x :: st) h n cu su Q := by
  intro G p e R s m args below meth c lc H locs C hl hr hL T hT X
  subst hN
  subst hK
  have hcc := C.cells
  have hss := C.slots
  have h11 := C.kn.2.2.2.2.2.2.2.2.1
  have ea : H.size = am_ad G n := by rw [am_ad_new hr.1]; exact hr.2.1
  obtain ⟨vm₁, cA, comp, -, fA, fC, hO, hI, X', step⟩ := X.multianewarray2F C.exec C.own (ty := .int) (C.word hcl args) (over_moved (a := #[]) (a' := args) (Vm.Alike.refl s.vm) h11) (C.word kw_72 args) (g := F0 m pc lc ((Value.int w :: Value.int x :: st).map (am_cv G))) rfl (by rw [C.bytes]; exact hd) (n := x) (k := w) (rest := st.map (am_cv G)) rfl hx hw (by omega) (by show _ * 4 ≤ _; omega) (by omega) rfl rfl (by omega) (by omega)
  generalize hF : Jvm.Free.Multi.fill (T.setVm vm₁) cA comp x.toNatClampNeg w.toNatClampNeg (defaultValue .int) x.toNatClampNeg = F at X' step
  have hTh : (T.setVm vm₁).heap = H := hT
  obtain ⟨f1, f2, -, -⟩ := Jvm.Free.Multi.fill_facts (T.setVm vm₁) cA comp x.toNatClampNeg w.toNatClampNeg (defaultValue .int) x.toNatClampNeg
  rw [hF, hTh] at f1 f2
  have hold : ∀ q : Nat, q < H.size → F.heap[q]? = H[q]? := fun q hq => by
    have := Jvm.Free.Multi.fill_old (T.setVm vm₁) cA comp x.toNatClampNeg w.toNatClampNeg (defaultValue .int) (a := q) (by rw [hTh]; exact hq) x.toNatClampNeg
    rw [hF, hTh] at this
    exact this
  have hrow : ∀ j : Nat, j < x.toNatClampNeg → F.heap[H.size + 1 + j]? = some (Jvm.Free.Multi.innerC comp w.toNatClampNeg (defaultValue .int)) := fun j hj => by
    have := Jvm.Free.Multi.fill_inner (T.setVm vm₁) cA comp x.toNatClampNeg w.toNatClampNeg (defaultValue .int) x.toNatClampNeg j hj
    rw [hF, hTh] at this
    exact this
  have hR : am_R am_cl G s (h ++ (am_ra x.toNatClampNeg (fun i => if i < x.toNatClampNeg then some (n + 1 + i) else none) :: List.replicate x.toNatClampNeg (am_ia w.toNatClampNeg (fun _ => 0)))) (n + (x.toNatClampNeg + 1)) F.heap := by
    have h0 := hr.app (cs := am_ra x.toNatClampNeg (fun i => if i < x.toNatClampNeg then some (n + 1 + i) else none) :: List.replicate x.toNatClampNeg (am_ia w.toNatClampNeg (fun _ => 0))) (H1 := F.heap) hln (by simp; omega) hold ?_
    · simpa using h0
    · intro j c' hj
      match j, hj with
      | 0, hj =>
        cases hj
        refine ⟨_, by rw [Nat.add_zero, ← ea]; exact f2, (hO _ _ _).1, (hO _ _ _).2, by rw [am_outer]; exact arrV_size _ _ _, fun j2 hj2 => ?_⟩
        rw [am_outer, arrV_read _ _ hj2]
        simp only [hj2, if_true, Option.map_some]
        rw [ea, am_ad_new hr.1, am_ad_new (by have := hr.1; omega)]
        have := hr.1
        congr 2
        congr 1
        omega
      | j2 + 1, hj =>
        simp only [List.getElem?_cons_succ, List.getElem?_replicate] at hj
        split at hj
        · rename_i hlt
          cases hj
          refine ⟨Jvm.Free.Multi.innerC comp w.toNatClampNeg (defaultValue .int), ?_, (hI _ _).1, (hI _ _).2, by simp [Jvm.Free.Multi.innerC], fun j3 hj3 => ?_⟩
          · have := hr.1
            rw [am_ad_new (by omega), show am_b G + (n + (j2 + 1) - 4) = H.size + 1 + j2 by have := hr.2.1; omega]
            exact hrow j2 hlt
          · simp only [Jvm.Free.Multi.innerC]
            simp at hj3
            simp [hj3, defaultValue]
        · cases hj
  obtain ⟨t, a, b⟩ := k G p e R s m args below meth c lc F.heap locs C hl hR hL F rfl X'
  refine ⟨t, step t ?_, b⟩
  have e2 : T.heap.size = am_ad G n := by rw [hT]; exact ea
  rw [e2]
  exact a
/-- constructors of the class's own -/
theorem ar_init {i j1 j2 j3 r : Nat} {As : List Value} (hd : decode (am_bc y) pc = .ok (.invokespecial i, 3)) (hi1 : (am_nm z).name = "<init>") (hlk : tables_1[j1]? = some (Jvm.Cond.methodLink (am_nm y).cls i (am_nm z)) ∨ ((am_nm y).cls, i, am_nm z, "AllocateSolve") ∈ am_ml) (hin : tables_1[j2]? = some (Jvm.Cond.instanceMethod (am_nm z))) (hcw : tables_1[j3]? = some (Jvm.Cond.code (am_nm z) (am_bc z) (am_mx z) none)) (hz : am_Z z As.length)
    (hls : ls.length = am_mx y) (hst : (st.map fun v => v.category).sum ≤ 8) (hA : ∀ v ∈ As, v.category = 1) (hAn : As.length + 1 ≤ am_mx z) (hcu : cu + am_mc z ≤ am_mc y) (hsu : su + am_ms z ≤ am_ms y) (hh : am_nh y pc = true)
    (hcal : am_W d z 0 (am_en z (.ref r :: As)) [] h n 0 0 Qc)
    (kk : ∀ (v : Option Value) (h' : am_H) (n' : Nat), Qc (.inl v) h' n' → am_W (d + 1) y (pc + 3) ls (v.toList ++ st) h' n' (cu + am_mc z) (su + am_ms z) Q)
    (kt : ∀ (k i : Nat) (h' : am_H) (n' : Nat), Qc (.inr (k, i)) h' n' → Q (.inr (k, i)) h' n') : am_W (d + 1) y pc ls (As.reverse ++ .ref r :: st) h n cu su Q := by
  intro G p e R s m args below meth c lc H locs C hl hr hL T hT X
  subst hT
  have hpl : e.platform.magicAccessors = ({} : Platform).magicAccessors := by rw [X.admits.platform]
  obtain ⟨mk, hco⟩ := hz.co C.kn
  have hlen : ∀ sig, parseMethodDescriptor (am_nm z).desc = some sig → (As.map (am_cv G)).length = sig.parameters.length := fun sig hs => by rw [List.length_map]; exact hz.len sig hs
  have hstk : (F0 m pc lc ((As.reverse ++ .ref r :: st).map (am_cv G))).stack = (As.map (am_cv G)).reverse ++ .ref (am_ad G r) :: st.map (am_cv G) := by
    show (As.reverse ++ .ref r :: st).map (am_cv G) = _
    simp [am_cv]
  have hex : ∃ vm₁, s.WarmedH vm₁ ∧ ∀ target, (∀ acts, Steps p.tables e below (doInvoke e ((T.setVm vm₁).setTop (F0 m pc lc (st.map (am_cv G)))) acts mk (Value.ref (am_ad G r) :: As.map (am_cv G)).toArray).1 target) → Steps p.tables e below (T.setTop (F0 m pc lc ((As.reverse ++ .ref r :: st).map (am_cv G)))) target := by
    rcases hlk with hlk | hlk
    · obtain ⟨mk', methM, cM, kP, vm₁, hnamed, -, -, -, -, -, -, -, hW₁, hstep₁⟩ := Steps.initColdArgs (e := e) X.here C.exec X.warmed hpl C.own hi1 hz.2.2.2.1 (C.word hlk args) (C.word hin args) (C.word hcw args) (f := F0 m pc lc ((As.reverse ++ .ref r :: st).map (am_cv G))) rfl hlen hstk (by rw [C.bytes]; exact hd)
      cases hnamed.symm.trans hco.1
      exact ⟨vm₁, hW₁, hstep₁⟩
    · have h9 := C.kn.2.2.2.2.2.2.1 _ hlk
      obtain ⟨mk', methM, cM, kP, vm₁, hnamed, -, -, -, -, -, -, -, hW₁, hstep₁⟩ := Steps.initColdArgsNest (e := e) X.here C.exec X.warmed hpl C.own hi1 hz.2.2.2.1 (va_Nw.use rfl h9) (C.word hin args) (C.word hcw args) (f := F0 m pc lc ((As.reverse ++ .ref r :: st).map (am_cv G))) rfl hlen hstk (by rw [C.bytes]; exact hd)
      cases hnamed.symm.trans hco.1
      exact ⟨vm₁, hW₁, hstep₁⟩
  obtain ⟨vm₁, hW₁, hstep₁⟩ := hex
  have X₁ := X.noted hW₁
  obtain ⟨t, a, b⟩ := am_behind (As := .ref r :: As) C X₁ hl hls (by rw [C.bytes]; exact hd) hst hz hco (fun v hv => by
    rcases List.mem_cons.mp hv with rfl | hv
    · rfl
    · exact hA v hv) (by simpa using hAn) hcu hsu hr hL hcal hh kk kt
  exact ⟨t, hstep₁ _ (fun acts => a acts), b⟩
/-- the class's table of first rules, read from the lines -/
theorem ar_first (hy : (am_nm y).cls = "AllocateSolve$Lines") (hd : decode (am_bc y) pc = .ok (.getstatic 36, 3)) (kk : am_W d y (pc + 3) ls (.ref 3 :: st) h n cu su Q) : am_W d y pc ls st h n cu su Q := by
  intro G p e R s m args below meth c lc H locs C hl hr hL
  obtain ⟨-, -, ⟨-, -, hs⟩, -, -, -, -, h10, -⟩ := id C.kn
  obtain ⟨cc, k, fi, f, a, cell, h1, h2, h3, h4, h5, h6, h7, h8, h9, h11, h12, h13⟩ := hs
  have hown : s.vm.findClass "AllocateSolve$Lines" = some m.cls := by rw [← hy]; exact C.own
  exact va_WgetsN C.exec C.bytes hown (va_Nw.use rfl h10) h2 h3 h4 h5 (by rw [hr.2.2.2.1 a h13]; exact h6) (fun z => by rw [z] at h7; cases h7) h12 rfl hd (kk G p e R s m args below meth c lc H locs C hl hr hL)
end AMN
end
section
/-! an exception is caught: the handlers' classes are resolved on the way, cold or warm -/
/-- the kind of exception that an entry of the law's pool names -/
def am_ct (i : Nat) : Option (Nat × Nat) := match i with
  | 13 => some (0, 250)
  | 15 => some (1, 251)
  | 25 => some (2, 374)
  | 57 => some (3, 554)
  | 65 => some (4, 587)
  | _ => none
theorem am_ct_ok {i k j : Nat} (h : am_ct i = some (k, j)) : k < 5 ∧ i ≠ 0 ∧ tables_1[j]? = some (Jvm.Cond.classLink "AllocateSolveLaw" i (am_xn k)) := by
  unfold am_ct at h
  split at h <;> cases h
  · exact ⟨by decide, by decide, kw_250⟩
  · exact ⟨by decide, by decide, kw_251⟩
  · exact ⟨by decide, by decide, kw_374⟩
  · exact ⟨by decide, by decide, kw_554⟩
  · exact ⟨by decide, by decide, kw_587⟩
/-- where an exception of kind k goes on that comes to pc -/
def am_ft : List (Nat × Nat × Nat × Nat) → Nat → Nat → Option Nat
  | [], _, _ => none
  | q :: t, pc, k => if q.1 ≤ pc && pc < q.2.1 then (match am_ct q.2.2.2 with
      | some (k', _) => if k' = k then some q.2.2.1 else am_ft t pc k
      | none => none) else none
section AMK
variable {E : CtlPost} {e : Env} {dd : Bool} {acts : List Action} {S : State} {f : JFrame} {a : Addr} {Qh : Handler → Pre}
theorem am_fgo {x : ExceptionTableEntry} {t : List ExceptionTableEntry} {cc : ClassId} {cell : Cell} {vm' : Vm} (hx : covers x f.pc = true) (h0 : x.catchType ≠ 0)
    (hg : (Jvm.resolveClass f.method.cls x.catchType).Gives e.toSetting S.vm (.ok cc) vm') (hsz : vm'.classes.size ≤ S.vm.classes.size) (hcell : S.heap[a]? = some cell) (hobj : ∀ k, cell.vm ≠ .statics k)
    (hk : ∃ k, vm'.classes[cell.cls]? = some k) (hc : ∃ k, vm'.classes[cc]? = some k) :
    wp (findHandler.go f a (x :: t)) Qh E e dd acts S ↔
      if vm'.assignable cell.cls cc = true then Qh (.found x.handlerPc) dd acts (S.setVm vm') else wp (findHandler.go f a t) Qh E e dd acts (S.setVm vm') := by
  simp only [covers] at hx
  obtain ⟨ha, ht⟩ := hg.op (op := VmOp.resolveClass f.method.cls x.catchType) rfl
  have hcell' : (S.setVm vm').heap[a]? = some cell := hcell
  cases hfit : vm'.assignable cell.cls cc <;>
    simp [findHandler.go, hx, h0, ha, ht, hsz, hcell, hobj, hk, hc, hfit, VmOp.dirties, VmOp.acts]
end AMK
theorem am_find {G : am_G} {s : State} {e : Env} (hK : am_kn G s) {f : JFrame} (hown : s.vm.findClass "AllocateSolveLaw" = some f.method.cls) (hpl : e.platform.magicAccessors = ({} : Platform).magicAccessors) {a : Addr} {cell : Cell} {k : Nat} (hk5 : k < 5) (hfc : s.vm.findClass (am_xn k) = some cell.cls) (hobj : cell.vm.isStatics = false) :
    ∀ (l : List ExceptionTableEntry) (S : State), s.WarmedH S.vm → S.heap[a]? = some cell → ∀ hp : Nat, am_ft (l.map fun x => (x.startPc, x.endPc, x.handlerPc, x.catchType)) f.pc k = some hp →
      ∃ vm' : Vm, s.WarmedH vm' ∧ ∀ (Qh : Handler → Pre) (E : CtlPost) (dd : Bool) (acts : List Action), wp (findHandler.go f a l) Qh E e dd acts S ↔ Qh (.found hp) dd acts (S.setVm vm') := by
  intro l
  induction l with
  | nil => intro S hW hc hp hf; cases hf
  | cons x t ih =>
    intro S hW hc hp hf
    simp only [List.map_cons, am_ft] at hf
    split at hf
    · rename_i hcov
      split at hf
      · rename_i k' j hct
        obtain ⟨hk', h0, hw⟩ := am_ct_ok hct
        obtain ⟨cc, hfcc, hcl⟩ := Cond.classLink_spec hown (hK.word hw rfl #[]) e.platform hpl
        obtain ⟨hg₁, hwarm₁, hready₁⟩ := State.classEntry (e := e) hW hcl
        generalize S.vm.noted f.method.cls x.catchType (.cls cc) = vm₁ at hg₁ hwarm₁ hready₁
        have hal : s.vm.Alike vm₁ := hwarm₁.alike
        obtain ⟨c1, c2, g1, g2, g3⟩ := hK.2.2.2.2.2.2.2.2.2.2 k k' hk5 hk'
        cases g1.symm.trans hfc
        cases g2.symm.trans hfcc
        have hcl1 : ∃ q, vm₁.classes[cell.cls]? = some q := by
          obtain ⟨q, hq⟩ := Vm.classAt_of_findClass hfc
          obtain ⟨q', hq', -⟩ := hal.2.2 _ _ hq
          exact ⟨q', hq'⟩
        have hcl2 : ∃ q, vm₁.classes[cc]? = some q := by
          obtain ⟨q, hq⟩ := Vm.classAt_of_findClass hfcc
          obtain ⟨q', hq', -⟩ := hal.2.2 _ _ hq
          exact ⟨q', hq'⟩
        have hsz : vm₁.classes.size ≤ S.vm.classes.size := (hW.alike.symm.trans hal).size_le
        have hgo := fun (Qh : Handler → Pre) (E : CtlPost) (dd : Bool) (acts : List Action) => am_fgo (E := E) (dd := dd) (acts := acts) (Qh := Qh) (t := t) (x := x) (f := f) (a := a) (by simpa [covers] using hcov) h0 hg₁ hsz hc (VmData.ne_statics_of hobj) hcl1 hcl2
        have has : vm₁.assignable cell.cls cc = decide (k = k') := by rw [hal.assignable]; exact g3
        split at hf
        · rename_i e1
          cases hf
          refine ⟨vm₁, hwarm₁, fun Qh E dd acts => ?_⟩
          rw [hgo, has, if_pos (by simp [e1])]
        · rename_i e1
          obtain ⟨vm₂, hwarm₂, h2⟩ := ih (S.setVm vm₁) hwarm₁ hc hp hf
          refine ⟨vm₂, hwarm₂, fun Qh E dd acts => ?_⟩
          rw [hgo, has, if_neg (by simp; exact fun q => e1 q.symm), h2]
          rfl
      · cases hf
    · cases hf
theorem am_stepC {e : Env} {s : State} {a : Addr} {f : JFrame} {r : List Frame} {pc : Nat} {vm' : Vm} (hfind : ∀ (Q : Handler → Pre) (E : CtlPost) (d : Bool) (acts : List Action), wp (findHandler f a) Q E e d acts s ↔ Q (.found pc) d acts (s.setVm vm')) :
    (stepThrowing e s a (.java f :: r)).Is ((s.setVm vm').setFrames (.java { f with pc := pc, stack := [.ref a] } :: r)) [] := by
  simp only [stepThrowing, searchFrame, vmDo]
  generalize hr : Sem.go _ e false [] s = res
  obtain ⟨as, rfl, ha⟩ := Sem.eq_ok_of hr (a := Handler.found pc) (s' := s.setVm vm') (acts' := []) (by simp [hfind _ _ _ _])
  exact ⟨rfl, ha⟩
theorem am_caught {tb : Tables} {e : Env} {s target : State} {g : JFrame} {c : Code} {below : List Frame} {a : Addr} {vm' : Vm} (h : At s g.method c below) {pc : Nat} (hfind : ∀ (Q : Handler → Pre) (E : CtlPost) (d : Bool) (acts : List Action), wp (findHandler g a) Q E e d acts ((s.setTop g).pushFrame (.throwing a)) ↔ Q (.found pc) d acts (((s.setTop g).pushFrame (.throwing a)).setVm vm'))
    (hrest : Steps tb e below ((s.setVm vm').setTop { g with pc := pc, stack := [.ref a] }) target) :
    Steps tb e below ((s.setTop g).pushFrame (.throwing a)) target := by
  obtain ⟨hgo, hw⟩ := h.throwing a
  refine Steps.head hgo hw ?_
  rw [stepThread_throwing (frames_entered h.top _), (am_stepC (s := (s.setTop g).pushFrame (.throwing a)) hfind).1]
  obtain ⟨g₀, hg⟩ := Option.isSome_iff_exists.mp h.top
  obtain ⟨r, hr⟩ := State.topJava?_eq_some.mp hg
  have hr' : (s.setVm vm').frames = .java g₀ :: r := hr
  rw [State.setTop_of_frames _ hr'] at hrest
  have e1 : (((s.setTop g).pushFrame (.throwing a)).setVm vm').setFrames (.java { g with pc := pc, stack := [.ref a] } :: s.frames.tail) = (s.setVm vm').setFrames (.java { g with pc := pc, stack := [.ref a] } :: r) := by
    rw [hr, State.pushFrame, State.frames_setTop _ hr, State.setTop_of_frames _ hr, State.setFrames_setFrames]
    show ((s.setFrames _).setFrames _).setVm vm' = _
    rw [State.setFrames_setFrames]
    rfl
  rw [e1]
  exact hrest
section AMQ
variable {d : Nat} {y z : am_Y} {pc : Nat} {ls : List (Option Value)} {st : List Value} {h : am_H} {n cu su : Nat} {Q Qc : am_O → am_H → Nat → Prop}
/-- invokevirtual inside a try of the law's -/
theorem ar_callc {i j1 j2 r ci : Nat} {q : vw_C} {fs As : List Value} (hy : (am_nm y).cls = "AllocateSolveLaw") (hd : decode (am_bc y) pc = .ok (.invokevirtual i, 3)) (hlk : tables_1[j1]? = some (Jvm.Cond.methodLink (am_nm y).cls i (am_nm z))) (hin : tables_1[j2]? = some (Jvm.Cond.instanceMethod (am_nm z))) (hc : am_cl[ci]? = some q) (hse : Jvm.Cond.selects q.1 (am_nm z) (am_nm z) ∈ lw_tbl) (hz : am_Z z As.length) (ho : h[r]? = some (am_ob ci fs))
    (hls : ls.length = am_mx y) (hst : (st.map fun v => v.category).sum ≤ 8) (hA : ∀ v ∈ As, v.category = 1) (hAn : As.length + 1 ≤ am_mx z) (hcu : cu + am_mc z ≤ am_mc y) (hsu : su + am_ms z ≤ am_ms y)
    (hcal : am_W d z 0 (am_en z (.ref r :: As)) [] h n 0 0 Qc)
    (kk : ∀ (v : Option Value) (h' : am_H) (n' : Nat), Qc (.inl v) h' n' → am_W (d + 1) y (pc + 3) ls (v.toList ++ st) h' n' (cu + am_mc z) (su + am_ms z) Q)
    (kt : ∀ (k i : Nat) (h' : am_H) (n' : Nat), Qc (.inr (k, i)) h' n' → ∃ hp, am_ft (am_hd y) pc k = some hp ∧ am_W (d + 1) y hp ls [.ref i] h' n' (cu + am_mc z) (su + am_ms z) Q) : am_W (d + 1) y pc ls (As.reverse ++ .ref r :: st) h n cu su Q := by
  intro G p e R s m args below meth c lc H locs C hl hr hL T hT X
  subst hT
  have hpl : e.platform.magicAccessors = ({} : Platform).magicAccessors := by rw [X.admits.platform]
  obtain ⟨mk, hco⟩ := hz.co C.kn
  obtain ⟨hnamed, methk, ck, hmk, -⟩ := id hco
  obtain ⟨mk', methM, hnamed', hmethM, hstM, habM⟩ := Cond.instanceMethod_spec (C.word hin args)
  cases hnamed.symm.trans hnamed'
  obtain ⟨-, rr, h1, cell, q1, q2, q3, q4⟩ := hr.2.2.2.2 r _ ho
  obtain ⟨hS, hfc, kC, hkC, hkind⟩ := C.kn.2.1 ci _ hc
  obtain ⟨c2, r2, m2, g1, g2, g3, g4, kP, hkP, hkPi⟩ := Cond.selects_spec (C.kn.sel hse rfl args)
  have hcell : s.vm.findClass q.1 = some cell.cls := by rw [q2]; exact hfc
  cases hcell.symm.trans g1
  cases (State.methodFound?_of_named hnamed hz.2.2.2.1).symm.trans g2
  cases hnamed.symm.trans g3
  have hselP : selectMethod e.platform s.vm cell.cls mk = .method mk := by rw [Launch.admits_selectMethod X.admits]; exact g4
  have hsig : parseMethodDescriptor (am_nm z).desc = some methM.sig := by
    rcases hz.1 with ⟨j, w1, -⟩ | ⟨j, w1⟩
    · obtain ⟨mt, cM, e1, -, -, -, -, -, -, e2⟩ := Cond.code_spec hnamed (C.word w1 args)
      cases hmethM.symm.trans e1
      exact e2
    · obtain ⟨mm, mt, cM, e0, e1, -, -, -, -, -, -, e2⟩ := Cond.codeWith_spec (C.word w1 args)
      cases hnamed.symm.trans e0
      cases hmethM.symm.trans e1
      exact e2
  obtain ⟨vm₁, X₁, hstep₁⟩ := X.invokevirtual C.exec C.own (C.word hlk args) hnamed hmethM hstM hkP hkPi hz.2.2.2.1 (a := am_ad G r) (cell := cell) q1
    (fun w hw => by rw [q3] at hw; cases hw) hselP hmethM habM hkP hkPi (g := F0 m pc lc ((As.reverse ++ .ref r :: st).map (am_cv G))) rfl (argsL := As.map (am_cv G)) (rest := st.map (am_cv G)) (by rw [List.length_map]; exact hz.len _ hsig)
    (by show (As.reverse ++ .ref r :: st).map (am_cv G) = _; simp [am_cv]) (by rw [C.bytes]; exact hd)
  obtain ⟨o', h', n', T', locs', hQ, X', hr', hL', hor⟩ := am_go (As := .ref r :: As) C X₁ (g := F0 m pc lc (st.map (am_cv G))) rfl (by show lc.size = _; rw [hl.1, hls, C.maxL]) (by rw [C.bytes]; exact hd) (by show 2 * 0 + _ ≤ 8; rw [am_cv_sum]; omega) hco hz.2.1 hz.2.2.1 (fun v hv => by
    rcases List.mem_cons.mp hv with rfl | hv
    · rfl
    · exact hA v hv) (by simpa using hAn) hcu hsu hr hL hcal
  rcases hor with ⟨v, rfl, st1⟩ | ⟨k, ix, rfl, hk5, ⟨ce, z1, z2, z3⟩, st1⟩
  · obtain ⟨t, a, b⟩ := kk v h' n' hQ G p e R s m args below meth c lc T'.heap locs' C hl hr' hL' T' rfl X'
    refine ⟨t, hstep₁ _ (fun acts => (st1 acts).trans ?_), b⟩
    have he : (v.map (am_cv G)).toList ++ st.map (am_cv G) = (v.toList ++ st).map (am_cv G) := by cases v <;> simp
    rw [show ((F0 m pc lc (st.map (am_cv G))).stack) = st.map (am_cv G) from rfl, he]
    exact a
  · obtain ⟨hp, hft, w⟩ := kt k ix h' n' hQ
    have hvm : ((T'.setTop (F0 m pc lc (st.map (am_cv G)))).pushFrame (.throwing (am_ad G ix))).vm = T'.vm := Jvm.Stand.throwing_vm _ _ _
    have hhp : ((T'.setTop (F0 m pc lc (st.map (am_cv G)))).pushFrame (.throwing (am_ad G ix))).heap = T'.heap := Jvm.Stand.throwing_heap _ _ _
    obtain ⟨vm₂, hW₂, hf2⟩ := am_find C.kn (f := F0 m pc lc (st.map (am_cv G))) (by rw [← hy]; exact C.own) hpl (a := am_ad G ix) hk5 z3 z2 c.exceptionTable.toList ((T'.setTop (F0 m pc lc (st.map (am_cv G)))).pushFrame (.throwing (am_ad G ix))) (by rw [hvm]; exact X'.warmed) (by rw [hhp]; exact z1) hp (by rw [C.hand]; exact hft)
    have hmeth : ((T'.setTop (F0 m pc lc (st.map (am_cv G)))).pushFrame (.throwing (am_ad G ix))).vm.method? m = some meth := by rw [hvm]; exact X'.method'
    have X₂ := X'.noted hW₂
    obtain ⟨t, a, b⟩ := w G p e R s m args below meth c lc T'.heap locs' C hl hr' hL' (T'.setVm vm₂) rfl X₂
    refine ⟨t, hstep₁ _ (fun acts => (st1 acts).trans ?_), b⟩
    refine am_caught (g := F0 m pc lc (st.map (am_cv G))) (s := T') X'.here (vm' := vm₂) (pc := hp) (fun Qh E dd acts => ?_) a
    rw [Jvm.W.findHandler_eq (f := F0 m pc lc (st.map (am_cv G))) hmeth X'.code]
    exact hf2 Qh E dd acts
end AMQ
end
section
/-! the rules once more, for walks that a program writes: side conditions by computation, ends by equations -/
/-- it ends so, and no other way -/
abbrev am_eq (v : Option Value) (h : am_H) (n : Nat) : am_O → am_H → Nat → Prop := fun o h' n' => o = .inl v ∧ h' = h ∧ n' = n
abbrev am_th (k i : Nat) (h : am_H) (n : Nat) : am_O → am_H → Nat → Prop := fun o h' n' => o = .inr (k, i) ∧ h' = h ∧ n' = n
theorem am_c1 {As : List Value} (h : As.all (fun v => v.category == 1) = true) : ∀ v ∈ As, v.category = 1 := fun v hv => by simpa using List.all_eq_true.mp h v hv
section AZ
variable {d : Nat} {y z : am_Y} {pc : Nat} {ls : List (Option Value)} {st : List Value} {h h' : am_H} {n n' cu su : Nat} {Q : am_O → am_H → Nat → Prop}
theorem az_callv {i j1 j2 r ci : Nat} {q : vw_C} {fs As : List Value} {v : Option Value} (hd : decode (am_bc y) pc = .ok (.invokevirtual i, 3)) (hlk : tables_1[j1]? = some (Jvm.Cond.methodLink (am_nm y).cls i (am_nm z))) (hin : tables_1[j2]? = some (Jvm.Cond.instanceMethod (am_nm z))) (hc : am_cl[ci]? = some q) (hse : Jvm.Cond.selects q.1 (am_nm z) (am_nm z) ∈ lw_tbl) (hz : am_Z z As.length) (ho : h[r]? = some (am_ob ci fs))
    (hls : ls.length = am_mx y) (hst : Nat.ble (st.map fun v => v.category).sum 8 = true) (hA : As.all (fun v => v.category == 1) = true) (hAn : Nat.ble (As.length + 1) (am_mx z) = true) (hcu : cu + am_mc z ≤ am_mc y) (hsu : su + am_ms z ≤ am_ms y) (hh : am_nh y pc = true)
    (hcal : am_W d z 0 (am_en z (.ref r :: As)) [] h n 0 0 (am_eq v h' n')) (k : am_W (d + 1) y (pc + 3) ls (v.toList ++ st) h' n' (cu + am_mc z) (su + am_ms z) Q) : am_W (d + 1) y pc ls (As.reverse ++ .ref r :: st) h n cu su Q :=
  ar_callv hd hlk hin hc hse hz ho hls (Nat.le_of_ble_eq_true hst) (am_c1 hA) (Nat.le_of_ble_eq_true hAn) hcu hsu hh hcal (fun v2 h2 n2 hq => by
    obtain ⟨e1, rfl, rfl⟩ := hq
    cases e1
    exact k) (fun k i h2 n2 hq => by cases hq.1)
theorem az_calls {i j1 j2 j3 : Nat} {As : List Value} {v : Option Value} (hd : decode (am_bc y) pc = .ok (.invokestatic i, 3)) (hlk : tables_1[j1]? = some (Jvm.Cond.methodLink (am_nm y).cls i (am_nm z))) (hsta : tables_1[j2]? = some (Jvm.Cond.static (am_nm z))) (hini : tables_1[j3]? = some (Jvm.Cond.initialized (am_nm z).cls)) (hz : am_Z z As.length)
    (hls : ls.length = am_mx y) (hst : Nat.ble (st.map fun v => v.category).sum 8 = true) (hA : As.all (fun v => v.category == 1) = true) (hAn : Nat.ble As.length (am_mx z) = true) (hcu : cu + am_mc z ≤ am_mc y) (hsu : su + am_ms z ≤ am_ms y) (hh : am_nh y pc = true)
    (hcal : am_W d z 0 (am_en z As) [] h n 0 0 (am_eq v h' n')) (k : am_W (d + 1) y (pc + 3) ls (v.toList ++ st) h' n' (cu + am_mc z) (su + am_ms z) Q) : am_W (d + 1) y pc ls (As.reverse ++ st) h n cu su Q :=
  ar_calls hd hlk hsta hini hz hls (Nat.le_of_ble_eq_true hst) (am_c1 hA) (Nat.le_of_ble_eq_true hAn) hcu hsu hh hcal (fun v2 h2 n2 hq => by
    obtain ⟨e1, rfl, rfl⟩ := hq
    cases e1
    exact k) (fun k i h2 n2 hq => by cases hq.1)
/-- a callee that throws, out of the caller too -/
theorem az_callvt {i j1 j2 r ci : Nat} {q : vw_C} {fs As : List Value} {kd ix : Nat} (hd : decode (am_bc y) pc = .ok (.invokevirtual i, 3)) (hlk : tables_1[j1]? = some (Jvm.Cond.methodLink (am_nm y).cls i (am_nm z))) (hin : tables_1[j2]? = some (Jvm.Cond.instanceMethod (am_nm z))) (hc : am_cl[ci]? = some q) (hse : Jvm.Cond.selects q.1 (am_nm z) (am_nm z) ∈ lw_tbl) (hz : am_Z z As.length) (ho : h[r]? = some (am_ob ci fs))
    (hls : ls.length = am_mx y) (hst : Nat.ble (st.map fun v => v.category).sum 8 = true) (hA : As.all (fun v => v.category == 1) = true) (hAn : Nat.ble (As.length + 1) (am_mx z) = true) (hcu : cu + am_mc z ≤ am_mc y) (hsu : su + am_ms z ≤ am_ms y) (hh : am_nh y pc = true)
    (hcal : am_W d z 0 (am_en z (.ref r :: As)) [] h n 0 0 (am_th kd ix h' n')) (k : Q (.inr (kd, ix)) h' n') : am_W (d + 1) y pc ls (As.reverse ++ .ref r :: st) h n cu su Q :=
  ar_callv hd hlk hin hc hse hz ho hls (Nat.le_of_ble_eq_true hst) (am_c1 hA) (Nat.le_of_ble_eq_true hAn) hcu hsu hh hcal (fun v2 h2 n2 hq => by cases hq.1) (fun k2 i2 h2 n2 hq => by
    obtain ⟨e1, rfl, rfl⟩ := hq
    cases e1
    exact k)
theorem az_callst {i j1 j2 j3 : Nat} {As : List Value} {kd ix : Nat} (hd : decode (am_bc y) pc = .ok (.invokestatic i, 3)) (hlk : tables_1[j1]? = some (Jvm.Cond.methodLink (am_nm y).cls i (am_nm z))) (hsta : tables_1[j2]? = some (Jvm.Cond.static (am_nm z))) (hini : tables_1[j3]? = some (Jvm.Cond.initialized (am_nm z).cls)) (hz : am_Z z As.length)
    (hls : ls.length = am_mx y) (hst : Nat.ble (st.map fun v => v.category).sum 8 = true) (hA : As.all (fun v => v.category == 1) = true) (hAn : Nat.ble As.length (am_mx z) = true) (hcu : cu + am_mc z ≤ am_mc y) (hsu : su + am_ms z ≤ am_ms y) (hh : am_nh y pc = true)
    (hcal : am_W d z 0 (am_en z As) [] h n 0 0 (am_th kd ix h' n')) (k : Q (.inr (kd, ix)) h' n') : am_W (d + 1) y pc ls (As.reverse ++ st) h n cu su Q :=
  ar_calls hd hlk hsta hini hz hls (Nat.le_of_ble_eq_true hst) (am_c1 hA) (Nat.le_of_ble_eq_true hAn) hcu hsu hh hcal (fun v2 h2 n2 hq => by cases hq.1) (fun k2 i2 h2 n2 hq => by
    obtain ⟨e1, rfl, rfl⟩ := hq
    cases e1
    exact k)
theorem az_init {i j1 j2 j3 r : Nat} {As : List Value} (hd : decode (am_bc y) pc = .ok (.invokespecial i, 3)) (hi1 : (am_nm z).name = "<init>") (hlk : tables_1[j1]? = some (Jvm.Cond.methodLink (am_nm y).cls i (am_nm z)) ∨ ((am_nm y).cls, i, am_nm z, "AllocateSolve") ∈ am_ml) (hin : tables_1[j2]? = some (Jvm.Cond.instanceMethod (am_nm z))) (hcw : tables_1[j3]? = some (Jvm.Cond.code (am_nm z) (am_bc z) (am_mx z) none)) (hz : am_Z z As.length)
    (hls : ls.length = am_mx y) (hst : Nat.ble (st.map fun v => v.category).sum 8 = true) (hA : As.all (fun v => v.category == 1) = true) (hAn : Nat.ble (As.length + 1) (am_mx z) = true) (hcu : cu + am_mc z ≤ am_mc y) (hsu : su + am_ms z ≤ am_ms y) (hh : am_nh y pc = true)
    (hcal : am_W d z 0 (am_en z (.ref r :: As)) [] h n 0 0 (am_eq none h' n')) (k : am_W (d + 1) y (pc + 3) ls st h' n' (cu + am_mc z) (su + am_ms z) Q) : am_W (d + 1) y pc ls (As.reverse ++ .ref r :: st) h n cu su Q :=
  ar_init hd hi1 hlk hin hcw hz hls (Nat.le_of_ble_eq_true hst) (am_c1 hA) (Nat.le_of_ble_eq_true hAn) hcu hsu hh hcal (fun v2 h2 n2 hq => by
    obtain ⟨e1, rfl, rfl⟩ := hq
    cases e1
    exact k) (fun k i h2 n2 hq => by cases hq.1)
end AZ
end
section
/-! records of the methods, and what is said of callees, by program (wip/whole/facts.py) -/
def km_A_init : am_Y := (ky_A_init, kc_A_init, 1, none, [], 60, 1000)
def km_F_init : am_Y := (ky_F_init, kc_F_init, 1, none, [], 40, 400)
def km_T_init : am_Y := (ky_T_init, kc_T_init, 1, none, [], 6, 48)
def km_N_init : am_Y := (ky_N_init, kc_N_init, 1, none, [], 24, 156)
def km_S_init : am_Y := (ky_S_init, kc_S_init, 2, none, [], 11, 79)
def km_A_exact : am_Y := (ky_A_exact, kc_A_exact, 1, some .boolean, [], 0, 0)
def km_A_choices : am_Y := (ky_A_choices, kc_A_choices, 1, some .int, [], 0, 0)
def km_F_countChoices : am_Y := (ky_F_countChoices, kc_F_countChoices, 4, some .int, [], 0, 0)
def km_F_allows : am_Y := (ky_F_allows, kc_F_allows, 3, some .boolean, [], 0, 0)
def km_F_barsPassed : am_Y := (ky_F_barsPassed, kc_F_barsPassed, 3, some .int, [], 0, 0)
def km_N_isBarred : am_Y := (ky_N_isBarred, kc_N_isBarred, 3, some .boolean, [], 0, 0)
def km_A_bound : am_Y := (ky_A_bound, kc_A_bound, 3, some .int, [], 0, 0)
def km_F_lineBound : am_Y := (ky_F_lineBound, kc_F_lineBound, 5, some .int, [], 0, 0)
def km_F_pieceCost : am_Y := (ky_F_pieceCost, kc_F_pieceCost, 4, some .int, [], 0, 0)
def km_A_count : am_Y := (ky_A_count, kc_A_count, 2, some .int, [], 0, 0)
def km_F_totalPieces : am_Y := (ky_F_totalPieces, kc_F_totalPieces, 3, some .int, [], 0, 0)
def km_F_piecesOf : am_Y := (ky_F_piecesOf, kc_F_piecesOf, 4, some .int, [], 0, 0)
def km_F_totalGifts : am_Y := (ky_F_totalGifts, kc_F_totalGifts, 3, some .int, [], 0, 0)
def km_F_giftsOf : am_Y := (ky_F_giftsOf, kc_F_giftsOf, 4, some .int, [], 0, 0)
def km_F_totalCost : am_Y := (ky_F_totalCost, kc_F_totalCost, 3, some .int, [], 0, 0)
def km_F_lineCost : am_Y := (ky_F_lineCost, kc_F_lineCost, 5, some .int, [], 0, 0)
def km_L_lot : am_Y := (ky_L_lot, kc_L_lot, 7, some .int, [(0, 14, 17, 13), (0, 14, 21, 15)], 8, 48)
def km_A_lot : am_Y := (ky_A_lot, kc_A_lot, 5, some .int, [], 8, 48)
def km_A_needRange : am_Y := (ky_A_needRange, kc_A_needRange, 3, none, [], 1, 6)
def km_T_add : am_Y := (ky_T_add, kc_T_add, 6, some .int, [], 0, 0)
def km_T_putInOrder : am_Y := (ky_T_putInOrder, kc_T_putInOrder, 3, none, [], 0, 0)
def km_T_comesBefore : am_Y := (ky_T_comesBefore, kc_T_comesBefore, 3, some .boolean, [], 0, 0)
def km_L_line : am_Y := (ky_L_line, kc_L_line, 5, some .int, [(0, 10, 13, 13), (0, 10, 17, 15)], 8, 48)
def km_A_line : am_Y := (ky_A_line, kc_A_line, 3, some .int, [], 8, 48)
def km_N_add : am_Y := (ky_N_add, kc_N_add, 5, some .int, [], 0, 0)
def km_L_rule : am_Y := (ky_L_rule, kc_L_rule, 5, some .int, [(0, 7, 10, 25), (0, 7, 14, 13)], 8, 48)
def km_A_rule : am_Y := (ky_A_rule, kc_A_rule, 4, none, [], 8, 48)
def km_A_needLine : am_Y := (ky_A_needLine, kc_A_needLine, 2, none, [], 1, 6)
def km_L_cost : am_Y := (ky_L_cost, kc_L_cost, 5, some .int, [(0, 7, 10, 25), (0, 7, 14, 13)], 8, 48)
def km_A_cost : am_Y := (ky_A_cost, kc_A_cost, 4, none, [], 8, 48)
def km_A_needLot : am_Y := (ky_A_needLot, kc_A_needLot, 2, none, [], 1, 6)
def km_L_may : am_Y := (ky_L_may, kc_L_may, 6, some .int, [(0, 19, 22, 25)], 8, 48)
def km_A_may : am_Y := (ky_A_may, kc_A_may, 4, some .boolean, [], 8, 48)
def km_N_setBarred : am_Y := (ky_N_setBarred, kc_N_setBarred, 5, none, [], 0, 0)
def km_L_solve : am_Y := (ky_L_solve, kc_L_solve, 4, some .int, [(0, 9, 12, 13)], 8, 48)
def km_A_solve : am_Y := (ky_A_solve, kc_A_solve, 3, some .int, [], 8, 48)
def km_F_clear : am_Y := (ky_F_clear, kc_F_clear, 2, none, [], 0, 0)
def km_F_letGo : am_Y := (ky_F_letGo, kc_F_letGo, 3, none, [], 0, 0)
def km_F_move : am_Y := (ky_F_move, kc_F_move, 4, none, [], 0, 0)
def km_S_readAllowed : am_Y := (ky_S_readAllowed, kc_S_readAllowed, 5, none, [], 0, 0)
def km_S_allocateAtLeastCost : am_Y := (ky_S_allocateAtLeastCost, kc_S_allocateAtLeastCost, 2, none, [], 0, 0)
def km_S_readBounds : am_Y := (ky_S_readBounds, kc_S_readBounds, 2, none, [], 0, 0)
def km_S_allocateByRule : am_Y := (ky_S_allocateByRule, kc_S_allocateByRule, 3, none, [], 0, 0)
def km_S_take : am_Y := (ky_S_take, kc_S_take, 8, some .int, [], 0, 0)
def km_S_roundDown : am_Y := (ky_S_roundDown, kc_S_roundDown, 2, some .int, [], 0, 0)
def km_S_explore : am_Y := (ky_S_explore, kc_S_explore, 6, none, [], 0, 0)
def km_S_keep : am_Y := (ky_S_keep, kc_S_keep, 3, none, [], 0, 0)
def km_I_bitCount : am_Y := (ky_I_bitCount, kc_I_bitCount, 1, some .int, [], 0, 0)
def km_S_exploreBehind : am_Y := (ky_S_exploreBehind, kc_S_exploreBehind, 3, none, [], 0, 0)
def km_L_give : am_Y := (ky_L_give, kc_L_give, 6, some .int, [(0, 12, 15, 25), (0, 12, 19, 13)], 8, 48)
def km_A_give : am_Y := (ky_A_give, kc_A_give, 5, some .int, [], 8, 48)
def km_F_lotOfGift : am_Y := (ky_F_lotOfGift, kc_F_lotOfGift, 6, some .int, [], 0, 0)
def km_L_held : am_Y := (ky_L_held, kc_L_held, 4, some .int, [(0, 9, 12, 25)], 8, 48)
def km_A_held : am_Y := (ky_A_held, kc_A_held, 2, some .int, [], 8, 48)
def km_L_left : am_Y := (ky_L_left, kc_L_left, 4, some .int, [(0, 9, 12, 25)], 8, 48)
def km_A_left : am_Y := (ky_A_left, kc_A_left, 2, some .int, [], 8, 48)
def km_L_bar : am_Y := (ky_L_bar, kc_L_bar, 4, some .int, [(0, 9, 12, 25)], 8, 48)
def km_A_bar : am_Y := (ky_A_bar, kc_A_bar, 2, some .int, [], 8, 48)
def km_F_firstBar : am_Y := (ky_F_firstBar, kc_F_firstBar, 4, some .int, [], 0, 0)
def km_L_change : am_Y := (ky_L_change, kc_L_change, 5, some .int, [(0, 10, 13, 25), (0, 10, 17, 13)], 8, 48)
def km_A_change : am_Y := (ky_A_change, kc_A_change, 3, some .int, [], 8, 48)
def km_F_setPieces : am_Y := (ky_F_setPieces, kc_F_setPieces, 5, some .int, [], 0, 0)
def km_F_giveUp : am_Y := (ky_F_giveUp, kc_F_giveUp, 3, none, [], 0, 0)
def km_L_undo : am_Y := (ky_L_undo, kc_L_undo, 4, some .int, [(0, 9, 12, 25), (0, 9, 15, 57)], 8, 48)
def km_A_undo : am_Y := (ky_A_undo, kc_A_undo, 3, some .int, [], 8, 48)
def km_L_refused : am_Y := (ky_L_refused, kc_L_refused, 4, some .int, [(0, 9, 12, 25)], 8, 48)
def km_A_refused : am_Y := (ky_A_refused, kc_A_refused, 2, some .int, [], 8, 48)
def km_L_average : am_Y := (ky_L_average, kc_L_average, 4, some .int, [(0, 9, 12, 25), (0, 9, 15, 65)], 8, 48)
def km_A_average : am_Y := (ky_A_average, kc_A_average, 3, some .int, [], 8, 48)
def km_F_costOfPieces : am_Y := (ky_F_costOfPieces, kc_F_costOfPieces, 4, some .int, [], 0, 0)
def km_M_init : am_Y := (ky_M_init, kc_M_init, 2, none, [], 60, 1000)
def km_M_thrown : am_Y := (ky_M_thrown, kc_M_thrown, 1, some .int, [], 0, 0)
def km_M_lot : am_Y := (ky_M_lot, kc_M_lot, 5, some .int, [], 0, 0)
def km_M_in : am_Y := (ky_M_in, kc_M_in, 3, some .boolean, [], 0, 0)
def km_M_line : am_Y := (ky_M_line, kc_M_line, 3, some .int, [], 0, 0)
def km_M_rule : am_Y := (ky_M_rule, kc_M_rule, 4, none, [], 0, 0)
def km_M_isLine : am_Y := (ky_M_isLine, kc_M_isLine, 2, some .boolean, [], 0, 0)
def km_M_isRule : am_Y := (ky_M_isRule, kc_M_isRule, 2, some .boolean, [], 0, 0)
def km_M_cost : am_Y := (ky_M_cost, kc_M_cost, 4, none, [], 0, 0)
def km_M_isLot : am_Y := (ky_M_isLot, kc_M_isLot, 2, some .boolean, [], 0, 0)
def km_M_may : am_Y := (ky_M_may, kc_M_may, 4, some .boolean, [], 0, 0)
def km_M_isAllowed : am_Y := (ky_M_isAllowed, kc_M_isAllowed, 3, some .boolean, [], 0, 0)
def km_M_passes : am_Y := (ky_M_passes, kc_M_passes, 4, some .boolean, [], 0, 0)
def km_M_solve : am_Y := (ky_M_solve, kc_M_solve, 4, some .int, [], 0, 0)
def km_M_layOut : am_Y := (ky_M_layOut, kc_M_layOut, 4, none, [], 0, 0)
def km_M_lotAt : am_Y := (ky_M_lotAt, kc_M_lotAt, 5, some .int, [], 0, 0)
def km_M_isBefore : am_Y := (ky_M_isBefore, kc_M_isBefore, 3, some .boolean, [], 0, 0)
def km_M_product : am_Y := (ky_M_product, kc_M_product, 5, some .long, [], 0, 0)
def km_M_exactly : am_Y := (ky_M_exactly, kc_M_exactly, 4, none, [], 0, 0)
def km_M_takeFrom : am_Y := (ky_M_takeFrom, kc_M_takeFrom, 3, none, [], 0, 0)
def km_M_take : am_Y := (ky_M_take, kc_M_take, 7, none, [], 0, 0)
def km_M_costOf : am_Y := (ky_M_costOf, kc_M_costOf, 3, some .int, [], 0, 0)
def km_M_nextSets : am_Y := (ky_M_nextSets, kc_M_nextSets, 2, some .int, [], 0, 0)
def km_M_bits : am_Y := (ky_M_bits, kc_M_bits, 3, some .int, [], 0, 0)
def km_M_byRule : am_Y := (ky_M_byRule, kc_M_byRule, 3, none, [], 0, 0)
def km_M_exact : am_Y := (ky_M_exact, kc_M_exact, 1, some .boolean, [], 0, 0)
def km_M_choices : am_Y := (ky_M_choices, kc_M_choices, 1, some .int, [], 0, 0)
def km_M_bound : am_Y := (ky_M_bound, kc_M_bound, 6, some .int, [], 0, 0)
def km_M_give : am_Y := (ky_M_give, kc_M_give, 5, some .int, [], 0, 0)
def km_M_giftAt : am_Y := (ky_M_giftAt, kc_M_giftAt, 6, some .int, [], 0, 0)
def km_M_held : am_Y := (ky_M_held, kc_M_held, 2, some .int, [], 0, 0)
def km_M_heldOf : am_Y := (ky_M_heldOf, kc_M_heldOf, 4, some .int, [], 0, 0)
def km_M_left : am_Y := (ky_M_left, kc_M_left, 2, some .int, [], 0, 0)
def km_M_bar : am_Y := (ky_M_bar, kc_M_bar, 5, some .int, [], 0, 0)
def km_M_change : am_Y := (ky_M_change, kc_M_change, 8, some .int, [], 0, 0)
def km_M_undo : am_Y := (ky_M_undo, kc_M_undo, 4, some .int, [], 0, 0)
def km_M_heldBy : am_Y := (ky_M_heldBy, kc_M_heldBy, 4, some .int, [], 0, 0)
def km_M_refused : am_Y := (ky_M_refused, kc_M_refused, 2, some .int, [], 0, 0)
def km_M_average : am_Y := (ky_M_average, kc_M_average, 4, some .int, [], 0, 0)
def km_M_count : am_Y := (ky_M_count, kc_M_count, 8, some .int, [], 0, 0)
def km_L_law : am_Y := (ky_L_law, kc_L_law, 7, some .boolean, [], 648338, 7151090)
theorem kz_A_init : am_Z km_A_init 0 := ⟨Or.inl ⟨21, kw_21, rfl⟩, by decide +kernel, by decide, ⟨by decide, by decide⟩, by decide +kernel⟩
theorem kz_F_init : am_Z km_F_init 0 := ⟨Or.inl ⟨29, kw_29, rfl⟩, by decide +kernel, by decide, ⟨by decide, by decide⟩, by decide +kernel⟩
theorem kz_T_init : am_Z km_T_init 0 := ⟨Or.inl ⟨35, kw_35, rfl⟩, by decide +kernel, by decide, ⟨by decide, by decide⟩, by decide +kernel⟩
theorem kz_N_init : am_Z km_N_init 0 := ⟨Or.inl ⟨77, kw_77, rfl⟩, by decide +kernel, by decide, ⟨by decide, by decide⟩, by decide +kernel⟩
theorem kz_S_init : am_Z km_S_init 1 := ⟨Or.inl ⟨132, kw_132, rfl⟩, by decide +kernel, by decide, ⟨by decide, by decide⟩, by decide +kernel⟩
theorem kz_A_exact : am_Z km_A_exact 0 := ⟨Or.inl ⟨182, kw_182, rfl⟩, by decide +kernel, by decide, ⟨by decide, by decide⟩, by decide +kernel⟩
theorem kz_A_choices : am_Z km_A_choices 0 := ⟨Or.inl ⟨186, kw_186, rfl⟩, by decide +kernel, by decide, ⟨by decide, by decide⟩, by decide +kernel⟩
theorem kz_F_countChoices : am_Z km_F_countChoices 0 := ⟨Or.inl ⟨190, kw_190, rfl⟩, by decide +kernel, by decide, ⟨by decide, by decide⟩, by decide +kernel⟩
theorem kz_F_allows : am_Z km_F_allows 2 := ⟨Or.inl ⟨194, kw_194, rfl⟩, by decide +kernel, by decide, ⟨by decide, by decide⟩, by decide +kernel⟩
theorem kz_F_barsPassed : am_Z km_F_barsPassed 2 := ⟨Or.inl ⟨198, kw_198, rfl⟩, by decide +kernel, by decide, ⟨by decide, by decide⟩, by decide +kernel⟩
theorem kz_N_isBarred : am_Z km_N_isBarred 2 := ⟨Or.inl ⟨202, kw_202, rfl⟩, by decide +kernel, by decide, ⟨by decide, by decide⟩, by decide +kernel⟩
theorem kz_A_bound : am_Z km_A_bound 0 := ⟨Or.inl ⟨207, kw_207, rfl⟩, by decide +kernel, by decide, ⟨by decide, by decide⟩, by decide +kernel⟩
theorem kz_F_lineBound : am_Z km_F_lineBound 1 := ⟨Or.inl ⟨211, kw_211, rfl⟩, by decide +kernel, by decide, ⟨by decide, by decide⟩, by decide +kernel⟩
theorem kz_F_pieceCost : am_Z km_F_pieceCost 2 := ⟨Or.inl ⟨215, kw_215, rfl⟩, by decide +kernel, by decide, ⟨by decide, by decide⟩, by decide +kernel⟩
theorem kz_A_count : am_Z km_A_count 1 := ⟨Or.inl ⟨222, kw_222, rfl⟩, by decide +kernel, by decide, ⟨by decide, by decide⟩, by decide +kernel⟩
theorem kz_F_totalPieces : am_Z km_F_totalPieces 0 := ⟨Or.inl ⟨226, kw_226, rfl⟩, by decide +kernel, by decide, ⟨by decide, by decide⟩, by decide +kernel⟩
theorem kz_F_piecesOf : am_Z km_F_piecesOf 1 := ⟨Or.inl ⟨230, kw_230, rfl⟩, by decide +kernel, by decide, ⟨by decide, by decide⟩, by decide +kernel⟩
theorem kz_F_totalGifts : am_Z km_F_totalGifts 0 := ⟨Or.inl ⟨234, kw_234, rfl⟩, by decide +kernel, by decide, ⟨by decide, by decide⟩, by decide +kernel⟩
theorem kz_F_giftsOf : am_Z km_F_giftsOf 1 := ⟨Or.inl ⟨238, kw_238, rfl⟩, by decide +kernel, by decide, ⟨by decide, by decide⟩, by decide +kernel⟩
theorem kz_F_totalCost : am_Z km_F_totalCost 0 := ⟨Or.inl ⟨242, kw_242, rfl⟩, by decide +kernel, by decide, ⟨by decide, by decide⟩, by decide +kernel⟩
theorem kz_F_lineCost : am_Z km_F_lineCost 1 := ⟨Or.inl ⟨246, kw_246, rfl⟩, by decide +kernel, by decide, ⟨by decide, by decide⟩, by decide +kernel⟩
theorem kz_L_lot : am_Z km_L_lot 6 := ⟨Or.inr ⟨249, kw_249⟩, by decide +kernel, by decide, ⟨by decide, by decide⟩, by decide +kernel⟩
theorem kz_A_lot : am_Z km_A_lot 4 := ⟨Or.inl ⟨255, kw_255, rfl⟩, by decide +kernel, by decide, ⟨by decide, by decide⟩, by decide +kernel⟩
theorem kz_A_needRange : am_Z km_A_needRange 3 := ⟨Or.inl ⟨258, kw_258, rfl⟩, by decide +kernel, by decide, ⟨by decide, by decide⟩, by decide +kernel⟩
theorem kz_T_add : am_Z km_T_add 4 := ⟨Or.inl ⟨348, kw_348, rfl⟩, by decide +kernel, by decide, ⟨by decide, by decide⟩, by decide +kernel⟩
theorem kz_T_putInOrder : am_Z km_T_putInOrder 1 := ⟨Or.inl ⟨352, kw_352, rfl⟩, by decide +kernel, by decide, ⟨by decide, by decide⟩, by decide +kernel⟩
theorem kz_T_comesBefore : am_Z km_T_comesBefore 2 := ⟨Or.inl ⟨356, kw_356, rfl⟩, by decide +kernel, by decide, ⟨by decide, by decide⟩, by decide +kernel⟩
theorem kz_L_line : am_Z km_L_line 4 := ⟨Or.inr ⟨359, kw_359⟩, by decide +kernel, by decide, ⟨by decide, by decide⟩, by decide +kernel⟩
theorem kz_A_line : am_Z km_A_line 2 := ⟨Or.inl ⟨363, kw_363, rfl⟩, by decide +kernel, by decide, ⟨by decide, by decide⟩, by decide +kernel⟩
theorem kz_N_add : am_Z km_N_add 2 := ⟨Or.inl ⟨368, kw_368, rfl⟩, by decide +kernel, by decide, ⟨by decide, by decide⟩, by decide +kernel⟩
theorem kz_L_rule : am_Z km_L_rule 4 := ⟨Or.inr ⟨373, kw_373⟩, by decide +kernel, by decide, ⟨by decide, by decide⟩, by decide +kernel⟩
theorem kz_A_rule : am_Z km_A_rule 3 := ⟨Or.inl ⟨378, kw_378, rfl⟩, by decide +kernel, by decide, ⟨by decide, by decide⟩, by decide +kernel⟩
theorem kz_A_needLine : am_Z km_A_needLine 1 := ⟨Or.inl ⟨382, kw_382, rfl⟩, by decide +kernel, by decide, ⟨by decide, by decide⟩, by decide +kernel⟩
theorem kz_L_cost : am_Z km_L_cost 4 := ⟨Or.inr ⟨405, kw_405⟩, by decide +kernel, by decide, ⟨by decide, by decide⟩, by decide +kernel⟩
theorem kz_A_cost : am_Z km_A_cost 3 := ⟨Or.inl ⟨409, kw_409, rfl⟩, by decide +kernel, by decide, ⟨by decide, by decide⟩, by decide +kernel⟩
theorem kz_A_needLot : am_Z km_A_needLot 1 := ⟨Or.inl ⟨413, kw_413, rfl⟩, by decide +kernel, by decide, ⟨by decide, by decide⟩, by decide +kernel⟩
theorem kz_L_may : am_Z km_L_may 5 := ⟨Or.inr ⟨417, kw_417⟩, by decide +kernel, by decide, ⟨by decide, by decide⟩, by decide +kernel⟩
theorem kz_A_may : am_Z km_A_may 3 := ⟨Or.inl ⟨421, kw_421, rfl⟩, by decide +kernel, by decide, ⟨by decide, by decide⟩, by decide +kernel⟩
theorem kz_N_setBarred : am_Z km_N_setBarred 3 := ⟨Or.inl ⟨425, kw_425, rfl⟩, by decide +kernel, by decide, ⟨by decide, by decide⟩, by decide +kernel⟩
theorem kz_L_solve : am_Z km_L_solve 3 := ⟨Or.inr ⟨429, kw_429⟩, by decide +kernel, by decide, ⟨by decide, by decide⟩, by decide +kernel⟩
theorem kz_A_solve : am_Z km_A_solve 1 := ⟨Or.inl ⟨433, kw_433, rfl⟩, by decide +kernel, by decide, ⟨by decide, by decide⟩, by decide +kernel⟩
theorem kz_F_clear : am_Z km_F_clear 0 := ⟨Or.inl ⟨438, kw_438, rfl⟩, by decide +kernel, by decide, ⟨by decide, by decide⟩, by decide +kernel⟩
theorem kz_F_letGo : am_Z km_F_letGo 1 := ⟨Or.inl ⟨442, kw_442, rfl⟩, by decide +kernel, by decide, ⟨by decide, by decide⟩, by decide +kernel⟩
theorem kz_F_move : am_Z km_F_move 3 := ⟨Or.inl ⟨446, kw_446, rfl⟩, by decide +kernel, by decide, ⟨by decide, by decide⟩, by decide +kernel⟩
theorem kz_S_readAllowed : am_Z km_S_readAllowed 0 := ⟨Or.inl ⟨450, kw_450, rfl⟩, by decide +kernel, by decide, ⟨by decide, by decide⟩, by decide +kernel⟩
theorem kz_S_allocateAtLeastCost : am_Z km_S_allocateAtLeastCost 0 := ⟨Or.inl ⟨455, kw_455, rfl⟩, by decide +kernel, by decide, ⟨by decide, by decide⟩, by decide +kernel⟩
theorem kz_S_readBounds : am_Z km_S_readBounds 0 := ⟨Or.inl ⟨459, kw_459, rfl⟩, by decide +kernel, by decide, ⟨by decide, by decide⟩, by decide +kernel⟩
theorem kz_S_allocateByRule : am_Z km_S_allocateByRule 0 := ⟨Or.inl ⟨464, kw_464, rfl⟩, by decide +kernel, by decide, ⟨by decide, by decide⟩, by decide +kernel⟩
theorem kz_S_take : am_Z km_S_take 2 := ⟨Or.inl ⟨469, kw_469, rfl⟩, by decide +kernel, by decide, ⟨by decide, by decide⟩, by decide +kernel⟩
theorem kz_S_roundDown : am_Z km_S_roundDown 2 := ⟨Or.inl ⟨472, kw_472, rfl⟩, by decide +kernel, by decide, ⟨by decide, by decide⟩, by decide +kernel⟩
theorem kz_S_explore : am_Z km_S_explore 3 := ⟨Or.inl ⟨479, kw_479, rfl⟩, by decide +kernel, by decide, ⟨by decide, by decide⟩, by decide +kernel⟩
theorem kz_S_keep : am_Z km_S_keep 1 := ⟨Or.inl ⟨483, kw_483, rfl⟩, by decide +kernel, by decide, ⟨by decide, by decide⟩, by decide +kernel⟩
theorem kz_I_bitCount : am_Z km_I_bitCount 1 := ⟨Or.inl ⟨486, kw_486, rfl⟩, by decide +kernel, by decide, ⟨by decide, by decide⟩, by decide +kernel⟩
theorem kz_S_exploreBehind : am_Z km_S_exploreBehind 3 := ⟨Or.inl ⟨493, kw_493, rfl⟩, by decide +kernel, by decide, ⟨by decide, by decide⟩, by decide +kernel⟩
theorem kz_L_give : am_Z km_L_give 5 := ⟨Or.inr ⟨497, kw_497⟩, by decide +kernel, by decide, ⟨by decide, by decide⟩, by decide +kernel⟩
theorem kz_A_give : am_Z km_A_give 3 := ⟨Or.inl ⟨501, kw_501, rfl⟩, by decide +kernel, by decide, ⟨by decide, by decide⟩, by decide +kernel⟩
theorem kz_F_lotOfGift : am_Z km_F_lotOfGift 2 := ⟨Or.inl ⟨505, kw_505, rfl⟩, by decide +kernel, by decide, ⟨by decide, by decide⟩, by decide +kernel⟩
theorem kz_L_held : am_Z km_L_held 3 := ⟨Or.inr ⟨510, kw_510⟩, by decide +kernel, by decide, ⟨by decide, by decide⟩, by decide +kernel⟩
theorem kz_A_held : am_Z km_A_held 1 := ⟨Or.inl ⟨514, kw_514, rfl⟩, by decide +kernel, by decide, ⟨by decide, by decide⟩, by decide +kernel⟩
theorem kz_L_left : am_Z km_L_left 3 := ⟨Or.inr ⟨517, kw_517⟩, by decide +kernel, by decide, ⟨by decide, by decide⟩, by decide +kernel⟩
theorem kz_A_left : am_Z km_A_left 1 := ⟨Or.inl ⟨521, kw_521, rfl⟩, by decide +kernel, by decide, ⟨by decide, by decide⟩, by decide +kernel⟩
theorem kz_L_bar : am_Z km_L_bar 3 := ⟨Or.inr ⟨524, kw_524⟩, by decide +kernel, by decide, ⟨by decide, by decide⟩, by decide +kernel⟩
theorem kz_A_bar : am_Z km_A_bar 1 := ⟨Or.inl ⟨528, kw_528, rfl⟩, by decide +kernel, by decide, ⟨by decide, by decide⟩, by decide +kernel⟩
theorem kz_F_firstBar : am_Z km_F_firstBar 1 := ⟨Or.inl ⟨532, kw_532, rfl⟩, by decide +kernel, by decide, ⟨by decide, by decide⟩, by decide +kernel⟩
theorem kz_L_change : am_Z km_L_change 4 := ⟨Or.inr ⟨538, kw_538⟩, by decide +kernel, by decide, ⟨by decide, by decide⟩, by decide +kernel⟩
theorem kz_A_change : am_Z km_A_change 2 := ⟨Or.inl ⟨542, kw_542, rfl⟩, by decide +kernel, by decide, ⟨by decide, by decide⟩, by decide +kernel⟩
theorem kz_F_setPieces : am_Z km_F_setPieces 2 := ⟨Or.inl ⟨546, kw_546, rfl⟩, by decide +kernel, by decide, ⟨by decide, by decide⟩, by decide +kernel⟩
theorem kz_F_giveUp : am_Z km_F_giveUp 2 := ⟨Or.inl ⟨550, kw_550, rfl⟩, by decide +kernel, by decide, ⟨by decide, by decide⟩, by decide +kernel⟩
theorem kz_L_undo : am_Z km_L_undo 3 := ⟨Or.inr ⟨553, kw_553⟩, by decide +kernel, by decide, ⟨by decide, by decide⟩, by decide +kernel⟩
theorem kz_A_undo : am_Z km_A_undo 1 := ⟨Or.inl ⟨558, kw_558, rfl⟩, by decide +kernel, by decide, ⟨by decide, by decide⟩, by decide +kernel⟩
theorem kz_L_refused : am_Z km_L_refused 3 := ⟨Or.inr ⟨579, kw_579⟩, by decide +kernel, by decide, ⟨by decide, by decide⟩, by decide +kernel⟩
theorem kz_A_refused : am_Z km_A_refused 1 := ⟨Or.inl ⟨583, kw_583, rfl⟩, by decide +kernel, by decide, ⟨by decide, by decide⟩, by decide +kernel⟩
theorem kz_L_average : am_Z km_L_average 3 := ⟨Or.inr ⟨586, kw_586⟩, by decide +kernel, by decide, ⟨by decide, by decide⟩, by decide +kernel⟩
theorem kz_A_average : am_Z km_A_average 1 := ⟨Or.inl ⟨591, kw_591, rfl⟩, by decide +kernel, by decide, ⟨by decide, by decide⟩, by decide +kernel⟩
theorem kz_F_costOfPieces : am_Z km_F_costOfPieces 1 := ⟨Or.inl ⟨611, kw_611, rfl⟩, by decide +kernel, by decide, ⟨by decide, by decide⟩, by decide +kernel⟩
theorem kz_M_init : am_Z km_M_init 0 := ⟨Or.inl ⟨616, kw_616, rfl⟩, by decide +kernel, by decide, ⟨by decide, by decide⟩, by decide +kernel⟩
theorem kz_M_thrown : am_Z km_M_thrown 0 := ⟨Or.inl ⟨686, kw_686, rfl⟩, by decide +kernel, by decide, ⟨by decide, by decide⟩, by decide +kernel⟩
theorem kz_M_lot : am_Z km_M_lot 4 := ⟨Or.inl ⟨690, kw_690, rfl⟩, by decide +kernel, by decide, ⟨by decide, by decide⟩, by decide +kernel⟩
theorem kz_M_in : am_Z km_M_in 3 := ⟨Or.inl ⟨693, kw_693, rfl⟩, by decide +kernel, by decide, ⟨by decide, by decide⟩, by decide +kernel⟩
theorem kz_M_line : am_Z km_M_line 2 := ⟨Or.inl ⟨697, kw_697, rfl⟩, by decide +kernel, by decide, ⟨by decide, by decide⟩, by decide +kernel⟩
theorem kz_M_rule : am_Z km_M_rule 3 := ⟨Or.inl ⟨701, kw_701, rfl⟩, by decide +kernel, by decide, ⟨by decide, by decide⟩, by decide +kernel⟩
theorem kz_M_isLine : am_Z km_M_isLine 1 := ⟨Or.inl ⟨705, kw_705, rfl⟩, by decide +kernel, by decide, ⟨by decide, by decide⟩, by decide +kernel⟩
theorem kz_M_isRule : am_Z km_M_isRule 2 := ⟨Or.inl ⟨708, kw_708, rfl⟩, by decide +kernel, by decide, ⟨by decide, by decide⟩, by decide +kernel⟩
theorem kz_M_cost : am_Z km_M_cost 3 := ⟨Or.inl ⟨712, kw_712, rfl⟩, by decide +kernel, by decide, ⟨by decide, by decide⟩, by decide +kernel⟩
theorem kz_M_isLot : am_Z km_M_isLot 1 := ⟨Or.inl ⟨716, kw_716, rfl⟩, by decide +kernel, by decide, ⟨by decide, by decide⟩, by decide +kernel⟩
theorem kz_M_may : am_Z km_M_may 3 := ⟨Or.inl ⟨720, kw_720, rfl⟩, by decide +kernel, by decide, ⟨by decide, by decide⟩, by decide +kernel⟩
theorem kz_M_isAllowed : am_Z km_M_isAllowed 2 := ⟨Or.inl ⟨724, kw_724, rfl⟩, by decide +kernel, by decide, ⟨by decide, by decide⟩, by decide +kernel⟩
theorem kz_M_passes : am_Z km_M_passes 3 := ⟨Or.inl ⟨728, kw_728, rfl⟩, by decide +kernel, by decide, ⟨by decide, by decide⟩, by decide +kernel⟩
theorem kz_M_solve : am_Z km_M_solve 1 := ⟨Or.inl ⟨732, kw_732, rfl⟩, by decide +kernel, by decide, ⟨by decide, by decide⟩, by decide +kernel⟩
theorem kz_M_layOut : am_Z km_M_layOut 0 := ⟨Or.inl ⟨737, kw_737, rfl⟩, by decide +kernel, by decide, ⟨by decide, by decide⟩, by decide +kernel⟩
theorem kz_M_lotAt : am_Z km_M_lotAt 1 := ⟨Or.inl ⟨741, kw_741, rfl⟩, by decide +kernel, by decide, ⟨by decide, by decide⟩, by decide +kernel⟩
theorem kz_M_isBefore : am_Z km_M_isBefore 2 := ⟨Or.inl ⟨745, kw_745, rfl⟩, by decide +kernel, by decide, ⟨by decide, by decide⟩, by decide +kernel⟩
theorem kz_M_product : am_Z km_M_product 0 := ⟨Or.inl ⟨749, kw_749, rfl⟩, by decide +kernel, by decide, ⟨by decide, by decide⟩, by decide +kernel⟩
theorem kz_M_exactly : am_Z km_M_exactly 0 := ⟨Or.inl ⟨754, kw_754, rfl⟩, by decide +kernel, by decide, ⟨by decide, by decide⟩, by decide +kernel⟩
theorem kz_M_takeFrom : am_Z km_M_takeFrom 1 := ⟨Or.inl ⟨758, kw_758, rfl⟩, by decide +kernel, by decide, ⟨by decide, by decide⟩, by decide +kernel⟩
theorem kz_M_take : am_Z km_M_take 1 := ⟨Or.inl ⟨762, kw_762, rfl⟩, by decide +kernel, by decide, ⟨by decide, by decide⟩, by decide +kernel⟩
theorem kz_M_costOf : am_Z km_M_costOf 2 := ⟨Or.inl ⟨766, kw_766, rfl⟩, by decide +kernel, by decide, ⟨by decide, by decide⟩, by decide +kernel⟩
theorem kz_M_nextSets : am_Z km_M_nextSets 0 := ⟨Or.inl ⟨770, kw_770, rfl⟩, by decide +kernel, by decide, ⟨by decide, by decide⟩, by decide +kernel⟩
theorem kz_M_bits : am_Z km_M_bits 1 := ⟨Or.inl ⟨773, kw_773, rfl⟩, by decide +kernel, by decide, ⟨by decide, by decide⟩, by decide +kernel⟩
theorem kz_M_byRule : am_Z km_M_byRule 0 := ⟨Or.inl ⟨777, kw_777, rfl⟩, by decide +kernel, by decide, ⟨by decide, by decide⟩, by decide +kernel⟩
theorem kz_M_exact : am_Z km_M_exact 0 := ⟨Or.inl ⟨781, kw_781, rfl⟩, by decide +kernel, by decide, ⟨by decide, by decide⟩, by decide +kernel⟩
theorem kz_M_choices : am_Z km_M_choices 0 := ⟨Or.inl ⟨785, kw_785, rfl⟩, by decide +kernel, by decide, ⟨by decide, by decide⟩, by decide +kernel⟩
theorem kz_M_bound : am_Z km_M_bound 0 := ⟨Or.inl ⟨790, kw_790, rfl⟩, by decide +kernel, by decide, ⟨by decide, by decide⟩, by decide +kernel⟩
theorem kz_M_give : am_Z km_M_give 3 := ⟨Or.inl ⟨794, kw_794, rfl⟩, by decide +kernel, by decide, ⟨by decide, by decide⟩, by decide +kernel⟩
theorem kz_M_giftAt : am_Z km_M_giftAt 2 := ⟨Or.inl ⟨798, kw_798, rfl⟩, by decide +kernel, by decide, ⟨by decide, by decide⟩, by decide +kernel⟩
theorem kz_M_held : am_Z km_M_held 1 := ⟨Or.inl ⟨802, kw_802, rfl⟩, by decide +kernel, by decide, ⟨by decide, by decide⟩, by decide +kernel⟩
theorem kz_M_heldOf : am_Z km_M_heldOf 1 := ⟨Or.inl ⟨806, kw_806, rfl⟩, by decide +kernel, by decide, ⟨by decide, by decide⟩, by decide +kernel⟩
theorem kz_M_left : am_Z km_M_left 1 := ⟨Or.inl ⟨810, kw_810, rfl⟩, by decide +kernel, by decide, ⟨by decide, by decide⟩, by decide +kernel⟩
theorem kz_M_bar : am_Z km_M_bar 1 := ⟨Or.inl ⟨814, kw_814, rfl⟩, by decide +kernel, by decide, ⟨by decide, by decide⟩, by decide +kernel⟩
theorem kz_M_change : am_Z km_M_change 2 := ⟨Or.inl ⟨818, kw_818, rfl⟩, by decide +kernel, by decide, ⟨by decide, by decide⟩, by decide +kernel⟩
theorem kz_M_undo : am_Z km_M_undo 1 := ⟨Or.inl ⟨822, kw_822, rfl⟩, by decide +kernel, by decide, ⟨by decide, by decide⟩, by decide +kernel⟩
theorem kz_M_heldBy : am_Z km_M_heldBy 1 := ⟨Or.inl ⟨826, kw_826, rfl⟩, by decide +kernel, by decide, ⟨by decide, by decide⟩, by decide +kernel⟩
theorem kz_M_refused : am_Z km_M_refused 1 := ⟨Or.inl ⟨830, kw_830, rfl⟩, by decide +kernel, by decide, ⟨by decide, by decide⟩, by decide +kernel⟩
theorem kz_M_average : am_Z km_M_average 1 := ⟨Or.inl ⟨834, kw_834, rfl⟩, by decide +kernel, by decide, ⟨by decide, by decide⟩, by decide +kernel⟩
theorem kz_M_count : am_Z km_M_count 1 := ⟨Or.inl ⟨838, kw_838, rfl⟩, by decide +kernel, by decide, ⟨by decide, by decide⟩, by decide +kernel⟩
theorem ks_A_exact : Jvm.Cond.selects "AllocateSolve" (am_nm km_A_exact) (am_nm km_A_exact) ∈ lw_tbl := kw_in (i := 181) kw_181
theorem ks_A_choices : Jvm.Cond.selects "AllocateSolve" (am_nm km_A_choices) (am_nm km_A_choices) ∈ lw_tbl := kw_in (i := 185) kw_185
theorem ks_F_countChoices : Jvm.Cond.selects "AllocateSolve$Floor" (am_nm km_F_countChoices) (am_nm km_F_countChoices) ∈ lw_tbl := kw_in (i := 189) kw_189
theorem ks_F_allows : Jvm.Cond.selects "AllocateSolve$Floor" (am_nm km_F_allows) (am_nm km_F_allows) ∈ lw_tbl := kw_in (i := 193) kw_193
theorem ks_F_barsPassed : Jvm.Cond.selects "AllocateSolve$Floor" (am_nm km_F_barsPassed) (am_nm km_F_barsPassed) ∈ lw_tbl := List.mem_of_getElem? (i := 0) rfl
theorem ks_N_isBarred : Jvm.Cond.selects "AllocateSolve$Lines" (am_nm km_N_isBarred) (am_nm km_N_isBarred) ∈ lw_tbl := kw_in (i := 201) kw_201
theorem ks_A_bound : Jvm.Cond.selects "AllocateSolve" (am_nm km_A_bound) (am_nm km_A_bound) ∈ lw_tbl := kw_in (i := 206) kw_206
theorem ks_F_lineBound : Jvm.Cond.selects "AllocateSolve$Floor" (am_nm km_F_lineBound) (am_nm km_F_lineBound) ∈ lw_tbl := kw_in (i := 210) kw_210
theorem ks_F_pieceCost : Jvm.Cond.selects "AllocateSolve$Floor" (am_nm km_F_pieceCost) (am_nm km_F_pieceCost) ∈ lw_tbl := kw_in (i := 214) kw_214
theorem ks_A_count : Jvm.Cond.selects "AllocateSolve" (am_nm km_A_count) (am_nm km_A_count) ∈ lw_tbl := kw_in (i := 221) kw_221
theorem ks_F_totalPieces : Jvm.Cond.selects "AllocateSolve$Floor" (am_nm km_F_totalPieces) (am_nm km_F_totalPieces) ∈ lw_tbl := kw_in (i := 225) kw_225
theorem ks_F_piecesOf : Jvm.Cond.selects "AllocateSolve$Floor" (am_nm km_F_piecesOf) (am_nm km_F_piecesOf) ∈ lw_tbl := kw_in (i := 229) kw_229
theorem ks_F_totalGifts : Jvm.Cond.selects "AllocateSolve$Floor" (am_nm km_F_totalGifts) (am_nm km_F_totalGifts) ∈ lw_tbl := kw_in (i := 233) kw_233
theorem ks_F_giftsOf : Jvm.Cond.selects "AllocateSolve$Floor" (am_nm km_F_giftsOf) (am_nm km_F_giftsOf) ∈ lw_tbl := List.mem_of_getElem? (i := 1) rfl
theorem ks_F_totalCost : Jvm.Cond.selects "AllocateSolve$Floor" (am_nm km_F_totalCost) (am_nm km_F_totalCost) ∈ lw_tbl := kw_in (i := 241) kw_241
theorem ks_F_lineCost : Jvm.Cond.selects "AllocateSolve$Floor" (am_nm km_F_lineCost) (am_nm km_F_lineCost) ∈ lw_tbl := kw_in (i := 245) kw_245
theorem ks_A_lot : Jvm.Cond.selects "AllocateSolve" (am_nm km_A_lot) (am_nm km_A_lot) ∈ lw_tbl := kw_in (i := 254) kw_254
theorem ks_T_add : Jvm.Cond.selects "AllocateSolve$Lots" (am_nm km_T_add) (am_nm km_T_add) ∈ lw_tbl := kw_in (i := 347) kw_347
theorem ks_T_putInOrder : Jvm.Cond.selects "AllocateSolve$Lots" (am_nm km_T_putInOrder) (am_nm km_T_putInOrder) ∈ lw_tbl := List.mem_of_getElem? (i := 3) rfl
theorem ks_T_comesBefore : Jvm.Cond.selects "AllocateSolve$Lots" (am_nm km_T_comesBefore) (am_nm km_T_comesBefore) ∈ lw_tbl := List.mem_of_getElem? (i := 4) rfl
theorem ks_A_line : Jvm.Cond.selects "AllocateSolve" (am_nm km_A_line) (am_nm km_A_line) ∈ lw_tbl := kw_in (i := 362) kw_362
theorem ks_N_add : Jvm.Cond.selects "AllocateSolve$Lines" (am_nm km_N_add) (am_nm km_N_add) ∈ lw_tbl := kw_in (i := 367) kw_367
theorem ks_A_rule : Jvm.Cond.selects "AllocateSolve" (am_nm km_A_rule) (am_nm km_A_rule) ∈ lw_tbl := kw_in (i := 377) kw_377
theorem ks_A_needLine : Jvm.Cond.selects "AllocateSolve" (am_nm km_A_needLine) (am_nm km_A_needLine) ∈ lw_tbl := List.mem_of_getElem? (i := 5) rfl
theorem ks_A_cost : Jvm.Cond.selects "AllocateSolve" (am_nm km_A_cost) (am_nm km_A_cost) ∈ lw_tbl := kw_in (i := 408) kw_408
theorem ks_A_needLot : Jvm.Cond.selects "AllocateSolve" (am_nm km_A_needLot) (am_nm km_A_needLot) ∈ lw_tbl := List.mem_of_getElem? (i := 6) rfl
theorem ks_A_may : Jvm.Cond.selects "AllocateSolve" (am_nm km_A_may) (am_nm km_A_may) ∈ lw_tbl := kw_in (i := 420) kw_420
theorem ks_N_setBarred : Jvm.Cond.selects "AllocateSolve$Lines" (am_nm km_N_setBarred) (am_nm km_N_setBarred) ∈ lw_tbl := kw_in (i := 424) kw_424
theorem ks_A_solve : Jvm.Cond.selects "AllocateSolve" (am_nm km_A_solve) (am_nm km_A_solve) ∈ lw_tbl := kw_in (i := 432) kw_432
theorem ks_F_clear : Jvm.Cond.selects "AllocateSolve$Floor" (am_nm km_F_clear) (am_nm km_F_clear) ∈ lw_tbl := kw_in (i := 437) kw_437
theorem ks_F_letGo : Jvm.Cond.selects "AllocateSolve$Floor" (am_nm km_F_letGo) (am_nm km_F_letGo) ∈ lw_tbl := kw_in (i := 441) kw_441
theorem ks_F_move : Jvm.Cond.selects "AllocateSolve$Floor" (am_nm km_F_move) (am_nm km_F_move) ∈ lw_tbl := kw_in (i := 445) kw_445
theorem ks_S_readAllowed : Jvm.Cond.selects "AllocateSolve$Search" (am_nm km_S_readAllowed) (am_nm km_S_readAllowed) ∈ lw_tbl := kw_in (i := 449) kw_449
theorem ks_S_allocateAtLeastCost : Jvm.Cond.selects "AllocateSolve$Search" (am_nm km_S_allocateAtLeastCost) (am_nm km_S_allocateAtLeastCost) ∈ lw_tbl := kw_in (i := 454) kw_454
theorem ks_S_readBounds : Jvm.Cond.selects "AllocateSolve$Search" (am_nm km_S_readBounds) (am_nm km_S_readBounds) ∈ lw_tbl := List.mem_of_getElem? (i := 7) rfl
theorem ks_S_allocateByRule : Jvm.Cond.selects "AllocateSolve$Search" (am_nm km_S_allocateByRule) (am_nm km_S_allocateByRule) ∈ lw_tbl := kw_in (i := 463) kw_463
theorem ks_S_take : Jvm.Cond.selects "AllocateSolve$Search" (am_nm km_S_take) (am_nm km_S_take) ∈ lw_tbl := List.mem_of_getElem? (i := 8) rfl
theorem ks_S_keep : Jvm.Cond.selects "AllocateSolve$Search" (am_nm km_S_keep) (am_nm km_S_keep) ∈ lw_tbl := List.mem_of_getElem? (i := 9) rfl
theorem ks_A_give : Jvm.Cond.selects "AllocateSolve" (am_nm km_A_give) (am_nm km_A_give) ∈ lw_tbl := kw_in (i := 500) kw_500
theorem ks_F_lotOfGift : Jvm.Cond.selects "AllocateSolve$Floor" (am_nm km_F_lotOfGift) (am_nm km_F_lotOfGift) ∈ lw_tbl := kw_in (i := 504) kw_504
theorem ks_A_held : Jvm.Cond.selects "AllocateSolve" (am_nm km_A_held) (am_nm km_A_held) ∈ lw_tbl := kw_in (i := 513) kw_513
theorem ks_A_left : Jvm.Cond.selects "AllocateSolve" (am_nm km_A_left) (am_nm km_A_left) ∈ lw_tbl := kw_in (i := 520) kw_520
theorem ks_A_bar : Jvm.Cond.selects "AllocateSolve" (am_nm km_A_bar) (am_nm km_A_bar) ∈ lw_tbl := kw_in (i := 527) kw_527
theorem ks_F_firstBar : Jvm.Cond.selects "AllocateSolve$Floor" (am_nm km_F_firstBar) (am_nm km_F_firstBar) ∈ lw_tbl := kw_in (i := 531) kw_531
theorem ks_A_change : Jvm.Cond.selects "AllocateSolve" (am_nm km_A_change) (am_nm km_A_change) ∈ lw_tbl := kw_in (i := 541) kw_541
theorem ks_F_setPieces : Jvm.Cond.selects "AllocateSolve$Floor" (am_nm km_F_setPieces) (am_nm km_F_setPieces) ∈ lw_tbl := kw_in (i := 545) kw_545
theorem ks_F_giveUp : Jvm.Cond.selects "AllocateSolve$Floor" (am_nm km_F_giveUp) (am_nm km_F_giveUp) ∈ lw_tbl := List.mem_of_getElem? (i := 10) rfl
theorem ks_A_undo : Jvm.Cond.selects "AllocateSolve" (am_nm km_A_undo) (am_nm km_A_undo) ∈ lw_tbl := kw_in (i := 557) kw_557
theorem ks_A_refused : Jvm.Cond.selects "AllocateSolve" (am_nm km_A_refused) (am_nm km_A_refused) ∈ lw_tbl := kw_in (i := 582) kw_582
theorem ks_A_average : Jvm.Cond.selects "AllocateSolve" (am_nm km_A_average) (am_nm km_A_average) ∈ lw_tbl := kw_in (i := 590) kw_590
theorem ks_F_costOfPieces : Jvm.Cond.selects "AllocateSolve$Floor" (am_nm km_F_costOfPieces) (am_nm km_F_costOfPieces) ∈ lw_tbl := kw_in (i := 610) kw_610
theorem ks_M_thrown : Jvm.Cond.selects "AllocateSolveModel" (am_nm km_M_thrown) (am_nm km_M_thrown) ∈ lw_tbl := kw_in (i := 685) kw_685
theorem ks_M_lot : Jvm.Cond.selects "AllocateSolveModel" (am_nm km_M_lot) (am_nm km_M_lot) ∈ lw_tbl := kw_in (i := 689) kw_689
theorem ks_M_line : Jvm.Cond.selects "AllocateSolveModel" (am_nm km_M_line) (am_nm km_M_line) ∈ lw_tbl := kw_in (i := 696) kw_696
theorem ks_M_rule : Jvm.Cond.selects "AllocateSolveModel" (am_nm km_M_rule) (am_nm km_M_rule) ∈ lw_tbl := kw_in (i := 700) kw_700
theorem ks_M_isLine : Jvm.Cond.selects "AllocateSolveModel" (am_nm km_M_isLine) (am_nm km_M_isLine) ∈ lw_tbl := List.mem_of_getElem? (i := 11) rfl
theorem ks_M_cost : Jvm.Cond.selects "AllocateSolveModel" (am_nm km_M_cost) (am_nm km_M_cost) ∈ lw_tbl := kw_in (i := 711) kw_711
theorem ks_M_isLot : Jvm.Cond.selects "AllocateSolveModel" (am_nm km_M_isLot) (am_nm km_M_isLot) ∈ lw_tbl := List.mem_of_getElem? (i := 12) rfl
theorem ks_M_may : Jvm.Cond.selects "AllocateSolveModel" (am_nm km_M_may) (am_nm km_M_may) ∈ lw_tbl := kw_in (i := 719) kw_719
theorem ks_M_isAllowed : Jvm.Cond.selects "AllocateSolveModel" (am_nm km_M_isAllowed) (am_nm km_M_isAllowed) ∈ lw_tbl := List.mem_of_getElem? (i := 13) rfl
theorem ks_M_passes : Jvm.Cond.selects "AllocateSolveModel" (am_nm km_M_passes) (am_nm km_M_passes) ∈ lw_tbl := List.mem_of_getElem? (i := 14) rfl
theorem ks_M_solve : Jvm.Cond.selects "AllocateSolveModel" (am_nm km_M_solve) (am_nm km_M_solve) ∈ lw_tbl := kw_in (i := 731) kw_731
theorem ks_M_layOut : Jvm.Cond.selects "AllocateSolveModel" (am_nm km_M_layOut) (am_nm km_M_layOut) ∈ lw_tbl := List.mem_of_getElem? (i := 15) rfl
theorem ks_M_lotAt : Jvm.Cond.selects "AllocateSolveModel" (am_nm km_M_lotAt) (am_nm km_M_lotAt) ∈ lw_tbl := List.mem_of_getElem? (i := 16) rfl
theorem ks_M_isBefore : Jvm.Cond.selects "AllocateSolveModel" (am_nm km_M_isBefore) (am_nm km_M_isBefore) ∈ lw_tbl := List.mem_of_getElem? (i := 17) rfl
theorem ks_M_product : Jvm.Cond.selects "AllocateSolveModel" (am_nm km_M_product) (am_nm km_M_product) ∈ lw_tbl := List.mem_of_getElem? (i := 18) rfl
theorem ks_M_exactly : Jvm.Cond.selects "AllocateSolveModel" (am_nm km_M_exactly) (am_nm km_M_exactly) ∈ lw_tbl := List.mem_of_getElem? (i := 19) rfl
theorem ks_M_takeFrom : Jvm.Cond.selects "AllocateSolveModel" (am_nm km_M_takeFrom) (am_nm km_M_takeFrom) ∈ lw_tbl := List.mem_of_getElem? (i := 20) rfl
theorem ks_M_take : Jvm.Cond.selects "AllocateSolveModel" (am_nm km_M_take) (am_nm km_M_take) ∈ lw_tbl := List.mem_of_getElem? (i := 21) rfl
theorem ks_M_costOf : Jvm.Cond.selects "AllocateSolveModel" (am_nm km_M_costOf) (am_nm km_M_costOf) ∈ lw_tbl := List.mem_of_getElem? (i := 22) rfl
theorem ks_M_nextSets : Jvm.Cond.selects "AllocateSolveModel" (am_nm km_M_nextSets) (am_nm km_M_nextSets) ∈ lw_tbl := List.mem_of_getElem? (i := 23) rfl
theorem ks_M_byRule : Jvm.Cond.selects "AllocateSolveModel" (am_nm km_M_byRule) (am_nm km_M_byRule) ∈ lw_tbl := List.mem_of_getElem? (i := 24) rfl
theorem ks_M_exact : Jvm.Cond.selects "AllocateSolveModel" (am_nm km_M_exact) (am_nm km_M_exact) ∈ lw_tbl := kw_in (i := 780) kw_780
theorem ks_M_choices : Jvm.Cond.selects "AllocateSolveModel" (am_nm km_M_choices) (am_nm km_M_choices) ∈ lw_tbl := kw_in (i := 784) kw_784
theorem ks_M_bound : Jvm.Cond.selects "AllocateSolveModel" (am_nm km_M_bound) (am_nm km_M_bound) ∈ lw_tbl := kw_in (i := 789) kw_789
theorem ks_M_give : Jvm.Cond.selects "AllocateSolveModel" (am_nm km_M_give) (am_nm km_M_give) ∈ lw_tbl := kw_in (i := 793) kw_793
theorem ks_M_giftAt : Jvm.Cond.selects "AllocateSolveModel" (am_nm km_M_giftAt) (am_nm km_M_giftAt) ∈ lw_tbl := List.mem_of_getElem? (i := 25) rfl
theorem ks_M_held : Jvm.Cond.selects "AllocateSolveModel" (am_nm km_M_held) (am_nm km_M_held) ∈ lw_tbl := kw_in (i := 801) kw_801
theorem ks_M_heldOf : Jvm.Cond.selects "AllocateSolveModel" (am_nm km_M_heldOf) (am_nm km_M_heldOf) ∈ lw_tbl := List.mem_of_getElem? (i := 26) rfl
theorem ks_M_left : Jvm.Cond.selects "AllocateSolveModel" (am_nm km_M_left) (am_nm km_M_left) ∈ lw_tbl := kw_in (i := 809) kw_809
theorem ks_M_bar : Jvm.Cond.selects "AllocateSolveModel" (am_nm km_M_bar) (am_nm km_M_bar) ∈ lw_tbl := kw_in (i := 813) kw_813
theorem ks_M_change : Jvm.Cond.selects "AllocateSolveModel" (am_nm km_M_change) (am_nm km_M_change) ∈ lw_tbl := kw_in (i := 817) kw_817
theorem ks_M_undo : Jvm.Cond.selects "AllocateSolveModel" (am_nm km_M_undo) (am_nm km_M_undo) ∈ lw_tbl := kw_in (i := 821) kw_821
theorem ks_M_heldBy : Jvm.Cond.selects "AllocateSolveModel" (am_nm km_M_heldBy) (am_nm km_M_heldBy) ∈ lw_tbl := List.mem_of_getElem? (i := 27) rfl
theorem ks_M_refused : Jvm.Cond.selects "AllocateSolveModel" (am_nm km_M_refused) (am_nm km_M_refused) ∈ lw_tbl := kw_in (i := 829) kw_829
theorem ks_M_average : Jvm.Cond.selects "AllocateSolveModel" (am_nm km_M_average) (am_nm km_M_average) ∈ lw_tbl := kw_in (i := 833) kw_833
theorem ks_M_count : Jvm.Cond.selects "AllocateSolveModel" (am_nm km_M_count) (am_nm km_M_count) ∈ lw_tbl := kw_in (i := 837) kw_837
end
section
/-! numbers: an int by a whole number; rules over such -/
abbrev iI (z : Int) : Int32 := Int32.ofInt z
theorem ii_toInt {z : Int} (h1 : -2147483648 ≤ z) (h2 : z < 2147483648) : (iI z).toInt = z := Int32.toInt_ofInt_of_le (by omega) (by omega)
theorem ii_add (a b : Int) : iI a + iI b = iI (a + b) := (Int32.ofInt_add a b).symm
theorem ii_sub (a b : Int) : iI a - iI b = iI (a - b) := (Int32.ofInt_sub a b).symm
theorem ii_mul (a b : Int) : iI a * iI b = iI (a * b) := (Int32.ofInt_mul a b).symm
theorem ii_neg (a : Int) : -iI a = iI (-a) := (Int32.ofInt_neg a).symm
theorem ii_lt {a b : Int} (ha : -2147483648 ≤ a ∧ a < 2147483648) (hb : -2147483648 ≤ b ∧ b < 2147483648) : iI a < iI b ↔ a < b := by
  rw [Int32.lt_iff_toInt_lt, ii_toInt ha.1 ha.2, ii_toInt hb.1 hb.2]
theorem ii_le {a b : Int} (ha : -2147483648 ≤ a ∧ a < 2147483648) (hb : -2147483648 ≤ b ∧ b < 2147483648) : iI a ≤ iI b ↔ a ≤ b := by
  rw [Int32.le_iff_toInt_le, ii_toInt ha.1 ha.2, ii_toInt hb.1 hb.2]
theorem ii_eq {a b : Int} (ha : -2147483648 ≤ a ∧ a < 2147483648) (hb : -2147483648 ≤ b ∧ b < 2147483648) : iI a = iI b ↔ a = b := by
  constructor
  · intro h
    have := congrArg Int32.toInt h
    rwa [ii_toInt ha.1 ha.2, ii_toInt hb.1 hb.2] at this
  · rintro rfl
    rfl
theorem ii_nat (n : Nat) : iI (n : Int) = nI n := rfl
theorem ii_cl {n : Nat} (h : n < 2147483648) : (iI (n : Int)).toNatClampNeg = n := nI_clamp h
theorem ii_in {n N : Nat} (h : n < N) (hN : N < 2147483648) : vp_in (iI (n : Int)) N := vp_in_nI h hN
theorem ii_of (x : Int32) : ∃ z : Int, x = iI z ∧ -2147483648 ≤ z ∧ z < 2147483648 := by
  refine ⟨x.toInt, ?_, Int32.le_toInt x, ?_⟩
  · exact (Int32.ofInt_toInt x).symm
  · have := Int32.toInt_lt x
    omega
theorem ii_div {a b : Int} (ha : 0 ≤ a ∧ a < 2147483648) (hb : 0 < b ∧ b < 2147483648) : iI a / iI b = iI (a / b) := by
  obtain ⟨n, rfl⟩ := Int.eq_ofNat_of_zero_le ha.1
  obtain ⟨k, rfl⟩ := Int.eq_ofNat_of_zero_le (Int.le_of_lt hb.1)
  have h1 := pk_div (a := n) (d := k) (by omega) (by omega) (by omega)
  exact h1
/-- f, but z at k -/
def zu (F : Nat → Int) (k : Nat) (z : Int) : Nat → Int := fun j => if j = k then z else F j
theorem zu_s (F : Nat → Int) (k : Nat) (z : Int) : zu F k z k = z := if_pos rfl
theorem zu_n {F : Nat → Int} {k j : Nat} {z : Int} (h : j ≠ k) : zu F k z j = F j := if_neg h
theorem zu_upd (F : Nat → Int) (k : Nat) (z : Int) : upd (fun j => iI (F j)) k (iI z) = fun j => iI (zu F k z j) := by
  funext j
  by_cases h : j = k
  · subst h
    rw [pk_us, zu_s]
  · rw [pk_un h, zu_n h]
/-- a row of a grid, put anew -/
def zr (F : Nat → Nat → Int) (i : Nat) (R : Nat → Int) : Nat → Nat → Int := fun a => if a = i then R else F a
theorem zr_s (F : Nat → Nat → Int) (i : Nat) (R : Nat → Int) : zr F i R i = R := if_pos rfl
theorem zr_n {F : Nat → Nat → Int} {i a : Nat} {R : Nat → Int} (h : a ≠ i) : zr F i R a = F a := if_neg h
section AI
variable {d : Nat} {y z : am_Y} {pc : Nat} {ls : List (Option Value)} {st : List Value} {h : am_H} {n cu su : Nat} {Q : am_O → am_H → Nat → Prop}
theorem az_bipush {u : Int} (hd : decode (am_bc y) pc = .ok (.bipush u, 2)) (hu : (Int8.ofInt u).toInt32 = iI u) (k : am_W d y (pc + 2) ls (.int (iI u) :: st) h n cu su Q) : am_W d y pc ls st h n cu su Q := ar_bipush hd (by rw [hu]; exact k)
theorem az_sipush {u : Int} (hd : decode (am_bc y) pc = .ok (.sipush u, 3)) (hu : (Int16.ofInt u).toInt32 = iI u) (k : am_W d y (pc + 3) ls (.int (iI u) :: st) h n cu su Q) : am_W d y pc ls st h n cu su Q := ar_sipush hd (by rw [hu]; exact k)
theorem az_iadd {a b : Int} (hd : decode (am_bc y) pc = .ok (.iadd, 1)) (k : am_W d y (pc + 1) ls (.int (iI (a + b)) :: st) h n cu su Q) : am_W d y pc ls (.int (iI b) :: .int (iI a) :: st) h n cu su Q := ar_iadd hd (by rw [ii_add]; exact k)
theorem az_isub {a b : Int} (hd : decode (am_bc y) pc = .ok (.isub, 1)) (k : am_W d y (pc + 1) ls (.int (iI (a - b)) :: st) h n cu su Q) : am_W d y pc ls (.int (iI b) :: .int (iI a) :: st) h n cu su Q := ar_isub hd (by rw [ii_sub]; exact k)
theorem az_imul {a b : Int} (hd : decode (am_bc y) pc = .ok (.imul, 1)) (k : am_W d y (pc + 1) ls (.int (iI (a * b)) :: st) h n cu su Q) : am_W d y pc ls (.int (iI b) :: .int (iI a) :: st) h n cu su Q := ar_imul hd (by rw [ii_mul]; exact k)
theorem az_ineg {a : Int} (hd : decode (am_bc y) pc = .ok (.ineg, 1)) (k : am_W d y (pc + 1) ls (.int (iI (-a)) :: st) h n cu su Q) : am_W d y pc ls (.int (iI a) :: st) h n cu su Q := ar_ineg hd (by rw [ii_neg]; exact k)
theorem az_iinc {i : Nat} {u a : Int} (hd : decode (am_bc y) pc = .ok (.iinc i u, 3)) (hx : ls[i]? = some (some (.int (iI a)))) (hc : am_nc ls i = true) (k : am_W d y (pc + 3) (ls.set i (some (.int (iI (a + u))))) st h n cu su Q) : am_W d y pc ls st h n cu su Q := ar_iinc hd hx hc (by rw [ii_add]; exact k)
theorem az_if_eq {a : Int} {f : Int} {tg : Nat} (hd : decode (am_bc y) pc = .ok (.ifCond .eq f, 3)) (ht : (pc : Int) + f = (tg : Int)) (kt : a = 0 → am_W d y tg ls st h n cu su Q) (kf : ¬ a = 0 → am_W d y (pc + 3) ls st h n cu su Q) (ha : -2147483648 ≤ a ∧ a < 2147483648 := by omega) : am_W d y pc ls (.int (iI a) :: st) h n cu su Q :=
  ar_if_eq hd ht (fun q => kt ((ii_eq ha (by decide : (-2147483648 : Int) ≤ 0 ∧ (0 : Int) < 2147483648)).mp q)) (fun q => kf (fun e => q ((ii_eq ha (by decide : (-2147483648 : Int) ≤ 0 ∧ (0 : Int) < 2147483648)).mpr e)))
theorem az_icmp_eq {a b : Int} {f : Int} {tg : Nat} (hd : decode (am_bc y) pc = .ok (.if_icmp .eq f, 3)) (ht : (pc : Int) + f = (tg : Int)) (kt : a = b → am_W d y tg ls st h n cu su Q) (kf : ¬ a = b → am_W d y (pc + 3) ls st h n cu su Q) (ha : -2147483648 ≤ a ∧ a < 2147483648 := by omega) (hb : -2147483648 ≤ b ∧ b < 2147483648 := by omega) : am_W d y pc ls (.int (iI b) :: .int (iI a) :: st) h n cu su Q :=
  ar_icmp_eq hd ht (fun q => kt ((ii_eq ha hb).mp q)) (fun q => kf (fun e => q ((ii_eq ha hb).mpr e)))
theorem az_if_ne {a : Int} {f : Int} {tg : Nat} (hd : decode (am_bc y) pc = .ok (.ifCond .ne f, 3)) (ht : (pc : Int) + f = (tg : Int)) (kt : ¬ a = 0 → am_W d y tg ls st h n cu su Q) (kf : a = 0 → am_W d y (pc + 3) ls st h n cu su Q) (ha : -2147483648 ≤ a ∧ a < 2147483648 := by omega) : am_W d y pc ls (.int (iI a) :: st) h n cu su Q :=
  ar_if_ne hd ht (fun q => kt (fun e => q ((ii_eq ha (by decide : (-2147483648 : Int) ≤ 0 ∧ (0 : Int) < 2147483648)).mpr e))) (fun q => kf ((ii_eq ha (by decide : (-2147483648 : Int) ≤ 0 ∧ (0 : Int) < 2147483648)).mp q))
theorem az_icmp_ne {a b : Int} {f : Int} {tg : Nat} (hd : decode (am_bc y) pc = .ok (.if_icmp .ne f, 3)) (ht : (pc : Int) + f = (tg : Int)) (kt : ¬ a = b → am_W d y tg ls st h n cu su Q) (kf : a = b → am_W d y (pc + 3) ls st h n cu su Q) (ha : -2147483648 ≤ a ∧ a < 2147483648 := by omega) (hb : -2147483648 ≤ b ∧ b < 2147483648 := by omega) : am_W d y pc ls (.int (iI b) :: .int (iI a) :: st) h n cu su Q :=
  ar_icmp_ne hd ht (fun q => kt (fun e => q ((ii_eq ha hb).mpr e))) (fun q => kf ((ii_eq ha hb).mp q))
theorem az_if_lt {a : Int} {f : Int} {tg : Nat} (hd : decode (am_bc y) pc = .ok (.ifCond .lt f, 3)) (ht : (pc : Int) + f = (tg : Int)) (kt : a < 0 → am_W d y tg ls st h n cu su Q) (kf : ¬ a < 0 → am_W d y (pc + 3) ls st h n cu su Q) (ha : -2147483648 ≤ a ∧ a < 2147483648 := by omega) : am_W d y pc ls (.int (iI a) :: st) h n cu su Q :=
  ar_if_lt hd ht (fun q => kt ((ii_lt ha (by decide : (-2147483648 : Int) ≤ 0 ∧ (0 : Int) < 2147483648)).mp q)) (fun q => kf (fun e => q ((ii_lt ha (by decide : (-2147483648 : Int) ≤ 0 ∧ (0 : Int) < 2147483648)).mpr e)))
theorem az_icmp_lt {a b : Int} {f : Int} {tg : Nat} (hd : decode (am_bc y) pc = .ok (.if_icmp .lt f, 3)) (ht : (pc : Int) + f = (tg : Int)) (kt : a < b → am_W d y tg ls st h n cu su Q) (kf : ¬ a < b → am_W d y (pc + 3) ls st h n cu su Q) (ha : -2147483648 ≤ a ∧ a < 2147483648 := by omega) (hb : -2147483648 ≤ b ∧ b < 2147483648 := by omega) : am_W d y pc ls (.int (iI b) :: .int (iI a) :: st) h n cu su Q :=
  ar_icmp_lt hd ht (fun q => kt ((ii_lt ha hb).mp q)) (fun q => kf (fun e => q ((ii_lt ha hb).mpr e)))
theorem az_if_ge {a : Int} {f : Int} {tg : Nat} (hd : decode (am_bc y) pc = .ok (.ifCond .ge f, 3)) (ht : (pc : Int) + f = (tg : Int)) (kt : 0 ≤ a → am_W d y tg ls st h n cu su Q) (kf : ¬ 0 ≤ a → am_W d y (pc + 3) ls st h n cu su Q) (ha : -2147483648 ≤ a ∧ a < 2147483648 := by omega) : am_W d y pc ls (.int (iI a) :: st) h n cu su Q :=
  ar_if_ge hd ht (fun q => kt ((ii_le (by decide : (-2147483648 : Int) ≤ 0 ∧ (0 : Int) < 2147483648) ha).mp q)) (fun q => kf (fun e => q ((ii_le (by decide : (-2147483648 : Int) ≤ 0 ∧ (0 : Int) < 2147483648) ha).mpr e)))
theorem az_icmp_ge {a b : Int} {f : Int} {tg : Nat} (hd : decode (am_bc y) pc = .ok (.if_icmp .ge f, 3)) (ht : (pc : Int) + f = (tg : Int)) (kt : b ≤ a → am_W d y tg ls st h n cu su Q) (kf : ¬ b ≤ a → am_W d y (pc + 3) ls st h n cu su Q) (ha : -2147483648 ≤ a ∧ a < 2147483648 := by omega) (hb : -2147483648 ≤ b ∧ b < 2147483648 := by omega) : am_W d y pc ls (.int (iI b) :: .int (iI a) :: st) h n cu su Q :=
  ar_icmp_ge hd ht (fun q => kt ((ii_le hb ha).mp q)) (fun q => kf (fun e => q ((ii_le hb ha).mpr e)))
theorem az_if_gt {a : Int} {f : Int} {tg : Nat} (hd : decode (am_bc y) pc = .ok (.ifCond .gt f, 3)) (ht : (pc : Int) + f = (tg : Int)) (kt : 0 < a → am_W d y tg ls st h n cu su Q) (kf : ¬ 0 < a → am_W d y (pc + 3) ls st h n cu su Q) (ha : -2147483648 ≤ a ∧ a < 2147483648 := by omega) : am_W d y pc ls (.int (iI a) :: st) h n cu su Q :=
  ar_if_gt hd ht (fun q => kt ((ii_lt (by decide : (-2147483648 : Int) ≤ 0 ∧ (0 : Int) < 2147483648) ha).mp q)) (fun q => kf (fun e => q ((ii_lt (by decide : (-2147483648 : Int) ≤ 0 ∧ (0 : Int) < 2147483648) ha).mpr e)))
theorem az_icmp_gt {a b : Int} {f : Int} {tg : Nat} (hd : decode (am_bc y) pc = .ok (.if_icmp .gt f, 3)) (ht : (pc : Int) + f = (tg : Int)) (kt : b < a → am_W d y tg ls st h n cu su Q) (kf : ¬ b < a → am_W d y (pc + 3) ls st h n cu su Q) (ha : -2147483648 ≤ a ∧ a < 2147483648 := by omega) (hb : -2147483648 ≤ b ∧ b < 2147483648 := by omega) : am_W d y pc ls (.int (iI b) :: .int (iI a) :: st) h n cu su Q :=
  ar_icmp_gt hd ht (fun q => kt ((ii_lt hb ha).mp q)) (fun q => kf (fun e => q ((ii_lt hb ha).mpr e)))
theorem az_if_le {a : Int} {f : Int} {tg : Nat} (hd : decode (am_bc y) pc = .ok (.ifCond .le f, 3)) (ht : (pc : Int) + f = (tg : Int)) (kt : a ≤ 0 → am_W d y tg ls st h n cu su Q) (kf : ¬ a ≤ 0 → am_W d y (pc + 3) ls st h n cu su Q) (ha : -2147483648 ≤ a ∧ a < 2147483648 := by omega) : am_W d y pc ls (.int (iI a) :: st) h n cu su Q :=
  ar_if_le hd ht (fun q => kt ((ii_le ha (by decide : (-2147483648 : Int) ≤ 0 ∧ (0 : Int) < 2147483648)).mp q)) (fun q => kf (fun e => q ((ii_le ha (by decide : (-2147483648 : Int) ≤ 0 ∧ (0 : Int) < 2147483648)).mpr e)))
theorem az_icmp_le {a b : Int} {f : Int} {tg : Nat} (hd : decode (am_bc y) pc = .ok (.if_icmp .le f, 3)) (ht : (pc : Int) + f = (tg : Int)) (kt : a ≤ b → am_W d y tg ls st h n cu su Q) (kf : ¬ a ≤ b → am_W d y (pc + 3) ls st h n cu su Q) (ha : -2147483648 ≤ a ∧ a < 2147483648 := by omega) (hb : -2147483648 ≤ b ∧ b < 2147483648 := by omega) : am_W d y pc ls (.int (iI b) :: .int (iI a) :: st) h n cu su Q :=
  ar_icmp_le hd ht (fun q => kt ((ii_le ha hb).mp q)) (fun q => kf (fun e => q ((ii_le ha hb).mpr e)))
theorem az_iald {r N k : Nat} {F : Nat → Int} {u : Int} (hd : decode (am_bc y) pc = .ok (.iaload, 1)) (ho : h[r]? = some (am_ia N (fun j => iI (F j)))) (hu : u = (k : Int)) (hk : k < N) (kk : am_W d y (pc + 1) ls (.int (iI (F k)) :: st) h n cu su Q) (hN : N < 2147483648 := by omega) : am_W d y pc ls (.int (iI u) :: .ref r :: st) h n cu su Q := by
  subst hu
  refine ar_iald hd ho (ii_in hk hN) ?_
  rw [ii_cl (by omega)]
  exact kk
theorem az_iast {r N k : Nat} {F : Nat → Int} {u x : Int} (hd : decode (am_bc y) pc = .ok (.iastore, 1)) (h4 : Nat.ble 4 r = true) (ho : h[r]? = some (am_ia N (fun j => iI (F j)))) (hu : u = (k : Int)) (hk : k < N) (kk : am_W d y (pc + 1) ls st (h.set r (am_ia N (fun j => iI (zu F k x j)))) n cu su Q) (hN : N < 2147483648 := by omega) : am_W d y pc ls (.int (iI x) :: .int (iI u) :: .ref r :: st) h n cu su Q := by
  subst hu
  refine ar_iast hd (Nat.le_of_ble_eq_true h4) ho (ii_in hk hN) ?_
  rw [ii_cl (by omega), zu_upd]
  exact kk
/-- a raw element -/
theorem az_ialdR {r N k : Nat} {f : Nat → Int32} {u : Int} (hd : decode (am_bc y) pc = .ok (.iaload, 1)) (ho : h[r]? = some (am_ia N f)) (hu : u = (k : Int)) (hk : k < N) (kk : am_W d y (pc + 1) ls (.int (f k) :: st) h n cu su Q) (hN : N < 2147483648 := by omega) : am_W d y pc ls (.int (iI u) :: .ref r :: st) h n cu su Q := by
  subst hu
  refine ar_iald hd ho (ii_in hk hN) ?_
  rw [ii_cl (by omega)]
  exact kk
theorem az_iastR {r N k : Nat} {f : Nat → Int32} {u : Int} {x : Int32} (hd : decode (am_bc y) pc = .ok (.iastore, 1)) (h4 : Nat.ble 4 r = true) (ho : h[r]? = some (am_ia N f)) (hu : u = (k : Int)) (hk : k < N) (kk : am_W d y (pc + 1) ls st (h.set r (am_ia N (upd f k x))) n cu su Q) (hN : N < 2147483648 := by omega) : am_W d y pc ls (.int x :: .int (iI u) :: .ref r :: st) h n cu su Q := by
  subst hu
  refine ar_iast hd (Nat.le_of_ble_eq_true h4) ho (ii_in hk hN) ?_
  rw [ii_cl (by omega)]
  exact kk
theorem az_aald {r N k t : Nat} {f : Nat → Option Nat} {u : Int} (hd : decode (am_bc y) pc = .ok (.aaload, 1)) (ho : h[r]? = some (am_ra N f)) (hu : u = (k : Int)) (hk : k < N) (hv : f k = some t) (kk : am_W d y (pc + 1) ls (.ref t :: st) h n cu su Q) (hN : N < 2147483648 := by omega) : am_W d y pc ls (.int (iI u) :: .ref r :: st) h n cu su Q := by
  subst hu
  refine ar_aald hd ho (ii_in hk hN) ?_ kk
  rw [ii_cl (by omega)]
  exact hv
theorem az_zald {r N k : Nat} {f : Nat → Int32} {u : Int} (hd : decode (am_bc y) pc = .ok (.baload, 1)) (ho : h[r]? = some (am_za N f)) (hu : u = (k : Int)) (hk : k < N) (kk : am_W d y (pc + 1) ls (.int (f k) :: st) h n cu su Q) (hN : N < 2147483648 := by omega) : am_W d y pc ls (.int (iI u) :: .ref r :: st) h n cu su Q := by
  subst hu
  refine ar_zald hd ho (ii_in hk hN) ?_
  rw [ii_cl (by omega)]
  exact kk
theorem az_zast {r N k : Nat} {f : Nat → Int32} {u : Int} {x : Int32} (hd : decode (am_bc y) pc = .ok (.bastore, 1)) (h4 : Nat.ble 4 r = true) (ho : h[r]? = some (am_za N f)) (hu : u = (k : Int)) (hk : k < N) (kk : am_W d y (pc + 1) ls st (h.set r (am_za N (upd f k (vp_nar .boolean x)))) n cu su Q) (hN : N < 2147483648 := by omega) : am_W d y pc ls (.int x :: .int (iI u) :: .ref r :: st) h n cu su Q := by
  subst hu
  refine ar_zast hd (Nat.le_of_ble_eq_true h4) ho (ii_in hk hN) ?_
  rw [ii_cl (by omega)]
  exact kk
theorem az_idiv {a b : Int} (hd : decode (am_bc y) pc = .ok (.idiv, 1)) (ha : 0 ≤ a ∧ a < 2147483648) (hb : 0 < b ∧ b < 2147483648) (k : am_W d y (pc + 1) ls (.int (iI (a / b)) :: st) h n cu su Q) : am_W d y pc ls (.int (iI b) :: .int (iI a) :: st) h n cu su Q :=
  ar_idiv hd (fun e => by have := (ii_eq (a := b) (b := 0) (by omega) (by decide)).mp e; omega) (by rw [ii_div ha hb]; exact k)
theorem az_irem {a b : Int} (hd : decode (am_bc y) pc = .ok (.irem, 1)) (ha : 0 ≤ a ∧ a < 2147483648) (hb : 0 < b ∧ b < 2147483648) (k : am_W d y (pc + 1) ls (.int (iI (a % b)) :: st) h n cu su Q) : am_W d y pc ls (.int (iI b) :: .int (iI a) :: st) h n cu su Q :=
  ar_irem hd (fun e => by have := (ii_eq (a := b) (b := 0) (by omega) (by decide)).mp e; omega) (by
    rw [ii_div ha hb, ii_mul, ii_sub]
    have e : a - a / b * b = a % b := by have := Int.emod_def a b; rw [Int.mul_comm]; omega
    rw [e]; exact k)
end AI
end
section
/-! the states of the class and of the reference, and their pictures in the heap (by program, wip/whole/state.py) -/
abbrev cS : Type := Nat × (Nat → Int) × (Nat → Int) × (Nat → Int) × (Nat → Int) × (Nat → Int) × (Nat → Int) × Nat × (Nat → Int) × (Nat → Int) × (Nat → Int32) × (Nat → Nat → Int) × (Nat → Nat → Int) × (Nat → Nat → Int) × (Nat → Nat → Int) × (Nat → Int) × (Nat → Int) × (Nat → Int) × (Nat → Int) × Int × Int
abbrev cg_nT (s : cS) : Nat := s.1
abbrev cg_pl (s : cS) : (Nat → Int) := s.2.1
abbrev cg_gd (s : cS) : (Nat → Int) := s.2.2.1
abbrev cg_un (s : cS) : (Nat → Int) := s.2.2.2.1
abbrev cg_pc (s : cS) : (Nat → Int) := s.2.2.2.2.1
abbrev cg_fr (s : cS) : (Nat → Int) := s.2.2.2.2.2.1
abbrev cg_od (s : cS) : (Nat → Int) := s.2.2.2.2.2.2.1
abbrev cg_nL (s : cS) : Nat := s.2.2.2.2.2.2.2.1
abbrev cg_lg (s : cS) : (Nat → Int) := s.2.2.2.2.2.2.2.2.1
abbrev cg_lw (s : cS) : (Nat → Int) := s.2.2.2.2.2.2.2.2.2.1
abbrev cg_lb (s : cS) : (Nat → Int32) := s.2.2.2.2.2.2.2.2.2.2.1
abbrev cg_rl (s : cS) : (Nat → Nat → Int) := s.2.2.2.2.2.2.2.2.2.2.2.1
abbrev cg_tl (s : cS) : (Nat → Nat → Int) := s.2.2.2.2.2.2.2.2.2.2.2.2.1
abbrev cg_gi (s : cS) : (Nat → Nat → Int) := s.2.2.2.2.2.2.2.2.2.2.2.2.2.1
abbrev cg_al (s : cS) : (Nat → Nat → Int) := s.2.2.2.2.2.2.2.2.2.2.2.2.2.2.1
abbrev cg_ac (s : cS) : (Nat → Int) := s.2.2.2.2.2.2.2.2.2.2.2.2.2.2.2.1
abbrev cg_tr (s : cS) : (Nat → Int) := s.2.2.2.2.2.2.2.2.2.2.2.2.2.2.2.2.1
abbrev cg_be (s : cS) : (Nat → Int) := s.2.2.2.2.2.2.2.2.2.2.2.2.2.2.2.2.2.1
abbrev cg_rb (s : cS) : (Nat → Int) := s.2.2.2.2.2.2.2.2.2.2.2.2.2.2.2.2.2.2.1
abbrev cg_bc (s : cS) : Int := s.2.2.2.2.2.2.2.2.2.2.2.2.2.2.2.2.2.2.2.1
abbrev cg_ex (s : cS) : Int := s.2.2.2.2.2.2.2.2.2.2.2.2.2.2.2.2.2.2.2.2
abbrev cs_nT (s : cS) (v : Nat) : cS := (v, s.2.1, s.2.2.1, s.2.2.2.1, s.2.2.2.2.1, s.2.2.2.2.2.1, s.2.2.2.2.2.2.1, s.2.2.2.2.2.2.2.1, s.2.2.2.2.2.2.2.2.1, s.2.2.2.2.2.2.2.2.2.1, s.2.2.2.2.2.2.2.2.2.2.1, s.2.2.2.2.2.2.2.2.2.2.2.1, s.2.2.2.2.2.2.2.2.2.2.2.2.1, s.2.2.2.2.2.2.2.2.2.2.2.2.2.1, s.2.2.2.2.2.2.2.2.2.2.2.2.2.2.1, s.2.2.2.2.2.2.2.2.2.2.2.2.2.2.2.1, s.2.2.2.2.2.2.2.2.2.2.2.2.2.2.2.2.1, s.2.2.2.2.2.2.2.2.2.2.2.2.2.2.2.2.2.1, s.2.2.2.2.2.2.2.2.2.2.2.2.2.2.2.2.2.2.1, s.2.2.2.2.2.2.2.2.2.2.2.2.2.2.2.2.2.2.2.1, s.2.2.2.2.2.2.2.2.2.2.2.2.2.2.2.2.2.2.2.2)
abbrev cs_pl (s : cS) (v : (Nat → Int)) : cS := (s.1, v, s.2.2.1, s.2.2.2.1, s.2.2.2.2.1, s.2.2.2.2.2.1, s.2.2.2.2.2.2.1, s.2.2.2.2.2.2.2.1, s.2.2.2.2.2.2.2.2.1, s.2.2.2.2.2.2.2.2.2.1, s.2.2.2.2.2.2.2.2.2.2.1, s.2.2.2.2.2.2.2.2.2.2.2.1, s.2.2.2.2.2.2.2.2.2.2.2.2.1, s.2.2.2.2.2.2.2.2.2.2.2.2.2.1, s.2.2.2.2.2.2.2.2.2.2.2.2.2.2.1, s.2.2.2.2.2.2.2.2.2.2.2.2.2.2.2.1, s.2.2.2.2.2.2.2.2.2.2.2.2.2.2.2.2.1, s.2.2.2.2.2.2.2.2.2.2.2.2.2.2.2.2.2.1, s.2.2.2.2.2.2.2.2.2.2.2.2.2.2.2.2.2.2.1, s.2.2.2.2.2.2.2.2.2.2.2.2.2.2.2.2.2.2.2.1, s.2.2.2.2.2.2.2.2.2.2.2.2.2.2.2.2.2.2.2.2)
abbrev cs_gd (s : cS) (v : (Nat → Int)) : cS := (s.1, s.2.1, v, s.2.2.2.1, s.2.2.2.2.1, s.2.2.2.2.2.1, s.2.2.2.2.2.2.1, s.2.2.2.2.2.2.2.1, s.2.2.2.2.2.2.2.2.1, s.2.2.2.2.2.2.2.2.2.1, s.2.2.2.2.2.2.2.2.2.2.1, s.2.2.2.2.2.2.2.2.2.2.2.1, s.2.2.2.2.2.2.2.2.2.2.2.2.1, s.2.2.2.2.2.2.2.2.2.2.2.2.2.1, s.2.2.2.2.2.2.2.2.2.2.2.2.2.2.1, s.2.2.2.2.2.2.2.2.2.2.2.2.2.2.2.1, s.2.2.2.2.2.2.2.2.2.2.2.2.2.2.2.2.1, s.2.2.2.2.2.2.2.2.2.2.2.2.2.2.2.2.2.1, s.2.2.2.2.2.2.2.2.2.2.2.2.2.2.2.2.2.2.1, s.2.2.2.2.2.2.2.2.2.2.2.2.2.2.2.2.2.2.2.1, s.2.2.2.2.2.2.2.2.2.2.2.2.2.2.2.2.2.2.2.2)
abbrev cs_un (s : cS) (v : (Nat → Int)) : cS := (s.1, s.2.1, s.2.2.1, v, s.2.2.2.2.1, s.2.2.2.2.2.1, s.2.2.2.2.2.2.1, s.2.2.2.2.2.2.2.1, s.2.2.2.2.2.2.2.2.1, s.2.2.2.2.2.2.2.2.2.1, s.2.2.2.2.2.2.2.2.2.2.1, s.2.2.2.2.2.2.2.2.2.2.2.1, s.2.2.2.2.2.2.2.2.2.2.2.2.1, s.2.2.2.2.2.2.2.2.2.2.2.2.2.1, s.2.2.2.2.2.2.2.2.2.2.2.2.2.2.1, s.2.2.2.2.2.2.2.2.2.2.2.2.2.2.2.1, s.2.2.2.2.2.2.2.2.2.2.2.2.2.2.2.2.1, s.2.2.2.2.2.2.2.2.2.2.2.2.2.2.2.2.2.1, s.2.2.2.2.2.2.2.2.2.2.2.2.2.2.2.2.2.2.1, s.2.2.2.2.2.2.2.2.2.2.2.2.2.2.2.2.2.2.2.1, s.2.2.2.2.2.2.2.2.2.2.2.2.2.2.2.2.2.2.2.2)
abbrev cs_pc (s : cS) (v : (Nat → Int)) : cS := (s.1, s.2.1, s.2.2.1, s.2.2.2.1, v, s.2.2.2.2.2.1, s.2.2.2.2.2.2.1, s.2.2.2.2.2.2.2.1, s.2.2.2.2.2.2.2.2.1, s.2.2.2.2.2.2.2.2.2.1, s.2.2.2.2.2.2.2.2.2.2.1, s.2.2.2.2.2.2.2.2.2.2.2.1, s.2.2.2.2.2.2.2.2.2.2.2.2.1, s.2.2.2.2.2.2.2.2.2.2.2.2.2.1, s.2.2.2.2.2.2.2.2.2.2.2.2.2.2.1, s.2.2.2.2.2.2.2.2.2.2.2.2.2.2.2.1, s.2.2.2.2.2.2.2.2.2.2.2.2.2.2.2.2.1, s.2.2.2.2.2.2.2.2.2.2.2.2.2.2.2.2.2.1, s.2.2.2.2.2.2.2.2.2.2.2.2.2.2.2.2.2.2.1, s.2.2.2.2.2.2.2.2.2.2.2.2.2.2.2.2.2.2.2.1, s.2.2.2.2.2.2.2.2.2.2.2.2.2.2.2.2.2.2.2.2)
abbrev cs_fr (s : cS) (v : (Nat → Int)) : cS := (s.1, s.2.1, s.2.2.1, s.2.2.2.1, s.2.2.2.2.1, v, s.2.2.2.2.2.2.1, s.2.2.2.2.2.2.2.1, s.2.2.2.2.2.2.2.2.1, s.2.2.2.2.2.2.2.2.2.1, s.2.2.2.2.2.2.2.2.2.2.1, s.2.2.2.2.2.2.2.2.2.2.2.1, s.2.2.2.2.2.2.2.2.2.2.2.2.1, s.2.2.2.2.2.2.2.2.2.2.2.2.2.1, s.2.2.2.2.2.2.2.2.2.2.2.2.2.2.1, s.2.2.2.2.2.2.2.2.2.2.2.2.2.2.2.1, s.2.2.2.2.2.2.2.2.2.2.2.2.2.2.2.2.1, s.2.2.2.2.2.2.2.2.2.2.2.2.2.2.2.2.2.1, s.2.2.2.2.2.2.2.2.2.2.2.2.2.2.2.2.2.2.1, s.2.2.2.2.2.2.2.2.2.2.2.2.2.2.2.2.2.2.2.1, s.2.2.2.2.2.2.2.2.2.2.2.2.2.2.2.2.2.2.2.2)
abbrev cs_od (s : cS) (v : (Nat → Int)) : cS := (s.1, s.2.1, s.2.2.1, s.2.2.2.1, s.2.2.2.2.1, s.2.2.2.2.2.1, v, s.2.2.2.2.2.2.2.1, s.2.2.2.2.2.2.2.2.1, s.2.2.2.2.2.2.2.2.2.1, s.2.2.2.2.2.2.2.2.2.2.1, s.2.2.2.2.2.2.2.2.2.2.2.1, s.2.2.2.2.2.2.2.2.2.2.2.2.1, s.2.2.2.2.2.2.2.2.2.2.2.2.2.1, s.2.2.2.2.2.2.2.2.2.2.2.2.2.2.1, s.2.2.2.2.2.2.2.2.2.2.2.2.2.2.2.1, s.2.2.2.2.2.2.2.2.2.2.2.2.2.2.2.2.1, s.2.2.2.2.2.2.2.2.2.2.2.2.2.2.2.2.2.1, s.2.2.2.2.2.2.2.2.2.2.2.2.2.2.2.2.2.2.1, s.2.2.2.2.2.2.2.2.2.2.2.2.2.2.2.2.2.2.2.1, s.2.2.2.2.2.2.2.2.2.2.2.2.2.2.2.2.2.2.2.2)
abbrev cs_nL (s : cS) (v : Nat) : cS := (s.1, s.2.1, s.2.2.1, s.2.2.2.1, s.2.2.2.2.1, s.2.2.2.2.2.1, s.2.2.2.2.2.2.1, v, s.2.2.2.2.2.2.2.2.1, s.2.2.2.2.2.2.2.2.2.1, s.2.2.2.2.2.2.2.2.2.2.1, s.2.2.2.2.2.2.2.2.2.2.2.1, s.2.2.2.2.2.2.2.2.2.2.2.2.1, s.2.2.2.2.2.2.2.2.2.2.2.2.2.1, s.2.2.2.2.2.2.2.2.2.2.2.2.2.2.1, s.2.2.2.2.2.2.2.2.2.2.2.2.2.2.2.1, s.2.2.2.2.2.2.2.2.2.2.2.2.2.2.2.2.1, s.2.2.2.2.2.2.2.2.2.2.2.2.2.2.2.2.2.1, s.2.2.2.2.2.2.2.2.2.2.2.2.2.2.2.2.2.2.1, s.2.2.2.2.2.2.2.2.2.2.2.2.2.2.2.2.2.2.2.1, s.2.2.2.2.2.2.2.2.2.2.2.2.2.2.2.2.2.2.2.2)
abbrev cs_lg (s : cS) (v : (Nat → Int)) : cS := (s.1, s.2.1, s.2.2.1, s.2.2.2.1, s.2.2.2.2.1, s.2.2.2.2.2.1, s.2.2.2.2.2.2.1, s.2.2.2.2.2.2.2.1, v, s.2.2.2.2.2.2.2.2.2.1, s.2.2.2.2.2.2.2.2.2.2.1, s.2.2.2.2.2.2.2.2.2.2.2.1, s.2.2.2.2.2.2.2.2.2.2.2.2.1, s.2.2.2.2.2.2.2.2.2.2.2.2.2.1, s.2.2.2.2.2.2.2.2.2.2.2.2.2.2.1, s.2.2.2.2.2.2.2.2.2.2.2.2.2.2.2.1, s.2.2.2.2.2.2.2.2.2.2.2.2.2.2.2.2.1, s.2.2.2.2.2.2.2.2.2.2.2.2.2.2.2.2.2.1, s.2.2.2.2.2.2.2.2.2.2.2.2.2.2.2.2.2.2.1, s.2.2.2.2.2.2.2.2.2.2.2.2.2.2.2.2.2.2.2.1, s.2.2.2.2.2.2.2.2.2.2.2.2.2.2.2.2.2.2.2.2)
abbrev cs_lw (s : cS) (v : (Nat → Int)) : cS := (s.1, s.2.1, s.2.2.1, s.2.2.2.1, s.2.2.2.2.1, s.2.2.2.2.2.1, s.2.2.2.2.2.2.1, s.2.2.2.2.2.2.2.1, s.2.2.2.2.2.2.2.2.1, v, s.2.2.2.2.2.2.2.2.2.2.1, s.2.2.2.2.2.2.2.2.2.2.2.1, s.2.2.2.2.2.2.2.2.2.2.2.2.1, s.2.2.2.2.2.2.2.2.2.2.2.2.2.1, s.2.2.2.2.2.2.2.2.2.2.2.2.2.2.1, s.2.2.2.2.2.2.2.2.2.2.2.2.2.2.2.1, s.2.2.2.2.2.2.2.2.2.2.2.2.2.2.2.2.1, s.2.2.2.2.2.2.2.2.2.2.2.2.2.2.2.2.2.1, s.2.2.2.2.2.2.2.2.2.2.2.2.2.2.2.2.2.2.1, s.2.2.2.2.2.2.2.2.2.2.2.2.2.2.2.2.2.2.2.1, s.2.2.2.2.2.2.2.2.2.2.2.2.2.2.2.2.2.2.2.2)
abbrev cs_lb (s : cS) (v : (Nat → Int32)) : cS := (s.1, s.2.1, s.2.2.1, s.2.2.2.1, s.2.2.2.2.1, s.2.2.2.2.2.1, s.2.2.2.2.2.2.1, s.2.2.2.2.2.2.2.1, s.2.2.2.2.2.2.2.2.1, s.2.2.2.2.2.2.2.2.2.1, v, s.2.2.2.2.2.2.2.2.2.2.2.1, s.2.2.2.2.2.2.2.2.2.2.2.2.1, s.2.2.2.2.2.2.2.2.2.2.2.2.2.1, s.2.2.2.2.2.2.2.2.2.2.2.2.2.2.1, s.2.2.2.2.2.2.2.2.2.2.2.2.2.2.2.1, s.2.2.2.2.2.2.2.2.2.2.2.2.2.2.2.2.1, s.2.2.2.2.2.2.2.2.2.2.2.2.2.2.2.2.2.1, s.2.2.2.2.2.2.2.2.2.2.2.2.2.2.2.2.2.2.1, s.2.2.2.2.2.2.2.2.2.2.2.2.2.2.2.2.2.2.2.1, s.2.2.2.2.2.2.2.2.2.2.2.2.2.2.2.2.2.2.2.2)
abbrev cs_rl (s : cS) (v : (Nat → Nat → Int)) : cS := (s.1, s.2.1, s.2.2.1, s.2.2.2.1, s.2.2.2.2.1, s.2.2.2.2.2.1, s.2.2.2.2.2.2.1, s.2.2.2.2.2.2.2.1, s.2.2.2.2.2.2.2.2.1, s.2.2.2.2.2.2.2.2.2.1, s.2.2.2.2.2.2.2.2.2.2.1, v, s.2.2.2.2.2.2.2.2.2.2.2.2.1, s.2.2.2.2.2.2.2.2.2.2.2.2.2.1, s.2.2.2.2.2.2.2.2.2.2.2.2.2.2.1, s.2.2.2.2.2.2.2.2.2.2.2.2.2.2.2.1, s.2.2.2.2.2.2.2.2.2.2.2.2.2.2.2.2.1, s.2.2.2.2.2.2.2.2.2.2.2.2.2.2.2.2.2.1, s.2.2.2.2.2.2.2.2.2.2.2.2.2.2.2.2.2.2.1, s.2.2.2.2.2.2.2.2.2.2.2.2.2.2.2.2.2.2.2.1, s.2.2.2.2.2.2.2.2.2.2.2.2.2.2.2.2.2.2.2.2)
abbrev cs_tl (s : cS) (v : (Nat → Nat → Int)) : cS := (s.1, s.2.1, s.2.2.1, s.2.2.2.1, s.2.2.2.2.1, s.2.2.2.2.2.1, s.2.2.2.2.2.2.1, s.2.2.2.2.2.2.2.1, s.2.2.2.2.2.2.2.2.1, s.2.2.2.2.2.2.2.2.2.1, s.2.2.2.2.2.2.2.2.2.2.1, s.2.2.2.2.2.2.2.2.2.2.2.1, v, s.2.2.2.2.2.2.2.2.2.2.2.2.2.1, s.2.2.2.2.2.2.2.2.2.2.2.2.2.2.1, s.2.2.2.2.2.2.2.2.2.2.2.2.2.2.2.1, s.2.2.2.2.2.2.2.2.2.2.2.2.2.2.2.2.1, s.2.2.2.2.2.2.2.2.2.2.2.2.2.2.2.2.2.1, s.2.2.2.2.2.2.2.2.2.2.2.2.2.2.2.2.2.2.1, s.2.2.2.2.2.2.2.2.2.2.2.2.2.2.2.2.2.2.2.1, s.2.2.2.2.2.2.2.2.2.2.2.2.2.2.2.2.2.2.2.2)
abbrev cs_gi (s : cS) (v : (Nat → Nat → Int)) : cS := (s.1, s.2.1, s.2.2.1, s.2.2.2.1, s.2.2.2.2.1, s.2.2.2.2.2.1, s.2.2.2.2.2.2.1, s.2.2.2.2.2.2.2.1, s.2.2.2.2.2.2.2.2.1, s.2.2.2.2.2.2.2.2.2.1, s.2.2.2.2.2.2.2.2.2.2.1, s.2.2.2.2.2.2.2.2.2.2.2.1, s.2.2.2.2.2.2.2.2.2.2.2.2.1, v, s.2.2.2.2.2.2.2.2.2.2.2.2.2.2.1, s.2.2.2.2.2.2.2.2.2.2.2.2.2.2.2.1, s.2.2.2.2.2.2.2.2.2.2.2.2.2.2.2.2.1, s.2.2.2.2.2.2.2.2.2.2.2.2.2.2.2.2.2.1, s.2.2.2.2.2.2.2.2.2.2.2.2.2.2.2.2.2.2.1, s.2.2.2.2.2.2.2.2.2.2.2.2.2.2.2.2.2.2.2.1, s.2.2.2.2.2.2.2.2.2.2.2.2.2.2.2.2.2.2.2.2)
abbrev cs_al (s : cS) (v : (Nat → Nat → Int)) : cS := (s.1, s.2.1, s.2.2.1, s.2.2.2.1, s.2.2.2.2.1, s.2.2.2.2.2.1, s.2.2.2.2.2.2.1, s.2.2.2.2.2.2.2.1, s.2.2.2.2.2.2.2.2.1, s.2.2.2.2.2.2.2.2.2.1, s.2.2.2.2.2.2.2.2.2.2.1, s.2.2.2.2.2.2.2.2.2.2.2.1, s.2.2.2.2.2.2.2.2.2.2.2.2.1, s.2.2.2.2.2.2.2.2.2.2.2.2.2.1, v, s.2.2.2.2.2.2.2.2.2.2.2.2.2.2.2.1, s.2.2.2.2.2.2.2.2.2.2.2.2.2.2.2.2.1, s.2.2.2.2.2.2.2.2.2.2.2.2.2.2.2.2.2.1, s.2.2.2.2.2.2.2.2.2.2.2.2.2.2.2.2.2.2.1, s.2.2.2.2.2.2.2.2.2.2.2.2.2.2.2.2.2.2.2.1, s.2.2.2.2.2.2.2.2.2.2.2.2.2.2.2.2.2.2.2.2)
abbrev cs_ac (s : cS) (v : (Nat → Int)) : cS := (s.1, s.2.1, s.2.2.1, s.2.2.2.1, s.2.2.2.2.1, s.2.2.2.2.2.1, s.2.2.2.2.2.2.1, s.2.2.2.2.2.2.2.1, s.2.2.2.2.2.2.2.2.1, s.2.2.2.2.2.2.2.2.2.1, s.2.2.2.2.2.2.2.2.2.2.1, s.2.2.2.2.2.2.2.2.2.2.2.1, s.2.2.2.2.2.2.2.2.2.2.2.2.1, s.2.2.2.2.2.2.2.2.2.2.2.2.2.1, s.2.2.2.2.2.2.2.2.2.2.2.2.2.2.1, v, s.2.2.2.2.2.2.2.2.2.2.2.2.2.2.2.2.1, s.2.2.2.2.2.2.2.2.2.2.2.2.2.2.2.2.2.1, s.2.2.2.2.2.2.2.2.2.2.2.2.2.2.2.2.2.2.1, s.2.2.2.2.2.2.2.2.2.2.2.2.2.2.2.2.2.2.2.1, s.2.2.2.2.2.2.2.2.2.2.2.2.2.2.2.2.2.2.2.2)
abbrev cs_tr (s : cS) (v : (Nat → Int)) : cS := (s.1, s.2.1, s.2.2.1, s.2.2.2.1, s.2.2.2.2.1, s.2.2.2.2.2.1, s.2.2.2.2.2.2.1, s.2.2.2.2.2.2.2.1, s.2.2.2.2.2.2.2.2.1, s.2.2.2.2.2.2.2.2.2.1, s.2.2.2.2.2.2.2.2.2.2.1, s.2.2.2.2.2.2.2.2.2.2.2.1, s.2.2.2.2.2.2.2.2.2.2.2.2.1, s.2.2.2.2.2.2.2.2.2.2.2.2.2.1, s.2.2.2.2.2.2.2.2.2.2.2.2.2.2.1, s.2.2.2.2.2.2.2.2.2.2.2.2.2.2.2.1, v, s.2.2.2.2.2.2.2.2.2.2.2.2.2.2.2.2.2.1, s.2.2.2.2.2.2.2.2.2.2.2.2.2.2.2.2.2.2.1, s.2.2.2.2.2.2.2.2.2.2.2.2.2.2.2.2.2.2.2.1, s.2.2.2.2.2.2.2.2.2.2.2.2.2.2.2.2.2.2.2.2)
abbrev cs_be (s : cS) (v : (Nat → Int)) : cS := (s.1, s.2.1, s.2.2.1, s.2.2.2.1, s.2.2.2.2.1, s.2.2.2.2.2.1, s.2.2.2.2.2.2.1, s.2.2.2.2.2.2.2.1, s.2.2.2.2.2.2.2.2.1, s.2.2.2.2.2.2.2.2.2.1, s.2.2.2.2.2.2.2.2.2.2.1, s.2.2.2.2.2.2.2.2.2.2.2.1, s.2.2.2.2.2.2.2.2.2.2.2.2.1, s.2.2.2.2.2.2.2.2.2.2.2.2.2.1, s.2.2.2.2.2.2.2.2.2.2.2.2.2.2.1, s.2.2.2.2.2.2.2.2.2.2.2.2.2.2.2.1, s.2.2.2.2.2.2.2.2.2.2.2.2.2.2.2.2.1, v, s.2.2.2.2.2.2.2.2.2.2.2.2.2.2.2.2.2.2.1, s.2.2.2.2.2.2.2.2.2.2.2.2.2.2.2.2.2.2.2.1, s.2.2.2.2.2.2.2.2.2.2.2.2.2.2.2.2.2.2.2.2)
abbrev cs_rb (s : cS) (v : (Nat → Int)) : cS := (s.1, s.2.1, s.2.2.1, s.2.2.2.1, s.2.2.2.2.1, s.2.2.2.2.2.1, s.2.2.2.2.2.2.1, s.2.2.2.2.2.2.2.1, s.2.2.2.2.2.2.2.2.1, s.2.2.2.2.2.2.2.2.2.1, s.2.2.2.2.2.2.2.2.2.2.1, s.2.2.2.2.2.2.2.2.2.2.2.1, s.2.2.2.2.2.2.2.2.2.2.2.2.1, s.2.2.2.2.2.2.2.2.2.2.2.2.2.1, s.2.2.2.2.2.2.2.2.2.2.2.2.2.2.1, s.2.2.2.2.2.2.2.2.2.2.2.2.2.2.2.1, s.2.2.2.2.2.2.2.2.2.2.2.2.2.2.2.2.1, s.2.2.2.2.2.2.2.2.2.2.2.2.2.2.2.2.2.1, v, s.2.2.2.2.2.2.2.2.2.2.2.2.2.2.2.2.2.2.2.1, s.2.2.2.2.2.2.2.2.2.2.2.2.2.2.2.2.2.2.2.2)
abbrev cs_bc (s : cS) (v : Int) : cS := (s.1, s.2.1, s.2.2.1, s.2.2.2.1, s.2.2.2.2.1, s.2.2.2.2.2.1, s.2.2.2.2.2.2.1, s.2.2.2.2.2.2.2.1, s.2.2.2.2.2.2.2.2.1, s.2.2.2.2.2.2.2.2.2.1, s.2.2.2.2.2.2.2.2.2.2.1, s.2.2.2.2.2.2.2.2.2.2.2.1, s.2.2.2.2.2.2.2.2.2.2.2.2.1, s.2.2.2.2.2.2.2.2.2.2.2.2.2.1, s.2.2.2.2.2.2.2.2.2.2.2.2.2.2.1, s.2.2.2.2.2.2.2.2.2.2.2.2.2.2.2.1, s.2.2.2.2.2.2.2.2.2.2.2.2.2.2.2.2.1, s.2.2.2.2.2.2.2.2.2.2.2.2.2.2.2.2.2.1, s.2.2.2.2.2.2.2.2.2.2.2.2.2.2.2.2.2.2.1, v, s.2.2.2.2.2.2.2.2.2.2.2.2.2.2.2.2.2.2.2.2)
abbrev cs_ex (s : cS) (v : Int) : cS := (s.1, s.2.1, s.2.2.1, s.2.2.2.1, s.2.2.2.2.1, s.2.2.2.2.2.1, s.2.2.2.2.2.2.1, s.2.2.2.2.2.2.2.1, s.2.2.2.2.2.2.2.2.1, s.2.2.2.2.2.2.2.2.2.1, s.2.2.2.2.2.2.2.2.2.2.1, s.2.2.2.2.2.2.2.2.2.2.2.1, s.2.2.2.2.2.2.2.2.2.2.2.2.1, s.2.2.2.2.2.2.2.2.2.2.2.2.2.1, s.2.2.2.2.2.2.2.2.2.2.2.2.2.2.1, s.2.2.2.2.2.2.2.2.2.2.2.2.2.2.2.1, s.2.2.2.2.2.2.2.2.2.2.2.2.2.2.2.2.1, s.2.2.2.2.2.2.2.2.2.2.2.2.2.2.2.2.2.1, s.2.2.2.2.2.2.2.2.2.2.2.2.2.2.2.2.2.2.1, s.2.2.2.2.2.2.2.2.2.2.2.2.2.2.2.2.2.2.2.1, v)
abbrev mS : Type := Int × Nat × (Nat → Int) × (Nat → Int) × (Nat → Int) × (Nat → Int) × Nat × (Nat → Int) × (Nat → Int) × (Nat → Int) × (Nat → Int) × (Nat → Int32) × (Nat → Int) × Int × (Nat → Int) × (Nat → Int) × (Nat → Int) × (Nat → Int) × (Nat → Int) × (Nat → Int) × (Nat → Int)
abbrev mg_co (s : mS) : Int := s.1
abbrev mg_nT (s : mS) : Nat := s.2.1
abbrev mg_pl (s : mS) : (Nat → Int) := s.2.2.1
abbrev mg_gd (s : mS) : (Nat → Int) := s.2.2.2.1
abbrev mg_pc (s : mS) : (Nat → Int) := s.2.2.2.2.1
abbrev mg_un (s : mS) : (Nat → Int) := s.2.2.2.2.2.1
abbrev mg_nL (s : mS) : Nat := s.2.2.2.2.2.2.1
abbrev mg_wi (s : mS) : (Nat → Int) := s.2.2.2.2.2.2.2.1
abbrev mg_ma (s : mS) : (Nat → Int) := s.2.2.2.2.2.2.2.2.1
abbrev mg_rl (s : mS) : (Nat → Int) := s.2.2.2.2.2.2.2.2.2.1
abbrev mg_tl (s : mS) : (Nat → Int) := s.2.2.2.2.2.2.2.2.2.2.1
abbrev mg_ba (s : mS) : (Nat → Int32) := s.2.2.2.2.2.2.2.2.2.2.2.1
abbrev mg_ho (s : mS) : (Nat → Int) := s.2.2.2.2.2.2.2.2.2.2.2.2.1
abbrev mg_ex (s : mS) : Int := s.2.2.2.2.2.2.2.2.2.2.2.2.2.1
abbrev mg_al (s : mS) : (Nat → Int) := s.2.2.2.2.2.2.2.2.2.2.2.2.2.2.1
abbrev mg_ac (s : mS) : (Nat → Int) := s.2.2.2.2.2.2.2.2.2.2.2.2.2.2.2.1
abbrev mg_se (s : mS) : (Nat → Int) := s.2.2.2.2.2.2.2.2.2.2.2.2.2.2.2.2.1
abbrev mg_bs (s : mS) : (Nat → Int) := s.2.2.2.2.2.2.2.2.2.2.2.2.2.2.2.2.2.1
abbrev mg_re (s : mS) : (Nat → Int) := s.2.2.2.2.2.2.2.2.2.2.2.2.2.2.2.2.2.2.1
abbrev mg_sp (s : mS) : (Nat → Int) := s.2.2.2.2.2.2.2.2.2.2.2.2.2.2.2.2.2.2.2.1
abbrev mg_ta (s : mS) : (Nat → Int) := s.2.2.2.2.2.2.2.2.2.2.2.2.2.2.2.2.2.2.2.2
abbrev ms_co (s : mS) (v : Int) : mS := (v, s.2.1, s.2.2.1, s.2.2.2.1, s.2.2.2.2.1, s.2.2.2.2.2.1, s.2.2.2.2.2.2.1, s.2.2.2.2.2.2.2.1, s.2.2.2.2.2.2.2.2.1, s.2.2.2.2.2.2.2.2.2.1, s.2.2.2.2.2.2.2.2.2.2.1, s.2.2.2.2.2.2.2.2.2.2.2.1, s.2.2.2.2.2.2.2.2.2.2.2.2.1, s.2.2.2.2.2.2.2.2.2.2.2.2.2.1, s.2.2.2.2.2.2.2.2.2.2.2.2.2.2.1, s.2.2.2.2.2.2.2.2.2.2.2.2.2.2.2.1, s.2.2.2.2.2.2.2.2.2.2.2.2.2.2.2.2.1, s.2.2.2.2.2.2.2.2.2.2.2.2.2.2.2.2.2.1, s.2.2.2.2.2.2.2.2.2.2.2.2.2.2.2.2.2.2.1, s.2.2.2.2.2.2.2.2.2.2.2.2.2.2.2.2.2.2.2.1, s.2.2.2.2.2.2.2.2.2.2.2.2.2.2.2.2.2.2.2.2)
abbrev ms_nT (s : mS) (v : Nat) : mS := (s.1, v, s.2.2.1, s.2.2.2.1, s.2.2.2.2.1, s.2.2.2.2.2.1, s.2.2.2.2.2.2.1, s.2.2.2.2.2.2.2.1, s.2.2.2.2.2.2.2.2.1, s.2.2.2.2.2.2.2.2.2.1, s.2.2.2.2.2.2.2.2.2.2.1, s.2.2.2.2.2.2.2.2.2.2.2.1, s.2.2.2.2.2.2.2.2.2.2.2.2.1, s.2.2.2.2.2.2.2.2.2.2.2.2.2.1, s.2.2.2.2.2.2.2.2.2.2.2.2.2.2.1, s.2.2.2.2.2.2.2.2.2.2.2.2.2.2.2.1, s.2.2.2.2.2.2.2.2.2.2.2.2.2.2.2.2.1, s.2.2.2.2.2.2.2.2.2.2.2.2.2.2.2.2.2.1, s.2.2.2.2.2.2.2.2.2.2.2.2.2.2.2.2.2.2.1, s.2.2.2.2.2.2.2.2.2.2.2.2.2.2.2.2.2.2.2.1, s.2.2.2.2.2.2.2.2.2.2.2.2.2.2.2.2.2.2.2.2)
abbrev ms_pl (s : mS) (v : (Nat → Int)) : mS := (s.1, s.2.1, v, s.2.2.2.1, s.2.2.2.2.1, s.2.2.2.2.2.1, s.2.2.2.2.2.2.1, s.2.2.2.2.2.2.2.1, s.2.2.2.2.2.2.2.2.1, s.2.2.2.2.2.2.2.2.2.1, s.2.2.2.2.2.2.2.2.2.2.1, s.2.2.2.2.2.2.2.2.2.2.2.1, s.2.2.2.2.2.2.2.2.2.2.2.2.1, s.2.2.2.2.2.2.2.2.2.2.2.2.2.1, s.2.2.2.2.2.2.2.2.2.2.2.2.2.2.1, s.2.2.2.2.2.2.2.2.2.2.2.2.2.2.2.1, s.2.2.2.2.2.2.2.2.2.2.2.2.2.2.2.2.1, s.2.2.2.2.2.2.2.2.2.2.2.2.2.2.2.2.2.1, s.2.2.2.2.2.2.2.2.2.2.2.2.2.2.2.2.2.2.1, s.2.2.2.2.2.2.2.2.2.2.2.2.2.2.2.2.2.2.2.1, s.2.2.2.2.2.2.2.2.2.2.2.2.2.2.2.2.2.2.2.2)
abbrev ms_gd (s : mS) (v : (Nat → Int)) : mS := (s.1, s.2.1, s.2.2.1, v, s.2.2.2.2.1, s.2.2.2.2.2.1, s.2.2.2.2.2.2.1, s.2.2.2.2.2.2.2.1, s.2.2.2.2.2.2.2.2.1, s.2.2.2.2.2.2.2.2.2.1, s.2.2.2.2.2.2.2.2.2.2.1, s.2.2.2.2.2.2.2.2.2.2.2.1, s.2.2.2.2.2.2.2.2.2.2.2.2.1, s.2.2.2.2.2.2.2.2.2.2.2.2.2.1, s.2.2.2.2.2.2.2.2.2.2.2.2.2.2.1, s.2.2.2.2.2.2.2.2.2.2.2.2.2.2.2.1, s.2.2.2.2.2.2.2.2.2.2.2.2.2.2.2.2.1, s.2.2.2.2.2.2.2.2.2.2.2.2.2.2.2.2.2.1, s.2.2.2.2.2.2.2.2.2.2.2.2.2.2.2.2.2.2.1, s.2.2.2.2.2.2.2.2.2.2.2.2.2.2.2.2.2.2.2.1, s.2.2.2.2.2.2.2.2.2.2.2.2.2.2.2.2.2.2.2.2)
abbrev ms_pc (s : mS) (v : (Nat → Int)) : mS := (s.1, s.2.1, s.2.2.1, s.2.2.2.1, v, s.2.2.2.2.2.1, s.2.2.2.2.2.2.1, s.2.2.2.2.2.2.2.1, s.2.2.2.2.2.2.2.2.1, s.2.2.2.2.2.2.2.2.2.1, s.2.2.2.2.2.2.2.2.2.2.1, s.2.2.2.2.2.2.2.2.2.2.2.1, s.2.2.2.2.2.2.2.2.2.2.2.2.1, s.2.2.2.2.2.2.2.2.2.2.2.2.2.1, s.2.2.2.2.2.2.2.2.2.2.2.2.2.2.1, s.2.2.2.2.2.2.2.2.2.2.2.2.2.2.2.1, s.2.2.2.2.2.2.2.2.2.2.2.2.2.2.2.2.1, s.2.2.2.2.2.2.2.2.2.2.2.2.2.2.2.2.2.1, s.2.2.2.2.2.2.2.2.2.2.2.2.2.2.2.2.2.2.1, s.2.2.2.2.2.2.2.2.2.2.2.2.2.2.2.2.2.2.2.1, s.2.2.2.2.2.2.2.2.2.2.2.2.2.2.2.2.2.2.2.2)
abbrev ms_un (s : mS) (v : (Nat → Int)) : mS := (s.1, s.2.1, s.2.2.1, s.2.2.2.1, s.2.2.2.2.1, v, s.2.2.2.2.2.2.1, s.2.2.2.2.2.2.2.1, s.2.2.2.2.2.2.2.2.1, s.2.2.2.2.2.2.2.2.2.1, s.2.2.2.2.2.2.2.2.2.2.1, s.2.2.2.2.2.2.2.2.2.2.2.1, s.2.2.2.2.2.2.2.2.2.2.2.2.1, s.2.2.2.2.2.2.2.2.2.2.2.2.2.1, s.2.2.2.2.2.2.2.2.2.2.2.2.2.2.1, s.2.2.2.2.2.2.2.2.2.2.2.2.2.2.2.1, s.2.2.2.2.2.2.2.2.2.2.2.2.2.2.2.2.1, s.2.2.2.2.2.2.2.2.2.2.2.2.2.2.2.2.2.1, s.2.2.2.2.2.2.2.2.2.2.2.2.2.2.2.2.2.2.1, s.2.2.2.2.2.2.2.2.2.2.2.2.2.2.2.2.2.2.2.1, s.2.2.2.2.2.2.2.2.2.2.2.2.2.2.2.2.2.2.2.2)
abbrev ms_nL (s : mS) (v : Nat) : mS := (s.1, s.2.1, s.2.2.1, s.2.2.2.1, s.2.2.2.2.1, s.2.2.2.2.2.1, v, s.2.2.2.2.2.2.2.1, s.2.2.2.2.2.2.2.2.1, s.2.2.2.2.2.2.2.2.2.1, s.2.2.2.2.2.2.2.2.2.2.1, s.2.2.2.2.2.2.2.2.2.2.2.1, s.2.2.2.2.2.2.2.2.2.2.2.2.1, s.2.2.2.2.2.2.2.2.2.2.2.2.2.1, s.2.2.2.2.2.2.2.2.2.2.2.2.2.2.1, s.2.2.2.2.2.2.2.2.2.2.2.2.2.2.2.1, s.2.2.2.2.2.2.2.2.2.2.2.2.2.2.2.2.1, s.2.2.2.2.2.2.2.2.2.2.2.2.2.2.2.2.2.1, s.2.2.2.2.2.2.2.2.2.2.2.2.2.2.2.2.2.2.1, s.2.2.2.2.2.2.2.2.2.2.2.2.2.2.2.2.2.2.2.1, s.2.2.2.2.2.2.2.2.2.2.2.2.2.2.2.2.2.2.2.2)
abbrev ms_wi (s : mS) (v : (Nat → Int)) : mS := (s.1, s.2.1, s.2.2.1, s.2.2.2.1, s.2.2.2.2.1, s.2.2.2.2.2.1, s.2.2.2.2.2.2.1, v, s.2.2.2.2.2.2.2.2.1, s.2.2.2.2.2.2.2.2.2.1, s.2.2.2.2.2.2.2.2.2.2.1, s.2.2.2.2.2.2.2.2.2.2.2.1, s.2.2.2.2.2.2.2.2.2.2.2.2.1, s.2.2.2.2.2.2.2.2.2.2.2.2.2.1, s.2.2.2.2.2.2.2.2.2.2.2.2.2.2.1, s.2.2.2.2.2.2.2.2.2.2.2.2.2.2.2.1, s.2.2.2.2.2.2.2.2.2.2.2.2.2.2.2.2.1, s.2.2.2.2.2.2.2.2.2.2.2.2.2.2.2.2.2.1, s.2.2.2.2.2.2.2.2.2.2.2.2.2.2.2.2.2.2.1, s.2.2.2.2.2.2.2.2.2.2.2.2.2.2.2.2.2.2.2.1, s.2.2.2.2.2.2.2.2.2.2.2.2.2.2.2.2.2.2.2.2)
abbrev ms_ma (s : mS) (v : (Nat → Int)) : mS := (s.1, s.2.1, s.2.2.1, s.2.2.2.1, s.2.2.2.2.1, s.2.2.2.2.2.1, s.2.2.2.2.2.2.1, s.2.2.2.2.2.2.2.1, v, s.2.2.2.2.2.2.2.2.2.1, s.2.2.2.2.2.2.2.2.2.2.1, s.2.2.2.2.2.2.2.2.2.2.2.1, s.2.2.2.2.2.2.2.2.2.2.2.2.1, s.2.2.2.2.2.2.2.2.2.2.2.2.2.1, s.2.2.2.2.2.2.2.2.2.2.2.2.2.2.1, s.2.2.2.2.2.2.2.2.2.2.2.2.2.2.2.1, s.2.2.2.2.2.2.2.2.2.2.2.2.2.2.2.2.1, s.2.2.2.2.2.2.2.2.2.2.2.2.2.2.2.2.2.1, s.2.2.2.2.2.2.2.2.2.2.2.2.2.2.2.2.2.2.1, s.2.2.2.2.2.2.2.2.2.2.2.2.2.2.2.2.2.2.2.1, s.2.2.2.2.2.2.2.2.2.2.2.2.2.2.2.2.2.2.2.2)
abbrev ms_rl (s : mS) (v : (Nat → Int)) : mS := (s.1, s.2.1, s.2.2.1, s.2.2.2.1, s.2.2.2.2.1, s.2.2.2.2.2.1, s.2.2.2.2.2.2.1, s.2.2.2.2.2.2.2.1, s.2.2.2.2.2.2.2.2.1, v, s.2.2.2.2.2.2.2.2.2.2.1, s.2.2.2.2.2.2.2.2.2.2.2.1, s.2.2.2.2.2.2.2.2.2.2.2.2.1, s.2.2.2.2.2.2.2.2.2.2.2.2.2.1, s.2.2.2.2.2.2.2.2.2.2.2.2.2.2.1, s.2.2.2.2.2.2.2.2.2.2.2.2.2.2.2.1, s.2.2.2.2.2.2.2.2.2.2.2.2.2.2.2.2.1, s.2.2.2.2.2.2.2.2.2.2.2.2.2.2.2.2.2.1, s.2.2.2.2.2.2.2.2.2.2.2.2.2.2.2.2.2.2.1, s.2.2.2.2.2.2.2.2.2.2.2.2.2.2.2.2.2.2.2.1, s.2.2.2.2.2.2.2.2.2.2.2.2.2.2.2.2.2.2.2.2)
abbrev ms_tl (s : mS) (v : (Nat → Int)) : mS := (s.1, s.2.1, s.2.2.1, s.2.2.2.1, s.2.2.2.2.1, s.2.2.2.2.2.1, s.2.2.2.2.2.2.1, s.2.2.2.2.2.2.2.1, s.2.2.2.2.2.2.2.2.1, s.2.2.2.2.2.2.2.2.2.1, v, s.2.2.2.2.2.2.2.2.2.2.2.1, s.2.2.2.2.2.2.2.2.2.2.2.2.1, s.2.2.2.2.2.2.2.2.2.2.2.2.2.1, s.2.2.2.2.2.2.2.2.2.2.2.2.2.2.1, s.2.2.2.2.2.2.2.2.2.2.2.2.2.2.2.1, s.2.2.2.2.2.2.2.2.2.2.2.2.2.2.2.2.1, s.2.2.2.2.2.2.2.2.2.2.2.2.2.2.2.2.2.1, s.2.2.2.2.2.2.2.2.2.2.2.2.2.2.2.2.2.2.1, s.2.2.2.2.2.2.2.2.2.2.2.2.2.2.2.2.2.2.2.1, s.2.2.2.2.2.2.2.2.2.2.2.2.2.2.2.2.2.2.2.2)
abbrev ms_ba (s : mS) (v : (Nat → Int32)) : mS := (s.1, s.2.1, s.2.2.1, s.2.2.2.1, s.2.2.2.2.1, s.2.2.2.2.2.1, s.2.2.2.2.2.2.1, s.2.2.2.2.2.2.2.1, s.2.2.2.2.2.2.2.2.1, s.2.2.2.2.2.2.2.2.2.1, s.2.2.2.2.2.2.2.2.2.2.1, v, s.2.2.2.2.2.2.2.2.2.2.2.2.1, s.2.2.2.2.2.2.2.2.2.2.2.2.2.1, s.2.2.2.2.2.2.2.2.2.2.2.2.2.2.1, s.2.2.2.2.2.2.2.2.2.2.2.2.2.2.2.1, s.2.2.2.2.2.2.2.2.2.2.2.2.2.2.2.2.1, s.2.2.2.2.2.2.2.2.2.2.2.2.2.2.2.2.2.1, s.2.2.2.2.2.2.2.2.2.2.2.2.2.2.2.2.2.2.1, s.2.2.2.2.2.2.2.2.2.2.2.2.2.2.2.2.2.2.2.1, s.2.2.2.2.2.2.2.2.2.2.2.2.2.2.2.2.2.2.2.2)
abbrev ms_ho (s : mS) (v : (Nat → Int)) : mS := (s.1, s.2.1, s.2.2.1, s.2.2.2.1, s.2.2.2.2.1, s.2.2.2.2.2.1, s.2.2.2.2.2.2.1, s.2.2.2.2.2.2.2.1, s.2.2.2.2.2.2.2.2.1, s.2.2.2.2.2.2.2.2.2.1, s.2.2.2.2.2.2.2.2.2.2.1, s.2.2.2.2.2.2.2.2.2.2.2.1, v, s.2.2.2.2.2.2.2.2.2.2.2.2.2.1, s.2.2.2.2.2.2.2.2.2.2.2.2.2.2.1, s.2.2.2.2.2.2.2.2.2.2.2.2.2.2.2.1, s.2.2.2.2.2.2.2.2.2.2.2.2.2.2.2.2.1, s.2.2.2.2.2.2.2.2.2.2.2.2.2.2.2.2.2.1, s.2.2.2.2.2.2.2.2.2.2.2.2.2.2.2.2.2.2.1, s.2.2.2.2.2.2.2.2.2.2.2.2.2.2.2.2.2.2.2.1, s.2.2.2.2.2.2.2.2.2.2.2.2.2.2.2.2.2.2.2.2)
abbrev ms_ex (s : mS) (v : Int) : mS := (s.1, s.2.1, s.2.2.1, s.2.2.2.1, s.2.2.2.2.1, s.2.2.2.2.2.1, s.2.2.2.2.2.2.1, s.2.2.2.2.2.2.2.1, s.2.2.2.2.2.2.2.2.1, s.2.2.2.2.2.2.2.2.2.1, s.2.2.2.2.2.2.2.2.2.2.1, s.2.2.2.2.2.2.2.2.2.2.2.1, s.2.2.2.2.2.2.2.2.2.2.2.2.1, v, s.2.2.2.2.2.2.2.2.2.2.2.2.2.2.1, s.2.2.2.2.2.2.2.2.2.2.2.2.2.2.2.1, s.2.2.2.2.2.2.2.2.2.2.2.2.2.2.2.2.1, s.2.2.2.2.2.2.2.2.2.2.2.2.2.2.2.2.2.1, s.2.2.2.2.2.2.2.2.2.2.2.2.2.2.2.2.2.2.1, s.2.2.2.2.2.2.2.2.2.2.2.2.2.2.2.2.2.2.2.1, s.2.2.2.2.2.2.2.2.2.2.2.2.2.2.2.2.2.2.2.2)
abbrev ms_al (s : mS) (v : (Nat → Int)) : mS := (s.1, s.2.1, s.2.2.1, s.2.2.2.1, s.2.2.2.2.1, s.2.2.2.2.2.1, s.2.2.2.2.2.2.1, s.2.2.2.2.2.2.2.1, s.2.2.2.2.2.2.2.2.1, s.2.2.2.2.2.2.2.2.2.1, s.2.2.2.2.2.2.2.2.2.2.1, s.2.2.2.2.2.2.2.2.2.2.2.1, s.2.2.2.2.2.2.2.2.2.2.2.2.1, s.2.2.2.2.2.2.2.2.2.2.2.2.2.1, v, s.2.2.2.2.2.2.2.2.2.2.2.2.2.2.2.1, s.2.2.2.2.2.2.2.2.2.2.2.2.2.2.2.2.1, s.2.2.2.2.2.2.2.2.2.2.2.2.2.2.2.2.2.1, s.2.2.2.2.2.2.2.2.2.2.2.2.2.2.2.2.2.2.1, s.2.2.2.2.2.2.2.2.2.2.2.2.2.2.2.2.2.2.2.1, s.2.2.2.2.2.2.2.2.2.2.2.2.2.2.2.2.2.2.2.2)
abbrev ms_ac (s : mS) (v : (Nat → Int)) : mS := (s.1, s.2.1, s.2.2.1, s.2.2.2.1, s.2.2.2.2.1, s.2.2.2.2.2.1, s.2.2.2.2.2.2.1, s.2.2.2.2.2.2.2.1, s.2.2.2.2.2.2.2.2.1, s.2.2.2.2.2.2.2.2.2.1, s.2.2.2.2.2.2.2.2.2.2.1, s.2.2.2.2.2.2.2.2.2.2.2.1, s.2.2.2.2.2.2.2.2.2.2.2.2.1, s.2.2.2.2.2.2.2.2.2.2.2.2.2.1, s.2.2.2.2.2.2.2.2.2.2.2.2.2.2.1, v, s.2.2.2.2.2.2.2.2.2.2.2.2.2.2.2.2.1, s.2.2.2.2.2.2.2.2.2.2.2.2.2.2.2.2.2.1, s.2.2.2.2.2.2.2.2.2.2.2.2.2.2.2.2.2.2.1, s.2.2.2.2.2.2.2.2.2.2.2.2.2.2.2.2.2.2.2.1, s.2.2.2.2.2.2.2.2.2.2.2.2.2.2.2.2.2.2.2.2)
abbrev ms_se (s : mS) (v : (Nat → Int)) : mS := (s.1, s.2.1, s.2.2.1, s.2.2.2.1, s.2.2.2.2.1, s.2.2.2.2.2.1, s.2.2.2.2.2.2.1, s.2.2.2.2.2.2.2.1, s.2.2.2.2.2.2.2.2.1, s.2.2.2.2.2.2.2.2.2.1, s.2.2.2.2.2.2.2.2.2.2.1, s.2.2.2.2.2.2.2.2.2.2.2.1, s.2.2.2.2.2.2.2.2.2.2.2.2.1, s.2.2.2.2.2.2.2.2.2.2.2.2.2.1, s.2.2.2.2.2.2.2.2.2.2.2.2.2.2.1, s.2.2.2.2.2.2.2.2.2.2.2.2.2.2.2.1, v, s.2.2.2.2.2.2.2.2.2.2.2.2.2.2.2.2.2.1, s.2.2.2.2.2.2.2.2.2.2.2.2.2.2.2.2.2.2.1, s.2.2.2.2.2.2.2.2.2.2.2.2.2.2.2.2.2.2.2.1, s.2.2.2.2.2.2.2.2.2.2.2.2.2.2.2.2.2.2.2.2)
abbrev ms_bs (s : mS) (v : (Nat → Int)) : mS := (s.1, s.2.1, s.2.2.1, s.2.2.2.1, s.2.2.2.2.1, s.2.2.2.2.2.1, s.2.2.2.2.2.2.1, s.2.2.2.2.2.2.2.1, s.2.2.2.2.2.2.2.2.1, s.2.2.2.2.2.2.2.2.2.1, s.2.2.2.2.2.2.2.2.2.2.1, s.2.2.2.2.2.2.2.2.2.2.2.1, s.2.2.2.2.2.2.2.2.2.2.2.2.1, s.2.2.2.2.2.2.2.2.2.2.2.2.2.1, s.2.2.2.2.2.2.2.2.2.2.2.2.2.2.1, s.2.2.2.2.2.2.2.2.2.2.2.2.2.2.2.1, s.2.2.2.2.2.2.2.2.2.2.2.2.2.2.2.2.1, v, s.2.2.2.2.2.2.2.2.2.2.2.2.2.2.2.2.2.2.1, s.2.2.2.2.2.2.2.2.2.2.2.2.2.2.2.2.2.2.2.1, s.2.2.2.2.2.2.2.2.2.2.2.2.2.2.2.2.2.2.2.2)
abbrev ms_re (s : mS) (v : (Nat → Int)) : mS := (s.1, s.2.1, s.2.2.1, s.2.2.2.1, s.2.2.2.2.1, s.2.2.2.2.2.1, s.2.2.2.2.2.2.1, s.2.2.2.2.2.2.2.1, s.2.2.2.2.2.2.2.2.1, s.2.2.2.2.2.2.2.2.2.1, s.2.2.2.2.2.2.2.2.2.2.1, s.2.2.2.2.2.2.2.2.2.2.2.1, s.2.2.2.2.2.2.2.2.2.2.2.2.1, s.2.2.2.2.2.2.2.2.2.2.2.2.2.1, s.2.2.2.2.2.2.2.2.2.2.2.2.2.2.1, s.2.2.2.2.2.2.2.2.2.2.2.2.2.2.2.1, s.2.2.2.2.2.2.2.2.2.2.2.2.2.2.2.2.1, s.2.2.2.2.2.2.2.2.2.2.2.2.2.2.2.2.2.1, v, s.2.2.2.2.2.2.2.2.2.2.2.2.2.2.2.2.2.2.2.1, s.2.2.2.2.2.2.2.2.2.2.2.2.2.2.2.2.2.2.2.2)
abbrev ms_sp (s : mS) (v : (Nat → Int)) : mS := (s.1, s.2.1, s.2.2.1, s.2.2.2.1, s.2.2.2.2.1, s.2.2.2.2.2.1, s.2.2.2.2.2.2.1, s.2.2.2.2.2.2.2.1, s.2.2.2.2.2.2.2.2.1, s.2.2.2.2.2.2.2.2.2.1, s.2.2.2.2.2.2.2.2.2.2.1, s.2.2.2.2.2.2.2.2.2.2.2.1, s.2.2.2.2.2.2.2.2.2.2.2.2.1, s.2.2.2.2.2.2.2.2.2.2.2.2.2.1, s.2.2.2.2.2.2.2.2.2.2.2.2.2.2.1, s.2.2.2.2.2.2.2.2.2.2.2.2.2.2.2.1, s.2.2.2.2.2.2.2.2.2.2.2.2.2.2.2.2.1, s.2.2.2.2.2.2.2.2.2.2.2.2.2.2.2.2.2.1, s.2.2.2.2.2.2.2.2.2.2.2.2.2.2.2.2.2.2.1, v, s.2.2.2.2.2.2.2.2.2.2.2.2.2.2.2.2.2.2.2.2)
abbrev ms_ta (s : mS) (v : (Nat → Int)) : mS := (s.1, s.2.1, s.2.2.1, s.2.2.2.1, s.2.2.2.2.1, s.2.2.2.2.2.1, s.2.2.2.2.2.2.1, s.2.2.2.2.2.2.2.1, s.2.2.2.2.2.2.2.2.1, s.2.2.2.2.2.2.2.2.2.1, s.2.2.2.2.2.2.2.2.2.2.1, s.2.2.2.2.2.2.2.2.2.2.2.1, s.2.2.2.2.2.2.2.2.2.2.2.2.1, s.2.2.2.2.2.2.2.2.2.2.2.2.2.1, s.2.2.2.2.2.2.2.2.2.2.2.2.2.2.1, s.2.2.2.2.2.2.2.2.2.2.2.2.2.2.2.1, s.2.2.2.2.2.2.2.2.2.2.2.2.2.2.2.2.1, s.2.2.2.2.2.2.2.2.2.2.2.2.2.2.2.2.2.1, s.2.2.2.2.2.2.2.2.2.2.2.2.2.2.2.2.2.2.1, s.2.2.2.2.2.2.2.2.2.2.2.2.2.2.2.2.2.2.2.1, v)
def hs_least : Nat → Int := fun k => match k with | 0 => 0 | 1 => 1 | 2 => 1 | _ => 0
def hs_most : Nat → Int := fun k => match k with | 0 => 9999 | 1 => 50 | 2 => 8 | _ => 1
def hs_first : Nat → Int := fun k => match k with | 0 => 0 | 1 => 1 | 2 => 8 | _ => 0
def hC (x : am_C) (c : cS) (t : List am_C) : am_H := x :: am_ia 4 (fun j => iI (hs_least j)) :: am_ia 4 (fun j => iI (hs_most j)) :: am_ia 4 (fun j => iI (hs_first j)) :: am_ob 0 [.ref 5, .ref 6, .ref 13, .ref 38, .int (iI (cg_ex c))] :: am_ob 1 [.ref 6, .ref 13] :: am_ob 3 [.int (iI (cg_nT c)), .ref 7, .ref 8, .ref 9, .ref 10, .ref 11, .ref 12] :: am_ia 8 (fun j => iI (cg_pl c j)) :: am_ia 8 (fun j => iI (cg_gd c j)) :: am_ia 8 (fun j => iI (cg_un c j)) :: am_ia 8 (fun j => iI (cg_pc c j)) :: am_ia 8 (fun j => iI (cg_fr c j)) :: am_ia 8 (fun j => iI (cg_od c j)) :: am_ob 2 [.int (iI (cg_nL c)), .ref 14, .ref 15, .ref 16, .ref 17, .ref 24, .ref 31] :: am_ia 6 (fun j => iI (cg_lg c j)) :: am_ia 6 (fun j => iI (cg_lw c j)) :: am_ia 6 (cg_lb c) :: am_ra 6 (fun i => if i < 6 then some (18 + i) else none) :: am_ia 4 (fun j => iI (cg_rl c 0 j)) :: am_ia 4 (fun j => iI (cg_rl c 1 j)) :: am_ia 4 (fun j => iI (cg_rl c 2 j)) :: am_ia 4 (fun j => iI (cg_rl c 3 j)) :: am_ia 4 (fun j => iI (cg_rl c 4 j)) :: am_ia 4 (fun j => iI (cg_rl c 5 j)) :: am_ra 6 (fun i => if i < 6 then some (25 + i) else none) :: am_ia 8 (fun j => iI (cg_tl c 0 j)) :: am_ia 8 (fun j => iI (cg_tl c 1 j)) :: am_ia 8 (fun j => iI (cg_tl c 2 j)) :: am_ia 8 (fun j => iI (cg_tl c 3 j)) :: am_ia 8 (fun j => iI (cg_tl c 4 j)) :: am_ia 8 (fun j => iI (cg_tl c 5 j)) :: am_ra 6 (fun i => if i < 6 then some (32 + i) else none) :: am_ia 8 (fun j => iI (cg_gi c 0 j)) :: am_ia 8 (fun j => iI (cg_gi c 1 j)) :: am_ia 8 (fun j => iI (cg_gi c 2 j)) :: am_ia 8 (fun j => iI (cg_gi c 3 j)) :: am_ia 8 (fun j => iI (cg_gi c 4 j)) :: am_ia 8 (fun j => iI (cg_gi c 5 j)) :: am_ob 4 [.ref 5, .ref 6, .ref 13, .ref 39, .ref 46, .ref 47, .ref 48, .ref 49, .int (iI (cg_bc c))] :: am_ra 6 (fun i => if i < 6 then some (40 + i) else none) :: am_ia 8 (fun j => iI (cg_al c 0 j)) :: am_ia 8 (fun j => iI (cg_al c 1 j)) :: am_ia 8 (fun j => iI (cg_al c 2 j)) :: am_ia 8 (fun j => iI (cg_al c 3 j)) :: am_ia 8 (fun j => iI (cg_al c 4 j)) :: am_ia 8 (fun j => iI (cg_al c 5 j)) :: am_ia 6 (fun j => iI (cg_ac c j)) :: am_ia 6 (fun j => iI (cg_tr c j)) :: am_ia 6 (fun j => iI (cg_be c j)) :: am_ia 7 (fun j => iI (cg_rb c j)) :: t
def hM (m : mS) (t : List am_C) : List am_C := am_ob 5 [.int (iI (mg_co m)), .int (iI (mg_nT m)), .ref 51, .ref 52, .ref 53, .ref 54, .int (iI (mg_nL m)), .ref 55, .ref 56, .ref 57, .ref 58, .ref 59, .ref 60, .int (iI (mg_ex m)), .ref 61, .ref 62, .ref 63, .ref 64, .ref 65, .ref 66, .ref 67] :: am_ia 8 (fun j => iI (mg_pl m j)) :: am_ia 8 (fun j => iI (mg_gd m j)) :: am_ia 8 (fun j => iI (mg_pc m j)) :: am_ia 8 (fun j => iI (mg_un m j)) :: am_ia 6 (fun j => iI (mg_wi m j)) :: am_ia 6 (fun j => iI (mg_ma m j)) :: am_ia 24 (fun j => iI (mg_rl m j)) :: am_ia 48 (fun j => iI (mg_tl m j)) :: am_za 48 (mg_ba m) :: am_ia 48 (fun j => iI (mg_ho m j)) :: am_ia 48 (fun j => iI (mg_al m j)) :: am_ia 6 (fun j => iI (mg_ac m j)) :: am_ia 6 (fun j => iI (mg_se m j)) :: am_ia 6 (fun j => iI (mg_bs m j)) :: am_ia 56 (fun j => iI (mg_re m j)) :: am_ia 7 (fun j => iI (mg_sp m j)) :: am_ia 48 (fun j => iI (mg_ta m j)) :: t
abbrev hA (x : am_C) (c : cS) (m : mS) (t : List am_C) : am_H := hC x c (hM m t)
theorem h_six {P : Nat → Prop} (h0 : P 0) (h1 : P 1) (h2 : P 2) (h3 : P 3) (h4 : P 4) (h5 : P 5) {i : Nat} (hi : i < 6) : P i := by
  match i, hi with
  | 0, _ => exact h0
  | 1, _ => exact h1
  | 2, _ => exact h2
  | 3, _ => exact h3
  | 4, _ => exact h4
  | 5, _ => exact h5
theorem hr_rl {x : am_C} {c : cS} {t : List am_C} {i : Nat} (hi : i < 6) : (hC x c t)[18 + i]? = some (am_ia 4 (fun j => iI (cg_rl c i j))) := h_six (P := fun i => (hC x c t)[18 + i]? = some (am_ia 4 (fun j => iI (cg_rl c i j)))) rfl rfl rfl rfl rfl rfl hi
theorem hw_rl {x : am_C} {c : cS} {t : List am_C} {i : Nat} (hi : i < 6) (R : Nat → Int) : (hC x c t).set (18 + i) (am_ia 4 (fun j => iI (R j))) = hC x (cs_rl c (zr (cg_rl c) i R)) t := h_six (P := fun i => (hC x c t).set (18 + i) (am_ia 4 (fun j => iI (R j))) = hC x (cs_rl c (zr (cg_rl c) i R)) t) rfl rfl rfl rfl rfl rfl hi
theorem hr_tl {x : am_C} {c : cS} {t : List am_C} {i : Nat} (hi : i < 6) : (hC x c t)[25 + i]? = some (am_ia 8 (fun j => iI (cg_tl c i j))) := h_six (P := fun i => (hC x c t)[25 + i]? = some (am_ia 8 (fun j => iI (cg_tl c i j)))) rfl rfl rfl rfl rfl rfl hi
theorem hw_tl {x : am_C} {c : cS} {t : List am_C} {i : Nat} (hi : i < 6) (R : Nat → Int) : (hC x c t).set (25 + i) (am_ia 8 (fun j => iI (R j))) = hC x (cs_tl c (zr (cg_tl c) i R)) t := h_six (P := fun i => (hC x c t).set (25 + i) (am_ia 8 (fun j => iI (R j))) = hC x (cs_tl c (zr (cg_tl c) i R)) t) rfl rfl rfl rfl rfl rfl hi
theorem hr_gi {x : am_C} {c : cS} {t : List am_C} {i : Nat} (hi : i < 6) : (hC x c t)[32 + i]? = some (am_ia 8 (fun j => iI (cg_gi c i j))) := h_six (P := fun i => (hC x c t)[32 + i]? = some (am_ia 8 (fun j => iI (cg_gi c i j)))) rfl rfl rfl rfl rfl rfl hi
theorem hw_gi {x : am_C} {c : cS} {t : List am_C} {i : Nat} (hi : i < 6) (R : Nat → Int) : (hC x c t).set (32 + i) (am_ia 8 (fun j => iI (R j))) = hC x (cs_gi c (zr (cg_gi c) i R)) t := h_six (P := fun i => (hC x c t).set (32 + i) (am_ia 8 (fun j => iI (R j))) = hC x (cs_gi c (zr (cg_gi c) i R)) t) rfl rfl rfl rfl rfl rfl hi
theorem hr_al {x : am_C} {c : cS} {t : List am_C} {i : Nat} (hi : i < 6) : (hC x c t)[40 + i]? = some (am_ia 8 (fun j => iI (cg_al c i j))) := h_six (P := fun i => (hC x c t)[40 + i]? = some (am_ia 8 (fun j => iI (cg_al c i j)))) rfl rfl rfl rfl rfl rfl hi
theorem hw_al {x : am_C} {c : cS} {t : List am_C} {i : Nat} (hi : i < 6) (R : Nat → Int) : (hC x c t).set (40 + i) (am_ia 8 (fun j => iI (R j))) = hC x (cs_al c (zr (cg_al c) i R)) t := h_six (P := fun i => (hC x c t).set (40 + i) (am_ia 8 (fun j => iI (R j))) = hC x (cs_al c (zr (cg_al c) i R)) t) rfl rfl rfl rfl rfl rfl hi
end
section
/-! constants of the pool by whole numbers -/
theorem az_ldc {d : Nat} {y : am_Y} {pc : Nat} {ls : List (Option Value)} {st : List Value} {h : am_H} {n cu su : Nat} {Q : am_O → am_H → Nat → Prop} {i j : Nat} {x : Int32} {u : Int} (hd : decode (am_bc y) pc = .ok (.ldc i, 2)) (hw : tables_1[j]? = some (Jvm.Cond.constant (am_nm y).cls i x)) (hu : x = iI u) (k : am_W d y (pc + 2) ls (.int (iI u) :: st) h n cu su Q) : am_W d y pc ls st h n cu su Q := by
  subst hu
  exact ar_ldc hd hw k
end
section
/-! a walk that has room to go deeper -/
theorem am_deep {d d' : Nat} {y : am_Y} {pc : Nat} {ls : List (Option Value)} {st : List Value} {h : am_H} {n cu su : Nat} {Q : am_O → am_H → Nat → Prop} (w : am_W d y pc ls st h n cu su Q) (hd : d ≤ d') : am_W d' y pc ls st h n cu su Q := by
  intro G p e R s m args below meth c lc H locs C hl hr hL
  obtain ⟨c1, c2, c3, c4, c5, c6, c7, c8, c9, c10, c11, c12, c13, c14, c15⟩ := C
  exact w G p e R s m args below meth c lc H locs ⟨c1, c2, c3, c4, c5, c6, c7, c8, c9, c10, c11, c12, by omega, by omega, c15⟩ hl hr hL
end
section
/-! the floor: its methods -/
theorem hw_pl {x : am_C} {c : cS} {t : List am_C} (R : Nat → Int) : (hC x c t).set 7 (am_ia 8 (fun j => iI (R j))) = hC x (cs_pl c R) t := rfl
theorem hw_gd {x : am_C} {c : cS} {t : List am_C} (R : Nat → Int) : (hC x c t).set 8 (am_ia 8 (fun j => iI (R j))) = hC x (cs_gd c R) t := rfl
theorem hw_un {x : am_C} {c : cS} {t : List am_C} (R : Nat → Int) : (hC x c t).set 9 (am_ia 8 (fun j => iI (R j))) = hC x (cs_un c R) t := rfl
theorem hw_pc {x : am_C} {c : cS} {t : List am_C} (R : Nat → Int) : (hC x c t).set 10 (am_ia 8 (fun j => iI (R j))) = hC x (cs_pc c R) t := rfl
theorem hw_fr {x : am_C} {c : cS} {t : List am_C} (R : Nat → Int) : (hC x c t).set 11 (am_ia 8 (fun j => iI (R j))) = hC x (cs_fr c R) t := rfl
theorem hw_od {x : am_C} {c : cS} {t : List am_C} (R : Nat → Int) : (hC x c t).set 12 (am_ia 8 (fun j => iI (R j))) = hC x (cs_od c R) t := rfl
theorem hw_lg {x : am_C} {c : cS} {t : List am_C} (R : Nat → Int) : (hC x c t).set 14 (am_ia 6 (fun j => iI (R j))) = hC x (cs_lg c R) t := rfl
theorem hw_lw {x : am_C} {c : cS} {t : List am_C} (R : Nat → Int) : (hC x c t).set 15 (am_ia 6 (fun j => iI (R j))) = hC x (cs_lw c R) t := rfl
theorem hw_lb {x : am_C} {c : cS} {t : List am_C} (R : Nat → Int32) : (hC x c t).set 16 (am_ia 6 R) = hC x (cs_lb c R) t := rfl
theorem hw_ac {x : am_C} {c : cS} {t : List am_C} (R : Nat → Int) : (hC x c t).set 46 (am_ia 6 (fun j => iI (R j))) = hC x (cs_ac c R) t := rfl
theorem hw_tr {x : am_C} {c : cS} {t : List am_C} (R : Nat → Int) : (hC x c t).set 47 (am_ia 6 (fun j => iI (R j))) = hC x (cs_tr c R) t := rfl
theorem hw_be {x : am_C} {c : cS} {t : List am_C} (R : Nat → Int) : (hC x c t).set 48 (am_ia 6 (fun j => iI (R j))) = hC x (cs_be c R) t := rfl
theorem hw_rb {x : am_C} {c : cS} {t : List am_C} (R : Nat → Int) : (hC x c t).set 49 (am_ia 7 (fun j => iI (R j))) = hC x (cs_rb c R) t := rfl
/-- the sum of f over the first n -/
def zs (f : Nat → Int) : Nat → Int
  | 0 => 0
  | n + 1 => zs f n + f n
/-- a state changed over and over, n times -/
def zf {α : Type} (g : α → Nat → α) (a : α) : Nat → α
  | 0 => a
  | n + 1 => g (zf g a n) n
/-- numbers that the search leaves as they are, in their ranges -/
def cK (c : cS) : Prop := (cg_nT c ≤ 8 ∧ cg_nL c ≤ 6) ∧ (∀ k, k < 8 → (0 ≤ cg_pl c k ∧ cg_pl c k ≤ 99) ∧ (0 ≤ cg_gd c k ∧ cg_gd c k ≤ 5) ∧ (0 ≤ cg_un c k ∧ cg_un c k ≤ 9999) ∧ (0 ≤ cg_od c k ∧ cg_od c k ≤ 7)) ∧
  (∀ l, l < 6 → (0 ≤ cg_lg c l ∧ cg_lg c l ≤ 5) ∧ (0 ≤ cg_lw c l ∧ cg_lw c l ≤ 200) ∧ (0 ≤ cg_rl c l 0 ∧ cg_rl c l 0 ≤ 9999) ∧ (0 ≤ cg_rl c l 1 ∧ cg_rl c l 1 ≤ 50) ∧ (0 ≤ cg_rl c l 2 ∧ cg_rl c l 2 ≤ 8) ∧ (0 ≤ cg_rl c l 3 ∧ cg_rl c l 3 ≤ 1) ∧ ∀ k, k < 8 → -1 ≤ cg_tl c l k ∧ cg_tl c l k ≤ 1000)
theorem cK.nn {c : cS} (h : cK c) : cg_nT c ≤ 8 ∧ cg_nL c ≤ 6 := h.1
theorem cK.lot {c : cS} (h : cK c) {k : Nat} (hk : k < 8) : (0 ≤ cg_pl c k ∧ cg_pl c k ≤ 99) ∧ (0 ≤ cg_gd c k ∧ cg_gd c k ≤ 5) ∧ (0 ≤ cg_un c k ∧ cg_un c k ≤ 9999) ∧ (0 ≤ cg_od c k ∧ cg_od c k ≤ 7) := h.2.1 k hk
theorem cK.line {c : cS} (h : cK c) {l : Nat} (hl : l < 6) : (0 ≤ cg_lg c l ∧ cg_lg c l ≤ 5) ∧ (0 ≤ cg_lw c l ∧ cg_lw c l ≤ 200) ∧ (0 ≤ cg_rl c l 0 ∧ cg_rl c l 0 ≤ 9999) ∧ (0 ≤ cg_rl c l 1 ∧ cg_rl c l 1 ≤ 50) ∧ (0 ≤ cg_rl c l 2 ∧ cg_rl c l 2 ≤ 8) ∧ (0 ≤ cg_rl c l 3 ∧ cg_rl c l 3 ≤ 1) := ⟨(h.2.2 l hl).1, (h.2.2 l hl).2.1, (h.2.2 l hl).2.2.1, (h.2.2 l hl).2.2.2.1, (h.2.2 l hl).2.2.2.2.1, (h.2.2 l hl).2.2.2.2.2.1⟩
theorem cK.told {c : cS} (h : cK c) {l k : Nat} (hl : l < 6) (hk : k < 8) : -1 ≤ cg_tl c l k ∧ cg_tl c l k ≤ 1000 := (h.2.2 l hl).2.2.2.2.2.2 k hk
/-- what lines hold, and what is free, in a range -/
def cG (c : cS) : Prop := (∀ l k, l < 6 → k < 8 → 0 ≤ cg_gi c l k ∧ cg_gi c l k ≤ 1000) ∧ ∀ k, k < 8 → -100000 ≤ cg_fr c k ∧ cg_fr c k ≤ 1000
theorem cG.gi {c : cS} (h : cG c) {l k : Nat} (hl : l < 6) (hk : k < 8) : 0 ≤ cg_gi c l k ∧ cg_gi c l k ≤ 1000 := h.1 l k hl hk
theorem cG.fr {c : cS} (h : cG c) {k : Nat} (hk : k < 8) : -100000 ≤ cg_fr c k ∧ cg_fr c k ≤ 1000 := h.2 k hk
def ck_move (c : cS) (l k : Nat) (z : Int) : cS := cs_fr (cs_gi c (zr (cg_gi c) l (zu (cg_gi c l) k (cg_gi c l k + z)))) (zu (cg_fr c) k (cg_fr c k - z))
def ck_letGo (c : cS) (l : Nat) : cS := zf (fun c k => ck_move c l k (-cg_gi c l k)) c (cg_nT c)
def ck_clear (c : cS) : cS := zf (fun c l => ck_letGo c l) c (cg_nL c)
def ck_cost (c : cS) (l k : Nat) : Int := if cg_tl c l k = -1 then cg_pl c k else cg_tl c l k
abbrev ck_bar (c : cS) (l k : Nat) : Prop := (cg_lb c l >>> (iI (k : Int) &&& 31)) &&& 1 = 1
def ck_pass (c : cS) (l k : Nat) : Int := if cg_gd c k ≠ cg_lg c l then 0 else if cg_un c k < cg_rl c l 0 then 1 else if ck_bar c l k then 2 else if cg_fr c k < cg_rl c l 1 then 3 else 4
/-- the lot is allowed for the line -/
abbrev ck_all (c : cS) (l k : Nat) : Prop := cg_gd c k = cg_lg c l ∧ ¬ cg_un c k < cg_rl c l 0 ∧ ¬ ck_bar c l k
theorem ck_pass_all (c : cS) (l k : Nat) : 3 ≤ ck_pass c l k ↔ ck_all c l k := by
  unfold ck_pass
  split
  · rename_i h1
    exact ⟨fun q => by omega, fun q => absurd q.1 h1⟩
  · rename_i h1
    split
    · rename_i h2
      exact ⟨fun q => by omega, fun q => absurd h2 q.2.1⟩
    · rename_i h2
      split
      · rename_i h3
        exact ⟨fun q => by omega, fun q => absurd h3 q.2.2⟩
      · rename_i h3
        have hh : ck_all c l k := ⟨Decidable.not_not.mp h1, h2, h3⟩
        split <;> exact ⟨fun _ => hh, fun _ => by omega⟩
theorem ck_pass_rg (c : cS) (l k : Nat) : 0 ≤ ck_pass c l k ∧ ck_pass c l k ≤ 4 := by
  unfold ck_pass
  split
  · omega
  split
  · omega
  split
  · omega
  split <;> omega
/-- 1 if it holds, else 0 -/
def zb (p : Prop) [Decidable p] : Int := if p then 1 else 0
set_option maxHeartbeats 1000000 in
set_option maxRecDepth 20000 in
theorem sp_F_move {d : Nat} {x : am_C} {c : cS} {t : List am_C} {n : Nat} {l k : Nat} {z : Int} (hl : l < 6) (hk : k < 8) : am_W d km_F_move 0 [some (.ref 5), some (.int (iI l)), some (.int (iI k)), some (.int (iI z))] [] (hC x c t) n 0 0 (am_eq none (hC x (ck_move c l k z) t) n) := by
  refine ar_aload_n kd_F_move_0 rfl ?_
  refine ar_get (ci := 1) (k := 1) kd_F_move_1 rfl kw_120 (by decide) rfl rfl ?_
  refine ar_get (ci := 2) (k := 6) kd_F_move_4 rfl kw_100 (by decide) rfl rfl ?_
  refine ar_iload_n kd_F_move_7 rfl ?_
  refine az_aald kd_F_move_8 rfl rfl (by omega) (if_pos (by omega)) ?_
  refine ar_iload_n kd_F_move_9 rfl ?_
  refine ar_dup2 kd_F_move_10 rfl rfl ?_
  refine az_iald kd_F_move_11 (hr_gi (by omega)) rfl (by omega) ?_
  refine ar_iload_n kd_F_move_12 rfl ?_
  refine az_iadd kd_F_move_13 ?_
  refine az_iast kd_F_move_14 (Nat.ble_eq_true_of_le (by omega)) (hr_gi (by omega)) rfl (by omega) ?_
  rw [hw_gi (by omega)]
  refine ar_aload_n kd_F_move_15 rfl ?_
  refine ar_get (ci := 1) (k := 0) kd_F_move_16 rfl kw_117 (by decide) rfl rfl ?_
  refine ar_get (ci := 3) (k := 5) kd_F_move_19 rfl kw_51 (by decide) rfl rfl ?_
  refine ar_iload_n kd_F_move_22 rfl ?_
  refine ar_dup2 kd_F_move_23 rfl rfl ?_
  refine az_iald kd_F_move_24 rfl rfl (by omega) ?_
  refine ar_iload_n kd_F_move_25 rfl ?_
  refine az_isub kd_F_move_26 ?_
  refine az_iast kd_F_move_27 rfl rfl rfl (by omega) ?_
  rw [hw_fr]
  refine ar_return kd_F_move_28 rfl (Nat.le_of_ble_eq_true rfl) (Nat.le_of_ble_eq_true rfl) ?_
  exact ⟨rfl, rfl, rfl⟩
set_option maxHeartbeats 1000000 in
set_option maxRecDepth 20000 in
theorem sp_F_piecesOf {d : Nat} {x : am_C} {c : cS} {t : List am_C} {n : Nat} {l : Nat} (hl : l < 6) (hK : cK c) : am_W d km_F_piecesOf 0 [some (.ref 5), some (.int (iI l)), none, none] [] (hC x c t) n 0 0 (am_eq (some (.int (iI (zs (cg_gi c l) (cg_nT c))))) (hC x c t) n) := by
  obtain ⟨hT, hL⟩ := hK.nn
  have loop : ∀ (f i : Nat), i ≤ cg_nT c → cg_nT c - i < f → am_W d km_F_piecesOf 4 [some (.ref 5), some (.int (iI l)), some (.int (iI (zs (cg_gi c l) i))), some (.int (iI i))] [] (hC x c t) n 0 0 (am_eq (some (.int (iI (zs (cg_gi c l) (cg_nT c))))) (hC x c t) n) := by
    intro f
    induction f with
    | zero => intro i h1 h2; omega
    | succ f ih =>
      intro i h1 h2
      refine ar_iload_n kd_F_piecesOf_4 rfl ?_
      refine ar_aload_n kd_F_piecesOf_5 rfl ?_
      refine ar_get (ci := 1) (k := 0) kd_F_piecesOf_6 rfl kw_117 (by decide) rfl rfl ?_
      refine ar_get (ci := 3) (k := 0) kd_F_piecesOf_9 rfl kw_40 (by decide) rfl rfl ?_
      refine az_icmp_ge (tg := 35) kd_F_piecesOf_12 (by decide) (fun q1 => ?_) (fun q1 => ?_)
      · obtain rfl : i = cg_nT c := by omega
        refine ar_iload_n kd_F_piecesOf_35 rfl ?_
        refine ar_ireturn kd_F_piecesOf_36 rfl (Nat.le_of_ble_eq_true rfl) (Nat.le_of_ble_eq_true rfl) ?_
        first | exact ⟨rfl, rfl, rfl⟩ | exact ⟨by rw [e1], rfl, rfl⟩
      · refine ar_iload_n kd_F_piecesOf_15 rfl ?_
        refine ar_aload_n kd_F_piecesOf_16 rfl ?_
        refine ar_get (ci := 1) (k := 1) kd_F_piecesOf_17 rfl kw_120 (by decide) rfl rfl ?_
        refine ar_get (ci := 2) (k := 6) kd_F_piecesOf_20 rfl kw_100 (by decide) rfl rfl ?_
        refine ar_iload_n kd_F_piecesOf_23 rfl ?_
        refine az_aald kd_F_piecesOf_24 rfl rfl (by omega) (if_pos (by omega)) ?_
        refine ar_iload_n kd_F_piecesOf_25 rfl ?_
        refine az_iald kd_F_piecesOf_26 (hr_gi (by omega)) rfl (by omega) ?_
        refine az_iadd kd_F_piecesOf_27 ?_
        refine ar_istore_n kd_F_piecesOf_28 (Nat.le_of_ble_eq_true rfl) rfl ?_
        dsimp only [List.set]
        refine az_iinc kd_F_piecesOf_29 rfl rfl ?_
        dsimp only [List.set]
        refine ar_goto (tg := 4) kd_F_piecesOf_32 (by decide) ?_
        exact ih (i + 1) (by omega) (by omega)
  refine ar_iconst kd_F_piecesOf_0 ?_
  refine ar_istore_n kd_F_piecesOf_1 (Nat.le_of_ble_eq_true rfl) rfl ?_
  dsimp only [List.set]
  refine ar_iconst kd_F_piecesOf_2 ?_
  refine ar_istore_n kd_F_piecesOf_3 (Nat.le_of_ble_eq_true rfl) rfl ?_
  dsimp only [List.set]
  exact loop (cg_nT c + 1) 0 (by omega) (by omega)
set_option maxHeartbeats 1000000 in
set_option maxRecDepth 20000 in
theorem sp_F_giftsOf {d : Nat} {x : am_C} {c : cS} {t : List am_C} {n : Nat} {l : Nat} (hl : l < 6) (hK : cK c) (hG : cG c) : am_W d km_F_giftsOf 0 [some (.ref 5), some (.int (iI l)), none, none] [] (hC x c t) n 0 0 (am_eq (some (.int (iI (zs (fun k => zb (0 < cg_gi c l k)) (cg_nT c))))) (hC x c t) n) := by
  obtain ⟨hT, hL⟩ := hK.nn
  have loop : ∀ (f i : Nat), i ≤ cg_nT c → cg_nT c - i < f → am_W d km_F_giftsOf 4 [some (.ref 5), some (.int (iI l)), some (.int (iI (zs (fun k => zb (0 < cg_gi c l k)) i))), some (.int (iI i))] [] (hC x c t) n 0 0 (am_eq (some (.int (iI (zs (fun k => zb (0 < cg_gi c l k)) (cg_nT c))))) (hC x c t) n) := by
    intro f
    induction f with
    | zero => intro i h1 h2; omega
    | succ f ih =>
      intro i h1 h2
      refine ar_iload_n kd_F_giftsOf_4 rfl ?_
      refine ar_aload_n kd_F_giftsOf_5 rfl ?_
      refine ar_get (ci := 1) (k := 0) kd_F_giftsOf_6 rfl kw_117 (by decide) rfl rfl ?_
      refine ar_get (ci := 3) (k := 0) kd_F_giftsOf_9 rfl kw_40 (by decide) rfl rfl ?_
      refine az_icmp_ge (tg := 38) kd_F_giftsOf_12 (by decide) (fun q1 => ?_) (fun q1 => ?_)
      · obtain rfl : i = cg_nT c := by omega
        refine ar_iload_n kd_F_giftsOf_38 rfl ?_
        refine ar_ireturn kd_F_giftsOf_39 rfl (Nat.le_of_ble_eq_true rfl) (Nat.le_of_ble_eq_true rfl) ?_
        first | exact ⟨rfl, rfl, rfl⟩ | exact ⟨by rw [e1], rfl, rfl⟩
      · have hg := hG.gi (k := i) hl (by omega)
        refine ar_aload_n kd_F_giftsOf_15 rfl ?_
        refine ar_get (ci := 1) (k := 1) kd_F_giftsOf_16 rfl kw_120 (by decide) rfl rfl ?_
        refine ar_get (ci := 2) (k := 6) kd_F_giftsOf_19 rfl kw_100 (by decide) rfl rfl ?_
        refine ar_iload_n kd_F_giftsOf_22 rfl ?_
        refine az_aald kd_F_giftsOf_23 rfl rfl (by omega) (if_pos (by omega)) ?_
        refine ar_iload_n kd_F_giftsOf_24 rfl ?_
        refine az_iald kd_F_giftsOf_25 (hr_gi (by omega)) rfl (by omega) ?_
        refine az_if_le (tg := 32) kd_F_giftsOf_26 (by decide) (fun q2 => ?_) (fun q2 => ?_)
        · have e1 : zs (fun k => zb (0 < cg_gi c l k)) i = zs (fun k => zb (0 < cg_gi c l k)) (i + 1) := by
            simp only [zs, zb]
            rw [if_neg (by omega)]
            omega
          refine az_iinc kd_F_giftsOf_32 rfl rfl ?_
          dsimp only [List.set]
          refine ar_goto (tg := 4) kd_F_giftsOf_35 (by decide) ?_
          first | exact ih (i + 1) (by omega) (by omega) | (rw [e1]; exact ih (i + 1) (by omega) (by omega))
        · have e1 : zs (fun k => zb (0 < cg_gi c l k)) i + 1 = zs (fun k => zb (0 < cg_gi c l k)) (i + 1) := by
            simp only [zs, zb]
            rw [if_pos (by omega)]
          refine az_iinc kd_F_giftsOf_29 rfl rfl ?_
          dsimp only [List.set]
          refine az_iinc kd_F_giftsOf_32 rfl rfl ?_
          dsimp only [List.set]
          refine ar_goto (tg := 4) kd_F_giftsOf_35 (by decide) ?_
          first | exact ih (i + 1) (by omega) (by omega) | (rw [e1]; exact ih (i + 1) (by omega) (by omega))
  refine ar_iconst kd_F_giftsOf_0 ?_
  refine ar_istore_n kd_F_giftsOf_1 (Nat.le_of_ble_eq_true rfl) rfl ?_
  dsimp only [List.set]
  refine ar_iconst kd_F_giftsOf_2 ?_
  refine ar_istore_n kd_F_giftsOf_3 (Nat.le_of_ble_eq_true rfl) rfl ?_
  dsimp only [List.set]
  exact loop (cg_nT c + 1) 0 (by omega) (by omega)
set_option maxHeartbeats 1000000 in
set_option maxRecDepth 20000 in
theorem sp_F_pieceCost {d : Nat} {x : am_C} {c : cS} {t : List am_C} {n : Nat} {l k : Nat} (hl : l < 6) (hk : k < 8) (hK : cK c) : am_W d km_F_pieceCost 0 [some (.ref 5), some (.int (iI l)), some (.int (iI k)), none] [] (hC x c t) n 0 0 (am_eq (some (.int (iI (ck_cost c l k)))) (hC x c t) n) := by
  obtain ⟨hT, hL⟩ := hK.nn
  have ht := hK.told hl hk
  refine ar_aload_n kd_F_pieceCost_0 rfl ?_
  refine ar_get (ci := 1) (k := 1) kd_F_pieceCost_1 rfl kw_120 (by decide) rfl rfl ?_
  refine ar_get (ci := 2) (k := 5) kd_F_pieceCost_4 rfl kw_97 (by decide) rfl rfl ?_
  refine ar_iload_n kd_F_pieceCost_7 rfl ?_
  refine az_aald kd_F_pieceCost_8 rfl rfl (by omega) (if_pos (by omega)) ?_
  refine ar_iload_n kd_F_pieceCost_9 rfl ?_
  refine az_iald kd_F_pieceCost_10 (hr_tl (by omega)) rfl (by omega) ?_
  refine ar_istore_n kd_F_pieceCost_11 (Nat.le_of_ble_eq_true rfl) rfl ?_
  dsimp only [List.set]
  refine ar_iload_n kd_F_pieceCost_12 rfl ?_
  refine ar_iconst kd_F_pieceCost_13 ?_
  refine az_icmp_ne (tg := 29) kd_F_pieceCost_14 (by decide) (fun q1 => ?_) (fun q1 => ?_)
  · have e1 : ck_cost c l k = cg_tl c l k := if_neg q1
    refine ar_iload_n kd_F_pieceCost_29 rfl ?_
    refine ar_ireturn kd_F_pieceCost_30 rfl (Nat.le_of_ble_eq_true rfl) (Nat.le_of_ble_eq_true rfl) ?_
    first | exact ⟨rfl, rfl, rfl⟩ | exact ⟨by rw [e1], rfl, rfl⟩
  · have e1 : ck_cost c l k = cg_pl c k := if_pos q1
    refine ar_aload_n kd_F_pieceCost_17 rfl ?_
    refine ar_get (ci := 1) (k := 0) kd_F_pieceCost_18 rfl kw_117 (by decide) rfl rfl ?_
    refine ar_get (ci := 3) (k := 1) kd_F_pieceCost_21 rfl kw_42 (by decide) rfl rfl ?_
    refine ar_iload_n kd_F_pieceCost_24 rfl ?_
    refine az_iald kd_F_pieceCost_25 rfl rfl (by omega) ?_
    refine ar_goto (tg := 30) kd_F_pieceCost_26 (by decide) ?_
    refine ar_ireturn kd_F_pieceCost_30 rfl (Nat.le_of_ble_eq_true rfl) (Nat.le_of_ble_eq_true rfl) ?_
    first | exact ⟨rfl, rfl, rfl⟩ | exact ⟨by rw [e1], rfl, rfl⟩
set_option maxHeartbeats 1000000 in
set_option maxRecDepth 20000 in
theorem sp_N_isBarred {d : Nat} {x : am_C} {c : cS} {t : List am_C} {n : Nat} {l k : Nat} (hl : l < 6) : am_W d km_N_isBarred 0 [some (.ref 13), some (.int (iI l)), some (.int (iI k))] [] (hC x c t) n 0 0 (am_eq (some (.int (iI (zb (ck_bar c l k))))) (hC x c t) n) := by
  refine ar_aload_n kd_N_isBarred_0 rfl ?_
  refine ar_get (ci := 2) (k := 3) kd_N_isBarred_1 rfl kw_91 (by decide) rfl rfl ?_
  refine ar_iload_n kd_N_isBarred_4 rfl ?_
  refine az_ialdR kd_N_isBarred_5 rfl rfl (by omega) ?_
  refine ar_iload_n kd_N_isBarred_6 rfl ?_
  refine ar_ishr kd_N_isBarred_7 ?_
  refine ar_iconst kd_N_isBarred_8 ?_
  refine ar_iand kd_N_isBarred_9 ?_
  refine ar_iconst kd_N_isBarred_10 ?_
  refine ar_icmp_ne (tg := 18) kd_N_isBarred_11 (by decide) (fun q1 => ?_) (fun q1 => ?_)
  · have e1 : zb (ck_bar c l k) = 0 := if_neg q1
    refine ar_iconst kd_N_isBarred_18 ?_
    refine ar_zreturn kd_N_isBarred_19 rfl rfl (Nat.le_of_ble_eq_true rfl) (Nat.le_of_ble_eq_true rfl) ?_
    first | exact ⟨rfl, rfl, rfl⟩ | exact ⟨by rw [e1], rfl, rfl⟩
  · have e1 : zb (ck_bar c l k) = 1 := if_pos q1
    refine ar_iconst kd_N_isBarred_14 ?_
    refine ar_goto (tg := 19) kd_N_isBarred_15 (by decide) ?_
    refine ar_zreturn kd_N_isBarred_19 rfl rfl (Nat.le_of_ble_eq_true rfl) (Nat.le_of_ble_eq_true rfl) ?_
    first | exact ⟨rfl, rfl, rfl⟩ | exact ⟨by rw [e1], rfl, rfl⟩
set_option maxHeartbeats 1000000 in
set_option maxRecDepth 20000 in
theorem sp_F_barsPassed {d : Nat} {x : am_C} {c : cS} {t : List am_C} {n : Nat} {l k : Nat} (hl : l < 6) (hk : k < 8) (hK : cK c) (hG : cG c) : am_W (d + 1) km_F_barsPassed 0 [some (.ref 5), some (.int (iI l)), some (.int (iI k))] [] (hC x c t) n 0 0 (am_eq (some (.int (iI (ck_pass c l k)))) (hC x c t) n) := by
  have h1 := hK.line hl
  have h2 := hK.lot hk
  have h3 := hG.fr hk
  refine ar_aload_n kd_F_barsPassed_0 rfl ?_
  refine ar_get (ci := 1) (k := 0) kd_F_barsPassed_1 rfl kw_117 (by decide) rfl rfl ?_
  refine ar_get (ci := 3) (k := 2) kd_F_barsPassed_4 rfl kw_44 (by decide) rfl rfl ?_
  refine ar_iload_n kd_F_barsPassed_7 rfl ?_
  refine az_iald kd_F_barsPassed_8 rfl rfl (by omega) ?_
  refine ar_aload_n kd_F_barsPassed_9 rfl ?_
  refine ar_get (ci := 1) (k := 1) kd_F_barsPassed_10 rfl kw_120 (by decide) rfl rfl ?_
  refine ar_get (ci := 2) (k := 1) kd_F_barsPassed_13 rfl kw_86 (by decide) rfl rfl ?_
  refine ar_iload_n kd_F_barsPassed_16 rfl ?_
  refine az_iald kd_F_barsPassed_17 rfl rfl (by omega) ?_
  refine az_icmp_eq (tg := 23) kd_F_barsPassed_18 (by decide) (fun q1 => ?_) (fun q1 => ?_)
  · refine ar_aload_n kd_F_barsPassed_23 rfl ?_
    refine ar_get (ci := 1) (k := 0) kd_F_barsPassed_24 rfl kw_117 (by decide) rfl rfl ?_
    refine ar_get (ci := 3) (k := 3) kd_F_barsPassed_27 rfl kw_46 (by decide) rfl rfl ?_
    refine ar_iload_n kd_F_barsPassed_30 rfl ?_
    refine az_iald kd_F_barsPassed_31 rfl rfl (by omega) ?_
    refine ar_aload_n kd_F_barsPassed_32 rfl ?_
    refine ar_get (ci := 1) (k := 1) kd_F_barsPassed_33 rfl kw_120 (by decide) rfl rfl ?_
    refine ar_get (ci := 2) (k := 4) kd_F_barsPassed_36 rfl kw_93 (by decide) rfl rfl ?_
    refine ar_iload_n kd_F_barsPassed_39 rfl ?_
    refine az_aald kd_F_barsPassed_40 rfl rfl (by omega) (if_pos (by omega)) ?_
    refine ar_iconst kd_F_barsPassed_41 ?_
    refine az_iald kd_F_barsPassed_42 (hr_rl (by omega)) (k := 0) rfl (by omega) ?_
    refine az_icmp_ge (tg := 48) kd_F_barsPassed_43 (by decide) (fun q2 => ?_) (fun q2 => ?_)
    · refine ar_aload_n kd_F_barsPassed_48 rfl ?_
      refine ar_get (ci := 1) (k := 1) kd_F_barsPassed_49 rfl kw_120 (by decide) rfl rfl ?_
      refine ar_iload_n kd_F_barsPassed_52 rfl ?_
      refine ar_iload_n kd_F_barsPassed_53 rfl ?_
      refine az_callv (z := km_N_isBarred) (As := [_, _]) (ci := 2) kd_F_barsPassed_54 kw_199 kw_200 rfl ks_N_isBarred kz_N_isBarred rfl rfl rfl rfl rfl (Nat.le_of_ble_eq_true rfl) (Nat.le_of_ble_eq_true rfl) rfl (sp_N_isBarred hl) ?_
      refine az_if_eq (tg := 62) kd_F_barsPassed_57 (by decide) (fun q3 => ?_) (fun q3 => ?_) (by unfold zb; split <;> omega)
      · have hb : ¬ ck_bar c l k := fun q => by simp [zb, q] at q3
        refine ar_aload_n kd_F_barsPassed_62 rfl ?_
        refine ar_get (ci := 1) (k := 0) kd_F_barsPassed_63 rfl kw_117 (by decide) rfl rfl ?_
        refine ar_get (ci := 3) (k := 5) kd_F_barsPassed_66 rfl kw_51 (by decide) rfl rfl ?_
        refine ar_iload_n kd_F_barsPassed_69 rfl ?_
        refine az_iald kd_F_barsPassed_70 rfl rfl (by omega) ?_
        refine ar_aload_n kd_F_barsPassed_71 rfl ?_
        refine ar_get (ci := 1) (k := 1) kd_F_barsPassed_72 rfl kw_120 (by decide) rfl rfl ?_
        refine ar_get (ci := 2) (k := 4) kd_F_barsPassed_75 rfl kw_93 (by decide) rfl rfl ?_
        refine ar_iload_n kd_F_barsPassed_78 rfl ?_
        refine az_aald kd_F_barsPassed_79 rfl rfl (by omega) (if_pos (by omega)) ?_
        refine ar_iconst kd_F_barsPassed_80 ?_
        refine az_iald kd_F_barsPassed_81 (hr_rl (by omega)) (k := 1) rfl (by omega) ?_
        refine az_icmp_ge (tg := 89) kd_F_barsPassed_82 (by decide) (fun q4 => ?_) (fun q4 => ?_)
        · have e1 : ck_pass c l k = 4 := by
            unfold ck_pass
            rw [if_neg (by omega), if_neg (by omega), if_neg hb, if_neg (by omega)]
          refine ar_iconst kd_F_barsPassed_89 ?_
          refine ar_ireturn kd_F_barsPassed_90 rfl (Nat.le_of_ble_eq_true rfl) (Nat.le_of_ble_eq_true rfl) ?_
          exact ⟨by rw [e1], rfl, rfl⟩
        · have e1 : ck_pass c l k = 3 := by
            unfold ck_pass
            rw [if_neg (by omega), if_neg (by omega), if_neg hb, if_pos (by omega)]
          refine ar_iconst kd_F_barsPassed_85 ?_
          refine ar_goto (tg := 90) kd_F_barsPassed_86 (by decide) ?_
          refine ar_ireturn kd_F_barsPassed_90 rfl (Nat.le_of_ble_eq_true rfl) (Nat.le_of_ble_eq_true rfl) ?_
          exact ⟨by rw [e1], rfl, rfl⟩
      · have hb : ck_bar c l k := Decidable.byContradiction fun q => q3 (if_neg q)
        have e1 : ck_pass c l k = 2 := by
          unfold ck_pass
          rw [if_neg (by omega), if_neg (by omega), if_pos hb]
        refine ar_iconst kd_F_barsPassed_60 ?_
        refine ar_ireturn kd_F_barsPassed_61 rfl (Nat.le_of_ble_eq_true rfl) (Nat.le_of_ble_eq_true rfl) ?_
        exact ⟨by rw [e1], rfl, rfl⟩
    · have e1 : ck_pass c l k = 1 := by
        unfold ck_pass
        rw [if_neg (by omega), if_pos (by omega)]
      refine ar_iconst kd_F_barsPassed_46 ?_
      refine ar_ireturn kd_F_barsPassed_47 rfl (Nat.le_of_ble_eq_true rfl) (Nat.le_of_ble_eq_true rfl) ?_
      exact ⟨by rw [e1], rfl, rfl⟩
  · have e1 : ck_pass c l k = 0 := by
      unfold ck_pass
      rw [if_pos q1]
    refine ar_iconst kd_F_barsPassed_21 ?_
    refine ar_ireturn kd_F_barsPassed_22 rfl (Nat.le_of_ble_eq_true rfl) (Nat.le_of_ble_eq_true rfl) ?_
    exact ⟨by rw [e1], rfl, rfl⟩
set_option maxHeartbeats 1000000 in
set_option maxRecDepth 20000 in
theorem sp_F_allows {d : Nat} {x : am_C} {c : cS} {t : List am_C} {n : Nat} {l k : Nat} (hl : l < 6) (hk : k < 8) (hK : cK c) (hG : cG c) : am_W (d + 2) km_F_allows 0 [some (.ref 5), some (.int (iI l)), some (.int (iI k))] [] (hC x c t) n 0 0 (am_eq (some (.int (iI (zb (ck_all c l k))))) (hC x c t) n) := by
  refine ar_aload_n kd_F_allows_0 rfl ?_
  refine ar_iload_n kd_F_allows_1 rfl ?_
  refine ar_iload_n kd_F_allows_2 rfl ?_
  refine az_callv (z := km_F_barsPassed) (As := [_, _]) (ci := 1) kd_F_allows_3 kw_195 kw_197 rfl ks_F_barsPassed kz_F_barsPassed rfl rfl rfl rfl rfl (Nat.le_of_ble_eq_true rfl) (Nat.le_of_ble_eq_true rfl) rfl (sp_F_barsPassed hl hk hK hG) ?_
  refine ar_iconst kd_F_allows_6 ?_
  have h1 := ck_pass_rg c l k
  refine az_icmp_lt (tg := 14) kd_F_allows_7 (by decide) (fun q1 => ?_) (fun q1 => ?_)
  · have e1 : zb (ck_all c l k) = 0 := if_neg (fun q => by have := (ck_pass_all c l k).mpr q; omega)
    refine ar_iconst kd_F_allows_14 ?_
    refine ar_zreturn kd_F_allows_15 rfl rfl (Nat.le_of_ble_eq_true rfl) (Nat.le_of_ble_eq_true rfl) ?_
    exact ⟨by rw [e1], rfl, rfl⟩
  · have e1 : zb (ck_all c l k) = 1 := if_pos ((ck_pass_all c l k).mp (by omega))
    refine ar_iconst kd_F_allows_10 ?_
    refine ar_goto (tg := 15) kd_F_allows_11 (by decide) ?_
    refine ar_zreturn kd_F_allows_15 rfl rfl (Nat.le_of_ble_eq_true rfl) (Nat.le_of_ble_eq_true rfl) ?_
    exact ⟨by rw [e1], rfl, rfl⟩
set_option maxHeartbeats 1000000 in
set_option maxRecDepth 20000 in
theorem sp_F_costOfPieces {d : Nat} {x : am_C} {c : cS} {t : List am_C} {n : Nat} {l : Nat} (hl : l < 6) (hK : cK c) : am_W (d + 1) km_F_costOfPieces 0 [some (.ref 5), some (.int (iI l)), none, none] [] (hC x c t) n 0 0 (am_eq (some (.int (iI (zs (fun k => cg_gi c l k * ck_cost c l k) (cg_nT c))))) (hC x c t) n) := by
  obtain ⟨hT, hL⟩ := hK.nn
  have loop : ∀ (f i : Nat), i ≤ cg_nT c → cg_nT c - i < f → am_W (d + 1) km_F_costOfPieces 4 [some (.ref 5), some (.int (iI l)), some (.int (iI (zs (fun k => cg_gi c l k * ck_cost c l k) i))), some (.int (iI i))] [] (hC x c t) n 0 0 (am_eq (some (.int (iI (zs (fun k => cg_gi c l k * ck_cost c l k) (cg_nT c))))) (hC x c t) n) := by
    intro f
    induction f with
    | zero => intro i h1 h2; omega
    | succ f ih =>
      intro i h1 h2
      refine ar_iload_n kd_F_costOfPieces_4 rfl ?_
      refine ar_aload_n kd_F_costOfPieces_5 rfl ?_
      refine ar_get (ci := 1) (k := 0) kd_F_costOfPieces_6 rfl kw_117 (by decide) rfl rfl ?_
      refine ar_get (ci := 3) (k := 0) kd_F_costOfPieces_9 rfl kw_40 (by decide) rfl rfl ?_
      refine az_icmp_ge (tg := 42) kd_F_costOfPieces_12 (by decide) (fun q1 => ?_) (fun q1 => ?_)
      · obtain rfl : i = cg_nT c := by omega
        refine ar_iload_n kd_F_costOfPieces_42 rfl ?_
        refine ar_ireturn kd_F_costOfPieces_43 rfl (Nat.le_of_ble_eq_true rfl) (Nat.le_of_ble_eq_true rfl) ?_
        first | exact ⟨rfl, rfl, rfl⟩ | exact ⟨by rw [e1], rfl, rfl⟩
      · refine ar_iload_n kd_F_costOfPieces_15 rfl ?_
        refine ar_aload_n kd_F_costOfPieces_16 rfl ?_
        refine ar_get (ci := 1) (k := 1) kd_F_costOfPieces_17 rfl kw_120 (by decide) rfl rfl ?_
        refine ar_get (ci := 2) (k := 6) kd_F_costOfPieces_20 rfl kw_100 (by decide) rfl rfl ?_
        refine ar_iload_n kd_F_costOfPieces_23 rfl ?_
        refine az_aald kd_F_costOfPieces_24 rfl rfl (by omega) (if_pos (by omega)) ?_
        refine ar_iload_n kd_F_costOfPieces_25 rfl ?_
        refine az_iald kd_F_costOfPieces_26 (hr_gi (by omega)) rfl (by omega) ?_
        refine ar_aload_n kd_F_costOfPieces_27 rfl ?_
        refine ar_iload_n kd_F_costOfPieces_28 rfl ?_
        refine ar_iload_n kd_F_costOfPieces_29 rfl ?_
        refine az_callv (z := km_F_pieceCost) (As := [_, _]) (ci := 1) kd_F_costOfPieces_30 kw_212 kw_213 rfl ks_F_pieceCost kz_F_pieceCost rfl rfl rfl rfl rfl (Nat.le_of_ble_eq_true rfl) (Nat.le_of_ble_eq_true rfl) rfl (sp_F_pieceCost hl (by omega) hK) ?_
        refine az_imul kd_F_costOfPieces_33 ?_
        refine az_iadd kd_F_costOfPieces_34 ?_
        refine ar_istore_n kd_F_costOfPieces_35 (Nat.le_of_ble_eq_true rfl) rfl ?_
        dsimp only [List.set]
        refine az_iinc kd_F_costOfPieces_36 rfl rfl ?_
        dsimp only [List.set]
        refine ar_goto (tg := 4) kd_F_costOfPieces_39 (by decide) ?_
        exact ih (i + 1) (by omega) (by omega)
  refine ar_iconst kd_F_costOfPieces_0 ?_
  refine ar_istore_n kd_F_costOfPieces_1 (Nat.le_of_ble_eq_true rfl) rfl ?_
  dsimp only [List.set]
  refine ar_iconst kd_F_costOfPieces_2 ?_
  refine ar_istore_n kd_F_costOfPieces_3 (Nat.le_of_ble_eq_true rfl) rfl ?_
  dsimp only [List.set]
  exact loop (cg_nT c + 1) 0 (by omega) (by omega)
def ck_lcost (c : cS) (l : Nat) (k : Nat) : Int := if 0 < cg_gi c l k then 20 + cg_gi c l k * (ck_cost c l k - 1000) else 0
set_option maxHeartbeats 1000000 in
set_option maxRecDepth 20000 in
theorem sp_F_lineCost {d : Nat} {x : am_C} {c : cS} {t : List am_C} {n : Nat} {l : Nat} (hl : l < 6) (hK : cK c) (hG : cG c) : am_W (d + 1) km_F_lineCost 0 [some (.ref 5), some (.int (iI l)), none, none, none] [] (hC x c t) n 0 0 (am_eq (some (.int (iI (1000 * cg_lw c l + zs (ck_lcost c l) (cg_nT c))))) (hC x c t) n) := by
  obtain ⟨hT, hL⟩ := hK.nn
  have hg := fun k hk => hG.gi (l := l) (k := k) hl hk
  have loop : ∀ (f i : Nat), i ≤ cg_nT c → cg_nT c - i < f → ∀ w : Option Value, am_W (d + 1) km_F_lineCost 16 [some (.ref 5), some (.int (iI l)), some (.int (iI (1000 * cg_lw c l + zs (ck_lcost c l) i))), some (.int (iI i)), w] [] (hC x c t) n 0 0 (am_eq (some (.int (iI (1000 * cg_lw c l + zs (ck_lcost c l) (cg_nT c))))) (hC x c t) n) := by
    intro f
    induction f with
    | zero => intro i h1 h2 w; omega
    | succ f ih =>
      intro i h1 h2 w
      refine ar_iload_n kd_F_lineCost_16 rfl ?_
      refine ar_aload_n kd_F_lineCost_17 rfl ?_
      refine ar_get (ci := 1) (k := 0) kd_F_lineCost_18 rfl kw_117 (by decide) rfl rfl ?_
      refine ar_get (ci := 3) (k := 0) kd_F_lineCost_21 rfl kw_40 (by decide) rfl rfl ?_
      refine az_icmp_ge (tg := 70) kd_F_lineCost_24 (by decide) (fun q1 => ?_) (fun q1 => ?_)
      · obtain rfl : i = cg_nT c := by omega
        refine ar_iload_n kd_F_lineCost_70 rfl ?_
        refine ar_ireturn kd_F_lineCost_71 rfl (Nat.le_of_ble_eq_true rfl) (Nat.le_of_ble_eq_true rfl) ?_
        first | exact ⟨rfl, rfl, rfl⟩ | exact ⟨by rw [e1], rfl, rfl⟩
      · have hgi := hg i (by omega)
        refine ar_aload_n kd_F_lineCost_27 rfl ?_
        refine ar_get (ci := 1) (k := 1) kd_F_lineCost_28 rfl kw_120 (by decide) rfl rfl ?_
        refine ar_get (ci := 2) (k := 6) kd_F_lineCost_31 rfl kw_100 (by decide) rfl rfl ?_
        refine ar_iload_n kd_F_lineCost_34 rfl ?_
        refine az_aald kd_F_lineCost_35 rfl rfl (by omega) (if_pos (by omega)) ?_
        refine ar_iload_n kd_F_lineCost_36 rfl ?_
        refine az_iald kd_F_lineCost_37 (hr_gi (by omega)) rfl (by omega) ?_
        refine ar_istore kd_F_lineCost_38 (Nat.le_of_ble_eq_true rfl) rfl ?_
        dsimp only [List.set]
        refine ar_iload kd_F_lineCost_40 rfl ?_
        refine az_if_le (tg := 64) kd_F_lineCost_42 (by decide) (fun q2 => ?_) (fun q2 => ?_)
        · have e1 : 1000 * cg_lw c l + zs (ck_lcost c l) i = 1000 * cg_lw c l + zs (ck_lcost c l) (i + 1) := by
            simp only [zs, ck_lcost]
            rw [if_neg (by omega)]
            omega
          refine az_iinc kd_F_lineCost_64 rfl rfl ?_
          dsimp only [List.set]
          refine ar_goto (tg := 16) kd_F_lineCost_67 (by decide) ?_
          first | exact ih (i + 1) (by omega) (by omega) _ | (rw [e1]; exact ih (i + 1) (by omega) (by omega) _)
        · have e1 : 1000 * cg_lw c l + zs (ck_lcost c l) i + (20 + cg_gi c l i * (ck_cost c l i - 1000)) = 1000 * cg_lw c l + zs (ck_lcost c l) (i + 1) := by
            simp only [zs, ck_lcost]
            rw [if_pos (by omega)]
            omega
          refine ar_iload_n kd_F_lineCost_45 rfl ?_
          refine az_bipush kd_F_lineCost_46 (by decide) ?_
          refine ar_iload kd_F_lineCost_48 rfl ?_
          refine ar_aload_n kd_F_lineCost_50 rfl ?_
          refine ar_iload_n kd_F_lineCost_51 rfl ?_
          refine ar_iload_n kd_F_lineCost_52 rfl ?_
          refine az_callv (z := km_F_pieceCost) (As := [_, _]) (ci := 1) kd_F_lineCost_53 kw_212 kw_213 rfl ks_F_pieceCost kz_F_pieceCost rfl rfl rfl rfl rfl (Nat.le_of_ble_eq_true rfl) (Nat.le_of_ble_eq_true rfl) rfl (sp_F_pieceCost hl (by omega) hK) ?_
          refine az_sipush kd_F_lineCost_56 (by decide) ?_
          refine az_isub kd_F_lineCost_59 ?_
          refine az_imul kd_F_lineCost_60 ?_
          refine az_iadd kd_F_lineCost_61 ?_
          refine az_iadd kd_F_lineCost_62 ?_
          refine ar_istore_n kd_F_lineCost_63 (Nat.le_of_ble_eq_true rfl) rfl ?_
          dsimp only [List.set]
          refine az_iinc kd_F_lineCost_64 rfl rfl ?_
          dsimp only [List.set]
          refine ar_goto (tg := 16) kd_F_lineCost_67 (by decide) ?_
          first | exact ih (i + 1) (by omega) (by omega) _ | (rw [e1]; exact ih (i + 1) (by omega) (by omega) _)
  have e0 : 1000 * cg_lw c l = 1000 * cg_lw c l + zs (ck_lcost c l) 0 := by simp [zs]
  refine az_sipush kd_F_lineCost_0 (by decide) ?_
  refine ar_aload_n kd_F_lineCost_3 rfl ?_
  refine ar_get (ci := 1) (k := 1) kd_F_lineCost_4 rfl kw_120 (by decide) rfl rfl ?_
  refine ar_get (ci := 2) (k := 2) kd_F_lineCost_7 rfl kw_88 (by decide) rfl rfl ?_
  refine ar_iload_n kd_F_lineCost_10 rfl ?_
  refine az_iald kd_F_lineCost_11 rfl rfl (by omega) ?_
  refine az_imul kd_F_lineCost_12 ?_
  refine ar_istore_n kd_F_lineCost_13 (Nat.le_of_ble_eq_true rfl) rfl ?_
  dsimp only [List.set]
  refine ar_iconst kd_F_lineCost_14 ?_
  refine ar_istore_n kd_F_lineCost_15 (Nat.le_of_ble_eq_true rfl) rfl ?_
  dsimp only [List.set]
  have h9 := loop (cg_nT c + 1) 0 (by omega) (by omega) none
  rw [← e0] at h9
  exact h9
set_option maxHeartbeats 1000000 in
set_option maxRecDepth 20000 in
theorem sp_F_totalPieces {d : Nat} {x : am_C} {c : cS} {t : List am_C} {n : Nat} (hK : cK c) : am_W (d + 1) km_F_totalPieces 0 [some (.ref 5), none, none] [] (hC x c t) n 0 0 (am_eq (some (.int (iI (zs (fun l => zs (cg_gi c l) (cg_nT c)) (cg_nL c))))) (hC x c t) n) := by
  obtain ⟨hT, hL⟩ := hK.nn
  have loop : ∀ (f i : Nat), i ≤ cg_nL c → cg_nL c - i < f → am_W (d + 1) km_F_totalPieces 4 [some (.ref 5), some (.int (iI (zs (fun l => zs (cg_gi c l) (cg_nT c)) i))), some (.int (iI i))] [] (hC x c t) n 0 0 (am_eq (some (.int (iI (zs (fun l => zs (cg_gi c l) (cg_nT c)) (cg_nL c))))) (hC x c t) n) := by
    intro f
    induction f with
    | zero => intro i h1 h2; omega
    | succ f ih =>
      intro i h1 h2
      refine ar_iload_n kd_F_totalPieces_4 rfl ?_
      refine ar_aload_n kd_F_totalPieces_5 rfl ?_
      refine ar_get (ci := 1) (k := 1) kd_F_totalPieces_6 rfl kw_120 (by decide) rfl rfl ?_
      refine ar_get (ci := 2) (k := 0) kd_F_totalPieces_9 rfl kw_84 (by decide) rfl rfl ?_
      refine az_icmp_ge (tg := 29) kd_F_totalPieces_12 (by decide) (fun q1 => ?_) (fun q1 => ?_)
      · obtain rfl : i = cg_nL c := by omega
        refine ar_iload_n kd_F_totalPieces_29 rfl ?_
        refine ar_ireturn kd_F_totalPieces_30 rfl (Nat.le_of_ble_eq_true rfl) (Nat.le_of_ble_eq_true rfl) ?_
        first | exact ⟨rfl, rfl, rfl⟩ | exact ⟨by rw [e1], rfl, rfl⟩
      · refine ar_iload_n kd_F_totalPieces_15 rfl ?_
        refine ar_aload_n kd_F_totalPieces_16 rfl ?_
        refine ar_iload_n kd_F_totalPieces_17 rfl ?_
        refine az_callv (z := km_F_piecesOf) (As := [_]) (ci := 1) kd_F_totalPieces_18 kw_227 kw_228 rfl ks_F_piecesOf kz_F_piecesOf rfl rfl rfl rfl rfl (Nat.le_of_ble_eq_true rfl) (Nat.le_of_ble_eq_true rfl) rfl (sp_F_piecesOf (by omega) hK) ?_
        refine az_iadd kd_F_totalPieces_21 ?_
        refine ar_istore_n kd_F_totalPieces_22 (Nat.le_of_ble_eq_true rfl) rfl ?_
        dsimp only [List.set]
        refine az_iinc kd_F_totalPieces_23 rfl rfl ?_
        dsimp only [List.set]
        refine ar_goto (tg := 4) kd_F_totalPieces_26 (by decide) ?_
        exact ih (i + 1) (by omega) (by omega)
  refine ar_iconst kd_F_totalPieces_0 ?_
  refine ar_istore_n kd_F_totalPieces_1 (Nat.le_of_ble_eq_true rfl) rfl ?_
  dsimp only [List.set]
  refine ar_iconst kd_F_totalPieces_2 ?_
  refine ar_istore_n kd_F_totalPieces_3 (Nat.le_of_ble_eq_true rfl) rfl ?_
  dsimp only [List.set]
  exact loop (cg_nL c + 1) 0 (by omega) (by omega)
set_option maxHeartbeats 1000000 in
set_option maxRecDepth 20000 in
theorem sp_F_totalGifts {d : Nat} {x : am_C} {c : cS} {t : List am_C} {n : Nat} (hK : cK c) (hG : cG c) : am_W (d + 1) km_F_totalGifts 0 [some (.ref 5), none, none] [] (hC x c t) n 0 0 (am_eq (some (.int (iI (zs (fun l => zs (fun k => zb (0 < cg_gi c l k)) (cg_nT c)) (cg_nL c))))) (hC x c t) n) := by
  obtain ⟨hT, hL⟩ := hK.nn
  have loop : ∀ (f i : Nat), i ≤ cg_nL c → cg_nL c - i < f → am_W (d + 1) km_F_totalGifts 4 [some (.ref 5), some (.int (iI (zs (fun l => zs (fun k => zb (0 < cg_gi c l k)) (cg_nT c)) i))), some (.int (iI i))] [] (hC x c t) n 0 0 (am_eq (some (.int (iI (zs (fun l => zs (fun k => zb (0 < cg_gi c l k)) (cg_nT c)) (cg_nL c))))) (hC x c t) n) := by
    intro f
    induction f with
    | zero => intro i h1 h2; omega
    | succ f ih =>
      intro i h1 h2
      refine ar_iload_n kd_F_totalGifts_4 rfl ?_
      refine ar_aload_n kd_F_totalGifts_5 rfl ?_
      refine ar_get (ci := 1) (k := 1) kd_F_totalGifts_6 rfl kw_120 (by decide) rfl rfl ?_
      refine ar_get (ci := 2) (k := 0) kd_F_totalGifts_9 rfl kw_84 (by decide) rfl rfl ?_
      refine az_icmp_ge (tg := 29) kd_F_totalGifts_12 (by decide) (fun q1 => ?_) (fun q1 => ?_)
      · obtain rfl : i = cg_nL c := by omega
        refine ar_iload_n kd_F_totalGifts_29 rfl ?_
        refine ar_ireturn kd_F_totalGifts_30 rfl (Nat.le_of_ble_eq_true rfl) (Nat.le_of_ble_eq_true rfl) ?_
        first | exact ⟨rfl, rfl, rfl⟩ | exact ⟨by rw [e1], rfl, rfl⟩
      · refine ar_iload_n kd_F_totalGifts_15 rfl ?_
        refine ar_aload_n kd_F_totalGifts_16 rfl ?_
        refine ar_iload_n kd_F_totalGifts_17 rfl ?_
        refine az_callv (z := km_F_giftsOf) (As := [_]) (ci := 1) kd_F_totalGifts_18 kw_235 kw_237 rfl ks_F_giftsOf kz_F_giftsOf rfl rfl rfl rfl rfl (Nat.le_of_ble_eq_true rfl) (Nat.le_of_ble_eq_true rfl) rfl (sp_F_giftsOf (by omega) hK hG) ?_
        refine az_iadd kd_F_totalGifts_21 ?_
        refine ar_istore_n kd_F_totalGifts_22 (Nat.le_of_ble_eq_true rfl) rfl ?_
        dsimp only [List.set]
        refine az_iinc kd_F_totalGifts_23 rfl rfl ?_
        dsimp only [List.set]
        refine ar_goto (tg := 4) kd_F_totalGifts_26 (by decide) ?_
        exact ih (i + 1) (by omega) (by omega)
  refine ar_iconst kd_F_totalGifts_0 ?_
  refine ar_istore_n kd_F_totalGifts_1 (Nat.le_of_ble_eq_true rfl) rfl ?_
  dsimp only [List.set]
  refine ar_iconst kd_F_totalGifts_2 ?_
  refine ar_istore_n kd_F_totalGifts_3 (Nat.le_of_ble_eq_true rfl) rfl ?_
  dsimp only [List.set]
  exact loop (cg_nL c + 1) 0 (by omega) (by omega)
set_option maxHeartbeats 1000000 in
set_option maxRecDepth 20000 in
theorem sp_F_totalCost {d : Nat} {x : am_C} {c : cS} {t : List am_C} {n : Nat} (hK : cK c) (hG : cG c) : am_W (d + 2) km_F_totalCost 0 [some (.ref 5), none, none] [] (hC x c t) n 0 0 (am_eq (some (.int (iI (zs (fun l => 1000 * cg_lw c l + zs (ck_lcost c l) (cg_nT c)) (cg_nL c))))) (hC x c t) n) := by
  obtain ⟨hT, hL⟩ := hK.nn
  have loop : ∀ (f i : Nat), i ≤ cg_nL c → cg_nL c - i < f → am_W (d + 2) km_F_totalCost 4 [some (.ref 5), some (.int (iI (zs (fun l => 1000 * cg_lw c l + zs (ck_lcost c l) (cg_nT c)) i))), some (.int (iI i))] [] (hC x c t) n 0 0 (am_eq (some (.int (iI (zs (fun l => 1000 * cg_lw c l + zs (ck_lcost c l) (cg_nT c)) (cg_nL c))))) (hC x c t) n) := by
    intro f
    induction f with
    | zero => intro i h1 h2; omega
    | succ f ih =>
      intro i h1 h2
      refine ar_iload_n kd_F_totalCost_4 rfl ?_
      refine ar_aload_n kd_F_totalCost_5 rfl ?_
      refine ar_get (ci := 1) (k := 1) kd_F_totalCost_6 rfl kw_120 (by decide) rfl rfl ?_
      refine ar_get (ci := 2) (k := 0) kd_F_totalCost_9 rfl kw_84 (by decide) rfl rfl ?_
      refine az_icmp_ge (tg := 29) kd_F_totalCost_12 (by decide) (fun q1 => ?_) (fun q1 => ?_)
      · obtain rfl : i = cg_nL c := by omega
        refine ar_iload_n kd_F_totalCost_29 rfl ?_
        refine ar_ireturn kd_F_totalCost_30 rfl (Nat.le_of_ble_eq_true rfl) (Nat.le_of_ble_eq_true rfl) ?_
        first | exact ⟨rfl, rfl, rfl⟩ | exact ⟨by rw [e1], rfl, rfl⟩
      · refine ar_iload_n kd_F_totalCost_15 rfl ?_
        refine ar_aload_n kd_F_totalCost_16 rfl ?_
        refine ar_iload_n kd_F_totalCost_17 rfl ?_
        refine az_callv (z := km_F_lineCost) (As := [_]) (ci := 1) kd_F_totalCost_18 kw_243 kw_244 rfl ks_F_lineCost kz_F_lineCost rfl rfl rfl rfl rfl (Nat.le_of_ble_eq_true rfl) (Nat.le_of_ble_eq_true rfl) rfl (sp_F_lineCost (by omega) hK hG) ?_
        refine az_iadd kd_F_totalCost_21 ?_
        refine ar_istore_n kd_F_totalCost_22 (Nat.le_of_ble_eq_true rfl) rfl ?_
        dsimp only [List.set]
        refine az_iinc kd_F_totalCost_23 rfl rfl ?_
        dsimp only [List.set]
        refine ar_goto (tg := 4) kd_F_totalCost_26 (by decide) ?_
        exact ih (i + 1) (by omega) (by omega)
  refine ar_iconst kd_F_totalCost_0 ?_
  refine ar_istore_n kd_F_totalCost_1 (Nat.le_of_ble_eq_true rfl) rfl ?_
  dsimp only [List.set]
  refine ar_iconst kd_F_totalCost_2 ?_
  refine ar_istore_n kd_F_totalCost_3 (Nat.le_of_ble_eq_true rfl) rfl ?_
  dsimp only [List.set]
  exact loop (cg_nL c + 1) 0 (by omega) (by omega)
end
section
/-! the floor, on: minima, choices, gifts, letting go -/
/-- as Math.max and Math.min have it -/
def zx (a b : Int) : Int := if a < b then b else a
def zn (a b : Int) : Int := if b < a then b else a
theorem ii_max {a b : Int} (ha : -2147483648 ≤ a ∧ a < 2147483648) (hb : -2147483648 ≤ b ∧ b < 2147483648) : (if iI a < iI b then iI b else iI a) = iI (zx a b) := by
  unfold zx
  by_cases h : a < b
  · rw [if_pos h, if_pos ((ii_lt ha hb).mpr h)]
  · rw [if_neg h, if_neg (fun q => h ((ii_lt ha hb).mp q))]
theorem ii_min {a b : Int} (ha : -2147483648 ≤ a ∧ a < 2147483648) (hb : -2147483648 ≤ b ∧ b < 2147483648) : (if iI b < iI a then iI b else iI a) = iI (zn a b) := by
  unfold zn
  by_cases h : b < a
  · rw [if_pos h, if_pos ((ii_lt hb ha).mpr h)]
  · rw [if_neg h, if_neg (fun q => h ((ii_lt hb ha).mp q))]
def ck_mx (c : cS) (l : Nat) : Nat → Int
  | 0 => 0
  | k + 1 => zx (ck_mx c l k) (ck_pass c l k)
theorem ck_mx_rg (c : cS) (l : Nat) : ∀ k, 0 ≤ ck_mx c l k ∧ ck_mx c l k ≤ 4
  | 0 => by simp [ck_mx]
  | k + 1 => by
    have h1 := ck_mx_rg c l k
    have h2 := ck_pass_rg c l k
    simp only [ck_mx, zx]
    split <;> omega
def ck_fb (c : cS) (l : Nat) : Int := if ck_mx c l (cg_nT c) = 4 then 0 else ck_mx c l (cg_nT c) + 1
set_option maxHeartbeats 1000000 in
set_option maxRecDepth 20000 in
theorem sp_F_firstBar {d : Nat} {x : am_C} {c : cS} {t : List am_C} {n : Nat} {l : Nat} (hl : l < 6) (hK : cK c) (hG : cG c) : am_W (d + 2) km_F_firstBar 0 [some (.ref 5), some (.int (iI l)), none, none] [] (hC x c t) n 0 0 (am_eq (some (.int (iI (ck_fb c l)))) (hC x c t) n) := by
  obtain ⟨hT, hL⟩ := hK.nn
  have loop : ∀ (f i : Nat), i ≤ cg_nT c → cg_nT c - i < f → am_W (d + 2) km_F_firstBar 4 [some (.ref 5), some (.int (iI l)), some (.int (iI (ck_mx c l i))), some (.int (iI i))] [] (hC x c t) n 0 0 (am_eq (some (.int (iI (ck_fb c l)))) (hC x c t) n) := by
    intro f
    induction f with
    | zero => intro i h1 h2; omega
    | succ f ih =>
      intro i h1 h2
      refine ar_iload_n kd_F_firstBar_4 rfl ?_
      refine ar_aload_n kd_F_firstBar_5 rfl ?_
      refine ar_get (ci := 1) (k := 0) kd_F_firstBar_6 rfl kw_117 (by decide) rfl rfl ?_
      refine ar_get (ci := 3) (k := 0) kd_F_firstBar_9 rfl kw_40 (by decide) rfl rfl ?_
      refine az_icmp_ge (tg := 32) kd_F_firstBar_12 (by decide) (fun q1 => ?_) (fun q1 => ?_)
      · obtain rfl : i = cg_nT c := by omega
        refine ar_iload_n kd_F_firstBar_32 rfl ?_
        refine ar_iconst kd_F_firstBar_33 ?_
        have hm := ck_mx_rg c l (cg_nT c)
        refine az_icmp_ne (tg := 41) kd_F_firstBar_34 (by decide) (fun q2 => ?_) (fun q2 => ?_)
        · have e1 : ck_fb c l = ck_mx c l (cg_nT c) + 1 := if_neg q2
          refine ar_iload_n kd_F_firstBar_41 rfl ?_
          refine ar_iconst kd_F_firstBar_42 ?_
          refine az_iadd kd_F_firstBar_43 ?_
          refine ar_ireturn kd_F_firstBar_44 rfl (Nat.le_of_ble_eq_true rfl) (Nat.le_of_ble_eq_true rfl) ?_
          first | exact ⟨rfl, rfl, rfl⟩ | exact ⟨by rw [e1], rfl, rfl⟩
        · have e1 : ck_fb c l = 0 := if_pos q2
          refine ar_iconst kd_F_firstBar_37 ?_
          refine ar_goto (tg := 44) kd_F_firstBar_38 (by decide) ?_
          refine ar_ireturn kd_F_firstBar_44 rfl (Nat.le_of_ble_eq_true rfl) (Nat.le_of_ble_eq_true rfl) ?_
          first | exact ⟨rfl, rfl, rfl⟩ | exact ⟨by rw [e1], rfl, rfl⟩
      · refine ar_iload_n kd_F_firstBar_15 rfl ?_
        refine ar_aload_n kd_F_firstBar_16 rfl ?_
        refine ar_iload_n kd_F_firstBar_17 rfl ?_
        refine ar_iload_n kd_F_firstBar_18 rfl ?_
        refine az_callv (z := km_F_barsPassed) (As := [_, _]) (ci := 1) kd_F_firstBar_19 kw_195 kw_197 rfl ks_F_barsPassed kz_F_barsPassed rfl rfl rfl rfl rfl (Nat.le_of_ble_eq_true rfl) (Nat.le_of_ble_eq_true rfl) rfl (sp_F_barsPassed hl (by omega) hK hG) ?_
        refine ar_max kd_F_firstBar_22 kw_533 kw_534 kw_13 kw_535 rfl (Nat.le_of_ble_eq_true rfl) (Nat.zero_le _) (Nat.zero_le _) ?_
        rw [ii_max (by have := ck_mx_rg c l i; omega) (by have := ck_pass_rg c l i; omega)]
        refine ar_istore_n kd_F_firstBar_25 (Nat.le_of_ble_eq_true rfl) rfl ?_
        dsimp only [List.set]
        refine az_iinc kd_F_firstBar_26 rfl rfl ?_
        dsimp only [List.set]
        refine ar_goto (tg := 4) kd_F_firstBar_29 (by decide) ?_
        exact ih (i + 1) (by omega) (by omega)
  refine ar_iconst kd_F_firstBar_0 ?_
  refine ar_istore_n kd_F_firstBar_1 (Nat.le_of_ble_eq_true rfl) rfl ?_
  dsimp only [List.set]
  refine ar_iconst kd_F_firstBar_2 ?_
  refine ar_istore_n kd_F_firstBar_3 (Nat.le_of_ble_eq_true rfl) rfl ?_
  dsimp only [List.set]
  exact loop (cg_nT c + 1) 0 (by omega) (by omega)
/-- allowed lots of a line among the first j; of all lines before i -/
def ck_ln (c : cS) (l : Nat) : Nat → Nat
  | 0 => 0
  | j + 1 => ck_ln c l j + (if ck_all c l j then 1 else 0)
def ck_na (c : cS) : Nat → Nat
  | 0 => 0
  | i + 1 => ck_na c i + ck_ln c i (cg_nT c)
theorem ck_ln_mono (c : cS) (l : Nat) {a b : Nat} (h : a ≤ b) : ck_ln c l a ≤ ck_ln c l b := by
  induction b with
  | zero => have : a = 0 := by omega
            subst this; exact Nat.le_refl _
  | succ b ih =>
    rcases Nat.lt_or_ge a (b + 1) with q | q
    · have := ih (by omega)
      simp only [ck_ln]
      omega
    · have : a = b + 1 := by omega
      subst this; exact Nat.le_refl _
theorem ck_na_mono (c : cS) {a b : Nat} (h : a ≤ b) : ck_na c a ≤ ck_na c b := by
  induction b with
  | zero => have : a = 0 := by omega
            subst this; exact Nat.le_refl _
  | succ b ih =>
    rcases Nat.lt_or_ge a (b + 1) with q | q
    · have := ih (by omega)
      simp only [ck_na]
      omega
    · have : a = b + 1 := by omega
      subst this; exact Nat.le_refl _
def ck_ch (c : cS) : Int := if (1000000 : Int) < ((2 ^ ck_na c (cg_nL c) : Nat) : Int) then -1 else ((2 ^ ck_na c (cg_nL c) : Nat) : Int)
theorem ck_ch_out (c : cS) {i j : Nat} (hi : i < cg_nL c) (hj : j ≤ cg_nT c) (h : (1000000 : Int) < ((2 ^ (ck_na c i + ck_ln c i j) : Nat) : Int)) : ck_ch c = -1 := by
  have h1 : ck_na c i + ck_ln c i j ≤ ck_na c (cg_nL c) := by
    have e1 := ck_ln_mono c i hj
    have e2 := ck_na_mono c (a := i + 1) (b := cg_nL c) (by omega)
    simp only [ck_na] at e2
    omega
  have h2 := Nat.pow_le_pow_right (n := 2) (by decide) h1
  unfold ck_ch
  rw [if_pos (by omega)]
theorem ck_pow2 (a : Nat) : ((2 ^ a : Nat) : Int) * 2 = ((2 ^ (a + 1) : Nat) : Int) := by
  rw [Nat.pow_succ, Int.natCast_mul]
  rfl
set_option maxHeartbeats 1000000 in
set_option maxRecDepth 20000 in
theorem sp_F_countChoices {d : Nat} {x : am_C} {c : cS} {t : List am_C} {n : Nat} (hK : cK c) (hG : cG c) : am_W (d + 3) km_F_countChoices 0 [some (.ref 5), none, none, none] [] (hC x c t) n 0 0 (am_eq (some (.int (iI (ck_ch c)))) (hC x c t) n) := by
  obtain ⟨hT, hL⟩ := hK.nn
  have loop : ∀ (f i : Nat), i ≤ cg_nL c → cg_nL c - i < f → ((2 ^ ck_na c i : Nat) : Int) ≤ 1000000 → ∀ w : Option Value, am_W (d + 3) km_F_countChoices 4 [some (.ref 5), some (.int (iI ((2 ^ ck_na c i : Nat) : Int))), some (.int (iI i)), w] [] (hC x c t) n 0 0 (am_eq (some (.int (iI (ck_ch c)))) (hC x c t) n) := by
    intro f
    induction f with
    | zero => intro i h1 h2; omega
    | succ f ih =>
      intro i h1 h2 hp w
      have loopj : ∀ (g j : Nat), j ≤ cg_nT c → cg_nT c - j < g → ((2 ^ (ck_na c i + ck_ln c i j) : Nat) : Int) ≤ 1000000 → i < cg_nL c → am_W (d + 3) km_F_countChoices 17 [some (.ref 5), some (.int (iI ((2 ^ (ck_na c i + ck_ln c i j) : Nat) : Int))), some (.int (iI i)), some (.int (iI j))] [] (hC x c t) n 0 0 (am_eq (some (.int (iI (ck_ch c)))) (hC x c t) n) := by
        intro g
        induction g with
        | zero => intro j h3 h4; omega
        | succ g ihj =>
          intro j h3 h4 hp hi
          refine ar_iload_n kd_F_countChoices_17 rfl ?_
          refine ar_aload_n kd_F_countChoices_18 rfl ?_
          refine ar_get (ci := 1) (k := 0) kd_F_countChoices_19 rfl kw_117 (by decide) rfl rfl ?_
          refine ar_get (ci := 3) (k := 0) kd_F_countChoices_22 rfl kw_40 (by decide) rfl rfl ?_
          refine az_icmp_ge (tg := 55) kd_F_countChoices_25 (by decide) (fun qb => ?_) (fun qb => ?_)
          · obtain rfl : j = cg_nT c := by omega
            have e9 : ck_na c i + ck_ln c i (cg_nT c) = ck_na c (i + 1) := rfl
            refine az_iinc kd_F_countChoices_55 rfl rfl ?_
            dsimp only [List.set]
            refine ar_goto (tg := 4) kd_F_countChoices_58 (by decide) ?_
            exact ih (i + 1) (by omega) (by omega) (by simpa [ck_na] using hp) _
          · refine ar_aload_n kd_F_countChoices_28 rfl ?_
            refine ar_iload_n kd_F_countChoices_29 rfl ?_
            refine ar_iload_n kd_F_countChoices_30 rfl ?_
            refine az_callv (z := km_F_allows) (As := [_, _]) (ci := 1) kd_F_countChoices_31 kw_191 kw_192 rfl ks_F_allows kz_F_allows rfl rfl rfl rfl rfl (Nat.le_of_ble_eq_true rfl) (Nat.le_of_ble_eq_true rfl) rfl (sp_F_allows (by omega) (by omega) hK hG) ?_
            refine az_if_eq (tg := 41) kd_F_countChoices_34 (by decide) (fun qc => ?_) (fun qc => ?_) (by unfold zb; split <;> omega)
            · have hb : ¬ ck_all c i j := fun q => by simp [zb, q] at qc
              have e1 : ck_ln c i (j + 1) = ck_ln c i j := by simp [ck_ln, hb]
              rw [← e1]
              refine ar_iload_n kd_F_countChoices_41 rfl ?_
              refine az_ldc (u := 1000000) kd_F_countChoices_42 kw_203 (by decide) ?_
              have hp2 : 0 ≤ ((2 ^ (ck_na c i + ck_ln c i (j + 1)) : Nat) : Int) ∧ ((2 ^ (ck_na c i + ck_ln c i (j + 1)) : Nat) : Int) ≤ 2000000 := by
                rw [e1]
                refine ⟨Int.natCast_nonneg _, ?_⟩
                first | exact Int.le_trans hp (by omega) | (rw [← Nat.add_assoc, ← ck_pow2]; omega)
              refine az_icmp_le (tg := 49) kd_F_countChoices_44 (by decide) (fun qd => ?_) (fun qd => ?_)
              · refine az_iinc kd_F_countChoices_49 rfl rfl ?_
                dsimp only [List.set]
                refine ar_goto (tg := 17) kd_F_countChoices_52 (by decide) ?_
                exact ihj (j + 1) (by omega) (by omega) (by omega) hi
              · have e2 : ck_ch c = -1 := ck_ch_out c (i := i) (j := j + 1) (by omega) (by omega) (by omega)
                refine ar_iconst kd_F_countChoices_47 ?_
                refine ar_ireturn kd_F_countChoices_48 rfl (Nat.le_of_ble_eq_true rfl) (Nat.le_of_ble_eq_true rfl) ?_
                exact ⟨by rw [e2], rfl, rfl⟩
            · have hb : ck_all c i j := Decidable.byContradiction fun q => qc (if_neg q)
              have e1 : ck_ln c i (j + 1) = ck_ln c i j + 1 := by simp [ck_ln, hb]
              refine ar_iload_n kd_F_countChoices_37 rfl ?_
              refine ar_iconst kd_F_countChoices_38 ?_
              refine az_imul kd_F_countChoices_39 ?_
              rw [ck_pow2, Nat.add_assoc (ck_na c i), ← e1]
              refine ar_istore_n kd_F_countChoices_40 (Nat.le_of_ble_eq_true rfl) rfl ?_
              dsimp only [List.set]
              refine ar_iload_n kd_F_countChoices_41 rfl ?_
              refine az_ldc (u := 1000000) kd_F_countChoices_42 kw_203 (by decide) ?_
              have hp2 : 0 ≤ ((2 ^ (ck_na c i + ck_ln c i (j + 1)) : Nat) : Int) ∧ ((2 ^ (ck_na c i + ck_ln c i (j + 1)) : Nat) : Int) ≤ 2000000 := by
                rw [e1]
                refine ⟨Int.natCast_nonneg _, ?_⟩
                first | exact Int.le_trans hp (by omega) | (rw [← Nat.add_assoc, ← ck_pow2]; omega)
              refine az_icmp_le (tg := 49) kd_F_countChoices_44 (by decide) (fun qd => ?_) (fun qd => ?_)
              · refine az_iinc kd_F_countChoices_49 rfl rfl ?_
                dsimp only [List.set]
                refine ar_goto (tg := 17) kd_F_countChoices_52 (by decide) ?_
                exact ihj (j + 1) (by omega) (by omega) (by omega) hi
              · have e2 : ck_ch c = -1 := ck_ch_out c (i := i) (j := j + 1) (by omega) (by omega) (by omega)
                refine ar_iconst kd_F_countChoices_47 ?_
                refine ar_ireturn kd_F_countChoices_48 rfl (Nat.le_of_ble_eq_true rfl) (Nat.le_of_ble_eq_true rfl) ?_
                exact ⟨by rw [e2], rfl, rfl⟩
      refine ar_iload_n kd_F_countChoices_4 rfl ?_
      refine ar_aload_n kd_F_countChoices_5 rfl ?_
      refine ar_get (ci := 1) (k := 1) kd_F_countChoices_6 rfl kw_120 (by decide) rfl rfl ?_
      refine ar_get (ci := 2) (k := 0) kd_F_countChoices_9 rfl kw_84 (by decide) rfl rfl ?_
      refine az_icmp_ge (tg := 61) kd_F_countChoices_12 (by decide) (fun qa => ?_) (fun qa => ?_)
      · obtain rfl : i = cg_nL c := by omega
        refine ar_iload_n kd_F_countChoices_61 rfl ?_
        have e3 : ck_ch c = ((2 ^ ck_na c (cg_nL c) : Nat) : Int) := if_neg (by omega)
        refine ar_ireturn kd_F_countChoices_62 rfl (Nat.le_of_ble_eq_true rfl) (Nat.le_of_ble_eq_true rfl) ?_
        exact ⟨by rw [e3], rfl, rfl⟩
      · refine ar_iconst kd_F_countChoices_15 ?_
        refine ar_istore_n kd_F_countChoices_16 (Nat.le_of_ble_eq_true rfl) rfl ?_
        dsimp only [List.set]
        exact loopj (cg_nT c + 1) 0 (by omega) (by omega) (by simpa [ck_ln] using hp) (by omega)
  refine ar_iconst kd_F_countChoices_0 ?_
  refine ar_istore_n kd_F_countChoices_1 (Nat.le_of_ble_eq_true rfl) rfl ?_
  dsimp only [List.set]
  refine ar_iconst kd_F_countChoices_2 ?_
  refine ar_istore_n kd_F_countChoices_3 (Nat.le_of_ble_eq_true rfl) rfl ?_
  dsimp only [List.set]
  exact loop (cg_nL c + 1) 0 (by omega) (by omega) (by simp [ck_na]) _
/-- the least that a line can cost, over the first k lots -/
def ck_lb (c : cS) (l : Nat) : Nat → Int
  | 0 => 1000 * cg_lw c l
  | k + 1 => if ck_all c l k then zn (ck_lb c l k) (ck_cost c l k * cg_lw c l + 20) else ck_lb c l k
theorem ck_cost_rg {c : cS} (hK : cK c) {l k : Nat} (hl : l < 6) (hk : k < 8) : 0 ≤ ck_cost c l k ∧ ck_cost c l k ≤ 1000 := by
  have h1 := hK.told hl hk
  have h2 := hK.lot hk
  unfold ck_cost
  split <;> omega
theorem ck_cw_rg {c : cS} (hK : cK c) {l k : Nat} (hl : l < 6) (hk : k < 8) : 0 ≤ ck_cost c l k * cg_lw c l ∧ ck_cost c l k * cg_lw c l ≤ 200000 := by
  have h1 := ck_cost_rg hK hl hk
  have h2 := hK.line hl
  have h3 : 0 ≤ cg_lw c l ∧ cg_lw c l ≤ 200 := h2.2.1
  refine ⟨Int.mul_nonneg h1.1 h3.1, ?_⟩
  have := Int.mul_le_mul h1.2 h3.2 h3.1 (by omega)
  omega
theorem ck_lb_rg {c : cS} (hK : cK c) {l : Nat} (hl : l < 6) : ∀ k, k ≤ 8 → 0 ≤ ck_lb c l k ∧ ck_lb c l k ≤ 200000
  | 0, _ => by
    have h2 := hK.line hl
    simp only [ck_lb]
    omega
  | k + 1, hk => by
    have h1 := ck_lb_rg hK hl k (by omega)
    have h2 := ck_cw_rg hK hl (k := k) (by omega)
    simp only [ck_lb, zn]
    split
    · split <;> omega
    · omega
set_option maxHeartbeats 1000000 in
set_option maxRecDepth 20000 in
theorem sp_F_lineBound {d : Nat} {x : am_C} {c : cS} {t : List am_C} {n : Nat} {l : Nat} (hl : l < 6) (hK : cK c) (hG : cG c) : am_W (d + 3) km_F_lineBound 0 [some (.ref 5), some (.int (iI l)), none, none, none] [] (hC x c t) n 0 0 (am_eq (some (.int (iI (ck_lb c l (cg_nT c))))) (hC x c t) n) := by
  obtain ⟨hT, hL⟩ := hK.nn
  have loop : ∀ (f i : Nat), i ≤ cg_nT c → cg_nT c - i < f → am_W (d + 3) km_F_lineBound 19 [some (.ref 5), some (.int (iI l)), some (.int (iI (cg_lw c l))), some (.int (iI (ck_lb c l i))), some (.int (iI i))] [] (hC x c t) n 0 0 (am_eq (some (.int (iI (ck_lb c l (cg_nT c))))) (hC x c t) n) := by
    intro f
    induction f with
    | zero => intro i h1 h2; omega
    | succ f ih =>
      intro i h1 h2
      refine ar_iload kd_F_lineBound_19 rfl ?_
      refine ar_aload_n kd_F_lineBound_21 rfl ?_
      refine ar_get (ci := 1) (k := 0) kd_F_lineBound_22 rfl kw_117 (by decide) rfl rfl ?_
      refine ar_get (ci := 3) (k := 0) kd_F_lineBound_25 rfl kw_40 (by decide) rfl rfl ?_
      refine az_icmp_ge (tg := 64) kd_F_lineBound_28 (by decide) (fun q1 => ?_) (fun q1 => ?_)
      · obtain rfl : i = cg_nT c := by omega
        refine ar_iload_n kd_F_lineBound_64 rfl ?_
        refine ar_ireturn kd_F_lineBound_65 rfl (Nat.le_of_ble_eq_true rfl) (Nat.le_of_ble_eq_true rfl) ?_
        first | exact ⟨rfl, rfl, rfl⟩ | exact ⟨by rw [e1], rfl, rfl⟩
      · refine ar_aload_n kd_F_lineBound_31 rfl ?_
        refine ar_iload_n kd_F_lineBound_32 rfl ?_
        refine ar_iload kd_F_lineBound_33 rfl ?_
        refine az_callv (z := km_F_allows) (As := [_, _]) (ci := 1) kd_F_lineBound_35 kw_191 kw_192 rfl ks_F_allows kz_F_allows rfl rfl rfl rfl rfl (Nat.le_of_ble_eq_true rfl) (Nat.le_of_ble_eq_true rfl) rfl (sp_F_allows hl (by omega) hK hG) ?_
        refine az_if_eq (tg := 58) kd_F_lineBound_38 (by decide) (fun qc => ?_) (fun qc => ?_) (by unfold zb; split <;> omega)
        · have hb : ¬ ck_all c l i := fun q => by simp [zb, q] at qc
          have e1 : ck_lb c l i = ck_lb c l (i + 1) := by simp [ck_lb, hb]
          refine az_iinc kd_F_lineBound_58 rfl rfl ?_
          dsimp only [List.set]
          refine ar_goto (tg := 19) kd_F_lineBound_61 (by decide) ?_
          first | exact ih (i + 1) (by omega) (by omega) | (rw [e1]; exact ih (i + 1) (by omega) (by omega))
        · have hb : ck_all c l i := Decidable.byContradiction fun q => qc (if_neg q)
          have e1 : zn (ck_lb c l i) (ck_cost c l i * cg_lw c l + 20) = ck_lb c l (i + 1) := by simp [ck_lb, hb]
          refine ar_iload_n kd_F_lineBound_41 rfl ?_
          refine ar_aload_n kd_F_lineBound_42 rfl ?_
          refine ar_iload_n kd_F_lineBound_43 rfl ?_
          refine ar_iload kd_F_lineBound_44 rfl ?_
          refine az_callv (z := km_F_pieceCost) (As := [_, _]) (ci := 1) kd_F_lineBound_46 kw_212 kw_213 rfl ks_F_pieceCost kz_F_pieceCost rfl rfl rfl rfl rfl (Nat.le_of_ble_eq_true rfl) (Nat.le_of_ble_eq_true rfl) rfl (sp_F_pieceCost (d := d + 2) hl (by omega) hK) ?_
          refine ar_iload_n kd_F_lineBound_49 rfl ?_
          refine az_imul kd_F_lineBound_50 ?_
          refine az_bipush kd_F_lineBound_51 (by decide) ?_
          refine az_iadd kd_F_lineBound_53 ?_
          refine ar_min kd_F_lineBound_54 kw_216 kw_217 kw_13 kw_218 rfl (Nat.le_of_ble_eq_true rfl) (Nat.zero_le _) (Nat.zero_le _) ?_
          rw [ii_min (by have := ck_lb_rg hK hl i (by omega); omega) (by have := ck_cw_rg hK hl (k := i) (by omega); omega)]
          refine ar_istore_n kd_F_lineBound_57 (Nat.le_of_ble_eq_true rfl) rfl ?_
          dsimp only [List.set]
          refine az_iinc kd_F_lineBound_58 rfl rfl ?_
          dsimp only [List.set]
          refine ar_goto (tg := 19) kd_F_lineBound_61 (by decide) ?_
          first | exact ih (i + 1) (by omega) (by omega) | (rw [e1]; exact ih (i + 1) (by omega) (by omega))
  refine ar_aload_n kd_F_lineBound_0 rfl ?_
  refine ar_get (ci := 1) (k := 1) kd_F_lineBound_1 rfl kw_120 (by decide) rfl rfl ?_
  refine ar_get (ci := 2) (k := 2) kd_F_lineBound_4 rfl kw_88 (by decide) rfl rfl ?_
  refine ar_iload_n kd_F_lineBound_7 rfl ?_
  refine az_iald kd_F_lineBound_8 rfl rfl (by omega) ?_
  refine ar_istore_n kd_F_lineBound_9 (Nat.le_of_ble_eq_true rfl) rfl ?_
  dsimp only [List.set]
  refine az_sipush kd_F_lineBound_10 (by decide) ?_
  refine ar_iload_n kd_F_lineBound_13 rfl ?_
  refine az_imul kd_F_lineBound_14 ?_
  refine ar_istore_n kd_F_lineBound_15 (Nat.le_of_ble_eq_true rfl) rfl ?_
  dsimp only [List.set]
  refine ar_iconst kd_F_lineBound_16 ?_
  refine ar_istore kd_F_lineBound_17 (Nat.le_of_ble_eq_true rfl) rfl ?_
  dsimp only [List.set]
  exact loop (cg_nT c + 1) 0 (by omega) (by omega)
/-- the lot of the gift with number z, from place k of the order on, m places to go, b gifts before; or -1 -/
def ck_gf (c : cS) (l : Nat) (z : Int) : Nat → Nat → Int → Int
  | 0, _, _ => -1
  | m + 1, k, b => if 0 < cg_gi c l (cg_od c k).toNat then (if b = z then cg_od c k else ck_gf c l z m (k + 1) (b + 1)) else ck_gf c l z m (k + 1) b
set_option maxHeartbeats 1000000 in
set_option maxRecDepth 20000 in
theorem sp_F_lotOfGift {d : Nat} {x : am_C} {c : cS} {t : List am_C} {n : Nat} {l : Nat} {z : Int} (hl : l < 6) (hz : -2147483648 ≤ z ∧ z < 2147483648) (hK : cK c) (hG : cG c) : am_W d km_F_lotOfGift 0 [some (.ref 5), some (.int (iI l)), some (.int (iI z)), none, none, none] [] (hC x c t) n 0 0 (am_eq (some (.int (iI (ck_gf c l z (cg_nT c) 0 0)))) (hC x c t) n) := by
  obtain ⟨hT, hL⟩ := hK.nn
  have loop : ∀ (f i : Nat), i ≤ cg_nT c → cg_nT c - i < f → ∀ (b : Int) (w : Option Value), 0 ≤ b → b ≤ i → ck_gf c l z (cg_nT c) 0 0 = ck_gf c l z (cg_nT c - i) i b → am_W d km_F_lotOfGift 5 [some (.ref 5), some (.int (iI l)), some (.int (iI z)), some (.int (iI b)), some (.int (iI i)), w] [] (hC x c t) n 0 0 (am_eq (some (.int (iI (ck_gf c l z (cg_nT c) 0 0)))) (hC x c t) n) := by
    intro f
    induction f with
    | zero => intro i h1 h2; omega
    | succ f ih =>
      intro i h1 h2 b w hb1 hb2 hb3
      refine ar_iload kd_F_lotOfGift_5 rfl ?_
      refine ar_aload_n kd_F_lotOfGift_7 rfl ?_
      refine ar_get (ci := 1) (k := 0) kd_F_lotOfGift_8 rfl kw_117 (by decide) rfl rfl ?_
      refine ar_get (ci := 3) (k := 0) kd_F_lotOfGift_11 rfl kw_40 (by decide) rfl rfl ?_
      refine az_icmp_ge (tg := 61) kd_F_lotOfGift_14 (by decide) (fun q1 => ?_) (fun q1 => ?_)
      · have e1 : ck_gf c l z (cg_nT c) 0 0 = -1 := by
          rw [hb3, show cg_nT c - i = 0 by omega]
          rfl
        refine ar_iconst kd_F_lotOfGift_61 ?_
        refine ar_ireturn kd_F_lotOfGift_62 rfl (Nat.le_of_ble_eq_true rfl) (Nat.le_of_ble_eq_true rfl) ?_
        first | exact ⟨rfl, rfl, rfl⟩ | exact ⟨by rw [e1], rfl, rfl⟩
      · have hs : cg_nT c - i = (cg_nT c - (i + 1)) + 1 := by omega
        have hot := hK.lot (k := i) (by omega)
        have hgi := hG.gi (l := l) (k := (cg_od c i).toNat) hl (by omega)
        refine ar_aload_n kd_F_lotOfGift_17 rfl ?_
        refine ar_get (ci := 1) (k := 0) kd_F_lotOfGift_18 rfl kw_117 (by decide) rfl rfl ?_
        refine ar_get (ci := 3) (k := 6) kd_F_lotOfGift_21 rfl kw_56 (by decide) rfl rfl ?_
        refine ar_iload kd_F_lotOfGift_24 rfl ?_
        refine az_iald kd_F_lotOfGift_26 rfl rfl (by omega) ?_
        refine ar_istore kd_F_lotOfGift_27 (Nat.le_of_ble_eq_true rfl) rfl ?_
        dsimp only [List.set]
        refine ar_aload_n kd_F_lotOfGift_29 rfl ?_
        refine ar_get (ci := 1) (k := 1) kd_F_lotOfGift_30 rfl kw_120 (by decide) rfl rfl ?_
        refine ar_get (ci := 2) (k := 6) kd_F_lotOfGift_33 rfl kw_100 (by decide) rfl rfl ?_
        refine ar_iload_n kd_F_lotOfGift_36 rfl ?_
        refine az_aald kd_F_lotOfGift_37 rfl rfl (by omega) (if_pos (by omega)) ?_
        refine ar_iload kd_F_lotOfGift_38 rfl ?_
        refine az_iald kd_F_lotOfGift_40 (hr_gi (by omega)) (k := (cg_od c i).toNat) (Int.toNat_of_nonneg hot.2.2.2.1).symm (by omega) ?_
        refine az_if_le (tg := 55) kd_F_lotOfGift_41 (by decide) (fun q2 => ?_) (fun q2 => ?_)
        · have e2 : ck_gf c l z (cg_nT c) 0 0 = ck_gf c l z (cg_nT c - (i + 1)) (i + 1) b := by
            rw [hb3, hs]
            simp only [ck_gf]
            rw [if_neg (by omega)]
          refine az_iinc kd_F_lotOfGift_55 rfl rfl ?_
          dsimp only [List.set]
          refine ar_goto (tg := 5) kd_F_lotOfGift_58 (by decide) ?_
          exact ih (i + 1) (by omega) (by omega) _ _ (by omega) (by omega) e2
        · 
          refine ar_iload_n kd_F_lotOfGift_44 rfl ?_
          refine ar_iload_n kd_F_lotOfGift_45 rfl ?_
          refine az_icmp_ne (tg := 52) kd_F_lotOfGift_46 (by decide) (fun q3 => ?_) (fun q3 => ?_)
          · have e2 : ck_gf c l z (cg_nT c) 0 0 = ck_gf c l z (cg_nT c - (i + 1)) (i + 1) (b + 1) := by
              rw [hb3, hs]
              simp only [ck_gf]
              rw [if_pos (by omega), if_neg q3]
            refine az_iinc kd_F_lotOfGift_52 rfl rfl ?_
            dsimp only [List.set]
            refine az_iinc kd_F_lotOfGift_55 rfl rfl ?_
            dsimp only [List.set]
            refine ar_goto (tg := 5) kd_F_lotOfGift_58 (by decide) ?_
            exact ih (i + 1) (by omega) (by omega) _ _ (by omega) (by omega) e2
          · have e1 : ck_gf c l z (cg_nT c) 0 0 = cg_od c i := by
              rw [hb3, hs]
              simp only [ck_gf]
              rw [if_pos (by omega), if_pos q3]
            refine ar_iload kd_F_lotOfGift_49 rfl ?_
            refine ar_ireturn kd_F_lotOfGift_51 rfl (Nat.le_of_ble_eq_true rfl) (Nat.le_of_ble_eq_true rfl) ?_
            first | exact ⟨rfl, rfl, rfl⟩ | exact ⟨by rw [e1], rfl, rfl⟩
  refine ar_iconst kd_F_lotOfGift_0 ?_
  refine ar_istore_n kd_F_lotOfGift_1 (Nat.le_of_ble_eq_true rfl) rfl ?_
  dsimp only [List.set]
  refine ar_iconst kd_F_lotOfGift_2 ?_
  refine ar_istore kd_F_lotOfGift_3 (Nat.le_of_ble_eq_true rfl) rfl ?_
  dsimp only [List.set]
  exact loop (cg_nT c + 1) 0 (by omega) (by omega) 0 _ (by omega) (by omega) rfl
theorem zf_keep {α β : Type} {g : α → Nat → α} {P : α → β} (h : ∀ a k, P (g a k) = P a) (a : α) : ∀ n, P (zf g a n) = P a
  | 0 => rfl
  | n + 1 => (h _ _).trans (zf_keep h a n)
theorem zf_inv {α : Type} {g : α → Nat → α} {P : α → Prop} (h : ∀ a k, P a → P (g a k)) {a : α} (ha : P a) : ∀ n, P (zf g a n)
  | 0 => ha
  | n + 1 => h _ _ (zf_inv h ha n)
theorem ck_move_K {c : cS} (l k : Nat) (z : Int) (h : cK c) : cK (ck_move c l k z) := h
theorem ck_letGo_K {c : cS} (l : Nat) (h : cK c) : cK (ck_letGo c l) := zf_inv (fun a k ha => ck_move_K l k _ ha) h _
theorem ck_clear_K {c : cS} (h : cK c) : cK (ck_clear c) := zf_inv (fun a k ha => ck_letGo_K k ha) h _
theorem ck_letGo_nT (c : cS) (l : Nat) : cg_nT (ck_letGo c l) = cg_nT c := zf_keep (g := fun c k => ck_move c l k (-cg_gi c l k)) (P := fun c : cS => cg_nT c) (fun a k => rfl) c _
theorem ck_letGo_nL (c : cS) (l : Nat) : cg_nL (ck_letGo c l) = cg_nL c := zf_keep (g := fun c k => ck_move c l k (-cg_gi c l k)) (P := fun c : cS => cg_nL c) (fun a k => rfl) c _
set_option maxHeartbeats 1000000 in
set_option maxRecDepth 20000 in
theorem sp_F_letGo {d : Nat} {x : am_C} {c : cS} {t : List am_C} {n : Nat} {l : Nat} (hl : l < 6) (hK : cK c) : am_W (d + 1) km_F_letGo 0 [some (.ref 5), some (.int (iI l)), none] [] (hC x c t) n 0 0 (am_eq none (hC x (ck_letGo c l) t) n) := by
  obtain ⟨hT, hL⟩ := hK.nn
  have loop : ∀ (f i : Nat), i ≤ cg_nT c → cg_nT c - i < f → am_W (d + 1) km_F_letGo 2 [some (.ref 5), some (.int (iI l)), some (.int (iI i))] [] (hC x (zf (fun c k => ck_move c l k (-cg_gi c l k)) c i) t) n 0 0 (am_eq none (hC x (ck_letGo c l) t) n) := by
    intro f
    induction f with
    | zero => intro i h1 h2; omega
    | succ f ih =>
      intro i h1 h2
      refine ar_iload_n kd_F_letGo_2 rfl ?_
      refine ar_aload_n kd_F_letGo_3 rfl ?_
      refine ar_get (ci := 1) (k := 0) kd_F_letGo_4 rfl kw_117 (by decide) rfl rfl ?_
      refine ar_get (ci := 3) (k := 0) kd_F_letGo_7 rfl kw_40 (by decide) rfl rfl ?_
      have hn : cg_nT (zf (fun c k => ck_move c l k (-cg_gi c l k)) c i) = cg_nT c := zf_keep (g := fun c k => ck_move c l k (-cg_gi c l k)) (P := fun c : cS => cg_nT c) (fun a k => rfl) c i
      refine az_icmp_ge (tg := 37) kd_F_letGo_10 (by decide) (fun q1 => ?_) (fun q1 => ?_)
      · obtain rfl : i = cg_nT c := by omega
        refine ar_return kd_F_letGo_37 rfl (Nat.le_of_ble_eq_true rfl) (Nat.le_of_ble_eq_true rfl) ?_
        first | exact ⟨rfl, rfl, rfl⟩ | exact ⟨by rw [e1], rfl, rfl⟩
      · refine ar_aload_n kd_F_letGo_13 rfl ?_
        refine ar_iload_n kd_F_letGo_14 rfl ?_
        refine ar_iload_n kd_F_letGo_15 rfl ?_
        refine ar_aload_n kd_F_letGo_16 rfl ?_
        refine ar_get (ci := 1) (k := 1) kd_F_letGo_17 rfl kw_120 (by decide) rfl rfl ?_
        refine ar_get (ci := 2) (k := 6) kd_F_letGo_20 rfl kw_100 (by decide) rfl rfl ?_
        refine ar_iload_n kd_F_letGo_23 rfl ?_
        refine az_aald kd_F_letGo_24 rfl rfl (by omega) (if_pos (by omega)) ?_
        refine ar_iload_n kd_F_letGo_25 rfl ?_
        refine az_iald kd_F_letGo_26 (hr_gi (by omega)) rfl (by omega) ?_
        refine az_ineg kd_F_letGo_27 ?_
        refine az_callv (z := km_F_move) (As := [_, _, _]) (ci := 1) kd_F_letGo_28 kw_443 kw_444 rfl ks_F_move kz_F_move rfl rfl rfl rfl rfl (Nat.le_of_ble_eq_true rfl) (Nat.le_of_ble_eq_true rfl) rfl (sp_F_move hl (by omega)) ?_
        refine az_iinc kd_F_letGo_31 rfl rfl ?_
        dsimp only [List.set]
        refine ar_goto (tg := 2) kd_F_letGo_34 (by decide) ?_
        exact ih (i + 1) (by omega) (by omega)
  refine ar_iconst kd_F_letGo_0 ?_
  refine ar_istore_n kd_F_letGo_1 (Nat.le_of_ble_eq_true rfl) rfl ?_
  dsimp only [List.set]
  exact loop (cg_nT c + 1) 0 (by omega) (by omega)
set_option maxHeartbeats 1000000 in
set_option maxRecDepth 20000 in
theorem sp_F_clear {d : Nat} {x : am_C} {c : cS} {t : List am_C} {n : Nat} (hK : cK c) : am_W (d + 2) km_F_clear 0 [some (.ref 5), none] [] (hC x c t) n 0 0 (am_eq none (hC x (ck_clear c) t) n) := by
  obtain ⟨hT, hL⟩ := hK.nn
  have loop : ∀ (f i : Nat), i ≤ cg_nL c → cg_nL c - i < f → am_W (d + 2) km_F_clear 2 [some (.ref 5), some (.int (iI i))] [] (hC x (zf (fun c l => ck_letGo c l) c i) t) n 0 0 (am_eq none (hC x (ck_clear c) t) n) := by
    intro f
    induction f with
    | zero => intro i h1 h2; omega
    | succ f ih =>
      intro i h1 h2
      refine ar_iload_n kd_F_clear_2 rfl ?_
      refine ar_aload_n kd_F_clear_3 rfl ?_
      refine ar_get (ci := 1) (k := 1) kd_F_clear_4 rfl kw_120 (by decide) rfl rfl ?_
      refine ar_get (ci := 2) (k := 0) kd_F_clear_7 rfl kw_84 (by decide) rfl rfl ?_
      have hn : cg_nL (zf (fun c l => ck_letGo c l) c i) = cg_nL c := zf_keep (g := fun c l => ck_letGo c l) (P := fun c : cS => cg_nL c) (fun a k => ck_letGo_nL a k) c i
      refine az_icmp_ge (tg := 24) kd_F_clear_10 (by decide) (fun q1 => ?_) (fun q1 => ?_)
      · obtain rfl : i = cg_nL c := by omega
        refine ar_return kd_F_clear_24 rfl (Nat.le_of_ble_eq_true rfl) (Nat.le_of_ble_eq_true rfl) ?_
        first | exact ⟨rfl, rfl, rfl⟩ | exact ⟨by rw [e1], rfl, rfl⟩
      · refine ar_aload_n kd_F_clear_13 rfl ?_
        refine ar_iload_n kd_F_clear_14 rfl ?_
        refine az_callv (z := km_F_letGo) (As := [_]) (ci := 1) kd_F_clear_15 kw_439 kw_440 rfl ks_F_letGo kz_F_letGo rfl rfl rfl rfl rfl (Nat.le_of_ble_eq_true rfl) (Nat.le_of_ble_eq_true rfl) rfl (sp_F_letGo (by omega) (zf_inv (g := fun c l => ck_letGo c l) (fun a k ha => ck_letGo_K k ha) hK _)) ?_
        refine az_iinc kd_F_clear_18 rfl rfl ?_
        dsimp only [List.set]
        refine ar_goto (tg := 2) kd_F_clear_21 (by decide) ?_
        exact ih (i + 1) (by omega) (by omega)
  refine ar_iconst kd_F_clear_0 ?_
  refine ar_istore_n kd_F_clear_1 (Nat.le_of_ble_eq_true rfl) rfl ?_
  dsimp only [List.set]
  exact loop (cg_nL c + 1) 0 (by omega) (by omega)
end
section
/-! changes of stock; new lots and lines -/
def ck_up (c : cS) (l k : Nat) : cS := if cg_rl c l 3 = 1 then ck_letGo c l else ck_move c l k (-zn (cg_gi c l k) (-cg_fr c k))
/-- the lines below m let go, the last first: the state, and how many had to -/
def ck_dn (k : Nat) : Nat → cS → Int → cS × Int
  | 0, c, s => (c, s)
  | m + 1, c, s => if cg_fr c k < 0 then (if 0 < cg_gi c m k then ck_dn k m (ck_up c m k) (s + 1) else ck_dn k m c s) else (c, s)
def ck_set (c : cS) (k : Nat) (z : Int) : cS := cs_pc (cs_fr c (zu (cg_fr c) k (cg_fr c k + (z - cg_pc c k)))) (zu (cg_pc c) k z)
theorem zs_congr {f g : Nat → Int} : ∀ n, (∀ k, k < n → f k = g k) → zs f n = zs g n
  | 0, _ => rfl
  | n + 1, h => by rw [zs, zs, zs_congr n (fun k hk => h k (by omega)), h n (by omega)]
theorem zs_upd {f : Nat → Int} {l : Nat} {v : Int} : ∀ n, l < n → zs (fun j => if j = l then v else f j) n = zs f n + (v - f l)
  | 0, h => by omega
  | n + 1, h => by
    simp only [zs]
    rcases Nat.lt_or_ge l n with q | q
    · rw [zs_upd n q, if_neg (by omega)]
      omega
    · have e : l = n := by omega
      subst e
      rw [zs_congr l (fun k hk => if_neg (by omega)), if_pos rfl]
      omega
theorem zs_nonneg {f : Nat → Int} : ∀ n, (∀ k, k < n → 0 ≤ f k) → 0 ≤ zs f n
  | 0, _ => Int.le_refl 0
  | n + 1, h => by
    have h1 := zs_nonneg n (fun k hk => h k (by omega))
    have h2 := h n (by omega)
    simp only [zs]
    omega
theorem zs_le {f : Nat → Int} {b : Int} : ∀ n, (∀ k, k < n → f k ≤ b) → zs f n ≤ n * b
  | 0, _ => by simp [zs]
  | n + 1, h => by
    have h1 := zs_le n (fun k hk => h k (by omega))
    have h2 := h n (by omega)
    simp only [zs]
    have e : ((n + 1 : Nat) : Int) * b = n * b + b := by rw [Int.natCast_add, Int.add_mul]; simp
    rw [e]
    omega
/-- what is held and what is free make up the pieces -/
def cI (c : cS) : Prop := (∀ l k, l < 6 → k < 8 → 0 ≤ cg_gi c l k ∧ cg_gi c l k ≤ 500) ∧ ∀ k, k < 8 → (cg_fr c k + zs (fun l => cg_gi c l k) 6 = cg_pc c k) ∧ 0 ≤ cg_pc c k ∧ cg_pc c k ≤ 500
theorem cI.G {c : cS} (h : cI c) : cG c := by
  refine ⟨fun l k hl hk => ?_, fun k hk => ?_⟩
  · have := h.1 l k hl hk
    omega
  · have h1 := h.2 k hk
    have h2 := zs_nonneg (f := fun l => cg_gi c l k) 6 (fun l hl => (h.1 l k hl hk).1)
    have h3 := zs_le (f := fun l => cg_gi c l k) (b := 500) 6 (fun l hl => (h.1 l k hl hk).2)
    omega
theorem cI_move {c : cS} (h : cI c) {l k : Nat} {z : Int} (hl : l < 6) (hk : k < 8) (hz : 0 ≤ cg_gi c l k + z ∧ cg_gi c l k + z ≤ 500) : cI (ck_move c l k z) := by
  refine ⟨fun l' k' hl' hk' => ?_, fun k' hk' => ?_⟩
  · show 0 ≤ zr (cg_gi c) l (zu (cg_gi c l) k (cg_gi c l k + z)) l' k' ∧ _
    show _ ∧ zr (cg_gi c) l (zu (cg_gi c l) k (cg_gi c l k + z)) l' k' ≤ 500
    by_cases e : l' = l
    · subst e
      rw [zr_s]
      by_cases e2 : k' = k
      · subst e2
        rw [zu_s]
        exact hz
      · rw [zu_n e2]
        exact h.1 l' k' hl' hk'
    · rw [zr_n e]
      exact h.1 l' k' hl' hk'
  · show (zu (cg_fr c) k (cg_fr c k - z)) k' + zs (fun l' => zr (cg_gi c) l (zu (cg_gi c l) k (cg_gi c l k + z)) l' k') 6 = cg_pc c k' ∧ _
    refine ⟨?_, (h.2 k' hk').2⟩
    have h1 := (h.2 k' hk').1
    by_cases e2 : k' = k
    · subst e2
      rw [zu_s]
      have e3 : zs (fun l' => zr (cg_gi c) l (zu (cg_gi c l) k' (cg_gi c l k' + z)) l' k') 6 = zs (fun l' => if l' = l then cg_gi c l k' + z else cg_gi c l' k') 6 := zs_congr 6 (fun j hj => by
        by_cases e : j = l
        · subst e
          rw [zr_s, zu_s, if_pos rfl]
        · rw [zr_n e, if_neg e])
      rw [e3, zs_upd (f := fun l' => cg_gi c l' k') 6 hl]
      omega
    · rw [zu_n e2]
      have e3 : zs (fun l' => zr (cg_gi c) l (zu (cg_gi c l) k (cg_gi c l k + z)) l' k') 6 = zs (fun l' => cg_gi c l' k') 6 := zs_congr 6 (fun j hj => by
        by_cases e : j = l
        · subst e
          rw [zr_s, zu_n e2]
        · rw [zr_n e])
      rw [e3]
      exact h1
theorem cI_letGo {c : cS} (h : cI c) {l : Nat} (hl : l < 6) (hT : cg_nT c ≤ 8) : cI (ck_letGo c l) := by
  have : ∀ n, n ≤ 8 → cI (zf (fun c k => ck_move c l k (-cg_gi c l k)) c n) := by
    intro n
    induction n with
    | zero => intro _; exact h
    | succ n ih =>
      intro hn
      have h1 := ih (by omega)
      exact cI_move h1 hl (by omega) (by have := h1.1 l n hl (by omega); omega)
  exact this _ hT
theorem cI_up {c : cS} (h : cI c) {l k : Nat} (hl : l < 6) (hk : k < 8) (hT : cg_nT c ≤ 8) (hf : cg_fr c k < 0) : cI (ck_up c l k) := by
  unfold ck_up
  split
  · exact cI_letGo h hl hT
  · refine cI_move h hl hk ?_
    have h1 := h.1 l k hl hk
    unfold zn
    split <;> omega
theorem ck_up_K {c : cS} (h : cK c) (l k : Nat) : cK (ck_up c l k) := by
  unfold ck_up
  split
  · exact ck_letGo_K l h
  · exact ck_move_K l k _ h
theorem ck_up_nL (c : cS) (l k : Nat) : cg_nL (ck_up c l k) = cg_nL c := by
  unfold ck_up
  split
  · exact ck_letGo_nL c l
  · rfl
theorem cI_set {c : cS} (h : cI c) {k : Nat} {z : Int} (hk : k < 8) (hz : 0 ≤ z ∧ z ≤ 500) : cI (ck_set c k z) := by
  refine ⟨h.1, fun k' hk' => ?_⟩
  show (zu (cg_fr c) k (cg_fr c k + (z - cg_pc c k))) k' + zs (fun l' => cg_gi c l' k') 6 = zu (cg_pc c) k z k' ∧ 0 ≤ zu (cg_pc c) k z k' ∧ zu (cg_pc c) k z k' ≤ 500
  have h1 := h.2 k' hk'
  by_cases e : k' = k
  · subst e
    rw [zu_s, zu_s]
    omega
  · rw [zu_n e, zu_n e]
    exact h1
set_option maxHeartbeats 1000000 in
set_option maxRecDepth 20000 in
theorem sp_F_giveUp {d : Nat} {x : am_C} {c : cS} {t : List am_C} {n : Nat} {l k : Nat} (hl : l < 6) (hk : k < 8) (hK : cK c) (hG : cG c) : am_W (d + 2) km_F_giveUp 0 [some (.ref 5), some (.int (iI l)), some (.int (iI k))] [] (hC x c t) n 0 0 (am_eq none (hC x (ck_up c l k) t) n) := by
  obtain ⟨hT, hL⟩ := hK.nn
  have h1 := hK.line hl
  have h2 := hG.gi hl hk
  have h3 := hG.fr hk
  refine ar_aload_n kd_F_giveUp_0 rfl ?_
  refine ar_get (ci := 1) (k := 1) kd_F_giveUp_1 rfl kw_120 (by decide) rfl rfl ?_
  refine ar_get (ci := 2) (k := 4) kd_F_giveUp_4 rfl kw_93 (by decide) rfl rfl ?_
  refine ar_iload_n kd_F_giveUp_7 rfl ?_
  refine az_aald kd_F_giveUp_8 rfl rfl (by omega) (if_pos (by omega)) ?_
  refine ar_iconst kd_F_giveUp_9 ?_
  refine az_iald kd_F_giveUp_10 (hr_rl (by omega)) (k := 3) rfl (by omega) ?_
  refine ar_iconst kd_F_giveUp_11 ?_
  refine az_icmp_ne (tg := 23) kd_F_giveUp_12 (by decide) (fun q1 => ?_) (fun q1 => ?_)
  · have e1 : ck_up c l k = ck_move c l k (-zn (cg_gi c l k) (-cg_fr c k)) := if_neg q1
    refine ar_aload_n kd_F_giveUp_23 rfl ?_
    refine ar_iload_n kd_F_giveUp_24 rfl ?_
    refine ar_iload_n kd_F_giveUp_25 rfl ?_
    refine ar_aload_n kd_F_giveUp_26 rfl ?_
    refine ar_get (ci := 1) (k := 1) kd_F_giveUp_27 rfl kw_120 (by decide) rfl rfl ?_
    refine ar_get (ci := 2) (k := 6) kd_F_giveUp_30 rfl kw_100 (by decide) rfl rfl ?_
    refine ar_iload_n kd_F_giveUp_33 rfl ?_
    refine az_aald kd_F_giveUp_34 rfl rfl (by omega) (if_pos (by omega)) ?_
    refine ar_iload_n kd_F_giveUp_35 rfl ?_
    refine az_iald kd_F_giveUp_36 (hr_gi (by omega)) rfl (by omega) ?_
    refine ar_aload_n kd_F_giveUp_37 rfl ?_
    refine ar_get (ci := 1) (k := 0) kd_F_giveUp_38 rfl kw_117 (by decide) rfl rfl ?_
    refine ar_get (ci := 3) (k := 5) kd_F_giveUp_41 rfl kw_51 (by decide) rfl rfl ?_
    refine ar_iload_n kd_F_giveUp_44 rfl ?_
    refine az_iald kd_F_giveUp_45 rfl rfl (by omega) ?_
    refine az_ineg kd_F_giveUp_46 ?_
    refine ar_min kd_F_giveUp_47 kw_216 kw_217 kw_13 kw_218 rfl (Nat.le_of_ble_eq_true rfl) (Nat.zero_le _) (Nat.zero_le _) ?_
    rw [ii_min (by omega) (by omega)]
    refine az_ineg kd_F_giveUp_50 ?_
    refine az_callv (z := km_F_move) (As := [_, _, _]) (ci := 1) kd_F_giveUp_51 kw_443 kw_444 rfl ks_F_move kz_F_move rfl rfl rfl rfl rfl (Nat.le_of_ble_eq_true rfl) (Nat.le_of_ble_eq_true rfl) rfl (sp_F_move (d := d + 1) hl hk) ?_
    refine ar_return kd_F_giveUp_54 rfl (Nat.le_of_ble_eq_true rfl) (Nat.le_of_ble_eq_true rfl) ?_
    exact ⟨rfl, by rw [e1], rfl⟩
  · have e1 : ck_up c l k = ck_letGo c l := if_pos q1
    refine ar_aload_n kd_F_giveUp_15 rfl ?_
    refine ar_iload_n kd_F_giveUp_16 rfl ?_
    refine az_callv (z := km_F_letGo) (As := [_]) (ci := 1) kd_F_giveUp_17 kw_439 kw_440 rfl ks_F_letGo kz_F_letGo rfl rfl rfl rfl rfl (Nat.le_of_ble_eq_true rfl) (Nat.le_of_ble_eq_true rfl) rfl (sp_F_letGo hl hK) ?_
    refine ar_goto (tg := 54) kd_F_giveUp_20 (by decide) ?_
    refine ar_return kd_F_giveUp_54 rfl (Nat.le_of_ble_eq_true rfl) (Nat.le_of_ble_eq_true rfl) ?_
    exact ⟨rfl, by rw [e1], rfl⟩
set_option maxHeartbeats 1000000 in
set_option maxRecDepth 20000 in
theorem sp_F_setPieces {d : Nat} {x : am_C} {c : cS} {t : List am_C} {n : Nat} {k : Nat} {z : Int} (hk : k < 8) (hz : 0 ≤ z ∧ z ≤ 500) (hK : cK c) (hI : cI c) : am_W (d + 3) km_F_setPieces 0 [some (.ref 5), some (.int (iI k)), some (.int (iI z)), none, none] [] (hC x c t) n 0 0 (am_eq (some (.int (iI (ck_dn k (cg_nL c) (ck_set c k z) 0).2))) (hC x (ck_dn k (cg_nL c) (ck_set c k z) 0).1 t) n) := by
  obtain ⟨hT, hL⟩ := hK.nn
  have loop : ∀ i : Nat, ∀ (c1 : cS) (s : Int), cK c1 → cI c1 → i ≤ 6 → 0 ≤ s → ck_dn k (cg_nL c) (ck_set c k z) 0 = ck_dn k i c1 s → am_W (d + 3) km_F_setPieces 46 [some (.ref 5), some (.int (iI k)), some (.int (iI z)), some (.int (iI s)), some (.int (iI ((i : Int) - 1)))] [] (hC x c1 t) n 0 0 (am_eq (some (.int (iI (ck_dn k (cg_nL c) (ck_set c k z) 0).2))) (hC x (ck_dn k (cg_nL c) (ck_set c k z) 0).1 t) n) := by
    intro i
    induction i with
    | zero =>
      intro c1 s hK1 hI1 hi6 hs e0
      refine ar_iload kd_F_setPieces_46 rfl ?_
      refine az_if_lt (tg := 94) kd_F_setPieces_48 (by decide) (fun q1 => ?_) (fun q1 => absurd (by omega) q1)
      have e1 : ck_dn k (cg_nL c) (ck_set c k z) 0 = (c1, s) := e0
      refine ar_iload_n kd_F_setPieces_94 rfl ?_
      refine ar_ireturn kd_F_setPieces_95 rfl (Nat.le_of_ble_eq_true rfl) (Nat.le_of_ble_eq_true rfl) ?_
      exact ⟨by rw [e1], by rw [e1], rfl⟩
    | succ i ih =>
      intro c1 s hK1 hI1 hi6 hs e0
      obtain ⟨hT1, hL1⟩ := hK1.nn
      have hfr := hI1.G.fr hk
      have hgi := hI1.G.gi (l := i) (k := k) (by omega) hk
      rw [show ((i + 1 : Nat) : Int) - 1 = (i : Int) by omega]
      refine ar_iload kd_F_setPieces_46 rfl ?_
      refine az_if_lt (tg := 94) kd_F_setPieces_48 (by decide) (fun q1 => absurd q1 (by omega)) (fun q1 => ?_)
      refine ar_aload_n kd_F_setPieces_51 rfl ?_
      refine ar_get (ci := 1) (k := 0) kd_F_setPieces_52 rfl kw_117 (by decide) rfl rfl ?_
      refine ar_get (ci := 3) (k := 5) kd_F_setPieces_55 rfl kw_51 (by decide) rfl rfl ?_
      refine ar_iload_n kd_F_setPieces_58 rfl ?_
      refine az_iald kd_F_setPieces_59 rfl rfl (by omega) ?_
      refine az_if_ge (tg := 94) kd_F_setPieces_60 (by decide) (fun q2 => ?_) (fun q2 => ?_)
      · have e1 : ck_dn k (cg_nL c) (ck_set c k z) 0 = (c1, s) := by
          rw [e0]
          simp only [ck_dn]
          rw [if_neg (by omega)]
        refine ar_iload_n kd_F_setPieces_94 rfl ?_
        refine ar_ireturn kd_F_setPieces_95 rfl (Nat.le_of_ble_eq_true rfl) (Nat.le_of_ble_eq_true rfl) ?_
        exact ⟨by rw [e1], by rw [e1], rfl⟩
      · refine ar_aload_n kd_F_setPieces_63 rfl ?_
        refine ar_get (ci := 1) (k := 1) kd_F_setPieces_64 rfl kw_120 (by decide) rfl rfl ?_
        refine ar_get (ci := 2) (k := 6) kd_F_setPieces_67 rfl kw_100 (by decide) rfl rfl ?_
        refine ar_iload kd_F_setPieces_70 rfl ?_
        refine az_aald kd_F_setPieces_72 rfl rfl (by omega) (if_pos (by omega)) ?_
        refine ar_iload_n kd_F_setPieces_73 rfl ?_
        refine az_iald kd_F_setPieces_74 (hr_gi (by omega)) rfl (by omega) ?_
        refine az_if_le (tg := 88) kd_F_setPieces_75 (by decide) (fun q3 => ?_) (fun q3 => ?_)
        · have e2 : ck_dn k (cg_nL c) (ck_set c k z) 0 = ck_dn k i c1 s := by
            rw [e0]
            simp only [ck_dn]
            rw [if_pos (by omega), if_neg (by omega)]
          refine az_iinc kd_F_setPieces_88 rfl rfl ?_
          dsimp only [List.set]
          refine ar_goto (tg := 46) kd_F_setPieces_91 (by decide) ?_
          first | exact ih _ _ (ck_up_K hK1 i k) (cI_up hI1 (by omega) hk hT1 (by omega)) (by omega) (by omega) e2 | exact ih _ _ hK1 hI1 (by omega) (by omega) e2
        · have e2 : ck_dn k (cg_nL c) (ck_set c k z) 0 = ck_dn k i (ck_up c1 i k) (s + 1) := by
            rw [e0]
            simp only [ck_dn]
            rw [if_pos (by omega), if_pos (by omega)]
          refine ar_aload_n kd_F_setPieces_78 rfl ?_
          refine ar_iload kd_F_setPieces_79 rfl ?_
          refine ar_iload_n kd_F_setPieces_81 rfl ?_
          refine az_callv (z := km_F_giveUp) (As := [_, _]) (ci := 1) kd_F_setPieces_82 kw_547 kw_549 rfl ks_F_giveUp kz_F_giveUp rfl rfl rfl rfl rfl (Nat.le_of_ble_eq_true rfl) (Nat.le_of_ble_eq_true rfl) rfl (sp_F_giveUp (by omega) hk hK1 hI1.G) ?_
          refine az_iinc kd_F_setPieces_85 rfl rfl ?_
          dsimp only [List.set]
          refine az_iinc kd_F_setPieces_88 rfl rfl ?_
          dsimp only [List.set]
          refine ar_goto (tg := 46) kd_F_setPieces_91 (by decide) ?_
          first | exact ih _ _ (ck_up_K hK1 i k) (cI_up hI1 (by omega) hk hT1 (by omega)) (by omega) (by omega) e2 | exact ih _ _ hK1 hI1 (by omega) (by omega) e2
  refine ar_aload_n kd_F_setPieces_0 rfl ?_
  refine ar_get (ci := 1) (k := 0) kd_F_setPieces_1 rfl kw_117 (by decide) rfl rfl ?_
  refine ar_get (ci := 3) (k := 5) kd_F_setPieces_4 rfl kw_51 (by decide) rfl rfl ?_
  refine ar_iload_n kd_F_setPieces_7 rfl ?_
  refine ar_dup2 kd_F_setPieces_8 rfl rfl ?_
  refine az_iald kd_F_setPieces_9 rfl rfl (by omega) ?_
  refine ar_iload_n kd_F_setPieces_10 rfl ?_
  refine ar_aload_n kd_F_setPieces_11 rfl ?_
  refine ar_get (ci := 1) (k := 0) kd_F_setPieces_12 rfl kw_117 (by decide) rfl rfl ?_
  refine ar_get (ci := 3) (k := 4) kd_F_setPieces_15 rfl kw_49 (by decide) rfl rfl ?_
  refine ar_iload_n kd_F_setPieces_18 rfl ?_
  refine az_iald kd_F_setPieces_19 rfl rfl (by omega) ?_
  refine az_isub kd_F_setPieces_20 ?_
  refine az_iadd kd_F_setPieces_21 ?_
  refine az_iast kd_F_setPieces_22 rfl rfl rfl (by omega) ?_
  rw [hw_fr]
  refine ar_aload_n kd_F_setPieces_23 rfl ?_
  refine ar_get (ci := 1) (k := 0) kd_F_setPieces_24 rfl kw_117 (by decide) rfl rfl ?_
  refine ar_get (ci := 3) (k := 4) kd_F_setPieces_27 rfl kw_49 (by decide) rfl rfl ?_
  refine ar_iload_n kd_F_setPieces_30 rfl ?_
  refine ar_iload_n kd_F_setPieces_31 rfl ?_
  refine az_iast kd_F_setPieces_32 rfl rfl rfl (by omega) ?_
  rw [hw_pc]
  refine ar_iconst kd_F_setPieces_33 ?_
  refine ar_istore_n kd_F_setPieces_34 (Nat.le_of_ble_eq_true rfl) rfl ?_
  dsimp only [List.set]
  refine ar_aload_n kd_F_setPieces_35 rfl ?_
  refine ar_get (ci := 1) (k := 1) kd_F_setPieces_36 rfl kw_120 (by decide) rfl rfl ?_
  refine ar_get (ci := 2) (k := 0) kd_F_setPieces_39 rfl kw_84 (by decide) rfl rfl ?_
  refine ar_iconst kd_F_setPieces_42 ?_
  refine az_isub kd_F_setPieces_43 ?_
  refine ar_istore kd_F_setPieces_44 (Nat.le_of_ble_eq_true rfl) rfl ?_
  dsimp only [List.set]
  exact loop (cg_nL c) (ck_set c k z) 0 hK (cI_set hI hk hz) (by omega) (by omega) rfl
end
section
/-! new lots and lines, barred lots -/
theorem ar_heap {d : Nat} {y : am_Y} {pc : Nat} {ls : List (Option Value)} {st : List Value} {h h' : am_H} {n cu su : Nat} {Q : am_O → am_H → Nat → Prop} (e : h = h') (k : am_W d y pc ls st h' n cu su Q) : am_W d y pc ls st h n cu su Q := by
  subst e
  exact k
/-- the lot a comes before b, if a is the newer -/
abbrev ck_bf (c : cS) (a b : Nat) : Prop := cg_un c a < cg_un c b ∨ cg_un c a = cg_un c b ∧ cg_pl c a < cg_pl c b
/-- the lot k put into the order, at place i or ahead of it -/
def ck_pt (k : Nat) : Nat → cS → cS
  | 0, c => cs_od c (zu (cg_od c) 0 k)
  | i + 1, c => if ck_bf c k (cg_od c i).toNat then ck_pt k i (cs_od c (zu (cg_od c) (i + 1) (cg_od c i))) else cs_od c (zu (cg_od c) (i + 1) k)
theorem cK_od {c : cS} (h : cK c) {i : Nat} {v : Int} (hv : 0 ≤ v ∧ v ≤ 7) : cK (cs_od c (zu (cg_od c) i v)) := by
  refine ⟨h.1, fun k hk => ⟨(h.2.1 k hk).1, (h.2.1 k hk).2.1, (h.2.1 k hk).2.2.1, ?_⟩, h.2.2⟩
  show 0 ≤ zu (cg_od c) i v k ∧ zu (cg_od c) i v k ≤ 7
  by_cases e : k = i
  · subst e
    rw [zu_s]
    exact hv
  · rw [zu_n e]
    exact (h.2.1 k hk).2.2.2
set_option maxHeartbeats 1000000 in
set_option maxRecDepth 20000 in
theorem sp_T_comesBefore {d : Nat} {x : am_C} {c : cS} {t : List am_C} {n : Nat} {k l : Nat} (hk : k < 8) (hl : l < 8) (hK : cK c) : am_W d km_T_comesBefore 0 [some (.ref 6), some (.int (iI k)), some (.int (iI l))] [] (hC x c t) n 0 0 (am_eq (some (.int (iI (zb (ck_bf c k l))))) (hC x c t) n) := by
  have h1 := hK.lot hk
  have h2 := hK.lot hl
  refine ar_aload_n kd_T_comesBefore_0 rfl ?_
  refine ar_get (ci := 3) (k := 3) kd_T_comesBefore_1 rfl kw_45 (by decide) rfl rfl ?_
  refine ar_iload_n kd_T_comesBefore_4 rfl ?_
  refine az_iald kd_T_comesBefore_5 rfl rfl (by omega) ?_
  refine ar_aload_n kd_T_comesBefore_6 rfl ?_
  refine ar_get (ci := 3) (k := 3) kd_T_comesBefore_7 rfl kw_45 (by decide) rfl rfl ?_
  refine ar_iload_n kd_T_comesBefore_10 rfl ?_
  refine az_iald kd_T_comesBefore_11 rfl rfl (by omega) ?_
  refine az_icmp_eq (tg := 36) kd_T_comesBefore_12 (by decide) (fun q1 => ?_) (fun q1 => ?_)
  · refine ar_aload_n kd_T_comesBefore_36 rfl ?_
    refine ar_get (ci := 3) (k := 1) kd_T_comesBefore_37 rfl kw_41 (by decide) rfl rfl ?_
    refine ar_iload_n kd_T_comesBefore_40 rfl ?_
    refine az_iald kd_T_comesBefore_41 rfl rfl (by omega) ?_
    refine ar_aload_n kd_T_comesBefore_42 rfl ?_
    refine ar_get (ci := 3) (k := 1) kd_T_comesBefore_43 rfl kw_41 (by decide) rfl rfl ?_
    refine ar_iload_n kd_T_comesBefore_46 rfl ?_
    refine az_iald kd_T_comesBefore_47 rfl rfl (by omega) ?_
    refine az_icmp_ge (tg := 55) kd_T_comesBefore_48 (by decide) (fun q2 => ?_) (fun q2 => ?_)
    · have e1 : zb (ck_bf c k l) = 0 := if_neg (by omega)
      refine ar_iconst kd_T_comesBefore_55 ?_
      refine ar_zreturn kd_T_comesBefore_56 rfl rfl (Nat.le_of_ble_eq_true rfl) (Nat.le_of_ble_eq_true rfl) ?_
      exact ⟨by rw [e1], rfl, rfl⟩
    · have e1 : zb (ck_bf c k l) = 1 := if_pos (by omega)
      refine ar_iconst kd_T_comesBefore_51 ?_
      refine ar_goto (tg := 56) kd_T_comesBefore_52 (by decide) ?_
      refine ar_zreturn kd_T_comesBefore_56 rfl rfl (Nat.le_of_ble_eq_true rfl) (Nat.le_of_ble_eq_true rfl) ?_
      exact ⟨by rw [e1], rfl, rfl⟩
  · refine ar_aload_n kd_T_comesBefore_15 rfl ?_
    refine ar_get (ci := 3) (k := 3) kd_T_comesBefore_16 rfl kw_45 (by decide) rfl rfl ?_
    refine ar_iload_n kd_T_comesBefore_19 rfl ?_
    refine az_iald kd_T_comesBefore_20 rfl rfl (by omega) ?_
    refine ar_aload_n kd_T_comesBefore_21 rfl ?_
    refine ar_get (ci := 3) (k := 3) kd_T_comesBefore_22 rfl kw_45 (by decide) rfl rfl ?_
    refine ar_iload_n kd_T_comesBefore_25 rfl ?_
    refine az_iald kd_T_comesBefore_26 rfl rfl (by omega) ?_
    refine az_icmp_ge (tg := 34) kd_T_comesBefore_27 (by decide) (fun q3 => ?_) (fun q3 => ?_)
    · have e1 : zb (ck_bf c k l) = 0 := if_neg (by omega)
      refine ar_iconst kd_T_comesBefore_34 ?_
      refine ar_zreturn kd_T_comesBefore_35 rfl rfl (Nat.le_of_ble_eq_true rfl) (Nat.le_of_ble_eq_true rfl) ?_
      exact ⟨by rw [e1], rfl, rfl⟩
    · have e1 : zb (ck_bf c k l) = 1 := if_pos (by omega)
      refine ar_iconst kd_T_comesBefore_30 ?_
      refine ar_goto (tg := 35) kd_T_comesBefore_31 (by decide) ?_
      refine ar_zreturn kd_T_comesBefore_35 rfl rfl (Nat.le_of_ble_eq_true rfl) (Nat.le_of_ble_eq_true rfl) ?_
      exact ⟨by rw [e1], rfl, rfl⟩
set_option maxHeartbeats 1000000 in
set_option maxRecDepth 20000 in
theorem sp_T_putInOrder {d : Nat} {x : am_C} {c : cS} {t : List am_C} {n : Nat} {k : Nat} (hk : k < 8) (hK : cK c) : am_W (d + 1) km_T_putInOrder 0 [some (.ref 6), some (.int (iI k)), none] [] (hC x c t) n 0 0 (am_eq none (hC x (ck_pt k k c) t) n) := by
  have loop : ∀ i : Nat, ∀ (c1 : cS), cK c1 → i ≤ 7 → ck_pt k k c = ck_pt k i c1 → am_W (d + 1) km_T_putInOrder 2 [some (.ref 6), some (.int (iI k)), some (.int (iI i))] [] (hC x c1 t) n 0 0 (am_eq none (hC x (ck_pt k k c) t) n) := by
    intro i
    induction i with
    | zero =>
      intro c1 hK1 hi e0
      refine ar_iload_n kd_T_putInOrder_2 rfl ?_
      refine az_if_le (tg := 42) kd_T_putInOrder_3 (by decide) (fun q1 => ?_) (fun q1 => absurd (by omega) q1)
      refine ar_aload_n kd_T_putInOrder_42 rfl ?_
      refine ar_get (ci := 3) (k := 6) kd_T_putInOrder_43 rfl kw_54 (by decide) rfl rfl ?_
      refine ar_iload_n kd_T_putInOrder_46 rfl ?_
      refine ar_iload_n kd_T_putInOrder_47 rfl ?_
      have e1 : ck_pt k k c = cs_od c1 (zu (cg_od c1) 0 k) := e0
      refine az_iast kd_T_putInOrder_48 rfl rfl (k := 0) rfl (by omega) ?_
      rw [hw_od]
      refine ar_return kd_T_putInOrder_49 rfl (Nat.le_of_ble_eq_true rfl) (Nat.le_of_ble_eq_true rfl) ?_
      exact ⟨rfl, by rw [e1], rfl⟩
    | succ i ih =>
      intro c1 hK1 hi e0
      have hot := hK1.lot (k := i) (by omega)
      have eo : cg_od c1 i = (((cg_od c1 i).toNat : Nat) : Int) := (Int.toNat_of_nonneg hot.2.2.2.1).symm
      refine ar_iload_n kd_T_putInOrder_2 rfl ?_
      refine az_if_le (tg := 42) kd_T_putInOrder_3 (by decide) (fun q1 => absurd q1 (by omega)) (fun q1 => ?_)
      refine ar_aload_n kd_T_putInOrder_6 rfl ?_
      refine ar_iload_n kd_T_putInOrder_7 rfl ?_
      refine ar_aload_n kd_T_putInOrder_8 rfl ?_
      refine ar_get (ci := 3) (k := 6) kd_T_putInOrder_9 rfl kw_54 (by decide) rfl rfl ?_
      refine ar_iload_n kd_T_putInOrder_12 rfl ?_
      refine ar_iconst kd_T_putInOrder_13 ?_
      refine az_isub kd_T_putInOrder_14 ?_
      refine az_iald kd_T_putInOrder_15 rfl (k := i) (by omega) (by omega) ?_
      rw [eo]
      refine az_callv (z := km_T_comesBefore) (As := [_, _]) (ci := 3) kd_T_putInOrder_16 kw_353 kw_355 rfl ks_T_comesBefore kz_T_comesBefore rfl rfl rfl rfl rfl (Nat.le_of_ble_eq_true rfl) (Nat.le_of_ble_eq_true rfl) rfl (sp_T_comesBefore hk (by omega) hK1) ?_
      refine az_if_eq (tg := 42) kd_T_putInOrder_19 (by decide) (fun qc => ?_) (fun qc => ?_) (by unfold zb; split <;> omega)
      · have hb : ¬ ck_bf c1 k (cg_od c1 i).toNat := fun q => by simp [zb, q] at qc
        have e1 : ck_pt k k c = cs_od c1 (zu (cg_od c1) (i + 1) k) := by
          rw [e0]
          simp only [ck_pt]
          rw [if_neg hb]
        refine ar_aload_n kd_T_putInOrder_42 rfl ?_
        refine ar_get (ci := 3) (k := 6) kd_T_putInOrder_43 rfl kw_54 (by decide) rfl rfl ?_
        refine ar_iload_n kd_T_putInOrder_46 rfl ?_
        refine ar_iload_n kd_T_putInOrder_47 rfl ?_
        refine az_iast kd_T_putInOrder_48 rfl rfl (k := i + 1) (by omega) (by omega) ?_
        rw [hw_od]
        refine ar_return kd_T_putInOrder_49 rfl (Nat.le_of_ble_eq_true rfl) (Nat.le_of_ble_eq_true rfl) ?_
        exact ⟨rfl, by rw [e1], rfl⟩
      · have hb : ck_bf c1 k (cg_od c1 i).toNat := Decidable.byContradiction fun q => qc (if_neg q)
        have e1 : ck_pt k k c = ck_pt k i (cs_od c1 (zu (cg_od c1) (i + 1) (cg_od c1 i))) := by
          rw [e0]
          simp only [ck_pt]
          rw [if_pos hb]
        refine ar_aload_n kd_T_putInOrder_22 rfl ?_
        refine ar_get (ci := 3) (k := 6) kd_T_putInOrder_23 rfl kw_54 (by decide) rfl rfl ?_
        refine ar_iload_n kd_T_putInOrder_26 rfl ?_
        refine ar_aload_n kd_T_putInOrder_27 rfl ?_
        refine ar_get (ci := 3) (k := 6) kd_T_putInOrder_28 rfl kw_54 (by decide) rfl rfl ?_
        refine ar_iload_n kd_T_putInOrder_31 rfl ?_
        refine ar_iconst kd_T_putInOrder_32 ?_
        refine az_isub kd_T_putInOrder_33 ?_
        refine az_iald kd_T_putInOrder_34 rfl (k := i) (by omega) (by omega) ?_
        refine az_iast kd_T_putInOrder_35 rfl rfl (k := i + 1) (by omega) (by omega) ?_
        rw [hw_od]
        refine az_iinc kd_T_putInOrder_36 rfl rfl ?_
        dsimp only [List.set]
        rw [show ((i + 1 : Nat) : Int) + -1 = (i : Int) by omega]
        refine ar_goto (tg := 2) kd_T_putInOrder_39 (by decide) ?_
        exact ih _ (cK_od hK1 hot.2.2.2) (by omega) e1
  refine ar_iload_n kd_T_putInOrder_0 rfl ?_
  refine ar_istore_n kd_T_putInOrder_1 (Nat.le_of_ble_eq_true rfl) rfl ?_
  dsimp only [List.set]
  exact loop k c hK (by omega) rfl
/-- the numbers of a new lot -/
def ck_nw (c : cS) (p g z u : Int) : cS := cs_fr (cs_pc (cs_un (cs_gd (cs_pl c (zu (cg_pl c) (cg_nT c) p)) (zu (cg_gd c) (cg_nT c) g)) (zu (cg_un c) (cg_nT c) u)) (zu (cg_pc c) (cg_nT c) z)) (zu (cg_fr c) (cg_nT c) z)
def ck_addT (c : cS) (p g z u : Int) : cS := cs_nT (ck_pt (cg_nT c) (cg_nT c) (ck_nw c p g z u)) (cg_nT c + 1)
theorem cK_nw {c : cS} (h : cK c) {p g z u : Int} (hp : 0 ≤ p ∧ p ≤ 99) (hg : 0 ≤ g ∧ g ≤ 5) (hu : 0 ≤ u ∧ u ≤ 9999) : cK (ck_nw c p g z u) := by
  refine ⟨h.1, fun k hk => ?_, h.2.2⟩
  have h1 := h.2.1 k hk
  show (0 ≤ zu (cg_pl c) (cg_nT c) p k ∧ zu (cg_pl c) (cg_nT c) p k ≤ 99) ∧ (0 ≤ zu (cg_gd c) (cg_nT c) g k ∧ zu (cg_gd c) (cg_nT c) g k ≤ 5) ∧ (0 ≤ zu (cg_un c) (cg_nT c) u k ∧ zu (cg_un c) (cg_nT c) u k ≤ 9999) ∧ _
  by_cases e : k = cg_nT c
  · subst e
    rw [zu_s, zu_s, zu_s]
    exact ⟨hp, hg, hu, h1.2.2.2⟩
  · rw [zu_n e, zu_n e, zu_n e]
    exact h1
theorem ck_pt_nT (k : Nat) : ∀ (i : Nat) (c : cS), cg_nT (ck_pt k i c) = cg_nT c
  | 0, c => rfl
  | i + 1, c => by
    simp only [ck_pt]
    split
    · exact ck_pt_nT k i _
    · rfl
set_option maxHeartbeats 1000000 in
set_option maxRecDepth 20000 in
theorem sp_T_add {d : Nat} {x : am_C} {c : cS} {t : List am_C} {n : Nat} {p g z u : Int} (hT : cg_nT c < 8) (hp : 0 ≤ p ∧ p ≤ 99) (hg : 0 ≤ g ∧ g ≤ 5) (hu : 0 ≤ u ∧ u ≤ 9999) (hK : cK c) : am_W (d + 2) km_T_add 0 [some (.ref 6), some (.int (iI p)), some (.int (iI g)), some (.int (iI z)), some (.int (iI u)), none] [] (hC x c t) n 0 0 (am_eq (some (.int (iI (cg_nT c)))) (hC x (ck_addT c p g z u) t) n) := by
  refine ar_aload_n kd_T_add_0 rfl ?_
  refine ar_get (ci := 3) (k := 0) kd_T_add_1 rfl kw_37 (by decide) rfl rfl ?_
  refine ar_istore kd_T_add_4 (Nat.le_of_ble_eq_true rfl) rfl ?_
  dsimp only [List.set]
  refine ar_aload_n kd_T_add_6 rfl ?_
  refine ar_get (ci := 3) (k := 1) kd_T_add_7 rfl kw_41 (by decide) rfl rfl ?_
  refine ar_iload kd_T_add_10 rfl ?_
  refine ar_iload_n kd_T_add_12 rfl ?_
  refine az_iast kd_T_add_13 rfl rfl rfl (by omega) ?_
  rw [hw_pl]
  refine ar_aload_n kd_T_add_14 rfl ?_
  refine ar_get (ci := 3) (k := 2) kd_T_add_15 rfl kw_43 (by decide) rfl rfl ?_
  refine ar_iload kd_T_add_18 rfl ?_
  refine ar_iload_n kd_T_add_20 rfl ?_
  refine az_iast kd_T_add_21 rfl rfl rfl (by omega) ?_
  rw [hw_gd]
  refine ar_aload_n kd_T_add_22 rfl ?_
  refine ar_get (ci := 3) (k := 3) kd_T_add_23 rfl kw_45 (by decide) rfl rfl ?_
  refine ar_iload kd_T_add_26 rfl ?_
  refine ar_iload kd_T_add_28 rfl ?_
  refine az_iast kd_T_add_30 rfl rfl rfl (by omega) ?_
  rw [hw_un]
  refine ar_aload_n kd_T_add_31 rfl ?_
  refine ar_get (ci := 3) (k := 4) kd_T_add_32 rfl kw_47 (by decide) rfl rfl ?_
  refine ar_iload kd_T_add_35 rfl ?_
  refine ar_iload_n kd_T_add_37 rfl ?_
  refine az_iast kd_T_add_38 rfl rfl rfl (by omega) ?_
  rw [hw_pc]
  refine ar_aload_n kd_T_add_39 rfl ?_
  refine ar_get (ci := 3) (k := 5) kd_T_add_40 rfl kw_50 (by decide) rfl rfl ?_
  refine ar_iload kd_T_add_43 rfl ?_
  refine ar_iload_n kd_T_add_45 rfl ?_
  refine az_iast kd_T_add_46 rfl rfl rfl (by omega) ?_
  rw [hw_fr]
  refine ar_aload_n kd_T_add_47 rfl ?_
  refine ar_iload kd_T_add_48 rfl ?_
  refine ar_heap (h' := hC x (ck_nw c p g z u) t) rfl ?_
  refine az_callv (z := km_T_putInOrder) (As := [_]) (ci := 3) kd_T_add_50 kw_349 kw_351 rfl ks_T_putInOrder kz_T_putInOrder rfl rfl rfl rfl rfl (Nat.le_of_ble_eq_true rfl) (Nat.le_of_ble_eq_true rfl) rfl (sp_T_putInOrder hT (cK_nw hK hp hg hu)) ?_
  refine ar_aload_n kd_T_add_53 rfl ?_
  refine ar_dup kd_T_add_54 rfl ?_
  refine ar_get (ci := 3) (k := 0) kd_T_add_55 rfl kw_37 (by decide) rfl rfl ?_
  refine ar_iconst kd_T_add_58 ?_
  refine az_iadd kd_T_add_59 ?_
  refine ar_put (ci := 3) (k := 0) kd_T_add_60 rfl kw_37 (by decide) rfl (Nat.le_of_ble_eq_true rfl) rfl (Nat.le_of_ble_eq_true rfl) rfl rfl rfl ?_
  rw [ck_pt_nT]
  refine ar_heap (h' := hC x (ck_addT c p g z u) t) (by rw [show ((cg_nT (ck_nw c p g z u) : Nat) : Int) + 1 = ((cg_nT c + 1 : Nat) : Int) from rfl]; rfl) ?_
  refine ar_iload kd_T_add_63 rfl ?_
  refine ar_ireturn kd_T_add_65 rfl (Nat.le_of_ble_eq_true rfl) (Nat.le_of_ble_eq_true rfl) ?_
  exact ⟨rfl, rfl, rfl⟩
def ck_r1 (c : cS) (l : Nat) (k : Nat) : cS := cs_rl c (zr (cg_rl c) l (zu (cg_rl c l) k (hs_first k)))
def ck_r2 (c : cS) (l : Nat) (k : Nat) : cS := cs_tl c (zr (cg_tl c) l (zu (cg_tl c l) k (-1)))
def ck_nl (c : cS) (g z : Int) : cS := cs_lw (cs_lg c (zu (cg_lg c) (cg_nL c) g)) (zu (cg_lw c) (cg_nL c) z)
theorem hp_nT {x : am_C} {c : cS} {t : List am_C} (v : Nat) : (hC x c t).set 6 (am_ob 3 [.int (iI (v : Int)), .ref 7, .ref 8, .ref 9, .ref 10, .ref 11, .ref 12]) = hC x (cs_nT c v) t := rfl
theorem hp_nL {x : am_C} {c : cS} {t : List am_C} (v : Nat) : (hC x c t).set 13 (am_ob 2 [.int (iI (v : Int)), .ref 14, .ref 15, .ref 16, .ref 17, .ref 24, .ref 31]) = hC x (cs_nL c v) t := rfl
theorem hp_r1 {x : am_C} {c : cS} {t : List am_C} (l k : Nat) : hC x (cs_rl c (zr (cg_rl c) l (zu (cg_rl c l) k (hs_first k)))) t = hC x (ck_r1 c l k) t := rfl
theorem hp_r2 {x : am_C} {c : cS} {t : List am_C} (l k : Nat) : hC x (cs_tl c (zr (cg_tl c) l (zu (cg_tl c l) k (-1)))) t = hC x (ck_r2 c l k) t := rfl
def ck_addL (c : cS) (g z : Int) : cS := cs_nL (zf (fun a k => ck_r2 a (cg_nL c) k) (zf (fun a k => ck_r1 a (cg_nL c) k) (ck_nl c g z) 4) 8) (cg_nL c + 1)
set_option maxHeartbeats 1000000 in
set_option maxRecDepth 20000 in
theorem sp_N_add {d : Nat} {x : am_C} {c : cS} {t : List am_C} {n : Nat} {g z : Int} (hL : cg_nL c < 6) : am_W d km_N_add 0 [some (.ref 13), some (.int (iI g)), some (.int (iI z)), none, none] [] (hC x c t) n 0 0 (am_eq (some (.int (iI (cg_nL c)))) (hC x (ck_addL c g z) t) n) := by
  have loop2 : ∀ (f i : Nat), i ≤ 8 → 8 - i < f → am_W d km_N_add 52 [some (.ref 13), some (.int (iI g)), some (.int (iI z)), some (.int (iI (cg_nL c))), some (.int (iI i))] [] (hC x (zf (fun a k => ck_r2 a (cg_nL c) k) (zf (fun a k => ck_r1 a (cg_nL c) k) (ck_nl c g z) 4) i) t) n 0 0 (am_eq (some (.int (iI (cg_nL c)))) (hC x (ck_addL c g z) t) n) := by
    intro f
    induction f with
    | zero => intro i h1 h2; omega
    | succ f ih =>
      intro i h1 h2
      refine ar_iload kd_N_add_52 rfl ?_
      refine az_bipush kd_N_add_54 (by decide) ?_
      refine az_icmp_ge (tg := 75) kd_N_add_56 (by decide) (fun q1 => ?_) (fun q1 => ?_)
      · obtain rfl : i = 8 := by omega
        refine ar_aload_n kd_N_add_75 rfl ?_
        refine ar_dup kd_N_add_76 rfl ?_
        refine ar_get (ci := 2) (k := 0) kd_N_add_77 rfl kw_81 (by decide) rfl rfl ?_
        refine ar_iconst kd_N_add_80 ?_
        refine az_iadd kd_N_add_81 ?_
        refine ar_put (ci := 2) (k := 0) kd_N_add_82 rfl kw_81 (by decide) rfl (Nat.le_of_ble_eq_true rfl) rfl (Nat.le_of_ble_eq_true rfl) rfl rfl rfl ?_
        have hn : cg_nL (zf (fun a k => ck_r2 a (cg_nL c) k) (zf (fun a k => ck_r1 a (cg_nL c) k) (ck_nl c g z) 4) 8) = cg_nL c := (zf_keep (g := fun a k => ck_r2 a (cg_nL c) k) (P := fun c : cS => cg_nL c) (fun a k => rfl) _ 8).trans (zf_keep (g := fun a k => ck_r1 a (cg_nL c) k) (P := fun c : cS => cg_nL c) (fun a k => rfl) _ 4)
        rw [hn]
        refine ar_heap (hp_nL (cg_nL c + 1)) ?_
        refine ar_iload_n kd_N_add_85 rfl ?_
        refine ar_ireturn kd_N_add_86 rfl (Nat.le_of_ble_eq_true rfl) (Nat.le_of_ble_eq_true rfl) ?_
        exact ⟨rfl, rfl, rfl⟩
      · refine ar_aload_n kd_N_add_59 rfl ?_
        refine ar_get (ci := 2) (k := 5) kd_N_add_60 rfl kw_96 (by decide) rfl rfl ?_
        refine ar_iload_n kd_N_add_63 rfl ?_
        refine az_aald kd_N_add_64 rfl rfl (by omega) (if_pos (by omega)) ?_
        refine ar_iload kd_N_add_65 rfl ?_
        refine ar_iconst kd_N_add_67 ?_
        refine az_iast kd_N_add_68 (Nat.ble_eq_true_of_le (by omega)) (hr_tl (by omega)) rfl (by omega) ?_
        rw [hw_tl (by omega)]
        refine az_iinc kd_N_add_69 rfl rfl ?_
        dsimp only [List.set]
        refine ar_goto (tg := 52) kd_N_add_72 (by decide) ?_
        rw [hp_r2]
        exact ih (i + 1) (by omega) (by omega)
  have loop1 : ∀ (f i : Nat), i ≤ 4 → 4 - i < f → am_W d km_N_add 22 [some (.ref 13), some (.int (iI g)), some (.int (iI z)), some (.int (iI (cg_nL c))), some (.int (iI i))] [] (hC x (zf (fun a k => ck_r1 a (cg_nL c) k) (ck_nl c g z) i) t) n 0 0 (am_eq (some (.int (iI (cg_nL c)))) (hC x (ck_addL c g z) t) n) := by
    intro f
    induction f with
    | zero => intro i h1 h2; omega
    | succ f ih =>
      intro i h1 h2
      refine ar_iload kd_N_add_22 rfl ?_
      refine ar_iconst kd_N_add_24 ?_
      refine az_icmp_ge (tg := 49) kd_N_add_25 (by decide) (fun q1 => ?_) (fun q1 => ?_)
      · obtain rfl : i = 4 := by omega
        refine ar_iconst kd_N_add_49 ?_
        refine ar_istore kd_N_add_50 (Nat.le_of_ble_eq_true rfl) rfl ?_
        dsimp only [List.set]
        exact loop2 9 0 (by omega) (by omega)
      · refine ar_aload_n kd_N_add_28 rfl ?_
        refine ar_get (ci := 2) (k := 4) kd_N_add_29 rfl kw_92 (by decide) rfl rfl ?_
        refine ar_iload_n kd_N_add_32 rfl ?_
        refine az_aald kd_N_add_33 rfl rfl (by omega) (if_pos (by omega)) ?_
        refine ar_iload kd_N_add_34 rfl ?_
        refine ar_first rfl kd_N_add_36 ?_
        refine ar_iload kd_N_add_39 rfl ?_
        refine az_iald kd_N_add_41 rfl rfl (by omega) ?_
        refine az_iast kd_N_add_42 (Nat.ble_eq_true_of_le (by omega)) (hr_rl (by omega)) rfl (by omega) ?_
        rw [hw_rl (by omega)]
        refine az_iinc kd_N_add_43 rfl rfl ?_
        dsimp only [List.set]
        refine ar_goto (tg := 22) kd_N_add_46 (by decide) ?_
        rw [hp_r1]
        exact ih (i + 1) (by omega) (by omega)
  refine ar_aload_n kd_N_add_0 rfl ?_
  refine ar_get (ci := 2) (k := 0) kd_N_add_1 rfl kw_81 (by decide) rfl rfl ?_
  refine ar_istore_n kd_N_add_4 (Nat.le_of_ble_eq_true rfl) rfl ?_
  dsimp only [List.set]
  refine ar_aload_n kd_N_add_5 rfl ?_
  refine ar_get (ci := 2) (k := 1) kd_N_add_6 rfl kw_85 (by decide) rfl rfl ?_
  refine ar_iload_n kd_N_add_9 rfl ?_
  refine ar_iload_n kd_N_add_10 rfl ?_
  refine az_iast kd_N_add_11 rfl rfl rfl (by omega) ?_
  rw [hw_lg]
  refine ar_aload_n kd_N_add_12 rfl ?_
  refine ar_get (ci := 2) (k := 2) kd_N_add_13 rfl kw_87 (by decide) rfl rfl ?_
  refine ar_iload_n kd_N_add_16 rfl ?_
  refine ar_iload_n kd_N_add_17 rfl ?_
  refine az_iast kd_N_add_18 rfl rfl rfl (by omega) ?_
  rw [hw_lw]
  refine ar_heap (h' := hC x (ck_nl c g z) t) rfl ?_
  refine ar_iconst kd_N_add_19 ?_
  refine ar_istore kd_N_add_20 (Nat.le_of_ble_eq_true rfl) rfl ?_
  dsimp only [List.set]
  exact loop1 5 0 (by omega) (by omega)
/-- a bit of the barred lots -/
def ck_sb (c : cS) (l k : Nat) (on : Int) : cS := cs_lb c (upd (cg_lb c) l (if on = 0 then cg_lb c l &&& ((iI 1 <<< (iI k &&& 31)) ^^^ iI (-1)) else cg_lb c l ||| (iI 1 <<< (iI k &&& 31))))
set_option maxHeartbeats 1000000 in
set_option maxRecDepth 20000 in
theorem sp_N_setBarred {d : Nat} {x : am_C} {c : cS} {t : List am_C} {n : Nat} {l k : Nat} {on : Int} (hl : l < 6) (ho : 0 ≤ on ∧ on ≤ 1) : am_W d km_N_setBarred 0 [some (.ref 13), some (.int (iI l)), some (.int (iI k)), some (.int (iI on)), none] [] (hC x c t) n 0 0 (am_eq none (hC x (ck_sb c l k on) t) n) := by
  refine ar_iconst kd_N_setBarred_0 ?_
  refine ar_iload_n kd_N_setBarred_1 rfl ?_
  refine ar_ishl kd_N_setBarred_2 ?_
  refine ar_istore kd_N_setBarred_3 (Nat.le_of_ble_eq_true rfl) rfl ?_
  dsimp only [List.set]
  refine ar_aload_n kd_N_setBarred_5 rfl ?_
  refine ar_get (ci := 2) (k := 3) kd_N_setBarred_6 rfl kw_91 (by decide) rfl rfl ?_
  refine ar_iload_n kd_N_setBarred_9 rfl ?_
  refine ar_iload_n kd_N_setBarred_10 rfl ?_
  refine az_if_eq (tg := 26) kd_N_setBarred_11 (by decide) (fun q1 => ?_) (fun q1 => ?_)
  · have e1 : ck_sb c l k on = cs_lb c (upd (cg_lb c) l (cg_lb c l &&& ((iI 1 <<< (iI k &&& 31)) ^^^ iI (-1)))) := by
      unfold ck_sb
      rw [if_pos q1]
    refine ar_aload_n kd_N_setBarred_26 rfl ?_
    refine ar_get (ci := 2) (k := 3) kd_N_setBarred_27 rfl kw_91 (by decide) rfl rfl ?_
    refine ar_iload_n kd_N_setBarred_30 rfl ?_
    refine az_ialdR kd_N_setBarred_31 rfl rfl (by omega) ?_
    refine ar_iload kd_N_setBarred_32 rfl ?_
    refine ar_iconst kd_N_setBarred_34 ?_
    refine ar_ixor kd_N_setBarred_35 ?_
    refine ar_iand kd_N_setBarred_36 ?_
    refine az_iastR kd_N_setBarred_37 rfl rfl rfl (by omega) ?_
    rw [hw_lb]
    refine ar_return kd_N_setBarred_38 rfl (Nat.le_of_ble_eq_true rfl) (Nat.le_of_ble_eq_true rfl) ?_
    exact ⟨rfl, by rw [e1], rfl⟩
  · have e1 : ck_sb c l k on = cs_lb c (upd (cg_lb c) l (cg_lb c l ||| (iI 1 <<< (iI k &&& 31)))) := by
      unfold ck_sb
      rw [if_neg q1]
    refine ar_aload_n kd_N_setBarred_14 rfl ?_
    refine ar_get (ci := 2) (k := 3) kd_N_setBarred_15 rfl kw_91 (by decide) rfl rfl ?_
    refine ar_iload_n kd_N_setBarred_18 rfl ?_
    refine az_ialdR kd_N_setBarred_19 rfl rfl (by omega) ?_
    refine ar_iload kd_N_setBarred_20 rfl ?_
    refine ar_ior kd_N_setBarred_22 ?_
    refine ar_goto (tg := 37) kd_N_setBarred_23 (by decide) ?_
    refine az_iastR kd_N_setBarred_37 rfl rfl rfl (by omega) ?_
    rw [hw_lb]
    refine ar_return kd_N_setBarred_38 rfl (Nat.le_of_ble_eq_true rfl) (Nat.le_of_ble_eq_true rfl) ?_
    exact ⟨rfl, by rw [e1], rfl⟩
end
section
/-! the search: bits, taking -/
set_option maxRecDepth 100000 in
theorem ib_all : ∀ s : Fin 256, ∀ k : Fin 8, ((Int32.ofInt ((s : Nat) : Int) >>> (Int32.ofInt ((k : Nat) : Int) &&& 31)) &&& 1 : Int32) = if (s : Nat).testBit k = true then 1 else 0 := by decide +kernel
theorem ib_bit {s k : Nat} (hs : s < 256) (hk : k < 8) : ((iI (s : Int) >>> (iI (k : Int) &&& 31)) &&& iI 1 : Int32) = if s.testBit k = true then iI 1 else iI 0 := ib_all ⟨s, hs⟩ ⟨k, hk⟩
theorem ib_shlAll : ∀ k : Fin 9, (iI 1 <<< (Int32.ofInt ((k : Nat) : Int) &&& 31)) = Int32.ofInt ((2 ^ (k : Nat) : Nat) : Int) := by decide +kernel
theorem ib_shl {k : Nat} (h : k < 9) : (iI 1 <<< (iI (k : Int) &&& 31)) = iI ((2 ^ k : Nat) : Int) := ib_shlAll ⟨k, h⟩
def pop (s : Nat) : Int := zs (fun k => zb (s.testBit k = true)) 8
theorem pop_rg (s : Nat) : 0 ≤ pop s ∧ pop s ≤ 8 := by
  refine ⟨zs_nonneg 8 (fun k hk => ?_), ?_⟩
  · unfold zb
    split <;> omega
  · have := zs_le (f := fun k => zb (s.testBit k = true)) (b := 1) 8 (fun k hk => by unfold zb; split <;> omega)
    unfold pop
    omega
def uS (x : Int32) (u : Int) : Int32 := (x.toUInt32 >>> ((iI u).toUInt32 &&& Int32.toUInt32 31)).toInt32
def pc1 (x : Int32) : Int32 := x - (uS x 1 &&& (1431655765 : Int32))
def pc2 (x : Int32) : Int32 := (x &&& (858993459 : Int32)) + (uS x 2 &&& (858993459 : Int32))
def pc3 (x : Int32) : Int32 := (x + uS x 4) &&& (252645135 : Int32)
def pc4 (x : Int32) : Int32 := x + uS x 8
def pc5 (x : Int32) : Int32 := x + uS x 16
theorem pc_all : ∀ s : Fin 256, (pc5 (pc4 (pc3 (pc2 (pc1 (Int32.ofInt ((s : Nat) : Int)))))) &&& iI 63) = Int32.ofInt (pop s) := by decide +kernel
theorem pc_is {s : Nat} (h : s < 256) : (pc5 (pc4 (pc3 (pc2 (pc1 (iI (s : Int)))))) &&& iI 63) = iI (pop s) := pc_all ⟨s, h⟩
set_option maxHeartbeats 1000000 in
set_option maxRecDepth 20000 in
theorem sp_I_bitCount {d : Nat} {h : am_H} {n s : Nat} (hs : s < 256) : am_W d km_I_bitCount 0 [some (.int (iI s))] [] h n 0 0 (am_eq (some (.int (iI (pop s)))) h n) := by
  refine ar_iload_n kd_I_bitCount_0 rfl ?_
  refine ar_iload_n kd_I_bitCount_1 rfl ?_
  refine ar_iconst kd_I_bitCount_2 ?_
  refine ar_iushr kd_I_bitCount_3 ?_
  refine ar_ldcw kd_I_bitCount_4 kw_487 ?_
  refine ar_iand kd_I_bitCount_7 ?_
  refine ar_isub kd_I_bitCount_8 ?_
  refine ar_istore_n kd_I_bitCount_9 (Nat.le_of_ble_eq_true rfl) rfl ?_
  dsimp only [List.set]
  refine ar_iload_n kd_I_bitCount_10 rfl ?_
  refine ar_ldcw kd_I_bitCount_11 kw_488 ?_
  refine ar_iand kd_I_bitCount_14 ?_
  refine ar_iload_n kd_I_bitCount_15 rfl ?_
  refine ar_iconst kd_I_bitCount_16 ?_
  refine ar_iushr kd_I_bitCount_17 ?_
  refine ar_ldcw kd_I_bitCount_18 kw_488 ?_
  refine ar_iand kd_I_bitCount_21 ?_
  refine ar_iadd kd_I_bitCount_22 ?_
  refine ar_istore_n kd_I_bitCount_23 (Nat.le_of_ble_eq_true rfl) rfl ?_
  dsimp only [List.set]
  refine ar_iload_n kd_I_bitCount_24 rfl ?_
  refine ar_iload_n kd_I_bitCount_25 rfl ?_
  refine ar_iconst kd_I_bitCount_26 ?_
  refine ar_iushr kd_I_bitCount_27 ?_
  refine ar_iadd kd_I_bitCount_28 ?_
  refine ar_ldcw kd_I_bitCount_29 kw_489 ?_
  refine ar_iand kd_I_bitCount_32 ?_
  refine ar_istore_n kd_I_bitCount_33 (Nat.le_of_ble_eq_true rfl) rfl ?_
  dsimp only [List.set]
  refine ar_iload_n kd_I_bitCount_34 rfl ?_
  refine ar_iload_n kd_I_bitCount_35 rfl ?_
  refine az_bipush kd_I_bitCount_36 (by decide) ?_
  refine ar_iushr kd_I_bitCount_38 ?_
  refine ar_iadd kd_I_bitCount_39 ?_
  refine ar_istore_n kd_I_bitCount_40 (Nat.le_of_ble_eq_true rfl) rfl ?_
  dsimp only [List.set]
  refine ar_iload_n kd_I_bitCount_41 rfl ?_
  refine ar_iload_n kd_I_bitCount_42 rfl ?_
  refine az_bipush kd_I_bitCount_43 (by decide) ?_
  refine ar_iushr kd_I_bitCount_45 ?_
  refine ar_iadd kd_I_bitCount_46 ?_
  refine ar_istore_n kd_I_bitCount_47 (Nat.le_of_ble_eq_true rfl) rfl ?_
  dsimp only [List.set]
  refine ar_iload_n kd_I_bitCount_48 rfl ?_
  refine az_bipush kd_I_bitCount_49 (by decide) ?_
  refine ar_iand kd_I_bitCount_51 ?_
  refine ar_ireturn kd_I_bitCount_52 rfl (Nat.le_of_ble_eq_true rfl) (Nat.le_of_ble_eq_true rfl) ?_
  exact ⟨congrArg (fun v => Sum.inl (some (Value.int v))) (pc_is hs), rfl, rfl⟩
def ck_rd (n p : Int) : Int := if 1 < p then n - n % p else n
theorem ck_rd_rg {n p : Int} (hn : 0 ≤ n) : 0 ≤ ck_rd n p ∧ ck_rd n p ≤ n := by
  unfold ck_rd
  split
  · rename_i h
    have h1 := Int.emod_nonneg n (show p ≠ 0 by omega)
    have h2 : n % p ≤ n := by
      have h3 := Int.mul_ediv_add_emod n p
      have h4 := Int.mul_nonneg (show 0 ≤ p by omega) (Int.ediv_nonneg hn (show 0 ≤ p by omega))
      omega
    omega
  · omega
set_option maxHeartbeats 1000000 in
set_option maxRecDepth 20000 in
theorem sp_S_roundDown {d : Nat} {h : am_H} {n : Nat} {a p : Int} (ha : 0 ≤ a ∧ a < 2147483648) (hp : 0 ≤ p ∧ p ≤ 50) : am_W d km_S_roundDown 0 [some (.int (iI a)), some (.int (iI p))] [] h n 0 0 (am_eq (some (.int (iI (ck_rd a p)))) h n) := by
  refine ar_iload_n kd_S_roundDown_0 rfl ?_
  refine ar_iconst kd_S_roundDown_1 ?_
  refine az_icmp_le (tg := 13) kd_S_roundDown_2 (by decide) (fun q1 => ?_) (fun q1 => ?_)
  · have e1 : ck_rd a p = a := if_neg (by omega)
    refine ar_iload_n kd_S_roundDown_13 rfl ?_
    refine ar_ireturn kd_S_roundDown_14 rfl (Nat.le_of_ble_eq_true rfl) (Nat.le_of_ble_eq_true rfl) ?_
    exact ⟨by rw [e1], rfl, rfl⟩
  · have e1 : ck_rd a p = a - a % p := if_pos (by omega)
    refine ar_iload_n kd_S_roundDown_5 rfl ?_
    refine ar_iload_n kd_S_roundDown_6 rfl ?_
    refine ar_iload_n kd_S_roundDown_7 rfl ?_
    refine az_irem kd_S_roundDown_8 (by omega) (by omega) ?_
    refine az_isub kd_S_roundDown_9 ?_
    refine ar_goto (tg := 14) kd_S_roundDown_10 (by decide) ?_
    refine ar_ireturn kd_S_roundDown_14 rfl (Nat.le_of_ble_eq_true rfl) (Nat.le_of_ble_eq_true rfl) ?_
    exact ⟨by rw [e1], rfl, rfl⟩
/-- what the search keeps, in its ranges -/
def cA (c : cS) : Prop := ∀ l, l < 6 → (0 ≤ cg_ac c l ∧ cg_ac c l ≤ 8) ∧ (0 ≤ cg_tr c l ∧ cg_tr c l < 256) ∧ (0 ≤ cg_be c l ∧ cg_be c l < 256) ∧ ∀ k, k < 8 → 0 ≤ cg_al c l k ∧ cg_al c l k ≤ 7
/-- nothing is given twice -/
def cP (c : cS) : Prop := cI c ∧ ∀ k, k < 8 → 0 ≤ cg_fr c k
theorem zs_one {f : Nat → Int} {l : Nat} : ∀ n, (∀ k, k < n → 0 ≤ f k) → l < n → f l ≤ zs f n
  | 0, _, h => by omega
  | n + 1, h, hl => by
    have h1 := zs_nonneg (f := f) n (fun k hk => h k (by omega))
    have h2 := h n (by omega)
    simp only [zs]
    rcases Nat.lt_or_ge l n with q | q
    · have := zs_one n (fun k hk => h k (by omega)) q
      omega
    · have e : l = n := by omega
      subst e
      omega
theorem cP_move {c : cS} (h : cP c) {l k : Nat} {z : Int} (hl : l < 6) (hk : k < 8) (hz : -cg_gi c l k ≤ z ∧ z ≤ cg_fr c k) : cP (ck_move c l k z) := by
  have h1 := h.1.2 k hk
  have h2 := zs_one (f := fun l => cg_gi c l k) (l := l) 6 (fun j hj => (h.1.1 j k hj hk).1) hl
  refine ⟨cI_move h.1 hl hk (by omega), fun k' hk' => ?_⟩
  show 0 ≤ zu (cg_fr c) k (cg_fr c k - z) k'
  by_cases e : k' = k
  · subst e
    rw [zu_s]
    omega
  · rw [zu_n e]
    exact h.2 k' hk'
theorem cP_letGo {c : cS} (h : cP c) {l : Nat} (hl : l < 6) (hT : cg_nT c ≤ 8) : cP (ck_letGo c l) := by
  have : ∀ n, n ≤ 8 → cP (zf (fun c k => ck_move c l k (-cg_gi c l k)) c n) := by
    intro n
    induction n with
    | zero => intro _; exact h
    | succ n ih =>
      intro hn
      have h1 := ih (by omega)
      have h2 := h1.1.1 l n hl (by omega)
      have h3 := h1.2 n (by omega)
      exact cP_move h1 hl (by omega) (by omega)
  exact this _ hT
theorem ck_move_A {c : cS} (l k : Nat) (z : Int) (h : cA c) : cA (ck_move c l k z) := h
theorem ck_letGo_A {c : cS} (l : Nat) (h : cA c) : cA (ck_letGo c l) := zf_inv (fun a k ha => ck_move_A l k _ ha) h _
theorem sp_F_moveU {d : Nat} {x : am_C} {c : cS} {t : List am_C} {n : Nat} {l k : Nat} {z u : Int} (hl : l < 6) (hk : k < 8) (hu : u = (k : Int)) : am_W d km_F_move 0 [some (.ref 5), some (.int (iI l)), some (.int (iI u)), some (.int (iI z))] [] (hC x c t) n 0 0 (am_eq none (hC x (ck_move c l k z) t) n) := by
  subst hu
  exact sp_F_move hl hk
/-- a line takes of the lot at place k of its allowed ones -/
def ck_t1 (l s : Nat) (q : cS × Int × Int) (k : Nat) : cS × Int × Int :=
  if s.testBit k = true then
    (ck_move q.1 l (cg_al q.1 l k).toNat (ck_rd (zn q.2.1 (cg_fr q.1 (cg_al q.1 l k).toNat)) (cg_rl q.1 l 1)), q.2.1 - ck_rd (zn q.2.1 (cg_fr q.1 (cg_al q.1 l k).toNat)) (cg_rl q.1 l 1), q.2.2 + zb (0 < ck_rd (zn q.2.1 (cg_fr q.1 (cg_al q.1 l k).toNat)) (cg_rl q.1 l 1)))
  else q
def ck_tk (c : cS) (l s k : Nat) : cS × Int × Int := zf (ck_t1 l s) (c, cg_lw c l, 0) k
def ck_take (c : cS) (l s : Nat) : cS × Int := if 0 < (ck_tk c l s (cg_ac c l).toNat).2.1 ∧ cg_rl c l 3 = 1 then (ck_letGo (ck_tk c l s (cg_ac c l).toNat).1 l, 0) else ((ck_tk c l s (cg_ac c l).toNat).1, (ck_tk c l s (cg_ac c l).toNat).2.2)
theorem ck_t1_keep {β : Type} {P : cS → β} (h : ∀ c l k z, P (ck_move c l k z) = P c) (l s : Nat) (q : cS × Int × Int) (k : Nat) : P (ck_t1 l s q k).1 = P q.1 := by
  unfold ck_t1
  split
  · exact h _ _ _ _
  · rfl
theorem ck_tk_keep {β : Type} {P : cS → β} (h : ∀ c l k z, P (ck_move c l k z) = P c) (c : cS) (l s k : Nat) : P (ck_tk c l s k).1 = P c := zf_keep (g := ck_t1 l s) (P := fun q : cS × Int × Int => P q.1) (fun q k => ck_t1_keep h l s q k) (c, cg_lw c l, 0) k
theorem ck_letGo_keep {β : Type} {P : cS → β} (h : ∀ c l k z, P (ck_move c l k z) = P c) (c : cS) (l : Nat) : P (ck_letGo c l) = P c := zf_keep (g := fun c k => ck_move c l k (-cg_gi c l k)) (P := P) (fun a k => h _ _ _ _) c _
theorem ck_take_keep {β : Type} {P : cS → β} (h : ∀ c l k z, P (ck_move c l k z) = P c) (c : cS) (l s : Nat) : P (ck_take c l s).1 = P c := by
  unfold ck_take
  split
  · exact (ck_letGo_keep h _ _).trans (ck_tk_keep h c l s _)
  · exact ck_tk_keep h c l s _
/-- what holds of a state while a line takes -/
theorem ck_tk_ok {c : cS} (hK : cK c) (hA : cA c) (hP : cP c) {l : Nat} (s : Nat) (hl : l < 6) : ∀ k, k ≤ 8 → cK (ck_tk c l s k).1 ∧ cA (ck_tk c l s k).1 ∧ cP (ck_tk c l s k).1 ∧ (0 ≤ (ck_tk c l s k).2.1 ∧ (ck_tk c l s k).2.1 ≤ 200) ∧ (0 ≤ (ck_tk c l s k).2.2 ∧ (ck_tk c l s k).2.2 ≤ k)
  | 0, _ => by
    have h1 := hK.line hl
    exact ⟨hK, hA, hP, h1.2.1, Int.le_refl 0, Int.le_refl 0⟩
  | k + 1, hk => by
    obtain ⟨h1, h2, h3, h4, h5⟩ := ck_tk_ok hK hA hP s hl k (by omega)
    have e : ck_tk c l s (k + 1) = ck_t1 l s (ck_tk c l s k) k := rfl
    rw [e]
    unfold ck_t1
    split
    · have ha := (h2 l hl).2.2.2 k (by omega)
      have hl8 : (cg_al (ck_tk c l s k).1 l k).toNat < 8 := by omega
      have hf := h3.2 _ hl8
      have hz : 0 ≤ zn (ck_tk c l s k).2.1 (cg_fr (ck_tk c l s k).1 (cg_al (ck_tk c l s k).1 l k).toNat) ∧ zn (ck_tk c l s k).2.1 (cg_fr (ck_tk c l s k).1 (cg_al (ck_tk c l s k).1 l k).toNat) ≤ (ck_tk c l s k).2.1 ∧ zn (ck_tk c l s k).2.1 (cg_fr (ck_tk c l s k).1 (cg_al (ck_tk c l s k).1 l k).toNat) ≤ cg_fr (ck_tk c l s k).1 (cg_al (ck_tk c l s k).1 l k).toNat := by
        unfold zn
        split <;> omega
      have hr := ck_rd_rg (p := cg_rl (ck_tk c l s k).1 l 1) hz.1
      have hg := h3.1.1 l _ hl hl8
      refine ⟨h1, h2, cP_move h3 hl hl8 (by omega), by simp only; omega, ?_⟩
      simp only [zb]
      split <;> omega
    · exact ⟨h1, h2, h3, h4, by omega⟩
theorem ck_take_ok {c : cS} (hK : cK c) (hA : cA c) (hP : cP c) {l : Nat} (s : Nat) (hl : l < 6) : cK (ck_take c l s).1 ∧ cA (ck_take c l s).1 ∧ cP (ck_take c l s).1 ∧ 0 ≤ (ck_take c l s).2 ∧ (ck_take c l s).2 ≤ 8 := by
  have ha := (hA l hl).1
  obtain ⟨h1, h2, h3, h4, h5⟩ := ck_tk_ok hK hA hP s hl (cg_ac c l).toNat (by omega)
  unfold ck_take
  split
  · exact ⟨ck_letGo_K l h1, ck_letGo_A l h2, cP_letGo h3 hl h1.nn.1, Int.le_refl 0, by omega⟩
  · exact ⟨h1, h2, h3, h5.1, by simp only; omega⟩
set_option maxHeartbeats 1000000 in
set_option maxRecDepth 20000 in
theorem sp_S_take {d : Nat} {x : am_C} {c : cS} {t : List am_C} {n : Nat} {l s : Nat} (hl : l < 6) (hs : s < 256) (hK : cK c) (hA : cA c) (hP : cP c) : am_W (d + 2) km_S_take 0 [some (.ref 38), some (.int (iI l)), some (.int (iI s)), none, none, none, none, none] [] (hC x c t) n 0 0 (am_eq (some (.int (iI (ck_take c l s).2))) (hC x (ck_take c l s).1 t) n) := by
  have hac0 := (hA l hl).1
  have loop : ∀ (f i : Nat), i ≤ (cg_ac c l).toNat → (cg_ac c l).toNat - i < f → ∀ (w1 w2 : Option Value), am_W (d + 2) km_S_take 16 [some (.ref 38), some (.int (iI l)), some (.int (iI s)), some (.int (iI (ck_tk c l s i).2.1)), some (.int (iI (ck_tk c l s i).2.2)), some (.int (iI i)), w1, w2] [] (hC x (ck_tk c l s i).1 t) n 0 0 (am_eq (some (.int (iI (ck_take c l s).2))) (hC x (ck_take c l s).1 t) n) := by
    intro f
    induction f with
    | zero => intro i hi1 hi2 w1 w2; omega
    | succ f ih =>
      intro i hi1 hi2 w1 w2
      obtain ⟨h1, h2, h3, h4, h5⟩ := ck_tk_ok hK hA hP s hl i (by omega)
      have hac := (hA l hl).1
      have eac : cg_ac (ck_tk c l s i).1 l = cg_ac c l := congrFun (ck_tk_keep (P := fun c => cg_ac c) (fun _ _ _ _ => rfl) c l s i) l
      have hrl := h1.line hl
      refine ar_iload kd_S_take_16 rfl ?_
      refine ar_aload_n kd_S_take_18 rfl ?_
      refine ar_get (ci := 4) (k := 4) kd_S_take_19 rfl kw_139 (by decide) rfl rfl ?_
      refine ar_iload_n kd_S_take_22 rfl ?_
      refine az_iald kd_S_take_23 rfl rfl (by omega) ?_
      refine az_icmp_ge (tg := 116) kd_S_take_24 (by decide) (fun qa => ?_) (fun qa => ?_)
      · obtain rfl : i = (cg_ac c l).toNat := by omega
        refine ar_iload_n kd_S_take_116 rfl ?_
        have erl : cg_rl (ck_tk c l s (cg_ac c l).toNat).1 l 3 = cg_rl c l 3 := congrFun (congrFun (ck_tk_keep (P := fun c => cg_rl c) (fun _ _ _ _ => rfl) c l s _) l) 3
        refine az_if_le (tg := 145) kd_S_take_117 (by decide) (fun qd => ?_) (fun qd => ?_)
        · have e3 : ck_take c l s = ((ck_tk c l s (cg_ac c l).toNat).1, (ck_tk c l s (cg_ac c l).toNat).2.2) := if_neg (by omega)
          refine ar_iload kd_S_take_145 rfl ?_
          refine ar_ireturn kd_S_take_147 rfl (Nat.le_of_ble_eq_true rfl) (Nat.le_of_ble_eq_true rfl) ?_
          exact ⟨by rw [e3], by rw [e3], rfl⟩
        · refine ar_aload_n kd_S_take_120 rfl ?_
          refine ar_get (ci := 4) (k := 2) kd_S_take_121 rfl kw_137 (by decide) rfl rfl ?_
          refine ar_get (ci := 2) (k := 4) kd_S_take_124 rfl kw_94 (by decide) rfl rfl ?_
          refine ar_iload_n kd_S_take_127 rfl ?_
          refine az_aald kd_S_take_128 rfl rfl (by omega) (if_pos (by omega)) ?_
          refine ar_iconst kd_S_take_129 ?_
          refine az_iald kd_S_take_130 (hr_rl (by omega)) (k := 3) rfl (by omega) ?_
          refine ar_iconst kd_S_take_131 ?_
          refine az_icmp_ne (tg := 145) kd_S_take_132 (by decide) (fun qe => ?_) (fun qe => ?_)
          · have e3 : ck_take c l s = ((ck_tk c l s (cg_ac c l).toNat).1, (ck_tk c l s (cg_ac c l).toNat).2.2) := if_neg (fun q => qe (by rw [erl]; exact q.2))
            refine ar_iload kd_S_take_145 rfl ?_
            refine ar_ireturn kd_S_take_147 rfl (Nat.le_of_ble_eq_true rfl) (Nat.le_of_ble_eq_true rfl) ?_
            exact ⟨by rw [e3], by rw [e3], rfl⟩
          · have e3 : ck_take c l s = (ck_letGo (ck_tk c l s (cg_ac c l).toNat).1 l, 0) := if_pos ⟨by omega, by rw [← erl]; exact qe⟩
            refine ar_aload_n kd_S_take_135 rfl ?_
            refine ar_get (ci := 4) (k := 0) kd_S_take_136 rfl kw_135 (by decide) rfl rfl ?_
            refine ar_iload_n kd_S_take_139 rfl ?_
            refine az_callv (z := km_F_letGo) (As := [_]) (ci := 1) kd_S_take_140 kw_474 kw_440 rfl ks_F_letGo kz_F_letGo rfl rfl rfl rfl rfl (Nat.le_of_ble_eq_true rfl) (Nat.le_of_ble_eq_true rfl) rfl (sp_F_letGo hl h1) ?_
            refine ar_iconst kd_S_take_143 ?_
            refine ar_ireturn kd_S_take_144 rfl (Nat.le_of_ble_eq_true rfl) (Nat.le_of_ble_eq_true rfl) ?_
            exact ⟨by rw [e3], by rw [e3], rfl⟩
      · refine ar_iload_n kd_S_take_27 rfl ?_
        refine ar_iload kd_S_take_28 rfl ?_
        refine ar_ishr kd_S_take_30 ?_
        refine ar_iconst kd_S_take_31 ?_
        refine ar_iand kd_S_take_32 ?_
        refine ar_iconst kd_S_take_33 ?_
        refine ar_icmp_ne (tg := 110) kd_S_take_34 (by decide) (fun qb => ?_) (fun qb => ?_)
        · have e1 : ck_tk c l s (i + 1) = ck_tk c l s i := if_neg (fun q => qb (by rw [ib_bit hs (by omega), if_pos q]))
          refine az_iinc kd_S_take_110 rfl rfl ?_
          dsimp only [List.set]
          refine ar_goto (tg := 16) kd_S_take_113 (by decide) ?_
          first | (have h9 := ih (i + 1) (by omega) (by omega) w1 w2; rw [e1] at h9; exact h9) | (have h9 := ih (i + 1) (by omega) (by omega) (some (.int (iI (cg_al (ck_tk c l s i).1 l i)))) (some (.int (iI (ck_rd (zn (ck_tk c l s i).2.1 (cg_fr (ck_tk c l s i).1 (cg_al (ck_tk c l s i).1 l i).toNat)) (cg_rl (ck_tk c l s i).1 l 1))))); rw [e1, e2] at h9; exact h9)
        · have ha := (h2 l hl).2.2.2 i (by omega)
          have ea : cg_al (ck_tk c l s i).1 l i = (((cg_al (ck_tk c l s i).1 l i).toNat : Nat) : Int) := (Int.toNat_of_nonneg ha.1).symm
          have hl8 : (cg_al (ck_tk c l s i).1 l i).toNat < 8 := by omega
          have hfr := h3.1.G.fr hl8
          have hf0 := h3.2 _ hl8
          have hz : 0 ≤ zn (ck_tk c l s i).2.1 (cg_fr (ck_tk c l s i).1 (cg_al (ck_tk c l s i).1 l i).toNat) ∧ zn (ck_tk c l s i).2.1 (cg_fr (ck_tk c l s i).1 (cg_al (ck_tk c l s i).1 l i).toNat) ≤ 200 := by
            unfold zn
            split <;> omega
          have hr := ck_rd_rg (p := cg_rl (ck_tk c l s i).1 l 1) hz.1
          have e1 : ck_tk c l s (i + 1) = (ck_move (ck_tk c l s i).1 l (cg_al (ck_tk c l s i).1 l i).toNat (ck_rd (zn (ck_tk c l s i).2.1 (cg_fr (ck_tk c l s i).1 (cg_al (ck_tk c l s i).1 l i).toNat)) (cg_rl (ck_tk c l s i).1 l 1)), (ck_tk c l s i).2.1 - (ck_rd (zn (ck_tk c l s i).2.1 (cg_fr (ck_tk c l s i).1 (cg_al (ck_tk c l s i).1 l i).toNat)) (cg_rl (ck_tk c l s i).1 l 1)), (ck_tk c l s i).2.2 + zb (0 < (ck_rd (zn (ck_tk c l s i).2.1 (cg_fr (ck_tk c l s i).1 (cg_al (ck_tk c l s i).1 l i).toNat)) (cg_rl (ck_tk c l s i).1 l 1)))) := if_pos (Decidable.byContradiction fun q => absurd qb (by rw [ib_bit hs (by omega), if_neg q]; decide))
          refine ar_aload_n kd_S_take_37 rfl ?_
          refine ar_get (ci := 4) (k := 3) kd_S_take_38 rfl kw_138 (by decide) rfl rfl ?_
          refine ar_iload_n kd_S_take_41 rfl ?_
          refine az_aald kd_S_take_42 rfl rfl (by omega) (if_pos (by omega)) ?_
          refine ar_iload kd_S_take_43 rfl ?_
          refine az_iald kd_S_take_45 (hr_al (by omega)) rfl (by omega) ?_
          refine ar_istore kd_S_take_46 (Nat.le_of_ble_eq_true rfl) rfl ?_
          dsimp only [List.set]
          refine ar_iload_n kd_S_take_48 rfl ?_
          refine ar_aload_n kd_S_take_49 rfl ?_
          refine ar_get (ci := 4) (k := 1) kd_S_take_50 rfl kw_136 (by decide) rfl rfl ?_
          refine ar_get (ci := 3) (k := 5) kd_S_take_53 rfl kw_52 (by decide) rfl rfl ?_
          refine ar_iload kd_S_take_56 rfl ?_
          refine az_iald kd_S_take_58 rfl (k := (cg_al (ck_tk c l s i).1 l i).toNat) ea hl8 ?_
          refine ar_min kd_S_take_59 kw_465 kw_217 kw_13 kw_218 rfl (Nat.le_of_ble_eq_true rfl) (Nat.zero_le _) (Nat.zero_le _) ?_
          rw [ii_min (by omega) (by omega)]
          refine ar_aload_n kd_S_take_62 rfl ?_
          refine ar_get (ci := 4) (k := 2) kd_S_take_63 rfl kw_137 (by decide) rfl rfl ?_
          refine ar_get (ci := 2) (k := 4) kd_S_take_66 rfl kw_94 (by decide) rfl rfl ?_
          refine ar_iload_n kd_S_take_69 rfl ?_
          refine az_aald kd_S_take_70 rfl rfl (by omega) (if_pos (by omega)) ?_
          refine ar_iconst kd_S_take_71 ?_
          refine az_iald kd_S_take_72 (hr_rl (by omega)) (k := 1) rfl (by omega) ?_
          refine az_calls (z := km_S_roundDown) (As := [_, _]) kd_S_take_73 kw_470 kw_471 kw_5 kz_S_roundDown rfl rfl rfl rfl (Nat.le_of_ble_eq_true rfl) (Nat.le_of_ble_eq_true rfl) rfl (sp_S_roundDown (by omega) (by omega)) ?_
          refine ar_istore kd_S_take_76 (Nat.le_of_ble_eq_true rfl) rfl ?_
          dsimp only [List.set]
          refine ar_aload_n kd_S_take_78 rfl ?_
          refine ar_get (ci := 4) (k := 0) kd_S_take_79 rfl kw_135 (by decide) rfl rfl ?_
          refine ar_iload_n kd_S_take_82 rfl ?_
          refine ar_iload kd_S_take_83 rfl ?_
          refine ar_iload kd_S_take_85 rfl ?_
          refine az_callv (z := km_F_move) (As := [_, _, _]) (ci := 1) kd_S_take_87 kw_473 kw_444 rfl ks_F_move kz_F_move rfl rfl rfl rfl rfl (Nat.le_of_ble_eq_true rfl) (Nat.le_of_ble_eq_true rfl) rfl (sp_F_moveU (d := d + 1) hl hl8 ea) ?_
          refine ar_iload_n kd_S_take_90 rfl ?_
          refine ar_iload kd_S_take_91 rfl ?_
          refine az_isub kd_S_take_93 ?_
          refine ar_istore_n kd_S_take_94 (Nat.le_of_ble_eq_true rfl) rfl ?_
          dsimp only [List.set]
          refine ar_iload kd_S_take_95 rfl ?_
          refine ar_iload kd_S_take_97 rfl ?_
          refine az_if_le (tg := 106) kd_S_take_99 (by decide) (fun q5 => ?_) (fun q5 => ?_)
          · have e2 : zb (0 < (ck_rd (zn (ck_tk c l s i).2.1 (cg_fr (ck_tk c l s i).1 (cg_al (ck_tk c l s i).1 l i).toNat)) (cg_rl (ck_tk c l s i).1 l 1))) = 0 := if_neg (by omega)
            refine ar_iconst kd_S_take_106 ?_
            refine az_iadd kd_S_take_107 ?_
            refine ar_istore kd_S_take_108 (Nat.le_of_ble_eq_true rfl) rfl ?_
            dsimp only [List.set]
            refine az_iinc kd_S_take_110 rfl rfl ?_
            dsimp only [List.set]
            refine ar_goto (tg := 16) kd_S_take_113 (by decide) ?_
            first | (have h9 := ih (i + 1) (by omega) (by omega) w1 w2; rw [e1] at h9; exact h9) | (have h9 := ih (i + 1) (by omega) (by omega) (some (.int (iI (cg_al (ck_tk c l s i).1 l i)))) (some (.int (iI (ck_rd (zn (ck_tk c l s i).2.1 (cg_fr (ck_tk c l s i).1 (cg_al (ck_tk c l s i).1 l i).toNat)) (cg_rl (ck_tk c l s i).1 l 1))))); rw [e1, e2] at h9; exact h9)
          · have e2 : zb (0 < (ck_rd (zn (ck_tk c l s i).2.1 (cg_fr (ck_tk c l s i).1 (cg_al (ck_tk c l s i).1 l i).toNat)) (cg_rl (ck_tk c l s i).1 l 1))) = 1 := if_pos (by omega)
            refine ar_iconst kd_S_take_102 ?_
            refine ar_goto (tg := 107) kd_S_take_103 (by decide) ?_
            refine az_iadd kd_S_take_107 ?_
            refine ar_istore kd_S_take_108 (Nat.le_of_ble_eq_true rfl) rfl ?_
            dsimp only [List.set]
            refine az_iinc kd_S_take_110 rfl rfl ?_
            dsimp only [List.set]
            refine ar_goto (tg := 16) kd_S_take_113 (by decide) ?_
            first | (have h9 := ih (i + 1) (by omega) (by omega) w1 w2; rw [e1] at h9; exact h9) | (have h9 := ih (i + 1) (by omega) (by omega) (some (.int (iI (cg_al (ck_tk c l s i).1 l i)))) (some (.int (iI (ck_rd (zn (ck_tk c l s i).2.1 (cg_fr (ck_tk c l s i).1 (cg_al (ck_tk c l s i).1 l i).toNat)) (cg_rl (ck_tk c l s i).1 l 1))))); rw [e1, e2] at h9; exact h9)
  refine ar_aload_n kd_S_take_0 rfl ?_
  refine ar_get (ci := 4) (k := 2) kd_S_take_1 rfl kw_137 (by decide) rfl rfl ?_
  refine ar_get (ci := 2) (k := 2) kd_S_take_4 rfl kw_89 (by decide) rfl rfl ?_
  refine ar_iload_n kd_S_take_7 rfl ?_
  refine az_iald kd_S_take_8 rfl rfl (by omega) ?_
  refine ar_istore_n kd_S_take_9 (Nat.le_of_ble_eq_true rfl) rfl ?_
  dsimp only [List.set]
  refine ar_iconst kd_S_take_10 ?_
  refine ar_istore kd_S_take_11 (Nat.le_of_ble_eq_true rfl) rfl ?_
  dsimp only [List.set]
  refine ar_iconst kd_S_take_13 ?_
  refine ar_istore kd_S_take_14 (Nat.le_of_ble_eq_true rfl) rfl ?_
  dsimp only [List.set]
  exact loop ((cg_ac c l).toNat + 1) 0 (by omega) (by omega) _ _
end
section
/-! the search, on -/
theorem hp_bc {x : am_C} {c : cS} {t : List am_C} (v : Int) : (hC x c t).set 38 (am_ob 4 [.ref 5, .ref 6, .ref 13, .ref 39, .ref 46, .ref 47, .ref 48, .ref 49, .int (iI v)]) = hC x (cs_bc c v) t := rfl
theorem zf_invB {α : Type} {g : α → Nat → α} {P : α → Prop} {N : Nat} (h : ∀ a k, k < N → P a → P (g a k)) {a : α} (ha : P a) : ∀ n, n ≤ N → P (zf g a n)
  | 0, _ => ha
  | n + 1, hn => h _ _ (by omega) (zf_invB h ha n (by omega))
/-- the place k of the order is looked at for the line l; then a line's row of allowed lots is laid -/
def ck_a1 (l : Nat) (q : cS × Nat) (k : Nat) : cS × Nat := if ck_all q.1 l (cg_od q.1 k).toNat then (cs_al q.1 (zr (cg_al q.1) l (zu (cg_al q.1 l) q.2 (cg_od q.1 k))), q.2 + 1) else q
def ck_a2 (c : cS) (l k : Nat) : cS × Nat := zf (ck_a1 l) (c, 0) k
def ck_ra (c : cS) (l : Nat) : cS := cs_ac (ck_a2 c l (cg_nT c)).1 (zu (cg_ac (ck_a2 c l (cg_nT c)).1) l ((ck_a2 c l (cg_nT c)).2 : Int))
def ck_read (c : cS) (i : Nat) : cS := zf ck_ra c i
theorem ck_a2_keep {β : Type} {P : cS → β} (h : ∀ c v, P (cs_al c v) = P c) (c : cS) (l k : Nat) : P (ck_a2 c l k).1 = P c := zf_keep (g := ck_a1 l) (P := fun q : cS × Nat => P q.1) (fun q k => by
  unfold ck_a1
  split
  · exact h _ _
  · rfl) (c, 0) k
theorem ck_ra_keep {β : Type} {P : cS → β} (h : ∀ c v, P (cs_al c v) = P c) (h2 : ∀ c v, P (cs_ac c v) = P c) (c : cS) (l : Nat) : P (ck_ra c l) = P c := (h2 _ _).trans (ck_a2_keep h c l _)
theorem ck_read_keep {β : Type} {P : cS → β} (h : ∀ c v, P (cs_al c v) = P c) (h2 : ∀ c v, P (cs_ac c v) = P c) (c : cS) (i : Nat) : P (ck_read c i) = P c := zf_keep (g := ck_ra) (P := P) (fun a k => ck_ra_keep h h2 a k) c i
theorem cK_al {c : cS} (h : cK c) (v : Nat → Nat → Int) : cK (cs_al c v) := h
theorem cP_al {c : cS} (h : cP c) (v : Nat → Nat → Int) : cP (cs_al c v) := h
theorem cK_ac {c : cS} (h : cK c) (v : Nat → Int) : cK (cs_ac c v) := h
theorem cP_ac {c : cS} (h : cP c) (v : Nat → Int) : cP (cs_ac c v) := h
theorem cA_al {c : cS} (h : cA c) {l f : Nat} {v : Int} (hv : 0 ≤ v ∧ v ≤ 7) : cA (cs_al c (zr (cg_al c) l (zu (cg_al c l) f v))) := by
  intro l' hl'
  refine ⟨(h l' hl').1, (h l' hl').2.1, (h l' hl').2.2.1, fun k hk => ?_⟩
  have h1 := (h l' hl').2.2.2 k hk
  show 0 ≤ zr (cg_al c) l (zu (cg_al c l) f v) l' k ∧ zr (cg_al c) l (zu (cg_al c l) f v) l' k ≤ 7
  by_cases e : l' = l
  · subst e
    rw [zr_s]
    by_cases e2 : k = f
    · subst e2
      rw [zu_s]
      exact hv
    · rw [zu_n e2]
      exact h1
  · rw [zr_n e]
    exact h1
theorem cA_ac {c : cS} (h : cA c) {l : Nat} {v : Int} (hv : 0 ≤ v ∧ v ≤ 8) : cA (cs_ac c (zu (cg_ac c) l v)) := by
  intro l' hl'
  refine ⟨?_, (h l' hl').2⟩
  show 0 ≤ zu (cg_ac c) l v l' ∧ zu (cg_ac c) l v l' ≤ 8
  by_cases e : l' = l
  · subst e
    rw [zu_s]
    exact hv
  · rw [zu_n e]
    exact (h l' hl').1
theorem ck_a2_ok {c : cS} (hK : cK c) (hA : cA c) (hP : cP c) (l : Nat) : ∀ k, k ≤ 8 → cK (ck_a2 c l k).1 ∧ cA (ck_a2 c l k).1 ∧ cP (ck_a2 c l k).1 ∧ (ck_a2 c l k).2 ≤ k
  | 0, _ => ⟨hK, hA, hP, Nat.le_refl 0⟩
  | k + 1, hk => by
    obtain ⟨h1, h2, h3, h4⟩ := ck_a2_ok hK hA hP l k (by omega)
    have e : ck_a2 c l (k + 1) = ck_a1 l (ck_a2 c l k) k := rfl
    rw [e]
    unfold ck_a1
    split
    · exact ⟨cK_al h1 _, cA_al h2 (h1.lot (by omega)).2.2.2, cP_al h3 _, by simp only; omega⟩
    · exact ⟨h1, h2, h3, by omega⟩
theorem ck_ra_ok {c : cS} (hK : cK c) (hA : cA c) (hP : cP c) (l : Nat) : cK (ck_ra c l) ∧ cA (ck_ra c l) ∧ cP (ck_ra c l) := by
  have hT := hK.nn.1
  obtain ⟨h1, h2, h3, h4⟩ := ck_a2_ok hK hA hP l (cg_nT c) hT
  exact ⟨cK_ac h1 _, cA_ac h2 (by omega), cP_ac h3 _⟩
theorem ck_read_ok {c : cS} (hK : cK c) (hA : cA c) (hP : cP c) (i : Nat) : cK (ck_read c i) ∧ cA (ck_read c i) ∧ cP (ck_read c i) := zf_inv (P := fun a => cK a ∧ cA a ∧ cP a) (fun a k h => ck_ra_ok h.1 h.2.1 h.2.2 k) ⟨hK, hA, hP⟩ i
theorem sp_F_allowsU {d : Nat} {x : am_C} {c : cS} {t : List am_C} {n : Nat} {l k : Nat} {u : Int} (hl : l < 6) (hk : k < 8) (hu : u = (k : Int)) (hK : cK c) (hG : cG c) : am_W (d + 2) km_F_allows 0 [some (.ref 5), some (.int (iI l)), some (.int (iI u))] [] (hC x c t) n 0 0 (am_eq (some (.int (iI (zb (ck_all c l k))))) (hC x c t) n) := by
  subst hu
  exact sp_F_allows hl hk hK hG
set_option maxHeartbeats 1000000 in
set_option maxRecDepth 20000 in
theorem sp_S_readAllowed {d : Nat} {x : am_C} {c : cS} {t : List am_C} {n : Nat} (hK : cK c) (hA : cA c) (hP : cP c) : am_W (d + 3) km_S_readAllowed 0 [some (.ref 38), none, none, none, none] [] (hC x c t) n 0 0 (am_eq none (hC x (ck_read c (cg_nL c)) t) n) := by
  obtain ⟨hT, hL⟩ := hK.nn
  have loop : ∀ (f i : Nat), i ≤ cg_nL c → cg_nL c - i < f → ∀ (w1 w2 w3 : Option Value), am_W (d + 3) km_S_readAllowed 2 [some (.ref 38), some (.int (iI i)), w1, w2, w3] [] (hC x (ck_read c i) t) n 0 0 (am_eq none (hC x (ck_read c (cg_nL c)) t) n) := by
    intro f
    induction f with
    | zero => intro i h1 h2 w1 w2 w3; omega
    | succ f ih =>
      intro i h1 h2 w1 w2 w3
      obtain ⟨r1, r2, r3⟩ := ck_read_ok hK hA hP i
      have eT : cg_nT (ck_read c i) = cg_nT c := ck_read_keep (P := fun c => cg_nT c) (fun _ _ => rfl) (fun _ _ => rfl) c i
      have eL : cg_nL (ck_read c i) = cg_nL c := ck_read_keep (P := fun c => cg_nL c) (fun _ _ => rfl) (fun _ _ => rfl) c i
      refine ar_iload_n kd_S_readAllowed_2 rfl ?_
      refine ar_aload_n kd_S_readAllowed_3 rfl ?_
      refine ar_get (ci := 4) (k := 2) kd_S_readAllowed_4 rfl kw_137 (by decide) rfl rfl ?_
      refine ar_get (ci := 2) (k := 0) kd_S_readAllowed_7 rfl kw_82 (by decide) rfl rfl ?_
      refine az_icmp_ge (tg := 84) kd_S_readAllowed_10 (by decide) (fun qa => ?_) (fun qa => ?_)
      · obtain rfl : i = cg_nL c := by omega
        refine ar_return kd_S_readAllowed_84 rfl (Nat.le_of_ble_eq_true rfl) (Nat.le_of_ble_eq_true rfl) ?_
        exact ⟨rfl, rfl, rfl⟩
      · have loopj : ∀ (g j : Nat), j ≤ cg_nT c → cg_nT c - j < g → ∀ w : Option Value, am_W (d + 3) km_S_readAllowed 17 [some (.ref 38), some (.int (iI i)), some (.int (iI ((ck_a2 (ck_read c i) i j).2 : Int))), some (.int (iI j)), w] [] (hC x (ck_a2 (ck_read c i) i j).1 t) n 0 0 (am_eq none (hC x (ck_read c (cg_nL c)) t) n) := by
          intro g
          induction g with
          | zero => intro j h3 h4; omega
          | succ g ihj =>
            intro j h3 h4 w
            obtain ⟨g1, g2, g3, g4⟩ := ck_a2_ok r1 r2 r3 i j (by omega)
            have en : cg_nT (ck_a2 (ck_read c i) i j).1 = cg_nT c := (ck_a2_keep (P := fun c => cg_nT c) (fun _ _ => rfl) _ i j).trans eT
            refine ar_iload_n kd_S_readAllowed_17 rfl ?_
            refine ar_aload_n kd_S_readAllowed_18 rfl ?_
            refine ar_get (ci := 4) (k := 1) kd_S_readAllowed_19 rfl kw_136 (by decide) rfl rfl ?_
            refine ar_get (ci := 3) (k := 0) kd_S_readAllowed_22 rfl kw_38 (by decide) rfl rfl ?_
            refine az_icmp_ge (tg := 71) kd_S_readAllowed_25 (by decide) (fun qb => ?_) (fun qb => ?_)
            · obtain rfl : j = cg_nT c := by omega
              refine ar_aload_n kd_S_readAllowed_71 rfl ?_
              refine ar_get (ci := 4) (k := 4) kd_S_readAllowed_72 rfl kw_139 (by decide) rfl rfl ?_
              refine ar_iload_n kd_S_readAllowed_75 rfl ?_
              refine ar_iload_n kd_S_readAllowed_76 rfl ?_
              refine az_iast kd_S_readAllowed_77 rfl rfl rfl (by omega) ?_
              rw [hw_ac]
              have e2 : cs_ac (ck_a2 (ck_read c i) i (cg_nT c)).1 (zu (cg_ac (ck_a2 (ck_read c i) i (cg_nT c)).1) i ((ck_a2 (ck_read c i) i (cg_nT c)).2 : Int)) = ck_read c (i + 1) := by
                show _ = ck_ra (ck_read c i) i
                unfold ck_ra
                rw [eT]
              rw [e2]
              refine az_iinc kd_S_readAllowed_78 rfl rfl ?_
              dsimp only [List.set]
              refine ar_goto (tg := 2) kd_S_readAllowed_81 (by decide) ?_
              exact ih (i + 1) (by omega) (by omega) _ _ _
            · have hot := (g1.lot (k := j) (by omega)).2.2.2
              have eo : cg_od (ck_a2 (ck_read c i) i j).1 j = (((cg_od (ck_a2 (ck_read c i) i j).1 j).toNat : Nat) : Int) := (Int.toNat_of_nonneg hot.1).symm
              refine ar_aload_n kd_S_readAllowed_28 rfl ?_
              refine ar_get (ci := 4) (k := 1) kd_S_readAllowed_29 rfl kw_136 (by decide) rfl rfl ?_
              refine ar_get (ci := 3) (k := 6) kd_S_readAllowed_32 rfl kw_55 (by decide) rfl rfl ?_
              refine ar_iload_n kd_S_readAllowed_35 rfl ?_
              refine az_iald kd_S_readAllowed_36 rfl (k := j) rfl (by omega) ?_
              refine ar_istore kd_S_readAllowed_37 (Nat.le_of_ble_eq_true rfl) rfl ?_
              dsimp only [List.set]
              refine ar_aload_n kd_S_readAllowed_39 rfl ?_
              refine ar_get (ci := 4) (k := 0) kd_S_readAllowed_40 rfl kw_135 (by decide) rfl rfl ?_
              refine ar_iload_n kd_S_readAllowed_43 rfl ?_
              refine ar_iload kd_S_readAllowed_44 rfl ?_
              refine az_callv (z := km_F_allows) (As := [_, _]) (ci := 1) kd_S_readAllowed_46 kw_451 kw_192 rfl ks_F_allows kz_F_allows rfl rfl rfl rfl rfl (Nat.le_of_ble_eq_true rfl) (Nat.le_of_ble_eq_true rfl) rfl (sp_F_allowsU (by omega) (k := (cg_od (ck_a2 (ck_read c i) i j).1 j).toNat) (by omega) eo g1 g3.1.G) ?_
              refine az_if_eq (tg := 65) kd_S_readAllowed_49 (by decide) (fun qc => ?_) (fun qc => ?_) (by unfold zb; split <;> omega)
              · have hb : ¬ ck_all (ck_a2 (ck_read c i) i j).1 i (cg_od (ck_a2 (ck_read c i) i j).1 j).toNat := fun q => by simp [zb, q] at qc
                have e1 : ck_a2 (ck_read c i) i (j + 1) = ck_a2 (ck_read c i) i j := if_neg hb
                refine az_iinc kd_S_readAllowed_65 rfl rfl ?_
                dsimp only [List.set]
                refine ar_goto (tg := 17) kd_S_readAllowed_68 (by decide) ?_
                have h9 := ihj (j + 1) (by omega) (by omega) (some (.int (iI (cg_od (ck_a2 (ck_read c i) i j).1 j))))
                rw [e1] at h9
                exact h9
              · have hb : ck_all (ck_a2 (ck_read c i) i j).1 i (cg_od (ck_a2 (ck_read c i) i j).1 j).toNat := Decidable.byContradiction fun q => qc (if_neg q)
                have e1 : ck_a2 (ck_read c i) i (j + 1) = (cs_al (ck_a2 (ck_read c i) i j).1 (zr (cg_al (ck_a2 (ck_read c i) i j).1) i (zu (cg_al (ck_a2 (ck_read c i) i j).1 i) (ck_a2 (ck_read c i) i j).2 (cg_od (ck_a2 (ck_read c i) i j).1 j))), (ck_a2 (ck_read c i) i j).2 + 1) := if_pos hb
                refine ar_aload_n kd_S_readAllowed_52 rfl ?_
                refine ar_get (ci := 4) (k := 3) kd_S_readAllowed_53 rfl kw_138 (by decide) rfl rfl ?_
                refine ar_iload_n kd_S_readAllowed_56 rfl ?_
                refine az_aald kd_S_readAllowed_57 rfl rfl (by omega) (if_pos (by omega)) ?_
                refine ar_iload_n kd_S_readAllowed_58 rfl ?_
                refine ar_iload kd_S_readAllowed_59 rfl ?_
                refine az_iast kd_S_readAllowed_61 (Nat.ble_eq_true_of_le (by omega)) (hr_al (by omega)) (k := (ck_a2 (ck_read c i) i j).2) rfl (by omega) ?_
                rw [hw_al (by omega)]
                refine az_iinc kd_S_readAllowed_62 rfl rfl ?_
                dsimp only [List.set]
                refine az_iinc kd_S_readAllowed_65 rfl rfl ?_
                dsimp only [List.set]
                refine ar_goto (tg := 17) kd_S_readAllowed_68 (by decide) ?_
                have h9 := ihj (j + 1) (by omega) (by omega) (some (.int (iI (cg_od (ck_a2 (ck_read c i) i j).1 j))))
                rw [e1] at h9
                exact h9
        refine ar_iconst kd_S_readAllowed_13 ?_
        refine ar_istore_n kd_S_readAllowed_14 (Nat.le_of_ble_eq_true rfl) rfl ?_
        dsimp only [List.set]
        refine ar_iconst kd_S_readAllowed_15 ?_
        refine ar_istore_n kd_S_readAllowed_16 (Nat.le_of_ble_eq_true rfl) rfl ?_
        dsimp only [List.set]
        exact loopj (cg_nT c + 1) 0 (by omega) (by omega) _
  refine ar_iconst kd_S_readAllowed_0 ?_
  refine ar_istore_n kd_S_readAllowed_1 (Nat.le_of_ble_eq_true rfl) rfl ?_
  dsimp only [List.set]
  exact loop (cg_nL c + 1) 0 (by omega) (by omega) _ _ _
/-- the first lots, as many as told -/
def ck_r3 (c : cS) (l : Nat) : Nat := 2 ^ (zn (cg_rl c l 2) (cg_ac c l)).toNat - 1
def ck_rule (c : cS) (i : Nat) : cS := zf (fun a l => (ck_take a l (ck_r3 a l)).1) c i
theorem ck_r3_lt {c : cS} (hK : cK c) (hA : cA c) {l : Nat} (hl : l < 6) : ck_r3 c l < 256 := by
  have h1 := hK.line hl
  have h2 := (hA l hl).1
  have h3 : (zn (cg_rl c l 2) (cg_ac c l)).toNat ≤ 8 := by unfold zn; split <;> omega
  have h4 := Nat.pow_le_pow_right (n := 2) (by decide) h3
  have h5 := Nat.pow_pos (n := (zn (cg_rl c l 2) (cg_ac c l)).toNat) (show 0 < 2 by decide)
  unfold ck_r3
  omega
theorem ck_rule_ok {c : cS} (hK : cK c) (hA : cA c) (hP : cP c) : ∀ i, i ≤ 6 → cK (ck_rule c i) ∧ cA (ck_rule c i) ∧ cP (ck_rule c i) := fun i hi => zf_invB (P := fun a => cK a ∧ cA a ∧ cP a) (N := 6) (fun a k hk h => by
  obtain ⟨h1, h2, h3, -⟩ := ck_take_ok h.1 h.2.1 h.2.2 (ck_r3 a k) hk
  exact ⟨h1, h2, h3⟩) ⟨hK, hA, hP⟩ i hi
theorem ck_rule_keep {β : Type} {P : cS → β} (h : ∀ c l k z, P (ck_move c l k z) = P c) (c : cS) (i : Nat) : P (ck_rule c i) = P c := zf_keep (g := fun a l => (ck_take a l (ck_r3 a l)).1) (P := P) (fun a k => ck_take_keep h a k _) c i
set_option maxHeartbeats 1000000 in
set_option maxRecDepth 20000 in
theorem sp_S_allocateByRule {d : Nat} {x : am_C} {c : cS} {t : List am_C} {n : Nat} (hK : cK c) (hA : cA c) (hP : cP c) : am_W (d + 3) km_S_allocateByRule 0 [some (.ref 38), none, none] [] (hC x c t) n 0 0 (am_eq none (hC x (ck_rule c (cg_nL c)) t) n) := by
  obtain ⟨hT, hL⟩ := hK.nn
  have loop : ∀ (f i : Nat), i ≤ cg_nL c → cg_nL c - i < f → ∀ (w : Option Value), am_W (d + 3) km_S_allocateByRule 2 [some (.ref 38), some (.int (iI i)), w] [] (hC x (ck_rule c i) t) n 0 0 (am_eq none (hC x (ck_rule c (cg_nL c)) t) n) := by
    intro f
    induction f with
    | zero => intro i h1 h2 w; omega
    | succ f ih =>
      intro i h1 h2 w
      obtain ⟨r1, r2, r3⟩ := ck_rule_ok hK hA hP i (by omega)
      have eL : cg_nL (ck_rule c i) = cg_nL c := ck_rule_keep (P := fun c => cg_nL c) (fun _ _ _ _ => rfl) c i
      refine ar_iload_n kd_S_allocateByRule_2 rfl ?_
      refine ar_aload_n kd_S_allocateByRule_3 rfl ?_
      refine ar_get (ci := 4) (k := 2) kd_S_allocateByRule_4 rfl kw_137 (by decide) rfl rfl ?_
      refine ar_get (ci := 2) (k := 0) kd_S_allocateByRule_7 rfl kw_82 (by decide) rfl rfl ?_
      refine az_icmp_ge (tg := 51) kd_S_allocateByRule_10 (by decide) (fun q1 => ?_) (fun q1 => ?_)
      · obtain rfl : i = cg_nL c := by omega
        refine ar_return kd_S_allocateByRule_51 rfl (Nat.le_of_ble_eq_true rfl) (Nat.le_of_ble_eq_true rfl) ?_
        exact ⟨rfl, rfl, rfl⟩
      · have g1 := r1.line (l := i) (by omega)
        have g2 := (r2 i (by omega)).1
        have hz : 0 ≤ (zn (cg_rl (ck_rule c i) i 2) (cg_ac (ck_rule c i) i)) ∧ (zn (cg_rl (ck_rule c i) i 2) (cg_ac (ck_rule c i) i)) ≤ 8 := by unfold zn; split <;> omega
        have ez : (zn (cg_rl (ck_rule c i) i 2) (cg_ac (ck_rule c i) i)) = (((zn (cg_rl (ck_rule c i) i 2) (cg_ac (ck_rule c i) i)).toNat : Nat) : Int) := (Int.toNat_of_nonneg hz.1).symm
        have hpp := Nat.pow_pos (n := (zn (cg_rl (ck_rule c i) i 2) (cg_ac (ck_rule c i) i)).toNat) (show 0 < 2 by decide)
        refine ar_aload_n kd_S_allocateByRule_13 rfl ?_
        refine ar_get (ci := 4) (k := 2) kd_S_allocateByRule_14 rfl kw_137 (by decide) rfl rfl ?_
        refine ar_get (ci := 2) (k := 4) kd_S_allocateByRule_17 rfl kw_94 (by decide) rfl rfl ?_
        refine ar_iload_n kd_S_allocateByRule_20 rfl ?_
        refine az_aald kd_S_allocateByRule_21 rfl rfl (by omega) (if_pos (by omega)) ?_
        refine ar_iconst kd_S_allocateByRule_22 ?_
        refine az_iald kd_S_allocateByRule_23 (hr_rl (by omega)) (k := 2) rfl (by omega) ?_
        refine ar_aload_n kd_S_allocateByRule_24 rfl ?_
        refine ar_get (ci := 4) (k := 4) kd_S_allocateByRule_25 rfl kw_139 (by decide) rfl rfl ?_
        refine ar_iload_n kd_S_allocateByRule_28 rfl ?_
        refine az_iald kd_S_allocateByRule_29 rfl rfl (by omega) ?_
        refine ar_min kd_S_allocateByRule_30 kw_465 kw_217 kw_13 kw_218 rfl (Nat.le_of_ble_eq_true rfl) (Nat.zero_le _) (Nat.zero_le _) ?_
        rw [ii_min (by omega) (by omega)]
        refine ar_istore_n kd_S_allocateByRule_33 (Nat.le_of_ble_eq_true rfl) rfl ?_
        dsimp only [List.set]
        refine ar_aload_n kd_S_allocateByRule_34 rfl ?_
        refine ar_iload_n kd_S_allocateByRule_35 rfl ?_
        refine ar_iconst kd_S_allocateByRule_36 ?_
        refine ar_iload_n kd_S_allocateByRule_37 rfl ?_
        refine ar_ishl kd_S_allocateByRule_38 ?_
        rw [show iI (zn (cg_rl (ck_rule c i) i 2) (cg_ac (ck_rule c i) i)) = iI (((zn (cg_rl (ck_rule c i) i 2) (cg_ac (ck_rule c i) i)).toNat : Nat) : Int) from congrArg iI ez, ib_shl (by omega)]
        refine ar_iconst kd_S_allocateByRule_39 ?_
        refine az_isub kd_S_allocateByRule_40 ?_
        rw [show ((2 ^ (zn (cg_rl (ck_rule c i) i 2) (cg_ac (ck_rule c i) i)).toNat : Nat) : Int) - 1 = ((ck_r3 (ck_rule c i) i : Nat) : Int) by unfold ck_r3; omega]
        refine az_callv (z := km_S_take) (As := [_, _]) (ci := 4) kd_S_allocateByRule_41 kw_466 kw_468 rfl ks_S_take kz_S_take rfl rfl rfl rfl rfl (Nat.le_of_ble_eq_true rfl) (Nat.le_of_ble_eq_true rfl) rfl (sp_S_take (by omega) (ck_r3_lt r1 r2 (by omega)) r1 r2 r3) ?_
        refine ar_pop kd_S_allocateByRule_44 rfl ?_
        refine az_iinc kd_S_allocateByRule_45 rfl rfl ?_
        dsimp only [List.set]
        refine ar_goto (tg := 2) kd_S_allocateByRule_48 (by decide) ?_
        exact ih (i + 1) (by omega) (by omega) _
  refine ar_iconst kd_S_allocateByRule_0 ?_
  refine ar_istore_n kd_S_allocateByRule_1 (Nat.le_of_ble_eq_true rfl) rfl ?_
  dsimp only [List.set]
  exact loop (cg_nL c + 1) 0 (by omega) (by omega) _
def ck_rbs : Nat → cS → cS
  | 0, c => c
  | i + 1, c => ck_rbs i (cs_rb c (zu (cg_rb c) i (cg_rb c (i + 1) + ck_lb c i (cg_nT c))))
def ck_rb0 (c : cS) : cS := cs_rb c (zu (cg_rb c) (cg_nL c) 0)
set_option maxHeartbeats 1000000 in
set_option maxRecDepth 20000 in
theorem sp_S_readBounds {d : Nat} {x : am_C} {c : cS} {t : List am_C} {n : Nat} (hK : cK c) (hG : cG c) : am_W (d + 4) km_S_readBounds 0 [some (.ref 38), none] [] (hC x c t) n 0 0 (am_eq none (hC x (ck_rbs (cg_nL c) (ck_rb0 c)) t) n) := by
  obtain ⟨hT, hL⟩ := hK.nn
  have loop : ∀ i : Nat, ∀ (c1 : cS), cK c1 → cG c1 → i ≤ 6 → ck_rbs (cg_nL c) (ck_rb0 c) = ck_rbs i c1 → am_W (d + 4) km_S_readBounds 23 [some (.ref 38), some (.int (iI ((i : Int) - 1)))] [] (hC x c1 t) n 0 0 (am_eq none (hC x (ck_rbs (cg_nL c) (ck_rb0 c)) t) n) := by
    intro i
    induction i with
    | zero =>
      intro c1 hK1 hG1 hi e0
      refine ar_iload_n kd_S_readBounds_23 rfl ?_
      refine az_if_lt (tg := 56) kd_S_readBounds_24 (by decide) (fun q1 => ?_) (fun q1 => absurd (by omega) q1)
      refine ar_return kd_S_readBounds_56 rfl (Nat.le_of_ble_eq_true rfl) (Nat.le_of_ble_eq_true rfl) ?_
      exact ⟨rfl, by rw [e0]; rfl, rfl⟩
    | succ i ih =>
      intro c1 hK1 hG1 hi e0
      rw [show ((i + 1 : Nat) : Int) - 1 = (i : Int) by omega]
      refine ar_iload_n kd_S_readBounds_23 rfl ?_
      refine az_if_lt (tg := 56) kd_S_readBounds_24 (by decide) (fun q1 => absurd q1 (by omega)) (fun q1 => ?_)
      refine ar_aload_n kd_S_readBounds_27 rfl ?_
      refine ar_get (ci := 4) (k := 7) kd_S_readBounds_28 rfl kw_142 (by decide) rfl rfl ?_
      refine ar_iload_n kd_S_readBounds_31 rfl ?_
      refine ar_aload_n kd_S_readBounds_32 rfl ?_
      refine ar_get (ci := 4) (k := 7) kd_S_readBounds_33 rfl kw_142 (by decide) rfl rfl ?_
      refine ar_iload_n kd_S_readBounds_36 rfl ?_
      refine ar_iconst kd_S_readBounds_37 ?_
      refine az_iadd kd_S_readBounds_38 ?_
      refine az_iald kd_S_readBounds_39 rfl (k := i + 1) rfl (by omega) ?_
      refine ar_aload_n kd_S_readBounds_40 rfl ?_
      refine ar_get (ci := 4) (k := 0) kd_S_readBounds_41 rfl kw_135 (by decide) rfl rfl ?_
      refine ar_iload_n kd_S_readBounds_44 rfl ?_
      refine az_callv (z := km_F_lineBound) (As := [_]) (ci := 1) kd_S_readBounds_45 kw_460 kw_209 rfl ks_F_lineBound kz_F_lineBound rfl rfl rfl rfl rfl (Nat.le_of_ble_eq_true rfl) (Nat.le_of_ble_eq_true rfl) rfl (sp_F_lineBound (by omega) hK1 hG1) ?_
      refine az_iadd kd_S_readBounds_48 ?_
      refine az_iast kd_S_readBounds_49 rfl rfl rfl (by omega) ?_
      rw [hw_rb]
      refine az_iinc kd_S_readBounds_50 rfl rfl ?_
      dsimp only [List.set]
      refine ar_goto (tg := 23) kd_S_readBounds_53 (by decide) ?_
      exact ih _ hK1 hG1 (by omega) e0
  refine ar_aload_n kd_S_readBounds_0 rfl ?_
  refine ar_get (ci := 4) (k := 7) kd_S_readBounds_1 rfl kw_142 (by decide) rfl rfl ?_
  refine ar_aload_n kd_S_readBounds_4 rfl ?_
  refine ar_get (ci := 4) (k := 2) kd_S_readBounds_5 rfl kw_137 (by decide) rfl rfl ?_
  refine ar_get (ci := 2) (k := 0) kd_S_readBounds_8 rfl kw_82 (by decide) rfl rfl ?_
  refine ar_iconst kd_S_readBounds_11 ?_
  refine az_iast kd_S_readBounds_12 rfl rfl (k := cg_nL c) rfl (by omega) ?_
  rw [hw_rb]
  refine ar_aload_n kd_S_readBounds_13 rfl ?_
  refine ar_get (ci := 4) (k := 2) kd_S_readBounds_14 rfl kw_137 (by decide) rfl rfl ?_
  refine ar_get (ci := 2) (k := 0) kd_S_readBounds_17 rfl kw_82 (by decide) rfl rfl ?_
  refine ar_iconst kd_S_readBounds_20 ?_
  refine az_isub kd_S_readBounds_21 ?_
  refine ar_istore_n kd_S_readBounds_22 (Nat.le_of_ble_eq_true rfl) rfl ?_
  dsimp only [List.set]
  exact loop (cg_nL c) (ck_rb0 c) hK hG (by omega) rfl
def ck_kp (c : cS) (i : Nat) : cS := zf (fun a j => cs_be a (zu (cg_be a) j (cg_tr a j))) c i
def ck_keep (c : cS) (z : Int) : cS := ck_kp (cs_bc c z) (cg_nL c)
theorem ck_kp_keep {β : Type} {P : cS → β} (h : ∀ c v, P (cs_be c v) = P c) (c : cS) (i : Nat) : P (ck_kp c i) = P c := zf_keep (g := fun a j => cs_be a (zu (cg_be a) j (cg_tr a j))) (P := P) (fun a k => h _ _) c i
set_option maxHeartbeats 1000000 in
set_option maxRecDepth 20000 in
theorem sp_S_keep {d : Nat} {x : am_C} {c : cS} {t : List am_C} {n : Nat} {z : Int} (hK : cK c) : am_W d km_S_keep 0 [some (.ref 38), some (.int (iI z)), none] [] (hC x c t) n 0 0 (am_eq none (hC x (ck_keep c z) t) n) := by
  obtain ⟨hT, hL⟩ := hK.nn
  have loop : ∀ (f i : Nat), i ≤ cg_nL c → cg_nL c - i < f → am_W d km_S_keep 7 [some (.ref 38), some (.int (iI z)), some (.int (iI i))] [] (hC x (ck_kp (cs_bc c z) i) t) n 0 0 (am_eq none (hC x (ck_keep c z) t) n) := by
    intro f
    induction f with
    | zero => intro i h1 h2; omega
    | succ f ih =>
      intro i h1 h2
      have eL : cg_nL (ck_kp (cs_bc c z) i) = cg_nL c := ck_kp_keep (P := fun c => cg_nL c) (fun _ _ => rfl) (cs_bc c z) i
      refine ar_iload_n kd_S_keep_7 rfl ?_
      refine ar_aload_n kd_S_keep_8 rfl ?_
      refine ar_get (ci := 4) (k := 2) kd_S_keep_9 rfl kw_137 (by decide) rfl rfl ?_
      refine ar_get (ci := 2) (k := 0) kd_S_keep_12 rfl kw_82 (by decide) rfl rfl ?_
      refine az_icmp_ge (tg := 36) kd_S_keep_15 (by decide) (fun q1 => ?_) (fun q1 => ?_)
      · obtain rfl : i = cg_nL c := by omega
        refine ar_return kd_S_keep_36 rfl (Nat.le_of_ble_eq_true rfl) (Nat.le_of_ble_eq_true rfl) ?_
        exact ⟨rfl, rfl, rfl⟩
      · refine ar_aload_n kd_S_keep_18 rfl ?_
        refine ar_get (ci := 4) (k := 6) kd_S_keep_19 rfl kw_141 (by decide) rfl rfl ?_
        refine ar_iload_n kd_S_keep_22 rfl ?_
        refine ar_aload_n kd_S_keep_23 rfl ?_
        refine ar_get (ci := 4) (k := 5) kd_S_keep_24 rfl kw_140 (by decide) rfl rfl ?_
        refine ar_iload_n kd_S_keep_27 rfl ?_
        refine az_iald kd_S_keep_28 rfl rfl (by omega) ?_
        refine az_iast kd_S_keep_29 rfl rfl rfl (by omega) ?_
        rw [hw_be]
        refine az_iinc kd_S_keep_30 rfl rfl ?_
        dsimp only [List.set]
        refine ar_goto (tg := 7) kd_S_keep_33 (by decide) ?_
        exact ih (i + 1) (by omega) (by omega)
  refine ar_aload_n kd_S_keep_0 rfl ?_
  refine ar_iload_n kd_S_keep_1 rfl ?_
  refine ar_put (ci := 4) (k := 8) kd_S_keep_2 rfl kw_143 (by decide) rfl (Nat.le_of_ble_eq_true rfl) rfl (Nat.le_of_ble_eq_true rfl) rfl rfl rfl ?_
  refine ar_heap (hp_bc z) ?_
  refine ar_iconst kd_S_keep_5 ?_
  refine ar_istore_n kd_S_keep_6 (Nat.le_of_ble_eq_true rfl) rfl ?_
  dsimp only [List.set]
  exact loop (cg_nL c + 1) 0 (by omega) (by omega)
end
section
/-! the search through all sets -/
def ck_lc (c : cS) (l : Nat) : Int := 1000 * cg_lw c l + zs (ck_lcost c l) (cg_nT c)
def ck_xh (F : Int → cS → cS) (l : Nat) (z : Int) (c : cS) : cS := if z + cg_rb c (l + 1) < cg_bc c then F z c else c
def ck_xa (F : Int → cS → cS) (l : Nat) (z : Int) (q : cS × Int) (s : Nat) : cS := if q.2 = pop s then ck_xh F l (z + ck_lc q.1 l) q.1 else q.1
def ck_xb (F : Int → cS → cS) (l : Nat) (z : Int) (c : cS) (s : Nat) : cS := if pop s ≤ cg_rl c l 2 then ck_letGo (ck_xa F l z (ck_take (cs_tr c (zu (cg_tr c) l s)) l s) s) l else c
def ck_ex : Nat → Nat → Int → cS → cS
  | 0, _, z, c => ck_keep c z
  | j + 1, l, z, c => zf (ck_xb (ck_ex j (l + 1)) l z) c (2 ^ (cg_ac c l).toNat)
theorem sp_F_lineCostC {d : Nat} {x : am_C} {c : cS} {t : List am_C} {n : Nat} {l : Nat} (hl : l < 6) (hK : cK c) (hG : cG c) : am_W (d + 1) km_F_lineCost 0 [some (.ref 5), some (.int (iI l)), none, none, none] [] (hC x c t) n 0 0 (am_eq (some (.int (iI (ck_lc c l)))) (hC x c t) n) := sp_F_lineCost hl hK hG
/-- what holds all the while -/
def cV (c : cS) : Prop := cK c ∧ cA c ∧ cP c ∧ (∀ j, j ≤ cg_nL c → 0 ≤ cg_rb c j ∧ cg_rb c j ≤ 2000000) ∧ (-100000000 ≤ cg_bc c ∧ cg_bc c ≤ 100000000)
theorem ck_lcost_rg {c : cS} (hK : cK c) (hG : cG c) {l k : Nat} (hl : l < 6) (hk : k < 8) : -1000000 ≤ ck_lcost c l k ∧ ck_lcost c l k ≤ 20 := by
  unfold ck_lcost
  split
  · have h1 := hG.gi hl hk
    have h2 := ck_cost_rg hK hl hk
    have h3 : 0 ≤ cg_gi c l k * (1000 - ck_cost c l k) := Int.mul_nonneg h1.1 (by omega)
    have h4 : cg_gi c l k * (1000 - ck_cost c l k) ≤ 1000 * 1000 := Int.mul_le_mul h1.2 (by omega) (by omega) (by omega)
    have h5 : cg_gi c l k * (1000 - ck_cost c l k) = -(cg_gi c l k * (ck_cost c l k - 1000)) := by rw [← Int.mul_neg, Int.neg_sub]
    omega
  · omega
theorem zs_ge {f : Nat → Int} {b : Int} : ∀ n, (∀ k, k < n → b ≤ f k) → n * b ≤ zs f n
  | 0, _ => by simp [zs]
  | n + 1, h => by
    have h1 := zs_ge n (fun k hk => h k (by omega))
    have h2 := h n (by omega)
    simp only [zs]
    have e : ((n + 1 : Nat) : Int) * b = n * b + b := by rw [Int.natCast_add, Int.add_mul]; simp
    rw [e]
    omega
theorem ck_lc_rg {c : cS} (hK : cK c) (hG : cG c) {l : Nat} (hl : l < 6) : -9000000 ≤ ck_lc c l ∧ ck_lc c l ≤ 9000000 := by
  have hT := hK.nn.1
  have h0 := hK.line hl
  have h1 := zs_ge (f := ck_lcost c l) (b := -1000000) (cg_nT c) (fun k hk => (ck_lcost_rg hK hG hl (by omega)).1)
  have h2 := zs_le (f := ck_lcost c l) (b := 20) (cg_nT c) (fun k hk => (ck_lcost_rg hK hG hl (by omega)).2)
  unfold ck_lc
  omega
theorem cV_letGo {c : cS} (h : cV c) {l : Nat} (hl : l < 6) : cV (ck_letGo c l) := by
  refine ⟨ck_letGo_K l h.1, ck_letGo_A l h.2.1, cP_letGo h.2.2.1 hl h.1.nn.1, ?_, ?_⟩
  · rw [ck_letGo_nL, ck_letGo_keep (P := fun c => cg_rb c) (fun _ _ _ _ => rfl)]
    exact h.2.2.2.1
  · rw [ck_letGo_keep (P := fun c => cg_bc c) (fun _ _ _ _ => rfl)]
    exact h.2.2.2.2
theorem cV_take {c : cS} (h : cV c) {l : Nat} (s : Nat) (hl : l < 6) : cV (ck_take c l s).1 := by
  obtain ⟨h1, h2, h3, -⟩ := ck_take_ok h.1 h.2.1 h.2.2.1 s hl
  refine ⟨h1, h2, h3, ?_, ?_⟩
  · rw [ck_take_keep (P := fun c => cg_nL c) (fun _ _ _ _ => rfl), ck_take_keep (P := fun c => cg_rb c) (fun _ _ _ _ => rfl)]
    exact h.2.2.2.1
  · rw [ck_take_keep (P := fun c => cg_bc c) (fun _ _ _ _ => rfl)]
    exact h.2.2.2.2
theorem cV_tr {c : cS} (h : cV c) {l s : Nat} (hs : s < 256) : cV (cs_tr c (zu (cg_tr c) l s)) := by
  refine ⟨h.1, fun l' hl' => ⟨(h.2.1 l' hl').1, ?_, (h.2.1 l' hl').2.2⟩, h.2.2⟩
  show 0 ≤ zu (cg_tr c) l s l' ∧ zu (cg_tr c) l s l' < 256
  by_cases e : l' = l
  · subst e
    rw [zu_s]
    omega
  · rw [zu_n e]
    exact (h.2.1 l' hl').2.1
theorem cV_be {c : cS} (h : cV c) {l : Nat} {v : Int} (hs : 0 ≤ v ∧ v < 256) : cV (cs_be c (zu (cg_be c) l v)) := by
  refine ⟨h.1, fun l' hl' => ⟨(h.2.1 l' hl').1, (h.2.1 l' hl').2.1, ?_, (h.2.1 l' hl').2.2.2⟩, h.2.2⟩
  show 0 ≤ zu (cg_be c) l v l' ∧ zu (cg_be c) l v l' < 256
  by_cases e : l' = l
  · subst e
    rw [zu_s]
    omega
  · rw [zu_n e]
    exact (h.2.1 l' hl').2.2.1
theorem cV_keep {c : cS} (h : cV c) {z : Int} (hz : -100000000 ≤ z ∧ z ≤ 100000000) : cV (ck_keep c z) := by
  have h0 : cV (cs_bc c z) := ⟨h.1, h.2.1, h.2.2.1, h.2.2.2.1, hz⟩
  have hL := h.1.nn.2
  exact zf_invB (P := cV) (N := 6) (fun a k hk ha => cV_be ha (ha.2.1 k hk).2.1) h0 _ hL
theorem ck_ex_keep {β : Type} {P : cS → β} (h : ∀ c l k z, P (ck_move c l k z) = P c) (ht : ∀ c v, P (cs_tr c v) = P c) (hb : ∀ c v, P (cs_be c v) = P c) (hc : ∀ c v, P (cs_bc c v) = P c) : ∀ (j l : Nat) (z : Int) (c : cS), P (ck_ex j l z c) = P c
  | 0, l, z, c => (ck_kp_keep hb _ _).trans (hc _ _)
  | j + 1, l, z, c => zf_keep (g := ck_xb (ck_ex j (l + 1)) l z) (P := P) (fun a s => by
    unfold ck_xb
    split
    · rw [ck_letGo_keep h]
      have e : P (ck_take (cs_tr a (zu (cg_tr a) l s)) l s).1 = P a := (ck_take_keep h _ l s).trans (ht _ _)
      unfold ck_xa
      split
      · unfold ck_xh
        split
        · exact (ck_ex_keep h ht hb hc j (l + 1) _ _).trans e
        · exact e
      · exact e
    · rfl) c _
theorem ck_xb_keep {β : Type} {P : cS → β} (h : ∀ c l k z, P (ck_move c l k z) = P c) (ht : ∀ c v, P (cs_tr c v) = P c) (hb : ∀ c v, P (cs_be c v) = P c) (hc : ∀ c v, P (cs_bc c v) = P c) (j l : Nat) (z : Int) (c : cS) (i : Nat) : P (zf (ck_xb (ck_ex j (l + 1)) l z) c i) = P c := zf_keep (g := ck_xb (ck_ex j (l + 1)) l z) (P := P) (fun a s => by
    unfold ck_xb
    split
    · rw [ck_letGo_keep h]
      have e : P (ck_take (cs_tr a (zu (cg_tr a) l s)) l s).1 = P a := (ck_take_keep h _ l s).trans (ht _ _)
      unfold ck_xa
      split
      · unfold ck_xh
        split
        · exact (ck_ex_keep h ht hb hc j (l + 1) _ _).trans e
        · exact e
      · exact e
    · rfl) c i
/-- one set of a line: the state stays good, if what is behind keeps it good -/
theorem ck_xb_ok {j l : Nat} {z : Int} {c : cS} {s : Nat} (hF : ∀ z c, cV c → l + 1 + j = cg_nL c → -(9000000 * ((l + 1 : Nat) : Int)) ≤ z ∧ z ≤ 9000000 * ((l + 1 : Nat) : Int) → cV (ck_ex j (l + 1) z c)) (hV : cV c) (hl : l + (j + 1) = cg_nL c) (hz : -(9000000 * (l : Int)) ≤ z ∧ z ≤ 9000000 * (l : Int)) (hs : s < 256) : cV (ck_xb (ck_ex j (l + 1)) l z c s) := by
  have hL := hV.1.nn.2
  unfold ck_xb
  split
  · refine cV_letGo ?_ (by omega)
    have h1 : cV (ck_take (cs_tr c (zu (cg_tr c) l s)) l s).1 := cV_take (cV_tr hV hs) s (by omega)
    have h2 : cg_nL (ck_take (cs_tr c (zu (cg_tr c) l s)) l s).1 = cg_nL c := ck_take_keep (P := fun c => cg_nL c) (fun _ _ _ _ => rfl) _ l s
    unfold ck_xa
    split
    · unfold ck_xh
      split
      · have h3 := ck_lc_rg h1.1 h1.2.2.1.1.G (l := l) (by omega)
        exact hF _ _ h1 (by omega) (by omega)
      · exact h1
    · exact h1
  · exact hV
theorem pow_ac {c : cS} (hA : cA c) {l : Nat} (hl : l < 6) : 2 ^ (cg_ac c l).toNat ≤ 256 := by
  have h := (hA l hl).1
  have h2 : (cg_ac c l).toNat ≤ 8 := by omega
  exact Nat.pow_le_pow_right (n := 2) (by decide) h2
theorem ck_ex_ok : ∀ (j l : Nat) (z : Int) (c : cS), cV c → l + j = cg_nL c → -(9000000 * (l : Int)) ≤ z ∧ z ≤ 9000000 * (l : Int) → cV (ck_ex j l z c)
  | 0, l, z, c, hV, hl, hz => by
    have hL := hV.1.nn.2
    exact cV_keep hV (by omega)
  | j + 1, l, z, c, hV, hl, hz => by
    have hL := hV.1.nn.2
    have hp := pow_ac hV.2.1 (l := l) (by omega)
    have : ∀ i, i ≤ 2 ^ (cg_ac c l).toNat → cV (zf (ck_xb (ck_ex j (l + 1)) l z) c i) ∧ cg_nL (zf (ck_xb (ck_ex j (l + 1)) l z) c i) = cg_nL c := by
      intro i
      induction i with
      | zero => intro _; exact ⟨hV, rfl⟩
      | succ i ih =>
        intro hi
        obtain ⟨h1, h2⟩ := ih (by omega)
        refine ⟨ck_xb_ok (fun z c => ck_ex_ok j (l + 1) z c) h1 (by omega) hz (by omega), ck_xb_keep (P := fun c => cg_nL c) (fun _ _ _ _ => rfl) (fun _ _ => rfl) (fun _ _ => rfl) (fun _ _ => rfl) j l z c (i + 1)⟩
    exact (this _ (Nat.le_refl _)).1
theorem ck_xz_ok {j l : Nat} {z : Int} {c : cS} (hV : cV c) (hl : l + (j + 1) = cg_nL c) (hz : -(9000000 * (l : Int)) ≤ z ∧ z ≤ 9000000 * (l : Int)) : ∀ i, i ≤ 2 ^ (cg_ac c l).toNat → cV (zf (ck_xb (ck_ex j (l + 1)) l z) c i) := by
  have hL := hV.1.nn.2
  have hp := pow_ac hV.2.1 (l := l) (by omega)
  intro i
  induction i with
  | zero => intro _; exact hV
  | succ i ih =>
    intro hi
    have h2 : cg_nL (zf (ck_xb (ck_ex j (l + 1)) l z) c i) = cg_nL c := ck_xb_keep (P := fun c => cg_nL c) (fun _ _ _ _ => rfl) (fun _ _ => rfl) (fun _ _ => rfl) (fun _ _ => rfl) j l z c i
    exact ck_xb_ok (fun z c => ck_ex_ok j (l + 1) z c) (ih (by omega)) (by omega) hz (by omega)
set_option maxHeartbeats 1000000 in
set_option maxRecDepth 20000 in
theorem sp_S_exploreBehind {d : Nat} {x : am_C} {c : cS} {t : List am_C} {n : Nat} {l : Nat} {z : Int} {F : Int → cS → cS} (hl : l < cg_nL c) (hz : -90000000 ≤ z ∧ z ≤ 90000000) (hV : cV c) (hF : am_W d km_S_explore 0 [some (.ref 38), some (.int (iI ((l + 1 : Nat) : Int))), some (.int (iI z)), none, none, none] [] (hC x c t) n 0 0 (am_eq none (hC x (F z c) t) n)) : am_W (d + 1) km_S_exploreBehind 0 [some (.ref 38), some (.int (iI l)), some (.int (iI z))] [] (hC x c t) n 0 0 (am_eq none (hC x (ck_xh F l z c) t) n) := by
  have hL := hV.1.nn.2
  have hr := hV.2.2.2.1 (l + 1) (by omega)
  have hb := hV.2.2.2.2
  refine ar_iload_n kd_S_exploreBehind_0 rfl ?_
  refine ar_aload_n kd_S_exploreBehind_1 rfl ?_
  refine ar_get (ci := 4) (k := 7) kd_S_exploreBehind_2 rfl kw_142 (by decide) rfl rfl ?_
  refine ar_iload_n kd_S_exploreBehind_5 rfl ?_
  refine ar_iconst kd_S_exploreBehind_6 ?_
  refine az_iadd kd_S_exploreBehind_7 ?_
  refine az_iald kd_S_exploreBehind_8 rfl (k := l + 1) rfl (by omega) ?_
  refine az_iadd kd_S_exploreBehind_9 ?_
  refine ar_aload_n kd_S_exploreBehind_10 rfl ?_
  refine ar_get (ci := 4) (k := 8) kd_S_exploreBehind_11 rfl kw_143 (by decide) rfl rfl ?_
  refine az_icmp_ge (tg := 25) kd_S_exploreBehind_14 (by decide) (fun q1 => ?_) (fun q1 => ?_)
  · have e1 : ck_xh F l z c = c := if_neg (by omega)
    refine ar_return kd_S_exploreBehind_25 rfl (Nat.le_of_ble_eq_true rfl) (Nat.le_of_ble_eq_true rfl) ?_
    exact ⟨rfl, by rw [e1], rfl⟩
  · have e1 : ck_xh F l z c = F z c := if_pos (by omega)
    refine ar_aload_n kd_S_exploreBehind_17 rfl ?_
    refine ar_iload_n kd_S_exploreBehind_18 rfl ?_
    refine ar_iconst kd_S_exploreBehind_19 ?_
    refine az_iadd kd_S_exploreBehind_20 ?_
    refine ar_iload_n kd_S_exploreBehind_21 rfl ?_
    refine az_calls (z := km_S_explore) (As := [_, _, _]) kd_S_exploreBehind_22 kw_477 kw_478 kw_5 kz_S_explore rfl rfl rfl rfl (Nat.le_of_ble_eq_true rfl) (Nat.le_of_ble_eq_true rfl) rfl (hF) ?_
    refine ar_return kd_S_exploreBehind_25 rfl (Nat.le_of_ble_eq_true rfl) (Nat.le_of_ble_eq_true rfl) ?_
    exact ⟨rfl, by rw [e1], rfl⟩
set_option maxHeartbeats 1000000 in
set_option maxRecDepth 20000 in
theorem sp_S_explore {d : Nat} {x : am_C} {t : List am_C} {n : Nat} (j : Nat) : ∀ (l : Nat) (z : Int) (c : cS), cV c → l + j = cg_nL c → -(9000000 * (l : Int)) ≤ z ∧ z ≤ 9000000 * (l : Int) → am_W (d + 4 + 2 * j) km_S_explore 0 [some (.ref 38), some (.int (iI l)), some (.int (iI z)), none, none, none] [] (hC x c t) n 0 0 (am_eq none (hC x (ck_ex j l z c) t) n) := by
  induction j with
  | zero =>
    intro l z c hV hl hz
    have hL := hV.1.nn.2
    refine ar_iload_n kd_S_explore_0 rfl ?_
    refine ar_aload_n kd_S_explore_1 rfl ?_
    refine ar_get (ci := 4) (k := 2) kd_S_explore_2 rfl kw_137 (by decide) rfl rfl ?_
    refine ar_get (ci := 2) (k := 0) kd_S_explore_5 rfl kw_82 (by decide) rfl rfl ?_
    refine az_icmp_lt (tg := 17) kd_S_explore_8 (by decide) (fun q1 => absurd q1 (by omega)) (fun q1 => ?_)
    refine ar_aload_n kd_S_explore_11 rfl ?_
    refine ar_iload_n kd_S_explore_12 rfl ?_
    refine az_callv (z := km_S_keep) (As := [_]) (ci := 4) kd_S_explore_13 kw_480 kw_482 rfl ks_S_keep kz_S_keep rfl rfl rfl rfl rfl (Nat.le_of_ble_eq_true rfl) (Nat.le_of_ble_eq_true rfl) rfl (sp_S_keep (d := d + 3) hV.1) ?_
    refine ar_return kd_S_explore_16 rfl (Nat.le_of_ble_eq_true rfl) (Nat.le_of_ble_eq_true rfl) ?_
    exact ⟨rfl, rfl, rfl⟩
  | succ j ihj =>
    intro l z c hV hl hz
    have hL := hV.1.nn.2
    have hp := pow_ac hV.2.1 (l := l) (by omega)
    rw [show d + 4 + 2 * (j + 1) = d + 4 + 2 * j + 1 + 1 by omega]
    have loop : ∀ (f i : Nat), i ≤ 2 ^ (cg_ac c l).toNat → 2 ^ (cg_ac c l).toNat - i < f → ∀ (w : Option Value), am_W (d + 4 + 2 * j + 1 + 1) km_S_explore 29 [some (.ref 38), some (.int (iI l)), some (.int (iI z)), some (.int (iI ((2 ^ (cg_ac c l).toNat : Nat) : Int))), some (.int (iI i)), w] [] (hC x (zf (ck_xb (ck_ex j (l + 1)) l z) c i) t) n 0 0 (am_eq none (hC x (ck_ex (j + 1) l z c) t) n) := by
      intro f
      induction f with
      | zero => intro i h1 h2 w; omega
      | succ f ih =>
        intro i h1 h2 w
        have hV1 := ck_xz_ok hV hl hz i (by omega)
        have eL : cg_nL (zf (ck_xb (ck_ex j (l + 1)) l z) c i) = cg_nL c := ck_xb_keep (P := fun c => cg_nL c) (fun _ _ _ _ => rfl) (fun _ _ => rfl) (fun _ _ => rfl) (fun _ _ => rfl) j l z c i
        have hpp := pop_rg i
        have hrl := hV1.1.line (l := l) (by omega)
        refine ar_iload kd_S_explore_29 rfl ?_
        refine ar_iload_n kd_S_explore_31 rfl ?_
        refine az_icmp_ge (tg := 107) kd_S_explore_32 (by decide) (fun q1 => ?_) (fun q1 => ?_)
        · obtain rfl : i = 2 ^ (cg_ac c l).toNat := by omega
          refine ar_return kd_S_explore_107 rfl (Nat.le_of_ble_eq_true rfl) (Nat.le_of_ble_eq_true rfl) ?_
          exact ⟨rfl, rfl, rfl⟩
        · have hV2 := cV_tr (l := l) (s := i) hV1 (by omega)
          refine ar_iload kd_S_explore_35 rfl ?_
          refine az_calls (z := km_I_bitCount) (As := [_]) kd_S_explore_37 kw_484 kw_485 kw_14 kz_I_bitCount rfl rfl rfl rfl (Nat.le_of_ble_eq_true rfl) (Nat.le_of_ble_eq_true rfl) rfl (sp_I_bitCount (by omega)) ?_
          refine ar_istore kd_S_explore_40 (Nat.le_of_ble_eq_true rfl) rfl ?_
          dsimp only [List.set]
          refine ar_iload kd_S_explore_42 rfl ?_
          refine ar_aload_n kd_S_explore_44 rfl ?_
          refine ar_get (ci := 4) (k := 2) kd_S_explore_45 rfl kw_137 (by decide) rfl rfl ?_
          refine ar_get (ci := 2) (k := 4) kd_S_explore_48 rfl kw_94 (by decide) rfl rfl ?_
          refine ar_iload_n kd_S_explore_51 rfl ?_
          refine az_aald kd_S_explore_52 rfl rfl (by omega) (if_pos (by omega)) ?_
          refine ar_iconst kd_S_explore_53 ?_
          refine az_iald kd_S_explore_54 (hr_rl (by omega)) (k := 2) rfl (by omega) ?_
          refine az_icmp_gt (tg := 101) kd_S_explore_55 (by decide) (fun q2 => ?_) (fun q2 => ?_)
          · have e1 : zf (ck_xb (ck_ex j (l + 1)) l z) c (i + 1) = zf (ck_xb (ck_ex j (l + 1)) l z) c i := if_neg (by omega)
            refine az_iinc kd_S_explore_101 rfl rfl ?_
            dsimp only [List.set]
            refine ar_goto (tg := 29) kd_S_explore_104 (by decide) ?_
            have h9 := ih (i + 1) (by omega) (by omega) (some (.int (iI (pop i))))
            first | (rw [e1] at h9; exact h9) | (rw [e1, e2] at h9; exact h9)
          · have e1 : zf (ck_xb (ck_ex j (l + 1)) l z) c (i + 1) = ck_letGo (ck_xa (ck_ex j (l + 1)) l z (ck_take (cs_tr (zf (ck_xb (ck_ex j (l + 1)) l z) c i) (zu (cg_tr (zf (ck_xb (ck_ex j (l + 1)) l z) c i)) l i)) l i) i) l := if_pos (by omega)
            have hV3 := cV_take hV2 i (l := l) (by omega)
            obtain ⟨-, -, -, h4⟩ := ck_take_ok hV2.1 hV2.2.1 hV2.2.2.1 i (l := l) (by omega)
            have hlc := ck_lc_rg hV3.1 hV3.2.2.1.1.G (l := l) (by omega)
            have eL3 : cg_nL (ck_take (cs_tr (zf (ck_xb (ck_ex j (l + 1)) l z) c i) (zu (cg_tr (zf (ck_xb (ck_ex j (l + 1)) l z) c i)) l i)) l i).1 = cg_nL c := (ck_take_keep (P := fun c => cg_nL c) (fun _ _ _ _ => rfl) _ l i).trans eL
            refine ar_aload_n kd_S_explore_58 rfl ?_
            refine ar_get (ci := 4) (k := 5) kd_S_explore_59 rfl kw_140 (by decide) rfl rfl ?_
            refine ar_iload_n kd_S_explore_62 rfl ?_
            refine ar_iload kd_S_explore_63 rfl ?_
            refine az_iast kd_S_explore_65 rfl rfl rfl (by omega) ?_
            rw [hw_tr]
            refine ar_aload_n kd_S_explore_66 rfl ?_
            refine ar_iload_n kd_S_explore_67 rfl ?_
            refine ar_iload kd_S_explore_68 rfl ?_
            refine az_callv (z := km_S_take) (As := [_, _]) (ci := 4) kd_S_explore_70 kw_466 kw_468 rfl ks_S_take kz_S_take rfl rfl rfl rfl rfl (Nat.le_of_ble_eq_true rfl) (Nat.le_of_ble_eq_true rfl) rfl (am_deep (sp_S_take (d := d) (by omega) (by omega) hV2.1 hV2.2.1 hV2.2.2.1) (by omega)) ?_
            refine ar_iload kd_S_explore_73 rfl ?_
            refine az_icmp_ne (tg := 93) kd_S_explore_75 (by decide) (fun q3 => ?_) (fun q3 => ?_)
            · have e2 : ck_xa (ck_ex j (l + 1)) l z (ck_take (cs_tr (zf (ck_xb (ck_ex j (l + 1)) l z) c i) (zu (cg_tr (zf (ck_xb (ck_ex j (l + 1)) l z) c i)) l i)) l i) i = (ck_take (cs_tr (zf (ck_xb (ck_ex j (l + 1)) l z) c i) (zu (cg_tr (zf (ck_xb (ck_ex j (l + 1)) l z) c i)) l i)) l i).1 := if_neg (by omega)
              have hV4 := hV3
              refine ar_aload_n kd_S_explore_93 rfl ?_
              refine ar_get (ci := 4) (k := 0) kd_S_explore_94 rfl kw_135 (by decide) rfl rfl ?_
              refine ar_iload_n kd_S_explore_97 rfl ?_
              refine az_callv (z := km_F_letGo) (As := [_]) (ci := 1) kd_S_explore_98 kw_474 kw_440 rfl ks_F_letGo kz_F_letGo rfl rfl rfl rfl rfl (Nat.le_of_ble_eq_true rfl) (Nat.le_of_ble_eq_true rfl) rfl (sp_F_letGo (d := d + 4 + 2 * j) (by omega) hV4.1) ?_
              refine az_iinc kd_S_explore_101 rfl rfl ?_
              dsimp only [List.set]
              refine ar_goto (tg := 29) kd_S_explore_104 (by decide) ?_
              have h9 := ih (i + 1) (by omega) (by omega) (some (.int (iI (pop i))))
              first | (rw [e1] at h9; exact h9) | (rw [e1, e2] at h9; exact h9)
            · have e2 : ck_xa (ck_ex j (l + 1)) l z (ck_take (cs_tr (zf (ck_xb (ck_ex j (l + 1)) l z) c i) (zu (cg_tr (zf (ck_xb (ck_ex j (l + 1)) l z) c i)) l i)) l i) i = ck_xh (ck_ex j (l + 1)) l (z + ck_lc (ck_take (cs_tr (zf (ck_xb (ck_ex j (l + 1)) l z) c i) (zu (cg_tr (zf (ck_xb (ck_ex j (l + 1)) l z) c i)) l i)) l i).1 l) (ck_take (cs_tr (zf (ck_xb (ck_ex j (l + 1)) l z) c i) (zu (cg_tr (zf (ck_xb (ck_ex j (l + 1)) l z) c i)) l i)) l i).1 := if_pos (by omega)
              have hV4 : cV (ck_xh (ck_ex j (l + 1)) l (z + ck_lc (ck_take (cs_tr (zf (ck_xb (ck_ex j (l + 1)) l z) c i) (zu (cg_tr (zf (ck_xb (ck_ex j (l + 1)) l z) c i)) l i)) l i).1 l) (ck_take (cs_tr (zf (ck_xb (ck_ex j (l + 1)) l z) c i) (zu (cg_tr (zf (ck_xb (ck_ex j (l + 1)) l z) c i)) l i)) l i).1) := by
                unfold ck_xh
                split
                · exact ck_ex_ok j (l + 1) _ _ hV3 (by omega) (by omega)
                · exact hV3
              refine ar_aload_n kd_S_explore_78 rfl ?_
              refine ar_iload_n kd_S_explore_79 rfl ?_
              refine ar_iload_n kd_S_explore_80 rfl ?_
              refine ar_aload_n kd_S_explore_81 rfl ?_
              refine ar_get (ci := 4) (k := 0) kd_S_explore_82 rfl kw_135 (by decide) rfl rfl ?_
              refine ar_iload_n kd_S_explore_85 rfl ?_
              refine az_callv (z := km_F_lineCost) (As := [_]) (ci := 1) kd_S_explore_86 kw_490 kw_244 rfl ks_F_lineCost kz_F_lineCost rfl rfl rfl rfl rfl (Nat.le_of_ble_eq_true rfl) (Nat.le_of_ble_eq_true rfl) rfl (sp_F_lineCostC (d := d + 4 + 2 * j) (by omega) hV3.1 hV3.2.2.1.1.G) ?_
              refine az_iadd kd_S_explore_89 ?_
              refine az_calls (z := km_S_exploreBehind) (As := [_, _, _]) kd_S_explore_90 kw_491 kw_492 kw_5 kz_S_exploreBehind rfl rfl rfl rfl (Nat.le_of_ble_eq_true rfl) (Nat.le_of_ble_eq_true rfl) rfl (sp_S_exploreBehind (F := ck_ex j (l + 1)) (by omega) (by omega) hV3 (ihj (l + 1) _ _ hV3 (by omega) (by omega))) ?_
              refine ar_aload_n kd_S_explore_93 rfl ?_
              refine ar_get (ci := 4) (k := 0) kd_S_explore_94 rfl kw_135 (by decide) rfl rfl ?_
              refine ar_iload_n kd_S_explore_97 rfl ?_
              refine az_callv (z := km_F_letGo) (As := [_]) (ci := 1) kd_S_explore_98 kw_474 kw_440 rfl ks_F_letGo kz_F_letGo rfl rfl rfl rfl rfl (Nat.le_of_ble_eq_true rfl) (Nat.le_of_ble_eq_true rfl) rfl (sp_F_letGo (d := d + 4 + 2 * j) (by omega) hV4.1) ?_
              refine az_iinc kd_S_explore_101 rfl rfl ?_
              dsimp only [List.set]
              refine ar_goto (tg := 29) kd_S_explore_104 (by decide) ?_
              have h9 := ih (i + 1) (by omega) (by omega) (some (.int (iI (pop i))))
              first | (rw [e1] at h9; exact h9) | (rw [e1, e2] at h9; exact h9)
    have hac := (hV.2.1 l (by omega)).1
    have eac : cg_ac c l = (((cg_ac c l).toNat : Nat) : Int) := (Int.toNat_of_nonneg hac.1).symm
    refine ar_iload_n kd_S_explore_0 rfl ?_
    refine ar_aload_n kd_S_explore_1 rfl ?_
    refine ar_get (ci := 4) (k := 2) kd_S_explore_2 rfl kw_137 (by decide) rfl rfl ?_
    refine ar_get (ci := 2) (k := 0) kd_S_explore_5 rfl kw_82 (by decide) rfl rfl ?_
    refine az_icmp_lt (tg := 17) kd_S_explore_8 (by decide) (fun q1 => ?_) (fun q1 => absurd (by omega) q1)
    refine ar_iconst kd_S_explore_17 ?_
    refine ar_aload_n kd_S_explore_18 rfl ?_
    refine ar_get (ci := 4) (k := 4) kd_S_explore_19 rfl kw_139 (by decide) rfl rfl ?_
    refine ar_iload_n kd_S_explore_22 rfl ?_
    refine az_iald kd_S_explore_23 rfl rfl (by omega) ?_
    refine ar_ishl kd_S_explore_24 ?_
    rw [show iI (cg_ac c l) = iI (((cg_ac c l).toNat : Nat) : Int) from congrArg iI eac, ib_shl (by omega)]
    refine ar_istore_n kd_S_explore_25 (Nat.le_of_ble_eq_true rfl) rfl ?_
    dsimp only [List.set]
    refine ar_iconst kd_S_explore_26 ?_
    refine ar_istore kd_S_explore_27 (Nat.le_of_ble_eq_true rfl) rfl ?_
    dsimp only [List.set]
    exact loop (2 ^ (cg_ac c l).toNat + 1) 0 (Nat.zero_le _) (Nat.lt_succ_self _) _
end
section
/-! the search at least cost -/
theorem ck_rbs_keep {β : Type} {P : cS → β} (h : ∀ c v, P (cs_rb c v) = P c) : ∀ (i : Nat) (c : cS), P (ck_rbs i c) = P c
  | 0, c => rfl
  | i + 1, c => (ck_rbs_keep h i _).trans (h _ _)
theorem cK_rbs : ∀ (i : Nat) {c : cS}, cK c → cK (ck_rbs i c)
  | 0, c, h => h
  | i + 1, c, h => cK_rbs i (c := cs_rb c (zu (cg_rb c) i (cg_rb c (i + 1) + ck_lb c i (cg_nT c)))) h
theorem cA_rbs : ∀ (i : Nat) {c : cS}, cA c → cA (ck_rbs i c)
  | 0, c, h => h
  | i + 1, c, h => cA_rbs i (c := cs_rb c (zu (cg_rb c) i (cg_rb c (i + 1) + ck_lb c i (cg_nT c)))) h
theorem cP_rbs : ∀ (i : Nat) {c : cS}, cP c → cP (ck_rbs i c)
  | 0, c, h => h
  | i + 1, c, h => cP_rbs i (c := cs_rb c (zu (cg_rb c) i (cg_rb c (i + 1) + ck_lb c i (cg_nT c)))) h
theorem ck_lb_rb (c : cS) (v : Nat → Int) (l : Nat) : ∀ k, ck_lb (cs_rb c v) l k = ck_lb c l k
  | 0 => rfl
  | k + 1 => by
    simp only [ck_lb, ck_lb_rb c v l k]
    rfl
/-- the bounds are sums from behind -/
def cR (c : cS) (i : Nat) : Prop := cg_rb c (cg_nL c) = 0 ∧ ∀ j, i ≤ j → j < cg_nL c → cg_rb c j = cg_rb c (j + 1) + ck_lb c j (cg_nT c)
theorem cR_rbs : ∀ (i : Nat) (c : cS), i ≤ cg_nL c → cR c i → cR (ck_rbs i c) 0
  | 0, c, _, h => h
  | i + 1, c, hi, h => by
    refine cR_rbs i (cs_rb c (zu (cg_rb c) i (cg_rb c (i + 1) + ck_lb c i (cg_nT c)))) (by show i ≤ cg_nL c; omega) ⟨?_, fun j h1 h2 => ?_⟩
    · show zu (cg_rb c) i _ (cg_nL c) = 0
      rw [zu_n (by omega)]
      exact h.1
    · show zu (cg_rb c) i _ j = zu (cg_rb c) i _ (j + 1) + ck_lb (cs_rb c _) j (cg_nT c)
      rw [ck_lb_rb c (zu (cg_rb c) i (cg_rb c (i + 1) + ck_lb c i (cg_nT c))) j (cg_nT c), zu_n (show j + 1 ≠ i by omega)]
      by_cases e : j = i
      · subst e
        rw [zu_s]
      · rw [zu_n e]
        exact h.2 j (by omega) h2
theorem cR_rb0 (c : cS) : cR (ck_rb0 c) (cg_nL c) := ⟨zu_s _ _ _, fun j h1 h2 => by
  have : j < cg_nL c := h2
  omega⟩
theorem cR_rg {c : cS} (hK : cK c) (h : cR c 0) : ∀ j, j ≤ cg_nL c → 0 ≤ cg_rb c j ∧ cg_rb c j ≤ 2000000 := by
  have hL := hK.nn.2
  have : ∀ i, i ≤ cg_nL c → 0 ≤ cg_rb c (cg_nL c - i) ∧ cg_rb c (cg_nL c - i) ≤ 200000 * i := by
    intro i
    induction i with
    | zero =>
      intro _
      rw [Nat.sub_zero, h.1]
      omega
    | succ i ih =>
      intro hi
      have h1 := ih (by omega)
      have h2 := h.2 (cg_nL c - (i + 1)) (by omega) (by omega)
      have h3 := ck_lb_rg hK (l := cg_nL c - (i + 1)) (by omega) (cg_nT c) hK.nn.1
      rw [show cg_nL c - (i + 1) + 1 = cg_nL c - i by omega] at h2
      omega
  intro j hj
  have h1 := this (cg_nL c - j) (by omega)
  rw [show cg_nL c - (cg_nL c - j) = j by omega] at h1
  omega
def ck_tot (c : cS) : Int := zs (ck_lc c) (cg_nL c)
theorem sp_F_totalCostC {d : Nat} {x : am_C} {c : cS} {t : List am_C} {n : Nat} (hK : cK c) (hG : cG c) : am_W (d + 2) km_F_totalCost 0 [some (.ref 5), none, none] [] (hC x c t) n 0 0 (am_eq (some (.int (iI (ck_tot c)))) (hC x c t) n) := sp_F_totalCost hK hG
theorem ck_tot_rg {c : cS} (hK : cK c) (hG : cG c) : -54000000 ≤ ck_tot c ∧ ck_tot c ≤ 54000000 := by
  have hL := hK.nn.2
  have h1 := zs_ge (f := ck_lc c) (b := -9000000) (cg_nL c) (fun l hl => (ck_lc_rg hK hG (by omega)).1)
  have h2 := zs_le (f := ck_lc c) (b := 9000000) (cg_nL c) (fun l hl => (ck_lc_rg hK hG (by omega)).2)
  unfold ck_tot
  omega
theorem cP_clear {c : cS} (hK : cK c) (h : cP c) : cP (ck_clear c) := by
  have hL := hK.nn.2
  exact (zf_invB (g := fun c l => ck_letGo c l) (P := fun a => cK a ∧ cP a) (N := 6) (fun a k hk ha => ⟨ck_letGo_K k ha.1, cP_letGo ha.2 hk ha.1.nn.1⟩) ⟨hK, h⟩ _ hL).2
theorem cI_clear {c : cS} (hK : cK c) (h : cI c) : cI (ck_clear c) := by
  have hL := hK.nn.2
  exact (zf_invB (g := fun c l => ck_letGo c l) (P := fun a => cK a ∧ cI a) (N := 6) (fun a k hk ha => ⟨ck_letGo_K k ha.1, cI_letGo ha.2 hk ha.1.nn.1⟩) ⟨hK, h⟩ _ hL).2
theorem ck_clear_keep {β : Type} {P : cS → β} (h : ∀ c l k z, P (ck_move c l k z) = P c) (c : cS) : P (ck_clear c) = P c := zf_keep (g := fun c l => ck_letGo c l) (P := P) (fun a k => ck_letGo_keep h a k) c _
theorem cA_clear {c : cS} (h : cA c) : cA (ck_clear c) := zf_inv (g := fun c l => ck_letGo c l) (fun a k ha => ck_letGo_A k ha) h _
/-- its stations -/
def ck_b1 (c : cS) : cS := ck_rbs (cg_nL c) (ck_rb0 c)
def ck_b2 (c : cS) : cS := ck_rule (ck_b1 c) (cg_nL c)
def ck_b3 (c : cS) : cS := cs_bc (ck_b2 c) (ck_tot (ck_b2 c) + 1)
def ck_b4 (c : cS) : cS := ck_clear (ck_b3 c)
def ck_b5 (c : cS) : cS := ck_ex (cg_nL c) 0 0 (ck_b4 c)
def ck_b6 (c : cS) (i : Nat) : cS := zf (fun a l => (ck_take a l (cg_be a l).toNat).1) (ck_b5 c) i
theorem ck_b1_nL (c : cS) : cg_nL (ck_b1 c) = cg_nL c := ck_rbs_keep (P := fun c => cg_nL c) (fun _ _ => rfl) _ _
theorem ck_b2_nL (c : cS) : cg_nL (ck_b2 c) = cg_nL c := (ck_rule_keep (P := fun c => cg_nL c) (fun _ _ _ _ => rfl) _ _).trans (ck_b1_nL c)
theorem ck_b4_nL (c : cS) : cg_nL (ck_b4 c) = cg_nL c := (ck_clear_keep (P := fun c => cg_nL c) (fun _ _ _ _ => rfl) _).trans (ck_b2_nL c)
theorem ck_b5_nL (c : cS) : cg_nL (ck_b5 c) = cg_nL c := (ck_ex_keep (P := fun c => cg_nL c) (fun _ _ _ _ => rfl) (fun _ _ => rfl) (fun _ _ => rfl) (fun _ _ => rfl) _ _ _ _).trans (ck_b4_nL c)
theorem ck_b6_nL (c : cS) (i : Nat) : cg_nL (ck_b6 c i) = cg_nL c := (zf_keep (g := fun a l => (ck_take a l (cg_be a l).toNat).1) (P := fun c : cS => cg_nL c) (fun a l => ck_take_keep (P := fun c => cg_nL c) (fun _ _ _ _ => rfl) a l _) (ck_b5 c) i).trans (ck_b5_nL c)
theorem cP_rb0 {c : cS} (h : cP c) : cP (ck_rb0 c) := h
theorem cK_rb0 {c : cS} (h : cK c) : cK (ck_rb0 c) := h
theorem cA_rb0 {c : cS} (h : cA c) : cA (ck_rb0 c) := h
theorem ck_b1_ok {c : cS} (hK : cK c) (hA : cA c) (hP : cP c) : cK (ck_b1 c) ∧ cA (ck_b1 c) ∧ cP (ck_b1 c) ∧ cR (ck_b1 c) 0 := ⟨cK_rbs _ (cK_rb0 hK), cA_rbs _ (cA_rb0 hA), cP_rbs _ (cP_rb0 hP), cR_rbs (cg_nL c) (ck_rb0 c) (Nat.le_refl _) (cR_rb0 c)⟩
theorem ck_b2_ok {c : cS} (hK : cK c) (hA : cA c) (hP : cP c) : cK (ck_b2 c) ∧ cA (ck_b2 c) ∧ cP (ck_b2 c) := by
  obtain ⟨h1, h2, h3, -⟩ := ck_b1_ok hK hA hP
  exact ck_rule_ok h1 h2 h3 _ hK.nn.2
theorem cK_bc {c : cS} (h : cK c) (v : Int) : cK (cs_bc c v) := h
theorem cA_bc {c : cS} (h : cA c) (v : Int) : cA (cs_bc c v) := h
theorem cP_bc {c : cS} (h : cP c) (v : Int) : cP (cs_bc c v) := h
theorem ck_b3_ok {c : cS} (hK : cK c) (hA : cA c) (hP : cP c) : cK (ck_b3 c) ∧ cA (ck_b3 c) ∧ cP (ck_b3 c) := by
  obtain ⟨h1, h2, h3⟩ := ck_b2_ok hK hA hP
  exact ⟨cK_bc h1 _, cA_bc h2 _, cP_bc h3 _⟩
theorem cg_bc_bc (c : cS) (v : Int) : cg_bc (cs_bc c v) = v := rfl
theorem cg_rb_bc (c : cS) (v : Int) : cg_rb (cs_bc c v) = cg_rb c := rfl
theorem ck_b3_rb (c : cS) : cg_rb (ck_b3 c) = cg_rb (ck_b2 c) := cg_rb_bc _ _
theorem ck_b3_bc (c : cS) : cg_bc (ck_b3 c) = ck_tot (ck_b2 c) + 1 := cg_bc_bc _ _
theorem ck_b4_rb (c : cS) : cg_rb (ck_b4 c) = cg_rb (ck_b1 c) := (ck_clear_keep (P := fun c => cg_rb c) (fun _ _ _ _ => rfl) (ck_b3 c)).trans ((ck_b3_rb c).trans (ck_rule_keep (P := fun c => cg_rb c) (fun _ _ _ _ => rfl) (ck_b1 c) (cg_nL c)))
theorem ck_b4_bc (c : cS) : cg_bc (ck_b4 c) = ck_tot (ck_b2 c) + 1 := (ck_clear_keep (P := fun c => cg_bc c) (fun _ _ _ _ => rfl) (ck_b3 c)).trans (ck_b3_bc c)
theorem ck_b4_ok {c : cS} (hK : cK c) (hA : cA c) (hP : cP c) : cV (ck_b4 c) := by
  obtain ⟨h1, h2, h3⟩ := ck_b2_ok hK hA hP
  obtain ⟨g1, -, -, g4⟩ := ck_b1_ok hK hA hP
  have h4 := ck_tot_rg h1 h3.1.G
  obtain ⟨e1, e2, e3⟩ := ck_b3_ok hK hA hP
  have e5 := ck_b4_bc c
  have e4 := ck_b4_rb c
  refine ⟨ck_clear_K e1, cA_clear e2, cP_clear e1 e3, ?_, by omega⟩
  rw [ck_b4_nL, e4, ← ck_b1_nL c]
  exact cR_rg g1 g4
theorem ck_b5_ok {c : cS} (hK : cK c) (hA : cA c) (hP : cP c) : cV (ck_b5 c) := ck_ex_ok (cg_nL c) 0 0 (ck_b4 c) (ck_b4_ok hK hA hP) (by rw [ck_b4_nL]; omega) (by omega)
theorem ck_b6_ok {c : cS} (hK : cK c) (hA : cA c) (hP : cP c) (i : Nat) (hi : i ≤ 6) : cV (ck_b6 c i) := zf_invB (P := cV) (N := 6) (fun a k hk ha => cV_take ha _ hk) (ck_b5_ok hK hA hP) i hi
theorem sp_S_takeU {d : Nat} {x : am_C} {c : cS} {t : List am_C} {n : Nat} {l s : Nat} {u : Int} (hl : l < 6) (hs : s < 256) (hu : u = (s : Int)) (hK : cK c) (hA : cA c) (hP : cP c) : am_W (d + 2) km_S_take 0 [some (.ref 38), some (.int (iI l)), some (.int (iI u)), none, none, none, none, none] [] (hC x c t) n 0 0 (am_eq (some (.int (iI (ck_take c l s).2))) (hC x (ck_take c l s).1 t) n) := by
  subst hu
  exact sp_S_take hl hs hK hA hP
set_option maxHeartbeats 1000000 in
set_option maxRecDepth 20000 in
theorem sp_S_allocateAtLeastCost {d : Nat} {x : am_C} {c : cS} {t : List am_C} {n : Nat} (hK : cK c) (hA : cA c) (hP : cP c) : am_W (d + 17) km_S_allocateAtLeastCost 0 [some (.ref 38), none] [] (hC x c t) n 0 0 (am_eq none (hC x (ck_b6 c (cg_nL c)) t) n) := by
  obtain ⟨hT, hL⟩ := hK.nn
  have loop : ∀ (f i : Nat), i ≤ cg_nL c → cg_nL c - i < f → am_W (d + 17) km_S_allocateAtLeastCost 36 [some (.ref 38), some (.int (iI i))] [] (hC x (ck_b6 c i) t) n 0 0 (am_eq none (hC x (ck_b6 c (cg_nL c)) t) n) := by
    intro f
    induction f with
    | zero => intro i h1 h2; omega
    | succ f ih =>
      intro i h1 h2
      have hV := ck_b6_ok hK hA hP i (by omega)
      have eL := ck_b6_nL c i
      refine ar_iload_n kd_S_allocateAtLeastCost_36 rfl ?_
      refine ar_aload_n kd_S_allocateAtLeastCost_37 rfl ?_
      refine ar_get (ci := 4) (k := 2) kd_S_allocateAtLeastCost_38 rfl kw_137 (by decide) rfl rfl ?_
      refine ar_get (ci := 2) (k := 0) kd_S_allocateAtLeastCost_41 rfl kw_82 (by decide) rfl rfl ?_
      refine az_icmp_ge (tg := 65) kd_S_allocateAtLeastCost_44 (by decide) (fun q1 => ?_) (fun q1 => ?_)
      · obtain rfl : i = cg_nL c := by omega
        refine ar_return kd_S_allocateAtLeastCost_65 rfl (Nat.le_of_ble_eq_true rfl) (Nat.le_of_ble_eq_true rfl) ?_
        exact ⟨rfl, rfl, rfl⟩
      · have hbe := (hV.2.1 i (by omega)).2.2.1
        have eb : cg_be (ck_b6 c i) i = (((cg_be (ck_b6 c i) i).toNat : Nat) : Int) := (Int.toNat_of_nonneg hbe.1).symm
        refine ar_aload_n kd_S_allocateAtLeastCost_47 rfl ?_
        refine ar_iload_n kd_S_allocateAtLeastCost_48 rfl ?_
        refine ar_aload_n kd_S_allocateAtLeastCost_49 rfl ?_
        refine ar_get (ci := 4) (k := 6) kd_S_allocateAtLeastCost_50 rfl kw_141 (by decide) rfl rfl ?_
        refine ar_iload_n kd_S_allocateAtLeastCost_53 rfl ?_
        refine az_iald kd_S_allocateAtLeastCost_54 rfl rfl (by omega) ?_
        refine az_callv (z := km_S_take) (As := [_, _]) (ci := 4) kd_S_allocateAtLeastCost_55 kw_466 kw_468 rfl ks_S_take kz_S_take rfl rfl rfl rfl rfl (Nat.le_of_ble_eq_true rfl) (Nat.le_of_ble_eq_true rfl) rfl (sp_S_takeU (d := d + 14) (by omega) (by omega) eb hV.1 hV.2.1 hV.2.2.1) ?_
        refine ar_pop kd_S_allocateAtLeastCost_58 rfl ?_
        refine az_iinc kd_S_allocateAtLeastCost_59 rfl rfl ?_
        dsimp only [List.set]
        refine ar_goto (tg := 36) kd_S_allocateAtLeastCost_62 (by decide) ?_
        exact ih (i + 1) (by omega) (by omega)
  obtain ⟨g1, g2, g3, g4⟩ := ck_b1_ok hK hA hP
  obtain ⟨k1, k2, k3⟩ := ck_b2_ok hK hA hP
  have hV4 := ck_b4_ok hK hA hP
  have e3 := (ck_b3_ok hK hA hP).1
  refine ar_aload_n kd_S_allocateAtLeastCost_0 rfl ?_
  refine az_callv (z := km_S_readBounds) (As := []) (ci := 4) kd_S_allocateAtLeastCost_1 kw_456 kw_458 rfl ks_S_readBounds kz_S_readBounds rfl rfl rfl rfl rfl (Nat.le_of_ble_eq_true rfl) (Nat.le_of_ble_eq_true rfl) rfl (am_deep (sp_S_readBounds (d := 0) hK hP.1.G) (by omega)) ?_
  refine ar_heap (h' := hC x (ck_b1 c) t) rfl ?_
  refine ar_aload_n kd_S_allocateAtLeastCost_4 rfl ?_
  refine az_callv (z := km_S_allocateByRule) (As := []) (ci := 4) kd_S_allocateAtLeastCost_5 kw_461 kw_462 rfl ks_S_allocateByRule kz_S_allocateByRule rfl rfl rfl rfl rfl (Nat.le_of_ble_eq_true rfl) (Nat.le_of_ble_eq_true rfl) rfl (am_deep (sp_S_allocateByRule (d := 0) g1 g2 g3) (by omega)) ?_
  rw [show ck_rule (ck_b1 c) (cg_nL (ck_b1 c)) = ck_b2 c by rw [ck_b1_nL]; rfl]
  refine ar_aload_n kd_S_allocateAtLeastCost_8 rfl ?_
  refine ar_aload_n kd_S_allocateAtLeastCost_9 rfl ?_
  refine ar_get (ci := 4) (k := 0) kd_S_allocateAtLeastCost_10 rfl kw_135 (by decide) rfl rfl ?_
  refine az_callv (z := km_F_totalCost) (As := []) (ci := 1) kd_S_allocateAtLeastCost_13 kw_475 kw_240 rfl ks_F_totalCost kz_F_totalCost rfl rfl rfl rfl rfl (Nat.le_of_ble_eq_true rfl) (Nat.le_of_ble_eq_true rfl) rfl (am_deep (sp_F_totalCostC (d := 0) k1 k3.1.G) (by omega)) ?_
  refine ar_iconst kd_S_allocateAtLeastCost_16 ?_
  refine az_iadd kd_S_allocateAtLeastCost_17 ?_
  refine ar_put (ci := 4) (k := 8) kd_S_allocateAtLeastCost_18 rfl kw_143 (by decide) rfl (Nat.le_of_ble_eq_true rfl) rfl (Nat.le_of_ble_eq_true rfl) rfl rfl rfl ?_
  refine ar_heap (hp_bc (ck_tot (ck_b2 c) + 1)) ?_
  refine ar_heap (h' := hC x (ck_b3 c) t) rfl ?_
  refine ar_aload_n kd_S_allocateAtLeastCost_21 rfl ?_
  refine ar_get (ci := 4) (k := 0) kd_S_allocateAtLeastCost_22 rfl kw_135 (by decide) rfl rfl ?_
  refine az_callv (z := km_F_clear) (As := []) (ci := 1) kd_S_allocateAtLeastCost_25 kw_476 kw_436 rfl ks_F_clear kz_F_clear rfl rfl rfl rfl rfl (Nat.le_of_ble_eq_true rfl) (Nat.le_of_ble_eq_true rfl) rfl (am_deep (sp_F_clear (d := 0) e3) (by omega)) ?_
  refine ar_heap (h' := hC x (ck_b4 c) t) rfl ?_
  refine ar_aload_n kd_S_allocateAtLeastCost_28 rfl ?_
  refine ar_iconst kd_S_allocateAtLeastCost_29 ?_
  refine ar_iconst kd_S_allocateAtLeastCost_30 ?_
  refine az_calls (z := km_S_explore) (As := [_, _, _]) kd_S_allocateAtLeastCost_31 kw_477 kw_478 kw_5 kz_S_explore rfl rfl rfl rfl (Nat.le_of_ble_eq_true rfl) (Nat.le_of_ble_eq_true rfl) rfl (am_deep (sp_S_explore (d := 0) (cg_nL c) 0 0 (ck_b4 c) hV4 (by rw [ck_b4_nL]; omega) (by omega)) (by omega)) ?_
  refine ar_heap (h' := hC x (ck_b5 c) t) rfl ?_
  refine ar_iconst kd_S_allocateAtLeastCost_34 ?_
  refine ar_istore_n kd_S_allocateAtLeastCost_35 (Nat.le_of_ble_eq_true rfl) rfl ?_
  dsimp only [List.set]
  exact loop (cg_nL c + 1) 0 (by omega) (by omega)
end
