/-! records of the methods, and what is said of callees, by program (wip/whole/facts.py) -/
def km_A_init : am_Y := (ky_A_init, kc_A_init, 1, none, [], 60, 1000)
def km_S_init : am_Y := (ky_S_init, kc_S_init, 1, none, [], 54, 490)
def km_F_init : am_Y := (ky_F_init, kc_F_init, 1, none, [], 40, 400)
def km_T_init : am_Y := (ky_T_init, kc_T_init, 1, none, [], 6, 48)
def km_N_init : am_Y := (ky_N_init, kc_N_init, 1, none, [], 24, 156)
def km_A_exact : am_Y := (ky_A_exact, kc_A_exact, 1, some .boolean, [], 0, 0)
def km_A_choices : am_Y := (ky_A_choices, kc_A_choices, 1, some .int, [], 0, 0)
def km_F_countChoices : am_Y := (ky_F_countChoices, kc_F_countChoices, 4, some .int, [], 0, 0)
def km_F_allows : am_Y := (ky_F_allows, kc_F_allows, 3, some .boolean, [], 0, 0)
def km_F_barsPassed : am_Y := (ky_F_barsPassed, kc_F_barsPassed, 3, some .int, [], 0, 0)
def km_N_isBarred : am_Y := (ky_N_isBarred, kc_N_isBarred, 3, some .boolean, [], 0, 0)
def km_A_bound : am_Y := (ky_A_bound, kc_A_bound, 3, some .int, [], 0, 0)
def km_F_lineBound : am_Y := (ky_F_lineBound, kc_F_lineBound, 5, some .int, [], 0, 0)
def km_F_pieceCost : am_Y := (ky_F_pieceCost, kc_F_pieceCost, 4, some .int, [], 0, 0)
def km_A_count : am_Y := (ky_A_count, kc_A_count, 2, some .int, [], 0, 0)
def km_F_totalPieces : am_Y := (ky_F_totalPieces, kc_F_totalPieces, 3, some .int, [], 0, 0)
def km_F_piecesOf : am_Y := (ky_F_piecesOf, kc_F_piecesOf, 4, some .int, [], 0, 0)
def km_F_totalGifts : am_Y := (ky_F_totalGifts, kc_F_totalGifts, 3, some .int, [], 0, 0)
def km_F_giftsOf : am_Y := (ky_F_giftsOf, kc_F_giftsOf, 4, some .int, [], 0, 0)
def km_F_totalCost : am_Y := (ky_F_totalCost, kc_F_totalCost, 3, some .int, [], 0, 0)
def km_F_lineCost : am_Y := (ky_F_lineCost, kc_F_lineCost, 5, some .int, [], 0, 0)
def km_L_lot : am_Y := (ky_L_lot, kc_L_lot, 7, some .int, [(0, 14, 17, 13), (0, 14, 21, 15)], 8, 48)
def km_A_lot : am_Y := (ky_A_lot, kc_A_lot, 5, some .int, [], 8, 48)
def km_A_needRange : am_Y := (ky_A_needRange, kc_A_needRange, 3, none, [], 1, 6)
def km_T_add : am_Y := (ky_T_add, kc_T_add, 6, some .int, [], 0, 0)
def km_T_putInOrder : am_Y := (ky_T_putInOrder, kc_T_putInOrder, 3, none, [], 0, 0)
def km_T_comesBefore : am_Y := (ky_T_comesBefore, kc_T_comesBefore, 3, some .boolean, [], 0, 0)
def km_L_line : am_Y := (ky_L_line, kc_L_line, 5, some .int, [(0, 10, 13, 13), (0, 10, 17, 15)], 8, 48)
def km_A_line : am_Y := (ky_A_line, kc_A_line, 3, some .int, [], 8, 48)
def km_N_add : am_Y := (ky_N_add, kc_N_add, 5, some .int, [], 0, 0)
def km_L_rule : am_Y := (ky_L_rule, kc_L_rule, 5, some .int, [(0, 7, 10, 25), (0, 7, 14, 13)], 8, 48)
def km_A_rule : am_Y := (ky_A_rule, kc_A_rule, 4, none, [], 8, 48)
def km_A_needLine : am_Y := (ky_A_needLine, kc_A_needLine, 2, none, [], 1, 6)
def km_L_cost : am_Y := (ky_L_cost, kc_L_cost, 5, some .int, [(0, 7, 10, 25), (0, 7, 14, 13)], 8, 48)
def km_A_cost : am_Y := (ky_A_cost, kc_A_cost, 4, none, [], 8, 48)
def km_A_needLot : am_Y := (ky_A_needLot, kc_A_needLot, 2, none, [], 1, 6)
def km_L_may : am_Y := (ky_L_may, kc_L_may, 6, some .int, [(0, 19, 22, 25)], 8, 48)
def km_A_may : am_Y := (ky_A_may, kc_A_may, 4, some .boolean, [], 8, 48)
def km_N_setBarred : am_Y := (ky_N_setBarred, kc_N_setBarred, 5, none, [], 0, 0)
def km_L_solve : am_Y := (ky_L_solve, kc_L_solve, 4, some .int, [(0, 9, 12, 13)], 8, 48)
def km_A_solve : am_Y := (ky_A_solve, kc_A_solve, 3, some .int, [], 8, 48)
def km_F_clear : am_Y := (ky_F_clear, kc_F_clear, 2, none, [], 0, 0)
def km_F_letGo : am_Y := (ky_F_letGo, kc_F_letGo, 3, none, [], 0, 0)
def km_F_move : am_Y := (ky_F_move, kc_F_move, 4, none, [], 0, 0)
def km_S_readAllowed : am_Y := (ky_S_readAllowed, kc_S_readAllowed, 5, none, [], 0, 0)
def km_S_allocateAtLeastCost : am_Y := (ky_S_allocateAtLeastCost, kc_S_allocateAtLeastCost, 2, none, [], 0, 0)
def km_S_readBounds : am_Y := (ky_S_readBounds, kc_S_readBounds, 2, none, [], 0, 0)
def km_S_allocateByRule : am_Y := (ky_S_allocateByRule, kc_S_allocateByRule, 3, none, [], 0, 0)
def km_S_take : am_Y := (ky_S_take, kc_S_take, 8, some .int, [], 0, 0)
def km_S_roundDown : am_Y := (ky_S_roundDown, kc_S_roundDown, 2, some .int, [], 0, 0)
def km_S_explore : am_Y := (ky_S_explore, kc_S_explore, 6, none, [], 0, 0)
def km_S_keep : am_Y := (ky_S_keep, kc_S_keep, 3, none, [], 0, 0)
def km_I_bitCount : am_Y := (ky_I_bitCount, kc_I_bitCount, 1, some .int, [], 0, 0)
def km_S_exploreBehind : am_Y := (ky_S_exploreBehind, kc_S_exploreBehind, 3, none, [], 0, 0)
def km_L_give : am_Y := (ky_L_give, kc_L_give, 6, some .int, [(0, 12, 15, 25), (0, 12, 19, 13)], 8, 48)
def km_A_give : am_Y := (ky_A_give, kc_A_give, 5, some .int, [], 8, 48)
def km_F_lotOfGift : am_Y := (ky_F_lotOfGift, kc_F_lotOfGift, 6, some .int, [], 0, 0)
def km_L_held : am_Y := (ky_L_held, kc_L_held, 4, some .int, [(0, 9, 12, 25)], 8, 48)
def km_A_held : am_Y := (ky_A_held, kc_A_held, 2, some .int, [], 8, 48)
def km_L_left : am_Y := (ky_L_left, kc_L_left, 4, some .int, [(0, 9, 12, 25)], 8, 48)
def km_A_left : am_Y := (ky_A_left, kc_A_left, 2, some .int, [], 8, 48)
def km_L_bar : am_Y := (ky_L_bar, kc_L_bar, 4, some .int, [(0, 9, 12, 25)], 8, 48)
def km_A_bar : am_Y := (ky_A_bar, kc_A_bar, 2, some .int, [], 8, 48)
def km_F_firstBar : am_Y := (ky_F_firstBar, kc_F_firstBar, 4, some .int, [], 0, 0)
def km_L_change : am_Y := (ky_L_change, kc_L_change, 5, some .int, [(0, 10, 13, 25), (0, 10, 17, 13)], 8, 48)
def km_A_change : am_Y := (ky_A_change, kc_A_change, 3, some .int, [], 8, 48)
def km_F_setPieces : am_Y := (ky_F_setPieces, kc_F_setPieces, 5, some .int, [], 0, 0)
def km_F_giveUp : am_Y := (ky_F_giveUp, kc_F_giveUp, 3, none, [], 0, 0)
def km_L_undo : am_Y := (ky_L_undo, kc_L_undo, 4, some .int, [(0, 9, 12, 25), (0, 9, 15, 57)], 8, 48)
def km_A_undo : am_Y := (ky_A_undo, kc_A_undo, 3, some .int, [], 8, 48)
def km_L_refused : am_Y := (ky_L_refused, kc_L_refused, 4, some .int, [(0, 9, 12, 25)], 8, 48)
def km_A_refused : am_Y := (ky_A_refused, kc_A_refused, 2, some .int, [], 8, 48)
def km_L_average : am_Y := (ky_L_average, kc_L_average, 4, some .int, [(0, 9, 12, 25), (0, 9, 15, 65)], 8, 48)
def km_A_average : am_Y := (ky_A_average, kc_A_average, 3, some .int, [], 8, 48)
def km_F_costOfPieces : am_Y := (ky_F_costOfPieces, kc_F_costOfPieces, 4, some .int, [], 0, 0)
def km_M_init : am_Y := (ky_M_init, kc_M_init, 2, none, [], 60, 1000)
def km_M_thrown : am_Y := (ky_M_thrown, kc_M_thrown, 1, some .int, [], 0, 0)
def km_M_lot : am_Y := (ky_M_lot, kc_M_lot, 5, some .int, [], 0, 0)
def km_M_in : am_Y := (ky_M_in, kc_M_in, 3, some .boolean, [], 0, 0)
def km_M_line : am_Y := (ky_M_line, kc_M_line, 3, some .int, [], 0, 0)
def km_M_rule : am_Y := (ky_M_rule, kc_M_rule, 4, none, [], 0, 0)
def km_M_isLine : am_Y := (ky_M_isLine, kc_M_isLine, 2, some .boolean, [], 0, 0)
def km_M_isRule : am_Y := (ky_M_isRule, kc_M_isRule, 2, some .boolean, [], 0, 0)
def km_M_cost : am_Y := (ky_M_cost, kc_M_cost, 4, none, [], 0, 0)
def km_M_isLot : am_Y := (ky_M_isLot, kc_M_isLot, 2, some .boolean, [], 0, 0)
def km_M_may : am_Y := (ky_M_may, kc_M_may, 4, some .boolean, [], 0, 0)
def km_M_isAllowed : am_Y := (ky_M_isAllowed, kc_M_isAllowed, 3, some .boolean, [], 0, 0)
def km_M_passes : am_Y := (ky_M_passes, kc_M_passes, 4, some .boolean, [], 0, 0)
def km_M_solve : am_Y := (ky_M_solve, kc_M_solve, 4, some .int, [], 0, 0)
def km_M_layOut : am_Y := (ky_M_layOut, kc_M_layOut, 4, none, [], 0, 0)
def km_M_lotAt : am_Y := (ky_M_lotAt, kc_M_lotAt, 5, some .int, [], 0, 0)
def km_M_isBefore : am_Y := (ky_M_isBefore, kc_M_isBefore, 3, some .boolean, [], 0, 0)
def km_M_product : am_Y := (ky_M_product, kc_M_product, 5, some .long, [], 0, 0)
def km_M_exactly : am_Y := (ky_M_exactly, kc_M_exactly, 4, none, [], 0, 0)
def km_M_takeFrom : am_Y := (ky_M_takeFrom, kc_M_takeFrom, 3, none, [], 0, 0)
def km_M_take : am_Y := (ky_M_take, kc_M_take, 7, none, [], 0, 0)
def km_M_costOf : am_Y := (ky_M_costOf, kc_M_costOf, 3, some .int, [], 0, 0)
def km_M_nextSets : am_Y := (ky_M_nextSets, kc_M_nextSets, 2, some .int, [], 0, 0)
def km_M_bits : am_Y := (ky_M_bits, kc_M_bits, 3, some .int, [], 0, 0)
def km_M_byRule : am_Y := (ky_M_byRule, kc_M_byRule, 3, none, [], 0, 0)
def km_M_exact : am_Y := (ky_M_exact, kc_M_exact, 1, some .boolean, [], 0, 0)
def km_M_choices : am_Y := (ky_M_choices, kc_M_choices, 1, some .int, [], 0, 0)
def km_M_bound : am_Y := (ky_M_bound, kc_M_bound, 6, some .int, [], 0, 0)
def km_M_give : am_Y := (ky_M_give, kc_M_give, 5, some .int, [], 0, 0)
def km_M_giftAt : am_Y := (ky_M_giftAt, kc_M_giftAt, 6, some .int, [], 0, 0)
def km_M_held : am_Y := (ky_M_held, kc_M_held, 2, some .int, [], 0, 0)
def km_M_heldOf : am_Y := (ky_M_heldOf, kc_M_heldOf, 4, some .int, [], 0, 0)
def km_M_left : am_Y := (ky_M_left, kc_M_left, 2, some .int, [], 0, 0)
def km_M_bar : am_Y := (ky_M_bar, kc_M_bar, 5, some .int, [], 0, 0)
def km_M_change : am_Y := (ky_M_change, kc_M_change, 8, some .int, [], 0, 0)
def km_M_undo : am_Y := (ky_M_undo, kc_M_undo, 4, some .int, [], 0, 0)
def km_M_heldBy : am_Y := (ky_M_heldBy, kc_M_heldBy, 4, some .int, [], 0, 0)
def km_M_refused : am_Y := (ky_M_refused, kc_M_refused, 2, some .int, [], 0, 0)
def km_M_average : am_Y := (ky_M_average, kc_M_average, 4, some .int, [], 0, 0)
def km_M_count : am_Y := (ky_M_count, kc_M_count, 8, some .int, [], 0, 0)
def km_L_law : am_Y := (ky_L_law, kc_L_law, 7, some .boolean, [], 648338, 7151090)
theorem kz_A_init : am_Z km_A_init 0 := ⟨Or.inl ⟨21, kw_21, rfl⟩, by decide +kernel, by decide, ⟨by decide, by decide⟩, by decide +kernel⟩
theorem kz_S_init : am_Z km_S_init 0 := ⟨Or.inl ⟨29, kw_29, rfl⟩, by decide +kernel, by decide, ⟨by decide, by decide⟩, by decide +kernel⟩
theorem kz_F_init : am_Z km_F_init 0 := ⟨Or.inl ⟨35, kw_35, rfl⟩, by decide +kernel, by decide, ⟨by decide, by decide⟩, by decide +kernel⟩
theorem kz_T_init : am_Z km_T_init 0 := ⟨Or.inl ⟨41, kw_41, rfl⟩, by decide +kernel, by decide, ⟨by decide, by decide⟩, by decide +kernel⟩
theorem kz_N_init : am_Z km_N_init 0 := ⟨Or.inl ⟨83, kw_83, rfl⟩, by decide +kernel, by decide, ⟨by decide, by decide⟩, by decide +kernel⟩
theorem kz_A_exact : am_Z km_A_exact 0 := ⟨Or.inl ⟨183, kw_183, rfl⟩, by decide +kernel, by decide, ⟨by decide, by decide⟩, by decide +kernel⟩
theorem kz_A_choices : am_Z km_A_choices 0 := ⟨Or.inl ⟨187, kw_187, rfl⟩, by decide +kernel, by decide, ⟨by decide, by decide⟩, by decide +kernel⟩
theorem kz_F_countChoices : am_Z km_F_countChoices 0 := ⟨Or.inl ⟨191, kw_191, rfl⟩, by decide +kernel, by decide, ⟨by decide, by decide⟩, by decide +kernel⟩
theorem kz_F_allows : am_Z km_F_allows 2 := ⟨Or.inl ⟨195, kw_195, rfl⟩, by decide +kernel, by decide, ⟨by decide, by decide⟩, by decide +kernel⟩
theorem kz_F_barsPassed : am_Z km_F_barsPassed 2 := ⟨Or.inl ⟨199, kw_199, rfl⟩, by decide +kernel, by decide, ⟨by decide, by decide⟩, by decide +kernel⟩
theorem kz_N_isBarred : am_Z km_N_isBarred 2 := ⟨Or.inl ⟨203, kw_203, rfl⟩, by decide +kernel, by decide, ⟨by decide, by decide⟩, by decide +kernel⟩
theorem kz_A_bound : am_Z km_A_bound 0 := ⟨Or.inl ⟨208, kw_208, rfl⟩, by decide +kernel, by decide, ⟨by decide, by decide⟩, by decide +kernel⟩
theorem kz_F_lineBound : am_Z km_F_lineBound 1 := ⟨Or.inl ⟨212, kw_212, rfl⟩, by decide +kernel, by decide, ⟨by decide, by decide⟩, by decide +kernel⟩
theorem kz_F_pieceCost : am_Z km_F_pieceCost 2 := ⟨Or.inl ⟨216, kw_216, rfl⟩, by decide +kernel, by decide, ⟨by decide, by decide⟩, by decide +kernel⟩
theorem kz_A_count : am_Z km_A_count 1 := ⟨Or.inl ⟨223, kw_223, rfl⟩, by decide +kernel, by decide, ⟨by decide, by decide⟩, by decide +kernel⟩
theorem kz_F_totalPieces : am_Z km_F_totalPieces 0 := ⟨Or.inl ⟨227, kw_227, rfl⟩, by decide +kernel, by decide, ⟨by decide, by decide⟩, by decide +kernel⟩
theorem kz_F_piecesOf : am_Z km_F_piecesOf 1 := ⟨Or.inl ⟨231, kw_231, rfl⟩, by decide +kernel, by decide, ⟨by decide, by decide⟩, by decide +kernel⟩
theorem kz_F_totalGifts : am_Z km_F_totalGifts 0 := ⟨Or.inl ⟨235, kw_235, rfl⟩, by decide +kernel, by decide, ⟨by decide, by decide⟩, by decide +kernel⟩
theorem kz_F_giftsOf : am_Z km_F_giftsOf 1 := ⟨Or.inl ⟨239, kw_239, rfl⟩, by decide +kernel, by decide, ⟨by decide, by decide⟩, by decide +kernel⟩
theorem kz_F_totalCost : am_Z km_F_totalCost 0 := ⟨Or.inl ⟨243, kw_243, rfl⟩, by decide +kernel, by decide, ⟨by decide, by decide⟩, by decide +kernel⟩
theorem kz_F_lineCost : am_Z km_F_lineCost 1 := ⟨Or.inl ⟨247, kw_247, rfl⟩, by decide +kernel, by decide, ⟨by decide, by decide⟩, by decide +kernel⟩
theorem kz_L_lot : am_Z km_L_lot 6 := ⟨Or.inr ⟨250, kw_250⟩, by decide +kernel, by decide, ⟨by decide, by decide⟩, by decide +kernel⟩
theorem kz_A_lot : am_Z km_A_lot 4 := ⟨Or.inl ⟨256, kw_256, rfl⟩, by decide +kernel, by decide, ⟨by decide, by decide⟩, by decide +kernel⟩
theorem kz_A_needRange : am_Z km_A_needRange 3 := ⟨Or.inl ⟨259, kw_259, rfl⟩, by decide +kernel, by decide, ⟨by decide, by decide⟩, by decide +kernel⟩
theorem kz_T_add : am_Z km_T_add 4 := ⟨Or.inl ⟨349, kw_349, rfl⟩, by decide +kernel, by decide, ⟨by decide, by decide⟩, by decide +kernel⟩
theorem kz_T_putInOrder : am_Z km_T_putInOrder 1 := ⟨Or.inl ⟨353, kw_353, rfl⟩, by decide +kernel, by decide, ⟨by decide, by decide⟩, by decide +kernel⟩
theorem kz_T_comesBefore : am_Z km_T_comesBefore 2 := ⟨Or.inl ⟨357, kw_357, rfl⟩, by decide +kernel, by decide, ⟨by decide, by decide⟩, by decide +kernel⟩
theorem kz_L_line : am_Z km_L_line 4 := ⟨Or.inr ⟨360, kw_360⟩, by decide +kernel, by decide, ⟨by decide, by decide⟩, by decide +kernel⟩
theorem kz_A_line : am_Z km_A_line 2 := ⟨Or.inl ⟨364, kw_364, rfl⟩, by decide +kernel, by decide, ⟨by decide, by decide⟩, by decide +kernel⟩
theorem kz_N_add : am_Z km_N_add 2 := ⟨Or.inl ⟨369, kw_369, rfl⟩, by decide +kernel, by decide, ⟨by decide, by decide⟩, by decide +kernel⟩
theorem kz_L_rule : am_Z km_L_rule 4 := ⟨Or.inr ⟨374, kw_374⟩, by decide +kernel, by decide, ⟨by decide, by decide⟩, by decide +kernel⟩
theorem kz_A_rule : am_Z km_A_rule 3 := ⟨Or.inl ⟨379, kw_379, rfl⟩, by decide +kernel, by decide, ⟨by decide, by decide⟩, by decide +kernel⟩
theorem kz_A_needLine : am_Z km_A_needLine 1 := ⟨Or.inl ⟨383, kw_383, rfl⟩, by decide +kernel, by decide, ⟨by decide, by decide⟩, by decide +kernel⟩
theorem kz_L_cost : am_Z km_L_cost 4 := ⟨Or.inr ⟨406, kw_406⟩, by decide +kernel, by decide, ⟨by decide, by decide⟩, by decide +kernel⟩
theorem kz_A_cost : am_Z km_A_cost 3 := ⟨Or.inl ⟨410, kw_410, rfl⟩, by decide +kernel, by decide, ⟨by decide, by decide⟩, by decide +kernel⟩
theorem kz_A_needLot : am_Z km_A_needLot 1 := ⟨Or.inl ⟨414, kw_414, rfl⟩, by decide +kernel, by decide, ⟨by decide, by decide⟩, by decide +kernel⟩
theorem kz_L_may : am_Z km_L_may 5 := ⟨Or.inr ⟨418, kw_418⟩, by decide +kernel, by decide, ⟨by decide, by decide⟩, by decide +kernel⟩
theorem kz_A_may : am_Z km_A_may 3 := ⟨Or.inl ⟨422, kw_422, rfl⟩, by decide +kernel, by decide, ⟨by decide, by decide⟩, by decide +kernel⟩
theorem kz_N_setBarred : am_Z km_N_setBarred 3 := ⟨Or.inl ⟨426, kw_426, rfl⟩, by decide +kernel, by decide, ⟨by decide, by decide⟩, by decide +kernel⟩
theorem kz_L_solve : am_Z km_L_solve 3 := ⟨Or.inr ⟨430, kw_430⟩, by decide +kernel, by decide, ⟨by decide, by decide⟩, by decide +kernel⟩
theorem kz_A_solve : am_Z km_A_solve 1 := ⟨Or.inl ⟨434, kw_434, rfl⟩, by decide +kernel, by decide, ⟨by decide, by decide⟩, by decide +kernel⟩
theorem kz_F_clear : am_Z km_F_clear 0 := ⟨Or.inl ⟨439, kw_439, rfl⟩, by decide +kernel, by decide, ⟨by decide, by decide⟩, by decide +kernel⟩
theorem kz_F_letGo : am_Z km_F_letGo 1 := ⟨Or.inl ⟨443, kw_443, rfl⟩, by decide +kernel, by decide, ⟨by decide, by decide⟩, by decide +kernel⟩
theorem kz_F_move : am_Z km_F_move 3 := ⟨Or.inl ⟨447, kw_447, rfl⟩, by decide +kernel, by decide, ⟨by decide, by decide⟩, by decide +kernel⟩
theorem kz_S_readAllowed : am_Z km_S_readAllowed 0 := ⟨Or.inl ⟨451, kw_451, rfl⟩, by decide +kernel, by decide, ⟨by decide, by decide⟩, by decide +kernel⟩
theorem kz_S_allocateAtLeastCost : am_Z km_S_allocateAtLeastCost 0 := ⟨Or.inl ⟨456, kw_456, rfl⟩, by decide +kernel, by decide, ⟨by decide, by decide⟩, by decide +kernel⟩
theorem kz_S_readBounds : am_Z km_S_readBounds 0 := ⟨Or.inl ⟨460, kw_460, rfl⟩, by decide +kernel, by decide, ⟨by decide, by decide⟩, by decide +kernel⟩
theorem kz_S_allocateByRule : am_Z km_S_allocateByRule 0 := ⟨Or.inl ⟨465, kw_465, rfl⟩, by decide +kernel, by decide, ⟨by decide, by decide⟩, by decide +kernel⟩
theorem kz_S_take : am_Z km_S_take 2 := ⟨Or.inl ⟨470, kw_470, rfl⟩, by decide +kernel, by decide, ⟨by decide, by decide⟩, by decide +kernel⟩
theorem kz_S_roundDown : am_Z km_S_roundDown 2 := ⟨Or.inl ⟨473, kw_473, rfl⟩, by decide +kernel, by decide, ⟨by decide, by decide⟩, by decide +kernel⟩
theorem kz_S_explore : am_Z km_S_explore 3 := ⟨Or.inl ⟨480, kw_480, rfl⟩, by decide +kernel, by decide, ⟨by decide, by decide⟩, by decide +kernel⟩
theorem kz_S_keep : am_Z km_S_keep 1 := ⟨Or.inl ⟨484, kw_484, rfl⟩, by decide +kernel, by decide, ⟨by decide, by decide⟩, by decide +kernel⟩
theorem kz_I_bitCount : am_Z km_I_bitCount 1 := ⟨Or.inl ⟨487, kw_487, rfl⟩, by decide +kernel, by decide, ⟨by decide, by decide⟩, by decide +kernel⟩
theorem kz_S_exploreBehind : am_Z km_S_exploreBehind 3 := ⟨Or.inl ⟨494, kw_494, rfl⟩, by decide +kernel, by decide, ⟨by decide, by decide⟩, by decide +kernel⟩
theorem kz_L_give : am_Z km_L_give 5 := ⟨Or.inr ⟨498, kw_498⟩, by decide +kernel, by decide, ⟨by decide, by decide⟩, by decide +kernel⟩
theorem kz_A_give : am_Z km_A_give 3 := ⟨Or.inl ⟨502, kw_502, rfl⟩, by decide +kernel, by decide, ⟨by decide, by decide⟩, by decide +kernel⟩
theorem kz_F_lotOfGift : am_Z km_F_lotOfGift 2 := ⟨Or.inl ⟨506, kw_506, rfl⟩, by decide +kernel, by decide, ⟨by decide, by decide⟩, by decide +kernel⟩
theorem kz_L_held : am_Z km_L_held 3 := ⟨Or.inr ⟨511, kw_511⟩, by decide +kernel, by decide, ⟨by decide, by decide⟩, by decide +kernel⟩
theorem kz_A_held : am_Z km_A_held 1 := ⟨Or.inl ⟨515, kw_515, rfl⟩, by decide +kernel, by decide, ⟨by decide, by decide⟩, by decide +kernel⟩
theorem kz_L_left : am_Z km_L_left 3 := ⟨Or.inr ⟨518, kw_518⟩, by decide +kernel, by decide, ⟨by decide, by decide⟩, by decide +kernel⟩
theorem kz_A_left : am_Z km_A_left 1 := ⟨Or.inl ⟨522, kw_522, rfl⟩, by decide +kernel, by decide, ⟨by decide, by decide⟩, by decide +kernel⟩
theorem kz_L_bar : am_Z km_L_bar 3 := ⟨Or.inr ⟨525, kw_525⟩, by decide +kernel, by decide, ⟨by decide, by decide⟩, by decide +kernel⟩
theorem kz_A_bar : am_Z km_A_bar 1 := ⟨Or.inl ⟨529, kw_529, rfl⟩, by decide +kernel, by decide, ⟨by decide, by decide⟩, by decide +kernel⟩
theorem kz_F_firstBar : am_Z km_F_firstBar 1 := ⟨Or.inl ⟨533, kw_533, rfl⟩, by decide +kernel, by decide, ⟨by decide, by decide⟩, by decide +kernel⟩
theorem kz_L_change : am_Z km_L_change 4 := ⟨Or.inr ⟨539, kw_539⟩, by decide +kernel, by decide, ⟨by decide, by decide⟩, by decide +kernel⟩
theorem kz_A_change : am_Z km_A_change 2 := ⟨Or.inl ⟨543, kw_543, rfl⟩, by decide +kernel, by decide, ⟨by decide, by decide⟩, by decide +kernel⟩
theorem kz_F_setPieces : am_Z km_F_setPieces 2 := ⟨Or.inl ⟨547, kw_547, rfl⟩, by decide +kernel, by decide, ⟨by decide, by decide⟩, by decide +kernel⟩
theorem kz_F_giveUp : am_Z km_F_giveUp 2 := ⟨Or.inl ⟨551, kw_551, rfl⟩, by decide +kernel, by decide, ⟨by decide, by decide⟩, by decide +kernel⟩
theorem kz_L_undo : am_Z km_L_undo 3 := ⟨Or.inr ⟨554, kw_554⟩, by decide +kernel, by decide, ⟨by decide, by decide⟩, by decide +kernel⟩
theorem kz_A_undo : am_Z km_A_undo 1 := ⟨Or.inl ⟨559, kw_559, rfl⟩, by decide +kernel, by decide, ⟨by decide, by decide⟩, by decide +kernel⟩
theorem kz_L_refused : am_Z km_L_refused 3 := ⟨Or.inr ⟨580, kw_580⟩, by decide +kernel, by decide, ⟨by decide, by decide⟩, by decide +kernel⟩
theorem kz_A_refused : am_Z km_A_refused 1 := ⟨Or.inl ⟨584, kw_584, rfl⟩, by decide +kernel, by decide, ⟨by decide, by decide⟩, by decide +kernel⟩
theorem kz_L_average : am_Z km_L_average 3 := ⟨Or.inr ⟨587, kw_587⟩, by decide +kernel, by decide, ⟨by decide, by decide⟩, by decide +kernel⟩
theorem kz_A_average : am_Z km_A_average 1 := ⟨Or.inl ⟨592, kw_592, rfl⟩, by decide +kernel, by decide, ⟨by decide, by decide⟩, by decide +kernel⟩
theorem kz_F_costOfPieces : am_Z km_F_costOfPieces 1 := ⟨Or.inl ⟨612, kw_612, rfl⟩, by decide +kernel, by decide, ⟨by decide, by decide⟩, by decide +kernel⟩
theorem kz_M_init : am_Z km_M_init 0 := ⟨Or.inl ⟨617, kw_617, rfl⟩, by decide +kernel, by decide, ⟨by decide, by decide⟩, by decide +kernel⟩
theorem kz_M_thrown : am_Z km_M_thrown 0 := ⟨Or.inl ⟨687, kw_687, rfl⟩, by decide +kernel, by decide, ⟨by decide, by decide⟩, by decide +kernel⟩
theorem kz_M_lot : am_Z km_M_lot 4 := ⟨Or.inl ⟨691, kw_691, rfl⟩, by decide +kernel, by decide, ⟨by decide, by decide⟩, by decide +kernel⟩
theorem kz_M_in : am_Z km_M_in 3 := ⟨Or.inl ⟨694, kw_694, rfl⟩, by decide +kernel, by decide, ⟨by decide, by decide⟩, by decide +kernel⟩
theorem kz_M_line : am_Z km_M_line 2 := ⟨Or.inl ⟨698, kw_698, rfl⟩, by decide +kernel, by decide, ⟨by decide, by decide⟩, by decide +kernel⟩
theorem kz_M_rule : am_Z km_M_rule 3 := ⟨Or.inl ⟨702, kw_702, rfl⟩, by decide +kernel, by decide, ⟨by decide, by decide⟩, by decide +kernel⟩
theorem kz_M_isLine : am_Z km_M_isLine 1 := ⟨Or.inl ⟨706, kw_706, rfl⟩, by decide +kernel, by decide, ⟨by decide, by decide⟩, by decide +kernel⟩
theorem kz_M_isRule : am_Z km_M_isRule 2 := ⟨Or.inl ⟨709, kw_709, rfl⟩, by decide +kernel, by decide, ⟨by decide, by decide⟩, by decide +kernel⟩
theorem kz_M_cost : am_Z km_M_cost 3 := ⟨Or.inl ⟨713, kw_713, rfl⟩, by decide +kernel, by decide, ⟨by decide, by decide⟩, by decide +kernel⟩
theorem kz_M_isLot : am_Z km_M_isLot 1 := ⟨Or.inl ⟨717, kw_717, rfl⟩, by decide +kernel, by decide, ⟨by decide, by decide⟩, by decide +kernel⟩
theorem kz_M_may : am_Z km_M_may 3 := ⟨Or.inl ⟨721, kw_721, rfl⟩, by decide +kernel, by decide, ⟨by decide, by decide⟩, by decide +kernel⟩
theorem kz_M_isAllowed : am_Z km_M_isAllowed 2 := ⟨Or.inl ⟨725, kw_725, rfl⟩, by decide +kernel, by decide, ⟨by decide, by decide⟩, by decide +kernel⟩
theorem kz_M_passes : am_Z km_M_passes 3 := ⟨Or.inl ⟨729, kw_729, rfl⟩, by decide +kernel, by decide, ⟨by decide, by decide⟩, by decide +kernel⟩
theorem kz_M_solve : am_Z km_M_solve 1 := ⟨Or.inl ⟨733, kw_733, rfl⟩, by decide +kernel, by decide, ⟨by decide, by decide⟩, by decide +kernel⟩
theorem kz_M_layOut : am_Z km_M_layOut 0 := ⟨Or.inl ⟨738, kw_738, rfl⟩, by decide +kernel, by decide, ⟨by decide, by decide⟩, by decide +kernel⟩
theorem kz_M_lotAt : am_Z km_M_lotAt 1 := ⟨Or.inl ⟨742, kw_742, rfl⟩, by decide +kernel, by decide, ⟨by decide, by decide⟩, by decide +kernel⟩
theorem kz_M_isBefore : am_Z km_M_isBefore 2 := ⟨Or.inl ⟨746, kw_746, rfl⟩, by decide +kernel, by decide, ⟨by decide, by decide⟩, by decide +kernel⟩
theorem kz_M_product : am_Z km_M_product 0 := ⟨Or.inl ⟨750, kw_750, rfl⟩, by decide +kernel, by decide, ⟨by decide, by decide⟩, by decide +kernel⟩
theorem kz_M_exactly : am_Z km_M_exactly 0 := ⟨Or.inl ⟨755, kw_755, rfl⟩, by decide +kernel, by decide, ⟨by decide, by decide⟩, by decide +kernel⟩
theorem kz_M_takeFrom : am_Z km_M_takeFrom 1 := ⟨Or.inl ⟨759, kw_759, rfl⟩, by decide +kernel, by decide, ⟨by decide, by decide⟩, by decide +kernel⟩
theorem kz_M_take : am_Z km_M_take 1 := ⟨Or.inl ⟨763, kw_763, rfl⟩, by decide +kernel, by decide, ⟨by decide, by decide⟩, by decide +kernel⟩
theorem kz_M_costOf : am_Z km_M_costOf 2 := ⟨Or.inl ⟨767, kw_767, rfl⟩, by decide +kernel, by decide, ⟨by decide, by decide⟩, by decide +kernel⟩
theorem kz_M_nextSets : am_Z km_M_nextSets 0 := ⟨Or.inl ⟨771, kw_771, rfl⟩, by decide +kernel, by decide, ⟨by decide, by decide⟩, by decide +kernel⟩
theorem kz_M_bits : am_Z km_M_bits 1 := ⟨Or.inl ⟨774, kw_774, rfl⟩, by decide +kernel, by decide, ⟨by decide, by decide⟩, by decide +kernel⟩
theorem kz_M_byRule : am_Z km_M_byRule 0 := ⟨Or.inl ⟨778, kw_778, rfl⟩, by decide +kernel, by decide, ⟨by decide, by decide⟩, by decide +kernel⟩
theorem kz_M_exact : am_Z km_M_exact 0 := ⟨Or.inl ⟨782, kw_782, rfl⟩, by decide +kernel, by decide, ⟨by decide, by decide⟩, by decide +kernel⟩
theorem kz_M_choices : am_Z km_M_choices 0 := ⟨Or.inl ⟨786, kw_786, rfl⟩, by decide +kernel, by decide, ⟨by decide, by decide⟩, by decide +kernel⟩
theorem kz_M_bound : am_Z km_M_bound 0 := ⟨Or.inl ⟨791, kw_791, rfl⟩, by decide +kernel, by decide, ⟨by decide, by decide⟩, by decide +kernel⟩
theorem kz_M_give : am_Z km_M_give 3 := ⟨Or.inl ⟨795, kw_795, rfl⟩, by decide +kernel, by decide, ⟨by decide, by decide⟩, by decide +kernel⟩
theorem kz_M_giftAt : am_Z km_M_giftAt 2 := ⟨Or.inl ⟨799, kw_799, rfl⟩, by decide +kernel, by decide, ⟨by decide, by decide⟩, by decide +kernel⟩
theorem kz_M_held : am_Z km_M_held 1 := ⟨Or.inl ⟨803, kw_803, rfl⟩, by decide +kernel, by decide, ⟨by decide, by decide⟩, by decide +kernel⟩
theorem kz_M_heldOf : am_Z km_M_heldOf 1 := ⟨Or.inl ⟨807, kw_807, rfl⟩, by decide +kernel, by decide, ⟨by decide, by decide⟩, by decide +kernel⟩
theorem kz_M_left : am_Z km_M_left 1 := ⟨Or.inl ⟨811, kw_811, rfl⟩, by decide +kernel, by decide, ⟨by decide, by decide⟩, by decide +kernel⟩
theorem kz_M_bar : am_Z km_M_bar 1 := ⟨Or.inl ⟨815, kw_815, rfl⟩, by decide +kernel, by decide, ⟨by decide, by decide⟩, by decide +kernel⟩
theorem kz_M_change : am_Z km_M_change 2 := ⟨Or.inl ⟨819, kw_819, rfl⟩, by decide +kernel, by decide, ⟨by decide, by decide⟩, by decide +kernel⟩
theorem kz_M_undo : am_Z km_M_undo 1 := ⟨Or.inl ⟨823, kw_823, rfl⟩, by decide +kernel, by decide, ⟨by decide, by decide⟩, by decide +kernel⟩
theorem kz_M_heldBy : am_Z km_M_heldBy 1 := ⟨Or.inl ⟨827, kw_827, rfl⟩, by decide +kernel, by decide, ⟨by decide, by decide⟩, by decide +kernel⟩
theorem kz_M_refused : am_Z km_M_refused 1 := ⟨Or.inl ⟨831, kw_831, rfl⟩, by decide +kernel, by decide, ⟨by decide, by decide⟩, by decide +kernel⟩
theorem kz_M_average : am_Z km_M_average 1 := ⟨Or.inl ⟨835, kw_835, rfl⟩, by decide +kernel, by decide, ⟨by decide, by decide⟩, by decide +kernel⟩
theorem kz_M_count : am_Z km_M_count 1 := ⟨Or.inl ⟨839, kw_839, rfl⟩, by decide +kernel, by decide, ⟨by decide, by decide⟩, by decide +kernel⟩
theorem ks_A_exact : Jvm.Cond.selects "AllocateSolve" (am_nm km_A_exact) (am_nm km_A_exact) ∈ lw_tbl := kw_in (i := 182) kw_182
theorem ks_A_choices : Jvm.Cond.selects "AllocateSolve" (am_nm km_A_choices) (am_nm km_A_choices) ∈ lw_tbl := kw_in (i := 186) kw_186
theorem ks_F_countChoices : Jvm.Cond.selects "AllocateSolve$Floor" (am_nm km_F_countChoices) (am_nm km_F_countChoices) ∈ lw_tbl := kw_in (i := 190) kw_190
theorem ks_F_allows : Jvm.Cond.selects "AllocateSolve$Floor" (am_nm km_F_allows) (am_nm km_F_allows) ∈ lw_tbl := kw_in (i := 194) kw_194
theorem ks_F_barsPassed : Jvm.Cond.selects "AllocateSolve$Floor" (am_nm km_F_barsPassed) (am_nm km_F_barsPassed) ∈ lw_tbl := List.mem_of_getElem? (i := 0) rfl
theorem ks_N_isBarred : Jvm.Cond.selects "AllocateSolve$Lines" (am_nm km_N_isBarred) (am_nm km_N_isBarred) ∈ lw_tbl := kw_in (i := 202) kw_202
theorem ks_A_bound : Jvm.Cond.selects "AllocateSolve" (am_nm km_A_bound) (am_nm km_A_bound) ∈ lw_tbl := kw_in (i := 207) kw_207
theorem ks_F_lineBound : Jvm.Cond.selects "AllocateSolve$Floor" (am_nm km_F_lineBound) (am_nm km_F_lineBound) ∈ lw_tbl := kw_in (i := 211) kw_211
theorem ks_F_pieceCost : Jvm.Cond.selects "AllocateSolve$Floor" (am_nm km_F_pieceCost) (am_nm km_F_pieceCost) ∈ lw_tbl := kw_in (i := 215) kw_215
theorem ks_A_count : Jvm.Cond.selects "AllocateSolve" (am_nm km_A_count) (am_nm km_A_count) ∈ lw_tbl := kw_in (i := 222) kw_222
theorem ks_F_totalPieces : Jvm.Cond.selects "AllocateSolve$Floor" (am_nm km_F_totalPieces) (am_nm km_F_totalPieces) ∈ lw_tbl := kw_in (i := 226) kw_226
theorem ks_F_piecesOf : Jvm.Cond.selects "AllocateSolve$Floor" (am_nm km_F_piecesOf) (am_nm km_F_piecesOf) ∈ lw_tbl := kw_in (i := 230) kw_230
theorem ks_F_totalGifts : Jvm.Cond.selects "AllocateSolve$Floor" (am_nm km_F_totalGifts) (am_nm km_F_totalGifts) ∈ lw_tbl := kw_in (i := 234) kw_234
theorem ks_F_giftsOf : Jvm.Cond.selects "AllocateSolve$Floor" (am_nm km_F_giftsOf) (am_nm km_F_giftsOf) ∈ lw_tbl := List.mem_of_getElem? (i := 1) rfl
theorem ks_F_totalCost : Jvm.Cond.selects "AllocateSolve$Floor" (am_nm km_F_totalCost) (am_nm km_F_totalCost) ∈ lw_tbl := kw_in (i := 242) kw_242
theorem ks_F_lineCost : Jvm.Cond.selects "AllocateSolve$Floor" (am_nm km_F_lineCost) (am_nm km_F_lineCost) ∈ lw_tbl := kw_in (i := 246) kw_246
theorem ks_A_lot : Jvm.Cond.selects "AllocateSolve" (am_nm km_A_lot) (am_nm km_A_lot) ∈ lw_tbl := kw_in (i := 255) kw_255
theorem ks_T_add : Jvm.Cond.selects "AllocateSolve$Lots" (am_nm km_T_add) (am_nm km_T_add) ∈ lw_tbl := kw_in (i := 348) kw_348
theorem ks_T_putInOrder : Jvm.Cond.selects "AllocateSolve$Lots" (am_nm km_T_putInOrder) (am_nm km_T_putInOrder) ∈ lw_tbl := List.mem_of_getElem? (i := 3) rfl
theorem ks_T_comesBefore : Jvm.Cond.selects "AllocateSolve$Lots" (am_nm km_T_comesBefore) (am_nm km_T_comesBefore) ∈ lw_tbl := List.mem_of_getElem? (i := 4) rfl
theorem ks_A_line : Jvm.Cond.selects "AllocateSolve" (am_nm km_A_line) (am_nm km_A_line) ∈ lw_tbl := kw_in (i := 363) kw_363
theorem ks_N_add : Jvm.Cond.selects "AllocateSolve$Lines" (am_nm km_N_add) (am_nm km_N_add) ∈ lw_tbl := kw_in (i := 368) kw_368
theorem ks_A_rule : Jvm.Cond.selects "AllocateSolve" (am_nm km_A_rule) (am_nm km_A_rule) ∈ lw_tbl := kw_in (i := 378) kw_378
theorem ks_A_needLine : Jvm.Cond.selects "AllocateSolve" (am_nm km_A_needLine) (am_nm km_A_needLine) ∈ lw_tbl := List.mem_of_getElem? (i := 5) rfl
theorem ks_A_cost : Jvm.Cond.selects "AllocateSolve" (am_nm km_A_cost) (am_nm km_A_cost) ∈ lw_tbl := kw_in (i := 409) kw_409
theorem ks_A_needLot : Jvm.Cond.selects "AllocateSolve" (am_nm km_A_needLot) (am_nm km_A_needLot) ∈ lw_tbl := List.mem_of_getElem? (i := 6) rfl
theorem ks_A_may : Jvm.Cond.selects "AllocateSolve" (am_nm km_A_may) (am_nm km_A_may) ∈ lw_tbl := kw_in (i := 421) kw_421
theorem ks_N_setBarred : Jvm.Cond.selects "AllocateSolve$Lines" (am_nm km_N_setBarred) (am_nm km_N_setBarred) ∈ lw_tbl := kw_in (i := 425) kw_425
theorem ks_A_solve : Jvm.Cond.selects "AllocateSolve" (am_nm km_A_solve) (am_nm km_A_solve) ∈ lw_tbl := kw_in (i := 433) kw_433
theorem ks_F_clear : Jvm.Cond.selects "AllocateSolve$Floor" (am_nm km_F_clear) (am_nm km_F_clear) ∈ lw_tbl := kw_in (i := 438) kw_438
theorem ks_F_letGo : Jvm.Cond.selects "AllocateSolve$Floor" (am_nm km_F_letGo) (am_nm km_F_letGo) ∈ lw_tbl := kw_in (i := 442) kw_442
theorem ks_F_move : Jvm.Cond.selects "AllocateSolve$Floor" (am_nm km_F_move) (am_nm km_F_move) ∈ lw_tbl := kw_in (i := 446) kw_446
theorem ks_S_readAllowed : Jvm.Cond.selects "AllocateSolve$Search" (am_nm km_S_readAllowed) (am_nm km_S_readAllowed) ∈ lw_tbl := kw_in (i := 450) kw_450
theorem ks_S_allocateAtLeastCost : Jvm.Cond.selects "AllocateSolve$Search" (am_nm km_S_allocateAtLeastCost) (am_nm km_S_allocateAtLeastCost) ∈ lw_tbl := kw_in (i := 455) kw_455
theorem ks_S_readBounds : Jvm.Cond.selects "AllocateSolve$Search" (am_nm km_S_readBounds) (am_nm km_S_readBounds) ∈ lw_tbl := List.mem_of_getElem? (i := 7) rfl
theorem ks_S_allocateByRule : Jvm.Cond.selects "AllocateSolve$Search" (am_nm km_S_allocateByRule) (am_nm km_S_allocateByRule) ∈ lw_tbl := kw_in (i := 464) kw_464
theorem ks_S_take : Jvm.Cond.selects "AllocateSolve$Search" (am_nm km_S_take) (am_nm km_S_take) ∈ lw_tbl := List.mem_of_getElem? (i := 8) rfl
theorem ks_S_keep : Jvm.Cond.selects "AllocateSolve$Search" (am_nm km_S_keep) (am_nm km_S_keep) ∈ lw_tbl := List.mem_of_getElem? (i := 9) rfl
theorem ks_A_give : Jvm.Cond.selects "AllocateSolve" (am_nm km_A_give) (am_nm km_A_give) ∈ lw_tbl := kw_in (i := 501) kw_501
theorem ks_F_lotOfGift : Jvm.Cond.selects "AllocateSolve$Floor" (am_nm km_F_lotOfGift) (am_nm km_F_lotOfGift) ∈ lw_tbl := kw_in (i := 505) kw_505
theorem ks_A_held : Jvm.Cond.selects "AllocateSolve" (am_nm km_A_held) (am_nm km_A_held) ∈ lw_tbl := kw_in (i := 514) kw_514
theorem ks_A_left : Jvm.Cond.selects "AllocateSolve" (am_nm km_A_left) (am_nm km_A_left) ∈ lw_tbl := kw_in (i := 521) kw_521
theorem ks_A_bar : Jvm.Cond.selects "AllocateSolve" (am_nm km_A_bar) (am_nm km_A_bar) ∈ lw_tbl := kw_in (i := 528) kw_528
theorem ks_F_firstBar : Jvm.Cond.selects "AllocateSolve$Floor" (am_nm km_F_firstBar) (am_nm km_F_firstBar) ∈ lw_tbl := kw_in (i := 532) kw_532
theorem ks_A_change : Jvm.Cond.selects "AllocateSolve" (am_nm km_A_change) (am_nm km_A_change) ∈ lw_tbl := kw_in (i := 542) kw_542
theorem ks_F_setPieces : Jvm.Cond.selects "AllocateSolve$Floor" (am_nm km_F_setPieces) (am_nm km_F_setPieces) ∈ lw_tbl := kw_in (i := 546) kw_546
theorem ks_F_giveUp : Jvm.Cond.selects "AllocateSolve$Floor" (am_nm km_F_giveUp) (am_nm km_F_giveUp) ∈ lw_tbl := List.mem_of_getElem? (i := 10) rfl
theorem ks_A_undo : Jvm.Cond.selects "AllocateSolve" (am_nm km_A_undo) (am_nm km_A_undo) ∈ lw_tbl := kw_in (i := 558) kw_558
theorem ks_A_refused : Jvm.Cond.selects "AllocateSolve" (am_nm km_A_refused) (am_nm km_A_refused) ∈ lw_tbl := kw_in (i := 583) kw_583
theorem ks_A_average : Jvm.Cond.selects "AllocateSolve" (am_nm km_A_average) (am_nm km_A_average) ∈ lw_tbl := kw_in (i := 591) kw_591
theorem ks_F_costOfPieces : Jvm.Cond.selects "AllocateSolve$Floor" (am_nm km_F_costOfPieces) (am_nm km_F_costOfPieces) ∈ lw_tbl := kw_in (i := 611) kw_611
theorem ks_M_thrown : Jvm.Cond.selects "AllocateSolveModel" (am_nm km_M_thrown) (am_nm km_M_thrown) ∈ lw_tbl := kw_in (i := 686) kw_686
theorem ks_M_lot : Jvm.Cond.selects "AllocateSolveModel" (am_nm km_M_lot) (am_nm km_M_lot) ∈ lw_tbl := kw_in (i := 690) kw_690
theorem ks_M_line : Jvm.Cond.selects "AllocateSolveModel" (am_nm km_M_line) (am_nm km_M_line) ∈ lw_tbl := kw_in (i := 697) kw_697
theorem ks_M_rule : Jvm.Cond.selects "AllocateSolveModel" (am_nm km_M_rule) (am_nm km_M_rule) ∈ lw_tbl := kw_in (i := 701) kw_701
theorem ks_M_isLine : Jvm.Cond.selects "AllocateSolveModel" (am_nm km_M_isLine) (am_nm km_M_isLine) ∈ lw_tbl := List.mem_of_getElem? (i := 11) rfl
theorem ks_M_cost : Jvm.Cond.selects "AllocateSolveModel" (am_nm km_M_cost) (am_nm km_M_cost) ∈ lw_tbl := kw_in (i := 712) kw_712
theorem ks_M_isLot : Jvm.Cond.selects "AllocateSolveModel" (am_nm km_M_isLot) (am_nm km_M_isLot) ∈ lw_tbl := List.mem_of_getElem? (i := 12) rfl
theorem ks_M_may : Jvm.Cond.selects "AllocateSolveModel" (am_nm km_M_may) (am_nm km_M_may) ∈ lw_tbl := kw_in (i := 720) kw_720
theorem ks_M_isAllowed : Jvm.Cond.selects "AllocateSolveModel" (am_nm km_M_isAllowed) (am_nm km_M_isAllowed) ∈ lw_tbl := List.mem_of_getElem? (i := 13) rfl
theorem ks_M_passes : Jvm.Cond.selects "AllocateSolveModel" (am_nm km_M_passes) (am_nm km_M_passes) ∈ lw_tbl := List.mem_of_getElem? (i := 14) rfl
theorem ks_M_solve : Jvm.Cond.selects "AllocateSolveModel" (am_nm km_M_solve) (am_nm km_M_solve) ∈ lw_tbl := kw_in (i := 732) kw_732
theorem ks_M_layOut : Jvm.Cond.selects "AllocateSolveModel" (am_nm km_M_layOut) (am_nm km_M_layOut) ∈ lw_tbl := List.mem_of_getElem? (i := 15) rfl
theorem ks_M_lotAt : Jvm.Cond.selects "AllocateSolveModel" (am_nm km_M_lotAt) (am_nm km_M_lotAt) ∈ lw_tbl := List.mem_of_getElem? (i := 16) rfl
theorem ks_M_isBefore : Jvm.Cond.selects "AllocateSolveModel" (am_nm km_M_isBefore) (am_nm km_M_isBefore) ∈ lw_tbl := List.mem_of_getElem? (i := 17) rfl
theorem ks_M_product : Jvm.Cond.selects "AllocateSolveModel" (am_nm km_M_product) (am_nm km_M_product) ∈ lw_tbl := List.mem_of_getElem? (i := 18) rfl
theorem ks_M_exactly : Jvm.Cond.selects "AllocateSolveModel" (am_nm km_M_exactly) (am_nm km_M_exactly) ∈ lw_tbl := List.mem_of_getElem? (i := 19) rfl
theorem ks_M_takeFrom : Jvm.Cond.selects "AllocateSolveModel" (am_nm km_M_takeFrom) (am_nm km_M_takeFrom) ∈ lw_tbl := List.mem_of_getElem? (i := 20) rfl
theorem ks_M_take : Jvm.Cond.selects "AllocateSolveModel" (am_nm km_M_take) (am_nm km_M_take) ∈ lw_tbl := List.mem_of_getElem? (i := 21) rfl
theorem ks_M_costOf : Jvm.Cond.selects "AllocateSolveModel" (am_nm km_M_costOf) (am_nm km_M_costOf) ∈ lw_tbl := List.mem_of_getElem? (i := 22) rfl
theorem ks_M_nextSets : Jvm.Cond.selects "AllocateSolveModel" (am_nm km_M_nextSets) (am_nm km_M_nextSets) ∈ lw_tbl := List.mem_of_getElem? (i := 23) rfl
theorem ks_M_byRule : Jvm.Cond.selects "AllocateSolveModel" (am_nm km_M_byRule) (am_nm km_M_byRule) ∈ lw_tbl := List.mem_of_getElem? (i := 24) rfl
theorem ks_M_exact : Jvm.Cond.selects "AllocateSolveModel" (am_nm km_M_exact) (am_nm km_M_exact) ∈ lw_tbl := kw_in (i := 781) kw_781
theorem ks_M_choices : Jvm.Cond.selects "AllocateSolveModel" (am_nm km_M_choices) (am_nm km_M_choices) ∈ lw_tbl := kw_in (i := 785) kw_785
theorem ks_M_bound : Jvm.Cond.selects "AllocateSolveModel" (am_nm km_M_bound) (am_nm km_M_bound) ∈ lw_tbl := kw_in (i := 790) kw_790
theorem ks_M_give : Jvm.Cond.selects "AllocateSolveModel" (am_nm km_M_give) (am_nm km_M_give) ∈ lw_tbl := kw_in (i := 794) kw_794
theorem ks_M_giftAt : Jvm.Cond.selects "AllocateSolveModel" (am_nm km_M_giftAt) (am_nm km_M_giftAt) ∈ lw_tbl := List.mem_of_getElem? (i := 25) rfl
theorem ks_M_held : Jvm.Cond.selects "AllocateSolveModel" (am_nm km_M_held) (am_nm km_M_held) ∈ lw_tbl := kw_in (i := 802) kw_802
theorem ks_M_heldOf : Jvm.Cond.selects "AllocateSolveModel" (am_nm km_M_heldOf) (am_nm km_M_heldOf) ∈ lw_tbl := List.mem_of_getElem? (i := 26) rfl
theorem ks_M_left : Jvm.Cond.selects "AllocateSolveModel" (am_nm km_M_left) (am_nm km_M_left) ∈ lw_tbl := kw_in (i := 810) kw_810
theorem ks_M_bar : Jvm.Cond.selects "AllocateSolveModel" (am_nm km_M_bar) (am_nm km_M_bar) ∈ lw_tbl := kw_in (i := 814) kw_814
theorem ks_M_change : Jvm.Cond.selects "AllocateSolveModel" (am_nm km_M_change) (am_nm km_M_change) ∈ lw_tbl := kw_in (i := 818) kw_818
theorem ks_M_undo : Jvm.Cond.selects "AllocateSolveModel" (am_nm km_M_undo) (am_nm km_M_undo) ∈ lw_tbl := kw_in (i := 822) kw_822
theorem ks_M_heldBy : Jvm.Cond.selects "AllocateSolveModel" (am_nm km_M_heldBy) (am_nm km_M_heldBy) ∈ lw_tbl := List.mem_of_getElem? (i := 27) rfl
theorem ks_M_refused : Jvm.Cond.selects "AllocateSolveModel" (am_nm km_M_refused) (am_nm km_M_refused) ∈ lw_tbl := kw_in (i := 830) kw_830
theorem ks_M_average : Jvm.Cond.selects "AllocateSolveModel" (am_nm km_M_average) (am_nm km_M_average) ∈ lw_tbl := kw_in (i := 834) kw_834
theorem ks_M_count : Jvm.Cond.selects "AllocateSolveModel" (am_nm km_M_count) (am_nm km_M_count) ∈ lw_tbl := kw_in (i := 838) kw_838
