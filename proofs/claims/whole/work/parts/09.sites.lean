/-! what the tables say at each place of the methods (laid by wip/whole/mksites.py) -/
theorem gt1 {w : Cond} (i : Nat) (h : tables_1_1[i]? = some w) (hg : goodWord w = true) : w ∈ gTbl := List.mem_filter.mpr ⟨List.mem_append_right _ (List.mem_append_left _ (List.mem_of_getElem? h)), hg⟩
theorem gt2 {w : Cond} (i : Nat) (h : tables_1_2[i]? = some w) (hg : goodWord w = true) : w ∈ gTbl := List.mem_filter.mpr ⟨List.mem_append_right _ (List.mem_append_right _ (List.mem_append_left _ (List.mem_of_getElem? h))), hg⟩
theorem gt3 {w : Cond} (i : Nat) (h : tables_1_3[i]? = some w) (hg : goodWord w = true) : w ∈ gTbl := List.mem_filter.mpr ⟨List.mem_append_right _ (List.mem_append_right _ (List.mem_append_right _ (List.mem_append_left _ (List.mem_of_getElem? h)))), hg⟩
theorem gt4 {w : Cond} (i : Nat) (h : tables_1_4[i]? = some w) (hg : goodWord w = true) : w ∈ gTbl := List.mem_filter.mpr ⟨List.mem_append_right _ (List.mem_append_right _ (List.mem_append_right _ (List.mem_append_right _ (List.mem_append_left _ (List.mem_of_getElem? h))))), hg⟩
theorem gt5 {w : Cond} (i : Nat) (h : tables_1_5[i]? = some w) (hg : goodWord w = true) : w ∈ gTbl := List.mem_filter.mpr ⟨List.mem_append_right _ (List.mem_append_right _ (List.mem_append_right _ (List.mem_append_right _ (List.mem_append_right _ (List.mem_append_left _ (List.mem_of_getElem? h)))))), hg⟩
theorem gt6 {w : Cond} (i : Nat) (h : tables_1_6[i]? = some w) (hg : goodWord w = true) : w ∈ gTbl := List.mem_filter.mpr ⟨List.mem_append_right _ (List.mem_append_right _ (List.mem_append_right _ (List.mem_append_right _ (List.mem_append_right _ (List.mem_append_right _ (List.mem_of_getElem? h)))))), hg⟩
theorem gtS {q : MethodName × Nat} (i : Nat) (h : lw_privs[i]? = some q) (hg : goodWord (.selects q.1.cls q.1 q.1) = true) : Cond.selects q.1.cls q.1 q.1 ∈ gTbl := List.mem_filter.mpr ⟨List.mem_append_left _ (List.mem_map.mpr ⟨q, List.mem_of_getElem? h, rfl⟩), hg⟩
abbrev mX11_init : MI := (cX11_init, yX11_init, 1, none)
abbrev mX11_as : MI := (cX11_as, yX11_as, 6, (some .int))
abbrev mX11_board : MI := (cX11_board, yX11_board, 2, (some .int))
abbrev mX11_canRule : MI := (cX11_canRule, yX11_canRule, 2, (some .boolean))
abbrev mX11_driest : MI := (cX11_driest, yX11_driest, 3, (some .int))
abbrev mX11_feed : MI := (cX11_feed, yX11_feed, 2, (some .int))
abbrev mX11_fill : MI := (cX11_fill, yX11_fill, 7, (some .int))
abbrev mX11_fits : MI := (cX11_fits, yX11_fits, 5, (some .int))
abbrev mX11_get : MI := (cX11_get, yX11_get, 4, (some .long))
abbrev mX11_girth : MI := (cX11_girth, yX11_girth, 2, (some .int))
abbrev mX11_hang : MI := (cX11_hang, yX11_hang, 5, (some .int))
abbrev mX11_head : MI := (cX11_head, yX11_head, 5, (some .int))
abbrev mX11_heads : MI := (cX11_heads, yX11_heads, 2, (some .int))
abbrev mX11_held : MI := (cX11_held, yX11_held, 3, (some .int))
abbrev mX11_holds : MI := (cX11_holds, yX11_holds, 2, (some .boolean))
abbrev mX11_hoop : MI := (cX11_hoop, yX11_hoop, 4, (some .int))
abbrev mX11_howManyDigits : MI := (cX11_howManyDigits, yX11_howManyDigits, 4, (some .int))
abbrev mX11_image : MI := (cX11_image, yX11_image, 1, (some .int))
abbrev mX11_isHeight : MI := (cX11_isHeight, yX11_isHeight, 1, (some .boolean))
abbrev mX11_isIn : MI := (cX11_isIn, yX11_isIn, 3, (some .boolean))
abbrev mX11_isPeg : MI := (cX11_isPeg, yX11_isPeg, 1, (some .boolean))
abbrev mX11_isPress : MI := (cX11_isPress, yX11_isPress, 1, (some .boolean))
abbrev mX11_isRadius : MI := (cX11_isRadius, yX11_isRadius, 1, (some .boolean))
abbrev mX11_isRingSet : MI := (cX11_isRingSet, yX11_isRingSet, 2, (some .boolean))
abbrev mX11_isUnder : MI := (cX11_isUnder, yX11_isUnder, 5, (some .boolean))
abbrev mX11_judge : MI := (cX11_judge, yX11_judge, 6, (some .int))
abbrev mX11_kindsOf : MI := (cX11_kindsOf, yX11_kindsOf, 1, (some .int))
abbrev mX11_lackForRing : MI := (cX11_lackForRing, yX11_lackForRing, 5, (some .int))
abbrev mX11_lackOfTray : MI := (cX11_lackOfTray, yX11_lackOfTray, 2, (some .int))
abbrev mX11_leak : MI := (cX11_leak, yX11_leak, 3, (some .int))
abbrev mX11_least : MI := (cX11_least, yX11_least, 4, (some .int))
abbrev mX11_move : MI := (cX11_move, yX11_move, 8, (some .int))
abbrev mX11_nearest : MI := (cX11_nearest, yX11_nearest, 2, (some .int))
abbrev mX11_ofHoop : MI := (cX11_ofHoop, yX11_ofHoop, 4, (some .int))
abbrev mX11_ofResting : MI := (cX11_ofResting, yX11_ofResting, 6, (some .int))
abbrev mX11_ofStave : MI := (cX11_ofStave, yX11_ofStave, 4, (some .int))
abbrev mX11_press : MI := (cX11_press, yX11_press, 2, (some .int))
abbrev mX11_put : MI := (cX11_put, yX11_put, 6, (some .int))
abbrev mX11_read : MI := (cX11_read, yX11_read, 4, (some .int))
abbrev mX11_rings : MI := (cX11_rings, yX11_rings, 4, (some .int))
abbrev mX11_rootOf : MI := (cX11_rootOf, yX11_rootOf, 4, (some .int))
abbrev mX11_rule : MI := (cX11_rule, yX11_rule, 3, (some .int))
abbrev mX11_sagOf : MI := (cX11_sagOf, yX11_sagOf, 3, (some .int))
abbrev mX11_shave : MI := (cX11_shave, yX11_shave, 5, (some .int))
abbrev mX11_spellRow : MI := (cX11_spellRow, yX11_spellRow, 8, (some .int))
abbrev mX11_stave : MI := (cX11_stave, yX11_stave, 5, (some .int))
abbrev mX11_sums : MI := (cX11_sums, yX11_sums, 2, (some .int))
abbrev mX11_takes : MI := (cX11_takes, yX11_takes, 2, (some .int))
abbrev mX11_told : MI := (cX11_told, yX11_told, 2, (some .int))
abbrev mX11_tray : MI := (cX11_tray, yX11_tray, 4, (some .int))
abbrev mX11_trayOn : MI := (cX11_trayOn, yX11_trayOn, 4, (some (.object "HoopYard$Tray")))
abbrev mX11_undo : MI := (cX11_undo, yX11_undo, 1, (some .int))
abbrev mX11_used : MI := (cX11_used, yX11_used, 3, (some .int))
abbrev mX11_wet : MI := (cX11_wet, yX11_wet, 2, (some .int))
abbrev mX11_without : MI := (cX11_without, yX11_without, 2, (some .int))
abbrev mX11_worst : MI := (cX11_worst, yX11_worst, 5, (some .int))
abbrev mX0_init : MI := (cX0_init, yX0_init, 2, none)
abbrev mX0_canBe : MI := (cX0_canBe, yX0_canBe, 1, (some .boolean))
abbrev mX0_toldAs : MI := (cX0_toldAs, yX0_toldAs, 1, (some .int))
abbrev mX1_init : MI := (cX1_init, yX1_init, 1, none)
abbrev mX1_addPress : MI := (cX1_addPress, yX1_addPress, 7, none)
abbrev mX1_capped : MI := (cX1_capped, yX1_capped, 1, (some .int))
abbrev mX1_driestSize : MI := (cX1_driestSize, yX1_driestSize, 9, (some .int))
abbrev mX1_drive : MI := (cX1_drive, yX1_drive, 4, none)
abbrev mX1_girthAt : MI := (cX1_girthAt, yX1_girthAt, 2, (some .int))
abbrev mX1_gripAt : MI := (cX1_gripAt, yX1_gripAt, 3, (some .int))
abbrev mX1_heightOf : MI := (cX1_heightOf, yX1_heightOf, 2, (some .int))
abbrev mX1_howManyWetWith : MI := (cX1_howManyWetWith, yX1_howManyWetWith, 6, (some .int))
abbrev mX1_pressFrom : MI := (cX1_pressFrom, yX1_pressFrom, 3, (some .int))
abbrev mX1_restDepth : MI := (cX1_restDepth, yX1_restDepth, 8, (some .int))
abbrev mX1_wetBelow : MI := (cX1_wetBelow, yX1_wetBelow, 4, (some .int))
abbrev mX2_init : MI := (cX2_init, yX2_init, 1, none)
abbrev mX2_firstOfLeast : MI := (cX2_firstOfLeast, yX2_firstOfLeast, 3, (some .int))
abbrev mX2_howMany : MI := (cX2_howMany, yX2_howMany, 2, (some .int))
abbrev mX2_howManyOnward : MI := (cX2_howManyOnward, yX2_howManyOnward, 4, (some .int))
abbrev mX2_isDone : MI := (cX2_isDone, yX2_isDone, 2, (some .boolean))
abbrev mX2_leastDigits : MI := (cX2_leastDigits, yX2_leastDigits, 5, (some .int))
abbrev mX2_leastOnward : MI := (cX2_leastOnward, yX2_leastOnward, 5, (some .int))
abbrev mX2_leastSpent : MI := (cX2_leastSpent, yX2_leastSpent, 2, (some .int))
abbrev mX2_measure : MI := (cX2_measure, yX2_measure, 7, none)
abbrev mX2_spentBy : MI := (cX2_spentBy, yX2_spentBy, 6, (some .int))
abbrev mX2_spentFrom : MI := (cX2_spentFrom, yX2_spentFrom, 4, (some .int))
abbrev mX2_spentOn : MI := (cX2_spentOn, yX2_spentOn, 7, (some .int))
abbrev mX3_init : MI := (cX3_init, yX3_init, 4, none)
abbrev mX3_canBe : MI := (cX3_canBe, yX3_canBe, 3, (some .boolean))
abbrev mX3_presses : MI := (cX3_presses, yX3_presses, 2, (some .int))
abbrev mX3_toldAs : MI := (cX3_toldAs, yX3_toldAs, 1, (some .int))
abbrev mX4_init : MI := (cX4_init, yX4_init, 1, none)
abbrev mX4_allButFirst : MI := (cX4_allButFirst, yX4_allButFirst, 1, (some .int))
abbrev mX4_cellOf : MI := (cX4_cellOf, yX4_cellOf, 2, (some .int))
abbrev mX4_choose : MI := (cX4_choose, yX4_choose, 6, none)
abbrev mX4_countOnward : MI := (cX4_countOnward, yX4_countOnward, 8, (some .int))
abbrev mX4_digits : MI := (cX4_digits, yX4_digits, 3, (some .int))
abbrev mX4_edgeOf : MI := (cX4_edgeOf, yX4_edgeOf, 3, (some .int))
abbrev mX4_firstOfLeast : MI := (cX4_firstOfLeast, yX4_firstOfLeast, 5, (some .int))
abbrev mX4_gapOf : MI := (cX4_gapOf, yX4_gapOf, 3, (some .int))
abbrev mX4_howManyWithin : MI := (cX4_howManyWithin, yX4_howManyWithin, 5, (some .int))
abbrev mX4_jointOfRank : MI := (cX4_jointOfRank, yX4_jointOfRank, 3, (some .int))
abbrev mX4_layLeast : MI := (cX4_layLeast, yX4_layLeast, 8, none)
abbrev mX4_layTold : MI := (cX4_layTold, yX4_layTold, 4, (some .boolean))
abbrev mX4_leakUnder : MI := (cX4_leakUnder, yX4_leakUnder, 4, (some .int))
abbrev mX4_leastOnward : MI := (cX4_leastOnward, yX4_leastOnward, 9, (some .int))
abbrev mX4_measureGaps : MI := (cX4_measureGaps, yX4_measureGaps, 3, none)
abbrev mX4_rankOf : MI := (cX4_rankOf, yX4_rankOf, 4, (some .int))
abbrev mX4_tightPress : MI := (cX4_tightPress, yX4_tightPress, 3, (some .int))
abbrev mX4_weigh : MI := (cX4_weigh, yX4_weigh, 5, none)
abbrev mX5_init : MI := (cX5_init, yX5_init, 1, none)
abbrev mX5_addUp : MI := (cX5_addUp, yX5_addUp, 8, none)
abbrev mX5_bestBetween : MI := (cX5_bestBetween, yX5_bestBetween, 5, (some .int))
abbrev mX5_closestTo : MI := (cX5_closestTo, yX5_closestTo, 6, (some .int))
abbrev mX5_howMany : MI := (cX5_howMany, yX5_howMany, 5, (some .int))
abbrev mX5_isBetter : MI := (cX5_isBetter, yX5_isBetter, 3, (some .boolean))
abbrev mX6_init : MI := (cX6_init, yX6_init, 5, none)
abbrev mX6_canBe : MI := (cX6_canBe, yX6_canBe, 4, (some .boolean))
abbrev mX6_counts : MI := (cX6_counts, yX6_counts, 2, (some .int))
abbrev mX6_edge : MI := (cX6_edge, yX6_edge, 1, (some .int))
abbrev mX6_price : MI := (cX6_price, yX6_price, 2, (some .int))
abbrev mX6_toldAs : MI := (cX6_toldAs, yX6_toldAs, 1, (some .int))
abbrev mX6_twin : MI := (cX6_twin, yX6_twin, 1, (some (.object "HoopYard$Stave")))
abbrev mX7_init : MI := (cX7_init, yX7_init, 1, none)
abbrev mX7_addBoard : MI := (cX7_addBoard, yX7_addBoard, 2, (some .int))
abbrev mX7_addHoop : MI := (cX7_addHoop, yX7_addHoop, 2, (some .int))
abbrev mX7_addStave : MI := (cX7_addStave, yX7_addStave, 2, (some .int))
abbrev mX7_becomeLike : MI := (cX7_becomeLike, yX7_becomeLike, 4, none)
abbrev mX7_boardAt : MI := (cX7_boardAt, yX7_boardAt, 2, (some (.object "HoopYard$Board")))
abbrev mX7_dropBoard : MI := (cX7_dropBoard, yX7_dropBoard, 1, (some .int))
abbrev mX7_dropHoop : MI := (cX7_dropHoop, yX7_dropHoop, 1, (some .int))
abbrev mX7_dropStave : MI := (cX7_dropStave, yX7_dropStave, 1, (some .int))
abbrev mX7_hoopAt : MI := (cX7_hoopAt, yX7_hoopAt, 2, (some (.object "HoopYard$Hoop")))
abbrev mX7_staveAt : MI := (cX7_staveAt, yX7_staveAt, 2, (some (.object "HoopYard$Stave")))
abbrev mX7_thingAt : MI := (cX7_thingAt, yX7_thingAt, 3, (some (.object "HoopYard$Thing")))
abbrev mX8_init : MI := (cX8_init, yX8_init, 1, none)
abbrev mX8_append : MI := (cX8_append, yX8_append, 2, (some .int))
abbrev mX8_carryOut : MI := (cX8_carryOut, yX8_carryOut, 4, none)
abbrev mX8_firstUndoable : MI := (cX8_firstUndoable, yX8_firstUndoable, 7, (some .int))
abbrev mX8_howManyNumbers : MI := (cX8_howManyNumbers, yX8_howManyNumbers, 1, (some .int))
abbrev mX8_isInBounds : MI := (cX8_isInBounds, yX8_isInBounds, 2, (some .boolean))
abbrev mX8_parse : MI := (cX8_parse, yX8_parse, 2, (some .boolean))
abbrev mX8_parseNumber : MI := (cX8_parseNumber, yX8_parseNumber, 6, (some .boolean))
abbrev mX8_parseStatement : MI := (cX8_parseStatement, yX8_parseStatement, 5, (some .boolean))
abbrev mX8_pass : MI := (cX8_pass, yX8_pass, 2, (some .boolean))
abbrev mX8_peek : MI := (cX8_peek, yX8_peek, 1, (some .int))
abbrev mX9_init : MI := (cX9_init, yX9_init, 1, none)
abbrev mX10_init : MI := (cX10_init, yX10_init, 3, none)
abbrev mX10_hasItem : MI := (cX10_hasItem, yX10_hasItem, 2, (some .boolean))
abbrev mX10_hasRun : MI := (cX10_hasRun, yX10_hasRun, 3, (some .boolean))
abbrev mX10_lay : MI := (cX10_lay, yX10_lay, 4, none)
abbrev mX10_toldAs : MI := (cX10_toldAs, yX10_toldAs, 1, (some .int))
abbrev mX12_init : MI := (cX12_init, yX12_init, 1, none)
abbrev mX12_as : MI := (cX12_as, yX12_as, 4, (some .int))
abbrev mX12_board : MI := (cX12_board, yX12_board, 2, (some .int))
abbrev mX12_countsOf : MI := (cX12_countsOf, yX12_countsOf, 4, (some .int))
abbrev mX12_countsOfSet : MI := (cX12_countsOfSet, yX12_countsOfSet, 4, (some .int))
abbrev mX12_does : MI := (cX12_does, yX12_does, 3, (some .boolean))
abbrev mX12_driest : MI := (cX12_driest, yX12_driest, 8, (some .int))
abbrev mX12_edgeOf : MI := (cX12_edgeOf, yX12_edgeOf, 4, (some .int))
abbrev mX12_feed : MI := (cX12_feed, yX12_feed, 2, (some .int))
abbrev mX12_fill : MI := (cX12_fill, yX12_fill, 6, (some .int))
abbrev mX12_fits : MI := (cX12_fits, yX12_fits, 10, (some .int))
abbrev mX12_gap : MI := (cX12_gap, yX12_gap, 3, (some .int))
abbrev mX12_get : MI := (cX12_get, yX12_get, 3, (some .long))
abbrev mX12_girth : MI := (cX12_girth, yX12_girth, 2, (some .int))
abbrev mX12_girthAt : MI := (cX12_girthAt, yX12_girthAt, 2, (some .int))
abbrev mX12_goesOn : MI := (cX12_goesOn, yX12_goesOn, 7, none)
abbrev mX12_goesRound : MI := (cX12_goesRound, yX12_goesRound, 8, none)
abbrev mX12_gripOf : MI := (cX12_gripOf, yX12_gripOf, 2, (some .int))
abbrev mX12_hang : MI := (cX12_hang, yX12_hang, 4, (some .int))
abbrev mX12_hasHoop : MI := (cX12_hasHoop, yX12_hasHoop, 2, (some .boolean))
abbrev mX12_hasStave : MI := (cX12_hasStave, yX12_hasStave, 2, (some .boolean))
abbrev mX12_head : MI := (cX12_head, yX12_head, 3, (some .int))
abbrev mX12_heads : MI := (cX12_heads, yX12_heads, 2, (some .int))
abbrev mX12_held : MI := (cX12_held, yX12_held, 2, (some .int))
abbrev mX12_hoop : MI := (cX12_hoop, yX12_hoop, 5, (some .int))
abbrev mX12_image : MI := (cX12_image, yX12_image, 1, (some .int))
abbrev mX12_isFrom : MI := (cX12_isFrom, yX12_isFrom, 3, (some .boolean))
abbrev mX12_isHoop : MI := (cX12_isHoop, yX12_isHoop, 3, (some .boolean))
abbrev mX12_isNoTray : MI := (cX12_isNoTray, yX12_isNoTray, 2, (some .int))
abbrev mX12_isPeg : MI := (cX12_isPeg, yX12_isPeg, 1, (some .boolean))
abbrev mX12_isPress : MI := (cX12_isPress, yX12_isPress, 1, (some .boolean))
abbrev mX12_isRing : MI := (cX12_isRing, yX12_isRing, 7, (some .boolean))
abbrev mX12_isRule : MI := (cX12_isRule, yX12_isRule, 2, (some .boolean))
abbrev mX12_isSet : MI := (cX12_isSet, yX12_isSet, 2, (some .boolean))
abbrev mX12_isStave : MI := (cX12_isStave, yX12_isStave, 4, (some .boolean))
abbrev mX12_isUnder : MI := (cX12_isUnder, yX12_isUnder, 3, (some .boolean))
abbrev mX12_judge : MI := (cX12_judge, yX12_judge, 5, (some .int))
abbrev mX12_lays : MI := (cX12_lays, yX12_lays, 5, none)
abbrev mX12_leak : MI := (cX12_leak, yX12_leak, 3, (some .int))
abbrev mX12_leakOf : MI := (cX12_leakOf, yX12_leakOf, 5, (some .int))
abbrev mX12_least : MI := (cX12_least, yX12_least, 6, (some .int))
abbrev mX12_move : MI := (cX12_move, yX12_move, 7, (some .int))
abbrev mX12_nearest : MI := (cX12_nearest, yX12_nearest, 6, (some .int))
abbrev mX12_number : MI := (cX12_number, yX12_number, 4, (some .int))
abbrev mX12_numbers : MI := (cX12_numbers, yX12_numbers, 1, (some .int))
abbrev mX12_ofHoop : MI := (cX12_ofHoop, yX12_ofHoop, 3, (some .int))
abbrev mX12_ofStave : MI := (cX12_ofStave, yX12_ofStave, 3, (some .int))
abbrev mX12_pours : MI := (cX12_pours, yX12_pours, 3, none)
abbrev mX12_press : MI := (cX12_press, yX12_press, 2, (some .int))
abbrev mX12_pressAt : MI := (cX12_pressAt, yX12_pressAt, 4, (some .int))
abbrev mX12_pressOf : MI := (cX12_pressOf, yX12_pressOf, 3, (some .int))
abbrev mX12_priceOf : MI := (cX12_priceOf, yX12_priceOf, 4, (some .int))
abbrev mX12_priceOfSet : MI := (cX12_priceOfSet, yX12_priceOfSet, 4, (some .int))
abbrev mX12_put : MI := (cX12_put, yX12_put, 5, (some .int))
abbrev mX12_read : MI := (cX12_read, yX12_read, 2, (some .int))
abbrev mX12_reads : MI := (cX12_reads, yX12_reads, 3, none)
abbrev mX12_rings : MI := (cX12_rings, yX12_rings, 4, (some .int))
abbrev mX12_root : MI := (cX12_root, yX12_root, 2, (some .int))
abbrev mX12_rounds : MI := (cX12_rounds, yX12_rounds, 5, none)
abbrev mX12_rule : MI := (cX12_rule, yX12_rule, 3, (some .int))
abbrev mX12_sagOf : MI := (cX12_sagOf, yX12_sagOf, 4, (some .int))
abbrev mX12_saws : MI := (cX12_saws, yX12_saws, 2, none)
abbrev mX12_settles : MI := (cX12_settles, yX12_settles, 4, none)
abbrev mX12_shave : MI := (cX12_shave, yX12_shave, 5, (some .int))
abbrev mX12_stave : MI := (cX12_stave, yX12_stave, 6, (some .int))
abbrev mX12_sums : MI := (cX12_sums, yX12_sums, 4, (some .int))
abbrev mX12_takes : MI := (cX12_takes, yX12_takes, 2, (some .int))
abbrev mX12_told : MI := (cX12_told, yX12_told, 2, (some .int))
abbrev mX12_tray : MI := (cX12_tray, yX12_tray, 5, (some .int))
abbrev mX12_undo : MI := (cX12_undo, yX12_undo, 2, (some .int))
abbrev mX12_used : MI := (cX12_used, yX12_used, 8, (some .int))
abbrev mX12_usedBy : MI := (cX12_usedBy, yX12_usedBy, 8, (some .int))
abbrev mX12_wet : MI := (cX12_wet, yX12_wet, 2, (some .int))
abbrev mX12_wetNow : MI := (cX12_wetNow, yX12_wetNow, 3, (some .int))
abbrev mX12_within : MI := (cX12_within, yX12_within, 3, (some .boolean))
abbrev mX12_worst : MI := (cX12_worst, yX12_worst, 7, (some .int))
abbrev mX12_wrong : MI := (cX12_wrong, yX12_wrong, 1, none)
abbrev mJ6_bitCount_0f7a4 : MI := (cJ6_bitCount_0f7a4, yJ6_bitCount_0f7a4, 1, (some .int))
abbrev mJ9_abs_0f7a4 : MI := (cJ9_abs_0f7a4, yJ9_abs_0f7a4, 1, (some .int))
abbrev mJ9_max_7cf53 : MI := (cJ9_max_7cf53, yJ9_max_7cf53, 2, (some .int))
abbrev mJ9_min_7cf53 : MI := (cJ9_min_7cf53, yJ9_min_7cf53, 2, (some .int))
abbrev mJ7_fill_53178 : MI := (cJ7_fill_53178, yJ7_fill_53178, 4, none)
theorem cw_0 : ∀ w ∈ u_ws RX0 TX0 1, w ∈ gTbl := by
  intro w hw
  obtain ⟨k, hk, rfl⟩ := List.mem_map.mp hw
  have hk := List.mem_range.mp hk
  match k, hk with
  | 0, _ => exact (gt2 79 rfl rfl)
  | n + 1, h => omega
theorem cw_1 : ∀ w ∈ u_ws RX1 TX1 2, w ∈ gTbl := by
  intro w hw
  obtain ⟨k, hk, rfl⟩ := List.mem_map.mp hw
  have hk := List.mem_range.mp hk
  match k, hk with
  | 0, _ => exact (gt1 167 rfl rfl)
  | 1, _ => exact (gt1 169 rfl rfl)
  | n + 2, h => omega
theorem cw_2 : ∀ w ∈ u_ws RX2 TX2 6, w ∈ gTbl := by
  intro w hw
  obtain ⟨k, hk, rfl⟩ := List.mem_map.mp hw
  have hk := List.mem_range.mp hk
  match k, hk with
  | 0, _ => exact (gt1 184 rfl rfl)
  | 1, _ => exact (gt1 186 rfl rfl)
  | 2, _ => exact (gt1 188 rfl rfl)
  | 3, _ => exact (gt1 190 rfl rfl)
  | 4, _ => exact (gt1 192 rfl rfl)
  | 5, _ => exact (gt1 194 rfl rfl)
  | n + 6, h => omega
theorem cw_3 : ∀ w ∈ u_ws RX3 TX3 3, w ∈ gTbl := by
  intro w hw
  obtain ⟨k, hk, rfl⟩ := List.mem_map.mp hw
  have hk := List.mem_range.mp hk
  match k, hk with
  | 0, _ => exact (gt2 51 rfl rfl)
  | 1, _ => exact (gt2 53 rfl rfl)
  | 2, _ => exact (gt2 55 rfl rfl)
  | n + 3, h => omega
theorem cw_4 : ∀ w ∈ u_ws RX4 TX4 6, w ∈ gTbl := by
  intro w hw
  obtain ⟨k, hk, rfl⟩ := List.mem_map.mp hw
  have hk := List.mem_range.mp hk
  match k, hk with
  | 0, _ => exact (gt1 144 rfl rfl)
  | 1, _ => exact (gt1 146 rfl rfl)
  | 2, _ => exact (gt1 148 rfl rfl)
  | 3, _ => exact (gt1 150 rfl rfl)
  | 4, _ => exact (gt1 152 rfl rfl)
  | 5, _ => exact (gt1 154 rfl rfl)
  | n + 6, h => omega
theorem cw_5 : ∀ w ∈ u_ws RX5 TX5 3, w ∈ gTbl := by
  intro w hw
  obtain ⟨k, hk, rfl⟩ := List.mem_map.mp hw
  have hk := List.mem_range.mp hk
  match k, hk with
  | 0, _ => exact (gt1 122 rfl rfl)
  | 1, _ => exact (gt1 124 rfl rfl)
  | 2, _ => exact (gt1 126 rfl rfl)
  | n + 3, h => omega
theorem cw_6 : ∀ w ∈ u_ws RX6 TX6 4, w ∈ gTbl := by
  intro w hw
  obtain ⟨k, hk, rfl⟩ := List.mem_map.mp hw
  have hk := List.mem_range.mp hk
  match k, hk with
  | 0, _ => exact (gt2 15 rfl rfl)
  | 1, _ => exact (gt2 17 rfl rfl)
  | 2, _ => exact (gt2 19 rfl rfl)
  | 3, _ => exact (gt2 21 rfl rfl)
  | n + 4, h => omega
theorem cw_7 : ∀ w ∈ u_ws RX7 TX7 7, w ∈ gTbl := by
  intro w hw
  obtain ⟨k, hk, rfl⟩ := List.mem_map.mp hw
  have hk := List.mem_range.mp hk
  match k, hk with
  | 0, _ => exact (gt1 59 rfl rfl)
  | 1, _ => exact (gt1 61 rfl rfl)
  | 2, _ => exact (gt1 63 rfl rfl)
  | 3, _ => exact (gt1 65 rfl rfl)
  | 4, _ => exact (gt1 67 rfl rfl)
  | 5, _ => exact (gt1 69 rfl rfl)
  | 6, _ => exact (gt1 71 rfl rfl)
  | n + 7, h => omega
theorem cw_8 : ∀ w ∈ u_ws RX8 TX8 7, w ∈ gTbl := by
  intro w hw
  obtain ⟨k, hk, rfl⟩ := List.mem_map.mp hw
  have hk := List.mem_range.mp hk
  match k, hk with
  | 0, _ => exact (gt1 95 rfl rfl)
  | 1, _ => exact (gt1 97 rfl rfl)
  | 2, _ => exact (gt1 99 rfl rfl)
  | 3, _ => exact (gt1 101 rfl rfl)
  | 4, _ => exact (gt1 103 rfl rfl)
  | 5, _ => exact (gt1 105 rfl rfl)
  | 6, _ => exact (gt1 107 rfl rfl)
  | n + 7, h => omega
theorem cw_9 : ∀ w ∈ u_ws RX10 TX10 2, w ∈ gTbl := by
  intro w hw
  obtain ⟨k, hk, rfl⟩ := List.mem_map.mp hw
  have hk := List.mem_range.mp hk
  match k, hk with
  | 0, _ => exact (gt4 72 rfl rfl)
  | 1, _ => exact (gt4 74 rfl rfl)
  | n + 2, h => omega
theorem cw_10 : ∀ w ∈ u_ws RX11 TX11 10, w ∈ gTbl := by
  intro w hw
  obtain ⟨k, hk, rfl⟩ := List.mem_map.mp hw
  have hk := List.mem_range.mp hk
  match k, hk with
  | 0, _ => exact (gt1 207 rfl rfl)
  | 1, _ => exact (gt1 209 rfl rfl)
  | 2, _ => exact (gt1 211 rfl rfl)
  | 3, _ => exact (gt1 213 rfl rfl)
  | 4, _ => exact (gt1 215 rfl rfl)
  | 5, _ => exact (gt1 217 rfl rfl)
  | 6, _ => exact (gt1 219 rfl rfl)
  | 7, _ => exact (gt1 221 rfl rfl)
  | 8, _ => exact (gt1 223 rfl rfl)
  | 9, _ => exact (gt1 225 rfl rfl)
  | n + 10, h => omega
theorem cw_11 : ∀ w ∈ u_ws RX12 TX12 30, w ∈ gTbl := by
  intro w hw
  obtain ⟨k, hk, rfl⟩ := List.mem_map.mp hw
  have hk := List.mem_range.mp hk
  match k, hk with
  | 0, _ => exact (gt4 215 rfl rfl)
  | 1, _ => exact (gt4 217 rfl rfl)
  | 2, _ => exact (gt4 219 rfl rfl)
  | 3, _ => exact (gt4 221 rfl rfl)
  | 4, _ => exact (gt4 223 rfl rfl)
  | 5, _ => exact (gt4 225 rfl rfl)
  | 6, _ => exact (gt4 227 rfl rfl)
  | 7, _ => exact (gt4 229 rfl rfl)
  | 8, _ => exact (gt4 231 rfl rfl)
  | 9, _ => exact (gt4 233 rfl rfl)
  | 10, _ => exact (gt4 235 rfl rfl)
  | 11, _ => exact (gt4 237 rfl rfl)
  | 12, _ => exact (gt4 239 rfl rfl)
  | 13, _ => exact (gt5 1 rfl rfl)
  | 14, _ => exact (gt5 3 rfl rfl)
  | 15, _ => exact (gt5 5 rfl rfl)
  | 16, _ => exact (gt5 7 rfl rfl)
  | 17, _ => exact (gt5 9 rfl rfl)
  | 18, _ => exact (gt5 11 rfl rfl)
  | 19, _ => exact (gt5 13 rfl rfl)
  | 20, _ => exact (gt5 15 rfl rfl)
  | 21, _ => exact (gt5 17 rfl rfl)
  | 22, _ => exact (gt5 19 rfl rfl)
  | 23, _ => exact (gt5 21 rfl rfl)
  | 24, _ => exact (gt5 23 rfl rfl)
  | 25, _ => exact (gt5 25 rfl rfl)
  | 26, _ => exact (gt5 27 rfl rfl)
  | 27, _ => exact (gt5 29 rfl rfl)
  | 28, _ => exact (gt5 31 rfl rfl)
  | 29, _ => exact (gt5 33 rfl rfl)
  | n + 30, h => omega
theorem cs_X11_init : CS mX11_init 0 := ⟨(gt1 22 rfl rfl), (gt1 1 rfl rfl), ⟨by decide +kernel, by decide +kernel⟩, by decide +kernel, by decide⟩
theorem cs_X11_as : CS mX11_as 3 := ⟨(gt4 100 rfl rfl), (gt1 1 rfl rfl), ⟨by decide +kernel, by decide +kernel⟩, by decide +kernel, by decide⟩
theorem cs_X11_board : CS mX11_board 1 := ⟨(gt2 65 rfl rfl), (gt1 1 rfl rfl), ⟨by decide +kernel, by decide +kernel⟩, by decide +kernel, by decide⟩
theorem cs_X11_canRule : CS mX11_canRule 2 := ⟨(gt2 93 rfl rfl), (gt1 1 rfl rfl), ⟨by decide +kernel, by decide +kernel⟩, by decide +kernel, by decide⟩
theorem cs_X11_driest : CS mX11_driest 2 := ⟨(gt3 144 rfl rfl), (gt1 1 rfl rfl), ⟨by decide +kernel, by decide +kernel⟩, by decide +kernel, by decide⟩
theorem cs_X11_feed : CS mX11_feed 1 := ⟨(gt3 225 rfl rfl), (gt1 1 rfl rfl), ⟨by decide +kernel, by decide +kernel⟩, by decide +kernel, by decide⟩
theorem cs_X11_fill : CS mX11_fill 3 := ⟨(gt4 140 rfl rfl), (gt1 1 rfl rfl), ⟨by decide +kernel, by decide +kernel⟩, by decide +kernel, by decide⟩
theorem cs_X11_fits : CS mX11_fits 1 := ⟨(gt2 154 rfl rfl), (gt1 1 rfl rfl), ⟨by decide +kernel, by decide +kernel⟩, by decide +kernel, by decide⟩
theorem cs_X11_get : CS mX11_get 2 := ⟨(gt4 135 rfl rfl), (gt1 1 rfl rfl), ⟨by decide +kernel, by decide +kernel⟩, by decide +kernel, by decide⟩
theorem cs_X11_girth : CS mX11_girth 1 := ⟨(gt3 67 rfl rfl), (gt1 1 rfl rfl), ⟨by decide +kernel, by decide +kernel⟩, by decide +kernel, by decide⟩
theorem cs_X11_hang : CS mX11_hang 3 := ⟨(gt4 45 rfl rfl), (gt1 1 rfl rfl), ⟨by decide +kernel, by decide +kernel⟩, by decide +kernel, by decide⟩
theorem cs_X11_head : CS mX11_head 2 := ⟨(gt3 158 rfl rfl), (gt1 1 rfl rfl), ⟨by decide +kernel, by decide +kernel⟩, by decide +kernel, by decide⟩
theorem cs_X11_heads : CS mX11_heads 1 := ⟨(gt3 213 rfl rfl), (gt1 1 rfl rfl), ⟨by decide +kernel, by decide +kernel⟩, by decide +kernel, by decide⟩
theorem cs_X11_held : CS mX11_held 1 := ⟨(gt4 81 rfl rfl), (gt1 1 rfl rfl), ⟨by decide +kernel, by decide +kernel⟩, by decide +kernel, by decide⟩
theorem cs_X11_holds : CS mX11_holds 2 := ⟨(gt2 218 rfl rfl), (gt1 1 rfl rfl), ⟨by decide +kernel, by decide +kernel⟩, by decide +kernel, by decide⟩
theorem cs_X11_hoop : CS mX11_hoop 3 := ⟨(gt2 31 rfl rfl), (gt1 1 rfl rfl), ⟨by decide +kernel, by decide +kernel⟩, by decide +kernel, by decide⟩
theorem cs_X11_howManyDigits : CS mX11_howManyDigits 1 := ⟨(gt3 39 rfl rfl), (gt1 1 rfl rfl), ⟨by decide +kernel, by decide +kernel⟩, by decide +kernel, by decide⟩
theorem cs_X11_image : CS mX11_image 0 := ⟨(gt4 164 rfl rfl), (gt1 1 rfl rfl), ⟨by decide +kernel, by decide +kernel⟩, by decide +kernel, by decide⟩
theorem cs_X11_isHeight : CS mX11_isHeight 1 := ⟨(gt3 70 rfl rfl), (gt1 1 rfl rfl), ⟨by decide +kernel, by decide +kernel⟩, by decide +kernel, by decide⟩
theorem cs_X11_isIn : CS mX11_isIn 3 := ⟨(gt1 237 rfl rfl), (gt1 1 rfl rfl), ⟨by decide +kernel, by decide +kernel⟩, by decide +kernel, by decide⟩
theorem cs_X11_isPeg : CS mX11_isPeg 1 := ⟨(gt4 48 rfl rfl), (gt1 1 rfl rfl), ⟨by decide +kernel, by decide +kernel⟩, by decide +kernel, by decide⟩
theorem cs_X11_isPress : CS mX11_isPress 1 := ⟨(gt2 207 rfl rfl), (gt1 1 rfl rfl), ⟨by decide +kernel, by decide +kernel⟩, by decide +kernel, by decide⟩
theorem cs_X11_isRadius : CS mX11_isRadius 1 := ⟨(gt3 161 rfl rfl), (gt1 1 rfl rfl), ⟨by decide +kernel, by decide +kernel⟩, by decide +kernel, by decide⟩
theorem cs_X11_isRingSet : CS mX11_isRingSet 1 := ⟨(gt2 203 rfl rfl), (gt1 1 rfl rfl), ⟨by decide +kernel, by decide +kernel⟩, by decide +kernel, by decide⟩
theorem cs_X11_isUnder : CS mX11_isUnder 3 := ⟨(gt4 110 rfl rfl), (gt1 1 rfl rfl), ⟨by decide +kernel, by decide +kernel⟩, by decide +kernel, by decide⟩
theorem cs_X11_judge : CS mX11_judge 3 := ⟨(gt4 149 rfl rfl), (gt1 1 rfl rfl), ⟨by decide +kernel, by decide +kernel⟩, by decide +kernel, by decide⟩
theorem cs_X11_kindsOf : CS mX11_kindsOf 1 := ⟨(gt4 103 rfl rfl), (gt1 1 rfl rfl), ⟨by decide +kernel, by decide +kernel⟩, by decide +kernel, by decide⟩
theorem cs_X11_lackForRing : CS mX11_lackForRing 3 := ⟨(gt4 144 rfl rfl), (gt1 1 rfl rfl), ⟨by decide +kernel, by decide +kernel⟩, by decide +kernel, by decide⟩
theorem cs_X11_lackOfTray : CS mX11_lackOfTray 1 := ⟨(gt4 122 rfl rfl), (gt1 1 rfl rfl), ⟨by decide +kernel, by decide +kernel⟩, by decide +kernel, by decide⟩
theorem cs_X11_leak : CS mX11_leak 2 := ⟨(gt3 29 rfl rfl), (gt1 1 rfl rfl), ⟨by decide +kernel, by decide +kernel⟩, by decide +kernel, by decide⟩
theorem cs_X11_least : CS mX11_least 3 := ⟨(gt2 199 rfl rfl), (gt1 1 rfl rfl), ⟨by decide +kernel, by decide +kernel⟩, by decide +kernel, by decide⟩
theorem cs_X11_move : CS mX11_move 5 := ⟨(gt4 153 rfl rfl), (gt1 1 rfl rfl), ⟨by decide +kernel, by decide +kernel⟩, by decide +kernel, by decide⟩
theorem cs_X11_nearest : CS mX11_nearest 1 := ⟨(gt2 188 rfl rfl), (gt1 1 rfl rfl), ⟨by decide +kernel, by decide +kernel⟩, by decide +kernel, by decide⟩
theorem cs_X11_ofHoop : CS mX11_ofHoop 2 := ⟨(gt3 79 rfl rfl), (gt1 1 rfl rfl), ⟨by decide +kernel, by decide +kernel⟩, by decide +kernel, by decide⟩
theorem cs_X11_ofResting : CS mX11_ofResting 3 := ⟨(gt3 87 rfl rfl), (gt1 1 rfl rfl), ⟨by decide +kernel, by decide +kernel⟩, by decide +kernel, by decide⟩
theorem cs_X11_ofStave : CS mX11_ofStave 2 := ⟨(gt2 105 rfl rfl), (gt1 1 rfl rfl), ⟨by decide +kernel, by decide +kernel⟩, by decide +kernel, by decide⟩
theorem cs_X11_press : CS mX11_press 1 := ⟨(gt3 124 rfl rfl), (gt1 1 rfl rfl), ⟨by decide +kernel, by decide +kernel⟩, by decide +kernel, by decide⟩
theorem cs_X11_put : CS mX11_put 3 := ⟨(gt4 114 rfl rfl), (gt1 1 rfl rfl), ⟨by decide +kernel, by decide +kernel⟩, by decide +kernel, by decide⟩
theorem cs_X11_read : CS mX11_read 0 := ⟨(gt3 233 rfl rfl), (gt1 1 rfl rfl), ⟨by decide +kernel, by decide +kernel⟩, by decide +kernel, by decide⟩
theorem cs_X11_rings : CS mX11_rings 3 := ⟨(gt3 56 rfl rfl), (gt1 1 rfl rfl), ⟨by decide +kernel, by decide +kernel⟩, by decide +kernel, by decide⟩
theorem cs_X11_rootOf : CS mX11_rootOf 1 := ⟨(gt2 130 rfl rfl), (gt1 1 rfl rfl), ⟨by decide +kernel, by decide +kernel⟩, by decide +kernel, by decide⟩
theorem cs_X11_rule : CS mX11_rule 2 := ⟨(gt2 89 rfl rfl), (gt1 1 rfl rfl), ⟨by decide +kernel, by decide +kernel⟩, by decide +kernel, by decide⟩
theorem cs_X11_sagOf : CS mX11_sagOf 2 := ⟨(gt2 127 rfl rfl), (gt1 1 rfl rfl), ⟨by decide +kernel, by decide +kernel⟩, by decide +kernel, by decide⟩
theorem cs_X11_shave : CS mX11_shave 2 := ⟨(gt2 150 rfl rfl), (gt1 1 rfl rfl), ⟨by decide +kernel, by decide +kernel⟩, by decide +kernel, by decide⟩
theorem cs_X11_spellRow : CS mX11_spellRow 3 := ⟨(gt3 36 rfl rfl), (gt1 1 rfl rfl), ⟨by decide +kernel, by decide +kernel⟩, by decide +kernel, by decide⟩
theorem cs_X11_stave : CS mX11_stave 4 := ⟨(gt1 231 rfl rfl), (gt1 1 rfl rfl), ⟨by decide +kernel, by decide +kernel⟩, by decide +kernel, by decide⟩
theorem cs_X11_sums : CS mX11_sums 1 := ⟨(gt2 184 rfl rfl), (gt1 1 rfl rfl), ⟨by decide +kernel, by decide +kernel⟩, by decide +kernel, by decide⟩
theorem cs_X11_takes : CS mX11_takes 1 := ⟨(gt2 134 rfl rfl), (gt1 1 rfl rfl), ⟨by decide +kernel, by decide +kernel⟩, by decide +kernel, by decide⟩
theorem cs_X11_told : CS mX11_told 1 := ⟨(gt2 101 rfl rfl), (gt1 1 rfl rfl), ⟨by decide +kernel, by decide +kernel⟩, by decide +kernel, by decide⟩
theorem cs_X11_tray : CS mX11_tray 3 := ⟨(gt4 59 rfl rfl), (gt1 1 rfl rfl), ⟨by decide +kernel, by decide +kernel⟩, by decide +kernel, by decide⟩
theorem cs_X11_trayOn : CS mX11_trayOn 1 := ⟨(gt4 118 rfl rfl), (gt1 1 rfl rfl), ⟨by decide +kernel, by decide +kernel⟩, by decide +kernel, by decide⟩
theorem cs_X11_undo : CS mX11_undo 0 := ⟨(gt4 178 rfl rfl), (gt1 1 rfl rfl), ⟨by decide +kernel, by decide +kernel⟩, by decide +kernel, by decide⟩
theorem cs_X11_used : CS mX11_used 2 := ⟨(gt3 204 rfl rfl), (gt1 1 rfl rfl), ⟨by decide +kernel, by decide +kernel⟩, by decide +kernel, by decide⟩
theorem cs_X11_wet : CS mX11_wet 1 := ⟨(gt3 131 rfl rfl), (gt1 1 rfl rfl), ⟨by decide +kernel, by decide +kernel⟩, by decide +kernel, by decide⟩
theorem cs_X11_without : CS mX11_without 2 := ⟨(gt3 6 rfl rfl), (gt1 1 rfl rfl), ⟨by decide +kernel, by decide +kernel⟩, by decide +kernel, by decide⟩
theorem cs_X11_worst : CS mX11_worst 3 := ⟨(gt3 44 rfl rfl), (gt1 1 rfl rfl), ⟨by decide +kernel, by decide +kernel⟩, by decide +kernel, by decide⟩
theorem cs_X0_init : CS mX0_init 1 := ⟨(gt2 74 rfl rfl), (gt1 12 rfl rfl), ⟨by decide +kernel, by decide +kernel⟩, by decide +kernel, by decide⟩
theorem cs_X0_canBe : CS mX0_canBe 1 := ⟨(gt2 68 rfl rfl), (gt1 12 rfl rfl), ⟨by decide +kernel, by decide +kernel⟩, by decide +kernel, by decide⟩
theorem cs_X0_toldAs : CS mX0_toldAs 0 := ⟨(gt4 87 rfl rfl), (gt1 12 rfl rfl), ⟨by decide +kernel, by decide +kernel⟩, by decide +kernel, by decide⟩
theorem cs_X1_init : CS mX1_init 0 := ⟨(gt1 161 rfl rfl), (gt1 6 rfl rfl), ⟨by decide +kernel, by decide +kernel⟩, by decide +kernel, by decide⟩
theorem cs_X1_addPress : CS mX1_addPress 3 := ⟨(gt3 108 rfl rfl), (gt1 6 rfl rfl), ⟨by decide +kernel, by decide +kernel⟩, by decide +kernel, by decide⟩
theorem cs_X1_capped : CS mX1_capped 1 := ⟨(gt3 127 rfl rfl), (gt1 6 rfl rfl), ⟨by decide +kernel, by decide +kernel⟩, by decide +kernel, by decide⟩
theorem cs_X1_driestSize : CS mX1_driestSize 3 := ⟨(gt3 148 rfl rfl), (gt1 6 rfl rfl), ⟨by decide +kernel, by decide +kernel⟩, by decide +kernel, by decide⟩
theorem cs_X1_drive : CS mX1_drive 1 := ⟨(gt3 91 rfl rfl), (gt1 6 rfl rfl), ⟨by decide +kernel, by decide +kernel⟩, by decide +kernel, by decide⟩
theorem cs_X1_girthAt : CS mX1_girthAt 2 := ⟨(gt3 73 rfl rfl), (gt1 6 rfl rfl), ⟨by decide +kernel, by decide +kernel⟩, by decide +kernel, by decide⟩
theorem cs_X1_gripAt : CS mX1_gripAt 3 := ⟨(gt3 104 rfl rfl), (gt1 6 rfl rfl), ⟨by decide +kernel, by decide +kernel⟩, by decide +kernel, by decide⟩
theorem cs_X1_heightOf : CS mX1_heightOf 2 := ⟨(gt3 111 rfl rfl), (gt1 6 rfl rfl), ⟨by decide +kernel, by decide +kernel⟩, by decide +kernel, by decide⟩
theorem cs_X1_howManyWetWith : CS mX1_howManyWetWith 3 := ⟨(gt3 154 rfl rfl), (gt1 6 rfl rfl), ⟨by decide +kernel, by decide +kernel⟩, by decide +kernel, by decide⟩
theorem cs_X1_pressFrom : CS mX1_pressFrom 3 := ⟨(gt3 117 rfl rfl), (gt1 6 rfl rfl), ⟨by decide +kernel, by decide +kernel⟩, by decide +kernel, by decide⟩
theorem cs_X1_restDepth : CS mX1_restDepth 4 := ⟨(gt3 99 rfl rfl), (gt1 6 rfl rfl), ⟨by decide +kernel, by decide +kernel⟩, by decide +kernel, by decide⟩
theorem cs_X1_wetBelow : CS mX1_wetBelow 1 := ⟨(gt3 139 rfl rfl), (gt1 6 rfl rfl), ⟨by decide +kernel, by decide +kernel⟩, by decide +kernel, by decide⟩
theorem cs_X2_init : CS mX2_init 0 := ⟨(gt1 176 rfl rfl), (gt1 7 rfl rfl), ⟨by decide +kernel, by decide +kernel⟩, by decide +kernel, by decide⟩
theorem cs_X2_firstOfLeast : CS mX2_firstOfLeast 1 := ⟨(gt3 200 rfl rfl), (gt1 7 rfl rfl), ⟨by decide +kernel, by decide +kernel⟩, by decide +kernel, by decide⟩
theorem cs_X2_howMany : CS mX2_howMany 0 := ⟨(gt3 217 rfl rfl), (gt1 7 rfl rfl), ⟨by decide +kernel, by decide +kernel⟩, by decide +kernel, by decide⟩
theorem cs_X2_howManyOnward : CS mX2_howManyOnward 1 := ⟨(gt3 221 rfl rfl), (gt1 7 rfl rfl), ⟨by decide +kernel, by decide +kernel⟩, by decide +kernel, by decide⟩
theorem cs_X2_isDone : CS mX2_isDone 1 := ⟨(gt3 177 rfl rfl), (gt1 7 rfl rfl), ⟨by decide +kernel, by decide +kernel⟩, by decide +kernel, by decide⟩
theorem cs_X2_leastDigits : CS mX2_leastDigits 0 := ⟨(gt3 196 rfl rfl), (gt1 7 rfl rfl), ⟨by decide +kernel, by decide +kernel⟩, by decide +kernel, by decide⟩
theorem cs_X2_leastOnward : CS mX2_leastOnward 1 := ⟨(gt3 181 rfl rfl), (gt1 7 rfl rfl), ⟨by decide +kernel, by decide +kernel⟩, by decide +kernel, by decide⟩
theorem cs_X2_leastSpent : CS mX2_leastSpent 0 := ⟨(gt3 173 rfl rfl), (gt1 7 rfl rfl), ⟨by decide +kernel, by decide +kernel⟩, by decide +kernel, by decide⟩
theorem cs_X2_measure : CS mX2_measure 2 := ⟨(gt3 165 rfl rfl), (gt1 7 rfl rfl), ⟨by decide +kernel, by decide +kernel⟩, by decide +kernel, by decide⟩
theorem cs_X2_spentBy : CS mX2_spentBy 1 := ⟨(gt3 208 rfl rfl), (gt1 7 rfl rfl), ⟨by decide +kernel, by decide +kernel⟩, by decide +kernel, by decide⟩
theorem cs_X2_spentFrom : CS mX2_spentFrom 2 := ⟨(gt3 186 rfl rfl), (gt1 7 rfl rfl), ⟨by decide +kernel, by decide +kernel⟩, by decide +kernel, by decide⟩
theorem cs_X2_spentOn : CS mX2_spentOn 2 := ⟨(gt3 190 rfl rfl), (gt1 7 rfl rfl), ⟨by decide +kernel, by decide +kernel⟩, by decide +kernel, by decide⟩
theorem cs_X3_init : CS mX3_init 3 := ⟨(gt2 40 rfl rfl), (gt1 11 rfl rfl), ⟨by decide +kernel, by decide +kernel⟩, by decide +kernel, by decide⟩
theorem cs_X3_canBe : CS mX3_canBe 3 := ⟨(gt2 34 rfl rfl), (gt1 11 rfl rfl), ⟨by decide +kernel, by decide +kernel⟩, by decide +kernel, by decide⟩
theorem cs_X3_presses : CS mX3_presses 2 := ⟨(gt3 114 rfl rfl), (gt1 11 rfl rfl), ⟨by decide +kernel, by decide +kernel⟩, by decide +kernel, by decide⟩
theorem cs_X3_toldAs : CS mX3_toldAs 0 := ⟨(gt4 90 rfl rfl), (gt1 11 rfl rfl), ⟨by decide +kernel, by decide +kernel⟩, by decide +kernel, by decide⟩
theorem cs_X4_init : CS mX4_init 0 := ⟨(gt1 133 rfl rfl), (gt1 5 rfl rfl), ⟨by decide +kernel, by decide +kernel⟩, by decide +kernel, by decide⟩
theorem cs_X4_allButFirst : CS mX4_allButFirst 0 := ⟨(gt2 236 rfl rfl), (gt1 5 rfl rfl), ⟨by decide +kernel, by decide +kernel⟩, by decide +kernel, by decide⟩
theorem cs_X4_cellOf : CS mX4_cellOf 2 := ⟨(gt2 239 rfl rfl), (gt1 5 rfl rfl), ⟨by decide +kernel, by decide +kernel⟩, by decide +kernel, by decide⟩
theorem cs_X4_choose : CS mX4_choose 3 := ⟨(gt2 215 rfl rfl), (gt1 5 rfl rfl), ⟨by decide +kernel, by decide +kernel⟩, by decide +kernel, by decide⟩
theorem cs_X4_countOnward : CS mX4_countOnward 6 := ⟨(gt3 63 rfl rfl), (gt1 5 rfl rfl), ⟨by decide +kernel, by decide +kernel⟩, by decide +kernel, by decide⟩
theorem cs_X4_digits : CS mX4_digits 0 := ⟨(gt3 25 rfl rfl), (gt1 5 rfl rfl), ⟨by decide +kernel, by decide +kernel⟩, by decide +kernel, by decide⟩
theorem cs_X4_edgeOf : CS mX4_edgeOf 2 := ⟨(gt2 224 rfl rfl), (gt1 5 rfl rfl), ⟨by decide +kernel, by decide +kernel⟩, by decide +kernel, by decide⟩
theorem cs_X4_firstOfLeast : CS mX4_firstOfLeast 2 := ⟨(gt3 13 rfl rfl), (gt1 5 rfl rfl), ⟨by decide +kernel, by decide +kernel⟩, by decide +kernel, by decide⟩
theorem cs_X4_gapOf : CS mX4_gapOf 3 := ⟨(gt2 221 rfl rfl), (gt1 5 rfl rfl), ⟨by decide +kernel, by decide +kernel⟩, by decide +kernel, by decide⟩
theorem cs_X4_howManyWithin : CS mX4_howManyWithin 4 := ⟨(gt3 60 rfl rfl), (gt1 5 rfl rfl), ⟨by decide +kernel, by decide +kernel⟩, by decide +kernel, by decide⟩
theorem cs_X4_jointOfRank : CS mX4_jointOfRank 1 := ⟨(gt3 48 rfl rfl), (gt1 5 rfl rfl), ⟨by decide +kernel, by decide +kernel⟩, by decide +kernel, by decide⟩
theorem cs_X4_layLeast : CS mX4_layLeast 3 := ⟨(gt2 211 rfl rfl), (gt1 5 rfl rfl), ⟨by decide +kernel, by decide +kernel⟩, by decide +kernel, by decide⟩
theorem cs_X4_layTold : CS mX4_layTold 2 := ⟨(gt3 33 rfl rfl), (gt1 5 rfl rfl), ⟨by decide +kernel, by decide +kernel⟩, by decide +kernel, by decide⟩
theorem cs_X4_leakUnder : CS mX4_leakUnder 1 := ⟨(gt3 21 rfl rfl), (gt1 5 rfl rfl), ⟨by decide +kernel, by decide +kernel⟩, by decide +kernel, by decide⟩
theorem cs_X4_leastOnward : CS mX4_leastOnward 3 := ⟨(gt3 3 rfl rfl), (gt1 5 rfl rfl), ⟨by decide +kernel, by decide +kernel⟩, by decide +kernel, by decide⟩
theorem cs_X4_measureGaps : CS mX4_measureGaps 1 := ⟨(gt3 17 rfl rfl), (gt1 5 rfl rfl), ⟨by decide +kernel, by decide +kernel⟩, by decide +kernel, by decide⟩
theorem cs_X4_rankOf : CS mX4_rankOf 1 := ⟨(gt3 52 rfl rfl), (gt1 5 rfl rfl), ⟨by decide +kernel, by decide +kernel⟩, by decide +kernel, by decide⟩
theorem cs_X4_tightPress : CS mX4_tightPress 2 := ⟨(gt3 135 rfl rfl), (gt1 5 rfl rfl), ⟨by decide +kernel, by decide +kernel⟩, by decide +kernel, by decide⟩
theorem cs_X4_weigh : CS mX4_weigh 1 := ⟨(gt2 232 rfl rfl), (gt1 5 rfl rfl), ⟨by decide +kernel, by decide +kernel⟩, by decide +kernel, by decide⟩
theorem cs_X5_init : CS mX5_init 0 := ⟨(gt1 115 rfl rfl), (gt1 4 rfl rfl), ⟨by decide +kernel, by decide +kernel⟩, by decide +kernel, by decide⟩
theorem cs_X5_addUp : CS mX5_addUp 1 := ⟨(gt2 158 rfl rfl), (gt1 4 rfl rfl), ⟨by decide +kernel, by decide +kernel⟩, by decide +kernel, by decide⟩
theorem cs_X5_bestBetween : CS mX5_bestBetween 2 := ⟨(gt2 170 rfl rfl), (gt1 4 rfl rfl), ⟨by decide +kernel, by decide +kernel⟩, by decide +kernel, by decide⟩
theorem cs_X5_closestTo : CS mX5_closestTo 1 := ⟨(gt2 192 rfl rfl), (gt1 4 rfl rfl), ⟨by decide +kernel, by decide +kernel⟩, by decide +kernel, by decide⟩
theorem cs_X5_howMany : CS mX5_howMany 2 := ⟨(gt2 165 rfl rfl), (gt1 4 rfl rfl), ⟨by decide +kernel, by decide +kernel⟩, by decide +kernel, by decide⟩
theorem cs_X5_isBetter : CS mX5_isBetter 2 := ⟨(gt2 174 rfl rfl), (gt1 4 rfl rfl), ⟨by decide +kernel, by decide +kernel⟩, by decide +kernel, by decide⟩
theorem cs_X6_init : CS mX6_init 4 := ⟨(gt2 2 rfl rfl), (gt1 10 rfl rfl), ⟨by decide +kernel, by decide +kernel⟩, by decide +kernel, by decide⟩
theorem cs_X6_canBe : CS mX6_canBe 4 := ⟨(gt1 234 rfl rfl), (gt1 10 rfl rfl), ⟨by decide +kernel, by decide +kernel⟩, by decide +kernel, by decide⟩
theorem cs_X6_counts : CS mX6_counts 0 := ⟨(gt2 113 rfl rfl), (gt1 10 rfl rfl), ⟨by decide +kernel, by decide +kernel⟩, by decide +kernel, by decide⟩
theorem cs_X6_edge : CS mX6_edge 0 := ⟨(gt2 120 rfl rfl), (gt1 10 rfl rfl), ⟨by decide +kernel, by decide +kernel⟩, by decide +kernel, by decide⟩
theorem cs_X6_price : CS mX6_price 0 := ⟨(gt2 124 rfl rfl), (gt1 10 rfl rfl), ⟨by decide +kernel, by decide +kernel⟩, by decide +kernel, by decide⟩
theorem cs_X6_toldAs : CS mX6_toldAs 0 := ⟨(gt4 93 rfl rfl), (gt1 10 rfl rfl), ⟨by decide +kernel, by decide +kernel⟩, by decide +kernel, by decide⟩
theorem cs_X6_twin : CS mX6_twin 0 := ⟨(gt4 172 rfl rfl), (gt1 10 rfl rfl), ⟨by decide +kernel, by decide +kernel⟩, by decide +kernel, by decide⟩
theorem cs_X7_init : CS mX7_init 0 := ⟨(gt1 30 rfl rfl), (gt1 2 rfl rfl), ⟨by decide +kernel, by decide +kernel⟩, by decide +kernel, by decide⟩
theorem cs_X7_addBoard : CS mX7_addBoard 1 := ⟨(gt2 85 rfl rfl), (gt1 2 rfl rfl), ⟨by decide +kernel, by decide +kernel⟩, by decide +kernel, by decide⟩
theorem cs_X7_addHoop : CS mX7_addHoop 1 := ⟨(gt2 61 rfl rfl), (gt1 2 rfl rfl), ⟨by decide +kernel, by decide +kernel⟩, by decide +kernel, by decide⟩
theorem cs_X7_addStave : CS mX7_addStave 1 := ⟨(gt2 27 rfl rfl), (gt1 2 rfl rfl), ⟨by decide +kernel, by decide +kernel⟩, by decide +kernel, by decide⟩
theorem cs_X7_becomeLike : CS mX7_becomeLike 1 := ⟨(gt4 168 rfl rfl), (gt1 2 rfl rfl), ⟨by decide +kernel, by decide +kernel⟩, by decide +kernel, by decide⟩
theorem cs_X7_boardAt : CS mX7_boardAt 1 := ⟨(gt3 169 rfl rfl), (gt1 2 rfl rfl), ⟨by decide +kernel, by decide +kernel⟩, by decide +kernel, by decide⟩
theorem cs_X7_dropBoard : CS mX7_dropBoard 0 := ⟨(gt2 146 rfl rfl), (gt1 2 rfl rfl), ⟨by decide +kernel, by decide +kernel⟩, by decide +kernel, by decide⟩
theorem cs_X7_dropHoop : CS mX7_dropHoop 0 := ⟨(gt2 142 rfl rfl), (gt1 2 rfl rfl), ⟨by decide +kernel, by decide +kernel⟩, by decide +kernel, by decide⟩
theorem cs_X7_dropStave : CS mX7_dropStave 0 := ⟨(gt2 138 rfl rfl), (gt1 2 rfl rfl), ⟨by decide +kernel, by decide +kernel⟩, by decide +kernel, by decide⟩
theorem cs_X7_hoopAt : CS mX7_hoopAt 1 := ⟨(gt3 83 rfl rfl), (gt1 2 rfl rfl), ⟨by decide +kernel, by decide +kernel⟩, by decide +kernel, by decide⟩
theorem cs_X7_staveAt : CS mX7_staveAt 1 := ⟨(gt2 109 rfl rfl), (gt1 2 rfl rfl), ⟨by decide +kernel, by decide +kernel⟩, by decide +kernel, by decide⟩
theorem cs_X7_thingAt : CS mX7_thingAt 2 := ⟨(gt4 52 rfl rfl), (gt1 2 rfl rfl), ⟨by decide +kernel, by decide +kernel⟩, by decide +kernel, by decide⟩
theorem cs_X8_init : CS mX8_init 0 := ⟨(gt1 81 rfl rfl), (gt1 3 rfl rfl), ⟨by decide +kernel, by decide +kernel⟩, by decide +kernel, by decide⟩
theorem cs_X8_append : CS mX8_append 1 := ⟨(gt3 229 rfl rfl), (gt1 3 rfl rfl), ⟨by decide +kernel, by decide +kernel⟩, by decide +kernel, by decide⟩
theorem cs_X8_carryOut : CS mX8_carryOut 1 := ⟨(gt4 32 rfl rfl), (gt1 3 rfl rfl), ⟨by decide +kernel, by decide +kernel⟩, by decide +kernel, by decide⟩
theorem cs_X8_firstUndoable : CS mX8_firstUndoable 1 := ⟨(gt4 21 rfl rfl), (gt1 3 rfl rfl), ⟨by decide +kernel, by decide +kernel⟩, by decide +kernel, by decide⟩
theorem cs_X8_howManyNumbers : CS mX8_howManyNumbers 1 := ⟨(gt4 8 rfl rfl), (gt1 3 rfl rfl), ⟨by decide +kernel, by decide +kernel⟩, by decide +kernel, by decide⟩
theorem cs_X8_isInBounds : CS mX8_isInBounds 2 := ⟨(gt4 24 rfl rfl), (gt1 3 rfl rfl), ⟨by decide +kernel, by decide +kernel⟩, by decide +kernel, by decide⟩
theorem cs_X8_parse : CS mX8_parse 0 := ⟨(gt3 237 rfl rfl), (gt1 3 rfl rfl), ⟨by decide +kernel, by decide +kernel⟩, by decide +kernel, by decide⟩
theorem cs_X8_parseNumber : CS mX8_parseNumber 2 := ⟨(gt4 16 rfl rfl), (gt1 3 rfl rfl), ⟨by decide +kernel, by decide +kernel⟩, by decide +kernel, by decide⟩
theorem cs_X8_parseStatement : CS mX8_parseStatement 1 := ⟨(gt4 1 rfl rfl), (gt1 3 rfl rfl), ⟨by decide +kernel, by decide +kernel⟩, by decide +kernel, by decide⟩
theorem cs_X8_pass : CS mX8_pass 1 := ⟨(gt4 12 rfl rfl), (gt1 3 rfl rfl), ⟨by decide +kernel, by decide +kernel⟩, by decide +kernel, by decide⟩
theorem cs_X8_peek : CS mX8_peek 0 := ⟨(gt4 5 rfl rfl), (gt1 3 rfl rfl), ⟨by decide +kernel, by decide +kernel⟩, by decide +kernel, by decide⟩
theorem cs_X9_init : CS mX9_init 0 := ⟨(gt2 5 rfl rfl), (gt1 9 rfl rfl), ⟨by decide +kernel, by decide +kernel⟩, by decide +kernel, by decide⟩
theorem cs_X10_init : CS mX10_init 2 := ⟨(gt4 64 rfl rfl), (gt1 16 rfl rfl), ⟨by decide +kernel, by decide +kernel⟩, by decide +kernel, by decide⟩
theorem cs_X10_hasItem : CS mX10_hasItem 1 := ⟨(gt4 126 rfl rfl), (gt1 16 rfl rfl), ⟨by decide +kernel, by decide +kernel⟩, by decide +kernel, by decide⟩
theorem cs_X10_hasRun : CS mX10_hasRun 2 := ⟨(gt4 157 rfl rfl), (gt1 16 rfl rfl), ⟨by decide +kernel, by decide +kernel⟩, by decide +kernel, by decide⟩
theorem cs_X10_lay : CS mX10_lay 2 := ⟨(gt4 130 rfl rfl), (gt1 16 rfl rfl), ⟨by decide +kernel, by decide +kernel⟩, by decide +kernel, by decide⟩
theorem cs_X10_toldAs : CS mX10_toldAs 0 := ⟨(gt4 96 rfl rfl), (gt1 16 rfl rfl), ⟨by decide +kernel, by decide +kernel⟩, by decide +kernel, by decide⟩
theorem cs_X12_init : CS mX12_init 0 := ⟨(gt4 183 rfl rfl), (gt1 8 rfl rfl), ⟨by decide +kernel, by decide +kernel⟩, by decide +kernel, by decide⟩
theorem cs_X12_as : CS mX12_as 3 := ⟨(gt6 59 rfl rfl), (gt1 8 rfl rfl), ⟨by decide +kernel, by decide +kernel⟩, by decide +kernel, by decide⟩
theorem cs_X12_board : CS mX12_board 1 := ⟨(gt5 56 rfl rfl), (gt1 8 rfl rfl), ⟨by decide +kernel, by decide +kernel⟩, by decide +kernel, by decide⟩
theorem cs_X12_countsOf : CS mX12_countsOf 1 := ⟨(gt5 79 rfl rfl), (gt1 8 rfl rfl), ⟨by decide +kernel, by decide +kernel⟩, by decide +kernel, by decide⟩
theorem cs_X12_countsOfSet : CS mX12_countsOfSet 1 := ⟨(gt5 111 rfl rfl), (gt1 8 rfl rfl), ⟨by decide +kernel, by decide +kernel⟩, by decide +kernel, by decide⟩
theorem cs_X12_does : CS mX12_does 1 := ⟨(gt6 36 rfl rfl), (gt1 8 rfl rfl), ⟨by decide +kernel, by decide +kernel⟩, by decide +kernel, by decide⟩
theorem cs_X12_driest : CS mX12_driest 2 := ⟨(gt5 218 rfl rfl), (gt1 8 rfl rfl), ⟨by decide +kernel, by decide +kernel⟩, by decide +kernel, by decide⟩
theorem cs_X12_edgeOf : CS mX12_edgeOf 1 := ⟨(gt5 84 rfl rfl), (gt1 8 rfl rfl), ⟨by decide +kernel, by decide +kernel⟩, by decide +kernel, by decide⟩
theorem cs_X12_feed : CS mX12_feed 1 := ⟨(gt6 6 rfl rfl), (gt1 8 rfl rfl), ⟨by decide +kernel, by decide +kernel⟩, by decide +kernel, by decide⟩
theorem cs_X12_fill : CS mX12_fill 3 := ⟨(gt6 83 rfl rfl), (gt1 8 rfl rfl), ⟨by decide +kernel, by decide +kernel⟩, by decide +kernel, by decide⟩
theorem cs_X12_fits : CS mX12_fits 1 := ⟨(gt5 107 rfl rfl), (gt1 8 rfl rfl), ⟨by decide +kernel, by decide +kernel⟩, by decide +kernel, by decide⟩
theorem cs_X12_gap : CS mX12_gap 2 := ⟨(gt5 153 rfl rfl), (gt1 8 rfl rfl), ⟨by decide +kernel, by decide +kernel⟩, by decide +kernel, by decide⟩
theorem cs_X12_get : CS mX12_get 2 := ⟨(gt6 78 rfl rfl), (gt1 8 rfl rfl), ⟨by decide +kernel, by decide +kernel⟩, by decide +kernel, by decide⟩
theorem cs_X12_girth : CS mX12_girth 1 := ⟨(gt5 174 rfl rfl), (gt1 8 rfl rfl), ⟨by decide +kernel, by decide +kernel⟩, by decide +kernel, by decide⟩
theorem cs_X12_girthAt : CS mX12_girthAt 1 := ⟨(gt5 178 rfl rfl), (gt1 8 rfl rfl), ⟨by decide +kernel, by decide +kernel⟩, by decide +kernel, by decide⟩
theorem cs_X12_goesOn : CS mX12_goesOn 5 := ⟨(gt5 230 rfl rfl), (gt1 8 rfl rfl), ⟨by decide +kernel, by decide +kernel⟩, by decide +kernel, by decide⟩
theorem cs_X12_goesRound : CS mX12_goesRound 4 := ⟨(gt5 145 rfl rfl), (gt1 8 rfl rfl), ⟨by decide +kernel, by decide +kernel⟩, by decide +kernel, by decide⟩
theorem cs_X12_gripOf : CS mX12_gripOf 1 := ⟨(gt5 194 rfl rfl), (gt1 8 rfl rfl), ⟨by decide +kernel, by decide +kernel⟩, by decide +kernel, by decide⟩
theorem cs_X12_hang : CS mX12_hang 3 := ⟨(gt6 44 rfl rfl), (gt1 8 rfl rfl), ⟨by decide +kernel, by decide +kernel⟩, by decide +kernel, by decide⟩
theorem cs_X12_hasHoop : CS mX12_hasHoop 1 := ⟨(gt5 186 rfl rfl), (gt1 8 rfl rfl), ⟨by decide +kernel, by decide +kernel⟩, by decide +kernel, by decide⟩
theorem cs_X12_hasStave : CS mX12_hasStave 1 := ⟨(gt5 75 rfl rfl), (gt1 8 rfl rfl), ⟨by decide +kernel, by decide +kernel⟩, by decide +kernel, by decide⟩
theorem cs_X12_head : CS mX12_head 2 := ⟨(gt5 222 rfl rfl), (gt1 8 rfl rfl), ⟨by decide +kernel, by decide +kernel⟩, by decide +kernel, by decide⟩
theorem cs_X12_heads : CS mX12_heads 1 := ⟨(gt6 2 rfl rfl), (gt1 8 rfl rfl), ⟨by decide +kernel, by decide +kernel⟩, by decide +kernel, by decide⟩
theorem cs_X12_held : CS mX12_held 1 := ⟨(gt6 55 rfl rfl), (gt1 8 rfl rfl), ⟨by decide +kernel, by decide +kernel⟩, by decide +kernel, by decide⟩
theorem cs_X12_hoop : CS mX12_hoop 3 := ⟨(gt5 49 rfl rfl), (gt1 8 rfl rfl), ⟨by decide +kernel, by decide +kernel⟩, by decide +kernel, by decide⟩
theorem cs_X12_image : CS mX12_image 0 := ⟨(gt6 95 rfl rfl), (gt1 8 rfl rfl), ⟨by decide +kernel, by decide +kernel⟩, by decide +kernel, by decide⟩
theorem cs_X12_isFrom : CS mX12_isFrom 2 := ⟨(gt6 25 rfl rfl), (gt1 8 rfl rfl), ⟨by decide +kernel, by decide +kernel⟩, by decide +kernel, by decide⟩
theorem cs_X12_isHoop : CS mX12_isHoop 3 := ⟨(gt5 52 rfl rfl), (gt1 8 rfl rfl), ⟨by decide +kernel, by decide +kernel⟩, by decide +kernel, by decide⟩
theorem cs_X12_isNoTray : CS mX12_isNoTray 1 := ⟨(gt6 70 rfl rfl), (gt1 8 rfl rfl), ⟨by decide +kernel, by decide +kernel⟩, by decide +kernel, by decide⟩
theorem cs_X12_isPeg : CS mX12_isPeg 1 := ⟨(gt6 47 rfl rfl), (gt1 8 rfl rfl), ⟨by decide +kernel, by decide +kernel⟩, by decide +kernel, by decide⟩
theorem cs_X12_isPress : CS mX12_isPress 1 := ⟨(gt5 137 rfl rfl), (gt1 8 rfl rfl), ⟨by decide +kernel, by decide +kernel⟩, by decide +kernel, by decide⟩
theorem cs_X12_isRing : CS mX12_isRing 1 := ⟨(gt5 162 rfl rfl), (gt1 8 rfl rfl), ⟨by decide +kernel, by decide +kernel⟩, by decide +kernel, by decide⟩
theorem cs_X12_isRule : CS mX12_isRule 2 := ⟨(gt5 63 rfl rfl), (gt1 8 rfl rfl), ⟨by decide +kernel, by decide +kernel⟩, by decide +kernel, by decide⟩
theorem cs_X12_isSet : CS mX12_isSet 1 := ⟨(gt5 134 rfl rfl), (gt1 8 rfl rfl), ⟨by decide +kernel, by decide +kernel⟩, by decide +kernel, by decide⟩
theorem cs_X12_isStave : CS mX12_isStave 4 := ⟨(gt5 42 rfl rfl), (gt1 8 rfl rfl), ⟨by decide +kernel, by decide +kernel⟩, by decide +kernel, by decide⟩
theorem cs_X12_isUnder : CS mX12_isUnder 3 := ⟨(gt6 62 rfl rfl), (gt1 8 rfl rfl), ⟨by decide +kernel, by decide +kernel⟩, by decide +kernel, by decide⟩
theorem cs_X12_judge : CS mX12_judge 3 := ⟨(gt6 87 rfl rfl), (gt1 8 rfl rfl), ⟨by decide +kernel, by decide +kernel⟩, by decide +kernel, by decide⟩
theorem cs_X12_lays : CS mX12_lays 3 := ⟨(gt6 74 rfl rfl), (gt1 8 rfl rfl), ⟨by decide +kernel, by decide +kernel⟩, by decide +kernel, by decide⟩
theorem cs_X12_leak : CS mX12_leak 2 := ⟨(gt5 158 rfl rfl), (gt1 8 rfl rfl), ⟨by decide +kernel, by decide +kernel⟩, by decide +kernel, by decide⟩
theorem cs_X12_leakOf : CS mX12_leakOf 2 := ⟨(gt5 149 rfl rfl), (gt1 8 rfl rfl), ⟨by decide +kernel, by decide +kernel⟩, by decide +kernel, by decide⟩
theorem cs_X12_least : CS mX12_least 3 := ⟨(gt5 130 rfl rfl), (gt1 8 rfl rfl), ⟨by decide +kernel, by decide +kernel⟩, by decide +kernel, by decide⟩
theorem cs_X12_move : CS mX12_move 5 := ⟨(gt6 91 rfl rfl), (gt1 8 rfl rfl), ⟨by decide +kernel, by decide +kernel⟩, by decide +kernel, by decide⟩
theorem cs_X12_nearest : CS mX12_nearest 1 := ⟨(gt5 124 rfl rfl), (gt1 8 rfl rfl), ⟨by decide +kernel, by decide +kernel⟩, by decide +kernel, by decide⟩
theorem cs_X12_number : CS mX12_number 0 := ⟨(gt6 29 rfl rfl), (gt1 8 rfl rfl), ⟨by decide +kernel, by decide +kernel⟩, by decide +kernel, by decide⟩
theorem cs_X12_numbers : CS mX12_numbers 1 := ⟨(gt6 17 rfl rfl), (gt1 8 rfl rfl), ⟨by decide +kernel, by decide +kernel⟩, by decide +kernel, by decide⟩
theorem cs_X12_ofHoop : CS mX12_ofHoop 2 := ⟨(gt5 182 rfl rfl), (gt1 8 rfl rfl), ⟨by decide +kernel, by decide +kernel⟩, by decide +kernel, by decide⟩
theorem cs_X12_ofStave : CS mX12_ofStave 2 := ⟨(gt5 71 rfl rfl), (gt1 8 rfl rfl), ⟨by decide +kernel, by decide +kernel⟩, by decide +kernel, by decide⟩
theorem cs_X12_pours : CS mX12_pours 2 := ⟨(gt6 32 rfl rfl), (gt1 8 rfl rfl), ⟨by decide +kernel, by decide +kernel⟩, by decide +kernel, by decide⟩
theorem cs_X12_press : CS mX12_press 1 := ⟨(gt5 202 rfl rfl), (gt1 8 rfl rfl), ⟨by decide +kernel, by decide +kernel⟩, by decide +kernel, by decide⟩
theorem cs_X12_pressAt : CS mX12_pressAt 1 := ⟨(gt5 206 rfl rfl), (gt1 8 rfl rfl), ⟨by decide +kernel, by decide +kernel⟩, by decide +kernel, by decide⟩
theorem cs_X12_pressOf : CS mX12_pressOf 1 := ⟨(gt5 198 rfl rfl), (gt1 8 rfl rfl), ⟨by decide +kernel, by decide +kernel⟩, by decide +kernel, by decide⟩
theorem cs_X12_priceOf : CS mX12_priceOf 1 := ⟨(gt5 88 rfl rfl), (gt1 8 rfl rfl), ⟨by decide +kernel, by decide +kernel⟩, by decide +kernel, by decide⟩
theorem cs_X12_priceOfSet : CS mX12_priceOfSet 1 := ⟨(gt5 115 rfl rfl), (gt1 8 rfl rfl), ⟨by decide +kernel, by decide +kernel⟩, by decide +kernel, by decide⟩
theorem cs_X12_put : CS mX12_put 3 := ⟨(gt6 66 rfl rfl), (gt1 8 rfl rfl), ⟨by decide +kernel, by decide +kernel⟩, by decide +kernel, by decide⟩
theorem cs_X12_read : CS mX12_read 0 := ⟨(gt6 10 rfl rfl), (gt1 8 rfl rfl), ⟨by decide +kernel, by decide +kernel⟩, by decide +kernel, by decide⟩
theorem cs_X12_reads : CS mX12_reads 0 := ⟨(gt6 14 rfl rfl), (gt1 8 rfl rfl), ⟨by decide +kernel, by decide +kernel⟩, by decide +kernel, by decide⟩
theorem cs_X12_rings : CS mX12_rings 3 := ⟨(gt5 170 rfl rfl), (gt1 8 rfl rfl), ⟨by decide +kernel, by decide +kernel⟩, by decide +kernel, by decide⟩
theorem cs_X12_root : CS mX12_root 1 := ⟨(gt5 95 rfl rfl), (gt1 8 rfl rfl), ⟨by decide +kernel, by decide +kernel⟩, by decide +kernel, by decide⟩
theorem cs_X12_rounds : CS mX12_rounds 3 := ⟨(gt5 141 rfl rfl), (gt1 8 rfl rfl), ⟨by decide +kernel, by decide +kernel⟩, by decide +kernel, by decide⟩
theorem cs_X12_rule : CS mX12_rule 2 := ⟨(gt5 60 rfl rfl), (gt1 8 rfl rfl), ⟨by decide +kernel, by decide +kernel⟩, by decide +kernel, by decide⟩
theorem cs_X12_sagOf : CS mX12_sagOf 1 := ⟨(gt5 92 rfl rfl), (gt1 8 rfl rfl), ⟨by decide +kernel, by decide +kernel⟩, by decide +kernel, by decide⟩
theorem cs_X12_saws : CS mX12_saws 1 := ⟨(gt5 226 rfl rfl), (gt1 8 rfl rfl), ⟨by decide +kernel, by decide +kernel⟩, by decide +kernel, by decide⟩
theorem cs_X12_settles : CS mX12_settles 0 := ⟨(gt5 190 rfl rfl), (gt1 8 rfl rfl), ⟨by decide +kernel, by decide +kernel⟩, by decide +kernel, by decide⟩
theorem cs_X12_shave : CS mX12_shave 2 := ⟨(gt5 103 rfl rfl), (gt1 8 rfl rfl), ⟨by decide +kernel, by decide +kernel⟩, by decide +kernel, by decide⟩
theorem cs_X12_stave : CS mX12_stave 4 := ⟨(gt5 39 rfl rfl), (gt1 8 rfl rfl), ⟨by decide +kernel, by decide +kernel⟩, by decide +kernel, by decide⟩
theorem cs_X12_sums : CS mX12_sums 1 := ⟨(gt5 120 rfl rfl), (gt1 8 rfl rfl), ⟨by decide +kernel, by decide +kernel⟩, by decide +kernel, by decide⟩
theorem cs_X12_takes : CS mX12_takes 1 := ⟨(gt5 99 rfl rfl), (gt1 8 rfl rfl), ⟨by decide +kernel, by decide +kernel⟩, by decide +kernel, by decide⟩
theorem cs_X12_told : CS mX12_told 1 := ⟨(gt5 67 rfl rfl), (gt1 8 rfl rfl), ⟨by decide +kernel, by decide +kernel⟩, by decide +kernel, by decide⟩
theorem cs_X12_tray : CS mX12_tray 3 := ⟨(gt6 51 rfl rfl), (gt1 8 rfl rfl), ⟨by decide +kernel, by decide +kernel⟩, by decide +kernel, by decide⟩
theorem cs_X12_undo : CS mX12_undo 0 := ⟨(gt6 99 rfl rfl), (gt1 8 rfl rfl), ⟨by decide +kernel, by decide +kernel⟩, by decide +kernel, by decide⟩
theorem cs_X12_used : CS mX12_used 2 := ⟨(gt5 238 rfl rfl), (gt1 8 rfl rfl), ⟨by decide +kernel, by decide +kernel⟩, by decide +kernel, by decide⟩
theorem cs_X12_usedBy : CS mX12_usedBy 3 := ⟨(gt5 234 rfl rfl), (gt1 8 rfl rfl), ⟨by decide +kernel, by decide +kernel⟩, by decide +kernel, by decide⟩
theorem cs_X12_wet : CS mX12_wet 1 := ⟨(gt5 210 rfl rfl), (gt1 8 rfl rfl), ⟨by decide +kernel, by decide +kernel⟩, by decide +kernel, by decide⟩
theorem cs_X12_wetNow : CS mX12_wetNow 0 := ⟨(gt5 214 rfl rfl), (gt1 8 rfl rfl), ⟨by decide +kernel, by decide +kernel⟩, by decide +kernel, by decide⟩
theorem cs_X12_within : CS mX12_within 3 := ⟨(gt5 45 rfl rfl), (gt1 8 rfl rfl), ⟨by decide +kernel, by decide +kernel⟩, by decide +kernel, by decide⟩
theorem cs_X12_worst : CS mX12_worst 3 := ⟨(gt5 166 rfl rfl), (gt1 8 rfl rfl), ⟨by decide +kernel, by decide +kernel⟩, by decide +kernel, by decide⟩
theorem cs_X12_wrong : CS mX12_wrong 0 := ⟨(gt6 21 rfl rfl), (gt1 8 rfl rfl), ⟨by decide +kernel, by decide +kernel⟩, by decide +kernel, by decide⟩
theorem cs_J6_bitCount_0f7a4 : CS mJ6_bitCount_0f7a4 1 := ⟨(gt2 177 rfl rfl), (gt1 14 rfl rfl), ⟨by decide +kernel, by decide +kernel⟩, by decide +kernel, by decide⟩
theorem cs_J9_abs_0f7a4 : CS mJ9_abs_0f7a4 1 := ⟨(gt2 195 rfl rfl), (gt1 13 rfl rfl), ⟨by decide +kernel, by decide +kernel⟩, by decide +kernel, by decide⟩
theorem cs_J9_max_7cf53 : CS mJ9_max_7cf53 2 := ⟨(gt2 116 rfl rfl), (gt1 13 rfl rfl), ⟨by decide +kernel, by decide +kernel⟩, by decide +kernel, by decide⟩
theorem cs_J9_min_7cf53 : CS mJ9_min_7cf53 2 := ⟨(gt3 9 rfl rfl), (gt1 13 rfl rfl), ⟨by decide +kernel, by decide +kernel⟩, by decide +kernel, by decide⟩
theorem cs_J7_fill_53178 : CS mJ7_fill_53178 2 := ⟨(gt3 94 rfl rfl), (gt1 15 rfl rfl), ⟨by decide +kernel, by decide +kernel⟩, by decide +kernel, by decide⟩
theorem sl_RL_7 : Cond.classLink RL 7 RX11 ∈ gTbl := (gt1 18 rfl rfl)
theorem sn_RL_7 : NC RL 7 10 10 := by
  refine ⟨_, rfl, rfl, sl_RL_7, (gt1 19 rfl rfl), (gt1 1 rfl rfl), cw_10, fun j hj => ?_⟩
  match j, hj with
  | 0, _ => exact ⟨fun h => by first | rfl | (revert h; decide), fun h => by first | rfl | (exact absurd rfl h)⟩
  | 1, _ => exact ⟨fun h => by first | rfl | (revert h; decide), fun h => by first | rfl | (exact absurd rfl h)⟩
  | 2, _ => exact ⟨fun h => by first | rfl | (revert h; decide), fun h => by first | rfl | (exact absurd rfl h)⟩
  | 3, _ => exact ⟨fun h => by first | rfl | (revert h; decide), fun h => by first | rfl | (exact absurd rfl h)⟩
  | 4, _ => exact ⟨fun h => by first | rfl | (revert h; decide), fun h => by first | rfl | (exact absurd rfl h)⟩
  | 5, _ => exact ⟨fun h => by first | rfl | (revert h; decide), fun h => by first | rfl | (exact absurd rfl h)⟩
  | 6, _ => exact ⟨fun h => by first | rfl | (revert h; decide), fun h => by first | rfl | (exact absurd rfl h)⟩
  | 7, _ => exact ⟨fun h => by first | rfl | (revert h; decide), fun h => by first | rfl | (exact absurd rfl h)⟩
  | 8, _ => exact ⟨fun h => by first | rfl | (revert h; decide), fun h => by first | rfl | (exact absurd rfl h)⟩
  | 9, _ => exact ⟨fun h => by first | rfl | (revert h; decide), fun h => by first | rfl | (exact absurd rfl h)⟩
  | n + 10, h => exact absurd h (by show ¬ n + 10 < 10; omega)
theorem si_RL_9 : CS mX11_init 0 ∧ mX11_init.2.2.2 = none ∧ mX11_init.2.1.name = "<init>" ∧ Cond.instanceMethod yX11_init ∈ gTbl ∧ (Cond.methodLink RL 9 yX11_init ∈ gTbl ∨ (RL, 9, yX11_init) ∈ mnTbl) := ⟨cs_X11_init, rfl, rfl, (gt1 21 rfl rfl), (Or.inl (gt1 20 rfl rfl))⟩
theorem so_RX11_3 : Cond.methodLink RX11 3 objectInit ∈ gTbl := (gt1 23 rfl rfl)
theorem sl_RX11_9 : Cond.classLink RX11 9 RX7 ∈ gTbl := (gt1 26 rfl rfl)
theorem sn_RX11_9 : NC RX11 9 7 7 := by
  refine ⟨_, rfl, rfl, sl_RX11_9, (gt1 27 rfl rfl), (gt1 2 rfl rfl), cw_7, fun j hj => ?_⟩
  match j, hj with
  | 0, _ => exact ⟨fun h => by first | rfl | (revert h; decide), fun h => by first | rfl | (exact absurd rfl h)⟩
  | 1, _ => exact ⟨fun h => by first | rfl | (revert h; decide), fun h => by first | rfl | (exact absurd rfl h)⟩
  | 2, _ => exact ⟨fun h => by first | rfl | (revert h; decide), fun h => by first | rfl | (exact absurd rfl h)⟩
  | 3, _ => exact ⟨fun h => by first | rfl | (revert h; decide), fun h => by first | rfl | (exact absurd rfl h)⟩
  | 4, _ => exact ⟨fun h => by first | rfl | (revert h; decide), fun h => by first | rfl | (exact absurd rfl h)⟩
  | 5, _ => exact ⟨fun h => by first | rfl | (revert h; decide), fun h => by first | rfl | (exact absurd rfl h)⟩
  | 6, _ => exact ⟨fun h => by first | rfl | (revert h; decide), fun h => by first | rfl | (exact absurd rfl h)⟩
  | n + 7, h => exact absurd h (by show ¬ n + 7 < 7; omega)
theorem si_RX11_11 : CS mX7_init 0 ∧ mX7_init.2.2.2 = none ∧ mX7_init.2.1.name = "<init>" ∧ Cond.instanceMethod yX7_init ∈ gTbl ∧ (Cond.methodLink RX11 11 yX7_init ∈ gTbl ∨ (RX11, 11, yX7_init) ∈ mnTbl) := ⟨cs_X7_init, rfl, rfl, (gt1 29 rfl rfl), (Or.inr (List.mem_of_getElem? (i := 0) rfl))⟩
theorem so_RX7_3 : Cond.methodLink RX7 3 objectInit ∈ gTbl := (gt1 31 rfl rfl)
theorem sl_RX7_9 : Cond.classLink RX7 9 RX6 ∈ gTbl := (gt1 32 rfl rfl)
theorem sn_RX7_9 : NC RX7 9 6 4 := by
  refine ⟨_, rfl, rfl, sl_RX7_9, (gt1 239 rfl rfl), (gt1 10 rfl rfl), cw_6, fun j hj => ?_⟩
  match j, hj with
  | 0, _ => exact ⟨fun h => by first | rfl | (revert h; decide), fun h => by first | rfl | (exact absurd rfl h)⟩
  | 1, _ => exact ⟨fun h => by first | rfl | (revert h; decide), fun h => by first | rfl | (exact absurd rfl h)⟩
  | 2, _ => exact ⟨fun h => by first | rfl | (revert h; decide), fun h => by first | rfl | (exact absurd rfl h)⟩
  | 3, _ => exact ⟨fun h => by first | rfl | (revert h; decide), fun h => by first | rfl | (exact absurd rfl h)⟩
  | n + 4, h => exact absurd h (by show ¬ n + 4 < 4; omega)
theorem sl_RX7_17 : Cond.classLink RX7 17 RX3 ∈ gTbl := (gt1 34 rfl rfl)
theorem sn_RX7_17 : NC RX7 17 3 3 := by
  refine ⟨_, rfl, rfl, sl_RX7_17, (gt2 37 rfl rfl), (gt1 11 rfl rfl), cw_3, fun j hj => ?_⟩
  match j, hj with
  | 0, _ => exact ⟨fun h => by first | rfl | (revert h; decide), fun h => by first | rfl | (exact absurd rfl h)⟩
  | 1, _ => exact ⟨fun h => by first | rfl | (revert h; decide), fun h => by first | rfl | (exact absurd rfl h)⟩
  | 2, _ => exact ⟨fun h => by first | rfl | (revert h; decide), fun h => by first | rfl | (exact absurd rfl h)⟩
  | n + 3, h => exact absurd h (by show ¬ n + 3 < 3; omega)
theorem sl_RX7_23 : Cond.classLink RX7 23 RX0 ∈ gTbl := (gt1 36 rfl rfl)
theorem sn_RX7_23 : NC RX7 23 0 1 := by
  refine ⟨_, rfl, rfl, sl_RX7_23, (gt2 71 rfl rfl), (gt1 12 rfl rfl), cw_0, fun j hj => ?_⟩
  match j, hj with
  | 0, _ => exact ⟨fun h => by first | rfl | (revert h; decide), fun h => by first | rfl | (exact absurd rfl h)⟩
  | n + 1, h => exact absurd h (by show ¬ n + 1 < 1; omega)
theorem sf_RX7_11 : FL RX7 11 7 0 := ⟨_, rfl, by decide, (gt1 38 rfl rfl), cw_7⟩
theorem sp_RX7_11 : PF RX7 "<init>" 11 7 0 "[LHoopYard$Stave;" := ⟨sf_RX7_11, _, rfl, rfl, Or.inr ⟨rfl, rfl, rfl⟩⟩
theorem sf_RX7_19 : FL RX7 19 7 1 := ⟨_, rfl, by decide, (gt1 39 rfl rfl), cw_7⟩
theorem sp_RX7_19 : PF RX7 "<init>" 19 7 1 "[LHoopYard$Hoop;" := ⟨sf_RX7_19, _, rfl, rfl, Or.inr ⟨rfl, rfl, rfl⟩⟩
theorem sf_RX7_25 : FL RX7 25 7 2 := ⟨_, rfl, by decide, (gt1 40 rfl rfl), cw_7⟩
theorem sp_RX7_25 : PF RX7 "<init>" 25 7 2 "[LHoopYard$Board;" := ⟨sf_RX7_25, _, rfl, rfl, Or.inr ⟨rfl, rfl, rfl⟩⟩
theorem sf_RX7_29 : FL RX7 29 7 3 := ⟨_, rfl, by decide, (gt1 41 rfl rfl), cw_7⟩
theorem sp_RX7_29 : PF RX7 "<init>" 29 7 3 "[I" := ⟨sf_RX7_29, _, rfl, rfl, Or.inr ⟨rfl, rfl, rfl⟩⟩
theorem sf_RX1_18 : FL RX1 18 7 3 := ⟨_, rfl, by decide, (gt1 42 rfl rfl), cw_7⟩
theorem sf_RX11_114 : FL RX11 114 7 3 := ⟨_, rfl, by decide, (gt1 43 rfl rfl), cw_7⟩
theorem sf_RX4_86 : FL RX4 86 7 3 := ⟨_, rfl, by decide, (gt1 44 rfl rfl), cw_7⟩
theorem sf_RX8_113 : FL RX8 113 7 3 := ⟨_, rfl, by decide, (gt1 45 rfl rfl), cw_7⟩
theorem sf_RX5_18 : FL RX5 18 7 4 := ⟨_, rfl, by decide, (gt1 46 rfl rfl), cw_7⟩
theorem sp_RX5_18 (nm : String) : PF RX5 nm 18 7 4 "I" := ⟨sf_RX5_18, _, rfl, rfl, Or.inl rfl⟩
theorem sf_RX4_29 : FL RX4 29 7 4 := ⟨_, rfl, by decide, (gt1 47 rfl rfl), cw_7⟩
theorem sp_RX4_29 (nm : String) : PF RX4 nm 29 7 4 "I" := ⟨sf_RX4_29, _, rfl, rfl, Or.inl rfl⟩
theorem sf_RX7_33 : FL RX7 33 7 4 := ⟨_, rfl, by decide, (gt1 48 rfl rfl), cw_7⟩
theorem sp_RX7_33 (nm : String) : PF RX7 nm 33 7 4 "I" := ⟨sf_RX7_33, _, rfl, rfl, Or.inl rfl⟩
theorem sf_RX11_118 : FL RX11 118 7 4 := ⟨_, rfl, by decide, (gt1 49 rfl rfl), cw_7⟩
theorem sp_RX11_118 (nm : String) : PF RX11 nm 118 7 4 "I" := ⟨sf_RX11_118, _, rfl, rfl, Or.inl rfl⟩
theorem sf_RX8_60 : FL RX8 60 7 4 := ⟨_, rfl, by decide, (gt1 50 rfl rfl), cw_7⟩
theorem sp_RX8_60 (nm : String) : PF RX8 nm 60 7 4 "I" := ⟨sf_RX8_60, _, rfl, rfl, Or.inl rfl⟩
theorem sf_RX7_37 : FL RX7 37 7 5 := ⟨_, rfl, by decide, (gt1 51 rfl rfl), cw_7⟩
theorem sp_RX7_37 (nm : String) : PF RX7 nm 37 7 5 "I" := ⟨sf_RX7_37, _, rfl, rfl, Or.inl rfl⟩
theorem sf_RX1_39 : FL RX1 39 7 5 := ⟨_, rfl, by decide, (gt1 52 rfl rfl), cw_7⟩
theorem sp_RX1_39 (nm : String) : PF RX1 nm 39 7 5 "I" := ⟨sf_RX1_39, _, rfl, rfl, Or.inl rfl⟩
theorem sf_RX11_121 : FL RX11 121 7 5 := ⟨_, rfl, by decide, (gt1 53 rfl rfl), cw_7⟩
theorem sp_RX11_121 (nm : String) : PF RX11 nm 121 7 5 "I" := ⟨sf_RX11_121, _, rfl, rfl, Or.inl rfl⟩
theorem sf_RX8_65 : FL RX8 65 7 5 := ⟨_, rfl, by decide, (gt1 54 rfl rfl), cw_7⟩
theorem sp_RX8_65 (nm : String) : PF RX8 nm 65 7 5 "I" := ⟨sf_RX8_65, _, rfl, rfl, Or.inl rfl⟩
theorem sf_RX2_28 : FL RX2 28 7 6 := ⟨_, rfl, by decide, (gt1 55 rfl rfl), cw_7⟩
theorem sp_RX2_28 (nm : String) : PF RX2 nm 28 7 6 "I" := ⟨sf_RX2_28, _, rfl, rfl, Or.inl rfl⟩
theorem sf_RX7_40 : FL RX7 40 7 6 := ⟨_, rfl, by decide, (gt1 56 rfl rfl), cw_7⟩
theorem sp_RX7_40 (nm : String) : PF RX7 nm 40 7 6 "I" := ⟨sf_RX7_40, _, rfl, rfl, Or.inl rfl⟩
theorem sf_RX11_124 : FL RX11 124 7 6 := ⟨_, rfl, by decide, (gt1 57 rfl rfl), cw_7⟩
theorem sp_RX11_124 (nm : String) : PF RX11 nm 124 7 6 "I" := ⟨sf_RX11_124, _, rfl, rfl, Or.inl rfl⟩
theorem sf_RX8_68 : FL RX8 68 7 6 := ⟨_, rfl, by decide, (gt1 58 rfl rfl), cw_7⟩
theorem sp_RX8_68 (nm : String) : PF RX8 nm 68 7 6 "I" := ⟨sf_RX8_68, _, rfl, rfl, Or.inl rfl⟩
theorem sl_RX11_25 : Cond.classLink RX11 25 RX9 ∈ gTbl := (gt1 75 rfl rfl)
theorem sl_RX11_31 : Cond.classLink RX11 31 RX8 ∈ gTbl := (gt1 77 rfl rfl)
theorem sn_RX11_31 : NC RX11 31 8 7 := by
  refine ⟨_, rfl, rfl, sl_RX11_31, (gt1 78 rfl rfl), (gt1 3 rfl rfl), cw_8, fun j hj => ?_⟩
  match j, hj with
  | 0, _ => exact ⟨fun h => by first | rfl | (revert h; decide), fun h => by first | rfl | (exact absurd rfl h)⟩
  | 1, _ => exact ⟨fun h => by first | rfl | (revert h; decide), fun h => by first | rfl | (exact absurd rfl h)⟩
  | 2, _ => exact ⟨fun h => by first | rfl | (revert h; decide), fun h => by first | rfl | (exact absurd rfl h)⟩
  | 3, _ => exact ⟨fun h => by first | rfl | (revert h; decide), fun h => by first | rfl | (exact absurd rfl h)⟩
  | 4, _ => exact ⟨fun h => by first | rfl | (revert h; decide), fun h => by first | rfl | (exact absurd rfl h)⟩
  | 5, _ => exact ⟨fun h => by first | rfl | (revert h; decide), fun h => by first | rfl | (exact absurd rfl h)⟩
  | 6, _ => exact ⟨fun h => by first | rfl | (revert h; decide), fun h => by first | rfl | (exact absurd rfl h)⟩
  | n + 7, h => exact absurd h (by show ¬ n + 7 < 7; omega)
theorem si_RX11_33 : CS mX8_init 0 ∧ mX8_init.2.2.2 = none ∧ mX8_init.2.1.name = "<init>" ∧ Cond.instanceMethod yX8_init ∈ gTbl ∧ (Cond.methodLink RX11 33 yX8_init ∈ gTbl ∨ (RX11, 33, yX8_init) ∈ mnTbl) := ⟨cs_X8_init, rfl, rfl, (gt1 80 rfl rfl), (Or.inr (List.mem_of_getElem? (i := 1) rfl))⟩
theorem so_RX8_3 : Cond.methodLink RX8 3 objectInit ∈ gTbl := (gt1 82 rfl rfl)
theorem sl_RX8_22 : Cond.classLink RX8 22 "[[I" ∈ gTbl := (gt1 83 rfl rfl)
theorem sf_RX8_9 : FL RX8 9 8 0 := ⟨_, rfl, by decide, (gt1 85 rfl rfl), cw_8⟩
theorem sp_RX8_9 : PF RX8 "<init>" 9 8 0 "[B" := ⟨sf_RX8_9, _, rfl, rfl, Or.inr ⟨rfl, rfl, rfl⟩⟩
theorem sf_RX8_15 : FL RX8 15 8 1 := ⟨_, rfl, by decide, (gt1 86 rfl rfl), cw_8⟩
theorem sp_RX8_15 : PF RX8 "<init>" 15 8 1 "[I" := ⟨sf_RX8_15, _, rfl, rfl, Or.inr ⟨rfl, rfl, rfl⟩⟩
theorem sf_RX8_19 : FL RX8 19 8 2 := ⟨_, rfl, by decide, (gt1 87 rfl rfl), cw_8⟩
theorem sp_RX8_19 : PF RX8 "<init>" 19 8 2 "[I" := ⟨sf_RX8_19, _, rfl, rfl, Or.inr ⟨rfl, rfl, rfl⟩⟩
theorem sf_RX8_24 : FL RX8 24 8 3 := ⟨_, rfl, by decide, (gt1 88 rfl rfl), cw_8⟩
theorem sp_RX8_24 : PF RX8 "<init>" 24 8 3 "[[I" := ⟨sf_RX8_24, _, rfl, rfl, Or.inr ⟨rfl, rfl, rfl⟩⟩
theorem sf_RX8_27 : FL RX8 27 8 4 := ⟨_, rfl, by decide, (gt1 89 rfl rfl), cw_8⟩
theorem sp_RX8_27 (nm : String) : PF RX8 nm 27 8 4 "I" := ⟨sf_RX8_27, _, rfl, rfl, Or.inl rfl⟩
theorem sf_RX11_127 : FL RX11 127 8 4 := ⟨_, rfl, by decide, (gt1 90 rfl rfl), cw_8⟩
theorem sp_RX11_127 (nm : String) : PF RX11 nm 127 8 4 "I" := ⟨sf_RX11_127, _, rfl, rfl, Or.inl rfl⟩
theorem sf_RX8_34 : FL RX8 34 8 5 := ⟨_, rfl, by decide, (gt1 91 rfl rfl), cw_8⟩
theorem sp_RX8_34 (nm : String) : PF RX8 nm 34 8 5 "I" := ⟨sf_RX8_34, _, rfl, rfl, Or.inl rfl⟩
theorem sf_RX11_296 : FL RX11 296 8 5 := ⟨_, rfl, by decide, (gt1 92 rfl rfl), cw_8⟩
theorem sp_RX11_296 (nm : String) : PF RX11 nm 296 8 5 "I" := ⟨sf_RX11_296, _, rfl, rfl, Or.inl rfl⟩
theorem sf_RX8_31 : FL RX8 31 8 6 := ⟨_, rfl, by decide, (gt1 93 rfl rfl), cw_8⟩
theorem sp_RX8_31 (nm : String) : PF RX8 nm 31 8 6 "I" := ⟨sf_RX8_31, _, rfl, rfl, Or.inl rfl⟩
theorem sf_RX11_286 : FL RX11 286 8 6 := ⟨_, rfl, by decide, (gt1 94 rfl rfl), cw_8⟩
theorem sp_RX11_286 (nm : String) : PF RX11 nm 286 8 6 "I" := ⟨sf_RX11_286, _, rfl, rfl, Or.inl rfl⟩
theorem sl_RX11_42 : Cond.classLink RX11 42 RX5 ∈ gTbl := (gt1 111 rfl rfl)
theorem sn_RX11_42 : NC RX11 42 5 3 := by
  refine ⟨_, rfl, rfl, sl_RX11_42, (gt1 112 rfl rfl), (gt1 4 rfl rfl), cw_5, fun j hj => ?_⟩
  match j, hj with
  | 0, _ => exact ⟨fun h => by first | rfl | (revert h; decide), fun h => by first | rfl | (exact absurd rfl h)⟩
  | 1, _ => exact ⟨fun h => by first | rfl | (revert h; decide), fun h => by first | rfl | (exact absurd rfl h)⟩
  | 2, _ => exact ⟨fun h => by first | rfl | (revert h; decide), fun h => by first | rfl | (exact absurd rfl h)⟩
  | n + 3, h => exact absurd h (by show ¬ n + 3 < 3; omega)
theorem si_RX11_44 : CS mX5_init 0 ∧ mX5_init.2.2.2 = none ∧ mX5_init.2.1.name = "<init>" ∧ Cond.instanceMethod yX5_init ∈ gTbl ∧ (Cond.methodLink RX11 44 yX5_init ∈ gTbl ∨ (RX11, 44, yX5_init) ∈ mnTbl) := ⟨cs_X5_init, rfl, rfl, (gt1 114 rfl rfl), (Or.inr (List.mem_of_getElem? (i := 2) rfl))⟩
theorem so_RX5_3 : Cond.methodLink RX5 3 objectInit ∈ gTbl := (gt1 116 rfl rfl)
theorem sf_RX5_9 : FL RX5 9 5 0 := ⟨_, rfl, by decide, (gt1 117 rfl rfl), cw_5⟩
theorem sp_RX5_9 : PF RX5 "<init>" 9 5 0 "[I" := ⟨sf_RX5_9, _, rfl, rfl, Or.inr ⟨rfl, rfl, rfl⟩⟩
theorem sf_RX11_179 : FL RX11 179 5 0 := ⟨_, rfl, by decide, (gt1 118 rfl rfl), cw_5⟩
theorem sf_RX5_15 : FL RX5 15 5 1 := ⟨_, rfl, by decide, (gt1 119 rfl rfl), cw_5⟩
theorem sp_RX5_15 : PF RX5 "<init>" 15 5 1 "[I" := ⟨sf_RX5_15, _, rfl, rfl, Or.inr ⟨rfl, rfl, rfl⟩⟩
theorem sf_RX11_181 : FL RX11 181 5 1 := ⟨_, rfl, by decide, (gt1 120 rfl rfl), cw_5⟩
theorem sf_RX5_24 : FL RX5 24 5 2 := ⟨_, rfl, by decide, (gt1 121 rfl rfl), cw_5⟩
theorem sp_RX5_24 (nm : String) : PF RX5 nm 24 5 2 "I" := ⟨sf_RX5_24, _, rfl, rfl, Or.inl rfl⟩
theorem sl_RX11_49 : Cond.classLink RX11 49 RX4 ∈ gTbl := (gt1 129 rfl rfl)
theorem sn_RX11_49 : NC RX11 49 4 6 := by
  refine ⟨_, rfl, rfl, sl_RX11_49, (gt1 130 rfl rfl), (gt1 5 rfl rfl), cw_4, fun j hj => ?_⟩
  match j, hj with
  | 0, _ => exact ⟨fun h => by first | rfl | (revert h; decide), fun h => by first | rfl | (exact absurd rfl h)⟩
  | 1, _ => exact ⟨fun h => by first | rfl | (revert h; decide), fun h => by first | rfl | (exact absurd rfl h)⟩
  | 2, _ => exact ⟨fun h => by first | rfl | (revert h; decide), fun h => by first | rfl | (exact absurd rfl h)⟩
  | 3, _ => exact ⟨fun h => by first | rfl | (revert h; decide), fun h => by first | rfl | (exact absurd rfl h)⟩
  | 4, _ => exact ⟨fun h => by first | rfl | (revert h; decide), fun h => by first | rfl | (exact absurd rfl h)⟩
  | 5, _ => exact ⟨fun h => by first | rfl | (revert h; decide), fun h => by first | rfl | (exact absurd rfl h)⟩
  | n + 6, h => exact absurd h (by show ¬ n + 6 < 6; omega)
theorem si_RX11_51 : CS mX4_init 0 ∧ mX4_init.2.2.2 = none ∧ mX4_init.2.1.name = "<init>" ∧ Cond.instanceMethod yX4_init ∈ gTbl ∧ (Cond.methodLink RX11 51 yX4_init ∈ gTbl ∨ (RX11, 51, yX4_init) ∈ mnTbl) := ⟨cs_X4_init, rfl, rfl, (gt1 132 rfl rfl), (Or.inr (List.mem_of_getElem? (i := 3) rfl))⟩
theorem so_RX4_3 : Cond.methodLink RX4 3 objectInit ∈ gTbl := (gt1 134 rfl rfl)
theorem sl_RX4_21 : Cond.classLink RX4 21 "[[I" ∈ gTbl := (gt1 135 rfl rfl)
theorem sf_RX4_9 : FL RX4 9 4 0 := ⟨_, rfl, by decide, (gt1 136 rfl rfl), cw_4⟩
theorem sp_RX4_9 : PF RX4 "<init>" 9 4 0 "[I" := ⟨sf_RX4_9, _, rfl, rfl, Or.inr ⟨rfl, rfl, rfl⟩⟩
theorem sf_RX4_15 : FL RX4 15 4 1 := ⟨_, rfl, by decide, (gt1 137 rfl rfl), cw_4⟩
theorem sp_RX4_15 : PF RX4 "<init>" 15 4 1 "[I" := ⟨sf_RX4_15, _, rfl, rfl, Or.inr ⟨rfl, rfl, rfl⟩⟩
theorem sf_RX4_18 : FL RX4 18 4 2 := ⟨_, rfl, by decide, (gt1 138 rfl rfl), cw_4⟩
theorem sp_RX4_18 : PF RX4 "<init>" 18 4 2 "[I" := ⟨sf_RX4_18, _, rfl, rfl, Or.inr ⟨rfl, rfl, rfl⟩⟩
theorem sf_RX11_211 : FL RX11 211 4 2 := ⟨_, rfl, by decide, (gt1 139 rfl rfl), cw_4⟩
theorem sf_RX4_23 : FL RX4 23 4 3 := ⟨_, rfl, by decide, (gt1 140 rfl rfl), cw_4⟩
theorem sp_RX4_23 : PF RX4 "<init>" 23 4 3 "[[I" := ⟨sf_RX4_23, _, rfl, rfl, Or.inr ⟨rfl, rfl, rfl⟩⟩
theorem sf_RX4_26 : FL RX4 26 4 4 := ⟨_, rfl, by decide, (gt1 141 rfl rfl), cw_4⟩
theorem sp_RX4_26 : PF RX4 "<init>" 26 4 4 "[I" := ⟨sf_RX4_26, _, rfl, rfl, Or.inr ⟨rfl, rfl, rfl⟩⟩
theorem sf_RX4_39 : FL RX4 39 4 5 := ⟨_, rfl, by decide, (gt1 142 rfl rfl), cw_4⟩
theorem sp_RX4_39 (nm : String) : PF RX4 nm 39 4 5 "I" := ⟨sf_RX4_39, _, rfl, rfl, Or.inl rfl⟩
theorem sf_RX11_352 : FL RX11 352 4 5 := ⟨_, rfl, by decide, (gt1 143 rfl rfl), cw_4⟩
theorem sp_RX11_352 (nm : String) : PF RX11 nm 352 4 5 "I" := ⟨sf_RX11_352, _, rfl, rfl, Or.inl rfl⟩
theorem sl_RX11_56 : Cond.classLink RX11 56 RX1 ∈ gTbl := (gt1 157 rfl rfl)
theorem sn_RX11_56 : NC RX11 56 1 2 := by
  refine ⟨_, rfl, rfl, sl_RX11_56, (gt1 158 rfl rfl), (gt1 6 rfl rfl), cw_1, fun j hj => ?_⟩
  match j, hj with
  | 0, _ => exact ⟨fun h => by first | rfl | (revert h; decide), fun h => by first | rfl | (exact absurd rfl h)⟩
  | 1, _ => exact ⟨fun h => by first | rfl | (revert h; decide), fun h => by first | rfl | (exact absurd rfl h)⟩
  | n + 2, h => exact absurd h (by show ¬ n + 2 < 2; omega)
theorem si_RX11_58 : CS mX1_init 0 ∧ mX1_init.2.2.2 = none ∧ mX1_init.2.1.name = "<init>" ∧ Cond.instanceMethod yX1_init ∈ gTbl ∧ (Cond.methodLink RX11 58 yX1_init ∈ gTbl ∨ (RX11, 58, yX1_init) ∈ mnTbl) := ⟨cs_X1_init, rfl, rfl, (gt1 160 rfl rfl), (Or.inr (List.mem_of_getElem? (i := 4) rfl))⟩
theorem so_RX1_3 : Cond.methodLink RX1 3 objectInit ∈ gTbl := (gt1 162 rfl rfl)
theorem sf_RX1_9 : FL RX1 9 1 0 := ⟨_, rfl, by decide, (gt1 163 rfl rfl), cw_1⟩
theorem sp_RX1_9 : PF RX1 "<init>" 9 1 0 "[I" := ⟨sf_RX1_9, _, rfl, rfl, Or.inr ⟨rfl, rfl, rfl⟩⟩
theorem sf_RX11_390 : FL RX11 390 1 0 := ⟨_, rfl, by decide, (gt1 164 rfl rfl), cw_1⟩
theorem sf_RX1_15 : FL RX1 15 1 1 := ⟨_, rfl, by decide, (gt1 165 rfl rfl), cw_1⟩
theorem sp_RX1_15 : PF RX1 "<init>" 15 1 1 "[I" := ⟨sf_RX1_15, _, rfl, rfl, Or.inr ⟨rfl, rfl, rfl⟩⟩
theorem sf_RX11_241 : FL RX11 241 1 1 := ⟨_, rfl, by decide, (gt1 166 rfl rfl), cw_1⟩
theorem sl_RX11_63 : Cond.classLink RX11 63 RX2 ∈ gTbl := (gt1 172 rfl rfl)
theorem sn_RX11_63 : NC RX11 63 2 6 := by
  refine ⟨_, rfl, rfl, sl_RX11_63, (gt1 173 rfl rfl), (gt1 7 rfl rfl), cw_2, fun j hj => ?_⟩
  match j, hj with
  | 0, _ => exact ⟨fun h => by first | rfl | (revert h; decide), fun h => by first | rfl | (exact absurd rfl h)⟩
  | 1, _ => exact ⟨fun h => by first | rfl | (revert h; decide), fun h => by first | rfl | (exact absurd rfl h)⟩
  | 2, _ => exact ⟨fun h => by first | rfl | (revert h; decide), fun h => by first | rfl | (exact absurd rfl h)⟩
  | 3, _ => exact ⟨fun h => by first | rfl | (revert h; decide), fun h => by first | rfl | (exact absurd rfl h)⟩
  | 4, _ => exact ⟨fun h => by first | rfl | (revert h; decide), fun h => by first | rfl | (exact absurd rfl h)⟩
  | 5, _ => exact ⟨fun h => by first | rfl | (revert h; decide), fun h => by first | rfl | (exact absurd rfl h)⟩
  | n + 6, h => exact absurd h (by show ¬ n + 6 < 6; omega)
theorem si_RX11_65 : CS mX2_init 0 ∧ mX2_init.2.2.2 = none ∧ mX2_init.2.1.name = "<init>" ∧ Cond.instanceMethod yX2_init ∈ gTbl ∧ (Cond.methodLink RX11 65 yX2_init ∈ gTbl ∨ (RX11, 65, yX2_init) ∈ mnTbl) := ⟨cs_X2_init, rfl, rfl, (gt1 175 rfl rfl), (Or.inr (List.mem_of_getElem? (i := 5) rfl))⟩
theorem so_RX2_3 : Cond.methodLink RX2 3 objectInit ∈ gTbl := (gt1 177 rfl rfl)
theorem sf_RX2_9 : FL RX2 9 2 0 := ⟨_, rfl, by decide, (gt1 178 rfl rfl), cw_2⟩
theorem sp_RX2_9 : PF RX2 "<init>" 9 2 0 "[I" := ⟨sf_RX2_9, _, rfl, rfl, Or.inr ⟨rfl, rfl, rfl⟩⟩
theorem sf_RX2_15 : FL RX2 15 2 1 := ⟨_, rfl, by decide, (gt1 179 rfl rfl), cw_2⟩
theorem sp_RX2_15 : PF RX2 "<init>" 15 2 1 "[I" := ⟨sf_RX2_15, _, rfl, rfl, Or.inr ⟨rfl, rfl, rfl⟩⟩
theorem sf_RX2_18 : FL RX2 18 2 2 := ⟨_, rfl, by decide, (gt1 180 rfl rfl), cw_2⟩
theorem sp_RX2_18 : PF RX2 "<init>" 18 2 2 "[I" := ⟨sf_RX2_18, _, rfl, rfl, Or.inr ⟨rfl, rfl, rfl⟩⟩
theorem sf_RX2_21 : FL RX2 21 2 3 := ⟨_, rfl, by decide, (gt1 181 rfl rfl), cw_2⟩
theorem sp_RX2_21 : PF RX2 "<init>" 21 2 3 "[I" := ⟨sf_RX2_21, _, rfl, rfl, Or.inr ⟨rfl, rfl, rfl⟩⟩
theorem sf_RX2_33 : FL RX2 33 2 4 := ⟨_, rfl, by decide, (gt1 182 rfl rfl), cw_2⟩
theorem sp_RX2_33 (nm : String) : PF RX2 nm 33 2 4 "I" := ⟨sf_RX2_33, _, rfl, rfl, Or.inl rfl⟩
theorem sf_RX2_24 : FL RX2 24 2 5 := ⟨_, rfl, by decide, (gt1 183 rfl rfl), cw_2⟩
theorem sp_RX2_24 (nm : String) : PF RX2 nm 24 2 5 "I" := ⟨sf_RX2_24, _, rfl, rfl, Or.inl rfl⟩
theorem sf_RX11_12 : FL RX11 12 10 0 := ⟨_, rfl, by decide, (gt1 197 rfl rfl), cw_10⟩
theorem sp_RX11_12 : PF RX11 "<init>" 12 10 0 "LHoopYard$Stock;" := ⟨sf_RX11_12, _, rfl, rfl, Or.inr ⟨rfl, rfl, rfl⟩⟩
theorem sf_RX11_18 : FL RX11 18 10 1 := ⟨_, rfl, by decide, (gt1 198 rfl rfl), cw_10⟩
theorem sp_RX11_18 : PF RX11 "<init>" 18 10 1 "LHoopYard$Stock;" := ⟨sf_RX11_18, _, rfl, rfl, Or.inr ⟨rfl, rfl, rfl⟩⟩
theorem sf_RX11_21 : FL RX11 21 10 2 := ⟨_, rfl, by decide, (gt1 199 rfl rfl), cw_10⟩
theorem sp_RX11_21 (nm : String) : PF RX11 nm 21 10 2 "Z" := ⟨sf_RX11_21, _, rfl, rfl, Or.inl rfl⟩
theorem sf_RX11_27 : FL RX11 27 10 3 := ⟨_, rfl, by decide, (gt1 200 rfl rfl), cw_10⟩
theorem sp_RX11_27 : PF RX11 "<init>" 27 10 3 "[LHoopYard$Thing;" := ⟨sf_RX11_27, _, rfl, rfl, Or.inr ⟨rfl, rfl, rfl⟩⟩
theorem sf_RX11_34 : FL RX11 34 10 4 := ⟨_, rfl, by decide, (gt1 201 rfl rfl), cw_10⟩
theorem sp_RX11_34 : PF RX11 "<init>" 34 10 4 "LHoopYard$Tape;" := ⟨sf_RX11_34, _, rfl, rfl, Or.inr ⟨rfl, rfl, rfl⟩⟩
theorem sf_RX11_38 : FL RX11 38 10 5 := ⟨_, rfl, by decide, (gt1 202 rfl rfl), cw_10⟩
theorem sp_RX11_38 (nm : String) : PF RX11 nm 38 10 5 "I" := ⟨sf_RX11_38, _, rfl, rfl, Or.inl rfl⟩
theorem sf_RX11_45 : FL RX11 45 10 6 := ⟨_, rfl, by decide, (gt1 203 rfl rfl), cw_10⟩
theorem sp_RX11_45 : PF RX11 "<init>" 45 10 6 "LHoopYard$Rounds;" := ⟨sf_RX11_45, _, rfl, rfl, Or.inr ⟨rfl, rfl, rfl⟩⟩
theorem sf_RX11_52 : FL RX11 52 10 7 := ⟨_, rfl, by decide, (gt1 204 rfl rfl), cw_10⟩
theorem sp_RX11_52 : PF RX11 "<init>" 52 10 7 "LHoopYard$RingBench;" := ⟨sf_RX11_52, _, rfl, rfl, Or.inr ⟨rfl, rfl, rfl⟩⟩
theorem sf_RX11_59 : FL RX11 59 10 8 := ⟨_, rfl, by decide, (gt1 205 rfl rfl), cw_10⟩
theorem sp_RX11_59 : PF RX11 "<init>" 59 10 8 "LHoopYard$Cask;" := ⟨sf_RX11_59, _, rfl, rfl, Or.inr ⟨rfl, rfl, rfl⟩⟩
theorem sf_RX11_66 : FL RX11 66 10 9 := ⟨_, rfl, by decide, (gt1 206 rfl rfl), cw_10⟩
theorem sp_RX11_66 : PF RX11 "<init>" 66 10 9 "LHoopYard$HeadBench;" := ⟨sf_RX11_66, _, rfl, rfl, Or.inr ⟨rfl, rfl, rfl⟩⟩
theorem sv_RL_13 : CS mX11_stave 4 ∧ Cond.instanceMethod yX11_stave ∈ gTbl ∧ Cond.methodLink RL 13 yX11_stave ∈ gTbl ∧ Cond.selects yX11_stave.cls yX11_stave yX11_stave ∈ gTbl ∧ ∃ r, vwCl[10]? = some r ∧ r.1 = yX11_stave.cls := ⟨cs_X11_stave, (gt1 229 rfl rfl), (gt1 228 rfl rfl), (gt1 230 rfl rfl), _, rfl, rfl⟩
theorem ss_RX11_70 : CS mX6_canBe 4 ∧ Cond.static yX6_canBe ∈ gTbl ∧ (Cond.methodLink RX11 70 yX6_canBe ∈ gTbl ∨ (RX11, 70, yX6_canBe) ∈ mnTbl) := ⟨cs_X6_canBe, (gt1 233 rfl rfl), (Or.inl (gt1 232 rfl rfl))⟩
theorem ss_RX6_22 : CS mX11_isIn 3 ∧ Cond.static yX11_isIn ∈ gTbl ∧ (Cond.methodLink RX6 22 yX11_isIn ∈ gTbl ∨ (RX6, 22, yX11_isIn) ∈ mnTbl) := ⟨cs_X11_isIn, (gt1 236 rfl rfl), (Or.inr (List.mem_of_getElem? (i := 6) rfl))⟩
theorem sl_RX11_71 : Cond.classLink RX11 71 RX6 ∈ gTbl := (gt1 238 rfl rfl)
theorem sn_RX11_71 : NC RX11 71 6 4 := by
  refine ⟨_, rfl, rfl, sl_RX11_71, (gt1 239 rfl rfl), (gt1 10 rfl rfl), cw_6, fun j hj => ?_⟩
  match j, hj with
  | 0, _ => exact ⟨fun h => by first | rfl | (revert h; decide), fun h => by first | rfl | (exact absurd rfl h)⟩
  | 1, _ => exact ⟨fun h => by first | rfl | (revert h; decide), fun h => by first | rfl | (exact absurd rfl h)⟩
  | 2, _ => exact ⟨fun h => by first | rfl | (revert h; decide), fun h => by first | rfl | (exact absurd rfl h)⟩
  | 3, _ => exact ⟨fun h => by first | rfl | (revert h; decide), fun h => by first | rfl | (exact absurd rfl h)⟩
  | n + 4, h => exact absurd h (by show ¬ n + 4 < 4; omega)
theorem si_RX11_76 : CS mX6_init 4 ∧ mX6_init.2.2.2 = none ∧ mX6_init.2.1.name = "<init>" ∧ Cond.instanceMethod yX6_init ∈ gTbl ∧ (Cond.methodLink RX11 76 yX6_init ∈ gTbl ∨ (RX11, 76, yX6_init) ∈ mnTbl) := ⟨cs_X6_init, rfl, rfl, (gt2 1 rfl rfl), (Or.inl (gt2 0 rfl rfl))⟩
theorem si_RX6_1 : CS mX9_init 0 ∧ mX9_init.2.2.2 = none ∧ mX9_init.2.1.name = "<init>" ∧ Cond.instanceMethod yX9_init ∈ gTbl ∧ (Cond.methodLink RX6 1 yX9_init ∈ gTbl ∨ (RX6, 1, yX9_init) ∈ mnTbl) := ⟨cs_X9_init, rfl, rfl, (gt2 4 rfl rfl), (Or.inr (List.mem_of_getElem? (i := 7) rfl))⟩
theorem so_RX9_1 : Cond.methodLink RX9 1 objectInit ∈ gTbl := (gt2 6 rfl rfl)
theorem sf_RX6_7 : FL RX6 7 6 0 := ⟨_, rfl, by decide, (gt2 7 rfl rfl), cw_6⟩
theorem sp_RX6_7 : PF RX6 "<init>" 7 6 0 "I" := ⟨sf_RX6_7, _, rfl, rfl, Or.inr ⟨rfl, rfl, rfl⟩⟩
theorem sf_RX11_134 : FL RX11 134 6 0 := ⟨_, rfl, by decide, (gt2 8 rfl rfl), cw_6⟩
theorem sf_RX6_13 : FL RX6 13 6 1 := ⟨_, rfl, by decide, (gt2 9 rfl rfl), cw_6⟩
theorem sp_RX6_13 (nm : String) : PF RX6 nm 13 6 1 "I" := ⟨sf_RX6_13, _, rfl, rfl, Or.inl rfl⟩
theorem sf_RX11_137 : FL RX11 137 6 1 := ⟨_, rfl, by decide, (gt2 10 rfl rfl), cw_6⟩
theorem sp_RX11_137 (nm : String) : PF RX11 nm 137 6 1 "I" := ⟨sf_RX11_137, _, rfl, rfl, Or.inl rfl⟩
theorem sf_RX6_16 : FL RX6 16 6 2 := ⟨_, rfl, by decide, (gt2 11 rfl rfl), cw_6⟩
theorem sp_RX6_16 : PF RX6 "<init>" 16 6 2 "I" := ⟨sf_RX6_16, _, rfl, rfl, Or.inr ⟨rfl, rfl, rfl⟩⟩
theorem sf_RX11_140 : FL RX11 140 6 2 := ⟨_, rfl, by decide, (gt2 12 rfl rfl), cw_6⟩
theorem sf_RX6_19 : FL RX6 19 6 3 := ⟨_, rfl, by decide, (gt2 13 rfl rfl), cw_6⟩
theorem sp_RX6_19 : PF RX6 "<init>" 19 6 3 "I" := ⟨sf_RX6_19, _, rfl, rfl, Or.inr ⟨rfl, rfl, rfl⟩⟩
theorem sf_RX11_143 : FL RX11 143 6 3 := ⟨_, rfl, by decide, (gt2 14 rfl rfl), cw_6⟩
theorem sv_RX11_79 : CS mX7_addStave 1 ∧ Cond.instanceMethod yX7_addStave ∈ gTbl ∧ Cond.methodLink RX11 79 yX7_addStave ∈ gTbl ∧ Cond.selects yX7_addStave.cls yX7_addStave yX7_addStave ∈ gTbl ∧ ∃ r, vwCl[7]? = some r ∧ r.1 = yX7_addStave.cls := ⟨cs_X7_addStave, (gt2 25 rfl rfl), (gt2 24 rfl rfl), (gt2 26 rfl rfl), _, rfl, rfl⟩
theorem sv_RL_18 : CS mX11_hoop 3 ∧ Cond.instanceMethod yX11_hoop ∈ gTbl ∧ Cond.methodLink RL 18 yX11_hoop ∈ gTbl ∧ Cond.selects yX11_hoop.cls yX11_hoop yX11_hoop ∈ gTbl ∧ ∃ r, vwCl[10]? = some r ∧ r.1 = yX11_hoop.cls := ⟨cs_X11_hoop, (gt2 29 rfl rfl), (gt2 28 rfl rfl), (gt2 30 rfl rfl), _, rfl, rfl⟩
theorem ss_RX11_83 : CS mX3_canBe 3 ∧ Cond.static yX3_canBe ∈ gTbl ∧ (Cond.methodLink RX11 83 yX3_canBe ∈ gTbl ∨ (RX11, 83, yX3_canBe) ∈ mnTbl) := ⟨cs_X3_canBe, (gt2 33 rfl rfl), (Or.inl (gt2 32 rfl rfl))⟩
theorem ss_RX3_21 : CS mX11_isIn 3 ∧ Cond.static yX11_isIn ∈ gTbl ∧ (Cond.methodLink RX3 21 yX11_isIn ∈ gTbl ∨ (RX3, 21, yX11_isIn) ∈ mnTbl) := ⟨cs_X11_isIn, (gt1 236 rfl rfl), (Or.inr (List.mem_of_getElem? (i := 8) rfl))⟩
theorem sl_RX11_84 : Cond.classLink RX11 84 RX3 ∈ gTbl := (gt2 36 rfl rfl)
theorem sn_RX11_84 : NC RX11 84 3 3 := by
  refine ⟨_, rfl, rfl, sl_RX11_84, (gt2 37 rfl rfl), (gt1 11 rfl rfl), cw_3, fun j hj => ?_⟩
  match j, hj with
  | 0, _ => exact ⟨fun h => by first | rfl | (revert h; decide), fun h => by first | rfl | (exact absurd rfl h)⟩
  | 1, _ => exact ⟨fun h => by first | rfl | (revert h; decide), fun h => by first | rfl | (exact absurd rfl h)⟩
  | 2, _ => exact ⟨fun h => by first | rfl | (revert h; decide), fun h => by first | rfl | (exact absurd rfl h)⟩
  | n + 3, h => exact absurd h (by show ¬ n + 3 < 3; omega)
theorem si_RX11_88 : CS mX3_init 3 ∧ mX3_init.2.2.2 = none ∧ mX3_init.2.1.name = "<init>" ∧ Cond.instanceMethod yX3_init ∈ gTbl ∧ (Cond.methodLink RX11 88 yX3_init ∈ gTbl ∨ (RX11, 88, yX3_init) ∈ mnTbl) := ⟨cs_X3_init, rfl, rfl, (gt2 39 rfl rfl), (Or.inl (gt2 38 rfl rfl))⟩
theorem si_RX3_3 : CS mX9_init 0 ∧ mX9_init.2.2.2 = none ∧ mX9_init.2.1.name = "<init>" ∧ Cond.instanceMethod yX9_init ∈ gTbl ∧ (Cond.methodLink RX3 3 yX9_init ∈ gTbl ∨ (RX3, 3, yX9_init) ∈ mnTbl) := ⟨cs_X9_init, rfl, rfl, (gt2 4 rfl rfl), (Or.inr (List.mem_of_getElem? (i := 9) rfl))⟩
theorem sf_RX3_9 : FL RX3 9 3 0 := ⟨_, rfl, by decide, (gt2 42 rfl rfl), cw_3⟩
theorem sp_RX3_9 : PF RX3 "<init>" 9 3 0 "I" := ⟨sf_RX3_9, _, rfl, rfl, Or.inr ⟨rfl, rfl, rfl⟩⟩
theorem sf_RX1_70 : FL RX1 70 3 0 := ⟨_, rfl, by decide, (gt2 43 rfl rfl), cw_3⟩
theorem sf_RX11_229 : FL RX11 229 3 0 := ⟨_, rfl, by decide, (gt2 44 rfl rfl), cw_3⟩
theorem sf_RX3_15 : FL RX3 15 3 1 := ⟨_, rfl, by decide, (gt2 45 rfl rfl), cw_3⟩
theorem sp_RX3_15 : PF RX3 "<init>" 15 3 1 "I" := ⟨sf_RX3_15, _, rfl, rfl, Or.inr ⟨rfl, rfl, rfl⟩⟩
theorem sf_RX1_47 : FL RX1 47 3 1 := ⟨_, rfl, by decide, (gt2 46 rfl rfl), cw_3⟩
theorem sf_RX11_230 : FL RX11 230 3 1 := ⟨_, rfl, by decide, (gt2 47 rfl rfl), cw_3⟩
theorem sf_RX3_18 : FL RX3 18 3 2 := ⟨_, rfl, by decide, (gt2 48 rfl rfl), cw_3⟩
theorem sp_RX3_18 : PF RX3 "<init>" 18 3 2 "I" := ⟨sf_RX3_18, _, rfl, rfl, Or.inr ⟨rfl, rfl, rfl⟩⟩
theorem sf_RX1_52 : FL RX1 52 3 2 := ⟨_, rfl, by decide, (gt2 49 rfl rfl), cw_3⟩
theorem sf_RX11_231 : FL RX11 231 3 2 := ⟨_, rfl, by decide, (gt2 50 rfl rfl), cw_3⟩
theorem sv_RX11_91 : CS mX7_addHoop 1 ∧ Cond.instanceMethod yX7_addHoop ∈ gTbl ∧ Cond.methodLink RX11 91 yX7_addHoop ∈ gTbl ∧ Cond.selects yX7_addHoop.cls yX7_addHoop yX7_addHoop ∈ gTbl ∧ ∃ r, vwCl[7]? = some r ∧ r.1 = yX7_addHoop.cls := ⟨cs_X7_addHoop, (gt2 59 rfl rfl), (gt2 58 rfl rfl), (gt2 60 rfl rfl), _, rfl, rfl⟩
theorem sv_RL_23 : CS mX11_board 1 ∧ Cond.instanceMethod yX11_board ∈ gTbl ∧ Cond.methodLink RL 23 yX11_board ∈ gTbl ∧ Cond.selects yX11_board.cls yX11_board yX11_board ∈ gTbl ∧ ∃ r, vwCl[10]? = some r ∧ r.1 = yX11_board.cls := ⟨cs_X11_board, (gt2 63 rfl rfl), (gt2 62 rfl rfl), (gt2 64 rfl rfl), _, rfl, rfl⟩
theorem ss_RX11_95 : CS mX0_canBe 1 ∧ Cond.static yX0_canBe ∈ gTbl ∧ (Cond.methodLink RX11 95 yX0_canBe ∈ gTbl ∨ (RX11, 95, yX0_canBe) ∈ mnTbl) := ⟨cs_X0_canBe, (gt2 67 rfl rfl), (Or.inl (gt2 66 rfl rfl))⟩
theorem ss_RX0_13 : CS mX11_isIn 3 ∧ Cond.static yX11_isIn ∈ gTbl ∧ (Cond.methodLink RX0 13 yX11_isIn ∈ gTbl ∨ (RX0, 13, yX11_isIn) ∈ mnTbl) := ⟨cs_X11_isIn, (gt1 236 rfl rfl), (Or.inr (List.mem_of_getElem? (i := 10) rfl))⟩
theorem sl_RX11_96 : Cond.classLink RX11 96 RX0 ∈ gTbl := (gt2 70 rfl rfl)
theorem sn_RX11_96 : NC RX11 96 0 1 := by
  refine ⟨_, rfl, rfl, sl_RX11_96, (gt2 71 rfl rfl), (gt1 12 rfl rfl), cw_0, fun j hj => ?_⟩
  match j, hj with
  | 0, _ => exact ⟨fun h => by first | rfl | (revert h; decide), fun h => by first | rfl | (exact absurd rfl h)⟩
  | n + 1, h => exact absurd h (by show ¬ n + 1 < 1; omega)
theorem si_RX11_100 : CS mX0_init 1 ∧ mX0_init.2.2.2 = none ∧ mX0_init.2.1.name = "<init>" ∧ Cond.instanceMethod yX0_init ∈ gTbl ∧ (Cond.methodLink RX11 100 yX0_init ∈ gTbl ∨ (RX11, 100, yX0_init) ∈ mnTbl) := ⟨cs_X0_init, rfl, rfl, (gt2 73 rfl rfl), (Or.inl (gt2 72 rfl rfl))⟩
theorem si_RX0_1 : CS mX9_init 0 ∧ mX9_init.2.2.2 = none ∧ mX9_init.2.1.name = "<init>" ∧ Cond.instanceMethod yX9_init ∈ gTbl ∧ (Cond.methodLink RX0 1 yX9_init ∈ gTbl ∨ (RX0, 1, yX9_init) ∈ mnTbl) := ⟨cs_X9_init, rfl, rfl, (gt2 4 rfl rfl), (Or.inr (List.mem_of_getElem? (i := 11) rfl))⟩
theorem sf_RX0_7 : FL RX0 7 0 0 := ⟨_, rfl, by decide, (gt2 76 rfl rfl), cw_0⟩
theorem sp_RX0_7 : PF RX0 "<init>" 7 0 0 "I" := ⟨sf_RX0_7, _, rfl, rfl, Or.inr ⟨rfl, rfl, rfl⟩⟩
theorem sf_RX2_40 : FL RX2 40 0 0 := ⟨_, rfl, by decide, (gt2 77 rfl rfl), cw_0⟩
theorem sf_RX11_327 : FL RX11 327 0 0 := ⟨_, rfl, by decide, (gt2 78 rfl rfl), cw_0⟩
theorem sv_RX11_103 : CS mX7_addBoard 1 ∧ Cond.instanceMethod yX7_addBoard ∈ gTbl ∧ Cond.methodLink RX11 103 yX7_addBoard ∈ gTbl ∧ Cond.selects yX7_addBoard.cls yX7_addBoard yX7_addBoard ∈ gTbl ∧ ∃ r, vwCl[7]? = some r ∧ r.1 = yX7_addBoard.cls := ⟨cs_X7_addBoard, (gt2 83 rfl rfl), (gt2 82 rfl rfl), (gt2 84 rfl rfl), _, rfl, rfl⟩
theorem sv_RL_28 : CS mX11_rule 2 ∧ Cond.instanceMethod yX11_rule ∈ gTbl ∧ Cond.methodLink RL 28 yX11_rule ∈ gTbl ∧ Cond.selects yX11_rule.cls yX11_rule yX11_rule ∈ gTbl ∧ ∃ r, vwCl[10]? = some r ∧ r.1 = yX11_rule.cls := ⟨cs_X11_rule, (gt2 87 rfl rfl), (gt2 86 rfl rfl), (gt2 88 rfl rfl), _, rfl, rfl⟩
theorem ss_RX11_107 : CS mX11_isIn 3 ∧ Cond.static yX11_isIn ∈ gTbl ∧ (Cond.methodLink RX11 107 yX11_isIn ∈ gTbl ∨ (RX11, 107, yX11_isIn) ∈ mnTbl) := ⟨cs_X11_isIn, (gt1 236 rfl rfl), (Or.inl (gt2 90 rfl rfl))⟩
theorem ss_RX11_110 : CS mX11_canRule 2 ∧ Cond.static yX11_canRule ∈ gTbl ∧ (Cond.methodLink RX11 110 yX11_canRule ∈ gTbl ∨ (RX11, 110, yX11_canRule) ∈ mnTbl) := ⟨cs_X11_canRule, (gt2 92 rfl rfl), (Or.inl (gt2 91 rfl rfl))⟩
theorem sg_RX11_373 : Cond.fieldLink RX11 373 RX11 "LEAST_RULE" "[I" ∈ gTbl := (gt2 94 rfl rfl)
theorem sg_RX11_376 : Cond.fieldLink RX11 376 RX11 "MOST_RULE" "[I" ∈ gTbl := (gt2 96 rfl rfl)
theorem sv_RL_33 : CS mX11_told 1 ∧ Cond.instanceMethod yX11_told ∈ gTbl ∧ Cond.methodLink RL 33 yX11_told ∈ gTbl ∧ Cond.selects yX11_told.cls yX11_told yX11_told ∈ gTbl ∧ ∃ r, vwCl[10]? = some r ∧ r.1 = yX11_told.cls := ⟨cs_X11_told, (gt2 99 rfl rfl), (gt2 98 rfl rfl), (gt2 100 rfl rfl), _, rfl, rfl⟩
theorem sv_RL_37 : CS mX11_ofStave 2 ∧ Cond.instanceMethod yX11_ofStave ∈ gTbl ∧ Cond.methodLink RL 37 yX11_ofStave ∈ gTbl ∧ Cond.selects yX11_ofStave.cls yX11_ofStave yX11_ofStave ∈ gTbl ∧ ∃ r, vwCl[10]? = some r ∧ r.1 = yX11_ofStave.cls := ⟨cs_X11_ofStave, (gt2 103 rfl rfl), (gt2 102 rfl rfl), (gt2 104 rfl rfl), _, rfl, rfl⟩
theorem sv_RX11_130 : CS mX7_staveAt 1 ∧ Cond.instanceMethod yX7_staveAt ∈ gTbl ∧ Cond.methodLink RX11 130 yX7_staveAt ∈ gTbl ∧ Cond.selects yX7_staveAt.cls yX7_staveAt yX7_staveAt ∈ gTbl ∧ ∃ r, vwCl[7]? = some r ∧ r.1 = yX7_staveAt.cls := ⟨cs_X7_staveAt, (gt2 107 rfl rfl), (gt2 106 rfl rfl), (gt2 108 rfl rfl), _, rfl, rfl⟩
theorem sv_RX11_146 : CS mX6_counts 0 ∧ Cond.instanceMethod yX6_counts ∈ gTbl ∧ Cond.methodLink RX11 146 yX6_counts ∈ gTbl ∧ Cond.selects yX6_counts.cls yX6_counts yX6_counts ∈ gTbl ∧ ∃ r, vwCl[6]? = some r ∧ r.1 = yX6_counts.cls := ⟨cs_X6_counts, (gt2 111 rfl rfl), (gt2 110 rfl rfl), (gt2 112 rfl rfl), _, rfl, rfl⟩
theorem sm_RX6_31 : Cond.methodLink RX6 31 yJ9_max_7cf53 ∈ gTbl := (gt2 114 rfl rfl)
theorem ss_RX6_31 : CS mJ9_max_7cf53 2 ∧ Cond.static yJ9_max_7cf53 ∈ gTbl ∧ (Cond.methodLink RX6 31 yJ9_max_7cf53 ∈ gTbl ∨ (RX6, 31, yJ9_max_7cf53) ∈ mnTbl) := ⟨cs_J9_max_7cf53, (gt2 115 rfl rfl), (Or.inl (gt2 114 rfl rfl))⟩
theorem sv_RX11_150 : CS mX6_edge 0 ∧ Cond.instanceMethod yX6_edge ∈ gTbl ∧ Cond.methodLink RX11 150 yX6_edge ∈ gTbl ∧ Cond.selects yX6_edge.cls yX6_edge yX6_edge ∈ gTbl ∧ ∃ r, vwCl[6]? = some r ∧ r.1 = yX6_edge.cls := ⟨cs_X6_edge, (gt2 118 rfl rfl), (gt2 117 rfl rfl), (gt2 119 rfl rfl), _, rfl, rfl⟩
theorem sv_RX11_153 : CS mX6_price 0 ∧ Cond.instanceMethod yX6_price ∈ gTbl ∧ Cond.methodLink RX11 153 yX6_price ∈ gTbl ∧ Cond.selects yX6_price.cls yX6_price yX6_price ∈ gTbl ∧ ∃ r, vwCl[6]? = some r ∧ r.1 = yX6_price.cls := ⟨cs_X6_price, (gt2 122 rfl rfl), (gt2 121 rfl rfl), (gt2 123 rfl rfl), _, rfl, rfl⟩
theorem ss_RX11_156 : CS mX11_sagOf 2 ∧ Cond.static yX11_sagOf ∈ gTbl ∧ (Cond.methodLink RX11 156 yX11_sagOf ∈ gTbl ∨ (RX11, 156, yX11_sagOf) ∈ mnTbl) := ⟨cs_X11_sagOf, (gt2 126 rfl rfl), (Or.inl (gt2 125 rfl rfl))⟩
theorem ss_RX11_384 : CS mX11_rootOf 1 ∧ Cond.static yX11_rootOf ∈ gTbl ∧ (Cond.methodLink RX11 384 yX11_rootOf ∈ gTbl ∨ (RX11, 384, yX11_rootOf) ∈ mnTbl) := ⟨cs_X11_rootOf, (gt2 129 rfl rfl), (Or.inl (gt2 128 rfl rfl))⟩
theorem sv_RL_41 : CS mX11_takes 1 ∧ Cond.instanceMethod yX11_takes ∈ gTbl ∧ Cond.methodLink RL 41 yX11_takes ∈ gTbl ∧ Cond.selects yX11_takes.cls yX11_takes yX11_takes ∈ gTbl ∧ ∃ r, vwCl[10]? = some r ∧ r.1 = yX11_takes.cls := ⟨cs_X11_takes, (gt2 132 rfl rfl), (gt2 131 rfl rfl), (gt2 133 rfl rfl), _, rfl, rfl⟩
theorem sv_RX11_160 : CS mX7_dropStave 0 ∧ Cond.instanceMethod yX7_dropStave ∈ gTbl ∧ Cond.methodLink RX11 160 yX7_dropStave ∈ gTbl ∧ Cond.selects yX7_dropStave.cls yX7_dropStave yX7_dropStave ∈ gTbl ∧ ∃ r, vwCl[7]? = some r ∧ r.1 = yX7_dropStave.cls := ⟨cs_X7_dropStave, (gt2 136 rfl rfl), (gt2 135 rfl rfl), (gt2 137 rfl rfl), _, rfl, rfl⟩
theorem sv_RX11_163 : CS mX7_dropHoop 0 ∧ Cond.instanceMethod yX7_dropHoop ∈ gTbl ∧ Cond.methodLink RX11 163 yX7_dropHoop ∈ gTbl ∧ Cond.selects yX7_dropHoop.cls yX7_dropHoop yX7_dropHoop ∈ gTbl ∧ ∃ r, vwCl[7]? = some r ∧ r.1 = yX7_dropHoop.cls := ⟨cs_X7_dropHoop, (gt2 140 rfl rfl), (gt2 139 rfl rfl), (gt2 141 rfl rfl), _, rfl, rfl⟩
theorem sv_RX11_166 : CS mX7_dropBoard 0 ∧ Cond.instanceMethod yX7_dropBoard ∈ gTbl ∧ Cond.methodLink RX11 166 yX7_dropBoard ∈ gTbl ∧ Cond.selects yX7_dropBoard.cls yX7_dropBoard yX7_dropBoard ∈ gTbl ∧ ∃ r, vwCl[7]? = some r ∧ r.1 = yX7_dropBoard.cls := ⟨cs_X7_dropBoard, (gt2 144 rfl rfl), (gt2 143 rfl rfl), (gt2 145 rfl rfl), _, rfl, rfl⟩
theorem sv_RL_45 : CS mX11_shave 2 ∧ Cond.instanceMethod yX11_shave ∈ gTbl ∧ Cond.methodLink RL 45 yX11_shave ∈ gTbl ∧ Cond.selects yX11_shave.cls yX11_shave yX11_shave ∈ gTbl ∧ ∃ r, vwCl[10]? = some r ∧ r.1 = yX11_shave.cls := ⟨cs_X11_shave, (gt2 148 rfl rfl), (gt2 147 rfl rfl), (gt2 149 rfl rfl), _, rfl, rfl⟩
theorem sv_RL_49 : CS mX11_fits 1 ∧ Cond.instanceMethod yX11_fits ∈ gTbl ∧ Cond.methodLink RL 49 yX11_fits ∈ gTbl ∧ Cond.selects yX11_fits.cls yX11_fits yX11_fits ∈ gTbl ∧ ∃ r, vwCl[10]? = some r ∧ r.1 = yX11_fits.cls := ⟨cs_X11_fits, (gt2 152 rfl rfl), (gt2 151 rfl rfl), (gt2 153 rfl rfl), _, rfl, rfl⟩
theorem sv_RX11_169 : CS mX5_addUp 1 ∧ Cond.instanceMethod yX5_addUp ∈ gTbl ∧ Cond.methodLink RX11 169 yX5_addUp ∈ gTbl ∧ Cond.selects yX5_addUp.cls yX5_addUp yX5_addUp ∈ gTbl ∧ ∃ r, vwCl[5]? = some r ∧ r.1 = yX5_addUp.cls := ⟨cs_X5_addUp, (gt2 156 rfl rfl), (gt2 155 rfl rfl), (gt2 157 rfl rfl), _, rfl, rfl⟩
theorem sv_RX5_27 : CS mX7_staveAt 1 ∧ Cond.instanceMethod yX7_staveAt ∈ gTbl ∧ Cond.methodLink RX5 27 yX7_staveAt ∈ gTbl ∧ Cond.selects yX7_staveAt.cls yX7_staveAt yX7_staveAt ∈ gTbl ∧ ∃ r, vwCl[7]? = some r ∧ r.1 = yX7_staveAt.cls := ⟨cs_X7_staveAt, (gt2 107 rfl rfl), (gt2 159 rfl rfl), (gt2 108 rfl rfl), _, rfl, rfl⟩
theorem sv_RX5_31 : CS mX6_counts 0 ∧ Cond.instanceMethod yX6_counts ∈ gTbl ∧ Cond.methodLink RX5 31 yX6_counts ∈ gTbl ∧ Cond.selects yX6_counts.cls yX6_counts yX6_counts ∈ gTbl ∧ ∃ r, vwCl[6]? = some r ∧ r.1 = yX6_counts.cls := ⟨cs_X6_counts, (gt2 111 rfl rfl), (gt2 160 rfl rfl), (gt2 112 rfl rfl), _, rfl, rfl⟩
theorem sv_RX5_36 : CS mX6_price 0 ∧ Cond.instanceMethod yX6_price ∈ gTbl ∧ Cond.methodLink RX5 36 yX6_price ∈ gTbl ∧ Cond.selects yX6_price.cls yX6_price yX6_price ∈ gTbl ∧ ∃ r, vwCl[6]? = some r ∧ r.1 = yX6_price.cls := ⟨cs_X6_price, (gt2 122 rfl rfl), (gt2 161 rfl rfl), (gt2 123 rfl rfl), _, rfl, rfl⟩
theorem sv_RX11_173 : CS mX5_howMany 2 ∧ Cond.instanceMethod yX5_howMany ∈ gTbl ∧ Cond.methodLink RX11 173 yX5_howMany ∈ gTbl ∧ Cond.selects yX5_howMany.cls yX5_howMany yX5_howMany ∈ gTbl ∧ ∃ r, vwCl[5]? = some r ∧ r.1 = yX5_howMany.cls := ⟨cs_X5_howMany, (gt2 163 rfl rfl), (gt2 162 rfl rfl), (gt2 164 rfl rfl), _, rfl, rfl⟩
theorem ss_RX5_39 : CS mX11_isIn 3 ∧ Cond.static yX11_isIn ∈ gTbl ∧ (Cond.methodLink RX5 39 yX11_isIn ∈ gTbl ∨ (RX5, 39, yX11_isIn) ∈ mnTbl) := ⟨cs_X11_isIn, (gt1 236 rfl rfl), (Or.inr (List.mem_of_getElem? (i := 12) rfl))⟩
theorem sv_RX11_176 : CS mX5_bestBetween 2 ∧ Cond.instanceMethod yX5_bestBetween ∈ gTbl ∧ Cond.methodLink RX11 176 yX5_bestBetween ∈ gTbl ∧ Cond.selects yX5_bestBetween.cls yX5_bestBetween yX5_bestBetween ∈ gTbl ∧ ∃ r, vwCl[5]? = some r ∧ r.1 = yX5_bestBetween.cls := ⟨cs_X5_bestBetween, (gt2 168 rfl rfl), (gt2 167 rfl rfl), (gt2 169 rfl rfl), _, rfl, rfl⟩
theorem sv_RX5_43 : CS mX5_isBetter 2 ∧ Cond.instanceMethod yX5_isBetter ∈ gTbl ∧ Cond.methodLink RX5 43 yX5_isBetter ∈ gTbl ∧ Cond.selects yX5_isBetter.cls yX5_isBetter yX5_isBetter ∈ gTbl ∧ ∃ r, vwCl[5]? = some r ∧ r.1 = yX5_isBetter.cls := ⟨cs_X5_isBetter, (gt2 172 rfl rfl), (gt2 171 rfl rfl), (gt2 173 rfl rfl), _, rfl, rfl⟩
theorem ss_RX5_47 : CS mJ6_bitCount_0f7a4 1 ∧ Cond.static yJ6_bitCount_0f7a4 ∈ gTbl ∧ (Cond.methodLink RX5 47 yJ6_bitCount_0f7a4 ∈ gTbl ∨ (RX5, 47, yJ6_bitCount_0f7a4) ∈ mnTbl) := ⟨cs_J6_bitCount_0f7a4, (gt2 176 rfl rfl), (Or.inl (gt2 175 rfl rfl))⟩
theorem sk_RJ6_265 : Cond.constant RJ6 265 (1431655765) ∈ gTbl := (gt2 178 rfl rfl)
theorem sk_RJ6_266 : Cond.constant RJ6 266 (858993459) ∈ gTbl := (gt2 179 rfl rfl)
theorem sk_RJ6_267 : Cond.constant RJ6 267 (252645135) ∈ gTbl := (gt2 180 rfl rfl)
theorem sv_RL_53 : CS mX11_sums 1 ∧ Cond.instanceMethod yX11_sums ∈ gTbl ∧ Cond.methodLink RL 53 yX11_sums ∈ gTbl ∧ Cond.selects yX11_sums.cls yX11_sums yX11_sums ∈ gTbl ∧ ∃ r, vwCl[10]? = some r ∧ r.1 = yX11_sums.cls := ⟨cs_X11_sums, (gt2 182 rfl rfl), (gt2 181 rfl rfl), (gt2 183 rfl rfl), _, rfl, rfl⟩
theorem sv_RL_57 : CS mX11_nearest 1 ∧ Cond.instanceMethod yX11_nearest ∈ gTbl ∧ Cond.methodLink RL 57 yX11_nearest ∈ gTbl ∧ Cond.selects yX11_nearest.cls yX11_nearest yX11_nearest ∈ gTbl ∧ ∃ r, vwCl[10]? = some r ∧ r.1 = yX11_nearest.cls := ⟨cs_X11_nearest, (gt2 186 rfl rfl), (gt2 185 rfl rfl), (gt2 187 rfl rfl), _, rfl, rfl⟩
theorem sv_RX11_184 : CS mX5_closestTo 1 ∧ Cond.instanceMethod yX5_closestTo ∈ gTbl ∧ Cond.methodLink RX11 184 yX5_closestTo ∈ gTbl ∧ Cond.selects yX5_closestTo.cls yX5_closestTo yX5_closestTo ∈ gTbl ∧ ∃ r, vwCl[5]? = some r ∧ r.1 = yX5_closestTo.cls := ⟨cs_X5_closestTo, (gt2 190 rfl rfl), (gt2 189 rfl rfl), (gt2 191 rfl rfl), _, rfl, rfl⟩
theorem sm_RX5_53 : Cond.methodLink RX5 53 yJ9_abs_0f7a4 ∈ gTbl := (gt2 193 rfl rfl)
theorem ss_RX5_53 : CS mJ9_abs_0f7a4 1 ∧ Cond.static yJ9_abs_0f7a4 ∈ gTbl ∧ (Cond.methodLink RX5 53 yJ9_abs_0f7a4 ∈ gTbl ∨ (RX5, 53, yJ9_abs_0f7a4) ∈ mnTbl) := ⟨cs_J9_abs_0f7a4, (gt2 194 rfl rfl), (Or.inl (gt2 193 rfl rfl))⟩
theorem sv_RL_61 : CS mX11_least 3 ∧ Cond.instanceMethod yX11_least ∈ gTbl ∧ Cond.methodLink RL 61 yX11_least ∈ gTbl ∧ Cond.selects yX11_least.cls yX11_least yX11_least ∈ gTbl ∧ ∃ r, vwCl[10]? = some r ∧ r.1 = yX11_least.cls := ⟨cs_X11_least, (gt2 197 rfl rfl), (gt2 196 rfl rfl), (gt2 198 rfl rfl), _, rfl, rfl⟩
theorem sv_RX11_188 : CS mX11_isRingSet 1 ∧ Cond.instanceMethod yX11_isRingSet ∈ gTbl ∧ Cond.methodLink RX11 188 yX11_isRingSet ∈ gTbl ∧ Cond.selects yX11_isRingSet.cls yX11_isRingSet yX11_isRingSet ∈ gTbl ∧ ∃ r, vwCl[10]? = some r ∧ r.1 = yX11_isRingSet.cls := ⟨cs_X11_isRingSet, (gt2 202 rfl rfl), (gt2 200 rfl rfl), (gtS 0 rfl rfl), _, rfl, rfl⟩
theorem ss_RX11_379 : CS mJ6_bitCount_0f7a4 1 ∧ Cond.static yJ6_bitCount_0f7a4 ∈ gTbl ∧ (Cond.methodLink RX11 379 yJ6_bitCount_0f7a4 ∈ gTbl ∨ (RX11, 379, yJ6_bitCount_0f7a4) ∈ mnTbl) := ⟨cs_J6_bitCount_0f7a4, (gt2 176 rfl rfl), (Or.inl (gt2 204 rfl rfl))⟩
theorem ss_RX11_191 : CS mX11_isPress 1 ∧ Cond.static yX11_isPress ∈ gTbl ∧ (Cond.methodLink RX11 191 yX11_isPress ∈ gTbl ∨ (RX11, 191, yX11_isPress) ∈ mnTbl) := ⟨cs_X11_isPress, (gt2 206 rfl rfl), (Or.inl (gt2 205 rfl rfl))⟩
theorem sv_RX11_194 : CS mX4_layLeast 3 ∧ Cond.instanceMethod yX4_layLeast ∈ gTbl ∧ Cond.methodLink RX11 194 yX4_layLeast ∈ gTbl ∧ Cond.selects yX4_layLeast.cls yX4_layLeast yX4_layLeast ∈ gTbl ∧ ∃ r, vwCl[4]? = some r ∧ r.1 = yX4_layLeast.cls := ⟨cs_X4_layLeast, (gt2 209 rfl rfl), (gt2 208 rfl rfl), (gt2 210 rfl rfl), _, rfl, rfl⟩
theorem sv_RX4_46 : CS mX4_choose 3 ∧ Cond.instanceMethod yX4_choose ∈ gTbl ∧ Cond.methodLink RX4 46 yX4_choose ∈ gTbl ∧ Cond.selects yX4_choose.cls yX4_choose yX4_choose ∈ gTbl ∧ ∃ r, vwCl[4]? = some r ∧ r.1 = yX4_choose.cls := ⟨cs_X4_choose, (gt2 214 rfl rfl), (gt2 212 rfl rfl), (gtS 1 rfl rfl), _, rfl, rfl⟩
theorem ss_RX4_101 : CS mX11_holds 2 ∧ Cond.static yX11_holds ∈ gTbl ∧ (Cond.methodLink RX4 101 yX11_holds ∈ gTbl ∨ (RX4, 101, yX11_holds) ∈ mnTbl) := ⟨cs_X11_holds, (gt2 217 rfl rfl), (Or.inr (List.mem_of_getElem? (i := 13) rfl))⟩
theorem ss_RX4_78 : CS mX4_gapOf 3 ∧ Cond.static yX4_gapOf ∈ gTbl ∧ (Cond.methodLink RX4 78 yX4_gapOf ∈ gTbl ∨ (RX4, 78, yX4_gapOf) ∈ mnTbl) := ⟨cs_X4_gapOf, (gt2 220 rfl rfl), (Or.inl (gt2 219 rfl rfl))⟩
theorem ss_RX4_82 : CS mX4_edgeOf 2 ∧ Cond.static yX4_edgeOf ∈ gTbl ∧ (Cond.methodLink RX4 82 yX4_edgeOf ∈ gTbl ∨ (RX4, 82, yX4_edgeOf) ∈ mnTbl) := ⟨cs_X4_edgeOf, (gt2 223 rfl rfl), (Or.inl (gt2 222 rfl rfl))⟩
theorem sv_RX4_92 : CS mX7_staveAt 1 ∧ Cond.instanceMethod yX7_staveAt ∈ gTbl ∧ Cond.methodLink RX4 92 yX7_staveAt ∈ gTbl ∧ Cond.selects yX7_staveAt.cls yX7_staveAt yX7_staveAt ∈ gTbl ∧ ∃ r, vwCl[7]? = some r ∧ r.1 = yX7_staveAt.cls := ⟨cs_X7_staveAt, (gt2 107 rfl rfl), (gt2 225 rfl rfl), (gt2 108 rfl rfl), _, rfl, rfl⟩
theorem sv_RX4_96 : CS mX6_edge 0 ∧ Cond.instanceMethod yX6_edge ∈ gTbl ∧ Cond.methodLink RX4 96 yX6_edge ∈ gTbl ∧ Cond.selects yX6_edge.cls yX6_edge yX6_edge ∈ gTbl ∧ ∃ r, vwCl[6]? = some r ∧ r.1 = yX6_edge.cls := ⟨cs_X6_edge, (gt2 118 rfl rfl), (gt2 226 rfl rfl), (gt2 119 rfl rfl), _, rfl, rfl⟩
theorem sm_RX4_89 : Cond.methodLink RX4 89 yJ9_abs_0f7a4 ∈ gTbl := (gt2 227 rfl rfl)
theorem ss_RX4_89 : CS mJ9_abs_0f7a4 1 ∧ Cond.static yJ9_abs_0f7a4 ∈ gTbl ∧ (Cond.methodLink RX4 89 yJ9_abs_0f7a4 ∈ gTbl ∨ (RX4, 89, yJ9_abs_0f7a4) ∈ mnTbl) := ⟨cs_J9_abs_0f7a4, (gt2 194 rfl rfl), (Or.inl (gt2 227 rfl rfl))⟩
theorem sm_RX4_62 : Cond.methodLink RX4 62 yJ9_max_7cf53 ∈ gTbl := (gt2 228 rfl rfl)
theorem ss_RX4_62 : CS mJ9_max_7cf53 2 ∧ Cond.static yJ9_max_7cf53 ∈ gTbl ∧ (Cond.methodLink RX4 62 yJ9_max_7cf53 ∈ gTbl ∨ (RX4, 62, yJ9_max_7cf53) ∈ mnTbl) := ⟨cs_J9_max_7cf53, (gt2 115 rfl rfl), (Or.inl (gt2 228 rfl rfl))⟩
theorem sv_RX4_50 : CS mX4_weigh 1 ∧ Cond.instanceMethod yX4_weigh ∈ gTbl ∧ Cond.methodLink RX4 50 yX4_weigh ∈ gTbl ∧ Cond.selects yX4_weigh.cls yX4_weigh yX4_weigh ∈ gTbl ∧ ∃ r, vwCl[4]? = some r ∧ r.1 = yX4_weigh.cls := ⟨cs_X4_weigh, (gt2 231 rfl rfl), (gt2 229 rfl rfl), (gtS 2 rfl rfl), _, rfl, rfl⟩
theorem sv_RX4_54 : CS mX4_allButFirst 0 ∧ Cond.instanceMethod yX4_allButFirst ∈ gTbl ∧ Cond.methodLink RX4 54 yX4_allButFirst ∈ gTbl ∧ Cond.selects yX4_allButFirst.cls yX4_allButFirst yX4_allButFirst ∈ gTbl ∧ ∃ r, vwCl[4]? = some r ∧ r.1 = yX4_allButFirst.cls := ⟨cs_X4_allButFirst, (gt2 235 rfl rfl), (gt2 233 rfl rfl), (gtS 3 rfl rfl), _, rfl, rfl⟩
theorem ss_RX4_75 : CS mX4_cellOf 2 ∧ Cond.static yX4_cellOf ∈ gTbl ∧ (Cond.methodLink RX4 75 yX4_cellOf ∈ gTbl ∨ (RX4, 75, yX4_cellOf) ∈ mnTbl) := ⟨cs_X4_cellOf, (gt2 238 rfl rfl), (Or.inl (gt2 237 rfl rfl))⟩
theorem sv_RX4_105 : CS mX4_leastOnward 3 ∧ Cond.instanceMethod yX4_leastOnward ∈ gTbl ∧ Cond.methodLink RX4 105 yX4_leastOnward ∈ gTbl ∧ Cond.selects yX4_leastOnward.cls yX4_leastOnward yX4_leastOnward ∈ gTbl ∧ ∃ r, vwCl[4]? = some r ∧ r.1 = yX4_leastOnward.cls := ⟨cs_X4_leastOnward, (gt3 2 rfl rfl), (gt3 0 rfl rfl), (gtS 4 rfl rfl), _, rfl, rfl⟩
theorem ss_RX4_109 : CS mX11_without 2 ∧ Cond.static yX11_without ∈ gTbl ∧ (Cond.methodLink RX4 109 yX11_without ∈ gTbl ∨ (RX4, 109, yX11_without) ∈ mnTbl) := ⟨cs_X11_without, (gt3 5 rfl rfl), (Or.inr (List.mem_of_getElem? (i := 14) rfl))⟩
theorem sm_RX4_112 : Cond.methodLink RX4 112 yJ9_min_7cf53 ∈ gTbl := (gt3 7 rfl rfl)
theorem ss_RX4_112 : CS mJ9_min_7cf53 2 ∧ Cond.static yJ9_min_7cf53 ∈ gTbl ∧ (Cond.methodLink RX4 112 yJ9_min_7cf53 ∈ gTbl ∨ (RX4, 112, yJ9_min_7cf53) ∈ mnTbl) := ⟨cs_J9_min_7cf53, (gt3 8 rfl rfl), (Or.inl (gt3 7 rfl rfl))⟩
theorem sv_RX4_58 : CS mX4_firstOfLeast 2 ∧ Cond.instanceMethod yX4_firstOfLeast ∈ gTbl ∧ Cond.methodLink RX4 58 yX4_firstOfLeast ∈ gTbl ∧ Cond.selects yX4_firstOfLeast.cls yX4_firstOfLeast yX4_firstOfLeast ∈ gTbl ∧ ∃ r, vwCl[4]? = some r ∧ r.1 = yX4_firstOfLeast.cls := ⟨cs_X4_firstOfLeast, (gt3 12 rfl rfl), (gt3 10 rfl rfl), (gtS 5 rfl rfl), _, rfl, rfl⟩
theorem sv_RX4_42 : CS mX4_measureGaps 1 ∧ Cond.instanceMethod yX4_measureGaps ∈ gTbl ∧ Cond.methodLink RX4 42 yX4_measureGaps ∈ gTbl ∧ Cond.selects yX4_measureGaps.cls yX4_measureGaps yX4_measureGaps ∈ gTbl ∧ ∃ r, vwCl[4]? = some r ∧ r.1 = yX4_measureGaps.cls := ⟨cs_X4_measureGaps, (gt3 16 rfl rfl), (gt3 14 rfl rfl), (gtS 6 rfl rfl), _, rfl, rfl⟩
theorem sv_RX11_198 : CS mX4_leakUnder 1 ∧ Cond.instanceMethod yX4_leakUnder ∈ gTbl ∧ Cond.methodLink RX11 198 yX4_leakUnder ∈ gTbl ∧ Cond.selects yX4_leakUnder.cls yX4_leakUnder yX4_leakUnder ∈ gTbl ∧ ∃ r, vwCl[4]? = some r ∧ r.1 = yX4_leakUnder.cls := ⟨cs_X4_leakUnder, (gt3 19 rfl rfl), (gt3 18 rfl rfl), (gt3 20 rfl rfl), _, rfl, rfl⟩
theorem sv_RX11_201 : CS mX4_digits 0 ∧ Cond.instanceMethod yX4_digits ∈ gTbl ∧ Cond.methodLink RX11 201 yX4_digits ∈ gTbl ∧ Cond.selects yX4_digits.cls yX4_digits yX4_digits ∈ gTbl ∧ ∃ r, vwCl[4]? = some r ∧ r.1 = yX4_digits.cls := ⟨cs_X4_digits, (gt3 23 rfl rfl), (gt3 22 rfl rfl), (gt3 24 rfl rfl), _, rfl, rfl⟩
theorem sv_RL_65 : CS mX11_leak 2 ∧ Cond.instanceMethod yX11_leak ∈ gTbl ∧ Cond.methodLink RL 65 yX11_leak ∈ gTbl ∧ Cond.selects yX11_leak.cls yX11_leak yX11_leak ∈ gTbl ∧ ∃ r, vwCl[10]? = some r ∧ r.1 = yX11_leak.cls := ⟨cs_X11_leak, (gt3 27 rfl rfl), (gt3 26 rfl rfl), (gt3 28 rfl rfl), _, rfl, rfl⟩
theorem sv_RX11_204 : CS mX4_layTold 2 ∧ Cond.instanceMethod yX4_layTold ∈ gTbl ∧ Cond.methodLink RX11 204 yX4_layTold ∈ gTbl ∧ Cond.selects yX4_layTold.cls yX4_layTold yX4_layTold ∈ gTbl ∧ ∃ r, vwCl[4]? = some r ∧ r.1 = yX4_layTold.cls := ⟨cs_X4_layTold, (gt3 31 rfl rfl), (gt3 30 rfl rfl), (gt3 32 rfl rfl), _, rfl, rfl⟩
theorem ss_RX4_35 : CS mX11_spellRow 3 ∧ Cond.static yX11_spellRow ∈ gTbl ∧ (Cond.methodLink RX4 35 yX11_spellRow ∈ gTbl ∨ (RX4, 35, yX11_spellRow) ∈ mnTbl) := ⟨cs_X11_spellRow, (gt3 35 rfl rfl), (Or.inr (List.mem_of_getElem? (i := 15) rfl))⟩
theorem ss_RX11_270 : CS mX11_howManyDigits 1 ∧ Cond.static yX11_howManyDigits ∈ gTbl ∧ (Cond.methodLink RX11 270 yX11_howManyDigits ∈ gTbl ∨ (RX11, 270, yX11_howManyDigits) ∈ mnTbl) := ⟨cs_X11_howManyDigits, (gt3 38 rfl rfl), (Or.inl (gt3 37 rfl rfl))⟩
theorem ss_RX11_387 : CS mX11_holds 2 ∧ Cond.static yX11_holds ∈ gTbl ∧ (Cond.methodLink RX11 387 yX11_holds ∈ gTbl ∨ (RX11, 387, yX11_holds) ∈ mnTbl) := ⟨cs_X11_holds, (gt2 217 rfl rfl), (Or.inl (gt3 40 rfl rfl))⟩
theorem sv_RL_69 : CS mX11_worst 3 ∧ Cond.instanceMethod yX11_worst ∈ gTbl ∧ Cond.methodLink RL 69 yX11_worst ∈ gTbl ∧ Cond.selects yX11_worst.cls yX11_worst yX11_worst ∈ gTbl ∧ ∃ r, vwCl[10]? = some r ∧ r.1 = yX11_worst.cls := ⟨cs_X11_worst, (gt3 42 rfl rfl), (gt3 41 rfl rfl), (gt3 43 rfl rfl), _, rfl, rfl⟩
theorem sv_RX11_208 : CS mX4_jointOfRank 1 ∧ Cond.instanceMethod yX4_jointOfRank ∈ gTbl ∧ Cond.methodLink RX11 208 yX4_jointOfRank ∈ gTbl ∧ Cond.selects yX4_jointOfRank.cls yX4_jointOfRank yX4_jointOfRank ∈ gTbl ∧ ∃ r, vwCl[4]? = some r ∧ r.1 = yX4_jointOfRank.cls := ⟨cs_X4_jointOfRank, (gt3 46 rfl rfl), (gt3 45 rfl rfl), (gt3 47 rfl rfl), _, rfl, rfl⟩
theorem sv_RX4_67 : CS mX4_rankOf 1 ∧ Cond.instanceMethod yX4_rankOf ∈ gTbl ∧ Cond.methodLink RX4 67 yX4_rankOf ∈ gTbl ∧ Cond.selects yX4_rankOf.cls yX4_rankOf yX4_rankOf ∈ gTbl ∧ ∃ r, vwCl[4]? = some r ∧ r.1 = yX4_rankOf.cls := ⟨cs_X4_rankOf, (gt3 50 rfl rfl), (gt3 49 rfl rfl), (gt3 51 rfl rfl), _, rfl, rfl⟩
theorem sv_RL_73 : CS mX11_rings 3 ∧ Cond.instanceMethod yX11_rings ∈ gTbl ∧ Cond.methodLink RL 73 yX11_rings ∈ gTbl ∧ Cond.selects yX11_rings.cls yX11_rings yX11_rings ∈ gTbl ∧ ∃ r, vwCl[10]? = some r ∧ r.1 = yX11_rings.cls := ⟨cs_X11_rings, (gt3 54 rfl rfl), (gt3 53 rfl rfl), (gt3 55 rfl rfl), _, rfl, rfl⟩
theorem sv_RX11_214 : CS mX4_howManyWithin 4 ∧ Cond.instanceMethod yX4_howManyWithin ∈ gTbl ∧ Cond.methodLink RX11 214 yX4_howManyWithin ∈ gTbl ∧ Cond.selects yX4_howManyWithin.cls yX4_howManyWithin yX4_howManyWithin ∈ gTbl ∧ ∃ r, vwCl[4]? = some r ∧ r.1 = yX4_howManyWithin.cls := ⟨cs_X4_howManyWithin, (gt3 58 rfl rfl), (gt3 57 rfl rfl), (gt3 59 rfl rfl), _, rfl, rfl⟩
theorem ss_RX4_71 : CS mX4_countOnward 6 ∧ Cond.static yX4_countOnward ∈ gTbl ∧ (Cond.methodLink RX4 71 yX4_countOnward ∈ gTbl ∨ (RX4, 71, yX4_countOnward) ∈ mnTbl) := ⟨cs_X4_countOnward, (gt3 62 rfl rfl), (Or.inl (gt3 61 rfl rfl))⟩
theorem sv_RL_77 : CS mX11_girth 1 ∧ Cond.instanceMethod yX11_girth ∈ gTbl ∧ Cond.methodLink RL 77 yX11_girth ∈ gTbl ∧ Cond.selects yX11_girth.cls yX11_girth yX11_girth ∈ gTbl ∧ ∃ r, vwCl[10]? = some r ∧ r.1 = yX11_girth.cls := ⟨cs_X11_girth, (gt3 65 rfl rfl), (gt3 64 rfl rfl), (gt3 66 rfl rfl), _, rfl, rfl⟩
theorem ss_RX11_218 : CS mX11_isHeight 1 ∧ Cond.static yX11_isHeight ∈ gTbl ∧ (Cond.methodLink RX11 218 yX11_isHeight ∈ gTbl ∨ (RX11, 218, yX11_isHeight) ∈ mnTbl) := ⟨cs_X11_isHeight, (gt3 69 rfl rfl), (Or.inl (gt3 68 rfl rfl))⟩
theorem ss_RX11_221 : CS mX1_girthAt 2 ∧ Cond.static yX1_girthAt ∈ gTbl ∧ (Cond.methodLink RX11 221 yX1_girthAt ∈ gTbl ∨ (RX11, 221, yX1_girthAt) ∈ mnTbl) := ⟨cs_X1_girthAt, (gt3 72 rfl rfl), (Or.inl (gt3 71 rfl rfl))⟩
theorem sm_RX1_23 : Cond.methodLink RX1 23 yJ9_abs_0f7a4 ∈ gTbl := (gt3 74 rfl rfl)
theorem ss_RX1_23 : CS mJ9_abs_0f7a4 1 ∧ Cond.static yJ9_abs_0f7a4 ∈ gTbl ∧ (Cond.methodLink RX1 23 yJ9_abs_0f7a4 ∈ gTbl ∨ (RX1, 23, yJ9_abs_0f7a4) ∈ mnTbl) := ⟨cs_J9_abs_0f7a4, (gt2 194 rfl rfl), (Or.inl (gt3 74 rfl rfl))⟩
theorem sm_RX1_29 : Cond.methodLink RX1 29 yJ9_max_7cf53 ∈ gTbl := (gt3 75 rfl rfl)
theorem ss_RX1_29 : CS mJ9_max_7cf53 2 ∧ Cond.static yJ9_max_7cf53 ∈ gTbl ∧ (Cond.methodLink RX1 29 yJ9_max_7cf53 ∈ gTbl ∨ (RX1, 29, yJ9_max_7cf53) ∈ mnTbl) := ⟨cs_J9_max_7cf53, (gt2 115 rfl rfl), (Or.inl (gt3 75 rfl rfl))⟩
theorem sv_RL_81 : CS mX11_ofHoop 2 ∧ Cond.instanceMethod yX11_ofHoop ∈ gTbl ∧ Cond.methodLink RL 81 yX11_ofHoop ∈ gTbl ∧ Cond.selects yX11_ofHoop.cls yX11_ofHoop yX11_ofHoop ∈ gTbl ∧ ∃ r, vwCl[10]? = some r ∧ r.1 = yX11_ofHoop.cls := ⟨cs_X11_ofHoop, (gt3 77 rfl rfl), (gt3 76 rfl rfl), (gt3 78 rfl rfl), _, rfl, rfl⟩
theorem sv_RX11_225 : CS mX7_hoopAt 1 ∧ Cond.instanceMethod yX7_hoopAt ∈ gTbl ∧ Cond.methodLink RX11 225 yX7_hoopAt ∈ gTbl ∧ Cond.selects yX7_hoopAt.cls yX7_hoopAt yX7_hoopAt ∈ gTbl ∧ ∃ r, vwCl[7]? = some r ∧ r.1 = yX7_hoopAt.cls := ⟨cs_X7_hoopAt, (gt3 81 rfl rfl), (gt3 80 rfl rfl), (gt3 82 rfl rfl), _, rfl, rfl⟩
theorem sv_RX11_234 : CS mX11_ofResting 3 ∧ Cond.instanceMethod yX11_ofResting ∈ gTbl ∧ Cond.methodLink RX11 234 yX11_ofResting ∈ gTbl ∧ Cond.selects yX11_ofResting.cls yX11_ofResting yX11_ofResting ∈ gTbl ∧ ∃ r, vwCl[10]? = some r ∧ r.1 = yX11_ofResting.cls := ⟨cs_X11_ofResting, (gt3 86 rfl rfl), (gt3 84 rfl rfl), (gtS 7 rfl rfl), _, rfl, rfl⟩
theorem sv_RX11_238 : CS mX1_drive 1 ∧ Cond.instanceMethod yX1_drive ∈ gTbl ∧ Cond.methodLink RX11 238 yX1_drive ∈ gTbl ∧ Cond.selects yX1_drive.cls yX1_drive yX1_drive ∈ gTbl ∧ ∃ r, vwCl[1]? = some r ∧ r.1 = yX1_drive.cls := ⟨cs_X1_drive, (gt3 89 rfl rfl), (gt3 88 rfl rfl), (gt3 90 rfl rfl), _, rfl, rfl⟩
theorem ss_RX1_33 : CS mJ7_fill_53178 2 ∧ Cond.static yJ7_fill_53178 ∈ gTbl ∧ (Cond.methodLink RX1 33 yJ7_fill_53178 ∈ gTbl ∨ (RX1, 33, yJ7_fill_53178) ∈ mnTbl) := ⟨cs_J7_fill_53178, (gt3 93 rfl rfl), (Or.inl (gt3 92 rfl rfl))⟩
theorem sv_RX1_43 : CS mX7_hoopAt 1 ∧ Cond.instanceMethod yX7_hoopAt ∈ gTbl ∧ Cond.methodLink RX1 43 yX7_hoopAt ∈ gTbl ∧ Cond.selects yX7_hoopAt.cls yX7_hoopAt yX7_hoopAt ∈ gTbl ∧ ∃ r, vwCl[7]? = some r ∧ r.1 = yX7_hoopAt.cls := ⟨cs_X7_hoopAt, (gt3 81 rfl rfl), (gt3 95 rfl rfl), (gt3 82 rfl rfl), _, rfl, rfl⟩
theorem sv_RX1_55 : CS mX1_restDepth 4 ∧ Cond.instanceMethod yX1_restDepth ∈ gTbl ∧ Cond.methodLink RX1 55 yX1_restDepth ∈ gTbl ∧ Cond.selects yX1_restDepth.cls yX1_restDepth yX1_restDepth ∈ gTbl ∧ ∃ r, vwCl[1]? = some r ∧ r.1 = yX1_restDepth.cls := ⟨cs_X1_restDepth, (gt3 97 rfl rfl), (gt3 96 rfl rfl), (gt3 98 rfl rfl), _, rfl, rfl⟩
theorem sm_RX1_80 : Cond.methodLink RX1 80 yJ9_min_7cf53 ∈ gTbl := (gt3 100 rfl rfl)
theorem ss_RX1_80 : CS mJ9_min_7cf53 2 ∧ Cond.static yJ9_min_7cf53 ∈ gTbl ∧ (Cond.methodLink RX1 80 yJ9_min_7cf53 ∈ gTbl ∨ (RX1, 80, yJ9_min_7cf53) ∈ mnTbl) := ⟨cs_J9_min_7cf53, (gt3 8 rfl rfl), (Or.inl (gt3 100 rfl rfl))⟩
theorem ss_RX1_83 : CS mX1_girthAt 2 ∧ Cond.static yX1_girthAt ∈ gTbl ∧ (Cond.methodLink RX1 83 yX1_girthAt ∈ gTbl ∨ (RX1, 83, yX1_girthAt) ∈ mnTbl) := ⟨cs_X1_girthAt, (gt3 72 rfl rfl), (Or.inl (gt3 101 rfl rfl))⟩
theorem ss_RX1_59 : CS mX1_gripAt 3 ∧ Cond.static yX1_gripAt ∈ gTbl ∧ (Cond.methodLink RX1 59 yX1_gripAt ∈ gTbl ∨ (RX1, 59, yX1_gripAt) ∈ mnTbl) := ⟨cs_X1_gripAt, (gt3 103 rfl rfl), (Or.inl (gt3 102 rfl rfl))⟩
theorem sv_RX1_63 : CS mX1_addPress 3 ∧ Cond.instanceMethod yX1_addPress ∈ gTbl ∧ Cond.methodLink RX1 63 yX1_addPress ∈ gTbl ∧ Cond.selects yX1_addPress.cls yX1_addPress yX1_addPress ∈ gTbl ∧ ∃ r, vwCl[1]? = some r ∧ r.1 = yX1_addPress.cls := ⟨cs_X1_addPress, (gt3 107 rfl rfl), (gt3 105 rfl rfl), (gtS 8 rfl rfl), _, rfl, rfl⟩
theorem ss_RX1_67 : CS mX1_heightOf 2 ∧ Cond.static yX1_heightOf ∈ gTbl ∧ (Cond.methodLink RX1 67 yX1_heightOf ∈ gTbl ∨ (RX1, 67, yX1_heightOf) ∈ mnTbl) := ⟨cs_X1_heightOf, (gt3 110 rfl rfl), (Or.inl (gt3 109 rfl rfl))⟩
theorem ss_RX1_73 : CS mX3_presses 2 ∧ Cond.static yX3_presses ∈ gTbl ∧ (Cond.methodLink RX1 73 yX3_presses ∈ gTbl ∨ (RX1, 73, yX3_presses) ∈ mnTbl) := ⟨cs_X3_presses, (gt3 113 rfl rfl), (Or.inl (gt3 112 rfl rfl))⟩
theorem ss_RX1_76 : CS mX1_pressFrom 3 ∧ Cond.static yX1_pressFrom ∈ gTbl ∧ (Cond.methodLink RX1 76 yX1_pressFrom ∈ gTbl ∨ (RX1, 76, yX1_pressFrom) ∈ mnTbl) := ⟨cs_X1_pressFrom, (gt3 116 rfl rfl), (Or.inl (gt3 115 rfl rfl))⟩
theorem ss_RX11_393 : CS mX1_gripAt 3 ∧ Cond.static yX1_gripAt ∈ gTbl ∧ (Cond.methodLink RX11 393 yX1_gripAt ∈ gTbl ∨ (RX11, 393, yX1_gripAt) ∈ mnTbl) := ⟨cs_X1_gripAt, (gt3 103 rfl rfl), (Or.inl (gt3 118 rfl rfl))⟩
theorem ss_RX11_396 : CS mX1_heightOf 2 ∧ Cond.static yX1_heightOf ∈ gTbl ∧ (Cond.methodLink RX11 396 yX1_heightOf ∈ gTbl ∨ (RX11, 396, yX1_heightOf) ∈ mnTbl) := ⟨cs_X1_heightOf, (gt3 110 rfl rfl), (Or.inl (gt3 119 rfl rfl))⟩
theorem ss_RX11_399 : CS mX3_presses 2 ∧ Cond.static yX3_presses ∈ gTbl ∧ (Cond.methodLink RX11 399 yX3_presses ∈ gTbl ∨ (RX11, 399, yX3_presses) ∈ mnTbl) := ⟨cs_X3_presses, (gt3 113 rfl rfl), (Or.inl (gt3 120 rfl rfl))⟩
theorem sv_RL_85 : CS mX11_press 1 ∧ Cond.instanceMethod yX11_press ∈ gTbl ∧ Cond.methodLink RL 85 yX11_press ∈ gTbl ∧ Cond.selects yX11_press.cls yX11_press yX11_press ∈ gTbl ∧ ∃ r, vwCl[10]? = some r ∧ r.1 = yX11_press.cls := ⟨cs_X11_press, (gt3 122 rfl rfl), (gt3 121 rfl rfl), (gt3 123 rfl rfl), _, rfl, rfl⟩
theorem ss_RX11_244 : CS mX1_capped 1 ∧ Cond.static yX1_capped ∈ gTbl ∧ (Cond.methodLink RX11 244 yX1_capped ∈ gTbl ∨ (RX11, 244, yX1_capped) ∈ mnTbl) := ⟨cs_X1_capped, (gt3 126 rfl rfl), (Or.inl (gt3 125 rfl rfl))⟩
theorem sv_RL_89 : CS mX11_wet 1 ∧ Cond.instanceMethod yX11_wet ∈ gTbl ∧ Cond.methodLink RL 89 yX11_wet ∈ gTbl ∧ Cond.selects yX11_wet.cls yX11_wet yX11_wet ∈ gTbl ∧ ∃ r, vwCl[10]? = some r ∧ r.1 = yX11_wet.cls := ⟨cs_X11_wet, (gt3 129 rfl rfl), (gt3 128 rfl rfl), (gt3 130 rfl rfl), _, rfl, rfl⟩
theorem sv_RX11_247 : CS mX4_tightPress 2 ∧ Cond.instanceMethod yX4_tightPress ∈ gTbl ∧ Cond.methodLink RX11 247 yX4_tightPress ∈ gTbl ∧ Cond.selects yX4_tightPress.cls yX4_tightPress yX4_tightPress ∈ gTbl ∧ ∃ r, vwCl[4]? = some r ∧ r.1 = yX4_tightPress.cls := ⟨cs_X4_tightPress, (gt3 133 rfl rfl), (gt3 132 rfl rfl), (gt3 134 rfl rfl), _, rfl, rfl⟩
theorem sv_RX11_250 : CS mX1_wetBelow 1 ∧ Cond.instanceMethod yX1_wetBelow ∈ gTbl ∧ Cond.methodLink RX11 250 yX1_wetBelow ∈ gTbl ∧ Cond.selects yX1_wetBelow.cls yX1_wetBelow yX1_wetBelow ∈ gTbl ∧ ∃ r, vwCl[1]? = some r ∧ r.1 = yX1_wetBelow.cls := ⟨cs_X1_wetBelow, (gt3 137 rfl rfl), (gt3 136 rfl rfl), (gt3 138 rfl rfl), _, rfl, rfl⟩
theorem ss_RX1_87 : CS mX1_capped 1 ∧ Cond.static yX1_capped ∈ gTbl ∧ (Cond.methodLink RX1 87 yX1_capped ∈ gTbl ∨ (RX1, 87, yX1_capped) ∈ mnTbl) := ⟨cs_X1_capped, (gt3 126 rfl rfl), (Or.inl (gt3 140 rfl rfl))⟩
theorem sv_RL_93 : CS mX11_driest 2 ∧ Cond.instanceMethod yX11_driest ∈ gTbl ∧ Cond.methodLink RL 93 yX11_driest ∈ gTbl ∧ Cond.selects yX11_driest.cls yX11_driest yX11_driest ∈ gTbl ∧ ∃ r, vwCl[10]? = some r ∧ r.1 = yX11_driest.cls := ⟨cs_X11_driest, (gt3 142 rfl rfl), (gt3 141 rfl rfl), (gt3 143 rfl rfl), _, rfl, rfl⟩
theorem sv_RX11_253 : CS mX1_driestSize 3 ∧ Cond.instanceMethod yX1_driestSize ∈ gTbl ∧ Cond.methodLink RX11 253 yX1_driestSize ∈ gTbl ∧ Cond.selects yX1_driestSize.cls yX1_driestSize yX1_driestSize ∈ gTbl ∧ ∃ r, vwCl[1]? = some r ∧ r.1 = yX1_driestSize.cls := ⟨cs_X1_driestSize, (gt3 146 rfl rfl), (gt3 145 rfl rfl), (gt3 147 rfl rfl), _, rfl, rfl⟩
theorem sv_RX1_90 : CS mX1_wetBelow 1 ∧ Cond.instanceMethod yX1_wetBelow ∈ gTbl ∧ Cond.methodLink RX1 90 yX1_wetBelow ∈ gTbl ∧ Cond.selects yX1_wetBelow.cls yX1_wetBelow yX1_wetBelow ∈ gTbl ∧ ∃ r, vwCl[1]? = some r ∧ r.1 = yX1_wetBelow.cls := ⟨cs_X1_wetBelow, (gt3 137 rfl rfl), (gt3 149 rfl rfl), (gt3 138 rfl rfl), _, rfl, rfl⟩
theorem ss_RX1_93 : CS mJ6_bitCount_0f7a4 1 ∧ Cond.static yJ6_bitCount_0f7a4 ∈ gTbl ∧ (Cond.methodLink RX1 93 yJ6_bitCount_0f7a4 ∈ gTbl ∨ (RX1, 93, yJ6_bitCount_0f7a4) ∈ mnTbl) := ⟨cs_J6_bitCount_0f7a4, (gt2 176 rfl rfl), (Or.inl (gt3 150 rfl rfl))⟩
theorem sv_RX1_98 : CS mX1_howManyWetWith 3 ∧ Cond.instanceMethod yX1_howManyWetWith ∈ gTbl ∧ Cond.methodLink RX1 98 yX1_howManyWetWith ∈ gTbl ∧ Cond.selects yX1_howManyWetWith.cls yX1_howManyWetWith yX1_howManyWetWith ∈ gTbl ∧ ∃ r, vwCl[1]? = some r ∧ r.1 = yX1_howManyWetWith.cls := ⟨cs_X1_howManyWetWith, (gt3 153 rfl rfl), (gt3 151 rfl rfl), (gtS 9 rfl rfl), _, rfl, rfl⟩
theorem sv_RL_97 : CS mX11_head 2 ∧ Cond.instanceMethod yX11_head ∈ gTbl ∧ Cond.methodLink RL 97 yX11_head ∈ gTbl ∧ Cond.selects yX11_head.cls yX11_head yX11_head ∈ gTbl ∧ ∃ r, vwCl[10]? = some r ∧ r.1 = yX11_head.cls := ⟨cs_X11_head, (gt3 156 rfl rfl), (gt3 155 rfl rfl), (gt3 157 rfl rfl), _, rfl, rfl⟩
theorem ss_RX11_257 : CS mX11_isRadius 1 ∧ Cond.static yX11_isRadius ∈ gTbl ∧ (Cond.methodLink RX11 257 yX11_isRadius ∈ gTbl ∨ (RX11, 257, yX11_isRadius) ∈ mnTbl) := ⟨cs_X11_isRadius, (gt3 160 rfl rfl), (Or.inl (gt3 159 rfl rfl))⟩
theorem sv_RX11_260 : CS mX2_measure 2 ∧ Cond.instanceMethod yX2_measure ∈ gTbl ∧ Cond.methodLink RX11 260 yX2_measure ∈ gTbl ∧ Cond.selects yX2_measure.cls yX2_measure yX2_measure ∈ gTbl ∧ ∃ r, vwCl[2]? = some r ∧ r.1 = yX2_measure.cls := ⟨cs_X2_measure, (gt3 163 rfl rfl), (gt3 162 rfl rfl), (gt3 164 rfl rfl), _, rfl, rfl⟩
theorem sv_RX2_36 : CS mX7_boardAt 1 ∧ Cond.instanceMethod yX7_boardAt ∈ gTbl ∧ Cond.methodLink RX2 36 yX7_boardAt ∈ gTbl ∧ Cond.selects yX7_boardAt.cls yX7_boardAt yX7_boardAt ∈ gTbl ∧ ∃ r, vwCl[7]? = some r ∧ r.1 = yX7_boardAt.cls := ⟨cs_X7_boardAt, (gt3 167 rfl rfl), (gt3 166 rfl rfl), (gt3 168 rfl rfl), _, rfl, rfl⟩
theorem sv_RX11_264 : CS mX2_leastSpent 0 ∧ Cond.instanceMethod yX2_leastSpent ∈ gTbl ∧ Cond.methodLink RX11 264 yX2_leastSpent ∈ gTbl ∧ Cond.selects yX2_leastSpent.cls yX2_leastSpent yX2_leastSpent ∈ gTbl ∧ ∃ r, vwCl[2]? = some r ∧ r.1 = yX2_leastSpent.cls := ⟨cs_X2_leastSpent, (gt3 171 rfl rfl), (gt3 170 rfl rfl), (gt3 172 rfl rfl), _, rfl, rfl⟩
theorem sv_RX2_55 : CS mX2_isDone 1 ∧ Cond.instanceMethod yX2_isDone ∈ gTbl ∧ Cond.methodLink RX2 55 yX2_isDone ∈ gTbl ∧ Cond.selects yX2_isDone.cls yX2_isDone yX2_isDone ∈ gTbl ∧ ∃ r, vwCl[2]? = some r ∧ r.1 = yX2_isDone.cls := ⟨cs_X2_isDone, (gt3 175 rfl rfl), (gt3 174 rfl rfl), (gt3 176 rfl rfl), _, rfl, rfl⟩
theorem sv_RX2_59 : CS mX2_leastOnward 1 ∧ Cond.instanceMethod yX2_leastOnward ∈ gTbl ∧ Cond.methodLink RX2 59 yX2_leastOnward ∈ gTbl ∧ Cond.selects yX2_leastOnward.cls yX2_leastOnward yX2_leastOnward ∈ gTbl ∧ ∃ r, vwCl[2]? = some r ∧ r.1 = yX2_leastOnward.cls := ⟨cs_X2_leastOnward, (gt3 180 rfl rfl), (gt3 178 rfl rfl), (gtS 10 rfl rfl), _, rfl, rfl⟩
theorem ss_RX2_62 : CS mX11_holds 2 ∧ Cond.static yX11_holds ∈ gTbl ∧ (Cond.methodLink RX2 62 yX11_holds ∈ gTbl ∨ (RX2, 62, yX11_holds) ∈ mnTbl) := ⟨cs_X11_holds, (gt2 217 rfl rfl), (Or.inr (List.mem_of_getElem? (i := 16) rfl))⟩
theorem sv_RX2_66 : CS mX2_spentFrom 2 ∧ Cond.instanceMethod yX2_spentFrom ∈ gTbl ∧ Cond.methodLink RX2 66 yX2_spentFrom ∈ gTbl ∧ Cond.selects yX2_spentFrom.cls yX2_spentFrom yX2_spentFrom ∈ gTbl ∧ ∃ r, vwCl[2]? = some r ∧ r.1 = yX2_spentFrom.cls := ⟨cs_X2_spentFrom, (gt3 185 rfl rfl), (gt3 183 rfl rfl), (gtS 11 rfl rfl), _, rfl, rfl⟩
theorem sv_RX2_69 : CS mX2_spentOn 2 ∧ Cond.instanceMethod yX2_spentOn ∈ gTbl ∧ Cond.methodLink RX2 69 yX2_spentOn ∈ gTbl ∧ Cond.selects yX2_spentOn.cls yX2_spentOn yX2_spentOn ∈ gTbl ∧ ∃ r, vwCl[2]? = some r ∧ r.1 = yX2_spentOn.cls := ⟨cs_X2_spentOn, (gt3 188 rfl rfl), (gt3 187 rfl rfl), (gt3 189 rfl rfl), _, rfl, rfl⟩
theorem sm_RX2_45 : Cond.methodLink RX2 45 yJ9_max_7cf53 ∈ gTbl := (gt3 191 rfl rfl)
theorem ss_RX2_45 : CS mJ9_max_7cf53 2 ∧ Cond.static yJ9_max_7cf53 ∈ gTbl ∧ (Cond.methodLink RX2 45 yJ9_max_7cf53 ∈ gTbl ∨ (RX2, 45, yJ9_max_7cf53) ∈ mnTbl) := ⟨cs_J9_max_7cf53, (gt2 115 rfl rfl), (Or.inl (gt3 191 rfl rfl))⟩
theorem ss_RX2_51 : CS mX11_rootOf 1 ∧ Cond.static yX11_rootOf ∈ gTbl ∧ (Cond.methodLink RX2 51 yX11_rootOf ∈ gTbl ∨ (RX2, 51, yX11_rootOf) ∈ mnTbl) := ⟨cs_X11_rootOf, (gt2 129 rfl rfl), (Or.inr (List.mem_of_getElem? (i := 17) rfl))⟩
theorem sv_RX11_267 : CS mX2_leastDigits 0 ∧ Cond.instanceMethod yX2_leastDigits ∈ gTbl ∧ Cond.methodLink RX11 267 yX2_leastDigits ∈ gTbl ∧ Cond.selects yX2_leastDigits.cls yX2_leastDigits yX2_leastDigits ∈ gTbl ∧ ∃ r, vwCl[2]? = some r ∧ r.1 = yX2_leastDigits.cls := ⟨cs_X2_leastDigits, (gt3 194 rfl rfl), (gt3 193 rfl rfl), (gt3 195 rfl rfl), _, rfl, rfl⟩
theorem sv_RX2_72 : CS mX2_firstOfLeast 1 ∧ Cond.instanceMethod yX2_firstOfLeast ∈ gTbl ∧ Cond.methodLink RX2 72 yX2_firstOfLeast ∈ gTbl ∧ Cond.selects yX2_firstOfLeast.cls yX2_firstOfLeast yX2_firstOfLeast ∈ gTbl ∧ ∃ r, vwCl[2]? = some r ∧ r.1 = yX2_firstOfLeast.cls := ⟨cs_X2_firstOfLeast, (gt3 199 rfl rfl), (gt3 197 rfl rfl), (gtS 12 rfl rfl), _, rfl, rfl⟩
theorem sv_RL_101 : CS mX11_used 2 ∧ Cond.instanceMethod yX11_used ∈ gTbl ∧ Cond.methodLink RL 101 yX11_used ∈ gTbl ∧ Cond.selects yX11_used.cls yX11_used yX11_used ∈ gTbl ∧ ∃ r, vwCl[10]? = some r ∧ r.1 = yX11_used.cls := ⟨cs_X11_used, (gt3 202 rfl rfl), (gt3 201 rfl rfl), (gt3 203 rfl rfl), _, rfl, rfl⟩
theorem sv_RX11_273 : CS mX2_spentBy 1 ∧ Cond.instanceMethod yX2_spentBy ∈ gTbl ∧ Cond.methodLink RX11 273 yX2_spentBy ∈ gTbl ∧ Cond.selects yX2_spentBy.cls yX2_spentBy yX2_spentBy ∈ gTbl ∧ ∃ r, vwCl[2]? = some r ∧ r.1 = yX2_spentBy.cls := ⟨cs_X2_spentBy, (gt3 206 rfl rfl), (gt3 205 rfl rfl), (gt3 207 rfl rfl), _, rfl, rfl⟩
theorem ss_RX2_75 : CS mX11_spellRow 3 ∧ Cond.static yX11_spellRow ∈ gTbl ∧ (Cond.methodLink RX2 75 yX11_spellRow ∈ gTbl ∨ (RX2, 75, yX11_spellRow) ∈ mnTbl) := ⟨cs_X11_spellRow, (gt3 35 rfl rfl), (Or.inr (List.mem_of_getElem? (i := 18) rfl))⟩
theorem sv_RL_105 : CS mX11_heads 1 ∧ Cond.instanceMethod yX11_heads ∈ gTbl ∧ Cond.methodLink RL 105 yX11_heads ∈ gTbl ∧ Cond.selects yX11_heads.cls yX11_heads yX11_heads ∈ gTbl ∧ ∃ r, vwCl[10]? = some r ∧ r.1 = yX11_heads.cls := ⟨cs_X11_heads, (gt3 211 rfl rfl), (gt3 210 rfl rfl), (gt3 212 rfl rfl), _, rfl, rfl⟩
theorem sv_RX11_276 : CS mX2_howMany 0 ∧ Cond.instanceMethod yX2_howMany ∈ gTbl ∧ Cond.methodLink RX11 276 yX2_howMany ∈ gTbl ∧ Cond.selects yX2_howMany.cls yX2_howMany yX2_howMany ∈ gTbl ∧ ∃ r, vwCl[2]? = some r ∧ r.1 = yX2_howMany.cls := ⟨cs_X2_howMany, (gt3 215 rfl rfl), (gt3 214 rfl rfl), (gt3 216 rfl rfl), _, rfl, rfl⟩
theorem sv_RX2_79 : CS mX2_howManyOnward 1 ∧ Cond.instanceMethod yX2_howManyOnward ∈ gTbl ∧ Cond.methodLink RX2 79 yX2_howManyOnward ∈ gTbl ∧ Cond.selects yX2_howManyOnward.cls yX2_howManyOnward yX2_howManyOnward ∈ gTbl ∧ ∃ r, vwCl[2]? = some r ∧ r.1 = yX2_howManyOnward.cls := ⟨cs_X2_howManyOnward, (gt3 220 rfl rfl), (gt3 218 rfl rfl), (gtS 13 rfl rfl), _, rfl, rfl⟩
theorem sv_RL_109 : CS mX11_feed 1 ∧ Cond.instanceMethod yX11_feed ∈ gTbl ∧ Cond.methodLink RL 109 yX11_feed ∈ gTbl ∧ Cond.selects yX11_feed.cls yX11_feed yX11_feed ∈ gTbl ∧ ∃ r, vwCl[10]? = some r ∧ r.1 = yX11_feed.cls := ⟨cs_X11_feed, (gt3 223 rfl rfl), (gt3 222 rfl rfl), (gt3 224 rfl rfl), _, rfl, rfl⟩
theorem sv_RX11_278 : CS mX8_append 1 ∧ Cond.instanceMethod yX8_append ∈ gTbl ∧ Cond.methodLink RX11 278 yX8_append ∈ gTbl ∧ Cond.selects yX8_append.cls yX8_append yX8_append ∈ gTbl ∧ ∃ r, vwCl[8]? = some r ∧ r.1 = yX8_append.cls := ⟨cs_X8_append, (gt3 227 rfl rfl), (gt3 226 rfl rfl), (gt3 228 rfl rfl), _, rfl, rfl⟩
theorem sv_RL_113 : CS mX11_read 0 ∧ Cond.instanceMethod yX11_read ∈ gTbl ∧ Cond.methodLink RL 113 yX11_read ∈ gTbl ∧ Cond.selects yX11_read.cls yX11_read yX11_read ∈ gTbl ∧ ∃ r, vwCl[10]? = some r ∧ r.1 = yX11_read.cls := ⟨cs_X11_read, (gt3 231 rfl rfl), (gt3 230 rfl rfl), (gt3 232 rfl rfl), _, rfl, rfl⟩
theorem sv_RX11_282 : CS mX8_parse 0 ∧ Cond.instanceMethod yX8_parse ∈ gTbl ∧ Cond.methodLink RX11 282 yX8_parse ∈ gTbl ∧ Cond.selects yX8_parse.cls yX8_parse yX8_parse ∈ gTbl ∧ ∃ r, vwCl[8]? = some r ∧ r.1 = yX8_parse.cls := ⟨cs_X8_parse, (gt3 235 rfl rfl), (gt3 234 rfl rfl), (gt3 236 rfl rfl), _, rfl, rfl⟩
theorem sv_RX8_37 : CS mX8_parseStatement 1 ∧ Cond.instanceMethod yX8_parseStatement ∈ gTbl ∧ Cond.methodLink RX8 37 yX8_parseStatement ∈ gTbl ∧ Cond.selects yX8_parseStatement.cls yX8_parseStatement yX8_parseStatement ∈ gTbl ∧ ∃ r, vwCl[8]? = some r ∧ r.1 = yX8_parseStatement.cls := ⟨cs_X8_parseStatement, (gt4 0 rfl rfl), (gt3 238 rfl rfl), (gtS 14 rfl rfl), _, rfl, rfl⟩
theorem sv_RX8_44 : CS mX8_peek 0 ∧ Cond.instanceMethod yX8_peek ∈ gTbl ∧ Cond.methodLink RX8 44 yX8_peek ∈ gTbl ∧ Cond.selects yX8_peek.cls yX8_peek yX8_peek ∈ gTbl ∧ ∃ r, vwCl[8]? = some r ∧ r.1 = yX8_peek.cls := ⟨cs_X8_peek, (gt4 4 rfl rfl), (gt4 2 rfl rfl), (gtS 15 rfl rfl), _, rfl, rfl⟩
theorem ss_RX8_48 : CS mX8_howManyNumbers 1 ∧ Cond.static yX8_howManyNumbers ∈ gTbl ∧ (Cond.methodLink RX8 48 yX8_howManyNumbers ∈ gTbl ∨ (RX8, 48, yX8_howManyNumbers) ∈ mnTbl) := ⟨cs_X8_howManyNumbers, (gt4 7 rfl rfl), (Or.inl (gt4 6 rfl rfl))⟩
theorem sv_RX8_41 : CS mX8_pass 1 ∧ Cond.instanceMethod yX8_pass ∈ gTbl ∧ Cond.methodLink RX8 41 yX8_pass ∈ gTbl ∧ Cond.selects yX8_pass.cls yX8_pass yX8_pass ∈ gTbl ∧ ∃ r, vwCl[8]? = some r ∧ r.1 = yX8_pass.cls := ⟨cs_X8_pass, (gt4 11 rfl rfl), (gt4 9 rfl rfl), (gtS 16 rfl rfl), _, rfl, rfl⟩
theorem sv_RX8_52 : CS mX8_parseNumber 2 ∧ Cond.instanceMethod yX8_parseNumber ∈ gTbl ∧ Cond.methodLink RX8 52 yX8_parseNumber ∈ gTbl ∧ Cond.selects yX8_parseNumber.cls yX8_parseNumber yX8_parseNumber ∈ gTbl ∧ ∃ r, vwCl[8]? = some r ∧ r.1 = yX8_parseNumber.cls := ⟨cs_X8_parseNumber, (gt4 15 rfl rfl), (gt4 13 rfl rfl), (gtS 17 rfl rfl), _, rfl, rfl⟩
theorem ss_RX8_56 : CS mX11_isIn 3 ∧ Cond.static yX11_isIn ∈ gTbl ∧ (Cond.methodLink RX8 56 yX11_isIn ∈ gTbl ∨ (RX8, 56, yX11_isIn) ∈ mnTbl) := ⟨cs_X11_isIn, (gt1 236 rfl rfl), (Or.inr (List.mem_of_getElem? (i := 19) rfl))⟩
theorem sv_RX11_289 : CS mX8_firstUndoable 1 ∧ Cond.instanceMethod yX8_firstUndoable ∈ gTbl ∧ Cond.methodLink RX11 289 yX8_firstUndoable ∈ gTbl ∧ Cond.selects yX8_firstUndoable.cls yX8_firstUndoable yX8_firstUndoable ∈ gTbl ∧ ∃ r, vwCl[8]? = some r ∧ r.1 = yX8_firstUndoable.cls := ⟨cs_X8_firstUndoable, (gt4 19 rfl rfl), (gt4 18 rfl rfl), (gt4 20 rfl rfl), _, rfl, rfl⟩
theorem ss_RX8_71 : CS mX8_isInBounds 2 ∧ Cond.static yX8_isInBounds ∈ gTbl ∧ (Cond.methodLink RX8 71 yX8_isInBounds ∈ gTbl ∨ (RX8, 71, yX8_isInBounds) ∈ mnTbl) := ⟨cs_X8_isInBounds, (gt4 23 rfl rfl), (Or.inl (gt4 22 rfl rfl))⟩
theorem ss_RX8_75 : CS mX6_canBe 4 ∧ Cond.static yX6_canBe ∈ gTbl ∧ (Cond.methodLink RX8 75 yX6_canBe ∈ gTbl ∨ (RX8, 75, yX6_canBe) ∈ mnTbl) := ⟨cs_X6_canBe, (gt1 233 rfl rfl), (Or.inl (gt4 25 rfl rfl))⟩
theorem ss_RX8_81 : CS mX3_canBe 3 ∧ Cond.static yX3_canBe ∈ gTbl ∧ (Cond.methodLink RX8 81 yX3_canBe ∈ gTbl ∨ (RX8, 81, yX3_canBe) ∈ mnTbl) := ⟨cs_X3_canBe, (gt2 33 rfl rfl), (Or.inl (gt4 26 rfl rfl))⟩
theorem ss_RX8_85 : CS mX0_canBe 1 ∧ Cond.static yX0_canBe ∈ gTbl ∧ (Cond.methodLink RX8 85 yX0_canBe ∈ gTbl ∨ (RX8, 85, yX0_canBe) ∈ mnTbl) := ⟨cs_X0_canBe, (gt2 67 rfl rfl), (Or.inl (gt4 27 rfl rfl))⟩
theorem ss_RX8_89 : CS mX11_canRule 2 ∧ Cond.static yX11_canRule ∈ gTbl ∧ (Cond.methodLink RX8 89 yX11_canRule ∈ gTbl ∨ (RX8, 89, yX11_canRule) ∈ mnTbl) := ⟨cs_X11_canRule, (gt2 92 rfl rfl), (Or.inr (List.mem_of_getElem? (i := 20) rfl))⟩
theorem sv_RX11_293 : CS mX8_carryOut 1 ∧ Cond.instanceMethod yX8_carryOut ∈ gTbl ∧ Cond.methodLink RX11 293 yX8_carryOut ∈ gTbl ∧ Cond.selects yX8_carryOut.cls yX8_carryOut yX8_carryOut ∈ gTbl ∧ ∃ r, vwCl[8]? = some r ∧ r.1 = yX8_carryOut.cls := ⟨cs_X8_carryOut, (gt4 30 rfl rfl), (gt4 29 rfl rfl), (gt4 31 rfl rfl), _, rfl, rfl⟩
theorem sl_RX8_76 : Cond.classLink RX8 76 RX6 ∈ gTbl := (gt4 33 rfl rfl)
theorem sn_RX8_76 : NC RX8 76 6 4 := by
  refine ⟨_, rfl, rfl, sl_RX8_76, (gt1 239 rfl rfl), (gt1 10 rfl rfl), cw_6, fun j hj => ?_⟩
  match j, hj with
  | 0, _ => exact ⟨fun h => by first | rfl | (revert h; decide), fun h => by first | rfl | (exact absurd rfl h)⟩
  | 1, _ => exact ⟨fun h => by first | rfl | (revert h; decide), fun h => by first | rfl | (exact absurd rfl h)⟩
  | 2, _ => exact ⟨fun h => by first | rfl | (revert h; decide), fun h => by first | rfl | (exact absurd rfl h)⟩
  | 3, _ => exact ⟨fun h => by first | rfl | (revert h; decide), fun h => by first | rfl | (exact absurd rfl h)⟩
  | n + 4, h => exact absurd h (by show ¬ n + 4 < 4; omega)
theorem si_RX8_92 : CS mX6_init 4 ∧ mX6_init.2.2.2 = none ∧ mX6_init.2.1.name = "<init>" ∧ Cond.instanceMethod yX6_init ∈ gTbl ∧ (Cond.methodLink RX8 92 yX6_init ∈ gTbl ∨ (RX8, 92, yX6_init) ∈ mnTbl) := ⟨cs_X6_init, rfl, rfl, (gt2 1 rfl rfl), (Or.inl (gt4 34 rfl rfl))⟩
theorem sv_RX8_95 : CS mX7_addStave 1 ∧ Cond.instanceMethod yX7_addStave ∈ gTbl ∧ Cond.methodLink RX8 95 yX7_addStave ∈ gTbl ∧ Cond.selects yX7_addStave.cls yX7_addStave yX7_addStave ∈ gTbl ∧ ∃ r, vwCl[7]? = some r ∧ r.1 = yX7_addStave.cls := ⟨cs_X7_addStave, (gt2 25 rfl rfl), (gt4 35 rfl rfl), (gt2 26 rfl rfl), _, rfl, rfl⟩
theorem sl_RX8_82 : Cond.classLink RX8 82 RX3 ∈ gTbl := (gt4 36 rfl rfl)
theorem sn_RX8_82 : NC RX8 82 3 3 := by
  refine ⟨_, rfl, rfl, sl_RX8_82, (gt2 37 rfl rfl), (gt1 11 rfl rfl), cw_3, fun j hj => ?_⟩
  match j, hj with
  | 0, _ => exact ⟨fun h => by first | rfl | (revert h; decide), fun h => by first | rfl | (exact absurd rfl h)⟩
  | 1, _ => exact ⟨fun h => by first | rfl | (revert h; decide), fun h => by first | rfl | (exact absurd rfl h)⟩
  | 2, _ => exact ⟨fun h => by first | rfl | (revert h; decide), fun h => by first | rfl | (exact absurd rfl h)⟩
  | n + 3, h => exact absurd h (by show ¬ n + 3 < 3; omega)
theorem si_RX8_99 : CS mX3_init 3 ∧ mX3_init.2.2.2 = none ∧ mX3_init.2.1.name = "<init>" ∧ Cond.instanceMethod yX3_init ∈ gTbl ∧ (Cond.methodLink RX8 99 yX3_init ∈ gTbl ∨ (RX8, 99, yX3_init) ∈ mnTbl) := ⟨cs_X3_init, rfl, rfl, (gt2 39 rfl rfl), (Or.inl (gt4 37 rfl rfl))⟩
theorem sv_RX8_102 : CS mX7_addHoop 1 ∧ Cond.instanceMethod yX7_addHoop ∈ gTbl ∧ Cond.methodLink RX8 102 yX7_addHoop ∈ gTbl ∧ Cond.selects yX7_addHoop.cls yX7_addHoop yX7_addHoop ∈ gTbl ∧ ∃ r, vwCl[7]? = some r ∧ r.1 = yX7_addHoop.cls := ⟨cs_X7_addHoop, (gt2 59 rfl rfl), (gt4 38 rfl rfl), (gt2 60 rfl rfl), _, rfl, rfl⟩
theorem sl_RX8_86 : Cond.classLink RX8 86 RX0 ∈ gTbl := (gt4 39 rfl rfl)
theorem sn_RX8_86 : NC RX8 86 0 1 := by
  refine ⟨_, rfl, rfl, sl_RX8_86, (gt2 71 rfl rfl), (gt1 12 rfl rfl), cw_0, fun j hj => ?_⟩
  match j, hj with
  | 0, _ => exact ⟨fun h => by first | rfl | (revert h; decide), fun h => by first | rfl | (exact absurd rfl h)⟩
  | n + 1, h => exact absurd h (by show ¬ n + 1 < 1; omega)
theorem si_RX8_106 : CS mX0_init 1 ∧ mX0_init.2.2.2 = none ∧ mX0_init.2.1.name = "<init>" ∧ Cond.instanceMethod yX0_init ∈ gTbl ∧ (Cond.methodLink RX8 106 yX0_init ∈ gTbl ∨ (RX8, 106, yX0_init) ∈ mnTbl) := ⟨cs_X0_init, rfl, rfl, (gt2 73 rfl rfl), (Or.inl (gt4 40 rfl rfl))⟩
theorem sv_RX8_109 : CS mX7_addBoard 1 ∧ Cond.instanceMethod yX7_addBoard ∈ gTbl ∧ Cond.methodLink RX8 109 yX7_addBoard ∈ gTbl ∧ Cond.selects yX7_addBoard.cls yX7_addBoard yX7_addBoard ∈ gTbl ∧ ∃ r, vwCl[7]? = some r ∧ r.1 = yX7_addBoard.cls := ⟨cs_X7_addBoard, (gt2 83 rfl rfl), (gt4 41 rfl rfl), (gt2 84 rfl rfl), _, rfl, rfl⟩
theorem sv_RL_118 : CS mX11_hang 3 ∧ Cond.instanceMethod yX11_hang ∈ gTbl ∧ Cond.methodLink RL 118 yX11_hang ∈ gTbl ∧ Cond.selects yX11_hang.cls yX11_hang yX11_hang ∈ gTbl ∧ ∃ r, vwCl[10]? = some r ∧ r.1 = yX11_hang.cls := ⟨cs_X11_hang, (gt4 43 rfl rfl), (gt4 42 rfl rfl), (gt4 44 rfl rfl), _, rfl, rfl⟩
theorem ss_RX11_299 : CS mX11_isPeg 1 ∧ Cond.static yX11_isPeg ∈ gTbl ∧ (Cond.methodLink RX11 299 yX11_isPeg ∈ gTbl ∨ (RX11, 299, yX11_isPeg) ∈ mnTbl) := ⟨cs_X11_isPeg, (gt4 47 rfl rfl), (Or.inl (gt4 46 rfl rfl))⟩
theorem sv_RX11_302 : CS mX7_thingAt 2 ∧ Cond.instanceMethod yX7_thingAt ∈ gTbl ∧ Cond.methodLink RX11 302 yX7_thingAt ∈ gTbl ∧ Cond.selects yX7_thingAt.cls yX7_thingAt yX7_thingAt ∈ gTbl ∧ ∃ r, vwCl[7]? = some r ∧ r.1 = yX7_thingAt.cls := ⟨cs_X7_thingAt, (gt4 50 rfl rfl), (gt4 49 rfl rfl), (gt4 51 rfl rfl), _, rfl, rfl⟩
theorem sv_RX7_43 : CS mX7_staveAt 1 ∧ Cond.instanceMethod yX7_staveAt ∈ gTbl ∧ Cond.methodLink RX7 43 yX7_staveAt ∈ gTbl ∧ Cond.selects yX7_staveAt.cls yX7_staveAt yX7_staveAt ∈ gTbl ∧ ∃ r, vwCl[7]? = some r ∧ r.1 = yX7_staveAt.cls := ⟨cs_X7_staveAt, (gt2 107 rfl rfl), (gt4 53 rfl rfl), (gt2 108 rfl rfl), _, rfl, rfl⟩
theorem sv_RX7_47 : CS mX7_hoopAt 1 ∧ Cond.instanceMethod yX7_hoopAt ∈ gTbl ∧ Cond.methodLink RX7 47 yX7_hoopAt ∈ gTbl ∧ Cond.selects yX7_hoopAt.cls yX7_hoopAt yX7_hoopAt ∈ gTbl ∧ ∃ r, vwCl[7]? = some r ∧ r.1 = yX7_hoopAt.cls := ⟨cs_X7_hoopAt, (gt3 81 rfl rfl), (gt4 54 rfl rfl), (gt3 82 rfl rfl), _, rfl, rfl⟩
theorem sv_RX7_51 : CS mX7_boardAt 1 ∧ Cond.instanceMethod yX7_boardAt ∈ gTbl ∧ Cond.methodLink RX7 51 yX7_boardAt ∈ gTbl ∧ Cond.selects yX7_boardAt.cls yX7_boardAt yX7_boardAt ∈ gTbl ∧ ∃ r, vwCl[7]? = some r ∧ r.1 = yX7_boardAt.cls := ⟨cs_X7_boardAt, (gt3 167 rfl rfl), (gt4 55 rfl rfl), (gt3 168 rfl rfl), _, rfl, rfl⟩
theorem sv_RL_122 : CS mX11_tray 3 ∧ Cond.instanceMethod yX11_tray ∈ gTbl ∧ Cond.methodLink RL 122 yX11_tray ∈ gTbl ∧ Cond.selects yX11_tray.cls yX11_tray yX11_tray ∈ gTbl ∧ ∃ r, vwCl[10]? = some r ∧ r.1 = yX11_tray.cls := ⟨cs_X11_tray, (gt4 57 rfl rfl), (gt4 56 rfl rfl), (gt4 58 rfl rfl), _, rfl, rfl⟩
theorem sl_RX11_306 : Cond.classLink RX11 306 RX10 ∈ gTbl := (gt4 60 rfl rfl)
theorem sn_RX11_306 : NC RX11 306 9 2 := by
  refine ⟨_, rfl, rfl, sl_RX11_306, (gt4 61 rfl rfl), (gt1 16 rfl rfl), cw_9, fun j hj => ?_⟩
  match j, hj with
  | 0, _ => exact ⟨fun h => by first | rfl | (revert h; decide), fun h => by first | rfl | (exact absurd rfl h)⟩
  | 1, _ => exact ⟨fun h => by first | rfl | (revert h; decide), fun h => by first | rfl | (exact absurd rfl h)⟩
  | n + 2, h => exact absurd h (by show ¬ n + 2 < 2; omega)
theorem si_RX11_308 : CS mX10_init 2 ∧ mX10_init.2.2.2 = none ∧ mX10_init.2.1.name = "<init>" ∧ Cond.instanceMethod yX10_init ∈ gTbl ∧ (Cond.methodLink RX11 308 yX10_init ∈ gTbl ∨ (RX11, 308, yX10_init) ∈ mnTbl) := ⟨cs_X10_init, rfl, rfl, (gt4 63 rfl rfl), (Or.inl (gt4 62 rfl rfl))⟩
theorem si_RX10_3 : CS mX9_init 0 ∧ mX9_init.2.2.2 = none ∧ mX9_init.2.1.name = "<init>" ∧ Cond.instanceMethod yX9_init ∈ gTbl ∧ (Cond.methodLink RX10 3 yX9_init ∈ gTbl ∨ (RX10, 3, yX9_init) ∈ mnTbl) := ⟨cs_X9_init, rfl, rfl, (gt2 4 rfl rfl), (Or.inr (List.mem_of_getElem? (i := 21) rfl))⟩
theorem sm_RX10_15 : Cond.methodLink RX10 15 yJ9_min_7cf53 ∈ gTbl := (gt4 66 rfl rfl)
theorem ss_RX10_15 : CS mJ9_min_7cf53 2 ∧ Cond.static yJ9_min_7cf53 ∈ gTbl ∧ (Cond.methodLink RX10 15 yJ9_min_7cf53 ∈ gTbl ∨ (RX10, 15, yJ9_min_7cf53) ∈ mnTbl) := ⟨cs_J9_min_7cf53, (gt3 8 rfl rfl), (Or.inl (gt4 66 rfl rfl))⟩
theorem sm_RX10_21 : Cond.methodLink RX10 21 yJ9_max_7cf53 ∈ gTbl := (gt4 67 rfl rfl)
theorem ss_RX10_21 : CS mJ9_max_7cf53 2 ∧ Cond.static yJ9_max_7cf53 ∈ gTbl ∧ (Cond.methodLink RX10 21 yJ9_max_7cf53 ∈ gTbl ∨ (RX10, 21, yJ9_max_7cf53) ∈ mnTbl) := ⟨cs_J9_max_7cf53, (gt2 115 rfl rfl), (Or.inl (gt4 67 rfl rfl))⟩
theorem sf_RX10_9 : FL RX10 9 9 0 := ⟨_, rfl, by decide, (gt4 68 rfl rfl), cw_9⟩
theorem sp_RX10_9 : PF RX10 "<init>" 9 9 0 "I" := ⟨sf_RX10_9, _, rfl, rfl, Or.inr ⟨rfl, rfl, rfl⟩⟩
theorem sf_RX11_358 : FL RX11 358 9 0 := ⟨_, rfl, by decide, (gt4 69 rfl rfl), cw_9⟩
theorem sf_RX10_24 : FL RX10 24 9 1 := ⟨_, rfl, by decide, (gt4 70 rfl rfl), cw_9⟩
theorem sp_RX10_24 : PF RX10 "<init>" 24 9 1 "[J" := ⟨sf_RX10_24, _, rfl, rfl, Or.inr ⟨rfl, rfl, rfl⟩⟩
theorem sf_RX11_342 : FL RX11 342 9 1 := ⟨_, rfl, by decide, (gt4 71 rfl rfl), cw_9⟩
theorem sv_RL_126 : CS mX11_held 1 ∧ Cond.instanceMethod yX11_held ∈ gTbl ∧ Cond.methodLink RL 126 yX11_held ∈ gTbl ∧ Cond.selects yX11_held.cls yX11_held yX11_held ∈ gTbl ∧ ∃ r, vwCl[10]? = some r ∧ r.1 = yX11_held.cls := ⟨cs_X11_held, (gt4 79 rfl rfl), (gt4 78 rfl rfl), (gt4 80 rfl rfl), _, rfl, rfl⟩
theorem sv_RL_130 : CS mX11_as 3 ∧ Cond.instanceMethod yX11_as ∈ gTbl ∧ Cond.methodLink RL 130 yX11_as ∈ gTbl ∧ Cond.selects yX11_as.cls yX11_as yX11_as ∈ gTbl ∧ ∃ r, vwCl[10]? = some r ∧ r.1 = yX11_as.cls := ⟨cs_X11_as, (gt4 98 rfl rfl), (gt4 97 rfl rfl), (gt4 99 rfl rfl), _, rfl, rfl⟩
theorem ss_RX11_314 : CS mX11_kindsOf 1 ∧ Cond.static yX11_kindsOf ∈ gTbl ∧ (Cond.methodLink RX11 314 yX11_kindsOf ∈ gTbl ∨ (RX11, 314, yX11_kindsOf) ∈ mnTbl) := ⟨cs_X11_kindsOf, (gt4 102 rfl rfl), (Or.inl (gt4 101 rfl rfl))⟩
theorem sg_RX11_317 : Cond.fieldLink RX11 317 RX11 "STAVE_UNDER" "[I" ∈ gTbl := (gt4 104 rfl rfl)
theorem sg_RX11_324 : Cond.fieldLink RX11 324 RX11 "HOOP_UNDER" "[I" ∈ gTbl := (gt4 106 rfl rfl)
theorem ss_RX11_320 : CS mX11_isUnder 3 ∧ Cond.static yX11_isUnder ∈ gTbl ∧ (Cond.methodLink RX11 320 yX11_isUnder ∈ gTbl ∨ (RX11, 320, yX11_isUnder) ∈ mnTbl) := ⟨cs_X11_isUnder, (gt4 109 rfl rfl), (Or.inl (gt4 108 rfl rfl))⟩
theorem sv_RL_136 : CS mX11_put 3 ∧ Cond.instanceMethod yX11_put ∈ gTbl ∧ Cond.methodLink RL 136 yX11_put ∈ gTbl ∧ Cond.selects yX11_put.cls yX11_put yX11_put ∈ gTbl ∧ ∃ r, vwCl[10]? = some r ∧ r.1 = yX11_put.cls := ⟨cs_X11_put, (gt4 112 rfl rfl), (gt4 111 rfl rfl), (gt4 113 rfl rfl), _, rfl, rfl⟩
theorem sv_RX11_328 : CS mX11_trayOn 1 ∧ Cond.instanceMethod yX11_trayOn ∈ gTbl ∧ Cond.methodLink RX11 328 yX11_trayOn ∈ gTbl ∧ Cond.selects yX11_trayOn.cls yX11_trayOn yX11_trayOn ∈ gTbl ∧ ∃ r, vwCl[10]? = some r ∧ r.1 = yX11_trayOn.cls := ⟨cs_X11_trayOn, (gt4 117 rfl rfl), (gt4 115 rfl rfl), (gtS 18 rfl rfl), _, rfl, rfl⟩
theorem sv_RX11_332 : CS mX11_lackOfTray 1 ∧ Cond.instanceMethod yX11_lackOfTray ∈ gTbl ∧ Cond.methodLink RX11 332 yX11_lackOfTray ∈ gTbl ∧ Cond.selects yX11_lackOfTray.cls yX11_lackOfTray yX11_lackOfTray ∈ gTbl ∧ ∃ r, vwCl[10]? = some r ∧ r.1 = yX11_lackOfTray.cls := ⟨cs_X11_lackOfTray, (gt4 121 rfl rfl), (gt4 119 rfl rfl), (gtS 19 rfl rfl), _, rfl, rfl⟩
theorem sv_RX11_335 : CS mX10_hasItem 1 ∧ Cond.instanceMethod yX10_hasItem ∈ gTbl ∧ Cond.methodLink RX11 335 yX10_hasItem ∈ gTbl ∧ Cond.selects yX10_hasItem.cls yX10_hasItem yX10_hasItem ∈ gTbl ∧ ∃ r, vwCl[9]? = some r ∧ r.1 = yX10_hasItem.cls := ⟨cs_X10_hasItem, (gt4 124 rfl rfl), (gt4 123 rfl rfl), (gt4 125 rfl rfl), _, rfl, rfl⟩
theorem sv_RX11_338 : CS mX10_lay 2 ∧ Cond.instanceMethod yX10_lay ∈ gTbl ∧ Cond.methodLink RX11 338 yX10_lay ∈ gTbl ∧ Cond.selects yX10_lay.cls yX10_lay yX10_lay ∈ gTbl ∧ ∃ r, vwCl[9]? = some r ∧ r.1 = yX10_lay.cls := ⟨cs_X10_lay, (gt4 128 rfl rfl), (gt4 127 rfl rfl), (gt4 129 rfl rfl), _, rfl, rfl⟩
theorem sv_RX10_28 : CS mX10_hasItem 1 ∧ Cond.instanceMethod yX10_hasItem ∈ gTbl ∧ Cond.methodLink RX10 28 yX10_hasItem ∈ gTbl ∧ Cond.selects yX10_hasItem.cls yX10_hasItem yX10_hasItem ∈ gTbl ∧ ∃ r, vwCl[9]? = some r ∧ r.1 = yX10_hasItem.cls := ⟨cs_X10_hasItem, (gt4 124 rfl rfl), (gt4 131 rfl rfl), (gt4 125 rfl rfl), _, rfl, rfl⟩
theorem sv_RL_141 : CS mX11_get 2 ∧ Cond.instanceMethod yX11_get ∈ gTbl ∧ Cond.methodLink RL 141 yX11_get ∈ gTbl ∧ Cond.selects yX11_get.cls yX11_get yX11_get ∈ gTbl ∧ ∃ r, vwCl[10]? = some r ∧ r.1 = yX11_get.cls := ⟨cs_X11_get, (gt4 133 rfl rfl), (gt4 132 rfl rfl), (gt4 134 rfl rfl), _, rfl, rfl⟩
theorem sk_RX11_346 : Cond.constantLong RX11 346 (-9223372036854775808) ∈ gTbl := (gt4 136 rfl rfl)
theorem sv_RL_146 : CS mX11_fill 3 ∧ Cond.instanceMethod yX11_fill ∈ gTbl ∧ Cond.methodLink RL 146 yX11_fill ∈ gTbl ∧ Cond.selects yX11_fill.cls yX11_fill yX11_fill ∈ gTbl ∧ ∃ r, vwCl[10]? = some r ∧ r.1 = yX11_fill.cls := ⟨cs_X11_fill, (gt4 138 rfl rfl), (gt4 137 rfl rfl), (gt4 139 rfl rfl), _, rfl, rfl⟩
theorem sv_RX11_348 : CS mX11_lackForRing 3 ∧ Cond.instanceMethod yX11_lackForRing ∈ gTbl ∧ Cond.methodLink RX11 348 yX11_lackForRing ∈ gTbl ∧ Cond.selects yX11_lackForRing.cls yX11_lackForRing yX11_lackForRing ∈ gTbl ∧ ∃ r, vwCl[10]? = some r ∧ r.1 = yX11_lackForRing.cls := ⟨cs_X11_lackForRing, (gt4 143 rfl rfl), (gt4 141 rfl rfl), (gtS 20 rfl rfl), _, rfl, rfl⟩
theorem sm_RX11_353 : Cond.methodLink RX11 353 yJ9_min_7cf53 ∈ gTbl := (gt4 145 rfl rfl)
theorem ss_RX11_353 : CS mJ9_min_7cf53 2 ∧ Cond.static yJ9_min_7cf53 ∈ gTbl ∧ (Cond.methodLink RX11 353 yJ9_min_7cf53 ∈ gTbl ∨ (RX11, 353, yJ9_min_7cf53) ∈ mnTbl) := ⟨cs_J9_min_7cf53, (gt3 8 rfl rfl), (Or.inl (gt4 145 rfl rfl))⟩
theorem sv_RL_150 : CS mX11_judge 3 ∧ Cond.instanceMethod yX11_judge ∈ gTbl ∧ Cond.methodLink RL 150 yX11_judge ∈ gTbl ∧ Cond.selects yX11_judge.cls yX11_judge yX11_judge ∈ gTbl ∧ ∃ r, vwCl[10]? = some r ∧ r.1 = yX11_judge.cls := ⟨cs_X11_judge, (gt4 147 rfl rfl), (gt4 146 rfl rfl), (gt4 148 rfl rfl), _, rfl, rfl⟩
theorem sv_RL_154 : CS mX11_move 5 ∧ Cond.instanceMethod yX11_move ∈ gTbl ∧ Cond.methodLink RL 154 yX11_move ∈ gTbl ∧ Cond.selects yX11_move.cls yX11_move yX11_move ∈ gTbl ∧ ∃ r, vwCl[10]? = some r ∧ r.1 = yX11_move.cls := ⟨cs_X11_move, (gt4 151 rfl rfl), (gt4 150 rfl rfl), (gt4 152 rfl rfl), _, rfl, rfl⟩
theorem sv_RX11_361 : CS mX10_hasRun 2 ∧ Cond.instanceMethod yX10_hasRun ∈ gTbl ∧ Cond.methodLink RX11 361 yX10_hasRun ∈ gTbl ∧ Cond.selects yX10_hasRun.cls yX10_hasRun yX10_hasRun ∈ gTbl ∧ ∃ r, vwCl[9]? = some r ∧ r.1 = yX10_hasRun.cls := ⟨cs_X10_hasRun, (gt4 155 rfl rfl), (gt4 154 rfl rfl), (gt4 156 rfl rfl), _, rfl, rfl⟩
theorem sv_RL_159 : CS mX11_image 0 ∧ Cond.instanceMethod yX11_image ∈ gTbl ∧ Cond.methodLink RL 159 yX11_image ∈ gTbl ∧ Cond.selects yX11_image.cls yX11_image yX11_image ∈ gTbl ∧ ∃ r, vwCl[10]? = some r ∧ r.1 = yX11_image.cls := ⟨cs_X11_image, (gt4 162 rfl rfl), (gt4 161 rfl rfl), (gt4 163 rfl rfl), _, rfl, rfl⟩
theorem sv_RX11_370 : CS mX7_becomeLike 1 ∧ Cond.instanceMethod yX7_becomeLike ∈ gTbl ∧ Cond.methodLink RX11 370 yX7_becomeLike ∈ gTbl ∧ Cond.selects yX7_becomeLike.cls yX7_becomeLike yX7_becomeLike ∈ gTbl ∧ ∃ r, vwCl[7]? = some r ∧ r.1 = yX7_becomeLike.cls := ⟨cs_X7_becomeLike, (gt4 166 rfl rfl), (gt4 165 rfl rfl), (gt4 167 rfl rfl), _, rfl, rfl⟩
theorem sv_RX7_55 : CS mX6_twin 0 ∧ Cond.instanceMethod yX6_twin ∈ gTbl ∧ Cond.methodLink RX7 55 yX6_twin ∈ gTbl ∧ Cond.selects yX6_twin.cls yX6_twin yX6_twin ∈ gTbl ∧ ∃ r, vwCl[6]? = some r ∧ r.1 = yX6_twin.cls := ⟨cs_X6_twin, (gt4 170 rfl rfl), (gt4 169 rfl rfl), (gt4 171 rfl rfl), _, rfl, rfl⟩
theorem sl_RX6_8 : Cond.classLink RX6 8 RX6 ∈ gTbl := (gt4 173 rfl rfl)
theorem sn_RX6_8 : NC RX6 8 6 4 := by
  refine ⟨_, rfl, rfl, sl_RX6_8, (gt1 239 rfl rfl), (gt1 10 rfl rfl), cw_6, fun j hj => ?_⟩
  match j, hj with
  | 0, _ => exact ⟨fun h => by first | rfl | (revert h; decide), fun h => by first | rfl | (exact absurd rfl h)⟩
  | 1, _ => exact ⟨fun h => by first | rfl | (revert h; decide), fun h => by first | rfl | (exact absurd rfl h)⟩
  | 2, _ => exact ⟨fun h => by first | rfl | (revert h; decide), fun h => by first | rfl | (exact absurd rfl h)⟩
  | 3, _ => exact ⟨fun h => by first | rfl | (revert h; decide), fun h => by first | rfl | (exact absurd rfl h)⟩
  | n + 4, h => exact absurd h (by show ¬ n + 4 < 4; omega)
theorem si_RX6_28 : CS mX6_init 4 ∧ mX6_init.2.2.2 = none ∧ mX6_init.2.1.name = "<init>" ∧ Cond.instanceMethod yX6_init ∈ gTbl ∧ (Cond.methodLink RX6 28 yX6_init ∈ gTbl ∨ (RX6, 28, yX6_init) ∈ mnTbl) := ⟨cs_X6_init, rfl, rfl, (gt2 1 rfl rfl), (Or.inl (gt4 174 rfl rfl))⟩
theorem sv_RL_163 : CS mX11_undo 0 ∧ Cond.instanceMethod yX11_undo ∈ gTbl ∧ Cond.methodLink RL 163 yX11_undo ∈ gTbl ∧ Cond.selects yX11_undo.cls yX11_undo yX11_undo ∈ gTbl ∧ ∃ r, vwCl[10]? = some r ∧ r.1 = yX11_undo.cls := ⟨cs_X11_undo, (gt4 176 rfl rfl), (gt4 175 rfl rfl), (gt4 177 rfl rfl), _, rfl, rfl⟩
theorem sl_RL_10 : Cond.classLink RL 10 RX12 ∈ gTbl := (gt4 179 rfl rfl)
theorem sn_RL_10 : NC RL 10 11 30 := by
  refine ⟨_, rfl, rfl, sl_RL_10, (gt4 180 rfl rfl), (gt1 8 rfl rfl), cw_11, fun j hj => ?_⟩
  match j, hj with
  | 0, _ => exact ⟨fun h => by first | rfl | (revert h; decide), fun h => by first | rfl | (exact absurd rfl h)⟩
  | 1, _ => exact ⟨fun h => by first | rfl | (revert h; decide), fun h => by first | rfl | (exact absurd rfl h)⟩
  | 2, _ => exact ⟨fun h => by first | rfl | (revert h; decide), fun h => by first | rfl | (exact absurd rfl h)⟩
  | 3, _ => exact ⟨fun h => by first | rfl | (revert h; decide), fun h => by first | rfl | (exact absurd rfl h)⟩
  | 4, _ => exact ⟨fun h => by first | rfl | (revert h; decide), fun h => by first | rfl | (exact absurd rfl h)⟩
  | 5, _ => exact ⟨fun h => by first | rfl | (revert h; decide), fun h => by first | rfl | (exact absurd rfl h)⟩
  | 6, _ => exact ⟨fun h => by first | rfl | (revert h; decide), fun h => by first | rfl | (exact absurd rfl h)⟩
  | 7, _ => exact ⟨fun h => by first | rfl | (revert h; decide), fun h => by first | rfl | (exact absurd rfl h)⟩
  | 8, _ => exact ⟨fun h => by first | rfl | (revert h; decide), fun h => by first | rfl | (exact absurd rfl h)⟩
  | 9, _ => exact ⟨fun h => by first | rfl | (revert h; decide), fun h => by first | rfl | (exact absurd rfl h)⟩
  | 10, _ => exact ⟨fun h => by first | rfl | (revert h; decide), fun h => by first | rfl | (exact absurd rfl h)⟩
  | 11, _ => exact ⟨fun h => by first | rfl | (revert h; decide), fun h => by first | rfl | (exact absurd rfl h)⟩
  | 12, _ => exact ⟨fun h => by first | rfl | (revert h; decide), fun h => by first | rfl | (exact absurd rfl h)⟩
  | 13, _ => exact ⟨fun h => by first | rfl | (revert h; decide), fun h => by first | rfl | (exact absurd rfl h)⟩
  | 14, _ => exact ⟨fun h => by first | rfl | (revert h; decide), fun h => by first | rfl | (exact absurd rfl h)⟩
  | 15, _ => exact ⟨fun h => by first | rfl | (revert h; decide), fun h => by first | rfl | (exact absurd rfl h)⟩
  | 16, _ => exact ⟨fun h => by first | rfl | (revert h; decide), fun h => by first | rfl | (exact absurd rfl h)⟩
  | 17, _ => exact ⟨fun h => by first | rfl | (revert h; decide), fun h => by first | rfl | (exact absurd rfl h)⟩
  | 18, _ => exact ⟨fun h => by first | rfl | (revert h; decide), fun h => by first | rfl | (exact absurd rfl h)⟩
  | 19, _ => exact ⟨fun h => by first | rfl | (revert h; decide), fun h => by first | rfl | (exact absurd rfl h)⟩
  | 20, _ => exact ⟨fun h => by first | rfl | (revert h; decide), fun h => by first | rfl | (exact absurd rfl h)⟩
  | 21, _ => exact ⟨fun h => by first | rfl | (revert h; decide), fun h => by first | rfl | (exact absurd rfl h)⟩
  | 22, _ => exact ⟨fun h => by first | rfl | (revert h; decide), fun h => by first | rfl | (exact absurd rfl h)⟩
  | 23, _ => exact ⟨fun h => by first | rfl | (revert h; decide), fun h => by first | rfl | (exact absurd rfl h)⟩
  | 24, _ => exact ⟨fun h => by first | rfl | (revert h; decide), fun h => by first | rfl | (exact absurd rfl h)⟩
  | 25, _ => exact ⟨fun h => by first | rfl | (revert h; decide), fun h => by first | rfl | (exact absurd rfl h)⟩
  | 26, _ => exact ⟨fun h => by first | rfl | (revert h; decide), fun h => by first | rfl | (exact absurd rfl h)⟩
  | 27, _ => exact ⟨fun h => by first | rfl | (revert h; decide), fun h => by first | rfl | (exact absurd rfl h)⟩
  | 28, _ => exact ⟨fun h => by first | rfl | (revert h; decide), fun h => by first | rfl | (exact absurd rfl h)⟩
  | 29, _ => exact ⟨fun h => by first | rfl | (revert h; decide), fun h => by first | rfl | (exact absurd rfl h)⟩
  | n + 30, h => exact absurd h (by show ¬ n + 30 < 30; omega)
theorem si_RL_12 : CS mX12_init 0 ∧ mX12_init.2.2.2 = none ∧ mX12_init.2.1.name = "<init>" ∧ Cond.instanceMethod yX12_init ∈ gTbl ∧ (Cond.methodLink RL 12 yX12_init ∈ gTbl ∨ (RL, 12, yX12_init) ∈ mnTbl) := ⟨cs_X12_init, rfl, rfl, (gt4 182 rfl rfl), (Or.inl (gt4 181 rfl rfl))⟩
theorem so_RX12_3 : Cond.methodLink RX12 3 objectInit ∈ gTbl := (gt4 184 rfl rfl)
theorem sf_RX12_9 : FL RX12 9 11 0 := ⟨_, rfl, by decide, (gt4 185 rfl rfl), cw_11⟩
theorem sp_RX12_9 : PF RX12 "<init>" 9 11 0 "[I" := ⟨sf_RX12_9, _, rfl, rfl, Or.inr ⟨rfl, rfl, rfl⟩⟩
theorem sf_RX12_15 : FL RX12 15 11 1 := ⟨_, rfl, by decide, (gt4 186 rfl rfl), cw_11⟩
theorem sp_RX12_15 : PF RX12 "<init>" 15 11 1 "[I" := ⟨sf_RX12_15, _, rfl, rfl, Or.inr ⟨rfl, rfl, rfl⟩⟩
theorem sf_RX12_18 : FL RX12 18 11 2 := ⟨_, rfl, by decide, (gt4 187 rfl rfl), cw_11⟩
theorem sp_RX12_18 : PF RX12 "<init>" 18 11 2 "[I" := ⟨sf_RX12_18, _, rfl, rfl, Or.inr ⟨rfl, rfl, rfl⟩⟩
theorem sf_RX12_268 : FL RX12 268 11 3 := ⟨_, rfl, by decide, (gt4 188 rfl rfl), cw_11⟩
theorem sp_RX12_268 (nm : String) : PF RX12 nm 268 11 3 "Z" := ⟨sf_RX12_268, _, rfl, rfl, Or.inl rfl⟩
theorem sf_RX12_66 : FL RX12 66 11 4 := ⟨_, rfl, by decide, (gt4 189 rfl rfl), cw_11⟩
theorem sp_RX12_66 (nm : String) : PF RX12 nm 66 11 4 "I" := ⟨sf_RX12_66, _, rfl, rfl, Or.inl rfl⟩
theorem sf_RX12_80 : FL RX12 80 11 5 := ⟨_, rfl, by decide, (gt4 190 rfl rfl), cw_11⟩
theorem sp_RX12_80 (nm : String) : PF RX12 nm 80 11 5 "I" := ⟨sf_RX12_80, _, rfl, rfl, Or.inl rfl⟩
theorem sf_RX12_77 : FL RX12 77 11 6 := ⟨_, rfl, by decide, (gt4 191 rfl rfl), cw_11⟩
theorem sp_RX12_77 (nm : String) : PF RX12 nm 77 11 6 "I" := ⟨sf_RX12_77, _, rfl, rfl, Or.inl rfl⟩
theorem sf_RX12_21 : FL RX12 21 11 7 := ⟨_, rfl, by decide, (gt4 192 rfl rfl), cw_11⟩
theorem sp_RX12_21 : PF RX12 "<init>" 21 11 7 "[I" := ⟨sf_RX12_21, _, rfl, rfl, Or.inr ⟨rfl, rfl, rfl⟩⟩
theorem sf_RX12_212 : FL RX12 212 11 8 := ⟨_, rfl, by decide, (gt4 193 rfl rfl), cw_11⟩
theorem sp_RX12_212 (nm : String) : PF RX12 nm 212 11 8 "I" := ⟨sf_RX12_212, _, rfl, rfl, Or.inl rfl⟩
theorem sf_RX12_209 : FL RX12 209 11 9 := ⟨_, rfl, by decide, (gt4 194 rfl rfl), cw_11⟩
theorem sp_RX12_209 (nm : String) : PF RX12 nm 209 11 9 "I" := ⟨sf_RX12_209, _, rfl, rfl, Or.inl rfl⟩
theorem sf_RX12_224 : FL RX12 224 11 10 := ⟨_, rfl, by decide, (gt4 195 rfl rfl), cw_11⟩
theorem sp_RX12_224 (nm : String) : PF RX12 nm 224 11 10 "I" := ⟨sf_RX12_224, _, rfl, rfl, Or.inl rfl⟩
theorem sf_RX12_24 : FL RX12 24 11 11 := ⟨_, rfl, by decide, (gt4 196 rfl rfl), cw_11⟩
theorem sp_RX12_24 : PF RX12 "<init>" 24 11 11 "[I" := ⟨sf_RX12_24, _, rfl, rfl, Or.inr ⟨rfl, rfl, rfl⟩⟩
theorem sf_RX12_124 : FL RX12 124 11 12 := ⟨_, rfl, by decide, (gt4 197 rfl rfl), cw_11⟩
theorem sp_RX12_124 (nm : String) : PF RX12 nm 124 11 12 "I" := ⟨sf_RX12_124, _, rfl, rfl, Or.inl rfl⟩
theorem sf_RX12_27 : FL RX12 27 11 13 := ⟨_, rfl, by decide, (gt4 198 rfl rfl), cw_11⟩
theorem sp_RX12_27 : PF RX12 "<init>" 27 11 13 "[I" := ⟨sf_RX12_27, _, rfl, rfl, Or.inr ⟨rfl, rfl, rfl⟩⟩
theorem sf_RX12_30 : FL RX12 30 11 14 := ⟨_, rfl, by decide, (gt4 199 rfl rfl), cw_11⟩
theorem sp_RX12_30 : PF RX12 "<init>" 30 11 14 "[I" := ⟨sf_RX12_30, _, rfl, rfl, Or.inr ⟨rfl, rfl, rfl⟩⟩
theorem sf_RX12_143 : FL RX12 143 11 15 := ⟨_, rfl, by decide, (gt4 200 rfl rfl), cw_11⟩
theorem sp_RX12_143 (nm : String) : PF RX12 nm 143 11 15 "I" := ⟨sf_RX12_143, _, rfl, rfl, Or.inl rfl⟩
theorem sf_RX12_134 : FL RX12 134 11 16 := ⟨_, rfl, by decide, (gt4 201 rfl rfl), cw_11⟩
theorem sp_RX12_134 (nm : String) : PF RX12 nm 134 11 16 "I" := ⟨sf_RX12_134, _, rfl, rfl, Or.inl rfl⟩
theorem sf_RX12_137 : FL RX12 137 11 17 := ⟨_, rfl, by decide, (gt4 202 rfl rfl), cw_11⟩
theorem sp_RX12_137 (nm : String) : PF RX12 nm 137 11 17 "I" := ⟨sf_RX12_137, _, rfl, rfl, Or.inl rfl⟩
theorem sf_RX12_33 : FL RX12 33 11 18 := ⟨_, rfl, by decide, (gt4 203 rfl rfl), cw_11⟩
theorem sp_RX12_33 : PF RX12 "<init>" 33 11 18 "[I" := ⟨sf_RX12_33, _, rfl, rfl, Or.inr ⟨rfl, rfl, rfl⟩⟩
theorem sf_RX12_36 : FL RX12 36 11 19 := ⟨_, rfl, by decide, (gt4 204 rfl rfl), cw_11⟩
theorem sp_RX12_36 : PF RX12 "<init>" 36 11 19 "[I" := ⟨sf_RX12_36, _, rfl, rfl, Or.inr ⟨rfl, rfl, rfl⟩⟩
theorem sf_RX12_185 : FL RX12 185 11 20 := ⟨_, rfl, by decide, (gt4 205 rfl rfl), cw_11⟩
theorem sp_RX12_185 (nm : String) : PF RX12 nm 185 11 20 "I" := ⟨sf_RX12_185, _, rfl, rfl, Or.inl rfl⟩
theorem sf_RX12_188 : FL RX12 188 11 21 := ⟨_, rfl, by decide, (gt4 206 rfl rfl), cw_11⟩
theorem sp_RX12_188 (nm : String) : PF RX12 nm 188 11 21 "I" := ⟨sf_RX12_188, _, rfl, rfl, Or.inl rfl⟩
theorem sf_RX12_194 : FL RX12 194 11 22 := ⟨_, rfl, by decide, (gt4 207 rfl rfl), cw_11⟩
theorem sp_RX12_194 (nm : String) : PF RX12 nm 194 11 22 "I" := ⟨sf_RX12_194, _, rfl, rfl, Or.inl rfl⟩
theorem sf_RX12_191 : FL RX12 191 11 23 := ⟨_, rfl, by decide, (gt4 208 rfl rfl), cw_11⟩
theorem sp_RX12_191 (nm : String) : PF RX12 nm 191 11 23 "I" := ⟨sf_RX12_191, _, rfl, rfl, Or.inl rfl⟩
theorem sf_RX12_39 : FL RX12 39 11 24 := ⟨_, rfl, by decide, (gt4 209 rfl rfl), cw_11⟩
theorem sp_RX12_39 : PF RX12 "<init>" 39 11 24 "[I" := ⟨sf_RX12_39, _, rfl, rfl, Or.inr ⟨rfl, rfl, rfl⟩⟩
theorem sf_RX12_42 : FL RX12 42 11 25 := ⟨_, rfl, by decide, (gt4 210 rfl rfl), cw_11⟩
theorem sp_RX12_42 : PF RX12 "<init>" 42 11 25 "[I" := ⟨sf_RX12_42, _, rfl, rfl, Or.inr ⟨rfl, rfl, rfl⟩⟩
theorem sf_RX12_45 : FL RX12 45 11 26 := ⟨_, rfl, by decide, (gt4 211 rfl rfl), cw_11⟩
theorem sp_RX12_45 : PF RX12 "<init>" 45 11 26 "[I" := ⟨sf_RX12_45, _, rfl, rfl, Or.inr ⟨rfl, rfl, rfl⟩⟩
theorem sf_RX12_48 : FL RX12 48 11 27 := ⟨_, rfl, by decide, (gt4 212 rfl rfl), cw_11⟩
theorem sp_RX12_48 : PF RX12 "<init>" 48 11 27 "[I" := ⟨sf_RX12_48, _, rfl, rfl, Or.inr ⟨rfl, rfl, rfl⟩⟩
theorem sf_RX12_51 : FL RX12 51 11 28 := ⟨_, rfl, by decide, (gt4 213 rfl rfl), cw_11⟩
theorem sp_RX12_51 : PF RX12 "<init>" 51 11 28 "[J" := ⟨sf_RX12_51, _, rfl, rfl, Or.inr ⟨rfl, rfl, rfl⟩⟩
theorem sf_RX12_55 : FL RX12 55 11 29 := ⟨_, rfl, by decide, (gt4 214 rfl rfl), cw_11⟩
theorem sp_RX12_55 : PF RX12 "<init>" 55 11 29 "[J" := ⟨sf_RX12_55, _, rfl, rfl, Or.inr ⟨rfl, rfl, rfl⟩⟩
theorem sv_RL_17 : CS mX12_stave 4 ∧ Cond.instanceMethod yX12_stave ∈ gTbl ∧ Cond.methodLink RL 17 yX12_stave ∈ gTbl ∧ Cond.selects yX12_stave.cls yX12_stave yX12_stave ∈ gTbl ∧ ∃ r, vwCl[11]? = some r ∧ r.1 = yX12_stave.cls := ⟨cs_X12_stave, (gt5 37 rfl rfl), (gt5 36 rfl rfl), (gt5 38 rfl rfl), _, rfl, rfl⟩
theorem ss_RX12_62 : CS mX12_isStave 4 ∧ Cond.static yX12_isStave ∈ gTbl ∧ (Cond.methodLink RX12 62 yX12_isStave ∈ gTbl ∨ (RX12, 62, yX12_isStave) ∈ mnTbl) := ⟨cs_X12_isStave, (gt5 41 rfl rfl), (Or.inl (gt5 40 rfl rfl))⟩
theorem ss_RX12_58 : CS mX12_within 3 ∧ Cond.static yX12_within ∈ gTbl ∧ (Cond.methodLink RX12 58 yX12_within ∈ gTbl ∨ (RX12, 58, yX12_within) ∈ mnTbl) := ⟨cs_X12_within, (gt5 44 rfl rfl), (Or.inl (gt5 43 rfl rfl))⟩
theorem sv_RL_22 : CS mX12_hoop 3 ∧ Cond.instanceMethod yX12_hoop ∈ gTbl ∧ Cond.methodLink RL 22 yX12_hoop ∈ gTbl ∧ Cond.selects yX12_hoop.cls yX12_hoop yX12_hoop ∈ gTbl ∧ ∃ r, vwCl[11]? = some r ∧ r.1 = yX12_hoop.cls := ⟨cs_X12_hoop, (gt5 47 rfl rfl), (gt5 46 rfl rfl), (gt5 48 rfl rfl), _, rfl, rfl⟩
theorem ss_RX12_70 : CS mX12_isHoop 3 ∧ Cond.static yX12_isHoop ∈ gTbl ∧ (Cond.methodLink RX12 70 yX12_isHoop ∈ gTbl ∨ (RX12, 70, yX12_isHoop) ∈ mnTbl) := ⟨cs_X12_isHoop, (gt5 51 rfl rfl), (Or.inl (gt5 50 rfl rfl))⟩
theorem sv_RL_27 : CS mX12_board 1 ∧ Cond.instanceMethod yX12_board ∈ gTbl ∧ Cond.methodLink RL 27 yX12_board ∈ gTbl ∧ Cond.selects yX12_board.cls yX12_board yX12_board ∈ gTbl ∧ ∃ r, vwCl[11]? = some r ∧ r.1 = yX12_board.cls := ⟨cs_X12_board, (gt5 54 rfl rfl), (gt5 53 rfl rfl), (gt5 55 rfl rfl), _, rfl, rfl⟩
theorem sv_RL_32 : CS mX12_rule 2 ∧ Cond.instanceMethod yX12_rule ∈ gTbl ∧ Cond.methodLink RL 32 yX12_rule ∈ gTbl ∧ Cond.selects yX12_rule.cls yX12_rule yX12_rule ∈ gTbl ∧ ∃ r, vwCl[11]? = some r ∧ r.1 = yX12_rule.cls := ⟨cs_X12_rule, (gt5 58 rfl rfl), (gt5 57 rfl rfl), (gt5 59 rfl rfl), _, rfl, rfl⟩
theorem ss_RX12_73 : CS mX12_isRule 2 ∧ Cond.static yX12_isRule ∈ gTbl ∧ (Cond.methodLink RX12 73 yX12_isRule ∈ gTbl ∨ (RX12, 73, yX12_isRule) ∈ mnTbl) := ⟨cs_X12_isRule, (gt5 62 rfl rfl), (Or.inl (gt5 61 rfl rfl))⟩
theorem sv_RL_36 : CS mX12_told 1 ∧ Cond.instanceMethod yX12_told ∈ gTbl ∧ Cond.methodLink RL 36 yX12_told ∈ gTbl ∧ Cond.selects yX12_told.cls yX12_told yX12_told ∈ gTbl ∧ ∃ r, vwCl[11]? = some r ∧ r.1 = yX12_told.cls := ⟨cs_X12_told, (gt5 65 rfl rfl), (gt5 64 rfl rfl), (gt5 66 rfl rfl), _, rfl, rfl⟩
theorem sv_RL_40 : CS mX12_ofStave 2 ∧ Cond.instanceMethod yX12_ofStave ∈ gTbl ∧ Cond.methodLink RL 40 yX12_ofStave ∈ gTbl ∧ Cond.selects yX12_ofStave.cls yX12_ofStave yX12_ofStave ∈ gTbl ∧ ∃ r, vwCl[11]? = some r ∧ r.1 = yX12_ofStave.cls := ⟨cs_X12_ofStave, (gt5 69 rfl rfl), (gt5 68 rfl rfl), (gt5 70 rfl rfl), _, rfl, rfl⟩
theorem sv_RX12_96 : CS mX12_hasStave 1 ∧ Cond.instanceMethod yX12_hasStave ∈ gTbl ∧ Cond.methodLink RX12 96 yX12_hasStave ∈ gTbl ∧ Cond.selects yX12_hasStave.cls yX12_hasStave yX12_hasStave ∈ gTbl ∧ ∃ r, vwCl[11]? = some r ∧ r.1 = yX12_hasStave.cls := ⟨cs_X12_hasStave, (gt5 74 rfl rfl), (gt5 72 rfl rfl), (gtS 21 rfl rfl), _, rfl, rfl⟩
theorem sv_RX12_89 : CS mX12_countsOf 1 ∧ Cond.instanceMethod yX12_countsOf ∈ gTbl ∧ Cond.methodLink RX12 89 yX12_countsOf ∈ gTbl ∧ Cond.selects yX12_countsOf.cls yX12_countsOf yX12_countsOf ∈ gTbl ∧ ∃ r, vwCl[11]? = some r ∧ r.1 = yX12_countsOf.cls := ⟨cs_X12_countsOf, (gt5 78 rfl rfl), (gt5 76 rfl rfl), (gtS 22 rfl rfl), _, rfl, rfl⟩
theorem sm_RX12_83 : Cond.methodLink RX12 83 yJ9_max_7cf53 ∈ gTbl := (gt5 80 rfl rfl)
theorem ss_RX12_83 : CS mJ9_max_7cf53 2 ∧ Cond.static yJ9_max_7cf53 ∈ gTbl ∧ (Cond.methodLink RX12 83 yJ9_max_7cf53 ∈ gTbl ∨ (RX12, 83, yJ9_max_7cf53) ∈ mnTbl) := ⟨cs_J9_max_7cf53, (gt2 115 rfl rfl), (Or.inl (gt5 80 rfl rfl))⟩
theorem sv_RX12_100 : CS mX12_edgeOf 1 ∧ Cond.instanceMethod yX12_edgeOf ∈ gTbl ∧ Cond.methodLink RX12 100 yX12_edgeOf ∈ gTbl ∧ Cond.selects yX12_edgeOf.cls yX12_edgeOf yX12_edgeOf ∈ gTbl ∧ ∃ r, vwCl[11]? = some r ∧ r.1 = yX12_edgeOf.cls := ⟨cs_X12_edgeOf, (gt5 83 rfl rfl), (gt5 81 rfl rfl), (gtS 23 rfl rfl), _, rfl, rfl⟩
theorem sv_RX12_103 : CS mX12_priceOf 1 ∧ Cond.instanceMethod yX12_priceOf ∈ gTbl ∧ Cond.methodLink RX12 103 yX12_priceOf ∈ gTbl ∧ Cond.selects yX12_priceOf.cls yX12_priceOf yX12_priceOf ∈ gTbl ∧ ∃ r, vwCl[11]? = some r ∧ r.1 = yX12_priceOf.cls := ⟨cs_X12_priceOf, (gt5 87 rfl rfl), (gt5 85 rfl rfl), (gtS 24 rfl rfl), _, rfl, rfl⟩
theorem sv_RX12_106 : CS mX12_sagOf 1 ∧ Cond.instanceMethod yX12_sagOf ∈ gTbl ∧ Cond.methodLink RX12 106 yX12_sagOf ∈ gTbl ∧ Cond.selects yX12_sagOf.cls yX12_sagOf yX12_sagOf ∈ gTbl ∧ ∃ r, vwCl[11]? = some r ∧ r.1 = yX12_sagOf.cls := ⟨cs_X12_sagOf, (gt5 91 rfl rfl), (gt5 89 rfl rfl), (gtS 25 rfl rfl), _, rfl, rfl⟩
theorem ss_RX12_93 : CS mX12_root 1 ∧ Cond.static yX12_root ∈ gTbl ∧ (Cond.methodLink RX12 93 yX12_root ∈ gTbl ∨ (RX12, 93, yX12_root) ∈ mnTbl) := ⟨cs_X12_root, (gt5 94 rfl rfl), (Or.inl (gt5 93 rfl rfl))⟩
theorem sv_RL_44 : CS mX12_takes 1 ∧ Cond.instanceMethod yX12_takes ∈ gTbl ∧ Cond.methodLink RL 44 yX12_takes ∈ gTbl ∧ Cond.selects yX12_takes.cls yX12_takes yX12_takes ∈ gTbl ∧ ∃ r, vwCl[11]? = some r ∧ r.1 = yX12_takes.cls := ⟨cs_X12_takes, (gt5 97 rfl rfl), (gt5 96 rfl rfl), (gt5 98 rfl rfl), _, rfl, rfl⟩
theorem sv_RL_48 : CS mX12_shave 2 ∧ Cond.instanceMethod yX12_shave ∈ gTbl ∧ Cond.methodLink RL 48 yX12_shave ∈ gTbl ∧ Cond.selects yX12_shave.cls yX12_shave yX12_shave ∈ gTbl ∧ ∃ r, vwCl[11]? = some r ∧ r.1 = yX12_shave.cls := ⟨cs_X12_shave, (gt5 101 rfl rfl), (gt5 100 rfl rfl), (gt5 102 rfl rfl), _, rfl, rfl⟩
theorem sv_RL_52 : CS mX12_fits 1 ∧ Cond.instanceMethod yX12_fits ∈ gTbl ∧ Cond.methodLink RL 52 yX12_fits ∈ gTbl ∧ Cond.selects yX12_fits.cls yX12_fits yX12_fits ∈ gTbl ∧ ∃ r, vwCl[11]? = some r ∧ r.1 = yX12_fits.cls := ⟨cs_X12_fits, (gt5 105 rfl rfl), (gt5 104 rfl rfl), (gt5 106 rfl rfl), _, rfl, rfl⟩
theorem sv_RX12_109 : CS mX12_countsOfSet 1 ∧ Cond.instanceMethod yX12_countsOfSet ∈ gTbl ∧ Cond.methodLink RX12 109 yX12_countsOfSet ∈ gTbl ∧ Cond.selects yX12_countsOfSet.cls yX12_countsOfSet yX12_countsOfSet ∈ gTbl ∧ ∃ r, vwCl[11]? = some r ∧ r.1 = yX12_countsOfSet.cls := ⟨cs_X12_countsOfSet, (gt5 110 rfl rfl), (gt5 108 rfl rfl), (gtS 26 rfl rfl), _, rfl, rfl⟩
theorem sv_RX12_112 : CS mX12_priceOfSet 1 ∧ Cond.instanceMethod yX12_priceOfSet ∈ gTbl ∧ Cond.methodLink RX12 112 yX12_priceOfSet ∈ gTbl ∧ Cond.selects yX12_priceOfSet.cls yX12_priceOfSet yX12_priceOfSet ∈ gTbl ∧ ∃ r, vwCl[11]? = some r ∧ r.1 = yX12_priceOfSet.cls := ⟨cs_X12_priceOfSet, (gt5 114 rfl rfl), (gt5 112 rfl rfl), (gtS 27 rfl rfl), _, rfl, rfl⟩
theorem ss_RX12_115 : CS mJ6_bitCount_0f7a4 1 ∧ Cond.static yJ6_bitCount_0f7a4 ∈ gTbl ∧ (Cond.methodLink RX12 115 yJ6_bitCount_0f7a4 ∈ gTbl ∨ (RX12, 115, yJ6_bitCount_0f7a4) ∈ mnTbl) := ⟨cs_J6_bitCount_0f7a4, (gt2 176 rfl rfl), (Or.inl (gt5 116 rfl rfl))⟩
theorem sv_RL_56 : CS mX12_sums 1 ∧ Cond.instanceMethod yX12_sums ∈ gTbl ∧ Cond.methodLink RL 56 yX12_sums ∈ gTbl ∧ Cond.selects yX12_sums.cls yX12_sums yX12_sums ∈ gTbl ∧ ∃ r, vwCl[11]? = some r ∧ r.1 = yX12_sums.cls := ⟨cs_X12_sums, (gt5 118 rfl rfl), (gt5 117 rfl rfl), (gt5 119 rfl rfl), _, rfl, rfl⟩
theorem sv_RL_60 : CS mX12_nearest 1 ∧ Cond.instanceMethod yX12_nearest ∈ gTbl ∧ Cond.methodLink RL 60 yX12_nearest ∈ gTbl ∧ Cond.selects yX12_nearest.cls yX12_nearest yX12_nearest ∈ gTbl ∧ ∃ r, vwCl[11]? = some r ∧ r.1 = yX12_nearest.cls := ⟨cs_X12_nearest, (gt5 122 rfl rfl), (gt5 121 rfl rfl), (gt5 123 rfl rfl), _, rfl, rfl⟩
theorem sk_RX12_120 : Cond.constant RX12 120 (1000000000) ∈ gTbl := (gt5 125 rfl rfl)
theorem sm_RX12_121 : Cond.methodLink RX12 121 yJ9_abs_0f7a4 ∈ gTbl := (gt5 126 rfl rfl)
theorem ss_RX12_121 : CS mJ9_abs_0f7a4 1 ∧ Cond.static yJ9_abs_0f7a4 ∈ gTbl ∧ (Cond.methodLink RX12 121 yJ9_abs_0f7a4 ∈ gTbl ∨ (RX12, 121, yJ9_abs_0f7a4) ∈ mnTbl) := ⟨cs_J9_abs_0f7a4, (gt2 194 rfl rfl), (Or.inl (gt5 126 rfl rfl))⟩
theorem sv_RL_64 : CS mX12_least 3 ∧ Cond.instanceMethod yX12_least ∈ gTbl ∧ Cond.methodLink RL 64 yX12_least ∈ gTbl ∧ Cond.selects yX12_least.cls yX12_least yX12_least ∈ gTbl ∧ ∃ r, vwCl[11]? = some r ∧ r.1 = yX12_least.cls := ⟨cs_X12_least, (gt5 128 rfl rfl), (gt5 127 rfl rfl), (gt5 129 rfl rfl), _, rfl, rfl⟩
theorem sv_RX12_150 : CS mX12_isSet 1 ∧ Cond.instanceMethod yX12_isSet ∈ gTbl ∧ Cond.methodLink RX12 150 yX12_isSet ∈ gTbl ∧ Cond.selects yX12_isSet.cls yX12_isSet yX12_isSet ∈ gTbl ∧ ∃ r, vwCl[11]? = some r ∧ r.1 = yX12_isSet.cls := ⟨cs_X12_isSet, (gt5 133 rfl rfl), (gt5 131 rfl rfl), (gtS 28 rfl rfl), _, rfl, rfl⟩
theorem ss_RX12_153 : CS mX12_isPress 1 ∧ Cond.static yX12_isPress ∈ gTbl ∧ (Cond.methodLink RX12 153 yX12_isPress ∈ gTbl ∨ (RX12, 153, yX12_isPress) ∈ mnTbl) := ⟨cs_X12_isPress, (gt5 136 rfl rfl), (Or.inl (gt5 135 rfl rfl))⟩
theorem sv_RX12_156 : CS mX12_rounds 3 ∧ Cond.instanceMethod yX12_rounds ∈ gTbl ∧ Cond.methodLink RX12 156 yX12_rounds ∈ gTbl ∧ Cond.selects yX12_rounds.cls yX12_rounds yX12_rounds ∈ gTbl ∧ ∃ r, vwCl[11]? = some r ∧ r.1 = yX12_rounds.cls := ⟨cs_X12_rounds, (gt5 140 rfl rfl), (gt5 138 rfl rfl), (gtS 29 rfl rfl), _, rfl, rfl⟩
theorem sv_RX12_146 : CS mX12_goesRound 4 ∧ Cond.instanceMethod yX12_goesRound ∈ gTbl ∧ Cond.methodLink RX12 146 yX12_goesRound ∈ gTbl ∧ Cond.selects yX12_goesRound.cls yX12_goesRound yX12_goesRound ∈ gTbl ∧ ∃ r, vwCl[11]? = some r ∧ r.1 = yX12_goesRound.cls := ⟨cs_X12_goesRound, (gt5 144 rfl rfl), (gt5 142 rfl rfl), (gtS 30 rfl rfl), _, rfl, rfl⟩
theorem sv_RX12_131 : CS mX12_leakOf 2 ∧ Cond.instanceMethod yX12_leakOf ∈ gTbl ∧ Cond.methodLink RX12 131 yX12_leakOf ∈ gTbl ∧ Cond.selects yX12_leakOf.cls yX12_leakOf yX12_leakOf ∈ gTbl ∧ ∃ r, vwCl[11]? = some r ∧ r.1 = yX12_leakOf.cls := ⟨cs_X12_leakOf, (gt5 148 rfl rfl), (gt5 146 rfl rfl), (gtS 31 rfl rfl), _, rfl, rfl⟩
theorem sv_RX12_127 : CS mX12_gap 2 ∧ Cond.instanceMethod yX12_gap ∈ gTbl ∧ Cond.methodLink RX12 127 yX12_gap ∈ gTbl ∧ Cond.selects yX12_gap.cls yX12_gap yX12_gap ∈ gTbl ∧ ∃ r, vwCl[11]? = some r ∧ r.1 = yX12_gap.cls := ⟨cs_X12_gap, (gt5 152 rfl rfl), (gt5 150 rfl rfl), (gtS 32 rfl rfl), _, rfl, rfl⟩
theorem sm_RX12_140 : Cond.methodLink RX12 140 yJ9_min_7cf53 ∈ gTbl := (gt5 154 rfl rfl)
theorem ss_RX12_140 : CS mJ9_min_7cf53 2 ∧ Cond.static yJ9_min_7cf53 ∈ gTbl ∧ (Cond.methodLink RX12 140 yJ9_min_7cf53 ∈ gTbl ∨ (RX12, 140, yJ9_min_7cf53) ∈ mnTbl) := ⟨cs_J9_min_7cf53, (gt3 8 rfl rfl), (Or.inl (gt5 154 rfl rfl))⟩
theorem sv_RL_68 : CS mX12_leak 2 ∧ Cond.instanceMethod yX12_leak ∈ gTbl ∧ Cond.methodLink RL 68 yX12_leak ∈ gTbl ∧ Cond.selects yX12_leak.cls yX12_leak yX12_leak ∈ gTbl ∧ ∃ r, vwCl[11]? = some r ∧ r.1 = yX12_leak.cls := ⟨cs_X12_leak, (gt5 156 rfl rfl), (gt5 155 rfl rfl), (gt5 157 rfl rfl), _, rfl, rfl⟩
theorem sv_RX12_160 : CS mX12_isRing 1 ∧ Cond.instanceMethod yX12_isRing ∈ gTbl ∧ Cond.methodLink RX12 160 yX12_isRing ∈ gTbl ∧ Cond.selects yX12_isRing.cls yX12_isRing yX12_isRing ∈ gTbl ∧ ∃ r, vwCl[11]? = some r ∧ r.1 = yX12_isRing.cls := ⟨cs_X12_isRing, (gt5 161 rfl rfl), (gt5 159 rfl rfl), (gtS 33 rfl rfl), _, rfl, rfl⟩
theorem sv_RL_72 : CS mX12_worst 3 ∧ Cond.instanceMethod yX12_worst ∈ gTbl ∧ Cond.methodLink RL 72 yX12_worst ∈ gTbl ∧ Cond.selects yX12_worst.cls yX12_worst yX12_worst ∈ gTbl ∧ ∃ r, vwCl[11]? = some r ∧ r.1 = yX12_worst.cls := ⟨cs_X12_worst, (gt5 164 rfl rfl), (gt5 163 rfl rfl), (gt5 165 rfl rfl), _, rfl, rfl⟩
theorem sv_RL_76 : CS mX12_rings 3 ∧ Cond.instanceMethod yX12_rings ∈ gTbl ∧ Cond.methodLink RL 76 yX12_rings ∈ gTbl ∧ Cond.selects yX12_rings.cls yX12_rings yX12_rings ∈ gTbl ∧ ∃ r, vwCl[11]? = some r ∧ r.1 = yX12_rings.cls := ⟨cs_X12_rings, (gt5 168 rfl rfl), (gt5 167 rfl rfl), (gt5 169 rfl rfl), _, rfl, rfl⟩
theorem sv_RL_80 : CS mX12_girth 1 ∧ Cond.instanceMethod yX12_girth ∈ gTbl ∧ Cond.methodLink RL 80 yX12_girth ∈ gTbl ∧ Cond.selects yX12_girth.cls yX12_girth yX12_girth ∈ gTbl ∧ ∃ r, vwCl[11]? = some r ∧ r.1 = yX12_girth.cls := ⟨cs_X12_girth, (gt5 172 rfl rfl), (gt5 171 rfl rfl), (gt5 173 rfl rfl), _, rfl, rfl⟩
theorem sv_RX12_163 : CS mX12_girthAt 1 ∧ Cond.instanceMethod yX12_girthAt ∈ gTbl ∧ Cond.methodLink RX12 163 yX12_girthAt ∈ gTbl ∧ Cond.selects yX12_girthAt.cls yX12_girthAt yX12_girthAt ∈ gTbl ∧ ∃ r, vwCl[11]? = some r ∧ r.1 = yX12_girthAt.cls := ⟨cs_X12_girthAt, (gt5 177 rfl rfl), (gt5 175 rfl rfl), (gtS 34 rfl rfl), _, rfl, rfl⟩
theorem sv_RL_84 : CS mX12_ofHoop 2 ∧ Cond.instanceMethod yX12_ofHoop ∈ gTbl ∧ Cond.methodLink RL 84 yX12_ofHoop ∈ gTbl ∧ Cond.selects yX12_ofHoop.cls yX12_ofHoop yX12_ofHoop ∈ gTbl ∧ ∃ r, vwCl[11]? = some r ∧ r.1 = yX12_ofHoop.cls := ⟨cs_X12_ofHoop, (gt5 180 rfl rfl), (gt5 179 rfl rfl), (gt5 181 rfl rfl), _, rfl, rfl⟩
theorem sv_RX12_169 : CS mX12_hasHoop 1 ∧ Cond.instanceMethod yX12_hasHoop ∈ gTbl ∧ Cond.methodLink RX12 169 yX12_hasHoop ∈ gTbl ∧ Cond.selects yX12_hasHoop.cls yX12_hasHoop yX12_hasHoop ∈ gTbl ∧ ∃ r, vwCl[11]? = some r ∧ r.1 = yX12_hasHoop.cls := ⟨cs_X12_hasHoop, (gt5 185 rfl rfl), (gt5 183 rfl rfl), (gtS 35 rfl rfl), _, rfl, rfl⟩
theorem sv_RX12_172 : CS mX12_settles 0 ∧ Cond.instanceMethod yX12_settles ∈ gTbl ∧ Cond.methodLink RX12 172 yX12_settles ∈ gTbl ∧ Cond.selects yX12_settles.cls yX12_settles yX12_settles ∈ gTbl ∧ ∃ r, vwCl[11]? = some r ∧ r.1 = yX12_settles.cls := ⟨cs_X12_settles, (gt5 189 rfl rfl), (gt5 187 rfl rfl), (gtS 36 rfl rfl), _, rfl, rfl⟩
theorem sv_RX12_166 : CS mX12_gripOf 1 ∧ Cond.instanceMethod yX12_gripOf ∈ gTbl ∧ Cond.methodLink RX12 166 yX12_gripOf ∈ gTbl ∧ Cond.selects yX12_gripOf.cls yX12_gripOf yX12_gripOf ∈ gTbl ∧ ∃ r, vwCl[11]? = some r ∧ r.1 = yX12_gripOf.cls := ⟨cs_X12_gripOf, (gt5 193 rfl rfl), (gt5 191 rfl rfl), (gtS 37 rfl rfl), _, rfl, rfl⟩
theorem sv_RX12_175 : CS mX12_pressOf 1 ∧ Cond.instanceMethod yX12_pressOf ∈ gTbl ∧ Cond.methodLink RX12 175 yX12_pressOf ∈ gTbl ∧ Cond.selects yX12_pressOf.cls yX12_pressOf yX12_pressOf ∈ gTbl ∧ ∃ r, vwCl[11]? = some r ∧ r.1 = yX12_pressOf.cls := ⟨cs_X12_pressOf, (gt5 197 rfl rfl), (gt5 195 rfl rfl), (gtS 38 rfl rfl), _, rfl, rfl⟩
theorem sv_RL_88 : CS mX12_press 1 ∧ Cond.instanceMethod yX12_press ∈ gTbl ∧ Cond.methodLink RL 88 yX12_press ∈ gTbl ∧ Cond.selects yX12_press.cls yX12_press yX12_press ∈ gTbl ∧ ∃ r, vwCl[11]? = some r ∧ r.1 = yX12_press.cls := ⟨cs_X12_press, (gt5 200 rfl rfl), (gt5 199 rfl rfl), (gt5 201 rfl rfl), _, rfl, rfl⟩
theorem sv_RX12_178 : CS mX12_pressAt 1 ∧ Cond.instanceMethod yX12_pressAt ∈ gTbl ∧ Cond.methodLink RX12 178 yX12_pressAt ∈ gTbl ∧ Cond.selects yX12_pressAt.cls yX12_pressAt yX12_pressAt ∈ gTbl ∧ ∃ r, vwCl[11]? = some r ∧ r.1 = yX12_pressAt.cls := ⟨cs_X12_pressAt, (gt5 205 rfl rfl), (gt5 203 rfl rfl), (gtS 39 rfl rfl), _, rfl, rfl⟩
theorem sv_RL_92 : CS mX12_wet 1 ∧ Cond.instanceMethod yX12_wet ∈ gTbl ∧ Cond.methodLink RL 92 yX12_wet ∈ gTbl ∧ Cond.selects yX12_wet.cls yX12_wet yX12_wet ∈ gTbl ∧ ∃ r, vwCl[11]? = some r ∧ r.1 = yX12_wet.cls := ⟨cs_X12_wet, (gt5 208 rfl rfl), (gt5 207 rfl rfl), (gt5 209 rfl rfl), _, rfl, rfl⟩
theorem sv_RX12_181 : CS mX12_wetNow 0 ∧ Cond.instanceMethod yX12_wetNow ∈ gTbl ∧ Cond.methodLink RX12 181 yX12_wetNow ∈ gTbl ∧ Cond.selects yX12_wetNow.cls yX12_wetNow yX12_wetNow ∈ gTbl ∧ ∃ r, vwCl[11]? = some r ∧ r.1 = yX12_wetNow.cls := ⟨cs_X12_wetNow, (gt5 213 rfl rfl), (gt5 211 rfl rfl), (gtS 40 rfl rfl), _, rfl, rfl⟩
theorem sv_RL_96 : CS mX12_driest 2 ∧ Cond.instanceMethod yX12_driest ∈ gTbl ∧ Cond.methodLink RL 96 yX12_driest ∈ gTbl ∧ Cond.selects yX12_driest.cls yX12_driest yX12_driest ∈ gTbl ∧ ∃ r, vwCl[11]? = some r ∧ r.1 = yX12_driest.cls := ⟨cs_X12_driest, (gt5 216 rfl rfl), (gt5 215 rfl rfl), (gt5 217 rfl rfl), _, rfl, rfl⟩
theorem sv_RL_100 : CS mX12_head 2 ∧ Cond.instanceMethod yX12_head ∈ gTbl ∧ Cond.methodLink RL 100 yX12_head ∈ gTbl ∧ Cond.selects yX12_head.cls yX12_head yX12_head ∈ gTbl ∧ ∃ r, vwCl[11]? = some r ∧ r.1 = yX12_head.cls := ⟨cs_X12_head, (gt5 220 rfl rfl), (gt5 219 rfl rfl), (gt5 221 rfl rfl), _, rfl, rfl⟩
theorem sv_RX12_205 : CS mX12_saws 1 ∧ Cond.instanceMethod yX12_saws ∈ gTbl ∧ Cond.methodLink RX12 205 yX12_saws ∈ gTbl ∧ Cond.selects yX12_saws.cls yX12_saws yX12_saws ∈ gTbl ∧ ∃ r, vwCl[11]? = some r ∧ r.1 = yX12_saws.cls := ⟨cs_X12_saws, (gt5 225 rfl rfl), (gt5 223 rfl rfl), (gtS 41 rfl rfl), _, rfl, rfl⟩
theorem sv_RX12_201 : CS mX12_goesOn 5 ∧ Cond.instanceMethod yX12_goesOn ∈ gTbl ∧ Cond.methodLink RX12 201 yX12_goesOn ∈ gTbl ∧ Cond.selects yX12_goesOn.cls yX12_goesOn yX12_goesOn ∈ gTbl ∧ ∃ r, vwCl[11]? = some r ∧ r.1 = yX12_goesOn.cls := ⟨cs_X12_goesOn, (gt5 229 rfl rfl), (gt5 227 rfl rfl), (gtS 42 rfl rfl), _, rfl, rfl⟩
theorem sv_RX12_197 : CS mX12_usedBy 3 ∧ Cond.instanceMethod yX12_usedBy ∈ gTbl ∧ Cond.methodLink RX12 197 yX12_usedBy ∈ gTbl ∧ Cond.selects yX12_usedBy.cls yX12_usedBy yX12_usedBy ∈ gTbl ∧ ∃ r, vwCl[11]? = some r ∧ r.1 = yX12_usedBy.cls := ⟨cs_X12_usedBy, (gt5 233 rfl rfl), (gt5 231 rfl rfl), (gtS 43 rfl rfl), _, rfl, rfl⟩
theorem sv_RL_104 : CS mX12_used 2 ∧ Cond.instanceMethod yX12_used ∈ gTbl ∧ Cond.methodLink RL 104 yX12_used ∈ gTbl ∧ Cond.selects yX12_used.cls yX12_used yX12_used ∈ gTbl ∧ ∃ r, vwCl[11]? = some r ∧ r.1 = yX12_used.cls := ⟨cs_X12_used, (gt5 236 rfl rfl), (gt5 235 rfl rfl), (gt5 237 rfl rfl), _, rfl, rfl⟩
theorem sv_RL_108 : CS mX12_heads 1 ∧ Cond.instanceMethod yX12_heads ∈ gTbl ∧ Cond.methodLink RL 108 yX12_heads ∈ gTbl ∧ Cond.selects yX12_heads.cls yX12_heads yX12_heads ∈ gTbl ∧ ∃ r, vwCl[11]? = some r ∧ r.1 = yX12_heads.cls := ⟨cs_X12_heads, (gt6 0 rfl rfl), (gt5 239 rfl rfl), (gt6 1 rfl rfl), _, rfl, rfl⟩
theorem sv_RL_112 : CS mX12_feed 1 ∧ Cond.instanceMethod yX12_feed ∈ gTbl ∧ Cond.methodLink RL 112 yX12_feed ∈ gTbl ∧ Cond.selects yX12_feed.cls yX12_feed yX12_feed ∈ gTbl ∧ ∃ r, vwCl[11]? = some r ∧ r.1 = yX12_feed.cls := ⟨cs_X12_feed, (gt6 4 rfl rfl), (gt6 3 rfl rfl), (gt6 5 rfl rfl), _, rfl, rfl⟩
theorem sv_RL_117 : CS mX12_read 0 ∧ Cond.instanceMethod yX12_read ∈ gTbl ∧ Cond.methodLink RL 117 yX12_read ∈ gTbl ∧ Cond.selects yX12_read.cls yX12_read yX12_read ∈ gTbl ∧ ∃ r, vwCl[11]? = some r ∧ r.1 = yX12_read.cls := ⟨cs_X12_read, (gt6 8 rfl rfl), (gt6 7 rfl rfl), (gt6 9 rfl rfl), _, rfl, rfl⟩
theorem sv_RX12_243 : CS mX12_reads 0 ∧ Cond.instanceMethod yX12_reads ∈ gTbl ∧ Cond.methodLink RX12 243 yX12_reads ∈ gTbl ∧ Cond.selects yX12_reads.cls yX12_reads yX12_reads ∈ gTbl ∧ ∃ r, vwCl[11]? = some r ∧ r.1 = yX12_reads.cls := ⟨cs_X12_reads, (gt6 13 rfl rfl), (gt6 11 rfl rfl), (gtS 44 rfl rfl), _, rfl, rfl⟩
theorem ss_RX12_221 : CS mX12_numbers 1 ∧ Cond.static yX12_numbers ∈ gTbl ∧ (Cond.methodLink RX12 221 yX12_numbers ∈ gTbl ∨ (RX12, 221, yX12_numbers) ∈ mnTbl) := ⟨cs_X12_numbers, (gt6 16 rfl rfl), (Or.inl (gt6 15 rfl rfl))⟩
theorem sv_RX12_218 : CS mX12_wrong 0 ∧ Cond.instanceMethod yX12_wrong ∈ gTbl ∧ Cond.methodLink RX12 218 yX12_wrong ∈ gTbl ∧ Cond.selects yX12_wrong.cls yX12_wrong yX12_wrong ∈ gTbl ∧ ∃ r, vwCl[11]? = some r ∧ r.1 = yX12_wrong.cls := ⟨cs_X12_wrong, (gt6 20 rfl rfl), (gt6 18 rfl rfl), (gtS 45 rfl rfl), _, rfl, rfl⟩
theorem sv_RX12_215 : CS mX12_isFrom 2 ∧ Cond.instanceMethod yX12_isFrom ∈ gTbl ∧ Cond.methodLink RX12 215 yX12_isFrom ∈ gTbl ∧ Cond.selects yX12_isFrom.cls yX12_isFrom yX12_isFrom ∈ gTbl ∧ ∃ r, vwCl[11]? = some r ∧ r.1 = yX12_isFrom.cls := ⟨cs_X12_isFrom, (gt6 24 rfl rfl), (gt6 22 rfl rfl), (gtS 46 rfl rfl), _, rfl, rfl⟩
theorem sv_RX12_227 : CS mX12_number 0 ∧ Cond.instanceMethod yX12_number ∈ gTbl ∧ Cond.methodLink RX12 227 yX12_number ∈ gTbl ∧ Cond.selects yX12_number.cls yX12_number yX12_number ∈ gTbl ∧ ∃ r, vwCl[11]? = some r ∧ r.1 = yX12_number.cls := ⟨cs_X12_number, (gt6 28 rfl rfl), (gt6 26 rfl rfl), (gtS 47 rfl rfl), _, rfl, rfl⟩
theorem ss_RX12_246 : CS mX12_pours 2 ∧ Cond.static yX12_pours ∈ gTbl ∧ (Cond.methodLink RX12 246 yX12_pours ∈ gTbl ∨ (RX12, 246, yX12_pours) ∈ mnTbl) := ⟨cs_X12_pours, (gt6 31 rfl rfl), (Or.inl (gt6 30 rfl rfl))⟩
theorem sv_RX12_250 : CS mX12_does 1 ∧ Cond.instanceMethod yX12_does ∈ gTbl ∧ Cond.methodLink RX12 250 yX12_does ∈ gTbl ∧ Cond.selects yX12_does.cls yX12_does yX12_does ∈ gTbl ∧ ∃ r, vwCl[11]? = some r ∧ r.1 = yX12_does.cls := ⟨cs_X12_does, (gt6 35 rfl rfl), (gt6 33 rfl rfl), (gtS 48 rfl rfl), _, rfl, rfl⟩
theorem sv_RX12_230 : CS mX12_stave 4 ∧ Cond.instanceMethod yX12_stave ∈ gTbl ∧ Cond.methodLink RX12 230 yX12_stave ∈ gTbl ∧ Cond.selects yX12_stave.cls yX12_stave yX12_stave ∈ gTbl ∧ ∃ r, vwCl[11]? = some r ∧ r.1 = yX12_stave.cls := ⟨cs_X12_stave, (gt5 37 rfl rfl), (gt6 37 rfl rfl), (gt5 38 rfl rfl), _, rfl, rfl⟩
theorem sv_RX12_234 : CS mX12_hoop 3 ∧ Cond.instanceMethod yX12_hoop ∈ gTbl ∧ Cond.methodLink RX12 234 yX12_hoop ∈ gTbl ∧ Cond.selects yX12_hoop.cls yX12_hoop yX12_hoop ∈ gTbl ∧ ∃ r, vwCl[11]? = some r ∧ r.1 = yX12_hoop.cls := ⟨cs_X12_hoop, (gt5 47 rfl rfl), (gt6 38 rfl rfl), (gt5 48 rfl rfl), _, rfl, rfl⟩
theorem sv_RX12_237 : CS mX12_board 1 ∧ Cond.instanceMethod yX12_board ∈ gTbl ∧ Cond.methodLink RX12 237 yX12_board ∈ gTbl ∧ Cond.selects yX12_board.cls yX12_board yX12_board ∈ gTbl ∧ ∃ r, vwCl[11]? = some r ∧ r.1 = yX12_board.cls := ⟨cs_X12_board, (gt5 54 rfl rfl), (gt6 39 rfl rfl), (gt5 55 rfl rfl), _, rfl, rfl⟩
theorem sv_RX12_240 : CS mX12_rule 2 ∧ Cond.instanceMethod yX12_rule ∈ gTbl ∧ Cond.methodLink RX12 240 yX12_rule ∈ gTbl ∧ Cond.selects yX12_rule.cls yX12_rule yX12_rule ∈ gTbl ∧ ∃ r, vwCl[11]? = some r ∧ r.1 = yX12_rule.cls := ⟨cs_X12_rule, (gt5 58 rfl rfl), (gt6 40 rfl rfl), (gt5 59 rfl rfl), _, rfl, rfl⟩
theorem sv_RL_121 : CS mX12_hang 3 ∧ Cond.instanceMethod yX12_hang ∈ gTbl ∧ Cond.methodLink RL 121 yX12_hang ∈ gTbl ∧ Cond.selects yX12_hang.cls yX12_hang yX12_hang ∈ gTbl ∧ ∃ r, vwCl[11]? = some r ∧ r.1 = yX12_hang.cls := ⟨cs_X12_hang, (gt6 42 rfl rfl), (gt6 41 rfl rfl), (gt6 43 rfl rfl), _, rfl, rfl⟩
theorem ss_RX12_253 : CS mX12_isPeg 1 ∧ Cond.static yX12_isPeg ∈ gTbl ∧ (Cond.methodLink RX12 253 yX12_isPeg ∈ gTbl ∨ (RX12, 253, yX12_isPeg) ∈ mnTbl) := ⟨cs_X12_isPeg, (gt6 46 rfl rfl), (Or.inl (gt6 45 rfl rfl))⟩
theorem sv_RL_125 : CS mX12_tray 3 ∧ Cond.instanceMethod yX12_tray ∈ gTbl ∧ Cond.methodLink RL 125 yX12_tray ∈ gTbl ∧ Cond.selects yX12_tray.cls yX12_tray yX12_tray ∈ gTbl ∧ ∃ r, vwCl[11]? = some r ∧ r.1 = yX12_tray.cls := ⟨cs_X12_tray, (gt6 49 rfl rfl), (gt6 48 rfl rfl), (gt6 50 rfl rfl), _, rfl, rfl⟩
theorem sv_RL_129 : CS mX12_held 1 ∧ Cond.instanceMethod yX12_held ∈ gTbl ∧ Cond.methodLink RL 129 yX12_held ∈ gTbl ∧ Cond.selects yX12_held.cls yX12_held yX12_held ∈ gTbl ∧ ∃ r, vwCl[11]? = some r ∧ r.1 = yX12_held.cls := ⟨cs_X12_held, (gt6 53 rfl rfl), (gt6 52 rfl rfl), (gt6 54 rfl rfl), _, rfl, rfl⟩
theorem sv_RL_133 : CS mX12_as 3 ∧ Cond.instanceMethod yX12_as ∈ gTbl ∧ Cond.methodLink RL 133 yX12_as ∈ gTbl ∧ Cond.selects yX12_as.cls yX12_as yX12_as ∈ gTbl ∧ ∃ r, vwCl[11]? = some r ∧ r.1 = yX12_as.cls := ⟨cs_X12_as, (gt6 57 rfl rfl), (gt6 56 rfl rfl), (gt6 58 rfl rfl), _, rfl, rfl⟩
theorem ss_RX12_256 : CS mX12_isUnder 3 ∧ Cond.static yX12_isUnder ∈ gTbl ∧ (Cond.methodLink RX12 256 yX12_isUnder ∈ gTbl ∨ (RX12, 256, yX12_isUnder) ∈ mnTbl) := ⟨cs_X12_isUnder, (gt6 61 rfl rfl), (Or.inl (gt6 60 rfl rfl))⟩
theorem sv_RL_140 : CS mX12_put 3 ∧ Cond.instanceMethod yX12_put ∈ gTbl ∧ Cond.methodLink RL 140 yX12_put ∈ gTbl ∧ Cond.selects yX12_put.cls yX12_put yX12_put ∈ gTbl ∧ ∃ r, vwCl[11]? = some r ∧ r.1 = yX12_put.cls := ⟨cs_X12_put, (gt6 64 rfl rfl), (gt6 63 rfl rfl), (gt6 65 rfl rfl), _, rfl, rfl⟩
theorem sv_RX12_259 : CS mX12_isNoTray 1 ∧ Cond.instanceMethod yX12_isNoTray ∈ gTbl ∧ Cond.methodLink RX12 259 yX12_isNoTray ∈ gTbl ∧ Cond.selects yX12_isNoTray.cls yX12_isNoTray yX12_isNoTray ∈ gTbl ∧ ∃ r, vwCl[11]? = some r ∧ r.1 = yX12_isNoTray.cls := ⟨cs_X12_isNoTray, (gt6 69 rfl rfl), (gt6 67 rfl rfl), (gtS 49 rfl rfl), _, rfl, rfl⟩
theorem sv_RX12_262 : CS mX12_lays 3 ∧ Cond.instanceMethod yX12_lays ∈ gTbl ∧ Cond.methodLink RX12 262 yX12_lays ∈ gTbl ∧ Cond.selects yX12_lays.cls yX12_lays yX12_lays ∈ gTbl ∧ ∃ r, vwCl[11]? = some r ∧ r.1 = yX12_lays.cls := ⟨cs_X12_lays, (gt6 73 rfl rfl), (gt6 71 rfl rfl), (gtS 50 rfl rfl), _, rfl, rfl⟩
theorem sv_RL_145 : CS mX12_get 2 ∧ Cond.instanceMethod yX12_get ∈ gTbl ∧ Cond.methodLink RL 145 yX12_get ∈ gTbl ∧ Cond.selects yX12_get.cls yX12_get yX12_get ∈ gTbl ∧ ∃ r, vwCl[11]? = some r ∧ r.1 = yX12_get.cls := ⟨cs_X12_get, (gt6 76 rfl rfl), (gt6 75 rfl rfl), (gt6 77 rfl rfl), _, rfl, rfl⟩
theorem sk_RX12_266 : Cond.constantLong RX12 266 (-9223372036854775808) ∈ gTbl := (gt6 79 rfl rfl)
theorem sv_RL_149 : CS mX12_fill 3 ∧ Cond.instanceMethod yX12_fill ∈ gTbl ∧ Cond.methodLink RL 149 yX12_fill ∈ gTbl ∧ Cond.selects yX12_fill.cls yX12_fill yX12_fill ∈ gTbl ∧ ∃ r, vwCl[11]? = some r ∧ r.1 = yX12_fill.cls := ⟨cs_X12_fill, (gt6 81 rfl rfl), (gt6 80 rfl rfl), (gt6 82 rfl rfl), _, rfl, rfl⟩
theorem sv_RL_153 : CS mX12_judge 3 ∧ Cond.instanceMethod yX12_judge ∈ gTbl ∧ Cond.methodLink RL 153 yX12_judge ∈ gTbl ∧ Cond.selects yX12_judge.cls yX12_judge yX12_judge ∈ gTbl ∧ ∃ r, vwCl[11]? = some r ∧ r.1 = yX12_judge.cls := ⟨cs_X12_judge, (gt6 85 rfl rfl), (gt6 84 rfl rfl), (gt6 86 rfl rfl), _, rfl, rfl⟩
theorem sv_RL_158 : CS mX12_move 5 ∧ Cond.instanceMethod yX12_move ∈ gTbl ∧ Cond.methodLink RL 158 yX12_move ∈ gTbl ∧ Cond.selects yX12_move.cls yX12_move yX12_move ∈ gTbl ∧ ∃ r, vwCl[11]? = some r ∧ r.1 = yX12_move.cls := ⟨cs_X12_move, (gt6 89 rfl rfl), (gt6 88 rfl rfl), (gt6 90 rfl rfl), _, rfl, rfl⟩
theorem sv_RL_162 : CS mX12_image 0 ∧ Cond.instanceMethod yX12_image ∈ gTbl ∧ Cond.methodLink RL 162 yX12_image ∈ gTbl ∧ Cond.selects yX12_image.cls yX12_image yX12_image ∈ gTbl ∧ ∃ r, vwCl[11]? = some r ∧ r.1 = yX12_image.cls := ⟨cs_X12_image, (gt6 93 rfl rfl), (gt6 92 rfl rfl), (gt6 94 rfl rfl), _, rfl, rfl⟩
theorem sv_RL_166 : CS mX12_undo 0 ∧ Cond.instanceMethod yX12_undo ∈ gTbl ∧ Cond.methodLink RL 166 yX12_undo ∈ gTbl ∧ Cond.selects yX12_undo.cls yX12_undo yX12_undo ∈ gTbl ∧ ∃ r, vwCl[11]? = some r ∧ r.1 = yX12_undo.cls := ⟨cs_X12_undo, (gt6 97 rfl rfl), (gt6 96 rfl rfl), (gt6 98 rfl rfl), _, rfl, rfl⟩
theorem sk_RL_134 : Cond.constantLong RL 134 (4294967295) ∈ gTbl := (gt6 100 rfl rfl)
