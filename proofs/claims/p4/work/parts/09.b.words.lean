theorem lw_tm_1 : ∀ w ∈ tables_1_1, w ∈ lw_tbl := fun w h => List.mem_append_right _ (List.mem_append_left _ h)
theorem lw_tm_2 : ∀ w ∈ tables_1_2, w ∈ lw_tbl := fun w h => List.mem_append_right _ (List.mem_append_right _ (List.mem_append_left _ h))
theorem lw_tm_3 : ∀ w ∈ tables_1_3, w ∈ lw_tbl := fun w h => List.mem_append_right _ (List.mem_append_right _ (List.mem_append_right _ (List.mem_append_left _ h)))
theorem lw_tm_4 : ∀ w ∈ tables_1_4, w ∈ lw_tbl := fun w h => List.mem_append_right _ (List.mem_append_right _ (List.mem_append_right _ (List.mem_append_right _ (List.mem_append_left _ h))))
theorem lw_tm_5 : ∀ w ∈ tables_1_5, w ∈ lw_tbl := fun w h => List.mem_append_right _ (List.mem_append_right _ (List.mem_append_right _ (List.mem_append_right _ (List.mem_append_right _ (List.mem_append_left _ h)))))
theorem lw_tm_6 : ∀ w ∈ tables_1_6, w ∈ lw_tbl := fun w h => List.mem_append_right _ (List.mem_append_right _ (List.mem_append_right _ (List.mem_append_right _ (List.mem_append_right _ (List.mem_append_right _ (List.mem_append_left _ h))))))
theorem lw_tm_7 : ∀ w ∈ tables_1_7, w ∈ lw_tbl := fun w h => List.mem_append_right _ (List.mem_append_right _ (List.mem_append_right _ (List.mem_append_right _ (List.mem_append_right _ (List.mem_append_right _ (List.mem_append_right _ (List.mem_append_left _ h)))))))
theorem lw_tm_8 : ∀ w ∈ tables_1_8, w ∈ lw_tbl := fun w h => List.mem_append_right _ (List.mem_append_right _ (List.mem_append_right _ (List.mem_append_right _ (List.mem_append_right _ (List.mem_append_right _ (List.mem_append_right _ (List.mem_append_right _ (List.mem_append_left _ h))))))))
theorem lw_tm_9 : ∀ w ∈ tables_1_9, w ∈ lw_tbl := fun w h => List.mem_append_right _ (List.mem_append_right _ (List.mem_append_right _ (List.mem_append_right _ (List.mem_append_right _ (List.mem_append_right _ (List.mem_append_right _ (List.mem_append_right _ (List.mem_append_right _ h))))))))
theorem lw_pm_1 : ∀ w ∈ k2_sels lw_privs_1, w ∈ lw_tbl := fun w h => List.mem_append_left _ (List.map_subset _ (fun q h => (List.mem_append_left _ h)) h)
theorem lw_pm_2 : ∀ w ∈ k2_sels lw_privs_2, w ∈ lw_tbl := fun w h => List.mem_append_left _ (List.map_subset _ (fun q h => (List.mem_append_right _ (List.mem_append_left _ h))) h)
theorem lw_pm_3 : ∀ w ∈ k2_sels lw_privs_3, w ∈ lw_tbl := fun w h => List.mem_append_left _ (List.map_subset _ (fun q h => (List.mem_append_right _ (List.mem_append_right _ (List.mem_append_left _ h)))) h)
theorem lw_pm_4 : ∀ w ∈ k2_sels lw_privs_4, w ∈ lw_tbl := fun w h => List.mem_append_left _ (List.map_subset _ (fun q h => (List.mem_append_right _ (List.mem_append_right _ (List.mem_append_right _ (List.mem_append_left _ h))))) h)
theorem lw_pm_5 : ∀ w ∈ k2_sels lw_privs_5, w ∈ lw_tbl := fun w h => List.mem_append_left _ (List.map_subset _ (fun q h => (List.mem_append_right _ (List.mem_append_right _ (List.mem_append_right _ (List.mem_append_right _ (List.mem_append_left _ h)))))) h)
theorem lw_pm_6 : ∀ w ∈ k2_sels lw_privs_6, w ∈ lw_tbl := fun w h => List.mem_append_left _ (List.map_subset _ (fun q h => (List.mem_append_right _ (List.mem_append_right _ (List.mem_append_right _ (List.mem_append_right _ (List.mem_append_right _ (List.mem_append_left _ h))))))) h)
theorem lw_pm_7 : ∀ w ∈ k2_sels lw_privs_7, w ∈ lw_tbl := fun w h => List.mem_append_left _ (List.map_subset _ (fun q h => (List.mem_append_right _ (List.mem_append_right _ (List.mem_append_right _ (List.mem_append_right _ (List.mem_append_right _ (List.mem_append_right _ (List.mem_append_left _ h)))))))) h)
theorem lw_pm_8 : ∀ w ∈ k2_sels lw_privs_8, w ∈ lw_tbl := fun w h => List.mem_append_left _ (List.map_subset _ (fun q h => (List.mem_append_right _ (List.mem_append_right _ (List.mem_append_right _ (List.mem_append_right _ (List.mem_append_right _ (List.mem_append_right _ (List.mem_append_right _ h)))))))) h)
def lw_rb_0 : List Cond := [.selects RX6 yX6_readClause yX6_readClause, .selects RX6 yX6_readItems yX6_readItems, .selects RX6 yX6_atClauseEnd yX6_atClauseEnd, .selects RX6 yX6_readLetter yX6_readLetter, .selects RX10 yX10_sign yX10_sign, .selects RX6 yX6_allShelvesStand yX6_allShelvesStand, .selects RX3 yX3_readClause yX3_readClause, .selects RX3 yX3_readSum yX3_readSum, .selects RX3 yX3_readTerm yX3_readTerm, .selects RX3 yX3_readAtom yX3_readAtom, .selects RX3 yX3_write yX3_write, .selects RX3 yX3_readCondition yX3_readCondition, .selects RX3 yX3_readTruth yX3_readTruth, .selects RX3 yX3_readUnit yX3_readUnit, .selects RX11 yX11_openOffice yX11_openOffice, .selects RX11 yX11_refuse yX11_refuse]
set_option maxRecDepth 100000 in
theorem lw_rc_0 : (List.drop 0 (k2_sels lw_privs_1)).take 16 = lw_rb_0 := rfl
theorem lw_rd_0 : ∀ w ∈ lw_rb_0, w ∈ lw_tbl := fun w h => lw_pm_1 w (List.mem_of_mem_drop (List.mem_of_mem_take (lw_rc_0 ▸ h)))
theorem mw_59 : (.selects RX6 yX6_readClause yX6_readClause : Cond) ∈ lw_tbl := lw_rd_0 _ (List.mem_of_getElem? (i := 0) rfl)
theorem mw_64 : (.selects RX6 yX6_readItems yX6_readItems : Cond) ∈ lw_tbl := lw_rd_0 _ (List.mem_of_getElem? (i := 1) rfl)
theorem mw_84 : (.selects RX6 yX6_atClauseEnd yX6_atClauseEnd : Cond) ∈ lw_tbl := lw_rd_0 _ (List.mem_of_getElem? (i := 2) rfl)
theorem mw_79 : (.selects RX6 yX6_readLetter yX6_readLetter : Cond) ∈ lw_tbl := lw_rd_0 _ (List.mem_of_getElem? (i := 3) rfl)
theorem mw_152 : (.selects RX10 yX10_sign yX10_sign : Cond) ∈ lw_tbl := lw_rd_0 _ (List.mem_of_getElem? (i := 4) rfl)
theorem mw_55 : (.selects RX6 yX6_allShelvesStand yX6_allShelvesStand : Cond) ∈ lw_tbl := lw_rd_0 _ (List.mem_of_getElem? (i := 5) rfl)
theorem mw_118 : (.selects RX3 yX3_readClause yX3_readClause : Cond) ∈ lw_tbl := lw_rd_0 _ (List.mem_of_getElem? (i := 6) rfl)
theorem mw_136 : (.selects RX3 yX3_readSum yX3_readSum : Cond) ∈ lw_tbl := lw_rd_0 _ (List.mem_of_getElem? (i := 7) rfl)
theorem mw_139 : (.selects RX3 yX3_readTerm yX3_readTerm : Cond) ∈ lw_tbl := lw_rd_0 _ (List.mem_of_getElem? (i := 8) rfl)
theorem mw_142 : (.selects RX3 yX3_readAtom yX3_readAtom : Cond) ∈ lw_tbl := lw_rd_0 _ (List.mem_of_getElem? (i := 9) rfl)
theorem mw_159 : (.selects RX3 yX3_write yX3_write : Cond) ∈ lw_tbl := lw_rd_0 _ (List.mem_of_getElem? (i := 10) rfl)
theorem mw_121 : (.selects RX3 yX3_readCondition yX3_readCondition : Cond) ∈ lw_tbl := lw_rd_0 _ (List.mem_of_getElem? (i := 11) rfl)
theorem mw_124 : (.selects RX3 yX3_readTruth yX3_readTruth : Cond) ∈ lw_tbl := lw_rd_0 _ (List.mem_of_getElem? (i := 12) rfl)
theorem mw_127 : (.selects RX3 yX3_readUnit yX3_readUnit : Cond) ∈ lw_tbl := lw_rd_0 _ (List.mem_of_getElem? (i := 13) rfl)
theorem mw_378 : (.selects RX11 yX11_openOffice yX11_openOffice : Cond) ∈ lw_tbl := lw_rd_0 _ (List.mem_of_getElem? (i := 14) rfl)
theorem mw_720 : (.selects RX11 yX11_refuse yX11_refuse : Cond) ∈ lw_tbl := lw_rd_0 _ (List.mem_of_getElem? (i := 15) rfl)
def lw_rb_1 : List Cond := [.selects RX11 yX11_passDay yX11_passDay, .selects RX4 yX4_worth yX4_worth, .selects RX4 yX4_letterOf yX4_letterOf, .selects RX7 yX7_answer yX7_answer, .selects RX7 yX7_unburden yX7_unburden, .selects RX7 yX7_largestOn yX7_largestOn, .selects RX11 yX11_letTrainCome yX11_letTrainCome, .selects RX11 yX11_draw yX11_draw, .selects RX11 yX11_letSomebodyCall yX11_letSomebodyCall, .selects RX8 yX8_fewest yX8_fewest, .selects RX8 yX8_place yX8_place, .selects RX8 yX8_standsWell yX8_standsWell, .selects RX7 yX7_isCrowd yX7_isCrowd, .selects RX9 yX9_gatherFitting yX9_gatherFitting, .selects RX9 yX9_fits yX9_fits, .selects RX9 yX9_lastDaySeen yX9_lastDaySeen]
set_option maxRecDepth 100000 in
theorem lw_rc_1 : (List.drop 0 (k2_sels lw_privs_2)).take 16 = lw_rb_1 := rfl
theorem lw_rd_1 : ∀ w ∈ lw_rb_1, w ∈ lw_tbl := fun w h => lw_pm_2 w (List.mem_of_mem_drop (List.mem_of_mem_take (lw_rc_1 ▸ h)))
theorem mw_653 : (.selects RX11 yX11_passDay yX11_passDay : Cond) ∈ lw_tbl := lw_rd_1 _ (List.mem_of_getElem? (i := 0) rfl)
theorem mw_524 : (.selects RX4 yX4_worth yX4_worth : Cond) ∈ lw_tbl := lw_rd_1 _ (List.mem_of_getElem? (i := 1) rfl)
theorem mw_527 : (.selects RX4 yX4_letterOf yX4_letterOf : Cond) ∈ lw_tbl := lw_rd_1 _ (List.mem_of_getElem? (i := 2) rfl)
theorem mw_686 : (.selects RX7 yX7_answer yX7_answer : Cond) ∈ lw_tbl := lw_rd_1 _ (List.mem_of_getElem? (i := 3) rfl)
theorem mw_692 : (.selects RX7 yX7_unburden yX7_unburden : Cond) ∈ lw_tbl := lw_rd_1 _ (List.mem_of_getElem? (i := 4) rfl)
theorem mw_695 : (.selects RX7 yX7_largestOn yX7_largestOn : Cond) ∈ lw_tbl := lw_rd_1 _ (List.mem_of_getElem? (i := 5) rfl)
theorem mw_886 : (.selects RX11 yX11_letTrainCome yX11_letTrainCome : Cond) ∈ lw_tbl := lw_rd_1 _ (List.mem_of_getElem? (i := 6) rfl)
theorem mw_889 : (.selects RX11 yX11_draw yX11_draw : Cond) ∈ lw_tbl := lw_rd_1 _ (List.mem_of_getElem? (i := 7) rfl)
theorem mw_882 : (.selects RX11 yX11_letSomebodyCall yX11_letSomebodyCall : Cond) ∈ lw_tbl := lw_rd_1 _ (List.mem_of_getElem? (i := 8) rfl)
theorem mw_1033 : (.selects RX8 yX8_fewest yX8_fewest : Cond) ∈ lw_tbl := lw_rd_1 _ (List.mem_of_getElem? (i := 9) rfl)
theorem mw_1036 : (.selects RX8 yX8_place yX8_place : Cond) ∈ lw_tbl := lw_rd_1 _ (List.mem_of_getElem? (i := 10) rfl)
theorem mw_1041 : (.selects RX8 yX8_standsWell yX8_standsWell : Cond) ∈ lw_tbl := lw_rd_1 _ (List.mem_of_getElem? (i := 11) rfl)
theorem mw_1138 : (.selects RX7 yX7_isCrowd yX7_isCrowd : Cond) ∈ lw_tbl := lw_rd_1 _ (List.mem_of_getElem? (i := 12) rfl)
theorem mw_1194 : (.selects RX9 yX9_gatherFitting yX9_gatherFitting : Cond) ∈ lw_tbl := lw_rd_1 _ (List.mem_of_getElem? (i := 13) rfl)
theorem mw_1197 : (.selects RX9 yX9_fits yX9_fits : Cond) ∈ lw_tbl := lw_rd_1 _ (List.mem_of_getElem? (i := 14) rfl)
theorem mw_1216 : (.selects RX9 yX9_lastDaySeen yX9_lastDaySeen : Cond) ∈ lw_tbl := lw_rd_1 _ (List.mem_of_getElem? (i := 15) rfl)
def lw_rb_2 : List Cond := [.selects RX9 yX9_setScene yX9_setScene, .selects RX9 yX9_agrees yX9_agrees, .selects RX9 yX9_sizeBehind yX9_sizeBehind, .selects RX9 yX9_gapAt yX9_gapAt, .selects RX7 yX7_sizesOf yX7_sizesOf, .selects RX2 yX2_keepOutcome yX2_keepOutcome, .selects RX2 yX2_isRest yX2_isRest, .selects RX2 yX2_partsFrom yX2_partsFrom, .selects RX2 yX2_partsBehindDay yX2_partsBehindDay, .selects RX11 yX11_leader yX11_leader, .selects RX11 yX11_standing yX11_standing, .selects RX11 yX11_fullest yX11_fullest, .selects RX11 yX11_roomLeft yX11_roomLeft, .selects RX11 yX11_allDue yX11_allDue]
set_option maxRecDepth 100000 in
theorem lw_rc_2 : (List.drop 0 (k2_sels lw_privs_3)).take 14 = lw_rb_2 := rfl
theorem lw_rd_2 : ∀ w ∈ lw_rb_2, w ∈ lw_tbl := fun w h => lw_pm_3 w (List.mem_of_mem_drop (List.mem_of_mem_take (lw_rc_2 ▸ h)))
theorem mw_1207 : (.selects RX9 yX9_setScene yX9_setScene : Cond) ∈ lw_tbl := lw_rd_2 _ (List.mem_of_getElem? (i := 0) rfl)
theorem mw_1200 : (.selects RX9 yX9_agrees yX9_agrees : Cond) ∈ lw_tbl := lw_rd_2 _ (List.mem_of_getElem? (i := 1) rfl)
theorem mw_1245 : (.selects RX9 yX9_sizeBehind yX9_sizeBehind : Cond) ∈ lw_tbl := lw_rd_2 _ (List.mem_of_getElem? (i := 2) rfl)
theorem mw_1250 : (.selects RX9 yX9_gapAt yX9_gapAt : Cond) ∈ lw_tbl := lw_rd_2 _ (List.mem_of_getElem? (i := 3) rfl)
theorem mw_1268 : (.selects RX7 yX7_sizesOf yX7_sizesOf : Cond) ∈ lw_tbl := lw_rd_2 _ (List.mem_of_getElem? (i := 4) rfl)
theorem mw_1301 : (.selects RX2 yX2_keepOutcome yX2_keepOutcome : Cond) ∈ lw_tbl := lw_rd_2 _ (List.mem_of_getElem? (i := 5) rfl)
theorem mw_1337 : (.selects RX2 yX2_isRest yX2_isRest : Cond) ∈ lw_tbl := lw_rd_2 _ (List.mem_of_getElem? (i := 6) rfl)
theorem mw_1358 : (.selects RX2 yX2_partsFrom yX2_partsFrom : Cond) ∈ lw_tbl := lw_rd_2 _ (List.mem_of_getElem? (i := 7) rfl)
theorem mw_1362 : (.selects RX2 yX2_partsBehindDay yX2_partsBehindDay : Cond) ∈ lw_tbl := lw_rd_2 _ (List.mem_of_getElem? (i := 8) rfl)
theorem mw_1419 : (.selects RX11 yX11_leader yX11_leader : Cond) ∈ lw_tbl := lw_rd_2 _ (List.mem_of_getElem? (i := 9) rfl)
theorem mw_1422 : (.selects RX11 yX11_standing yX11_standing : Cond) ∈ lw_tbl := lw_rd_2 _ (List.mem_of_getElem? (i := 10) rfl)
theorem mw_1415 : (.selects RX11 yX11_fullest yX11_fullest : Cond) ∈ lw_tbl := lw_rd_2 _ (List.mem_of_getElem? (i := 11) rfl)
theorem mw_1405 : (.selects RX11 yX11_roomLeft yX11_roomLeft : Cond) ∈ lw_tbl := lw_rd_2 _ (List.mem_of_getElem? (i := 12) rfl)
theorem mw_1400 : (.selects RX11 yX11_allDue yX11_allDue : Cond) ∈ lw_tbl := lw_rd_2 _ (List.mem_of_getElem? (i := 13) rfl)
def lw_rb_3 : List Cond := [.selects RX12 yX12_readOffice yX12_readOffice]
set_option maxRecDepth 100000 in
theorem lw_rc_3 : (List.drop 15 (k2_sels lw_privs_3)).take 1 = lw_rb_3 := rfl
theorem lw_rd_3 : ∀ w ∈ lw_rb_3, w ∈ lw_tbl := fun w h => lw_pm_3 w (List.mem_of_mem_drop (List.mem_of_mem_take (lw_rc_3 ▸ h)))
theorem mw_241 : (.selects RX12 yX12_readOffice yX12_readOffice : Cond) ∈ lw_tbl := lw_rd_3 _ (List.mem_of_getElem? (i := 0) rfl)
def lw_rb_4 : List Cond := [.selects RX12 yX12_look yX12_look, .selects RX12 yX12_here yX12_here, .selects RX12 yX12_items yX12_items, .selects RX12 yX12_number yX12_number, .selects RX12 yX12_bad yX12_bad, .selects RX12 yX12_isWhole yX12_isWhole, .selects RX12 yX12_readLaw yX12_readLaw, .selects RX12 yX12_open yX12_open, .selects RX12 yX12_clause yX12_clause, .selects RX12 yX12_condition yX12_condition, .selects RX12 yX12_unit yX12_unit, .selects RX12 yX12_opens yX12_opens, .selects RX12 yX12_put yX12_put, .selects RX12 yX12_closes yX12_closes, .selects RX12 yX12_sum yX12_sum, .selects RX12 yX12_term yX12_term]
set_option maxRecDepth 100000 in
theorem lw_rc_4 : (List.drop 0 (k2_sels lw_privs_4)).take 16 = lw_rb_4 := rfl
theorem lw_rd_4 : ∀ w ∈ lw_rb_4, w ∈ lw_tbl := fun w h => lw_pm_4 w (List.mem_of_mem_drop (List.mem_of_mem_take (lw_rc_4 ▸ h)))
theorem mw_354 : (.selects RX12 yX12_look yX12_look : Cond) ∈ lw_tbl := lw_rd_4 _ (List.mem_of_getElem? (i := 0) rfl)
theorem mw_357 : (.selects RX12 yX12_here yX12_here : Cond) ∈ lw_tbl := lw_rd_4 _ (List.mem_of_getElem? (i := 1) rfl)
theorem mw_248 : (.selects RX12 yX12_items yX12_items : Cond) ∈ lw_tbl := lw_rd_4 _ (List.mem_of_getElem? (i := 2) rfl)
theorem mw_251 : (.selects RX12 yX12_number yX12_number : Cond) ∈ lw_tbl := lw_rd_4 _ (List.mem_of_getElem? (i := 3) rfl)
theorem mw_350 : (.selects RX12 yX12_bad yX12_bad : Cond) ∈ lw_tbl := lw_rd_4 _ (List.mem_of_getElem? (i := 4) rfl)
theorem mw_244 : (.selects RX12 yX12_isWhole yX12_isWhole : Cond) ∈ lw_tbl := lw_rd_4 _ (List.mem_of_getElem? (i := 5) rfl)
theorem mw_278 : (.selects RX12 yX12_readLaw yX12_readLaw : Cond) ∈ lw_tbl := lw_rd_4 _ (List.mem_of_getElem? (i := 6) rfl)
theorem mw_363 : (.selects RX12 yX12_open yX12_open : Cond) ∈ lw_tbl := lw_rd_4 _ (List.mem_of_getElem? (i := 7) rfl)
theorem mw_285 : (.selects RX12 yX12_clause yX12_clause : Cond) ∈ lw_tbl := lw_rd_4 _ (List.mem_of_getElem? (i := 8) rfl)
theorem mw_288 : (.selects RX12 yX12_condition yX12_condition : Cond) ∈ lw_tbl := lw_rd_4 _ (List.mem_of_getElem? (i := 9) rfl)
theorem mw_298 : (.selects RX12 yX12_unit yX12_unit : Cond) ∈ lw_tbl := lw_rd_4 _ (List.mem_of_getElem? (i := 10) rfl)
theorem mw_334 : (.selects RX12 yX12_opens yX12_opens : Cond) ∈ lw_tbl := lw_rd_4 _ (List.mem_of_getElem? (i := 11) rfl)
theorem mw_328 : (.selects RX12 yX12_put yX12_put : Cond) ∈ lw_tbl := lw_rd_4 _ (List.mem_of_getElem? (i := 12) rfl)
theorem mw_311 : (.selects RX12 yX12_closes yX12_closes : Cond) ∈ lw_tbl := lw_rd_4 _ (List.mem_of_getElem? (i := 13) rfl)
theorem mw_315 : (.selects RX12 yX12_sum yX12_sum : Cond) ∈ lw_tbl := lw_rd_4 _ (List.mem_of_getElem? (i := 14) rfl)
theorem mw_318 : (.selects RX12 yX12_term yX12_term : Cond) ∈ lw_tbl := lw_rd_4 _ (List.mem_of_getElem? (i := 15) rfl)
def lw_rb_5 : List Cond := [.selects RX12 yX12_atom yX12_atom, .selects RX12 yX12_plainNumber yX12_plainNumber, .selects RX12 yX12_compare yX12_compare, .selects RX12 yX12_goOnAnd yX12_goOnAnd, .selects RX12 yX12_goOnOr yX12_goOnOr, .selects RX12 yX12_atEnd yX12_atEnd, .selects RX12 yX12_takeOffice yX12_takeOffice, .selects RX12 yX12_layBag yX12_layBag, .selects RX12 yX12_set yX12_set, .selects RX12 yX12_isThere yX12_isThere, .selects RX12 yX12_of yX12_of, .selects RX12 yX12_growthOf yX12_growthOf, .selects RX12 yX12_withOf yX12_withOf, .selects RX12 yX12_worthOf yX12_worthOf, .selects RX12 yX12_workOut yX12_workOut, .selects RX12 yX12_isShelf yX12_isShelf]
set_option maxRecDepth 100000 in
theorem lw_rc_5 : (List.drop 0 (k2_sels lw_privs_5)).take 16 = lw_rb_5 := rfl
theorem lw_rd_5 : ∀ w ∈ lw_rb_5, w ∈ lw_tbl := fun w h => lw_pm_5 w (List.mem_of_mem_drop (List.mem_of_mem_take (lw_rc_5 ▸ h)))
theorem mw_321 : (.selects RX12 yX12_atom yX12_atom : Cond) ∈ lw_tbl := lw_rd_5 _ (List.mem_of_getElem? (i := 0) rfl)
theorem mw_324 : (.selects RX12 yX12_plainNumber yX12_plainNumber : Cond) ∈ lw_tbl := lw_rd_5 _ (List.mem_of_getElem? (i := 1) rfl)
theorem mw_304 : (.selects RX12 yX12_compare yX12_compare : Cond) ∈ lw_tbl := lw_rd_5 _ (List.mem_of_getElem? (i := 2) rfl)
theorem mw_295 : (.selects RX12 yX12_goOnAnd yX12_goOnAnd : Cond) ∈ lw_tbl := lw_rd_5 _ (List.mem_of_getElem? (i := 3) rfl)
theorem mw_291 : (.selects RX12 yX12_goOnOr yX12_goOnOr : Cond) ∈ lw_tbl := lw_rd_5 _ (List.mem_of_getElem? (i := 4) rfl)
theorem mw_281 : (.selects RX12 yX12_atEnd yX12_atEnd : Cond) ∈ lw_tbl := lw_rd_5 _ (List.mem_of_getElem? (i := 5) rfl)
theorem mw_475 : (.selects RX12 yX12_takeOffice yX12_takeOffice : Cond) ∈ lw_tbl := lw_rd_5 _ (List.mem_of_getElem? (i := 6) rfl)
theorem mw_478 : (.selects RX12 yX12_layBag yX12_layBag : Cond) ∈ lw_tbl := lw_rd_5 _ (List.mem_of_getElem? (i := 7) rfl)
theorem mw_481 : (.selects RX12 yX12_set yX12_set : Cond) ∈ lw_tbl := lw_rd_5 _ (List.mem_of_getElem? (i := 8) rfl)
theorem mw_605 : (.selects RX12 yX12_isThere yX12_isThere : Cond) ∈ lw_tbl := lw_rd_5 _ (List.mem_of_getElem? (i := 9) rfl)
theorem mw_608 : (.selects RX12 yX12_of yX12_of : Cond) ∈ lw_tbl := lw_rd_5 _ (List.mem_of_getElem? (i := 10) rfl)
theorem mw_569 : (.selects RX12 yX12_growthOf yX12_growthOf : Cond) ∈ lw_tbl := lw_rd_5 _ (List.mem_of_getElem? (i := 11) rfl)
theorem mw_599 : (.selects RX12 yX12_withOf yX12_withOf : Cond) ∈ lw_tbl := lw_rd_5 _ (List.mem_of_getElem? (i := 12) rfl)
theorem mw_572 : (.selects RX12 yX12_worthOf yX12_worthOf : Cond) ∈ lw_tbl := lw_rd_5 _ (List.mem_of_getElem? (i := 13) rfl)
theorem mw_575 : (.selects RX12 yX12_workOut yX12_workOut : Cond) ∈ lw_tbl := lw_rd_5 _ (List.mem_of_getElem? (i := 14) rfl)
theorem mw_633 : (.selects RX12 yX12_isShelf yX12_isShelf : Cond) ∈ lw_tbl := lw_rd_5 _ (List.mem_of_getElem? (i := 15) rfl)
def lw_rb_6 : List Cond := [.selects RX12 yX12_loadOf yX12_loadOf, .selects RX12 yX12_areDays yX12_areDays, .selects RX12 yX12_isRefused yX12_isRefused, .selects RX12 yX12_keep yX12_keep, .selects RX12 yX12_passDay yX12_passDay, .selects RX12 yX12_live yX12_live, .selects RX12 yX12_growAll yX12_growAll, .selects RX12 yX12_endAll yX12_endAll, .selects RX12 yX12_dropAll yX12_dropAll, .selects RX12 yX12_largestOn yX12_largestOn, .selects RX12 yX12_sizeAll yX12_sizeAll, .selects RX12 yX12_does yX12_does, .selects RX12 yX12_freePlace yX12_freePlace, .selects RX12 yX12_leaveNow yX12_leaveNow, .selects RX12 yX12_callNow yX12_callNow, .selects RX12 yX12_drawDay yX12_drawDay]
set_option maxRecDepth 100000 in
theorem lw_rc_6 : (List.drop 0 (k2_sels lw_privs_6)).take 16 = lw_rb_6 := rfl
theorem lw_rd_6 : ∀ w ∈ lw_rb_6, w ∈ lw_tbl := fun w h => lw_pm_6 w (List.mem_of_mem_drop (List.mem_of_mem_take (lw_rc_6 ▸ h)))
theorem mw_629 : (.selects RX12 yX12_loadOf yX12_loadOf : Cond) ∈ lw_tbl := lw_rd_6 _ (List.mem_of_getElem? (i := 0) rfl)
theorem mw_770 : (.selects RX12 yX12_areDays yX12_areDays : Cond) ∈ lw_tbl := lw_rd_6 _ (List.mem_of_getElem? (i := 1) rfl)
theorem mw_766 : (.selects RX12 yX12_isRefused yX12_isRefused : Cond) ∈ lw_tbl := lw_rd_6 _ (List.mem_of_getElem? (i := 2) rfl)
theorem mw_761 : (.selects RX12 yX12_keep yX12_keep : Cond) ∈ lw_tbl := lw_rd_6 _ (List.mem_of_getElem? (i := 3) rfl)
theorem mw_730 : (.selects RX12 yX12_passDay yX12_passDay : Cond) ∈ lw_tbl := lw_rd_6 _ (List.mem_of_getElem? (i := 4) rfl)
theorem mw_737 : (.selects RX12 yX12_live yX12_live : Cond) ∈ lw_tbl := lw_rd_6 _ (List.mem_of_getElem? (i := 5) rfl)
theorem mw_754 : (.selects RX12 yX12_growAll yX12_growAll : Cond) ∈ lw_tbl := lw_rd_6 _ (List.mem_of_getElem? (i := 6) rfl)
theorem mw_749 : (.selects RX12 yX12_endAll yX12_endAll : Cond) ∈ lw_tbl := lw_rd_6 _ (List.mem_of_getElem? (i := 7) rfl)
theorem mw_740 : (.selects RX12 yX12_dropAll yX12_dropAll : Cond) ∈ lw_tbl := lw_rd_6 _ (List.mem_of_getElem? (i := 8) rfl)
theorem mw_743 : (.selects RX12 yX12_largestOn yX12_largestOn : Cond) ∈ lw_tbl := lw_rd_6 _ (List.mem_of_getElem? (i := 9) rfl)
theorem mw_733 : (.selects RX12 yX12_sizeAll yX12_sizeAll : Cond) ∈ lw_tbl := lw_rd_6 _ (List.mem_of_getElem? (i := 10) rfl)
theorem mw_800 : (.selects RX12 yX12_does yX12_does : Cond) ∈ lw_tbl := lw_rd_6 _ (List.mem_of_getElem? (i := 11) rfl)
theorem mw_796 : (.selects RX12 yX12_freePlace yX12_freePlace : Cond) ∈ lw_tbl := lw_rd_6 _ (List.mem_of_getElem? (i := 12) rfl)
theorem mw_792 : (.selects RX12 yX12_leaveNow yX12_leaveNow : Cond) ∈ lw_tbl := lw_rd_6 _ (List.mem_of_getElem? (i := 13) rfl)
theorem mw_828 : (.selects RX12 yX12_callNow yX12_callNow : Cond) ∈ lw_tbl := lw_rd_6 _ (List.mem_of_getElem? (i := 14) rfl)
theorem mw_901 : (.selects RX12 yX12_drawDay yX12_drawDay : Cond) ∈ lw_tbl := lw_rd_6 _ (List.mem_of_getElem? (i := 15) rfl)
def lw_rb_7 : List Cond := [.selects RX12 yX12_draw yX12_draw, .selects RX12 yX12_putAside yX12_putAside, .selects RX12 yX12_sizeNow yX12_sizeNow, .selects RX12 yX12_takeBack yX12_takeBack, .selects RX12 yX12_daysTo yX12_daysTo, .selects RX12 yX12_layRow yX12_layRow, .selects RX12 yX12_bagOnes yX12_bagOnes, .selects RX12 yX12_tryShelf yX12_tryShelf, .selects RX12 yX12_isCalm yX12_isCalm, .selects RX12 yX12_setsOff yX12_setsOff, .selects RX12 yX12_stubbornOf yX12_stubbornOf, .selects RX12 yX12_doRoar yX12_doRoar, .selects RX12 yX12_isTold yX12_isTold, .selects RX12 yX12_isSize yX12_isSize, .selects RX12 yX12_layAlone yX12_layAlone, .selects RX12 yX12_ripeOnes yX12_ripeOnes]
set_option maxRecDepth 100000 in
theorem lw_rc_7 : (List.drop 0 (k2_sels lw_privs_7)).take 16 = lw_rb_7 := rfl
theorem lw_rd_7 : ∀ w ∈ lw_rb_7, w ∈ lw_tbl := fun w h => lw_pm_7 w (List.mem_of_mem_drop (List.mem_of_mem_take (lw_rc_7 ▸ h)))
theorem mw_904 : (.selects RX12 yX12_draw yX12_draw : Cond) ∈ lw_tbl := lw_rd_7 _ (List.mem_of_getElem? (i := 0) rfl)
theorem mw_988 : (.selects RX12 yX12_putAside yX12_putAside : Cond) ∈ lw_tbl := lw_rd_7 _ (List.mem_of_getElem? (i := 1) rfl)
theorem mw_984 : (.selects RX12 yX12_sizeNow yX12_sizeNow : Cond) ∈ lw_tbl := lw_rd_7 _ (List.mem_of_getElem? (i := 2) rfl)
theorem mw_980 : (.selects RX12 yX12_takeBack yX12_takeBack : Cond) ∈ lw_tbl := lw_rd_7 _ (List.mem_of_getElem? (i := 3) rfl)
theorem mw_1005 : (.selects RX12 yX12_daysTo yX12_daysTo : Cond) ∈ lw_tbl := lw_rd_7 _ (List.mem_of_getElem? (i := 4) rfl)
theorem mw_1080 : (.selects RX12 yX12_layRow yX12_layRow : Cond) ∈ lw_tbl := lw_rd_7 _ (List.mem_of_getElem? (i := 5) rfl)
theorem mw_1102 : (.selects RX12 yX12_bagOnes yX12_bagOnes : Cond) ∈ lw_tbl := lw_rd_7 _ (List.mem_of_getElem? (i := 6) rfl)
theorem mw_1083 : (.selects RX12 yX12_tryShelf yX12_tryShelf : Cond) ∈ lw_tbl := lw_rd_7 _ (List.mem_of_getElem? (i := 7) rfl)
theorem mw_1087 : (.selects RX12 yX12_isCalm yX12_isCalm : Cond) ∈ lw_tbl := lw_rd_7 _ (List.mem_of_getElem? (i := 8) rfl)
theorem mw_1090 : (.selects RX12 yX12_setsOff yX12_setsOff : Cond) ∈ lw_tbl := lw_rd_7 _ (List.mem_of_getElem? (i := 9) rfl)
theorem mw_1093 : (.selects RX12 yX12_stubbornOf yX12_stubbornOf : Cond) ∈ lw_tbl := lw_rd_7 _ (List.mem_of_getElem? (i := 10) rfl)
theorem mw_1154 : (.selects RX12 yX12_doRoar yX12_doRoar : Cond) ∈ lw_tbl := lw_rd_7 _ (List.mem_of_getElem? (i := 11) rfl)
theorem mw_1183 : (.selects RX12 yX12_isTold yX12_isTold : Cond) ∈ lw_tbl := lw_rd_7 _ (List.mem_of_getElem? (i := 12) rfl)
theorem mw_1229 : (.selects RX12 yX12_isSize yX12_isSize : Cond) ∈ lw_tbl := lw_rd_7 _ (List.mem_of_getElem? (i := 13) rfl)
theorem mw_1232 : (.selects RX12 yX12_layAlone yX12_layAlone : Cond) ∈ lw_tbl := lw_rd_7 _ (List.mem_of_getElem? (i := 14) rfl)
theorem mw_1285 : (.selects RX12 yX12_ripeOnes yX12_ripeOnes : Cond) ∈ lw_tbl := lw_rd_7 _ (List.mem_of_getElem? (i := 15) rfl)
def lw_rb_8 : List Cond := [.selects RX12 yX12_sizeOf yX12_sizeOf, .selects RX12 yX12_gameOf yX12_gameOf, .selects RX12 yX12_isRest yX12_isRest, .selects RX12 yX12_oddsFrom yX12_oddsFrom, .selects RX12 yX12_fullest yX12_fullest, .selects RX12 yX12_onesBy yX12_onesBy, .selects RX12 yX12_roomLeft yX12_roomLeft, .selects RX12 yX12_due yX12_due, .selects RX12 yX12_quarrels yX12_quarrels, .selects RX12 yX12_topBag yX12_topBag, .selects RX12 yX12_valueOf yX12_valueOf]
set_option maxRecDepth 100000 in
theorem lw_rc_8 : (List.drop 0 (k2_sels lw_privs_8)).take 11 = lw_rb_8 := rfl
theorem lw_rd_8 : ∀ w ∈ lw_rb_8, w ∈ lw_tbl := fun w h => lw_pm_8 w (List.mem_of_mem_drop (List.mem_of_mem_take (lw_rc_8 ▸ h)))
theorem mw_1281 : (.selects RX12 yX12_sizeOf yX12_sizeOf : Cond) ∈ lw_tbl := lw_rd_8 _ (List.mem_of_getElem? (i := 0) rfl)
theorem mw_1324 : (.selects RX12 yX12_gameOf yX12_gameOf : Cond) ∈ lw_tbl := lw_rd_8 _ (List.mem_of_getElem? (i := 1) rfl)
theorem mw_1347 : (.selects RX12 yX12_isRest yX12_isRest : Cond) ∈ lw_tbl := lw_rd_8 _ (List.mem_of_getElem? (i := 2) rfl)
theorem mw_1378 : (.selects RX12 yX12_oddsFrom yX12_oddsFrom : Cond) ∈ lw_tbl := lw_rd_8 _ (List.mem_of_getElem? (i := 3) rfl)
theorem mw_1455 : (.selects RX12 yX12_fullest yX12_fullest : Cond) ∈ lw_tbl := lw_rd_8 _ (List.mem_of_getElem? (i := 4) rfl)
theorem mw_1451 : (.selects RX12 yX12_onesBy yX12_onesBy : Cond) ∈ lw_tbl := lw_rd_8 _ (List.mem_of_getElem? (i := 5) rfl)
theorem mw_1447 : (.selects RX12 yX12_roomLeft yX12_roomLeft : Cond) ∈ lw_tbl := lw_rd_8 _ (List.mem_of_getElem? (i := 6) rfl)
theorem mw_1443 : (.selects RX12 yX12_due yX12_due : Cond) ∈ lw_tbl := lw_rd_8 _ (List.mem_of_getElem? (i := 7) rfl)
theorem mw_1439 : (.selects RX12 yX12_quarrels yX12_quarrels : Cond) ∈ lw_tbl := lw_rd_8 _ (List.mem_of_getElem? (i := 8) rfl)
theorem mw_1431 : (.selects RX12 yX12_topBag yX12_topBag : Cond) ∈ lw_tbl := lw_rd_8 _ (List.mem_of_getElem? (i := 9) rfl)
theorem mw_1434 : (.selects RX12 yX12_valueOf yX12_valueOf : Cond) ∈ lw_tbl := lw_rd_8 _ (List.mem_of_getElem? (i := 10) rfl)
def lw_rb_9 : List Cond := [.initialized RL, .initialized RX11, .initialized RX10, .initialized RX6, .initialized RX3, .initialized RX4, .initialized RX5, .initialized RX7, .initialized RX1, .initialized RX0, .initialized RX2, .initialized RX9, .initialized RX8, .initialized RX12, .initialized "java/lang/Math", .initialized "java/lang/System", .initialized RJ0, .initialized RJ1]
set_option maxRecDepth 100000 in
theorem lw_rc_9 : (List.drop 0 tables_1_1).take 18 = lw_rb_9 := rfl
theorem lw_rd_9 : ∀ w ∈ lw_rb_9, w ∈ lw_tbl := fun w h => lw_tm_1 w (List.mem_of_mem_drop (List.mem_of_mem_take (lw_rc_9 ▸ h)))
theorem mw_565 : (.initialized RL : Cond) ∈ lw_tbl := lw_rd_9 _ (List.mem_of_getElem? (i := 0) rfl)
theorem mw_16 : (.initialized RX11 : Cond) ∈ lw_tbl := lw_rd_9 _ (List.mem_of_getElem? (i := 1) rfl)
theorem mw_13 : (.initialized RX10 : Cond) ∈ lw_tbl := lw_rd_9 _ (List.mem_of_getElem? (i := 2) rfl)
theorem mw_86 : (.initialized RX6 : Cond) ∈ lw_tbl := lw_rd_9 _ (List.mem_of_getElem? (i := 3) rfl)
theorem mw_161 : (.initialized RX3 : Cond) ∈ lw_tbl := lw_rd_9 _ (List.mem_of_getElem? (i := 4) rfl)
theorem mw_466 : (.initialized RX4 : Cond) ∈ lw_tbl := lw_rd_9 _ (List.mem_of_getElem? (i := 5) rfl)
theorem mw_434 : (.initialized RX5 : Cond) ∈ lw_tbl := lw_rd_9 _ (List.mem_of_getElem? (i := 6) rfl)
theorem mw_422 : (.initialized RX7 : Cond) ∈ lw_tbl := lw_rd_9 _ (List.mem_of_getElem? (i := 7) rfl)
theorem mw_661 : (.initialized RX1 : Cond) ∈ lw_tbl := lw_rd_9 _ (List.mem_of_getElem? (i := 8) rfl)
theorem mw_392 : (.initialized RX0 : Cond) ∈ lw_tbl := lw_rd_9 _ (List.mem_of_getElem? (i := 9) rfl)
theorem mw_962 : (.initialized RX2 : Cond) ∈ lw_tbl := lw_rd_9 _ (List.mem_of_getElem? (i := 10) rfl)
theorem mw_385 : (.initialized RX9 : Cond) ∈ lw_tbl := lw_rd_9 _ (List.mem_of_getElem? (i := 11) rfl)
theorem mw_1055 : (.initialized RX8 : Cond) ∈ lw_tbl := lw_rd_9 _ (List.mem_of_getElem? (i := 12) rfl)
theorem mw_23 : (.initialized RX12 : Cond) ∈ lw_tbl := lw_rd_9 _ (List.mem_of_getElem? (i := 13) rfl)
theorem mw_37 : (.initialized "java/lang/Math" : Cond) ∈ lw_tbl := lw_rd_9 _ (List.mem_of_getElem? (i := 14) rfl)
theorem mw_664 : (.initialized RJ9 : Cond) ∈ lw_tbl := lw_rd_9 _ (List.mem_of_getElem? (i := 14) rfl)
theorem mw_98 : (.initialized "java/lang/System" : Cond) ∈ lw_tbl := lw_rd_9 _ (List.mem_of_getElem? (i := 15) rfl)
theorem mw_198 : (.initialized RJ0 : Cond) ∈ lw_tbl := lw_rd_9 _ (List.mem_of_getElem? (i := 16) rfl)
theorem mw_183 : (.initialized RJ1 : Cond) ∈ lw_tbl := lw_rd_9 _ (List.mem_of_getElem? (i := 17) rfl)
def lw_rb_10 : List Cond := [.initialized RJ7]
set_option maxRecDepth 100000 in
theorem lw_rc_10 : (List.drop 21 tables_1_1).take 1 = lw_rb_10 := rfl
theorem lw_rd_10 : ∀ w ∈ lw_rb_10, w ∈ lw_tbl := fun w h => lw_tm_1 w (List.mem_of_mem_drop (List.mem_of_mem_take (lw_rc_10 ▸ h)))
theorem mw_425 : (.initialized RJ7 : Cond) ∈ lw_tbl := lw_rd_10 _ (List.mem_of_getElem? (i := 0) rfl)
def lw_rb_11 : List Cond := [.initialized "java/util/NoSuchElementException", .initialized RJ6, .classLink RL 8 RX11, .instantiable RX11 17, .methodLink RL 15 yX11_init, .instanceMethod yX11_init, .code yX11_init cX11_init 1 none, .methodLink RX11 1 objectInit, .instanceMethod objectInit, .code objectInit ⟨#[0xb1]⟩ 1 none, .classLink RX11 7 RX10, .instantiable RX10 5]
set_option maxRecDepth 100000 in
theorem lw_rc_11 : (List.drop 25 tables_1_1).take 12 = lw_rb_11 := rfl
theorem lw_rd_11 : ∀ w ∈ lw_rb_11, w ∈ lw_tbl := fun w h => lw_tm_1 w (List.mem_of_mem_drop (List.mem_of_mem_take (lw_rc_11 ▸ h)))
theorem mw_557 : (.initialized "java/util/NoSuchElementException" : Cond) ∈ lw_tbl := lw_rd_11 _ (List.mem_of_getElem? (i := 0) rfl)
theorem mw_1143 : (.initialized RJ6 : Cond) ∈ lw_tbl := lw_rd_11 _ (List.mem_of_getElem? (i := 1) rfl)
theorem mw_1505 : (.classLink RL 8 RX11 : Cond) ∈ lw_tbl := lw_rd_11 _ (List.mem_of_getElem? (i := 2) rfl)
theorem mw_1506 : (.instantiable RX11 17 : Cond) ∈ lw_tbl := lw_rd_11 _ (List.mem_of_getElem? (i := 3) rfl)
theorem mw_1575 : (.methodLink RL 15 yX11_init : Cond) ∈ lw_tbl := lw_rd_11 _ (List.mem_of_getElem? (i := 4) rfl)
theorem mw_1576 : (.instanceMethod yX11_init : Cond) ∈ lw_tbl := lw_rd_11 _ (List.mem_of_getElem? (i := 5) rfl)
theorem mw_1574 : (.code yX11_init cX11_init 1 none : Cond) ∈ lw_tbl := lw_rd_11 _ (List.mem_of_getElem? (i := 6) rfl)
theorem mw_1573 : (.methodLink RX11 1 objectInit : Cond) ∈ lw_tbl := lw_rd_11 _ (List.mem_of_getElem? (i := 7) rfl)
theorem mw_1572 : (.instanceMethod objectInit : Cond) ∈ lw_tbl := lw_rd_11 _ (List.mem_of_getElem? (i := 8) rfl)
theorem mw_1571 : (.code objectInit ⟨#[0xb1]⟩ 1 none : Cond) ∈ lw_tbl := lw_rd_11 _ (List.mem_of_getElem? (i := 9) rfl)
theorem mw_1570 : (.classLink RX11 7 RX10 : Cond) ∈ lw_tbl := lw_rd_11 _ (List.mem_of_getElem? (i := 10) rfl)
theorem mw_1569 : (.instantiable RX10 5 : Cond) ∈ lw_tbl := lw_rd_11 _ (List.mem_of_getElem? (i := 11) rfl)
def lw_rb_12 : List Cond := [.instanceMethod yX10_init, .code yX10_init cX10_init 1 none, .methodLink RX10 3 objectInit, .fieldLink RX10 9 "LeftArguments$Tape" "bytes" "[I", .fieldLink RX10 15 "LeftArguments$Tape" "used" "I", .fieldLink RX10 19 "LeftArguments$Tape" "at" "I", .fieldLink RX10 22 "LeftArguments$Tape" "wrongAt" "I", .fieldLink RX10 25 "LeftArguments$Tape" "number" "I"]
set_option maxRecDepth 100000 in
theorem lw_rc_12 : (List.drop 38 tables_1_1).take 8 = lw_rb_12 := rfl
theorem lw_rd_12 : ∀ w ∈ lw_rb_12, w ∈ lw_tbl := fun w h => lw_tm_1 w (List.mem_of_mem_drop (List.mem_of_mem_take (lw_rc_12 ▸ h)))
theorem mw_1565 : (.instanceMethod yX10_init : Cond) ∈ lw_tbl := lw_rd_12 _ (List.mem_of_getElem? (i := 0) rfl)
theorem mw_1568 : (.code yX10_init cX10_init 1 none : Cond) ∈ lw_tbl := lw_rd_12 _ (List.mem_of_getElem? (i := 1) rfl)
theorem mw_1567 : (.methodLink RX10 3 objectInit : Cond) ∈ lw_tbl := lw_rd_12 _ (List.mem_of_getElem? (i := 2) rfl)
theorem mw_3 : (.fieldLink RX10 9 "LeftArguments$Tape" "bytes" "[I" : Cond) ∈ lw_tbl := lw_rd_12 _ (List.mem_of_getElem? (i := 3) rfl)
theorem mw_8 : (.fieldLink RX10 15 "LeftArguments$Tape" "used" "I" : Cond) ∈ lw_tbl := lw_rd_12 _ (List.mem_of_getElem? (i := 4) rfl)
theorem mw_231 : (.fieldLink RX10 19 "LeftArguments$Tape" "at" "I" : Cond) ∈ lw_tbl := lw_rd_12 _ (List.mem_of_getElem? (i := 5) rfl)
theorem mw_230 : (.fieldLink RX10 22 "LeftArguments$Tape" "wrongAt" "I" : Cond) ∈ lw_tbl := lw_rd_12 _ (List.mem_of_getElem? (i := 6) rfl)
theorem mw_155 : (.fieldLink RX10 25 "LeftArguments$Tape" "number" "I" : Cond) ∈ lw_tbl := lw_rd_12 _ (List.mem_of_getElem? (i := 7) rfl)
def lw_rb_13 : List Cond := [.arrayClass .int, .classLink RX11 16 RX6, .instantiable RX6 5, .methodLink RX11 18 yX6_init, .instanceMethod yX6_init, .code yX6_init cX6_init 2 none, .methodLink RX6 3 objectInit, .fieldLink RX6 26 "LeftArguments$OfficeReader" "tape" "LLeftArguments$Tape;", .fieldLink RX6 11 "LeftArguments$OfficeReader" "rules" "[I", .fieldLink RX6 15 "LeftArguments$OfficeReader" "bags" "[I", .fieldLink RX6 18 "LeftArguments$OfficeReader" "rulesTold" "Z", .fieldLink RX6 22 "LeftArguments$OfficeReader" "bagCount" "I"]
set_option maxRecDepth 100000 in
theorem lw_rc_13 : (List.drop 57 tables_1_1).take 12 = lw_rb_13 := rfl
theorem lw_rd_13 : ∀ w ∈ lw_rb_13, w ∈ lw_tbl := fun w h => lw_tm_1 w (List.mem_of_mem_drop (List.mem_of_mem_take (lw_rc_13 ▸ h)))
theorem mw_1566 : (.arrayClass .int : Cond) ∈ lw_tbl := lw_rd_13 _ (List.mem_of_getElem? (i := 0) rfl)
theorem mw_1564 : (.classLink RX11 16 RX6 : Cond) ∈ lw_tbl := lw_rd_13 _ (List.mem_of_getElem? (i := 1) rfl)
theorem mw_1563 : (.instantiable RX6 5 : Cond) ∈ lw_tbl := lw_rd_13 _ (List.mem_of_getElem? (i := 2) rfl)
theorem mw_1559 : (.methodLink RX11 18 yX6_init : Cond) ∈ lw_tbl := lw_rd_13 _ (List.mem_of_getElem? (i := 3) rfl)
theorem mw_1560 : (.instanceMethod yX6_init : Cond) ∈ lw_tbl := lw_rd_13 _ (List.mem_of_getElem? (i := 4) rfl)
theorem mw_1562 : (.code yX6_init cX6_init 2 none : Cond) ∈ lw_tbl := lw_rd_13 _ (List.mem_of_getElem? (i := 5) rfl)
theorem mw_1561 : (.methodLink RX6 3 objectInit : Cond) ∈ lw_tbl := lw_rd_13 _ (List.mem_of_getElem? (i := 6) rfl)
theorem mw_107 : (.fieldLink RX6 26 "LeftArguments$OfficeReader" "tape" "LLeftArguments$Tape;" : Cond) ∈ lw_tbl := lw_rd_13 _ (List.mem_of_getElem? (i := 7) rfl)
theorem mw_102 : (.fieldLink RX6 11 "LeftArguments$OfficeReader" "rules" "[I" : Cond) ∈ lw_tbl := lw_rd_13 _ (List.mem_of_getElem? (i := 8) rfl)
theorem mw_90 : (.fieldLink RX6 15 "LeftArguments$OfficeReader" "bags" "[I" : Cond) ∈ lw_tbl := lw_rd_13 _ (List.mem_of_getElem? (i := 9) rfl)
theorem mw_105 : (.fieldLink RX6 18 "LeftArguments$OfficeReader" "rulesTold" "Z" : Cond) ∈ lw_tbl := lw_rd_13 _ (List.mem_of_getElem? (i := 10) rfl)
theorem mw_104 : (.fieldLink RX6 22 "LeftArguments$OfficeReader" "bagCount" "I" : Cond) ∈ lw_tbl := lw_rd_13 _ (List.mem_of_getElem? (i := 11) rfl)
def lw_rb_14 : List Cond := [.classLink RX11 25 RX3, .instantiable RX3 3, .methodLink RX11 27 yX3_init, .instanceMethod yX3_init, .code yX3_init cX3_init 2 none, .methodLink RX3 3 objectInit, .fieldLink RX3 19 "LeftArguments$LawReader" "tape" "LLeftArguments$Tape;", .fieldLink RX3 11 "LeftArguments$LawReader" "code" "[I", .fieldLink RX3 15 "LeftArguments$LawReader" "used" "I"]
set_option maxRecDepth 100000 in
theorem lw_rc_14 : (List.drop 80 tables_1_1).take 9 = lw_rb_14 := rfl
theorem lw_rd_14 : ∀ w ∈ lw_rb_14, w ∈ lw_tbl := fun w h => lw_tm_1 w (List.mem_of_mem_drop (List.mem_of_mem_take (lw_rc_14 ▸ h)))
theorem mw_1558 : (.classLink RX11 25 RX3 : Cond) ∈ lw_tbl := lw_rd_14 _ (List.mem_of_getElem? (i := 0) rfl)
theorem mw_1557 : (.instantiable RX3 3 : Cond) ∈ lw_tbl := lw_rd_14 _ (List.mem_of_getElem? (i := 1) rfl)
theorem mw_1553 : (.methodLink RX11 27 yX3_init : Cond) ∈ lw_tbl := lw_rd_14 _ (List.mem_of_getElem? (i := 2) rfl)
theorem mw_1554 : (.instanceMethod yX3_init : Cond) ∈ lw_tbl := lw_rd_14 _ (List.mem_of_getElem? (i := 3) rfl)
theorem mw_1556 : (.code yX3_init cX3_init 2 none : Cond) ∈ lw_tbl := lw_rd_14 _ (List.mem_of_getElem? (i := 4) rfl)
theorem mw_1555 : (.methodLink RX3 3 objectInit : Cond) ∈ lw_tbl := lw_rd_14 _ (List.mem_of_getElem? (i := 5) rfl)
theorem mw_233 : (.fieldLink RX3 19 "LeftArguments$LawReader" "tape" "LLeftArguments$Tape;" : Cond) ∈ lw_tbl := lw_rd_14 _ (List.mem_of_getElem? (i := 6) rfl)
theorem mw_162 : (.fieldLink RX3 11 "LeftArguments$LawReader" "code" "[I" : Cond) ∈ lw_tbl := lw_rd_14 _ (List.mem_of_getElem? (i := 7) rfl)
theorem mw_226 : (.fieldLink RX3 15 "LeftArguments$LawReader" "used" "I" : Cond) ∈ lw_tbl := lw_rd_14 _ (List.mem_of_getElem? (i := 8) rfl)
def lw_rb_15 : List Cond := [.classLink RX11 32 RX4, .instantiable RX4 6]
set_option maxRecDepth 100000 in
theorem lw_rc_15 : (List.drop 96 tables_1_1).take 2 = lw_rb_15 := rfl
theorem lw_rd_15 : ∀ w ∈ lw_rb_15, w ∈ lw_tbl := fun w h => lw_tm_1 w (List.mem_of_mem_drop (List.mem_of_mem_take (lw_rc_15 ▸ h)))
theorem mw_1552 : (.classLink RX11 32 RX4 : Cond) ∈ lw_tbl := lw_rd_15 _ (List.mem_of_getElem? (i := 0) rfl)
theorem mw_1551 : (.instantiable RX4 6 : Cond) ∈ lw_tbl := lw_rd_15 _ (List.mem_of_getElem? (i := 1) rfl)
def lw_rb_16 : List Cond := [.instanceMethod yX4_init, .code yX4_init cX4_init 1 none, .methodLink RX4 3 objectInit, .classLink RX4 11 "[[I"]
set_option maxRecDepth 100000 in
theorem lw_rc_16 : (List.drop 99 tables_1_1).take 4 = lw_rb_16 := rfl
theorem lw_rd_16 : ∀ w ∈ lw_rb_16, w ∈ lw_tbl := fun w h => lw_tm_1 w (List.mem_of_mem_drop (List.mem_of_mem_take (lw_rc_16 ▸ h)))
theorem mw_1547 : (.instanceMethod yX4_init : Cond) ∈ lw_tbl := lw_rd_16 _ (List.mem_of_getElem? (i := 0) rfl)
theorem mw_1550 : (.code yX4_init cX4_init 1 none : Cond) ∈ lw_tbl := lw_rd_16 _ (List.mem_of_getElem? (i := 1) rfl)
theorem mw_1549 : (.methodLink RX4 3 objectInit : Cond) ∈ lw_tbl := lw_rd_16 _ (List.mem_of_getElem? (i := 2) rfl)
theorem mw_1548 : (.classLink RX4 11 "[[I" : Cond) ∈ lw_tbl := lw_rd_16 _ (List.mem_of_getElem? (i := 3) rfl)
def lw_rb_17 : List Cond := [.fieldLink RX4 13 "LeftArguments$Laws" "codes" "[[I", .fieldLink RX4 18 "LeftArguments$Laws" "lengths" "[I", .fieldLink RX4 22 "LeftArguments$Laws" "letters" "[I", .fieldLink RX4 25 "LeftArguments$Laws" "pile" "[I", .fieldLink RX4 28 "LeftArguments$Laws" "number" "I", .fieldLink RX4 32 "LeftArguments$Laws" "chosen" "I"]
set_option maxRecDepth 100000 in
theorem lw_rc_17 : (List.drop 104 tables_1_1).take 6 = lw_rb_17 := rfl
theorem lw_rd_17 : ∀ w ∈ lw_rb_17, w ∈ lw_tbl := fun w h => lw_tm_1 w (List.mem_of_mem_drop (List.mem_of_mem_take (lw_rc_17 ▸ h)))
theorem mw_460 : (.fieldLink RX4 13 "LeftArguments$Laws" "codes" "[[I" : Cond) ∈ lw_tbl := lw_rd_17 _ (List.mem_of_getElem? (i := 0) rfl)
theorem mw_461 : (.fieldLink RX4 18 "LeftArguments$Laws" "lengths" "[I" : Cond) ∈ lw_tbl := lw_rd_17 _ (List.mem_of_getElem? (i := 1) rfl)
theorem mw_541 : (.fieldLink RX4 22 "LeftArguments$Laws" "letters" "[I" : Cond) ∈ lw_tbl := lw_rd_17 _ (List.mem_of_getElem? (i := 2) rfl)
theorem mw_535 : (.fieldLink RX4 25 "LeftArguments$Laws" "pile" "[I" : Cond) ∈ lw_tbl := lw_rd_17 _ (List.mem_of_getElem? (i := 3) rfl)
theorem mw_467 : (.fieldLink RX4 28 "LeftArguments$Laws" "number" "I" : Cond) ∈ lw_tbl := lw_rd_17 _ (List.mem_of_getElem? (i := 4) rfl)
theorem mw_545 : (.fieldLink RX4 32 "LeftArguments$Laws" "chosen" "I" : Cond) ∈ lw_tbl := lw_rd_17 _ (List.mem_of_getElem? (i := 5) rfl)
def lw_rb_18 : List Cond := [.classLink RX11 39 RX5, .instantiable RX5 4]
set_option maxRecDepth 100000 in
theorem lw_rc_18 : (List.drop 123 tables_1_1).take 2 = lw_rb_18 := rfl
theorem lw_rd_18 : ∀ w ∈ lw_rb_18, w ∈ lw_tbl := fun w h => lw_tm_1 w (List.mem_of_mem_drop (List.mem_of_mem_take (lw_rc_18 ▸ h)))
theorem mw_1546 : (.classLink RX11 39 RX5 : Cond) ∈ lw_tbl := lw_rd_18 _ (List.mem_of_getElem? (i := 0) rfl)
theorem mw_1545 : (.instantiable RX5 4 : Cond) ∈ lw_tbl := lw_rd_18 _ (List.mem_of_getElem? (i := 1) rfl)
def lw_rb_19 : List Cond := [.instanceMethod yX5_init, .code yX5_init cX5_init 1 none, .methodLink RX5 3 objectInit, .fieldLink RX5 11 "LeftArguments$Office" "rules" "[I", .fieldLink RX5 17 "LeftArguments$Office" "bags" "[I", .fieldLink RX5 20 "LeftArguments$Office" "toldCount" "I", .fieldLink RX5 24 "LeftArguments$Office" "stands" "Z"]
set_option maxRecDepth 100000 in
theorem lw_rc_19 : (List.drop 126 tables_1_1).take 7 = lw_rb_19 := rfl
theorem lw_rd_19 : ∀ w ∈ lw_rb_19, w ∈ lw_tbl := fun w h => lw_tm_1 w (List.mem_of_mem_drop (List.mem_of_mem_take (lw_rc_19 ▸ h)))
theorem mw_1542 : (.instanceMethod yX5_init : Cond) ∈ lw_tbl := lw_rd_19 _ (List.mem_of_getElem? (i := 0) rfl)
theorem mw_1544 : (.code yX5_init cX5_init 1 none : Cond) ∈ lw_tbl := lw_rd_19 _ (List.mem_of_getElem? (i := 1) rfl)
theorem mw_1543 : (.methodLink RX5 3 objectInit : Cond) ∈ lw_tbl := lw_rd_19 _ (List.mem_of_getElem? (i := 2) rfl)
theorem mw_447 : (.fieldLink RX5 11 "LeftArguments$Office" "rules" "[I" : Cond) ∈ lw_tbl := lw_rd_19 _ (List.mem_of_getElem? (i := 3) rfl)
theorem mw_446 : (.fieldLink RX5 17 "LeftArguments$Office" "bags" "[I" : Cond) ∈ lw_tbl := lw_rd_19 _ (List.mem_of_getElem? (i := 4) rfl)
theorem mw_436 : (.fieldLink RX5 20 "LeftArguments$Office" "toldCount" "I" : Cond) ∈ lw_tbl := lw_rd_19 _ (List.mem_of_getElem? (i := 5) rfl)
theorem mw_435 : (.fieldLink RX5 24 "LeftArguments$Office" "stands" "Z" : Cond) ∈ lw_tbl := lw_rd_19 _ (List.mem_of_getElem? (i := 6) rfl)
def lw_rb_20 : List Cond := [.classLink RX11 46 RX7, .instantiable RX7 4]
set_option maxRecDepth 100000 in
theorem lw_rc_20 : (List.drop 142 tables_1_1).take 2 = lw_rb_20 := rfl
theorem lw_rd_20 : ∀ w ∈ lw_rb_20, w ∈ lw_tbl := fun w h => lw_tm_1 w (List.mem_of_mem_drop (List.mem_of_mem_take (lw_rc_20 ▸ h)))
theorem mw_1541 : (.classLink RX11 46 RX7 : Cond) ∈ lw_tbl := lw_rd_20 _ (List.mem_of_getElem? (i := 0) rfl)
theorem mw_1540 : (.instantiable RX7 4 : Cond) ∈ lw_tbl := lw_rd_20 _ (List.mem_of_getElem? (i := 1) rfl)
def lw_rb_21 : List Cond := [.instanceMethod yX7_init, .code yX7_init cX7_init 1 none, .methodLink RX7 3 objectInit, .fieldLink RX7 11 "LeftArguments$Room" "cells" "[I", .fieldLink RX7 15 "LeftArguments$Room" "perBag" "[I", .fieldLink RX7 18 "LeftArguments$Room" "fell" "I", .fieldLink RX7 22 "LeftArguments$Room" "ended" "I"]
set_option maxRecDepth 100000 in
theorem lw_rc_21 : (List.drop 145 tables_1_1).take 7 = lw_rb_21 := rfl
theorem lw_rd_21 : ∀ w ∈ lw_rb_21, w ∈ lw_tbl := fun w h => lw_tm_1 w (List.mem_of_mem_drop (List.mem_of_mem_take (lw_rc_21 ▸ h)))
theorem mw_1537 : (.instanceMethod yX7_init : Cond) ∈ lw_tbl := lw_rd_21 _ (List.mem_of_getElem? (i := 0) rfl)
theorem mw_1539 : (.code yX7_init cX7_init 1 none : Cond) ∈ lw_tbl := lw_rd_21 _ (List.mem_of_getElem? (i := 1) rfl)
theorem mw_1538 : (.methodLink RX7 3 objectInit : Cond) ∈ lw_tbl := lw_rd_21 _ (List.mem_of_getElem? (i := 2) rfl)
theorem mw_427 : (.fieldLink RX7 11 "LeftArguments$Room" "cells" "[I" : Cond) ∈ lw_tbl := lw_rd_21 _ (List.mem_of_getElem? (i := 3) rfl)
theorem mw_690 : (.fieldLink RX7 15 "LeftArguments$Room" "perBag" "[I" : Cond) ∈ lw_tbl := lw_rd_21 _ (List.mem_of_getElem? (i := 4) rfl)
theorem mw_703 : (.fieldLink RX7 18 "LeftArguments$Room" "fell" "I" : Cond) ∈ lw_tbl := lw_rd_21 _ (List.mem_of_getElem? (i := 5) rfl)
theorem mw_702 : (.fieldLink RX7 22 "LeftArguments$Room" "ended" "I" : Cond) ∈ lw_tbl := lw_rd_21 _ (List.mem_of_getElem? (i := 6) rfl)
def lw_rb_22 : List Cond := [.classLink RX11 53 RX1, .instantiable RX1 1]
set_option maxRecDepth 100000 in
theorem lw_rc_22 : (List.drop 161 tables_1_1).take 2 = lw_rb_22 := rfl
theorem lw_rd_22 : ∀ w ∈ lw_rb_22, w ∈ lw_tbl := fun w h => lw_tm_1 w (List.mem_of_mem_drop (List.mem_of_mem_take (lw_rc_22 ▸ h)))
theorem mw_1536 : (.classLink RX11 53 RX1 : Cond) ∈ lw_tbl := lw_rd_22 _ (List.mem_of_getElem? (i := 0) rfl)
theorem mw_1535 : (.instantiable RX1 1 : Cond) ∈ lw_tbl := lw_rd_22 _ (List.mem_of_getElem? (i := 1) rfl)
def lw_rb_23 : List Cond := [.instanceMethod yX1_init, .code yX1_init cX1_init 1 none, .methodLink RX1 3 objectInit, .fieldLink RX1 11 "LeftArguments$Chronicle" "rows" "[I"]
set_option maxRecDepth 100000 in
theorem lw_rc_23 : (List.drop 164 tables_1_1).take 4 = lw_rb_23 := rfl
theorem lw_rd_23 : ∀ w ∈ lw_rb_23, w ∈ lw_tbl := fun w h => lw_tm_1 w (List.mem_of_mem_drop (List.mem_of_mem_take (lw_rc_23 ▸ h)))
theorem mw_1532 : (.instanceMethod yX1_init : Cond) ∈ lw_tbl := lw_rd_23 _ (List.mem_of_getElem? (i := 0) rfl)
theorem mw_1534 : (.code yX1_init cX1_init 1 none : Cond) ∈ lw_tbl := lw_rd_23 _ (List.mem_of_getElem? (i := 1) rfl)
theorem mw_1533 : (.methodLink RX1 3 objectInit : Cond) ∈ lw_tbl := lw_rd_23 _ (List.mem_of_getElem? (i := 2) rfl)
theorem mw_658 : (.fieldLink RX1 11 "LeftArguments$Chronicle" "rows" "[I" : Cond) ∈ lw_tbl := lw_rd_23 _ (List.mem_of_getElem? (i := 3) rfl)
def lw_rb_24 : List Cond := [.classLink RX11 60 RX0, .instantiable RX0 3]
set_option maxRecDepth 100000 in
theorem lw_rc_24 : (List.drop 171 tables_1_1).take 2 = lw_rb_24 := rfl
theorem lw_rd_24 : ∀ w ∈ lw_rb_24, w ∈ lw_tbl := fun w h => lw_tm_1 w (List.mem_of_mem_drop (List.mem_of_mem_take (lw_rc_24 ▸ h)))
theorem mw_1531 : (.classLink RX11 60 RX0 : Cond) ∈ lw_tbl := lw_rd_24 _ (List.mem_of_getElem? (i := 0) rfl)
theorem mw_1530 : (.instantiable RX0 3 : Cond) ∈ lw_tbl := lw_rd_24 _ (List.mem_of_getElem? (i := 1) rfl)
def lw_rb_25 : List Cond := [.instanceMethod yX0_init, .code yX0_init cX0_init 1 none, .methodLink RX0 1 objectInit, .fieldLink RX0 11 "LeftArguments$Acts" "ring" "[I", .fieldLink RX0 15 "LeftArguments$Acts" "top" "I", .fieldLink RX0 19 "LeftArguments$Acts" "number" "I"]
set_option maxRecDepth 100000 in
theorem lw_rc_25 : (List.drop 174 tables_1_1).take 6 = lw_rb_25 := rfl
theorem lw_rd_25 : ∀ w ∈ lw_rb_25, w ∈ lw_tbl := fun w h => lw_tm_1 w (List.mem_of_mem_drop (List.mem_of_mem_take (lw_rc_25 ▸ h)))
theorem mw_1527 : (.instanceMethod yX0_init : Cond) ∈ lw_tbl := lw_rd_25 _ (List.mem_of_getElem? (i := 0) rfl)
theorem mw_1529 : (.code yX0_init cX0_init 1 none : Cond) ∈ lw_tbl := lw_rd_25 _ (List.mem_of_getElem? (i := 1) rfl)
theorem mw_1528 : (.methodLink RX0 1 objectInit : Cond) ∈ lw_tbl := lw_rd_25 _ (List.mem_of_getElem? (i := 2) rfl)
theorem mw_716 : (.fieldLink RX0 11 "LeftArguments$Acts" "ring" "[I" : Cond) ∈ lw_tbl := lw_rd_25 _ (List.mem_of_getElem? (i := 3) rfl)
theorem mw_715 : (.fieldLink RX0 15 "LeftArguments$Acts" "top" "I" : Cond) ∈ lw_tbl := lw_rd_25 _ (List.mem_of_getElem? (i := 4) rfl)
theorem mw_393 : (.fieldLink RX0 19 "LeftArguments$Acts" "number" "I" : Cond) ∈ lw_tbl := lw_rd_25 _ (List.mem_of_getElem? (i := 5) rfl)
def lw_rb_26 : List Cond := [.classLink RX11 67 RX2, .instantiable RX2 9, .methodLink RX11 69 yX2_init, .instanceMethod yX2_init, .code yX2_init cX2_init 4 none, .methodLink RX2 5 objectInit, .classLink RX2 11 RX7]
set_option maxRecDepth 100000 in
theorem lw_rc_26 : (List.drop 187 tables_1_1).take 7 = lw_rb_26 := rfl
theorem lw_rd_26 : ∀ w ∈ lw_rb_26, w ∈ lw_tbl := fun w h => lw_tm_1 w (List.mem_of_mem_drop (List.mem_of_mem_take (lw_rc_26 ▸ h)))
theorem mw_1526 : (.classLink RX11 67 RX2 : Cond) ∈ lw_tbl := lw_rd_26 _ (List.mem_of_getElem? (i := 0) rfl)
theorem mw_1525 : (.instantiable RX2 9 : Cond) ∈ lw_tbl := lw_rd_26 _ (List.mem_of_getElem? (i := 1) rfl)
theorem mw_1520 : (.methodLink RX11 69 yX2_init : Cond) ∈ lw_tbl := lw_rd_26 _ (List.mem_of_getElem? (i := 2) rfl)
theorem mw_1521 : (.instanceMethod yX2_init : Cond) ∈ lw_tbl := lw_rd_26 _ (List.mem_of_getElem? (i := 3) rfl)
theorem mw_1524 : (.code yX2_init cX2_init 4 none : Cond) ∈ lw_tbl := lw_rd_26 _ (List.mem_of_getElem? (i := 4) rfl)
theorem mw_1523 : (.methodLink RX2 5 objectInit : Cond) ∈ lw_tbl := lw_rd_26 _ (List.mem_of_getElem? (i := 5) rfl)
theorem mw_1522 : (.classLink RX2 11 RX7 : Cond) ∈ lw_tbl := lw_rd_26 _ (List.mem_of_getElem? (i := 6) rfl)
def lw_rb_27 : List Cond := [.fieldLink RX2 39 "LeftArguments$Forecast" "laws" "LLeftArguments$Laws;", .fieldLink RX2 43 "LeftArguments$Forecast" "office" "LLeftArguments$Office;", .fieldLink RX2 14 "LeftArguments$Forecast" "scene" "LLeftArguments$Room;", .fieldLink RX2 18 "LeftArguments$Forecast" "scenes" "[LLeftArguments$Room;", .fieldLink RX2 22 "LeftArguments$Forecast" "outcomes" "[I", .fieldLink RX2 26 "LeftArguments$Forecast" "askedBag" "I", .fieldLink RX2 30 "LeftArguments$Forecast" "askedDays" "I", .fieldLink RX2 33 "LeftArguments$Forecast" "askedSize" "I", .fieldLink RX2 36 "LeftArguments$Forecast" "askedChance" "I"]
set_option maxRecDepth 100000 in
theorem lw_rc_27 : (List.drop 196 tables_1_1).take 9 = lw_rb_27 := rfl
theorem lw_rd_27 : ∀ w ∈ lw_rb_27, w ∈ lw_tbl := fun w h => lw_tm_1 w (List.mem_of_mem_drop (List.mem_of_mem_take (lw_rc_27 ▸ h)))
theorem mw_965 : (.fieldLink RX2 39 "LeftArguments$Forecast" "laws" "LLeftArguments$Laws;" : Cond) ∈ lw_tbl := lw_rd_27 _ (List.mem_of_getElem? (i := 0) rfl)
theorem mw_964 : (.fieldLink RX2 43 "LeftArguments$Forecast" "office" "LLeftArguments$Office;" : Cond) ∈ lw_tbl := lw_rd_27 _ (List.mem_of_getElem? (i := 1) rfl)
theorem mw_972 : (.fieldLink RX2 14 "LeftArguments$Forecast" "scene" "LLeftArguments$Room;" : Cond) ∈ lw_tbl := lw_rd_27 _ (List.mem_of_getElem? (i := 2) rfl)
theorem mw_1371 : (.fieldLink RX2 18 "LeftArguments$Forecast" "scenes" "[LLeftArguments$Room;" : Cond) ∈ lw_tbl := lw_rd_27 _ (List.mem_of_getElem? (i := 3) rfl)
theorem mw_1303 : (.fieldLink RX2 22 "LeftArguments$Forecast" "outcomes" "[I" : Cond) ∈ lw_tbl := lw_rd_27 _ (List.mem_of_getElem? (i := 4) rfl)
theorem mw_1370 : (.fieldLink RX2 26 "LeftArguments$Forecast" "askedBag" "I" : Cond) ∈ lw_tbl := lw_rd_27 _ (List.mem_of_getElem? (i := 5) rfl)
theorem mw_1369 : (.fieldLink RX2 30 "LeftArguments$Forecast" "askedDays" "I" : Cond) ∈ lw_tbl := lw_rd_27 _ (List.mem_of_getElem? (i := 6) rfl)
theorem mw_1368 : (.fieldLink RX2 33 "LeftArguments$Forecast" "askedSize" "I" : Cond) ∈ lw_tbl := lw_rd_27 _ (List.mem_of_getElem? (i := 7) rfl)
theorem mw_1367 : (.fieldLink RX2 36 "LeftArguments$Forecast" "askedChance" "I" : Cond) ∈ lw_tbl := lw_rd_27 _ (List.mem_of_getElem? (i := 8) rfl)
def lw_rb_28 : List Cond := [.classLink RX11 76 RX9, .instantiable RX9 9, .methodLink RX11 78 yX9_init, .instanceMethod yX9_init, .code yX9_init cX9_init 3 none, .methodLink RX9 3 objectInit, .classLink RX9 9 RX7]
set_option maxRecDepth 100000 in
theorem lw_rc_28 : (List.drop 224 tables_1_1).take 7 = lw_rb_28 := rfl
theorem lw_rd_28 : ∀ w ∈ lw_rb_28, w ∈ lw_tbl := fun w h => lw_tm_1 w (List.mem_of_mem_drop (List.mem_of_mem_take (lw_rc_28 ▸ h)))
theorem mw_1519 : (.classLink RX11 76 RX9 : Cond) ∈ lw_tbl := lw_rd_28 _ (List.mem_of_getElem? (i := 0) rfl)
theorem mw_1518 : (.instantiable RX9 9 : Cond) ∈ lw_tbl := lw_rd_28 _ (List.mem_of_getElem? (i := 1) rfl)
theorem mw_1512 : (.methodLink RX11 78 yX9_init : Cond) ∈ lw_tbl := lw_rd_28 _ (List.mem_of_getElem? (i := 2) rfl)
theorem mw_1513 : (.instanceMethod yX9_init : Cond) ∈ lw_tbl := lw_rd_28 _ (List.mem_of_getElem? (i := 3) rfl)
theorem mw_1517 : (.code yX9_init cX9_init 3 none : Cond) ∈ lw_tbl := lw_rd_28 _ (List.mem_of_getElem? (i := 4) rfl)
theorem mw_1516 : (.methodLink RX9 3 objectInit : Cond) ∈ lw_tbl := lw_rd_28 _ (List.mem_of_getElem? (i := 5) rfl)
theorem mw_1515 : (.classLink RX9 9 RX7 : Cond) ∈ lw_tbl := lw_rd_28 _ (List.mem_of_getElem? (i := 6) rfl)
def lw_rb_29 : List Cond := [.fieldLink RX9 39 "LeftArguments$Sightings" "laws" "LLeftArguments$Laws;", .fieldLink RX9 43 "LeftArguments$Sightings" "office" "LLeftArguments$Office;", .fieldLink RX9 12 "LeftArguments$Sightings" "scene" "LLeftArguments$Room;", .fieldLink RX9 18 "LeftArguments$Sightings" "whose" "[I", .fieldLink RX9 22 "LeftArguments$Sightings" "behind" "[I", .fieldLink RX9 25 "LeftArguments$Sightings" "marks" "[I", .fieldLink RX9 28 "LeftArguments$Sightings" "reached" "[Z", .fieldLink RX9 32 "LeftArguments$Sightings" "fitting" "[I"]
set_option maxRecDepth 100000 in
theorem lw_rc_29 : (List.drop 232 tables_1_1).take 8 = lw_rb_29 := rfl
theorem lw_rd_29 : ∀ w ∈ lw_rb_29, w ∈ lw_tbl := fun w h => lw_tm_1 w (List.mem_of_mem_drop (List.mem_of_mem_take (lw_rc_29 ▸ h)))
theorem mw_1205 : (.fieldLink RX9 39 "LeftArguments$Sightings" "laws" "LLeftArguments$Laws;" : Cond) ∈ lw_tbl := lw_rd_29 _ (List.mem_of_getElem? (i := 0) rfl)
theorem mw_1211 : (.fieldLink RX9 43 "LeftArguments$Sightings" "office" "LLeftArguments$Office;" : Cond) ∈ lw_tbl := lw_rd_29 _ (List.mem_of_getElem? (i := 1) rfl)
theorem mw_1213 : (.fieldLink RX9 12 "LeftArguments$Sightings" "scene" "LLeftArguments$Room;" : Cond) ∈ lw_tbl := lw_rd_29 _ (List.mem_of_getElem? (i := 2) rfl)
theorem mw_1168 : (.fieldLink RX9 18 "LeftArguments$Sightings" "whose" "[I" : Cond) ∈ lw_tbl := lw_rd_29 _ (List.mem_of_getElem? (i := 3) rfl)
theorem mw_1167 : (.fieldLink RX9 22 "LeftArguments$Sightings" "behind" "[I" : Cond) ∈ lw_tbl := lw_rd_29 _ (List.mem_of_getElem? (i := 4) rfl)
theorem mw_1166 : (.fieldLink RX9 25 "LeftArguments$Sightings" "marks" "[I" : Cond) ∈ lw_tbl := lw_rd_29 _ (List.mem_of_getElem? (i := 5) rfl)
theorem mw_1165 : (.fieldLink RX9 28 "LeftArguments$Sightings" "reached" "[Z" : Cond) ∈ lw_tbl := lw_rd_29 _ (List.mem_of_getElem? (i := 6) rfl)
theorem mw_1221 : (.fieldLink RX9 32 "LeftArguments$Sightings" "fitting" "[I" : Cond) ∈ lw_tbl := lw_rd_29 _ (List.mem_of_getElem? (i := 7) rfl)
def lw_rb_30 : List Cond := [.fieldLink RX9 35 "LeftArguments$Sightings" "number" "I"]
set_option maxRecDepth 100000 in
theorem lw_rc_30 : (List.drop 0 tables_1_2).take 1 = lw_rb_30 := rfl
theorem lw_rd_30 : ∀ w ∈ lw_rb_30, w ∈ lw_tbl := fun w h => lw_tm_2 w (List.mem_of_mem_drop (List.mem_of_mem_take (lw_rc_30 ▸ h)))
theorem mw_386 : (.fieldLink RX9 35 "LeftArguments$Sightings" "number" "I" : Cond) ∈ lw_tbl := lw_rd_30 _ (List.mem_of_getElem? (i := 0) rfl)
def lw_rb_31 : List Cond := [.arrayClass .boolean, .classLink RX11 83 RX8, .instantiable RX8 9]
set_option maxRecDepth 100000 in
theorem lw_rc_31 : (List.drop 20 tables_1_2).take 3 = lw_rb_31 := rfl
theorem lw_rd_31 : ∀ w ∈ lw_rb_31, w ∈ lw_tbl := fun w h => lw_tm_2 w (List.mem_of_mem_drop (List.mem_of_mem_take (lw_rc_31 ▸ h)))
theorem mw_1514 : (.arrayClass .boolean : Cond) ∈ lw_tbl := lw_rd_31 _ (List.mem_of_getElem? (i := 0) rfl)
theorem mw_1511 : (.classLink RX11 83 RX8 : Cond) ∈ lw_tbl := lw_rd_31 _ (List.mem_of_getElem? (i := 1) rfl)
theorem mw_1510 : (.instantiable RX8 9 : Cond) ∈ lw_tbl := lw_rd_31 _ (List.mem_of_getElem? (i := 2) rfl)
def lw_rb_32 : List Cond := [.instanceMethod yX8_init, .code yX8_init cX8_init 1 none, .methodLink RX8 3 objectInit, .fieldLink RX8 9 "LeftArguments$Rows" "sizes" "[I", .fieldLink RX8 15 "LeftArguments$Rows" "circles" "[I", .fieldLink RX8 18 "LeftArguments$Rows" "places" "[I", .fieldLink RX8 21 "LeftArguments$Rows" "chosen" "[I", .fieldLink RX8 24 "LeftArguments$Rows" "loads" "[I", .fieldLink RX8 27 "LeftArguments$Rows" "standing" "[I", .fieldLink RX8 30 "LeftArguments$Rows" "bags" "I", .fieldLink RX8 34 "LeftArguments$Rows" "wide" "I", .fieldLink RX8 37 "LeftArguments$Rows" "byRoom" "Z"]
set_option maxRecDepth 100000 in
theorem lw_rc_32 : (List.drop 24 tables_1_2).take 12 = lw_rb_32 := rfl
theorem lw_rd_32 : ∀ w ∈ lw_rb_32, w ∈ lw_tbl := fun w h => lw_tm_2 w (List.mem_of_mem_drop (List.mem_of_mem_take (lw_rc_32 ▸ h)))
theorem mw_1507 : (.instanceMethod yX8_init : Cond) ∈ lw_tbl := lw_rd_32 _ (List.mem_of_getElem? (i := 0) rfl)
theorem mw_1509 : (.code yX8_init cX8_init 1 none : Cond) ∈ lw_tbl := lw_rd_32 _ (List.mem_of_getElem? (i := 1) rfl)
theorem mw_1508 : (.methodLink RX8 3 objectInit : Cond) ∈ lw_tbl := lw_rd_32 _ (List.mem_of_getElem? (i := 2) rfl)
theorem mw_1069 : (.fieldLink RX8 9 "LeftArguments$Rows" "sizes" "[I" : Cond) ∈ lw_tbl := lw_rd_32 _ (List.mem_of_getElem? (i := 3) rfl)
theorem mw_1067 : (.fieldLink RX8 15 "LeftArguments$Rows" "circles" "[I" : Cond) ∈ lw_tbl := lw_rd_32 _ (List.mem_of_getElem? (i := 4) rfl)
theorem mw_1070 : (.fieldLink RX8 18 "LeftArguments$Rows" "places" "[I" : Cond) ∈ lw_tbl := lw_rd_32 _ (List.mem_of_getElem? (i := 5) rfl)
theorem mw_1039 : (.fieldLink RX8 21 "LeftArguments$Rows" "chosen" "[I" : Cond) ∈ lw_tbl := lw_rd_32 _ (List.mem_of_getElem? (i := 6) rfl)
theorem mw_1047 : (.fieldLink RX8 24 "LeftArguments$Rows" "loads" "[I" : Cond) ∈ lw_tbl := lw_rd_32 _ (List.mem_of_getElem? (i := 7) rfl)
theorem mw_1045 : (.fieldLink RX8 27 "LeftArguments$Rows" "standing" "[I" : Cond) ∈ lw_tbl := lw_rd_32 _ (List.mem_of_getElem? (i := 8) rfl)
theorem mw_1072 : (.fieldLink RX8 30 "LeftArguments$Rows" "bags" "I" : Cond) ∈ lw_tbl := lw_rd_32 _ (List.mem_of_getElem? (i := 9) rfl)
theorem mw_1049 : (.fieldLink RX8 34 "LeftArguments$Rows" "wide" "I" : Cond) ∈ lw_tbl := lw_rd_32 _ (List.mem_of_getElem? (i := 10) rfl)
theorem mw_1050 : (.fieldLink RX8 37 "LeftArguments$Rows" "byRoom" "Z" : Cond) ∈ lw_tbl := lw_rd_32 _ (List.mem_of_getElem? (i := 11) rfl)
def lw_rb_33 : List Cond := [.fieldLink RX11 10 "LeftArguments" "tape" "LLeftArguments$Tape;", .fieldLink RX11 21 "LeftArguments" "officeReader" "LLeftArguments$OfficeReader;", .fieldLink RX11 28 "LeftArguments" "lawReader" "LLeftArguments$LawReader;", .fieldLink RX11 35 "LeftArguments" "laws" "LLeftArguments$Laws;", .fieldLink RX11 42 "LeftArguments" "office" "LLeftArguments$Office;", .fieldLink RX11 49 "LeftArguments" "room" "LLeftArguments$Room;", .fieldLink RX11 56 "LeftArguments" "chronicle" "LLeftArguments$Chronicle;", .fieldLink RX11 63 "LeftArguments" "acts" "LLeftArguments$Acts;", .fieldLink RX11 72 "LeftArguments" "forecast" "LLeftArguments$Forecast;", .fieldLink RX11 79 "LeftArguments" "sightings" "LLeftArguments$Sightings;", .fieldLink RX11 86 "LeftArguments" "rows" "LLeftArguments$Rows;", .fieldLink RX11 90 "LeftArguments" "keptRoom" "LLeftArguments$Room;", .fieldLink RX11 93 "LeftArguments" "keptChronicle" "LLeftArguments$Chronicle;", .fieldLink RX11 96 "LeftArguments" "refused" "[I", .fieldLink RX11 100 "LeftArguments" "imageKept" "Z", .fieldLink RX11 104 "LeftArguments" "trainOdds" "I", .fieldLink RX11 108 "LeftArguments" "drawn" "J"]
set_option maxRecDepth 100000 in
theorem lw_rc_33 : (List.drop 55 tables_1_2).take 17 = lw_rb_33 := rfl
theorem lw_rd_33 : ∀ w ∈ lw_rb_33, w ∈ lw_tbl := fun w h => lw_tm_2 w (List.mem_of_mem_drop (List.mem_of_mem_take (lw_rc_33 ▸ h)))
theorem mw_10 : (.fieldLink RX11 10 "LeftArguments" "tape" "LLeftArguments$Tape;" : Cond) ∈ lw_tbl := lw_rd_33 _ (List.mem_of_getElem? (i := 0) rfl)
theorem mw_109 : (.fieldLink RX11 21 "LeftArguments" "officeReader" "LLeftArguments$OfficeReader;" : Cond) ∈ lw_tbl := lw_rd_33 _ (List.mem_of_getElem? (i := 1) rfl)
theorem mw_235 : (.fieldLink RX11 28 "LeftArguments" "lawReader" "LLeftArguments$LawReader;" : Cond) ∈ lw_tbl := lw_rd_33 _ (List.mem_of_getElem? (i := 2) rfl)
theorem mw_469 : (.fieldLink RX11 35 "LeftArguments" "laws" "LLeftArguments$Laws;" : Cond) ∈ lw_tbl := lw_rd_33 _ (List.mem_of_getElem? (i := 3) rfl)
theorem mw_449 : (.fieldLink RX11 42 "LeftArguments" "office" "LLeftArguments$Office;" : Cond) ∈ lw_tbl := lw_rd_33 _ (List.mem_of_getElem? (i := 4) rfl)
theorem mw_430 : (.fieldLink RX11 49 "LeftArguments" "room" "LLeftArguments$Room;" : Cond) ∈ lw_tbl := lw_rd_33 _ (List.mem_of_getElem? (i := 5) rfl)
theorem mw_680 : (.fieldLink RX11 56 "LeftArguments" "chronicle" "LLeftArguments$Chronicle;" : Cond) ∈ lw_tbl := lw_rd_33 _ (List.mem_of_getElem? (i := 6) rfl)
theorem mw_395 : (.fieldLink RX11 63 "LeftArguments" "acts" "LLeftArguments$Acts;" : Cond) ∈ lw_tbl := lw_rd_33 _ (List.mem_of_getElem? (i := 7) rfl)
theorem mw_974 : (.fieldLink RX11 72 "LeftArguments" "forecast" "LLeftArguments$Forecast;" : Cond) ∈ lw_tbl := lw_rd_33 _ (List.mem_of_getElem? (i := 8) rfl)
theorem mw_388 : (.fieldLink RX11 79 "LeftArguments" "sightings" "LLeftArguments$Sightings;" : Cond) ∈ lw_tbl := lw_rd_33 _ (List.mem_of_getElem? (i := 9) rfl)
theorem mw_1074 : (.fieldLink RX11 86 "LeftArguments" "rows" "LLeftArguments$Rows;" : Cond) ∈ lw_tbl := lw_rd_33 _ (List.mem_of_getElem? (i := 10) rfl)
theorem mw_1469 : (.fieldLink RX11 90 "LeftArguments" "keptRoom" "LLeftArguments$Room;" : Cond) ∈ lw_tbl := lw_rd_33 _ (List.mem_of_getElem? (i := 11) rfl)
theorem mw_1467 : (.fieldLink RX11 93 "LeftArguments" "keptChronicle" "LLeftArguments$Chronicle;" : Cond) ∈ lw_tbl := lw_rd_33 _ (List.mem_of_getElem? (i := 12) rfl)
theorem mw_722 : (.fieldLink RX11 96 "LeftArguments" "refused" "[I" : Cond) ∈ lw_tbl := lw_rd_33 _ (List.mem_of_getElem? (i := 13) rfl)
theorem mw_381 : (.fieldLink RX11 100 "LeftArguments" "imageKept" "Z" : Cond) ∈ lw_tbl := lw_rd_33 _ (List.mem_of_getElem? (i := 14) rfl)
theorem mw_870 : (.fieldLink RX11 104 "LeftArguments" "trainOdds" "I" : Cond) ∈ lw_tbl := lw_rd_33 _ (List.mem_of_getElem? (i := 15) rfl)
theorem mw_895 : (.fieldLink RX11 108 "LeftArguments" "drawn" "J" : Cond) ∈ lw_tbl := lw_rd_33 _ (List.mem_of_getElem? (i := 16) rfl)
def lw_rb_34 : List Cond := [.methodLink RL 19 yX11_feed, .instanceMethod yX11_feed, .selects RX11 yX11_feed yX11_feed, .code yX11_feed cX11_feed 7 (some .int), .methodLink RX11 112 yX10_signsIn, .static yX10_signsIn, .code yX10_signsIn cX10_signsIn 3 (some .int), .methodLink RX11 116 yX10_used, .instanceMethod yX10_used, .selects RX10 yX10_used yX10_used, .code yX10_used cX10_used 1 (some .int), .methodLink RX11 120 yX10_add, .instanceMethod yX10_add, .selects RX10 yX10_add yX10_add, .code yX10_add cX10_add 4 none, .methodLink RL 24 yX11_end, .instanceMethod yX11_end, .selects RX11 yX11_end yX11_end, .code yX11_end cX11_end 2 (some .boolean), .methodLink RX11 124 yX10_cut, .instanceMethod yX10_cut, .selects RX10 yX10_cut yX10_cut, .code yX10_cut cX10_cut 2 none, .methodLink RX10 28 Lib.Math.min.name, .static Lib.Math.min.name, .code Lib.Math.min.name Lib.Math.min.code 2 (some .int), .methodLink RX10 34 Lib.Math.max.name, .static Lib.Math.max.name, .code Lib.Math.max.name Lib.Math.max.code 2 (some .int), .methodLink RL 29 yX11_fault, .instanceMethod yX11_fault, .selects RX11 yX11_fault yX11_fault, .code yX11_fault cX11_fault 2 (some .int), .methodLink RX11 127 yX6_read, .instanceMethod yX6_read, .selects RX6 yX6_read yX6_read, .code yX6_read cX6_read 2 (some .int), .methodLink RX6 42 yX10_rewind, .instanceMethod yX10_rewind, .selects RX10 yX10_rewind yX10_rewind]
set_option maxRecDepth 100000 in
theorem lw_rc_34 : (List.drop 107 tables_1_2).take 40 = lw_rb_34 := rfl
theorem lw_rd_34 : ∀ w ∈ lw_rb_34, w ∈ lw_tbl := fun w h => lw_tm_2 w (List.mem_of_mem_drop (List.mem_of_mem_take (lw_rc_34 ▸ h)))
theorem mw_19 : (.methodLink RL 19 yX11_feed : Cond) ∈ lw_tbl := lw_rd_34 _ (List.mem_of_getElem? (i := 0) rfl)
theorem mw_18 : (.instanceMethod yX11_feed : Cond) ∈ lw_tbl := lw_rd_34 _ (List.mem_of_getElem? (i := 1) rfl)
theorem mw_17 : (.selects RX11 yX11_feed yX11_feed : Cond) ∈ lw_tbl := lw_rd_34 _ (List.mem_of_getElem? (i := 2) rfl)
theorem mw_15 : (.code yX11_feed cX11_feed 7 (some .int) : Cond) ∈ lw_tbl := lw_rd_34 _ (List.mem_of_getElem? (i := 3) rfl)
theorem mw_11 : (.methodLink RX11 112 yX10_signsIn : Cond) ∈ lw_tbl := lw_rd_34 _ (List.mem_of_getElem? (i := 4) rfl)
theorem mw_12 : (.static yX10_signsIn : Cond) ∈ lw_tbl := lw_rd_34 _ (List.mem_of_getElem? (i := 5) rfl)
theorem mw_14 : (.code yX10_signsIn cX10_signsIn 3 (some .int) : Cond) ∈ lw_tbl := lw_rd_34 _ (List.mem_of_getElem? (i := 6) rfl)
theorem mw_5 : (.methodLink RX11 116 yX10_used : Cond) ∈ lw_tbl := lw_rd_34 _ (List.mem_of_getElem? (i := 7) rfl)
theorem mw_7 : (.instanceMethod yX10_used : Cond) ∈ lw_tbl := lw_rd_34 _ (List.mem_of_getElem? (i := 8) rfl)
theorem mw_6 : (.selects RX10 yX10_used yX10_used : Cond) ∈ lw_tbl := lw_rd_34 _ (List.mem_of_getElem? (i := 9) rfl)
theorem mw_9 : (.code yX10_used cX10_used 1 (some .int) : Cond) ∈ lw_tbl := lw_rd_34 _ (List.mem_of_getElem? (i := 10) rfl)
theorem mw_0 : (.methodLink RX11 120 yX10_add : Cond) ∈ lw_tbl := lw_rd_34 _ (List.mem_of_getElem? (i := 11) rfl)
theorem mw_2 : (.instanceMethod yX10_add : Cond) ∈ lw_tbl := lw_rd_34 _ (List.mem_of_getElem? (i := 12) rfl)
theorem mw_1 : (.selects RX10 yX10_add yX10_add : Cond) ∈ lw_tbl := lw_rd_34 _ (List.mem_of_getElem? (i := 13) rfl)
theorem mw_4 : (.code yX10_add cX10_add 4 none : Cond) ∈ lw_tbl := lw_rd_34 _ (List.mem_of_getElem? (i := 14) rfl)
theorem mw_44 : (.methodLink RL 24 yX11_end : Cond) ∈ lw_tbl := lw_rd_34 _ (List.mem_of_getElem? (i := 15) rfl)
theorem mw_43 : (.instanceMethod yX11_end : Cond) ∈ lw_tbl := lw_rd_34 _ (List.mem_of_getElem? (i := 16) rfl)
theorem mw_42 : (.selects RX11 yX11_end yX11_end : Cond) ∈ lw_tbl := lw_rd_34 _ (List.mem_of_getElem? (i := 17) rfl)
theorem mw_41 : (.code yX11_end cX11_end 2 (some .boolean) : Cond) ∈ lw_tbl := lw_rd_34 _ (List.mem_of_getElem? (i := 18) rfl)
theorem mw_30 : (.methodLink RX11 124 yX10_cut : Cond) ∈ lw_tbl := lw_rd_34 _ (List.mem_of_getElem? (i := 19) rfl)
theorem mw_32 : (.instanceMethod yX10_cut : Cond) ∈ lw_tbl := lw_rd_34 _ (List.mem_of_getElem? (i := 20) rfl)
theorem mw_31 : (.selects RX10 yX10_cut yX10_cut : Cond) ∈ lw_tbl := lw_rd_34 _ (List.mem_of_getElem? (i := 21) rfl)
theorem mw_40 : (.code yX10_cut cX10_cut 2 none : Cond) ∈ lw_tbl := lw_rd_34 _ (List.mem_of_getElem? (i := 22) rfl)
theorem mw_39 : (.methodLink RX10 28 Lib.Math.min.name : Cond) ∈ lw_tbl := lw_rd_34 _ (List.mem_of_getElem? (i := 23) rfl)
theorem mw_38 : (.static Lib.Math.min.name : Cond) ∈ lw_tbl := lw_rd_34 _ (List.mem_of_getElem? (i := 24) rfl)
theorem mw_36 : (.code Lib.Math.min.name Lib.Math.min.code 2 (some .int) : Cond) ∈ lw_tbl := lw_rd_34 _ (List.mem_of_getElem? (i := 25) rfl)
theorem mw_35 : (.methodLink RX10 34 Lib.Math.max.name : Cond) ∈ lw_tbl := lw_rd_34 _ (List.mem_of_getElem? (i := 26) rfl)
theorem mw_34 : (.static Lib.Math.max.name : Cond) ∈ lw_tbl := lw_rd_34 _ (List.mem_of_getElem? (i := 27) rfl)
theorem mw_33 : (.code Lib.Math.max.name Lib.Math.max.code 2 (some .int) : Cond) ∈ lw_tbl := lw_rd_34 _ (List.mem_of_getElem? (i := 28) rfl)
theorem mw_239 : (.methodLink RL 29 yX11_fault : Cond) ∈ lw_tbl := lw_rd_34 _ (List.mem_of_getElem? (i := 29) rfl)
theorem mw_238 : (.instanceMethod yX11_fault : Cond) ∈ lw_tbl := lw_rd_34 _ (List.mem_of_getElem? (i := 30) rfl)
theorem mw_237 : (.selects RX11 yX11_fault yX11_fault : Cond) ∈ lw_tbl := lw_rd_34 _ (List.mem_of_getElem? (i := 31) rfl)
theorem mw_236 : (.code yX11_fault cX11_fault 2 (some .int) : Cond) ∈ lw_tbl := lw_rd_34 _ (List.mem_of_getElem? (i := 32) rfl)
theorem mw_49 : (.methodLink RX11 127 yX6_read : Cond) ∈ lw_tbl := lw_rd_34 _ (List.mem_of_getElem? (i := 33) rfl)
theorem mw_51 : (.instanceMethod yX6_read : Cond) ∈ lw_tbl := lw_rd_34 _ (List.mem_of_getElem? (i := 34) rfl)
theorem mw_50 : (.selects RX6 yX6_read yX6_read : Cond) ∈ lw_tbl := lw_rd_34 _ (List.mem_of_getElem? (i := 35) rfl)
theorem mw_108 : (.code yX6_read cX6_read 2 (some .int) : Cond) ∈ lw_tbl := lw_rd_34 _ (List.mem_of_getElem? (i := 36) rfl)
theorem mw_106 : (.methodLink RX6 42 yX10_rewind : Cond) ∈ lw_tbl := lw_rd_34 _ (List.mem_of_getElem? (i := 37) rfl)
theorem mw_229 : (.instanceMethod yX10_rewind : Cond) ∈ lw_tbl := lw_rd_34 _ (List.mem_of_getElem? (i := 38) rfl)
theorem mw_228 : (.selects RX10 yX10_rewind yX10_rewind : Cond) ∈ lw_tbl := lw_rd_34 _ (List.mem_of_getElem? (i := 39) rfl)
def lw_rb_35 : List Cond := [.code yX10_rewind cX10_rewind 1 none, .fieldLink RX6 47 "LeftArguments$OfficeReader" "RULE_USUAL" "[I"]
set_option maxRecDepth 100000 in
theorem lw_rc_35 : (List.drop 147 tables_1_2).take 2 = lw_rb_35 := rfl
theorem lw_rd_35 : ∀ w ∈ lw_rb_35, w ∈ lw_tbl := fun w h => lw_tm_2 w (List.mem_of_mem_drop (List.mem_of_mem_take (lw_rc_35 ▸ h)))
theorem mw_232 : (.code yX10_rewind cX10_rewind 1 none : Cond) ∈ lw_tbl := lw_rd_35 _ (List.mem_of_getElem? (i := 0) rfl)
theorem mw_103 : (.fieldLink RX6 47 "LeftArguments$OfficeReader" "RULE_USUAL" "[I" : Cond) ∈ lw_tbl := lw_rd_35 _ (List.mem_of_getElem? (i := 1) rfl)
def lw_rb_36 : List Cond := [.methodLink RX6 36 arraycopyName, .static arraycopyName, .native arraycopyName, .fieldLink RX6 50 "LeftArguments$OfficeReader" "BAG_USUAL" "[I"]
set_option maxRecDepth 100000 in
theorem lw_rc_36 : (List.drop 150 tables_1_2).take 4 = lw_rb_36 := rfl
theorem lw_rd_36 : ∀ w ∈ lw_rb_36, w ∈ lw_tbl := fun w h => lw_tm_2 w (List.mem_of_mem_drop (List.mem_of_mem_take (lw_rc_36 ▸ h)))
theorem mw_101 : (.methodLink RX6 36 arraycopyName : Cond) ∈ lw_tbl := lw_rd_36 _ (List.mem_of_getElem? (i := 0) rfl)
theorem mw_99 : (.static arraycopyName : Cond) ∈ lw_tbl := lw_rd_36 _ (List.mem_of_getElem? (i := 1) rfl)
theorem mw_100 : (.native arraycopyName : Cond) ∈ lw_tbl := lw_rd_36 _ (List.mem_of_getElem? (i := 2) rfl)
theorem mw_52 : (.fieldLink RX6 50 "LeftArguments$OfficeReader" "BAG_USUAL" "[I" : Cond) ∈ lw_tbl := lw_rd_36 _ (List.mem_of_getElem? (i := 3) rfl)
def lw_rb_37 : List Cond := [.methodLink RX6 53 yX6_readClause]
set_option maxRecDepth 100000 in
theorem lw_rc_37 : (List.drop 155 tables_1_2).take 1 = lw_rb_37 := rfl
theorem lw_rd_37 : ∀ w ∈ lw_rb_37, w ∈ lw_tbl := fun w h => lw_tm_2 w (List.mem_of_mem_drop (List.mem_of_mem_take (lw_rc_37 ▸ h)))
theorem mw_58 : (.methodLink RX6 53 yX6_readClause : Cond) ∈ lw_tbl := lw_rd_37 _ (List.mem_of_getElem? (i := 0) rfl)
def lw_rb_38 : List Cond := [.instanceMethod yX6_readClause, .code yX6_readClause cX6_readClause 3 (some .boolean), .methodLink RX6 61 yX10_next, .instanceMethod yX10_next, .selects RX10 yX10_next yX10_next, .code yX10_next cX10_next 1 (some .int), .methodLink RX6 70 yX10_step, .instanceMethod yX10_step, .selects RX10 yX10_step yX10_step, .code yX10_step cX10_step 1 none]
set_option maxRecDepth 100000 in
theorem lw_rc_38 : (List.drop 157 tables_1_2).take 10 = lw_rb_38 := rfl
theorem lw_rd_38 : ∀ w ∈ lw_rb_38, w ∈ lw_tbl := fun w h => lw_tm_2 w (List.mem_of_mem_drop (List.mem_of_mem_take (lw_rc_38 ▸ h)))
theorem mw_60 : (.instanceMethod yX6_readClause : Cond) ∈ lw_tbl := lw_rd_38 _ (List.mem_of_getElem? (i := 0) rfl)
theorem mw_96 : (.code yX6_readClause cX6_readClause 3 (some .boolean) : Cond) ∈ lw_tbl := lw_rd_38 _ (List.mem_of_getElem? (i := 1) rfl)
theorem mw_95 : (.methodLink RX6 61 yX10_next : Cond) ∈ lw_tbl := lw_rd_38 _ (List.mem_of_getElem? (i := 2) rfl)
theorem mw_221 : (.instanceMethod yX10_next : Cond) ∈ lw_tbl := lw_rd_38 _ (List.mem_of_getElem? (i := 3) rfl)
theorem mw_220 : (.selects RX10 yX10_next yX10_next : Cond) ∈ lw_tbl := lw_rd_38 _ (List.mem_of_getElem? (i := 4) rfl)
theorem mw_222 : (.code yX10_next cX10_next 1 (some .int) : Cond) ∈ lw_tbl := lw_rd_38 _ (List.mem_of_getElem? (i := 5) rfl)
theorem mw_93 : (.methodLink RX6 70 yX10_step : Cond) ∈ lw_tbl := lw_rd_38 _ (List.mem_of_getElem? (i := 6) rfl)
theorem mw_166 : (.instanceMethod yX10_step : Cond) ∈ lw_tbl := lw_rd_38 _ (List.mem_of_getElem? (i := 7) rfl)
theorem mw_165 : (.selects RX10 yX10_step yX10_step : Cond) ∈ lw_tbl := lw_rd_38 _ (List.mem_of_getElem? (i := 8) rfl)
theorem mw_167 : (.code yX10_step cX10_step 1 none : Cond) ∈ lw_tbl := lw_rd_38 _ (List.mem_of_getElem? (i := 9) rfl)
def lw_rb_39 : List Cond := [.fieldLink RX6 75 "LeftArguments$OfficeReader" "RULE_LEAST" "[I"]
set_option maxRecDepth 100000 in
theorem lw_rc_39 : (List.drop 168 tables_1_2).take 1 = lw_rb_39 := rfl
theorem lw_rd_39 : ∀ w ∈ lw_rb_39, w ∈ lw_tbl := fun w h => lw_tm_2 w (List.mem_of_mem_drop (List.mem_of_mem_take (lw_rc_39 ▸ h)))
theorem mw_62 : (.fieldLink RX6 75 "LeftArguments$OfficeReader" "RULE_LEAST" "[I" : Cond) ∈ lw_tbl := lw_rd_39 _ (List.mem_of_getElem? (i := 0) rfl)
def lw_rb_40 : List Cond := [.fieldLink RX6 78 "LeftArguments$OfficeReader" "RULE_MOST" "[I"]
set_option maxRecDepth 100000 in
theorem lw_rc_40 : (List.drop 170 tables_1_2).take 1 = lw_rb_40 := rfl
theorem lw_rd_40 : ∀ w ∈ lw_rb_40, w ∈ lw_tbl := fun w h => lw_tm_2 w (List.mem_of_mem_drop (List.mem_of_mem_take (lw_rc_40 ▸ h)))
theorem mw_61 : (.fieldLink RX6 78 "LeftArguments$OfficeReader" "RULE_MOST" "[I" : Cond) ∈ lw_tbl := lw_rd_40 _ (List.mem_of_getElem? (i := 0) rfl)
def lw_rb_41 : List Cond := [.methodLink RX6 81 yX6_readItems]
set_option maxRecDepth 100000 in
theorem lw_rc_41 : (List.drop 172 tables_1_2).take 1 = lw_rb_41 := rfl
theorem lw_rd_41 : ∀ w ∈ lw_rb_41, w ∈ lw_tbl := fun w h => lw_tm_2 w (List.mem_of_mem_drop (List.mem_of_mem_take (lw_rc_41 ▸ h)))
theorem mw_63 : (.methodLink RX6 81 yX6_readItems : Cond) ∈ lw_tbl := lw_rd_41 _ (List.mem_of_getElem? (i := 0) rfl)
def lw_rb_42 : List Cond := [.instanceMethod yX6_readItems, .code yX6_readItems cX6_readItems 9 (some .boolean), .methodLink RX6 96 yJ0_length_8abf5, .instanceMethod yJ0_length_8abf5, .selects RJ0 yJ0_length_8abf5 yJ0_length_8abf5, .code yJ0_length_8abf5 cJ0_length_8abf5 1 (some .int), .methodLink RJ0 335 yJ0_coder_7d493, .instanceMethod yJ0_coder_7d493, .selects RJ0 yJ0_coder_7d493 yJ0_coder_7d493, .code yJ0_coder_7d493 cJ0_coder_7d493 1 (some .byte), .fieldLink RJ0 38 "java/lang/String" "COMPACT_STRINGS" "Z"]
set_option maxRecDepth 100000 in
theorem lw_rc_42 : (List.drop 174 tables_1_2).take 11 = lw_rb_42 := rfl
theorem lw_rd_42 : ∀ w ∈ lw_rb_42, w ∈ lw_tbl := fun w h => lw_tm_2 w (List.mem_of_mem_drop (List.mem_of_mem_take (lw_rc_42 ▸ h)))
theorem mw_65 : (.instanceMethod yX6_readItems : Cond) ∈ lw_tbl := lw_rd_42 _ (List.mem_of_getElem? (i := 0) rfl)
theorem mw_89 : (.code yX6_readItems cX6_readItems 9 (some .boolean) : Cond) ∈ lw_tbl := lw_rd_42 _ (List.mem_of_getElem? (i := 1) rfl)
theorem mw_88 : (.methodLink RX6 96 yJ0_length_8abf5 : Cond) ∈ lw_tbl := lw_rd_42 _ (List.mem_of_getElem? (i := 2) rfl)
theorem mw_188 : (.instanceMethod yJ0_length_8abf5 : Cond) ∈ lw_tbl := lw_rd_42 _ (List.mem_of_getElem? (i := 3) rfl)
theorem mw_187 : (.selects RJ0 yJ0_length_8abf5 yJ0_length_8abf5 : Cond) ∈ lw_tbl := lw_rd_42 _ (List.mem_of_getElem? (i := 4) rfl)
theorem mw_193 : (.code yJ0_length_8abf5 cJ0_length_8abf5 1 (some .int) : Cond) ∈ lw_tbl := lw_rd_42 _ (List.mem_of_getElem? (i := 5) rfl)
theorem mw_189 : (.methodLink RJ0 335 yJ0_coder_7d493 : Cond) ∈ lw_tbl := lw_rd_42 _ (List.mem_of_getElem? (i := 6) rfl)
theorem mw_191 : (.instanceMethod yJ0_coder_7d493 : Cond) ∈ lw_tbl := lw_rd_42 _ (List.mem_of_getElem? (i := 7) rfl)
theorem mw_190 : (.selects RJ0 yJ0_coder_7d493 yJ0_coder_7d493 : Cond) ∈ lw_tbl := lw_rd_42 _ (List.mem_of_getElem? (i := 8) rfl)
theorem mw_192 : (.code yJ0_coder_7d493 cJ0_coder_7d493 1 (some .byte) : Cond) ∈ lw_tbl := lw_rd_42 _ (List.mem_of_getElem? (i := 9) rfl)
theorem mw_200 : (.fieldLink RJ0 38 "java/lang/String" "COMPACT_STRINGS" "Z" : Cond) ∈ lw_tbl := lw_rd_42 _ (List.mem_of_getElem? (i := 10) rfl)
def lw_rb_43 : List Cond := [.methodLink RX6 101 yX6_atClauseEnd]
set_option maxRecDepth 100000 in
theorem lw_rc_43 : (List.drop 186 tables_1_2).take 1 = lw_rb_43 := rfl
theorem lw_rd_43 : ∀ w ∈ lw_rb_43, w ∈ lw_tbl := fun w h => lw_tm_2 w (List.mem_of_mem_drop (List.mem_of_mem_take (lw_rc_43 ▸ h)))
theorem mw_83 : (.methodLink RX6 101 yX6_atClauseEnd : Cond) ∈ lw_tbl := lw_rd_43 _ (List.mem_of_getElem? (i := 0) rfl)
def lw_rb_44 : List Cond := [.instanceMethod yX6_atClauseEnd, .code yX6_atClauseEnd cX6_atClauseEnd 2 (some .boolean), .methodLink RX6 104 yX6_readLetter]
set_option maxRecDepth 100000 in
theorem lw_rc_44 : (List.drop 188 tables_1_2).take 3 = lw_rb_44 := rfl
theorem lw_rd_44 : ∀ w ∈ lw_rb_44, w ∈ lw_tbl := fun w h => lw_tm_2 w (List.mem_of_mem_drop (List.mem_of_mem_take (lw_rc_44 ▸ h)))
theorem mw_85 : (.instanceMethod yX6_atClauseEnd : Cond) ∈ lw_tbl := lw_rd_44 _ (List.mem_of_getElem? (i := 0) rfl)
theorem mw_87 : (.code yX6_atClauseEnd cX6_atClauseEnd 2 (some .boolean) : Cond) ∈ lw_tbl := lw_rd_44 _ (List.mem_of_getElem? (i := 1) rfl)
theorem mw_78 : (.methodLink RX6 104 yX6_readLetter : Cond) ∈ lw_tbl := lw_rd_44 _ (List.mem_of_getElem? (i := 2) rfl)
def lw_rb_45 : List Cond := [.instanceMethod yX6_readLetter, .code yX6_readLetter cX6_readLetter 4 (some .int), .methodLink RX6 119 yJ0_indexOf_0f7a4, .instanceMethod yJ0_indexOf_0f7a4, .selects RJ0 yJ0_indexOf_0f7a4 yJ0_indexOf_0f7a4, .code yJ0_indexOf_0f7a4 cJ0_indexOf_0f7a4 2 (some .int), .methodLink RJ0 633 yJ0_indexOf_7cf53, .instanceMethod yJ0_indexOf_7cf53, .selects RJ0 yJ0_indexOf_7cf53 yJ0_indexOf_7cf53, .code yJ0_indexOf_7cf53 cJ0_indexOf_7cf53 3 (some .int), .methodLink RJ0 492 yJ0_isLatin1_aae02, .instanceMethod yJ0_isLatin1_aae02, .selects RJ0 yJ0_isLatin1_aae02 yJ0_isLatin1_aae02, .code yJ0_isLatin1_aae02 cJ0_isLatin1_aae02 1 (some .boolean), .methodLink RJ0 505 yJ0_length_8abf5, .methodLink RJ0 637 yJ1_indexOf_4cfef, .static yJ1_indexOf_4cfef, .code yJ1_indexOf_4cfef cJ1_indexOf_4cfef 4 (some .int), .methodLink RJ1 88 yJ1_canEncode_9a6ad, .static yJ1_canEncode_9a6ad, .code yJ1_canEncode_9a6ad cJ1_canEncode_9a6ad 1 (some .boolean), .methodLink RJ1 92 Lib.Math.max.name, .methodLink RJ1 38 Lib.Math.min.name, .methodLink RJ1 95 yJ1_indexOfChar_4cfef, .static yJ1_indexOfChar_4cfef, .code yJ1_indexOfChar_4cfef cJ1_indexOfChar_4cfef 6 (some .int)]
set_option maxRecDepth 100000 in
theorem lw_rc_45 : (List.drop 192 tables_1_2).take 26 = lw_rb_45 := rfl
theorem lw_rd_45 : ∀ w ∈ lw_rb_45, w ∈ lw_tbl := fun w h => lw_tm_2 w (List.mem_of_mem_drop (List.mem_of_mem_take (lw_rc_45 ▸ h)))
theorem mw_80 : (.instanceMethod yX6_readLetter : Cond) ∈ lw_tbl := lw_rd_45 _ (List.mem_of_getElem? (i := 0) rfl)
theorem mw_82 : (.code yX6_readLetter cX6_readLetter 4 (some .int) : Cond) ∈ lw_tbl := lw_rd_45 _ (List.mem_of_getElem? (i := 1) rfl)
theorem mw_81 : (.methodLink RX6 119 yJ0_indexOf_0f7a4 : Cond) ∈ lw_tbl := lw_rd_45 _ (List.mem_of_getElem? (i := 2) rfl)
theorem mw_170 : (.instanceMethod yJ0_indexOf_0f7a4 : Cond) ∈ lw_tbl := lw_rd_45 _ (List.mem_of_getElem? (i := 3) rfl)
theorem mw_169 : (.selects RJ0 yJ0_indexOf_0f7a4 yJ0_indexOf_0f7a4 : Cond) ∈ lw_tbl := lw_rd_45 _ (List.mem_of_getElem? (i := 4) rfl)
theorem mw_203 : (.code yJ0_indexOf_0f7a4 cJ0_indexOf_0f7a4 2 (some .int) : Cond) ∈ lw_tbl := lw_rd_45 _ (List.mem_of_getElem? (i := 5) rfl)
theorem mw_171 : (.methodLink RJ0 633 yJ0_indexOf_7cf53 : Cond) ∈ lw_tbl := lw_rd_45 _ (List.mem_of_getElem? (i := 6) rfl)
theorem mw_173 : (.instanceMethod yJ0_indexOf_7cf53 : Cond) ∈ lw_tbl := lw_rd_45 _ (List.mem_of_getElem? (i := 7) rfl)
theorem mw_172 : (.selects RJ0 yJ0_indexOf_7cf53 yJ0_indexOf_7cf53 : Cond) ∈ lw_tbl := lw_rd_45 _ (List.mem_of_getElem? (i := 8) rfl)
theorem mw_202 : (.code yJ0_indexOf_7cf53 cJ0_indexOf_7cf53 3 (some .int) : Cond) ∈ lw_tbl := lw_rd_45 _ (List.mem_of_getElem? (i := 9) rfl)
theorem mw_195 : (.methodLink RJ0 492 yJ0_isLatin1_aae02 : Cond) ∈ lw_tbl := lw_rd_45 _ (List.mem_of_getElem? (i := 10) rfl)
theorem mw_197 : (.instanceMethod yJ0_isLatin1_aae02 : Cond) ∈ lw_tbl := lw_rd_45 _ (List.mem_of_getElem? (i := 11) rfl)
theorem mw_196 : (.selects RJ0 yJ0_isLatin1_aae02 yJ0_isLatin1_aae02 : Cond) ∈ lw_tbl := lw_rd_45 _ (List.mem_of_getElem? (i := 12) rfl)
theorem mw_201 : (.code yJ0_isLatin1_aae02 cJ0_isLatin1_aae02 1 (some .boolean) : Cond) ∈ lw_tbl := lw_rd_45 _ (List.mem_of_getElem? (i := 13) rfl)
theorem mw_186 : (.methodLink RJ0 505 yJ0_length_8abf5 : Cond) ∈ lw_tbl := lw_rd_45 _ (List.mem_of_getElem? (i := 14) rfl)
theorem mw_174 : (.methodLink RJ0 637 yJ1_indexOf_4cfef : Cond) ∈ lw_tbl := lw_rd_45 _ (List.mem_of_getElem? (i := 15) rfl)
theorem mw_175 : (.static yJ1_indexOf_4cfef : Cond) ∈ lw_tbl := lw_rd_45 _ (List.mem_of_getElem? (i := 16) rfl)
theorem mw_185 : (.code yJ1_indexOf_4cfef cJ1_indexOf_4cfef 4 (some .int) : Cond) ∈ lw_tbl := lw_rd_45 _ (List.mem_of_getElem? (i := 17) rfl)
theorem mw_181 : (.methodLink RJ1 88 yJ1_canEncode_9a6ad : Cond) ∈ lw_tbl := lw_rd_45 _ (List.mem_of_getElem? (i := 18) rfl)
theorem mw_182 : (.static yJ1_canEncode_9a6ad : Cond) ∈ lw_tbl := lw_rd_45 _ (List.mem_of_getElem? (i := 19) rfl)
theorem mw_184 : (.code yJ1_canEncode_9a6ad cJ1_canEncode_9a6ad 1 (some .boolean) : Cond) ∈ lw_tbl := lw_rd_45 _ (List.mem_of_getElem? (i := 20) rfl)
theorem mw_180 : (.methodLink RJ1 92 Lib.Math.max.name : Cond) ∈ lw_tbl := lw_rd_45 _ (List.mem_of_getElem? (i := 21) rfl)
theorem mw_179 : (.methodLink RJ1 38 Lib.Math.min.name : Cond) ∈ lw_tbl := lw_rd_45 _ (List.mem_of_getElem? (i := 22) rfl)
theorem mw_176 : (.methodLink RJ1 95 yJ1_indexOfChar_4cfef : Cond) ∈ lw_tbl := lw_rd_45 _ (List.mem_of_getElem? (i := 23) rfl)
theorem mw_177 : (.static yJ1_indexOfChar_4cfef : Cond) ∈ lw_tbl := lw_rd_45 _ (List.mem_of_getElem? (i := 24) rfl)
theorem mw_178 : (.code yJ1_indexOfChar_4cfef cJ1_indexOfChar_4cfef 6 (some .int) : Cond) ∈ lw_tbl := lw_rd_45 _ (List.mem_of_getElem? (i := 25) rfl)
def lw_rb_46 : List Cond := [.methodLink RX6 93 yX10_wrongHere, .instanceMethod yX10_wrongHere, .selects RX10 yX10_wrongHere yX10_wrongHere, .code yX10_wrongHere cX10_wrongHere 1 (some .boolean), .methodLink RX6 108 yX10_takeNumber, .instanceMethod yX10_takeNumber, .selects RX10 yX10_takeNumber yX10_takeNumber, .code yX10_takeNumber cX10_takeNumber 3 (some .boolean), .methodLink RX10 37 yX10_next, .methodLink RX10 45 yX10_isDigit, .static yX10_isDigit, .code yX10_isDigit cX10_isDigit 1 (some .boolean), .methodLink RX10 41 yX10_wrongHere, .methodLink RX10 49 yX10_sign]
set_option maxRecDepth 100000 in
theorem lw_rc_46 : (List.drop 27 tables_1_3).take 14 = lw_rb_46 := rfl
theorem lw_rd_46 : ∀ w ∈ lw_rb_46, w ∈ lw_tbl := fun w h => lw_tm_3 w (List.mem_of_mem_drop (List.mem_of_mem_take (lw_rc_46 ▸ h)))
theorem mw_94 : (.methodLink RX6 93 yX10_wrongHere : Cond) ∈ lw_tbl := lw_rd_46 _ (List.mem_of_getElem? (i := 0) rfl)
theorem mw_217 : (.instanceMethod yX10_wrongHere : Cond) ∈ lw_tbl := lw_rd_46 _ (List.mem_of_getElem? (i := 1) rfl)
theorem mw_216 : (.selects RX10 yX10_wrongHere yX10_wrongHere : Cond) ∈ lw_tbl := lw_rd_46 _ (List.mem_of_getElem? (i := 2) rfl)
theorem mw_218 : (.code yX10_wrongHere cX10_wrongHere 1 (some .boolean) : Cond) ∈ lw_tbl := lw_rd_46 _ (List.mem_of_getElem? (i := 3) rfl)
theorem mw_77 : (.methodLink RX6 108 yX10_takeNumber : Cond) ∈ lw_tbl := lw_rd_46 _ (List.mem_of_getElem? (i := 4) rfl)
theorem mw_150 : (.instanceMethod yX10_takeNumber : Cond) ∈ lw_tbl := lw_rd_46 _ (List.mem_of_getElem? (i := 5) rfl)
theorem mw_149 : (.selects RX10 yX10_takeNumber yX10_takeNumber : Cond) ∈ lw_tbl := lw_rd_46 _ (List.mem_of_getElem? (i := 6) rfl)
theorem mw_157 : (.code yX10_takeNumber cX10_takeNumber 3 (some .boolean) : Cond) ∈ lw_tbl := lw_rd_46 _ (List.mem_of_getElem? (i := 7) rfl)
theorem mw_219 : (.methodLink RX10 37 yX10_next : Cond) ∈ lw_tbl := lw_rd_46 _ (List.mem_of_getElem? (i := 8) rfl)
theorem mw_156 : (.methodLink RX10 45 yX10_isDigit : Cond) ∈ lw_tbl := lw_rd_46 _ (List.mem_of_getElem? (i := 9) rfl)
theorem mw_206 : (.static yX10_isDigit : Cond) ∈ lw_tbl := lw_rd_46 _ (List.mem_of_getElem? (i := 10) rfl)
theorem mw_207 : (.code yX10_isDigit cX10_isDigit 1 (some .boolean) : Cond) ∈ lw_tbl := lw_rd_46 _ (List.mem_of_getElem? (i := 11) rfl)
theorem mw_215 : (.methodLink RX10 41 yX10_wrongHere : Cond) ∈ lw_tbl := lw_rd_46 _ (List.mem_of_getElem? (i := 12) rfl)
theorem mw_151 : (.methodLink RX10 49 yX10_sign : Cond) ∈ lw_tbl := lw_rd_46 _ (List.mem_of_getElem? (i := 13) rfl)
def lw_rb_47 : List Cond := [.instanceMethod yX10_sign, .code yX10_sign cX10_sign 1 (some .int), .methodLink RX6 112 yX10_numberWithin, .instanceMethod yX10_numberWithin, .selects RX10 yX10_numberWithin yX10_numberWithin, .code yX10_numberWithin cX10_numberWithin 3 (some .boolean)]
set_option maxRecDepth 100000 in
theorem lw_rc_47 : (List.drop 42 tables_1_3).take 6 = lw_rb_47 := rfl
theorem lw_rd_47 : ∀ w ∈ lw_rb_47, w ∈ lw_tbl := fun w h => lw_tm_3 w (List.mem_of_mem_drop (List.mem_of_mem_take (lw_rc_47 ▸ h)))
theorem mw_153 : (.instanceMethod yX10_sign : Cond) ∈ lw_tbl := lw_rd_47 _ (List.mem_of_getElem? (i := 0) rfl)
theorem mw_154 : (.code yX10_sign cX10_sign 1 (some .int) : Cond) ∈ lw_tbl := lw_rd_47 _ (List.mem_of_getElem? (i := 1) rfl)
theorem mw_67 : (.methodLink RX6 112 yX10_numberWithin : Cond) ∈ lw_tbl := lw_rd_47 _ (List.mem_of_getElem? (i := 2) rfl)
theorem mw_69 : (.instanceMethod yX10_numberWithin : Cond) ∈ lw_tbl := lw_rd_47 _ (List.mem_of_getElem? (i := 3) rfl)
theorem mw_68 : (.selects RX10 yX10_numberWithin yX10_numberWithin : Cond) ∈ lw_tbl := lw_rd_47 _ (List.mem_of_getElem? (i := 4) rfl)
theorem mw_76 : (.code yX10_numberWithin cX10_numberWithin 3 (some .boolean) : Cond) ∈ lw_tbl := lw_rd_47 _ (List.mem_of_getElem? (i := 5) rfl)
def lw_rb_48 : List Cond := [.static yX11_within, .code yX11_within cX11_within 3 (some .boolean), .methodLink RX10 56 yX10_wrong, .instanceMethod yX10_wrong, .selects RX10 yX10_wrong yX10_wrong, .code yX10_wrong cX10_wrong 2 (some .boolean), .methodLink RX6 116 yX10_number, .instanceMethod yX10_number, .selects RX10 yX10_number yX10_number, .code yX10_number cX10_number 1 (some .int)]
set_option maxRecDepth 100000 in
theorem lw_rc_48 : (List.drop 49 tables_1_3).take 10 = lw_rb_48 := rfl
theorem lw_rd_48 : ∀ w ∈ lw_rb_48, w ∈ lw_tbl := fun w h => lw_tm_3 w (List.mem_of_mem_drop (List.mem_of_mem_take (lw_rc_48 ▸ h)))
theorem mw_74 : (.static yX11_within : Cond) ∈ lw_tbl := lw_rd_48 _ (List.mem_of_getElem? (i := 0) rfl)
theorem mw_75 : (.code yX11_within cX11_within 3 (some .boolean) : Cond) ∈ lw_tbl := lw_rd_48 _ (List.mem_of_getElem? (i := 1) rfl)
theorem mw_70 : (.methodLink RX10 56 yX10_wrong : Cond) ∈ lw_tbl := lw_rd_48 _ (List.mem_of_getElem? (i := 2) rfl)
theorem mw_72 : (.instanceMethod yX10_wrong : Cond) ∈ lw_tbl := lw_rd_48 _ (List.mem_of_getElem? (i := 3) rfl)
theorem mw_71 : (.selects RX10 yX10_wrong yX10_wrong : Cond) ∈ lw_tbl := lw_rd_48 _ (List.mem_of_getElem? (i := 4) rfl)
theorem mw_73 : (.code yX10_wrong cX10_wrong 2 (some .boolean) : Cond) ∈ lw_tbl := lw_rd_48 _ (List.mem_of_getElem? (i := 5) rfl)
theorem mw_66 : (.methodLink RX6 116 yX10_number : Cond) ∈ lw_tbl := lw_rd_48 _ (List.mem_of_getElem? (i := 6) rfl)
theorem mw_146 : (.instanceMethod yX10_number : Cond) ∈ lw_tbl := lw_rd_48 _ (List.mem_of_getElem? (i := 7) rfl)
theorem mw_145 : (.selects RX10 yX10_number yX10_number : Cond) ∈ lw_tbl := lw_rd_48 _ (List.mem_of_getElem? (i := 8) rfl)
theorem mw_147 : (.code yX10_number cX10_number 1 (some .int) : Cond) ∈ lw_tbl := lw_rd_48 _ (List.mem_of_getElem? (i := 9) rfl)
def lw_rb_49 : List Cond := [.fieldLink RX6 87 "LeftArguments$OfficeReader" "BAG_LEAST" "[I"]
set_option maxRecDepth 100000 in
theorem lw_rc_49 : (List.drop 60 tables_1_3).take 1 = lw_rb_49 := rfl
theorem lw_rd_49 : ∀ w ∈ lw_rb_49, w ∈ lw_tbl := fun w h => lw_tm_3 w (List.mem_of_mem_drop (List.mem_of_mem_take (lw_rc_49 ▸ h)))
theorem mw_92 : (.fieldLink RX6 87 "LeftArguments$OfficeReader" "BAG_LEAST" "[I" : Cond) ∈ lw_tbl := lw_rd_49 _ (List.mem_of_getElem? (i := 0) rfl)
def lw_rb_50 : List Cond := [.fieldLink RX6 90 "LeftArguments$OfficeReader" "BAG_MOST" "[I"]
set_option maxRecDepth 100000 in
theorem lw_rc_50 : (List.drop 62 tables_1_3).take 1 = lw_rb_50 := rfl
theorem lw_rd_50 : ∀ w ∈ lw_rb_50, w ∈ lw_tbl := fun w h => lw_tm_3 w (List.mem_of_mem_drop (List.mem_of_mem_take (lw_rc_50 ▸ h)))
theorem mw_91 : (.fieldLink RX6 90 "LeftArguments$OfficeReader" "BAG_MOST" "[I" : Cond) ∈ lw_tbl := lw_rd_50 _ (List.mem_of_getElem? (i := 0) rfl)
def lw_rb_51 : List Cond := [.methodLink RX6 57 yX10_wrongAt, .instanceMethod yX10_wrongAt, .selects RX10 yX10_wrongAt yX10_wrongAt, .code yX10_wrongAt cX10_wrongAt 1 (some .int), .methodLink RX6 64 yX6_allShelvesStand]
set_option maxRecDepth 100000 in
theorem lw_rc_51 : (List.drop 64 tables_1_3).take 5 = lw_rb_51 := rfl
theorem lw_rd_51 : ∀ w ∈ lw_rb_51, w ∈ lw_tbl := fun w h => lw_tm_3 w (List.mem_of_mem_drop (List.mem_of_mem_take (lw_rc_51 ▸ h)))
theorem mw_53 : (.methodLink RX6 57 yX10_wrongAt : Cond) ∈ lw_tbl := lw_rd_51 _ (List.mem_of_getElem? (i := 0) rfl)
theorem mw_115 : (.instanceMethod yX10_wrongAt : Cond) ∈ lw_tbl := lw_rd_51 _ (List.mem_of_getElem? (i := 1) rfl)
theorem mw_114 : (.selects RX10 yX10_wrongAt yX10_wrongAt : Cond) ∈ lw_tbl := lw_rd_51 _ (List.mem_of_getElem? (i := 2) rfl)
theorem mw_116 : (.code yX10_wrongAt cX10_wrongAt 1 (some .int) : Cond) ∈ lw_tbl := lw_rd_51 _ (List.mem_of_getElem? (i := 3) rfl)
theorem mw_54 : (.methodLink RX6 64 yX6_allShelvesStand : Cond) ∈ lw_tbl := lw_rd_51 _ (List.mem_of_getElem? (i := 4) rfl)
def lw_rb_52 : List Cond := [.instanceMethod yX6_allShelvesStand, .code yX6_allShelvesStand cX6_allShelvesStand 3 (some .boolean), .methodLink RX6 67 yX10_used, .methodLink RX11 130 yX3_read, .instanceMethod yX3_read, .selects RX3 yX3_read yX3_read, .code yX3_read cX3_read 2 (some .int), .methodLink RX3 35 yX10_rewind, .methodLink RX3 40 yX3_readClause]
set_option maxRecDepth 100000 in
theorem lw_rc_52 : (List.drop 70 tables_1_3).take 9 = lw_rb_52 := rfl
theorem lw_rd_52 : ∀ w ∈ lw_rb_52, w ∈ lw_tbl := fun w h => lw_tm_3 w (List.mem_of_mem_drop (List.mem_of_mem_take (lw_rc_52 ▸ h)))
theorem mw_56 : (.instanceMethod yX6_allShelvesStand : Cond) ∈ lw_tbl := lw_rd_52 _ (List.mem_of_getElem? (i := 0) rfl)
theorem mw_57 : (.code yX6_allShelvesStand cX6_allShelvesStand 3 (some .boolean) : Cond) ∈ lw_tbl := lw_rd_52 _ (List.mem_of_getElem? (i := 1) rfl)
theorem mw_97 : (.methodLink RX6 67 yX10_used : Cond) ∈ lw_tbl := lw_rd_52 _ (List.mem_of_getElem? (i := 2) rfl)
theorem mw_110 : (.methodLink RX11 130 yX3_read : Cond) ∈ lw_tbl := lw_rd_52 _ (List.mem_of_getElem? (i := 3) rfl)
theorem mw_112 : (.instanceMethod yX3_read : Cond) ∈ lw_tbl := lw_rd_52 _ (List.mem_of_getElem? (i := 4) rfl)
theorem mw_111 : (.selects RX3 yX3_read yX3_read : Cond) ∈ lw_tbl := lw_rd_52 _ (List.mem_of_getElem? (i := 5) rfl)
theorem mw_234 : (.code yX3_read cX3_read 2 (some .int) : Cond) ∈ lw_tbl := lw_rd_52 _ (List.mem_of_getElem? (i := 6) rfl)
theorem mw_227 : (.methodLink RX3 35 yX10_rewind : Cond) ∈ lw_tbl := lw_rd_52 _ (List.mem_of_getElem? (i := 7) rfl)
theorem mw_117 : (.methodLink RX3 40 yX3_readClause : Cond) ∈ lw_tbl := lw_rd_52 _ (List.mem_of_getElem? (i := 8) rfl)
def lw_rb_53 : List Cond := [.instanceMethod yX3_readClause, .code yX3_readClause cX3_readClause 4 (some .boolean), .methodLink RX3 51 yX10_take, .instanceMethod yX10_take, .selects RX10 yX10_take yX10_take, .code yX10_take cX10_take 2 (some .boolean), .methodLink RX3 48 yX10_next, .methodLink RX3 59 yX3_readSum]
set_option maxRecDepth 100000 in
theorem lw_rc_53 : (List.drop 80 tables_1_3).take 8 = lw_rb_53 := rfl
theorem lw_rd_53 : ∀ w ∈ lw_rb_53, w ∈ lw_tbl := fun w h => lw_tm_3 w (List.mem_of_mem_drop (List.mem_of_mem_take (lw_rc_53 ▸ h)))
theorem mw_119 : (.instanceMethod yX3_readClause : Cond) ∈ lw_tbl := lw_rd_53 _ (List.mem_of_getElem? (i := 0) rfl)
theorem mw_224 : (.code yX3_readClause cX3_readClause 4 (some .boolean) : Cond) ∈ lw_tbl := lw_rd_53 _ (List.mem_of_getElem? (i := 1) rfl)
theorem mw_212 : (.methodLink RX3 51 yX10_take : Cond) ∈ lw_tbl := lw_rd_53 _ (List.mem_of_getElem? (i := 2) rfl)
theorem mw_214 : (.instanceMethod yX10_take : Cond) ∈ lw_tbl := lw_rd_53 _ (List.mem_of_getElem? (i := 3) rfl)
theorem mw_213 : (.selects RX10 yX10_take yX10_take : Cond) ∈ lw_tbl := lw_rd_53 _ (List.mem_of_getElem? (i := 4) rfl)
theorem mw_223 : (.code yX10_take cX10_take 2 (some .boolean) : Cond) ∈ lw_tbl := lw_rd_53 _ (List.mem_of_getElem? (i := 5) rfl)
theorem mw_211 : (.methodLink RX3 48 yX10_next : Cond) ∈ lw_tbl := lw_rd_53 _ (List.mem_of_getElem? (i := 6) rfl)
theorem mw_135 : (.methodLink RX3 59 yX3_readSum : Cond) ∈ lw_tbl := lw_rd_53 _ (List.mem_of_getElem? (i := 7) rfl)
def lw_rb_54 : List Cond := [.instanceMethod yX3_readSum, .code yX3_readSum cX3_readSum 4 (some .boolean), .methodLink RX3 86 yX3_readTerm]
set_option maxRecDepth 100000 in
theorem lw_rc_54 : (List.drop 89 tables_1_3).take 3 = lw_rb_54 := rfl
theorem lw_rd_54 : ∀ w ∈ lw_rb_54, w ∈ lw_tbl := fun w h => lw_tm_3 w (List.mem_of_mem_drop (List.mem_of_mem_take (lw_rc_54 ▸ h)))
theorem mw_137 : (.instanceMethod yX3_readSum : Cond) ∈ lw_tbl := lw_rd_54 _ (List.mem_of_getElem? (i := 0) rfl)
theorem mw_210 : (.code yX3_readSum cX3_readSum 4 (some .boolean) : Cond) ∈ lw_tbl := lw_rd_54 _ (List.mem_of_getElem? (i := 1) rfl)
theorem mw_138 : (.methodLink RX3 86 yX3_readTerm : Cond) ∈ lw_tbl := lw_rd_54 _ (List.mem_of_getElem? (i := 2) rfl)
def lw_rb_55 : List Cond := [.instanceMethod yX3_readTerm, .code yX3_readTerm cX3_readTerm 4 (some .boolean), .methodLink RX3 89 yX3_readAtom]
set_option maxRecDepth 100000 in
theorem lw_rc_55 : (List.drop 93 tables_1_3).take 3 = lw_rb_55 := rfl
theorem lw_rd_55 : ∀ w ∈ lw_rb_55, w ∈ lw_tbl := fun w h => lw_tm_3 w (List.mem_of_mem_drop (List.mem_of_mem_take (lw_rc_55 ▸ h)))
theorem mw_140 : (.instanceMethod yX3_readTerm : Cond) ∈ lw_tbl := lw_rd_55 _ (List.mem_of_getElem? (i := 0) rfl)
theorem mw_209 : (.code yX3_readTerm cX3_readTerm 4 (some .boolean) : Cond) ∈ lw_tbl := lw_rd_55 _ (List.mem_of_getElem? (i := 1) rfl)
theorem mw_141 : (.methodLink RX3 89 yX3_readAtom : Cond) ∈ lw_tbl := lw_rd_55 _ (List.mem_of_getElem? (i := 2) rfl)
def lw_rb_56 : List Cond := [.instanceMethod yX3_readAtom, .code yX3_readAtom cX3_readAtom 4 (some .boolean), .methodLink RX3 77 yX10_step, .methodLink RX3 92 yX10_isDigit, .methodLink RX3 95 yX10_takeNumber, .methodLink RX3 98 yX10_number, .methodLink RX3 66 yX3_write]
set_option maxRecDepth 100000 in
theorem lw_rc_56 : (List.drop 97 tables_1_3).take 7 = lw_rb_56 := rfl
theorem lw_rd_56 : ∀ w ∈ lw_rb_56, w ∈ lw_tbl := fun w h => lw_tm_3 w (List.mem_of_mem_drop (List.mem_of_mem_take (lw_rc_56 ▸ h)))
theorem mw_143 : (.instanceMethod yX3_readAtom : Cond) ∈ lw_tbl := lw_rd_56 _ (List.mem_of_getElem? (i := 0) rfl)
theorem mw_208 : (.code yX3_readAtom cX3_readAtom 4 (some .boolean) : Cond) ∈ lw_tbl := lw_rd_56 _ (List.mem_of_getElem? (i := 1) rfl)
theorem mw_164 : (.methodLink RX3 77 yX10_step : Cond) ∈ lw_tbl := lw_rd_56 _ (List.mem_of_getElem? (i := 2) rfl)
theorem mw_205 : (.methodLink RX3 92 yX10_isDigit : Cond) ∈ lw_tbl := lw_rd_56 _ (List.mem_of_getElem? (i := 3) rfl)
theorem mw_148 : (.methodLink RX3 95 yX10_takeNumber : Cond) ∈ lw_tbl := lw_rd_56 _ (List.mem_of_getElem? (i := 4) rfl)
theorem mw_144 : (.methodLink RX3 98 yX10_number : Cond) ∈ lw_tbl := lw_rd_56 _ (List.mem_of_getElem? (i := 5) rfl)
theorem mw_158 : (.methodLink RX3 66 yX3_write : Cond) ∈ lw_tbl := lw_rd_56 _ (List.mem_of_getElem? (i := 6) rfl)
def lw_rb_57 : List Cond := [.instanceMethod yX3_write, .code yX3_write cX3_write 3 none]
set_option maxRecDepth 100000 in
theorem lw_rc_57 : (List.drop 105 tables_1_3).take 2 = lw_rb_57 := rfl
theorem lw_rd_57 : ∀ w ∈ lw_rb_57, w ∈ lw_tbl := fun w h => lw_tm_3 w (List.mem_of_mem_drop (List.mem_of_mem_take (lw_rc_57 ▸ h)))
theorem mw_160 : (.instanceMethod yX3_write : Cond) ∈ lw_tbl := lw_rd_57 _ (List.mem_of_getElem? (i := 0) rfl)
theorem mw_163 : (.code yX3_write cX3_write 3 none : Cond) ∈ lw_tbl := lw_rd_57 _ (List.mem_of_getElem? (i := 1) rfl)
def lw_rb_58 : List Cond := [.methodLink RX3 103 yJ0_indexOf_0f7a4, .methodLink RX3 83 yX10_wrongHere, .methodLink RX3 62 yX3_comparing, .static yX3_comparing, .code yX3_comparing cX3_comparing 1 (some .int), .methodLink RX3 70 yX3_readCondition]
set_option maxRecDepth 100000 in
theorem lw_rc_58 : (List.drop 108 tables_1_3).take 6 = lw_rb_58 := rfl
theorem lw_rd_58 : ∀ w ∈ lw_rb_58, w ∈ lw_tbl := fun w h => lw_tm_3 w (List.mem_of_mem_drop (List.mem_of_mem_take (lw_rc_58 ▸ h)))
theorem mw_168 : (.methodLink RX3 103 yJ0_indexOf_0f7a4 : Cond) ∈ lw_tbl := lw_rd_58 _ (List.mem_of_getElem? (i := 0) rfl)
theorem mw_204 : (.methodLink RX3 83 yX10_wrongHere : Cond) ∈ lw_tbl := lw_rd_58 _ (List.mem_of_getElem? (i := 1) rfl)
theorem mw_132 : (.methodLink RX3 62 yX3_comparing : Cond) ∈ lw_tbl := lw_rd_58 _ (List.mem_of_getElem? (i := 2) rfl)
theorem mw_133 : (.static yX3_comparing : Cond) ∈ lw_tbl := lw_rd_58 _ (List.mem_of_getElem? (i := 3) rfl)
theorem mw_134 : (.code yX3_comparing cX3_comparing 1 (some .int) : Cond) ∈ lw_tbl := lw_rd_58 _ (List.mem_of_getElem? (i := 4) rfl)
theorem mw_120 : (.methodLink RX3 70 yX3_readCondition : Cond) ∈ lw_tbl := lw_rd_58 _ (List.mem_of_getElem? (i := 5) rfl)
def lw_rb_59 : List Cond := [.instanceMethod yX3_readCondition, .code yX3_readCondition cX3_readCondition 4 (some .boolean), .methodLink RX3 74 yX3_readTruth]
set_option maxRecDepth 100000 in
theorem lw_rc_59 : (List.drop 115 tables_1_3).take 3 = lw_rb_59 := rfl
theorem lw_rd_59 : ∀ w ∈ lw_rb_59, w ∈ lw_tbl := fun w h => lw_tm_3 w (List.mem_of_mem_drop (List.mem_of_mem_take (lw_rc_59 ▸ h)))
theorem mw_122 : (.instanceMethod yX3_readCondition : Cond) ∈ lw_tbl := lw_rd_59 _ (List.mem_of_getElem? (i := 0) rfl)
theorem mw_131 : (.code yX3_readCondition cX3_readCondition 4 (some .boolean) : Cond) ∈ lw_tbl := lw_rd_59 _ (List.mem_of_getElem? (i := 1) rfl)
theorem mw_123 : (.methodLink RX3 74 yX3_readTruth : Cond) ∈ lw_tbl := lw_rd_59 _ (List.mem_of_getElem? (i := 2) rfl)
def lw_rb_60 : List Cond := [.instanceMethod yX3_readTruth, .code yX3_readTruth cX3_readTruth 4 (some .boolean), .methodLink RX3 80 yX3_readUnit]
set_option maxRecDepth 100000 in
theorem lw_rc_60 : (List.drop 119 tables_1_3).take 3 = lw_rb_60 := rfl
theorem lw_rd_60 : ∀ w ∈ lw_rb_60, w ∈ lw_tbl := fun w h => lw_tm_3 w (List.mem_of_mem_drop (List.mem_of_mem_take (lw_rc_60 ▸ h)))
theorem mw_125 : (.instanceMethod yX3_readTruth : Cond) ∈ lw_tbl := lw_rd_60 _ (List.mem_of_getElem? (i := 0) rfl)
theorem mw_130 : (.code yX3_readTruth cX3_readTruth 4 (some .boolean) : Cond) ∈ lw_tbl := lw_rd_60 _ (List.mem_of_getElem? (i := 1) rfl)
theorem mw_126 : (.methodLink RX3 80 yX3_readUnit : Cond) ∈ lw_tbl := lw_rd_60 _ (List.mem_of_getElem? (i := 2) rfl)
def lw_rb_61 : List Cond := [.instanceMethod yX3_readUnit, .code yX3_readUnit cX3_readUnit 5 (some .boolean), .methodLink RX3 44 yX10_wrongAt, .methodLink RX3 55 yX10_used]
set_option maxRecDepth 100000 in
theorem lw_rc_61 : (List.drop 123 tables_1_3).take 4 = lw_rb_61 := rfl
theorem lw_rd_61 : ∀ w ∈ lw_rb_61, w ∈ lw_tbl := fun w h => lw_tm_3 w (List.mem_of_mem_drop (List.mem_of_mem_take (lw_rc_61 ▸ h)))
theorem mw_128 : (.instanceMethod yX3_readUnit : Cond) ∈ lw_tbl := lw_rd_61 _ (List.mem_of_getElem? (i := 0) rfl)
theorem mw_129 : (.code yX3_readUnit cX3_readUnit 5 (some .boolean) : Cond) ∈ lw_tbl := lw_rd_61 _ (List.mem_of_getElem? (i := 1) rfl)
theorem mw_113 : (.methodLink RX3 44 yX10_wrongAt : Cond) ∈ lw_tbl := lw_rd_61 _ (List.mem_of_getElem? (i := 2) rfl)
theorem mw_225 : (.methodLink RX3 55 yX10_used : Cond) ∈ lw_tbl := lw_rd_61 _ (List.mem_of_getElem? (i := 3) rfl)
def lw_rb_62 : List Cond := [.methodLink RL 34 yX11_text, .instanceMethod yX11_text, .selects RX11 yX11_text yX11_text, .code yX11_text cX11_text 2 (some .int), .methodLink RX11 131 yX11_openOffice]
set_option maxRecDepth 100000 in
theorem lw_rc_62 : (List.drop 128 tables_1_3).take 5 = lw_rb_62 := rfl
theorem lw_rd_62 : ∀ w ∈ lw_rb_62, w ∈ lw_tbl := fun w h => lw_tm_3 w (List.mem_of_mem_drop (List.mem_of_mem_take (lw_rc_62 ▸ h)))
theorem mw_473 : (.methodLink RL 34 yX11_text : Cond) ∈ lw_tbl := lw_rd_62 _ (List.mem_of_getElem? (i := 0) rfl)
theorem mw_472 : (.instanceMethod yX11_text : Cond) ∈ lw_tbl := lw_rd_62 _ (List.mem_of_getElem? (i := 1) rfl)
theorem mw_471 : (.selects RX11 yX11_text yX11_text : Cond) ∈ lw_tbl := lw_rd_62 _ (List.mem_of_getElem? (i := 2) rfl)
theorem mw_470 : (.code yX11_text cX11_text 2 (some .int) : Cond) ∈ lw_tbl := lw_rd_62 _ (List.mem_of_getElem? (i := 3) rfl)
theorem mw_377 : (.methodLink RX11 131 yX11_openOffice : Cond) ∈ lw_tbl := lw_rd_62 _ (List.mem_of_getElem? (i := 4) rfl)
def lw_rb_63 : List Cond := [.instanceMethod yX11_openOffice, .code yX11_openOffice cX11_openOffice 1 (some .int), .methodLink RX11 140 yX5_open, .instanceMethod yX5_open, .selects RX5 yX5_open yX5_open, .code yX5_open cX5_open 2 none, .methodLink RX5 28 yX6_copyTo, .instanceMethod yX6_copyTo, .selects RX6 yX6_copyTo yX6_copyTo, .code yX6_copyTo cX6_copyTo 3 none, .methodLink RX6 30 Lib.Math.min.name, .methodLink RX5 32 yX6_bagCount, .instanceMethod yX6_bagCount, .selects RX6 yX6_bagCount yX6_bagCount, .code yX6_bagCount cX6_bagCount 1 (some .int), .methodLink RX11 144 yX7_fill, .instanceMethod yX7_fill, .selects RX7 yX7_fill yX7_fill, .code yX7_fill cX7_fill 3 none, .methodLink RX7 25 yX7_clear, .instanceMethod yX7_clear, .selects RX7 yX7_clear yX7_clear, .code yX7_clear cX7_clear 1 none, .methodLink RX7 46 yJ7_fill_53178, .static yJ7_fill_53178, .code yJ7_fill_53178 cJ7_fill_53178 4 none, .methodLink RX7 30 yX5_ruleOf, .instanceMethod yX5_ruleOf, .selects RX5 yX5_ruleOf yX5_ruleOf, .code yX5_ruleOf cX5_ruleOf 2 (some .int), .methodLink RX7 34 yX5_toldCount, .instanceMethod yX5_toldCount, .selects RX5 yX5_toldCount yX5_toldCount, .code yX5_toldCount cX5_toldCount 1 (some .int), .methodLink RX7 38 yX5_toldOf, .instanceMethod yX5_toldOf, .selects RX5 yX5_toldOf yX5_toldOf, .code yX5_toldOf cX5_toldOf 4 (some .int), .methodLink RX7 42 yX7_put, .instanceMethod yX7_put]
set_option maxRecDepth 100000 in
theorem lw_rc_63 : (List.drop 134 tables_1_3).take 40 = lw_rb_63 := rfl
theorem lw_rd_63 : ∀ w ∈ lw_rb_63, w ∈ lw_tbl := fun w h => lw_tm_3 w (List.mem_of_mem_drop (List.mem_of_mem_take (lw_rc_63 ▸ h)))
theorem mw_379 : (.instanceMethod yX11_openOffice : Cond) ∈ lw_tbl := lw_rd_63 _ (List.mem_of_getElem? (i := 0) rfl)
theorem mw_450 : (.code yX11_openOffice cX11_openOffice 1 (some .int) : Cond) ∈ lw_tbl := lw_rd_63 _ (List.mem_of_getElem? (i := 1) rfl)
theorem mw_431 : (.methodLink RX11 140 yX5_open : Cond) ∈ lw_tbl := lw_rd_63 _ (List.mem_of_getElem? (i := 2) rfl)
theorem mw_433 : (.instanceMethod yX5_open : Cond) ∈ lw_tbl := lw_rd_63 _ (List.mem_of_getElem? (i := 3) rfl)
theorem mw_432 : (.selects RX5 yX5_open yX5_open : Cond) ∈ lw_tbl := lw_rd_63 _ (List.mem_of_getElem? (i := 4) rfl)
theorem mw_448 : (.code yX5_open cX5_open 2 none : Cond) ∈ lw_tbl := lw_rd_63 _ (List.mem_of_getElem? (i := 5) rfl)
theorem mw_441 : (.methodLink RX5 28 yX6_copyTo : Cond) ∈ lw_tbl := lw_rd_63 _ (List.mem_of_getElem? (i := 6) rfl)
theorem mw_443 : (.instanceMethod yX6_copyTo : Cond) ∈ lw_tbl := lw_rd_63 _ (List.mem_of_getElem? (i := 7) rfl)
theorem mw_442 : (.selects RX6 yX6_copyTo yX6_copyTo : Cond) ∈ lw_tbl := lw_rd_63 _ (List.mem_of_getElem? (i := 8) rfl)
theorem mw_445 : (.code yX6_copyTo cX6_copyTo 3 none : Cond) ∈ lw_tbl := lw_rd_63 _ (List.mem_of_getElem? (i := 9) rfl)
theorem mw_444 : (.methodLink RX6 30 Lib.Math.min.name : Cond) ∈ lw_tbl := lw_rd_63 _ (List.mem_of_getElem? (i := 10) rfl)
theorem mw_437 : (.methodLink RX5 32 yX6_bagCount : Cond) ∈ lw_tbl := lw_rd_63 _ (List.mem_of_getElem? (i := 11) rfl)
theorem mw_439 : (.instanceMethod yX6_bagCount : Cond) ∈ lw_tbl := lw_rd_63 _ (List.mem_of_getElem? (i := 12) rfl)
theorem mw_438 : (.selects RX6 yX6_bagCount yX6_bagCount : Cond) ∈ lw_tbl := lw_rd_63 _ (List.mem_of_getElem? (i := 13) rfl)
theorem mw_440 : (.code yX6_bagCount cX6_bagCount 1 (some .int) : Cond) ∈ lw_tbl := lw_rd_63 _ (List.mem_of_getElem? (i := 14) rfl)
theorem mw_396 : (.methodLink RX11 144 yX7_fill : Cond) ∈ lw_tbl := lw_rd_63 _ (List.mem_of_getElem? (i := 15) rfl)
theorem mw_398 : (.instanceMethod yX7_fill : Cond) ∈ lw_tbl := lw_rd_63 _ (List.mem_of_getElem? (i := 16) rfl)
theorem mw_397 : (.selects RX7 yX7_fill yX7_fill : Cond) ∈ lw_tbl := lw_rd_63 _ (List.mem_of_getElem? (i := 17) rfl)
theorem mw_429 : (.code yX7_fill cX7_fill 3 none : Cond) ∈ lw_tbl := lw_rd_63 _ (List.mem_of_getElem? (i := 18) rfl)
theorem mw_419 : (.methodLink RX7 25 yX7_clear : Cond) ∈ lw_tbl := lw_rd_63 _ (List.mem_of_getElem? (i := 19) rfl)
theorem mw_421 : (.instanceMethod yX7_clear : Cond) ∈ lw_tbl := lw_rd_63 _ (List.mem_of_getElem? (i := 20) rfl)
theorem mw_420 : (.selects RX7 yX7_clear yX7_clear : Cond) ∈ lw_tbl := lw_rd_63 _ (List.mem_of_getElem? (i := 21) rfl)
theorem mw_428 : (.code yX7_clear cX7_clear 1 none : Cond) ∈ lw_tbl := lw_rd_63 _ (List.mem_of_getElem? (i := 22) rfl)
theorem mw_423 : (.methodLink RX7 46 yJ7_fill_53178 : Cond) ∈ lw_tbl := lw_rd_63 _ (List.mem_of_getElem? (i := 23) rfl)
theorem mw_424 : (.static yJ7_fill_53178 : Cond) ∈ lw_tbl := lw_rd_63 _ (List.mem_of_getElem? (i := 24) rfl)
theorem mw_426 : (.code yJ7_fill_53178 cJ7_fill_53178 4 none : Cond) ∈ lw_tbl := lw_rd_63 _ (List.mem_of_getElem? (i := 25) rfl)
theorem mw_415 : (.methodLink RX7 30 yX5_ruleOf : Cond) ∈ lw_tbl := lw_rd_63 _ (List.mem_of_getElem? (i := 26) rfl)
theorem mw_417 : (.instanceMethod yX5_ruleOf : Cond) ∈ lw_tbl := lw_rd_63 _ (List.mem_of_getElem? (i := 27) rfl)
theorem mw_416 : (.selects RX5 yX5_ruleOf yX5_ruleOf : Cond) ∈ lw_tbl := lw_rd_63 _ (List.mem_of_getElem? (i := 28) rfl)
theorem mw_418 : (.code yX5_ruleOf cX5_ruleOf 2 (some .int) : Cond) ∈ lw_tbl := lw_rd_63 _ (List.mem_of_getElem? (i := 29) rfl)
theorem mw_411 : (.methodLink RX7 34 yX5_toldCount : Cond) ∈ lw_tbl := lw_rd_63 _ (List.mem_of_getElem? (i := 30) rfl)
theorem mw_413 : (.instanceMethod yX5_toldCount : Cond) ∈ lw_tbl := lw_rd_63 _ (List.mem_of_getElem? (i := 31) rfl)
theorem mw_412 : (.selects RX5 yX5_toldCount yX5_toldCount : Cond) ∈ lw_tbl := lw_rd_63 _ (List.mem_of_getElem? (i := 32) rfl)
theorem mw_414 : (.code yX5_toldCount cX5_toldCount 1 (some .int) : Cond) ∈ lw_tbl := lw_rd_63 _ (List.mem_of_getElem? (i := 33) rfl)
theorem mw_407 : (.methodLink RX7 38 yX5_toldOf : Cond) ∈ lw_tbl := lw_rd_63 _ (List.mem_of_getElem? (i := 34) rfl)
theorem mw_409 : (.instanceMethod yX5_toldOf : Cond) ∈ lw_tbl := lw_rd_63 _ (List.mem_of_getElem? (i := 35) rfl)
theorem mw_408 : (.selects RX5 yX5_toldOf yX5_toldOf : Cond) ∈ lw_tbl := lw_rd_63 _ (List.mem_of_getElem? (i := 36) rfl)
theorem mw_410 : (.code yX5_toldOf cX5_toldOf 4 (some .int) : Cond) ∈ lw_tbl := lw_rd_63 _ (List.mem_of_getElem? (i := 37) rfl)
theorem mw_399 : (.methodLink RX7 42 yX7_put : Cond) ∈ lw_tbl := lw_rd_63 _ (List.mem_of_getElem? (i := 38) rfl)
theorem mw_401 : (.instanceMethod yX7_put : Cond) ∈ lw_tbl := lw_rd_63 _ (List.mem_of_getElem? (i := 39) rfl)
def lw_rb_64 : List Cond := [.selects RX7 yX7_put yX7_put, .code yX7_put cX7_put 7 none, .methodLink RX7 58 yX7_set, .instanceMethod yX7_set, .selects RX7 yX7_set yX7_set, .code yX7_set cX7_set 4 none, .methodLink RX11 148 yX0_forget, .instanceMethod yX0_forget, .selects RX0 yX0_forget yX0_forget, .code yX0_forget cX0_forget 1 none, .methodLink RX11 151 yX9_forget, .instanceMethod yX9_forget, .selects RX9 yX9_forget yX9_forget, .code yX9_forget cX9_forget 1 none, .methodLink RX11 152 yX5_toldCount, .methodLink RX11 134 yX4_number, .instanceMethod yX4_number, .selects RX4 yX4_number yX4_number, .code yX4_number cX4_number 1 (some .int), .methodLink RX11 137 yX4_add, .instanceMethod yX4_add, .selects RX4 yX4_add yX4_add, .code yX4_add cX4_add 2 (some .int), .methodLink RX4 35 yX3_copyTo, .instanceMethod yX3_copyTo, .selects RX3 yX3_copyTo yX3_copyTo, .code yX3_copyTo cX3_copyTo 3 (some .int), .methodLink RX3 23 Lib.Math.min.name, .methodLink RX3 29 arraycopyName, .methodLink RL 52 yX11_law, .instanceMethod yX11_law, .selects RX11 yX11_law yX11_law, .code yX11_law cX11_law 2 (some .boolean), .methodLink RX11 155 yX4_choose, .instanceMethod yX4_choose, .selects RX4 yX4_choose yX4_choose, .code yX4_choose cX4_choose 2 (some .boolean), .methodLink RL 38 yX11_rule, .instanceMethod yX11_rule, .selects RX11 yX11_rule yX11_rule]
set_option maxRecDepth 100000 in
theorem lw_rc_64 : (List.drop 174 tables_1_3).take 40 = lw_rb_64 := rfl
theorem lw_rd_64 : ∀ w ∈ lw_rb_64, w ∈ lw_tbl := fun w h => lw_tm_3 w (List.mem_of_mem_drop (List.mem_of_mem_take (lw_rc_64 ▸ h)))
theorem mw_400 : (.selects RX7 yX7_put yX7_put : Cond) ∈ lw_tbl := lw_rd_64 _ (List.mem_of_getElem? (i := 0) rfl)
theorem mw_406 : (.code yX7_put cX7_put 7 none : Cond) ∈ lw_tbl := lw_rd_64 _ (List.mem_of_getElem? (i := 1) rfl)
theorem mw_402 : (.methodLink RX7 58 yX7_set : Cond) ∈ lw_tbl := lw_rd_64 _ (List.mem_of_getElem? (i := 2) rfl)
theorem mw_404 : (.instanceMethod yX7_set : Cond) ∈ lw_tbl := lw_rd_64 _ (List.mem_of_getElem? (i := 3) rfl)
theorem mw_403 : (.selects RX7 yX7_set yX7_set : Cond) ∈ lw_tbl := lw_rd_64 _ (List.mem_of_getElem? (i := 4) rfl)
theorem mw_405 : (.code yX7_set cX7_set 4 none : Cond) ∈ lw_tbl := lw_rd_64 _ (List.mem_of_getElem? (i := 5) rfl)
theorem mw_389 : (.methodLink RX11 148 yX0_forget : Cond) ∈ lw_tbl := lw_rd_64 _ (List.mem_of_getElem? (i := 6) rfl)
theorem mw_391 : (.instanceMethod yX0_forget : Cond) ∈ lw_tbl := lw_rd_64 _ (List.mem_of_getElem? (i := 7) rfl)
theorem mw_390 : (.selects RX0 yX0_forget yX0_forget : Cond) ∈ lw_tbl := lw_rd_64 _ (List.mem_of_getElem? (i := 8) rfl)
theorem mw_394 : (.code yX0_forget cX0_forget 1 none : Cond) ∈ lw_tbl := lw_rd_64 _ (List.mem_of_getElem? (i := 9) rfl)
theorem mw_382 : (.methodLink RX11 151 yX9_forget : Cond) ∈ lw_tbl := lw_rd_64 _ (List.mem_of_getElem? (i := 10) rfl)
theorem mw_384 : (.instanceMethod yX9_forget : Cond) ∈ lw_tbl := lw_rd_64 _ (List.mem_of_getElem? (i := 11) rfl)
theorem mw_383 : (.selects RX9 yX9_forget yX9_forget : Cond) ∈ lw_tbl := lw_rd_64 _ (List.mem_of_getElem? (i := 12) rfl)
theorem mw_387 : (.code yX9_forget cX9_forget 1 none : Cond) ∈ lw_tbl := lw_rd_64 _ (List.mem_of_getElem? (i := 13) rfl)
theorem mw_380 : (.methodLink RX11 152 yX5_toldCount : Cond) ∈ lw_tbl := lw_rd_64 _ (List.mem_of_getElem? (i := 14) rfl)
theorem mw_463 : (.methodLink RX11 134 yX4_number : Cond) ∈ lw_tbl := lw_rd_64 _ (List.mem_of_getElem? (i := 15) rfl)
theorem mw_465 : (.instanceMethod yX4_number : Cond) ∈ lw_tbl := lw_rd_64 _ (List.mem_of_getElem? (i := 16) rfl)
theorem mw_464 : (.selects RX4 yX4_number yX4_number : Cond) ∈ lw_tbl := lw_rd_64 _ (List.mem_of_getElem? (i := 17) rfl)
theorem mw_468 : (.code yX4_number cX4_number 1 (some .int) : Cond) ∈ lw_tbl := lw_rd_64 _ (List.mem_of_getElem? (i := 18) rfl)
theorem mw_451 : (.methodLink RX11 137 yX4_add : Cond) ∈ lw_tbl := lw_rd_64 _ (List.mem_of_getElem? (i := 19) rfl)
theorem mw_453 : (.instanceMethod yX4_add : Cond) ∈ lw_tbl := lw_rd_64 _ (List.mem_of_getElem? (i := 20) rfl)
theorem mw_452 : (.selects RX4 yX4_add yX4_add : Cond) ∈ lw_tbl := lw_rd_64 _ (List.mem_of_getElem? (i := 21) rfl)
theorem mw_462 : (.code yX4_add cX4_add 2 (some .int) : Cond) ∈ lw_tbl := lw_rd_64 _ (List.mem_of_getElem? (i := 22) rfl)
theorem mw_454 : (.methodLink RX4 35 yX3_copyTo : Cond) ∈ lw_tbl := lw_rd_64 _ (List.mem_of_getElem? (i := 23) rfl)
theorem mw_456 : (.instanceMethod yX3_copyTo : Cond) ∈ lw_tbl := lw_rd_64 _ (List.mem_of_getElem? (i := 24) rfl)
theorem mw_455 : (.selects RX3 yX3_copyTo yX3_copyTo : Cond) ∈ lw_tbl := lw_rd_64 _ (List.mem_of_getElem? (i := 25) rfl)
theorem mw_459 : (.code yX3_copyTo cX3_copyTo 3 (some .int) : Cond) ∈ lw_tbl := lw_rd_64 _ (List.mem_of_getElem? (i := 26) rfl)
theorem mw_458 : (.methodLink RX3 23 Lib.Math.min.name : Cond) ∈ lw_tbl := lw_rd_64 _ (List.mem_of_getElem? (i := 27) rfl)
theorem mw_457 : (.methodLink RX3 29 arraycopyName : Cond) ∈ lw_tbl := lw_rd_64 _ (List.mem_of_getElem? (i := 28) rfl)
theorem mw_647 : (.methodLink RL 52 yX11_law : Cond) ∈ lw_tbl := lw_rd_64 _ (List.mem_of_getElem? (i := 29) rfl)
theorem mw_646 : (.instanceMethod yX11_law : Cond) ∈ lw_tbl := lw_rd_64 _ (List.mem_of_getElem? (i := 30) rfl)
theorem mw_645 : (.selects RX11 yX11_law yX11_law : Cond) ∈ lw_tbl := lw_rd_64 _ (List.mem_of_getElem? (i := 31) rfl)
theorem mw_644 : (.code yX11_law cX11_law 2 (some .boolean) : Cond) ∈ lw_tbl := lw_rd_64 _ (List.mem_of_getElem? (i := 32) rfl)
theorem mw_640 : (.methodLink RX11 155 yX4_choose : Cond) ∈ lw_tbl := lw_rd_64 _ (List.mem_of_getElem? (i := 33) rfl)
theorem mw_642 : (.instanceMethod yX4_choose : Cond) ∈ lw_tbl := lw_rd_64 _ (List.mem_of_getElem? (i := 34) rfl)
theorem mw_641 : (.selects RX4 yX4_choose yX4_choose : Cond) ∈ lw_tbl := lw_rd_64 _ (List.mem_of_getElem? (i := 35) rfl)
theorem mw_643 : (.code yX4_choose cX4_choose 2 (some .boolean) : Cond) ∈ lw_tbl := lw_rd_64 _ (List.mem_of_getElem? (i := 36) rfl)
theorem mw_511 : (.methodLink RL 38 yX11_rule : Cond) ∈ lw_tbl := lw_rd_64 _ (List.mem_of_getElem? (i := 37) rfl)
theorem mw_510 : (.instanceMethod yX11_rule : Cond) ∈ lw_tbl := lw_rd_64 _ (List.mem_of_getElem? (i := 38) rfl)
theorem mw_509 : (.selects RX11 yX11_rule yX11_rule : Cond) ∈ lw_tbl := lw_rd_64 _ (List.mem_of_getElem? (i := 39) rfl)
def lw_rb_65 : List Cond := [.code yX11_rule cX11_rule 2 (some .int), .methodLink RX11 159 yX5_stands, .instanceMethod yX5_stands, .selects RX5 yX5_stands yX5_stands, .code yX5_stands cX5_stands 1 (some .boolean), .methodLink RX11 163 yX7_coins, .instanceMethod yX7_coins, .selects RX7 yX7_coins yX7_coins, .code yX7_coins cX7_coins 1 (some .int), .methodLink RX11 166 yX5_ruleOf, .methodLink RL 48 yX11_load, .instanceMethod yX11_load, .selects RX11 yX11_load yX11_load, .code yX11_load cX11_load 2 (some .int), .methodLink RX11 183 yX5_hasShelf, .instanceMethod yX5_hasShelf, .selects RX5 yX5_hasShelf yX5_hasShelf, .code yX5_hasShelf cX5_hasShelf 2 (some .boolean), .methodLink RX11 186 yX7_loadOn, .instanceMethod yX7_loadOn, .selects RX7 yX7_loadOn yX7_loadOn, .code yX7_loadOn cX7_loadOn 4 (some .int), .methodLink RL 182 yX11_count, .instanceMethod yX11_count, .selects RX11 yX11_count yX11_count, .code yX11_count cX11_count 2 (some .int)]
set_option maxRecDepth 100000 in
theorem lw_rc_65 : (List.drop 214 tables_1_3).take 26 = lw_rb_65 := rfl
theorem lw_rd_65 : ∀ w ∈ lw_rb_65, w ∈ lw_tbl := fun w h => lw_tm_3 w (List.mem_of_mem_drop (List.mem_of_mem_take (lw_rc_65 ▸ h)))
theorem mw_508 : (.code yX11_rule cX11_rule 2 (some .int) : Cond) ∈ lw_tbl := lw_rd_65 _ (List.mem_of_getElem? (i := 0) rfl)
theorem mw_504 : (.methodLink RX11 159 yX5_stands : Cond) ∈ lw_tbl := lw_rd_65 _ (List.mem_of_getElem? (i := 1) rfl)
theorem mw_506 : (.instanceMethod yX5_stands : Cond) ∈ lw_tbl := lw_rd_65 _ (List.mem_of_getElem? (i := 2) rfl)
theorem mw_505 : (.selects RX5 yX5_stands yX5_stands : Cond) ∈ lw_tbl := lw_rd_65 _ (List.mem_of_getElem? (i := 3) rfl)
theorem mw_507 : (.code yX5_stands cX5_stands 1 (some .boolean) : Cond) ∈ lw_tbl := lw_rd_65 _ (List.mem_of_getElem? (i := 4) rfl)
theorem mw_499 : (.methodLink RX11 163 yX7_coins : Cond) ∈ lw_tbl := lw_rd_65 _ (List.mem_of_getElem? (i := 5) rfl)
theorem mw_501 : (.instanceMethod yX7_coins : Cond) ∈ lw_tbl := lw_rd_65 _ (List.mem_of_getElem? (i := 6) rfl)
theorem mw_500 : (.selects RX7 yX7_coins yX7_coins : Cond) ∈ lw_tbl := lw_rd_65 _ (List.mem_of_getElem? (i := 7) rfl)
theorem mw_502 : (.code yX7_coins cX7_coins 1 (some .int) : Cond) ∈ lw_tbl := lw_rd_65 _ (List.mem_of_getElem? (i := 8) rfl)
theorem mw_503 : (.methodLink RX11 166 yX5_ruleOf : Cond) ∈ lw_tbl := lw_rd_65 _ (List.mem_of_getElem? (i := 9) rfl)
theorem mw_627 : (.methodLink RL 48 yX11_load : Cond) ∈ lw_tbl := lw_rd_65 _ (List.mem_of_getElem? (i := 10) rfl)
theorem mw_626 : (.instanceMethod yX11_load : Cond) ∈ lw_tbl := lw_rd_65 _ (List.mem_of_getElem? (i := 11) rfl)
theorem mw_625 : (.selects RX11 yX11_load yX11_load : Cond) ∈ lw_tbl := lw_rd_65 _ (List.mem_of_getElem? (i := 12) rfl)
theorem mw_624 : (.code yX11_load cX11_load 2 (some .int) : Cond) ∈ lw_tbl := lw_rd_65 _ (List.mem_of_getElem? (i := 13) rfl)
theorem mw_616 : (.methodLink RX11 183 yX5_hasShelf : Cond) ∈ lw_tbl := lw_rd_65 _ (List.mem_of_getElem? (i := 14) rfl)
theorem mw_618 : (.instanceMethod yX5_hasShelf : Cond) ∈ lw_tbl := lw_rd_65 _ (List.mem_of_getElem? (i := 15) rfl)
theorem mw_617 : (.selects RX5 yX5_hasShelf yX5_hasShelf : Cond) ∈ lw_tbl := lw_rd_65 _ (List.mem_of_getElem? (i := 16) rfl)
theorem mw_619 : (.code yX5_hasShelf cX5_hasShelf 2 (some .boolean) : Cond) ∈ lw_tbl := lw_rd_65 _ (List.mem_of_getElem? (i := 17) rfl)
theorem mw_620 : (.methodLink RX11 186 yX7_loadOn : Cond) ∈ lw_tbl := lw_rd_65 _ (List.mem_of_getElem? (i := 18) rfl)
theorem mw_622 : (.instanceMethod yX7_loadOn : Cond) ∈ lw_tbl := lw_rd_65 _ (List.mem_of_getElem? (i := 19) rfl)
theorem mw_621 : (.selects RX7 yX7_loadOn yX7_loadOn : Cond) ∈ lw_tbl := lw_rd_65 _ (List.mem_of_getElem? (i := 20) rfl)
theorem mw_623 : (.code yX7_loadOn cX7_loadOn 4 (some .int) : Cond) ∈ lw_tbl := lw_rd_65 _ (List.mem_of_getElem? (i := 21) rfl)
theorem mw_1500 : (.methodLink RL 182 yX11_count : Cond) ∈ lw_tbl := lw_rd_65 _ (List.mem_of_getElem? (i := 22) rfl)
theorem mw_1499 : (.instanceMethod yX11_count : Cond) ∈ lw_tbl := lw_rd_65 _ (List.mem_of_getElem? (i := 23) rfl)
theorem mw_1498 : (.selects RX11 yX11_count yX11_count : Cond) ∈ lw_tbl := lw_rd_65 _ (List.mem_of_getElem? (i := 24) rfl)
theorem mw_1497 : (.code yX11_count cX11_count 2 (some .int) : Cond) ∈ lw_tbl := lw_rd_65 _ (List.mem_of_getElem? (i := 25) rfl)
def lw_rb_66 : List Cond := [.methodLink RX11 189 yX7_bags, .instanceMethod yX7_bags, .selects RX7 yX7_bags yX7_bags, .code yX7_bags cX7_bags 1 (some .int), .methodLink RX7 77 yX7_bagsWith, .instanceMethod yX7_bagsWith, .selects RX7 yX7_bagsWith yX7_bagsWith, .code yX7_bagsWith cX7_bagsWith 5 (some .int), .methodLink RX7 70 yX7_has, .instanceMethod yX7_has, .selects RX7 yX7_has yX7_has, .code yX7_has cX7_has 2 (some .boolean), .methodLink RX7 74 yX7_of, .instanceMethod yX7_of, .selects RX7 yX7_of yX7_of, .code yX7_of cX7_of 3 (some .int), .methodLink RX11 192 yJ6_bitCount_0f7a4, .static yJ6_bitCount_0f7a4, .code yJ6_bitCount_0f7a4 cJ6_bitCount_0f7a4 1 (some .int), .constant RJ6 265 (1431655765), .constant RJ6 266 (858993459), .constant RJ6 267 (252645135), .methodLink RX11 197 yX4_chosen, .instanceMethod yX4_chosen, .selects RX4 yX4_chosen yX4_chosen, .code yX4_chosen cX4_chosen 1 (some .int), .methodLink RX11 200 yX7_day, .instanceMethod yX7_day, .selects RX7 yX7_day yX7_day, .code yX7_day cX7_day 1 (some .int), .methodLink RX11 203 yX9_number, .instanceMethod yX9_number, .selects RX9 yX9_number yX9_number, .code yX9_number cX9_number 1 (some .int), .methodLink RX11 204 yX1_lengthOn, .static yX1_lengthOn, .code yX1_lengthOn cX1_lengthOn 1 (some .int), .methodLink RX1 25 Lib.Math.min.name, .methodLink RX11 207 yX0_number, .instanceMethod yX0_number]
set_option maxRecDepth 100000 in
theorem lw_rc_66 : (List.drop 0 tables_1_4).take 40 = lw_rb_66 := rfl
theorem lw_rd_66 : ∀ w ∈ lw_rb_66, w ∈ lw_tbl := fun w h => lw_tm_4 w (List.mem_of_mem_drop (List.mem_of_mem_take (lw_rc_66 ▸ h)))
theorem mw_1410 : (.methodLink RX11 189 yX7_bags : Cond) ∈ lw_tbl := lw_rd_66 _ (List.mem_of_getElem? (i := 0) rfl)
theorem mw_1412 : (.instanceMethod yX7_bags : Cond) ∈ lw_tbl := lw_rd_66 _ (List.mem_of_getElem? (i := 1) rfl)
theorem mw_1411 : (.selects RX7 yX7_bags yX7_bags : Cond) ∈ lw_tbl := lw_rd_66 _ (List.mem_of_getElem? (i := 2) rfl)
theorem mw_1413 : (.code yX7_bags cX7_bags 1 (some .int) : Cond) ∈ lw_tbl := lw_rd_66 _ (List.mem_of_getElem? (i := 3) rfl)
theorem mw_1271 : (.methodLink RX7 77 yX7_bagsWith : Cond) ∈ lw_tbl := lw_rd_66 _ (List.mem_of_getElem? (i := 4) rfl)
theorem mw_1273 : (.instanceMethod yX7_bagsWith : Cond) ∈ lw_tbl := lw_rd_66 _ (List.mem_of_getElem? (i := 5) rfl)
theorem mw_1272 : (.selects RX7 yX7_bagsWith yX7_bagsWith : Cond) ∈ lw_tbl := lw_rd_66 _ (List.mem_of_getElem? (i := 6) rfl)
theorem mw_1274 : (.code yX7_bagsWith cX7_bagsWith 5 (some .int) : Cond) ∈ lw_tbl := lw_rd_66 _ (List.mem_of_getElem? (i := 7) rfl)
theorem mw_701 : (.methodLink RX7 70 yX7_has : Cond) ∈ lw_tbl := lw_rd_66 _ (List.mem_of_getElem? (i := 8) rfl)
theorem mw_561 : (.instanceMethod yX7_has : Cond) ∈ lw_tbl := lw_rd_66 _ (List.mem_of_getElem? (i := 9) rfl)
theorem mw_560 : (.selects RX7 yX7_has yX7_has : Cond) ∈ lw_tbl := lw_rd_66 _ (List.mem_of_getElem? (i := 10) rfl)
theorem mw_562 : (.code yX7_has cX7_has 2 (some .boolean) : Cond) ∈ lw_tbl := lw_rd_66 _ (List.mem_of_getElem? (i := 11) rfl)
theorem mw_549 : (.methodLink RX7 74 yX7_of : Cond) ∈ lw_tbl := lw_rd_66 _ (List.mem_of_getElem? (i := 12) rfl)
theorem mw_555 : (.instanceMethod yX7_of : Cond) ∈ lw_tbl := lw_rd_66 _ (List.mem_of_getElem? (i := 13) rfl)
theorem mw_554 : (.selects RX7 yX7_of yX7_of : Cond) ∈ lw_tbl := lw_rd_66 _ (List.mem_of_getElem? (i := 14) rfl)
theorem mw_556 : (.code yX7_of cX7_of 3 (some .int) : Cond) ∈ lw_tbl := lw_rd_66 _ (List.mem_of_getElem? (i := 15) rfl)
theorem mw_1496 : (.methodLink RX11 192 yJ6_bitCount_0f7a4 : Cond) ∈ lw_tbl := lw_rd_66 _ (List.mem_of_getElem? (i := 16) rfl)
theorem mw_1142 : (.static yJ6_bitCount_0f7a4 : Cond) ∈ lw_tbl := lw_rd_66 _ (List.mem_of_getElem? (i := 17) rfl)
theorem mw_1147 : (.code yJ6_bitCount_0f7a4 cJ6_bitCount_0f7a4 1 (some .int) : Cond) ∈ lw_tbl := lw_rd_66 _ (List.mem_of_getElem? (i := 18) rfl)
theorem mw_1146 : (.constant RJ6 265 (1431655765) : Cond) ∈ lw_tbl := lw_rd_66 _ (List.mem_of_getElem? (i := 19) rfl)
theorem mw_1145 : (.constant RJ6 266 (858993459) : Cond) ∈ lw_tbl := lw_rd_66 _ (List.mem_of_getElem? (i := 20) rfl)
theorem mw_1144 : (.constant RJ6 267 (252645135) : Cond) ∈ lw_tbl := lw_rd_66 _ (List.mem_of_getElem? (i := 21) rfl)
theorem mw_1492 : (.methodLink RX11 197 yX4_chosen : Cond) ∈ lw_tbl := lw_rd_66 _ (List.mem_of_getElem? (i := 22) rfl)
theorem mw_1494 : (.instanceMethod yX4_chosen : Cond) ∈ lw_tbl := lw_rd_66 _ (List.mem_of_getElem? (i := 23) rfl)
theorem mw_1493 : (.selects RX4 yX4_chosen yX4_chosen : Cond) ∈ lw_tbl := lw_rd_66 _ (List.mem_of_getElem? (i := 24) rfl)
theorem mw_1495 : (.code yX4_chosen cX4_chosen 1 (some .int) : Cond) ∈ lw_tbl := lw_rd_66 _ (List.mem_of_getElem? (i := 25) rfl)
theorem mw_718 : (.methodLink RX11 200 yX7_day : Cond) ∈ lw_tbl := lw_rd_66 _ (List.mem_of_getElem? (i := 26) rfl)
theorem mw_539 : (.instanceMethod yX7_day : Cond) ∈ lw_tbl := lw_rd_66 _ (List.mem_of_getElem? (i := 27) rfl)
theorem mw_538 : (.selects RX7 yX7_day yX7_day : Cond) ∈ lw_tbl := lw_rd_66 _ (List.mem_of_getElem? (i := 28) rfl)
theorem mw_540 : (.code yX7_day cX7_day 1 (some .int) : Cond) ∈ lw_tbl := lw_rd_66 _ (List.mem_of_getElem? (i := 29) rfl)
theorem mw_1488 : (.methodLink RX11 203 yX9_number : Cond) ∈ lw_tbl := lw_rd_66 _ (List.mem_of_getElem? (i := 30) rfl)
theorem mw_1490 : (.instanceMethod yX9_number : Cond) ∈ lw_tbl := lw_rd_66 _ (List.mem_of_getElem? (i := 31) rfl)
theorem mw_1489 : (.selects RX9 yX9_number yX9_number : Cond) ∈ lw_tbl := lw_rd_66 _ (List.mem_of_getElem? (i := 32) rfl)
theorem mw_1491 : (.code yX9_number cX9_number 1 (some .int) : Cond) ∈ lw_tbl := lw_rd_66 _ (List.mem_of_getElem? (i := 33) rfl)
theorem mw_1487 : (.methodLink RX11 204 yX1_lengthOn : Cond) ∈ lw_tbl := lw_rd_66 _ (List.mem_of_getElem? (i := 34) rfl)
theorem mw_947 : (.static yX1_lengthOn : Cond) ∈ lw_tbl := lw_rd_66 _ (List.mem_of_getElem? (i := 35) rfl)
theorem mw_949 : (.code yX1_lengthOn cX1_lengthOn 1 (some .int) : Cond) ∈ lw_tbl := lw_rd_66 _ (List.mem_of_getElem? (i := 36) rfl)
theorem mw_948 : (.methodLink RX1 25 Lib.Math.min.name : Cond) ∈ lw_tbl := lw_rd_66 _ (List.mem_of_getElem? (i := 37) rfl)
theorem mw_923 : (.methodLink RX11 207 yX0_number : Cond) ∈ lw_tbl := lw_rd_66 _ (List.mem_of_getElem? (i := 38) rfl)
theorem mw_925 : (.instanceMethod yX0_number : Cond) ∈ lw_tbl := lw_rd_66 _ (List.mem_of_getElem? (i := 39) rfl)
def lw_rb_67 : List Cond := [.selects RX0 yX0_number yX0_number, .code yX0_number cX0_number 1 (some .int), .constant RX11 208 (-1000000), .methodLink RL 96 yX11_status, .instanceMethod yX11_status, .selects RX11 yX11_status yX11_status, .code yX11_status cX11_status 2 (some .int), .methodLink RL 105 yX11_log, .instanceMethod yX11_log, .selects RX11 yX11_log yX11_log, .code yX11_log cX11_log 3 (some .int), .methodLink RX11 209 yX1_told, .instanceMethod yX1_told, .selects RX1 yX1_told yX1_told, .code yX1_told cX1_told 4 (some .int), .methodLink RX1 28 yX1_lengthOn, .methodLink RX1 15 yX1_rowOf, .static yX1_rowOf, .code yX1_rowOf cX1_rowOf 1 (some .int), .methodLink RX1 19 yJ9_floorMod_7cf53, .static yJ9_floorMod_7cf53, .code yJ9_floorMod_7cf53 cJ9_floorMod_7cf53 3 (some .int), .methodLink RL 56 yX11_days, .instanceMethod yX11_days, .selects RX11 yX11_days yX11_days, .code yX11_days cX11_days 3 (some .int), .methodLink RX11 229 yX11_refuse]
set_option maxRecDepth 100000 in
theorem lw_rc_67 : (List.drop 40 tables_1_4).take 27 = lw_rb_67 := rfl
theorem lw_rd_67 : ∀ w ∈ lw_rb_67, w ∈ lw_tbl := fun w h => lw_tm_4 w (List.mem_of_mem_drop (List.mem_of_mem_take (lw_rc_67 ▸ h)))
theorem mw_924 : (.selects RX0 yX0_number yX0_number : Cond) ∈ lw_tbl := lw_rd_67 _ (List.mem_of_getElem? (i := 0) rfl)
theorem mw_926 : (.code yX0_number cX0_number 1 (some .int) : Cond) ∈ lw_tbl := lw_rd_67 _ (List.mem_of_getElem? (i := 1) rfl)
theorem mw_1318 : (.constant RX11 208 (-1000000) : Cond) ∈ lw_tbl := lw_rd_67 _ (List.mem_of_getElem? (i := 2) rfl)
theorem mw_918 : (.methodLink RL 96 yX11_status : Cond) ∈ lw_tbl := lw_rd_67 _ (List.mem_of_getElem? (i := 3) rfl)
theorem mw_917 : (.instanceMethod yX11_status : Cond) ∈ lw_tbl := lw_rd_67 _ (List.mem_of_getElem? (i := 4) rfl)
theorem mw_916 : (.selects RX11 yX11_status yX11_status : Cond) ∈ lw_tbl := lw_rd_67 _ (List.mem_of_getElem? (i := 5) rfl)
theorem mw_915 : (.code yX11_status cX11_status 2 (some .int) : Cond) ∈ lw_tbl := lw_rd_67 _ (List.mem_of_getElem? (i := 6) rfl)
theorem mw_954 : (.methodLink RL 105 yX11_log : Cond) ∈ lw_tbl := lw_rd_67 _ (List.mem_of_getElem? (i := 7) rfl)
theorem mw_953 : (.instanceMethod yX11_log : Cond) ∈ lw_tbl := lw_rd_67 _ (List.mem_of_getElem? (i := 8) rfl)
theorem mw_952 : (.selects RX11 yX11_log yX11_log : Cond) ∈ lw_tbl := lw_rd_67 _ (List.mem_of_getElem? (i := 9) rfl)
theorem mw_951 : (.code yX11_log cX11_log 3 (some .int) : Cond) ∈ lw_tbl := lw_rd_67 _ (List.mem_of_getElem? (i := 10) rfl)
theorem mw_943 : (.methodLink RX11 209 yX1_told : Cond) ∈ lw_tbl := lw_rd_67 _ (List.mem_of_getElem? (i := 11) rfl)
theorem mw_945 : (.instanceMethod yX1_told : Cond) ∈ lw_tbl := lw_rd_67 _ (List.mem_of_getElem? (i := 12) rfl)
theorem mw_944 : (.selects RX1 yX1_told yX1_told : Cond) ∈ lw_tbl := lw_rd_67 _ (List.mem_of_getElem? (i := 13) rfl)
theorem mw_950 : (.code yX1_told cX1_told 4 (some .int) : Cond) ∈ lw_tbl := lw_rd_67 _ (List.mem_of_getElem? (i := 14) rfl)
theorem mw_946 : (.methodLink RX1 28 yX1_lengthOn : Cond) ∈ lw_tbl := lw_rd_67 _ (List.mem_of_getElem? (i := 15) rfl)
theorem mw_659 : (.methodLink RX1 15 yX1_rowOf : Cond) ∈ lw_tbl := lw_rd_67 _ (List.mem_of_getElem? (i := 16) rfl)
theorem mw_660 : (.static yX1_rowOf : Cond) ∈ lw_tbl := lw_rd_67 _ (List.mem_of_getElem? (i := 17) rfl)
theorem mw_666 : (.code yX1_rowOf cX1_rowOf 1 (some .int) : Cond) ∈ lw_tbl := lw_rd_67 _ (List.mem_of_getElem? (i := 18) rfl)
theorem mw_662 : (.methodLink RX1 19 yJ9_floorMod_7cf53 : Cond) ∈ lw_tbl := lw_rd_67 _ (List.mem_of_getElem? (i := 19) rfl)
theorem mw_663 : (.static yJ9_floorMod_7cf53 : Cond) ∈ lw_tbl := lw_rd_67 _ (List.mem_of_getElem? (i := 20) rfl)
theorem mw_665 : (.code yJ9_floorMod_7cf53 cJ9_floorMod_7cf53 3 (some .int) : Cond) ∈ lw_tbl := lw_rd_67 _ (List.mem_of_getElem? (i := 21) rfl)
theorem mw_727 : (.methodLink RL 56 yX11_days : Cond) ∈ lw_tbl := lw_rd_67 _ (List.mem_of_getElem? (i := 22) rfl)
theorem mw_726 : (.instanceMethod yX11_days : Cond) ∈ lw_tbl := lw_rd_67 _ (List.mem_of_getElem? (i := 23) rfl)
theorem mw_725 : (.selects RX11 yX11_days yX11_days : Cond) ∈ lw_tbl := lw_rd_67 _ (List.mem_of_getElem? (i := 24) rfl)
theorem mw_724 : (.code yX11_days cX11_days 3 (some .int) : Cond) ∈ lw_tbl := lw_rd_67 _ (List.mem_of_getElem? (i := 25) rfl)
theorem mw_719 : (.methodLink RX11 229 yX11_refuse : Cond) ∈ lw_tbl := lw_rd_67 _ (List.mem_of_getElem? (i := 26) rfl)
def lw_rb_68 : List Cond := [.instanceMethod yX11_refuse, .code yX11_refuse cX11_refuse 2 (some .int), .methodLink RX11 232 yX0_keep, .instanceMethod yX0_keep, .selects RX0 yX0_keep yX0_keep, .code yX0_keep cX0_keep 2 none, .methodLink RX0 22 yX7_copyTo, .instanceMethod yX7_copyTo, .selects RX7 yX7_copyTo yX7_copyTo, .code yX7_copyTo cX7_copyTo 3 none, .methodLink RX7 52 arraycopyName, .methodLink RX0 26 Lib.Math.min.name, .methodLink RX11 236 yX11_passDay]
set_option maxRecDepth 100000 in
theorem lw_rc_68 : (List.drop 68 tables_1_4).take 13 = lw_rb_68 := rfl
theorem lw_rd_68 : ∀ w ∈ lw_rb_68, w ∈ lw_tbl := fun w h => lw_tm_4 w (List.mem_of_mem_drop (List.mem_of_mem_take (lw_rc_68 ▸ h)))
theorem mw_721 : (.instanceMethod yX11_refuse : Cond) ∈ lw_tbl := lw_rd_68 _ (List.mem_of_getElem? (i := 0) rfl)
theorem mw_723 : (.code yX11_refuse cX11_refuse 2 (some .int) : Cond) ∈ lw_tbl := lw_rd_68 _ (List.mem_of_getElem? (i := 1) rfl)
theorem mw_706 : (.methodLink RX11 232 yX0_keep : Cond) ∈ lw_tbl := lw_rd_68 _ (List.mem_of_getElem? (i := 2) rfl)
theorem mw_708 : (.instanceMethod yX0_keep : Cond) ∈ lw_tbl := lw_rd_68 _ (List.mem_of_getElem? (i := 3) rfl)
theorem mw_707 : (.selects RX0 yX0_keep yX0_keep : Cond) ∈ lw_tbl := lw_rd_68 _ (List.mem_of_getElem? (i := 4) rfl)
theorem mw_717 : (.code yX0_keep cX0_keep 2 none : Cond) ∈ lw_tbl := lw_rd_68 _ (List.mem_of_getElem? (i := 5) rfl)
theorem mw_710 : (.methodLink RX0 22 yX7_copyTo : Cond) ∈ lw_tbl := lw_rd_68 _ (List.mem_of_getElem? (i := 6) rfl)
theorem mw_712 : (.instanceMethod yX7_copyTo : Cond) ∈ lw_tbl := lw_rd_68 _ (List.mem_of_getElem? (i := 7) rfl)
theorem mw_711 : (.selects RX7 yX7_copyTo yX7_copyTo : Cond) ∈ lw_tbl := lw_rd_68 _ (List.mem_of_getElem? (i := 8) rfl)
theorem mw_714 : (.code yX7_copyTo cX7_copyTo 3 none : Cond) ∈ lw_tbl := lw_rd_68 _ (List.mem_of_getElem? (i := 9) rfl)
theorem mw_713 : (.methodLink RX7 52 arraycopyName : Cond) ∈ lw_tbl := lw_rd_68 _ (List.mem_of_getElem? (i := 10) rfl)
theorem mw_709 : (.methodLink RX0 26 Lib.Math.min.name : Cond) ∈ lw_tbl := lw_rd_68 _ (List.mem_of_getElem? (i := 11) rfl)
theorem mw_652 : (.methodLink RX11 236 yX11_passDay : Cond) ∈ lw_tbl := lw_rd_68 _ (List.mem_of_getElem? (i := 12) rfl)
def lw_rb_69 : List Cond := [.instanceMethod yX11_passDay, .code yX11_passDay cX11_passDay 2 none, .methodLink RX11 213 yX7_pass, .instanceMethod yX7_pass, .selects RX7 yX7_pass yX7_pass, .code yX7_pass cX7_pass 4 none, .methodLink RX7 91 yX4_growth, .instanceMethod yX4_growth, .selects RX4 yX4_growth yX4_growth, .code yX4_growth cX4_growth 6 (some .int), .methodLink RX4 39 yX7_of, .methodLink RX4 45 yX7_othersWith, .instanceMethod yX7_othersWith, .selects RX7 yX7_othersWith yX7_othersWith, .code yX7_othersWith cX7_othersWith 5 (some .int), .methodLink RX4 49 yX4_held, .static yX4_held, .code yX4_held cX4_held 3 (some .int), .methodLink RX4 53 yX7_day, .methodLink RX4 57 yX4_worth]
set_option maxRecDepth 100000 in
theorem lw_rc_69 : (List.drop 82 tables_1_4).take 20 = lw_rb_69 := rfl
theorem lw_rd_69 : ∀ w ∈ lw_rb_69, w ∈ lw_tbl := fun w h => lw_tm_4 w (List.mem_of_mem_drop (List.mem_of_mem_take (lw_rc_69 ▸ h)))
theorem mw_654 : (.instanceMethod yX11_passDay : Cond) ∈ lw_tbl := lw_rd_69 _ (List.mem_of_getElem? (i := 0) rfl)
theorem mw_705 : (.code yX11_passDay cX11_passDay 2 none : Cond) ∈ lw_tbl := lw_rd_69 _ (List.mem_of_getElem? (i := 1) rfl)
theorem mw_681 : (.methodLink RX11 213 yX7_pass : Cond) ∈ lw_tbl := lw_rd_69 _ (List.mem_of_getElem? (i := 2) rfl)
theorem mw_683 : (.instanceMethod yX7_pass : Cond) ∈ lw_tbl := lw_rd_69 _ (List.mem_of_getElem? (i := 3) rfl)
theorem mw_682 : (.selects RX7 yX7_pass yX7_pass : Cond) ∈ lw_tbl := lw_rd_69 _ (List.mem_of_getElem? (i := 4) rfl)
theorem mw_704 : (.code yX7_pass cX7_pass 4 none : Cond) ∈ lw_tbl := lw_rd_69 _ (List.mem_of_getElem? (i := 5) rfl)
theorem mw_684 : (.methodLink RX7 91 yX4_growth : Cond) ∈ lw_tbl := lw_rd_69 _ (List.mem_of_getElem? (i := 6) rfl)
theorem mw_522 : (.instanceMethod yX4_growth : Cond) ∈ lw_tbl := lw_rd_69 _ (List.mem_of_getElem? (i := 7) rfl)
theorem mw_521 : (.selects RX4 yX4_growth yX4_growth : Cond) ∈ lw_tbl := lw_rd_69 _ (List.mem_of_getElem? (i := 8) rfl)
theorem mw_552 : (.code yX4_growth cX4_growth 6 (some .int) : Cond) ∈ lw_tbl := lw_rd_69 _ (List.mem_of_getElem? (i := 9) rfl)
theorem mw_551 : (.methodLink RX4 39 yX7_of : Cond) ∈ lw_tbl := lw_rd_69 _ (List.mem_of_getElem? (i := 10) rfl)
theorem mw_546 : (.methodLink RX4 45 yX7_othersWith : Cond) ∈ lw_tbl := lw_rd_69 _ (List.mem_of_getElem? (i := 11) rfl)
theorem mw_548 : (.instanceMethod yX7_othersWith : Cond) ∈ lw_tbl := lw_rd_69 _ (List.mem_of_getElem? (i := 12) rfl)
theorem mw_547 : (.selects RX7 yX7_othersWith yX7_othersWith : Cond) ∈ lw_tbl := lw_rd_69 _ (List.mem_of_getElem? (i := 13) rfl)
theorem mw_550 : (.code yX7_othersWith cX7_othersWith 5 (some .int) : Cond) ∈ lw_tbl := lw_rd_69 _ (List.mem_of_getElem? (i := 14) rfl)
theorem mw_542 : (.methodLink RX4 49 yX4_held : Cond) ∈ lw_tbl := lw_rd_69 _ (List.mem_of_getElem? (i := 15) rfl)
theorem mw_543 : (.static yX4_held : Cond) ∈ lw_tbl := lw_rd_69 _ (List.mem_of_getElem? (i := 16) rfl)
theorem mw_544 : (.code yX4_held cX4_held 3 (some .int) : Cond) ∈ lw_tbl := lw_rd_69 _ (List.mem_of_getElem? (i := 17) rfl)
theorem mw_537 : (.methodLink RX4 53 yX7_day : Cond) ∈ lw_tbl := lw_rd_69 _ (List.mem_of_getElem? (i := 18) rfl)
theorem mw_523 : (.methodLink RX4 57 yX4_worth : Cond) ∈ lw_tbl := lw_rd_69 _ (List.mem_of_getElem? (i := 19) rfl)
def lw_rb_70 : List Cond := [.instanceMethod yX4_worth, .code yX4_worth cX4_worth 7 (some .int), .methodLink RX4 61 yX4_letterOf]
set_option maxRecDepth 100000 in
theorem lw_rc_70 : (List.drop 103 tables_1_4).take 3 = lw_rb_70 := rfl
theorem lw_rd_70 : ∀ w ∈ lw_rb_70, w ∈ lw_tbl := fun w h => lw_tm_4 w (List.mem_of_mem_drop (List.mem_of_mem_take (lw_rc_70 ▸ h)))
theorem mw_525 : (.instanceMethod yX4_worth : Cond) ∈ lw_tbl := lw_rd_70 _ (List.mem_of_getElem? (i := 0) rfl)
theorem mw_536 : (.code yX4_worth cX4_worth 7 (some .int) : Cond) ∈ lw_tbl := lw_rd_70 _ (List.mem_of_getElem? (i := 1) rfl)
theorem mw_526 : (.methodLink RX4 61 yX4_letterOf : Cond) ∈ lw_tbl := lw_rd_70 _ (List.mem_of_getElem? (i := 2) rfl)
def lw_rb_71 : List Cond := [.instanceMethod yX4_letterOf, .code yX4_letterOf cX4_letterOf 2 (some .int), .methodLink RX4 64 Lib.Math.max.name, .methodLink RX4 69 yX4_joined, .static yX4_joined, .code yX4_joined cX4_joined 5 (some .long), .constant RX4 73 (1000000), .methodLink RX7 97 yX7_answer]
set_option maxRecDepth 100000 in
theorem lw_rc_71 : (List.drop 107 tables_1_4).take 8 = lw_rb_71 := rfl
theorem lw_rd_71 : ∀ w ∈ lw_rb_71, w ∈ lw_tbl := fun w h => lw_tm_4 w (List.mem_of_mem_drop (List.mem_of_mem_take (lw_rc_71 ▸ h)))
theorem mw_528 : (.instanceMethod yX4_letterOf : Cond) ∈ lw_tbl := lw_rd_71 _ (List.mem_of_getElem? (i := 0) rfl)
theorem mw_529 : (.code yX4_letterOf cX4_letterOf 2 (some .int) : Cond) ∈ lw_tbl := lw_rd_71 _ (List.mem_of_getElem? (i := 1) rfl)
theorem mw_530 : (.methodLink RX4 64 Lib.Math.max.name : Cond) ∈ lw_tbl := lw_rd_71 _ (List.mem_of_getElem? (i := 2) rfl)
theorem mw_532 : (.methodLink RX4 69 yX4_joined : Cond) ∈ lw_tbl := lw_rd_71 _ (List.mem_of_getElem? (i := 3) rfl)
theorem mw_533 : (.static yX4_joined : Cond) ∈ lw_tbl := lw_rd_71 _ (List.mem_of_getElem? (i := 4) rfl)
theorem mw_534 : (.code yX4_joined cX4_joined 5 (some .long) : Cond) ∈ lw_tbl := lw_rd_71 _ (List.mem_of_getElem? (i := 5) rfl)
theorem mw_531 : (.constant RX4 73 (1000000) : Cond) ∈ lw_tbl := lw_rd_71 _ (List.mem_of_getElem? (i := 6) rfl)
theorem mw_685 : (.methodLink RX7 97 yX7_answer : Cond) ∈ lw_tbl := lw_rd_71 _ (List.mem_of_getElem? (i := 7) rfl)
def lw_rb_72 : List Cond := [.instanceMethod yX7_answer, .code yX7_answer cX7_answer 4 none, .methodLink RX7 62 Lib.Math.min.name, .methodLink RX7 104 Lib.Math.max.name, .methodLink RX7 101 yX7_unburden]
set_option maxRecDepth 100000 in
theorem lw_rc_72 : (List.drop 116 tables_1_4).take 5 = lw_rb_72 := rfl
theorem lw_rd_72 : ∀ w ∈ lw_rb_72, w ∈ lw_tbl := fun w h => lw_tm_4 w (List.mem_of_mem_drop (List.mem_of_mem_take (lw_rc_72 ▸ h)))
theorem mw_687 : (.instanceMethod yX7_answer : Cond) ∈ lw_tbl := lw_rd_72 _ (List.mem_of_getElem? (i := 0) rfl)
theorem mw_689 : (.code yX7_answer cX7_answer 4 none : Cond) ∈ lw_tbl := lw_rd_72 _ (List.mem_of_getElem? (i := 1) rfl)
theorem mw_700 : (.methodLink RX7 62 Lib.Math.min.name : Cond) ∈ lw_tbl := lw_rd_72 _ (List.mem_of_getElem? (i := 2) rfl)
theorem mw_688 : (.methodLink RX7 104 Lib.Math.max.name : Cond) ∈ lw_tbl := lw_rd_72 _ (List.mem_of_getElem? (i := 3) rfl)
theorem mw_691 : (.methodLink RX7 101 yX7_unburden : Cond) ∈ lw_tbl := lw_rd_72 _ (List.mem_of_getElem? (i := 4) rfl)
def lw_rb_73 : List Cond := [.instanceMethod yX7_unburden, .code yX7_unburden cX7_unburden 5 none, .methodLink RX7 67 yX7_loadOn, .methodLink RX7 107 yX7_largestOn]
set_option maxRecDepth 100000 in
theorem lw_rc_73 : (List.drop 122 tables_1_4).take 4 = lw_rb_73 := rfl
theorem lw_rd_73 : ∀ w ∈ lw_rb_73, w ∈ lw_tbl := fun w h => lw_tm_4 w (List.mem_of_mem_drop (List.mem_of_mem_take (lw_rc_73 ▸ h)))
theorem mw_693 : (.instanceMethod yX7_unburden : Cond) ∈ lw_tbl := lw_rd_73 _ (List.mem_of_getElem? (i := 0) rfl)
theorem mw_699 : (.code yX7_unburden cX7_unburden 5 none : Cond) ∈ lw_tbl := lw_rd_73 _ (List.mem_of_getElem? (i := 1) rfl)
theorem mw_698 : (.methodLink RX7 67 yX7_loadOn : Cond) ∈ lw_tbl := lw_rd_73 _ (List.mem_of_getElem? (i := 2) rfl)
theorem mw_694 : (.methodLink RX7 107 yX7_largestOn : Cond) ∈ lw_tbl := lw_rd_73 _ (List.mem_of_getElem? (i := 3) rfl)
def lw_rb_74 : List Cond := [.instanceMethod yX7_largestOn, .code yX7_largestOn cX7_largestOn 5 (some .int), .methodLink RX11 216 yX7_fell, .instanceMethod yX7_fell, .selects RX7 yX7_fell yX7_fell, .code yX7_fell cX7_fell 1 (some .int), .methodLink RX11 219 yX7_ended, .instanceMethod yX7_ended, .selects RX7 yX7_ended yX7_ended, .code yX7_ended cX7_ended 1 (some .int), .methodLink RX11 222 yX7_allSizes, .instanceMethod yX7_allSizes, .selects RX7 yX7_allSizes yX7_allSizes, .code yX7_allSizes cX7_allSizes 3 (some .int), .methodLink RX11 225 yX1_put, .instanceMethod yX1_put, .selects RX1 yX1_put yX1_put, .code yX1_put cX1_put 6 none, .methodLink RL 60 yX11_leave, .instanceMethod yX11_leave, .selects RX11 yX11_leave yX11_leave, .code yX11_leave cX11_leave 6 (some .int), .methodLink RX11 239 yX11_within, .methodLink RX11 243 yX7_freePlace, .instanceMethod yX7_freePlace, .selects RX7 yX7_freePlace yX7_freePlace, .code yX7_freePlace cX7_freePlace 2 (some .int), .methodLink RX11 246 yX7_takes, .instanceMethod yX7_takes, .selects RX7 yX7_takes yX7_takes, .code yX7_takes cX7_takes 4 (some .boolean), .methodLink RX11 250 yX7_put, .methodLink RL 65 yX11_call, .instanceMethod yX11_call, .selects RX11 yX11_call yX11_call, .code yX11_call cX11_call 2 (some .int), .methodLink RX11 169 yX7_has, .methodLink RX11 253 yX7_handOut, .instanceMethod yX7_handOut, .selects RX7 yX7_handOut yX7_handOut]
set_option maxRecDepth 100000 in
theorem lw_rc_74 : (List.drop 127 tables_1_4).take 40 = lw_rb_74 := rfl
theorem lw_rd_74 : ∀ w ∈ lw_rb_74, w ∈ lw_tbl := fun w h => lw_tm_4 w (List.mem_of_mem_drop (List.mem_of_mem_take (lw_rc_74 ▸ h)))
theorem mw_696 : (.instanceMethod yX7_largestOn : Cond) ∈ lw_tbl := lw_rd_74 _ (List.mem_of_getElem? (i := 0) rfl)
theorem mw_697 : (.code yX7_largestOn cX7_largestOn 5 (some .int) : Cond) ∈ lw_tbl := lw_rd_74 _ (List.mem_of_getElem? (i := 1) rfl)
theorem mw_676 : (.methodLink RX11 216 yX7_fell : Cond) ∈ lw_tbl := lw_rd_74 _ (List.mem_of_getElem? (i := 2) rfl)
theorem mw_678 : (.instanceMethod yX7_fell : Cond) ∈ lw_tbl := lw_rd_74 _ (List.mem_of_getElem? (i := 3) rfl)
theorem mw_677 : (.selects RX7 yX7_fell yX7_fell : Cond) ∈ lw_tbl := lw_rd_74 _ (List.mem_of_getElem? (i := 4) rfl)
theorem mw_679 : (.code yX7_fell cX7_fell 1 (some .int) : Cond) ∈ lw_tbl := lw_rd_74 _ (List.mem_of_getElem? (i := 5) rfl)
theorem mw_672 : (.methodLink RX11 219 yX7_ended : Cond) ∈ lw_tbl := lw_rd_74 _ (List.mem_of_getElem? (i := 6) rfl)
theorem mw_674 : (.instanceMethod yX7_ended : Cond) ∈ lw_tbl := lw_rd_74 _ (List.mem_of_getElem? (i := 7) rfl)
theorem mw_673 : (.selects RX7 yX7_ended yX7_ended : Cond) ∈ lw_tbl := lw_rd_74 _ (List.mem_of_getElem? (i := 8) rfl)
theorem mw_675 : (.code yX7_ended cX7_ended 1 (some .int) : Cond) ∈ lw_tbl := lw_rd_74 _ (List.mem_of_getElem? (i := 9) rfl)
theorem mw_668 : (.methodLink RX11 222 yX7_allSizes : Cond) ∈ lw_tbl := lw_rd_74 _ (List.mem_of_getElem? (i := 10) rfl)
theorem mw_670 : (.instanceMethod yX7_allSizes : Cond) ∈ lw_tbl := lw_rd_74 _ (List.mem_of_getElem? (i := 11) rfl)
theorem mw_669 : (.selects RX7 yX7_allSizes yX7_allSizes : Cond) ∈ lw_tbl := lw_rd_74 _ (List.mem_of_getElem? (i := 12) rfl)
theorem mw_671 : (.code yX7_allSizes cX7_allSizes 3 (some .int) : Cond) ∈ lw_tbl := lw_rd_74 _ (List.mem_of_getElem? (i := 13) rfl)
theorem mw_655 : (.methodLink RX11 225 yX1_put : Cond) ∈ lw_tbl := lw_rd_74 _ (List.mem_of_getElem? (i := 14) rfl)
theorem mw_657 : (.instanceMethod yX1_put : Cond) ∈ lw_tbl := lw_rd_74 _ (List.mem_of_getElem? (i := 15) rfl)
theorem mw_656 : (.selects RX1 yX1_put yX1_put : Cond) ∈ lw_tbl := lw_rd_74 _ (List.mem_of_getElem? (i := 16) rfl)
theorem mw_667 : (.code yX1_put cX1_put 6 none : Cond) ∈ lw_tbl := lw_rd_74 _ (List.mem_of_getElem? (i := 17) rfl)
theorem mw_790 : (.methodLink RL 60 yX11_leave : Cond) ∈ lw_tbl := lw_rd_74 _ (List.mem_of_getElem? (i := 18) rfl)
theorem mw_789 : (.instanceMethod yX11_leave : Cond) ∈ lw_tbl := lw_rd_74 _ (List.mem_of_getElem? (i := 19) rfl)
theorem mw_788 : (.selects RX11 yX11_leave yX11_leave : Cond) ∈ lw_tbl := lw_rd_74 _ (List.mem_of_getElem? (i := 20) rfl)
theorem mw_787 : (.code yX11_leave cX11_leave 6 (some .int) : Cond) ∈ lw_tbl := lw_rd_74 _ (List.mem_of_getElem? (i := 21) rfl)
theorem mw_786 : (.methodLink RX11 239 yX11_within : Cond) ∈ lw_tbl := lw_rd_74 _ (List.mem_of_getElem? (i := 22) rfl)
theorem mw_782 : (.methodLink RX11 243 yX7_freePlace : Cond) ∈ lw_tbl := lw_rd_74 _ (List.mem_of_getElem? (i := 23) rfl)
theorem mw_784 : (.instanceMethod yX7_freePlace : Cond) ∈ lw_tbl := lw_rd_74 _ (List.mem_of_getElem? (i := 24) rfl)
theorem mw_783 : (.selects RX7 yX7_freePlace yX7_freePlace : Cond) ∈ lw_tbl := lw_rd_74 _ (List.mem_of_getElem? (i := 25) rfl)
theorem mw_785 : (.code yX7_freePlace cX7_freePlace 2 (some .int) : Cond) ∈ lw_tbl := lw_rd_74 _ (List.mem_of_getElem? (i := 26) rfl)
theorem mw_778 : (.methodLink RX11 246 yX7_takes : Cond) ∈ lw_tbl := lw_rd_74 _ (List.mem_of_getElem? (i := 27) rfl)
theorem mw_780 : (.instanceMethod yX7_takes : Cond) ∈ lw_tbl := lw_rd_74 _ (List.mem_of_getElem? (i := 28) rfl)
theorem mw_779 : (.selects RX7 yX7_takes yX7_takes : Cond) ∈ lw_tbl := lw_rd_74 _ (List.mem_of_getElem? (i := 29) rfl)
theorem mw_781 : (.code yX7_takes cX7_takes 4 (some .boolean) : Cond) ∈ lw_tbl := lw_rd_74 _ (List.mem_of_getElem? (i := 30) rfl)
theorem mw_777 : (.methodLink RX11 250 yX7_put : Cond) ∈ lw_tbl := lw_rd_74 _ (List.mem_of_getElem? (i := 31) rfl)
theorem mw_826 : (.methodLink RL 65 yX11_call : Cond) ∈ lw_tbl := lw_rd_74 _ (List.mem_of_getElem? (i := 32) rfl)
theorem mw_825 : (.instanceMethod yX11_call : Cond) ∈ lw_tbl := lw_rd_74 _ (List.mem_of_getElem? (i := 33) rfl)
theorem mw_824 : (.selects RX11 yX11_call yX11_call : Cond) ∈ lw_tbl := lw_rd_74 _ (List.mem_of_getElem? (i := 34) rfl)
theorem mw_823 : (.code yX11_call cX11_call 2 (some .int) : Cond) ∈ lw_tbl := lw_rd_74 _ (List.mem_of_getElem? (i := 35) rfl)
theorem mw_559 : (.methodLink RX11 169 yX7_has : Cond) ∈ lw_tbl := lw_rd_74 _ (List.mem_of_getElem? (i := 36) rfl)
theorem mw_807 : (.methodLink RX11 253 yX7_handOut : Cond) ∈ lw_tbl := lw_rd_74 _ (List.mem_of_getElem? (i := 37) rfl)
theorem mw_809 : (.instanceMethod yX7_handOut : Cond) ∈ lw_tbl := lw_rd_74 _ (List.mem_of_getElem? (i := 38) rfl)
theorem mw_808 : (.selects RX7 yX7_handOut yX7_handOut : Cond) ∈ lw_tbl := lw_rd_74 _ (List.mem_of_getElem? (i := 39) rfl)
def lw_rb_75 : List Cond := [.code yX7_handOut cX7_handOut 4 (some .int), .methodLink RX7 80 yX7_due, .instanceMethod yX7_due, .selects RX7 yX7_due yX7_due, .code yX7_due cX7_due 3 (some .int), .methodLink RX7 84 yX7_gain, .instanceMethod yX7_gain, .selects RX7 yX7_gain yX7_gain, .code yX7_gain cX7_gain 2 none, .methodLink RX7 88 yX7_empty, .instanceMethod yX7_empty, .selects RX7 yX7_empty yX7_empty, .code yX7_empty cX7_empty 2 none, .methodLink RL 69 yX11_move, .instanceMethod yX11_move, .selects RX11 yX11_move yX11_move, .code yX11_move cX11_move 5 (some .int), .methodLink RX11 179 yX7_of, .methodLink RX11 257 yX7_set, .methodLink RX11 261 yX7_gain, .methodLink RL 73 yX11_hush, .instanceMethod yX11_hush, .selects RX11 yX11_hush yX11_hush, .code yX11_hush cX11_hush 2 (some .int), .methodLink RL 77 yX11_sell, .instanceMethod yX11_sell, .selects RX11 yX11_sell yX11_sell, .code yX11_sell cX11_sell 3 (some .int), .methodLink RX11 264 yX7_empty, .methodLink RL 81 yX11_give, .instanceMethod yX11_give, .selects RX11 yX11_give yX11_give, .code yX11_give cX11_give 2 (some .int), .methodLink RL 100 yX11_undo, .instanceMethod yX11_undo, .selects RX11 yX11_undo yX11_undo, .code yX11_undo cX11_undo 1 (some .int), .methodLink RX11 267 yX0_takeBack, .instanceMethod yX0_takeBack, .selects RX0 yX0_takeBack yX0_takeBack]
set_option maxRecDepth 100000 in
theorem lw_rc_75 : (List.drop 167 tables_1_4).take 40 = lw_rb_75 := rfl
theorem lw_rd_75 : ∀ w ∈ lw_rb_75, w ∈ lw_tbl := fun w h => lw_tm_4 w (List.mem_of_mem_drop (List.mem_of_mem_take (lw_rc_75 ▸ h)))
theorem mw_822 : (.code yX7_handOut cX7_handOut 4 (some .int) : Cond) ∈ lw_tbl := lw_rd_75 _ (List.mem_of_getElem? (i := 0) rfl)
theorem mw_818 : (.methodLink RX7 80 yX7_due : Cond) ∈ lw_tbl := lw_rd_75 _ (List.mem_of_getElem? (i := 1) rfl)
theorem mw_820 : (.instanceMethod yX7_due : Cond) ∈ lw_tbl := lw_rd_75 _ (List.mem_of_getElem? (i := 2) rfl)
theorem mw_819 : (.selects RX7 yX7_due yX7_due : Cond) ∈ lw_tbl := lw_rd_75 _ (List.mem_of_getElem? (i := 3) rfl)
theorem mw_821 : (.code yX7_due cX7_due 3 (some .int) : Cond) ∈ lw_tbl := lw_rd_75 _ (List.mem_of_getElem? (i := 4) rfl)
theorem mw_814 : (.methodLink RX7 84 yX7_gain : Cond) ∈ lw_tbl := lw_rd_75 _ (List.mem_of_getElem? (i := 5) rfl)
theorem mw_816 : (.instanceMethod yX7_gain : Cond) ∈ lw_tbl := lw_rd_75 _ (List.mem_of_getElem? (i := 6) rfl)
theorem mw_815 : (.selects RX7 yX7_gain yX7_gain : Cond) ∈ lw_tbl := lw_rd_75 _ (List.mem_of_getElem? (i := 7) rfl)
theorem mw_817 : (.code yX7_gain cX7_gain 2 none : Cond) ∈ lw_tbl := lw_rd_75 _ (List.mem_of_getElem? (i := 8) rfl)
theorem mw_810 : (.methodLink RX7 88 yX7_empty : Cond) ∈ lw_tbl := lw_rd_75 _ (List.mem_of_getElem? (i := 9) rfl)
theorem mw_812 : (.instanceMethod yX7_empty : Cond) ∈ lw_tbl := lw_rd_75 _ (List.mem_of_getElem? (i := 10) rfl)
theorem mw_811 : (.selects RX7 yX7_empty yX7_empty : Cond) ∈ lw_tbl := lw_rd_75 _ (List.mem_of_getElem? (i := 11) rfl)
theorem mw_813 : (.code yX7_empty cX7_empty 2 none : Cond) ∈ lw_tbl := lw_rd_75 _ (List.mem_of_getElem? (i := 12) rfl)
theorem mw_840 : (.methodLink RL 69 yX11_move : Cond) ∈ lw_tbl := lw_rd_75 _ (List.mem_of_getElem? (i := 13) rfl)
theorem mw_839 : (.instanceMethod yX11_move : Cond) ∈ lw_tbl := lw_rd_75 _ (List.mem_of_getElem? (i := 14) rfl)
theorem mw_838 : (.selects RX11 yX11_move yX11_move : Cond) ∈ lw_tbl := lw_rd_75 _ (List.mem_of_getElem? (i := 15) rfl)
theorem mw_837 : (.code yX11_move cX11_move 5 (some .int) : Cond) ∈ lw_tbl := lw_rd_75 _ (List.mem_of_getElem? (i := 16) rfl)
theorem mw_553 : (.methodLink RX11 179 yX7_of : Cond) ∈ lw_tbl := lw_rd_75 _ (List.mem_of_getElem? (i := 17) rfl)
theorem mw_836 : (.methodLink RX11 257 yX7_set : Cond) ∈ lw_tbl := lw_rd_75 _ (List.mem_of_getElem? (i := 18) rfl)
theorem mw_835 : (.methodLink RX11 261 yX7_gain : Cond) ∈ lw_tbl := lw_rd_75 _ (List.mem_of_getElem? (i := 19) rfl)
theorem mw_848 : (.methodLink RL 73 yX11_hush : Cond) ∈ lw_tbl := lw_rd_75 _ (List.mem_of_getElem? (i := 20) rfl)
theorem mw_847 : (.instanceMethod yX11_hush : Cond) ∈ lw_tbl := lw_rd_75 _ (List.mem_of_getElem? (i := 21) rfl)
theorem mw_846 : (.selects RX11 yX11_hush yX11_hush : Cond) ∈ lw_tbl := lw_rd_75 _ (List.mem_of_getElem? (i := 22) rfl)
theorem mw_845 : (.code yX11_hush cX11_hush 2 (some .int) : Cond) ∈ lw_tbl := lw_rd_75 _ (List.mem_of_getElem? (i := 23) rfl)
theorem mw_857 : (.methodLink RL 77 yX11_sell : Cond) ∈ lw_tbl := lw_rd_75 _ (List.mem_of_getElem? (i := 24) rfl)
theorem mw_856 : (.instanceMethod yX11_sell : Cond) ∈ lw_tbl := lw_rd_75 _ (List.mem_of_getElem? (i := 25) rfl)
theorem mw_855 : (.selects RX11 yX11_sell yX11_sell : Cond) ∈ lw_tbl := lw_rd_75 _ (List.mem_of_getElem? (i := 26) rfl)
theorem mw_854 : (.code yX11_sell cX11_sell 3 (some .int) : Cond) ∈ lw_tbl := lw_rd_75 _ (List.mem_of_getElem? (i := 27) rfl)
theorem mw_853 : (.methodLink RX11 264 yX7_empty : Cond) ∈ lw_tbl := lw_rd_75 _ (List.mem_of_getElem? (i := 28) rfl)
theorem mw_865 : (.methodLink RL 81 yX11_give : Cond) ∈ lw_tbl := lw_rd_75 _ (List.mem_of_getElem? (i := 29) rfl)
theorem mw_864 : (.instanceMethod yX11_give : Cond) ∈ lw_tbl := lw_rd_75 _ (List.mem_of_getElem? (i := 30) rfl)
theorem mw_863 : (.selects RX11 yX11_give yX11_give : Cond) ∈ lw_tbl := lw_rd_75 _ (List.mem_of_getElem? (i := 31) rfl)
theorem mw_862 : (.code yX11_give cX11_give 2 (some .int) : Cond) ∈ lw_tbl := lw_rd_75 _ (List.mem_of_getElem? (i := 32) rfl)
theorem mw_938 : (.methodLink RL 100 yX11_undo : Cond) ∈ lw_tbl := lw_rd_75 _ (List.mem_of_getElem? (i := 33) rfl)
theorem mw_937 : (.instanceMethod yX11_undo : Cond) ∈ lw_tbl := lw_rd_75 _ (List.mem_of_getElem? (i := 34) rfl)
theorem mw_936 : (.selects RX11 yX11_undo yX11_undo : Cond) ∈ lw_tbl := lw_rd_75 _ (List.mem_of_getElem? (i := 35) rfl)
theorem mw_935 : (.code yX11_undo cX11_undo 1 (some .int) : Cond) ∈ lw_tbl := lw_rd_75 _ (List.mem_of_getElem? (i := 36) rfl)
theorem mw_927 : (.methodLink RX11 267 yX0_takeBack : Cond) ∈ lw_tbl := lw_rd_75 _ (List.mem_of_getElem? (i := 37) rfl)
theorem mw_929 : (.instanceMethod yX0_takeBack : Cond) ∈ lw_tbl := lw_rd_75 _ (List.mem_of_getElem? (i := 38) rfl)
theorem mw_928 : (.selects RX0 yX0_takeBack yX0_takeBack : Cond) ∈ lw_tbl := lw_rd_75 _ (List.mem_of_getElem? (i := 39) rfl)
def lw_rb_76 : List Cond := [.code yX0_takeBack cX0_takeBack 2 (some .boolean), .methodLink RX0 32 yX7_copyFrom, .instanceMethod yX7_copyFrom, .selects RX7 yX7_copyFrom yX7_copyFrom, .code yX7_copyFrom cX7_copyFrom 3 none, .methodLink RL 85 yX11_trains, .instanceMethod yX11_trains, .selects RX11 yX11_trains yX11_trains, .code yX11_trains cX11_trains 2 (some .boolean), .methodLink RL 91 yX11_years, .instanceMethod yX11_years, .selects RX11 yX11_years yX11_years, .code yX11_years cX11_years 5 (some .int), .methodLink RX11 271 yX11_letTrainCome]
set_option maxRecDepth 100000 in
theorem lw_rc_76 : (List.drop 207 tables_1_4).take 14 = lw_rb_76 := rfl
theorem lw_rd_76 : ∀ w ∈ lw_rb_76, w ∈ lw_tbl := fun w h => lw_tm_4 w (List.mem_of_mem_drop (List.mem_of_mem_take (lw_rc_76 ▸ h)))
theorem mw_934 : (.code yX0_takeBack cX0_takeBack 2 (some .boolean) : Cond) ∈ lw_tbl := lw_rd_76 _ (List.mem_of_getElem? (i := 0) rfl)
theorem mw_930 : (.methodLink RX0 32 yX7_copyFrom : Cond) ∈ lw_tbl := lw_rd_76 _ (List.mem_of_getElem? (i := 1) rfl)
theorem mw_932 : (.instanceMethod yX7_copyFrom : Cond) ∈ lw_tbl := lw_rd_76 _ (List.mem_of_getElem? (i := 2) rfl)
theorem mw_931 : (.selects RX7 yX7_copyFrom yX7_copyFrom : Cond) ∈ lw_tbl := lw_rd_76 _ (List.mem_of_getElem? (i := 3) rfl)
theorem mw_933 : (.code yX7_copyFrom cX7_copyFrom 3 none : Cond) ∈ lw_tbl := lw_rd_76 _ (List.mem_of_getElem? (i := 4) rfl)
theorem mw_874 : (.methodLink RL 85 yX11_trains : Cond) ∈ lw_tbl := lw_rd_76 _ (List.mem_of_getElem? (i := 5) rfl)
theorem mw_873 : (.instanceMethod yX11_trains : Cond) ∈ lw_tbl := lw_rd_76 _ (List.mem_of_getElem? (i := 6) rfl)
theorem mw_872 : (.selects RX11 yX11_trains yX11_trains : Cond) ∈ lw_tbl := lw_rd_76 _ (List.mem_of_getElem? (i := 7) rfl)
theorem mw_871 : (.code yX11_trains cX11_trains 2 (some .boolean) : Cond) ∈ lw_tbl := lw_rd_76 _ (List.mem_of_getElem? (i := 8) rfl)
theorem mw_899 : (.methodLink RL 91 yX11_years : Cond) ∈ lw_tbl := lw_rd_76 _ (List.mem_of_getElem? (i := 9) rfl)
theorem mw_898 : (.instanceMethod yX11_years : Cond) ∈ lw_tbl := lw_rd_76 _ (List.mem_of_getElem? (i := 10) rfl)
theorem mw_897 : (.selects RX11 yX11_years yX11_years : Cond) ∈ lw_tbl := lw_rd_76 _ (List.mem_of_getElem? (i := 11) rfl)
theorem mw_896 : (.code yX11_years cX11_years 5 (some .int) : Cond) ∈ lw_tbl := lw_rd_76 _ (List.mem_of_getElem? (i := 12) rfl)
theorem mw_885 : (.methodLink RX11 271 yX11_letTrainCome : Cond) ∈ lw_tbl := lw_rd_76 _ (List.mem_of_getElem? (i := 13) rfl)
def lw_rb_77 : List Cond := [.instanceMethod yX11_letTrainCome, .code yX11_letTrainCome cX11_letTrainCome 6 none, .methodLink RX11 281 yX11_draw]
set_option maxRecDepth 100000 in
theorem lw_rc_77 : (List.drop 222 tables_1_4).take 3 = lw_rb_77 := rfl
theorem lw_rd_77 : ∀ w ∈ lw_rb_77, w ∈ lw_tbl := fun w h => lw_tm_4 w (List.mem_of_mem_drop (List.mem_of_mem_take (lw_rc_77 ▸ h)))
theorem mw_887 : (.instanceMethod yX11_letTrainCome : Cond) ∈ lw_tbl := lw_rd_77 _ (List.mem_of_getElem? (i := 0) rfl)
theorem mw_894 : (.code yX11_letTrainCome cX11_letTrainCome 6 none : Cond) ∈ lw_tbl := lw_rd_77 _ (List.mem_of_getElem? (i := 1) rfl)
theorem mw_888 : (.methodLink RX11 281 yX11_draw : Cond) ∈ lw_tbl := lw_rd_77 _ (List.mem_of_getElem? (i := 2) rfl)
def lw_rb_78 : List Cond := [.instanceMethod yX11_draw, .code yX11_draw cX11_draw 2 (some .int), .constantLong RX11 277 (6364136223846793005), .constantLong RX11 279 (1442695040888963407), .methodLink RX11 274 yX11_letSomebodyCall]
set_option maxRecDepth 100000 in
theorem lw_rc_78 : (List.drop 226 tables_1_4).take 5 = lw_rb_78 := rfl
theorem lw_rd_78 : ∀ w ∈ lw_rb_78, w ∈ lw_tbl := fun w h => lw_tm_4 w (List.mem_of_mem_drop (List.mem_of_mem_take (lw_rc_78 ▸ h)))
theorem mw_890 : (.instanceMethod yX11_draw : Cond) ∈ lw_tbl := lw_rd_78 _ (List.mem_of_getElem? (i := 0) rfl)
theorem mw_893 : (.code yX11_draw cX11_draw 2 (some .int) : Cond) ∈ lw_tbl := lw_rd_78 _ (List.mem_of_getElem? (i := 1) rfl)
theorem mw_892 : (.constantLong RX11 277 (6364136223846793005) : Cond) ∈ lw_tbl := lw_rd_78 _ (List.mem_of_getElem? (i := 2) rfl)
theorem mw_891 : (.constantLong RX11 279 (1442695040888963407) : Cond) ∈ lw_tbl := lw_rd_78 _ (List.mem_of_getElem? (i := 3) rfl)
theorem mw_881 : (.methodLink RX11 274 yX11_letSomebodyCall : Cond) ∈ lw_tbl := lw_rd_78 _ (List.mem_of_getElem? (i := 4) rfl)
def lw_rb_79 : List Cond := [.instanceMethod yX11_letSomebodyCall, .code yX11_letSomebodyCall cX11_letSomebodyCall 2 none, .methodLink RL 174 yX11_image, .instanceMethod yX11_image, .selects RX11 yX11_image yX11_image, .code yX11_image cX11_image 1 (some .int), .methodLink RX11 284 yX7_become, .instanceMethod yX7_become]
set_option maxRecDepth 100000 in
theorem lw_rc_79 : (List.drop 232 tables_1_4).take 8 = lw_rb_79 := rfl
theorem lw_rd_79 : ∀ w ∈ lw_rb_79, w ∈ lw_tbl := fun w h => lw_tm_4 w (List.mem_of_mem_drop (List.mem_of_mem_take (lw_rc_79 ▸ h)))
theorem mw_883 : (.instanceMethod yX11_letSomebodyCall : Cond) ∈ lw_tbl := lw_rd_79 _ (List.mem_of_getElem? (i := 0) rfl)
theorem mw_884 : (.code yX11_letSomebodyCall cX11_letSomebodyCall 2 none : Cond) ∈ lw_tbl := lw_rd_79 _ (List.mem_of_getElem? (i := 1) rfl)
theorem mw_1473 : (.methodLink RL 174 yX11_image : Cond) ∈ lw_tbl := lw_rd_79 _ (List.mem_of_getElem? (i := 2) rfl)
theorem mw_1472 : (.instanceMethod yX11_image : Cond) ∈ lw_tbl := lw_rd_79 _ (List.mem_of_getElem? (i := 3) rfl)
theorem mw_1471 : (.selects RX11 yX11_image yX11_image : Cond) ∈ lw_tbl := lw_rd_79 _ (List.mem_of_getElem? (i := 4) rfl)
theorem mw_1470 : (.code yX11_image cX11_image 1 (some .int) : Cond) ∈ lw_tbl := lw_rd_79 _ (List.mem_of_getElem? (i := 5) rfl)
theorem mw_1468 : (.methodLink RX11 284 yX7_become : Cond) ∈ lw_tbl := lw_rd_79 _ (List.mem_of_getElem? (i := 6) rfl)
theorem mw_970 : (.instanceMethod yX7_become : Cond) ∈ lw_tbl := lw_rd_79 _ (List.mem_of_getElem? (i := 7) rfl)
def lw_rb_80 : List Cond := [.selects RX7 yX7_become yX7_become, .code yX7_become cX7_become 2 none, .methodLink RX11 287 yX1_become, .instanceMethod yX1_become, .selects RX1 yX1_become yX1_become, .code yX1_become cX1_become 2 none, .methodLink RX1 31 arraycopyName, .methodLink RL 178 yX11_back, .instanceMethod yX11_back, .selects RX11 yX11_back yX11_back, .code yX11_back cX11_back 1 (some .int), .methodLink RL 109 yX11_large, .instanceMethod yX11_large, .selects RX11 yX11_large yX11_large, .code yX11_large cX11_large 3 (some .int), .methodLink RX11 290 yX2_sizeBehind, .instanceMethod yX2_sizeBehind, .selects RX2 yX2_sizeBehind yX2_sizeBehind, .code yX2_sizeBehind cX2_sizeBehind 5 (some .int), .methodLink RX2 47 yX7_become, .methodLink RX2 51 yX7_has, .methodLink RX2 55 yX7_pass, .methodLink RX2 59 yX7_of, .methodLink RL 113 yX11_ends, .instanceMethod yX11_ends, .selects RX11 yX11_ends yX11_ends, .code yX11_ends cX11_ends 2 (some .int), .methodLink RX11 294 yX2_daysToEnd, .instanceMethod yX2_daysToEnd, .selects RX2 yX2_daysToEnd yX2_daysToEnd, .code yX2_daysToEnd cX2_daysToEnd 4 (some .int), .methodLink RL 117 yX11_falls, .instanceMethod yX11_falls, .selects RX11 yX11_falls yX11_falls, .code yX11_falls cX11_falls 2 (some .int), .methodLink RX11 297 yX2_daysToFall, .instanceMethod yX2_daysToFall, .selects RX2 yX2_daysToFall yX2_daysToFall, .code yX2_daysToFall cX2_daysToFall 4 (some .int), .methodLink RX2 63 yX7_fell]
set_option maxRecDepth 100000 in
theorem lw_rc_80 : (List.drop 0 tables_1_5).take 40 = lw_rb_80 := rfl
theorem lw_rd_80 : ∀ w ∈ lw_rb_80, w ∈ lw_tbl := fun w h => lw_tm_5 w (List.mem_of_mem_drop (List.mem_of_mem_take (lw_rc_80 ▸ h)))
theorem mw_969 : (.selects RX7 yX7_become yX7_become : Cond) ∈ lw_tbl := lw_rd_80 _ (List.mem_of_getElem? (i := 0) rfl)
theorem mw_971 : (.code yX7_become cX7_become 2 none : Cond) ∈ lw_tbl := lw_rd_80 _ (List.mem_of_getElem? (i := 1) rfl)
theorem mw_1462 : (.methodLink RX11 287 yX1_become : Cond) ∈ lw_tbl := lw_rd_80 _ (List.mem_of_getElem? (i := 2) rfl)
theorem mw_1464 : (.instanceMethod yX1_become : Cond) ∈ lw_tbl := lw_rd_80 _ (List.mem_of_getElem? (i := 3) rfl)
theorem mw_1463 : (.selects RX1 yX1_become yX1_become : Cond) ∈ lw_tbl := lw_rd_80 _ (List.mem_of_getElem? (i := 4) rfl)
theorem mw_1466 : (.code yX1_become cX1_become 2 none : Cond) ∈ lw_tbl := lw_rd_80 _ (List.mem_of_getElem? (i := 5) rfl)
theorem mw_1465 : (.methodLink RX1 31 arraycopyName : Cond) ∈ lw_tbl := lw_rd_80 _ (List.mem_of_getElem? (i := 6) rfl)
theorem mw_1482 : (.methodLink RL 178 yX11_back : Cond) ∈ lw_tbl := lw_rd_80 _ (List.mem_of_getElem? (i := 7) rfl)
theorem mw_1481 : (.instanceMethod yX11_back : Cond) ∈ lw_tbl := lw_rd_80 _ (List.mem_of_getElem? (i := 8) rfl)
theorem mw_1480 : (.selects RX11 yX11_back yX11_back : Cond) ∈ lw_tbl := lw_rd_80 _ (List.mem_of_getElem? (i := 9) rfl)
theorem mw_1479 : (.code yX11_back cX11_back 1 (some .int) : Cond) ∈ lw_tbl := lw_rd_80 _ (List.mem_of_getElem? (i := 10) rfl)
theorem mw_978 : (.methodLink RL 109 yX11_large : Cond) ∈ lw_tbl := lw_rd_80 _ (List.mem_of_getElem? (i := 11) rfl)
theorem mw_977 : (.instanceMethod yX11_large : Cond) ∈ lw_tbl := lw_rd_80 _ (List.mem_of_getElem? (i := 12) rfl)
theorem mw_976 : (.selects RX11 yX11_large yX11_large : Cond) ∈ lw_tbl := lw_rd_80 _ (List.mem_of_getElem? (i := 13) rfl)
theorem mw_975 : (.code yX11_large cX11_large 3 (some .int) : Cond) ∈ lw_tbl := lw_rd_80 _ (List.mem_of_getElem? (i := 14) rfl)
theorem mw_959 : (.methodLink RX11 290 yX2_sizeBehind : Cond) ∈ lw_tbl := lw_rd_80 _ (List.mem_of_getElem? (i := 15) rfl)
theorem mw_961 : (.instanceMethod yX2_sizeBehind : Cond) ∈ lw_tbl := lw_rd_80 _ (List.mem_of_getElem? (i := 16) rfl)
theorem mw_960 : (.selects RX2 yX2_sizeBehind yX2_sizeBehind : Cond) ∈ lw_tbl := lw_rd_80 _ (List.mem_of_getElem? (i := 17) rfl)
theorem mw_973 : (.code yX2_sizeBehind cX2_sizeBehind 5 (some .int) : Cond) ∈ lw_tbl := lw_rd_80 _ (List.mem_of_getElem? (i := 18) rfl)
theorem mw_968 : (.methodLink RX2 47 yX7_become : Cond) ∈ lw_tbl := lw_rd_80 _ (List.mem_of_getElem? (i := 19) rfl)
theorem mw_966 : (.methodLink RX2 51 yX7_has : Cond) ∈ lw_tbl := lw_rd_80 _ (List.mem_of_getElem? (i := 20) rfl)
theorem mw_963 : (.methodLink RX2 55 yX7_pass : Cond) ∈ lw_tbl := lw_rd_80 _ (List.mem_of_getElem? (i := 21) rfl)
theorem mw_967 : (.methodLink RX2 59 yX7_of : Cond) ∈ lw_tbl := lw_rd_80 _ (List.mem_of_getElem? (i := 22) rfl)
theorem mw_1003 : (.methodLink RL 113 yX11_ends : Cond) ∈ lw_tbl := lw_rd_80 _ (List.mem_of_getElem? (i := 23) rfl)
theorem mw_1002 : (.instanceMethod yX11_ends : Cond) ∈ lw_tbl := lw_rd_80 _ (List.mem_of_getElem? (i := 24) rfl)
theorem mw_1001 : (.selects RX11 yX11_ends yX11_ends : Cond) ∈ lw_tbl := lw_rd_80 _ (List.mem_of_getElem? (i := 25) rfl)
theorem mw_1000 : (.code yX11_ends cX11_ends 2 (some .int) : Cond) ∈ lw_tbl := lw_rd_80 _ (List.mem_of_getElem? (i := 26) rfl)
theorem mw_996 : (.methodLink RX11 294 yX2_daysToEnd : Cond) ∈ lw_tbl := lw_rd_80 _ (List.mem_of_getElem? (i := 27) rfl)
theorem mw_998 : (.instanceMethod yX2_daysToEnd : Cond) ∈ lw_tbl := lw_rd_80 _ (List.mem_of_getElem? (i := 28) rfl)
theorem mw_997 : (.selects RX2 yX2_daysToEnd yX2_daysToEnd : Cond) ∈ lw_tbl := lw_rd_80 _ (List.mem_of_getElem? (i := 29) rfl)
theorem mw_999 : (.code yX2_daysToEnd cX2_daysToEnd 4 (some .int) : Cond) ∈ lw_tbl := lw_rd_80 _ (List.mem_of_getElem? (i := 30) rfl)
theorem mw_1020 : (.methodLink RL 117 yX11_falls : Cond) ∈ lw_tbl := lw_rd_80 _ (List.mem_of_getElem? (i := 31) rfl)
theorem mw_1019 : (.instanceMethod yX11_falls : Cond) ∈ lw_tbl := lw_rd_80 _ (List.mem_of_getElem? (i := 32) rfl)
theorem mw_1018 : (.selects RX11 yX11_falls yX11_falls : Cond) ∈ lw_tbl := lw_rd_80 _ (List.mem_of_getElem? (i := 33) rfl)
theorem mw_1017 : (.code yX11_falls cX11_falls 2 (some .int) : Cond) ∈ lw_tbl := lw_rd_80 _ (List.mem_of_getElem? (i := 34) rfl)
theorem mw_1012 : (.methodLink RX11 297 yX2_daysToFall : Cond) ∈ lw_tbl := lw_rd_80 _ (List.mem_of_getElem? (i := 35) rfl)
theorem mw_1014 : (.instanceMethod yX2_daysToFall : Cond) ∈ lw_tbl := lw_rd_80 _ (List.mem_of_getElem? (i := 36) rfl)
theorem mw_1013 : (.selects RX2 yX2_daysToFall yX2_daysToFall : Cond) ∈ lw_tbl := lw_rd_80 _ (List.mem_of_getElem? (i := 37) rfl)
theorem mw_1016 : (.code yX2_daysToFall cX2_daysToFall 4 (some .int) : Cond) ∈ lw_tbl := lw_rd_80 _ (List.mem_of_getElem? (i := 38) rfl)
theorem mw_1015 : (.methodLink RX2 63 yX7_fell : Cond) ∈ lw_tbl := lw_rd_80 _ (List.mem_of_getElem? (i := 39) rfl)
def lw_rb_81 : List Cond := [.methodLink RL 121 yX11_shelved, .instanceMethod yX11_shelved, .selects RX11 yX11_shelved yX11_shelved, .code yX11_shelved cX11_shelved 3 (some .int), .methodLink RX11 300 yX8_gather, .instanceMethod yX8_gather, .selects RX8 yX8_gather yX8_gather, .code yX8_gather cX8_gather 3 none, .methodLink RX8 41 yX7_has, .methodLink RX8 47 yX7_of, .methodLink RX8 51 yX7_circleOf, .instanceMethod yX7_circleOf, .selects RX7 yX7_circleOf yX7_circleOf, .code yX7_circleOf cX7_circleOf 4 (some .int), .methodLink RX7 113 yX7_setOff, .instanceMethod yX7_setOff, .selects RX7 yX7_setOff yX7_setOff, .code yX7_setOff cX7_setOff 3 (some .boolean), .methodLink RX7 110 Lib.Math.abs.name, .static Lib.Math.abs.name, .code Lib.Math.abs.name Lib.Math.abs.code 1 (some .int), .methodLink RX11 303 yX8_fewestByRoom, .instanceMethod yX8_fewestByRoom, .selects RX8 yX8_fewestByRoom yX8_fewestByRoom, .code yX8_fewestByRoom cX8_fewestByRoom 3 (some .int), .methodLink RX8 55 yX8_fewest]
set_option maxRecDepth 100000 in
theorem lw_rc_81 : (List.drop 40 tables_1_5).take 26 = lw_rb_81 := rfl
theorem lw_rd_81 : ∀ w ∈ lw_rb_81, w ∈ lw_tbl := fun w h => lw_tm_5 w (List.mem_of_mem_drop (List.mem_of_mem_take (lw_rc_81 ▸ h)))
theorem mw_1078 : (.methodLink RL 121 yX11_shelved : Cond) ∈ lw_tbl := lw_rd_81 _ (List.mem_of_getElem? (i := 0) rfl)
theorem mw_1077 : (.instanceMethod yX11_shelved : Cond) ∈ lw_tbl := lw_rd_81 _ (List.mem_of_getElem? (i := 1) rfl)
theorem mw_1076 : (.selects RX11 yX11_shelved yX11_shelved : Cond) ∈ lw_tbl := lw_rd_81 _ (List.mem_of_getElem? (i := 2) rfl)
theorem mw_1075 : (.code yX11_shelved cX11_shelved 3 (some .int) : Cond) ∈ lw_tbl := lw_rd_81 _ (List.mem_of_getElem? (i := 3) rfl)
theorem mw_1052 : (.methodLink RX11 300 yX8_gather : Cond) ∈ lw_tbl := lw_rd_81 _ (List.mem_of_getElem? (i := 4) rfl)
theorem mw_1054 : (.instanceMethod yX8_gather : Cond) ∈ lw_tbl := lw_rd_81 _ (List.mem_of_getElem? (i := 5) rfl)
theorem mw_1053 : (.selects RX8 yX8_gather yX8_gather : Cond) ∈ lw_tbl := lw_rd_81 _ (List.mem_of_getElem? (i := 6) rfl)
theorem mw_1073 : (.code yX8_gather cX8_gather 3 none : Cond) ∈ lw_tbl := lw_rd_81 _ (List.mem_of_getElem? (i := 7) rfl)
theorem mw_1071 : (.methodLink RX8 41 yX7_has : Cond) ∈ lw_tbl := lw_rd_81 _ (List.mem_of_getElem? (i := 8) rfl)
theorem mw_1068 : (.methodLink RX8 47 yX7_of : Cond) ∈ lw_tbl := lw_rd_81 _ (List.mem_of_getElem? (i := 9) rfl)
theorem mw_1056 : (.methodLink RX8 51 yX7_circleOf : Cond) ∈ lw_tbl := lw_rd_81 _ (List.mem_of_getElem? (i := 10) rfl)
theorem mw_1058 : (.instanceMethod yX7_circleOf : Cond) ∈ lw_tbl := lw_rd_81 _ (List.mem_of_getElem? (i := 11) rfl)
theorem mw_1057 : (.selects RX7 yX7_circleOf yX7_circleOf : Cond) ∈ lw_tbl := lw_rd_81 _ (List.mem_of_getElem? (i := 12) rfl)
theorem mw_1066 : (.code yX7_circleOf cX7_circleOf 4 (some .int) : Cond) ∈ lw_tbl := lw_rd_81 _ (List.mem_of_getElem? (i := 13) rfl)
theorem mw_1059 : (.methodLink RX7 113 yX7_setOff : Cond) ∈ lw_tbl := lw_rd_81 _ (List.mem_of_getElem? (i := 14) rfl)
theorem mw_1061 : (.instanceMethod yX7_setOff : Cond) ∈ lw_tbl := lw_rd_81 _ (List.mem_of_getElem? (i := 15) rfl)
theorem mw_1060 : (.selects RX7 yX7_setOff yX7_setOff : Cond) ∈ lw_tbl := lw_rd_81 _ (List.mem_of_getElem? (i := 16) rfl)
theorem mw_1065 : (.code yX7_setOff cX7_setOff 3 (some .boolean) : Cond) ∈ lw_tbl := lw_rd_81 _ (List.mem_of_getElem? (i := 17) rfl)
theorem mw_1064 : (.methodLink RX7 110 Lib.Math.abs.name : Cond) ∈ lw_tbl := lw_rd_81 _ (List.mem_of_getElem? (i := 18) rfl)
theorem mw_1063 : (.static Lib.Math.abs.name : Cond) ∈ lw_tbl := lw_rd_81 _ (List.mem_of_getElem? (i := 19) rfl)
theorem mw_1062 : (.code Lib.Math.abs.name Lib.Math.abs.code 1 (some .int) : Cond) ∈ lw_tbl := lw_rd_81 _ (List.mem_of_getElem? (i := 20) rfl)
theorem mw_1029 : (.methodLink RX11 303 yX8_fewestByRoom : Cond) ∈ lw_tbl := lw_rd_81 _ (List.mem_of_getElem? (i := 21) rfl)
theorem mw_1031 : (.instanceMethod yX8_fewestByRoom : Cond) ∈ lw_tbl := lw_rd_81 _ (List.mem_of_getElem? (i := 22) rfl)
theorem mw_1030 : (.selects RX8 yX8_fewestByRoom yX8_fewestByRoom : Cond) ∈ lw_tbl := lw_rd_81 _ (List.mem_of_getElem? (i := 23) rfl)
theorem mw_1051 : (.code yX8_fewestByRoom cX8_fewestByRoom 3 (some .int) : Cond) ∈ lw_tbl := lw_rd_81 _ (List.mem_of_getElem? (i := 24) rfl)
theorem mw_1032 : (.methodLink RX8 55 yX8_fewest : Cond) ∈ lw_tbl := lw_rd_81 _ (List.mem_of_getElem? (i := 25) rfl)
def lw_rb_82 : List Cond := [.instanceMethod yX8_fewest, .code yX8_fewest cX8_fewest 3 (some .int), .methodLink RX8 58 yJ7_fill_53178, .methodLink RX8 64 yX8_place]
set_option maxRecDepth 100000 in
theorem lw_rc_82 : (List.drop 67 tables_1_5).take 4 = lw_rb_82 := rfl
theorem lw_rd_82 : ∀ w ∈ lw_rb_82, w ∈ lw_tbl := fun w h => lw_tm_5 w (List.mem_of_mem_drop (List.mem_of_mem_take (lw_rc_82 ▸ h)))
theorem mw_1034 : (.instanceMethod yX8_fewest : Cond) ∈ lw_tbl := lw_rd_82 _ (List.mem_of_getElem? (i := 0) rfl)
theorem mw_1048 : (.code yX8_fewest cX8_fewest 3 (some .int) : Cond) ∈ lw_tbl := lw_rd_82 _ (List.mem_of_getElem? (i := 1) rfl)
theorem mw_1046 : (.methodLink RX8 58 yJ7_fill_53178 : Cond) ∈ lw_tbl := lw_rd_82 _ (List.mem_of_getElem? (i := 2) rfl)
theorem mw_1035 : (.methodLink RX8 64 yX8_place : Cond) ∈ lw_tbl := lw_rd_82 _ (List.mem_of_getElem? (i := 3) rfl)
def lw_rb_83 : List Cond := [.instanceMethod yX8_place, .code yX8_place cX8_place 5 (some .boolean), .methodLink RX8 68 yX8_standsWell]
set_option maxRecDepth 100000 in
theorem lw_rc_83 : (List.drop 72 tables_1_5).take 3 = lw_rb_83 := rfl
theorem lw_rd_83 : ∀ w ∈ lw_rb_83, w ∈ lw_tbl := fun w h => lw_tm_5 w (List.mem_of_mem_drop (List.mem_of_mem_take (lw_rc_83 ▸ h)))
theorem mw_1037 : (.instanceMethod yX8_place : Cond) ∈ lw_tbl := lw_rd_83 _ (List.mem_of_getElem? (i := 0) rfl)
theorem mw_1044 : (.code yX8_place cX8_place 5 (some .boolean) : Cond) ∈ lw_tbl := lw_rd_83 _ (List.mem_of_getElem? (i := 1) rfl)
theorem mw_1040 : (.methodLink RX8 68 yX8_standsWell : Cond) ∈ lw_tbl := lw_rd_83 _ (List.mem_of_getElem? (i := 2) rfl)
def lw_rb_84 : List Cond := [.instanceMethod yX8_standsWell, .code yX8_standsWell cX8_standsWell 3 (some .boolean), .methodLink RX8 72 Lib.Math.max.name, .methodLink RX11 306 yX8_row, .instanceMethod yX8_row, .selects RX8 yX8_row yX8_row, .code yX8_row cX8_row 3 (some .int), .methodLink RL 125 yX11_sets, .instanceMethod yX11_sets, .selects RX11 yX11_sets yX11_sets, .code yX11_sets cX11_sets 3 (some .int), .methodLink RX11 309 yX7_setOff, .methodLink RL 129 yX11_apart, .instanceMethod yX11_apart, .selects RX11 yX11_apart yX11_apart, .code yX11_apart cX11_apart 3 (some .int), .methodLink RX11 313 yX8_fewestByPeace, .instanceMethod yX8_fewestByPeace, .selects RX8 yX8_fewestByPeace yX8_fewestByPeace, .code yX8_fewestByPeace cX8_fewestByPeace 1 (some .int), .methodLink RL 133 yX11_roar, .instanceMethod yX11_roar, .selects RX11 yX11_roar yX11_roar, .code yX11_roar cX11_roar 1 (some .int), .methodLink RX11 316 yX7_loudestCrowd, .instanceMethod yX7_loudestCrowd, .selects RX7 yX7_loudestCrowd yX7_loudestCrowd, .code yX7_loudestCrowd cX7_loudestCrowd 3 (some .int), .methodLink RX7 117 yX7_circleOf, .methodLink RX7 120 yJ6_bitCount_0f7a4, .methodLink RX7 125 yX7_isCrowd]
set_option maxRecDepth 100000 in
theorem lw_rc_84 : (List.drop 76 tables_1_5).take 31 = lw_rb_84 := rfl
theorem lw_rd_84 : ∀ w ∈ lw_rb_84, w ∈ lw_tbl := fun w h => lw_tm_5 w (List.mem_of_mem_drop (List.mem_of_mem_take (lw_rc_84 ▸ h)))
theorem mw_1042 : (.instanceMethod yX8_standsWell : Cond) ∈ lw_tbl := lw_rd_84 _ (List.mem_of_getElem? (i := 0) rfl)
theorem mw_1043 : (.code yX8_standsWell cX8_standsWell 3 (some .boolean) : Cond) ∈ lw_tbl := lw_rd_84 _ (List.mem_of_getElem? (i := 1) rfl)
theorem mw_1038 : (.methodLink RX8 72 Lib.Math.max.name : Cond) ∈ lw_tbl := lw_rd_84 _ (List.mem_of_getElem? (i := 2) rfl)
theorem mw_1025 : (.methodLink RX11 306 yX8_row : Cond) ∈ lw_tbl := lw_rd_84 _ (List.mem_of_getElem? (i := 3) rfl)
theorem mw_1027 : (.instanceMethod yX8_row : Cond) ∈ lw_tbl := lw_rd_84 _ (List.mem_of_getElem? (i := 4) rfl)
theorem mw_1026 : (.selects RX8 yX8_row yX8_row : Cond) ∈ lw_tbl := lw_rd_84 _ (List.mem_of_getElem? (i := 5) rfl)
theorem mw_1028 : (.code yX8_row cX8_row 3 (some .int) : Cond) ∈ lw_tbl := lw_rd_84 _ (List.mem_of_getElem? (i := 6) rfl)
theorem mw_1116 : (.methodLink RL 125 yX11_sets : Cond) ∈ lw_tbl := lw_rd_84 _ (List.mem_of_getElem? (i := 7) rfl)
theorem mw_1115 : (.instanceMethod yX11_sets : Cond) ∈ lw_tbl := lw_rd_84 _ (List.mem_of_getElem? (i := 8) rfl)
theorem mw_1114 : (.selects RX11 yX11_sets yX11_sets : Cond) ∈ lw_tbl := lw_rd_84 _ (List.mem_of_getElem? (i := 9) rfl)
theorem mw_1113 : (.code yX11_sets cX11_sets 3 (some .int) : Cond) ∈ lw_tbl := lw_rd_84 _ (List.mem_of_getElem? (i := 10) rfl)
theorem mw_1112 : (.methodLink RX11 309 yX7_setOff : Cond) ∈ lw_tbl := lw_rd_84 _ (List.mem_of_getElem? (i := 11) rfl)
theorem mw_1128 : (.methodLink RL 129 yX11_apart : Cond) ∈ lw_tbl := lw_rd_84 _ (List.mem_of_getElem? (i := 12) rfl)
theorem mw_1127 : (.instanceMethod yX11_apart : Cond) ∈ lw_tbl := lw_rd_84 _ (List.mem_of_getElem? (i := 13) rfl)
theorem mw_1126 : (.selects RX11 yX11_apart yX11_apart : Cond) ∈ lw_tbl := lw_rd_84 _ (List.mem_of_getElem? (i := 14) rfl)
theorem mw_1125 : (.code yX11_apart cX11_apart 3 (some .int) : Cond) ∈ lw_tbl := lw_rd_84 _ (List.mem_of_getElem? (i := 15) rfl)
theorem mw_1121 : (.methodLink RX11 313 yX8_fewestByPeace : Cond) ∈ lw_tbl := lw_rd_84 _ (List.mem_of_getElem? (i := 16) rfl)
theorem mw_1123 : (.instanceMethod yX8_fewestByPeace : Cond) ∈ lw_tbl := lw_rd_84 _ (List.mem_of_getElem? (i := 17) rfl)
theorem mw_1122 : (.selects RX8 yX8_fewestByPeace yX8_fewestByPeace : Cond) ∈ lw_tbl := lw_rd_84 _ (List.mem_of_getElem? (i := 18) rfl)
theorem mw_1124 : (.code yX8_fewestByPeace cX8_fewestByPeace 1 (some .int) : Cond) ∈ lw_tbl := lw_rd_84 _ (List.mem_of_getElem? (i := 19) rfl)
theorem mw_1152 : (.methodLink RL 133 yX11_roar : Cond) ∈ lw_tbl := lw_rd_84 _ (List.mem_of_getElem? (i := 20) rfl)
theorem mw_1151 : (.instanceMethod yX11_roar : Cond) ∈ lw_tbl := lw_rd_84 _ (List.mem_of_getElem? (i := 21) rfl)
theorem mw_1150 : (.selects RX11 yX11_roar yX11_roar : Cond) ∈ lw_tbl := lw_rd_84 _ (List.mem_of_getElem? (i := 22) rfl)
theorem mw_1149 : (.code yX11_roar cX11_roar 1 (some .int) : Cond) ∈ lw_tbl := lw_rd_84 _ (List.mem_of_getElem? (i := 23) rfl)
theorem mw_1133 : (.methodLink RX11 316 yX7_loudestCrowd : Cond) ∈ lw_tbl := lw_rd_84 _ (List.mem_of_getElem? (i := 24) rfl)
theorem mw_1135 : (.instanceMethod yX7_loudestCrowd : Cond) ∈ lw_tbl := lw_rd_84 _ (List.mem_of_getElem? (i := 25) rfl)
theorem mw_1134 : (.selects RX7 yX7_loudestCrowd yX7_loudestCrowd : Cond) ∈ lw_tbl := lw_rd_84 _ (List.mem_of_getElem? (i := 26) rfl)
theorem mw_1148 : (.code yX7_loudestCrowd cX7_loudestCrowd 3 (some .int) : Cond) ∈ lw_tbl := lw_rd_84 _ (List.mem_of_getElem? (i := 27) rfl)
theorem mw_1136 : (.methodLink RX7 117 yX7_circleOf : Cond) ∈ lw_tbl := lw_rd_84 _ (List.mem_of_getElem? (i := 28) rfl)
theorem mw_1141 : (.methodLink RX7 120 yJ6_bitCount_0f7a4 : Cond) ∈ lw_tbl := lw_rd_84 _ (List.mem_of_getElem? (i := 29) rfl)
theorem mw_1137 : (.methodLink RX7 125 yX7_isCrowd : Cond) ∈ lw_tbl := lw_rd_84 _ (List.mem_of_getElem? (i := 30) rfl)
def lw_rb_85 : List Cond := [.instanceMethod yX7_isCrowd, .code yX7_isCrowd cX7_isCrowd 3 (some .boolean), .methodLink RL 137 yX11_seen, .instanceMethod yX11_seen, .selects RX11 yX11_seen yX11_seen, .code yX11_seen cX11_seen 5 (some .int), .methodLink RX11 319 yX5_hasTold, .instanceMethod yX5_hasTold, .selects RX5 yX5_hasTold yX5_hasTold, .code yX5_hasTold cX5_hasTold 2 (some .boolean), .methodLink RX11 322 yX9_add, .instanceMethod yX9_add, .selects RX9 yX9_add yX9_add, .code yX9_add cX9_add 5 (some .int), .methodLink RL 142 yX11_sizes, .instanceMethod yX11_sizes, .selects RX11 yX11_sizes yX11_sizes, .code yX11_sizes cX11_sizes 3 (some .int), .methodLink RX11 325 yX9_possible, .instanceMethod yX9_possible, .selects RX9 yX9_possible yX9_possible, .code yX9_possible cX9_possible 4 (some .int), .methodLink RX9 47 yX9_gatherFitting]
set_option maxRecDepth 100000 in
theorem lw_rc_85 : (List.drop 108 tables_1_5).take 23 = lw_rb_85 := rfl
theorem lw_rd_85 : ∀ w ∈ lw_rb_85, w ∈ lw_tbl := fun w h => lw_tm_5 w (List.mem_of_mem_drop (List.mem_of_mem_take (lw_rc_85 ▸ h)))
theorem mw_1139 : (.instanceMethod yX7_isCrowd : Cond) ∈ lw_tbl := lw_rd_85 _ (List.mem_of_getElem? (i := 0) rfl)
theorem mw_1140 : (.code yX7_isCrowd cX7_isCrowd 3 (some .boolean) : Cond) ∈ lw_tbl := lw_rd_85 _ (List.mem_of_getElem? (i := 1) rfl)
theorem mw_1177 : (.methodLink RL 137 yX11_seen : Cond) ∈ lw_tbl := lw_rd_85 _ (List.mem_of_getElem? (i := 2) rfl)
theorem mw_1176 : (.instanceMethod yX11_seen : Cond) ∈ lw_tbl := lw_rd_85 _ (List.mem_of_getElem? (i := 3) rfl)
theorem mw_1175 : (.selects RX11 yX11_seen yX11_seen : Cond) ∈ lw_tbl := lw_rd_85 _ (List.mem_of_getElem? (i := 4) rfl)
theorem mw_1174 : (.code yX11_seen cX11_seen 5 (some .int) : Cond) ∈ lw_tbl := lw_rd_85 _ (List.mem_of_getElem? (i := 5) rfl)
theorem mw_1170 : (.methodLink RX11 319 yX5_hasTold : Cond) ∈ lw_tbl := lw_rd_85 _ (List.mem_of_getElem? (i := 6) rfl)
theorem mw_1172 : (.instanceMethod yX5_hasTold : Cond) ∈ lw_tbl := lw_rd_85 _ (List.mem_of_getElem? (i := 7) rfl)
theorem mw_1171 : (.selects RX5 yX5_hasTold yX5_hasTold : Cond) ∈ lw_tbl := lw_rd_85 _ (List.mem_of_getElem? (i := 8) rfl)
theorem mw_1173 : (.code yX5_hasTold cX5_hasTold 2 (some .boolean) : Cond) ∈ lw_tbl := lw_rd_85 _ (List.mem_of_getElem? (i := 9) rfl)
theorem mw_1162 : (.methodLink RX11 322 yX9_add : Cond) ∈ lw_tbl := lw_rd_85 _ (List.mem_of_getElem? (i := 10) rfl)
theorem mw_1164 : (.instanceMethod yX9_add : Cond) ∈ lw_tbl := lw_rd_85 _ (List.mem_of_getElem? (i := 11) rfl)
theorem mw_1163 : (.selects RX9 yX9_add yX9_add : Cond) ∈ lw_tbl := lw_rd_85 _ (List.mem_of_getElem? (i := 12) rfl)
theorem mw_1169 : (.code yX9_add cX9_add 5 (some .int) : Cond) ∈ lw_tbl := lw_rd_85 _ (List.mem_of_getElem? (i := 13) rfl)
theorem mw_1227 : (.methodLink RL 142 yX11_sizes : Cond) ∈ lw_tbl := lw_rd_85 _ (List.mem_of_getElem? (i := 14) rfl)
theorem mw_1226 : (.instanceMethod yX11_sizes : Cond) ∈ lw_tbl := lw_rd_85 _ (List.mem_of_getElem? (i := 15) rfl)
theorem mw_1225 : (.selects RX11 yX11_sizes yX11_sizes : Cond) ∈ lw_tbl := lw_rd_85 _ (List.mem_of_getElem? (i := 16) rfl)
theorem mw_1224 : (.code yX11_sizes cX11_sizes 3 (some .int) : Cond) ∈ lw_tbl := lw_rd_85 _ (List.mem_of_getElem? (i := 17) rfl)
theorem mw_1190 : (.methodLink RX11 325 yX9_possible : Cond) ∈ lw_tbl := lw_rd_85 _ (List.mem_of_getElem? (i := 18) rfl)
theorem mw_1192 : (.instanceMethod yX9_possible : Cond) ∈ lw_tbl := lw_rd_85 _ (List.mem_of_getElem? (i := 19) rfl)
theorem mw_1191 : (.selects RX9 yX9_possible yX9_possible : Cond) ∈ lw_tbl := lw_rd_85 _ (List.mem_of_getElem? (i := 20) rfl)
theorem mw_1223 : (.code yX9_possible cX9_possible 4 (some .int) : Cond) ∈ lw_tbl := lw_rd_85 _ (List.mem_of_getElem? (i := 21) rfl)
theorem mw_1193 : (.methodLink RX9 47 yX9_gatherFitting : Cond) ∈ lw_tbl := lw_rd_85 _ (List.mem_of_getElem? (i := 22) rfl)
def lw_rb_86 : List Cond := [.instanceMethod yX9_gatherFitting, .code yX9_gatherFitting cX9_gatherFitting 4 (some .int), .methodLink RX9 51 yX9_fits]
set_option maxRecDepth 100000 in
theorem lw_rc_86 : (List.drop 132 tables_1_5).take 3 = lw_rb_86 := rfl
theorem lw_rd_86 : ∀ w ∈ lw_rb_86, w ∈ lw_tbl := fun w h => lw_tm_5 w (List.mem_of_mem_drop (List.mem_of_mem_take (lw_rc_86 ▸ h)))
theorem mw_1195 : (.instanceMethod yX9_gatherFitting : Cond) ∈ lw_tbl := lw_rd_86 _ (List.mem_of_getElem? (i := 0) rfl)
theorem mw_1222 : (.code yX9_gatherFitting cX9_gatherFitting 4 (some .int) : Cond) ∈ lw_tbl := lw_rd_86 _ (List.mem_of_getElem? (i := 1) rfl)
theorem mw_1196 : (.methodLink RX9 51 yX9_fits : Cond) ∈ lw_tbl := lw_rd_86 _ (List.mem_of_getElem? (i := 2) rfl)
def lw_rb_87 : List Cond := [.instanceMethod yX9_fits, .code yX9_fits cX9_fits 5 (some .boolean), .methodLink RX9 55 yX9_lastDaySeen]
set_option maxRecDepth 100000 in
theorem lw_rc_87 : (List.drop 136 tables_1_5).take 3 = lw_rb_87 := rfl
theorem lw_rd_87 : ∀ w ∈ lw_rb_87, w ∈ lw_tbl := fun w h => lw_tm_5 w (List.mem_of_mem_drop (List.mem_of_mem_take (lw_rc_87 ▸ h)))
theorem mw_1198 : (.instanceMethod yX9_fits : Cond) ∈ lw_tbl := lw_rd_87 _ (List.mem_of_getElem? (i := 0) rfl)
theorem mw_1220 : (.code yX9_fits cX9_fits 5 (some .boolean) : Cond) ∈ lw_tbl := lw_rd_87 _ (List.mem_of_getElem? (i := 1) rfl)
theorem mw_1215 : (.methodLink RX9 55 yX9_lastDaySeen : Cond) ∈ lw_tbl := lw_rd_87 _ (List.mem_of_getElem? (i := 2) rfl)
def lw_rb_88 : List Cond := [.instanceMethod yX9_lastDaySeen, .code yX9_lastDaySeen cX9_lastDaySeen 4 (some .int), .methodLink RX9 74 Lib.Math.max.name, .methodLink RX9 58 yX9_setScene]
set_option maxRecDepth 100000 in
theorem lw_rc_88 : (List.drop 140 tables_1_5).take 4 = lw_rb_88 := rfl
theorem lw_rd_88 : ∀ w ∈ lw_rb_88, w ∈ lw_tbl := fun w h => lw_tm_5 w (List.mem_of_mem_drop (List.mem_of_mem_take (lw_rc_88 ▸ h)))
theorem mw_1217 : (.instanceMethod yX9_lastDaySeen : Cond) ∈ lw_tbl := lw_rd_88 _ (List.mem_of_getElem? (i := 0) rfl)
theorem mw_1219 : (.code yX9_lastDaySeen cX9_lastDaySeen 4 (some .int) : Cond) ∈ lw_tbl := lw_rd_88 _ (List.mem_of_getElem? (i := 1) rfl)
theorem mw_1218 : (.methodLink RX9 74 Lib.Math.max.name : Cond) ∈ lw_tbl := lw_rd_88 _ (List.mem_of_getElem? (i := 2) rfl)
theorem mw_1206 : (.methodLink RX9 58 yX9_setScene : Cond) ∈ lw_tbl := lw_rd_88 _ (List.mem_of_getElem? (i := 3) rfl)
def lw_rb_89 : List Cond := [.instanceMethod yX9_setScene, .code yX9_setScene cX9_setScene 3 none, .methodLink RX9 79 yX7_clear, .methodLink RX9 82 yX5_toldOf, .methodLink RX9 87 yX7_put, .methodLink RX9 62 yX7_pass, .methodLink RX9 66 yX7_of, .methodLink RX9 70 yX9_agrees]
set_option maxRecDepth 100000 in
theorem lw_rc_89 : (List.drop 145 tables_1_5).take 8 = lw_rb_89 := rfl
theorem lw_rd_89 : ∀ w ∈ lw_rb_89, w ∈ lw_tbl := fun w h => lw_tm_5 w (List.mem_of_mem_drop (List.mem_of_mem_take (lw_rc_89 ▸ h)))
theorem mw_1208 : (.instanceMethod yX9_setScene : Cond) ∈ lw_tbl := lw_rd_89 _ (List.mem_of_getElem? (i := 0) rfl)
theorem mw_1214 : (.code yX9_setScene cX9_setScene 3 none : Cond) ∈ lw_tbl := lw_rd_89 _ (List.mem_of_getElem? (i := 1) rfl)
theorem mw_1212 : (.methodLink RX9 79 yX7_clear : Cond) ∈ lw_tbl := lw_rd_89 _ (List.mem_of_getElem? (i := 2) rfl)
theorem mw_1210 : (.methodLink RX9 82 yX5_toldOf : Cond) ∈ lw_tbl := lw_rd_89 _ (List.mem_of_getElem? (i := 3) rfl)
theorem mw_1209 : (.methodLink RX9 87 yX7_put : Cond) ∈ lw_tbl := lw_rd_89 _ (List.mem_of_getElem? (i := 4) rfl)
theorem mw_1204 : (.methodLink RX9 62 yX7_pass : Cond) ∈ lw_tbl := lw_rd_89 _ (List.mem_of_getElem? (i := 5) rfl)
theorem mw_1203 : (.methodLink RX9 66 yX7_of : Cond) ∈ lw_tbl := lw_rd_89 _ (List.mem_of_getElem? (i := 6) rfl)
theorem mw_1199 : (.methodLink RX9 70 yX9_agrees : Cond) ∈ lw_tbl := lw_rd_89 _ (List.mem_of_getElem? (i := 7) rfl)
def lw_rb_90 : List Cond := [.instanceMethod yX9_agrees, .code yX9_agrees cX9_agrees 5 (some .boolean), .methodLink RL 146 yX11_ask, .instanceMethod yX11_ask, .selects RX11 yX11_ask yX11_ask, .code yX11_ask cX11_ask 3 (some .int), .methodLink RX11 328 yX9_bestMark, .instanceMethod yX9_bestMark, .selects RX9 yX9_bestMark yX9_bestMark, .code yX9_bestMark cX9_bestMark 8 (some .int), .methodLink RX9 91 yX9_sizeBehind]
set_option maxRecDepth 100000 in
theorem lw_rc_90 : (List.drop 154 tables_1_5).take 11 = lw_rb_90 := rfl
theorem lw_rd_90 : ∀ w ∈ lw_rb_90, w ∈ lw_tbl := fun w h => lw_tm_5 w (List.mem_of_mem_drop (List.mem_of_mem_take (lw_rc_90 ▸ h)))
theorem mw_1201 : (.instanceMethod yX9_agrees : Cond) ∈ lw_tbl := lw_rd_90 _ (List.mem_of_getElem? (i := 0) rfl)
theorem mw_1202 : (.code yX9_agrees cX9_agrees 5 (some .boolean) : Cond) ∈ lw_tbl := lw_rd_90 _ (List.mem_of_getElem? (i := 1) rfl)
theorem mw_1258 : (.methodLink RL 146 yX11_ask : Cond) ∈ lw_tbl := lw_rd_90 _ (List.mem_of_getElem? (i := 2) rfl)
theorem mw_1257 : (.instanceMethod yX11_ask : Cond) ∈ lw_tbl := lw_rd_90 _ (List.mem_of_getElem? (i := 3) rfl)
theorem mw_1256 : (.selects RX11 yX11_ask yX11_ask : Cond) ∈ lw_tbl := lw_rd_90 _ (List.mem_of_getElem? (i := 4) rfl)
theorem mw_1255 : (.code yX11_ask cX11_ask 3 (some .int) : Cond) ∈ lw_tbl := lw_rd_90 _ (List.mem_of_getElem? (i := 5) rfl)
theorem mw_1241 : (.methodLink RX11 328 yX9_bestMark : Cond) ∈ lw_tbl := lw_rd_90 _ (List.mem_of_getElem? (i := 6) rfl)
theorem mw_1243 : (.instanceMethod yX9_bestMark : Cond) ∈ lw_tbl := lw_rd_90 _ (List.mem_of_getElem? (i := 7) rfl)
theorem mw_1242 : (.selects RX9 yX9_bestMark yX9_bestMark : Cond) ∈ lw_tbl := lw_rd_90 _ (List.mem_of_getElem? (i := 8) rfl)
theorem mw_1254 : (.code yX9_bestMark cX9_bestMark 8 (some .int) : Cond) ∈ lw_tbl := lw_rd_90 _ (List.mem_of_getElem? (i := 9) rfl)
theorem mw_1244 : (.methodLink RX9 91 yX9_sizeBehind : Cond) ∈ lw_tbl := lw_rd_90 _ (List.mem_of_getElem? (i := 10) rfl)
def lw_rb_91 : List Cond := [.instanceMethod yX9_sizeBehind, .code yX9_sizeBehind cX9_sizeBehind 5 (some .int), .methodLink RX9 98 yX7_has, .methodLink RX9 95 yX9_gapAt]
set_option maxRecDepth 100000 in
theorem lw_rc_91 : (List.drop 166 tables_1_5).take 4 = lw_rb_91 := rfl
theorem lw_rd_91 : ∀ w ∈ lw_rb_91, w ∈ lw_tbl := fun w h => lw_tm_5 w (List.mem_of_mem_drop (List.mem_of_mem_take (lw_rc_91 ▸ h)))
theorem mw_1246 : (.instanceMethod yX9_sizeBehind : Cond) ∈ lw_tbl := lw_rd_91 _ (List.mem_of_getElem? (i := 0) rfl)
theorem mw_1248 : (.code yX9_sizeBehind cX9_sizeBehind 5 (some .int) : Cond) ∈ lw_tbl := lw_rd_91 _ (List.mem_of_getElem? (i := 1) rfl)
theorem mw_1247 : (.methodLink RX9 98 yX7_has : Cond) ∈ lw_tbl := lw_rd_91 _ (List.mem_of_getElem? (i := 2) rfl)
theorem mw_1249 : (.methodLink RX9 95 yX9_gapAt : Cond) ∈ lw_tbl := lw_rd_91 _ (List.mem_of_getElem? (i := 3) rfl)
def lw_rb_92 : List Cond := [.instanceMethod yX9_gapAt, .code yX9_gapAt cX9_gapAt 5 (some .int), .methodLink RX9 102 Lib.Math.abs.name, .methodLink RL 150 yX11_sale, .instanceMethod yX11_sale, .selects RX11 yX11_sale yX11_sale, .code yX11_sale cX11_sale 2 (some .int), .methodLink RX11 331 yX7_fewestWorth, .instanceMethod yX7_fewestWorth, .selects RX7 yX7_fewestWorth yX7_fewestWorth, .code yX7_fewestWorth cX7_fewestWorth 6 (some .int), .methodLink RX7 128 yX7_sizesOf]
set_option maxRecDepth 100000 in
theorem lw_rc_92 : (List.drop 171 tables_1_5).take 12 = lw_rb_92 := rfl
theorem lw_rd_92 : ∀ w ∈ lw_rb_92, w ∈ lw_tbl := fun w h => lw_tm_5 w (List.mem_of_mem_drop (List.mem_of_mem_take (lw_rc_92 ▸ h)))
theorem mw_1251 : (.instanceMethod yX9_gapAt : Cond) ∈ lw_tbl := lw_rd_92 _ (List.mem_of_getElem? (i := 0) rfl)
theorem mw_1253 : (.code yX9_gapAt cX9_gapAt 5 (some .int) : Cond) ∈ lw_tbl := lw_rd_92 _ (List.mem_of_getElem? (i := 1) rfl)
theorem mw_1252 : (.methodLink RX9 102 Lib.Math.abs.name : Cond) ∈ lw_tbl := lw_rd_92 _ (List.mem_of_getElem? (i := 2) rfl)
theorem mw_1279 : (.methodLink RL 150 yX11_sale : Cond) ∈ lw_tbl := lw_rd_92 _ (List.mem_of_getElem? (i := 3) rfl)
theorem mw_1278 : (.instanceMethod yX11_sale : Cond) ∈ lw_tbl := lw_rd_92 _ (List.mem_of_getElem? (i := 4) rfl)
theorem mw_1277 : (.selects RX11 yX11_sale yX11_sale : Cond) ∈ lw_tbl := lw_rd_92 _ (List.mem_of_getElem? (i := 5) rfl)
theorem mw_1276 : (.code yX11_sale cX11_sale 2 (some .int) : Cond) ∈ lw_tbl := lw_rd_92 _ (List.mem_of_getElem? (i := 6) rfl)
theorem mw_1264 : (.methodLink RX11 331 yX7_fewestWorth : Cond) ∈ lw_tbl := lw_rd_92 _ (List.mem_of_getElem? (i := 7) rfl)
theorem mw_1266 : (.instanceMethod yX7_fewestWorth : Cond) ∈ lw_tbl := lw_rd_92 _ (List.mem_of_getElem? (i := 8) rfl)
theorem mw_1265 : (.selects RX7 yX7_fewestWorth yX7_fewestWorth : Cond) ∈ lw_tbl := lw_rd_92 _ (List.mem_of_getElem? (i := 9) rfl)
theorem mw_1275 : (.code yX7_fewestWorth cX7_fewestWorth 6 (some .int) : Cond) ∈ lw_tbl := lw_rd_92 _ (List.mem_of_getElem? (i := 10) rfl)
theorem mw_1267 : (.methodLink RX7 128 yX7_sizesOf : Cond) ∈ lw_tbl := lw_rd_92 _ (List.mem_of_getElem? (i := 11) rfl)
def lw_rb_93 : List Cond := [.instanceMethod yX7_sizesOf, .code yX7_sizesOf cX7_sizesOf 4 (some .int), .methodLink RL 154 yX11_game, .instanceMethod yX11_game, .selects RX11 yX11_game yX11_game, .code yX11_game cX11_game 5 (some .int), .methodLink RX11 334 yX2_play, .instanceMethod yX2_play, .selects RX2 yX2_play yX2_play, .code yX2_play cX2_play 10 none, .methodLink RX2 67 Lib.Math.max.name, .methodLink RX2 72 yX7_clear, .methodLink RX2 75 yX7_day, .methodLink RX2 78 yX7_setDay, .instanceMethod yX7_setDay, .selects RX7 yX7_setDay yX7_setDay, .code yX7_setDay cX7_setDay 2 none, .methodLink RX2 82 yX7_put, .methodLink RX2 86 yX7_set, .methodLink RX2 90 yX2_keepOutcome]
set_option maxRecDepth 100000 in
theorem lw_rc_93 : (List.drop 184 tables_1_5).take 20 = lw_rb_93 := rfl
theorem lw_rd_93 : ∀ w ∈ lw_rb_93, w ∈ lw_tbl := fun w h => lw_tm_5 w (List.mem_of_mem_drop (List.mem_of_mem_take (lw_rc_93 ▸ h)))
theorem mw_1269 : (.instanceMethod yX7_sizesOf : Cond) ∈ lw_tbl := lw_rd_93 _ (List.mem_of_getElem? (i := 0) rfl)
theorem mw_1270 : (.code yX7_sizesOf cX7_sizesOf 4 (some .int) : Cond) ∈ lw_tbl := lw_rd_93 _ (List.mem_of_getElem? (i := 1) rfl)
theorem mw_1322 : (.methodLink RL 154 yX11_game : Cond) ∈ lw_tbl := lw_rd_93 _ (List.mem_of_getElem? (i := 2) rfl)
theorem mw_1321 : (.instanceMethod yX11_game : Cond) ∈ lw_tbl := lw_rd_93 _ (List.mem_of_getElem? (i := 3) rfl)
theorem mw_1320 : (.selects RX11 yX11_game yX11_game : Cond) ∈ lw_tbl := lw_rd_93 _ (List.mem_of_getElem? (i := 4) rfl)
theorem mw_1319 : (.code yX11_game cX11_game 5 (some .int) : Cond) ∈ lw_tbl := lw_rd_93 _ (List.mem_of_getElem? (i := 5) rfl)
theorem mw_1297 : (.methodLink RX11 334 yX2_play : Cond) ∈ lw_tbl := lw_rd_93 _ (List.mem_of_getElem? (i := 6) rfl)
theorem mw_1299 : (.instanceMethod yX2_play : Cond) ∈ lw_tbl := lw_rd_93 _ (List.mem_of_getElem? (i := 7) rfl)
theorem mw_1298 : (.selects RX2 yX2_play yX2_play : Cond) ∈ lw_tbl := lw_rd_93 _ (List.mem_of_getElem? (i := 8) rfl)
theorem mw_1317 : (.code yX2_play cX2_play 10 none : Cond) ∈ lw_tbl := lw_rd_93 _ (List.mem_of_getElem? (i := 9) rfl)
theorem mw_1316 : (.methodLink RX2 67 Lib.Math.max.name : Cond) ∈ lw_tbl := lw_rd_93 _ (List.mem_of_getElem? (i := 10) rfl)
theorem mw_1315 : (.methodLink RX2 72 yX7_clear : Cond) ∈ lw_tbl := lw_rd_93 _ (List.mem_of_getElem? (i := 11) rfl)
theorem mw_1314 : (.methodLink RX2 75 yX7_day : Cond) ∈ lw_tbl := lw_rd_93 _ (List.mem_of_getElem? (i := 12) rfl)
theorem mw_1310 : (.methodLink RX2 78 yX7_setDay : Cond) ∈ lw_tbl := lw_rd_93 _ (List.mem_of_getElem? (i := 13) rfl)
theorem mw_1312 : (.instanceMethod yX7_setDay : Cond) ∈ lw_tbl := lw_rd_93 _ (List.mem_of_getElem? (i := 14) rfl)
theorem mw_1311 : (.selects RX7 yX7_setDay yX7_setDay : Cond) ∈ lw_tbl := lw_rd_93 _ (List.mem_of_getElem? (i := 15) rfl)
theorem mw_1313 : (.code yX7_setDay cX7_setDay 2 none : Cond) ∈ lw_tbl := lw_rd_93 _ (List.mem_of_getElem? (i := 16) rfl)
theorem mw_1309 : (.methodLink RX2 82 yX7_put : Cond) ∈ lw_tbl := lw_rd_93 _ (List.mem_of_getElem? (i := 17) rfl)
theorem mw_1308 : (.methodLink RX2 86 yX7_set : Cond) ∈ lw_tbl := lw_rd_93 _ (List.mem_of_getElem? (i := 18) rfl)
theorem mw_1300 : (.methodLink RX2 90 yX2_keepOutcome : Cond) ∈ lw_tbl := lw_rd_93 _ (List.mem_of_getElem? (i := 19) rfl)
def lw_rb_94 : List Cond := [.instanceMethod yX2_keepOutcome, .code yX2_keepOutcome cX2_keepOutcome 6 none, .methodLink RX2 94 yX2_outcomeCell, .static yX2_outcomeCell, .code yX2_outcomeCell cX2_outcomeCell 3 (some .int), .methodLink RX11 338 yX2_outcome, .instanceMethod yX2_outcome, .selects RX2 yX2_outcome yX2_outcome, .code yX2_outcome cX2_outcome 5 (some .int), .constant RX2 98 (-1000000), .methodLink RL 158 yX11_rests, .instanceMethod yX11_rests, .selects RX11 yX11_rests yX11_rests, .code yX11_rests cX11_rests 3 (some .int), .methodLink RX11 341 yX2_restingPoint, .instanceMethod yX2_restingPoint, .selects RX2 yX2_restingPoint yX2_restingPoint, .code yX2_restingPoint cX2_restingPoint 6 (some .int), .methodLink RX2 99 yX2_play, .methodLink RX2 103 yX2_isRest]
set_option maxRecDepth 100000 in
theorem lw_rc_94 : (List.drop 205 tables_1_5).take 20 = lw_rb_94 := rfl
theorem lw_rd_94 : ∀ w ∈ lw_rb_94, w ∈ lw_tbl := fun w h => lw_tm_5 w (List.mem_of_mem_drop (List.mem_of_mem_take (lw_rc_94 ▸ h)))
theorem mw_1302 : (.instanceMethod yX2_keepOutcome : Cond) ∈ lw_tbl := lw_rd_94 _ (List.mem_of_getElem? (i := 0) rfl)
theorem mw_1307 : (.code yX2_keepOutcome cX2_keepOutcome 6 none : Cond) ∈ lw_tbl := lw_rd_94 _ (List.mem_of_getElem? (i := 1) rfl)
theorem mw_1304 : (.methodLink RX2 94 yX2_outcomeCell : Cond) ∈ lw_tbl := lw_rd_94 _ (List.mem_of_getElem? (i := 2) rfl)
theorem mw_1305 : (.static yX2_outcomeCell : Cond) ∈ lw_tbl := lw_rd_94 _ (List.mem_of_getElem? (i := 3) rfl)
theorem mw_1306 : (.code yX2_outcomeCell cX2_outcomeCell 3 (some .int) : Cond) ∈ lw_tbl := lw_rd_94 _ (List.mem_of_getElem? (i := 4) rfl)
theorem mw_1292 : (.methodLink RX11 338 yX2_outcome : Cond) ∈ lw_tbl := lw_rd_94 _ (List.mem_of_getElem? (i := 5) rfl)
theorem mw_1294 : (.instanceMethod yX2_outcome : Cond) ∈ lw_tbl := lw_rd_94 _ (List.mem_of_getElem? (i := 6) rfl)
theorem mw_1293 : (.selects RX2 yX2_outcome yX2_outcome : Cond) ∈ lw_tbl := lw_rd_94 _ (List.mem_of_getElem? (i := 7) rfl)
theorem mw_1296 : (.code yX2_outcome cX2_outcome 5 (some .int) : Cond) ∈ lw_tbl := lw_rd_94 _ (List.mem_of_getElem? (i := 8) rfl)
theorem mw_1295 : (.constant RX2 98 (-1000000) : Cond) ∈ lw_tbl := lw_rd_94 _ (List.mem_of_getElem? (i := 9) rfl)
theorem mw_1345 : (.methodLink RL 158 yX11_rests : Cond) ∈ lw_tbl := lw_rd_94 _ (List.mem_of_getElem? (i := 10) rfl)
theorem mw_1344 : (.instanceMethod yX11_rests : Cond) ∈ lw_tbl := lw_rd_94 _ (List.mem_of_getElem? (i := 11) rfl)
theorem mw_1343 : (.selects RX11 yX11_rests yX11_rests : Cond) ∈ lw_tbl := lw_rd_94 _ (List.mem_of_getElem? (i := 12) rfl)
theorem mw_1342 : (.code yX11_rests cX11_rests 3 (some .int) : Cond) ∈ lw_tbl := lw_rd_94 _ (List.mem_of_getElem? (i := 13) rfl)
theorem mw_1332 : (.methodLink RX11 341 yX2_restingPoint : Cond) ∈ lw_tbl := lw_rd_94 _ (List.mem_of_getElem? (i := 14) rfl)
theorem mw_1334 : (.instanceMethod yX2_restingPoint : Cond) ∈ lw_tbl := lw_rd_94 _ (List.mem_of_getElem? (i := 15) rfl)
theorem mw_1333 : (.selects RX2 yX2_restingPoint yX2_restingPoint : Cond) ∈ lw_tbl := lw_rd_94 _ (List.mem_of_getElem? (i := 16) rfl)
theorem mw_1341 : (.code yX2_restingPoint cX2_restingPoint 6 (some .int) : Cond) ∈ lw_tbl := lw_rd_94 _ (List.mem_of_getElem? (i := 17) rfl)
theorem mw_1335 : (.methodLink RX2 99 yX2_play : Cond) ∈ lw_tbl := lw_rd_94 _ (List.mem_of_getElem? (i := 18) rfl)
theorem mw_1336 : (.methodLink RX2 103 yX2_isRest : Cond) ∈ lw_tbl := lw_rd_94 _ (List.mem_of_getElem? (i := 19) rfl)
def lw_rb_95 : List Cond := [.instanceMethod yX2_isRest, .code yX2_isRest cX2_isRest 4 (some .boolean), .methodLink RX2 107 yX2_outcome, .methodLink RL 162 yX11_odds, .instanceMethod yX11_odds, .selects RX11 yX11_odds yX11_odds, .code yX11_odds cX11_odds 5 (some .int), .methodLink RX11 344 yX2_partsOf, .instanceMethod yX2_partsOf, .selects RX2 yX2_partsOf yX2_partsOf, .code yX2_partsOf cX2_partsOf 6 (some .int), .constantLong RX2 110 (1000000000), .methodLink RX2 112 yX2_partsFrom]
set_option maxRecDepth 100000 in
theorem lw_rc_95 : (List.drop 226 tables_1_5).take 13 = lw_rb_95 := rfl
theorem lw_rd_95 : ∀ w ∈ lw_rb_95, w ∈ lw_tbl := fun w h => lw_tm_5 w (List.mem_of_mem_drop (List.mem_of_mem_take (lw_rc_95 ▸ h)))
theorem mw_1338 : (.instanceMethod yX2_isRest : Cond) ∈ lw_tbl := lw_rd_95 _ (List.mem_of_getElem? (i := 0) rfl)
theorem mw_1340 : (.code yX2_isRest cX2_isRest 4 (some .boolean) : Cond) ∈ lw_tbl := lw_rd_95 _ (List.mem_of_getElem? (i := 1) rfl)
theorem mw_1339 : (.methodLink RX2 107 yX2_outcome : Cond) ∈ lw_tbl := lw_rd_95 _ (List.mem_of_getElem? (i := 2) rfl)
theorem mw_1376 : (.methodLink RL 162 yX11_odds : Cond) ∈ lw_tbl := lw_rd_95 _ (List.mem_of_getElem? (i := 3) rfl)
theorem mw_1375 : (.instanceMethod yX11_odds : Cond) ∈ lw_tbl := lw_rd_95 _ (List.mem_of_getElem? (i := 4) rfl)
theorem mw_1374 : (.selects RX11 yX11_odds yX11_odds : Cond) ∈ lw_tbl := lw_rd_95 _ (List.mem_of_getElem? (i := 5) rfl)
theorem mw_1373 : (.code yX11_odds cX11_odds 5 (some .int) : Cond) ∈ lw_tbl := lw_rd_95 _ (List.mem_of_getElem? (i := 6) rfl)
theorem mw_1354 : (.methodLink RX11 344 yX2_partsOf : Cond) ∈ lw_tbl := lw_rd_95 _ (List.mem_of_getElem? (i := 7) rfl)
theorem mw_1356 : (.instanceMethod yX2_partsOf : Cond) ∈ lw_tbl := lw_rd_95 _ (List.mem_of_getElem? (i := 8) rfl)
theorem mw_1355 : (.selects RX2 yX2_partsOf yX2_partsOf : Cond) ∈ lw_tbl := lw_rd_95 _ (List.mem_of_getElem? (i := 9) rfl)
theorem mw_1372 : (.code yX2_partsOf cX2_partsOf 6 (some .int) : Cond) ∈ lw_tbl := lw_rd_95 _ (List.mem_of_getElem? (i := 10) rfl)
theorem mw_1366 : (.constantLong RX2 110 (1000000000) : Cond) ∈ lw_tbl := lw_rd_95 _ (List.mem_of_getElem? (i := 11) rfl)
theorem mw_1357 : (.methodLink RX2 112 yX2_partsFrom : Cond) ∈ lw_tbl := lw_rd_95 _ (List.mem_of_getElem? (i := 12) rfl)
def lw_rb_96 : List Cond := [.instanceMethod yX2_partsFrom, .code yX2_partsFrom cX2_partsFrom 8 (some .long), .constantLong RX2 116 (100), .methodLink RX2 118 yX2_partsBehindDay]
set_option maxRecDepth 100000 in
theorem lw_rc_96 : (List.drop 0 tables_1_6).take 4 = lw_rb_96 := rfl
theorem lw_rd_96 : ∀ w ∈ lw_rb_96, w ∈ lw_tbl := fun w h => lw_tm_6 w (List.mem_of_mem_drop (List.mem_of_mem_take (lw_rc_96 ▸ h)))
theorem mw_1359 : (.instanceMethod yX2_partsFrom : Cond) ∈ lw_tbl := lw_rd_96 _ (List.mem_of_getElem? (i := 0) rfl)
theorem mw_1365 : (.code yX2_partsFrom cX2_partsFrom 8 (some .long) : Cond) ∈ lw_tbl := lw_rd_96 _ (List.mem_of_getElem? (i := 1) rfl)
theorem mw_1360 : (.constantLong RX2 116 (100) : Cond) ∈ lw_tbl := lw_rd_96 _ (List.mem_of_getElem? (i := 2) rfl)
theorem mw_1361 : (.methodLink RX2 118 yX2_partsBehindDay : Cond) ∈ lw_tbl := lw_rd_96 _ (List.mem_of_getElem? (i := 3) rfl)
def lw_rb_97 : List Cond := [.instanceMethod yX2_partsBehindDay, .code yX2_partsBehindDay cX2_partsBehindDay 6 (some .long), .methodLink RL 166 yX11_shares, .instanceMethod yX11_shares, .selects RX11 yX11_shares yX11_shares, .code yX11_shares cX11_shares 4 (some .int), .methodLink RL 170 yX11_most, .instanceMethod yX11_most, .selects RX11 yX11_most yX11_most, .code yX11_most cX11_most 2 (some .int), .methodLink RX11 348 yX11_leader]
set_option maxRecDepth 100000 in
theorem lw_rc_97 : (List.drop 5 tables_1_6).take 11 = lw_rb_97 := rfl
theorem lw_rd_97 : ∀ w ∈ lw_rb_97, w ∈ lw_tbl := fun w h => lw_tm_6 w (List.mem_of_mem_drop (List.mem_of_mem_take (lw_rc_97 ▸ h)))
theorem mw_1363 : (.instanceMethod yX2_partsBehindDay : Cond) ∈ lw_tbl := lw_rd_97 _ (List.mem_of_getElem? (i := 0) rfl)
theorem mw_1364 : (.code yX2_partsBehindDay cX2_partsBehindDay 6 (some .long) : Cond) ∈ lw_tbl := lw_rd_97 _ (List.mem_of_getElem? (i := 1) rfl)
theorem mw_1390 : (.methodLink RL 166 yX11_shares : Cond) ∈ lw_tbl := lw_rd_97 _ (List.mem_of_getElem? (i := 2) rfl)
theorem mw_1389 : (.instanceMethod yX11_shares : Cond) ∈ lw_tbl := lw_rd_97 _ (List.mem_of_getElem? (i := 3) rfl)
theorem mw_1388 : (.selects RX11 yX11_shares yX11_shares : Cond) ∈ lw_tbl := lw_rd_97 _ (List.mem_of_getElem? (i := 4) rfl)
theorem mw_1387 : (.code yX11_shares cX11_shares 4 (some .int) : Cond) ∈ lw_tbl := lw_rd_97 _ (List.mem_of_getElem? (i := 5) rfl)
theorem mw_1429 : (.methodLink RL 170 yX11_most : Cond) ∈ lw_tbl := lw_rd_97 _ (List.mem_of_getElem? (i := 6) rfl)
theorem mw_1428 : (.instanceMethod yX11_most : Cond) ∈ lw_tbl := lw_rd_97 _ (List.mem_of_getElem? (i := 7) rfl)
theorem mw_1427 : (.selects RX11 yX11_most yX11_most : Cond) ∈ lw_tbl := lw_rd_97 _ (List.mem_of_getElem? (i := 8) rfl)
theorem mw_1426 : (.code yX11_most cX11_most 2 (some .int) : Cond) ∈ lw_tbl := lw_rd_97 _ (List.mem_of_getElem? (i := 9) rfl)
theorem mw_1418 : (.methodLink RX11 348 yX11_leader : Cond) ∈ lw_tbl := lw_rd_97 _ (List.mem_of_getElem? (i := 10) rfl)
def lw_rb_98 : List Cond := [.instanceMethod yX11_leader, .code yX11_leader cX11_leader 6 (some .int), .methodLink RX11 366 yX11_standing]
set_option maxRecDepth 100000 in
theorem lw_rc_98 : (List.drop 17 tables_1_6).take 3 = lw_rb_98 := rfl
theorem lw_rd_98 : ∀ w ∈ lw_rb_98, w ∈ lw_tbl := fun w h => lw_tm_6 w (List.mem_of_mem_drop (List.mem_of_mem_take (lw_rc_98 ▸ h)))
theorem mw_1420 : (.instanceMethod yX11_leader : Cond) ∈ lw_tbl := lw_rd_98 _ (List.mem_of_getElem? (i := 0) rfl)
theorem mw_1425 : (.code yX11_leader cX11_leader 6 (some .int) : Cond) ∈ lw_tbl := lw_rd_98 _ (List.mem_of_getElem? (i := 1) rfl)
theorem mw_1421 : (.methodLink RX11 366 yX11_standing : Cond) ∈ lw_tbl := lw_rd_98 _ (List.mem_of_getElem? (i := 2) rfl)
def lw_rb_99 : List Cond := [.instanceMethod yX11_standing, .code yX11_standing cX11_standing 3 (some .int), .methodLink RX11 175 yX4_growth, .methodLink RX11 351 yX11_fullest]
set_option maxRecDepth 100000 in
theorem lw_rc_99 : (List.drop 21 tables_1_6).take 4 = lw_rb_99 := rfl
theorem lw_rd_99 : ∀ w ∈ lw_rb_99, w ∈ lw_tbl := fun w h => lw_tm_6 w (List.mem_of_mem_drop (List.mem_of_mem_take (lw_rc_99 ▸ h)))
theorem mw_1423 : (.instanceMethod yX11_standing : Cond) ∈ lw_tbl := lw_rd_99 _ (List.mem_of_getElem? (i := 0) rfl)
theorem mw_1424 : (.code yX11_standing cX11_standing 3 (some .int) : Cond) ∈ lw_tbl := lw_rd_99 _ (List.mem_of_getElem? (i := 1) rfl)
theorem mw_520 : (.methodLink RX11 175 yX4_growth : Cond) ∈ lw_tbl := lw_rd_99 _ (List.mem_of_getElem? (i := 2) rfl)
theorem mw_1414 : (.methodLink RX11 351 yX11_fullest : Cond) ∈ lw_tbl := lw_rd_99 _ (List.mem_of_getElem? (i := 3) rfl)
def lw_rb_100 : List Cond := [.instanceMethod yX11_fullest, .code yX11_fullest cX11_fullest 3 (some .int), .methodLink RX11 354 yX7_bagsWith, .methodLink RX11 357 yX11_roomLeft]
set_option maxRecDepth 100000 in
theorem lw_rc_100 : (List.drop 26 tables_1_6).take 4 = lw_rb_100 := rfl
theorem lw_rd_100 : ∀ w ∈ lw_rb_100, w ∈ lw_tbl := fun w h => lw_tm_6 w (List.mem_of_mem_drop (List.mem_of_mem_take (lw_rc_100 ▸ h)))
theorem mw_1416 : (.instanceMethod yX11_fullest : Cond) ∈ lw_tbl := lw_rd_100 _ (List.mem_of_getElem? (i := 0) rfl)
theorem mw_1417 : (.code yX11_fullest cX11_fullest 3 (some .int) : Cond) ∈ lw_tbl := lw_rd_100 _ (List.mem_of_getElem? (i := 1) rfl)
theorem mw_1409 : (.methodLink RX11 354 yX7_bagsWith : Cond) ∈ lw_tbl := lw_rd_100 _ (List.mem_of_getElem? (i := 2) rfl)
theorem mw_1404 : (.methodLink RX11 357 yX11_roomLeft : Cond) ∈ lw_tbl := lw_rd_100 _ (List.mem_of_getElem? (i := 3) rfl)
def lw_rb_101 : List Cond := [.instanceMethod yX11_roomLeft, .code yX11_roomLeft cX11_roomLeft 3 (some .int), .methodLink RX11 369 Lib.Math.max.name, .methodLink RX11 360 yX11_allDue]
set_option maxRecDepth 100000 in
theorem lw_rc_101 : (List.drop 31 tables_1_6).take 4 = lw_rb_101 := rfl
theorem lw_rd_101 : ∀ w ∈ lw_rb_101, w ∈ lw_tbl := fun w h => lw_tm_6 w (List.mem_of_mem_drop (List.mem_of_mem_take (lw_rc_101 ▸ h)))
theorem mw_1406 : (.instanceMethod yX11_roomLeft : Cond) ∈ lw_tbl := lw_rd_101 _ (List.mem_of_getElem? (i := 0) rfl)
theorem mw_1408 : (.code yX11_roomLeft cX11_roomLeft 3 (some .int) : Cond) ∈ lw_tbl := lw_rd_101 _ (List.mem_of_getElem? (i := 1) rfl)
theorem mw_1407 : (.methodLink RX11 369 Lib.Math.max.name : Cond) ∈ lw_tbl := lw_rd_101 _ (List.mem_of_getElem? (i := 2) rfl)
theorem mw_1399 : (.methodLink RX11 360 yX11_allDue : Cond) ∈ lw_tbl := lw_rd_101 _ (List.mem_of_getElem? (i := 3) rfl)
def lw_rb_102 : List Cond := [.instanceMethod yX11_allDue, .code yX11_allDue cX11_allDue 3 (some .int), .methodLink RX11 374 yX7_due, .methodLink RX11 363 yX7_quarrels, .instanceMethod yX7_quarrels, .selects RX7 yX7_quarrels yX7_quarrels, .code yX7_quarrels cX7_quarrels 3 (some .int), .methodLink RL 42 yL_bag, .static yL_bag, .codeWith yL_bag cL_bag 5 (some .int) [(0, 10, 13, 13)], .classLink RL 13 "java/util/NoSuchElementException", .methodLink RL 7 yX11_bag, .instanceMethod yX11_bag, .selects RX11 yX11_bag yX11_bag, .code yX11_bag cX11_bag 3 (some .int), .classLink RX11 172 "java/util/NoSuchElementException"]
set_option maxRecDepth 100000 in
theorem lw_rc_102 : (List.drop 36 tables_1_6).take 16 = lw_rb_102 := rfl
theorem lw_rd_102 : ∀ w ∈ lw_rb_102, w ∈ lw_tbl := fun w h => lw_tm_6 w (List.mem_of_mem_drop (List.mem_of_mem_take (lw_rc_102 ▸ h)))
theorem mw_1401 : (.instanceMethod yX11_allDue : Cond) ∈ lw_tbl := lw_rd_102 _ (List.mem_of_getElem? (i := 0) rfl)
theorem mw_1403 : (.code yX11_allDue cX11_allDue 3 (some .int) : Cond) ∈ lw_tbl := lw_rd_102 _ (List.mem_of_getElem? (i := 1) rfl)
theorem mw_1402 : (.methodLink RX11 374 yX7_due : Cond) ∈ lw_tbl := lw_rd_102 _ (List.mem_of_getElem? (i := 2) rfl)
theorem mw_1395 : (.methodLink RX11 363 yX7_quarrels : Cond) ∈ lw_tbl := lw_rd_102 _ (List.mem_of_getElem? (i := 3) rfl)
theorem mw_1397 : (.instanceMethod yX7_quarrels : Cond) ∈ lw_tbl := lw_rd_102 _ (List.mem_of_getElem? (i := 4) rfl)
theorem mw_1396 : (.selects RX7 yX7_quarrels yX7_quarrels : Cond) ∈ lw_tbl := lw_rd_102 _ (List.mem_of_getElem? (i := 5) rfl)
theorem mw_1398 : (.code yX7_quarrels cX7_quarrels 3 (some .int) : Cond) ∈ lw_tbl := lw_rd_102 _ (List.mem_of_getElem? (i := 6) rfl)
theorem mw_567 : (.methodLink RL 42 yL_bag : Cond) ∈ lw_tbl := lw_rd_102 _ (List.mem_of_getElem? (i := 7) rfl)
theorem mw_566 : (.static yL_bag : Cond) ∈ lw_tbl := lw_rd_102 _ (List.mem_of_getElem? (i := 8) rfl)
theorem mw_564 : (.codeWith yL_bag cL_bag 5 (some .int) [(0, 10, 13, 13)] : Cond) ∈ lw_tbl := lw_rd_102 _ (List.mem_of_getElem? (i := 9) rfl)
theorem mw_516 : (.classLink RL 13 "java/util/NoSuchElementException" : Cond) ∈ lw_tbl := lw_rd_102 _ (List.mem_of_getElem? (i := 10) rfl)
theorem mw_519 : (.methodLink RL 7 yX11_bag : Cond) ∈ lw_tbl := lw_rd_102 _ (List.mem_of_getElem? (i := 11) rfl)
theorem mw_518 : (.instanceMethod yX11_bag : Cond) ∈ lw_tbl := lw_rd_102 _ (List.mem_of_getElem? (i := 12) rfl)
theorem mw_517 : (.selects RX11 yX11_bag yX11_bag : Cond) ∈ lw_tbl := lw_rd_102 _ (List.mem_of_getElem? (i := 13) rfl)
theorem mw_563 : (.code yX11_bag cX11_bag 3 (some .int) : Cond) ∈ lw_tbl := lw_rd_102 _ (List.mem_of_getElem? (i := 14) rfl)
theorem mw_558 : (.classLink RX11 172 "java/util/NoSuchElementException" : Cond) ∈ lw_tbl := lw_rd_102 _ (List.mem_of_getElem? (i := 15) rfl)
def lw_rb_103 : List Cond := [.classLink RL 16 RX12, .instantiable RX12 48, .methodLink RL 18 yX12_init, .instanceMethod yX12_init, .code yX12_init cX12_init 1 none, .methodLink RX12 3 objectInit, .fieldLink RX12 102 "LeftArgumentsModel" "thrown" "I", .fieldLink RX12 9 "LeftArgumentsModel" "tape" "[I", .fieldLink RX12 109 "LeftArgumentsModel" "size" "I", .fieldLink RX12 112 "LeftArgumentsModel" "at" "I", .fieldLink RX12 119 "LeftArgumentsModel" "wrong" "I", .fieldLink RX12 125 "LeftArgumentsModel" "deep" "I", .fieldLink RX12 13 "LeftArgumentsModel" "code" "[I", .fieldLink RX12 16 "LeftArgumentsModel" "value" "[I", .fieldLink RX12 19 "LeftArgumentsModel" "codes" "[I", .fieldLink RX12 22 "LeftArgumentsModel" "clauses" "[I", .fieldLink RX12 25 "LeftArgumentsModel" "testFrom" "[I", .fieldLink RX12 28 "LeftArgumentsModel" "sumFrom" "[I", .fieldLink RX12 31 "LeftArgumentsModel" "sumTo" "[I", .fieldLink RX12 284 "LeftArgumentsModel" "laws" "I", .fieldLink RX12 122 "LeftArgumentsModel" "text" "I", .fieldLink RX12 34 "LeftArgumentsModel" "letters" "[I", .fieldLink RX12 37 "LeftArgumentsModel" "stack" "[I", .fieldLink RX12 40 "LeftArgumentsModel" "readRule" "[I", .fieldLink RX12 43 "LeftArgumentsModel" "readBag" "[I", .fieldLink RX12 241 "LeftArgumentsModel" "readBags" "I", .fieldLink RX12 46 "LeftArgumentsModel" "rule" "[I", .fieldLink RX12 49 "LeftArgumentsModel" "bag" "[I", .fieldLink RX12 266 "LeftArgumentsModel" "toldMany" "I", .fieldLink RX12 262 "LeftArgumentsModel" "isOffice" "Z", .fieldLink RX12 52 "LeftArgumentsModel" "now" "[I", .fieldLink RX12 55 "LeftArgumentsModel" "refused" "[I", .fieldLink RX12 58 "LeftArgumentsModel" "holding" "I", .fieldLink RX12 62 "LeftArgumentsModel" "training" "I", .fieldLink RX12 65 "LeftArgumentsModel" "grows" "[I", .fieldLink RX12 309 "LeftArgumentsModel" "fell" "I", .fieldLink RX12 306 "LeftArgumentsModel" "ended" "I", .fieldLink RX12 68 "LeftArgumentsModel" "kept" "[I", .fieldLink RX12 275 "LeftArgumentsModel" "acts" "I", .fieldLink RX12 361 "LeftArgumentsModel" "draws" "J"]
set_option maxRecDepth 100000 in
theorem lw_rc_103 : (List.drop 112 tables_1_6).take 40 = lw_rb_103 := rfl
theorem lw_rd_103 : ∀ w ∈ lw_rb_103, w ∈ lw_tbl := fun w h => lw_tm_6 w (List.mem_of_mem_drop (List.mem_of_mem_take (lw_rc_103 ▸ h)))
theorem mw_1577 : (.classLink RL 16 RX12 : Cond) ∈ lw_tbl := lw_rd_103 _ (List.mem_of_getElem? (i := 0) rfl)
theorem mw_1578 : (.instantiable RX12 48 : Cond) ∈ lw_tbl := lw_rd_103 _ (List.mem_of_getElem? (i := 1) rfl)
theorem mw_1581 : (.methodLink RL 18 yX12_init : Cond) ∈ lw_tbl := lw_rd_103 _ (List.mem_of_getElem? (i := 2) rfl)
theorem mw_1582 : (.instanceMethod yX12_init : Cond) ∈ lw_tbl := lw_rd_103 _ (List.mem_of_getElem? (i := 3) rfl)
theorem mw_1580 : (.code yX12_init cX12_init 1 none : Cond) ∈ lw_tbl := lw_rd_103 _ (List.mem_of_getElem? (i := 4) rfl)
theorem mw_1579 : (.methodLink RX12 3 objectInit : Cond) ∈ lw_tbl := lw_rd_103 _ (List.mem_of_getElem? (i := 5) rfl)
theorem mw_603 : (.fieldLink RX12 102 "LeftArgumentsModel" "thrown" "I" : Cond) ∈ lw_tbl := lw_rd_103 _ (List.mem_of_getElem? (i := 6) rfl)
theorem mw_20 : (.fieldLink RX12 9 "LeftArgumentsModel" "tape" "[I" : Cond) ∈ lw_tbl := lw_rd_103 _ (List.mem_of_getElem? (i := 7) rfl)
theorem mw_25 : (.fieldLink RX12 109 "LeftArgumentsModel" "size" "I" : Cond) ∈ lw_tbl := lw_rd_103 _ (List.mem_of_getElem? (i := 8) rfl)
theorem mw_369 : (.fieldLink RX12 112 "LeftArgumentsModel" "at" "I" : Cond) ∈ lw_tbl := lw_rd_103 _ (List.mem_of_getElem? (i := 9) rfl)
theorem mw_368 : (.fieldLink RX12 119 "LeftArgumentsModel" "wrong" "I" : Cond) ∈ lw_tbl := lw_rd_103 _ (List.mem_of_getElem? (i := 10) rfl)
theorem mw_367 : (.fieldLink RX12 125 "LeftArgumentsModel" "deep" "I" : Cond) ∈ lw_tbl := lw_rd_103 _ (List.mem_of_getElem? (i := 11) rfl)
theorem mw_331 : (.fieldLink RX12 13 "LeftArgumentsModel" "code" "[I" : Cond) ∈ lw_tbl := lw_rd_103 _ (List.mem_of_getElem? (i := 12) rfl)
theorem mw_330 : (.fieldLink RX12 16 "LeftArgumentsModel" "value" "[I" : Cond) ∈ lw_tbl := lw_rd_103 _ (List.mem_of_getElem? (i := 13) rfl)
theorem mw_366 : (.fieldLink RX12 19 "LeftArgumentsModel" "codes" "[I" : Cond) ∈ lw_tbl := lw_rd_103 _ (List.mem_of_getElem? (i := 14) rfl)
theorem mw_365 : (.fieldLink RX12 22 "LeftArgumentsModel" "clauses" "[I" : Cond) ∈ lw_tbl := lw_rd_103 _ (List.mem_of_getElem? (i := 15) rfl)
theorem mw_348 : (.fieldLink RX12 25 "LeftArgumentsModel" "testFrom" "[I" : Cond) ∈ lw_tbl := lw_rd_103 _ (List.mem_of_getElem? (i := 16) rfl)
theorem mw_347 : (.fieldLink RX12 28 "LeftArgumentsModel" "sumFrom" "[I" : Cond) ∈ lw_tbl := lw_rd_103 _ (List.mem_of_getElem? (i := 17) rfl)
theorem mw_346 : (.fieldLink RX12 31 "LeftArgumentsModel" "sumTo" "[I" : Cond) ∈ lw_tbl := lw_rd_103 _ (List.mem_of_getElem? (i := 18) rfl)
theorem mw_494 : (.fieldLink RX12 284 "LeftArgumentsModel" "laws" "I" : Cond) ∈ lw_tbl := lw_rd_103 _ (List.mem_of_getElem? (i := 19) rfl)
theorem mw_370 : (.fieldLink RX12 122 "LeftArgumentsModel" "text" "I" : Cond) ∈ lw_tbl := lw_rd_103 _ (List.mem_of_getElem? (i := 20) rfl)
theorem mw_594 : (.fieldLink RX12 34 "LeftArgumentsModel" "letters" "[I" : Cond) ∈ lw_tbl := lw_rd_103 _ (List.mem_of_getElem? (i := 21) rfl)
theorem mw_591 : (.fieldLink RX12 37 "LeftArgumentsModel" "stack" "[I" : Cond) ∈ lw_tbl := lw_rd_103 _ (List.mem_of_getElem? (i := 22) rfl)
theorem mw_274 : (.fieldLink RX12 40 "LeftArgumentsModel" "readRule" "[I" : Cond) ∈ lw_tbl := lw_rd_103 _ (List.mem_of_getElem? (i := 23) rfl)
theorem mw_270 : (.fieldLink RX12 43 "LeftArgumentsModel" "readBag" "[I" : Cond) ∈ lw_tbl := lw_rd_103 _ (List.mem_of_getElem? (i := 24) rfl)
theorem mw_275 : (.fieldLink RX12 241 "LeftArgumentsModel" "readBags" "I" : Cond) ∈ lw_tbl := lw_rd_103 _ (List.mem_of_getElem? (i := 25) rfl)
theorem mw_489 : (.fieldLink RX12 46 "LeftArgumentsModel" "rule" "[I" : Cond) ∈ lw_tbl := lw_rd_103 _ (List.mem_of_getElem? (i := 26) rfl)
theorem mw_484 : (.fieldLink RX12 49 "LeftArgumentsModel" "bag" "[I" : Cond) ∈ lw_tbl := lw_rd_103 _ (List.mem_of_getElem? (i := 27) rfl)
theorem mw_491 : (.fieldLink RX12 266 "LeftArgumentsModel" "toldMany" "I" : Cond) ∈ lw_tbl := lw_rd_103 _ (List.mem_of_getElem? (i := 28) rfl)
theorem mw_492 : (.fieldLink RX12 262 "LeftArgumentsModel" "isOffice" "Z" : Cond) ∈ lw_tbl := lw_rd_103 _ (List.mem_of_getElem? (i := 29) rfl)
theorem mw_490 : (.fieldLink RX12 52 "LeftArgumentsModel" "now" "[I" : Cond) ∈ lw_tbl := lw_rd_103 _ (List.mem_of_getElem? (i := 30) rfl)
theorem mw_728 : (.fieldLink RX12 55 "LeftArgumentsModel" "refused" "[I" : Cond) ∈ lw_tbl := lw_rd_103 _ (List.mem_of_getElem? (i := 31) rfl)
theorem mw_597 : (.fieldLink RX12 58 "LeftArgumentsModel" "holding" "I" : Cond) ∈ lw_tbl := lw_rd_103 _ (List.mem_of_getElem? (i := 32) rfl)
theorem mw_875 : (.fieldLink RX12 62 "LeftArgumentsModel" "training" "I" : Cond) ∈ lw_tbl := lw_rd_103 _ (List.mem_of_getElem? (i := 33) rfl)
theorem mw_756 : (.fieldLink RX12 65 "LeftArgumentsModel" "grows" "[I" : Cond) ∈ lw_tbl := lw_rd_103 _ (List.mem_of_getElem? (i := 34) rfl)
theorem mw_746 : (.fieldLink RX12 309 "LeftArgumentsModel" "fell" "I" : Cond) ∈ lw_tbl := lw_rd_103 _ (List.mem_of_getElem? (i := 35) rfl)
theorem mw_751 : (.fieldLink RX12 306 "LeftArgumentsModel" "ended" "I" : Cond) ∈ lw_tbl := lw_rd_103 _ (List.mem_of_getElem? (i := 36) rfl)
theorem mw_763 : (.fieldLink RX12 68 "LeftArgumentsModel" "kept" "[I" : Cond) ∈ lw_tbl := lw_rd_103 _ (List.mem_of_getElem? (i := 37) rfl)
theorem mw_487 : (.fieldLink RX12 275 "LeftArgumentsModel" "acts" "I" : Cond) ∈ lw_tbl := lw_rd_103 _ (List.mem_of_getElem? (i := 38) rfl)
theorem mw_910 : (.fieldLink RX12 361 "LeftArgumentsModel" "draws" "J" : Cond) ∈ lw_tbl := lw_rd_103 _ (List.mem_of_getElem? (i := 39) rfl)
def lw_rb_104 : List Cond := [.fieldLink RX12 71 "LeftArgumentsModel" "aside" "[I", .fieldLink RX12 388 "LeftArgumentsModel" "bestRow" "I", .fieldLink RX12 391 "LeftArgumentsModel" "bestMany" "I", .fieldLink RX12 74 "LeftArgumentsModel" "onShelf" "[I", .fieldLink RX12 77 "LeftArgumentsModel" "room" "[I", .fieldLink RX12 80 "LeftArgumentsModel" "noteBag" "[I", .fieldLink RX12 83 "LeftArgumentsModel" "noteDays" "[I", .fieldLink RX12 86 "LeftArgumentsModel" "noteSize" "[I", .fieldLink RX12 89 "LeftArgumentsModel" "noteMore" "[Z", .fieldLink RX12 272 "LeftArgumentsModel" "noted" "I", .fieldLink RX12 93 "LeftArgumentsModel" "sizeBehind" "[I", .fieldLink RX12 96 "LeftArgumentsModel" "asked" "[I", .fieldLink RX12 99 "LeftArgumentsModel" "image" "[I", .fieldLink RX12 278 "LeftArgumentsModel" "hasImage" "Z"]
set_option maxRecDepth 100000 in
theorem lw_rc_104 : (List.drop 152 tables_1_6).take 14 = lw_rb_104 := rfl
theorem lw_rd_104 : ∀ w ∈ lw_rb_104, w ∈ lw_tbl := fun w h => lw_tm_6 w (List.mem_of_mem_drop (List.mem_of_mem_take (lw_rc_104 ▸ h)))
theorem mw_990 : (.fieldLink RX12 71 "LeftArgumentsModel" "aside" "[I" : Cond) ∈ lw_tbl := lw_rd_104 _ (List.mem_of_getElem? (i := 0) rfl)
theorem mw_1106 : (.fieldLink RX12 388 "LeftArgumentsModel" "bestRow" "I" : Cond) ∈ lw_tbl := lw_rd_104 _ (List.mem_of_getElem? (i := 1) rfl)
theorem mw_1105 : (.fieldLink RX12 391 "LeftArgumentsModel" "bestMany" "I" : Cond) ∈ lw_tbl := lw_rd_104 _ (List.mem_of_getElem? (i := 2) rfl)
theorem mw_1098 : (.fieldLink RX12 74 "LeftArgumentsModel" "onShelf" "[I" : Cond) ∈ lw_tbl := lw_rd_104 _ (List.mem_of_getElem? (i := 3) rfl)
theorem mw_1085 : (.fieldLink RX12 77 "LeftArgumentsModel" "room" "[I" : Cond) ∈ lw_tbl := lw_rd_104 _ (List.mem_of_getElem? (i := 4) rfl)
theorem mw_1181 : (.fieldLink RX12 80 "LeftArgumentsModel" "noteBag" "[I" : Cond) ∈ lw_tbl := lw_rd_104 _ (List.mem_of_getElem? (i := 5) rfl)
theorem mw_1180 : (.fieldLink RX12 83 "LeftArgumentsModel" "noteDays" "[I" : Cond) ∈ lw_tbl := lw_rd_104 _ (List.mem_of_getElem? (i := 6) rfl)
theorem mw_1179 : (.fieldLink RX12 86 "LeftArgumentsModel" "noteSize" "[I" : Cond) ∈ lw_tbl := lw_rd_104 _ (List.mem_of_getElem? (i := 7) rfl)
theorem mw_1178 : (.fieldLink RX12 89 "LeftArgumentsModel" "noteMore" "[Z" : Cond) ∈ lw_tbl := lw_rd_104 _ (List.mem_of_getElem? (i := 8) rfl)
theorem mw_488 : (.fieldLink RX12 272 "LeftArgumentsModel" "noted" "I" : Cond) ∈ lw_tbl := lw_rd_104 _ (List.mem_of_getElem? (i := 9) rfl)
theorem mw_1234 : (.fieldLink RX12 93 "LeftArgumentsModel" "sizeBehind" "[I" : Cond) ∈ lw_tbl := lw_rd_104 _ (List.mem_of_getElem? (i := 10) rfl)
theorem mw_1259 : (.fieldLink RX12 96 "LeftArgumentsModel" "asked" "[I" : Cond) ∈ lw_tbl := lw_rd_104 _ (List.mem_of_getElem? (i := 11) rfl)
theorem mw_1474 : (.fieldLink RX12 99 "LeftArgumentsModel" "image" "[I" : Cond) ∈ lw_tbl := lw_rd_104 _ (List.mem_of_getElem? (i := 12) rfl)
theorem mw_486 : (.fieldLink RX12 278 "LeftArgumentsModel" "hasImage" "Z" : Cond) ∈ lw_tbl := lw_rd_104 _ (List.mem_of_getElem? (i := 13) rfl)
def lw_rb_105 : List Cond := [.methodLink RL 23 yX12_feed, .instanceMethod yX12_feed, .selects RX12 yX12_feed yX12_feed, .code yX12_feed cX12_feed 9 (some .int), .methodLink RX12 105 yX12_byteOf, .static yX12_byteOf, .code yX12_byteOf cX12_byteOf 7 (some .int), .methodLink RL 28 yX12_end, .instanceMethod yX12_end, .selects RX12 yX12_end yX12_end, .code yX12_end cX12_end 2 (some .boolean), .methodLink RL 33 yX12_fault, .instanceMethod yX12_fault, .selects RX12 yX12_fault yX12_fault, .code yX12_fault cX12_fault 2 (some .int), .methodLink RX12 252 yX12_readOffice]
set_option maxRecDepth 100000 in
theorem lw_rc_105 : (List.drop 23 tables_1_7).take 16 = lw_rb_105 := rfl
theorem lw_rd_105 : ∀ w ∈ lw_rb_105, w ∈ lw_tbl := fun w h => lw_tm_7 w (List.mem_of_mem_drop (List.mem_of_mem_take (lw_rc_105 ▸ h)))
theorem mw_29 : (.methodLink RL 23 yX12_feed : Cond) ∈ lw_tbl := lw_rd_105 _ (List.mem_of_getElem? (i := 0) rfl)
theorem mw_28 : (.instanceMethod yX12_feed : Cond) ∈ lw_tbl := lw_rd_105 _ (List.mem_of_getElem? (i := 1) rfl)
theorem mw_27 : (.selects RX12 yX12_feed yX12_feed : Cond) ∈ lw_tbl := lw_rd_105 _ (List.mem_of_getElem? (i := 2) rfl)
theorem mw_26 : (.code yX12_feed cX12_feed 9 (some .int) : Cond) ∈ lw_tbl := lw_rd_105 _ (List.mem_of_getElem? (i := 3) rfl)
theorem mw_21 : (.methodLink RX12 105 yX12_byteOf : Cond) ∈ lw_tbl := lw_rd_105 _ (List.mem_of_getElem? (i := 4) rfl)
theorem mw_22 : (.static yX12_byteOf : Cond) ∈ lw_tbl := lw_rd_105 _ (List.mem_of_getElem? (i := 5) rfl)
theorem mw_24 : (.code yX12_byteOf cX12_byteOf 7 (some .int) : Cond) ∈ lw_tbl := lw_rd_105 _ (List.mem_of_getElem? (i := 6) rfl)
theorem mw_48 : (.methodLink RL 28 yX12_end : Cond) ∈ lw_tbl := lw_rd_105 _ (List.mem_of_getElem? (i := 7) rfl)
theorem mw_47 : (.instanceMethod yX12_end : Cond) ∈ lw_tbl := lw_rd_105 _ (List.mem_of_getElem? (i := 8) rfl)
theorem mw_46 : (.selects RX12 yX12_end yX12_end : Cond) ∈ lw_tbl := lw_rd_105 _ (List.mem_of_getElem? (i := 9) rfl)
theorem mw_45 : (.code yX12_end cX12_end 2 (some .boolean) : Cond) ∈ lw_tbl := lw_rd_105 _ (List.mem_of_getElem? (i := 10) rfl)
theorem mw_376 : (.methodLink RL 33 yX12_fault : Cond) ∈ lw_tbl := lw_rd_105 _ (List.mem_of_getElem? (i := 11) rfl)
theorem mw_375 : (.instanceMethod yX12_fault : Cond) ∈ lw_tbl := lw_rd_105 _ (List.mem_of_getElem? (i := 12) rfl)
theorem mw_374 : (.selects RX12 yX12_fault yX12_fault : Cond) ∈ lw_tbl := lw_rd_105 _ (List.mem_of_getElem? (i := 13) rfl)
theorem mw_373 : (.code yX12_fault cX12_fault 2 (some .int) : Cond) ∈ lw_tbl := lw_rd_105 _ (List.mem_of_getElem? (i := 14) rfl)
theorem mw_240 : (.methodLink RX12 252 yX12_readOffice : Cond) ∈ lw_tbl := lw_rd_105 _ (List.mem_of_getElem? (i := 15) rfl)
def lw_rb_106 : List Cond := [.instanceMethod yX12_readOffice, .code yX12_readOffice cX12_readOffice 4 (some .int), .methodLink RX12 221 yX12_usual, .static yX12_usual, .code yX12_usual cX12_usual 2 (some .int), .methodLink RX12 131 yX12_look]
set_option maxRecDepth 100000 in
theorem lw_rc_106 : (List.drop 40 tables_1_7).take 6 = lw_rb_106 := rfl
theorem lw_rd_106 : ∀ w ∈ lw_rb_106, w ∈ lw_tbl := fun w h => lw_tm_7 w (List.mem_of_mem_drop (List.mem_of_mem_take (lw_rc_106 ▸ h)))
theorem mw_242 : (.instanceMethod yX12_readOffice : Cond) ∈ lw_tbl := lw_rd_106 _ (List.mem_of_getElem? (i := 0) rfl)
theorem mw_276 : (.code yX12_readOffice cX12_readOffice 4 (some .int) : Cond) ∈ lw_tbl := lw_rd_106 _ (List.mem_of_getElem? (i := 1) rfl)
theorem mw_271 : (.methodLink RX12 221 yX12_usual : Cond) ∈ lw_tbl := lw_rd_106 _ (List.mem_of_getElem? (i := 2) rfl)
theorem mw_272 : (.static yX12_usual : Cond) ∈ lw_tbl := lw_rd_106 _ (List.mem_of_getElem? (i := 3) rfl)
theorem mw_273 : (.code yX12_usual cX12_usual 2 (some .int) : Cond) ∈ lw_tbl := lw_rd_106 _ (List.mem_of_getElem? (i := 4) rfl)
theorem mw_353 : (.methodLink RX12 131 yX12_look : Cond) ∈ lw_tbl := lw_rd_106 _ (List.mem_of_getElem? (i := 5) rfl)
def lw_rb_107 : List Cond := [.instanceMethod yX12_look, .code yX12_look cX12_look 1 (some .int), .methodLink RX12 115 yX12_here]
set_option maxRecDepth 100000 in
theorem lw_rc_107 : (List.drop 47 tables_1_7).take 3 = lw_rb_107 := rfl
theorem lw_rd_107 : ∀ w ∈ lw_rb_107, w ∈ lw_tbl := fun w h => lw_tm_7 w (List.mem_of_mem_drop (List.mem_of_mem_take (lw_rc_107 ▸ h)))
theorem mw_355 : (.instanceMethod yX12_look : Cond) ∈ lw_tbl := lw_rd_107 _ (List.mem_of_getElem? (i := 0) rfl)
theorem mw_360 : (.code yX12_look cX12_look 1 (some .int) : Cond) ∈ lw_tbl := lw_rd_107 _ (List.mem_of_getElem? (i := 1) rfl)
theorem mw_356 : (.methodLink RX12 115 yX12_here : Cond) ∈ lw_tbl := lw_rd_107 _ (List.mem_of_getElem? (i := 2) rfl)
def lw_rb_108 : List Cond := [.instanceMethod yX12_here, .code yX12_here cX12_here 1 (some .int), .methodLink RX12 244 yX12_items]
set_option maxRecDepth 100000 in
theorem lw_rc_108 : (List.drop 51 tables_1_7).take 3 = lw_rb_108 := rfl
theorem lw_rd_108 : ∀ w ∈ lw_rb_108, w ∈ lw_tbl := fun w h => lw_tm_7 w (List.mem_of_mem_drop (List.mem_of_mem_take (lw_rc_108 ▸ h)))
theorem mw_358 : (.instanceMethod yX12_here : Cond) ∈ lw_tbl := lw_rd_108 _ (List.mem_of_getElem? (i := 0) rfl)
theorem mw_359 : (.code yX12_here cX12_here 1 (some .int) : Cond) ∈ lw_tbl := lw_rd_108 _ (List.mem_of_getElem? (i := 1) rfl)
theorem mw_247 : (.methodLink RX12 244 yX12_items : Cond) ∈ lw_tbl := lw_rd_108 _ (List.mem_of_getElem? (i := 2) rfl)
def lw_rb_109 : List Cond := [.instanceMethod yX12_items, .code yX12_items cX12_items 7 none, .methodLink RX12 225 yX12_itemOf, .static yX12_itemOf, .code yX12_itemOf cX12_itemOf 2 (some .int), .methodLink RX12 228 yX12_has, .static yX12_has, .code yX12_has cX12_has 2 (some .boolean), .methodLink RX12 232 yX12_lowest, .static yX12_lowest, .code yX12_lowest cX12_lowest 2 (some .int), .methodLink RX12 235 yX12_highest, .static yX12_highest, .code yX12_highest cX12_highest 2 (some .int), .methodLink RX12 238 yX12_number]
set_option maxRecDepth 100000 in
theorem lw_rc_109 : (List.drop 55 tables_1_7).take 15 = lw_rb_109 := rfl
theorem lw_rd_109 : ∀ w ∈ lw_rb_109, w ∈ lw_tbl := fun w h => lw_tm_7 w (List.mem_of_mem_drop (List.mem_of_mem_take (lw_rc_109 ▸ h)))
theorem mw_249 : (.instanceMethod yX12_items : Cond) ∈ lw_tbl := lw_rd_109 _ (List.mem_of_getElem? (i := 0) rfl)
theorem mw_269 : (.code yX12_items cX12_items 7 none : Cond) ∈ lw_tbl := lw_rd_109 _ (List.mem_of_getElem? (i := 1) rfl)
theorem mw_266 : (.methodLink RX12 225 yX12_itemOf : Cond) ∈ lw_tbl := lw_rd_109 _ (List.mem_of_getElem? (i := 2) rfl)
theorem mw_267 : (.static yX12_itemOf : Cond) ∈ lw_tbl := lw_rd_109 _ (List.mem_of_getElem? (i := 3) rfl)
theorem mw_268 : (.code yX12_itemOf cX12_itemOf 2 (some .int) : Cond) ∈ lw_tbl := lw_rd_109 _ (List.mem_of_getElem? (i := 4) rfl)
theorem mw_263 : (.methodLink RX12 228 yX12_has : Cond) ∈ lw_tbl := lw_rd_109 _ (List.mem_of_getElem? (i := 5) rfl)
theorem mw_264 : (.static yX12_has : Cond) ∈ lw_tbl := lw_rd_109 _ (List.mem_of_getElem? (i := 6) rfl)
theorem mw_265 : (.code yX12_has cX12_has 2 (some .boolean) : Cond) ∈ lw_tbl := lw_rd_109 _ (List.mem_of_getElem? (i := 7) rfl)
theorem mw_260 : (.methodLink RX12 232 yX12_lowest : Cond) ∈ lw_tbl := lw_rd_109 _ (List.mem_of_getElem? (i := 8) rfl)
theorem mw_261 : (.static yX12_lowest : Cond) ∈ lw_tbl := lw_rd_109 _ (List.mem_of_getElem? (i := 9) rfl)
theorem mw_262 : (.code yX12_lowest cX12_lowest 2 (some .int) : Cond) ∈ lw_tbl := lw_rd_109 _ (List.mem_of_getElem? (i := 10) rfl)
theorem mw_257 : (.methodLink RX12 235 yX12_highest : Cond) ∈ lw_tbl := lw_rd_109 _ (List.mem_of_getElem? (i := 11) rfl)
theorem mw_258 : (.static yX12_highest : Cond) ∈ lw_tbl := lw_rd_109 _ (List.mem_of_getElem? (i := 12) rfl)
theorem mw_259 : (.code yX12_highest cX12_highest 2 (some .int) : Cond) ∈ lw_tbl := lw_rd_109 _ (List.mem_of_getElem? (i := 13) rfl)
theorem mw_250 : (.methodLink RX12 238 yX12_number : Cond) ∈ lw_tbl := lw_rd_109 _ (List.mem_of_getElem? (i := 14) rfl)
def lw_rb_110 : List Cond := [.instanceMethod yX12_number, .code yX12_number cX12_number 4 (some .int), .methodLink RX12 134 yX12_isDigit, .static yX12_isDigit, .code yX12_isDigit cX12_isDigit 1 (some .boolean), .methodLink RX12 128 yX12_bad]
set_option maxRecDepth 100000 in
theorem lw_rc_110 : (List.drop 71 tables_1_7).take 6 = lw_rb_110 := rfl
theorem lw_rd_110 : ∀ w ∈ lw_rb_110, w ∈ lw_tbl := fun w h => lw_tm_7 w (List.mem_of_mem_drop (List.mem_of_mem_take (lw_rc_110 ▸ h)))
theorem mw_252 : (.instanceMethod yX12_number : Cond) ∈ lw_tbl := lw_rd_110 _ (List.mem_of_getElem? (i := 0) rfl)
theorem mw_256 : (.code yX12_number cX12_number 4 (some .int) : Cond) ∈ lw_tbl := lw_rd_110 _ (List.mem_of_getElem? (i := 1) rfl)
theorem mw_340 : (.methodLink RX12 134 yX12_isDigit : Cond) ∈ lw_tbl := lw_rd_110 _ (List.mem_of_getElem? (i := 2) rfl)
theorem mw_341 : (.static yX12_isDigit : Cond) ∈ lw_tbl := lw_rd_110 _ (List.mem_of_getElem? (i := 3) rfl)
theorem mw_342 : (.code yX12_isDigit cX12_isDigit 1 (some .boolean) : Cond) ∈ lw_tbl := lw_rd_110 _ (List.mem_of_getElem? (i := 4) rfl)
theorem mw_349 : (.methodLink RX12 128 yX12_bad : Cond) ∈ lw_tbl := lw_rd_110 _ (List.mem_of_getElem? (i := 5) rfl)
def lw_rb_111 : List Cond := [.instanceMethod yX12_bad, .code yX12_bad cX12_bad 1 none, .methodLink RX12 217 yX12_in, .static yX12_in, .code yX12_in cX12_in 3 (some .boolean), .methodLink RX12 248 yX12_isWhole]
set_option maxRecDepth 100000 in
theorem lw_rc_111 : (List.drop 78 tables_1_7).take 6 = lw_rb_111 := rfl
theorem lw_rd_111 : ∀ w ∈ lw_rb_111, w ∈ lw_tbl := fun w h => lw_tm_7 w (List.mem_of_mem_drop (List.mem_of_mem_take (lw_rc_111 ▸ h)))
theorem mw_351 : (.instanceMethod yX12_bad : Cond) ∈ lw_tbl := lw_rd_111 _ (List.mem_of_getElem? (i := 0) rfl)
theorem mw_352 : (.code yX12_bad cX12_bad 1 none : Cond) ∈ lw_tbl := lw_rd_111 _ (List.mem_of_getElem? (i := 1) rfl)
theorem mw_253 : (.methodLink RX12 217 yX12_in : Cond) ∈ lw_tbl := lw_rd_111 _ (List.mem_of_getElem? (i := 2) rfl)
theorem mw_254 : (.static yX12_in : Cond) ∈ lw_tbl := lw_rd_111 _ (List.mem_of_getElem? (i := 3) rfl)
theorem mw_255 : (.code yX12_in cX12_in 3 (some .boolean) : Cond) ∈ lw_tbl := lw_rd_111 _ (List.mem_of_getElem? (i := 4) rfl)
theorem mw_243 : (.methodLink RX12 248 yX12_isWhole : Cond) ∈ lw_tbl := lw_rd_111 _ (List.mem_of_getElem? (i := 5) rfl)
def lw_rb_112 : List Cond := [.instanceMethod yX12_isWhole, .code yX12_isWhole cX12_isWhole 3 (some .boolean), .methodLink RX12 255 yX12_readLaw]
set_option maxRecDepth 100000 in
theorem lw_rc_112 : (List.drop 85 tables_1_7).take 3 = lw_rb_112 := rfl
theorem lw_rd_112 : ∀ w ∈ lw_rb_112, w ∈ lw_tbl := fun w h => lw_tm_7 w (List.mem_of_mem_drop (List.mem_of_mem_take (lw_rc_112 ▸ h)))
theorem mw_245 : (.instanceMethod yX12_isWhole : Cond) ∈ lw_tbl := lw_rd_112 _ (List.mem_of_getElem? (i := 0) rfl)
theorem mw_246 : (.code yX12_isWhole cX12_isWhole 3 (some .boolean) : Cond) ∈ lw_tbl := lw_rd_112 _ (List.mem_of_getElem? (i := 1) rfl)
theorem mw_277 : (.methodLink RX12 255 yX12_readLaw : Cond) ∈ lw_tbl := lw_rd_112 _ (List.mem_of_getElem? (i := 2) rfl)
def lw_rb_113 : List Cond := [.instanceMethod yX12_readLaw, .code yX12_readLaw cX12_readLaw 2 (some .int), .methodLink RX12 183 yX12_open]
set_option maxRecDepth 100000 in
theorem lw_rc_113 : (List.drop 89 tables_1_7).take 3 = lw_rb_113 := rfl
theorem lw_rd_113 : ∀ w ∈ lw_rb_113, w ∈ lw_tbl := fun w h => lw_tm_7 w (List.mem_of_mem_drop (List.mem_of_mem_take (lw_rc_113 ▸ h)))
theorem mw_279 : (.instanceMethod yX12_readLaw : Cond) ∈ lw_tbl := lw_rd_113 _ (List.mem_of_getElem? (i := 0) rfl)
theorem mw_372 : (.code yX12_readLaw cX12_readLaw 2 (some .int) : Cond) ∈ lw_tbl := lw_rd_113 _ (List.mem_of_getElem? (i := 1) rfl)
theorem mw_362 : (.methodLink RX12 183 yX12_open : Cond) ∈ lw_tbl := lw_rd_113 _ (List.mem_of_getElem? (i := 2) rfl)
def lw_rb_114 : List Cond := [.instanceMethod yX12_open, .code yX12_open cX12_open 2 none, .methodLink RX12 186 yX12_clause]
set_option maxRecDepth 100000 in
theorem lw_rc_114 : (List.drop 93 tables_1_7).take 3 = lw_rb_114 := rfl
theorem lw_rd_114 : ∀ w ∈ lw_rb_114, w ∈ lw_tbl := fun w h => lw_tm_7 w (List.mem_of_mem_drop (List.mem_of_mem_take (lw_rc_114 ▸ h)))
theorem mw_364 : (.instanceMethod yX12_open : Cond) ∈ lw_tbl := lw_rd_114 _ (List.mem_of_getElem? (i := 0) rfl)
theorem mw_371 : (.code yX12_open cX12_open 2 none : Cond) ∈ lw_tbl := lw_rd_114 _ (List.mem_of_getElem? (i := 1) rfl)
theorem mw_284 : (.methodLink RX12 186 yX12_clause : Cond) ∈ lw_tbl := lw_rd_114 _ (List.mem_of_getElem? (i := 2) rfl)
def lw_rb_115 : List Cond := [.instanceMethod yX12_clause, .code yX12_clause cX12_clause 3 none, .methodLink RX12 171 yX12_condition]
set_option maxRecDepth 100000 in
theorem lw_rc_115 : (List.drop 97 tables_1_7).take 3 = lw_rb_115 := rfl
theorem lw_rd_115 : ∀ w ∈ lw_rb_115, w ∈ lw_tbl := fun w h => lw_tm_7 w (List.mem_of_mem_drop (List.mem_of_mem_take (lw_rc_115 ▸ h)))
theorem mw_286 : (.instanceMethod yX12_clause : Cond) ∈ lw_tbl := lw_rd_115 _ (List.mem_of_getElem? (i := 0) rfl)
theorem mw_361 : (.code yX12_clause cX12_clause 3 none : Cond) ∈ lw_tbl := lw_rd_115 _ (List.mem_of_getElem? (i := 1) rfl)
theorem mw_287 : (.methodLink RX12 171 yX12_condition : Cond) ∈ lw_tbl := lw_rd_115 _ (List.mem_of_getElem? (i := 2) rfl)
def lw_rb_116 : List Cond := [.instanceMethod yX12_condition, .code yX12_condition cX12_condition 1 none, .methodLink RX12 168 yX12_unit]
set_option maxRecDepth 100000 in
theorem lw_rc_116 : (List.drop 101 tables_1_7).take 3 = lw_rb_116 := rfl
theorem lw_rd_116 : ∀ w ∈ lw_rb_116, w ∈ lw_tbl := fun w h => lw_tm_7 w (List.mem_of_mem_drop (List.mem_of_mem_take (lw_rc_116 ▸ h)))
theorem mw_289 : (.instanceMethod yX12_condition : Cond) ∈ lw_tbl := lw_rd_116 _ (List.mem_of_getElem? (i := 0) rfl)
theorem mw_300 : (.code yX12_condition cX12_condition 1 none : Cond) ∈ lw_tbl := lw_rd_116 _ (List.mem_of_getElem? (i := 1) rfl)
theorem mw_297 : (.methodLink RX12 168 yX12_unit : Cond) ∈ lw_tbl := lw_rd_116 _ (List.mem_of_getElem? (i := 2) rfl)
def lw_rb_117 : List Cond := [.instanceMethod yX12_unit, .code yX12_unit cX12_unit 2 none, .methodLink RX12 149 yX12_opens]
set_option maxRecDepth 100000 in
theorem lw_rc_117 : (List.drop 105 tables_1_7).take 3 = lw_rb_117 := rfl
theorem lw_rd_117 : ∀ w ∈ lw_rb_117, w ∈ lw_tbl := fun w h => lw_tm_7 w (List.mem_of_mem_drop (List.mem_of_mem_take (lw_rc_117 ▸ h)))
theorem mw_299 : (.instanceMethod yX12_unit : Cond) ∈ lw_tbl := lw_rd_117 _ (List.mem_of_getElem? (i := 0) rfl)
theorem mw_301 : (.code yX12_unit cX12_unit 2 none : Cond) ∈ lw_tbl := lw_rd_117 _ (List.mem_of_getElem? (i := 1) rfl)
theorem mw_333 : (.methodLink RX12 149 yX12_opens : Cond) ∈ lw_tbl := lw_rd_117 _ (List.mem_of_getElem? (i := 2) rfl)
def lw_rb_118 : List Cond := [.instanceMethod yX12_opens, .code yX12_opens cX12_opens 1 none, .methodLink RX12 141 yX12_put]
set_option maxRecDepth 100000 in
theorem lw_rc_118 : (List.drop 109 tables_1_7).take 3 = lw_rb_118 := rfl
theorem lw_rd_118 : ∀ w ∈ lw_rb_118, w ∈ lw_tbl := fun w h => lw_tm_7 w (List.mem_of_mem_drop (List.mem_of_mem_take (lw_rc_118 ▸ h)))
theorem mw_335 : (.instanceMethod yX12_opens : Cond) ∈ lw_tbl := lw_rd_118 _ (List.mem_of_getElem? (i := 0) rfl)
theorem mw_336 : (.code yX12_opens cX12_opens 1 none : Cond) ∈ lw_tbl := lw_rd_118 _ (List.mem_of_getElem? (i := 1) rfl)
theorem mw_327 : (.methodLink RX12 141 yX12_put : Cond) ∈ lw_tbl := lw_rd_118 _ (List.mem_of_getElem? (i := 2) rfl)
def lw_rb_119 : List Cond := [.instanceMethod yX12_put, .code yX12_put cX12_put 3 none, .methodLink RX12 155 yX12_closes]
set_option maxRecDepth 100000 in
theorem lw_rc_119 : (List.drop 113 tables_1_7).take 3 = lw_rb_119 := rfl
theorem lw_rd_119 : ∀ w ∈ lw_rb_119, w ∈ lw_tbl := fun w h => lw_tm_7 w (List.mem_of_mem_drop (List.mem_of_mem_take (lw_rc_119 ▸ h)))
theorem mw_329 : (.instanceMethod yX12_put : Cond) ∈ lw_tbl := lw_rd_119 _ (List.mem_of_getElem? (i := 0) rfl)
theorem mw_332 : (.code yX12_put cX12_put 3 none : Cond) ∈ lw_tbl := lw_rd_119 _ (List.mem_of_getElem? (i := 1) rfl)
theorem mw_310 : (.methodLink RX12 155 yX12_closes : Cond) ∈ lw_tbl := lw_rd_119 _ (List.mem_of_getElem? (i := 2) rfl)
def lw_rb_120 : List Cond := [.instanceMethod yX12_closes, .code yX12_closes cX12_closes 2 none, .methodLink RX12 152 yX12_sum]
set_option maxRecDepth 100000 in
theorem lw_rc_120 : (List.drop 117 tables_1_7).take 3 = lw_rb_120 := rfl
theorem lw_rd_120 : ∀ w ∈ lw_rb_120, w ∈ lw_tbl := fun w h => lw_tm_7 w (List.mem_of_mem_drop (List.mem_of_mem_take (lw_rc_120 ▸ h)))
theorem mw_312 : (.instanceMethod yX12_closes : Cond) ∈ lw_tbl := lw_rd_120 _ (List.mem_of_getElem? (i := 0) rfl)
theorem mw_313 : (.code yX12_closes cX12_closes 2 none : Cond) ∈ lw_tbl := lw_rd_120 _ (List.mem_of_getElem? (i := 1) rfl)
theorem mw_314 : (.methodLink RX12 152 yX12_sum : Cond) ∈ lw_tbl := lw_rd_120 _ (List.mem_of_getElem? (i := 2) rfl)
def lw_rb_121 : List Cond := [.instanceMethod yX12_sum, .code yX12_sum cX12_sum 2 none, .methodLink RX12 162 yX12_term]
set_option maxRecDepth 100000 in
theorem lw_rc_121 : (List.drop 121 tables_1_7).take 3 = lw_rb_121 := rfl
theorem lw_rd_121 : ∀ w ∈ lw_rb_121, w ∈ lw_tbl := fun w h => lw_tm_7 w (List.mem_of_mem_drop (List.mem_of_mem_take (lw_rc_121 ▸ h)))
theorem mw_316 : (.instanceMethod yX12_sum : Cond) ∈ lw_tbl := lw_rd_121 _ (List.mem_of_getElem? (i := 0) rfl)
theorem mw_345 : (.code yX12_sum cX12_sum 2 none : Cond) ∈ lw_tbl := lw_rd_121 _ (List.mem_of_getElem? (i := 1) rfl)
theorem mw_317 : (.methodLink RX12 162 yX12_term : Cond) ∈ lw_tbl := lw_rd_121 _ (List.mem_of_getElem? (i := 2) rfl)
def lw_rb_122 : List Cond := [.instanceMethod yX12_term, .code yX12_term cX12_term 2 none, .methodLink RX12 159 yX12_atom]
set_option maxRecDepth 100000 in
theorem lw_rc_122 : (List.drop 125 tables_1_7).take 3 = lw_rb_122 := rfl
theorem lw_rd_122 : ∀ w ∈ lw_rb_122, w ∈ lw_tbl := fun w h => lw_tm_7 w (List.mem_of_mem_drop (List.mem_of_mem_take (lw_rc_122 ▸ h)))
theorem mw_319 : (.instanceMethod yX12_term : Cond) ∈ lw_tbl := lw_rd_122 _ (List.mem_of_getElem? (i := 0) rfl)
theorem mw_344 : (.code yX12_term cX12_term 2 none : Cond) ∈ lw_tbl := lw_rd_122 _ (List.mem_of_getElem? (i := 1) rfl)
theorem mw_320 : (.methodLink RX12 159 yX12_atom : Cond) ∈ lw_tbl := lw_rd_122 _ (List.mem_of_getElem? (i := 2) rfl)
def lw_rb_123 : List Cond := [.instanceMethod yX12_atom, .code yX12_atom cX12_atom 2 none, .methodLink RX12 138 yX12_plainNumber]
set_option maxRecDepth 100000 in
theorem lw_rc_123 : (List.drop 129 tables_1_7).take 3 = lw_rb_123 := rfl
theorem lw_rd_123 : ∀ w ∈ lw_rb_123, w ∈ lw_tbl := fun w h => lw_tm_7 w (List.mem_of_mem_drop (List.mem_of_mem_take (lw_rc_123 ▸ h)))
theorem mw_322 : (.instanceMethod yX12_atom : Cond) ∈ lw_tbl := lw_rd_123 _ (List.mem_of_getElem? (i := 0) rfl)
theorem mw_343 : (.code yX12_atom cX12_atom 2 none : Cond) ∈ lw_tbl := lw_rd_123 _ (List.mem_of_getElem? (i := 1) rfl)
theorem mw_323 : (.methodLink RX12 138 yX12_plainNumber : Cond) ∈ lw_tbl := lw_rd_123 _ (List.mem_of_getElem? (i := 2) rfl)
def lw_rb_124 : List Cond := [.instanceMethod yX12_plainNumber, .code yX12_plainNumber cX12_plainNumber 3 (some .int), .methodLink RX12 145 yX12_letterOf, .static yX12_letterOf, .code yX12_letterOf cX12_letterOf 1 (some .int), .methodLink RX12 174 yX12_compare]
set_option maxRecDepth 100000 in
theorem lw_rc_124 : (List.drop 133 tables_1_7).take 6 = lw_rb_124 := rfl
theorem lw_rd_124 : ∀ w ∈ lw_rb_124, w ∈ lw_tbl := fun w h => lw_tm_7 w (List.mem_of_mem_drop (List.mem_of_mem_take (lw_rc_124 ▸ h)))
theorem mw_325 : (.instanceMethod yX12_plainNumber : Cond) ∈ lw_tbl := lw_rd_124 _ (List.mem_of_getElem? (i := 0) rfl)
theorem mw_326 : (.code yX12_plainNumber cX12_plainNumber 3 (some .int) : Cond) ∈ lw_tbl := lw_rd_124 _ (List.mem_of_getElem? (i := 1) rfl)
theorem mw_337 : (.methodLink RX12 145 yX12_letterOf : Cond) ∈ lw_tbl := lw_rd_124 _ (List.mem_of_getElem? (i := 2) rfl)
theorem mw_338 : (.static yX12_letterOf : Cond) ∈ lw_tbl := lw_rd_124 _ (List.mem_of_getElem? (i := 3) rfl)
theorem mw_339 : (.code yX12_letterOf cX12_letterOf 1 (some .int) : Cond) ∈ lw_tbl := lw_rd_124 _ (List.mem_of_getElem? (i := 4) rfl)
theorem mw_303 : (.methodLink RX12 174 yX12_compare : Cond) ∈ lw_tbl := lw_rd_124 _ (List.mem_of_getElem? (i := 5) rfl)
def lw_rb_125 : List Cond := [.instanceMethod yX12_compare, .code yX12_compare cX12_compare 2 none, .methodLink RX12 165 yX12_isSign, .static yX12_isSign, .code yX12_isSign cX12_isSign 1 (some .boolean), .methodLink RX12 177 yX12_goOnAnd]
set_option maxRecDepth 100000 in
theorem lw_rc_125 : (List.drop 140 tables_1_7).take 6 = lw_rb_125 := rfl
theorem lw_rd_125 : ∀ w ∈ lw_rb_125, w ∈ lw_tbl := fun w h => lw_tm_7 w (List.mem_of_mem_drop (List.mem_of_mem_take (lw_rc_125 ▸ h)))
theorem mw_305 : (.instanceMethod yX12_compare : Cond) ∈ lw_tbl := lw_rd_125 _ (List.mem_of_getElem? (i := 0) rfl)
theorem mw_306 : (.code yX12_compare cX12_compare 2 none : Cond) ∈ lw_tbl := lw_rd_125 _ (List.mem_of_getElem? (i := 1) rfl)
theorem mw_307 : (.methodLink RX12 165 yX12_isSign : Cond) ∈ lw_tbl := lw_rd_125 _ (List.mem_of_getElem? (i := 2) rfl)
theorem mw_308 : (.static yX12_isSign : Cond) ∈ lw_tbl := lw_rd_125 _ (List.mem_of_getElem? (i := 3) rfl)
theorem mw_309 : (.code yX12_isSign cX12_isSign 1 (some .boolean) : Cond) ∈ lw_tbl := lw_rd_125 _ (List.mem_of_getElem? (i := 4) rfl)
theorem mw_294 : (.methodLink RX12 177 yX12_goOnAnd : Cond) ∈ lw_tbl := lw_rd_125 _ (List.mem_of_getElem? (i := 5) rfl)
def lw_rb_126 : List Cond := [.instanceMethod yX12_goOnAnd, .code yX12_goOnAnd cX12_goOnAnd 1 none, .methodLink RX12 180 yX12_goOnOr]
set_option maxRecDepth 100000 in
theorem lw_rc_126 : (List.drop 147 tables_1_7).take 3 = lw_rb_126 := rfl
theorem lw_rd_126 : ∀ w ∈ lw_rb_126, w ∈ lw_tbl := fun w h => lw_tm_7 w (List.mem_of_mem_drop (List.mem_of_mem_take (lw_rc_126 ▸ h)))
theorem mw_296 : (.instanceMethod yX12_goOnAnd : Cond) ∈ lw_tbl := lw_rd_126 _ (List.mem_of_getElem? (i := 0) rfl)
theorem mw_302 : (.code yX12_goOnAnd cX12_goOnAnd 1 none : Cond) ∈ lw_tbl := lw_rd_126 _ (List.mem_of_getElem? (i := 1) rfl)
theorem mw_290 : (.methodLink RX12 180 yX12_goOnOr : Cond) ∈ lw_tbl := lw_rd_126 _ (List.mem_of_getElem? (i := 2) rfl)
def lw_rb_127 : List Cond := [.instanceMethod yX12_goOnOr, .code yX12_goOnOr cX12_goOnOr 1 none, .methodLink RX12 189 yX12_atEnd]
set_option maxRecDepth 100000 in
theorem lw_rc_127 : (List.drop 151 tables_1_7).take 3 = lw_rb_127 := rfl
theorem lw_rd_127 : ∀ w ∈ lw_rb_127, w ∈ lw_tbl := fun w h => lw_tm_7 w (List.mem_of_mem_drop (List.mem_of_mem_take (lw_rc_127 ▸ h)))
theorem mw_292 : (.instanceMethod yX12_goOnOr : Cond) ∈ lw_tbl := lw_rd_127 _ (List.mem_of_getElem? (i := 0) rfl)
theorem mw_293 : (.code yX12_goOnOr cX12_goOnOr 1 none : Cond) ∈ lw_tbl := lw_rd_127 _ (List.mem_of_getElem? (i := 1) rfl)
theorem mw_280 : (.methodLink RX12 189 yX12_atEnd : Cond) ∈ lw_tbl := lw_rd_127 _ (List.mem_of_getElem? (i := 2) rfl)
def lw_rb_128 : List Cond := [.instanceMethod yX12_atEnd, .code yX12_atEnd cX12_atEnd 1 (some .int), .methodLink RL 37 yX12_text, .instanceMethod yX12_text, .selects RX12 yX12_text yX12_text, .code yX12_text cX12_text 2 (some .int), .methodLink RX12 281 yX12_takeOffice]
set_option maxRecDepth 100000 in
theorem lw_rc_128 : (List.drop 155 tables_1_7).take 7 = lw_rb_128 := rfl
theorem lw_rd_128 : ∀ w ∈ lw_rb_128, w ∈ lw_tbl := fun w h => lw_tm_7 w (List.mem_of_mem_drop (List.mem_of_mem_take (lw_rc_128 ▸ h)))
theorem mw_282 : (.instanceMethod yX12_atEnd : Cond) ∈ lw_tbl := lw_rd_128 _ (List.mem_of_getElem? (i := 0) rfl)
theorem mw_283 : (.code yX12_atEnd cX12_atEnd 1 (some .int) : Cond) ∈ lw_tbl := lw_rd_128 _ (List.mem_of_getElem? (i := 1) rfl)
theorem mw_498 : (.methodLink RL 37 yX12_text : Cond) ∈ lw_tbl := lw_rd_128 _ (List.mem_of_getElem? (i := 2) rfl)
theorem mw_497 : (.instanceMethod yX12_text : Cond) ∈ lw_tbl := lw_rd_128 _ (List.mem_of_getElem? (i := 3) rfl)
theorem mw_496 : (.selects RX12 yX12_text yX12_text : Cond) ∈ lw_tbl := lw_rd_128 _ (List.mem_of_getElem? (i := 4) rfl)
theorem mw_495 : (.code yX12_text cX12_text 2 (some .int) : Cond) ∈ lw_tbl := lw_rd_128 _ (List.mem_of_getElem? (i := 5) rfl)
theorem mw_474 : (.methodLink RX12 281 yX12_takeOffice : Cond) ∈ lw_tbl := lw_rd_128 _ (List.mem_of_getElem? (i := 6) rfl)
def lw_rb_129 : List Cond := [.instanceMethod yX12_takeOffice, .code yX12_takeOffice cX12_takeOffice 2 (some .int), .methodLink RX12 269 yX12_layBag]
set_option maxRecDepth 100000 in
theorem lw_rc_129 : (List.drop 163 tables_1_7).take 3 = lw_rb_129 := rfl
theorem lw_rd_129 : ∀ w ∈ lw_rb_129, w ∈ lw_tbl := fun w h => lw_tm_7 w (List.mem_of_mem_drop (List.mem_of_mem_take (lw_rc_129 ▸ h)))
theorem mw_476 : (.instanceMethod yX12_takeOffice : Cond) ∈ lw_tbl := lw_rd_129 _ (List.mem_of_getElem? (i := 0) rfl)
theorem mw_493 : (.code yX12_takeOffice cX12_takeOffice 2 (some .int) : Cond) ∈ lw_tbl := lw_rd_129 _ (List.mem_of_getElem? (i := 1) rfl)
theorem mw_477 : (.methodLink RX12 269 yX12_layBag : Cond) ∈ lw_tbl := lw_rd_129 _ (List.mem_of_getElem? (i := 2) rfl)
def lw_rb_130 : List Cond := [.instanceMethod yX12_layBag, .code yX12_layBag cX12_layBag 3 none, .methodLink RX12 258 yX12_set]
set_option maxRecDepth 100000 in
theorem lw_rc_130 : (List.drop 167 tables_1_7).take 3 = lw_rb_130 := rfl
theorem lw_rd_130 : ∀ w ∈ lw_rb_130, w ∈ lw_tbl := fun w h => lw_tm_7 w (List.mem_of_mem_drop (List.mem_of_mem_take (lw_rc_130 ▸ h)))
theorem mw_479 : (.instanceMethod yX12_layBag : Cond) ∈ lw_tbl := lw_rd_130 _ (List.mem_of_getElem? (i := 0) rfl)
theorem mw_485 : (.code yX12_layBag cX12_layBag 3 none : Cond) ∈ lw_tbl := lw_rd_130 _ (List.mem_of_getElem? (i := 1) rfl)
theorem mw_480 : (.methodLink RX12 258 yX12_set : Cond) ∈ lw_tbl := lw_rd_130 _ (List.mem_of_getElem? (i := 2) rfl)
def lw_rb_131 : List Cond := [.instanceMethod yX12_set, .code yX12_set cX12_set 4 none, .methodLink RL 41 yX12_rule, .instanceMethod yX12_rule, .selects RX12 yX12_rule yX12_rule, .code yX12_rule cX12_rule 2 (some .int), .methodLink RL 47 yX12_bag, .instanceMethod yX12_bag, .selects RX12 yX12_bag yX12_bag, .code yX12_bag cX12_bag 3 (some .int), .methodLink RX12 290 yX12_isThere]
set_option maxRecDepth 100000 in
theorem lw_rc_131 : (List.drop 171 tables_1_7).take 11 = lw_rb_131 := rfl
theorem lw_rd_131 : ∀ w ∈ lw_rb_131, w ∈ lw_tbl := fun w h => lw_tm_7 w (List.mem_of_mem_drop (List.mem_of_mem_take (lw_rc_131 ▸ h)))
theorem mw_482 : (.instanceMethod yX12_set : Cond) ∈ lw_tbl := lw_rd_131 _ (List.mem_of_getElem? (i := 0) rfl)
theorem mw_483 : (.code yX12_set cX12_set 4 none : Cond) ∈ lw_tbl := lw_rd_131 _ (List.mem_of_getElem? (i := 1) rfl)
theorem mw_515 : (.methodLink RL 41 yX12_rule : Cond) ∈ lw_tbl := lw_rd_131 _ (List.mem_of_getElem? (i := 2) rfl)
theorem mw_514 : (.instanceMethod yX12_rule : Cond) ∈ lw_tbl := lw_rd_131 _ (List.mem_of_getElem? (i := 3) rfl)
theorem mw_513 : (.selects RX12 yX12_rule yX12_rule : Cond) ∈ lw_tbl := lw_rd_131 _ (List.mem_of_getElem? (i := 4) rfl)
theorem mw_512 : (.code yX12_rule cX12_rule 2 (some .int) : Cond) ∈ lw_tbl := lw_rd_131 _ (List.mem_of_getElem? (i := 5) rfl)
theorem mw_615 : (.methodLink RL 47 yX12_bag : Cond) ∈ lw_tbl := lw_rd_131 _ (List.mem_of_getElem? (i := 6) rfl)
theorem mw_614 : (.instanceMethod yX12_bag : Cond) ∈ lw_tbl := lw_rd_131 _ (List.mem_of_getElem? (i := 7) rfl)
theorem mw_613 : (.selects RX12 yX12_bag yX12_bag : Cond) ∈ lw_tbl := lw_rd_131 _ (List.mem_of_getElem? (i := 8) rfl)
theorem mw_612 : (.code yX12_bag cX12_bag 3 (some .int) : Cond) ∈ lw_tbl := lw_rd_131 _ (List.mem_of_getElem? (i := 9) rfl)
theorem mw_604 : (.methodLink RX12 290 yX12_isThere : Cond) ∈ lw_tbl := lw_rd_131 _ (List.mem_of_getElem? (i := 10) rfl)
def lw_rb_132 : List Cond := [.instanceMethod yX12_isThere, .code yX12_isThere cX12_isThere 2 (some .boolean), .methodLink RX12 287 yX12_of]
set_option maxRecDepth 100000 in
theorem lw_rc_132 : (List.drop 183 tables_1_7).take 3 = lw_rb_132 := rfl
theorem lw_rd_132 : ∀ w ∈ lw_rb_132, w ∈ lw_tbl := fun w h => lw_tm_7 w (List.mem_of_mem_drop (List.mem_of_mem_take (lw_rc_132 ▸ h)))
theorem mw_606 : (.instanceMethod yX12_isThere : Cond) ∈ lw_tbl := lw_rd_132 _ (List.mem_of_getElem? (i := 0) rfl)
theorem mw_611 : (.code yX12_isThere cX12_isThere 2 (some .boolean) : Cond) ∈ lw_tbl := lw_rd_132 _ (List.mem_of_getElem? (i := 1) rfl)
theorem mw_607 : (.methodLink RX12 287 yX12_of : Cond) ∈ lw_tbl := lw_rd_132 _ (List.mem_of_getElem? (i := 2) rfl)
def lw_rb_133 : List Cond := [.instanceMethod yX12_of, .code yX12_of cX12_of 3 (some .int), .methodLink RX12 303 yX12_growthOf]
set_option maxRecDepth 100000 in
theorem lw_rc_133 : (List.drop 187 tables_1_7).take 3 = lw_rb_133 := rfl
theorem lw_rd_133 : ∀ w ∈ lw_rb_133, w ∈ lw_tbl := fun w h => lw_tm_7 w (List.mem_of_mem_drop (List.mem_of_mem_take (lw_rc_133 ▸ h)))
theorem mw_609 : (.instanceMethod yX12_of : Cond) ∈ lw_tbl := lw_rd_133 _ (List.mem_of_getElem? (i := 0) rfl)
theorem mw_610 : (.code yX12_of cX12_of 3 (some .int) : Cond) ∈ lw_tbl := lw_rd_133 _ (List.mem_of_getElem? (i := 1) rfl)
theorem mw_568 : (.methodLink RX12 303 yX12_growthOf : Cond) ∈ lw_tbl := lw_rd_133 _ (List.mem_of_getElem? (i := 2) rfl)
def lw_rb_134 : List Cond := [.instanceMethod yX12_growthOf, .code yX12_growthOf cX12_growthOf 4 (some .int), .methodLink RX12 293 yX12_withOf]
set_option maxRecDepth 100000 in
theorem lw_rc_134 : (List.drop 191 tables_1_7).take 3 = lw_rb_134 := rfl
theorem lw_rd_134 : ∀ w ∈ lw_rb_134, w ∈ lw_tbl := fun w h => lw_tm_7 w (List.mem_of_mem_drop (List.mem_of_mem_take (lw_rc_134 ▸ h)))
theorem mw_570 : (.instanceMethod yX12_growthOf : Cond) ∈ lw_tbl := lw_rd_134 _ (List.mem_of_getElem? (i := 0) rfl)
theorem mw_602 : (.code yX12_growthOf cX12_growthOf 4 (some .int) : Cond) ∈ lw_tbl := lw_rd_134 _ (List.mem_of_getElem? (i := 1) rfl)
theorem mw_598 : (.methodLink RX12 293 yX12_withOf : Cond) ∈ lw_tbl := lw_rd_134 _ (List.mem_of_getElem? (i := 2) rfl)
def lw_rb_135 : List Cond := [.instanceMethod yX12_withOf, .code yX12_withOf cX12_withOf 4 (some .int), .methodLink RX12 296 yX12_worthOf]
set_option maxRecDepth 100000 in
theorem lw_rc_135 : (List.drop 195 tables_1_7).take 3 = lw_rb_135 := rfl
theorem lw_rd_135 : ∀ w ∈ lw_rb_135, w ∈ lw_tbl := fun w h => lw_tm_7 w (List.mem_of_mem_drop (List.mem_of_mem_take (lw_rc_135 ▸ h)))
theorem mw_600 : (.instanceMethod yX12_withOf : Cond) ∈ lw_tbl := lw_rd_135 _ (List.mem_of_getElem? (i := 0) rfl)
theorem mw_601 : (.code yX12_withOf cX12_withOf 4 (some .int) : Cond) ∈ lw_tbl := lw_rd_135 _ (List.mem_of_getElem? (i := 1) rfl)
theorem mw_571 : (.methodLink RX12 296 yX12_worthOf : Cond) ∈ lw_tbl := lw_rd_135 _ (List.mem_of_getElem? (i := 2) rfl)
def lw_rb_136 : List Cond := [.instanceMethod yX12_worthOf, .code yX12_worthOf cX12_worthOf 3 (some .int), .methodLink RX12 213 yX12_workOut]
set_option maxRecDepth 100000 in
theorem lw_rc_136 : (List.drop 199 tables_1_7).take 3 = lw_rb_136 := rfl
theorem lw_rd_136 : ∀ w ∈ lw_rb_136, w ∈ lw_tbl := fun w h => lw_tm_7 w (List.mem_of_mem_drop (List.mem_of_mem_take (lw_rc_136 ▸ h)))
theorem mw_573 : (.instanceMethod yX12_worthOf : Cond) ∈ lw_tbl := lw_rd_136 _ (List.mem_of_getElem? (i := 0) rfl)
theorem mw_593 : (.code yX12_worthOf cX12_worthOf 3 (some .int) : Cond) ∈ lw_tbl := lw_rd_136 _ (List.mem_of_getElem? (i := 1) rfl)
theorem mw_574 : (.methodLink RX12 213 yX12_workOut : Cond) ∈ lw_tbl := lw_rd_136 _ (List.mem_of_getElem? (i := 2) rfl)
def lw_rb_137 : List Cond := [.instanceMethod yX12_workOut, .code yX12_workOut cX12_workOut 6 (some .int), .methodLink RX12 209 yX12_worked, .static yX12_worked, .code yX12_worked cX12_worked 5 (some .int), .methodLink RX12 205 yX12_bounded, .static yX12_bounded, .code yX12_bounded cX12_bounded 2 (some .int), .constantLong RX12 192 (-1000000), .constantLong RX12 194 (1000000), .methodLink RX12 196 Lib.MathLoose.min_long.x, .static Lib.MathLoose.min_long.x, .code Lib.MathLoose.min_long.x Lib.MathLoose.min_long.code 4 (some .long), .methodLink RX12 202 Lib.MathLoose.max_long.x, .static Lib.MathLoose.max_long.x, .code Lib.MathLoose.max_long.x Lib.MathLoose.max_long.code 4 (some .long), .methodLink RX12 299 Lib.Math.min.name, .methodLink RX12 301 Lib.Math.max.name, .methodLink RL 51 yX12_load, .instanceMethod yX12_load, .selects RX12 yX12_load yX12_load, .code yX12_load cX12_load 2 (some .int), .methodLink RX12 333 yX12_isShelf]
set_option maxRecDepth 100000 in
theorem lw_rc_137 : (List.drop 203 tables_1_7).take 23 = lw_rb_137 := rfl
theorem lw_rd_137 : ∀ w ∈ lw_rb_137, w ∈ lw_tbl := fun w h => lw_tm_7 w (List.mem_of_mem_drop (List.mem_of_mem_take (lw_rc_137 ▸ h)))
theorem mw_576 : (.instanceMethod yX12_workOut : Cond) ∈ lw_tbl := lw_rd_137 _ (List.mem_of_getElem? (i := 0) rfl)
theorem mw_592 : (.code yX12_workOut cX12_workOut 6 (some .int) : Cond) ∈ lw_tbl := lw_rd_137 _ (List.mem_of_getElem? (i := 1) rfl)
theorem mw_577 : (.methodLink RX12 209 yX12_worked : Cond) ∈ lw_tbl := lw_rd_137 _ (List.mem_of_getElem? (i := 2) rfl)
theorem mw_578 : (.static yX12_worked : Cond) ∈ lw_tbl := lw_rd_137 _ (List.mem_of_getElem? (i := 3) rfl)
theorem mw_590 : (.code yX12_worked cX12_worked 5 (some .int) : Cond) ∈ lw_tbl := lw_rd_137 _ (List.mem_of_getElem? (i := 4) rfl)
theorem mw_579 : (.methodLink RX12 205 yX12_bounded : Cond) ∈ lw_tbl := lw_rd_137 _ (List.mem_of_getElem? (i := 5) rfl)
theorem mw_580 : (.static yX12_bounded : Cond) ∈ lw_tbl := lw_rd_137 _ (List.mem_of_getElem? (i := 6) rfl)
theorem mw_589 : (.code yX12_bounded cX12_bounded 2 (some .int) : Cond) ∈ lw_tbl := lw_rd_137 _ (List.mem_of_getElem? (i := 7) rfl)
theorem mw_588 : (.constantLong RX12 192 (-1000000) : Cond) ∈ lw_tbl := lw_rd_137 _ (List.mem_of_getElem? (i := 8) rfl)
theorem mw_587 : (.constantLong RX12 194 (1000000) : Cond) ∈ lw_tbl := lw_rd_137 _ (List.mem_of_getElem? (i := 9) rfl)
theorem mw_586 : (.methodLink RX12 196 Lib.MathLoose.min_long.x : Cond) ∈ lw_tbl := lw_rd_137 _ (List.mem_of_getElem? (i := 10) rfl)
theorem mw_585 : (.static Lib.MathLoose.min_long.x : Cond) ∈ lw_tbl := lw_rd_137 _ (List.mem_of_getElem? (i := 11) rfl)
theorem mw_584 : (.code Lib.MathLoose.min_long.x Lib.MathLoose.min_long.code 4 (some .long) : Cond) ∈ lw_tbl := lw_rd_137 _ (List.mem_of_getElem? (i := 12) rfl)
theorem mw_583 : (.methodLink RX12 202 Lib.MathLoose.max_long.x : Cond) ∈ lw_tbl := lw_rd_137 _ (List.mem_of_getElem? (i := 13) rfl)
theorem mw_582 : (.static Lib.MathLoose.max_long.x : Cond) ∈ lw_tbl := lw_rd_137 _ (List.mem_of_getElem? (i := 14) rfl)
theorem mw_581 : (.code Lib.MathLoose.max_long.x Lib.MathLoose.max_long.code 4 (some .long) : Cond) ∈ lw_tbl := lw_rd_137 _ (List.mem_of_getElem? (i := 15) rfl)
theorem mw_596 : (.methodLink RX12 299 Lib.Math.min.name : Cond) ∈ lw_tbl := lw_rd_137 _ (List.mem_of_getElem? (i := 16) rfl)
theorem mw_595 : (.methodLink RX12 301 Lib.Math.max.name : Cond) ∈ lw_tbl := lw_rd_137 _ (List.mem_of_getElem? (i := 17) rfl)
theorem mw_639 : (.methodLink RL 51 yX12_load : Cond) ∈ lw_tbl := lw_rd_137 _ (List.mem_of_getElem? (i := 18) rfl)
theorem mw_638 : (.instanceMethod yX12_load : Cond) ∈ lw_tbl := lw_rd_137 _ (List.mem_of_getElem? (i := 19) rfl)
theorem mw_637 : (.selects RX12 yX12_load yX12_load : Cond) ∈ lw_tbl := lw_rd_137 _ (List.mem_of_getElem? (i := 20) rfl)
theorem mw_636 : (.code yX12_load cX12_load 2 (some .int) : Cond) ∈ lw_tbl := lw_rd_137 _ (List.mem_of_getElem? (i := 21) rfl)
theorem mw_632 : (.methodLink RX12 333 yX12_isShelf : Cond) ∈ lw_tbl := lw_rd_137 _ (List.mem_of_getElem? (i := 22) rfl)
def lw_rb_138 : List Cond := [.instanceMethod yX12_isShelf, .code yX12_isShelf cX12_isShelf 2 (some .boolean), .methodLink RX12 312 yX12_loadOf]
set_option maxRecDepth 100000 in
theorem lw_rc_138 : (List.drop 227 tables_1_7).take 3 = lw_rb_138 := rfl
theorem lw_rd_138 : ∀ w ∈ lw_rb_138, w ∈ lw_tbl := fun w h => lw_tm_7 w (List.mem_of_mem_drop (List.mem_of_mem_take (lw_rc_138 ▸ h)))
theorem mw_634 : (.instanceMethod yX12_isShelf : Cond) ∈ lw_tbl := lw_rd_138 _ (List.mem_of_getElem? (i := 0) rfl)
theorem mw_635 : (.code yX12_isShelf cX12_isShelf 2 (some .boolean) : Cond) ∈ lw_tbl := lw_rd_138 _ (List.mem_of_getElem? (i := 1) rfl)
theorem mw_628 : (.methodLink RX12 312 yX12_loadOf : Cond) ∈ lw_tbl := lw_rd_138 _ (List.mem_of_getElem? (i := 2) rfl)
def lw_rb_139 : List Cond := [.instanceMethod yX12_loadOf, .code yX12_loadOf cX12_loadOf 4 (some .int), .methodLink RL 55 yX12_law, .instanceMethod yX12_law, .selects RX12 yX12_law yX12_law, .code yX12_law cX12_law 2 (some .boolean), .methodLink RL 59 yX12_days, .instanceMethod yX12_days, .selects RX12 yX12_days yX12_days]
set_option maxRecDepth 100000 in
theorem lw_rc_139 : (List.drop 231 tables_1_7).take 9 = lw_rb_139 := rfl
theorem lw_rd_139 : ∀ w ∈ lw_rb_139, w ∈ lw_tbl := fun w h => lw_tm_7 w (List.mem_of_mem_drop (List.mem_of_mem_take (lw_rc_139 ▸ h)))
theorem mw_630 : (.instanceMethod yX12_loadOf : Cond) ∈ lw_tbl := lw_rd_139 _ (List.mem_of_getElem? (i := 0) rfl)
theorem mw_631 : (.code yX12_loadOf cX12_loadOf 4 (some .int) : Cond) ∈ lw_tbl := lw_rd_139 _ (List.mem_of_getElem? (i := 1) rfl)
theorem mw_651 : (.methodLink RL 55 yX12_law : Cond) ∈ lw_tbl := lw_rd_139 _ (List.mem_of_getElem? (i := 2) rfl)
theorem mw_650 : (.instanceMethod yX12_law : Cond) ∈ lw_tbl := lw_rd_139 _ (List.mem_of_getElem? (i := 3) rfl)
theorem mw_649 : (.selects RX12 yX12_law yX12_law : Cond) ∈ lw_tbl := lw_rd_139 _ (List.mem_of_getElem? (i := 4) rfl)
theorem mw_648 : (.code yX12_law cX12_law 2 (some .boolean) : Cond) ∈ lw_tbl := lw_rd_139 _ (List.mem_of_getElem? (i := 5) rfl)
theorem mw_776 : (.methodLink RL 59 yX12_days : Cond) ∈ lw_tbl := lw_rd_139 _ (List.mem_of_getElem? (i := 6) rfl)
theorem mw_775 : (.instanceMethod yX12_days : Cond) ∈ lw_tbl := lw_rd_139 _ (List.mem_of_getElem? (i := 7) rfl)
theorem mw_774 : (.selects RX12 yX12_days yX12_days : Cond) ∈ lw_tbl := lw_rd_139 _ (List.mem_of_getElem? (i := 8) rfl)
def lw_rb_140 : List Cond := [.code yX12_days cX12_days 3 (some .int), .methodLink RX12 336 yX12_areDays]
set_option maxRecDepth 100000 in
theorem lw_rc_140 : (List.drop 0 tables_1_8).take 2 = lw_rb_140 := rfl
theorem lw_rd_140 : ∀ w ∈ lw_rb_140, w ∈ lw_tbl := fun w h => lw_tm_8 w (List.mem_of_mem_drop (List.mem_of_mem_take (lw_rc_140 ▸ h)))
theorem mw_773 : (.code yX12_days cX12_days 3 (some .int) : Cond) ∈ lw_tbl := lw_rd_140 _ (List.mem_of_getElem? (i := 0) rfl)
theorem mw_769 : (.methodLink RX12 336 yX12_areDays : Cond) ∈ lw_tbl := lw_rd_140 _ (List.mem_of_getElem? (i := 1) rfl)
def lw_rb_141 : List Cond := [.instanceMethod yX12_areDays, .code yX12_areDays cX12_areDays 2 (some .boolean), .methodLink RX12 339 yX12_isRefused]
set_option maxRecDepth 100000 in
theorem lw_rc_141 : (List.drop 3 tables_1_8).take 3 = lw_rb_141 := rfl
theorem lw_rd_141 : ∀ w ∈ lw_rb_141, w ∈ lw_tbl := fun w h => lw_tm_8 w (List.mem_of_mem_drop (List.mem_of_mem_take (lw_rc_141 ▸ h)))
theorem mw_771 : (.instanceMethod yX12_areDays : Cond) ∈ lw_tbl := lw_rd_141 _ (List.mem_of_getElem? (i := 0) rfl)
theorem mw_772 : (.code yX12_areDays cX12_areDays 2 (some .boolean) : Cond) ∈ lw_tbl := lw_rd_141 _ (List.mem_of_getElem? (i := 1) rfl)
theorem mw_765 : (.methodLink RX12 339 yX12_isRefused : Cond) ∈ lw_tbl := lw_rd_141 _ (List.mem_of_getElem? (i := 2) rfl)
def lw_rb_142 : List Cond := [.instanceMethod yX12_isRefused, .code yX12_isRefused cX12_isRefused 2 (some .boolean), .methodLink RX12 342 yX12_keep]
set_option maxRecDepth 100000 in
theorem lw_rc_142 : (List.drop 7 tables_1_8).take 3 = lw_rb_142 := rfl
theorem lw_rd_142 : ∀ w ∈ lw_rb_142, w ∈ lw_tbl := fun w h => lw_tm_8 w (List.mem_of_mem_drop (List.mem_of_mem_take (lw_rc_142 ▸ h)))
theorem mw_767 : (.instanceMethod yX12_isRefused : Cond) ∈ lw_tbl := lw_rd_142 _ (List.mem_of_getElem? (i := 0) rfl)
theorem mw_768 : (.code yX12_isRefused cX12_isRefused 2 (some .boolean) : Cond) ∈ lw_tbl := lw_rd_142 _ (List.mem_of_getElem? (i := 1) rfl)
theorem mw_760 : (.methodLink RX12 342 yX12_keep : Cond) ∈ lw_tbl := lw_rd_142 _ (List.mem_of_getElem? (i := 2) rfl)
def lw_rb_143 : List Cond := [.instanceMethod yX12_keep, .code yX12_keep cX12_keep 2 none, .methodLink RX12 345 yX12_passDay]
set_option maxRecDepth 100000 in
theorem lw_rc_143 : (List.drop 11 tables_1_8).take 3 = lw_rb_143 := rfl
theorem lw_rd_143 : ∀ w ∈ lw_rb_143, w ∈ lw_tbl := fun w h => lw_tm_8 w (List.mem_of_mem_drop (List.mem_of_mem_take (lw_rc_143 ▸ h)))
theorem mw_762 : (.instanceMethod yX12_keep : Cond) ∈ lw_tbl := lw_rd_143 _ (List.mem_of_getElem? (i := 0) rfl)
theorem mw_764 : (.code yX12_keep cX12_keep 2 none : Cond) ∈ lw_tbl := lw_rd_143 _ (List.mem_of_getElem? (i := 1) rfl)
theorem mw_729 : (.methodLink RX12 345 yX12_passDay : Cond) ∈ lw_tbl := lw_rd_143 _ (List.mem_of_getElem? (i := 2) rfl)
def lw_rb_144 : List Cond := [.instanceMethod yX12_passDay, .code yX12_passDay cX12_passDay 2 none, .methodLink RX12 327 yX12_live]
set_option maxRecDepth 100000 in
theorem lw_rc_144 : (List.drop 15 tables_1_8).take 3 = lw_rb_144 := rfl
theorem lw_rd_144 : ∀ w ∈ lw_rb_144, w ∈ lw_tbl := fun w h => lw_tm_8 w (List.mem_of_mem_drop (List.mem_of_mem_take (lw_rc_144 ▸ h)))
theorem mw_731 : (.instanceMethod yX12_passDay : Cond) ∈ lw_tbl := lw_rd_144 _ (List.mem_of_getElem? (i := 0) rfl)
theorem mw_759 : (.code yX12_passDay cX12_passDay 2 none : Cond) ∈ lw_tbl := lw_rd_144 _ (List.mem_of_getElem? (i := 1) rfl)
theorem mw_736 : (.methodLink RX12 327 yX12_live : Cond) ∈ lw_tbl := lw_rd_144 _ (List.mem_of_getElem? (i := 2) rfl)
def lw_rb_145 : List Cond := [.instanceMethod yX12_live, .code yX12_live cX12_live 2 none, .methodLink RX12 318 yX12_growAll]
set_option maxRecDepth 100000 in
theorem lw_rc_145 : (List.drop 19 tables_1_8).take 3 = lw_rb_145 := rfl
theorem lw_rd_145 : ∀ w ∈ lw_rb_145, w ∈ lw_tbl := fun w h => lw_tm_8 w (List.mem_of_mem_drop (List.mem_of_mem_take (lw_rc_145 ▸ h)))
theorem mw_738 : (.instanceMethod yX12_live : Cond) ∈ lw_tbl := lw_rd_145 _ (List.mem_of_getElem? (i := 0) rfl)
theorem mw_758 : (.code yX12_live cX12_live 2 none : Cond) ∈ lw_tbl := lw_rd_145 _ (List.mem_of_getElem? (i := 1) rfl)
theorem mw_753 : (.methodLink RX12 318 yX12_growAll : Cond) ∈ lw_tbl := lw_rd_145 _ (List.mem_of_getElem? (i := 2) rfl)
def lw_rb_146 : List Cond := [.instanceMethod yX12_growAll, .code yX12_growAll cX12_growAll 2 none, .methodLink RX12 321 yX12_endAll]
set_option maxRecDepth 100000 in
theorem lw_rc_146 : (List.drop 23 tables_1_8).take 3 = lw_rb_146 := rfl
theorem lw_rd_146 : ∀ w ∈ lw_rb_146, w ∈ lw_tbl := fun w h => lw_tm_8 w (List.mem_of_mem_drop (List.mem_of_mem_take (lw_rc_146 ▸ h)))
theorem mw_755 : (.instanceMethod yX12_growAll : Cond) ∈ lw_tbl := lw_rd_146 _ (List.mem_of_getElem? (i := 0) rfl)
theorem mw_757 : (.code yX12_growAll cX12_growAll 2 none : Cond) ∈ lw_tbl := lw_rd_146 _ (List.mem_of_getElem? (i := 1) rfl)
theorem mw_748 : (.methodLink RX12 321 yX12_endAll : Cond) ∈ lw_tbl := lw_rd_146 _ (List.mem_of_getElem? (i := 2) rfl)
def lw_rb_147 : List Cond := [.instanceMethod yX12_endAll, .code yX12_endAll cX12_endAll 2 none, .methodLink RX12 324 yX12_dropAll]
set_option maxRecDepth 100000 in
theorem lw_rc_147 : (List.drop 27 tables_1_8).take 3 = lw_rb_147 := rfl
theorem lw_rd_147 : ∀ w ∈ lw_rb_147, w ∈ lw_tbl := fun w h => lw_tm_8 w (List.mem_of_mem_drop (List.mem_of_mem_take (lw_rc_147 ▸ h)))
theorem mw_750 : (.instanceMethod yX12_endAll : Cond) ∈ lw_tbl := lw_rd_147 _ (List.mem_of_getElem? (i := 0) rfl)
theorem mw_752 : (.code yX12_endAll cX12_endAll 2 none : Cond) ∈ lw_tbl := lw_rd_147 _ (List.mem_of_getElem? (i := 1) rfl)
theorem mw_739 : (.methodLink RX12 324 yX12_dropAll : Cond) ∈ lw_tbl := lw_rd_147 _ (List.mem_of_getElem? (i := 2) rfl)
def lw_rb_148 : List Cond := [.instanceMethod yX12_dropAll, .code yX12_dropAll cX12_dropAll 3 none, .methodLink RX12 315 yX12_largestOn]
set_option maxRecDepth 100000 in
theorem lw_rc_148 : (List.drop 31 tables_1_8).take 3 = lw_rb_148 := rfl
theorem lw_rd_148 : ∀ w ∈ lw_rb_148, w ∈ lw_tbl := fun w h => lw_tm_8 w (List.mem_of_mem_drop (List.mem_of_mem_take (lw_rc_148 ▸ h)))
theorem mw_741 : (.instanceMethod yX12_dropAll : Cond) ∈ lw_tbl := lw_rd_148 _ (List.mem_of_getElem? (i := 0) rfl)
theorem mw_747 : (.code yX12_dropAll cX12_dropAll 3 none : Cond) ∈ lw_tbl := lw_rd_148 _ (List.mem_of_getElem? (i := 1) rfl)
theorem mw_742 : (.methodLink RX12 315 yX12_largestOn : Cond) ∈ lw_tbl := lw_rd_148 _ (List.mem_of_getElem? (i := 2) rfl)
def lw_rb_149 : List Cond := [.instanceMethod yX12_largestOn, .code yX12_largestOn cX12_largestOn 4 (some .int), .methodLink RX12 330 yX12_sizeAll]
set_option maxRecDepth 100000 in
theorem lw_rc_149 : (List.drop 35 tables_1_8).take 3 = lw_rb_149 := rfl
theorem lw_rd_149 : ∀ w ∈ lw_rb_149, w ∈ lw_tbl := fun w h => lw_tm_8 w (List.mem_of_mem_drop (List.mem_of_mem_take (lw_rc_149 ▸ h)))
theorem mw_744 : (.instanceMethod yX12_largestOn : Cond) ∈ lw_tbl := lw_rd_149 _ (List.mem_of_getElem? (i := 0) rfl)
theorem mw_745 : (.code yX12_largestOn cX12_largestOn 4 (some .int) : Cond) ∈ lw_tbl := lw_rd_149 _ (List.mem_of_getElem? (i := 1) rfl)
theorem mw_732 : (.methodLink RX12 330 yX12_sizeAll : Cond) ∈ lw_tbl := lw_rd_149 _ (List.mem_of_getElem? (i := 2) rfl)
def lw_rb_150 : List Cond := [.instanceMethod yX12_sizeAll, .code yX12_sizeAll cX12_sizeAll 3 (some .int), .methodLink RL 64 yX12_leave, .instanceMethod yX12_leave, .selects RX12 yX12_leave yX12_leave, .code yX12_leave cX12_leave 6 (some .int), .methodLink RX12 351 yX12_does]
set_option maxRecDepth 100000 in
theorem lw_rc_150 : (List.drop 39 tables_1_8).take 7 = lw_rb_150 := rfl
theorem lw_rd_150 : ∀ w ∈ lw_rb_150, w ∈ lw_tbl := fun w h => lw_tm_8 w (List.mem_of_mem_drop (List.mem_of_mem_take (lw_rc_150 ▸ h)))
theorem mw_734 : (.instanceMethod yX12_sizeAll : Cond) ∈ lw_tbl := lw_rd_150 _ (List.mem_of_getElem? (i := 0) rfl)
theorem mw_735 : (.code yX12_sizeAll cX12_sizeAll 3 (some .int) : Cond) ∈ lw_tbl := lw_rd_150 _ (List.mem_of_getElem? (i := 1) rfl)
theorem mw_806 : (.methodLink RL 64 yX12_leave : Cond) ∈ lw_tbl := lw_rd_150 _ (List.mem_of_getElem? (i := 2) rfl)
theorem mw_805 : (.instanceMethod yX12_leave : Cond) ∈ lw_tbl := lw_rd_150 _ (List.mem_of_getElem? (i := 3) rfl)
theorem mw_804 : (.selects RX12 yX12_leave yX12_leave : Cond) ∈ lw_tbl := lw_rd_150 _ (List.mem_of_getElem? (i := 4) rfl)
theorem mw_803 : (.code yX12_leave cX12_leave 6 (some .int) : Cond) ∈ lw_tbl := lw_rd_150 _ (List.mem_of_getElem? (i := 5) rfl)
theorem mw_799 : (.methodLink RX12 351 yX12_does : Cond) ∈ lw_tbl := lw_rd_150 _ (List.mem_of_getElem? (i := 6) rfl)
def lw_rb_151 : List Cond := [.instanceMethod yX12_does, .code yX12_does cX12_does 3 (some .boolean), .methodLink RX12 348 yX12_freePlace]
set_option maxRecDepth 100000 in
theorem lw_rc_151 : (List.drop 47 tables_1_8).take 3 = lw_rb_151 := rfl
theorem lw_rd_151 : ∀ w ∈ lw_rb_151, w ∈ lw_tbl := fun w h => lw_tm_8 w (List.mem_of_mem_drop (List.mem_of_mem_take (lw_rc_151 ▸ h)))
theorem mw_801 : (.instanceMethod yX12_does : Cond) ∈ lw_tbl := lw_rd_151 _ (List.mem_of_getElem? (i := 0) rfl)
theorem mw_802 : (.code yX12_does cX12_does 3 (some .boolean) : Cond) ∈ lw_tbl := lw_rd_151 _ (List.mem_of_getElem? (i := 1) rfl)
theorem mw_795 : (.methodLink RX12 348 yX12_freePlace : Cond) ∈ lw_tbl := lw_rd_151 _ (List.mem_of_getElem? (i := 2) rfl)
def lw_rb_152 : List Cond := [.instanceMethod yX12_freePlace, .code yX12_freePlace cX12_freePlace 2 (some .int), .methodLink RX12 354 yX12_leaveNow]
set_option maxRecDepth 100000 in
theorem lw_rc_152 : (List.drop 51 tables_1_8).take 3 = lw_rb_152 := rfl
theorem lw_rd_152 : ∀ w ∈ lw_rb_152, w ∈ lw_tbl := fun w h => lw_tm_8 w (List.mem_of_mem_drop (List.mem_of_mem_take (lw_rc_152 ▸ h)))
theorem mw_797 : (.instanceMethod yX12_freePlace : Cond) ∈ lw_tbl := lw_rd_152 _ (List.mem_of_getElem? (i := 0) rfl)
theorem mw_798 : (.code yX12_freePlace cX12_freePlace 2 (some .int) : Cond) ∈ lw_tbl := lw_rd_152 _ (List.mem_of_getElem? (i := 1) rfl)
theorem mw_791 : (.methodLink RX12 354 yX12_leaveNow : Cond) ∈ lw_tbl := lw_rd_152 _ (List.mem_of_getElem? (i := 2) rfl)
def lw_rb_153 : List Cond := [.instanceMethod yX12_leaveNow, .code yX12_leaveNow cX12_leaveNow 6 (some .int), .methodLink RL 68 yX12_call, .instanceMethod yX12_call, .selects RX12 yX12_call yX12_call, .code yX12_call cX12_call 2 (some .int), .methodLink RX12 358 yX12_callNow]
set_option maxRecDepth 100000 in
theorem lw_rc_153 : (List.drop 55 tables_1_8).take 7 = lw_rb_153 := rfl
theorem lw_rd_153 : ∀ w ∈ lw_rb_153, w ∈ lw_tbl := fun w h => lw_tm_8 w (List.mem_of_mem_drop (List.mem_of_mem_take (lw_rc_153 ▸ h)))
theorem mw_793 : (.instanceMethod yX12_leaveNow : Cond) ∈ lw_tbl := lw_rd_153 _ (List.mem_of_getElem? (i := 0) rfl)
theorem mw_794 : (.code yX12_leaveNow cX12_leaveNow 6 (some .int) : Cond) ∈ lw_tbl := lw_rd_153 _ (List.mem_of_getElem? (i := 1) rfl)
theorem mw_834 : (.methodLink RL 68 yX12_call : Cond) ∈ lw_tbl := lw_rd_153 _ (List.mem_of_getElem? (i := 2) rfl)
theorem mw_833 : (.instanceMethod yX12_call : Cond) ∈ lw_tbl := lw_rd_153 _ (List.mem_of_getElem? (i := 3) rfl)
theorem mw_832 : (.selects RX12 yX12_call yX12_call : Cond) ∈ lw_tbl := lw_rd_153 _ (List.mem_of_getElem? (i := 4) rfl)
theorem mw_831 : (.code yX12_call cX12_call 2 (some .int) : Cond) ∈ lw_tbl := lw_rd_153 _ (List.mem_of_getElem? (i := 5) rfl)
theorem mw_827 : (.methodLink RX12 358 yX12_callNow : Cond) ∈ lw_tbl := lw_rd_153 _ (List.mem_of_getElem? (i := 6) rfl)
def lw_rb_154 : List Cond := [.instanceMethod yX12_callNow, .code yX12_callNow cX12_callNow 3 (some .int), .methodLink RL 72 yX12_move, .instanceMethod yX12_move, .selects RX12 yX12_move yX12_move, .code yX12_move cX12_move 4 (some .int), .methodLink RL 76 yX12_hush, .instanceMethod yX12_hush, .selects RX12 yX12_hush yX12_hush, .code yX12_hush cX12_hush 2 (some .int), .methodLink RL 80 yX12_sell, .instanceMethod yX12_sell, .selects RX12 yX12_sell yX12_sell, .code yX12_sell cX12_sell 2 (some .int), .methodLink RL 84 yX12_give, .instanceMethod yX12_give, .selects RX12 yX12_give yX12_give, .code yX12_give cX12_give 2 (some .int), .methodLink RL 88 yX12_trains, .instanceMethod yX12_trains, .selects RX12 yX12_trains yX12_trains, .code yX12_trains cX12_trains 2 (some .boolean), .methodLink RL 95 yX12_years, .instanceMethod yX12_years, .selects RX12 yX12_years yX12_years, .code yX12_years cX12_years 5 (some .int), .methodLink RX12 372 yX12_drawDay]
set_option maxRecDepth 100000 in
theorem lw_rc_154 : (List.drop 63 tables_1_8).take 27 = lw_rb_154 := rfl
theorem lw_rd_154 : ∀ w ∈ lw_rb_154, w ∈ lw_tbl := fun w h => lw_tm_8 w (List.mem_of_mem_drop (List.mem_of_mem_take (lw_rc_154 ▸ h)))
theorem mw_829 : (.instanceMethod yX12_callNow : Cond) ∈ lw_tbl := lw_rd_154 _ (List.mem_of_getElem? (i := 0) rfl)
theorem mw_830 : (.code yX12_callNow cX12_callNow 3 (some .int) : Cond) ∈ lw_tbl := lw_rd_154 _ (List.mem_of_getElem? (i := 1) rfl)
theorem mw_844 : (.methodLink RL 72 yX12_move : Cond) ∈ lw_tbl := lw_rd_154 _ (List.mem_of_getElem? (i := 2) rfl)
theorem mw_843 : (.instanceMethod yX12_move : Cond) ∈ lw_tbl := lw_rd_154 _ (List.mem_of_getElem? (i := 3) rfl)
theorem mw_842 : (.selects RX12 yX12_move yX12_move : Cond) ∈ lw_tbl := lw_rd_154 _ (List.mem_of_getElem? (i := 4) rfl)
theorem mw_841 : (.code yX12_move cX12_move 4 (some .int) : Cond) ∈ lw_tbl := lw_rd_154 _ (List.mem_of_getElem? (i := 5) rfl)
theorem mw_852 : (.methodLink RL 76 yX12_hush : Cond) ∈ lw_tbl := lw_rd_154 _ (List.mem_of_getElem? (i := 6) rfl)
theorem mw_851 : (.instanceMethod yX12_hush : Cond) ∈ lw_tbl := lw_rd_154 _ (List.mem_of_getElem? (i := 7) rfl)
theorem mw_850 : (.selects RX12 yX12_hush yX12_hush : Cond) ∈ lw_tbl := lw_rd_154 _ (List.mem_of_getElem? (i := 8) rfl)
theorem mw_849 : (.code yX12_hush cX12_hush 2 (some .int) : Cond) ∈ lw_tbl := lw_rd_154 _ (List.mem_of_getElem? (i := 9) rfl)
theorem mw_861 : (.methodLink RL 80 yX12_sell : Cond) ∈ lw_tbl := lw_rd_154 _ (List.mem_of_getElem? (i := 10) rfl)
theorem mw_860 : (.instanceMethod yX12_sell : Cond) ∈ lw_tbl := lw_rd_154 _ (List.mem_of_getElem? (i := 11) rfl)
theorem mw_859 : (.selects RX12 yX12_sell yX12_sell : Cond) ∈ lw_tbl := lw_rd_154 _ (List.mem_of_getElem? (i := 12) rfl)
theorem mw_858 : (.code yX12_sell cX12_sell 2 (some .int) : Cond) ∈ lw_tbl := lw_rd_154 _ (List.mem_of_getElem? (i := 13) rfl)
theorem mw_869 : (.methodLink RL 84 yX12_give : Cond) ∈ lw_tbl := lw_rd_154 _ (List.mem_of_getElem? (i := 14) rfl)
theorem mw_868 : (.instanceMethod yX12_give : Cond) ∈ lw_tbl := lw_rd_154 _ (List.mem_of_getElem? (i := 15) rfl)
theorem mw_867 : (.selects RX12 yX12_give yX12_give : Cond) ∈ lw_tbl := lw_rd_154 _ (List.mem_of_getElem? (i := 16) rfl)
theorem mw_866 : (.code yX12_give cX12_give 2 (some .int) : Cond) ∈ lw_tbl := lw_rd_154 _ (List.mem_of_getElem? (i := 17) rfl)
theorem mw_879 : (.methodLink RL 88 yX12_trains : Cond) ∈ lw_tbl := lw_rd_154 _ (List.mem_of_getElem? (i := 18) rfl)
theorem mw_878 : (.instanceMethod yX12_trains : Cond) ∈ lw_tbl := lw_rd_154 _ (List.mem_of_getElem? (i := 19) rfl)
theorem mw_877 : (.selects RX12 yX12_trains yX12_trains : Cond) ∈ lw_tbl := lw_rd_154 _ (List.mem_of_getElem? (i := 20) rfl)
theorem mw_876 : (.code yX12_trains cX12_trains 2 (some .boolean) : Cond) ∈ lw_tbl := lw_rd_154 _ (List.mem_of_getElem? (i := 21) rfl)
theorem mw_914 : (.methodLink RL 95 yX12_years : Cond) ∈ lw_tbl := lw_rd_154 _ (List.mem_of_getElem? (i := 22) rfl)
theorem mw_913 : (.instanceMethod yX12_years : Cond) ∈ lw_tbl := lw_rd_154 _ (List.mem_of_getElem? (i := 23) rfl)
theorem mw_912 : (.selects RX12 yX12_years yX12_years : Cond) ∈ lw_tbl := lw_rd_154 _ (List.mem_of_getElem? (i := 24) rfl)
theorem mw_911 : (.code yX12_years cX12_years 5 (some .int) : Cond) ∈ lw_tbl := lw_rd_154 _ (List.mem_of_getElem? (i := 25) rfl)
theorem mw_900 : (.methodLink RX12 372 yX12_drawDay : Cond) ∈ lw_tbl := lw_rd_154 _ (List.mem_of_getElem? (i := 26) rfl)
def lw_rb_155 : List Cond := [.instanceMethod yX12_drawDay, .code yX12_drawDay cX12_drawDay 5 none, .methodLink RX12 369 yX12_draw]
set_option maxRecDepth 100000 in
theorem lw_rc_155 : (List.drop 91 tables_1_8).take 3 = lw_rb_155 := rfl
theorem lw_rd_155 : ∀ w ∈ lw_rb_155, w ∈ lw_tbl := fun w h => lw_tm_8 w (List.mem_of_mem_drop (List.mem_of_mem_take (lw_rc_155 ▸ h)))
theorem mw_902 : (.instanceMethod yX12_drawDay : Cond) ∈ lw_tbl := lw_rd_155 _ (List.mem_of_getElem? (i := 0) rfl)
theorem mw_909 : (.code yX12_drawDay cX12_drawDay 5 none : Cond) ∈ lw_tbl := lw_rd_155 _ (List.mem_of_getElem? (i := 1) rfl)
theorem mw_903 : (.methodLink RX12 369 yX12_draw : Cond) ∈ lw_tbl := lw_rd_155 _ (List.mem_of_getElem? (i := 2) rfl)
def lw_rb_156 : List Cond := [.instanceMethod yX12_draw, .code yX12_draw cX12_draw 2 (some .int), .constantLong RX12 365 (6364136223846793005), .constantLong RX12 367 (1442695040888963407), .methodLink RL 99 yX12_status, .instanceMethod yX12_status, .selects RX12 yX12_status yX12_status, .code yX12_status cX12_status 2 (some .int), .methodLink RL 104 yX12_undo, .instanceMethod yX12_undo, .selects RX12 yX12_undo yX12_undo, .code yX12_undo cX12_undo 2 (some .int), .methodLink RL 108 yX12_log, .instanceMethod yX12_log, .selects RX12 yX12_log yX12_log, .code yX12_log cX12_log 3 (some .int), .methodLink RL 112 yX12_large, .instanceMethod yX12_large, .selects RX12 yX12_large yX12_large, .code yX12_large cX12_large 4 (some .int), .methodLink RX12 375 yX12_putAside]
set_option maxRecDepth 100000 in
theorem lw_rc_156 : (List.drop 95 tables_1_8).take 21 = lw_rb_156 := rfl
theorem lw_rd_156 : ∀ w ∈ lw_rb_156, w ∈ lw_tbl := fun w h => lw_tm_8 w (List.mem_of_mem_drop (List.mem_of_mem_take (lw_rc_156 ▸ h)))
theorem mw_905 : (.instanceMethod yX12_draw : Cond) ∈ lw_tbl := lw_rd_156 _ (List.mem_of_getElem? (i := 0) rfl)
theorem mw_908 : (.code yX12_draw cX12_draw 2 (some .int) : Cond) ∈ lw_tbl := lw_rd_156 _ (List.mem_of_getElem? (i := 1) rfl)
theorem mw_907 : (.constantLong RX12 365 (6364136223846793005) : Cond) ∈ lw_tbl := lw_rd_156 _ (List.mem_of_getElem? (i := 2) rfl)
theorem mw_906 : (.constantLong RX12 367 (1442695040888963407) : Cond) ∈ lw_tbl := lw_rd_156 _ (List.mem_of_getElem? (i := 3) rfl)
theorem mw_922 : (.methodLink RL 99 yX12_status : Cond) ∈ lw_tbl := lw_rd_156 _ (List.mem_of_getElem? (i := 4) rfl)
theorem mw_921 : (.instanceMethod yX12_status : Cond) ∈ lw_tbl := lw_rd_156 _ (List.mem_of_getElem? (i := 5) rfl)
theorem mw_920 : (.selects RX12 yX12_status yX12_status : Cond) ∈ lw_tbl := lw_rd_156 _ (List.mem_of_getElem? (i := 6) rfl)
theorem mw_919 : (.code yX12_status cX12_status 2 (some .int) : Cond) ∈ lw_tbl := lw_rd_156 _ (List.mem_of_getElem? (i := 7) rfl)
theorem mw_942 : (.methodLink RL 104 yX12_undo : Cond) ∈ lw_tbl := lw_rd_156 _ (List.mem_of_getElem? (i := 8) rfl)
theorem mw_941 : (.instanceMethod yX12_undo : Cond) ∈ lw_tbl := lw_rd_156 _ (List.mem_of_getElem? (i := 9) rfl)
theorem mw_940 : (.selects RX12 yX12_undo yX12_undo : Cond) ∈ lw_tbl := lw_rd_156 _ (List.mem_of_getElem? (i := 10) rfl)
theorem mw_939 : (.code yX12_undo cX12_undo 2 (some .int) : Cond) ∈ lw_tbl := lw_rd_156 _ (List.mem_of_getElem? (i := 11) rfl)
theorem mw_958 : (.methodLink RL 108 yX12_log : Cond) ∈ lw_tbl := lw_rd_156 _ (List.mem_of_getElem? (i := 12) rfl)
theorem mw_957 : (.instanceMethod yX12_log : Cond) ∈ lw_tbl := lw_rd_156 _ (List.mem_of_getElem? (i := 13) rfl)
theorem mw_956 : (.selects RX12 yX12_log yX12_log : Cond) ∈ lw_tbl := lw_rd_156 _ (List.mem_of_getElem? (i := 14) rfl)
theorem mw_955 : (.code yX12_log cX12_log 3 (some .int) : Cond) ∈ lw_tbl := lw_rd_156 _ (List.mem_of_getElem? (i := 15) rfl)
theorem mw_995 : (.methodLink RL 112 yX12_large : Cond) ∈ lw_tbl := lw_rd_156 _ (List.mem_of_getElem? (i := 16) rfl)
theorem mw_994 : (.instanceMethod yX12_large : Cond) ∈ lw_tbl := lw_rd_156 _ (List.mem_of_getElem? (i := 17) rfl)
theorem mw_993 : (.selects RX12 yX12_large yX12_large : Cond) ∈ lw_tbl := lw_rd_156 _ (List.mem_of_getElem? (i := 18) rfl)
theorem mw_992 : (.code yX12_large cX12_large 4 (some .int) : Cond) ∈ lw_tbl := lw_rd_156 _ (List.mem_of_getElem? (i := 19) rfl)
theorem mw_987 : (.methodLink RX12 375 yX12_putAside : Cond) ∈ lw_tbl := lw_rd_156 _ (List.mem_of_getElem? (i := 20) rfl)
def lw_rb_157 : List Cond := [.instanceMethod yX12_putAside, .code yX12_putAside cX12_putAside 3 none, .methodLink RX12 378 yX12_sizeNow]
set_option maxRecDepth 100000 in
theorem lw_rc_157 : (List.drop 117 tables_1_8).take 3 = lw_rb_157 := rfl
theorem lw_rd_157 : ∀ w ∈ lw_rb_157, w ∈ lw_tbl := fun w h => lw_tm_8 w (List.mem_of_mem_drop (List.mem_of_mem_take (lw_rc_157 ▸ h)))
theorem mw_989 : (.instanceMethod yX12_putAside : Cond) ∈ lw_tbl := lw_rd_157 _ (List.mem_of_getElem? (i := 0) rfl)
theorem mw_991 : (.code yX12_putAside cX12_putAside 3 none : Cond) ∈ lw_tbl := lw_rd_157 _ (List.mem_of_getElem? (i := 1) rfl)
theorem mw_983 : (.methodLink RX12 378 yX12_sizeNow : Cond) ∈ lw_tbl := lw_rd_157 _ (List.mem_of_getElem? (i := 2) rfl)
def lw_rb_158 : List Cond := [.instanceMethod yX12_sizeNow, .code yX12_sizeNow cX12_sizeNow 2 (some .int), .methodLink RX12 381 yX12_takeBack]
set_option maxRecDepth 100000 in
theorem lw_rc_158 : (List.drop 121 tables_1_8).take 3 = lw_rb_158 := rfl
theorem lw_rd_158 : ∀ w ∈ lw_rb_158, w ∈ lw_tbl := fun w h => lw_tm_8 w (List.mem_of_mem_drop (List.mem_of_mem_take (lw_rc_158 ▸ h)))
theorem mw_985 : (.instanceMethod yX12_sizeNow : Cond) ∈ lw_tbl := lw_rd_158 _ (List.mem_of_getElem? (i := 0) rfl)
theorem mw_986 : (.code yX12_sizeNow cX12_sizeNow 2 (some .int) : Cond) ∈ lw_tbl := lw_rd_158 _ (List.mem_of_getElem? (i := 1) rfl)
theorem mw_979 : (.methodLink RX12 381 yX12_takeBack : Cond) ∈ lw_tbl := lw_rd_158 _ (List.mem_of_getElem? (i := 2) rfl)
def lw_rb_159 : List Cond := [.instanceMethod yX12_takeBack, .code yX12_takeBack cX12_takeBack 3 none, .methodLink RL 116 yX12_ends, .instanceMethod yX12_ends, .selects RX12 yX12_ends yX12_ends, .code yX12_ends cX12_ends 2 (some .int), .methodLink RX12 384 yX12_daysTo]
set_option maxRecDepth 100000 in
theorem lw_rc_159 : (List.drop 125 tables_1_8).take 7 = lw_rb_159 := rfl
theorem lw_rd_159 : ∀ w ∈ lw_rb_159, w ∈ lw_tbl := fun w h => lw_tm_8 w (List.mem_of_mem_drop (List.mem_of_mem_take (lw_rc_159 ▸ h)))
theorem mw_981 : (.instanceMethod yX12_takeBack : Cond) ∈ lw_tbl := lw_rd_159 _ (List.mem_of_getElem? (i := 0) rfl)
theorem mw_982 : (.code yX12_takeBack cX12_takeBack 3 none : Cond) ∈ lw_tbl := lw_rd_159 _ (List.mem_of_getElem? (i := 1) rfl)
theorem mw_1011 : (.methodLink RL 116 yX12_ends : Cond) ∈ lw_tbl := lw_rd_159 _ (List.mem_of_getElem? (i := 2) rfl)
theorem mw_1010 : (.instanceMethod yX12_ends : Cond) ∈ lw_tbl := lw_rd_159 _ (List.mem_of_getElem? (i := 3) rfl)
theorem mw_1009 : (.selects RX12 yX12_ends yX12_ends : Cond) ∈ lw_tbl := lw_rd_159 _ (List.mem_of_getElem? (i := 4) rfl)
theorem mw_1008 : (.code yX12_ends cX12_ends 2 (some .int) : Cond) ∈ lw_tbl := lw_rd_159 _ (List.mem_of_getElem? (i := 5) rfl)
theorem mw_1004 : (.methodLink RX12 384 yX12_daysTo : Cond) ∈ lw_tbl := lw_rd_159 _ (List.mem_of_getElem? (i := 6) rfl)
def lw_rb_160 : List Cond := [.instanceMethod yX12_daysTo, .code yX12_daysTo cX12_daysTo 5 (some .int), .methodLink RL 120 yX12_falls, .instanceMethod yX12_falls, .selects RX12 yX12_falls yX12_falls, .code yX12_falls cX12_falls 2 (some .int), .methodLink RL 124 yX12_shelved, .instanceMethod yX12_shelved, .selects RX12 yX12_shelved yX12_shelved, .code yX12_shelved cX12_shelved 2 (some .int), .methodLink RX12 407 yX12_layRow]
set_option maxRecDepth 100000 in
theorem lw_rc_160 : (List.drop 133 tables_1_8).take 11 = lw_rb_160 := rfl
theorem lw_rd_160 : ∀ w ∈ lw_rb_160, w ∈ lw_tbl := fun w h => lw_tm_8 w (List.mem_of_mem_drop (List.mem_of_mem_take (lw_rc_160 ▸ h)))
theorem mw_1006 : (.instanceMethod yX12_daysTo : Cond) ∈ lw_tbl := lw_rd_160 _ (List.mem_of_getElem? (i := 0) rfl)
theorem mw_1007 : (.code yX12_daysTo cX12_daysTo 5 (some .int) : Cond) ∈ lw_tbl := lw_rd_160 _ (List.mem_of_getElem? (i := 1) rfl)
theorem mw_1024 : (.methodLink RL 120 yX12_falls : Cond) ∈ lw_tbl := lw_rd_160 _ (List.mem_of_getElem? (i := 2) rfl)
theorem mw_1023 : (.instanceMethod yX12_falls : Cond) ∈ lw_tbl := lw_rd_160 _ (List.mem_of_getElem? (i := 3) rfl)
theorem mw_1022 : (.selects RX12 yX12_falls yX12_falls : Cond) ∈ lw_tbl := lw_rd_160 _ (List.mem_of_getElem? (i := 4) rfl)
theorem mw_1021 : (.code yX12_falls cX12_falls 2 (some .int) : Cond) ∈ lw_tbl := lw_rd_160 _ (List.mem_of_getElem? (i := 5) rfl)
theorem mw_1111 : (.methodLink RL 124 yX12_shelved : Cond) ∈ lw_tbl := lw_rd_160 _ (List.mem_of_getElem? (i := 6) rfl)
theorem mw_1110 : (.instanceMethod yX12_shelved : Cond) ∈ lw_tbl := lw_rd_160 _ (List.mem_of_getElem? (i := 7) rfl)
theorem mw_1109 : (.selects RX12 yX12_shelved yX12_shelved : Cond) ∈ lw_tbl := lw_rd_160 _ (List.mem_of_getElem? (i := 8) rfl)
theorem mw_1108 : (.code yX12_shelved cX12_shelved 2 (some .int) : Cond) ∈ lw_tbl := lw_rd_160 _ (List.mem_of_getElem? (i := 9) rfl)
theorem mw_1079 : (.methodLink RX12 407 yX12_layRow : Cond) ∈ lw_tbl := lw_rd_160 _ (List.mem_of_getElem? (i := 10) rfl)
def lw_rb_161 : List Cond := [.instanceMethod yX12_layRow, .code yX12_layRow cX12_layRow 4 (some .int), .methodLink RX12 404 yX12_bagOnes]
set_option maxRecDepth 100000 in
theorem lw_rc_161 : (List.drop 145 tables_1_8).take 3 = lw_rb_161 := rfl
theorem lw_rd_161 : ∀ w ∈ lw_rb_161, w ∈ lw_tbl := fun w h => lw_tm_8 w (List.mem_of_mem_drop (List.mem_of_mem_take (lw_rc_161 ▸ h)))
theorem mw_1081 : (.instanceMethod yX12_layRow : Cond) ∈ lw_tbl := lw_rd_161 _ (List.mem_of_getElem? (i := 0) rfl)
theorem mw_1107 : (.code yX12_layRow cX12_layRow 4 (some .int) : Cond) ∈ lw_tbl := lw_rd_161 _ (List.mem_of_getElem? (i := 1) rfl)
theorem mw_1101 : (.methodLink RX12 404 yX12_bagOnes : Cond) ∈ lw_tbl := lw_rd_161 _ (List.mem_of_getElem? (i := 2) rfl)
def lw_rb_162 : List Cond := [.instanceMethod yX12_bagOnes, .code yX12_bagOnes cX12_bagOnes 3 (some .int), .methodLink RX12 394 yX12_tryShelf]
set_option maxRecDepth 100000 in
theorem lw_rc_162 : (List.drop 149 tables_1_8).take 3 = lw_rb_162 := rfl
theorem lw_rd_162 : ∀ w ∈ lw_rb_162, w ∈ lw_tbl := fun w h => lw_tm_8 w (List.mem_of_mem_drop (List.mem_of_mem_take (lw_rc_162 ▸ h)))
theorem mw_1103 : (.instanceMethod yX12_bagOnes : Cond) ∈ lw_tbl := lw_rd_162 _ (List.mem_of_getElem? (i := 0) rfl)
theorem mw_1104 : (.code yX12_bagOnes cX12_bagOnes 3 (some .int) : Cond) ∈ lw_tbl := lw_rd_162 _ (List.mem_of_getElem? (i := 1) rfl)
theorem mw_1082 : (.methodLink RX12 394 yX12_tryShelf : Cond) ∈ lw_tbl := lw_rd_162 _ (List.mem_of_getElem? (i := 2) rfl)
def lw_rb_163 : List Cond := [.instanceMethod yX12_tryShelf, .code yX12_tryShelf cX12_tryShelf 7 none, .methodLink RX12 398 yX12_isCalm]
set_option maxRecDepth 100000 in
theorem lw_rc_163 : (List.drop 153 tables_1_8).take 3 = lw_rb_163 := rfl
theorem lw_rd_163 : ∀ w ∈ lw_rb_163, w ∈ lw_tbl := fun w h => lw_tm_8 w (List.mem_of_mem_drop (List.mem_of_mem_take (lw_rc_163 ▸ h)))
theorem mw_1084 : (.instanceMethod yX12_tryShelf : Cond) ∈ lw_tbl := lw_rd_163 _ (List.mem_of_getElem? (i := 0) rfl)
theorem mw_1100 : (.code yX12_tryShelf cX12_tryShelf 7 none : Cond) ∈ lw_tbl := lw_rd_163 _ (List.mem_of_getElem? (i := 1) rfl)
theorem mw_1086 : (.methodLink RX12 398 yX12_isCalm : Cond) ∈ lw_tbl := lw_rd_163 _ (List.mem_of_getElem? (i := 2) rfl)
def lw_rb_164 : List Cond := [.instanceMethod yX12_isCalm, .code yX12_isCalm cX12_isCalm 4 (some .boolean), .methodLink RX12 401 yX12_setsOff]
set_option maxRecDepth 100000 in
theorem lw_rc_164 : (List.drop 157 tables_1_8).take 3 = lw_rb_164 := rfl
theorem lw_rd_164 : ∀ w ∈ lw_rb_164, w ∈ lw_tbl := fun w h => lw_tm_8 w (List.mem_of_mem_drop (List.mem_of_mem_take (lw_rc_164 ▸ h)))
theorem mw_1088 : (.instanceMethod yX12_isCalm : Cond) ∈ lw_tbl := lw_rd_164 _ (List.mem_of_getElem? (i := 0) rfl)
theorem mw_1099 : (.code yX12_isCalm cX12_isCalm 4 (some .boolean) : Cond) ∈ lw_tbl := lw_rd_164 _ (List.mem_of_getElem? (i := 1) rfl)
theorem mw_1089 : (.methodLink RX12 401 yX12_setsOff : Cond) ∈ lw_tbl := lw_rd_164 _ (List.mem_of_getElem? (i := 2) rfl)
def lw_rb_165 : List Cond := [.instanceMethod yX12_setsOff, .code yX12_setsOff cX12_setsOff 3 (some .boolean), .methodLink RX12 411 Lib.Math.abs.name, .methodLink RX12 414 yX12_stubbornOf]
set_option maxRecDepth 100000 in
theorem lw_rc_165 : (List.drop 161 tables_1_8).take 4 = lw_rb_165 := rfl
theorem lw_rd_165 : ∀ w ∈ lw_rb_165, w ∈ lw_tbl := fun w h => lw_tm_8 w (List.mem_of_mem_drop (List.mem_of_mem_take (lw_rc_165 ▸ h)))
theorem mw_1091 : (.instanceMethod yX12_setsOff : Cond) ∈ lw_tbl := lw_rd_165 _ (List.mem_of_getElem? (i := 0) rfl)
theorem mw_1097 : (.code yX12_setsOff cX12_setsOff 3 (some .boolean) : Cond) ∈ lw_tbl := lw_rd_165 _ (List.mem_of_getElem? (i := 1) rfl)
theorem mw_1096 : (.methodLink RX12 411 Lib.Math.abs.name : Cond) ∈ lw_tbl := lw_rd_165 _ (List.mem_of_getElem? (i := 2) rfl)
theorem mw_1092 : (.methodLink RX12 414 yX12_stubbornOf : Cond) ∈ lw_tbl := lw_rd_165 _ (List.mem_of_getElem? (i := 3) rfl)
def lw_rb_166 : List Cond := [.instanceMethod yX12_stubbornOf, .code yX12_stubbornOf cX12_stubbornOf 2 (some .int), .methodLink RL 128 yX12_sets, .instanceMethod yX12_sets, .selects RX12 yX12_sets yX12_sets, .code yX12_sets cX12_sets 3 (some .int), .methodLink RL 132 yX12_apart, .instanceMethod yX12_apart, .selects RX12 yX12_apart yX12_apart, .code yX12_apart cX12_apart 2 (some .int), .methodLink RL 136 yX12_roar, .instanceMethod yX12_roar, .selects RX12 yX12_roar yX12_roar, .code yX12_roar cX12_roar 3 (some .int), .methodLink RX12 417 yJ6_bitCount_0f7a4, .methodLink RX12 422 yX12_doRoar]
set_option maxRecDepth 100000 in
theorem lw_rc_166 : (List.drop 166 tables_1_8).take 16 = lw_rb_166 := rfl
theorem lw_rd_166 : ∀ w ∈ lw_rb_166, w ∈ lw_tbl := fun w h => lw_tm_8 w (List.mem_of_mem_drop (List.mem_of_mem_take (lw_rc_166 ▸ h)))
theorem mw_1094 : (.instanceMethod yX12_stubbornOf : Cond) ∈ lw_tbl := lw_rd_166 _ (List.mem_of_getElem? (i := 0) rfl)
theorem mw_1095 : (.code yX12_stubbornOf cX12_stubbornOf 2 (some .int) : Cond) ∈ lw_tbl := lw_rd_166 _ (List.mem_of_getElem? (i := 1) rfl)
theorem mw_1120 : (.methodLink RL 128 yX12_sets : Cond) ∈ lw_tbl := lw_rd_166 _ (List.mem_of_getElem? (i := 2) rfl)
theorem mw_1119 : (.instanceMethod yX12_sets : Cond) ∈ lw_tbl := lw_rd_166 _ (List.mem_of_getElem? (i := 3) rfl)
theorem mw_1118 : (.selects RX12 yX12_sets yX12_sets : Cond) ∈ lw_tbl := lw_rd_166 _ (List.mem_of_getElem? (i := 4) rfl)
theorem mw_1117 : (.code yX12_sets cX12_sets 3 (some .int) : Cond) ∈ lw_tbl := lw_rd_166 _ (List.mem_of_getElem? (i := 5) rfl)
theorem mw_1132 : (.methodLink RL 132 yX12_apart : Cond) ∈ lw_tbl := lw_rd_166 _ (List.mem_of_getElem? (i := 6) rfl)
theorem mw_1131 : (.instanceMethod yX12_apart : Cond) ∈ lw_tbl := lw_rd_166 _ (List.mem_of_getElem? (i := 7) rfl)
theorem mw_1130 : (.selects RX12 yX12_apart yX12_apart : Cond) ∈ lw_tbl := lw_rd_166 _ (List.mem_of_getElem? (i := 8) rfl)
theorem mw_1129 : (.code yX12_apart cX12_apart 2 (some .int) : Cond) ∈ lw_tbl := lw_rd_166 _ (List.mem_of_getElem? (i := 9) rfl)
theorem mw_1161 : (.methodLink RL 136 yX12_roar : Cond) ∈ lw_tbl := lw_rd_166 _ (List.mem_of_getElem? (i := 10) rfl)
theorem mw_1160 : (.instanceMethod yX12_roar : Cond) ∈ lw_tbl := lw_rd_166 _ (List.mem_of_getElem? (i := 11) rfl)
theorem mw_1159 : (.selects RX12 yX12_roar yX12_roar : Cond) ∈ lw_tbl := lw_rd_166 _ (List.mem_of_getElem? (i := 12) rfl)
theorem mw_1158 : (.code yX12_roar cX12_roar 3 (some .int) : Cond) ∈ lw_tbl := lw_rd_166 _ (List.mem_of_getElem? (i := 13) rfl)
theorem mw_1157 : (.methodLink RX12 417 yJ6_bitCount_0f7a4 : Cond) ∈ lw_tbl := lw_rd_166 _ (List.mem_of_getElem? (i := 14) rfl)
theorem mw_1153 : (.methodLink RX12 422 yX12_doRoar : Cond) ∈ lw_tbl := lw_rd_166 _ (List.mem_of_getElem? (i := 15) rfl)
def lw_rb_167 : List Cond := [.instanceMethod yX12_doRoar, .code yX12_doRoar cX12_doRoar 4 (some .boolean), .methodLink RL 141 yX12_seen, .instanceMethod yX12_seen, .selects RX12 yX12_seen yX12_seen, .code yX12_seen cX12_seen 5 (some .int), .methodLink RX12 425 yX12_isTold]
set_option maxRecDepth 100000 in
theorem lw_rc_167 : (List.drop 183 tables_1_8).take 7 = lw_rb_167 := rfl
theorem lw_rd_167 : ∀ w ∈ lw_rb_167, w ∈ lw_tbl := fun w h => lw_tm_8 w (List.mem_of_mem_drop (List.mem_of_mem_take (lw_rc_167 ▸ h)))
theorem mw_1155 : (.instanceMethod yX12_doRoar : Cond) ∈ lw_tbl := lw_rd_167 _ (List.mem_of_getElem? (i := 0) rfl)
theorem mw_1156 : (.code yX12_doRoar cX12_doRoar 4 (some .boolean) : Cond) ∈ lw_tbl := lw_rd_167 _ (List.mem_of_getElem? (i := 1) rfl)
theorem mw_1189 : (.methodLink RL 141 yX12_seen : Cond) ∈ lw_tbl := lw_rd_167 _ (List.mem_of_getElem? (i := 2) rfl)
theorem mw_1188 : (.instanceMethod yX12_seen : Cond) ∈ lw_tbl := lw_rd_167 _ (List.mem_of_getElem? (i := 3) rfl)
theorem mw_1187 : (.selects RX12 yX12_seen yX12_seen : Cond) ∈ lw_tbl := lw_rd_167 _ (List.mem_of_getElem? (i := 4) rfl)
theorem mw_1186 : (.code yX12_seen cX12_seen 5 (some .int) : Cond) ∈ lw_tbl := lw_rd_167 _ (List.mem_of_getElem? (i := 5) rfl)
theorem mw_1182 : (.methodLink RX12 425 yX12_isTold : Cond) ∈ lw_tbl := lw_rd_167 _ (List.mem_of_getElem? (i := 6) rfl)
def lw_rb_168 : List Cond := [.instanceMethod yX12_isTold, .code yX12_isTold cX12_isTold 2 (some .boolean), .methodLink RL 145 yX12_sizes, .instanceMethod yX12_sizes, .selects RX12 yX12_sizes yX12_sizes, .code yX12_sizes cX12_sizes 5 (some .int), .methodLink RX12 431 yX12_isSize]
set_option maxRecDepth 100000 in
theorem lw_rc_168 : (List.drop 191 tables_1_8).take 7 = lw_rb_168 := rfl
theorem lw_rd_168 : ∀ w ∈ lw_rb_168, w ∈ lw_tbl := fun w h => lw_tm_8 w (List.mem_of_mem_drop (List.mem_of_mem_take (lw_rc_168 ▸ h)))
theorem mw_1184 : (.instanceMethod yX12_isTold : Cond) ∈ lw_tbl := lw_rd_168 _ (List.mem_of_getElem? (i := 0) rfl)
theorem mw_1185 : (.code yX12_isTold cX12_isTold 2 (some .boolean) : Cond) ∈ lw_tbl := lw_rd_168 _ (List.mem_of_getElem? (i := 1) rfl)
theorem mw_1240 : (.methodLink RL 145 yX12_sizes : Cond) ∈ lw_tbl := lw_rd_168 _ (List.mem_of_getElem? (i := 2) rfl)
theorem mw_1239 : (.instanceMethod yX12_sizes : Cond) ∈ lw_tbl := lw_rd_168 _ (List.mem_of_getElem? (i := 3) rfl)
theorem mw_1238 : (.selects RX12 yX12_sizes yX12_sizes : Cond) ∈ lw_tbl := lw_rd_168 _ (List.mem_of_getElem? (i := 4) rfl)
theorem mw_1237 : (.code yX12_sizes cX12_sizes 5 (some .int) : Cond) ∈ lw_tbl := lw_rd_168 _ (List.mem_of_getElem? (i := 5) rfl)
theorem mw_1228 : (.methodLink RX12 431 yX12_isSize : Cond) ∈ lw_tbl := lw_rd_168 _ (List.mem_of_getElem? (i := 6) rfl)
def lw_rb_169 : List Cond := [.instanceMethod yX12_isSize, .code yX12_isSize cX12_isSize 4 (some .boolean), .methodLink RX12 428 yX12_layAlone]
set_option maxRecDepth 100000 in
theorem lw_rc_169 : (List.drop 199 tables_1_8).take 3 = lw_rb_169 := rfl
theorem lw_rd_169 : ∀ w ∈ lw_rb_169, w ∈ lw_tbl := fun w h => lw_tm_8 w (List.mem_of_mem_drop (List.mem_of_mem_take (lw_rc_169 ▸ h)))
theorem mw_1230 : (.instanceMethod yX12_isSize : Cond) ∈ lw_tbl := lw_rd_169 _ (List.mem_of_getElem? (i := 0) rfl)
theorem mw_1236 : (.code yX12_isSize cX12_isSize 4 (some .boolean) : Cond) ∈ lw_tbl := lw_rd_169 _ (List.mem_of_getElem? (i := 1) rfl)
theorem mw_1231 : (.methodLink RX12 428 yX12_layAlone : Cond) ∈ lw_tbl := lw_rd_169 _ (List.mem_of_getElem? (i := 2) rfl)
def lw_rb_170 : List Cond := [.instanceMethod yX12_layAlone, .code yX12_layAlone cX12_layAlone 4 none, .methodLink RL 149 yX12_ask, .instanceMethod yX12_ask, .selects RX12 yX12_ask yX12_ask, .code yX12_ask cX12_ask 9 (some .int), .methodLink RL 153 yX12_sale, .instanceMethod yX12_sale, .selects RX12 yX12_sale yX12_sale, .code yX12_sale cX12_sale 5 (some .int), .methodLink RX12 434 yX12_ripeOnes]
set_option maxRecDepth 100000 in
theorem lw_rc_170 : (List.drop 203 tables_1_8).take 11 = lw_rb_170 := rfl
theorem lw_rd_170 : ∀ w ∈ lw_rb_170, w ∈ lw_tbl := fun w h => lw_tm_8 w (List.mem_of_mem_drop (List.mem_of_mem_take (lw_rc_170 ▸ h)))
theorem mw_1233 : (.instanceMethod yX12_layAlone : Cond) ∈ lw_tbl := lw_rd_170 _ (List.mem_of_getElem? (i := 0) rfl)
theorem mw_1235 : (.code yX12_layAlone cX12_layAlone 4 none : Cond) ∈ lw_tbl := lw_rd_170 _ (List.mem_of_getElem? (i := 1) rfl)
theorem mw_1263 : (.methodLink RL 149 yX12_ask : Cond) ∈ lw_tbl := lw_rd_170 _ (List.mem_of_getElem? (i := 2) rfl)
theorem mw_1262 : (.instanceMethod yX12_ask : Cond) ∈ lw_tbl := lw_rd_170 _ (List.mem_of_getElem? (i := 3) rfl)
theorem mw_1261 : (.selects RX12 yX12_ask yX12_ask : Cond) ∈ lw_tbl := lw_rd_170 _ (List.mem_of_getElem? (i := 4) rfl)
theorem mw_1260 : (.code yX12_ask cX12_ask 9 (some .int) : Cond) ∈ lw_tbl := lw_rd_170 _ (List.mem_of_getElem? (i := 5) rfl)
theorem mw_1291 : (.methodLink RL 153 yX12_sale : Cond) ∈ lw_tbl := lw_rd_170 _ (List.mem_of_getElem? (i := 6) rfl)
theorem mw_1290 : (.instanceMethod yX12_sale : Cond) ∈ lw_tbl := lw_rd_170 _ (List.mem_of_getElem? (i := 7) rfl)
theorem mw_1289 : (.selects RX12 yX12_sale yX12_sale : Cond) ∈ lw_tbl := lw_rd_170 _ (List.mem_of_getElem? (i := 8) rfl)
theorem mw_1288 : (.code yX12_sale cX12_sale 5 (some .int) : Cond) ∈ lw_tbl := lw_rd_170 _ (List.mem_of_getElem? (i := 9) rfl)
theorem mw_1284 : (.methodLink RX12 434 yX12_ripeOnes : Cond) ∈ lw_tbl := lw_rd_170 _ (List.mem_of_getElem? (i := 10) rfl)
def lw_rb_171 : List Cond := [.instanceMethod yX12_ripeOnes, .code yX12_ripeOnes cX12_ripeOnes 3 (some .int), .methodLink RX12 437 yX12_sizeOf]
set_option maxRecDepth 100000 in
theorem lw_rc_171 : (List.drop 215 tables_1_8).take 3 = lw_rb_171 := rfl
theorem lw_rd_171 : ∀ w ∈ lw_rb_171, w ∈ lw_tbl := fun w h => lw_tm_8 w (List.mem_of_mem_drop (List.mem_of_mem_take (lw_rc_171 ▸ h)))
theorem mw_1286 : (.instanceMethod yX12_ripeOnes : Cond) ∈ lw_tbl := lw_rd_171 _ (List.mem_of_getElem? (i := 0) rfl)
theorem mw_1287 : (.code yX12_ripeOnes cX12_ripeOnes 3 (some .int) : Cond) ∈ lw_tbl := lw_rd_171 _ (List.mem_of_getElem? (i := 1) rfl)
theorem mw_1280 : (.methodLink RX12 437 yX12_sizeOf : Cond) ∈ lw_tbl := lw_rd_171 _ (List.mem_of_getElem? (i := 2) rfl)
def lw_rb_172 : List Cond := [.instanceMethod yX12_sizeOf, .code yX12_sizeOf cX12_sizeOf 4 (some .int), .methodLink RL 157 yX12_game, .instanceMethod yX12_game, .selects RX12 yX12_game yX12_game, .code yX12_game cX12_game 5 (some .int), .methodLink RX12 440 yX12_gameOf]
set_option maxRecDepth 100000 in
theorem lw_rc_172 : (List.drop 219 tables_1_8).take 7 = lw_rb_172 := rfl
theorem lw_rd_172 : ∀ w ∈ lw_rb_172, w ∈ lw_tbl := fun w h => lw_tm_8 w (List.mem_of_mem_drop (List.mem_of_mem_take (lw_rc_172 ▸ h)))
theorem mw_1282 : (.instanceMethod yX12_sizeOf : Cond) ∈ lw_tbl := lw_rd_172 _ (List.mem_of_getElem? (i := 0) rfl)
theorem mw_1283 : (.code yX12_sizeOf cX12_sizeOf 4 (some .int) : Cond) ∈ lw_tbl := lw_rd_172 _ (List.mem_of_getElem? (i := 1) rfl)
theorem mw_1331 : (.methodLink RL 157 yX12_game : Cond) ∈ lw_tbl := lw_rd_172 _ (List.mem_of_getElem? (i := 2) rfl)
theorem mw_1330 : (.instanceMethod yX12_game : Cond) ∈ lw_tbl := lw_rd_172 _ (List.mem_of_getElem? (i := 3) rfl)
theorem mw_1329 : (.selects RX12 yX12_game yX12_game : Cond) ∈ lw_tbl := lw_rd_172 _ (List.mem_of_getElem? (i := 4) rfl)
theorem mw_1328 : (.code yX12_game cX12_game 5 (some .int) : Cond) ∈ lw_tbl := lw_rd_172 _ (List.mem_of_getElem? (i := 5) rfl)
theorem mw_1323 : (.methodLink RX12 440 yX12_gameOf : Cond) ∈ lw_tbl := lw_rd_172 _ (List.mem_of_getElem? (i := 6) rfl)
def lw_rb_173 : List Cond := [.instanceMethod yX12_gameOf, .code yX12_gameOf cX12_gameOf 6 (some .int), .constant RX12 443 (-1000000), .methodLink RL 161 yX12_rests, .instanceMethod yX12_rests, .selects RX12 yX12_rests yX12_rests, .code yX12_rests cX12_rests 6 (some .int), .methodLink RX12 444 yX12_isRest]
set_option maxRecDepth 100000 in
theorem lw_rc_173 : (List.drop 227 tables_1_8).take 8 = lw_rb_173 := rfl
theorem lw_rd_173 : ∀ w ∈ lw_rb_173, w ∈ lw_tbl := fun w h => lw_tm_8 w (List.mem_of_mem_drop (List.mem_of_mem_take (lw_rc_173 ▸ h)))
theorem mw_1325 : (.instanceMethod yX12_gameOf : Cond) ∈ lw_tbl := lw_rd_173 _ (List.mem_of_getElem? (i := 0) rfl)
theorem mw_1326 : (.code yX12_gameOf cX12_gameOf 6 (some .int) : Cond) ∈ lw_tbl := lw_rd_173 _ (List.mem_of_getElem? (i := 1) rfl)
theorem mw_1327 : (.constant RX12 443 (-1000000) : Cond) ∈ lw_tbl := lw_rd_173 _ (List.mem_of_getElem? (i := 2) rfl)
theorem mw_1353 : (.methodLink RL 161 yX12_rests : Cond) ∈ lw_tbl := lw_rd_173 _ (List.mem_of_getElem? (i := 3) rfl)
theorem mw_1352 : (.instanceMethod yX12_rests : Cond) ∈ lw_tbl := lw_rd_173 _ (List.mem_of_getElem? (i := 4) rfl)
theorem mw_1351 : (.selects RX12 yX12_rests yX12_rests : Cond) ∈ lw_tbl := lw_rd_173 _ (List.mem_of_getElem? (i := 5) rfl)
theorem mw_1350 : (.code yX12_rests cX12_rests 6 (some .int) : Cond) ∈ lw_tbl := lw_rd_173 _ (List.mem_of_getElem? (i := 6) rfl)
theorem mw_1346 : (.methodLink RX12 444 yX12_isRest : Cond) ∈ lw_tbl := lw_rd_173 _ (List.mem_of_getElem? (i := 7) rfl)
def lw_rb_174 : List Cond := [.instanceMethod yX12_isRest, .code yX12_isRest cX12_isRest 5 (some .boolean), .methodLink RL 165 yX12_odds, .instanceMethod yX12_odds]
set_option maxRecDepth 100000 in
theorem lw_rc_174 : (List.drop 236 tables_1_8).take 4 = lw_rb_174 := rfl
theorem lw_rd_174 : ∀ w ∈ lw_rb_174, w ∈ lw_tbl := fun w h => lw_tm_8 w (List.mem_of_mem_drop (List.mem_of_mem_take (lw_rc_174 ▸ h)))
theorem mw_1348 : (.instanceMethod yX12_isRest : Cond) ∈ lw_tbl := lw_rd_174 _ (List.mem_of_getElem? (i := 0) rfl)
theorem mw_1349 : (.code yX12_isRest cX12_isRest 5 (some .boolean) : Cond) ∈ lw_tbl := lw_rd_174 _ (List.mem_of_getElem? (i := 1) rfl)
theorem mw_1386 : (.methodLink RL 165 yX12_odds : Cond) ∈ lw_tbl := lw_rd_174 _ (List.mem_of_getElem? (i := 2) rfl)
theorem mw_1385 : (.instanceMethod yX12_odds : Cond) ∈ lw_tbl := lw_rd_174 _ (List.mem_of_getElem? (i := 3) rfl)
def lw_rb_175 : List Cond := [.selects RX12 yX12_odds yX12_odds, .code yX12_odds cX12_odds 5 (some .int), .constant RX12 452 (1000000000), .methodLink RX12 449 yX12_oddsFrom]
set_option maxRecDepth 100000 in
theorem lw_rc_175 : (List.drop 0 tables_1_9).take 4 = lw_rb_175 := rfl
theorem lw_rd_175 : ∀ w ∈ lw_rb_175, w ∈ lw_tbl := fun w h => lw_tm_9 w (List.mem_of_mem_drop (List.mem_of_mem_take (lw_rc_175 ▸ h)))
theorem mw_1384 : (.selects RX12 yX12_odds yX12_odds : Cond) ∈ lw_tbl := lw_rd_175 _ (List.mem_of_getElem? (i := 0) rfl)
theorem mw_1383 : (.code yX12_odds cX12_odds 5 (some .int) : Cond) ∈ lw_tbl := lw_rd_175 _ (List.mem_of_getElem? (i := 1) rfl)
theorem mw_1382 : (.constant RX12 452 (1000000000) : Cond) ∈ lw_tbl := lw_rd_175 _ (List.mem_of_getElem? (i := 2) rfl)
theorem mw_1377 : (.methodLink RX12 449 yX12_oddsFrom : Cond) ∈ lw_tbl := lw_rd_175 _ (List.mem_of_getElem? (i := 3) rfl)
def lw_rb_176 : List Cond := [.instanceMethod yX12_oddsFrom, .code yX12_oddsFrom cX12_oddsFrom 10 (some .int), .constantLong RX12 447 (100), .methodLink RL 169 yX12_shares, .instanceMethod yX12_shares, .selects RX12 yX12_shares yX12_shares, .code yX12_shares cX12_shares 3 (some .int), .methodLink RL 173 yX12_most, .instanceMethod yX12_most, .selects RX12 yX12_most yX12_most, .code yX12_most cX12_most 2 (some .int), .methodLink RX12 456 yX12_fullest]
set_option maxRecDepth 100000 in
theorem lw_rc_176 : (List.drop 5 tables_1_9).take 12 = lw_rb_176 := rfl
theorem lw_rd_176 : ∀ w ∈ lw_rb_176, w ∈ lw_tbl := fun w h => lw_tm_9 w (List.mem_of_mem_drop (List.mem_of_mem_take (lw_rc_176 ▸ h)))
theorem mw_1379 : (.instanceMethod yX12_oddsFrom : Cond) ∈ lw_tbl := lw_rd_176 _ (List.mem_of_getElem? (i := 0) rfl)
theorem mw_1381 : (.code yX12_oddsFrom cX12_oddsFrom 10 (some .int) : Cond) ∈ lw_tbl := lw_rd_176 _ (List.mem_of_getElem? (i := 1) rfl)
theorem mw_1380 : (.constantLong RX12 447 (100) : Cond) ∈ lw_tbl := lw_rd_176 _ (List.mem_of_getElem? (i := 2) rfl)
theorem mw_1394 : (.methodLink RL 169 yX12_shares : Cond) ∈ lw_tbl := lw_rd_176 _ (List.mem_of_getElem? (i := 3) rfl)
theorem mw_1393 : (.instanceMethod yX12_shares : Cond) ∈ lw_tbl := lw_rd_176 _ (List.mem_of_getElem? (i := 4) rfl)
theorem mw_1392 : (.selects RX12 yX12_shares yX12_shares : Cond) ∈ lw_tbl := lw_rd_176 _ (List.mem_of_getElem? (i := 5) rfl)
theorem mw_1391 : (.code yX12_shares cX12_shares 3 (some .int) : Cond) ∈ lw_tbl := lw_rd_176 _ (List.mem_of_getElem? (i := 6) rfl)
theorem mw_1461 : (.methodLink RL 173 yX12_most : Cond) ∈ lw_tbl := lw_rd_176 _ (List.mem_of_getElem? (i := 7) rfl)
theorem mw_1460 : (.instanceMethod yX12_most : Cond) ∈ lw_tbl := lw_rd_176 _ (List.mem_of_getElem? (i := 8) rfl)
theorem mw_1459 : (.selects RX12 yX12_most yX12_most : Cond) ∈ lw_tbl := lw_rd_176 _ (List.mem_of_getElem? (i := 9) rfl)
theorem mw_1458 : (.code yX12_most cX12_most 2 (some .int) : Cond) ∈ lw_tbl := lw_rd_176 _ (List.mem_of_getElem? (i := 10) rfl)
theorem mw_1454 : (.methodLink RX12 456 yX12_fullest : Cond) ∈ lw_tbl := lw_rd_176 _ (List.mem_of_getElem? (i := 11) rfl)
def lw_rb_177 : List Cond := [.instanceMethod yX12_fullest, .code yX12_fullest cX12_fullest 3 (some .int), .methodLink RX12 459 yX12_onesBy]
set_option maxRecDepth 100000 in
theorem lw_rc_177 : (List.drop 18 tables_1_9).take 3 = lw_rb_177 := rfl
theorem lw_rd_177 : ∀ w ∈ lw_rb_177, w ∈ lw_tbl := fun w h => lw_tm_9 w (List.mem_of_mem_drop (List.mem_of_mem_take (lw_rc_177 ▸ h)))
theorem mw_1456 : (.instanceMethod yX12_fullest : Cond) ∈ lw_tbl := lw_rd_177 _ (List.mem_of_getElem? (i := 0) rfl)
theorem mw_1457 : (.code yX12_fullest cX12_fullest 3 (some .int) : Cond) ∈ lw_tbl := lw_rd_177 _ (List.mem_of_getElem? (i := 1) rfl)
theorem mw_1450 : (.methodLink RX12 459 yX12_onesBy : Cond) ∈ lw_tbl := lw_rd_177 _ (List.mem_of_getElem? (i := 2) rfl)
def lw_rb_178 : List Cond := [.instanceMethod yX12_onesBy, .code yX12_onesBy cX12_onesBy 5 (some .int), .methodLink RX12 462 yX12_roomLeft]
set_option maxRecDepth 100000 in
theorem lw_rc_178 : (List.drop 22 tables_1_9).take 3 = lw_rb_178 := rfl
theorem lw_rd_178 : ∀ w ∈ lw_rb_178, w ∈ lw_tbl := fun w h => lw_tm_9 w (List.mem_of_mem_drop (List.mem_of_mem_take (lw_rc_178 ▸ h)))
theorem mw_1452 : (.instanceMethod yX12_onesBy : Cond) ∈ lw_tbl := lw_rd_178 _ (List.mem_of_getElem? (i := 0) rfl)
theorem mw_1453 : (.code yX12_onesBy cX12_onesBy 5 (some .int) : Cond) ∈ lw_tbl := lw_rd_178 _ (List.mem_of_getElem? (i := 1) rfl)
theorem mw_1446 : (.methodLink RX12 462 yX12_roomLeft : Cond) ∈ lw_tbl := lw_rd_178 _ (List.mem_of_getElem? (i := 2) rfl)
def lw_rb_179 : List Cond := [.instanceMethod yX12_roomLeft, .code yX12_roomLeft cX12_roomLeft 3 (some .int), .methodLink RX12 465 yX12_due]
set_option maxRecDepth 100000 in
theorem lw_rc_179 : (List.drop 26 tables_1_9).take 3 = lw_rb_179 := rfl
theorem lw_rd_179 : ∀ w ∈ lw_rb_179, w ∈ lw_tbl := fun w h => lw_tm_9 w (List.mem_of_mem_drop (List.mem_of_mem_take (lw_rc_179 ▸ h)))
theorem mw_1448 : (.instanceMethod yX12_roomLeft : Cond) ∈ lw_tbl := lw_rd_179 _ (List.mem_of_getElem? (i := 0) rfl)
theorem mw_1449 : (.code yX12_roomLeft cX12_roomLeft 3 (some .int) : Cond) ∈ lw_tbl := lw_rd_179 _ (List.mem_of_getElem? (i := 1) rfl)
theorem mw_1442 : (.methodLink RX12 465 yX12_due : Cond) ∈ lw_tbl := lw_rd_179 _ (List.mem_of_getElem? (i := 2) rfl)
def lw_rb_180 : List Cond := [.instanceMethod yX12_due, .code yX12_due cX12_due 3 (some .int), .methodLink RX12 468 yX12_quarrels]
set_option maxRecDepth 100000 in
theorem lw_rc_180 : (List.drop 30 tables_1_9).take 3 = lw_rb_180 := rfl
theorem lw_rd_180 : ∀ w ∈ lw_rb_180, w ∈ lw_tbl := fun w h => lw_tm_9 w (List.mem_of_mem_drop (List.mem_of_mem_take (lw_rc_180 ▸ h)))
theorem mw_1444 : (.instanceMethod yX12_due : Cond) ∈ lw_tbl := lw_rd_180 _ (List.mem_of_getElem? (i := 0) rfl)
theorem mw_1445 : (.code yX12_due cX12_due 3 (some .int) : Cond) ∈ lw_tbl := lw_rd_180 _ (List.mem_of_getElem? (i := 1) rfl)
theorem mw_1438 : (.methodLink RX12 468 yX12_quarrels : Cond) ∈ lw_tbl := lw_rd_180 _ (List.mem_of_getElem? (i := 2) rfl)
def lw_rb_181 : List Cond := [.instanceMethod yX12_quarrels, .code yX12_quarrels cX12_quarrels 4 (some .int), .methodLink RX12 471 yX12_topBag]
set_option maxRecDepth 100000 in
theorem lw_rc_181 : (List.drop 34 tables_1_9).take 3 = lw_rb_181 := rfl
theorem lw_rd_181 : ∀ w ∈ lw_rb_181, w ∈ lw_tbl := fun w h => lw_tm_9 w (List.mem_of_mem_drop (List.mem_of_mem_take (lw_rc_181 ▸ h)))
theorem mw_1440 : (.instanceMethod yX12_quarrels : Cond) ∈ lw_tbl := lw_rd_181 _ (List.mem_of_getElem? (i := 0) rfl)
theorem mw_1441 : (.code yX12_quarrels cX12_quarrels 4 (some .int) : Cond) ∈ lw_tbl := lw_rd_181 _ (List.mem_of_getElem? (i := 1) rfl)
theorem mw_1430 : (.methodLink RX12 471 yX12_topBag : Cond) ∈ lw_tbl := lw_rd_181 _ (List.mem_of_getElem? (i := 2) rfl)
def lw_rb_182 : List Cond := [.instanceMethod yX12_topBag, .code yX12_topBag cX12_topBag 4 (some .int), .methodLink RX12 453 yX12_valueOf]
set_option maxRecDepth 100000 in
theorem lw_rc_182 : (List.drop 38 tables_1_9).take 3 = lw_rb_182 := rfl
theorem lw_rd_182 : ∀ w ∈ lw_rb_182, w ∈ lw_tbl := fun w h => lw_tm_9 w (List.mem_of_mem_drop (List.mem_of_mem_take (lw_rc_182 ▸ h)))
theorem mw_1432 : (.instanceMethod yX12_topBag : Cond) ∈ lw_tbl := lw_rd_182 _ (List.mem_of_getElem? (i := 0) rfl)
theorem mw_1437 : (.code yX12_topBag cX12_topBag 4 (some .int) : Cond) ∈ lw_tbl := lw_rd_182 _ (List.mem_of_getElem? (i := 1) rfl)
theorem mw_1433 : (.methodLink RX12 453 yX12_valueOf : Cond) ∈ lw_tbl := lw_rd_182 _ (List.mem_of_getElem? (i := 2) rfl)
def lw_rb_183 : List Cond := [.instanceMethod yX12_valueOf, .code yX12_valueOf cX12_valueOf 3 (some .int), .methodLink RL 177 yX12_image, .instanceMethod yX12_image, .selects RX12 yX12_image yX12_image, .code yX12_image cX12_image 2 (some .int), .methodLink RL 181 yX12_back, .instanceMethod yX12_back, .selects RX12 yX12_back yX12_back, .code yX12_back cX12_back 2 (some .int), .methodLink RL 185 yX12_count, .instanceMethod yX12_count, .selects RX12 yX12_count yX12_count, .code yX12_count cX12_count 2 (some .int), .constantLong RL 89 (4294967295), .arrayClass .long]
set_option maxRecDepth 100000 in
theorem lw_rc_183 : (List.drop 42 tables_1_9).take 16 = lw_rb_183 := rfl
theorem lw_rd_183 : ∀ w ∈ lw_rb_183, w ∈ lw_tbl := fun w h => lw_tm_9 w (List.mem_of_mem_drop (List.mem_of_mem_take (lw_rc_183 ▸ h)))
theorem mw_1435 : (.instanceMethod yX12_valueOf : Cond) ∈ lw_tbl := lw_rd_183 _ (List.mem_of_getElem? (i := 0) rfl)
theorem mw_1436 : (.code yX12_valueOf cX12_valueOf 3 (some .int) : Cond) ∈ lw_tbl := lw_rd_183 _ (List.mem_of_getElem? (i := 1) rfl)
theorem mw_1478 : (.methodLink RL 177 yX12_image : Cond) ∈ lw_tbl := lw_rd_183 _ (List.mem_of_getElem? (i := 2) rfl)
theorem mw_1477 : (.instanceMethod yX12_image : Cond) ∈ lw_tbl := lw_rd_183 _ (List.mem_of_getElem? (i := 3) rfl)
theorem mw_1476 : (.selects RX12 yX12_image yX12_image : Cond) ∈ lw_tbl := lw_rd_183 _ (List.mem_of_getElem? (i := 4) rfl)
theorem mw_1475 : (.code yX12_image cX12_image 2 (some .int) : Cond) ∈ lw_tbl := lw_rd_183 _ (List.mem_of_getElem? (i := 5) rfl)
theorem mw_1486 : (.methodLink RL 181 yX12_back : Cond) ∈ lw_tbl := lw_rd_183 _ (List.mem_of_getElem? (i := 6) rfl)
theorem mw_1485 : (.instanceMethod yX12_back : Cond) ∈ lw_tbl := lw_rd_183 _ (List.mem_of_getElem? (i := 7) rfl)
theorem mw_1484 : (.selects RX12 yX12_back yX12_back : Cond) ∈ lw_tbl := lw_rd_183 _ (List.mem_of_getElem? (i := 8) rfl)
theorem mw_1483 : (.code yX12_back cX12_back 2 (some .int) : Cond) ∈ lw_tbl := lw_rd_183 _ (List.mem_of_getElem? (i := 9) rfl)
theorem mw_1504 : (.methodLink RL 185 yX12_count : Cond) ∈ lw_tbl := lw_rd_183 _ (List.mem_of_getElem? (i := 10) rfl)
theorem mw_1503 : (.instanceMethod yX12_count : Cond) ∈ lw_tbl := lw_rd_183 _ (List.mem_of_getElem? (i := 11) rfl)
theorem mw_1502 : (.selects RX12 yX12_count yX12_count : Cond) ∈ lw_tbl := lw_rd_183 _ (List.mem_of_getElem? (i := 12) rfl)
theorem mw_1501 : (.code yX12_count cX12_count 2 (some .int) : Cond) ∈ lw_tbl := lw_rd_183 _ (List.mem_of_getElem? (i := 13) rfl)
theorem mw_880 : (.constantLong RL 89 (4294967295) : Cond) ∈ lw_tbl := lw_rd_183 _ (List.mem_of_getElem? (i := 14) rfl)
theorem mw_1583 : (.arrayClass .long : Cond) ∈ lw_tbl := lw_rd_183 _ (List.mem_of_getElem? (i := 15) rfl)
def lw_rb_184 : List Cond := [.fieldLink RJ0 9 "java/lang/String" "value" "[B", .fieldLink RJ0 15 "java/lang/String" "coder" "B"]
set_option maxRecDepth 100000 in
theorem lw_rc_184 : (List.drop 75 tables_1_9).take 2 = lw_rb_184 := rfl
theorem lw_rd_184 : ∀ w ∈ lw_rb_184, w ∈ lw_tbl := fun w h => lw_tm_9 w (List.mem_of_mem_drop (List.mem_of_mem_take (lw_rc_184 ▸ h)))
theorem mw_194 : (.fieldLink RJ0 9 "java/lang/String" "value" "[B" : Cond) ∈ lw_tbl := lw_rd_184 _ (List.mem_of_getElem? (i := 0) rfl)
theorem mw_199 : (.fieldLink RJ0 15 "java/lang/String" "coder" "B" : Cond) ∈ lw_tbl := lw_rd_184 _ (List.mem_of_getElem? (i := 1) rfl)
