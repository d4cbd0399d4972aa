set_option maxRecDepth 20000 in
theorem ggX0_init_X0_lay : GoodIn wsX0_init wsX0_lay := goodIn_r _ [14, 15, 16, 17, 18, 5, 7, 8, 19, 20, 21, 22, 23, 24, 25, 26, 13, 27, 28, 29, 30, 31, 32, 33, 34, 35, 36, 37, 38, 39, 40, 41, 42] (by decide +kernel) (by decide +kernel)
set_option maxRecDepth 20000 in
theorem gX0_init_X0_lay : GoodIn wsX0_init (wsV RX0 25 RX0 yX0_lay wsX0_lay) := goodIn_app (goodIn_of _ (by decide +kernel)) ggX0_init_X0_lay
set_option maxRecDepth 20000 in
theorem ggX0_lay_J7_fill_53178 : GoodIn wsX0_lay wsJ7_fill_53178 := goodIn_r _ [12] (by decide +kernel) (by decide +kernel)
set_option maxRecDepth 20000 in
theorem gX0_lay_J7_fill_53178 : GoodIn wsX0_lay (va_wsS RX0 42 yJ7_fill_53178 wsJ7_fill_53178) := goodIn_app (goodIn_of _ (by decide +kernel)) ggX0_lay_J7_fill_53178
set_option maxRecDepth 20000 in
theorem ggX0_lay_X0_allCells : GoodIn wsX0_lay wsX0_allCells := goodIn_r _ [17, 2, 1, 18, 19, 16, 20, 24, 25, 26, 27, 28, 29, 30, 31, 32] (by decide +kernel) (by decide +kernel)
set_option maxRecDepth 20000 in
theorem gX0_lay_X0_allCells : GoodIn wsX0_lay (wsV RX0 48 RX0 yX0_allCells wsX0_allCells) := goodIn_app (goodIn_of _ (by decide +kernel)) ggX0_lay_X0_allCells
set_option maxRecDepth 20000 in
theorem ggX0_lay_J7_fill_d0a16 : GoodIn wsX0_lay wsJ7_fill_d0a16 := goodIn_r _ [23] (by decide +kernel) (by decide +kernel)
set_option maxRecDepth 20000 in
theorem gX0_lay_J7_fill_d0a16 : GoodIn wsX0_lay (va_wsS RX0 52 yJ7_fill_d0a16 wsJ7_fill_d0a16) := goodIn_app (goodIn_of _ (by decide +kernel)) ggX0_lay_J7_fill_d0a16
set_option maxRecDepth 20000 in
theorem ggX0_allCells_X0_cellAt : GoodIn wsX0_allCells wsX0_cellAt := goodIn_r _ [6] (by decide +kernel) (by decide +kernel)
set_option maxRecDepth 20000 in
theorem gX0_allCells_X0_cellAt : GoodIn wsX0_allCells (va_wsS RX0 59 yX0_cellAt wsX0_cellAt) := goodIn_app (goodIn_of _ (by decide +kernel)) ggX0_allCells_X0_cellAt
set_option maxRecDepth 20000 in
theorem ggX0_setKind_X0_lets : GoodIn wsX0_setKind wsX0_lets := goodIn_r _ [8] (by decide +kernel) (by decide +kernel)
set_option maxRecDepth 20000 in
theorem gX0_setKind_X0_lets : GoodIn wsX0_setKind (va_wsS RX0 63 yX0_lets wsX0_lets) := goodIn_app (goodIn_of _ (by decide +kernel)) ggX0_setKind_X0_lets
set_option maxRecDepth 20000 in
theorem ggX0_setKind_X0_with : GoodIn wsX0_setKind wsX0_with := goodIn_r _ [11, 12] (by decide +kernel) (by decide +kernel)
set_option maxRecDepth 20000 in
theorem gX0_setKind_X0_with : GoodIn wsX0_setKind (va_wsS RX0 67 yX0_with wsX0_with) := goodIn_app (goodIn_of _ (by decide +kernel)) ggX0_setKind_X0_with
set_option maxRecDepth 20000 in
theorem ggX0_foeCell_J9_floorMod_7cf53 : GoodIn wsX0_foeCell wsJ9_floorMod_7cf53 := goodIn_r _ [6] (by decide +kernel) (by decide +kernel)
set_option maxRecDepth 20000 in
theorem gX0_foeCell_J9_floorMod_7cf53 : GoodIn wsX0_foeCell (va_wsS RX0 73 yJ9_floorMod_7cf53 wsJ9_floorMod_7cf53) := goodIn_app (goodIn_of _ (by decide +kernel)) ggX0_foeCell_J9_floorMod_7cf53
set_option maxRecDepth 20000 in
theorem ggX0_after_X0_cellOf : GoodIn wsX0_after wsX0_cellOf := goodIn_r _ [5] (by decide +kernel) (by decide +kernel)
set_option maxRecDepth 20000 in
theorem gX0_after_X0_cellOf : GoodIn wsX0_after (va_wsS RX0 78 yX0_cellOf wsX0_cellOf) := goodIn_app (goodIn_of _ (by decide +kernel)) ggX0_after_X0_cellOf
set_option maxRecDepth 20000 in
theorem ggX0_after_X0_keysOf : GoodIn wsX0_after wsX0_keysOf := goodIn_r _ [8] (by decide +kernel) (by decide +kernel)
set_option maxRecDepth 20000 in
theorem gX0_after_X0_keysOf : GoodIn wsX0_after (va_wsS RX0 82 yX0_keysOf wsX0_keysOf) := goodIn_app (goodIn_of _ (by decide +kernel)) ggX0_after_X0_keysOf
set_option maxRecDepth 20000 in
theorem ggX0_after_X0_target : GoodIn wsX0_after wsX0_target := goodIn_r _ [12, 13, 14, 1, 15, 16, 17, 18, 19, 4, 20, 21, 22, 23, 24, 25, 26, 27, 28, 29, 30, 31, 32, 33, 34, 35, 53, 54, 55, 56, 57, 58, 59, 60, 61] (by decide +kernel) (by decide +kernel)
set_option maxRecDepth 20000 in
theorem gX0_after_X0_target : GoodIn wsX0_after (wsV RX0 85 RX0 yX0_target wsX0_target) := goodIn_app (goodIn_of _ (by decide +kernel)) ggX0_after_X0_target
set_option maxRecDepth 20000 in
theorem ggX0_after_X0_meetsFoe : GoodIn wsX0_after wsX0_meetsFoe := goodIn_r _ [39, 40, 41, 42, 43, 4, 44, 45, 46, 47, 48, 49, 53, 54, 55, 56, 57, 58, 59, 60, 61] (by decide +kernel) (by decide +kernel)
set_option maxRecDepth 20000 in
theorem gX0_after_X0_meetsFoe : GoodIn wsX0_after (wsV RX0 89 RX0 yX0_meetsFoe wsX0_meetsFoe) := goodIn_app (goodIn_of _ (by decide +kernel)) ggX0_after_X0_meetsFoe
set_option maxRecDepth 20000 in
theorem ggX0_after_X0_keyIn : GoodIn wsX0_after wsX0_keyIn := goodIn_r _ [52] (by decide +kernel) (by decide +kernel)
set_option maxRecDepth 20000 in
theorem gX0_after_X0_keyIn : GoodIn wsX0_after (va_wsS RX0 93 yX0_keyIn wsX0_keyIn) := goodIn_app (goodIn_of _ (by decide +kernel)) ggX0_after_X0_keyIn
set_option maxRecDepth 20000 in
theorem ggX0_target_X7_isPress : GoodIn wsX0_target wsX7_isPress := goodIn_r _ [6] (by decide +kernel) (by decide +kernel)
set_option maxRecDepth 20000 in
theorem gX0_target_X7_isPress_n96 : GoodIn wsX0_target (wsX7_isPress) := ggX0_target_X7_isPress
set_option maxRecDepth 20000 in
theorem ggX0_target_X0_xOf : GoodIn wsX0_target wsX0_xOf := goodIn_r _ [10] (by decide +kernel) (by decide +kernel)
set_option maxRecDepth 20000 in
theorem gX0_target_X0_xOf : GoodIn wsX0_target (va_wsS RX0 100 yX0_xOf wsX0_xOf) := goodIn_app (goodIn_of _ (by decide +kernel)) ggX0_target_X0_xOf
set_option maxRecDepth 20000 in
theorem ggX0_target_X0_yOf : GoodIn wsX0_target wsX0_yOf := goodIn_r _ [13] (by decide +kernel) (by decide +kernel)
set_option maxRecDepth 20000 in
theorem gX0_target_X0_yOf : GoodIn wsX0_target (va_wsS RX0 106 yX0_yOf wsX0_yOf) := goodIn_app (goodIn_of _ (by decide +kernel)) ggX0_target_X0_yOf
set_option maxRecDepth 20000 in
theorem ggX0_target_X0_has : GoodIn wsX0_target wsX0_has := goodIn_r _ [17, 18, 19, 26, 27, 28, 29, 30, 31, 32, 33, 34] (by decide +kernel) (by decide +kernel)
set_option maxRecDepth 20000 in
theorem gX0_target_X0_has : GoodIn wsX0_target (wsV RX0 112 RX0 yX0_has wsX0_has) := goodIn_app (goodIn_of _ (by decide +kernel)) ggX0_target_X0_has
set_option maxRecDepth 20000 in
theorem ggX0_target_X0_cellAt : GoodIn wsX0_target wsX0_cellAt := goodIn_r _ [22] (by decide +kernel) (by decide +kernel)
set_option maxRecDepth 20000 in
theorem gX0_target_X0_cellAt : GoodIn wsX0_target (va_wsS RX0 59 yX0_cellAt wsX0_cellAt) := goodIn_app (goodIn_of _ (by decide +kernel)) ggX0_target_X0_cellAt
set_option maxRecDepth 20000 in
theorem ggX0_target_X0_lets : GoodIn wsX0_target wsX0_lets := goodIn_r _ [25] (by decide +kernel) (by decide +kernel)
set_option maxRecDepth 20000 in
theorem gX0_target_X0_lets : GoodIn wsX0_target (va_wsS RX0 63 yX0_lets wsX0_lets) := goodIn_app (goodIn_of _ (by decide +kernel)) ggX0_target_X0_lets
set_option maxRecDepth 20000 in
theorem ggX0_allAfter_X0_allMoved : GoodIn wsX0_allAfter wsX0_allMoved := goodIn_r _ [7, 8, 9, 10, 20, 21, 22, 23, 24, 25, 26, 27, 28] (by decide +kernel) (by decide +kernel)
set_option maxRecDepth 20000 in
theorem gX0_allAfter_X0_allMoved : GoodIn wsX0_allAfter (wsV RX0 115 RX0 yX0_allMoved wsX0_allMoved) := goodIn_app (goodIn_of _ (by decide +kernel)) ggX0_allAfter_X0_allMoved
set_option maxRecDepth 20000 in
theorem ggX0_allAfter_X0_foeCell : GoodIn wsX0_allAfter wsX0_foeCell := goodIn_r _ [14, 1, 15, 16, 17, 18, 19, 20, 21, 22, 23, 24, 25, 26, 27, 28] (by decide +kernel) (by decide +kernel)
set_option maxRecDepth 20000 in
theorem gX0_allAfter_X0_foeCell : GoodIn wsX0_allAfter (wsV RX0 119 RX0 yX0_foeCell wsX0_foeCell) := goodIn_app (goodIn_of _ (by decide +kernel)) ggX0_allAfter_X0_foeCell
set_option maxRecDepth 20000 in
theorem ggX0_meetsFoe_X0_foeCell : GoodIn wsX0_meetsFoe wsX0_foeCell := goodIn_r _ [6, 1, 7, 8, 9, 10, 11, 12, 13, 14, 15, 16, 17, 18, 19, 20] (by decide +kernel) (by decide +kernel)
set_option maxRecDepth 20000 in
theorem gX0_meetsFoe_X0_foeCell : GoodIn wsX0_meetsFoe (wsV RX0 119 RX0 yX0_foeCell wsX0_foeCell) := goodIn_app (goodIn_of _ (by decide +kernel)) ggX0_meetsFoe_X0_foeCell
set_option maxRecDepth 20000 in
theorem ggX2_init_X1_init : GoodIn wsX2_init wsX1_init := goodIn_r _ [18, 19, 2, 3] (by decide +kernel) (by decide +kernel)
set_option maxRecDepth 20000 in
theorem gX2_init_X1_init_n38 : GoodIn wsX2_init (wsX1_init) := ggX2_init_X1_init
set_option maxRecDepth 20000 in
theorem ggX2_isWay_X2_isRoom : GoodIn wsX2_isWay wsX2_isRoom := goodIn_r _ [4] (by decide +kernel) (by decide +kernel)
set_option maxRecDepth 20000 in
theorem gX2_isWay_X2_isRoom : GoodIn wsX2_isWay (va_wsS RX2 39 yX2_isRoom wsX2_isRoom) := goodIn_app (goodIn_of _ (by decide +kernel)) ggX2_isWay_X2_isRoom
set_option maxRecDepth 20000 in
theorem ggX2_isWay_X2_isThings : GoodIn wsX2_isWay wsX2_isThings := goodIn_r _ [7] (by decide +kernel) (by decide +kernel)
set_option maxRecDepth 20000 in
theorem gX2_isWay_X2_isThings : GoodIn wsX2_isWay (va_wsS RX2 43 yX2_isThings wsX2_isThings) := goodIn_app (goodIn_of _ (by decide +kernel)) ggX2_isWay_X2_isThings
set_option maxRecDepth 20000 in
theorem ggX2_isAsked_X2_isRoom : GoodIn wsX2_isAsked wsX2_isRoom := goodIn_r _ [4] (by decide +kernel) (by decide +kernel)
set_option maxRecDepth 20000 in
theorem gX2_isAsked_X2_isRoom : GoodIn wsX2_isAsked (va_wsS RX2 39 yX2_isRoom wsX2_isRoom) := goodIn_app (goodIn_of _ (by decide +kernel)) ggX2_isAsked_X2_isRoom
set_option maxRecDepth 20000 in
theorem ggX2_isAsked_X2_isThings : GoodIn wsX2_isAsked wsX2_isThings := goodIn_r _ [7] (by decide +kernel) (by decide +kernel)
set_option maxRecDepth 20000 in
theorem gX2_isAsked_X2_isThings : GoodIn wsX2_isAsked (va_wsS RX2 43 yX2_isThings wsX2_isThings) := goodIn_app (goodIn_of _ (by decide +kernel)) ggX2_isAsked_X2_isThings
set_option maxRecDepth 20000 in
theorem ggX2_openNext_X2_forgetChances : GoodIn wsX2_openNext wsX2_forgetChances := goodIn_r _ [6, 7, 8, 9, 10, 11, 12, 13, 14, 15, 16, 17, 18, 19, 20, 21, 22, 23, 24] (by decide +kernel) (by decide +kernel)
set_option maxRecDepth 20000 in
theorem gX2_openNext_X2_forgetChances : GoodIn wsX2_openNext (wsV RX2 50 RX2 yX2_forgetChances wsX2_forgetChances) := goodIn_app (goodIn_of _ (by decide +kernel)) ggX2_openNext_X2_forgetChances
set_option maxRecDepth 20000 in
theorem ggX2_fewestSureTicks_J7_fill_53178 : GoodIn wsX2_fewestSureTicks wsJ7_fill_53178 := goodIn_r _ [7] (by decide +kernel) (by decide +kernel)
set_option maxRecDepth 20000 in
theorem gX2_fewestSureTicks_J7_fill_53178 : GoodIn wsX2_fewestSureTicks (va_wsS RX2 65 yJ7_fill_53178 wsJ7_fill_53178) := goodIn_app (goodIn_of _ (by decide +kernel)) ggX2_fewestSureTicks_J7_fill_53178
set_option maxRecDepth 20000 in
theorem ggX2_fewestSureTicks_X1_isSure : GoodIn wsX2_fewestSureTicks wsX1_isSure := goodIn_r _ [12, 13, 53, 54, 55, 56, 57, 58, 59, 60, 61] (by decide +kernel) (by decide +kernel)
set_option maxRecDepth 20000 in
theorem gX2_fewestSureTicks_X1_isSure : GoodIn wsX2_fewestSureTicks (wsV RX2 71 RX1 yX1_isSure wsX1_isSure) := goodIn_app (goodIn_of _ (by decide +kernel)) ggX2_fewestSureTicks_X1_isSure
set_option maxRecDepth 20000 in
theorem ggX2_fewestSureTicks_X2_goSurely : GoodIn wsX2_fewestSureTicks wsX2_goSurely := goodIn_r _ [18, 1, 19, 20, 17, 21, 22, 23, 24, 11, 25, 26, 27, 28, 39, 40, 41, 42, 43, 44, 45, 46, 47, 48, 49, 50, 51, 52, 53, 54, 55, 56, 57, 58, 59, 60, 61] (by decide +kernel) (by decide +kernel)
set_option maxRecDepth 20000 in
theorem gX2_fewestSureTicks_X2_goSurely : GoodIn wsX2_fewestSureTicks (wsV RX2 75 RX2 yX2_goSurely wsX2_goSurely) := goodIn_app (goodIn_of _ (by decide +kernel)) ggX2_fewestSureTicks_X2_goSurely
set_option maxRecDepth 20000 in
theorem ggX2_fewestSureTicks_X2_fewestAtGoal : GoodIn wsX2_fewestSureTicks wsX2_fewestAtGoal := goodIn_r _ [32, 1, 33, 19, 20, 17, 21, 34, 35, 36, 37, 38, 39, 40, 41, 42, 43, 44, 45, 46, 47, 48, 49, 50, 51, 52] (by decide +kernel) (by decide +kernel)
set_option maxRecDepth 20000 in
theorem gX2_fewestSureTicks_X2_fewestAtGoal : GoodIn wsX2_fewestSureTicks (wsV RX2 79 RX2 yX2_fewestAtGoal wsX2_fewestAtGoal) := goodIn_app (goodIn_of _ (by decide +kernel)) ggX2_fewestSureTicks_X2_fewestAtGoal
set_option maxRecDepth 20000 in
theorem ggX2_goSurely_X2_standAt : GoodIn wsX2_goSurely wsX2_standAt := goodIn_r _ [5] (by decide +kernel) (by decide +kernel)
set_option maxRecDepth 20000 in
theorem gX2_goSurely_X2_standAt : GoodIn wsX2_goSurely (va_wsS RX2 86 yX2_standAt wsX2_standAt) := goodIn_app (goodIn_of _ (by decide +kernel)) ggX2_goSurely_X2_standAt
set_option maxRecDepth 20000 in
theorem ggX2_goSurely_X1_isOpenFor : GoodIn wsX2_goSurely wsX1_isOpenFor := goodIn_r _ [10, 11, 12, 13, 28, 29, 30, 31, 32, 33, 34, 35, 36] (by decide +kernel) (by decide +kernel)
set_option maxRecDepth 20000 in
theorem gX2_goSurely_X1_isOpenFor : GoodIn wsX2_goSurely (wsV RX2 90 RX1 yX1_isOpenFor wsX1_isOpenFor) := goodIn_app (goodIn_of _ (by decide +kernel)) ggX2_goSurely_X1_isOpenFor
set_option maxRecDepth 20000 in
theorem ggX2_fewestAtGoal_X2_standAt : GoodIn wsX2_fewestAtGoal wsX2_standAt := goodIn_r _ [6] (by decide +kernel) (by decide +kernel)
set_option maxRecDepth 20000 in
theorem gX2_fewestAtGoal_X2_standAt : GoodIn wsX2_fewestAtGoal (va_wsS RX2 86 yX2_standAt wsX2_standAt) := goodIn_app (goodIn_of _ (by decide +kernel)) ggX2_fewestAtGoal_X2_standAt
set_option maxRecDepth 20000 in
theorem ggX2_fewestAtGoal_X2_isMet : GoodIn wsX2_fewestAtGoal wsX2_isMet := goodIn_r _ [10, 2, 11, 12, 13, 14, 15, 16, 17, 18, 19, 20, 21, 22, 23, 24, 25] (by decide +kernel) (by decide +kernel)
set_option maxRecDepth 20000 in
theorem gX2_fewestAtGoal_X2_isMet : GoodIn wsX2_fewestAtGoal (wsV RX2 103 RX2 yX2_isMet wsX2_isMet) := goodIn_app (goodIn_of _ (by decide +kernel)) ggX2_fewestAtGoal_X2_isMet
set_option maxRecDepth 20000 in
theorem ggX2_greatest_X2_standAt : GoodIn wsX2_greatest wsX2_standAt := goodIn_r _ [4] (by decide +kernel) (by decide +kernel)
set_option maxRecDepth 20000 in
theorem gX2_greatest_X2_standAt : GoodIn wsX2_greatest (va_wsS RX2 86 yX2_standAt wsX2_standAt) := goodIn_app (goodIn_of _ (by decide +kernel)) ggX2_greatest_X2_standAt
set_option maxRecDepth 20000 in
theorem ggX2_greatest_X2_listFrom : GoodIn wsX2_greatest wsX2_listFrom := goodIn_r _ [8, 9, 10, 11, 12, 13, 14, 15, 16, 3, 17, 1, 2, 4, 18, 19, 20, 21, 22, 23, 24, 25, 26, 27, 28, 29, 30, 31, 32, 33, 34, 35, 36, 37, 38, 39, 40, 41, 42, 43, 44, 45, 73, 74, 75, 76, 77, 78, 79, 80, 81, 82, 83, 84, 85, 86, 87, 88, 89, 90, 91, 92, 93, 94, 95] (by decide +kernel) (by decide +kernel)
set_option maxRecDepth 20000 in
theorem gX2_greatest_X2_listFrom : GoodIn wsX2_greatest (wsV RX2 106 RX2 yX2_listFrom wsX2_listFrom) := goodIn_app (goodIn_of _ (by decide +kernel)) ggX2_greatest_X2_listFrom
set_option maxRecDepth 20000 in
theorem ggX2_greatest_X2_fillLevels : GoodIn wsX2_greatest wsX2_fillLevels := goodIn_r _ [49, 10, 50, 51, 52, 3, 53, 12, 11, 13, 54, 55, 1, 2, 4, 56, 57, 58, 59, 27, 28, 29, 30, 31, 32, 60, 61, 62, 63, 24, 23, 25, 26, 64, 65, 66, 67, 68, 69, 70, 71, 72, 41, 42, 43, 36, 44, 45, 73, 74, 75, 76, 77, 78, 79, 80, 81, 82, 83, 84, 85, 86, 87, 88, 89, 90, 91, 92, 93, 94, 95] (by decide +kernel) (by decide +kernel)
set_option maxRecDepth 20000 in
theorem gX2_greatest_X2_fillLevels : GoodIn wsX2_greatest (wsV RX2 110 RX2 yX2_fillLevels wsX2_fillLevels) := goodIn_app (goodIn_of _ (by decide +kernel)) ggX2_greatest_X2_fillLevels
set_option maxRecDepth 20000 in
theorem ggX2_greatest_X2_chanceAt : GoodIn wsX2_greatest wsX2_chanceAt := goodIn_r _ [59, 54, 73, 74, 75, 76, 77, 78, 79, 80, 81, 82, 83, 84, 85, 86] (by decide +kernel) (by decide +kernel)
set_option maxRecDepth 20000 in
theorem gX2_greatest_X2_chanceAt : GoodIn wsX2_greatest (wsV RX2 113 RX2 yX2_chanceAt wsX2_chanceAt) := goodIn_app (goodIn_of _ (by decide +kernel)) ggX2_greatest_X2_chanceAt
set_option maxRecDepth 20000 in
theorem ggX2_chosen_X2_greatest : GoodIn wsX2_chosen wsX2_greatest := goodIn_r _ [7, 8, 9, 6, 10, 11, 12, 13, 14, 15, 16, 17, 18, 19, 20, 21, 22, 23, 24, 25, 26, 27, 1, 2, 28, 29, 30, 31, 32, 33, 34, 35, 36, 37, 38, 39, 40, 41, 42, 43, 44, 45, 46, 47, 48, 49, 50, 51, 52, 53, 54, 55, 56, 57, 58, 59, 60, 61, 62, 63, 64, 65, 66, 67, 68, 69, 70, 71, 72, 73, 74, 75, 76, 77, 78, 79, 80, 81, 82, 83, 84, 85, 86, 87, 88, 89, 90, 91, 92, 93, 94, 95, 96, 97, 98, 99] (by decide +kernel) (by decide +kernel)
set_option maxRecDepth 20000 in
theorem gX2_chosen_X2_greatest : GoodIn wsX2_chosen (wsV RX2 116 RX2 yX2_greatest wsX2_greatest) := goodIn_app (goodIn_of _ (by decide +kernel)) ggX2_chosen_X2_greatest
set_option maxRecDepth 20000 in
theorem ggX2_chosen_X2_isMet : GoodIn wsX2_chosen wsX2_isMet := goodIn_r _ [34, 35, 36, 77, 78, 79, 80, 81, 82, 83, 84, 85, 86, 87, 88, 89, 90] (by decide +kernel) (by decide +kernel)
set_option maxRecDepth 20000 in
theorem gX2_chosen_X2_isMet : GoodIn wsX2_chosen (wsV RX2 103 RX2 yX2_isMet wsX2_isMet) := goodIn_app (goodIn_of _ (by decide +kernel)) ggX2_chosen_X2_isMet
set_option maxRecDepth 20000 in
theorem ggX2_chosen_X1_isOpenFor : GoodIn wsX2_chosen wsX1_isOpenFor := goodIn_r _ [41, 42, 43, 44, 91, 92, 93, 94, 95, 96, 97, 98, 99] (by decide +kernel) (by decide +kernel)
set_option maxRecDepth 20000 in
theorem gX2_chosen_X1_isOpenFor : GoodIn wsX2_chosen (wsV RX2 90 RX1 yX1_isOpenFor wsX1_isOpenFor) := goodIn_app (goodIn_of _ (by decide +kernel)) ggX2_chosen_X1_isOpenFor
set_option maxRecDepth 20000 in
theorem ggX2_chosen_X2_worth : GoodIn wsX2_chosen wsX2_worth := goodIn_r _ [75, 76, 8, 9, 6, 10, 60, 61, 62, 63, 58, 45, 46, 47, 40, 48, 49, 91, 92, 93, 94, 95, 96, 97, 98, 99, 77, 78, 79, 80, 81, 82, 83, 84, 85, 86, 87, 88, 89, 90] (by decide +kernel) (by decide +kernel)
set_option maxRecDepth 20000 in
theorem gX2_chosen_X2_worth : GoodIn wsX2_chosen (wsV RX2 120 RX2 yX2_worth wsX2_worth) := goodIn_app (goodIn_of _ (by decide +kernel)) ggX2_chosen_X2_worth
set_option maxRecDepth 20000 in
theorem ggX2_listFrom_X2_addStand : GoodIn wsX2_listFrom wsX2_addStand := goodIn_r _ [10, 1, 3, 5, 42, 43, 44, 45, 46, 47, 48, 49, 50, 51, 52, 53, 54, 55] (by decide +kernel) (by decide +kernel)
set_option maxRecDepth 20000 in
theorem gX2_listFrom_X2_addStand : GoodIn wsX2_listFrom (wsV RX2 127 RX2 yX2_addStand wsX2_addStand) := goodIn_app (goodIn_of _ (by decide +kernel)) ggX2_listFrom_X2_addStand
set_option maxRecDepth 20000 in
theorem ggX2_listFrom_X2_standAt : GoodIn wsX2_listFrom wsX2_standAt := goodIn_r _ [13] (by decide +kernel) (by decide +kernel)
set_option maxRecDepth 20000 in
theorem gX2_listFrom_X2_standAt : GoodIn wsX2_listFrom (va_wsS RX2 86 yX2_standAt wsX2_standAt) := goodIn_app (goodIn_of _ (by decide +kernel)) ggX2_listFrom_X2_standAt
set_option maxRecDepth 20000 in
theorem ggX2_listFrom_X2_listSteps : GoodIn wsX2_listFrom wsX2_listSteps := goodIn_r _ [17, 18, 19, 20, 21, 22, 23, 24, 25, 9, 26, 27, 28, 29, 30, 31, 32, 33, 34, 35, 36, 11, 12, 13, 6, 7, 8, 10, 1, 3, 5, 37, 38, 39, 40, 41, 42, 43, 44, 45, 46, 47, 48, 49, 50, 51, 52, 53, 54, 55, 56, 57, 58, 59, 60, 61, 62, 63, 64] (by decide +kernel) (by decide +kernel)
set_option maxRecDepth 20000 in
theorem gX2_listFrom_X2_listSteps : GoodIn wsX2_listFrom (wsV RX2 133 RX2 yX2_listSteps wsX2_listSteps) := goodIn_app (goodIn_of _ (by decide +kernel)) ggX2_listFrom_X2_listSteps
set_option maxRecDepth 20000 in
theorem ggX2_listSteps_X2_isMet : GoodIn wsX2_listSteps wsX2_isMet := goodIn_r _ [10, 11, 12, 36, 37, 38, 39, 40, 41, 42, 43, 44, 45, 46, 47, 48, 49] (by decide +kernel) (by decide +kernel)
set_option maxRecDepth 20000 in
theorem gX2_listSteps_X2_isMet : GoodIn wsX2_listSteps (wsV RX2 103 RX2 yX2_isMet wsX2_isMet) := goodIn_app (goodIn_of _ (by decide +kernel)) ggX2_listSteps_X2_isMet
set_option maxRecDepth 20000 in
theorem ggX2_listSteps_X1_isOpenFor : GoodIn wsX2_listSteps wsX1_isOpenFor := goodIn_r _ [17, 18, 19, 20, 50, 51, 52, 53, 54, 55, 56, 57, 58] (by decide +kernel) (by decide +kernel)
set_option maxRecDepth 20000 in
theorem gX2_listSteps_X1_isOpenFor : GoodIn wsX2_listSteps (wsV RX2 90 RX1 yX1_isOpenFor wsX1_isOpenFor) := goodIn_app (goodIn_of _ (by decide +kernel)) ggX2_listSteps_X1_isOpenFor
set_option maxRecDepth 20000 in
theorem ggX2_listSteps_X2_standAt : GoodIn wsX2_listSteps wsX2_standAt := goodIn_r _ [23] (by decide +kernel) (by decide +kernel)
set_option maxRecDepth 20000 in
theorem gX2_listSteps_X2_standAt : GoodIn wsX2_listSteps (va_wsS RX2 86 yX2_standAt wsX2_standAt) := goodIn_app (goodIn_of _ (by decide +kernel)) ggX2_listSteps_X2_standAt
set_option maxRecDepth 20000 in
theorem ggX2_listSteps_X2_addStand : GoodIn wsX2_listSteps wsX2_addStand := goodIn_r _ [27, 28, 29, 30, 36, 37, 38, 39, 40, 41, 42, 43, 44, 45, 46, 47, 48, 49] (by decide +kernel) (by decide +kernel)
set_option maxRecDepth 20000 in
theorem gX2_listSteps_X2_addStand : GoodIn wsX2_listSteps (wsV RX2 127 RX2 yX2_addStand wsX2_addStand) := goodIn_app (goodIn_of _ (by decide +kernel)) ggX2_listSteps_X2_addStand
set_option maxRecDepth 20000 in
theorem ggX2_listSteps_X1_isSure : GoodIn wsX2_listSteps wsX1_isSure := goodIn_r _ [34, 35, 50, 51, 52, 53, 54, 55, 56, 57, 58] (by decide +kernel) (by decide +kernel)
set_option maxRecDepth 20000 in
theorem gX2_listSteps_X1_isSure : GoodIn wsX2_listSteps (wsV RX2 71 RX1 yX1_isSure wsX1_isSure) := goodIn_app (goodIn_of _ (by decide +kernel)) ggX2_listSteps_X1_isSure
set_option maxRecDepth 20000 in
theorem ggX2_fillLevels_X2_fillWithoutRoads : GoodIn wsX2_fillLevels wsX2_fillWithoutRoads := goodIn_r _ [6, 7, 8, 9, 10, 11, 12, 13, 5, 14, 15, 16, 17, 18, 19, 20, 21, 22, 23, 24, 48, 49, 50, 51, 52, 53, 54, 55, 56, 57, 58, 59, 60, 61] (by decide +kernel) (by decide +kernel)
set_option maxRecDepth 20000 in
theorem gX2_fillLevels_X2_fillWithoutRoads : GoodIn wsX2_fillLevels (wsV RX2 140 RX2 yX2_fillWithoutRoads wsX2_fillWithoutRoads) := goodIn_app (goodIn_of _ (by decide +kernel)) ggX2_fillLevels_X2_fillWithoutRoads
set_option maxRecDepth 20000 in
theorem ggX2_fillLevels_X2_raiseByRoads : GoodIn wsX2_fillLevels wsX2_raiseByRoads := goodIn_r _ [28, 29, 30, 31, 32, 10, 33, 34, 35, 36, 12, 13, 5, 14, 37, 38, 39, 40, 41, 15, 16, 17, 18, 42, 43, 44, 45, 46, 47, 48, 49, 50, 51, 52, 53, 54, 55, 56, 57, 58, 59, 60, 61, 62, 63, 64, 65, 66, 67, 68, 69, 70] (by decide +kernel) (by decide +kernel)
set_option maxRecDepth 20000 in
theorem gX2_fillLevels_X2_raiseByRoads : GoodIn wsX2_fillLevels (wsV RX2 143 RX2 yX2_raiseByRoads wsX2_raiseByRoads) := goodIn_app (goodIn_of _ (by decide +kernel)) ggX2_fillLevels_X2_raiseByRoads
set_option maxRecDepth 20000 in
theorem ggX2_fillWithoutRoads_X2_standAt : GoodIn wsX2_fillWithoutRoads wsX2_standAt := goodIn_r _ [9] (by decide +kernel) (by decide +kernel)
set_option maxRecDepth 20000 in
theorem gX2_fillWithoutRoads_X2_standAt : GoodIn wsX2_fillWithoutRoads (va_wsS RX2 86 yX2_standAt wsX2_standAt) := goodIn_app (goodIn_of _ (by decide +kernel)) ggX2_fillWithoutRoads_X2_standAt
set_option maxRecDepth 20000 in
theorem ggX2_fillWithoutRoads_X2_chanceAt : GoodIn wsX2_fillWithoutRoads wsX2_chanceAt := goodIn_r _ [13, 4, 20, 21, 22, 23, 24, 25, 26, 27, 28, 29, 30, 31, 32, 33] (by decide +kernel) (by decide +kernel)
set_option maxRecDepth 20000 in
theorem gX2_fillWithoutRoads_X2_chanceAt : GoodIn wsX2_fillWithoutRoads (wsV RX2 113 RX2 yX2_chanceAt wsX2_chanceAt) := goodIn_app (goodIn_of _ (by decide +kernel)) ggX2_fillWithoutRoads_X2_chanceAt
set_option maxRecDepth 20000 in
theorem ggX2_fillWithoutRoads_X2_isMet : GoodIn wsX2_fillWithoutRoads wsX2_isMet := goodIn_r _ [17, 18, 19, 20, 21, 22, 23, 24, 25, 26, 27, 28, 29, 30, 31, 32, 33] (by decide +kernel) (by decide +kernel)
set_option maxRecDepth 20000 in
theorem gX2_fillWithoutRoads_X2_isMet : GoodIn wsX2_fillWithoutRoads (wsV RX2 103 RX2 yX2_isMet wsX2_isMet) := goodIn_app (goodIn_of _ (by decide +kernel)) ggX2_fillWithoutRoads_X2_isMet
set_option maxRecDepth 20000 in
theorem ggX2_raiseByRoads_X2_standAt : GoodIn wsX2_raiseByRoads wsX2_standAt := goodIn_r _ [13] (by decide +kernel) (by decide +kernel)
set_option maxRecDepth 20000 in
theorem gX2_raiseByRoads_X2_standAt : GoodIn wsX2_raiseByRoads (va_wsS RX2 86 yX2_standAt wsX2_standAt) := goodIn_app (goodIn_of _ (by decide +kernel)) ggX2_raiseByRoads_X2_standAt
set_option maxRecDepth 20000 in
theorem ggX2_raiseByRoads_X2_worth : GoodIn wsX2_raiseByRoads wsX2_worth := goodIn_r _ [17, 18, 10, 11, 12, 13, 19, 20, 21, 22, 5, 23, 24, 25, 26, 27, 28, 43, 44, 45, 46, 47, 48, 49, 50, 51, 29, 30, 31, 32, 33, 34, 35, 36, 37, 38, 39, 40, 41, 42] (by decide +kernel) (by decide +kernel)
set_option maxRecDepth 20000 in
theorem gX2_raiseByRoads_X2_worth : GoodIn wsX2_raiseByRoads (wsV RX2 120 RX2 yX2_worth wsX2_worth) := goodIn_app (goodIn_of _ (by decide +kernel)) ggX2_raiseByRoads_X2_worth
set_option maxRecDepth 20000 in
theorem ggX2_worth_X2_standAt : GoodIn wsX2_worth wsX2_standAt := goodIn_r _ [5] (by decide +kernel) (by decide +kernel)
set_option maxRecDepth 20000 in
theorem gX2_worth_X2_standAt : GoodIn wsX2_worth (va_wsS RX2 86 yX2_standAt wsX2_standAt) := goodIn_app (goodIn_of _ (by decide +kernel)) ggX2_worth_X2_standAt
set_option maxRecDepth 20000 in
theorem ggX2_worth_X2_chanceAt : GoodIn wsX2_worth wsX2_chanceAt := goodIn_r _ [9, 10, 26, 27, 28, 29, 30, 31, 32, 33, 34, 35, 36, 37, 38, 39] (by decide +kernel) (by decide +kernel)
set_option maxRecDepth 20000 in
theorem gX2_worth_X2_chanceAt : GoodIn wsX2_worth (wsV RX2 113 RX2 yX2_chanceAt wsX2_chanceAt) := goodIn_app (goodIn_of _ (by decide +kernel)) ggX2_worth_X2_chanceAt
set_option maxRecDepth 20000 in
theorem ggX2_worth_X1_isSure : GoodIn wsX2_worth wsX1_isSure := goodIn_r _ [15, 16, 17, 18, 19, 20, 21, 22, 23, 24, 25] (by decide +kernel) (by decide +kernel)
set_option maxRecDepth 20000 in
theorem gX2_worth_X1_isSure : GoodIn wsX2_worth (wsV RX2 71 RX1 yX1_isSure wsX1_isSure) := goodIn_app (goodIn_of _ (by decide +kernel)) ggX2_worth_X1_isSure
set_option maxRecDepth 20000 in
theorem ggX3_firstUnlike_X3_at : GoodIn wsX3_firstUnlike wsX3_at := goodIn_r _ [10, 1, 11, 12, 13] (by decide +kernel) (by decide +kernel)
set_option maxRecDepth 20000 in
theorem gX3_firstUnlike_X3_at : GoodIn wsX3_firstUnlike (wsV RX3 34 RX3 yX3_at wsX3_at) := goodIn_app (goodIn_of _ (by decide +kernel)) ggX3_firstUnlike_X3_at
set_option maxRecDepth 20000 in
theorem ggX4_init_X3_init : GoodIn wsX4_init wsX3_init := goodIn_r _ [10, 11, 2, 3, 12, 13, 14, 15, 16, 17, 18, 19] (by decide +kernel) (by decide +kernel)
set_option maxRecDepth 20000 in
theorem gX4_init_X3_init : GoodIn wsX4_init (wsX3_init) := ggX4_init_X3_init
set_option maxRecDepth 20000 in
theorem ggX4_restart_X3_clear : GoodIn wsX4_restart wsX3_clear := goodIn_r _ [8, 9, 13, 14] (by decide +kernel) (by decide +kernel)
set_option maxRecDepth 20000 in
theorem gX4_restart_X3_clear : GoodIn wsX4_restart (wsV RX4 20 RX3 yX3_clear wsX3_clear) := goodIn_app (goodIn_of _ (by decide +kernel)) ggX4_restart_X3_clear
set_option maxRecDepth 20000 in
theorem ggX4_takeFrom_X3_takeFrom : GoodIn wsX4_takeFrom wsX3_takeFrom := goodIn_r _ [8, 9, 10, 11, 12, 13, 14, 15, 16, 17, 18, 22, 23] (by decide +kernel) (by decide +kernel)
set_option maxRecDepth 20000 in
theorem gX4_takeFrom_X3_takeFrom : GoodIn wsX4_takeFrom (wsV RX4 30 RX3 yX3_takeFrom wsX3_takeFrom) := goodIn_app (goodIn_of _ (by decide +kernel)) ggX4_takeFrom_X3_takeFrom
set_option maxRecDepth 20000 in
theorem ggX5_init_X3_init : GoodIn wsX5_init wsX3_init := goodIn_r _ [14, 15, 2, 3, 16, 17, 18, 19, 4, 20, 26, 27] (by decide +kernel) (by decide +kernel)
set_option maxRecDepth 20000 in
theorem gX5_init_X3_init : GoodIn wsX5_init (wsX3_init) := ggX5_init_X3_init
set_option maxRecDepth 20000 in
theorem ggX5_find_J7_fill_53178 : GoodIn wsX5_find wsJ7_fill_53178 := goodIn_r _ [11] (by decide +kernel) (by decide +kernel)
set_option maxRecDepth 20000 in
theorem gX5_find_J7_fill_53178 : GoodIn wsX5_find (va_wsS RX5 42 yJ7_fill_53178 wsJ7_fill_53178) := goodIn_app (goodIn_of _ (by decide +kernel)) ggX5_find_J7_fill_53178
set_option maxRecDepth 20000 in
theorem ggX5_find_J9_floorMod_7cf53 : GoodIn wsX5_find wsJ9_floorMod_7cf53 := goodIn_r _ [15] (by decide +kernel) (by decide +kernel)
set_option maxRecDepth 20000 in
theorem gX5_find_J9_floorMod_7cf53 : GoodIn wsX5_find (va_wsS RX5 51 yJ9_floorMod_7cf53 wsJ9_floorMod_7cf53) := goodIn_app (goodIn_of _ (by decide +kernel)) ggX5_find_J9_floorMod_7cf53
set_option maxRecDepth 20000 in
theorem ggX5_find_X5_reach : GoodIn wsX5_find wsX5_reach := goodIn_r _ [20, 5, 6, 21, 7, 110, 111, 112, 113, 114] (by decide +kernel) (by decide +kernel)
set_option maxRecDepth 20000 in
theorem gX5_find_X5_reach : GoodIn wsX5_find (wsV RX5 54 RX5 yX5_reach wsX5_reach) := goodIn_app (goodIn_of _ (by decide +kernel)) ggX5_find_X5_reach
set_option maxRecDepth 20000 in
theorem ggX5_find_X5_pressesFrom : GoodIn wsX5_find wsX5_pressesFrom := goodIn_r _ [25, 26, 27, 28, 29, 30, 31, 32, 33, 34, 35, 36, 37, 38, 39, 40, 41, 42, 43, 44, 45, 46, 47, 48, 49, 50, 51, 52, 53, 54, 55, 56, 57, 58, 59, 60, 61, 62, 63, 64, 65, 66, 67, 68, 69, 70, 71, 72, 73, 74, 75, 13, 14, 15, 76, 77, 78, 79, 80, 81, 82, 83, 84, 16, 17, 18, 19, 20, 5, 6, 21, 7, 101, 102, 103, 104, 105, 106, 107, 108, 109, 110, 111, 112, 113, 114] (by decide +kernel) (by decide +kernel)
set_option maxRecDepth 20000 in
theorem gX5_find_X5_pressesFrom : GoodIn wsX5_find (wsV RX5 58 RX5 yX5_pressesFrom wsX5_pressesFrom) := goodIn_app (goodIn_of _ (by decide +kernel)) ggX5_find_X5_pressesFrom
set_option maxRecDepth 20000 in
theorem ggX5_find_X5_writeRow : GoodIn wsX5_find wsX5_writeRow := goodIn_r _ [88, 89, 5, 21, 90, 91, 92, 93, 94, 95, 96, 97, 98, 99, 100, 110, 111, 112, 113, 114, 115, 116] (by decide +kernel) (by decide +kernel)
set_option maxRecDepth 20000 in
theorem gX5_find_X5_writeRow : GoodIn wsX5_find (wsV RX5 62 RX5 yX5_writeRow wsX5_writeRow) := goodIn_app (goodIn_of _ (by decide +kernel)) ggX5_find_X5_writeRow
set_option maxRecDepth 20000 in
theorem ggX5_pressesFrom_X0_after : GoodIn wsX5_pressesFrom wsX0_after := goodIn_r _ [5, 6, 7, 8, 4, 9, 10, 11, 12, 13, 14, 15, 16, 17, 18, 19, 20, 21, 22, 23, 24, 25, 26, 27, 28, 29, 30, 31, 32, 33, 34, 35, 36, 37, 38, 39, 40, 41, 42, 43, 44, 45, 46, 47, 48, 49, 50, 51, 52, 53, 54, 55, 56, 72, 73, 74, 75, 76, 77, 78, 79, 80] (by decide +kernel) (by decide +kernel)
set_option maxRecDepth 20000 in
theorem gX5_pressesFrom_X0_after : GoodIn wsX5_pressesFrom (wsV RX5 66 RX0 yX0_after wsX0_after) := goodIn_app (goodIn_of _ (by decide +kernel)) ggX5_pressesFrom_X0_after
set_option maxRecDepth 20000 in
theorem ggX5_pressesFrom_X0_outcomeOf : GoodIn wsX5_pressesFrom wsX0_outcomeOf := goodIn_r _ [59] (by decide +kernel) (by decide +kernel)
set_option maxRecDepth 20000 in
theorem gX5_pressesFrom_X0_outcomeOf : GoodIn wsX5_pressesFrom (va_wsS RX5 70 yX0_outcomeOf wsX0_outcomeOf) := goodIn_app (goodIn_of _ (by decide +kernel)) ggX5_pressesFrom_X0_outcomeOf
set_option maxRecDepth 20000 in
theorem ggX5_pressesFrom_X0_spotOf : GoodIn wsX5_pressesFrom wsX0_spotOf := goodIn_r _ [62] (by decide +kernel) (by decide +kernel)
set_option maxRecDepth 20000 in
theorem gX5_pressesFrom_X0_spotOf : GoodIn wsX5_pressesFrom (va_wsS RX5 74 yX0_spotOf wsX0_spotOf) := goodIn_app (goodIn_of _ (by decide +kernel)) ggX5_pressesFrom_X0_spotOf
set_option maxRecDepth 20000 in
theorem ggX5_pressesFrom_X5_reach : GoodIn wsX5_pressesFrom wsX5_reach := goodIn_r _ [67, 68, 69, 70, 71, 81, 82, 83, 84, 85] (by decide +kernel) (by decide +kernel)
set_option maxRecDepth 20000 in
theorem gX5_pressesFrom_X5_reach : GoodIn wsX5_pressesFrom (wsV RX5 54 RX5 yX5_reach wsX5_reach) := goodIn_app (goodIn_of _ (by decide +kernel)) ggX5_pressesFrom_X5_reach
set_option maxRecDepth 20000 in
theorem ggX5_writeRow_X3_add : GoodIn wsX5_writeRow wsX3_add := goodIn_r _ [8, 9, 10, 20, 21] (by decide +kernel) (by decide +kernel)
set_option maxRecDepth 20000 in
theorem gX5_writeRow_X3_add : GoodIn wsX5_writeRow (wsV RX5 77 RX3 yX3_add wsX3_add) := goodIn_app (goodIn_of _ (by decide +kernel)) ggX5_writeRow_X3_add
set_option maxRecDepth 20000 in
theorem ggX5_writeRow_X3_reverse : GoodIn wsX5_writeRow wsX3_reverse := goodIn_r _ [14, 9, 10, 20, 21] (by decide +kernel) (by decide +kernel)
set_option maxRecDepth 20000 in
theorem gX5_writeRow_X3_reverse : GoodIn wsX5_writeRow (wsV RX5 81 RX3 yX3_reverse wsX3_reverse) := goodIn_app (goodIn_of _ (by decide +kernel)) ggX5_writeRow_X3_reverse
set_option maxRecDepth 20000 in
theorem ggX6_mostTogether_J7_fill_d0a16 : GoodIn wsX6_mostTogether wsJ7_fill_d0a16 := goodIn_r _ [7] (by decide +kernel) (by decide +kernel)
set_option maxRecDepth 20000 in
theorem gX6_mostTogether_J7_fill_d0a16 : GoodIn wsX6_mostTogether (va_wsS RX6 32 yJ7_fill_d0a16 wsJ7_fill_d0a16) := goodIn_app (goodIn_of _ (by decide +kernel)) ggX6_mostTogether_J7_fill_d0a16
set_option maxRecDepth 20000 in
theorem ggX6_mostTogether_X6_countDone : GoodIn wsX6_mostTogether wsX6_countDone := goodIn_r _ [12, 2, 13, 14, 1, 15, 16, 17, 18, 19, 20, 52, 53, 54, 55, 56, 57] (by decide +kernel) (by decide +kernel)
set_option maxRecDepth 20000 in
theorem gX6_mostTogether_X6_countDone : GoodIn wsX6_mostTogether (wsV RX6 41 RX6 yX6_countDone wsX6_countDone) := goodIn_app (goodIn_of _ (by decide +kernel)) ggX6_mostTogether_X6_countDone
set_option maxRecDepth 20000 in
theorem ggX6_mostTogether_X6_goOn : GoodIn wsX6_mostTogether wsX6_goOn := goodIn_r _ [24, 2, 14, 3, 16, 25, 26, 27, 28, 29, 30, 31, 32, 33, 34, 35, 36, 37, 38, 39, 40, 41, 42, 43, 44, 45, 46, 47, 48, 49, 50, 11, 51, 1, 58, 59, 60, 61, 62, 63, 64, 65, 66, 52, 53, 54, 55, 56, 57] (by decide +kernel) (by decide +kernel)
set_option maxRecDepth 20000 in
theorem gX6_mostTogether_X6_goOn : GoodIn wsX6_mostTogether (wsV RX6 45 RX6 yX6_goOn wsX6_goOn) := goodIn_app (goodIn_of _ (by decide +kernel)) ggX6_mostTogether_X6_goOn
set_option maxRecDepth 20000 in
theorem ggX6_goOn_X0_allAfter : GoodIn wsX6_goOn wsX0_allAfter := goodIn_r _ [9, 10, 11, 12, 13, 14, 8, 15, 16, 17, 18, 19, 20, 21, 22, 23, 24, 25, 26, 27, 34, 35, 36, 37, 38, 39, 40, 41, 42] (by decide +kernel) (by decide +kernel)
set_option maxRecDepth 20000 in
theorem gX6_goOn_X0_allAfter : GoodIn wsX6_goOn (wsV RX6 60 RX0 yX0_allAfter wsX0_allAfter) := goodIn_app (goodIn_of _ (by decide +kernel)) ggX6_goOn_X0_allAfter
set_option maxRecDepth 20000 in
theorem ggX6_goOn_X6_arrive : GoodIn wsX6_goOn wsX6_arrive := goodIn_r _ [32, 33, 4, 34, 35, 36, 37, 38, 39, 40, 41, 42, 43, 44, 45, 46, 47, 48] (by decide +kernel) (by decide +kernel)
set_option maxRecDepth 20000 in
theorem gX6_goOn_X6_arrive : GoodIn wsX6_goOn (wsV RX6 64 RX6 yX6_arrive wsX6_arrive) := goodIn_app (goodIn_of _ (by decide +kernel)) ggX6_goOn_X6_arrive
set_option maxRecDepth 20000 in
theorem ggX7_init_X0_init : GoodIn wsX7_init wsX0_init := goodIn_r _ [33, 34, 2, 3, 35, 36, 37, 38, 39, 40, 41, 42, 43, 6, 44, 45, 46, 47, 48, 49, 50, 51, 52, 53, 54, 55, 56, 57, 58, 59, 60, 61, 62, 63, 114, 115, 116, 117, 118, 119, 120, 121, 122] (by decide +kernel) (by decide +kernel)
set_option maxRecDepth 20000 in
theorem gX7_init_X0_init : GoodIn wsX7_init (wsX0_init) := ggX7_init_X0_init
set_option maxRecDepth 20000 in
theorem ggX7_init_X4_init : GoodIn wsX7_init wsX4_init := goodIn_r _ [65, 66, 2, 3, 67, 20, 21, 68, 69, 70, 71, 72, 73, 74, 75, 76, 35, 77, 139, 140, 131, 132, 133] (by decide +kernel) (by decide +kernel)
set_option maxRecDepth 20000 in
theorem gX7_init_X4_init_n18 : GoodIn wsX7_init (wsX4_init) := ggX7_init_X4_init
set_option maxRecDepth 20000 in
theorem ggX7_init_X5_init : GoodIn wsX7_init wsX5_init := goodIn_r _ [79, 80, 2, 3, 35, 81, 82, 83, 84, 20, 21, 85, 86, 70, 71, 72, 73, 74, 75, 76, 77, 134, 135, 136, 137, 138, 139, 140] (by decide +kernel) (by decide +kernel)
set_option maxRecDepth 20000 in
theorem gX7_init_X5_init_n33 : GoodIn wsX7_init (wsX5_init) := ggX7_init_X5_init
set_option maxRecDepth 20000 in
theorem ggX7_init_X3_init : GoodIn wsX7_init wsX3_init := goodIn_r _ [71, 72, 2, 3, 73, 74, 75, 76, 35, 77, 139, 140] (by decide +kernel) (by decide +kernel)
set_option maxRecDepth 20000 in
theorem gX7_init_X3_init : GoodIn wsX7_init (wsX3_init) := ggX7_init_X3_init
set_option maxRecDepth 20000 in
theorem ggX7_init_X6_init : GoodIn wsX7_init wsX6_init := goodIn_r _ [89, 90, 2, 3, 35, 91, 92, 93, 37, 94, 95, 141, 142, 143, 144, 145, 146] (by decide +kernel) (by decide +kernel)
set_option maxRecDepth 20000 in
theorem gX7_init_X6_init_n49 : GoodIn wsX7_init (wsX6_init) := ggX7_init_X6_init
set_option maxRecDepth 20000 in
theorem ggX7_init_X2_init : GoodIn wsX7_init wsX2_init := goodIn_r _ [98, 99, 2, 3, 100, 101, 35, 102, 103, 104, 105, 13, 106, 107, 108, 109, 110, 111, 112, 113, 147, 148, 149, 150, 151, 152, 153, 154, 155, 156, 157, 158, 159, 160, 161, 162, 163, 164, 165, 166, 167, 168, 169] (by decide +kernel) (by decide +kernel)
set_option maxRecDepth 20000 in
theorem gX7_init_X2_init : GoodIn wsX7_init (wsX2_init) := ggX7_init_X2_init
set_option maxRecDepth 20000 in
theorem ggX7_board_X0_isSize : GoodIn wsX7_board wsX0_isSize := goodIn_r _ [7] (by decide +kernel) (by decide +kernel)
set_option maxRecDepth 20000 in
theorem gX7_board_X0_isSize : GoodIn wsX7_board (va_wsS RX7 61 yX0_isSize wsX0_isSize) := goodIn_app (goodIn_of _ (by decide +kernel)) ggX7_board_X0_isSize
set_option maxRecDepth 20000 in
theorem ggX7_board_X0_lay : GoodIn wsX7_board wsX0_lay := goodIn_r _ [11, 12, 13, 14, 15, 16, 17, 18, 19, 20, 21, 22, 23, 24, 25, 26, 6, 27, 28, 29, 30, 31, 32, 33, 74, 75, 76, 77, 78, 79, 80, 81, 82] (by decide +kernel) (by decide +kernel)
set_option maxRecDepth 20000 in
theorem gX7_board_X0_lay : GoodIn wsX7_board (wsV RX7 65 RX0 yX0_lay wsX0_lay) := goodIn_app (goodIn_of _ (by decide +kernel)) ggX7_board_X0_lay
set_option maxRecDepth 20000 in
theorem ggX7_board_X6_clear : GoodIn wsX7_board wsX6_clear := goodIn_r _ [38, 39, 83, 84, 85, 86, 87, 88] (by decide +kernel) (by decide +kernel)
set_option maxRecDepth 20000 in
theorem gX7_board_X6_clear : GoodIn wsX7_board (wsV RX7 69 RX6 yX6_clear wsX6_clear) := goodIn_app (goodIn_of _ (by decide +kernel)) ggX7_board_X6_clear
set_option maxRecDepth 20000 in
theorem ggX7_board_X3_clear : GoodIn wsX7_board wsX3_clear := goodIn_r _ [44, 45, 89, 90] (by decide +kernel) (by decide +kernel)
set_option maxRecDepth 20000 in
theorem gX7_board_X3_clear : GoodIn wsX7_board (wsV RX7 72 RX3 yX3_clear wsX3_clear) := goodIn_app (goodIn_of _ (by decide +kernel)) ggX7_board_X3_clear
set_option maxRecDepth 20000 in
theorem ggX7_board_X7_beginInChangedGame : GoodIn wsX7_board wsX7_beginInChangedGame := goodIn_r _ [50, 51, 52, 1, 53, 54, 55, 6, 56, 15, 57, 58, 59, 60, 61, 62, 63, 64, 65, 41, 42, 43, 44, 45, 66, 67, 68, 69, 70, 71, 72, 73, 74, 75, 76, 77, 78, 79, 80, 81, 82, 91, 92, 93, 89, 90] (by decide +kernel) (by decide +kernel)
set_option maxRecDepth 20000 in
theorem gX7_board_X7_beginInChangedGame : GoodIn wsX7_board (wsV RX7 73 RX7 yX7_beginInChangedGame wsX7_beginInChangedGame) := goodIn_app (goodIn_of _ (by decide +kernel)) ggX7_board_X7_beginInChangedGame
set_option maxRecDepth 20000 in
theorem ggX7_cell_X0_has : GoodIn wsX7_cell wsX0_has := goodIn_r _ [6, 7, 8, 64, 65, 66, 67, 68, 69, 70, 71, 72] (by decide +kernel) (by decide +kernel)
set_option maxRecDepth 20000 in
theorem gX7_cell_X0_has : GoodIn wsX7_cell (wsV RX7 76 RX0 yX0_has wsX0_has) := goodIn_app (goodIn_of _ (by decide +kernel)) ggX7_cell_X0_has
set_option maxRecDepth 20000 in
theorem ggX7_cell_X0_isKind : GoodIn wsX7_cell wsX0_isKind := goodIn_r _ [11] (by decide +kernel) (by decide +kernel)
set_option maxRecDepth 20000 in
theorem gX7_cell_X0_isKind : GoodIn wsX7_cell (va_wsS RX7 80 yX0_isKind wsX0_isKind) := goodIn_app (goodIn_of _ (by decide +kernel)) ggX7_cell_X0_isKind
set_option maxRecDepth 20000 in
theorem ggX7_cell_X0_cellAt : GoodIn wsX7_cell wsX0_cellAt := goodIn_r _ [14] (by decide +kernel) (by decide +kernel)
set_option maxRecDepth 20000 in
theorem gX7_cell_X0_cellAt : GoodIn wsX7_cell (va_wsS RX7 83 yX0_cellAt wsX0_cellAt) := goodIn_app (goodIn_of _ (by decide +kernel)) ggX7_cell_X0_cellAt
set_option maxRecDepth 20000 in
theorem ggX7_cell_X0_setKind : GoodIn wsX7_cell wsX0_setKind := goodIn_r _ [18, 19, 20, 21, 22, 23, 24, 5, 25, 26, 27, 28, 29, 64, 65, 66, 67, 68, 69, 70, 71, 72] (by decide +kernel) (by decide +kernel)
set_option maxRecDepth 20000 in
theorem gX7_cell_X0_setKind : GoodIn wsX7_cell (wsV RX7 87 RX0 yX0_setKind wsX0_setKind) := goodIn_app (goodIn_of _ (by decide +kernel)) ggX7_cell_X0_setKind
set_option maxRecDepth 20000 in
theorem ggX7_cell_X7_beginInChangedGame : GoodIn wsX7_cell wsX7_beginInChangedGame := goodIn_r _ [34, 35, 36, 1, 37, 38, 39, 5, 40, 41, 42, 43, 44, 45, 46, 47, 48, 49, 50, 51, 52, 53, 54, 55, 56, 57, 58, 59, 60, 61, 62, 63, 64, 65, 66, 67, 68, 69, 70, 71, 72, 73, 74, 75, 76, 77] (by decide +kernel) (by decide +kernel)
set_option maxRecDepth 20000 in
theorem gX7_cell_X7_beginInChangedGame : GoodIn wsX7_cell (wsV RX7 73 RX7 yX7_beginInChangedGame wsX7_beginInChangedGame) := goodIn_app (goodIn_of _ (by decide +kernel)) ggX7_cell_X7_beginInChangedGame
set_option maxRecDepth 20000 in
theorem ggX7_foe_X0_has : GoodIn wsX7_foe wsX0_has := goodIn_r _ [6, 7, 8, 52, 53, 54, 55, 56, 57, 58, 59, 60] (by decide +kernel) (by decide +kernel)
set_option maxRecDepth 20000 in
theorem gX7_foe_X0_has : GoodIn wsX7_foe (wsV RX7 76 RX0 yX0_has wsX0_has) := goodIn_app (goodIn_of _ (by decide +kernel)) ggX7_foe_X0_has
set_option maxRecDepth 20000 in
theorem ggX7_foe_X0_cellAt : GoodIn wsX7_foe wsX0_cellAt := goodIn_r _ [11] (by decide +kernel) (by decide +kernel)
set_option maxRecDepth 20000 in
theorem gX7_foe_X0_cellAt : GoodIn wsX7_foe (va_wsS RX7 83 yX0_cellAt wsX0_cellAt) := goodIn_app (goodIn_of _ (by decide +kernel)) ggX7_foe_X0_cellAt
set_option maxRecDepth 20000 in
theorem ggX7_foe_X0_lengthenRound : GoodIn wsX7_foe wsX0_lengthenRound := goodIn_r _ [15, 16, 17, 52, 53, 54, 55, 56, 57, 58, 59, 60] (by decide +kernel) (by decide +kernel)
set_option maxRecDepth 20000 in
theorem gX7_foe_X0_lengthenRound : GoodIn wsX7_foe (wsV RX7 90 RX0 yX0_lengthenRound wsX0_lengthenRound) := goodIn_app (goodIn_of _ (by decide +kernel)) ggX7_foe_X0_lengthenRound
set_option maxRecDepth 20000 in
theorem ggX7_foe_X7_beginInChangedGame : GoodIn wsX7_foe wsX7_beginInChangedGame := goodIn_r _ [22, 23, 24, 1, 25, 26, 27, 5, 28, 29, 30, 31, 32, 33, 34, 35, 36, 37, 38, 39, 40, 41, 42, 43, 44, 45, 46, 47, 48, 49, 50, 51, 52, 53, 54, 55, 56, 57, 58, 59, 60, 61, 62, 63, 64, 65] (by decide +kernel) (by decide +kernel)
set_option maxRecDepth 20000 in
theorem gX7_foe_X7_beginInChangedGame : GoodIn wsX7_foe (wsV RX7 73 RX7 yX7_beginInChangedGame wsX7_beginInChangedGame) := goodIn_app (goodIn_of _ (by decide +kernel)) ggX7_foe_X7_beginInChangedGame
set_option maxRecDepth 20000 in
theorem ggX7_start_X0_has : GoodIn wsX7_start wsX0_has := goodIn_r _ [6, 7, 8, 46, 47, 48, 49, 50, 51, 52, 53, 54] (by decide +kernel) (by decide +kernel)
set_option maxRecDepth 20000 in
theorem gX7_start_X0_has : GoodIn wsX7_start (wsV RX7 76 RX0 yX0_has wsX0_has) := goodIn_app (goodIn_of _ (by decide +kernel)) ggX7_start_X0_has
set_option maxRecDepth 20000 in
theorem ggX7_start_X0_cellAt : GoodIn wsX7_start wsX0_cellAt := goodIn_r _ [11] (by decide +kernel) (by decide +kernel)
set_option maxRecDepth 20000 in
theorem gX7_start_X0_cellAt : GoodIn wsX7_start (va_wsS RX7 83 yX0_cellAt wsX0_cellAt) := goodIn_app (goodIn_of _ (by decide +kernel)) ggX7_start_X0_cellAt
set_option maxRecDepth 20000 in
theorem ggX7_start_X7_beginInChangedGame : GoodIn wsX7_start wsX7_beginInChangedGame := goodIn_r _ [16, 17, 18, 1, 19, 20, 21, 5, 22, 23, 24, 25, 26, 27, 28, 29, 30, 31, 32, 33, 34, 35, 36, 37, 38, 39, 40, 41, 42, 43, 44, 45, 46, 47, 48, 49, 50, 51, 52, 53, 54, 55, 56, 57, 58, 59] (by decide +kernel) (by decide +kernel)
set_option maxRecDepth 20000 in
theorem gX7_start_X7_beginInChangedGame : GoodIn wsX7_start (wsV RX7 73 RX7 yX7_beginInChangedGame wsX7_beginInChangedGame) := goodIn_app (goodIn_of _ (by decide +kernel)) ggX7_start_X7_beginInChangedGame
set_option maxRecDepth 20000 in
theorem ggX7_press_X7_isPress : GoodIn wsX7_press wsX7_isPress := goodIn_r _ [6] (by decide +kernel) (by decide +kernel)
set_option maxRecDepth 20000 in
theorem gX7_press_X7_isPress : GoodIn wsX7_press (va_wsS RX7 97 yX7_isPress wsX7_isPress) := goodIn_app (goodIn_of _ (by decide +kernel)) ggX7_press_X7_isPress
set_option maxRecDepth 20000 in
theorem ggX7_press_X3_add : GoodIn wsX7_press wsX3_add := goodIn_r _ [11, 12, 13, 84, 85] (by decide +kernel) (by decide +kernel)
set_option maxRecDepth 20000 in
theorem gX7_press_X3_add : GoodIn wsX7_press (wsV RX7 109 RX3 yX3_add wsX3_add) := goodIn_app (goodIn_of _ (by decide +kernel)) ggX7_press_X3_add
set_option maxRecDepth 20000 in
theorem ggX7_press_X0_after : GoodIn wsX7_press wsX0_after := goodIn_r _ [18, 19, 20, 21, 17, 22, 23, 24, 25, 26, 27, 28, 29, 30, 31, 4, 5, 6, 32, 33, 34, 35, 36, 37, 38, 39, 40, 41, 42, 43, 44, 45, 46, 47, 48, 49, 50, 51, 52, 53, 54, 55, 56, 57, 58, 59, 60, 61, 62, 63, 64, 65, 66, 86, 87, 88, 89, 90, 91, 92, 93, 94] (by decide +kernel) (by decide +kernel)
set_option maxRecDepth 20000 in
theorem gX7_press_X0_after : GoodIn wsX7_press (wsV RX7 115 RX0 yX0_after wsX0_after) := goodIn_app (goodIn_of _ (by decide +kernel)) ggX7_press_X0_after
set_option maxRecDepth 20000 in
theorem ggX7_press_X0_spotOf : GoodIn wsX7_press wsX0_spotOf := goodIn_r _ [69] (by decide +kernel) (by decide +kernel)
set_option maxRecDepth 20000 in
theorem gX7_press_X0_spotOf : GoodIn wsX7_press (va_wsS RX7 119 yX0_spotOf wsX0_spotOf) := goodIn_app (goodIn_of _ (by decide +kernel)) ggX7_press_X0_spotOf
set_option maxRecDepth 20000 in
theorem ggX7_press_X0_outcomeOf : GoodIn wsX7_press wsX0_outcomeOf := goodIn_r _ [72] (by decide +kernel) (by decide +kernel)
set_option maxRecDepth 20000 in
theorem gX7_press_X0_outcomeOf : GoodIn wsX7_press (va_wsS RX7 123 yX0_outcomeOf wsX0_outcomeOf) := goodIn_app (goodIn_of _ (by decide +kernel)) ggX7_press_X0_outcomeOf
set_option maxRecDepth 20000 in
theorem ggX7_state_X0_cellOf : GoodIn wsX7_state wsX0_cellOf := goodIn_r _ [6] (by decide +kernel) (by decide +kernel)
set_option maxRecDepth 20000 in
theorem gX7_state_X0_cellOf : GoodIn wsX7_state (va_wsS RX7 126 yX0_cellOf wsX0_cellOf) := goodIn_app (goodIn_of _ (by decide +kernel)) ggX7_state_X0_cellOf
set_option maxRecDepth 20000 in
theorem ggX7_state_X0_foeCell : GoodIn wsX7_state wsX0_foeCell := goodIn_r _ [10, 11, 12, 13, 14, 15, 16, 39, 40, 41, 42, 43, 44, 45, 46, 47] (by decide +kernel) (by decide +kernel)
set_option maxRecDepth 20000 in
theorem gX7_state_X0_foeCell : GoodIn wsX7_state (wsV RX7 129 RX0 yX0_foeCell wsX0_foeCell) := goodIn_app (goodIn_of _ (by decide +kernel)) ggX7_state_X0_foeCell
set_option maxRecDepth 20000 in
theorem ggX7_state_X0_xOf : GoodIn wsX7_state wsX0_xOf := goodIn_r _ [19] (by decide +kernel) (by decide +kernel)
set_option maxRecDepth 20000 in
theorem gX7_state_X0_xOf : GoodIn wsX7_state (va_wsS RX7 132 yX0_xOf wsX0_xOf) := goodIn_app (goodIn_of _ (by decide +kernel)) ggX7_state_X0_xOf
set_option maxRecDepth 20000 in
theorem ggX7_state_X0_yOf : GoodIn wsX7_state wsX0_yOf := goodIn_r _ [22] (by decide +kernel) (by decide +kernel)
set_option maxRecDepth 20000 in
theorem gX7_state_X0_yOf : GoodIn wsX7_state (va_wsS RX7 135 yX0_yOf wsX0_yOf) := goodIn_app (goodIn_of _ (by decide +kernel)) ggX7_state_X0_yOf
set_option maxRecDepth 20000 in
theorem ggX7_state_X0_keysOf : GoodIn wsX7_state wsX0_keysOf := goodIn_r _ [25] (by decide +kernel) (by decide +kernel)
set_option maxRecDepth 20000 in
theorem gX7_state_X0_keysOf : GoodIn wsX7_state (va_wsS RX7 138 yX0_keysOf wsX0_keysOf) := goodIn_app (goodIn_of _ (by decide +kernel)) ggX7_state_X0_keysOf
set_option maxRecDepth 20000 in
theorem ggX7_save_X7_isPlace : GoodIn wsX7_save wsX7_isPlace := goodIn_r _ [7] (by decide +kernel) (by decide +kernel)
set_option maxRecDepth 20000 in
theorem gX7_save_X7_isPlace : GoodIn wsX7_save (va_wsS RX7 141 yX7_isPlace wsX7_isPlace) := goodIn_app (goodIn_of _ (by decide +kernel)) ggX7_save_X7_isPlace
set_option maxRecDepth 20000 in
theorem ggX7_save_X4_takeFrom : GoodIn wsX7_save wsX4_takeFrom := goodIn_r _ [12, 13, 14, 15, 16, 17, 18, 19, 20, 21, 22, 23, 24, 25, 26, 27, 28, 29, 30, 39, 40, 41, 42, 43] (by decide +kernel) (by decide +kernel)
set_option maxRecDepth 20000 in
theorem gX7_save_X4_takeFrom : GoodIn wsX7_save (wsV RX7 144 RX4 yX4_takeFrom wsX4_takeFrom) := goodIn_app (goodIn_of _ (by decide +kernel)) ggX7_save_X4_takeFrom
set_option maxRecDepth 20000 in
theorem ggX7_back_X7_isPlace : GoodIn wsX7_back wsX7_isPlace := goodIn_r _ [7] (by decide +kernel) (by decide +kernel)
set_option maxRecDepth 20000 in
theorem gX7_back_X7_isPlace : GoodIn wsX7_back (va_wsS RX7 141 yX7_isPlace wsX7_isPlace) := goodIn_app (goodIn_of _ (by decide +kernel)) ggX7_back_X7_isPlace
set_option maxRecDepth 20000 in
theorem ggX7_back_X4_takeFrom : GoodIn wsX7_back wsX4_takeFrom := goodIn_r _ [12, 13, 14, 15, 16, 17, 18, 19, 20, 21, 22, 23, 24, 25, 26, 27, 28, 29, 30, 39, 40, 41, 42, 43] (by decide +kernel) (by decide +kernel)
set_option maxRecDepth 20000 in
theorem gX7_back_X4_takeFrom : GoodIn wsX7_back (wsV RX7 144 RX4 yX4_takeFrom wsX4_takeFrom) := goodIn_app (goodIn_of _ (by decide +kernel)) ggX7_back_X4_takeFrom
set_option maxRecDepth 20000 in
theorem ggX7_begin_X0_startSpot : GoodIn wsX7_begin wsX0_startSpot := goodIn_r _ [7, 8, 31, 32, 33, 34, 35, 36, 37, 38, 39] (by decide +kernel) (by decide +kernel)
set_option maxRecDepth 20000 in
theorem gX7_begin_X0_startSpot : GoodIn wsX7_begin (wsV RX7 148 RX0 yX0_startSpot wsX0_startSpot) := goodIn_app (goodIn_of _ (by decide +kernel)) ggX7_begin_X0_startSpot
set_option maxRecDepth 20000 in
theorem ggX7_begin_X4_restart : GoodIn wsX7_begin wsX4_restart := goodIn_r _ [13, 14, 15, 16, 17, 18, 19, 20, 21, 22, 40, 41, 42, 43, 44] (by decide +kernel) (by decide +kernel)
set_option maxRecDepth 20000 in
theorem gX7_begin_X4_restart : GoodIn wsX7_begin (wsV RX7 152 RX4 yX4_restart wsX4_restart) := goodIn_app (goodIn_of _ (by decide +kernel)) ggX7_begin_X4_restart
set_option maxRecDepth 20000 in
theorem ggX7_least_X3_clear : GoodIn wsX7_least wsX3_clear := goodIn_r _ [8, 9, 128, 129] (by decide +kernel) (by decide +kernel)
set_option maxRecDepth 20000 in
theorem gX7_least_X3_clear : GoodIn wsX7_least (wsV RX7 72 RX3 yX3_clear wsX3_clear) := goodIn_app (goodIn_of _ (by decide +kernel)) ggX7_least_X3_clear
set_option maxRecDepth 20000 in
theorem ggX7_least_X5_find : GoodIn wsX7_least wsX5_find := goodIn_r _ [14, 15, 16, 17, 18, 19, 20, 21, 22, 23, 24, 25, 26, 27, 28, 29, 30, 31, 32, 13, 33, 34, 35, 36, 37, 38, 39, 40, 41, 42, 43, 44, 45, 46, 47, 48, 49, 50, 51, 52, 53, 54, 55, 56, 57, 58, 59, 60, 61, 62, 63, 64, 65, 66, 67, 68, 69, 70, 71, 72, 73, 74, 75, 76, 77, 78, 79, 80, 81, 82, 83, 84, 85, 86, 87, 88, 89, 90, 91, 92, 93, 94, 95, 96, 97, 98, 99, 100, 101, 102, 103, 104, 105, 7, 106, 9, 107, 108, 109, 110, 111, 130, 131, 132, 133, 134, 135, 136, 137, 138, 120, 121, 122, 123, 124, 128, 129] (by decide +kernel) (by decide +kernel)
set_option maxRecDepth 20000 in
theorem gX7_least_X5_find : GoodIn wsX7_least (wsV RX7 158 RX5 yX5_find wsX5_find) := goodIn_app (goodIn_of _ (by decide +kernel)) ggX7_least_X5_find
set_option maxRecDepth 20000 in
theorem ggX7_best_X3_at : GoodIn wsX7_best wsX3_at := goodIn_r _ [6, 7, 8, 22, 23] (by decide +kernel) (by decide +kernel)
set_option maxRecDepth 20000 in
theorem gX7_best_X3_at : GoodIn wsX7_best (wsV RX7 162 RX3 yX3_at wsX3_at) := goodIn_app (goodIn_of _ (by decide +kernel)) ggX7_best_X3_at
set_option maxRecDepth 20000 in
theorem ggX7_claim_X7_isPress : GoodIn wsX7_claim wsX7_isPress := goodIn_r _ [5] (by decide +kernel) (by decide +kernel)
set_option maxRecDepth 20000 in
theorem gX7_claim_X7_isPress : GoodIn wsX7_claim (va_wsS RX7 97 yX7_isPress wsX7_isPress) := goodIn_app (goodIn_of _ (by decide +kernel)) ggX7_claim_X7_isPress
set_option maxRecDepth 20000 in
theorem ggX7_claim_X3_add : GoodIn wsX7_claim wsX3_add := goodIn_r _ [10, 11, 12, 21, 22] (by decide +kernel) (by decide +kernel)
set_option maxRecDepth 20000 in
theorem gX7_claim_X3_add : GoodIn wsX7_claim (wsV RX7 109 RX3 yX3_add wsX3_add) := goodIn_app (goodIn_of _ (by decide +kernel)) ggX7_claim_X3_add
set_option maxRecDepth 20000 in
theorem ggX7_unclaim_X3_clear : GoodIn wsX7_unclaim wsX3_clear := goodIn_r _ [6, 7, 16, 17] (by decide +kernel) (by decide +kernel)
set_option maxRecDepth 20000 in
theorem gX7_unclaim_X3_clear : GoodIn wsX7_unclaim (wsV RX7 72 RX3 yX3_clear wsX3_clear) := goodIn_app (goodIn_of _ (by decide +kernel)) ggX7_unclaim_X3_clear
set_option maxRecDepth 20000 in
theorem ggX7_prove_X0_startSpot : GoodIn wsX7_prove wsX0_startSpot := goodIn_r _ [7, 8, 87, 88, 89, 90, 91, 92, 93, 94, 95] (by decide +kernel) (by decide +kernel)
set_option maxRecDepth 20000 in
theorem gX7_prove_X0_startSpot : GoodIn wsX7_prove (wsV RX7 148 RX0 yX0_startSpot wsX0_startSpot) := goodIn_app (goodIn_of _ (by decide +kernel)) ggX7_prove_X0_startSpot
set_option maxRecDepth 20000 in
theorem ggX7_prove_X3_at : GoodIn wsX7_prove wsX3_at := goodIn_r _ [13, 14, 15, 85, 86] (by decide +kernel) (by decide +kernel)
set_option maxRecDepth 20000 in
theorem gX7_prove_X3_at : GoodIn wsX7_prove (wsV RX7 162 RX3 yX3_at wsX3_at) := goodIn_app (goodIn_of _ (by decide +kernel)) ggX7_prove_X3_at
set_option maxRecDepth 20000 in
theorem ggX7_prove_X0_after : GoodIn wsX7_prove wsX0_after := goodIn_r _ [19, 20, 21, 22, 6, 23, 24, 25, 26, 27, 28, 29, 30, 31, 32, 33, 34, 35, 36, 37, 38, 39, 40, 41, 42, 43, 44, 45, 46, 47, 48, 49, 50, 51, 52, 53, 54, 55, 56, 57, 58, 59, 60, 61, 62, 63, 64, 65, 66, 67, 68, 69, 70, 87, 88, 89, 90, 91, 92, 93, 94, 95] (by decide +kernel) (by decide +kernel)
set_option maxRecDepth 20000 in
theorem gX7_prove_X0_after : GoodIn wsX7_prove (wsV RX7 115 RX0 yX0_after wsX0_after) := goodIn_app (goodIn_of _ (by decide +kernel)) ggX7_prove_X0_after
set_option maxRecDepth 20000 in
theorem ggX7_prove_X0_outcomeOf : GoodIn wsX7_prove wsX0_outcomeOf := goodIn_r _ [73] (by decide +kernel) (by decide +kernel)
set_option maxRecDepth 20000 in
theorem gX7_prove_X0_outcomeOf : GoodIn wsX7_prove (va_wsS RX7 123 yX0_outcomeOf wsX0_outcomeOf) := goodIn_app (goodIn_of _ (by decide +kernel)) ggX7_prove_X0_outcomeOf
set_option maxRecDepth 20000 in
theorem ggX7_prove_X0_spotOf : GoodIn wsX7_prove wsX0_spotOf := goodIn_r _ [76] (by decide +kernel) (by decide +kernel)
set_option maxRecDepth 20000 in
theorem gX7_prove_X0_spotOf : GoodIn wsX7_prove (va_wsS RX7 119 yX0_spotOf wsX0_spotOf) := goodIn_app (goodIn_of _ (by decide +kernel)) ggX7_prove_X0_spotOf
set_option maxRecDepth 20000 in
theorem ggX7_differs_X3_firstUnlike : GoodIn wsX7_differs wsX3_firstUnlike := goodIn_r _ [7, 8, 9, 10, 11, 12, 13, 14, 15, 6, 16, 17, 29, 30] (by decide +kernel) (by decide +kernel)
set_option maxRecDepth 20000 in
theorem gX7_differs_X3_firstUnlike : GoodIn wsX7_differs (wsV RX7 165 RX3 yX3_firstUnlike wsX3_firstUnlike) := goodIn_app (goodIn_of _ (by decide +kernel)) ggX7_differs_X3_firstUnlike
set_option maxRecDepth 20000 in
theorem ggX7_split_X0_has : GoodIn wsX7_split wsX0_has := goodIn_r _ [7, 8, 9, 36, 37, 38, 39, 40, 41, 42, 43, 44] (by decide +kernel) (by decide +kernel)
set_option maxRecDepth 20000 in
theorem gX7_split_X0_has : GoodIn wsX7_split (wsV RX7 76 RX0 yX0_has wsX0_has) := goodIn_app (goodIn_of _ (by decide +kernel)) ggX7_split_X0_has
set_option maxRecDepth 20000 in
theorem ggX7_split_X0_cellAt : GoodIn wsX7_split wsX0_cellAt := goodIn_r _ [12] (by decide +kernel) (by decide +kernel)
set_option maxRecDepth 20000 in
theorem gX7_split_X0_cellAt : GoodIn wsX7_split (va_wsS RX7 83 yX0_cellAt wsX0_cellAt) := goodIn_app (goodIn_of _ (by decide +kernel)) ggX7_split_X0_cellAt
set_option maxRecDepth 20000 in
theorem ggX7_split_X6_add : GoodIn wsX7_split wsX6_add := goodIn_r _ [17, 18, 19, 20, 21, 30, 31, 32, 33, 34, 35] (by decide +kernel) (by decide +kernel)
set_option maxRecDepth 20000 in
theorem gX7_split_X6_add : GoodIn wsX7_split (wsV RX7 169 RX6 yX6_add wsX6_add) := goodIn_app (goodIn_of _ (by decide +kernel)) ggX7_split_X6_add
set_option maxRecDepth 20000 in
theorem ggX7_unsplit_X6_clear : GoodIn wsX7_unsplit wsX6_clear := goodIn_r _ [6, 7, 16, 17, 18, 19, 20, 21] (by decide +kernel) (by decide +kernel)
set_option maxRecDepth 20000 in
theorem gX7_unsplit_X6_clear : GoodIn wsX7_unsplit (wsV RX7 69 RX6 yX6_clear wsX6_clear) := goodIn_app (goodIn_of _ (by decide +kernel)) ggX7_unsplit_X6_clear
set_option maxRecDepth 20000 in
theorem ggX7_could_X6_mostTogether : GoodIn wsX7_could wsX6_mostTogether := goodIn_r _ [7, 8, 9, 10, 11, 12, 13, 14, 15, 16, 17, 6, 18, 19, 20, 21, 22, 23, 24, 25, 26, 27, 28, 29, 30, 31, 32, 33, 34, 35, 36, 37, 38, 39, 40, 41, 42, 43, 44, 45, 46, 47, 48, 49, 50, 51, 52, 53, 54, 55, 56, 57, 66, 67, 68, 69, 70, 71, 72, 73, 74, 75, 76, 77, 78, 79, 80] (by decide +kernel) (by decide +kernel)
set_option maxRecDepth 20000 in
theorem gX7_could_X6_mostTogether : GoodIn wsX7_could (wsV RX7 173 RX6 yX6_mostTogether wsX6_mostTogether) := goodIn_app (goodIn_of _ (by decide +kernel)) ggX7_could_X6_mostTogether
set_option maxRecDepth 20000 in
theorem ggX7_road_X2_isFull : GoodIn wsX7_road wsX2_isFull := goodIn_r _ [6, 7, 65, 66, 67, 68, 69, 70, 71, 72, 73, 74, 75, 76, 77, 78] (by decide +kernel) (by decide +kernel)
set_option maxRecDepth 20000 in
theorem gX7_road_X2_isFull : GoodIn wsX7_road (wsV RX7 177 RX2 yX2_isFull wsX2_isFull) := goodIn_app (goodIn_of _ (by decide +kernel)) ggX7_road_X2_isFull
set_option maxRecDepth 20000 in
theorem ggX7_road_X2_isWay : GoodIn wsX7_road wsX2_isWay := goodIn_r _ [10, 11, 12, 5, 13, 14, 15, 16] (by decide +kernel) (by decide +kernel)
set_option maxRecDepth 20000 in
theorem gX7_road_X2_isWay : GoodIn wsX7_road (va_wsS RX7 181 yX2_isWay wsX2_isWay) := goodIn_app (goodIn_of _ (by decide +kernel)) ggX7_road_X2_isWay
set_option maxRecDepth 20000 in
theorem ggX7_road_X2_isTicks : GoodIn wsX7_road wsX2_isTicks := goodIn_r _ [19] (by decide +kernel) (by decide +kernel)
set_option maxRecDepth 20000 in
theorem gX7_road_X2_isTicks : GoodIn wsX7_road (va_wsS RX7 185 yX2_isTicks wsX2_isTicks) := goodIn_app (goodIn_of _ (by decide +kernel)) ggX7_road_X2_isTicks
set_option maxRecDepth 20000 in
theorem ggX7_road_X2_isOdds : GoodIn wsX7_road wsX2_isOdds := goodIn_r _ [22] (by decide +kernel) (by decide +kernel)
set_option maxRecDepth 20000 in
theorem gX7_road_X2_isOdds : GoodIn wsX7_road (va_wsS RX7 188 yX2_isOdds wsX2_isOdds) := goodIn_app (goodIn_of _ (by decide +kernel)) ggX7_road_X2_isOdds
set_option maxRecDepth 20000 in
theorem ggX7_road_X2_isRoom : GoodIn wsX7_road wsX2_isRoom := goodIn_r _ [13] (by decide +kernel) (by decide +kernel)
set_option maxRecDepth 20000 in
theorem gX7_road_X2_isRoom : GoodIn wsX7_road (va_wsS RX7 191 yX2_isRoom wsX2_isRoom) := goodIn_app (goodIn_of _ (by decide +kernel)) ggX7_road_X2_isRoom
set_option maxRecDepth 20000 in
theorem ggX7_road_X1_lead : GoodIn wsX7_road wsX1_lead := goodIn_r _ [28, 29, 30, 31, 32, 79, 80, 81, 82, 83, 84, 85, 86, 87] (by decide +kernel) (by decide +kernel)
set_option maxRecDepth 20000 in
theorem gX7_road_X1_lead : GoodIn wsX7_road (wsV RX7 198 RX1 yX1_lead wsX1_lead) := goodIn_app (goodIn_of _ (by decide +kernel)) ggX7_road_X1_lead
set_option maxRecDepth 20000 in
theorem ggX7_road_X1_succeed : GoodIn wsX7_road wsX1_succeed := goodIn_r _ [36, 37, 38, 79, 80, 81, 82, 83, 84, 85, 86, 87] (by decide +kernel) (by decide +kernel)
set_option maxRecDepth 20000 in
theorem gX7_road_X1_succeed : GoodIn wsX7_road (wsV RX7 204 RX1 yX1_succeed wsX1_succeed) := goodIn_app (goodIn_of _ (by decide +kernel)) ggX7_road_X1_succeed
set_option maxRecDepth 20000 in
theorem ggX7_road_X1_fail : GoodIn wsX7_road wsX1_fail := goodIn_r _ [42, 43, 44, 79, 80, 81, 82, 83, 84, 85, 86, 87] (by decide +kernel) (by decide +kernel)
set_option maxRecDepth 20000 in
theorem gX7_road_X1_fail : GoodIn wsX7_road (wsV RX7 207 RX1 yX1_fail wsX1_fail) := goodIn_app (goodIn_of _ (by decide +kernel)) ggX7_road_X1_fail
set_option maxRecDepth 20000 in
theorem ggX7_road_X2_openNext : GoodIn wsX7_road wsX2_openNext := goodIn_r _ [48, 7, 49, 50, 51, 5, 52, 53, 54, 55, 56, 65, 66, 67, 68, 69, 70, 71, 72, 73, 74, 75, 76, 77, 78] (by decide +kernel) (by decide +kernel)
set_option maxRecDepth 20000 in
theorem gX7_road_X2_openNext : GoodIn wsX7_road (wsV RX7 210 RX2 yX2_openNext wsX2_openNext) := goodIn_app (goodIn_of _ (by decide +kernel)) ggX7_road_X2_openNext
set_option maxRecDepth 20000 in
theorem ggX7_bar_X2_hasRoad : GoodIn wsX7_bar wsX2_hasRoad := goodIn_r _ [6, 7, 24, 25, 26, 27, 28, 29, 30, 31, 32, 33, 34, 35, 36, 37] (by decide +kernel) (by decide +kernel)
set_option maxRecDepth 20000 in
theorem gX7_bar_X2_hasRoad : GoodIn wsX7_bar (wsV RX7 213 RX2 yX2_hasRoad wsX2_hasRoad) := goodIn_app (goodIn_of _ (by decide +kernel)) ggX7_bar_X2_hasRoad
set_option maxRecDepth 20000 in
theorem ggX7_bar_X2_forgetChances : GoodIn wsX7_bar wsX2_forgetChances := goodIn_r _ [11, 12, 13, 14, 15, 24, 25, 26, 27, 28, 29, 30, 31, 32, 33, 34, 35, 36, 37] (by decide +kernel) (by decide +kernel)
set_option maxRecDepth 20000 in
theorem gX7_bar_X2_forgetChances : GoodIn wsX7_bar (wsV RX7 220 RX2 yX2_forgetChances wsX2_forgetChances) := goodIn_app (goodIn_of _ (by decide +kernel)) ggX7_bar_X2_forgetChances
set_option maxRecDepth 20000 in
theorem ggX7_goal_X2_isRoom : GoodIn wsX7_goal wsX2_isRoom := goodIn_r _ [5] (by decide +kernel) (by decide +kernel)
set_option maxRecDepth 20000 in
theorem gX7_goal_X2_isRoom : GoodIn wsX7_goal (va_wsS RX7 191 yX2_isRoom wsX2_isRoom) := goodIn_app (goodIn_of _ (by decide +kernel)) ggX7_goal_X2_isRoom
set_option maxRecDepth 20000 in
theorem ggX7_goal_X2_isThings : GoodIn wsX7_goal wsX2_isThings := goodIn_r _ [8] (by decide +kernel) (by decide +kernel)
set_option maxRecDepth 20000 in
theorem gX7_goal_X2_isThings : GoodIn wsX7_goal (va_wsS RX7 223 yX2_isThings wsX2_isThings) := goodIn_app (goodIn_of _ (by decide +kernel)) ggX7_goal_X2_isThings
set_option maxRecDepth 20000 in
theorem ggX7_goal_X2_forgetChances : GoodIn wsX7_goal wsX2_forgetChances := goodIn_r _ [12, 13, 14, 15, 16, 25, 26, 27, 28, 29, 30, 31, 32, 33, 34, 35, 36, 37, 38] (by decide +kernel) (by decide +kernel)
set_option maxRecDepth 20000 in
theorem gX7_goal_X2_forgetChances : GoodIn wsX7_goal (wsV RX7 220 RX2 yX2_forgetChances wsX2_forgetChances) := goodIn_app (goodIn_of _ (by decide +kernel)) ggX7_goal_X2_forgetChances
set_option maxRecDepth 20000 in
theorem ggX7_anew_X2_isTicks : GoodIn wsX7_anew wsX2_isTicks := goodIn_r _ [5] (by decide +kernel) (by decide +kernel)
set_option maxRecDepth 20000 in
theorem gX7_anew_X2_isTicks : GoodIn wsX7_anew (va_wsS RX7 185 yX2_isTicks wsX2_isTicks) := goodIn_app (goodIn_of _ (by decide +kernel)) ggX7_anew_X2_isTicks
set_option maxRecDepth 20000 in
theorem ggX7_anew_X2_forgetChances : GoodIn wsX7_anew wsX2_forgetChances := goodIn_r _ [9, 10, 11, 12, 13, 22, 23, 24, 25, 26, 27, 28, 29, 30, 31, 32, 33, 34, 35] (by decide +kernel) (by decide +kernel)
set_option maxRecDepth 20000 in
theorem gX7_anew_X2_forgetChances : GoodIn wsX7_anew (wsV RX7 220 RX2 yX2_forgetChances wsX2_forgetChances) := goodIn_app (goodIn_of _ (by decide +kernel)) ggX7_anew_X2_forgetChances
set_option maxRecDepth 20000 in
theorem ggX7_sure_X2_fewestSureTicks : GoodIn wsX7_sure wsX2_fewestSureTicks := goodIn_r _ [6, 7, 8, 9, 10, 11, 12, 13, 14, 15, 16, 17, 18, 19, 20, 21, 22, 5, 23, 24, 25, 26, 27, 28, 29, 30, 31, 32, 33, 34, 35, 36, 37, 38, 39, 40, 41, 42, 43, 52, 53, 54, 55, 56, 57, 58, 59, 60, 61, 62, 63, 64, 65, 66, 67, 68, 69, 70, 71, 72, 73, 74] (by decide +kernel) (by decide +kernel)
set_option maxRecDepth 20000 in
theorem gX7_sure_X2_fewestSureTicks : GoodIn wsX7_sure (wsV RX7 235 RX2 yX2_fewestSureTicks wsX2_fewestSureTicks) := goodIn_app (goodIn_of _ (by decide +kernel)) ggX7_sure_X2_fewestSureTicks
set_option maxRecDepth 20000 in
theorem ggX7_chance_X2_isAsked : GoodIn wsX7_chance wsX2_isAsked := goodIn_r _ [6, 7, 8, 5, 9, 10, 11, 12] (by decide +kernel) (by decide +kernel)
set_option maxRecDepth 20000 in
theorem gX7_chance_X2_isAsked : GoodIn wsX7_chance (va_wsS RX7 238 yX2_isAsked wsX2_isAsked) := goodIn_app (goodIn_of _ (by decide +kernel)) ggX7_chance_X2_isAsked
set_option maxRecDepth 20000 in
theorem ggX7_chance_X2_greatest : GoodIn wsX7_chance wsX2_greatest := goodIn_r _ [16, 17, 18, 5, 19, 20, 21, 22, 23, 24, 25, 26, 27, 28, 29, 30, 31, 32, 33, 34, 35, 36, 37, 38, 39, 40, 41, 42, 43, 44, 45, 46, 47, 48, 49, 50, 51, 52, 53, 54, 55, 56, 57, 58, 59, 60, 61, 62, 63, 64, 65, 66, 67, 68, 69, 70, 71, 72, 73, 74, 75, 76, 77, 78, 79, 80, 81, 82, 83, 84, 85, 86, 87, 96, 97, 98, 99, 100, 101, 102, 103, 104, 105, 106, 107, 108, 109, 110, 111, 112, 113, 114, 115, 116, 117, 118] (by decide +kernel) (by decide +kernel)
set_option maxRecDepth 20000 in
theorem gX7_chance_X2_greatest : GoodIn wsX7_chance (wsV RX7 243 RX2 yX2_greatest wsX2_greatest) := goodIn_app (goodIn_of _ (by decide +kernel)) ggX7_chance_X2_greatest
set_option maxRecDepth 20000 in
theorem ggX7_choice_X2_isAsked : GoodIn wsX7_choice wsX2_isAsked := goodIn_r _ [5, 6, 7, 4, 8, 9, 10, 11] (by decide +kernel) (by decide +kernel)
set_option maxRecDepth 20000 in
theorem gX7_choice_X2_isAsked : GoodIn wsX7_choice (va_wsS RX7 238 yX2_isAsked wsX2_isAsked) := goodIn_app (goodIn_of _ (by decide +kernel)) ggX7_choice_X2_isAsked
set_option maxRecDepth 20000 in
theorem ggX7_choice_X2_chosen : GoodIn wsX7_choice wsX2_chosen := goodIn_r _ [15, 16, 17, 18, 19, 20, 4, 21, 22, 23, 24, 25, 26, 27, 28, 29, 30, 31, 32, 33, 34, 35, 36, 37, 38, 39, 40, 41, 42, 43, 44, 45, 46, 47, 48, 49, 50, 51, 52, 53, 54, 55, 56, 57, 58, 59, 60, 61, 62, 63, 64, 65, 66, 67, 68, 69, 70, 71, 72, 73, 74, 75, 76, 77, 78, 79, 80, 81, 82, 83, 84, 85, 86, 87, 88, 89, 90, 99, 100, 101, 102, 103, 104, 105, 106, 107, 108, 109, 110, 111, 112, 113, 114, 115, 116, 117, 118, 119, 120, 121] (by decide +kernel) (by decide +kernel)
set_option maxRecDepth 20000 in
theorem gX7_choice_X2_chosen : GoodIn wsX7_choice (wsV RX7 246 RX2 yX2_chosen wsX2_chosen) := goodIn_app (goodIn_of _ (by decide +kernel)) ggX7_choice_X2_chosen
set_option maxRecDepth 20000 in
theorem ggX7_beginInChangedGame_X0_startSpot : GoodIn wsX7_beginInChangedGame wsX0_startSpot := goodIn_r _ [8, 9, 32, 33, 34, 35, 36, 37, 38, 39, 40] (by decide +kernel) (by decide +kernel)
set_option maxRecDepth 20000 in
theorem gX7_beginInChangedGame_X0_startSpot : GoodIn wsX7_beginInChangedGame (wsV RX7 148 RX0 yX0_startSpot wsX0_startSpot) := goodIn_app (goodIn_of _ (by decide +kernel)) ggX7_beginInChangedGame_X0_startSpot
set_option maxRecDepth 20000 in
theorem ggX7_beginInChangedGame_X4_restart : GoodIn wsX7_beginInChangedGame wsX4_restart := goodIn_r _ [14, 15, 16, 17, 18, 19, 20, 21, 22, 23, 41, 42, 43, 44, 45] (by decide +kernel) (by decide +kernel)
set_option maxRecDepth 20000 in
theorem gX7_beginInChangedGame_X4_restart : GoodIn wsX7_beginInChangedGame (wsV RX7 152 RX4 yX4_restart wsX4_restart) := goodIn_app (goodIn_of _ (by decide +kernel)) ggX7_beginInChangedGame_X4_restart
set_option maxRecDepth 20000 in
theorem ggX8_changed_X8_begins : GoodIn wsX8_changed wsX8_begins := goodIn_r _ [6, 7, 8, 9, 10, 11, 12, 13, 14, 15, 16, 17, 18, 19, 20, 21, 22, 23, 24, 25, 26, 27, 28, 29, 30, 31, 32, 33, 34, 35, 36, 37, 38, 39, 40, 41, 42, 43, 44, 45, 46, 47, 48, 49, 50, 51, 52, 53, 54, 55, 56, 57, 58, 59, 60, 61] (by decide +kernel) (by decide +kernel)
set_option maxRecDepth 20000 in
theorem gX8_changed_X8_begins : GoodIn wsX8_changed (wsV RX8 130 RX8 yX8_begins wsX8_begins) := goodIn_app (goodIn_of _ (by decide +kernel)) ggX8_changed_X8_begins
set_option maxRecDepth 20000 in
theorem ggX8_board_X8_changed : GoodIn wsX8_board wsX8_changed := goodIn_r _ [13, 14, 15, 16, 17, 12, 18, 6, 19, 20, 21, 22, 23, 24, 25, 26, 27, 28, 29, 30, 31, 32, 33, 34, 35, 36, 37, 38, 39, 40, 41, 42, 43, 44, 45, 46, 47, 48, 49, 50, 51, 52, 53, 54, 55, 56, 57, 58, 59, 60, 61, 62, 63, 64, 65, 66, 67, 68, 69, 70, 71, 72] (by decide +kernel) (by decide +kernel)
set_option maxRecDepth 20000 in
theorem gX8_board_X8_changed : GoodIn wsX8_board (wsV RX8 142 RX8 yX8_changed wsX8_changed) := goodIn_app (goodIn_of _ (by decide +kernel)) ggX8_board_X8_changed
set_option maxRecDepth 20000 in
theorem ggX8_cell_X8_isCell : GoodIn wsX8_cell wsX8_isCell := goodIn_r _ [7, 8, 9, 24, 25, 26, 27, 28, 29, 30, 31, 32, 33, 34, 35, 36, 37, 38, 39, 40, 41, 42, 43, 44, 45, 46, 47, 48, 49, 50, 51, 52, 53, 54, 55, 56, 57, 58, 59, 60, 61, 62, 63, 64, 65, 66, 67, 68, 69, 70, 71, 72, 73] (by decide +kernel) (by decide +kernel)
set_option maxRecDepth 20000 in
theorem gX8_cell_X8_isCell : GoodIn wsX8_cell (wsV RX8 145 RX8 yX8_isCell wsX8_isCell) := goodIn_app (goodIn_of _ (by decide +kernel)) ggX8_cell_X8_isCell
set_option maxRecDepth 20000 in
theorem ggX8_cell_X8_changed : GoodIn wsX8_cell wsX8_changed := goodIn_r _ [13, 14, 15, 16, 17, 6, 18, 19, 20, 21, 22, 23, 24, 25, 26, 27, 28, 29, 30, 31, 32, 33, 34, 35, 36, 37, 38, 39, 40, 41, 42, 43, 44, 45, 46, 47, 48, 49, 50, 51, 52, 53, 54, 55, 56, 57, 58, 59, 60, 61, 62, 63, 64, 65, 66, 67, 68, 69, 70, 71, 72, 73] (by decide +kernel) (by decide +kernel)
set_option maxRecDepth 20000 in
theorem gX8_cell_X8_changed : GoodIn wsX8_cell (wsV RX8 142 RX8 yX8_changed wsX8_changed) := goodIn_app (goodIn_of _ (by decide +kernel)) ggX8_cell_X8_changed
set_option maxRecDepth 20000 in
theorem ggX8_foe_X8_isCell : GoodIn wsX8_foe wsX8_isCell := goodIn_r _ [8, 9, 10, 25, 26, 27, 28, 29, 30, 31, 32, 33, 34, 35, 36, 37, 38, 39, 40, 41, 42, 43, 44, 45, 46, 47, 48, 49, 50, 51, 52, 53, 54, 55, 56, 57, 58, 59, 60, 61, 62, 63, 64, 65, 66, 67, 68, 69, 70, 71, 72, 73, 74] (by decide +kernel) (by decide +kernel)
set_option maxRecDepth 20000 in
theorem gX8_foe_X8_isCell : GoodIn wsX8_foe (wsV RX8 145 RX8 yX8_isCell wsX8_isCell) := goodIn_app (goodIn_of _ (by decide +kernel)) ggX8_foe_X8_isCell
set_option maxRecDepth 20000 in
theorem ggX8_foe_X8_changed : GoodIn wsX8_foe wsX8_changed := goodIn_r _ [14, 15, 16, 17, 18, 7, 19, 20, 21, 22, 23, 24, 25, 26, 27, 28, 29, 30, 31, 32, 33, 34, 35, 36, 37, 38, 39, 40, 41, 42, 43, 44, 45, 46, 47, 48, 49, 50, 51, 52, 53, 54, 55, 56, 57, 58, 59, 60, 61, 62, 63, 64, 65, 66, 67, 68, 69, 70, 71, 72, 73, 74] (by decide +kernel) (by decide +kernel)
set_option maxRecDepth 20000 in
theorem gX8_foe_X8_changed : GoodIn wsX8_foe (wsV RX8 142 RX8 yX8_changed wsX8_changed) := goodIn_app (goodIn_of _ (by decide +kernel)) ggX8_foe_X8_changed
set_option maxRecDepth 20000 in
theorem ggX8_start_X8_isCell : GoodIn wsX8_start wsX8_isCell := goodIn_r _ [7, 8, 9, 23, 24, 25, 26, 27, 28, 29, 30, 31, 32, 33, 34, 35, 36, 37, 38, 39, 40, 41, 42, 43, 44, 45, 46, 47, 48, 49, 50, 51, 52, 53, 54, 55, 56, 57, 58, 59, 60, 61, 62, 63, 64, 65, 66, 67, 68, 69, 70, 71, 72] (by decide +kernel) (by decide +kernel)
set_option maxRecDepth 20000 in
theorem gX8_start_X8_isCell : GoodIn wsX8_start (wsV RX8 145 RX8 yX8_isCell wsX8_isCell) := goodIn_app (goodIn_of _ (by decide +kernel)) ggX8_start_X8_isCell
set_option maxRecDepth 20000 in
theorem ggX8_start_X8_changed : GoodIn wsX8_start wsX8_changed := goodIn_r _ [13, 14, 15, 16, 17, 6, 18, 2, 19, 20, 21, 22, 23, 24, 25, 26, 27, 28, 29, 30, 31, 32, 33, 34, 35, 36, 37, 38, 39, 40, 41, 42, 43, 44, 45, 46, 47, 48, 49, 50, 51, 52, 53, 54, 55, 56, 57, 58, 59, 60, 61, 62, 63, 64, 65, 66, 67, 68, 69, 70, 71, 72] (by decide +kernel) (by decide +kernel)
set_option maxRecDepth 20000 in
theorem gX8_start_X8_changed : GoodIn wsX8_start (wsV RX8 142 RX8 yX8_changed wsX8_changed) := goodIn_app (goodIn_of _ (by decide +kernel)) ggX8_start_X8_changed
set_option maxRecDepth 20000 in
theorem ggX8_ticks_X8_isCell : GoodIn wsX8_ticks wsX8_isCell := goodIn_r _ [9, 10, 11, 18, 19, 20, 21, 22, 23, 24, 25, 26, 27, 28, 29, 30, 31, 32, 33, 34, 35, 36, 37, 38, 39, 40, 41, 42, 43, 44, 45, 46, 47, 48, 49, 50, 51, 52, 53, 54, 55, 56, 57, 58, 59, 60, 61, 62, 63, 64, 65, 66, 67] (by decide +kernel) (by decide +kernel)
set_option maxRecDepth 20000 in
theorem gX8_ticks_X8_isCell : GoodIn wsX8_ticks (wsV RX8 145 RX8 yX8_isCell wsX8_isCell) := goodIn_app (goodIn_of _ (by decide +kernel)) ggX8_ticks_X8_isCell
set_option maxRecDepth 20000 in
theorem ggX8_ticks_X8_foeAt : GoodIn wsX8_ticks wsX8_foeAt := goodIn_r _ [15, 16, 17, 18, 19, 20, 21, 22, 23, 24, 25, 26, 27, 28, 29, 30, 31, 32, 33, 34, 35, 36, 37, 38, 39, 40, 41, 42, 43, 44, 45, 46, 47, 48, 49, 50, 51, 52, 53, 54, 55, 56, 57, 58, 59, 60, 61, 62, 63, 64, 65, 66, 67] (by decide +kernel) (by decide +kernel)
set_option maxRecDepth 20000 in
theorem gX8_ticks_X8_foeAt : GoodIn wsX8_ticks (wsV RX8 158 RX8 yX8_foeAt wsX8_foeAt) := goodIn_app (goodIn_of _ (by decide +kernel)) ggX8_ticks_X8_foeAt
set_option maxRecDepth 20000 in
theorem ggX8_press_X8_ticks : GoodIn wsX8_press wsX8_ticks := goodIn_r _ [14, 7, 15, 8, 9, 16, 17, 18, 13, 19, 20, 21, 22, 23, 24, 25, 26, 27, 28, 29, 30, 31, 32, 33, 34, 35, 36, 37, 38, 39, 40, 41, 42, 43, 44, 45, 46, 47, 48, 49, 50, 51, 52, 53, 54, 55, 56, 57, 58, 59, 60, 61, 62, 63, 64, 65, 66, 67, 68, 69, 70, 71, 72, 73, 74, 75, 76, 77] (by decide +kernel) (by decide +kernel)
set_option maxRecDepth 20000 in
theorem gX8_press_X8_ticks : GoodIn wsX8_press (wsV RX8 162 RX8 yX8_ticks wsX8_ticks) := goodIn_app (goodIn_of _ (by decide +kernel)) ggX8_press_X8_ticks
set_option maxRecDepth 20000 in
theorem ggX8_state_X8_foeAt : GoodIn wsX8_state wsX8_foeAt := goodIn_r _ [10, 11, 12, 13, 14, 15, 16, 17, 18, 19, 20, 21, 22, 23, 24, 25, 26, 27, 28, 29, 30, 31, 32, 33, 34, 35, 36, 37, 38, 39, 40, 41, 42, 43, 44, 45, 46, 47, 48, 49, 50, 51, 52, 53, 54, 55, 56, 57, 58, 59, 60, 61, 62] (by decide +kernel) (by decide +kernel)
set_option maxRecDepth 20000 in
theorem gX8_state_X8_foeAt : GoodIn wsX8_state (wsV RX8 158 RX8 yX8_foeAt wsX8_foeAt) := goodIn_app (goodIn_of _ (by decide +kernel)) ggX8_state_X8_foeAt
set_option maxRecDepth 20000 in
theorem ggX8_begin_X8_begins : GoodIn wsX8_begin wsX8_begins := goodIn_r _ [6, 7, 8, 9, 10, 11, 12, 13, 14, 15, 16, 17, 18, 19, 20, 21, 22, 23, 24, 25, 26, 27, 28, 29, 30, 31, 32, 33, 34, 35, 36, 37, 38, 39, 40, 41, 42, 43, 44, 45, 46, 47, 48, 49, 50, 51, 52, 53, 54, 55, 56, 57, 58, 59, 60, 61] (by decide +kernel) (by decide +kernel)
set_option maxRecDepth 20000 in
theorem gX8_begin_X8_begins : GoodIn wsX8_begin (wsV RX8 130 RX8 yX8_begins wsX8_begins) := goodIn_app (goodIn_of _ (by decide +kernel)) ggX8_begin_X8_begins
set_option maxRecDepth 20000 in
theorem ggX8_least_X8_phases : GoodIn wsX8_least wsX8_phases := goodIn_r _ [18, 19, 41, 42, 43, 44, 45, 46, 47, 48, 49, 50, 51, 52, 53, 54, 55, 56, 57, 58, 59, 60, 61, 62, 63, 64, 65, 66, 67, 68, 69, 70, 71, 72, 73, 74, 75, 76, 77, 78, 79, 80, 81, 82, 83, 84, 85, 86, 87, 88, 89, 90] (by decide +kernel) (by decide +kernel)
set_option maxRecDepth 20000 in
theorem gX8_least_X8_phases : GoodIn wsX8_least (wsV RX8 169 RX8 yX8_phases wsX8_phases) := goodIn_app (goodIn_of _ (by decide +kernel)) ggX8_least_X8_phases
set_option maxRecDepth 20000 in
theorem ggX8_least_X8_ticks : GoodIn wsX8_least wsX8_ticks := goodIn_r _ [23, 11, 24, 12, 10, 25, 26, 27, 17, 28, 29, 30, 31, 32, 33, 34, 19, 35, 41, 42, 43, 44, 45, 46, 47, 48, 49, 50, 51, 52, 53, 54, 55, 56, 57, 58, 59, 60, 61, 62, 63, 64, 65, 66, 67, 68, 69, 70, 71, 72, 73, 74, 75, 76, 77, 78, 79, 80, 81, 82, 83, 84, 85, 86, 87, 88, 89, 90] (by decide +kernel) (by decide +kernel)
set_option maxRecDepth 20000 in
theorem gX8_least_X8_ticks : GoodIn wsX8_least (wsV RX8 162 RX8 yX8_ticks wsX8_ticks) := goodIn_app (goodIn_of _ (by decide +kernel)) ggX8_least_X8_ticks
set_option maxRecDepth 20000 in
theorem ggX8_least_X8_rows : GoodIn wsX8_least wsX8_rows := goodIn_r _ [39, 9, 2, 40, 13, 41, 42, 43, 44, 45, 46, 47, 48, 49, 50, 51, 52, 53, 54, 55, 56, 57, 58, 59, 60, 61, 62, 63, 64, 65, 66, 67, 68, 69, 70, 71, 72, 73, 74, 75, 76, 77, 78, 79, 80, 81, 82, 83, 84, 85, 86, 87, 88, 89, 90] (by decide +kernel) (by decide +kernel)
set_option maxRecDepth 20000 in
theorem gX8_least_X8_rows : GoodIn wsX8_least (wsV RX8 173 RX8 yX8_rows wsX8_rows) := goodIn_app (goodIn_of _ (by decide +kernel)) ggX8_least_X8_rows
set_option maxRecDepth 20000 in
theorem ggX8_prove_X8_ticks : GoodIn wsX8_prove wsX8_ticks := goodIn_r _ [12, 5, 13, 6, 7, 14, 15, 16, 11, 17, 18, 19, 20, 21, 22, 23, 24, 25, 26, 27, 28, 29, 30, 31, 32, 33, 34, 35, 36, 37, 38, 39, 40, 41, 42, 43, 44, 45, 46, 47, 48, 49, 50, 51, 52, 53, 54, 55, 56, 57, 58, 59, 60, 61, 62, 63, 64, 65, 66, 67, 68, 69, 70, 71, 72, 73, 74, 75] (by decide +kernel) (by decide +kernel)
set_option maxRecDepth 20000 in
theorem gX8_prove_X8_ticks : GoodIn wsX8_prove (wsV RX8 162 RX8 yX8_ticks wsX8_ticks) := goodIn_app (goodIn_of _ (by decide +kernel)) ggX8_prove_X8_ticks
set_option maxRecDepth 20000 in
theorem ggX8_split_X8_isCell : GoodIn wsX8_split wsX8_isCell := goodIn_r _ [10, 11, 12, 13, 14, 15, 16, 17, 18, 19, 20, 21, 22, 23, 24, 25, 26, 27, 28, 29, 30, 31, 32, 33, 34, 35, 36, 37, 38, 39, 40, 41, 42, 43, 44, 45, 46, 47, 48, 49, 50, 51, 52, 53, 54, 55, 56, 57, 58, 59, 60, 61, 62] (by decide +kernel) (by decide +kernel)
set_option maxRecDepth 20000 in
theorem gX8_split_X8_isCell : GoodIn wsX8_split (wsV RX8 145 RX8 yX8_isCell wsX8_isCell) := goodIn_app (goodIn_of _ (by decide +kernel)) ggX8_split_X8_isCell
set_option maxRecDepth 20000 in
theorem ggX8_could_X8_so : GoodIn wsX8_could wsX8_so := goodIn_r _ [16, 17, 18, 19, 20, 38, 39, 40, 41, 42, 43, 44, 45, 46, 47, 48, 49, 50, 51, 52, 53, 54, 55, 56, 57, 58, 59, 60, 61, 62, 63, 64, 65, 66, 67, 68, 69, 70, 71, 72, 73, 74, 75, 76, 77, 78, 79, 80, 81, 82, 83, 84, 85, 86, 87] (by decide +kernel) (by decide +kernel)
set_option maxRecDepth 20000 in
theorem gX8_could_X8_so : GoodIn wsX8_could (wsV RX8 177 RX8 yX8_so wsX8_so) := goodIn_app (goodIn_of _ (by decide +kernel)) ggX8_could_X8_so
set_option maxRecDepth 20000 in
theorem ggX8_could_X8_ticks : GoodIn wsX8_could wsX8_ticks := goodIn_r _ [24, 6, 25, 11, 5, 26, 27, 28, 15, 29, 30, 31, 32, 33, 34, 35, 36, 37, 38, 39, 40, 41, 42, 43, 44, 45, 46, 47, 48, 49, 50, 51, 52, 53, 54, 55, 56, 57, 58, 59, 60, 61, 62, 63, 64, 65, 66, 67, 68, 69, 70, 71, 72, 73, 74, 75, 76, 77, 78, 79, 80, 81, 82, 83, 84, 85, 86, 87] (by decide +kernel) (by decide +kernel)
set_option maxRecDepth 20000 in
theorem gX8_could_X8_ticks : GoodIn wsX8_could (wsV RX8 162 RX8 yX8_ticks wsX8_ticks) := goodIn_app (goodIn_of _ (by decide +kernel)) ggX8_could_X8_ticks
set_option maxRecDepth 20000 in
theorem ggX8_road_X8_isRoom : GoodIn wsX8_road wsX8_isRoom := goodIn_r _ [15] (by decide +kernel) (by decide +kernel)
set_option maxRecDepth 20000 in
theorem gX8_road_X8_isRoom : GoodIn wsX8_road (va_wsS RX8 187 yX8_isRoom wsX8_isRoom) := goodIn_app (goodIn_of _ (by decide +kernel)) ggX8_road_X8_isRoom
set_option maxRecDepth 20000 in
theorem ggX8_road_X8_areThings : GoodIn wsX8_road wsX8_areThings := goodIn_r _ [18] (by decide +kernel) (by decide +kernel)
set_option maxRecDepth 20000 in
theorem gX8_road_X8_areThings : GoodIn wsX8_road (va_wsS RX8 191 yX8_areThings wsX8_areThings) := goodIn_app (goodIn_of _ (by decide +kernel)) ggX8_road_X8_areThings
set_option maxRecDepth 20000 in
theorem ggX8_goal_X8_isRoom : GoodIn wsX8_goal wsX8_isRoom := goodIn_r _ [7] (by decide +kernel) (by decide +kernel)
set_option maxRecDepth 20000 in
theorem gX8_goal_X8_isRoom : GoodIn wsX8_goal (va_wsS RX8 187 yX8_isRoom wsX8_isRoom) := goodIn_app (goodIn_of _ (by decide +kernel)) ggX8_goal_X8_isRoom
set_option maxRecDepth 20000 in
theorem ggX8_goal_X8_areThings : GoodIn wsX8_goal wsX8_areThings := goodIn_r _ [10] (by decide +kernel) (by decide +kernel)
set_option maxRecDepth 20000 in
theorem gX8_goal_X8_areThings : GoodIn wsX8_goal (va_wsS RX8 191 yX8_areThings wsX8_areThings) := goodIn_app (goodIn_of _ (by decide +kernel)) ggX8_goal_X8_areThings
set_option maxRecDepth 20000 in
theorem ggX8_sure_X8_canGo : GoodIn wsX8_sure wsX8_canGo := goodIn_r _ [12, 13, 14, 15, 22, 23, 24, 25, 26, 27, 28, 29, 30, 31, 32, 33, 34, 35, 36, 37, 38, 39, 40, 41, 42, 43, 44, 45, 46, 47, 48, 49, 50, 51, 52, 53, 54, 55, 56, 57, 58, 59, 60, 61, 62, 63, 64, 65, 66, 67, 68, 69, 70, 71] (by decide +kernel) (by decide +kernel)
set_option maxRecDepth 20000 in
theorem gX8_sure_X8_canGo : GoodIn wsX8_sure (wsV RX8 206 RX8 yX8_canGo wsX8_canGo) := goodIn_app (goodIn_of _ (by decide +kernel)) ggX8_sure_X8_canGo
set_option maxRecDepth 20000 in
theorem ggX8_sure_X8_isGoal : GoodIn wsX8_sure wsX8_isGoal := goodIn_r _ [19, 20, 21, 22, 23, 24, 25, 26, 27, 28, 29, 30, 31, 32, 33, 34, 35, 36, 37, 38, 39, 40, 41, 42, 43, 44, 45, 46, 47, 48, 49, 50, 51, 52, 53, 54, 55, 56, 57, 58, 59, 60, 61, 62, 63, 64, 65, 66, 67, 68, 69, 70, 71] (by decide +kernel) (by decide +kernel)
set_option maxRecDepth 20000 in
theorem gX8_sure_X8_isGoal : GoodIn wsX8_sure (wsV RX8 210 RX8 yX8_isGoal wsX8_isGoal) := goodIn_app (goodIn_of _ (by decide +kernel)) ggX8_sure_X8_isGoal
set_option maxRecDepth 20000 in
theorem ggX8_roadChance_X8_chanceOf : GoodIn wsX8_roadChance wsX8_chanceOf := goodIn_r _ [12, 13, 14, 15, 16, 17, 18, 19, 20, 21, 22, 23, 24, 25, 26, 27, 28, 29, 30, 31, 32, 33, 34, 35, 36, 37, 38, 39, 40, 41, 42, 43, 44, 45, 46, 47, 48, 49, 50, 51, 52, 53, 54, 55, 56, 57, 58, 59, 60, 61, 62, 63] (by decide +kernel) (by decide +kernel)
set_option maxRecDepth 20000 in
theorem gX8_roadChance_X8_chanceOf : GoodIn wsX8_roadChance (wsV RX8 213 RX8 yX8_chanceOf wsX8_chanceOf) := goodIn_app (goodIn_of _ (by decide +kernel)) ggX8_roadChance_X8_chanceOf
set_option maxRecDepth 20000 in
theorem ggX8_reckons_X8_chanceOf : GoodIn wsX8_reckons wsX8_chanceOf := goodIn_r _ [13, 7, 38, 39, 40, 41, 42, 43, 44, 45, 46, 47, 48, 49, 50, 51, 52, 53, 54, 55, 56, 57, 58, 59, 60, 61, 62, 63, 64, 65, 66, 67, 68, 69, 70, 71, 72, 73, 74, 75, 76, 77, 78, 79, 80, 81, 82, 83, 84, 85, 86, 87] (by decide +kernel) (by decide +kernel)
set_option maxRecDepth 20000 in
theorem gX8_reckons_X8_chanceOf : GoodIn wsX8_reckons (wsV RX8 213 RX8 yX8_chanceOf wsX8_chanceOf) := goodIn_app (goodIn_of _ (by decide +kernel)) ggX8_reckons_X8_chanceOf
set_option maxRecDepth 20000 in
theorem ggX8_reckons_X8_canGo : GoodIn wsX8_reckons wsX8_canGo := goodIn_r _ [17, 18, 19, 20, 38, 39, 40, 41, 42, 43, 44, 45, 46, 47, 48, 49, 50, 51, 52, 53, 54, 55, 56, 57, 58, 59, 60, 61, 62, 63, 64, 65, 66, 67, 68, 69, 70, 71, 72, 73, 74, 75, 76, 77, 78, 79, 80, 81, 82, 83, 84, 85, 86, 87] (by decide +kernel) (by decide +kernel)
set_option maxRecDepth 20000 in
theorem gX8_reckons_X8_canGo : GoodIn wsX8_reckons (wsV RX8 206 RX8 yX8_canGo wsX8_canGo) := goodIn_app (goodIn_of _ (by decide +kernel)) ggX8_reckons_X8_canGo
set_option maxRecDepth 20000 in
theorem ggX8_reckons_X8_roadChance : GoodIn wsX8_reckons wsX8_roadChance := goodIn_r _ [24, 25, 26, 27, 28, 29, 30, 31, 9, 10, 11, 12, 13, 7, 38, 39, 40, 41, 42, 43, 44, 45, 46, 47, 48, 49, 50, 51, 52, 53, 54, 55, 56, 57, 58, 59, 60, 61, 62, 63, 64, 65, 66, 67, 68, 69, 70, 71, 72, 73, 74, 75, 76, 77, 78, 79, 80, 81, 82, 83, 84, 85, 86, 87] (by decide +kernel) (by decide +kernel)
set_option maxRecDepth 20000 in
theorem gX8_reckons_X8_roadChance : GoodIn wsX8_reckons (wsV RX8 218 RX8 yX8_roadChance wsX8_roadChance) := goodIn_app (goodIn_of _ (by decide +kernel)) ggX8_reckons_X8_roadChance
set_option maxRecDepth 20000 in
theorem ggX8_reckons_X8_isGoal : GoodIn wsX8_reckons wsX8_isGoal := goodIn_r _ [35, 36, 37, 38, 39, 40, 41, 42, 43, 44, 45, 46, 47, 48, 49, 50, 51, 52, 53, 54, 55, 56, 57, 58, 59, 60, 61, 62, 63, 64, 65, 66, 67, 68, 69, 70, 71, 72, 73, 74, 75, 76, 77, 78, 79, 80, 81, 82, 83, 84, 85, 86, 87] (by decide +kernel) (by decide +kernel)
set_option maxRecDepth 20000 in
theorem gX8_reckons_X8_isGoal : GoodIn wsX8_reckons (wsV RX8 210 RX8 yX8_isGoal wsX8_isGoal) := goodIn_app (goodIn_of _ (by decide +kernel)) ggX8_reckons_X8_isGoal
set_option maxRecDepth 20000 in
theorem ggX8_canAsk_X8_isRoom : GoodIn wsX8_canAsk wsX8_isRoom := goodIn_r _ [4] (by decide +kernel) (by decide +kernel)
set_option maxRecDepth 20000 in
theorem gX8_canAsk_X8_isRoom : GoodIn wsX8_canAsk (va_wsS RX8 187 yX8_isRoom wsX8_isRoom) := goodIn_app (goodIn_of _ (by decide +kernel)) ggX8_canAsk_X8_isRoom
set_option maxRecDepth 20000 in
theorem ggX8_canAsk_X8_areThings : GoodIn wsX8_canAsk wsX8_areThings := goodIn_r _ [7] (by decide +kernel) (by decide +kernel)
set_option maxRecDepth 20000 in
theorem gX8_canAsk_X8_areThings : GoodIn wsX8_canAsk (va_wsS RX8 191 yX8_areThings wsX8_areThings) := goodIn_app (goodIn_of _ (by decide +kernel)) ggX8_canAsk_X8_areThings
set_option maxRecDepth 20000 in
theorem ggX8_chance_X8_canAsk : GoodIn wsX8_chance wsX8_canAsk := goodIn_r _ [6, 7, 8, 5, 9, 10, 11, 12] (by decide +kernel) (by decide +kernel)
set_option maxRecDepth 20000 in
theorem gX8_chance_X8_canAsk : GoodIn wsX8_chance (va_wsS RX8 222 yX8_canAsk wsX8_canAsk) := goodIn_app (goodIn_of _ (by decide +kernel)) ggX8_chance_X8_canAsk
set_option maxRecDepth 20000 in
theorem ggX8_chance_X8_reckons : GoodIn wsX8_chance wsX8_reckons := goodIn_r _ [16, 17, 18, 19, 20, 21, 22, 23, 24, 25, 26, 27, 5, 28, 29, 30, 31, 32, 33, 34, 35, 36, 37, 38, 39, 40, 41, 42, 43, 44, 45, 46, 47, 48, 49, 50, 51, 52, 53, 54, 55, 56, 57, 58, 59, 60, 61, 62, 63, 64, 65, 66, 67, 68, 69, 70, 71, 72, 73, 74, 75, 76, 77, 78, 79, 80, 81, 82, 83, 84, 85, 86, 87, 88, 89, 90, 91, 92, 93, 94, 95, 96, 97, 98, 99, 100, 101, 102] (by decide +kernel) (by decide +kernel)
set_option maxRecDepth 20000 in
theorem gX8_chance_X8_reckons : GoodIn wsX8_chance (wsV RX8 227 RX8 yX8_reckons wsX8_reckons) := goodIn_app (goodIn_of _ (by decide +kernel)) ggX8_chance_X8_reckons
set_option maxRecDepth 20000 in
theorem ggX8_chance_X8_chanceOf : GoodIn wsX8_chance wsX8_chanceOf := goodIn_r _ [28, 23, 53, 54, 55, 56, 57, 58, 59, 60, 61, 62, 63, 64, 65, 66, 67, 68, 69, 70, 71, 72, 73, 74, 75, 76, 77, 78, 79, 80, 81, 82, 83, 84, 85, 86, 87, 88, 89, 90, 91, 92, 93, 94, 95, 96, 97, 98, 99, 100, 101, 102] (by decide +kernel) (by decide +kernel)
set_option maxRecDepth 20000 in
theorem gX8_chance_X8_chanceOf : GoodIn wsX8_chance (wsV RX8 213 RX8 yX8_chanceOf wsX8_chanceOf) := goodIn_app (goodIn_of _ (by decide +kernel)) ggX8_chance_X8_chanceOf
set_option maxRecDepth 20000 in
theorem ggX8_choice_X8_canAsk : GoodIn wsX8_choice wsX8_canAsk := goodIn_r _ [6, 7, 8, 5, 9, 10, 11, 12] (by decide +kernel) (by decide +kernel)
set_option maxRecDepth 20000 in
theorem gX8_choice_X8_canAsk : GoodIn wsX8_choice (va_wsS RX8 222 yX8_canAsk wsX8_canAsk) := goodIn_app (goodIn_of _ (by decide +kernel)) ggX8_choice_X8_canAsk
set_option maxRecDepth 20000 in
theorem ggX8_choice_X8_reckons : GoodIn wsX8_choice wsX8_reckons := goodIn_r _ [16, 17, 2, 18, 19, 20, 21, 22, 23, 24, 25, 26, 5, 27, 28, 29, 30, 31, 32, 33, 34, 35, 36, 37, 38, 39, 40, 41, 42, 43, 44, 45, 46, 47, 48, 49, 50, 51, 52, 53, 54, 55, 56, 57, 58, 59, 60, 61, 62, 63, 64, 65, 66, 67, 68, 69, 70, 71, 72, 73, 74, 75, 76, 77, 78, 79, 80, 81, 82, 83, 84, 85, 86, 87, 88, 89, 90, 91, 92, 93, 94, 95, 96, 97, 98, 99, 100, 101] (by decide +kernel) (by decide +kernel)
set_option maxRecDepth 20000 in
theorem gX8_choice_X8_reckons : GoodIn wsX8_choice (wsV RX8 227 RX8 yX8_reckons wsX8_reckons) := goodIn_app (goodIn_of _ (by decide +kernel)) ggX8_choice_X8_reckons
set_option maxRecDepth 20000 in
theorem ggX8_choice_X8_chanceOf : GoodIn wsX8_choice wsX8_chanceOf := goodIn_r _ [27, 22, 52, 53, 54, 55, 56, 57, 58, 59, 60, 61, 62, 63, 64, 65, 66, 67, 68, 69, 70, 71, 72, 73, 74, 75, 76, 77, 78, 79, 80, 81, 82, 83, 84, 85, 86, 87, 88, 89, 90, 91, 92, 93, 94, 95, 96, 97, 98, 99, 100, 101] (by decide +kernel) (by decide +kernel)
set_option maxRecDepth 20000 in
theorem gX8_choice_X8_chanceOf : GoodIn wsX8_choice (wsV RX8 213 RX8 yX8_chanceOf wsX8_chanceOf) := goodIn_app (goodIn_of _ (by decide +kernel)) ggX8_choice_X8_chanceOf
set_option maxRecDepth 20000 in
theorem ggX8_choice_X8_isGoal : GoodIn wsX8_choice wsX8_isGoal := goodIn_r _ [49, 50, 51, 52, 53, 54, 55, 56, 57, 58, 59, 60, 61, 62, 63, 64, 65, 66, 67, 68, 69, 70, 71, 72, 73, 74, 75, 76, 77, 78, 79, 80, 81, 82, 83, 84, 85, 86, 87, 88, 89, 90, 91, 92, 93, 94, 95, 96, 97, 98, 99, 100, 101] (by decide +kernel) (by decide +kernel)
set_option maxRecDepth 20000 in
theorem gX8_choice_X8_isGoal : GoodIn wsX8_choice (wsV RX8 210 RX8 yX8_isGoal wsX8_isGoal) := goodIn_app (goodIn_of _ (by decide +kernel)) ggX8_choice_X8_isGoal
set_option maxRecDepth 20000 in
theorem ggX8_choice_X8_canGo : GoodIn wsX8_choice wsX8_canGo := goodIn_r _ [31, 32, 33, 34, 52, 53, 54, 55, 56, 57, 58, 59, 60, 61, 62, 63, 64, 65, 66, 67, 68, 69, 70, 71, 72, 73, 74, 75, 76, 77, 78, 79, 80, 81, 82, 83, 84, 85, 86, 87, 88, 89, 90, 91, 92, 93, 94, 95, 96, 97, 98, 99, 100, 101] (by decide +kernel) (by decide +kernel)
set_option maxRecDepth 20000 in
theorem gX8_choice_X8_canGo : GoodIn wsX8_choice (wsV RX8 206 RX8 yX8_canGo wsX8_canGo) := goodIn_app (goodIn_of _ (by decide +kernel)) ggX8_choice_X8_canGo
set_option maxRecDepth 20000 in
theorem ggX8_choice_X8_roadChance : GoodIn wsX8_choice wsX8_roadChance := goodIn_r _ [38, 39, 40, 41, 42, 43, 44, 45, 24, 25, 26, 5, 27, 22, 52, 53, 54, 55, 56, 57, 58, 59, 60, 61, 62, 63, 64, 65, 66, 67, 68, 69, 70, 71, 72, 73, 74, 75, 76, 77, 78, 79, 80, 81, 82, 83, 84, 85, 86, 87, 88, 89, 90, 91, 92, 93, 94, 95, 96, 97, 98, 99, 100, 101] (by decide +kernel) (by decide +kernel)
set_option maxRecDepth 20000 in
theorem gX8_choice_X8_roadChance : GoodIn wsX8_choice (wsV RX8 218 RX8 yX8_roadChance wsX8_roadChance) := goodIn_app (goodIn_of _ (by decide +kernel)) ggX8_choice_X8_roadChance
