set_option maxRecDepth 20000 in
theorem ggX0_fillFrom_X0_fill : GoodIn wsX0_fillFrom wsX0_fill := goodIn_r _ [9, 1, 2, 3, 4, 10, 11, 12, 13] (by decide +kernel) (by decide +kernel)
set_option maxRecDepth 20000 in
theorem gX0_fillFrom_X0_fill : GoodIn wsX0_fillFrom (wsV RX0 24 RX0 yX0_fill wsX0_fill) := goodIn_app (goodIn_of _ (by decide +kernel)) ggX0_fillFrom_X0_fill
set_option maxRecDepth 20000 in
theorem ggX0_weightOf_X0_trueStage : GoodIn wsX0_weightOf wsX0_trueStage := goodIn_r _ [13, 14, 15, 16, 3, 17, 18, 19, 20, 21] (by decide +kernel) (by decide +kernel)
set_option maxRecDepth 20000 in
theorem gX0_weightOf_X0_trueStage : GoodIn wsX0_weightOf (wsV RX0 34 RX0 yX0_trueStage wsX0_trueStage) := goodIn_app (goodIn_of _ (by decide +kernel)) ggX0_weightOf_X0_trueStage
set_option maxRecDepth 20000 in
theorem ggX0_offTenths_X3_at : GoodIn wsX0_offTenths wsX3_at := goodIn_r _ [4] (by decide +kernel) (by decide +kernel)
set_option maxRecDepth 20000 in
theorem gX0_offTenths_X3_at_n49 : GoodIn wsX0_offTenths (wsX3_at) := ggX0_offTenths_X3_at
set_option maxRecDepth 20000 in
theorem ggX0_offTenths_X3_heldTenths : GoodIn wsX0_offTenths wsX3_heldTenths := goodIn_r _ [6, 7, 8, 9, 10, 11, 12, 13] (by decide +kernel) (by decide +kernel)
set_option maxRecDepth 20000 in
theorem gX0_offTenths_X3_heldTenths_n53 : GoodIn wsX0_offTenths (wsX3_heldTenths) := ggX0_offTenths_X3_heldTenths
set_option maxRecDepth 20000 in
theorem ggX1_init_X0_init : GoodIn wsX1_init wsX0_init := goodIn_r _ [19, 20, 2, 3, 21, 22, 23, 24, 35, 36, 37, 38] (by decide +kernel) (by decide +kernel)
set_option maxRecDepth 20000 in
theorem gX1_init_X0_init_n17 : GoodIn wsX1_init (wsX0_init) := ggX1_init_X0_init
set_option maxRecDepth 20000 in
theorem ggX1_copyFrom_X1_jugAt : GoodIn wsX1_copyFrom wsX1_jugAt := goodIn_r _ [15, 6, 1, 16, 17, 18, 34, 35, 36, 37, 38, 39, 40, 41, 42, 43] (by decide +kernel) (by decide +kernel)
set_option maxRecDepth 20000 in
theorem gX1_copyFrom_X1_jugAt : GoodIn wsX1_copyFrom (wsV RX1 47 RX1 yX1_jugAt wsX1_jugAt) := goodIn_app (goodIn_of _ (by decide +kernel)) ggX1_copyFrom_X1_jugAt
set_option maxRecDepth 20000 in
theorem ggX1_copyFrom_X0_fillFrom : GoodIn wsX1_copyFrom wsX0_fillFrom := goodIn_r _ [22, 23, 24, 25, 26, 27, 28, 29, 20, 30, 44, 45, 46, 47] (by decide +kernel) (by decide +kernel)
set_option maxRecDepth 20000 in
theorem gX1_copyFrom_X0_fillFrom_n51 : GoodIn wsX1_copyFrom (wsX0_fillFrom) := ggX1_copyFrom_X0_fillFrom
set_option maxRecDepth 20000 in
theorem ggX1_copyFrom_X1_copyRow : GoodIn wsX1_copyFrom wsX1_copyRow := goodIn_r _ [33] (by decide +kernel) (by decide +kernel)
set_option maxRecDepth 20000 in
theorem gX1_copyFrom_X1_copyRow : GoodIn wsX1_copyFrom (va_wsS RX1 55 yX1_copyRow wsX1_copyRow) := goodIn_app (goodIn_of _ (by decide +kernel)) ggX1_copyFrom_X1_copyRow
set_option maxRecDepth 20000 in
theorem ggX1_jugAt_X3_isOneOf : GoodIn wsX1_jugAt wsX3_isOneOf := goodIn_r _ [5] (by decide +kernel) (by decide +kernel)
set_option maxRecDepth 20000 in
theorem gX1_jugAt_X3_isOneOf_n59 : GoodIn wsX1_jugAt (wsX3_isOneOf) := ggX1_jugAt_X3_isOneOf
set_option maxRecDepth 20000 in
theorem ggX1_inHand_X1_jugAt : GoodIn wsX1_inHand wsX1_jugAt := goodIn_r _ [6, 7, 8, 9, 10, 11, 12, 13, 14, 15, 16, 17, 18, 19, 20, 21] (by decide +kernel) (by decide +kernel)
set_option maxRecDepth 20000 in
theorem gX1_inHand_X1_jugAt : GoodIn wsX1_inHand (wsV RX1 47 RX1 yX1_jugAt wsX1_jugAt) := goodIn_app (goodIn_of _ (by decide +kernel)) ggX1_inHand_X1_jugAt
set_option maxRecDepth 20000 in
theorem ggX1_addJug_X3_isOneOf : GoodIn wsX1_addJug wsX3_isOneOf := goodIn_r _ [5] (by decide +kernel) (by decide +kernel)
set_option maxRecDepth 20000 in
theorem gX1_addJug_X3_isOneOf_n59 : GoodIn wsX1_addJug (wsX3_isOneOf) := ggX1_addJug_X3_isOneOf
set_option maxRecDepth 20000 in
theorem ggX1_addJug_X0_fill : GoodIn wsX1_addJug wsX0_fill := goodIn_r _ [9, 10, 11, 12, 13, 24, 25, 26, 27] (by decide +kernel) (by decide +kernel)
set_option maxRecDepth 20000 in
theorem gX1_addJug_X0_fill_n63 : GoodIn wsX1_addJug (wsX0_fill) := ggX1_addJug_X0_fill
set_option maxRecDepth 20000 in
theorem ggX1_standInCold_X1_jugAt : GoodIn wsX1_standInCold wsX1_jugAt := goodIn_r _ [6, 1, 7, 8, 9, 10, 24, 25, 26, 27, 28, 29, 30, 31, 32, 33] (by decide +kernel) (by decide +kernel)
set_option maxRecDepth 20000 in
theorem gX1_standInCold_X1_jugAt : GoodIn wsX1_standInCold (wsV RX1 47 RX1 yX1_jugAt wsX1_jugAt) := goodIn_app (goodIn_of _ (by decide +kernel)) ggX1_standInCold_X1_jugAt
set_option maxRecDepth 20000 in
theorem ggX1_standInCold_X0_coldPoints : GoodIn wsX1_standInCold wsX0_coldPoints := goodIn_r _ [14, 15, 34, 35, 36, 37] (by decide +kernel) (by decide +kernel)
set_option maxRecDepth 20000 in
theorem gX1_standInCold_X0_coldPoints_n67 : GoodIn wsX1_standInCold (wsX0_coldPoints) := ggX1_standInCold_X0_coldPoints
set_option maxRecDepth 20000 in
theorem ggX1_standInCold_X0_gain : GoodIn wsX1_standInCold wsX0_gain := goodIn_r _ [18, 19, 20, 21, 22, 23, 34, 35, 36, 37] (by decide +kernel) (by decide +kernel)
set_option maxRecDepth 20000 in
theorem gX1_standInCold_X0_gain_n71 : GoodIn wsX1_standInCold (wsX0_gain) := ggX1_standInCold_X0_gain
set_option maxRecDepth 20000 in
theorem ggX1_standInWarm_X1_jugAt : GoodIn wsX1_standInWarm wsX1_jugAt := goodIn_r _ [5, 6, 7, 8, 9, 10, 25, 26, 27, 28, 29, 30, 31, 32, 33, 34] (by decide +kernel) (by decide +kernel)
set_option maxRecDepth 20000 in
theorem gX1_standInWarm_X1_jugAt : GoodIn wsX1_standInWarm (wsV RX1 47 RX1 yX1_jugAt wsX1_jugAt) := goodIn_app (goodIn_of _ (by decide +kernel)) ggX1_standInWarm_X1_jugAt
set_option maxRecDepth 20000 in
theorem ggX1_standInWarm_X0_warmPoints : GoodIn wsX1_standInWarm wsX0_warmPoints := goodIn_r _ [14, 15, 16, 35, 36, 37, 38] (by decide +kernel) (by decide +kernel)
set_option maxRecDepth 20000 in
theorem gX1_standInWarm_X0_warmPoints_n75 : GoodIn wsX1_standInWarm (wsX0_warmPoints) := ggX1_standInWarm_X0_warmPoints
set_option maxRecDepth 20000 in
theorem ggX1_standInWarm_X0_gain : GoodIn wsX1_standInWarm wsX0_gain := goodIn_r _ [19, 20, 21, 22, 23, 24, 35, 36, 37, 38] (by decide +kernel) (by decide +kernel)
set_option maxRecDepth 20000 in
theorem gX1_standInWarm_X0_gain_n71 : GoodIn wsX1_standInWarm (wsX0_gain) := ggX1_standInWarm_X0_gain
set_option maxRecDepth 20000 in
theorem ggX1_takeInHand_X1_jugAt : GoodIn wsX1_takeInHand wsX1_jugAt := goodIn_r _ [7, 8, 9, 10, 11, 12, 13, 14, 15, 16, 17, 18, 19, 20, 21, 22] (by decide +kernel) (by decide +kernel)
set_option maxRecDepth 20000 in
theorem gX1_takeInHand_X1_jugAt : GoodIn wsX1_takeInHand (wsV RX1 47 RX1 yX1_jugAt wsX1_jugAt) := goodIn_app (goodIn_of _ (by decide +kernel)) ggX1_takeInHand_X1_jugAt
set_option maxRecDepth 20000 in
theorem ggX1_addSeen_X1_inHand : GoodIn wsX1_addSeen wsX1_inHand := goodIn_r _ [8, 9, 10, 11, 12, 7, 13, 14, 15, 16, 17, 18, 19, 20, 21, 22, 23, 24, 25, 26, 27, 28] (by decide +kernel) (by decide +kernel)
set_option maxRecDepth 20000 in
theorem gX1_addSeen_X1_inHand : GoodIn wsX1_addSeen (wsV RX1 78 RX1 yX1_inHand wsX1_inHand) := goodIn_app (goodIn_of _ (by decide +kernel)) ggX1_addSeen_X1_inHand
set_option maxRecDepth 20000 in
theorem ggX1_addSeen_X3_isOneOf : GoodIn wsX1_addSeen wsX3_isOneOf := goodIn_r _ [18] (by decide +kernel) (by decide +kernel)
set_option maxRecDepth 20000 in
theorem gX1_addSeen_X3_isOneOf_n59 : GoodIn wsX1_addSeen (wsX3_isOneOf) := ggX1_addSeen_X3_isOneOf
set_option maxRecDepth 20000 in
theorem ggX1_takeCups_X1_inHand : GoodIn wsX1_takeCups wsX1_inHand := goodIn_r _ [5, 6, 7, 8, 9, 4, 10, 11, 12, 13, 14, 15, 29, 30, 31, 32, 33, 34, 35, 36, 37, 38] (by decide +kernel) (by decide +kernel)
set_option maxRecDepth 20000 in
theorem gX1_takeCups_X1_inHand : GoodIn wsX1_takeCups (wsV RX1 78 RX1 yX1_inHand wsX1_inHand) := goodIn_app (goodIn_of _ (by decide +kernel)) ggX1_takeCups_X1_inHand
set_option maxRecDepth 20000 in
theorem ggX1_takeCups_X1_dropInHand : GoodIn wsX1_takeCups wsX1_dropInHand := goodIn_r _ [19, 6, 20, 21, 22, 23, 11, 12, 24, 13, 14, 15, 29, 30, 31, 32, 33, 34, 35, 36, 37, 38] (by decide +kernel) (by decide +kernel)
set_option maxRecDepth 20000 in
theorem gX1_takeCups_X1_dropInHand : GoodIn wsX1_takeCups (wsV RX1 85 RX1 yX1_dropInHand wsX1_dropInHand) := goodIn_app (goodIn_of _ (by decide +kernel)) ggX1_takeCups_X1_dropInHand
set_option maxRecDepth 20000 in
theorem ggX1_dropInHand_X3_isOneOf : GoodIn wsX1_dropInHand wsX3_isOneOf := goodIn_r _ [11] (by decide +kernel) (by decide +kernel)
set_option maxRecDepth 20000 in
theorem gX1_dropInHand_X3_isOneOf_n59 : GoodIn wsX1_dropInHand (wsX3_isOneOf) := ggX1_dropInHand_X3_isOneOf
set_option maxRecDepth 20000 in
theorem ggX1_costOf_X3_at : GoodIn wsX1_costOf wsX3_at := goodIn_r _ [4] (by decide +kernel) (by decide +kernel)
set_option maxRecDepth 20000 in
theorem gX1_costOf_X3_at_n94 : GoodIn wsX1_costOf (wsX3_at) := ggX1_costOf_X3_at
set_option maxRecDepth 20000 in
theorem ggX1_setCost_X3_isOneOf : GoodIn wsX1_setCost wsX3_isOneOf := goodIn_r _ [4] (by decide +kernel) (by decide +kernel)
set_option maxRecDepth 20000 in
theorem gX1_setCost_X3_isOneOf_n59 : GoodIn wsX1_setCost (wsX3_isOneOf) := ggX1_setCost_X3_isOneOf
set_option maxRecDepth 20000 in
theorem ggX1_addPerson_X3_isOneOf : GoodIn wsX1_addPerson wsX3_isOneOf := goodIn_r _ [5] (by decide +kernel) (by decide +kernel)
set_option maxRecDepth 20000 in
theorem gX1_addPerson_X3_isOneOf_n59 : GoodIn wsX1_addPerson (wsX3_isOneOf) := ggX1_addPerson_X3_isOneOf
set_option maxRecDepth 20000 in
theorem ggX1_allCups_X1_jugAt : GoodIn wsX1_allCups wsX1_jugAt := goodIn_r _ [6, 1, 7, 8, 9, 10, 11, 12, 13, 14, 15, 16, 17, 18, 19, 20] (by decide +kernel) (by decide +kernel)
set_option maxRecDepth 20000 in
theorem gX1_allCups_X1_jugAt : GoodIn wsX1_allCups (wsV RX1 47 RX1 yX1_jugAt wsX1_jugAt) := goodIn_app (goodIn_of _ (by decide +kernel)) ggX1_allCups_X1_jugAt
set_option maxRecDepth 20000 in
theorem ggX1_allPoints_X1_jugAt : GoodIn wsX1_allPoints wsX1_jugAt := goodIn_r _ [6, 1, 7, 8, 9, 10, 11, 12, 13, 14, 15, 16, 17, 18, 19, 20] (by decide +kernel) (by decide +kernel)
set_option maxRecDepth 20000 in
theorem gX1_allPoints_X1_jugAt : GoodIn wsX1_allPoints (wsV RX1 47 RX1 yX1_jugAt wsX1_jugAt) := goodIn_app (goodIn_of _ (by decide +kernel)) ggX1_allPoints_X1_jugAt
set_option maxRecDepth 20000 in
theorem ggX1_netOf_X3_at : GoodIn wsX1_netOf wsX3_at := goodIn_r _ [4] (by decide +kernel) (by decide +kernel)
set_option maxRecDepth 20000 in
theorem gX1_netOf_X3_at_n94 : GoodIn wsX1_netOf (wsX3_at) := ggX1_netOf_X3_at
set_option maxRecDepth 20000 in
theorem ggX1_netSum_X1_netOf : GoodIn wsX1_netSum wsX1_netOf := goodIn_r _ [5, 6, 7, 8, 9, 19, 20, 21, 22, 23, 24, 25, 26, 27, 28] (by decide +kernel) (by decide +kernel)
set_option maxRecDepth 20000 in
theorem gX1_netSum_X1_netOf : GoodIn wsX1_netSum (wsV RX1 110 RX1 yX1_netOf wsX1_netOf) := goodIn_app (goodIn_of _ (by decide +kernel)) ggX1_netSum_X1_netOf
set_option maxRecDepth 20000 in
theorem ggX1_netSum_X2_sumOf : GoodIn wsX1_netSum wsX2_sumOf := goodIn_r _ [13, 14, 15, 16, 17, 18, 29] (by decide +kernel) (by decide +kernel)
set_option maxRecDepth 20000 in
theorem gX1_netSum_X2_sumOf_n114 : GoodIn wsX1_netSum (wsX2_sumOf) := ggX1_netSum_X2_sumOf
set_option maxRecDepth 20000 in
theorem ggX1_bestUse_X1_netSum : GoodIn wsX1_bestUse wsX1_netSum := goodIn_r _ [5, 6, 7, 8, 4, 9, 10, 11, 12, 13, 14, 15, 16, 17, 18, 19, 20, 21, 22, 23, 24, 25, 26, 27, 28, 29, 30, 31, 32, 33] (by decide +kernel) (by decide +kernel)
set_option maxRecDepth 20000 in
theorem gX1_bestUse_X1_netSum : GoodIn wsX1_bestUse (wsV RX1 120 RX1 yX1_netSum wsX1_netSum) := goodIn_app (goodIn_of _ (by decide +kernel)) ggX1_bestUse_X1_netSum
set_option maxRecDepth 20000 in
theorem ggX1_bestSum_X1_netSum : GoodIn wsX1_bestSum wsX1_netSum := goodIn_r _ [9, 10, 11, 12, 8, 13, 14, 15, 16, 17, 18, 19, 20, 21, 22, 23, 3, 24, 25, 26, 27, 28, 29, 30, 31, 32, 33, 34, 35, 36] (by decide +kernel) (by decide +kernel)
set_option maxRecDepth 20000 in
theorem gX1_bestSum_X1_netSum : GoodIn wsX1_bestSum (wsV RX1 120 RX1 yX1_netSum wsX1_netSum) := goodIn_app (goodIn_of _ (by decide +kernel)) ggX1_bestSum_X1_netSum
set_option maxRecDepth 20000 in
theorem ggX2_weigh_X0_weightOf : GoodIn wsX2_weigh wsX0_weightOf := goodIn_r _ [5, 6, 7, 8, 9, 10, 11, 12, 13, 14, 15, 16, 3, 17, 18, 19, 20, 21, 23, 24, 25, 26] (by decide +kernel) (by decide +kernel)
set_option maxRecDepth 20000 in
theorem gX2_weigh_X0_weightOf_n15 : GoodIn wsX2_weigh (wsX0_weightOf) := ggX2_weigh_X0_weightOf
set_option maxRecDepth 20000 in
theorem ggX2_narrow_X0_offTenths : GoodIn wsX2_narrow wsX0_offTenths := goodIn_r _ [5, 6, 7, 8, 9, 10, 11, 12, 13, 14, 15, 16, 17, 18, 26, 27, 28, 29] (by decide +kernel) (by decide +kernel)
set_option maxRecDepth 20000 in
theorem gX2_narrow_X0_offTenths_n21 : GoodIn wsX2_narrow (wsX0_offTenths) := ggX2_narrow_X0_offTenths
set_option maxRecDepth 20000 in
theorem ggX2_narrow_X2_sumOf : GoodIn wsX2_narrow wsX2_sumOf := goodIn_r _ [23, 24, 17, 14, 18, 1, 25] (by decide +kernel) (by decide +kernel)
set_option maxRecDepth 20000 in
theorem gX2_narrow_X2_sumOf : GoodIn wsX2_narrow (wsV RX2 25 RX2 yX2_sumOf wsX2_sumOf) := goodIn_app (goodIn_of _ (by decide +kernel)) ggX2_narrow_X2_sumOf
set_option maxRecDepth 20000 in
theorem ggX2_times_X3_isOneOf : GoodIn wsX2_times wsX3_isOneOf := goodIn_r _ [4] (by decide +kernel) (by decide +kernel)
set_option maxRecDepth 20000 in
theorem gX2_times_X3_isOneOf_n29 : GoodIn wsX2_times (wsX3_isOneOf) := ggX2_times_X3_isOneOf
set_option maxRecDepth 20000 in
theorem ggX2_worseOf_X2_sumOf : GoodIn wsX2_worseOf wsX2_sumOf := goodIn_r _ [6, 7, 8, 9, 10, 1, 11] (by decide +kernel) (by decide +kernel)
set_option maxRecDepth 20000 in
theorem gX2_worseOf_X2_sumOf : GoodIn wsX2_worseOf (wsV RX2 25 RX2 yX2_sumOf wsX2_sumOf) := goodIn_app (goodIn_of _ (by decide +kernel)) ggX2_worseOf_X2_sumOf
set_option maxRecDepth 20000 in
theorem ggX2_sumOfAll_X2_sumOf : GoodIn wsX2_sumOfAll wsX2_sumOf := goodIn_r _ [5, 6, 7, 8, 9, 10, 11] (by decide +kernel) (by decide +kernel)
set_option maxRecDepth 20000 in
theorem gX2_sumOfAll_X2_sumOf : GoodIn wsX2_sumOfAll (wsV RX2 25 RX2 yX2_sumOf wsX2_sumOf) := goodIn_app (goodIn_of _ (by decide +kernel)) ggX2_sumOfAll_X2_sumOf
set_option maxRecDepth 20000 in
theorem ggX3_init_X1_init : GoodIn wsX3_init wsX1_init := goodIn_r _ [29, 30, 2, 3, 31, 32, 18, 19, 33, 34, 11, 35, 36, 37, 38, 39, 40, 41, 42, 43, 44, 45, 46, 47, 48, 54, 55, 56, 57, 58, 59, 60, 61, 62, 63, 78, 79, 80, 81] (by decide +kernel) (by decide +kernel)
set_option maxRecDepth 20000 in
theorem gX3_init_X1_init_n11 : GoodIn wsX3_init (wsX1_init) := ggX3_init_X1_init
set_option maxRecDepth 20000 in
theorem ggX3_init_X0_init : GoodIn wsX3_init wsX0_init := goodIn_r _ [43, 44, 2, 3, 45, 46, 47, 48, 78, 79, 80, 81] (by decide +kernel) (by decide +kernel)
set_option maxRecDepth 20000 in
theorem gX3_init_X0_init_n45 : GoodIn wsX3_init (wsX0_init) := ggX3_init_X0_init
set_option maxRecDepth 20000 in
theorem ggX3_init_X2_init : GoodIn wsX3_init wsX2_init := goodIn_r _ [50, 51, 2, 3, 52, 53, 82] (by decide +kernel) (by decide +kernel)
set_option maxRecDepth 20000 in
theorem gX3_init_X2_init_n55 : GoodIn wsX3_init (wsX2_init) := ggX3_init_X2_init
set_option maxRecDepth 20000 in
theorem ggX3_feed_X3_refusalOutside : GoodIn wsX3_feed wsX3_refusalOutside := goodIn_r _ [6] (by decide +kernel) (by decide +kernel)
set_option maxRecDepth 20000 in
theorem gX3_feed_X3_refusalOutside : GoodIn wsX3_feed (va_wsS RX3 66 yX3_refusalOutside wsX3_refusalOutside) := goodIn_app (goodIn_of _ (by decide +kernel)) ggX3_feed_X3_refusalOutside
set_option maxRecDepth 20000 in
theorem ggX3_feed_X3_isOneOf : GoodIn wsX3_feed wsX3_isOneOf := goodIn_r _ [9] (by decide +kernel) (by decide +kernel)
set_option maxRecDepth 20000 in
theorem gX3_feed_X3_isOneOf : GoodIn wsX3_feed (va_wsS RX3 70 yX3_isOneOf wsX3_isOneOf) := goodIn_app (goodIn_of _ (by decide +kernel)) ggX3_feed_X3_isOneOf
set_option maxRecDepth 20000 in
theorem ggX3_feed_X3_refuse : GoodIn wsX3_feed wsX3_refuse := goodIn_r _ [13, 14, 15, 16, 17, 18, 19, 20, 21, 22, 23, 24, 25, 26, 27, 28] (by decide +kernel) (by decide +kernel)
set_option maxRecDepth 20000 in
theorem gX3_feed_X3_refuse : GoodIn wsX3_feed (wsV RX3 74 RX3 yX3_refuse wsX3_refuse) := goodIn_app (goodIn_of _ (by decide +kernel)) ggX3_feed_X3_refuse
set_option maxRecDepth 20000 in
theorem ggX3_kitchen_X3_firstBadLetter : GoodIn wsX3_kitchen wsX3_firstBadLetter := goodIn_r _ [12, 13, 14, 15, 11, 16, 17, 18, 19, 20, 21, 22, 23, 24, 25, 26, 116, 117, 118, 119, 120, 121, 122, 123, 124, 125, 126, 127, 128, 129] (by decide +kernel) (by decide +kernel)
set_option maxRecDepth 20000 in
theorem gX3_kitchen_X3_firstBadLetter : GoodIn wsX3_kitchen (wsV RX3 78 RX3 yX3_firstBadLetter wsX3_firstBadLetter) := goodIn_app (goodIn_of _ (by decide +kernel)) ggX3_kitchen_X3_firstBadLetter
set_option maxRecDepth 20000 in
theorem ggX3_kitchen_X1_copyFrom : GoodIn wsX3_kitchen wsX1_copyFrom := goodIn_r _ [30, 31, 32, 33, 34, 35, 36, 37, 38, 39, 40, 41, 42, 43, 28, 44, 45, 11, 46, 47, 48, 49, 50, 51, 52, 53, 54, 55, 56, 57, 58, 59, 60, 61, 130, 131, 132, 133, 134, 135, 136, 137, 138, 139, 140, 141, 142, 143] (by decide +kernel) (by decide +kernel)
set_option maxRecDepth 20000 in
theorem gX3_kitchen_X1_copyFrom_n81 : GoodIn wsX3_kitchen (wsX1_copyFrom) := ggX3_kitchen_X1_copyFrom
set_option maxRecDepth 20000 in
theorem ggX3_kitchen_X3_statementComes : GoodIn wsX3_kitchen wsX3_statementComes := goodIn_r _ [65, 2, 66, 67, 68, 11, 69, 13, 14, 15, 16, 17, 18, 19, 20, 70, 71, 72, 73, 74, 28, 75, 76, 36, 31, 45, 46, 56, 48, 57, 58, 51, 52, 53, 54, 77, 78, 79, 41, 42, 43, 44, 80, 81, 82, 83, 84, 85, 86, 87, 6, 88, 89, 90, 91, 92, 93, 94, 95, 96, 97, 34, 98, 99, 100, 37, 38, 101, 102, 103, 32, 33, 104, 105, 106, 107, 108, 109, 110, 111, 112, 113, 114, 115, 5, 7, 116, 117, 118, 119, 120, 121, 122, 123, 124, 125, 126, 127, 128, 129, 130, 131, 132, 133, 134, 135, 136, 137, 138, 139, 140, 141, 142, 143] (by decide +kernel) (by decide +kernel)
set_option maxRecDepth 20000 in
theorem gX3_kitchen_X3_statementComes : GoodIn wsX3_kitchen (wsV RX3 85 RX3 yX3_statementComes wsX3_statementComes) := goodIn_app (goodIn_of _ (by decide +kernel)) ggX3_kitchen_X3_statementComes
set_option maxRecDepth 20000 in
theorem ggX3_kitchen_X3_letterAt : GoodIn wsX3_kitchen wsX3_letterAt := goodIn_r _ [16, 17, 18, 19, 11, 20, 116, 117, 118, 119, 120, 121, 122, 123, 124, 125, 126, 127, 128, 129] (by decide +kernel) (by decide +kernel)
set_option maxRecDepth 20000 in
theorem gX3_kitchen_X3_letterAt : GoodIn wsX3_kitchen (wsV RX3 89 RX3 yX3_letterAt wsX3_letterAt) := goodIn_app (goodIn_of _ (by decide +kernel)) ggX3_kitchen_X3_letterAt
set_option maxRecDepth 20000 in
theorem ggX3_kitchen_X3_digitsOf : GoodIn wsX3_kitchen wsX3_digitsOf := goodIn_r _ [23] (by decide +kernel) (by decide +kernel)
set_option maxRecDepth 20000 in
theorem gX3_kitchen_X3_digitsOf : GoodIn wsX3_kitchen (va_wsS RX3 92 yX3_digitsOf wsX3_digitsOf) := goodIn_app (goodIn_of _ (by decide +kernel)) ggX3_kitchen_X3_digitsOf
set_option maxRecDepth 20000 in
theorem ggX3_firstBadLetter_X3_letterAt : GoodIn wsX3_firstBadLetter wsX3_letterAt := goodIn_r _ [5, 6, 7, 8, 4, 9, 16, 17, 18, 19, 20, 21, 22, 23, 24, 25, 26, 27, 28, 29] (by decide +kernel) (by decide +kernel)
set_option maxRecDepth 20000 in
theorem gX3_firstBadLetter_X3_letterAt : GoodIn wsX3_firstBadLetter (wsV RX3 89 RX3 yX3_letterAt wsX3_letterAt) := goodIn_app (goodIn_of _ (by decide +kernel)) ggX3_firstBadLetter_X3_letterAt
set_option maxRecDepth 20000 in
theorem ggX3_firstBadLetter_X3_digitsOf : GoodIn wsX3_firstBadLetter wsX3_digitsOf := goodIn_r _ [12] (by decide +kernel) (by decide +kernel)
set_option maxRecDepth 20000 in
theorem gX3_firstBadLetter_X3_digitsOf : GoodIn wsX3_firstBadLetter (va_wsS RX3 92 yX3_digitsOf wsX3_digitsOf) := goodIn_app (goodIn_of _ (by decide +kernel)) ggX3_firstBadLetter_X3_digitsOf
set_option maxRecDepth 20000 in
theorem ggX3_firstBadLetter_X3_isDigit : GoodIn wsX3_firstBadLetter wsX3_isDigit := goodIn_r _ [15] (by decide +kernel) (by decide +kernel)
set_option maxRecDepth 20000 in
theorem gX3_firstBadLetter_X3_isDigit : GoodIn wsX3_firstBadLetter (va_wsS RX3 101 yX3_isDigit wsX3_isDigit) := goodIn_app (goodIn_of _ (by decide +kernel)) ggX3_firstBadLetter_X3_isDigit
set_option maxRecDepth 20000 in
theorem ggX3_statementComes_X3_digitAt : GoodIn wsX3_statementComes wsX3_digitAt := goodIn_r _ [6, 7, 8, 9, 5, 10, 11, 12, 13, 14, 86, 87, 88, 89, 90, 91, 92, 93, 94, 95, 96, 97, 98, 99] (by decide +kernel) (by decide +kernel)
set_option maxRecDepth 20000 in
theorem gX3_statementComes_X3_digitAt : GoodIn wsX3_statementComes (wsV RX3 104 RX3 yX3_digitAt wsX3_digitAt) := goodIn_app (goodIn_of _ (by decide +kernel)) ggX3_statementComes_X3_digitAt
set_option maxRecDepth 20000 in
theorem ggX3_statementComes_X3_letterAt : GoodIn wsX3_statementComes wsX3_letterAt := goodIn_r _ [10, 11, 12, 13, 5, 14, 86, 87, 88, 89, 90, 91, 92, 93, 94, 95, 96, 97, 98, 99] (by decide +kernel) (by decide +kernel)
set_option maxRecDepth 20000 in
theorem gX3_statementComes_X3_letterAt : GoodIn wsX3_statementComes (wsV RX3 89 RX3 yX3_letterAt wsX3_letterAt) := goodIn_app (goodIn_of _ (by decide +kernel)) ggX3_statementComes_X3_letterAt
set_option maxRecDepth 20000 in
theorem ggX3_statementComes_X3_twoDigitsAt : GoodIn wsX3_statementComes wsX3_twoDigitsAt := goodIn_r _ [18, 2, 3, 4, 5, 6, 7, 8, 9, 10, 11, 12, 13, 14, 86, 87, 88, 89, 90, 91, 92, 93, 94, 95, 96, 97, 98, 99] (by decide +kernel) (by decide +kernel)
set_option maxRecDepth 20000 in
theorem gX3_statementComes_X3_twoDigitsAt : GoodIn wsX3_statementComes (wsV RX3 107 RX3 yX3_twoDigitsAt wsX3_twoDigitsAt) := goodIn_app (goodIn_of _ (by decide +kernel)) ggX3_statementComes_X3_twoDigitsAt
set_option maxRecDepth 20000 in
theorem ggX3_statementComes_X1_addJug : GoodIn wsX3_statementComes wsX1_addJug := goodIn_r _ [22, 23, 24, 25, 5, 26, 27, 28, 29, 30, 31, 32, 33, 34, 100, 101, 102, 103, 104, 105, 106, 107, 108, 109, 110, 111, 112, 113] (by decide +kernel) (by decide +kernel)
set_option maxRecDepth 20000 in
theorem gX3_statementComes_X1_addJug_n110 : GoodIn wsX3_statementComes (wsX1_addJug) := ggX3_statementComes_X1_addJug
set_option maxRecDepth 20000 in
theorem ggX3_statementComes_X1_standInCold : GoodIn wsX3_statementComes wsX1_standInCold := goodIn_r _ [37, 23, 38, 39, 40, 20, 41, 24, 25, 5, 26, 42, 28, 43, 44, 31, 45, 46, 47, 34, 48, 49, 50, 51, 100, 101, 102, 103, 104, 105, 106, 107, 108, 109, 110, 111, 112, 113] (by decide +kernel) (by decide +kernel)
set_option maxRecDepth 20000 in
theorem gX3_statementComes_X1_standInCold_n114 : GoodIn wsX3_statementComes (wsX1_standInCold) := ggX3_statementComes_X1_standInCold
set_option maxRecDepth 20000 in
theorem ggX3_statementComes_X1_standInWarm : GoodIn wsX3_statementComes wsX1_standInWarm := goodIn_r _ [54, 38, 39, 40, 20, 41, 23, 24, 25, 5, 26, 55, 28, 56, 57, 31, 32, 45, 46, 47, 34, 48, 49, 50, 51, 100, 101, 102, 103, 104, 105, 106, 107, 108, 109, 110, 111, 112, 113] (by decide +kernel) (by decide +kernel)
set_option maxRecDepth 20000 in
theorem gX3_statementComes_X1_standInWarm_n118 : GoodIn wsX3_statementComes (wsX1_standInWarm) := ggX3_statementComes_X1_standInWarm
set_option maxRecDepth 20000 in
theorem ggX3_statementComes_X1_setCost : GoodIn wsX3_statementComes wsX1_setCost := goodIn_r _ [60, 61, 25, 5, 26, 100, 101, 102, 103, 104, 105, 106, 107, 108, 109] (by decide +kernel) (by decide +kernel)
set_option maxRecDepth 20000 in
theorem gX3_statementComes_X1_setCost_n121 : GoodIn wsX3_statementComes (wsX1_setCost) := ggX3_statementComes_X1_setCost
set_option maxRecDepth 20000 in
theorem ggX3_statementComes_X1_takeInHand : GoodIn wsX3_statementComes wsX1_takeInHand := goodIn_r _ [64, 65, 66, 38, 39, 40, 20, 41, 23, 24, 25, 5, 26, 100, 101, 102, 103, 104, 105, 106, 107, 108, 109] (by decide +kernel) (by decide +kernel)
set_option maxRecDepth 20000 in
theorem gX3_statementComes_X1_takeInHand_n127 : GoodIn wsX3_statementComes (wsX1_takeInHand) := ggX3_statementComes_X1_takeInHand
set_option maxRecDepth 20000 in
theorem ggX3_statementComes_X1_addSeen : GoodIn wsX3_statementComes wsX1_addSeen := goodIn_r _ [69, 66, 70, 71, 72, 73, 74, 20, 75, 65, 38, 39, 40, 41, 23, 24, 25, 5, 26, 100, 101, 102, 103, 104, 105, 106, 107, 108, 109] (by decide +kernel) (by decide +kernel)
set_option maxRecDepth 20000 in
theorem gX3_statementComes_X1_addSeen_n130 : GoodIn wsX3_statementComes (wsX1_addSeen) := ggX3_statementComes_X1_addSeen
set_option maxRecDepth 20000 in
theorem ggX3_statementComes_X1_takeCups : GoodIn wsX3_statementComes wsX1_takeCups := goodIn_r _ [78, 72, 73, 74, 20, 75, 65, 38, 39, 40, 41, 23, 24, 25, 5, 26, 79, 80, 81, 82, 83, 84, 50, 85, 66, 110, 111, 112, 113, 100, 101, 102, 103, 104, 105, 106, 107, 108, 109] (by decide +kernel) (by decide +kernel)
set_option maxRecDepth 20000 in
theorem gX3_statementComes_X1_takeCups_n133 : GoodIn wsX3_statementComes (wsX1_takeCups) := ggX3_statementComes_X1_takeCups
set_option maxRecDepth 20000 in
theorem ggX3_letterAt_X3_at : GoodIn wsX3_letterAt wsX3_at := goodIn_r _ [5] (by decide +kernel) (by decide +kernel)
set_option maxRecDepth 20000 in
theorem gX3_letterAt_X3_at : GoodIn wsX3_letterAt (va_wsS RX3 136 yX3_at wsX3_at) := goodIn_app (goodIn_of _ (by decide +kernel)) ggX3_letterAt_X3_at
set_option maxRecDepth 20000 in
theorem ggX3_digitAt_X3_letterAt : GoodIn wsX3_digitAt wsX3_letterAt := goodIn_r _ [5, 6, 7, 8, 4, 9, 10, 11, 12, 13, 14, 15, 16, 17, 18, 19, 20, 21, 22, 23] (by decide +kernel) (by decide +kernel)
set_option maxRecDepth 20000 in
theorem gX3_digitAt_X3_letterAt : GoodIn wsX3_digitAt (wsV RX3 89 RX3 yX3_letterAt wsX3_letterAt) := goodIn_app (goodIn_of _ (by decide +kernel)) ggX3_digitAt_X3_letterAt
set_option maxRecDepth 20000 in
theorem ggX3_twoDigitsAt_X3_digitAt : GoodIn wsX3_twoDigitsAt wsX3_digitAt := goodIn_r _ [5, 6, 7, 8, 4, 9, 10, 11, 12, 13, 14, 15, 16, 17, 18, 19, 20, 21, 22, 23, 24, 25, 26, 27] (by decide +kernel) (by decide +kernel)
set_option maxRecDepth 20000 in
theorem gX3_twoDigitsAt_X3_digitAt : GoodIn wsX3_twoDigitsAt (wsV RX3 104 RX3 yX3_digitAt wsX3_digitAt) := goodIn_app (goodIn_of _ (by decide +kernel)) ggX3_twoDigitsAt_X3_digitAt
set_option maxRecDepth 20000 in
theorem ggX3_jug_X1_jugAt : GoodIn wsX3_jug wsX1_jugAt := goodIn_r _ [5, 6, 7, 8, 9, 10, 51, 52, 53, 54, 55, 56, 57, 58, 59, 60] (by decide +kernel) (by decide +kernel)
set_option maxRecDepth 20000 in
theorem gX3_jug_X1_jugAt_n140 : GoodIn wsX3_jug (wsX1_jugAt) := ggX3_jug_X1_jugAt
set_option maxRecDepth 20000 in
theorem ggX3_jug_X3_refuse : GoodIn wsX3_jug wsX3_refuse := goodIn_r _ [14, 15, 33, 34, 35, 36, 37, 38, 39, 40, 41, 42, 43, 44, 45, 46] (by decide +kernel) (by decide +kernel)
set_option maxRecDepth 20000 in
theorem gX3_jug_X3_refuse : GoodIn wsX3_jug (wsV RX3 74 RX3 yX3_refuse wsX3_refuse) := goodIn_app (goodIn_of _ (by decide +kernel)) ggX3_jug_X3_refuse
set_option maxRecDepth 20000 in
theorem ggX3_jug_X0_trueStage : GoodIn wsX3_jug wsX0_trueStage := goodIn_r _ [19, 20, 21, 22, 23, 24, 47, 48, 49, 50] (by decide +kernel) (by decide +kernel)
set_option maxRecDepth 20000 in
theorem gX3_jug_X0_trueStage_n156 : GoodIn wsX3_jug (wsX0_trueStage) := ggX3_jug_X0_trueStage
set_option maxRecDepth 20000 in
theorem ggX3_jug_X0_coldPoints : GoodIn wsX3_jug wsX0_coldPoints := goodIn_r _ [27, 28, 47, 48, 49, 50] (by decide +kernel) (by decide +kernel)
set_option maxRecDepth 20000 in
theorem gX3_jug_X0_coldPoints_n160 : GoodIn wsX3_jug (wsX0_coldPoints) := ggX3_jug_X0_coldPoints
set_option maxRecDepth 20000 in
theorem ggX3_jug_X0_warmPoints : GoodIn wsX3_jug wsX0_warmPoints := goodIn_r _ [31, 28, 32, 47, 48, 49, 50] (by decide +kernel) (by decide +kernel)
set_option maxRecDepth 20000 in
theorem gX3_jug_X0_warmPoints_n163 : GoodIn wsX3_jug (wsX0_warmPoints) := ggX3_jug_X0_warmPoints
set_option maxRecDepth 20000 in
theorem ggX3_cold_X3_refusalOutside : GoodIn wsX3_cold wsX3_refusalOutside := goodIn_r _ [5] (by decide +kernel) (by decide +kernel)
set_option maxRecDepth 20000 in
theorem gX3_cold_X3_refusalOutside : GoodIn wsX3_cold (va_wsS RX3 66 yX3_refusalOutside wsX3_refusalOutside) := goodIn_app (goodIn_of _ (by decide +kernel)) ggX3_cold_X3_refusalOutside
set_option maxRecDepth 20000 in
theorem ggX3_cold_X3_refuse : GoodIn wsX3_cold wsX3_refuse := goodIn_r _ [9, 10, 39, 40, 41, 42, 43, 44, 45, 46, 47, 48, 49, 50, 51, 52] (by decide +kernel) (by decide +kernel)
set_option maxRecDepth 20000 in
theorem gX3_cold_X3_refuse : GoodIn wsX3_cold (wsV RX3 74 RX3 yX3_refuse wsX3_refuse) := goodIn_app (goodIn_of _ (by decide +kernel)) ggX3_cold_X3_refuse
set_option maxRecDepth 20000 in
theorem ggX3_cold_X1_standInCold : GoodIn wsX3_cold wsX1_standInCold := goodIn_r _ [14, 15, 16, 17, 18, 12, 19, 20, 21, 4, 22, 23, 24, 25, 26, 27, 28, 29, 30, 31, 32, 33, 34, 35, 53, 54, 55, 56, 57, 58, 59, 60, 61, 62, 63, 64, 65, 66] (by decide +kernel) (by decide +kernel)
set_option maxRecDepth 20000 in
theorem gX3_cold_X1_standInCold_n114 : GoodIn wsX3_cold (wsX1_standInCold) := ggX3_cold_X1_standInCold
set_option maxRecDepth 20000 in
theorem ggX3_cold_X1_allPoints : GoodIn wsX3_cold wsX1_allPoints := goodIn_r _ [38, 15, 16, 17, 18, 12, 19, 20, 21, 4, 22, 53, 54, 55, 56, 57, 58, 59, 60, 61, 62, 63, 64, 65, 66] (by decide +kernel) (by decide +kernel)
set_option maxRecDepth 20000 in
theorem gX3_cold_X1_allPoints_n166 : GoodIn wsX3_cold (wsX1_allPoints) := ggX3_cold_X1_allPoints
set_option maxRecDepth 20000 in
theorem ggX3_warm_X1_jugAt : GoodIn wsX3_warm wsX1_jugAt := goodIn_r _ [5, 6, 7, 8, 9, 10, 51, 52, 53, 54, 55, 56, 57, 58, 59, 60] (by decide +kernel) (by decide +kernel)
set_option maxRecDepth 20000 in
theorem gX3_warm_X1_jugAt_n140 : GoodIn wsX3_warm (wsX1_jugAt) := ggX3_warm_X1_jugAt
set_option maxRecDepth 20000 in
theorem ggX3_warm_X3_refusalOutside : GoodIn wsX3_warm wsX3_refusalOutside := goodIn_r _ [13] (by decide +kernel) (by decide +kernel)
set_option maxRecDepth 20000 in
theorem gX3_warm_X3_refusalOutside : GoodIn wsX3_warm (va_wsS RX3 66 yX3_refusalOutside wsX3_refusalOutside) := goodIn_app (goodIn_of _ (by decide +kernel)) ggX3_warm_X3_refusalOutside
set_option maxRecDepth 20000 in
theorem ggX3_warm_X3_refuse : GoodIn wsX3_warm wsX3_refuse := goodIn_r _ [17, 18, 33, 34, 35, 36, 37, 38, 39, 40, 41, 42, 43, 44, 45, 46] (by decide +kernel) (by decide +kernel)
set_option maxRecDepth 20000 in
theorem gX3_warm_X3_refuse : GoodIn wsX3_warm (wsV RX3 74 RX3 yX3_refuse wsX3_refuse) := goodIn_app (goodIn_of _ (by decide +kernel)) ggX3_warm_X3_refuse
set_option maxRecDepth 20000 in
theorem ggX3_warm_X0_warmPoints : GoodIn wsX3_warm wsX0_warmPoints := goodIn_r _ [22, 23, 24, 47, 48, 49, 50] (by decide +kernel) (by decide +kernel)
set_option maxRecDepth 20000 in
theorem gX3_warm_X0_warmPoints_n163 : GoodIn wsX3_warm (wsX0_warmPoints) := ggX3_warm_X0_warmPoints
set_option maxRecDepth 20000 in
theorem ggX3_warm_X0_gain : GoodIn wsX3_warm wsX0_gain := goodIn_r _ [27, 28, 29, 30, 31, 32, 47, 48, 49, 50] (by decide +kernel) (by decide +kernel)
set_option maxRecDepth 20000 in
theorem gX3_warm_X0_gain_n169 : GoodIn wsX3_warm (wsX0_gain) := ggX3_warm_X0_gain
set_option maxRecDepth 20000 in
theorem ggX3_hand_X1_takeInHand : GoodIn wsX3_hand wsX1_takeInHand := goodIn_r _ [5, 6, 7, 8, 9, 10, 3, 11, 12, 13, 14, 15, 16, 36, 37, 38, 39, 40, 41, 42, 43, 44, 45] (by decide +kernel) (by decide +kernel)
set_option maxRecDepth 20000 in
theorem gX3_hand_X1_takeInHand_n127 : GoodIn wsX3_hand (wsX1_takeInHand) := ggX3_hand_X1_takeInHand
set_option maxRecDepth 20000 in
theorem ggX3_hand_X3_refuse : GoodIn wsX3_hand wsX3_refuse := goodIn_r _ [20, 21, 22, 23, 24, 25, 26, 27, 28, 29, 30, 31, 32, 33, 34, 35] (by decide +kernel) (by decide +kernel)
set_option maxRecDepth 20000 in
theorem gX3_hand_X3_refuse : GoodIn wsX3_hand (wsV RX3 74 RX3 yX3_refuse wsX3_refuse) := goodIn_app (goodIn_of _ (by decide +kernel)) ggX3_hand_X3_refuse
set_option maxRecDepth 20000 in
theorem ggX3_see_X3_isOneOf : GoodIn wsX3_see wsX3_isOneOf := goodIn_r _ [5] (by decide +kernel) (by decide +kernel)
set_option maxRecDepth 20000 in
theorem gX3_see_X3_isOneOf : GoodIn wsX3_see (va_wsS RX3 70 yX3_isOneOf wsX3_isOneOf) := goodIn_app (goodIn_of _ (by decide +kernel)) ggX3_see_X3_isOneOf
set_option maxRecDepth 20000 in
theorem ggX3_see_X3_refusalInHand : GoodIn wsX3_see wsX3_refusalInHand := goodIn_r _ [9, 1, 10, 11, 12, 13, 14, 15, 16, 17, 18, 19, 20, 3, 4, 5, 33, 34, 35, 36, 37, 38, 39, 40, 41, 42, 43, 44, 45, 46, 47, 48, 49, 50, 51, 52, 53, 54, 55, 56] (by decide +kernel) (by decide +kernel)
set_option maxRecDepth 20000 in
theorem gX3_see_X3_refusalInHand : GoodIn wsX3_see (wsV RX3 175 RX3 yX3_refusalInHand wsX3_refusalInHand) := goodIn_app (goodIn_of _ (by decide +kernel)) ggX3_see_X3_refusalInHand
set_option maxRecDepth 20000 in
theorem ggX3_see_X3_refuse : GoodIn wsX3_see wsX3_refuse := goodIn_r _ [24, 25, 33, 34, 35, 36, 37, 38, 39, 40, 41, 42, 43, 44, 45, 46] (by decide +kernel) (by decide +kernel)
set_option maxRecDepth 20000 in
theorem gX3_see_X3_refuse : GoodIn wsX3_see (wsV RX3 74 RX3 yX3_refuse wsX3_refuse) := goodIn_app (goodIn_of _ (by decide +kernel)) ggX3_see_X3_refuse
set_option maxRecDepth 20000 in
theorem ggX3_see_X1_addSeen : GoodIn wsX3_see wsX1_addSeen := goodIn_r _ [28, 29, 30, 31, 32, 10, 12, 11, 13, 14, 15, 16, 17, 18, 19, 20, 3, 4, 5, 47, 48, 49, 50, 51, 52, 53, 54, 55, 56] (by decide +kernel) (by decide +kernel)
set_option maxRecDepth 20000 in
theorem gX3_see_X1_addSeen_n130 : GoodIn wsX3_see (wsX1_addSeen) := ggX3_see_X1_addSeen
set_option maxRecDepth 20000 in
theorem ggX3_unsee_X3_refuse : GoodIn wsX3_unsee wsX3_refuse := goodIn_r _ [6, 7, 8, 9, 10, 11, 12, 13, 14, 15, 16, 17, 18, 19, 20, 21] (by decide +kernel) (by decide +kernel)
set_option maxRecDepth 20000 in
theorem gX3_unsee_X3_refuse : GoodIn wsX3_unsee (wsV RX3 74 RX3 yX3_refuse wsX3_refuse) := goodIn_app (goodIn_of _ (by decide +kernel)) ggX3_unsee_X3_refuse
set_option maxRecDepth 20000 in
theorem ggX3_use_X1_inHand : GoodIn wsX3_use wsX1_inHand := goodIn_r _ [5, 6, 7, 8, 9, 3, 10, 11, 12, 13, 14, 15, 52, 53, 54, 55, 56, 57, 58, 59, 60, 61] (by decide +kernel) (by decide +kernel)
set_option maxRecDepth 20000 in
theorem gX3_use_X1_inHand_n182 : GoodIn wsX3_use (wsX1_inHand) := ggX3_use_X1_inHand
set_option maxRecDepth 20000 in
theorem ggX3_use_X3_refuse : GoodIn wsX3_use wsX3_refuse := goodIn_r _ [19, 20, 34, 35, 36, 37, 38, 39, 40, 41, 42, 43, 44, 45, 46, 47] (by decide +kernel) (by decide +kernel)
set_option maxRecDepth 20000 in
theorem gX3_use_X3_refuse : GoodIn wsX3_use (wsV RX3 74 RX3 yX3_refuse wsX3_refuse) := goodIn_app (goodIn_of _ (by decide +kernel)) ggX3_use_X3_refuse
set_option maxRecDepth 20000 in
theorem ggX3_use_X1_takeCups : GoodIn wsX3_use wsX1_takeCups := goodIn_r _ [23, 24, 2, 4, 3, 5, 6, 7, 8, 9, 10, 11, 12, 13, 14, 15, 25, 26, 27, 28, 29, 30, 31, 32, 33, 48, 49, 50, 51, 52, 53, 54, 55, 56, 57, 58, 59, 60, 61] (by decide +kernel) (by decide +kernel)
set_option maxRecDepth 20000 in
theorem gX3_use_X1_takeCups_n133 : GoodIn wsX3_use (wsX1_takeCups) := ggX3_use_X1_takeCups
set_option maxRecDepth 20000 in
theorem ggX3_cost_X3_isOneOf : GoodIn wsX3_cost wsX3_isOneOf := goodIn_r _ [5] (by decide +kernel) (by decide +kernel)
set_option maxRecDepth 20000 in
theorem gX3_cost_X3_isOneOf : GoodIn wsX3_cost (va_wsS RX3 70 yX3_isOneOf wsX3_isOneOf) := goodIn_app (goodIn_of _ (by decide +kernel)) ggX3_cost_X3_isOneOf
set_option maxRecDepth 20000 in
theorem ggX3_cost_X3_refusalOutside : GoodIn wsX3_cost wsX3_refusalOutside := goodIn_r _ [8] (by decide +kernel) (by decide +kernel)
set_option maxRecDepth 20000 in
theorem gX3_cost_X3_refusalOutside : GoodIn wsX3_cost (va_wsS RX3 66 yX3_refusalOutside wsX3_refusalOutside) := goodIn_app (goodIn_of _ (by decide +kernel)) ggX3_cost_X3_refusalOutside
set_option maxRecDepth 20000 in
theorem ggX3_cost_X3_refuse : GoodIn wsX3_cost wsX3_refuse := goodIn_r _ [12, 13, 24, 25, 26, 27, 28, 29, 30, 31, 32, 33, 34, 35, 36, 37] (by decide +kernel) (by decide +kernel)
set_option maxRecDepth 20000 in
theorem gX3_cost_X3_refuse : GoodIn wsX3_cost (wsV RX3 74 RX3 yX3_refuse wsX3_refuse) := goodIn_app (goodIn_of _ (by decide +kernel)) ggX3_cost_X3_refuse
set_option maxRecDepth 20000 in
theorem ggX3_cost_X1_costOf : GoodIn wsX3_cost wsX1_costOf := goodIn_r _ [17, 18, 19, 4, 20, 38, 39, 40, 41, 42, 43, 44, 45, 46, 47] (by decide +kernel) (by decide +kernel)
set_option maxRecDepth 20000 in
theorem gX3_cost_X1_costOf_n186 : GoodIn wsX3_cost (wsX1_costOf) := ggX3_cost_X1_costOf
set_option maxRecDepth 20000 in
theorem ggX3_cost_X1_setCost : GoodIn wsX3_cost wsX1_setCost := goodIn_r _ [23, 18, 3, 4, 5, 38, 39, 40, 41, 42, 43, 44, 45, 46, 47] (by decide +kernel) (by decide +kernel)
set_option maxRecDepth 20000 in
theorem gX3_cost_X1_setCost_n121 : GoodIn wsX3_cost (wsX1_setCost) := ggX3_cost_X1_setCost
set_option maxRecDepth 20000 in
theorem ggX3_price_X3_refusalOutside : GoodIn wsX3_price wsX3_refusalOutside := goodIn_r _ [5] (by decide +kernel) (by decide +kernel)
set_option maxRecDepth 20000 in
theorem gX3_price_X3_refusalOutside : GoodIn wsX3_price (va_wsS RX3 66 yX3_refusalOutside wsX3_refusalOutside) := goodIn_app (goodIn_of _ (by decide +kernel)) ggX3_price_X3_refusalOutside
set_option maxRecDepth 20000 in
theorem ggX3_price_X3_refuse : GoodIn wsX3_price wsX3_refuse := goodIn_r _ [9, 10, 11, 12, 13, 14, 15, 16, 17, 18, 19, 20, 21, 22, 23, 24] (by decide +kernel) (by decide +kernel)
set_option maxRecDepth 20000 in
theorem gX3_price_X3_refuse : GoodIn wsX3_price (wsV RX3 74 RX3 yX3_refuse wsX3_refuse) := goodIn_app (goodIn_of _ (by decide +kernel)) ggX3_price_X3_refuse
set_option maxRecDepth 20000 in
theorem ggX3_says_X3_isOneOf : GoodIn wsX3_says wsX3_isOneOf := goodIn_r _ [5] (by decide +kernel) (by decide +kernel)
set_option maxRecDepth 20000 in
theorem gX3_says_X3_isOneOf : GoodIn wsX3_says (va_wsS RX3 70 yX3_isOneOf wsX3_isOneOf) := goodIn_app (goodIn_of _ (by decide +kernel)) ggX3_says_X3_isOneOf
set_option maxRecDepth 20000 in
theorem ggX3_says_X3_refusalInHand : GoodIn wsX3_says wsX3_refusalInHand := goodIn_r _ [9, 10, 11, 12, 13, 14, 15, 16, 17, 18, 19, 20, 21, 3, 4, 5, 84, 85, 86, 87, 88, 89, 90, 91, 92, 93, 94, 95, 96, 97, 98, 99, 100, 101, 102, 103, 104, 105, 106, 107] (by decide +kernel) (by decide +kernel)
set_option maxRecDepth 20000 in
theorem gX3_says_X3_refusalInHand : GoodIn wsX3_says (wsV RX3 175 RX3 yX3_refusalInHand wsX3_refusalInHand) := goodIn_app (goodIn_of _ (by decide +kernel)) ggX3_says_X3_refusalInHand
set_option maxRecDepth 20000 in
theorem ggX3_says_X3_refuse : GoodIn wsX3_says wsX3_refuse := goodIn_r _ [25, 26, 84, 85, 86, 87, 88, 89, 90, 91, 92, 93, 94, 95, 96, 97] (by decide +kernel) (by decide +kernel)
set_option maxRecDepth 20000 in
theorem gX3_says_X3_refuse : GoodIn wsX3_says (wsV RX3 74 RX3 yX3_refuse wsX3_refuse) := goodIn_app (goodIn_of _ (by decide +kernel)) ggX3_says_X3_refuse
set_option maxRecDepth 20000 in
theorem ggX3_says_X3_think : GoodIn wsX3_says wsX3_think := goodIn_r _ [30, 10, 1, 31, 11, 12, 13, 14, 15, 16, 17, 18, 19, 20, 21, 3, 4, 5, 32, 33, 34, 35, 36, 37, 38, 39, 40, 41, 42, 43, 44, 45, 46, 47, 48, 49, 50, 51, 52, 53, 54, 55, 56, 57, 58, 59, 60, 61, 62, 63, 64, 65, 66, 67, 68, 69, 70, 71, 72, 73, 74, 75, 76, 77, 78, 79, 80, 81, 82, 83, 84, 85, 86, 87, 88, 89, 90, 91, 92, 93, 94, 95, 96, 97, 98, 99, 100, 101, 102, 103, 104, 105, 106, 107, 108, 109, 110, 111, 112] (by decide +kernel) (by decide +kernel)
set_option maxRecDepth 20000 in
theorem gX3_says_X3_think : GoodIn wsX3_says (wsV RX3 189 RX3 yX3_think wsX3_think) := goodIn_app (goodIn_of _ (by decide +kernel)) ggX3_says_X3_think
set_option maxRecDepth 20000 in
theorem ggX3_says_X0_offTenths : GoodIn wsX3_says wsX0_offTenths := goodIn_r _ [74, 36, 67, 4, 68, 75, 76, 77, 64, 54, 65, 78, 57, 58, 108, 109, 110, 111] (by decide +kernel) (by decide +kernel)
set_option maxRecDepth 20000 in
theorem gX3_says_X0_offTenths_n192 : GoodIn wsX3_says (wsX0_offTenths) := ggX3_says_X0_offTenths
set_option maxRecDepth 20000 in
theorem ggX3_thought_X3_isOneOf : GoodIn wsX3_thought wsX3_isOneOf := goodIn_r _ [5] (by decide +kernel) (by decide +kernel)
set_option maxRecDepth 20000 in
theorem gX3_thought_X3_isOneOf : GoodIn wsX3_thought (va_wsS RX3 70 yX3_isOneOf wsX3_isOneOf) := goodIn_app (goodIn_of _ (by decide +kernel)) ggX3_thought_X3_isOneOf
set_option maxRecDepth 20000 in
theorem ggX3_thought_X3_refusalInHand : GoodIn wsX3_thought wsX3_refusalInHand := goodIn_r _ [9, 10, 11, 12, 13, 14, 15, 16, 17, 18, 19, 20, 21, 3, 4, 5, 89, 90, 91, 92, 93, 94, 95, 96, 97, 98, 99, 100, 101, 102, 103, 104, 105, 106, 107, 108, 109, 110, 111, 112] (by decide +kernel) (by decide +kernel)
set_option maxRecDepth 20000 in
theorem gX3_thought_X3_refusalInHand : GoodIn wsX3_thought (wsV RX3 175 RX3 yX3_refusalInHand wsX3_refusalInHand) := goodIn_app (goodIn_of _ (by decide +kernel)) ggX3_thought_X3_refusalInHand
set_option maxRecDepth 20000 in
theorem ggX3_thought_X3_refuseLong : GoodIn wsX3_thought wsX3_refuseLong := goodIn_r _ [25, 26, 27, 28, 29, 4, 30, 31, 89, 90, 91, 92, 93, 94, 95, 96, 97, 98, 99, 100, 101, 102] (by decide +kernel) (by decide +kernel)
set_option maxRecDepth 20000 in
theorem gX3_thought_X3_refuseLong : GoodIn wsX3_thought (wsV RX3 195 RX3 yX3_refuseLong wsX3_refuseLong) := goodIn_app (goodIn_of _ (by decide +kernel)) ggX3_thought_X3_refuseLong
set_option maxRecDepth 20000 in
theorem ggX3_thought_X3_think : GoodIn wsX3_thought wsX3_think := goodIn_r _ [35, 10, 36, 1, 11, 12, 13, 14, 15, 16, 17, 18, 19, 20, 21, 3, 4, 5, 37, 38, 39, 40, 41, 42, 43, 44, 45, 46, 47, 48, 49, 50, 51, 52, 53, 54, 55, 56, 57, 58, 59, 60, 61, 62, 63, 64, 65, 66, 67, 68, 69, 70, 71, 72, 73, 74, 75, 76, 77, 78, 79, 80, 81, 82, 83, 84, 85, 86, 87, 88, 89, 90, 91, 92, 93, 94, 95, 96, 97, 98, 99, 100, 101, 102, 103, 104, 105, 106, 107, 108, 109, 110, 111, 112, 113, 114, 115, 116, 117] (by decide +kernel) (by decide +kernel)
set_option maxRecDepth 20000 in
theorem gX3_thought_X3_think : GoodIn wsX3_thought (wsV RX3 189 RX3 yX3_think wsX3_think) := goodIn_app (goodIn_of _ (by decide +kernel)) ggX3_thought_X3_think
set_option maxRecDepth 20000 in
theorem ggX3_thought_X2_sumOf : GoodIn wsX3_thought wsX2_sumOf := goodIn_r _ [87, 88, 62, 59, 63, 53, 117] (by decide +kernel) (by decide +kernel)
set_option maxRecDepth 20000 in
theorem gX3_thought_X2_sumOf_n199 : GoodIn wsX3_thought (wsX2_sumOf) := ggX3_thought_X2_sumOf
set_option maxRecDepth 20000 in
theorem ggX3_likely_X3_isOneOf : GoodIn wsX3_likely wsX3_isOneOf := goodIn_r _ [5] (by decide +kernel) (by decide +kernel)
set_option maxRecDepth 20000 in
theorem gX3_likely_X3_isOneOf : GoodIn wsX3_likely (va_wsS RX3 70 yX3_isOneOf wsX3_isOneOf) := goodIn_app (goodIn_of _ (by decide +kernel)) ggX3_likely_X3_isOneOf
set_option maxRecDepth 20000 in
theorem ggX3_likely_X3_refusalInHand : GoodIn wsX3_likely wsX3_refusalInHand := goodIn_r _ [9, 10, 11, 12, 13, 14, 15, 16, 17, 18, 19, 20, 21, 3, 4, 5, 98, 99, 100, 101, 102, 103, 104, 105, 106, 107, 108, 109, 110, 111, 112, 113, 114, 115, 116, 117, 118, 119, 120, 121] (by decide +kernel) (by decide +kernel)
set_option maxRecDepth 20000 in
theorem gX3_likely_X3_refusalInHand : GoodIn wsX3_likely (wsV RX3 175 RX3 yX3_refusalInHand wsX3_refusalInHand) := goodIn_app (goodIn_of _ (by decide +kernel)) ggX3_likely_X3_refusalInHand
set_option maxRecDepth 20000 in
theorem ggX3_likely_X3_refuseLong : GoodIn wsX3_likely wsX3_refuseLong := goodIn_r _ [25, 26, 27, 28, 29, 4, 30, 31, 98, 99, 100, 101, 102, 103, 104, 105, 106, 107, 108, 109, 110, 111] (by decide +kernel) (by decide +kernel)
set_option maxRecDepth 20000 in
theorem gX3_likely_X3_refuseLong : GoodIn wsX3_likely (wsV RX3 195 RX3 yX3_refuseLong wsX3_refuseLong) := goodIn_app (goodIn_of _ (by decide +kernel)) ggX3_likely_X3_refuseLong
set_option maxRecDepth 20000 in
theorem ggX3_likely_X3_think : GoodIn wsX3_likely wsX3_think := goodIn_r _ [35, 10, 36, 1, 11, 12, 13, 14, 15, 16, 17, 18, 19, 20, 21, 3, 4, 5, 37, 38, 39, 40, 41, 42, 43, 44, 45, 46, 47, 48, 49, 50, 51, 52, 53, 54, 55, 56, 57, 58, 59, 60, 61, 62, 63, 64, 65, 66, 67, 68, 69, 70, 71, 72, 73, 74, 75, 76, 77, 78, 79, 80, 81, 82, 83, 84, 85, 86, 87, 88, 98, 99, 100, 101, 102, 103, 104, 105, 106, 107, 108, 109, 110, 111, 112, 113, 114, 115, 116, 117, 118, 119, 120, 121, 122, 123, 124, 125, 126] (by decide +kernel) (by decide +kernel)
set_option maxRecDepth 20000 in
theorem gX3_likely_X3_think : GoodIn wsX3_likely (wsV RX3 189 RX3 yX3_think wsX3_think) := goodIn_app (goodIn_of _ (by decide +kernel)) ggX3_likely_X3_think
set_option maxRecDepth 20000 in
theorem ggX3_likely_X2_sumOf : GoodIn wsX3_likely wsX2_sumOf := goodIn_r _ [87, 88, 62, 59, 63, 53, 126] (by decide +kernel) (by decide +kernel)
set_option maxRecDepth 20000 in
theorem gX3_likely_X2_sumOf_n199 : GoodIn wsX3_likely (wsX2_sumOf) := ggX3_likely_X2_sumOf
set_option maxRecDepth 20000 in
theorem ggX3_likely_X2_sumOfAll : GoodIn wsX3_likely wsX2_sumOfAll := goodIn_r _ [91, 84, 85, 86, 50, 87, 88, 62, 59, 63, 53, 126] (by decide +kernel) (by decide +kernel)
set_option maxRecDepth 20000 in
theorem gX3_likely_X2_sumOfAll_n203 : GoodIn wsX3_likely (wsX2_sumOfAll) := ggX3_likely_X2_sumOfAll
set_option maxRecDepth 20000 in
theorem ggX3_likely_X3_inLeastTerms : GoodIn wsX3_likely wsX3_inLeastTerms := goodIn_r _ [94, 95, 96, 59, 97] (by decide +kernel) (by decide +kernel)
set_option maxRecDepth 20000 in
theorem gX3_likely_X3_inLeastTerms : GoodIn wsX3_likely (va_wsS RX3 207 yX3_inLeastTerms wsX3_inLeastTerms) := goodIn_app (goodIn_of _ (by decide +kernel)) ggX3_likely_X3_inLeastTerms
set_option maxRecDepth 20000 in
theorem ggX3_good_X3_isOneOf : GoodIn wsX3_good wsX3_isOneOf := goodIn_r _ [5] (by decide +kernel) (by decide +kernel)
set_option maxRecDepth 20000 in
theorem gX3_good_X3_isOneOf : GoodIn wsX3_good (va_wsS RX3 70 yX3_isOneOf wsX3_isOneOf) := goodIn_app (goodIn_of _ (by decide +kernel)) ggX3_good_X3_isOneOf
set_option maxRecDepth 20000 in
theorem ggX3_good_X3_refusalInHand : GoodIn wsX3_good wsX3_refusalInHand := goodIn_r _ [9, 10, 11, 12, 13, 14, 15, 16, 17, 18, 19, 20, 21, 3, 4, 5, 98, 99, 100, 101, 102, 103, 104, 105, 106, 107, 108, 109, 110, 111, 112, 113, 114, 115, 116, 117, 118, 119, 120, 121] (by decide +kernel) (by decide +kernel)
set_option maxRecDepth 20000 in
theorem gX3_good_X3_refusalInHand : GoodIn wsX3_good (wsV RX3 175 RX3 yX3_refusalInHand wsX3_refusalInHand) := goodIn_app (goodIn_of _ (by decide +kernel)) ggX3_good_X3_refusalInHand
set_option maxRecDepth 20000 in
theorem ggX3_good_X3_refuseLong : GoodIn wsX3_good wsX3_refuseLong := goodIn_r _ [25, 26, 27, 28, 29, 4, 30, 31, 98, 99, 100, 101, 102, 103, 104, 105, 106, 107, 108, 109, 110, 111] (by decide +kernel) (by decide +kernel)
set_option maxRecDepth 20000 in
theorem gX3_good_X3_refuseLong : GoodIn wsX3_good (wsV RX3 195 RX3 yX3_refuseLong wsX3_refuseLong) := goodIn_app (goodIn_of _ (by decide +kernel)) ggX3_good_X3_refuseLong
set_option maxRecDepth 20000 in
theorem ggX3_good_X3_think : GoodIn wsX3_good wsX3_think := goodIn_r _ [35, 10, 36, 1, 11, 12, 13, 14, 15, 16, 17, 18, 19, 20, 21, 3, 4, 5, 37, 38, 39, 40, 41, 42, 43, 44, 45, 46, 47, 48, 49, 50, 51, 52, 53, 54, 55, 56, 57, 58, 59, 60, 61, 62, 63, 64, 65, 66, 67, 68, 69, 70, 71, 72, 73, 74, 75, 76, 77, 78, 79, 80, 81, 82, 83, 84, 85, 86, 87, 88, 98, 99, 100, 101, 102, 103, 104, 105, 106, 107, 108, 109, 110, 111, 112, 113, 114, 115, 116, 117, 118, 119, 120, 121, 122, 123, 124, 125, 126] (by decide +kernel) (by decide +kernel)
set_option maxRecDepth 20000 in
theorem gX3_good_X3_think : GoodIn wsX3_good (wsV RX3 189 RX3 yX3_think wsX3_think) := goodIn_app (goodIn_of _ (by decide +kernel)) ggX3_good_X3_think
set_option maxRecDepth 20000 in
theorem ggX3_good_X2_sumOf : GoodIn wsX3_good wsX2_sumOf := goodIn_r _ [87, 88, 62, 59, 63, 53, 126] (by decide +kernel) (by decide +kernel)
set_option maxRecDepth 20000 in
theorem gX3_good_X2_sumOf_n199 : GoodIn wsX3_good (wsX2_sumOf) := ggX3_good_X2_sumOf
set_option maxRecDepth 20000 in
theorem ggX3_good_X2_sumOfAll : GoodIn wsX3_good wsX2_sumOfAll := goodIn_r _ [91, 84, 85, 86, 50, 87, 88, 62, 59, 63, 53, 126] (by decide +kernel) (by decide +kernel)
set_option maxRecDepth 20000 in
theorem gX3_good_X2_sumOfAll_n203 : GoodIn wsX3_good (wsX2_sumOfAll) := ggX3_good_X2_sumOfAll
set_option maxRecDepth 20000 in
theorem ggX3_good_X3_inLeastTerms : GoodIn wsX3_good wsX3_inLeastTerms := goodIn_r _ [94, 95, 96, 59, 97] (by decide +kernel) (by decide +kernel)
set_option maxRecDepth 20000 in
theorem gX3_good_X3_inLeastTerms : GoodIn wsX3_good (va_wsS RX3 207 yX3_inLeastTerms wsX3_inLeastTerms) := goodIn_app (goodIn_of _ (by decide +kernel)) ggX3_good_X3_inLeastTerms
set_option maxRecDepth 20000 in
theorem ggX3_mean_X3_isOneOf : GoodIn wsX3_mean wsX3_isOneOf := goodIn_r _ [7] (by decide +kernel) (by decide +kernel)
set_option maxRecDepth 20000 in
theorem gX3_mean_X3_isOneOf : GoodIn wsX3_mean (va_wsS RX3 70 yX3_isOneOf wsX3_isOneOf) := goodIn_app (goodIn_of _ (by decide +kernel)) ggX3_mean_X3_isOneOf
set_option maxRecDepth 20000 in
theorem ggX3_mean_X3_refusalInHand : GoodIn wsX3_mean wsX3_refusalInHand := goodIn_r _ [11, 2, 12, 13, 14, 15, 16, 17, 18, 19, 20, 21, 22, 5, 6, 7, 106, 107, 108, 109, 110, 111, 112, 113, 114, 115, 116, 117, 118, 119, 124, 125, 126, 127, 128, 129, 130, 131, 132, 133] (by decide +kernel) (by decide +kernel)
set_option maxRecDepth 20000 in
theorem gX3_mean_X3_refusalInHand : GoodIn wsX3_mean (wsV RX3 175 RX3 yX3_refusalInHand wsX3_refusalInHand) := goodIn_app (goodIn_of _ (by decide +kernel)) ggX3_mean_X3_refusalInHand
set_option maxRecDepth 20000 in
theorem ggX3_mean_X3_refuseLong : GoodIn wsX3_mean wsX3_refuseLong := goodIn_r _ [26, 27, 28, 29, 30, 6, 31, 32, 106, 107, 108, 109, 110, 111, 112, 113, 114, 115, 116, 117, 118, 119] (by decide +kernel) (by decide +kernel)
set_option maxRecDepth 20000 in
theorem gX3_mean_X3_refuseLong : GoodIn wsX3_mean (wsV RX3 195 RX3 yX3_refuseLong wsX3_refuseLong) := goodIn_app (goodIn_of _ (by decide +kernel)) ggX3_mean_X3_refuseLong
set_option maxRecDepth 20000 in
theorem ggX3_mean_X3_think : GoodIn wsX3_mean wsX3_think := goodIn_r _ [36, 2, 1, 3, 12, 13, 14, 15, 16, 17, 18, 19, 20, 21, 22, 5, 6, 7, 37, 38, 39, 40, 41, 42, 43, 44, 45, 46, 47, 48, 49, 50, 51, 52, 53, 54, 55, 56, 57, 58, 59, 60, 61, 62, 63, 64, 65, 66, 67, 68, 69, 70, 71, 72, 73, 74, 75, 76, 77, 78, 79, 80, 81, 82, 83, 84, 85, 86, 87, 88, 106, 107, 108, 109, 110, 111, 112, 113, 114, 115, 116, 117, 118, 119, 124, 125, 126, 127, 128, 129, 130, 131, 132, 133, 120, 121, 122, 123, 134] (by decide +kernel) (by decide +kernel)
set_option maxRecDepth 20000 in
theorem gX3_mean_X3_think : GoodIn wsX3_mean (wsV RX3 189 RX3 yX3_think wsX3_think) := goodIn_app (goodIn_of _ (by decide +kernel)) ggX3_mean_X3_think
set_option maxRecDepth 20000 in
theorem ggX3_mean_X1_netSum : GoodIn wsX3_mean wsX1_netSum := goodIn_r _ [91, 92, 93, 94, 13, 95, 96, 72, 6, 73, 85, 50, 86, 87, 88, 62, 59, 63, 53, 124, 125, 126, 127, 128, 129, 130, 131, 132, 133, 134] (by decide +kernel) (by decide +kernel)
set_option maxRecDepth 20000 in
theorem gX3_mean_X1_netSum_n211 : GoodIn wsX3_mean (wsX1_netSum) := ggX3_mean_X1_netSum
set_option maxRecDepth 20000 in
theorem ggX3_mean_X2_sumOfAll : GoodIn wsX3_mean wsX2_sumOfAll := goodIn_r _ [99, 84, 85, 86, 50, 87, 88, 62, 59, 63, 53, 134] (by decide +kernel) (by decide +kernel)
set_option maxRecDepth 20000 in
theorem gX3_mean_X2_sumOfAll_n203 : GoodIn wsX3_mean (wsX2_sumOfAll) := ggX3_mean_X2_sumOfAll
set_option maxRecDepth 20000 in
theorem ggX3_mean_X3_inLeastTerms : GoodIn wsX3_mean wsX3_inLeastTerms := goodIn_r _ [102, 103, 104, 59, 105] (by decide +kernel) (by decide +kernel)
set_option maxRecDepth 20000 in
theorem gX3_mean_X3_inLeastTerms : GoodIn wsX3_mean (va_wsS RX3 207 yX3_inLeastTerms wsX3_inLeastTerms) := goodIn_app (goodIn_of _ (by decide +kernel)) ggX3_mean_X3_inLeastTerms
set_option maxRecDepth 20000 in
theorem ggX3_best_X3_isOneOf : GoodIn wsX3_best wsX3_isOneOf := goodIn_r _ [6] (by decide +kernel) (by decide +kernel)
set_option maxRecDepth 20000 in
theorem gX3_best_X3_isOneOf : GoodIn wsX3_best (va_wsS RX3 70 yX3_isOneOf wsX3_isOneOf) := goodIn_app (goodIn_of _ (by decide +kernel)) ggX3_best_X3_isOneOf
set_option maxRecDepth 20000 in
theorem ggX3_best_X3_refusalInHand : GoodIn wsX3_best wsX3_refusalInHand := goodIn_r _ [10, 1, 11, 12, 13, 14, 15, 16, 17, 18, 19, 20, 21, 4, 5, 6, 96, 97, 98, 99, 100, 101, 102, 103, 104, 105, 106, 107, 108, 109, 110, 111, 112, 113, 114, 115, 116, 117, 118, 119] (by decide +kernel) (by decide +kernel)
set_option maxRecDepth 20000 in
theorem gX3_best_X3_refusalInHand : GoodIn wsX3_best (wsV RX3 175 RX3 yX3_refusalInHand wsX3_refusalInHand) := goodIn_app (goodIn_of _ (by decide +kernel)) ggX3_best_X3_refusalInHand
set_option maxRecDepth 20000 in
theorem ggX3_best_X3_refuse : GoodIn wsX3_best wsX3_refuse := goodIn_r _ [25, 26, 96, 97, 98, 99, 100, 101, 102, 103, 104, 105, 106, 107, 108, 109] (by decide +kernel) (by decide +kernel)
set_option maxRecDepth 20000 in
theorem gX3_best_X3_refuse : GoodIn wsX3_best (wsV RX3 74 RX3 yX3_refuse wsX3_refuse) := goodIn_app (goodIn_of _ (by decide +kernel)) ggX3_best_X3_refuse
set_option maxRecDepth 20000 in
theorem ggX3_best_X3_think : GoodIn wsX3_best wsX3_think := goodIn_r _ [30, 1, 31, 2, 11, 12, 13, 14, 15, 16, 17, 18, 19, 20, 21, 4, 5, 6, 32, 33, 34, 35, 36, 37, 38, 39, 40, 41, 42, 43, 44, 45, 46, 47, 48, 49, 50, 51, 52, 53, 54, 55, 56, 57, 58, 59, 60, 61, 62, 63, 64, 65, 66, 67, 68, 69, 70, 71, 72, 73, 74, 75, 76, 77, 78, 79, 80, 81, 82, 83, 96, 97, 98, 99, 100, 101, 102, 103, 104, 105, 106, 107, 108, 109, 110, 111, 112, 113, 114, 115, 116, 117, 118, 119, 120, 121, 122, 123, 124] (by decide +kernel) (by decide +kernel)
set_option maxRecDepth 20000 in
theorem gX3_best_X3_think : GoodIn wsX3_best (wsV RX3 189 RX3 yX3_think wsX3_think) := goodIn_app (goodIn_of _ (by decide +kernel)) ggX3_best_X3_think
set_option maxRecDepth 20000 in
theorem ggX3_best_X1_bestUse : GoodIn wsX3_best wsX1_bestUse := goodIn_r _ [86, 87, 88, 89, 12, 90, 91, 92, 93, 94, 95, 67, 5, 68, 80, 45, 81, 82, 83, 57, 54, 58, 48, 110, 111, 112, 113, 114, 115, 116, 117, 118, 119, 124] (by decide +kernel) (by decide +kernel)
set_option maxRecDepth 20000 in
theorem gX3_best_X1_bestUse_n215 : GoodIn wsX3_best (wsX1_bestUse) := ggX3_best_X1_bestUse
set_option maxRecDepth 20000 in
theorem ggX3_sure_X3_isOneOf : GoodIn wsX3_sure wsX3_isOneOf := goodIn_r _ [5] (by decide +kernel) (by decide +kernel)
set_option maxRecDepth 20000 in
theorem gX3_sure_X3_isOneOf : GoodIn wsX3_sure (va_wsS RX3 70 yX3_isOneOf wsX3_isOneOf) := goodIn_app (goodIn_of _ (by decide +kernel)) ggX3_sure_X3_isOneOf
set_option maxRecDepth 20000 in
theorem ggX3_sure_X3_refusalInHand : GoodIn wsX3_sure wsX3_refusalInHand := goodIn_r _ [9, 10, 11, 12, 13, 14, 15, 16, 17, 18, 19, 20, 21, 3, 4, 5, 91, 92, 93, 94, 95, 96, 97, 98, 99, 100, 101, 102, 103, 104, 105, 106, 107, 108, 109, 110, 111, 112, 113, 114] (by decide +kernel) (by decide +kernel)
set_option maxRecDepth 20000 in
theorem gX3_sure_X3_refusalInHand : GoodIn wsX3_sure (wsV RX3 175 RX3 yX3_refusalInHand wsX3_refusalInHand) := goodIn_app (goodIn_of _ (by decide +kernel)) ggX3_sure_X3_refusalInHand
set_option maxRecDepth 20000 in
theorem ggX3_sure_X3_refuse : GoodIn wsX3_sure wsX3_refuse := goodIn_r _ [25, 26, 91, 92, 93, 94, 95, 96, 97, 98, 99, 100, 101, 102, 103, 104] (by decide +kernel) (by decide +kernel)
set_option maxRecDepth 20000 in
theorem gX3_sure_X3_refuse : GoodIn wsX3_sure (wsV RX3 74 RX3 yX3_refuse wsX3_refuse) := goodIn_app (goodIn_of _ (by decide +kernel)) ggX3_sure_X3_refuse
set_option maxRecDepth 20000 in
theorem ggX3_sure_X3_think : GoodIn wsX3_sure wsX3_think := goodIn_r _ [30, 10, 31, 1, 11, 12, 13, 14, 15, 16, 17, 18, 19, 20, 21, 3, 4, 5, 32, 33, 34, 35, 36, 37, 38, 39, 40, 41, 42, 43, 44, 45, 46, 47, 48, 49, 50, 51, 52, 53, 54, 55, 56, 57, 58, 59, 60, 61, 62, 63, 64, 65, 66, 67, 68, 69, 70, 71, 72, 73, 74, 75, 76, 77, 78, 79, 80, 81, 82, 83, 91, 92, 93, 94, 95, 96, 97, 98, 99, 100, 101, 102, 103, 104, 105, 106, 107, 108, 109, 110, 111, 112, 113, 114, 115, 116, 117, 118, 119] (by decide +kernel) (by decide +kernel)
set_option maxRecDepth 20000 in
theorem gX3_sure_X3_think : GoodIn wsX3_sure (wsV RX3 189 RX3 yX3_think wsX3_think) := goodIn_app (goodIn_of _ (by decide +kernel)) ggX3_sure_X3_think
set_option maxRecDepth 20000 in
theorem ggX3_sure_X3_harmSum : GoodIn wsX3_sure wsX3_harmSum := goodIn_r _ [86, 87, 88, 4, 89, 90, 66, 67, 68, 80, 45, 81, 82, 83, 57, 54, 58, 48, 119] (by decide +kernel) (by decide +kernel)
set_option maxRecDepth 20000 in
theorem gX3_sure_X3_harmSum : GoodIn wsX3_sure (va_wsS RX3 219 yX3_harmSum wsX3_harmSum) := goodIn_app (goodIn_of _ (by decide +kernel)) ggX3_sure_X3_harmSum
set_option maxRecDepth 20000 in
theorem ggX3_think_X1_inHand : GoodIn wsX3_think wsX1_inHand := goodIn_r _ [7, 8, 9, 10, 11, 5, 12, 13, 14, 15, 16, 17, 84, 85, 86, 87, 88, 89, 90, 91, 92, 93] (by decide +kernel) (by decide +kernel)
set_option maxRecDepth 20000 in
theorem gX3_think_X1_inHand_n182 : GoodIn wsX3_think (wsX1_inHand) := ggX3_think_X1_inHand
set_option maxRecDepth 20000 in
theorem ggX3_think_X0_fillFrom : GoodIn wsX3_think wsX0_fillFrom := goodIn_r _ [21, 22, 23, 24, 25, 26, 27, 28, 19, 29, 94, 95, 96, 97] (by decide +kernel) (by decide +kernel)
set_option maxRecDepth 20000 in
theorem gX3_think_X0_fillFrom_n223 : GoodIn wsX3_think (wsX0_fillFrom) := ggX3_think_X0_fillFrom
set_option maxRecDepth 20000 in
theorem ggX3_think_X2_weigh : GoodIn wsX3_think wsX2_weigh := goodIn_r _ [33, 34, 35, 19, 36, 37, 38, 39, 40, 41, 42, 43, 44, 22, 45, 46, 47, 48, 25, 49, 50, 51, 98, 94, 95, 96, 97] (by decide +kernel) (by decide +kernel)
set_option maxRecDepth 20000 in
theorem gX3_think_X2_weigh_n227 : GoodIn wsX3_think (wsX2_weigh) := ggX3_think_X2_weigh
set_option maxRecDepth 20000 in
theorem ggX3_think_X3_at : GoodIn wsX3_think wsX3_at := goodIn_r _ [54] (by decide +kernel) (by decide +kernel)
set_option maxRecDepth 20000 in
theorem gX3_think_X3_at : GoodIn wsX3_think (va_wsS RX3 136 yX3_at wsX3_at) := goodIn_app (goodIn_of _ (by decide +kernel)) ggX3_think_X3_at
set_option maxRecDepth 20000 in
theorem ggX3_think_X2_narrow : GoodIn wsX3_think wsX2_narrow := goodIn_r _ [57, 34, 58, 19, 59, 60, 22, 53, 16, 54, 61, 62, 63, 50, 40, 51, 64, 43, 44, 65, 66, 67, 31, 68, 69, 98, 94, 95, 96, 97] (by decide +kernel) (by decide +kernel)
set_option maxRecDepth 20000 in
theorem gX3_think_X2_narrow_n236 : GoodIn wsX3_think (wsX2_narrow) := ggX3_think_X2_narrow
set_option maxRecDepth 20000 in
theorem ggX3_harmSum_X3_harmOf : GoodIn wsX3_harmSum wsX3_harmOf := goodIn_r _ [4, 5, 6, 7, 3, 8] (by decide +kernel) (by decide +kernel)
set_option maxRecDepth 20000 in
theorem gX3_harmSum_X3_harmOf : GoodIn wsX3_harmSum (va_wsS RX3 240 yX3_harmOf wsX3_harmOf) := goodIn_app (goodIn_of _ (by decide +kernel)) ggX3_harmSum_X3_harmOf
set_option maxRecDepth 20000 in
theorem ggX3_harmSum_X2_sumOf : GoodIn wsX3_harmSum wsX2_sumOf := goodIn_r _ [12, 13, 14, 15, 16, 17, 18] (by decide +kernel) (by decide +kernel)
set_option maxRecDepth 20000 in
theorem gX3_harmSum_X2_sumOf_n199 : GoodIn wsX3_harmSum (wsX2_sumOf) := ggX3_harmSum_X2_sumOf
set_option maxRecDepth 20000 in
theorem ggX3_looking_X3_isOneOf : GoodIn wsX3_looking wsX3_isOneOf := goodIn_r _ [6] (by decide +kernel) (by decide +kernel)
set_option maxRecDepth 20000 in
theorem gX3_looking_X3_isOneOf : GoodIn wsX3_looking (va_wsS RX3 70 yX3_isOneOf wsX3_isOneOf) := goodIn_app (goodIn_of _ (by decide +kernel)) ggX3_looking_X3_isOneOf
set_option maxRecDepth 20000 in
theorem ggX3_looking_X3_refusalInHand : GoodIn wsX3_looking wsX3_refusalInHand := goodIn_r _ [10, 11, 12, 13, 14, 15, 16, 17, 18, 19, 20, 21, 22, 4, 5, 6, 123, 124, 125, 126, 127, 128, 129, 130, 131, 132, 133, 134, 135, 136, 137, 138, 139, 140, 141, 142, 143, 144, 145, 146] (by decide +kernel) (by decide +kernel)
set_option maxRecDepth 20000 in
theorem gX3_looking_X3_refusalInHand : GoodIn wsX3_looking (wsV RX3 175 RX3 yX3_refusalInHand wsX3_refusalInHand) := goodIn_app (goodIn_of _ (by decide +kernel)) ggX3_looking_X3_refusalInHand
set_option maxRecDepth 20000 in
theorem ggX3_looking_X3_refuseLong : GoodIn wsX3_looking wsX3_refuseLong := goodIn_r _ [26, 27, 28, 29, 30, 5, 31, 32, 123, 124, 125, 126, 127, 128, 129, 130, 131, 132, 133, 134, 135, 136] (by decide +kernel) (by decide +kernel)
set_option maxRecDepth 20000 in
theorem gX3_looking_X3_refuseLong : GoodIn wsX3_looking (wsV RX3 195 RX3 yX3_refuseLong wsX3_refuseLong) := goodIn_app (goodIn_of _ (by decide +kernel)) ggX3_looking_X3_refuseLong
set_option maxRecDepth 20000 in
theorem ggX3_looking_X3_think : GoodIn wsX3_looking wsX3_think := goodIn_r _ [36, 11, 37, 1, 12, 13, 14, 15, 16, 17, 18, 19, 20, 21, 22, 4, 5, 6, 38, 39, 40, 41, 42, 43, 44, 45, 46, 47, 48, 49, 50, 51, 52, 53, 54, 55, 56, 57, 58, 59, 60, 61, 62, 63, 64, 65, 66, 67, 68, 69, 70, 71, 72, 73, 74, 75, 76, 77, 78, 79, 80, 81, 82, 83, 84, 85, 86, 87, 88, 89, 123, 124, 125, 126, 127, 128, 129, 130, 131, 132, 133, 134, 135, 136, 137, 138, 139, 140, 141, 142, 143, 144, 145, 146, 147, 148, 149, 150, 151] (by decide +kernel) (by decide +kernel)
set_option maxRecDepth 20000 in
theorem gX3_looking_X3_think : GoodIn wsX3_looking (wsV RX3 189 RX3 yX3_think wsX3_think) := goodIn_app (goodIn_of _ (by decide +kernel)) ggX3_looking_X3_think
set_option maxRecDepth 20000 in
theorem ggX3_looking_X3_testWorth : GoodIn wsX3_looking wsX3_testWorth := goodIn_r _ [93, 37, 11, 94, 95, 13, 96, 97, 98, 99, 60, 100, 101, 102, 103, 104, 105, 106, 107, 108, 109, 73, 5, 74, 86, 51, 87, 88, 89, 63, 64, 54, 75, 76, 77, 78, 39, 79, 80, 42, 81, 82, 83, 70, 71, 84, 85, 110, 111, 112, 113, 114, 115, 116, 123, 124, 125, 126, 127, 128, 129, 130, 131, 132, 133, 134, 135, 136, 147, 148, 149, 150, 137, 138, 139, 140, 141, 142, 143, 144, 145, 146, 151] (by decide +kernel) (by decide +kernel)
set_option maxRecDepth 20000 in
theorem gX3_looking_X3_testWorth : GoodIn wsX3_looking (wsV RX3 243 RX3 yX3_testWorth wsX3_testWorth) := goodIn_app (goodIn_of _ (by decide +kernel)) ggX3_looking_X3_testWorth
set_option maxRecDepth 20000 in
theorem ggX3_looking_X2_sumOfAll : GoodIn wsX3_looking wsX2_sumOfAll := goodIn_r _ [116, 85, 86, 87, 51, 88, 89, 63, 60, 64, 54, 151] (by decide +kernel) (by decide +kernel)
set_option maxRecDepth 20000 in
theorem gX3_looking_X2_sumOfAll_n203 : GoodIn wsX3_looking (wsX2_sumOfAll) := ggX3_looking_X2_sumOfAll
set_option maxRecDepth 20000 in
theorem ggX3_looking_X3_inLeastTerms : GoodIn wsX3_looking wsX3_inLeastTerms := goodIn_r _ [119, 120, 121, 60, 122] (by decide +kernel) (by decide +kernel)
set_option maxRecDepth 20000 in
theorem gX3_looking_X3_inLeastTerms : GoodIn wsX3_looking (va_wsS RX3 207 yX3_inLeastTerms wsX3_inLeastTerms) := goodIn_app (goodIn_of _ (by decide +kernel)) ggX3_looking_X3_inLeastTerms
set_option maxRecDepth 20000 in
theorem ggX3_bestTest_X3_isOneOf : GoodIn wsX3_bestTest wsX3_isOneOf := goodIn_r _ [5] (by decide +kernel) (by decide +kernel)
set_option maxRecDepth 20000 in
theorem gX3_bestTest_X3_isOneOf : GoodIn wsX3_bestTest (va_wsS RX3 70 yX3_isOneOf wsX3_isOneOf) := goodIn_app (goodIn_of _ (by decide +kernel)) ggX3_bestTest_X3_isOneOf
set_option maxRecDepth 20000 in
theorem ggX3_bestTest_X3_refusalInHand : GoodIn wsX3_bestTest wsX3_refusalInHand := goodIn_r _ [9, 10, 11, 12, 13, 14, 15, 16, 17, 18, 19, 20, 21, 3, 4, 5, 111, 112, 113, 114, 115, 116, 117, 118, 119, 120, 121, 122, 123, 124, 125, 126, 127, 128, 129, 130, 131, 132, 133, 134] (by decide +kernel) (by decide +kernel)
set_option maxRecDepth 20000 in
theorem gX3_bestTest_X3_refusalInHand : GoodIn wsX3_bestTest (wsV RX3 175 RX3 yX3_refusalInHand wsX3_refusalInHand) := goodIn_app (goodIn_of _ (by decide +kernel)) ggX3_bestTest_X3_refusalInHand
set_option maxRecDepth 20000 in
theorem ggX3_bestTest_X3_refuse : GoodIn wsX3_bestTest wsX3_refuse := goodIn_r _ [25, 26, 111, 112, 113, 114, 115, 116, 117, 118, 119, 120, 121, 122, 123, 124] (by decide +kernel) (by decide +kernel)
set_option maxRecDepth 20000 in
theorem gX3_bestTest_X3_refuse : GoodIn wsX3_bestTest (wsV RX3 74 RX3 yX3_refuse wsX3_refuse) := goodIn_app (goodIn_of _ (by decide +kernel)) ggX3_bestTest_X3_refuse
set_option maxRecDepth 20000 in
theorem ggX3_bestTest_X3_think : GoodIn wsX3_bestTest wsX3_think := goodIn_r _ [30, 10, 31, 1, 11, 12, 13, 14, 15, 16, 17, 18, 19, 20, 21, 3, 4, 5, 32, 33, 34, 35, 36, 37, 38, 39, 40, 41, 42, 43, 44, 45, 46, 47, 48, 49, 50, 51, 52, 53, 54, 55, 56, 57, 58, 59, 60, 61, 62, 63, 64, 65, 66, 67, 68, 69, 70, 71, 72, 73, 74, 75, 76, 77, 78, 79, 80, 81, 82, 83, 111, 112, 113, 114, 115, 116, 117, 118, 119, 120, 121, 122, 123, 124, 125, 126, 127, 128, 129, 130, 131, 132, 133, 134, 135, 136, 137, 138, 139] (by decide +kernel) (by decide +kernel)
set_option maxRecDepth 20000 in
theorem gX3_bestTest_X3_think : GoodIn wsX3_bestTest (wsV RX3 189 RX3 yX3_think wsX3_think) := goodIn_app (goodIn_of _ (by decide +kernel)) ggX3_bestTest_X3_think
set_option maxRecDepth 20000 in
theorem ggX3_bestTest_X3_testWorth : GoodIn wsX3_bestTest wsX3_testWorth := goodIn_r _ [87, 31, 10, 88, 89, 12, 90, 91, 92, 93, 54, 94, 95, 96, 97, 98, 99, 100, 101, 102, 103, 67, 4, 68, 80, 45, 81, 82, 83, 57, 58, 48, 69, 70, 71, 72, 33, 73, 74, 36, 75, 76, 77, 64, 65, 78, 79, 104, 105, 106, 107, 108, 109, 110, 111, 112, 113, 114, 115, 116, 117, 118, 119, 120, 121, 122, 123, 124, 135, 136, 137, 138, 125, 126, 127, 128, 129, 130, 131, 132, 133, 134, 139] (by decide +kernel) (by decide +kernel)
set_option maxRecDepth 20000 in
theorem gX3_bestTest_X3_testWorth : GoodIn wsX3_bestTest (wsV RX3 243 RX3 yX3_testWorth wsX3_testWorth) := goodIn_app (goodIn_of _ (by decide +kernel)) ggX3_bestTest_X3_testWorth
set_option maxRecDepth 20000 in
theorem ggX3_two_X3_isOneOf : GoodIn wsX3_two wsX3_isOneOf := goodIn_r _ [4] (by decide +kernel) (by decide +kernel)
set_option maxRecDepth 20000 in
theorem gX3_two_X3_isOneOf : GoodIn wsX3_two (va_wsS RX3 70 yX3_isOneOf wsX3_isOneOf) := goodIn_app (goodIn_of _ (by decide +kernel)) ggX3_two_X3_isOneOf
set_option maxRecDepth 20000 in
theorem ggX3_two_X3_refusalInHand : GoodIn wsX3_two wsX3_refusalInHand := goodIn_r _ [8, 9, 10, 11, 12, 13, 14, 15, 16, 17, 18, 19, 20, 2, 3, 4, 117, 118, 119, 120, 121, 122, 123, 124, 125, 126, 127, 128, 129, 130, 131, 132, 133, 134, 135, 136, 137, 138, 139, 140] (by decide +kernel) (by decide +kernel)
set_option maxRecDepth 20000 in
theorem gX3_two_X3_refusalInHand : GoodIn wsX3_two (wsV RX3 175 RX3 yX3_refusalInHand wsX3_refusalInHand) := goodIn_app (goodIn_of _ (by decide +kernel)) ggX3_two_X3_refusalInHand
set_option maxRecDepth 20000 in
theorem ggX3_two_X3_refuse : GoodIn wsX3_two wsX3_refuse := goodIn_r _ [24, 25, 117, 118, 119, 120, 121, 122, 123, 124, 125, 126, 127, 128, 129, 130] (by decide +kernel) (by decide +kernel)
set_option maxRecDepth 20000 in
theorem gX3_two_X3_refuse : GoodIn wsX3_two (wsV RX3 74 RX3 yX3_refuse wsX3_refuse) := goodIn_app (goodIn_of _ (by decide +kernel)) ggX3_two_X3_refuse
set_option maxRecDepth 20000 in
theorem ggX3_two_X3_think : GoodIn wsX3_two wsX3_think := goodIn_r _ [29, 9, 30, 31, 10, 11, 12, 13, 14, 15, 16, 17, 18, 19, 20, 2, 3, 4, 32, 33, 34, 35, 36, 37, 38, 39, 40, 41, 42, 43, 44, 45, 46, 47, 48, 49, 50, 51, 52, 53, 54, 55, 56, 57, 58, 59, 60, 61, 62, 63, 64, 65, 66, 67, 68, 69, 70, 71, 72, 73, 74, 75, 76, 77, 78, 79, 80, 81, 82, 83, 117, 118, 119, 120, 121, 122, 123, 124, 125, 126, 127, 128, 129, 130, 131, 132, 133, 134, 135, 136, 137, 138, 139, 140, 141, 142, 143, 144, 145] (by decide +kernel) (by decide +kernel)
set_option maxRecDepth 20000 in
theorem gX3_two_X3_think : GoodIn wsX3_two (wsV RX3 189 RX3 yX3_think wsX3_think) := goodIn_app (goodIn_of _ (by decide +kernel)) ggX3_two_X3_think
set_option maxRecDepth 20000 in
theorem ggX3_two_X3_pairWorth : GoodIn wsX3_two wsX3_pairWorth := goodIn_r _ [87, 88, 31, 89, 30, 90, 91, 92, 3, 93, 9, 94, 95, 11, 96, 97, 98, 99, 54, 100, 101, 102, 103, 104, 105, 106, 107, 108, 109, 67, 68, 80, 45, 81, 82, 83, 57, 58, 48, 69, 70, 71, 72, 33, 73, 74, 36, 75, 76, 77, 64, 65, 78, 79, 110, 111, 112, 113, 114, 115, 116, 117, 118, 119, 120, 121, 122, 123, 124, 125, 126, 127, 128, 129, 130, 141, 142, 143, 144, 131, 132, 133, 134, 135, 136, 137, 138, 139, 140, 145] (by decide +kernel) (by decide +kernel)
set_option maxRecDepth 20000 in
theorem gX3_two_X3_pairWorth : GoodIn wsX3_two (wsV RX3 248 RX3 yX3_pairWorth wsX3_pairWorth) := goodIn_app (goodIn_of _ (by decide +kernel)) ggX3_two_X3_pairWorth
set_option maxRecDepth 20000 in
theorem ggX3_twoWorth_X3_isOneOf : GoodIn wsX3_twoWorth wsX3_isOneOf := goodIn_r _ [10] (by decide +kernel) (by decide +kernel)
set_option maxRecDepth 20000 in
theorem gX3_twoWorth_X3_isOneOf : GoodIn wsX3_twoWorth (va_wsS RX3 70 yX3_isOneOf wsX3_isOneOf) := goodIn_app (goodIn_of _ (by decide +kernel)) ggX3_twoWorth_X3_isOneOf
set_option maxRecDepth 20000 in
theorem ggX3_twoWorth_X3_refusalInHand : GoodIn wsX3_twoWorth wsX3_refusalInHand := goodIn_r _ [14, 15, 16, 17, 18, 19, 20, 21, 22, 23, 24, 25, 26, 8, 9, 10, 130, 131, 132, 133, 134, 135, 136, 137, 138, 139, 140, 141, 142, 143, 144, 145, 146, 147, 148, 149, 150, 151, 152, 153] (by decide +kernel) (by decide +kernel)
set_option maxRecDepth 20000 in
theorem gX3_twoWorth_X3_refusalInHand : GoodIn wsX3_twoWorth (wsV RX3 175 RX3 yX3_refusalInHand wsX3_refusalInHand) := goodIn_app (goodIn_of _ (by decide +kernel)) ggX3_twoWorth_X3_refusalInHand
set_option maxRecDepth 20000 in
theorem ggX3_twoWorth_X3_refuseLong : GoodIn wsX3_twoWorth wsX3_refuseLong := goodIn_r _ [30, 31, 32, 33, 34, 9, 35, 36, 130, 131, 132, 133, 134, 135, 136, 137, 138, 139, 140, 141, 142, 143] (by decide +kernel) (by decide +kernel)
set_option maxRecDepth 20000 in
theorem gX3_twoWorth_X3_refuseLong : GoodIn wsX3_twoWorth (wsV RX3 195 RX3 yX3_refuseLong wsX3_refuseLong) := goodIn_app (goodIn_of _ (by decide +kernel)) ggX3_twoWorth_X3_refuseLong
set_option maxRecDepth 20000 in
theorem ggX3_twoWorth_X3_think : GoodIn wsX3_twoWorth wsX3_think := goodIn_r _ [40, 15, 41, 6, 16, 17, 18, 19, 20, 21, 22, 23, 24, 25, 26, 8, 9, 10, 42, 43, 44, 45, 46, 47, 48, 49, 50, 51, 52, 53, 54, 55, 56, 57, 58, 59, 60, 61, 62, 63, 3, 64, 65, 66, 67, 68, 69, 70, 71, 72, 73, 74, 75, 76, 77, 78, 79, 80, 81, 82, 83, 84, 85, 86, 87, 88, 89, 90, 91, 92, 130, 131, 132, 133, 134, 135, 136, 137, 138, 139, 140, 141, 142, 143, 144, 145, 146, 147, 148, 149, 150, 151, 152, 153, 154, 155, 156, 157, 158] (by decide +kernel) (by decide +kernel)
set_option maxRecDepth 20000 in
theorem gX3_twoWorth_X3_think : GoodIn wsX3_twoWorth (wsV RX3 189 RX3 yX3_think wsX3_think) := goodIn_app (goodIn_of _ (by decide +kernel)) ggX3_twoWorth_X3_think
set_option maxRecDepth 20000 in
theorem ggX3_twoWorth_X3_pairWorth : GoodIn wsX3_twoWorth wsX3_pairWorth := goodIn_r _ [96, 97, 6, 98, 41, 99, 100, 101, 9, 102, 15, 103, 104, 17, 105, 106, 107, 2, 3, 4, 108, 109, 110, 111, 112, 113, 114, 115, 116, 76, 77, 89, 55, 90, 91, 92, 66, 67, 58, 78, 79, 80, 81, 43, 82, 83, 46, 84, 85, 86, 73, 74, 87, 88, 117, 118, 119, 120, 121, 122, 123, 130, 131, 132, 133, 134, 135, 136, 137, 138, 139, 140, 141, 142, 143, 154, 155, 156, 157, 144, 145, 146, 147, 148, 149, 150, 151, 152, 153, 158] (by decide +kernel) (by decide +kernel)
set_option maxRecDepth 20000 in
theorem gX3_twoWorth_X3_pairWorth : GoodIn wsX3_twoWorth (wsV RX3 248 RX3 yX3_pairWorth wsX3_pairWorth) := goodIn_app (goodIn_of _ (by decide +kernel)) ggX3_twoWorth_X3_pairWorth
set_option maxRecDepth 20000 in
theorem ggX3_twoWorth_X2_sumOfAll : GoodIn wsX3_twoWorth wsX2_sumOfAll := goodIn_r _ [123, 88, 89, 90, 55, 91, 92, 66, 3, 67, 58, 158] (by decide +kernel) (by decide +kernel)
set_option maxRecDepth 20000 in
theorem gX3_twoWorth_X2_sumOfAll_n203 : GoodIn wsX3_twoWorth (wsX2_sumOfAll) := ggX3_twoWorth_X2_sumOfAll
set_option maxRecDepth 20000 in
theorem ggX3_twoWorth_X3_inLeastTerms : GoodIn wsX3_twoWorth wsX3_inLeastTerms := goodIn_r _ [126, 127, 128, 3, 129] (by decide +kernel) (by decide +kernel)
set_option maxRecDepth 20000 in
theorem gX3_twoWorth_X3_inLeastTerms : GoodIn wsX3_twoWorth (va_wsS RX3 207 yX3_inLeastTerms wsX3_inLeastTerms) := goodIn_app (goodIn_of _ (by decide +kernel)) ggX3_twoWorth_X3_inLeastTerms
set_option maxRecDepth 20000 in
theorem ggX3_free_X3_isOneOf : GoodIn wsX3_free wsX3_isOneOf := goodIn_r _ [4] (by decide +kernel) (by decide +kernel)
set_option maxRecDepth 20000 in
theorem gX3_free_X3_isOneOf : GoodIn wsX3_free (va_wsS RX3 70 yX3_isOneOf wsX3_isOneOf) := goodIn_app (goodIn_of _ (by decide +kernel)) ggX3_free_X3_isOneOf
set_option maxRecDepth 20000 in
theorem ggX3_free_X3_refusalInHand : GoodIn wsX3_free wsX3_refusalInHand := goodIn_r _ [8, 9, 10, 11, 12, 13, 14, 15, 16, 17, 18, 19, 20, 2, 3, 4, 118, 119, 120, 121, 122, 123, 124, 125, 126, 127, 128, 129, 130, 131, 132, 133, 134, 135, 136, 137, 138, 139, 140, 141] (by decide +kernel) (by decide +kernel)
set_option maxRecDepth 20000 in
theorem gX3_free_X3_refusalInHand : GoodIn wsX3_free (wsV RX3 175 RX3 yX3_refusalInHand wsX3_refusalInHand) := goodIn_app (goodIn_of _ (by decide +kernel)) ggX3_free_X3_refusalInHand
set_option maxRecDepth 20000 in
theorem ggX3_free_X3_refuse : GoodIn wsX3_free wsX3_refuse := goodIn_r _ [24, 25, 118, 119, 120, 121, 122, 123, 124, 125, 126, 127, 128, 129, 130, 131] (by decide +kernel) (by decide +kernel)
set_option maxRecDepth 20000 in
theorem gX3_free_X3_refuse : GoodIn wsX3_free (wsV RX3 74 RX3 yX3_refuse wsX3_refuse) := goodIn_app (goodIn_of _ (by decide +kernel)) ggX3_free_X3_refuse
set_option maxRecDepth 20000 in
theorem ggX3_free_X3_think : GoodIn wsX3_free wsX3_think := goodIn_r _ [29, 9, 30, 31, 10, 11, 12, 13, 14, 15, 16, 17, 18, 19, 20, 2, 3, 4, 32, 33, 34, 35, 36, 37, 38, 39, 40, 41, 42, 43, 44, 45, 46, 47, 48, 49, 50, 51, 52, 53, 54, 55, 56, 57, 58, 59, 60, 61, 62, 63, 64, 65, 66, 67, 68, 69, 70, 71, 72, 73, 74, 75, 76, 77, 78, 79, 80, 81, 82, 83, 118, 119, 120, 121, 122, 123, 124, 125, 126, 127, 128, 129, 130, 131, 132, 133, 134, 135, 136, 137, 138, 139, 140, 141, 142, 143, 144, 145, 146] (by decide +kernel) (by decide +kernel)
set_option maxRecDepth 20000 in
theorem gX3_free_X3_think : GoodIn wsX3_free (wsV RX3 189 RX3 yX3_think wsX3_think) := goodIn_app (goodIn_of _ (by decide +kernel)) ggX3_free_X3_think
set_option maxRecDepth 20000 in
theorem ggX3_free_X3_firstWorth : GoodIn wsX3_free wsX3_firstWorth := goodIn_r _ [87, 88, 31, 89, 30, 90, 91, 54, 92, 93, 94, 95, 3, 96, 9, 97, 98, 11, 99, 100, 101, 102, 103, 104, 105, 106, 107, 108, 109, 110, 67, 68, 80, 45, 81, 82, 83, 57, 58, 48, 69, 70, 71, 72, 33, 73, 74, 36, 75, 76, 77, 64, 65, 78, 79, 111, 112, 113, 114, 115, 116, 117, 118, 119, 120, 121, 122, 123, 124, 125, 126, 127, 128, 129, 130, 131, 142, 143, 144, 145, 132, 133, 134, 135, 136, 137, 138, 139, 140, 141, 146] (by decide +kernel) (by decide +kernel)
set_option maxRecDepth 20000 in
theorem gX3_free_X3_firstWorth : GoodIn wsX3_free (wsV RX3 256 RX3 yX3_firstWorth wsX3_firstWorth) := goodIn_app (goodIn_of _ (by decide +kernel)) ggX3_free_X3_firstWorth
set_option maxRecDepth 20000 in
theorem ggX3_freeWorth_X3_isOneOf : GoodIn wsX3_freeWorth wsX3_isOneOf := goodIn_r _ [10] (by decide +kernel) (by decide +kernel)
set_option maxRecDepth 20000 in
theorem gX3_freeWorth_X3_isOneOf : GoodIn wsX3_freeWorth (va_wsS RX3 70 yX3_isOneOf wsX3_isOneOf) := goodIn_app (goodIn_of _ (by decide +kernel)) ggX3_freeWorth_X3_isOneOf
set_option maxRecDepth 20000 in
theorem ggX3_freeWorth_X3_refusalInHand : GoodIn wsX3_freeWorth wsX3_refusalInHand := goodIn_r _ [14, 15, 16, 17, 18, 19, 20, 21, 22, 23, 24, 25, 26, 8, 9, 10, 130, 131, 132, 133, 134, 135, 136, 137, 138, 139, 140, 141, 142, 143, 144, 145, 146, 147, 148, 149, 150, 151, 152, 153] (by decide +kernel) (by decide +kernel)
set_option maxRecDepth 20000 in
theorem gX3_freeWorth_X3_refusalInHand : GoodIn wsX3_freeWorth (wsV RX3 175 RX3 yX3_refusalInHand wsX3_refusalInHand) := goodIn_app (goodIn_of _ (by decide +kernel)) ggX3_freeWorth_X3_refusalInHand
set_option maxRecDepth 20000 in
theorem ggX3_freeWorth_X3_refuseLong : GoodIn wsX3_freeWorth wsX3_refuseLong := goodIn_r _ [30, 31, 32, 33, 34, 9, 35, 36, 130, 131, 132, 133, 134, 135, 136, 137, 138, 139, 140, 141, 142, 143] (by decide +kernel) (by decide +kernel)
set_option maxRecDepth 20000 in
theorem gX3_freeWorth_X3_refuseLong : GoodIn wsX3_freeWorth (wsV RX3 195 RX3 yX3_refuseLong wsX3_refuseLong) := goodIn_app (goodIn_of _ (by decide +kernel)) ggX3_freeWorth_X3_refuseLong
set_option maxRecDepth 20000 in
theorem ggX3_freeWorth_X3_think : GoodIn wsX3_freeWorth wsX3_think := goodIn_r _ [40, 15, 41, 6, 16, 17, 18, 19, 20, 21, 22, 23, 24, 25, 26, 8, 9, 10, 42, 43, 44, 45, 46, 47, 48, 49, 50, 51, 52, 53, 54, 55, 56, 57, 58, 59, 60, 61, 62, 63, 3, 64, 65, 66, 67, 68, 69, 70, 71, 72, 73, 74, 75, 76, 77, 78, 79, 80, 81, 82, 83, 84, 85, 86, 87, 88, 89, 90, 91, 92, 130, 131, 132, 133, 134, 135, 136, 137, 138, 139, 140, 141, 142, 143, 144, 145, 146, 147, 148, 149, 150, 151, 152, 153, 154, 155, 156, 157, 158] (by decide +kernel) (by decide +kernel)
set_option maxRecDepth 20000 in
theorem gX3_freeWorth_X3_think : GoodIn wsX3_freeWorth (wsV RX3 189 RX3 yX3_think wsX3_think) := goodIn_app (goodIn_of _ (by decide +kernel)) ggX3_freeWorth_X3_think
set_option maxRecDepth 20000 in
theorem ggX3_freeWorth_X3_firstWorth : GoodIn wsX3_freeWorth wsX3_firstWorth := goodIn_r _ [96, 97, 6, 98, 41, 1, 2, 3, 4, 99, 100, 101, 9, 102, 15, 103, 104, 17, 105, 106, 107, 108, 109, 110, 111, 112, 113, 114, 115, 116, 76, 77, 89, 55, 90, 91, 92, 66, 67, 58, 78, 79, 80, 81, 43, 82, 83, 46, 84, 85, 86, 73, 74, 87, 88, 117, 118, 119, 120, 121, 122, 123, 130, 131, 132, 133, 134, 135, 136, 137, 138, 139, 140, 141, 142, 143, 154, 155, 156, 157, 144, 145, 146, 147, 148, 149, 150, 151, 152, 153, 158] (by decide +kernel) (by decide +kernel)
set_option maxRecDepth 20000 in
theorem gX3_freeWorth_X3_firstWorth : GoodIn wsX3_freeWorth (wsV RX3 256 RX3 yX3_firstWorth wsX3_firstWorth) := goodIn_app (goodIn_of _ (by decide +kernel)) ggX3_freeWorth_X3_firstWorth
set_option maxRecDepth 20000 in
theorem ggX3_freeWorth_X2_sumOfAll : GoodIn wsX3_freeWorth wsX2_sumOfAll := goodIn_r _ [123, 88, 89, 90, 55, 91, 92, 66, 3, 67, 58, 158] (by decide +kernel) (by decide +kernel)
set_option maxRecDepth 20000 in
theorem gX3_freeWorth_X2_sumOfAll_n203 : GoodIn wsX3_freeWorth (wsX2_sumOfAll) := ggX3_freeWorth_X2_sumOfAll
set_option maxRecDepth 20000 in
theorem ggX3_freeWorth_X3_inLeastTerms : GoodIn wsX3_freeWorth wsX3_inLeastTerms := goodIn_r _ [126, 127, 128, 3, 129] (by decide +kernel) (by decide +kernel)
set_option maxRecDepth 20000 in
theorem gX3_freeWorth_X3_inLeastTerms : GoodIn wsX3_freeWorth (va_wsS RX3 207 yX3_inLeastTerms wsX3_inLeastTerms) := goodIn_app (goodIn_of _ (by decide +kernel)) ggX3_freeWorth_X3_inLeastTerms
set_option maxRecDepth 20000 in
theorem ggX3_useless_X3_isOneOf : GoodIn wsX3_useless wsX3_isOneOf := goodIn_r _ [6] (by decide +kernel) (by decide +kernel)
set_option maxRecDepth 20000 in
theorem gX3_useless_X3_isOneOf : GoodIn wsX3_useless (va_wsS RX3 70 yX3_isOneOf wsX3_isOneOf) := goodIn_app (goodIn_of _ (by decide +kernel)) ggX3_useless_X3_isOneOf
set_option maxRecDepth 20000 in
theorem ggX3_useless_X3_refusalInHand : GoodIn wsX3_useless wsX3_refusalInHand := goodIn_r _ [10, 1, 11, 12, 13, 14, 15, 16, 17, 18, 19, 20, 21, 4, 5, 6, 104, 105, 106, 107, 108, 109, 110, 111, 112, 113, 114, 115, 116, 117, 118, 119, 120, 121, 122, 123, 124, 125, 126, 127] (by decide +kernel) (by decide +kernel)
set_option maxRecDepth 20000 in
theorem gX3_useless_X3_refusalInHand : GoodIn wsX3_useless (wsV RX3 175 RX3 yX3_refusalInHand wsX3_refusalInHand) := goodIn_app (goodIn_of _ (by decide +kernel)) ggX3_useless_X3_refusalInHand
set_option maxRecDepth 20000 in
theorem ggX3_useless_X3_refuse : GoodIn wsX3_useless wsX3_refuse := goodIn_r _ [25, 26, 104, 105, 106, 107, 108, 109, 110, 111, 112, 113, 114, 115, 116, 117] (by decide +kernel) (by decide +kernel)
set_option maxRecDepth 20000 in
theorem gX3_useless_X3_refuse : GoodIn wsX3_useless (wsV RX3 74 RX3 yX3_refuse wsX3_refuse) := goodIn_app (goodIn_of _ (by decide +kernel)) ggX3_useless_X3_refuse
set_option maxRecDepth 20000 in
theorem ggX3_useless_X3_think : GoodIn wsX3_useless wsX3_think := goodIn_r _ [30, 1, 31, 2, 11, 12, 13, 14, 15, 16, 17, 18, 19, 20, 21, 4, 5, 6, 32, 33, 34, 35, 36, 37, 38, 39, 40, 41, 42, 43, 44, 45, 46, 47, 48, 49, 50, 51, 52, 53, 54, 55, 56, 57, 58, 59, 60, 61, 62, 63, 64, 65, 66, 67, 68, 69, 70, 71, 72, 73, 74, 75, 76, 77, 78, 79, 80, 81, 82, 83, 104, 105, 106, 107, 108, 109, 110, 111, 112, 113, 114, 115, 116, 117, 118, 119, 120, 121, 122, 123, 124, 125, 126, 127, 128, 129, 130, 131, 132] (by decide +kernel) (by decide +kernel)
set_option maxRecDepth 20000 in
theorem gX3_useless_X3_think : GoodIn wsX3_useless (wsV RX3 189 RX3 yX3_think wsX3_think) := goodIn_app (goodIn_of _ (by decide +kernel)) ggX3_useless_X3_think
set_option maxRecDepth 20000 in
theorem ggX3_useless_X1_bestUse : GoodIn wsX3_useless wsX1_bestUse := goodIn_r _ [86, 87, 88, 89, 12, 90, 91, 92, 93, 94, 95, 67, 5, 68, 80, 45, 81, 82, 83, 57, 54, 58, 48, 118, 119, 120, 121, 122, 123, 124, 125, 126, 127, 132] (by decide +kernel) (by decide +kernel)
set_option maxRecDepth 20000 in
theorem gX3_useless_X1_bestUse_n215 : GoodIn wsX3_useless (wsX1_bestUse) := ggX3_useless_X1_bestUse
set_option maxRecDepth 20000 in
theorem ggX3_useless_X3_staysBest : GoodIn wsX3_useless wsX3_staysBest := goodIn_r _ [99, 100, 2, 31, 1, 69, 45, 70, 71, 48, 72, 33, 73, 74, 36, 67, 5, 68, 75, 76, 77, 64, 54, 65, 78, 57, 58, 79, 80, 81, 82, 83, 101, 102, 103, 84, 12, 85, 86, 87, 88, 89, 90, 91, 92, 93, 94, 95, 104, 105, 106, 107, 108, 109, 110, 111, 112, 113, 114, 115, 116, 117, 132, 128, 129, 130, 131, 118, 119, 120, 121, 122, 123, 124, 125, 126, 127] (by decide +kernel) (by decide +kernel)
set_option maxRecDepth 20000 in
theorem gX3_useless_X3_staysBest : GoodIn wsX3_useless (wsV RX3 259 RX3 yX3_staysBest wsX3_staysBest) := goodIn_app (goodIn_of _ (by decide +kernel)) ggX3_useless_X3_staysBest
set_option maxRecDepth 20000 in
theorem ggX3_staysBest_X2_narrow : GoodIn wsX3_staysBest wsX2_narrow := goodIn_r _ [8, 9, 10, 11, 12, 13, 14, 15, 16, 17, 18, 19, 20, 21, 22, 23, 24, 25, 26, 27, 28, 29, 6, 30, 31, 62, 63, 64, 65, 66] (by decide +kernel) (by decide +kernel)
set_option maxRecDepth 20000 in
theorem gX3_staysBest_X2_narrow_n236 : GoodIn wsX3_staysBest (wsX2_narrow) := ggX3_staysBest_X2_narrow
set_option maxRecDepth 20000 in
theorem ggX3_staysBest_X2_sumOfAll : GoodIn wsX3_staysBest wsX2_sumOfAll := goodIn_r _ [34, 27, 28, 29, 6, 30, 31, 25, 22, 26, 9, 62] (by decide +kernel) (by decide +kernel)
set_option maxRecDepth 20000 in
theorem gX3_staysBest_X2_sumOfAll_n203 : GoodIn wsX3_staysBest (wsX2_sumOfAll) := ggX3_staysBest_X2_sumOfAll
set_option maxRecDepth 20000 in
theorem ggX3_staysBest_X1_bestUse : GoodIn wsX3_staysBest wsX1_bestUse := goodIn_r _ [38, 39, 40, 41, 36, 42, 43, 44, 45, 46, 47, 15, 16, 17, 28, 6, 29, 30, 31, 25, 22, 26, 9, 67, 68, 69, 70, 71, 72, 73, 74, 75, 76, 62] (by decide +kernel) (by decide +kernel)
set_option maxRecDepth 20000 in
theorem gX3_staysBest_X1_bestUse_n215 : GoodIn wsX3_staysBest (wsX1_bestUse) := ggX3_staysBest_X1_bestUse
set_option maxRecDepth 20000 in
theorem ggX3_testWorth_X1_bestSum : GoodIn wsX3_testWorth wsX1_bestSum := goodIn_r _ [7, 8, 9, 10, 11, 12, 13, 14, 5, 15, 16, 17, 18, 19, 20, 21, 22, 23, 24, 25, 26, 27, 28, 29, 30, 31, 72, 73, 74, 75, 76, 77, 78, 79, 80, 81, 82] (by decide +kernel) (by decide +kernel)
set_option maxRecDepth 20000 in
theorem gX3_testWorth_X1_bestSum_n263 : GoodIn wsX3_testWorth (wsX1_bestSum) := ggX3_testWorth_X1_bestSum
set_option maxRecDepth 20000 in
theorem ggX3_testWorth_X2_narrow : GoodIn wsX3_testWorth wsX2_narrow := goodIn_r _ [34, 31, 35, 36, 37, 38, 39, 21, 22, 23, 40, 41, 42, 43, 10, 44, 45, 29, 30, 46, 24, 26, 25, 27, 28, 82, 68, 69, 70, 71] (by decide +kernel) (by decide +kernel)
set_option maxRecDepth 20000 in
theorem gX3_testWorth_X2_narrow_n236 : GoodIn wsX3_testWorth (wsX2_narrow) := ggX3_testWorth_X2_narrow
set_option maxRecDepth 20000 in
theorem ggX3_testWorth_X1_costOf : GoodIn wsX3_testWorth wsX1_costOf := goodIn_r _ [49, 50, 21, 22, 23, 72, 73, 74, 75, 76, 77, 78, 79, 80, 81] (by decide +kernel) (by decide +kernel)
set_option maxRecDepth 20000 in
theorem gX3_testWorth_X1_costOf_n186 : GoodIn wsX3_testWorth (wsX1_costOf) := ggX3_testWorth_X1_costOf
set_option maxRecDepth 20000 in
theorem ggX3_testWorth_X2_sumOfAll : GoodIn wsX3_testWorth wsX2_sumOfAll := goodIn_r _ [53, 46, 24, 26, 25, 27, 28, 29, 10, 30, 31, 82] (by decide +kernel) (by decide +kernel)
set_option maxRecDepth 20000 in
theorem gX3_testWorth_X2_sumOfAll_n203 : GoodIn wsX3_testWorth (wsX2_sumOfAll) := ggX3_testWorth_X2_sumOfAll
set_option maxRecDepth 20000 in
theorem ggX3_pairWorth_X3_testWorth : GoodIn wsX3_pairWorth wsX3_testWorth := goodIn_r _ [9, 4, 10, 11, 12, 13, 14, 15, 16, 17, 18, 19, 20, 21, 22, 23, 24, 25, 26, 27, 28, 29, 8, 30, 31, 32, 33, 34, 35, 36, 37, 38, 39, 40, 41, 42, 43, 44, 45, 46, 47, 48, 49, 50, 51, 52, 53, 54, 55, 56, 57, 58, 59, 60, 61, 62, 63, 64, 65, 66, 67, 68, 69, 70, 71, 72, 73, 74, 75, 76, 77, 78, 79, 80, 81, 82, 83, 84, 85, 86, 87, 88, 89] (by decide +kernel) (by decide +kernel)
set_option maxRecDepth 20000 in
theorem gX3_pairWorth_X3_testWorth : GoodIn wsX3_pairWorth (wsV RX3 243 RX3 yX3_testWorth wsX3_testWorth) := goodIn_app (goodIn_of _ (by decide +kernel)) ggX3_pairWorth_X3_testWorth
set_option maxRecDepth 20000 in
theorem ggX3_pairWorth_X2_narrow : GoodIn wsX3_pairWorth wsX2_narrow := goodIn_r _ [41, 38, 42, 43, 44, 45, 46, 29, 8, 30, 47, 48, 49, 50, 18, 51, 52, 36, 37, 53, 31, 33, 32, 34, 35, 89, 75, 76, 77, 78] (by decide +kernel) (by decide +kernel)
set_option maxRecDepth 20000 in
theorem gX3_pairWorth_X2_narrow_n236 : GoodIn wsX3_pairWorth (wsX2_narrow) := ggX3_pairWorth_X2_narrow
set_option maxRecDepth 20000 in
theorem ggX3_firstWorth_X3_testWorth : GoodIn wsX3_firstWorth wsX3_testWorth := goodIn_r _ [13, 4, 14, 15, 16, 17, 18, 19, 20, 6, 7, 8, 21, 22, 23, 24, 25, 26, 27, 28, 29, 30, 12, 31, 32, 33, 34, 35, 36, 37, 38, 39, 40, 41, 42, 43, 44, 45, 46, 47, 48, 49, 50, 51, 52, 53, 54, 55, 56, 57, 58, 59, 60, 61, 62, 63, 64, 65, 66, 67, 68, 69, 70, 71, 72, 73, 74, 75, 76, 77, 78, 79, 80, 81, 82, 83, 84, 85, 86, 87, 88, 89, 90] (by decide +kernel) (by decide +kernel)
set_option maxRecDepth 20000 in
theorem gX3_firstWorth_X3_testWorth : GoodIn wsX3_firstWorth (wsV RX3 243 RX3 yX3_testWorth wsX3_testWorth) := goodIn_app (goodIn_of _ (by decide +kernel)) ggX3_firstWorth_X3_testWorth
set_option maxRecDepth 20000 in
theorem ggX3_firstWorth_X2_narrow : GoodIn wsX3_firstWorth wsX2_narrow := goodIn_r _ [42, 39, 43, 44, 45, 46, 47, 30, 12, 31, 48, 49, 50, 51, 7, 52, 53, 37, 38, 54, 32, 34, 33, 35, 36, 90, 76, 77, 78, 79] (by decide +kernel) (by decide +kernel)
set_option maxRecDepth 20000 in
theorem gX3_firstWorth_X2_narrow_n236 : GoodIn wsX3_firstWorth (wsX2_narrow) := ggX3_firstWorth_X2_narrow
set_option maxRecDepth 20000 in
theorem ggX3_person_X3_isOneOf : GoodIn wsX3_person wsX3_isOneOf := goodIn_r _ [5] (by decide +kernel) (by decide +kernel)
set_option maxRecDepth 20000 in
theorem gX3_person_X3_isOneOf : GoodIn wsX3_person (va_wsS RX3 70 yX3_isOneOf wsX3_isOneOf) := goodIn_app (goodIn_of _ (by decide +kernel)) ggX3_person_X3_isOneOf
set_option maxRecDepth 20000 in
theorem ggX3_person_X3_refuse : GoodIn wsX3_person wsX3_refuse := goodIn_r _ [9, 10, 17, 18, 19, 20, 21, 22, 23, 24, 25, 26, 27, 28, 29, 30] (by decide +kernel) (by decide +kernel)
set_option maxRecDepth 20000 in
theorem gX3_person_X3_refuse : GoodIn wsX3_person (wsV RX3 74 RX3 yX3_refuse wsX3_refuse) := goodIn_app (goodIn_of _ (by decide +kernel)) ggX3_person_X3_refuse
set_option maxRecDepth 20000 in
theorem ggX3_person_X1_addPerson : GoodIn wsX3_person wsX1_addPerson := goodIn_r _ [14, 15, 16, 3, 4, 5, 31, 32, 33, 34, 35, 36, 37, 38, 39, 40] (by decide +kernel) (by decide +kernel)
set_option maxRecDepth 20000 in
theorem gX3_person_X1_addPerson_n266 : GoodIn wsX3_person (wsX1_addPerson) := ggX3_person_X1_addPerson
set_option maxRecDepth 20000 in
theorem ggX3_said_X3_isOneOf : GoodIn wsX3_said wsX3_isOneOf := goodIn_r _ [7] (by decide +kernel) (by decide +kernel)
set_option maxRecDepth 20000 in
theorem gX3_said_X3_isOneOf : GoodIn wsX3_said (va_wsS RX3 70 yX3_isOneOf wsX3_isOneOf) := goodIn_app (goodIn_of _ (by decide +kernel)) ggX3_said_X3_isOneOf
set_option maxRecDepth 20000 in
theorem ggX3_said_X3_refusalInHand : GoodIn wsX3_said wsX3_refusalInHand := goodIn_r _ [11, 1, 12, 13, 14, 15, 16, 17, 18, 19, 20, 21, 22, 5, 6, 7, 111, 112, 113, 114, 115, 116, 117, 118, 119, 120, 121, 122, 123, 124, 125, 126, 127, 128, 129, 130, 131, 132, 133, 134] (by decide +kernel) (by decide +kernel)
set_option maxRecDepth 20000 in
theorem gX3_said_X3_refusalInHand : GoodIn wsX3_said (wsV RX3 175 RX3 yX3_refusalInHand wsX3_refusalInHand) := goodIn_app (goodIn_of _ (by decide +kernel)) ggX3_said_X3_refusalInHand
set_option maxRecDepth 20000 in
theorem ggX3_said_X3_refuseLong : GoodIn wsX3_said wsX3_refuseLong := goodIn_r _ [26, 27, 28, 29, 30, 6, 31, 32, 111, 112, 113, 114, 115, 116, 117, 118, 119, 120, 121, 122, 123, 124] (by decide +kernel) (by decide +kernel)
set_option maxRecDepth 20000 in
theorem gX3_said_X3_refuseLong : GoodIn wsX3_said (wsV RX3 195 RX3 yX3_refuseLong wsX3_refuseLong) := goodIn_app (goodIn_of _ (by decide +kernel)) ggX3_said_X3_refuseLong
set_option maxRecDepth 20000 in
theorem ggX3_said_X3_think : GoodIn wsX3_said wsX3_think := goodIn_r _ [36, 1, 37, 2, 12, 13, 14, 15, 16, 17, 18, 19, 20, 21, 22, 5, 6, 7, 38, 39, 40, 41, 42, 43, 44, 45, 46, 47, 48, 49, 50, 51, 52, 53, 54, 55, 56, 57, 58, 59, 60, 61, 62, 63, 64, 65, 66, 67, 68, 69, 70, 71, 72, 73, 74, 75, 76, 77, 78, 79, 80, 81, 82, 83, 84, 85, 86, 87, 88, 89, 111, 112, 113, 114, 115, 116, 117, 118, 119, 120, 121, 122, 123, 124, 125, 126, 127, 128, 129, 130, 131, 132, 133, 134, 135, 136, 137, 138, 139] (by decide +kernel) (by decide +kernel)
set_option maxRecDepth 20000 in
theorem gX3_said_X3_think : GoodIn wsX3_said (wsV RX3 189 RX3 yX3_think wsX3_think) := goodIn_app (goodIn_of _ (by decide +kernel)) ggX3_said_X3_think
set_option maxRecDepth 20000 in
theorem ggX3_said_X2_sumOfAll : GoodIn wsX3_said wsX2_sumOfAll := goodIn_r _ [92, 85, 86, 87, 51, 88, 89, 63, 60, 64, 54, 139] (by decide +kernel) (by decide +kernel)
set_option maxRecDepth 20000 in
theorem gX3_said_X2_sumOfAll_n203 : GoodIn wsX3_said (wsX2_sumOfAll) := ggX3_said_X2_sumOfAll
set_option maxRecDepth 20000 in
theorem ggX3_said_X3_at : GoodIn wsX3_said wsX3_at := goodIn_r _ [74] (by decide +kernel) (by decide +kernel)
set_option maxRecDepth 20000 in
theorem gX3_said_X3_at : GoodIn wsX3_said (va_wsS RX3 136 yX3_at wsX3_at) := goodIn_app (goodIn_of _ (by decide +kernel)) ggX3_said_X3_at
set_option maxRecDepth 20000 in
theorem ggX3_said_X3_hear : GoodIn wsX3_said wsX3_hear := goodIn_r _ [96, 2, 97, 98, 99, 6, 100, 37, 78, 39, 79, 80, 42, 73, 74, 81, 82, 83, 70, 60, 71, 84, 63, 64, 101, 102, 51, 103, 104, 54, 5, 7, 111, 112, 113, 114, 115, 116, 117, 118, 119, 120, 121, 122, 123, 124, 135, 136, 137, 138, 139] (by decide +kernel) (by decide +kernel)
set_option maxRecDepth 20000 in
theorem gX3_said_X3_hear : GoodIn wsX3_said (wsV RX3 275 RX3 yX3_hear wsX3_hear) := goodIn_app (goodIn_of _ (by decide +kernel)) ggX3_said_X3_hear
set_option maxRecDepth 20000 in
theorem ggX3_said_X3_inLeastTerms : GoodIn wsX3_said wsX3_inLeastTerms := goodIn_r _ [107, 108, 109, 60, 110] (by decide +kernel) (by decide +kernel)
set_option maxRecDepth 20000 in
theorem gX3_said_X3_inLeastTerms : GoodIn wsX3_said (va_wsS RX3 207 yX3_inLeastTerms wsX3_inLeastTerms) := goodIn_app (goodIn_of _ (by decide +kernel)) ggX3_said_X3_inLeastTerms
set_option maxRecDepth 20000 in
theorem ggX3_said_X2_sumOf : GoodIn wsX3_said wsX2_sumOf := goodIn_r _ [88, 89, 63, 60, 64, 54, 139] (by decide +kernel) (by decide +kernel)
set_option maxRecDepth 20000 in
theorem gX3_said_X2_sumOf_n199 : GoodIn wsX3_said (wsX2_sumOf) := ggX3_said_X2_sumOf
set_option maxRecDepth 20000 in
theorem ggX3_ask_X3_refusalInHand : GoodIn wsX3_ask wsX3_refusalInHand := goodIn_r _ [7, 2, 8, 9, 10, 11, 12, 13, 14, 15, 16, 17, 18, 19, 6, 20, 99, 100, 101, 102, 103, 104, 105, 106, 107, 108, 109, 110, 111, 112, 113, 114, 115, 116, 117, 118, 119, 120, 121, 122] (by decide +kernel) (by decide +kernel)
set_option maxRecDepth 20000 in
theorem gX3_ask_X3_refusalInHand : GoodIn wsX3_ask (wsV RX3 175 RX3 yX3_refusalInHand wsX3_refusalInHand) := goodIn_app (goodIn_of _ (by decide +kernel)) ggX3_ask_X3_refusalInHand
set_option maxRecDepth 20000 in
theorem ggX3_ask_X3_refuse : GoodIn wsX3_ask wsX3_refuse := goodIn_r _ [24, 25, 99, 100, 101, 102, 103, 104, 105, 106, 107, 108, 109, 110, 111, 112] (by decide +kernel) (by decide +kernel)
set_option maxRecDepth 20000 in
theorem gX3_ask_X3_refuse : GoodIn wsX3_ask (wsV RX3 74 RX3 yX3_refuse wsX3_refuse) := goodIn_app (goodIn_of _ (by decide +kernel)) ggX3_ask_X3_refuse
set_option maxRecDepth 20000 in
theorem ggX3_ask_X3_at : GoodIn wsX3_ask wsX3_at := goodIn_r _ [28] (by decide +kernel) (by decide +kernel)
set_option maxRecDepth 20000 in
theorem gX3_ask_X3_at : GoodIn wsX3_ask (va_wsS RX3 136 yX3_at wsX3_at) := goodIn_app (goodIn_of _ (by decide +kernel)) ggX3_ask_X3_at
set_option maxRecDepth 20000 in
theorem ggX3_ask_X3_toldRightly : GoodIn wsX3_ask wsX3_toldRightly := goodIn_r _ [32, 33, 34, 35, 36, 6, 37, 2, 38, 8, 9, 10, 11, 12, 13, 14, 15, 16, 17, 18, 19, 20, 39, 40, 41, 42, 43, 44, 45, 46, 47, 48, 49, 50, 51, 52, 53, 54, 55, 56, 57, 58, 59, 60, 61, 62, 63, 64, 65, 66, 67, 68, 69, 70, 71, 72, 26, 27, 28, 73, 74, 75, 76, 77, 78, 79, 80, 81, 82, 83, 84, 85, 86, 87, 88, 89, 90, 91, 92, 93, 94, 95, 96, 97, 98, 99, 100, 101, 102, 103, 104, 105, 106, 107, 108, 109, 110, 111, 112, 113, 114, 115, 116, 117, 118, 119, 120, 121, 122, 123, 124, 125, 126, 127] (by decide +kernel) (by decide +kernel)
set_option maxRecDepth 20000 in
theorem gX3_ask_X3_toldRightly : GoodIn wsX3_ask (wsV RX3 281 RX3 yX3_toldRightly wsX3_toldRightly) := goodIn_app (goodIn_of _ (by decide +kernel)) ggX3_ask_X3_toldRightly
set_option maxRecDepth 20000 in
theorem ggX3_hear_X3_personTenths : GoodIn wsX3_hear wsX3_personTenths := goodIn_r _ [6, 7, 8, 9, 10, 11, 12, 13, 5, 14, 15, 16, 17, 18, 19, 20, 21, 22, 23, 24, 32, 33, 34, 35, 36, 37, 38, 39, 40, 41, 42, 43, 44, 45, 46, 47, 48, 49] (by decide +kernel) (by decide +kernel)
set_option maxRecDepth 20000 in
theorem gX3_hear_X3_personTenths : GoodIn wsX3_hear (wsV RX3 284 RX3 yX3_personTenths wsX3_personTenths) := goodIn_app (goodIn_of _ (by decide +kernel)) ggX3_hear_X3_personTenths
set_option maxRecDepth 20000 in
theorem ggX3_hear_X2_times : GoodIn wsX3_hear wsX2_times := goodIn_r _ [28, 29, 30, 5, 31, 50] (by decide +kernel) (by decide +kernel)
set_option maxRecDepth 20000 in
theorem gX3_hear_X2_times_n287 : GoodIn wsX3_hear (wsX2_times) := ggX3_hear_X2_times
set_option maxRecDepth 20000 in
theorem ggX3_toldRightly_X3_think : GoodIn wsX3_toldRightly wsX3_think := goodIn_r _ [6, 7, 8, 1, 9, 10, 11, 12, 13, 14, 15, 16, 17, 18, 19, 20, 5, 21, 22, 23, 24, 25, 26, 27, 28, 29, 30, 31, 32, 33, 34, 35, 36, 37, 38, 39, 40, 41, 42, 43, 44, 45, 46, 47, 48, 49, 50, 51, 52, 53, 54, 55, 56, 57, 58, 59, 60, 61, 62, 63, 64, 65, 66, 67, 68, 69, 70, 71, 72, 73, 85, 86, 87, 88, 89, 90, 91, 92, 93, 94, 95, 96, 97, 98, 99, 100, 101, 102, 103, 104, 105, 106, 107, 108, 109, 110, 111, 112, 113] (by decide +kernel) (by decide +kernel)
set_option maxRecDepth 20000 in
theorem gX3_toldRightly_X3_think : GoodIn wsX3_toldRightly (wsV RX3 189 RX3 yX3_think wsX3_think) := goodIn_app (goodIn_of _ (by decide +kernel)) ggX3_toldRightly_X3_think
set_option maxRecDepth 20000 in
theorem ggX3_toldRightly_X3_personTenths : GoodIn wsX3_toldRightly wsX3_personTenths := goodIn_r _ [77, 8, 62, 23, 63, 64, 26, 57, 5, 58, 65, 66, 67, 54, 44, 55, 68, 47, 48, 78, 85, 86, 87, 88, 89, 90, 91, 92, 93, 94, 95, 96, 97, 98, 109, 110, 111, 112] (by decide +kernel) (by decide +kernel)
set_option maxRecDepth 20000 in
theorem gX3_toldRightly_X3_personTenths : GoodIn wsX3_toldRightly (wsV RX3 284 RX3 yX3_personTenths wsX3_personTenths) := goodIn_app (goodIn_of _ (by decide +kernel)) ggX3_toldRightly_X3_personTenths
set_option maxRecDepth 20000 in
theorem ggX3_toldRightly_X2_times : GoodIn wsX3_toldRightly wsX2_times := goodIn_r _ [81, 38, 20, 5, 21, 113] (by decide +kernel) (by decide +kernel)
set_option maxRecDepth 20000 in
theorem gX3_toldRightly_X2_times_n287 : GoodIn wsX3_toldRightly (wsX2_times) := ggX3_toldRightly_X2_times
set_option maxRecDepth 20000 in
theorem ggX3_toldRightly_X2_sumOfAll : GoodIn wsX3_toldRightly wsX2_sumOfAll := goodIn_r _ [84, 69, 70, 71, 35, 72, 73, 47, 44, 48, 38, 113] (by decide +kernel) (by decide +kernel)
set_option maxRecDepth 20000 in
theorem gX3_toldRightly_X2_sumOfAll_n203 : GoodIn wsX3_toldRightly (wsX2_sumOfAll) := ggX3_toldRightly_X2_sumOfAll
set_option maxRecDepth 20000 in
theorem ggX3_personTenths_X0_offTenths : GoodIn wsX3_personTenths wsX0_offTenths := goodIn_r _ [5, 6, 7, 8, 9, 10, 11, 12, 13, 14, 15, 16, 17, 18, 34, 35, 36, 37] (by decide +kernel) (by decide +kernel)
set_option maxRecDepth 20000 in
theorem gX3_personTenths_X0_offTenths_n192 : GoodIn wsX3_personTenths (wsX0_offTenths) := ggX3_personTenths_X0_offTenths
set_option maxRecDepth 20000 in
theorem ggX3_personTenths_X3_heldTenths : GoodIn wsX3_personTenths wsX3_heldTenths := goodIn_r _ [11, 12, 13, 14, 15, 16, 17, 18] (by decide +kernel) (by decide +kernel)
set_option maxRecDepth 20000 in
theorem gX3_personTenths_X3_heldTenths : GoodIn wsX3_personTenths (va_wsS RX3 290 yX3_heldTenths wsX3_heldTenths) := goodIn_app (goodIn_of _ (by decide +kernel)) ggX3_personTenths_X3_heldTenths
set_option maxRecDepth 20000 in
theorem ggX3_keep_X3_isOneOf : GoodIn wsX3_keep wsX3_isOneOf := goodIn_r _ [8] (by decide +kernel) (by decide +kernel)
set_option maxRecDepth 20000 in
theorem gX3_keep_X3_isOneOf : GoodIn wsX3_keep (va_wsS RX3 70 yX3_isOneOf wsX3_isOneOf) := goodIn_app (goodIn_of _ (by decide +kernel)) ggX3_keep_X3_isOneOf
set_option maxRecDepth 20000 in
theorem ggX3_keep_X3_refusalInHand : GoodIn wsX3_keep wsX3_refusalInHand := goodIn_r _ [12, 4, 13, 14, 15, 16, 17, 18, 19, 20, 21, 22, 23, 6, 7, 8, 110, 111, 112, 113, 114, 115, 116, 117, 118, 119, 120, 121, 122, 123, 128, 129, 130, 131, 132, 133, 134, 135, 136, 137] (by decide +kernel) (by decide +kernel)
set_option maxRecDepth 20000 in
theorem gX3_keep_X3_refusalInHand : GoodIn wsX3_keep (wsV RX3 175 RX3 yX3_refusalInHand wsX3_refusalInHand) := goodIn_app (goodIn_of _ (by decide +kernel)) ggX3_keep_X3_refusalInHand
set_option maxRecDepth 20000 in
theorem ggX3_keep_X3_refuse : GoodIn wsX3_keep wsX3_refuse := goodIn_r _ [27, 28, 110, 111, 112, 113, 114, 115, 116, 117, 118, 119, 120, 121, 122, 123] (by decide +kernel) (by decide +kernel)
set_option maxRecDepth 20000 in
theorem gX3_keep_X3_refuse : GoodIn wsX3_keep (wsV RX3 74 RX3 yX3_refuse wsX3_refuse) := goodIn_app (goodIn_of _ (by decide +kernel)) ggX3_keep_X3_refuse
set_option maxRecDepth 20000 in
theorem ggX3_keep_X3_think : GoodIn wsX3_keep wsX3_think := goodIn_r _ [32, 4, 2, 33, 13, 14, 15, 16, 17, 18, 19, 20, 21, 22, 23, 6, 7, 8, 34, 35, 36, 37, 38, 39, 40, 41, 42, 43, 44, 45, 46, 47, 48, 49, 50, 51, 52, 53, 54, 55, 56, 57, 58, 59, 60, 61, 62, 63, 64, 65, 66, 67, 68, 69, 70, 71, 72, 73, 74, 75, 76, 77, 78, 79, 80, 81, 82, 83, 84, 85, 110, 111, 112, 113, 114, 115, 116, 117, 118, 119, 120, 121, 122, 123, 128, 129, 130, 131, 132, 133, 134, 135, 136, 137, 124, 125, 126, 127, 138] (by decide +kernel) (by decide +kernel)
set_option maxRecDepth 20000 in
theorem gX3_keep_X3_think : GoodIn wsX3_keep (wsV RX3 189 RX3 yX3_think wsX3_think) := goodIn_app (goodIn_of _ (by decide +kernel)) ggX3_keep_X3_think
set_option maxRecDepth 20000 in
theorem ggX3_keep_X0_fillFrom : GoodIn wsX3_keep wsX0_fillFrom := goodIn_r _ [37, 38, 39, 40, 41, 42, 43, 44, 35, 45, 124, 125, 126, 127] (by decide +kernel) (by decide +kernel)
set_option maxRecDepth 20000 in
theorem gX3_keep_X0_fillFrom_n223 : GoodIn wsX3_keep (wsX0_fillFrom) := ggX3_keep_X0_fillFrom
set_option maxRecDepth 20000 in
theorem ggX3_keep_X2_weigh : GoodIn wsX3_keep wsX2_weigh := goodIn_r _ [49, 50, 51, 35, 52, 53, 54, 55, 56, 57, 58, 59, 60, 38, 61, 62, 63, 64, 41, 65, 66, 67, 138, 124, 125, 126, 127] (by decide +kernel) (by decide +kernel)
set_option maxRecDepth 20000 in
theorem gX3_keep_X2_weigh_n227 : GoodIn wsX3_keep (wsX2_weigh) := ggX3_keep_X2_weigh
set_option maxRecDepth 20000 in
theorem ggX3_keep_X2_sumOfAll : GoodIn wsX3_keep wsX2_sumOfAll := goodIn_r _ [88, 81, 82, 83, 47, 84, 85, 59, 56, 60, 50, 138] (by decide +kernel) (by decide +kernel)
set_option maxRecDepth 20000 in
theorem gX3_keep_X2_sumOfAll_n203 : GoodIn wsX3_keep (wsX2_sumOfAll) := ggX3_keep_X2_sumOfAll
set_option maxRecDepth 20000 in
theorem ggX3_keep_X1_bestSum : GoodIn wsX3_keep wsX1_bestSum := goodIn_r _ [91, 92, 93, 56, 94, 95, 96, 97, 14, 98, 99, 100, 101, 102, 103, 69, 7, 70, 82, 47, 83, 84, 85, 59, 60, 50, 128, 129, 130, 131, 132, 133, 134, 135, 136, 137, 138] (by decide +kernel) (by decide +kernel)
set_option maxRecDepth 20000 in
theorem gX3_keep_X1_bestSum_n263 : GoodIn wsX3_keep (wsX1_bestSum) := ggX3_keep_X1_bestSum
set_option maxRecDepth 20000 in
theorem ggX3_keep_X0_coldPoints : GoodIn wsX3_keep wsX0_coldPoints := goodIn_r _ [106, 38, 124, 125, 126, 127] (by decide +kernel) (by decide +kernel)
set_option maxRecDepth 20000 in
theorem gX3_keep_X0_coldPoints_n160 : GoodIn wsX3_keep (wsX0_coldPoints) := ggX3_keep_X0_coldPoints
set_option maxRecDepth 20000 in
theorem ggX3_keep_X0_gain : GoodIn wsX3_keep wsX0_gain := goodIn_r _ [109, 41, 65, 66, 56, 67, 124, 125, 126, 127] (by decide +kernel) (by decide +kernel)
set_option maxRecDepth 20000 in
theorem gX3_keep_X0_gain_n169 : GoodIn wsX3_keep (wsX0_gain) := ggX3_keep_X0_gain
set_option maxRecDepth 20000 in
theorem ggX3_seldom_X3_isOneOf : GoodIn wsX3_seldom wsX3_isOneOf := goodIn_r _ [7] (by decide +kernel) (by decide +kernel)
set_option maxRecDepth 20000 in
theorem gX3_seldom_X3_isOneOf : GoodIn wsX3_seldom (va_wsS RX3 70 yX3_isOneOf wsX3_isOneOf) := goodIn_app (goodIn_of _ (by decide +kernel)) ggX3_seldom_X3_isOneOf
set_option maxRecDepth 20000 in
theorem ggX3_seldom_X3_refusalInHand : GoodIn wsX3_seldom wsX3_refusalInHand := goodIn_r _ [11, 2, 12, 13, 14, 15, 16, 17, 18, 19, 20, 21, 22, 5, 6, 7, 106, 107, 108, 109, 110, 111, 112, 113, 114, 115, 116, 117, 118, 119, 120, 121, 122, 123, 124, 125, 126, 127, 128, 129] (by decide +kernel) (by decide +kernel)
set_option maxRecDepth 20000 in
theorem gX3_seldom_X3_refusalInHand : GoodIn wsX3_seldom (wsV RX3 175 RX3 yX3_refusalInHand wsX3_refusalInHand) := goodIn_app (goodIn_of _ (by decide +kernel)) ggX3_seldom_X3_refusalInHand
set_option maxRecDepth 20000 in
theorem ggX3_seldom_X3_refusalOutside : GoodIn wsX3_seldom wsX3_refusalOutside := goodIn_r _ [25] (by decide +kernel) (by decide +kernel)
set_option maxRecDepth 20000 in
theorem gX3_seldom_X3_refusalOutside : GoodIn wsX3_seldom (va_wsS RX3 66 yX3_refusalOutside wsX3_refusalOutside) := goodIn_app (goodIn_of _ (by decide +kernel)) ggX3_seldom_X3_refusalOutside
set_option maxRecDepth 20000 in
theorem ggX3_seldom_X3_refuse : GoodIn wsX3_seldom wsX3_refuse := goodIn_r _ [29, 30, 106, 107, 108, 109, 110, 111, 112, 113, 114, 115, 116, 117, 118, 119] (by decide +kernel) (by decide +kernel)
set_option maxRecDepth 20000 in
theorem gX3_seldom_X3_refuse : GoodIn wsX3_seldom (wsV RX3 74 RX3 yX3_refuse wsX3_refuse) := goodIn_app (goodIn_of _ (by decide +kernel)) ggX3_seldom_X3_refuse
set_option maxRecDepth 20000 in
theorem ggX3_seldom_X3_think : GoodIn wsX3_seldom wsX3_think := goodIn_r _ [34, 2, 35, 1, 12, 13, 14, 15, 16, 17, 18, 19, 20, 21, 22, 5, 6, 7, 36, 37, 38, 39, 40, 41, 42, 43, 44, 45, 46, 47, 48, 49, 50, 51, 52, 53, 54, 55, 56, 57, 58, 59, 60, 61, 62, 63, 64, 65, 66, 67, 68, 69, 70, 71, 72, 73, 74, 75, 76, 77, 78, 79, 80, 81, 82, 83, 84, 85, 86, 87, 106, 107, 108, 109, 110, 111, 112, 113, 114, 115, 116, 117, 118, 119, 120, 121, 122, 123, 124, 125, 126, 127, 128, 129, 130, 131, 132, 133, 134] (by decide +kernel) (by decide +kernel)
set_option maxRecDepth 20000 in
theorem gX3_seldom_X3_think : GoodIn wsX3_seldom (wsV RX3 189 RX3 yX3_think wsX3_think) := goodIn_app (goodIn_of _ (by decide +kernel)) ggX3_seldom_X3_think
set_option maxRecDepth 20000 in
theorem ggX3_seldom_X2_sumOfAll : GoodIn wsX3_seldom wsX2_sumOfAll := goodIn_r _ [90, 83, 84, 85, 49, 86, 87, 61, 58, 62, 52, 134] (by decide +kernel) (by decide +kernel)
set_option maxRecDepth 20000 in
theorem gX3_seldom_X2_sumOfAll_n203 : GoodIn wsX3_seldom (wsX2_sumOfAll) := ggX3_seldom_X2_sumOfAll
set_option maxRecDepth 20000 in
theorem ggX3_seldom_X1_netSum : GoodIn wsX3_seldom wsX1_netSum := goodIn_r _ [93, 94, 95, 96, 13, 97, 98, 71, 6, 72, 84, 49, 85, 86, 87, 61, 58, 62, 52, 120, 121, 122, 123, 124, 125, 126, 127, 128, 129, 134] (by decide +kernel) (by decide +kernel)
set_option maxRecDepth 20000 in
theorem gX3_seldom_X1_netSum_n211 : GoodIn wsX3_seldom (wsX1_netSum) := ggX3_seldom_X1_netSum
set_option maxRecDepth 20000 in
theorem ggX3_seldom_X3_harmSum : GoodIn wsX3_seldom wsX3_harmSum := goodIn_r _ [101, 102, 103, 6, 104, 105, 70, 71, 72, 84, 49, 85, 86, 87, 61, 58, 62, 52, 134] (by decide +kernel) (by decide +kernel)
set_option maxRecDepth 20000 in
theorem gX3_seldom_X3_harmSum : GoodIn wsX3_seldom (va_wsS RX3 219 yX3_harmSum wsX3_harmSum) := goodIn_app (goodIn_of _ (by decide +kernel)) ggX3_seldom_X3_harmSum
set_option maxRecDepth 20000 in
theorem ggX3_join_X1_jugAt : GoodIn wsX3_join wsX1_jugAt := goodIn_r _ [8, 9, 10, 11, 12, 13, 102, 103, 104, 105, 106, 107, 108, 109, 110, 111] (by decide +kernel) (by decide +kernel)
set_option maxRecDepth 20000 in
theorem gX3_join_X1_jugAt_n140 : GoodIn wsX3_join (wsX1_jugAt) := ggX3_join_X1_jugAt
set_option maxRecDepth 20000 in
theorem ggX3_join_X3_isOneOf : GoodIn wsX3_join wsX3_isOneOf := goodIn_r _ [13] (by decide +kernel) (by decide +kernel)
set_option maxRecDepth 20000 in
theorem gX3_join_X3_isOneOf : GoodIn wsX3_join (va_wsS RX3 70 yX3_isOneOf wsX3_isOneOf) := goodIn_app (goodIn_of _ (by decide +kernel)) ggX3_join_X3_isOneOf
set_option maxRecDepth 20000 in
theorem ggX3_join_X3_refuseLong : GoodIn wsX3_join wsX3_refuseLong := goodIn_r _ [18, 19, 20, 21, 22, 12, 23, 24, 84, 85, 86, 87, 88, 89, 90, 91, 92, 93, 94, 95, 96, 97] (by decide +kernel) (by decide +kernel)
set_option maxRecDepth 20000 in
theorem gX3_join_X3_refuseLong : GoodIn wsX3_join (wsV RX3 195 RX3 yX3_refuseLong wsX3_refuseLong) := goodIn_app (goodIn_of _ (by decide +kernel)) ggX3_join_X3_refuseLong
set_option maxRecDepth 20000 in
theorem ggX3_join_X2_weigh : GoodIn wsX3_join wsX2_weigh := goodIn_r _ [28, 29, 30, 31, 32, 33, 34, 35, 36, 37, 38, 39, 40, 41, 42, 43, 44, 45, 46, 47, 48, 49, 112, 98, 99, 100, 101] (by decide +kernel) (by decide +kernel)
set_option maxRecDepth 20000 in
theorem gX3_join_X2_weigh_n227 : GoodIn wsX3_join (wsX2_weigh) := ggX3_join_X2_weigh
set_option maxRecDepth 20000 in
theorem ggX3_join_X2_worseOf : GoodIn wsX3_join wsX2_worseOf := goodIn_r _ [52, 29, 53, 54, 55, 26, 56, 57, 39, 36, 40, 112] (by decide +kernel) (by decide +kernel)
set_option maxRecDepth 20000 in
theorem gX3_join_X2_worseOf_n293 : GoodIn wsX3_join (wsX2_worseOf) := ggX3_join_X2_worseOf
set_option maxRecDepth 20000 in
theorem ggX3_join_X2_sumOfAll : GoodIn wsX3_join wsX2_sumOfAll := goodIn_r _ [60, 53, 54, 55, 26, 56, 57, 39, 36, 40, 29, 112] (by decide +kernel) (by decide +kernel)
set_option maxRecDepth 20000 in
theorem gX3_join_X2_sumOfAll_n203 : GoodIn wsX3_join (wsX2_sumOfAll) := ggX3_join_X2_sumOfAll
set_option maxRecDepth 20000 in
theorem ggX3_join_X1_bestSum : GoodIn wsX3_join wsX1_bestSum := goodIn_r _ [63, 64, 65, 36, 66, 67, 68, 69, 6, 70, 71, 72, 73, 74, 75, 76, 12, 77, 54, 26, 55, 56, 57, 39, 40, 29, 102, 103, 104, 105, 106, 107, 108, 109, 110, 111, 112] (by decide +kernel) (by decide +kernel)
set_option maxRecDepth 20000 in
theorem gX3_join_X1_bestSum_n263 : GoodIn wsX3_join (wsX1_bestSum) := ggX3_join_X1_bestSum
set_option maxRecDepth 20000 in
theorem ggX3_join_X3_inLeastTerms : GoodIn wsX3_join wsX3_inLeastTerms := goodIn_r _ [80, 81, 82, 36, 83] (by decide +kernel) (by decide +kernel)
set_option maxRecDepth 20000 in
theorem gX3_join_X3_inLeastTerms : GoodIn wsX3_join (va_wsS RX3 207 yX3_inLeastTerms wsX3_inLeastTerms) := goodIn_app (goodIn_of _ (by decide +kernel)) ggX3_join_X3_inLeastTerms
set_option maxRecDepth 20000 in
theorem ggX3_larder_X3_refuse : GoodIn wsX3_larder wsX3_refuse := goodIn_r _ [6, 7, 21, 22, 23, 24, 25, 26, 27, 28, 29, 30, 31, 32, 33, 34] (by decide +kernel) (by decide +kernel)
set_option maxRecDepth 20000 in
theorem gX3_larder_X3_refuse : GoodIn wsX3_larder (wsV RX3 74 RX3 yX3_refuse wsX3_refuse) := goodIn_app (goodIn_of _ (by decide +kernel)) ggX3_larder_X3_refuse
set_option maxRecDepth 20000 in
theorem ggX3_larder_X3_larderCosts : GoodIn wsX3_larder wsX3_larderCosts := goodIn_r _ [11, 12, 13, 14, 15, 16, 17, 18, 19, 5, 20, 21, 22, 23, 24, 25, 26, 27, 28, 29, 30, 31, 32, 33, 34, 35, 36, 37, 38, 39, 40, 41, 42, 43, 44] (by decide +kernel) (by decide +kernel)
set_option maxRecDepth 20000 in
theorem gX3_larder_X3_larderCosts : GoodIn wsX3_larder (wsV RX3 297 RX3 yX3_larderCosts wsX3_larderCosts) := goodIn_app (goodIn_of _ (by decide +kernel)) ggX3_larder_X3_larderCosts
set_option maxRecDepth 20000 in
theorem ggX3_buy_X3_refuse : GoodIn wsX3_buy wsX3_refuse := goodIn_r _ [6, 7, 21, 22, 23, 24, 25, 26, 27, 28, 29, 30, 31, 32, 33, 34] (by decide +kernel) (by decide +kernel)
set_option maxRecDepth 20000 in
theorem gX3_buy_X3_refuse : GoodIn wsX3_buy (wsV RX3 74 RX3 yX3_refuse wsX3_refuse) := goodIn_app (goodIn_of _ (by decide +kernel)) ggX3_buy_X3_refuse
set_option maxRecDepth 20000 in
theorem ggX3_buy_X3_larderCosts : GoodIn wsX3_buy wsX3_larderCosts := goodIn_r _ [11, 12, 13, 14, 15, 16, 17, 18, 19, 5, 20, 21, 22, 23, 24, 25, 26, 27, 28, 29, 30, 31, 32, 33, 34, 35, 36, 37, 38, 39, 40, 41, 42, 43, 44] (by decide +kernel) (by decide +kernel)
set_option maxRecDepth 20000 in
theorem gX3_buy_X3_larderCosts : GoodIn wsX3_buy (wsV RX3 297 RX3 yX3_larderCosts wsX3_larderCosts) := goodIn_app (goodIn_of _ (by decide +kernel)) ggX3_buy_X3_larderCosts
set_option maxRecDepth 20000 in
theorem ggX3_larderCosts_X3_at : GoodIn wsX3_larderCosts wsX3_at := goodIn_r _ [10] (by decide +kernel) (by decide +kernel)
set_option maxRecDepth 20000 in
theorem gX3_larderCosts_X3_at : GoodIn wsX3_larderCosts (va_wsS RX3 136 yX3_at wsX3_at) := goodIn_app (goodIn_of _ (by decide +kernel)) ggX3_larderCosts_X3_at
set_option maxRecDepth 20000 in
theorem ggX3_rule_X1_jugAt : GoodIn wsX3_rule wsX1_jugAt := goodIn_r _ [5, 6, 7, 8, 9, 10, 96, 97, 98, 99, 100, 101, 102, 103, 104, 105] (by decide +kernel) (by decide +kernel)
set_option maxRecDepth 20000 in
theorem gX3_rule_X1_jugAt_n140 : GoodIn wsX3_rule (wsX1_jugAt) := ggX3_rule_X1_jugAt
set_option maxRecDepth 20000 in
theorem ggX3_rule_X3_isOneOf : GoodIn wsX3_rule wsX3_isOneOf := goodIn_r _ [10] (by decide +kernel) (by decide +kernel)
set_option maxRecDepth 20000 in
theorem gX3_rule_X3_isOneOf : GoodIn wsX3_rule (va_wsS RX3 70 yX3_isOneOf wsX3_isOneOf) := goodIn_app (goodIn_of _ (by decide +kernel)) ggX3_rule_X3_isOneOf
set_option maxRecDepth 20000 in
theorem ggX3_rule_X3_refuseBig : GoodIn wsX3_rule wsX3_refuseBig := goodIn_r _ [15, 16, 17, 18, 19, 9, 20, 21, 82, 83, 84, 85, 86, 87, 88, 89, 90, 91, 92, 93, 94, 95] (by decide +kernel) (by decide +kernel)
set_option maxRecDepth 20000 in
theorem gX3_rule_X3_refuseBig : GoodIn wsX3_rule (wsV RX3 304 RX3 yX3_refuseBig wsX3_refuseBig) := goodIn_app (goodIn_of _ (by decide +kernel)) ggX3_rule_X3_refuseBig
set_option maxRecDepth 20000 in
theorem ggX3_rule_X3_useByRule : GoodIn wsX3_rule wsX3_useByRule := goodIn_r _ [25, 26, 1, 27, 28, 29, 30, 31, 32, 33, 34, 35, 36, 37, 9, 38, 39, 40, 41, 42, 43, 44, 45, 46, 47, 48, 49, 50, 51, 52, 53, 54, 55, 56, 57, 58, 59, 60, 61, 62, 3, 63, 64, 65, 66, 67, 68, 69, 70, 71, 72, 73, 74, 75, 76, 77, 106, 107, 108, 109, 82, 83, 84, 85, 86, 87, 88, 89, 90, 91, 92, 93, 94, 95, 110, 96, 97, 98, 99, 100, 101, 102, 103, 104, 105] (by decide +kernel) (by decide +kernel)
set_option maxRecDepth 20000 in
theorem gX3_rule_X3_useByRule : GoodIn wsX3_rule (wsV RX3 307 RX3 yX3_useByRule wsX3_useByRule) := goodIn_app (goodIn_of _ (by decide +kernel)) ggX3_rule_X3_useByRule
set_option maxRecDepth 20000 in
theorem ggX3_rule_X3_trueNet : GoodIn wsX3_rule wsX3_trueNet := goodIn_r _ [81, 1, 27, 28, 29, 30, 31, 32, 33, 34, 35, 70, 3, 71, 72, 73, 44, 9, 45, 106, 107, 108, 109, 82, 83, 84, 85, 86, 87, 88, 89, 90, 91, 92, 93, 94, 95, 96, 97, 98, 99, 100, 101, 102, 103, 104, 105] (by decide +kernel) (by decide +kernel)
set_option maxRecDepth 20000 in
theorem gX3_rule_X3_trueNet : GoodIn wsX3_rule (wsV RX3 311 RX3 yX3_trueNet wsX3_trueNet) := goodIn_app (goodIn_of _ (by decide +kernel)) ggX3_rule_X3_trueNet
set_option maxRecDepth 20000 in
theorem ggX3_bestRule_X3_isOneOf : GoodIn wsX3_bestRule wsX3_isOneOf := goodIn_r _ [5] (by decide +kernel) (by decide +kernel)
set_option maxRecDepth 20000 in
theorem gX3_bestRule_X3_isOneOf : GoodIn wsX3_bestRule (va_wsS RX3 70 yX3_isOneOf wsX3_isOneOf) := goodIn_app (goodIn_of _ (by decide +kernel)) ggX3_bestRule_X3_isOneOf
set_option maxRecDepth 20000 in
theorem ggX3_bestRule_X3_refuse : GoodIn wsX3_bestRule wsX3_refuse := goodIn_r _ [9, 10, 77, 78, 79, 80, 81, 82, 83, 84, 85, 86, 87, 88, 89, 90] (by decide +kernel) (by decide +kernel)
set_option maxRecDepth 20000 in
theorem gX3_bestRule_X3_refuse : GoodIn wsX3_bestRule (wsV RX3 74 RX3 yX3_refuse wsX3_refuse) := goodIn_app (goodIn_of _ (by decide +kernel)) ggX3_bestRule_X3_refuse
set_option maxRecDepth 20000 in
theorem ggX3_bestRule_X1_jugAt : GoodIn wsX3_bestRule wsX1_jugAt := goodIn_r _ [14, 15, 16, 3, 4, 5, 91, 92, 93, 94, 95, 96, 97, 98, 99, 100] (by decide +kernel) (by decide +kernel)
set_option maxRecDepth 20000 in
theorem gX3_bestRule_X1_jugAt_n140 : GoodIn wsX3_bestRule (wsX1_jugAt) := ggX3_bestRule_X1_jugAt
set_option maxRecDepth 20000 in
theorem ggX3_bestRule_X3_useByRule : GoodIn wsX3_bestRule wsX3_useByRule := goodIn_r _ [20, 21, 1, 22, 23, 24, 25, 26, 27, 28, 29, 30, 31, 32, 4, 33, 34, 35, 36, 37, 38, 39, 40, 41, 42, 43, 44, 45, 46, 47, 48, 49, 50, 51, 52, 53, 54, 55, 56, 57, 12, 58, 59, 60, 61, 62, 63, 64, 65, 66, 67, 68, 69, 70, 71, 72, 101, 102, 103, 104, 77, 78, 79, 80, 81, 82, 83, 84, 85, 86, 87, 88, 89, 90, 105, 91, 92, 93, 94, 95, 96, 97, 98, 99, 100] (by decide +kernel) (by decide +kernel)
set_option maxRecDepth 20000 in
theorem gX3_bestRule_X3_useByRule : GoodIn wsX3_bestRule (wsV RX3 307 RX3 yX3_useByRule wsX3_useByRule) := goodIn_app (goodIn_of _ (by decide +kernel)) ggX3_bestRule_X3_useByRule
set_option maxRecDepth 20000 in
theorem ggX3_bestRule_X3_trueNet : GoodIn wsX3_bestRule wsX3_trueNet := goodIn_r _ [76, 1, 22, 23, 24, 25, 26, 27, 28, 29, 30, 65, 12, 66, 67, 68, 39, 4, 40, 101, 102, 103, 104, 77, 78, 79, 80, 81, 82, 83, 84, 85, 86, 87, 88, 89, 90, 91, 92, 93, 94, 95, 96, 97, 98, 99, 100] (by decide +kernel) (by decide +kernel)
set_option maxRecDepth 20000 in
theorem gX3_bestRule_X3_trueNet : GoodIn wsX3_bestRule (wsV RX3 311 RX3 yX3_trueNet wsX3_trueNet) := goodIn_app (goodIn_of _ (by decide +kernel)) ggX3_bestRule_X3_trueNet
set_option maxRecDepth 20000 in
theorem ggX3_useByRule_X0_trueStage : GoodIn wsX3_useByRule wsX0_trueStage := goodIn_r _ [6, 7, 8, 9, 10, 11, 56, 57, 58, 59] (by decide +kernel) (by decide +kernel)
set_option maxRecDepth 20000 in
theorem gX3_useByRule_X0_trueStage_n156 : GoodIn wsX3_useByRule (wsX0_trueStage) := ggX3_useByRule_X0_trueStage
set_option maxRecDepth 20000 in
theorem ggX3_useByRule_X3_firstHarmless : GoodIn wsX3_useByRule wsX3_firstHarmless := goodIn_r _ [15, 16, 17, 14, 18, 19, 20, 21, 22] (by decide +kernel) (by decide +kernel)
set_option maxRecDepth 20000 in
theorem gX3_useByRule_X3_firstHarmless : GoodIn wsX3_useByRule (va_wsS RX3 317 yX3_firstHarmless wsX3_firstHarmless) := goodIn_app (goodIn_of _ (by decide +kernel)) ggX3_useByRule_X3_firstHarmless
set_option maxRecDepth 20000 in
theorem ggX3_useByRule_X2_weigh : GoodIn wsX3_useByRule wsX2_weigh := goodIn_r _ [26, 27, 28, 4, 29, 30, 31, 32, 10, 33, 34, 35, 36, 37, 38, 3, 5, 6, 7, 8, 9, 11, 74, 56, 57, 58, 59] (by decide +kernel) (by decide +kernel)
set_option maxRecDepth 20000 in
theorem gX3_useByRule_X2_weigh_n227 : GoodIn wsX3_useByRule (wsX2_weigh) := ggX3_useByRule_X2_weigh
set_option maxRecDepth 20000 in
theorem ggX3_useByRule_X1_bestUse : GoodIn wsX3_useByRule wsX1_bestUse := goodIn_r _ [42, 43, 44, 45, 40, 46, 47, 48, 49, 50, 51, 21, 14, 22, 52, 24, 53, 54, 55, 35, 10, 36, 27, 75, 76, 77, 78, 79, 80, 81, 82, 83, 84, 74] (by decide +kernel) (by decide +kernel)
set_option maxRecDepth 20000 in
theorem gX3_useByRule_X1_bestUse_n215 : GoodIn wsX3_useByRule (wsX1_bestUse) := ggX3_useByRule_X1_bestUse
set_option maxRecDepth 20000 in
theorem ggX3_firstHarmless_X3_harmOf : GoodIn wsX3_firstHarmless wsX3_harmOf := goodIn_r _ [4, 5, 6, 7, 3, 8] (by decide +kernel) (by decide +kernel)
set_option maxRecDepth 20000 in
theorem gX3_firstHarmless_X3_harmOf : GoodIn wsX3_firstHarmless (va_wsS RX3 240 yX3_harmOf wsX3_harmOf) := goodIn_app (goodIn_of _ (by decide +kernel)) ggX3_firstHarmless_X3_harmOf
set_option maxRecDepth 20000 in
theorem ggX3_trueNet_X0_trueStage : GoodIn wsX3_trueNet wsX0_trueStage := goodIn_r _ [5, 6, 7, 8, 9, 10, 19, 20, 21, 22] (by decide +kernel) (by decide +kernel)
set_option maxRecDepth 20000 in
theorem gX3_trueNet_X0_trueStage_n156 : GoodIn wsX3_trueNet (wsX0_trueStage) := ggX3_trueNet_X0_trueStage
set_option maxRecDepth 20000 in
theorem ggX3_trueNet_X1_netOf : GoodIn wsX3_trueNet wsX1_netOf := goodIn_r _ [14, 15, 16, 17, 18, 37, 38, 39, 40, 41, 42, 43, 44, 45, 46] (by decide +kernel) (by decide +kernel)
set_option maxRecDepth 20000 in
theorem gX3_trueNet_X1_netOf_n320 : GoodIn wsX3_trueNet (wsX1_netOf) := ggX3_trueNet_X1_netOf
set_option maxRecDepth 20000 in
theorem ggX3_ill_X3_isOneOf : GoodIn wsX3_ill wsX3_isOneOf := goodIn_r _ [7] (by decide +kernel) (by decide +kernel)
set_option maxRecDepth 20000 in
theorem gX3_ill_X3_isOneOf : GoodIn wsX3_ill (va_wsS RX3 70 yX3_isOneOf wsX3_isOneOf) := goodIn_app (goodIn_of _ (by decide +kernel)) ggX3_ill_X3_isOneOf
set_option maxRecDepth 20000 in
theorem ggX3_ill_X3_refusalInHand : GoodIn wsX3_ill wsX3_refusalInHand := goodIn_r _ [11, 12, 13, 14, 15, 16, 17, 18, 19, 20, 21, 22, 23, 5, 6, 7, 101, 102, 103, 104, 105, 106, 107, 108, 109, 110, 111, 112, 113, 114, 119, 120, 121, 122, 123, 124, 125, 126, 127, 128] (by decide +kernel) (by decide +kernel)
set_option maxRecDepth 20000 in
theorem gX3_ill_X3_refusalInHand : GoodIn wsX3_ill (wsV RX3 175 RX3 yX3_refusalInHand wsX3_refusalInHand) := goodIn_app (goodIn_of _ (by decide +kernel)) ggX3_ill_X3_refusalInHand
set_option maxRecDepth 20000 in
theorem ggX3_ill_X3_isRowOfPairs : GoodIn wsX3_ill wsX3_isRowOfPairs := goodIn_r _ [27, 1, 3, 28, 29, 6, 30, 4, 5, 7, 101, 102, 103, 104, 105, 106, 107, 108, 109, 110, 111, 112, 113, 114] (by decide +kernel) (by decide +kernel)
set_option maxRecDepth 20000 in
theorem gX3_ill_X3_isRowOfPairs : GoodIn wsX3_ill (wsV RX3 323 RX3 yX3_isRowOfPairs wsX3_isRowOfPairs) := goodIn_app (goodIn_of _ (by decide +kernel)) ggX3_ill_X3_isRowOfPairs
set_option maxRecDepth 20000 in
theorem ggX3_ill_X3_refuse : GoodIn wsX3_ill wsX3_refuse := goodIn_r _ [34, 35, 101, 102, 103, 104, 105, 106, 107, 108, 109, 110, 111, 112, 113, 114] (by decide +kernel) (by decide +kernel)
set_option maxRecDepth 20000 in
theorem gX3_ill_X3_refuse : GoodIn wsX3_ill (wsV RX3 74 RX3 yX3_refuse wsX3_refuse) := goodIn_app (goodIn_of _ (by decide +kernel)) ggX3_ill_X3_refuse
set_option maxRecDepth 20000 in
theorem ggX3_ill_X3_think : GoodIn wsX3_ill wsX3_think := goodIn_r _ [39, 12, 2, 40, 13, 14, 15, 16, 17, 18, 19, 20, 21, 22, 23, 5, 6, 7, 41, 42, 43, 44, 45, 46, 47, 48, 49, 50, 51, 52, 53, 54, 55, 56, 57, 58, 59, 60, 61, 62, 63, 64, 65, 66, 67, 68, 69, 70, 71, 72, 73, 74, 28, 29, 30, 75, 76, 77, 78, 79, 80, 81, 82, 83, 84, 85, 86, 87, 88, 89, 101, 102, 103, 104, 105, 106, 107, 108, 109, 110, 111, 112, 113, 114, 119, 120, 121, 122, 123, 124, 125, 126, 127, 128, 115, 116, 117, 118, 129] (by decide +kernel) (by decide +kernel)
set_option maxRecDepth 20000 in
theorem gX3_ill_X3_think : GoodIn wsX3_ill (wsV RX3 189 RX3 yX3_think wsX3_think) := goodIn_app (goodIn_of _ (by decide +kernel)) ggX3_ill_X3_think
set_option maxRecDepth 20000 in
theorem ggX3_ill_X3_at : GoodIn wsX3_ill wsX3_at := goodIn_r _ [30] (by decide +kernel) (by decide +kernel)
set_option maxRecDepth 20000 in
theorem gX3_ill_X3_at : GoodIn wsX3_ill (va_wsS RX3 136 yX3_at wsX3_at) := goodIn_app (goodIn_of _ (by decide +kernel)) ggX3_ill_X3_at
set_option maxRecDepth 20000 in
theorem ggX3_ill_X3_kindsThatFit : GoodIn wsX3_ill wsX3_kindsThatFit := goodIn_r _ [93, 94, 50, 42, 51, 52, 45, 46, 47, 48, 95, 96, 97, 98, 99, 100, 72, 73, 63, 74, 69, 70, 71, 101, 102, 103, 104, 105, 106, 107, 108, 109, 110, 111, 112, 113, 114, 115, 116, 117, 118] (by decide +kernel) (by decide +kernel)
set_option maxRecDepth 20000 in
theorem gX3_ill_X3_kindsThatFit : GoodIn wsX3_ill (wsV RX3 327 RX3 yX3_kindsThatFit wsX3_kindsThatFit) := goodIn_app (goodIn_of _ (by decide +kernel)) ggX3_ill_X3_kindsThatFit
set_option maxRecDepth 20000 in
theorem ggX3_isRowOfPairs_X3_at : GoodIn wsX3_isRowOfPairs wsX3_at := goodIn_r _ [6] (by decide +kernel) (by decide +kernel)
set_option maxRecDepth 20000 in
theorem gX3_isRowOfPairs_X3_at : GoodIn wsX3_isRowOfPairs (va_wsS RX3 136 yX3_at wsX3_at) := goodIn_app (goodIn_of _ (by decide +kernel)) ggX3_isRowOfPairs_X3_at
set_option maxRecDepth 20000 in
theorem ggX3_isRowOfPairs_X3_isOneOf : GoodIn wsX3_isRowOfPairs wsX3_isOneOf := goodIn_r _ [9] (by decide +kernel) (by decide +kernel)
set_option maxRecDepth 20000 in
theorem gX3_isRowOfPairs_X3_isOneOf : GoodIn wsX3_isRowOfPairs (va_wsS RX3 70 yX3_isOneOf wsX3_isOneOf) := goodIn_app (goodIn_of _ (by decide +kernel)) ggX3_isRowOfPairs_X3_isOneOf
set_option maxRecDepth 20000 in
theorem ggX3_kindsThatFit_X0_fill : GoodIn wsX3_kindsThatFit wsX0_fill := goodIn_r _ [5, 6, 7, 8, 9, 37, 38, 39, 40] (by decide +kernel) (by decide +kernel)
set_option maxRecDepth 20000 in
theorem gX3_kindsThatFit_X0_fill_n330 : GoodIn wsX3_kindsThatFit (wsX0_fill) := ggX3_kindsThatFit_X0_fill
set_option maxRecDepth 20000 in
theorem ggX3_kindsThatFit_X0_coldPoints : GoodIn wsX3_kindsThatFit wsX0_coldPoints := goodIn_r _ [12, 6, 37, 38, 39, 40] (by decide +kernel) (by decide +kernel)
set_option maxRecDepth 20000 in
theorem gX3_kindsThatFit_X0_coldPoints_n160 : GoodIn wsX3_kindsThatFit (wsX0_coldPoints) := ggX3_kindsThatFit_X0_coldPoints
set_option maxRecDepth 20000 in
theorem ggX3_kindsThatFit_X0_gain : GoodIn wsX3_kindsThatFit wsX0_gain := goodIn_r _ [15, 9, 16, 17, 18, 19, 37, 38, 39, 40] (by decide +kernel) (by decide +kernel)
set_option maxRecDepth 20000 in
theorem gX3_kindsThatFit_X0_gain_n169 : GoodIn wsX3_kindsThatFit (wsX0_gain) := ggX3_kindsThatFit_X0_gain
set_option maxRecDepth 20000 in
theorem ggX3_kindsThatFit_X0_trueStage : GoodIn wsX3_kindsThatFit wsX0_trueStage := goodIn_r _ [22, 9, 16, 17, 18, 19, 37, 38, 39, 40] (by decide +kernel) (by decide +kernel)
set_option maxRecDepth 20000 in
theorem gX3_kindsThatFit_X0_trueStage_n156 : GoodIn wsX3_kindsThatFit (wsX0_trueStage) := ggX3_kindsThatFit_X0_trueStage
set_option maxRecDepth 20000 in
theorem ggX3_row_X3_refusalOutside : GoodIn wsX3_row wsX3_refusalOutside := goodIn_r _ [6] (by decide +kernel) (by decide +kernel)
set_option maxRecDepth 20000 in
theorem gX3_row_X3_refusalOutside : GoodIn wsX3_row (va_wsS RX3 66 yX3_refusalOutside wsX3_refusalOutside) := goodIn_app (goodIn_of _ (by decide +kernel)) ggX3_row_X3_refusalOutside
set_option maxRecDepth 20000 in
theorem ggX3_row_X3_isOneOf : GoodIn wsX3_row wsX3_isOneOf := goodIn_r _ [9] (by decide +kernel) (by decide +kernel)
set_option maxRecDepth 20000 in
theorem gX3_row_X3_isOneOf : GoodIn wsX3_row (va_wsS RX3 70 yX3_isOneOf wsX3_isOneOf) := goodIn_app (goodIn_of _ (by decide +kernel)) ggX3_row_X3_isOneOf
