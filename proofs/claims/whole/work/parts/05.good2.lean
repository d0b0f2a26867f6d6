set_option maxRecDepth 20000 in
theorem ggX3_row_X3_refuse : GoodIn wsX3_row wsX3_refuse := goodIn_r _ [13, 14, 15, 16, 17, 18, 19, 20, 21, 22, 23, 24, 25, 26, 27, 28] (by decide +kernel) (by decide +kernel)
set_option maxRecDepth 20000 in
theorem gX3_row_X3_refuse : GoodIn wsX3_row (wsV RX3 74 RX3 yX3_refuse wsX3_refuse) := goodIn_app (goodIn_of _ (by decide +kernel)) ggX3_row_X3_refuse
set_option maxRecDepth 20000 in
theorem ggX3_judge_X3_refusalInHand : GoodIn wsX3_judge wsX3_refusalInHand := goodIn_r _ [9, 10, 11, 12, 13, 14, 15, 16, 17, 18, 19, 20, 21, 22, 8, 23, 92, 93, 94, 95, 96, 97, 98, 99, 100, 101, 102, 103, 104, 105, 106, 107, 108, 109, 110, 111, 112, 113, 114, 115] (by decide +kernel) (by decide +kernel)
set_option maxRecDepth 20000 in
theorem gX3_judge_X3_refusalInHand : GoodIn wsX3_judge (wsV RX3 175 RX3 yX3_refusalInHand wsX3_refusalInHand) := goodIn_app (goodIn_of _ (by decide +kernel)) ggX3_judge_X3_refusalInHand
set_option maxRecDepth 20000 in
theorem ggX3_judge_X3_refuse : GoodIn wsX3_judge wsX3_refuse := goodIn_r _ [27, 28, 92, 93, 94, 95, 96, 97, 98, 99, 100, 101, 102, 103, 104, 105] (by decide +kernel) (by decide +kernel)
set_option maxRecDepth 20000 in
theorem gX3_judge_X3_refuse : GoodIn wsX3_judge (wsV RX3 74 RX3 yX3_refuse wsX3_refuse) := goodIn_app (goodIn_of _ (by decide +kernel)) ggX3_judge_X3_refuse
set_option maxRecDepth 20000 in
theorem ggX3_judge_X3_think : GoodIn wsX3_judge wsX3_think := goodIn_r _ [32, 10, 2, 33, 11, 12, 13, 14, 15, 16, 17, 18, 19, 20, 21, 22, 8, 23, 34, 35, 36, 37, 38, 39, 40, 41, 42, 43, 44, 45, 46, 47, 48, 49, 50, 51, 52, 53, 54, 55, 56, 57, 58, 59, 60, 61, 62, 63, 64, 65, 66, 67, 68, 69, 70, 71, 72, 73, 74, 75, 76, 77, 78, 79, 80, 81, 82, 83, 84, 85, 92, 93, 94, 95, 96, 97, 98, 99, 100, 101, 102, 103, 104, 105, 106, 107, 108, 109, 110, 111, 112, 113, 114, 115, 116, 117, 118, 119, 120] (by decide +kernel) (by decide +kernel)
set_option maxRecDepth 20000 in
theorem gX3_judge_X3_think : GoodIn wsX3_judge (wsV RX3 189 RX3 yX3_think wsX3_think) := goodIn_app (goodIn_of _ (by decide +kernel)) ggX3_judge_X3_think
set_option maxRecDepth 20000 in
theorem ggX3_judge_X0_fillFrom : GoodIn wsX3_judge wsX0_fillFrom := goodIn_r _ [37, 38, 39, 40, 41, 42, 43, 44, 35, 45, 116, 117, 118, 119] (by decide +kernel) (by decide +kernel)
set_option maxRecDepth 20000 in
theorem gX3_judge_X0_fillFrom_n223 : GoodIn wsX3_judge (wsX0_fillFrom) := ggX3_judge_X0_fillFrom
set_option maxRecDepth 20000 in
theorem ggX3_judge_X3_at : GoodIn wsX3_judge wsX3_at := goodIn_r _ [70] (by decide +kernel) (by decide +kernel)
set_option maxRecDepth 20000 in
theorem gX3_judge_X3_at : GoodIn wsX3_judge (va_wsS RX3 136 yX3_at wsX3_at) := goodIn_app (goodIn_of _ (by decide +kernel)) ggX3_judge_X3_at
set_option maxRecDepth 20000 in
theorem ggX3_judge_X0_trueStage : GoodIn wsX3_judge wsX0_trueStage := goodIn_r _ [64, 41, 65, 66, 56, 67, 116, 117, 118, 119] (by decide +kernel) (by decide +kernel)
set_option maxRecDepth 20000 in
theorem gX3_judge_X0_trueStage_n156 : GoodIn wsX3_judge (wsX0_trueStage) := ggX3_judge_X0_trueStage
set_option maxRecDepth 20000 in
theorem ggX3_judge_X0_coldPoints : GoodIn wsX3_judge wsX0_coldPoints := goodIn_r _ [88, 38, 116, 117, 118, 119] (by decide +kernel) (by decide +kernel)
set_option maxRecDepth 20000 in
theorem gX3_judge_X0_coldPoints_n160 : GoodIn wsX3_judge (wsX0_coldPoints) := ggX3_judge_X0_coldPoints
set_option maxRecDepth 20000 in
theorem ggX3_judge_X0_gain : GoodIn wsX3_judge wsX0_gain := goodIn_r _ [91, 41, 65, 66, 56, 67, 116, 117, 118, 119] (by decide +kernel) (by decide +kernel)
set_option maxRecDepth 20000 in
theorem gX3_judge_X0_gain_n169 : GoodIn wsX3_judge (wsX0_gain) := ggX3_judge_X0_gain
set_option maxRecDepth 20000 in
theorem ggX3_seeds_X3_isOneOf : GoodIn wsX3_seeds wsX3_isOneOf := goodIn_r _ [8] (by decide +kernel) (by decide +kernel)
set_option maxRecDepth 20000 in
theorem gX3_seeds_X3_isOneOf : GoodIn wsX3_seeds (va_wsS RX3 70 yX3_isOneOf wsX3_isOneOf) := goodIn_app (goodIn_of _ (by decide +kernel)) ggX3_seeds_X3_isOneOf
set_option maxRecDepth 20000 in
theorem ggX3_seeds_X3_refusalInHand : GoodIn wsX3_seeds wsX3_refusalInHand := goodIn_r _ [12, 4, 13, 14, 15, 16, 17, 18, 19, 20, 21, 22, 23, 6, 7, 8, 128, 129, 130, 131, 132, 133, 134, 135, 136, 137, 138, 139, 140, 141, 142, 143, 144, 145, 146, 147, 148, 149, 150, 151] (by decide +kernel) (by decide +kernel)
set_option maxRecDepth 20000 in
theorem gX3_seeds_X3_refusalInHand : GoodIn wsX3_seeds (wsV RX3 175 RX3 yX3_refusalInHand wsX3_refusalInHand) := goodIn_app (goodIn_of _ (by decide +kernel)) ggX3_seeds_X3_refusalInHand
set_option maxRecDepth 20000 in
theorem ggX3_seeds_X3_refusalOutside : GoodIn wsX3_seeds wsX3_refusalOutside := goodIn_r _ [26] (by decide +kernel) (by decide +kernel)
set_option maxRecDepth 20000 in
theorem gX3_seeds_X3_refusalOutside : GoodIn wsX3_seeds (va_wsS RX3 66 yX3_refusalOutside wsX3_refusalOutside) := goodIn_app (goodIn_of _ (by decide +kernel)) ggX3_seeds_X3_refusalOutside
set_option maxRecDepth 20000 in
theorem ggX3_seeds_X3_refuseBig : GoodIn wsX3_seeds wsX3_refuseBig := goodIn_r _ [30, 31, 32, 33, 34, 7, 35, 36, 128, 129, 130, 131, 132, 133, 134, 135, 136, 137, 138, 139, 140, 141] (by decide +kernel) (by decide +kernel)
set_option maxRecDepth 20000 in
theorem gX3_seeds_X3_refuseBig : GoodIn wsX3_seeds (wsV RX3 304 RX3 yX3_refuseBig wsX3_refuseBig) := goodIn_app (goodIn_of _ (by decide +kernel)) ggX3_seeds_X3_refuseBig
set_option maxRecDepth 20000 in
theorem ggX3_seeds_X3_think : GoodIn wsX3_seeds wsX3_think := goodIn_r _ [40, 4, 2, 41, 13, 14, 15, 16, 17, 18, 19, 20, 21, 22, 23, 6, 7, 8, 42, 43, 44, 45, 46, 47, 48, 49, 50, 51, 52, 53, 54, 55, 56, 57, 58, 59, 60, 61, 62, 63, 64, 65, 66, 67, 68, 69, 70, 71, 72, 73, 74, 75, 76, 77, 78, 79, 80, 81, 82, 83, 84, 85, 86, 87, 88, 89, 90, 91, 92, 93, 128, 129, 130, 131, 132, 133, 134, 135, 136, 137, 138, 139, 140, 141, 142, 143, 144, 145, 146, 147, 148, 149, 150, 151, 152, 153, 154, 155, 156] (by decide +kernel) (by decide +kernel)
set_option maxRecDepth 20000 in
theorem gX3_seeds_X3_think : GoodIn wsX3_seeds (wsV RX3 189 RX3 yX3_think wsX3_think) := goodIn_app (goodIn_of _ (by decide +kernel)) ggX3_seeds_X3_think
set_option maxRecDepth 20000 in
theorem ggX3_seeds_X0_fillFrom : GoodIn wsX3_seeds wsX0_fillFrom := goodIn_r _ [45, 46, 47, 48, 49, 50, 51, 52, 43, 53, 152, 153, 154, 155] (by decide +kernel) (by decide +kernel)
set_option maxRecDepth 20000 in
theorem gX3_seeds_X0_fillFrom_n223 : GoodIn wsX3_seeds (wsX0_fillFrom) := ggX3_seeds_X0_fillFrom
set_option maxRecDepth 20000 in
theorem ggX3_seeds_X3_nextSeed : GoodIn wsX3_seeds wsX3_nextSeed := goodIn_r _ [96, 97] (by decide +kernel) (by decide +kernel)
set_option maxRecDepth 20000 in
theorem gX3_seeds_X3_nextSeed : GoodIn wsX3_seeds (va_wsS RX3 334 yX3_nextSeed wsX3_nextSeed) := goodIn_app (goodIn_of _ (by decide +kernel)) ggX3_seeds_X3_nextSeed
set_option maxRecDepth 20000 in
theorem ggX3_seeds_X3_draw : GoodIn wsX3_seeds wsX3_draw := goodIn_r _ [100, 101, 102] (by decide +kernel) (by decide +kernel)
set_option maxRecDepth 20000 in
theorem gX3_seeds_X3_draw : GoodIn wsX3_seeds (va_wsS RX3 337 yX3_draw wsX3_draw) := goodIn_app (goodIn_of _ (by decide +kernel)) ggX3_seeds_X3_draw
set_option maxRecDepth 20000 in
theorem ggX3_seeds_X0_warmPoints : GoodIn wsX3_seeds wsX0_warmPoints := goodIn_r _ [105, 46, 47, 152, 153, 154, 155] (by decide +kernel) (by decide +kernel)
set_option maxRecDepth 20000 in
theorem gX3_seeds_X0_warmPoints_n163 : GoodIn wsX3_seeds (wsX0_warmPoints) := ggX3_seeds_X0_warmPoints
set_option maxRecDepth 20000 in
theorem ggX3_seeds_X0_coldPoints : GoodIn wsX3_seeds wsX0_coldPoints := goodIn_r _ [108, 46, 152, 153, 154, 155] (by decide +kernel) (by decide +kernel)
set_option maxRecDepth 20000 in
theorem gX3_seeds_X0_coldPoints_n160 : GoodIn wsX3_seeds (wsX0_coldPoints) := ggX3_seeds_X0_coldPoints
set_option maxRecDepth 20000 in
theorem ggX3_seeds_X0_gain : GoodIn wsX3_seeds wsX0_gain := goodIn_r _ [111, 49, 73, 74, 64, 75, 152, 153, 154, 155] (by decide +kernel) (by decide +kernel)
set_option maxRecDepth 20000 in
theorem gX3_seeds_X0_gain_n169 : GoodIn wsX3_seeds (wsX0_gain) := ggX3_seeds_X0_gain
set_option maxRecDepth 20000 in
theorem ggX3_seeds_X2_weigh : GoodIn wsX3_seeds wsX2_weigh := goodIn_r _ [57, 58, 59, 43, 60, 61, 62, 63, 64, 65, 66, 67, 68, 46, 69, 70, 71, 72, 49, 73, 74, 75, 156, 152, 153, 154, 155] (by decide +kernel) (by decide +kernel)
set_option maxRecDepth 20000 in
theorem gX3_seeds_X2_weigh_n227 : GoodIn wsX3_seeds (wsX2_weigh) := ggX3_seeds_X2_weigh
set_option maxRecDepth 20000 in
theorem ggX3_seeds_X1_bestUse : GoodIn wsX3_seeds wsX1_bestUse := goodIn_r _ [114, 115, 116, 117, 14, 118, 119, 120, 121, 122, 123, 77, 7, 78, 90, 55, 91, 92, 93, 67, 64, 68, 58, 142, 143, 144, 145, 146, 147, 148, 149, 150, 151, 156] (by decide +kernel) (by decide +kernel)
set_option maxRecDepth 20000 in
theorem gX3_seeds_X1_bestUse_n215 : GoodIn wsX3_seeds (wsX1_bestUse) := ggX3_seeds_X1_bestUse
set_option maxRecDepth 20000 in
theorem ggX3_seeds_X3_trueNet : GoodIn wsX3_seeds wsX3_trueNet := goodIn_r _ [127, 4, 70, 43, 71, 72, 49, 73, 74, 64, 75, 120, 14, 121, 122, 123, 77, 7, 78, 152, 153, 154, 155, 128, 129, 130, 131, 132, 133, 134, 135, 136, 137, 138, 139, 140, 141, 142, 143, 144, 145, 146, 147, 148, 149, 150, 151] (by decide +kernel) (by decide +kernel)
set_option maxRecDepth 20000 in
theorem gX3_seeds_X3_trueNet : GoodIn wsX3_seeds (wsV RX3 311 RX3 yX3_trueNet wsX3_trueNet) := goodIn_app (goodIn_of _ (by decide +kernel)) ggX3_seeds_X3_trueNet
set_option maxRecDepth 20000 in
theorem ggX3_image_X1_copyFrom : GoodIn wsX3_image wsX1_copyFrom := goodIn_r _ [7, 8, 9, 10, 11, 12, 13, 14, 15, 16, 17, 18, 19, 20, 5, 21, 22, 23, 24, 25, 26, 27, 28, 29, 30, 31, 32, 33, 34, 35, 36, 37, 38, 39, 54, 55, 56, 57, 58, 59, 60, 61, 62, 63, 64, 65, 66, 67] (by decide +kernel) (by decide +kernel)
set_option maxRecDepth 20000 in
theorem gX3_image_X1_copyFrom_n81 : GoodIn wsX3_image (wsX1_copyFrom) := ggX3_image_X1_copyFrom
set_option maxRecDepth 20000 in
theorem ggX3_restore_X3_refuse : GoodIn wsX3_restore wsX3_refuse := goodIn_r _ [8, 9, 45, 46, 47, 48, 49, 50, 51, 52, 53, 54, 55, 56, 57, 58] (by decide +kernel) (by decide +kernel)
set_option maxRecDepth 20000 in
theorem gX3_restore_X3_refuse : GoodIn wsX3_restore (wsV RX3 74 RX3 yX3_refuse wsX3_refuse) := goodIn_app (goodIn_of _ (by decide +kernel)) ggX3_restore_X3_refuse
set_option maxRecDepth 20000 in
theorem ggX3_restore_X1_copyFrom : GoodIn wsX3_restore wsX1_copyFrom := goodIn_r _ [13, 14, 15, 16, 17, 18, 19, 20, 21, 22, 23, 24, 25, 26, 11, 27, 28, 7, 29, 30, 31, 32, 33, 34, 35, 36, 37, 38, 39, 40, 41, 42, 43, 44, 59, 60, 61, 62, 63, 64, 65, 66, 67, 68, 69, 70, 71, 72] (by decide +kernel) (by decide +kernel)
set_option maxRecDepth 20000 in
theorem gX3_restore_X1_copyFrom_n81 : GoodIn wsX3_restore (wsX1_copyFrom) := ggX3_restore_X1_copyFrom
set_option maxRecDepth 20000 in
theorem ggX3_count_X3_at : GoodIn wsX3_count wsX3_at := goodIn_r _ [8] (by decide +kernel) (by decide +kernel)
set_option maxRecDepth 20000 in
theorem gX3_count_X3_at : GoodIn wsX3_count (va_wsS RX3 136 yX3_at wsX3_at) := goodIn_app (goodIn_of _ (by decide +kernel)) ggX3_count_X3_at
set_option maxRecDepth 20000 in
theorem ggX3_count_X1_costOf : GoodIn wsX3_count wsX1_costOf := goodIn_r _ [12, 13, 6, 7, 8, 42, 43, 44, 45, 46, 47, 48, 49, 50, 51] (by decide +kernel) (by decide +kernel)
set_option maxRecDepth 20000 in
theorem gX3_count_X1_costOf_n186 : GoodIn wsX3_count (wsX1_costOf) := ggX3_count_X1_costOf
set_option maxRecDepth 20000 in
theorem ggX3_count_X1_allCups : GoodIn wsX3_count wsX1_allCups := goodIn_r _ [16, 17, 18, 19, 20, 10, 21, 22, 23, 7, 24, 42, 43, 44, 45, 46, 47, 48, 49, 50, 51, 52, 53, 54, 55] (by decide +kernel) (by decide +kernel)
set_option maxRecDepth 20000 in
theorem gX3_count_X1_allCups_n343 : GoodIn wsX3_count (wsX1_allCups) := ggX3_count_X1_allCups
set_option maxRecDepth 20000 in
theorem ggX3_count_X1_allPoints : GoodIn wsX3_count wsX1_allPoints := goodIn_r _ [27, 17, 18, 19, 20, 10, 21, 22, 23, 7, 24, 42, 43, 44, 45, 46, 47, 48, 49, 50, 51, 52, 53, 54, 55] (by decide +kernel) (by decide +kernel)
set_option maxRecDepth 20000 in
theorem gX3_count_X1_allPoints_n166 : GoodIn wsX3_count (wsX1_allPoints) := ggX3_count_X1_allPoints
set_option maxRecDepth 20000 in
theorem ggX3_refusalInHand_X1_inHand : GoodIn wsX3_refusalInHand wsX1_inHand := goodIn_r _ [5, 6, 7, 8, 9, 3, 10, 11, 12, 13, 14, 15, 30, 31, 32, 33, 34, 35, 36, 37, 38, 39] (by decide +kernel) (by decide +kernel)
set_option maxRecDepth 20000 in
theorem gX3_refusalInHand_X1_inHand_n182 : GoodIn wsX3_refusalInHand (wsX1_inHand) := ggX3_refusalInHand_X1_inHand
set_option maxRecDepth 20000 in
theorem ggX3_refuseBig_X3_refuse : GoodIn wsX3_refuseBig wsX3_refuse := goodIn_r _ [6, 7, 8, 9, 10, 11, 12, 13, 14, 15, 16, 17, 18, 19, 20, 21] (by decide +kernel) (by decide +kernel)
set_option maxRecDepth 20000 in
theorem gX3_refuseBig_X3_refuse : GoodIn wsX3_refuseBig (wsV RX3 74 RX3 yX3_refuse wsX3_refuse) := goodIn_app (goodIn_of _ (by decide +kernel)) ggX3_refuseBig_X3_refuse
set_option maxRecDepth 20000 in
theorem ggX3_refuseLong_X3_refuse : GoodIn wsX3_refuseLong wsX3_refuse := goodIn_r _ [6, 7, 8, 9, 10, 11, 12, 13, 14, 15, 16, 17, 18, 19, 20, 21] (by decide +kernel) (by decide +kernel)
set_option maxRecDepth 20000 in
theorem gX3_refuseLong_X3_refuse : GoodIn wsX3_refuseLong (wsV RX3 74 RX3 yX3_refuse wsX3_refuse) := goodIn_app (goodIn_of _ (by decide +kernel)) ggX3_refuseLong_X3_refuse
set_option maxRecDepth 20000 in
theorem ggX3_harmOf_X3_at : GoodIn wsX3_harmOf wsX3_at := goodIn_r _ [5] (by decide +kernel) (by decide +kernel)
set_option maxRecDepth 20000 in
theorem gX3_harmOf_X3_at : GoodIn wsX3_harmOf (va_wsS RX3 136 yX3_at wsX3_at) := goodIn_app (goodIn_of _ (by decide +kernel)) ggX3_harmOf_X3_at
set_option maxRecDepth 20000 in
theorem ggX4_feed_X4_bound : GoodIn wsX4_feed wsX4_bound := goodIn_r _ [6] (by decide +kernel) (by decide +kernel)
set_option maxRecDepth 20000 in
theorem gX4_feed_X4_bound : GoodIn wsX4_feed (va_wsS RX4 78 yX4_bound wsX4_bound) := goodIn_app (goodIn_of _ (by decide +kernel)) ggX4_feed_X4_bound
set_option maxRecDepth 20000 in
theorem ggX4_feed_X4_no : GoodIn wsX4_feed wsX4_no := goodIn_r _ [10, 11, 12, 13, 14, 15, 16, 17, 18, 19, 20, 21, 22, 23, 24, 25, 26, 27, 28, 29, 30, 31, 32, 33, 34, 35, 36, 37, 38, 39, 40, 41, 42, 43, 44, 45] (by decide +kernel) (by decide +kernel)
set_option maxRecDepth 20000 in
theorem gX4_feed_X4_no : GoodIn wsX4_feed (wsV RX4 85 RX4 yX4_no wsX4_no) := goodIn_app (goodIn_of _ (by decide +kernel)) ggX4_feed_X4_no
set_option maxRecDepth 20000 in
theorem ggX4_readsDigits_X4_next : GoodIn wsX4_readsDigits wsX4_next := goodIn_r _ [7, 1, 8, 9, 13, 14, 15, 16, 17, 18, 19, 20, 21, 22, 23, 24, 25, 26, 27, 28, 29, 30, 31, 32, 33, 34, 35, 36, 37, 38, 39, 40, 41, 42, 43, 44, 45, 46] (by decide +kernel) (by decide +kernel)
set_option maxRecDepth 20000 in
theorem gX4_readsDigits_X4_next : GoodIn wsX4_readsDigits (wsV RX4 92 RX4 yX4_next wsX4_next) := goodIn_app (goodIn_of _ (by decide +kernel)) ggX4_readsDigits_X4_next
set_option maxRecDepth 20000 in
theorem ggX4_readsDigits_X4_isIn : GoodIn wsX4_readsDigits wsX4_isIn := goodIn_r _ [12] (by decide +kernel) (by decide +kernel)
set_option maxRecDepth 20000 in
theorem gX4_readsDigits_X4_isIn : GoodIn wsX4_readsDigits (va_wsS RX4 96 yX4_isIn wsX4_isIn) := goodIn_app (goodIn_of _ (by decide +kernel)) ggX4_readsDigits_X4_isIn
set_option maxRecDepth 20000 in
theorem ggX4_readsAll_X4_readsDigits : GoodIn wsX4_readsAll wsX4_readsDigits := goodIn_r _ [5, 6, 7, 8, 9, 10, 4, 11, 12, 13, 14, 15, 16, 17, 18, 19, 20, 21, 22, 23, 24, 25, 26, 27, 28, 29, 30, 31, 32, 33, 34, 35, 36, 37, 38, 39, 40, 41, 42, 43, 44, 45, 46, 47, 48, 49, 50] (by decide +kernel) (by decide +kernel)
set_option maxRecDepth 20000 in
theorem gX4_readsAll_X4_readsDigits : GoodIn wsX4_readsAll (wsV RX4 100 RX4 yX4_readsDigits wsX4_readsDigits) := goodIn_app (goodIn_of _ (by decide +kernel)) ggX4_readsAll_X4_readsDigits
set_option maxRecDepth 20000 in
theorem ggX4_statement_X4_next : GoodIn wsX4_statement wsX4_next := goodIn_r _ [9, 4, 10, 11, 24, 25, 26, 27, 28, 29, 30, 31, 32, 33, 34, 35, 36, 37, 38, 39, 40, 41, 42, 43, 44, 45, 46, 47, 48, 49, 50, 51, 52, 53, 54, 55, 56, 57] (by decide +kernel) (by decide +kernel)
set_option maxRecDepth 20000 in
theorem gX4_statement_X4_next : GoodIn wsX4_statement (wsV RX4 92 RX4 yX4_next wsX4_next) := goodIn_app (goodIn_of _ (by decide +kernel)) ggX4_statement_X4_next
set_option maxRecDepth 20000 in
theorem ggX4_statement_X4_readsAll : GoodIn wsX4_statement wsX4_readsAll := goodIn_r _ [15, 16, 17, 18, 8, 19, 4, 20, 5, 6, 7, 9, 10, 11, 21, 22, 23, 24, 25, 26, 27, 28, 29, 30, 31, 32, 33, 34, 35, 36, 37, 38, 39, 40, 41, 42, 43, 44, 45, 46, 47, 48, 49, 50, 51, 52, 53, 54, 55, 56, 57] (by decide +kernel) (by decide +kernel)
set_option maxRecDepth 20000 in
theorem gX4_statement_X4_readsAll : GoodIn wsX4_statement (wsV RX4 107 RX4 yX4_readsAll wsX4_readsAll) := goodIn_app (goodIn_of _ (by decide +kernel)) ggX4_statement_X4_readsAll
set_option maxRecDepth 20000 in
theorem ggX4_comesSeen_X4_sees : GoodIn wsX4_comesSeen wsX4_sees := goodIn_r _ [7, 8, 2, 9, 10, 11, 12, 13, 14, 15, 16, 17, 18, 19, 20, 21, 22, 23, 24, 25, 26, 27, 28, 29, 30, 31, 32, 33, 34, 35, 36, 37, 38, 39, 40, 41, 42, 43] (by decide +kernel) (by decide +kernel)
set_option maxRecDepth 20000 in
theorem gX4_comesSeen_X4_sees : GoodIn wsX4_comesSeen (wsV RX4 113 RX4 yX4_sees wsX4_sees) := goodIn_app (goodIn_of _ (by decide +kernel)) ggX4_comesSeen_X4_sees
set_option maxRecDepth 20000 in
theorem ggX4_comesUse_X4_uses : GoodIn wsX4_comesUse wsX4_uses := goodIn_r _ [8, 2, 3, 1, 9, 10, 11, 12, 13, 14, 15, 16, 17, 18, 19, 20, 21, 22, 23, 24, 25, 26, 27, 28, 29, 30, 31, 32, 33, 34, 35, 36, 37, 38, 39, 40, 41, 42, 43, 44, 45, 46] (by decide +kernel) (by decide +kernel)
set_option maxRecDepth 20000 in
theorem gX4_comesUse_X4_uses : GoodIn wsX4_comesUse (wsV RX4 120 RX4 yX4_uses wsX4_uses) := goodIn_app (goodIn_of _ (by decide +kernel)) ggX4_comesUse_X4_uses
set_option maxRecDepth 20000 in
theorem ggX4_comes_X4_comesJug : GoodIn wsX4_comes wsX4_comesJug := goodIn_r _ [11, 1, 12, 13, 14, 15, 16, 57, 58, 59, 60, 61, 62, 63, 64, 65, 66, 67, 68, 69, 70, 71, 72, 73, 74, 75, 76, 77, 78, 79, 80, 81, 82, 83, 84, 85, 86, 87, 88, 89, 90] (by decide +kernel) (by decide +kernel)
set_option maxRecDepth 20000 in
theorem gX4_comes_X4_comesJug : GoodIn wsX4_comes (wsV RX4 123 RX4 yX4_comesJug wsX4_comesJug) := goodIn_app (goodIn_of _ (by decide +kernel)) ggX4_comes_X4_comesJug
set_option maxRecDepth 20000 in
theorem ggX4_comes_X4_allStand : GoodIn wsX4_comes wsX4_allStand := goodIn_r _ [20, 12, 13, 21, 22, 10, 23, 24, 25, 26, 27, 16, 28, 29, 30, 57, 58, 59, 60, 61, 62, 63, 64, 65, 66, 67, 68, 69, 70, 71, 72, 73, 74, 75, 76, 77, 78, 79, 80, 81, 82, 83, 84, 85, 86, 87, 88, 89, 90] (by decide +kernel) (by decide +kernel)
set_option maxRecDepth 20000 in
theorem gX4_comes_X4_allStand : GoodIn wsX4_comes (wsV RX4 127 RX4 yX4_allStand wsX4_allStand) := goodIn_app (goodIn_of _ (by decide +kernel)) ggX4_comes_X4_allStand
set_option maxRecDepth 20000 in
theorem ggX4_comes_X4_isJug : GoodIn wsX4_comes wsX4_isJug := goodIn_r _ [34, 12, 57, 58, 59, 60, 61, 62, 63, 64, 65, 66, 67, 68, 69, 70, 71, 72, 73, 74, 75, 76, 77, 78, 79, 80, 81, 82, 83, 84, 85, 86, 87, 88, 89, 90] (by decide +kernel) (by decide +kernel)
set_option maxRecDepth 20000 in
theorem gX4_comes_X4_isJug : GoodIn wsX4_comes (wsV RX4 131 RX4 yX4_isJug wsX4_isJug) := goodIn_app (goodIn_of _ (by decide +kernel)) ggX4_comes_X4_isJug
set_option maxRecDepth 20000 in
theorem ggX4_comes_X4_warmOf : GoodIn wsX4_comes wsX4_warmOf := goodIn_r _ [38, 13, 14, 57, 58, 59, 60, 61, 62, 63, 64, 65, 66, 67, 68, 69, 70, 71, 72, 73, 74, 75, 76, 77, 78, 79, 80, 81, 82, 83, 84, 85, 86, 87, 88, 89, 90] (by decide +kernel) (by decide +kernel)
set_option maxRecDepth 20000 in
theorem gX4_comes_X4_warmOf : GoodIn wsX4_comes (wsV RX4 134 RX4 yX4_warmOf wsX4_warmOf) := goodIn_app (goodIn_of _ (by decide +kernel)) ggX4_comes_X4_warmOf
set_option maxRecDepth 20000 in
theorem ggX4_comes_X4_gains : GoodIn wsX4_comes wsX4_gains := goodIn_r _ [27, 16, 28, 29, 10, 30, 57, 58, 59, 60, 61, 62, 63, 64, 65, 66, 67, 68, 69, 70, 71, 72, 73, 74, 75, 76, 77, 78, 79, 80, 81, 82, 83, 84, 85, 86, 87, 88, 89, 90] (by decide +kernel) (by decide +kernel)
set_option maxRecDepth 20000 in
theorem gX4_comes_X4_gains : GoodIn wsX4_comes (wsV RX4 137 RX4 yX4_gains wsX4_gains) := goodIn_app (goodIn_of _ (by decide +kernel)) ggX4_comes_X4_gains
set_option maxRecDepth 20000 in
theorem ggX4_comes_X4_comesSeen : GoodIn wsX4_comes wsX4_comesSeen := goodIn_r _ [42, 12, 6, 43, 44, 45, 10, 46, 47, 48, 57, 58, 59, 60, 61, 62, 63, 64, 65, 66, 67, 68, 69, 70, 71, 72, 73, 74, 75, 76, 77, 78, 79, 80, 81, 82, 83, 84, 85, 86, 87, 88, 89, 90] (by decide +kernel) (by decide +kernel)
set_option maxRecDepth 20000 in
theorem gX4_comes_X4_comesSeen : GoodIn wsX4_comes (wsV RX4 140 RX4 yX4_comesSeen wsX4_comesSeen) := goodIn_app (goodIn_of _ (by decide +kernel)) ggX4_comes_X4_comesSeen
set_option maxRecDepth 20000 in
theorem ggX4_comes_X4_comesUse : GoodIn wsX4_comes wsX4_comesUse := goodIn_r _ [52, 12, 15, 5, 53, 54, 55, 10, 56, 13, 14, 16, 6, 57, 58, 59, 60, 61, 62, 63, 64, 65, 66, 67, 68, 69, 70, 71, 72, 73, 74, 75, 76, 77, 78, 79, 80, 81, 82, 83, 84, 85, 86, 87, 88, 89, 90] (by decide +kernel) (by decide +kernel)
set_option maxRecDepth 20000 in
theorem gX4_comes_X4_comesUse : GoodIn wsX4_comes (wsV RX4 143 RX4 yX4_comesUse wsX4_comesUse) := goodIn_app (goodIn_of _ (by decide +kernel)) ggX4_comes_X4_comesUse
set_option maxRecDepth 20000 in
theorem ggX4_kitchen_X4_statement : GoodIn wsX4_kitchen wsX4_statement := goodIn_r _ [9, 10, 2, 4, 1, 11, 12, 13, 8, 14, 3, 15, 16, 17, 18, 19, 20, 21, 22, 23, 24, 25, 26, 27, 102, 103, 104, 105, 106, 107, 108, 109, 110, 111, 112, 113, 114, 115, 116, 117, 118, 119, 120, 121, 122, 123, 124, 125, 126, 127, 128, 129, 130, 131, 132, 133, 134, 135] (by decide +kernel) (by decide +kernel)
set_option maxRecDepth 20000 in
theorem gX4_kitchen_X4_statement : GoodIn wsX4_kitchen (wsV RX4 146 RX4 yX4_statement wsX4_statement) := goodIn_app (goodIn_of _ (by decide +kernel)) ggX4_kitchen_X4_statement
set_option maxRecDepth 20000 in
theorem ggX4_kitchen_X4_passesAll : GoodIn wsX4_kitchen wsX4_passesAll := goodIn_r _ [31, 32, 33, 34, 35, 36, 37, 38, 39, 40, 41, 42, 43, 44, 45, 46, 47, 48, 49, 8, 50, 51, 52, 53, 54, 55, 102, 103, 104, 105, 106, 107, 108, 109, 110, 111, 112, 113, 114, 115, 116, 117, 118, 119, 120, 121, 122, 123, 124, 125, 126, 127, 128, 129, 130, 131, 132, 133, 134, 135] (by decide +kernel) (by decide +kernel)
set_option maxRecDepth 20000 in
theorem gX4_kitchen_X4_passesAll : GoodIn wsX4_kitchen (wsV RX4 150 RX4 yX4_passesAll wsX4_passesAll) := goodIn_app (goodIn_of _ (by decide +kernel)) ggX4_kitchen_X4_passesAll
set_option maxRecDepth 20000 in
theorem ggX4_kitchen_X4_comes : GoodIn wsX4_kitchen wsX4_comes := goodIn_r _ [59, 24, 10, 38, 46, 43, 44, 60, 61, 62, 8, 63, 42, 34, 35, 36, 37, 64, 65, 66, 67, 68, 69, 70, 71, 72, 73, 74, 75, 76, 77, 78, 79, 80, 81, 82, 83, 84, 85, 86, 87, 88, 89, 90, 91, 92, 93, 39, 40, 94, 95, 96, 97, 98, 99, 100, 101, 102, 103, 104, 105, 106, 107, 108, 109, 110, 111, 112, 113, 114, 115, 116, 117, 118, 119, 120, 121, 122, 123, 124, 125, 126, 127, 128, 129, 130, 131, 132, 133, 134, 135] (by decide +kernel) (by decide +kernel)
set_option maxRecDepth 20000 in
theorem gX4_kitchen_X4_comes : GoodIn wsX4_kitchen (wsV RX4 154 RX4 yX4_comes wsX4_comes) := goodIn_app (goodIn_of _ (by decide +kernel)) ggX4_kitchen_X4_comes
set_option maxRecDepth 20000 in
theorem ggX4_passesAll_X4_passes : GoodIn wsX4_passesAll wsX4_passes := goodIn_r _ [20, 2, 21, 1, 26, 27, 28, 29, 30, 31, 32, 33, 34, 35, 36, 37, 38, 39, 40, 41, 42, 43, 44, 45, 46, 47, 48, 49, 50, 51, 52, 53, 54, 55, 56, 57, 58, 59] (by decide +kernel) (by decide +kernel)
set_option maxRecDepth 20000 in
theorem gX4_passesAll_X4_passes : GoodIn wsX4_passesAll (wsV RX4 164 RX4 yX4_passes wsX4_passes) := goodIn_app (goodIn_of _ (by decide +kernel)) ggX4_passesAll_X4_passes
set_option maxRecDepth 20000 in
theorem ggX4_passesAll_X4_passOne : GoodIn wsX4_passesAll wsX4_passOne := goodIn_r _ [25, 2, 21, 1, 26, 27, 28, 29, 30, 31, 32, 33, 34, 35, 36, 37, 38, 39, 40, 41, 42, 43, 44, 45, 46, 47, 48, 49, 50, 51, 52, 53, 54, 55, 56, 57, 58, 59] (by decide +kernel) (by decide +kernel)
set_option maxRecDepth 20000 in
theorem gX4_passesAll_X4_passOne : GoodIn wsX4_passesAll (wsV RX4 168 RX4 yX4_passOne wsX4_passOne) := goodIn_app (goodIn_of _ (by decide +kernel)) ggX4_passesAll_X4_passOne
set_option maxRecDepth 20000 in
theorem ggX4_image_X4_passesAll : GoodIn wsX4_image wsX4_passesAll := goodIn_r _ [7, 8, 9, 10, 11, 12, 13, 14, 15, 16, 17, 2, 18, 19, 20, 21, 22, 23, 24, 6, 25, 26, 27, 28, 29, 30, 31, 32, 33, 34, 35, 36, 37, 38, 39, 40, 41, 42, 43, 44, 45, 46, 47, 48, 49, 50, 51, 52, 53, 54, 55, 56, 57, 58, 59, 60, 61, 62, 63, 64] (by decide +kernel) (by decide +kernel)
set_option maxRecDepth 20000 in
theorem gX4_image_X4_passesAll : GoodIn wsX4_image (wsV RX4 150 RX4 yX4_passesAll wsX4_passesAll) := goodIn_app (goodIn_of _ (by decide +kernel)) ggX4_image_X4_passesAll
set_option maxRecDepth 20000 in
theorem ggX4_restore_X4_no : GoodIn wsX4_restore wsX4_no := goodIn_r _ [7, 8, 36, 37, 38, 39, 40, 41, 42, 43, 44, 45, 46, 47, 48, 49, 50, 51, 52, 53, 54, 55, 56, 57, 58, 59, 60, 61, 62, 63, 64, 65, 66, 67, 68, 69] (by decide +kernel) (by decide +kernel)
set_option maxRecDepth 20000 in
theorem gX4_restore_X4_no : GoodIn wsX4_restore (wsV RX4 85 RX4 yX4_no wsX4_no) := goodIn_app (goodIn_of _ (by decide +kernel)) ggX4_restore_X4_no
set_option maxRecDepth 20000 in
theorem ggX4_restore_X4_passesAll : GoodIn wsX4_restore wsX4_passesAll := goodIn_r _ [12, 13, 14, 15, 16, 17, 18, 19, 20, 21, 22, 2, 23, 24, 25, 26, 27, 28, 29, 6, 30, 31, 32, 33, 34, 35, 36, 37, 38, 39, 40, 41, 42, 43, 44, 45, 46, 47, 48, 49, 50, 51, 52, 53, 54, 55, 56, 57, 58, 59, 60, 61, 62, 63, 64, 65, 66, 67, 68, 69] (by decide +kernel) (by decide +kernel)
set_option maxRecDepth 20000 in
theorem gX4_restore_X4_passesAll : GoodIn wsX4_restore (wsV RX4 150 RX4 yX4_passesAll wsX4_passesAll) := goodIn_app (goodIn_of _ (by decide +kernel)) ggX4_restore_X4_passesAll
set_option maxRecDepth 20000 in
theorem ggX4_gains_X4_heldPoints : GoodIn wsX4_gains wsX4_heldPoints := goodIn_r _ [5] (by decide +kernel) (by decide +kernel)
set_option maxRecDepth 20000 in
theorem gX4_gains_X4_heldPoints : GoodIn wsX4_gains (va_wsS RX4 177 yX4_heldPoints wsX4_heldPoints) := goodIn_app (goodIn_of _ (by decide +kernel)) ggX4_gains_X4_heldPoints
set_option maxRecDepth 20000 in
theorem ggX4_allStand_X4_coldOf : GoodIn wsX4_allStand wsX4_coldOf := goodIn_r _ [6] (by decide +kernel) (by decide +kernel)
set_option maxRecDepth 20000 in
theorem gX4_allStand_X4_coldOf : GoodIn wsX4_allStand (va_wsS RX4 180 yX4_coldOf wsX4_coldOf) := goodIn_app (goodIn_of _ (by decide +kernel)) ggX4_allStand_X4_coldOf
set_option maxRecDepth 20000 in
theorem ggX4_allStand_X4_gains : GoodIn wsX4_allStand wsX4_gains := goodIn_r _ [10, 11, 12, 13, 5, 14, 15, 16, 17, 18, 19, 20, 21, 22, 23, 24, 25, 26, 27, 28, 29, 30, 31, 32, 33, 34, 35, 36, 37, 38, 39, 40, 41, 42, 43, 44, 45, 46, 47, 48] (by decide +kernel) (by decide +kernel)
set_option maxRecDepth 20000 in
theorem gX4_allStand_X4_gains : GoodIn wsX4_allStand (wsV RX4 137 RX4 yX4_gains wsX4_gains) := goodIn_app (goodIn_of _ (by decide +kernel)) ggX4_allStand_X4_gains
set_option maxRecDepth 20000 in
theorem ggX4_truly_X4_stageAt : GoodIn wsX4_truly wsX4_stageAt := goodIn_r _ [5] (by decide +kernel) (by decide +kernel)
set_option maxRecDepth 20000 in
theorem gX4_truly_X4_stageAt : GoodIn wsX4_truly (va_wsS RX4 183 yX4_stageAt wsX4_stageAt) := goodIn_app (goodIn_of _ (by decide +kernel)) ggX4_truly_X4_stageAt
set_option maxRecDepth 20000 in
theorem ggX4_jug_X4_isJug : GoodIn wsX4_jug wsX4_isJug := goodIn_r _ [9, 10, 30, 31, 32, 33, 34, 35, 36, 37, 38, 39, 40, 41, 42, 43, 44, 45, 46, 47, 48, 49, 50, 51, 52, 53, 54, 55, 56, 57, 58, 59, 60, 61, 62, 63] (by decide +kernel) (by decide +kernel)
set_option maxRecDepth 20000 in
theorem gX4_jug_X4_isJug : GoodIn wsX4_jug (wsV RX4 131 RX4 yX4_isJug wsX4_isJug) := goodIn_app (goodIn_of _ (by decide +kernel)) ggX4_jug_X4_isJug
set_option maxRecDepth 20000 in
theorem ggX4_jug_X4_no : GoodIn wsX4_jug wsX4_no := goodIn_r _ [14, 15, 30, 31, 32, 33, 34, 35, 36, 37, 38, 39, 40, 41, 42, 43, 44, 45, 46, 47, 48, 49, 50, 51, 52, 53, 54, 55, 56, 57, 58, 59, 60, 61, 62, 63] (by decide +kernel) (by decide +kernel)
set_option maxRecDepth 20000 in
theorem gX4_jug_X4_no : GoodIn wsX4_jug (wsV RX4 85 RX4 yX4_no wsX4_no) := goodIn_app (goodIn_of _ (by decide +kernel)) ggX4_jug_X4_no
set_option maxRecDepth 20000 in
theorem ggX4_jug_X4_truly : GoodIn wsX4_jug wsX4_truly := goodIn_r _ [19, 4, 20, 21, 8, 22, 30, 31, 32, 33, 34, 35, 36, 37, 38, 39, 40, 41, 42, 43, 44, 45, 46, 47, 48, 49, 50, 51, 52, 53, 54, 55, 56, 57, 58, 59, 60, 61, 62, 63] (by decide +kernel) (by decide +kernel)
set_option maxRecDepth 20000 in
theorem gX4_jug_X4_truly : GoodIn wsX4_jug (wsV RX4 186 RX4 yX4_truly wsX4_truly) := goodIn_app (goodIn_of _ (by decide +kernel)) ggX4_jug_X4_truly
set_option maxRecDepth 20000 in
theorem ggX4_jug_X4_coldOf : GoodIn wsX4_jug wsX4_coldOf := goodIn_r _ [25] (by decide +kernel) (by decide +kernel)
set_option maxRecDepth 20000 in
theorem gX4_jug_X4_coldOf : GoodIn wsX4_jug (va_wsS RX4 180 yX4_coldOf wsX4_coldOf) := goodIn_app (goodIn_of _ (by decide +kernel)) ggX4_jug_X4_coldOf
set_option maxRecDepth 20000 in
theorem ggX4_jug_X4_warmOf : GoodIn wsX4_jug wsX4_warmOf := goodIn_r _ [29, 1, 2, 30, 31, 32, 33, 34, 35, 36, 37, 38, 39, 40, 41, 42, 43, 44, 45, 46, 47, 48, 49, 50, 51, 52, 53, 54, 55, 56, 57, 58, 59, 60, 61, 62, 63] (by decide +kernel) (by decide +kernel)
set_option maxRecDepth 20000 in
theorem gX4_jug_X4_warmOf : GoodIn wsX4_jug (wsV RX4 134 RX4 yX4_warmOf wsX4_warmOf) := goodIn_app (goodIn_of _ (by decide +kernel)) ggX4_jug_X4_warmOf
set_option maxRecDepth 20000 in
theorem ggX4_cold_X4_bound : GoodIn wsX4_cold wsX4_bound := goodIn_r _ [4] (by decide +kernel) (by decide +kernel)
set_option maxRecDepth 20000 in
theorem gX4_cold_X4_bound : GoodIn wsX4_cold (va_wsS RX4 78 yX4_bound wsX4_bound) := goodIn_app (goodIn_of _ (by decide +kernel)) ggX4_cold_X4_bound
set_option maxRecDepth 20000 in
theorem ggX4_cold_X4_no : GoodIn wsX4_cold wsX4_no := goodIn_r _ [8, 9, 31, 32, 33, 34, 35, 36, 37, 38, 39, 40, 41, 42, 43, 44, 45, 46, 47, 48, 49, 50, 51, 52, 53, 54, 55, 56, 57, 58, 59, 60, 61, 62, 63, 64] (by decide +kernel) (by decide +kernel)
set_option maxRecDepth 20000 in
theorem gX4_cold_X4_no : GoodIn wsX4_cold (wsV RX4 85 RX4 yX4_no wsX4_no) := goodIn_app (goodIn_of _ (by decide +kernel)) ggX4_cold_X4_no
set_option maxRecDepth 20000 in
theorem ggX4_cold_X4_allStand : GoodIn wsX4_cold wsX4_allStand := goodIn_r _ [13, 14, 15, 16, 17, 3, 18, 19, 20, 21, 22, 23, 24, 25, 26, 31, 32, 33, 34, 35, 36, 37, 38, 39, 40, 41, 42, 43, 44, 45, 46, 47, 48, 49, 50, 51, 52, 53, 54, 55, 56, 57, 58, 59, 60, 61, 62, 63, 64] (by decide +kernel) (by decide +kernel)
set_option maxRecDepth 20000 in
theorem gX4_cold_X4_allStand : GoodIn wsX4_cold (wsV RX4 127 RX4 yX4_allStand wsX4_allStand) := goodIn_app (goodIn_of _ (by decide +kernel)) ggX4_cold_X4_allStand
set_option maxRecDepth 20000 in
theorem ggX4_cold_X4_allPoints : GoodIn wsX4_cold wsX4_allPoints := goodIn_r _ [30, 14, 23, 31, 32, 33, 34, 35, 36, 37, 38, 39, 40, 41, 42, 43, 44, 45, 46, 47, 48, 49, 50, 51, 52, 53, 54, 55, 56, 57, 58, 59, 60, 61, 62, 63, 64] (by decide +kernel) (by decide +kernel)
set_option maxRecDepth 20000 in
theorem gX4_cold_X4_allPoints : GoodIn wsX4_cold (wsV RX4 189 RX4 yX4_allPoints wsX4_allPoints) := goodIn_app (goodIn_of _ (by decide +kernel)) ggX4_cold_X4_allPoints
set_option maxRecDepth 20000 in
theorem ggX4_warm_X4_isJug : GoodIn wsX4_warm wsX4_isJug := goodIn_r _ [6, 7, 29, 30, 31, 32, 33, 34, 35, 36, 37, 38, 39, 40, 41, 42, 43, 44, 45, 46, 47, 48, 49, 50, 51, 52, 53, 54, 55, 56, 57, 58, 59, 60, 61, 62] (by decide +kernel) (by decide +kernel)
set_option maxRecDepth 20000 in
theorem gX4_warm_X4_isJug : GoodIn wsX4_warm (wsV RX4 131 RX4 yX4_isJug wsX4_isJug) := goodIn_app (goodIn_of _ (by decide +kernel)) ggX4_warm_X4_isJug
set_option maxRecDepth 20000 in
theorem ggX4_warm_X4_bound : GoodIn wsX4_warm wsX4_bound := goodIn_r _ [10] (by decide +kernel) (by decide +kernel)
set_option maxRecDepth 20000 in
theorem gX4_warm_X4_bound : GoodIn wsX4_warm (va_wsS RX4 78 yX4_bound wsX4_bound) := goodIn_app (goodIn_of _ (by decide +kernel)) ggX4_warm_X4_bound
set_option maxRecDepth 20000 in
theorem ggX4_warm_X4_no : GoodIn wsX4_warm wsX4_no := goodIn_r _ [14, 15, 29, 30, 31, 32, 33, 34, 35, 36, 37, 38, 39, 40, 41, 42, 43, 44, 45, 46, 47, 48, 49, 50, 51, 52, 53, 54, 55, 56, 57, 58, 59, 60, 61, 62] (by decide +kernel) (by decide +kernel)
set_option maxRecDepth 20000 in
theorem gX4_warm_X4_no : GoodIn wsX4_warm (wsV RX4 85 RX4 yX4_no wsX4_no) := goodIn_app (goodIn_of _ (by decide +kernel)) ggX4_warm_X4_no
set_option maxRecDepth 20000 in
theorem ggX4_warm_X4_warmOf : GoodIn wsX4_warm wsX4_warmOf := goodIn_r _ [19, 20, 21, 29, 30, 31, 32, 33, 34, 35, 36, 37, 38, 39, 40, 41, 42, 43, 44, 45, 46, 47, 48, 49, 50, 51, 52, 53, 54, 55, 56, 57, 58, 59, 60, 61, 62] (by decide +kernel) (by decide +kernel)
set_option maxRecDepth 20000 in
theorem gX4_warm_X4_warmOf : GoodIn wsX4_warm (wsV RX4 134 RX4 yX4_warmOf wsX4_warmOf) := goodIn_app (goodIn_of _ (by decide +kernel)) ggX4_warm_X4_warmOf
set_option maxRecDepth 20000 in
theorem ggX4_warm_X4_gains : GoodIn wsX4_warm wsX4_gains := goodIn_r _ [25, 1, 26, 27, 5, 28, 29, 30, 31, 32, 33, 34, 35, 36, 37, 38, 39, 40, 41, 42, 43, 44, 45, 46, 47, 48, 49, 50, 51, 52, 53, 54, 55, 56, 57, 58, 59, 60, 61, 62] (by decide +kernel) (by decide +kernel)
set_option maxRecDepth 20000 in
theorem gX4_warm_X4_gains : GoodIn wsX4_warm (wsV RX4 137 RX4 yX4_gains wsX4_gains) := goodIn_app (goodIn_of _ (by decide +kernel)) ggX4_warm_X4_gains
set_option maxRecDepth 20000 in
theorem ggX4_hand_X4_isJug : GoodIn wsX4_hand wsX4_isJug := goodIn_r _ [7, 8, 14, 15, 16, 17, 18, 19, 20, 21, 22, 23, 24, 25, 26, 27, 28, 29, 30, 31, 32, 33, 34, 35, 36, 37, 38, 39, 40, 41, 42, 43, 44, 45, 46, 47] (by decide +kernel) (by decide +kernel)
set_option maxRecDepth 20000 in
theorem gX4_hand_X4_isJug : GoodIn wsX4_hand (wsV RX4 131 RX4 yX4_isJug wsX4_isJug) := goodIn_app (goodIn_of _ (by decide +kernel)) ggX4_hand_X4_isJug
set_option maxRecDepth 20000 in
theorem ggX4_hand_X4_no : GoodIn wsX4_hand wsX4_no := goodIn_r _ [12, 13, 14, 15, 16, 17, 18, 19, 20, 21, 22, 23, 24, 25, 26, 27, 28, 29, 30, 31, 32, 33, 34, 35, 36, 37, 38, 39, 40, 41, 42, 43, 44, 45, 46, 47] (by decide +kernel) (by decide +kernel)
set_option maxRecDepth 20000 in
theorem gX4_hand_X4_no : GoodIn wsX4_hand (wsV RX4 85 RX4 yX4_no wsX4_no) := goodIn_app (goodIn_of _ (by decide +kernel)) ggX4_hand_X4_no
set_option maxRecDepth 20000 in
theorem ggX4_see_X4_isTest : GoodIn wsX4_see wsX4_isTest := goodIn_r _ [6] (by decide +kernel) (by decide +kernel)
set_option maxRecDepth 20000 in
theorem gX4_see_X4_isTest : GoodIn wsX4_see (va_wsS RX4 192 yX4_isTest wsX4_isTest) := goodIn_app (goodIn_of _ (by decide +kernel)) ggX4_see_X4_isTest
set_option maxRecDepth 20000 in
theorem ggX4_see_X4_isIn : GoodIn wsX4_see wsX4_isIn := goodIn_r _ [9] (by decide +kernel) (by decide +kernel)
set_option maxRecDepth 20000 in
theorem gX4_see_X4_isIn : GoodIn wsX4_see (va_wsS RX4 96 yX4_isIn wsX4_isIn) := goodIn_app (goodIn_of _ (by decide +kernel)) ggX4_see_X4_isIn
set_option maxRecDepth 20000 in
theorem ggX4_see_X4_no : GoodIn wsX4_see wsX4_no := goodIn_r _ [13, 14, 21, 22, 23, 24, 25, 26, 27, 28, 29, 30, 31, 32, 33, 34, 35, 36, 37, 38, 39, 40, 41, 42, 43, 44, 45, 46, 47, 48, 49, 50, 51, 52, 53, 54] (by decide +kernel) (by decide +kernel)
set_option maxRecDepth 20000 in
theorem gX4_see_X4_no : GoodIn wsX4_see (wsV RX4 85 RX4 yX4_no wsX4_no) := goodIn_app (goodIn_of _ (by decide +kernel)) ggX4_see_X4_no
set_option maxRecDepth 20000 in
theorem ggX4_see_X4_sees : GoodIn wsX4_see wsX4_sees := goodIn_r _ [18, 19, 2, 20, 21, 22, 23, 24, 25, 26, 27, 28, 29, 30, 31, 32, 33, 34, 35, 36, 37, 38, 39, 40, 41, 42, 43, 44, 45, 46, 47, 48, 49, 50, 51, 52, 53, 54] (by decide +kernel) (by decide +kernel)
set_option maxRecDepth 20000 in
theorem gX4_see_X4_sees : GoodIn wsX4_see (wsV RX4 113 RX4 yX4_sees wsX4_sees) := goodIn_app (goodIn_of _ (by decide +kernel)) ggX4_see_X4_sees
set_option maxRecDepth 20000 in
theorem ggX4_unsee_X4_no : GoodIn wsX4_unsee wsX4_no := goodIn_r _ [6, 7, 8, 9, 10, 11, 12, 13, 14, 15, 16, 17, 18, 19, 20, 21, 22, 23, 24, 25, 26, 27, 28, 29, 30, 31, 32, 33, 34, 35, 36, 37, 38, 39, 40, 41] (by decide +kernel) (by decide +kernel)
set_option maxRecDepth 20000 in
theorem gX4_unsee_X4_no : GoodIn wsX4_unsee (wsV RX4 85 RX4 yX4_no wsX4_no) := goodIn_app (goodIn_of _ (by decide +kernel)) ggX4_unsee_X4_no
set_option maxRecDepth 20000 in
theorem ggX4_use_X4_bound : GoodIn wsX4_use wsX4_bound := goodIn_r _ [7] (by decide +kernel) (by decide +kernel)
set_option maxRecDepth 20000 in
theorem gX4_use_X4_bound : GoodIn wsX4_use (va_wsS RX4 78 yX4_bound wsX4_bound) := goodIn_app (goodIn_of _ (by decide +kernel)) ggX4_use_X4_bound
set_option maxRecDepth 20000 in
theorem ggX4_use_X4_no : GoodIn wsX4_use wsX4_no := goodIn_r _ [11, 12, 21, 22, 23, 24, 25, 26, 27, 28, 29, 30, 31, 32, 33, 34, 35, 36, 37, 38, 39, 40, 41, 42, 43, 44, 45, 46, 47, 48, 49, 50, 51, 52, 53, 54] (by decide +kernel) (by decide +kernel)
set_option maxRecDepth 20000 in
theorem gX4_use_X4_no : GoodIn wsX4_use (wsV RX4 85 RX4 yX4_no wsX4_no) := goodIn_app (goodIn_of _ (by decide +kernel)) ggX4_use_X4_no
set_option maxRecDepth 20000 in
theorem ggX4_use_X4_uses : GoodIn wsX4_use wsX4_uses := goodIn_r _ [16, 2, 3, 1, 17, 18, 19, 20, 21, 22, 23, 24, 25, 26, 27, 28, 29, 30, 31, 32, 33, 34, 35, 36, 37, 38, 39, 40, 41, 42, 43, 44, 45, 46, 47, 48, 49, 50, 51, 52, 53, 54] (by decide +kernel) (by decide +kernel)
set_option maxRecDepth 20000 in
theorem gX4_use_X4_uses : GoodIn wsX4_use (wsV RX4 120 RX4 yX4_uses wsX4_uses) := goodIn_app (goodIn_of _ (by decide +kernel)) ggX4_use_X4_uses
set_option maxRecDepth 20000 in
theorem ggX4_cost_X4_isTest : GoodIn wsX4_cost wsX4_isTest := goodIn_r _ [5] (by decide +kernel) (by decide +kernel)
set_option maxRecDepth 20000 in
theorem gX4_cost_X4_isTest : GoodIn wsX4_cost (va_wsS RX4 192 yX4_isTest wsX4_isTest) := goodIn_app (goodIn_of _ (by decide +kernel)) ggX4_cost_X4_isTest
set_option maxRecDepth 20000 in
theorem ggX4_cost_X4_bound : GoodIn wsX4_cost wsX4_bound := goodIn_r _ [8] (by decide +kernel) (by decide +kernel)
set_option maxRecDepth 20000 in
theorem gX4_cost_X4_bound : GoodIn wsX4_cost (va_wsS RX4 78 yX4_bound wsX4_bound) := goodIn_app (goodIn_of _ (by decide +kernel)) ggX4_cost_X4_bound
set_option maxRecDepth 20000 in
theorem ggX4_cost_X4_no : GoodIn wsX4_cost wsX4_no := goodIn_r _ [12, 13, 14, 15, 16, 17, 18, 19, 20, 21, 22, 23, 24, 25, 26, 27, 28, 29, 30, 31, 32, 33, 34, 35, 36, 37, 38, 39, 40, 41, 42, 43, 44, 45, 46, 47] (by decide +kernel) (by decide +kernel)
set_option maxRecDepth 20000 in
theorem gX4_cost_X4_no : GoodIn wsX4_cost (wsV RX4 85 RX4 yX4_no wsX4_no) := goodIn_app (goodIn_of _ (by decide +kernel)) ggX4_cost_X4_no
set_option maxRecDepth 20000 in
theorem ggX4_price_X4_bound : GoodIn wsX4_price wsX4_bound := goodIn_r _ [5] (by decide +kernel) (by decide +kernel)
set_option maxRecDepth 20000 in
theorem gX4_price_X4_bound : GoodIn wsX4_price (va_wsS RX4 78 yX4_bound wsX4_bound) := goodIn_app (goodIn_of _ (by decide +kernel)) ggX4_price_X4_bound
set_option maxRecDepth 20000 in
theorem ggX4_price_X4_no : GoodIn wsX4_price wsX4_no := goodIn_r _ [9, 10, 11, 12, 13, 14, 15, 16, 17, 18, 19, 20, 21, 22, 23, 24, 25, 26, 27, 28, 29, 30, 31, 32, 33, 34, 35, 36, 37, 38, 39, 40, 41, 42, 43, 44] (by decide +kernel) (by decide +kernel)
set_option maxRecDepth 20000 in
theorem gX4_price_X4_no : GoodIn wsX4_price (wsV RX4 85 RX4 yX4_no wsX4_no) := goodIn_app (goodIn_of _ (by decide +kernel)) ggX4_price_X4_no
set_option maxRecDepth 20000 in
theorem ggX4_saysOff_X4_tenthsOf : GoodIn wsX4_saysOff wsX4_tenthsOf := goodIn_r _ [6] (by decide +kernel) (by decide +kernel)
set_option maxRecDepth 20000 in
theorem gX4_saysOff_X4_tenthsOf : GoodIn wsX4_saysOff (va_wsS RX4 195 yX4_tenthsOf wsX4_tenthsOf) := goodIn_app (goodIn_of _ (by decide +kernel)) ggX4_saysOff_X4_tenthsOf
set_option maxRecDepth 20000 in
theorem ggX4_saysOff_X4_held : GoodIn wsX4_saysOff wsX4_held := goodIn_r _ [9] (by decide +kernel) (by decide +kernel)
set_option maxRecDepth 20000 in
theorem gX4_saysOff_X4_held : GoodIn wsX4_saysOff (va_wsS RX4 199 yX4_held wsX4_held) := goodIn_app (goodIn_of _ (by decide +kernel)) ggX4_saysOff_X4_held
set_option maxRecDepth 20000 in
theorem ggX4_weightAt_X4_stageAt : GoodIn wsX4_weightAt wsX4_stageAt := goodIn_r _ [5] (by decide +kernel) (by decide +kernel)
set_option maxRecDepth 20000 in
theorem gX4_weightAt_X4_stageAt : GoodIn wsX4_weightAt (va_wsS RX4 183 yX4_stageAt wsX4_stageAt) := goodIn_app (goodIn_of _ (by decide +kernel)) ggX4_weightAt_X4_stageAt
set_option maxRecDepth 20000 in
theorem ggX4_netOf_X4_worthOf : GoodIn wsX4_netOf wsX4_worthOf := goodIn_r _ [5, 6, 13, 14, 15, 16, 17, 18, 19, 20, 21, 22, 23, 24, 25, 26, 27, 28, 29, 30, 31, 32, 33, 34, 35, 36, 37, 38, 39, 40, 41, 42, 43, 44, 45, 46] (by decide +kernel) (by decide +kernel)
set_option maxRecDepth 20000 in
theorem gX4_netOf_X4_worthOf : GoodIn wsX4_netOf (wsV RX4 202 RX4 yX4_worthOf wsX4_worthOf) := goodIn_app (goodIn_of _ (by decide +kernel)) ggX4_netOf_X4_worthOf
set_option maxRecDepth 20000 in
theorem ggX4_netOf_X4_harmOf : GoodIn wsX4_netOf wsX4_harmOf := goodIn_r _ [9] (by decide +kernel) (by decide +kernel)
set_option maxRecDepth 20000 in
theorem gX4_netOf_X4_harmOf : GoodIn wsX4_netOf (va_wsS RX4 205 yX4_harmOf wsX4_harmOf) := goodIn_app (goodIn_of _ (by decide +kernel)) ggX4_netOf_X4_harmOf
set_option maxRecDepth 20000 in
theorem ggX4_netOf_X4_timesFor : GoodIn wsX4_netOf wsX4_timesFor := goodIn_r _ [12] (by decide +kernel) (by decide +kernel)
set_option maxRecDepth 20000 in
theorem gX4_netOf_X4_timesFor : GoodIn wsX4_netOf (va_wsS RX4 208 yX4_timesFor wsX4_timesFor) := goodIn_app (goodIn_of _ (by decide +kernel)) ggX4_netOf_X4_timesFor
set_option maxRecDepth 20000 in
theorem ggX4_findThought_X4_weightAt : GoodIn wsX4_findThought wsX4_weightAt := goodIn_r _ [11, 12, 13, 14, 10, 15, 26, 27, 28, 29, 30, 31, 32, 33, 34, 35, 36, 37, 38, 39, 40, 41, 42, 43, 44, 45, 46, 47, 48, 49, 50, 51, 52, 53, 54, 55, 56, 57, 58, 59] (by decide +kernel) (by decide +kernel)
set_option maxRecDepth 20000 in
theorem gX4_findThought_X4_weightAt : GoodIn wsX4_findThought (wsV RX4 211 RX4 yX4_weightAt wsX4_weightAt) := goodIn_app (goodIn_of _ (by decide +kernel)) ggX4_findThought_X4_weightAt
set_option maxRecDepth 20000 in
theorem ggX4_findThought_X4_saysOff : GoodIn wsX4_findThought wsX4_saysOff := goodIn_r _ [19, 12, 2, 20, 21, 10, 22, 23, 24, 25, 26, 27, 28, 29, 30, 31, 32, 33, 34, 35, 36, 37, 38, 39, 40, 41, 42, 43, 44, 45, 46, 47, 48, 49, 50, 51, 52, 53, 54, 55, 56, 57, 58, 59] (by decide +kernel) (by decide +kernel)
set_option maxRecDepth 20000 in
theorem gX4_findThought_X4_saysOff : GoodIn wsX4_findThought (wsV RX4 214 RX4 yX4_saysOff wsX4_saysOff) := goodIn_app (goodIn_of _ (by decide +kernel)) ggX4_findThought_X4_saysOff
set_option maxRecDepth 20000 in
theorem ggX4_netBy_X4_netOf : GoodIn wsX4_netBy wsX4_netOf := goodIn_r _ [5, 6, 7, 8, 4, 9, 10, 11, 12, 13, 14, 15, 16, 17, 18, 19, 20, 21, 22, 23, 24, 25, 26, 27, 28, 29, 30, 31, 32, 33, 34, 35, 36, 37, 38, 39, 40, 41, 42, 43, 44, 45, 46, 47, 48, 49, 50] (by decide +kernel) (by decide +kernel)
set_option maxRecDepth 20000 in
theorem gX4_netBy_X4_netOf : GoodIn wsX4_netBy (wsV RX4 217 RX4 yX4_netOf wsX4_netOf) := goodIn_app (goodIn_of _ (by decide +kernel)) ggX4_netBy_X4_netOf
set_option maxRecDepth 20000 in
theorem ggX4_bestUse_X4_netBy : GoodIn wsX4_bestUse wsX4_netBy := goodIn_r _ [5, 6, 7, 8, 4, 9, 10, 11, 12, 13, 14, 15, 16, 17, 18, 19, 20, 21, 22, 23, 24, 25, 26, 27, 28, 29, 30, 31, 32, 33, 34, 35, 36, 37, 38, 39, 40, 41, 42, 43, 44, 45, 46, 47, 48, 49, 50, 51, 52, 53, 54] (by decide +kernel) (by decide +kernel)
set_option maxRecDepth 20000 in
theorem gX4_bestUse_X4_netBy : GoodIn wsX4_bestUse (wsV RX4 220 RX4 yX4_netBy wsX4_netBy) := goodIn_app (goodIn_of _ (by decide +kernel)) ggX4_bestUse_X4_netBy
set_option maxRecDepth 20000 in
theorem ggX4_bestNet_X4_bestUse : GoodIn wsX4_bestNet wsX4_bestUse := goodIn_r _ [5, 6, 7, 8, 4, 9, 10, 11, 12, 13, 14, 15, 16, 17, 18, 19, 20, 21, 22, 23, 24, 25, 26, 27, 28, 29, 30, 31, 32, 33, 34, 35, 36, 37, 38, 39, 40, 41, 42, 43, 44, 45, 46, 47, 48, 49, 50, 51, 52, 53, 54, 55, 56, 57, 58] (by decide +kernel) (by decide +kernel)
set_option maxRecDepth 20000 in
theorem gX4_bestNet_X4_bestUse : GoodIn wsX4_bestNet (wsV RX4 224 RX4 yX4_bestUse wsX4_bestUse) := goodIn_app (goodIn_of _ (by decide +kernel)) ggX4_bestNet_X4_bestUse
set_option maxRecDepth 20000 in
theorem ggX4_bestNet_X4_netBy : GoodIn wsX4_bestNet wsX4_netBy := goodIn_r _ [9, 10, 11, 12, 4, 13, 14, 15, 16, 17, 18, 19, 20, 21, 22, 23, 24, 25, 26, 27, 28, 29, 30, 31, 32, 33, 34, 35, 36, 37, 38, 39, 40, 41, 42, 43, 44, 45, 46, 47, 48, 49, 50, 51, 52, 53, 54, 55, 56, 57, 58] (by decide +kernel) (by decide +kernel)
set_option maxRecDepth 20000 in
theorem gX4_bestNet_X4_netBy : GoodIn wsX4_bestNet (wsV RX4 220 RX4 yX4_netBy wsX4_netBy) := goodIn_app (goodIn_of _ (by decide +kernel)) ggX4_bestNet_X4_netBy
set_option maxRecDepth 20000 in
theorem ggX4_partOf_X4_divisor : GoodIn wsX4_partOf wsX4_divisor := goodIn_r _ [4] (by decide +kernel) (by decide +kernel)
set_option maxRecDepth 20000 in
theorem gX4_partOf_X4_divisor : GoodIn wsX4_partOf (va_wsS RX4 228 yX4_divisor wsX4_divisor) := goodIn_app (goodIn_of _ (by decide +kernel)) ggX4_partOf_X4_divisor
set_option maxRecDepth 20000 in
theorem ggX4_says_X4_isTest : GoodIn wsX4_says wsX4_isTest := goodIn_r _ [5] (by decide +kernel) (by decide +kernel)
set_option maxRecDepth 20000 in
theorem gX4_says_X4_isTest : GoodIn wsX4_says (va_wsS RX4 192 yX4_isTest wsX4_isTest) := goodIn_app (goodIn_of _ (by decide +kernel)) ggX4_says_X4_isTest
set_option maxRecDepth 20000 in
theorem ggX4_says_X4_isStage : GoodIn wsX4_says wsX4_isStage := goodIn_r _ [8] (by decide +kernel) (by decide +kernel)
set_option maxRecDepth 20000 in
theorem gX4_says_X4_isStage : GoodIn wsX4_says (va_wsS RX4 232 yX4_isStage wsX4_isStage) := goodIn_app (goodIn_of _ (by decide +kernel)) ggX4_says_X4_isStage
set_option maxRecDepth 20000 in
theorem ggX4_says_X4_no : GoodIn wsX4_says wsX4_no := goodIn_r _ [12, 13, 26, 27, 28, 29, 30, 31, 32, 33, 34, 35, 36, 37, 38, 39, 40, 41, 42, 43, 44, 45, 46, 47, 48, 49, 50, 51, 52, 53, 54, 55, 56, 57, 58, 59] (by decide +kernel) (by decide +kernel)
set_option maxRecDepth 20000 in
theorem gX4_says_X4_no : GoodIn wsX4_says (wsV RX4 85 RX4 yX4_no wsX4_no) := goodIn_app (goodIn_of _ (by decide +kernel)) ggX4_says_X4_no
set_option maxRecDepth 20000 in
theorem ggX4_says_X4_saysOff : GoodIn wsX4_says wsX4_saysOff := goodIn_r _ [17, 18, 19, 20, 21, 4, 22, 23, 24, 25, 26, 27, 28, 29, 30, 31, 32, 33, 34, 35, 36, 37, 38, 39, 40, 41, 42, 43, 44, 45, 46, 47, 48, 49, 50, 51, 52, 53, 54, 55, 56, 57, 58, 59] (by decide +kernel) (by decide +kernel)
set_option maxRecDepth 20000 in
theorem gX4_says_X4_saysOff : GoodIn wsX4_says (wsV RX4 214 RX4 yX4_saysOff wsX4_saysOff) := goodIn_app (goodIn_of _ (by decide +kernel)) ggX4_says_X4_saysOff
set_option maxRecDepth 20000 in
theorem ggX4_thought_X4_isStage : GoodIn wsX4_thought wsX4_isStage := goodIn_r _ [6] (by decide +kernel) (by decide +kernel)
set_option maxRecDepth 20000 in
theorem gX4_thought_X4_isStage : GoodIn wsX4_thought (va_wsS RX4 232 yX4_isStage wsX4_isStage) := goodIn_app (goodIn_of _ (by decide +kernel)) ggX4_thought_X4_isStage
set_option maxRecDepth 20000 in
theorem ggX4_thought_X4_lowest : GoodIn wsX4_thought wsX4_lowest := goodIn_r _ [10, 11, 12, 40, 41, 42, 43, 44, 45, 46, 47, 48, 49, 50, 51, 52, 53, 54, 55, 56, 57, 58, 59, 60, 61, 62, 63, 64, 65, 66, 67, 68, 69, 70, 71, 72, 73] (by decide +kernel) (by decide +kernel)
set_option maxRecDepth 20000 in
theorem gX4_thought_X4_lowest : GoodIn wsX4_thought (wsV RX4 235 RX4 yX4_lowest wsX4_lowest) := goodIn_app (goodIn_of _ (by decide +kernel)) ggX4_thought_X4_lowest
set_option maxRecDepth 20000 in
theorem ggX4_thought_X4_findThought : GoodIn wsX4_thought wsX4_findThought := goodIn_r _ [16, 2, 17, 18, 19, 20, 21, 22, 23, 24, 5, 25, 26, 27, 28, 29, 30, 31, 32, 33, 34, 35, 36, 37, 38, 39, 40, 41, 42, 43, 44, 45, 46, 47, 48, 49, 50, 51, 52, 53, 54, 55, 56, 57, 58, 59, 60, 61, 62, 63, 64, 65, 66, 67, 68, 69, 70, 71, 72, 73] (by decide +kernel) (by decide +kernel)
set_option maxRecDepth 20000 in
theorem gX4_thought_X4_findThought : GoodIn wsX4_thought (wsV RX4 239 RX4 yX4_findThought wsX4_findThought) := goodIn_app (goodIn_of _ (by decide +kernel)) ggX4_thought_X4_findThought
set_option maxRecDepth 20000 in
theorem ggX4_likely_X4_isStage : GoodIn wsX4_likely wsX4_isStage := goodIn_r _ [6] (by decide +kernel) (by decide +kernel)
set_option maxRecDepth 20000 in
theorem gX4_likely_X4_isStage : GoodIn wsX4_likely (va_wsS RX4 232 yX4_isStage wsX4_isStage) := goodIn_app (goodIn_of _ (by decide +kernel)) ggX4_likely_X4_isStage
set_option maxRecDepth 20000 in
theorem ggX4_likely_X4_isIn : GoodIn wsX4_likely wsX4_isIn := goodIn_r _ [9] (by decide +kernel) (by decide +kernel)
set_option maxRecDepth 20000 in
theorem gX4_likely_X4_isIn : GoodIn wsX4_likely (va_wsS RX4 96 yX4_isIn wsX4_isIn) := goodIn_app (goodIn_of _ (by decide +kernel)) ggX4_likely_X4_isIn
set_option maxRecDepth 20000 in
theorem ggX4_likely_X4_lowest : GoodIn wsX4_likely wsX4_lowest := goodIn_r _ [13, 14, 15, 53, 54, 55, 56, 57, 58, 59, 60, 61, 62, 63, 64, 65, 66, 67, 68, 69, 70, 71, 72, 73, 74, 75, 76, 77, 78, 79, 80, 81, 82, 83, 84, 85, 86] (by decide +kernel) (by decide +kernel)
set_option maxRecDepth 20000 in
theorem gX4_likely_X4_lowest : GoodIn wsX4_likely (wsV RX4 235 RX4 yX4_lowest wsX4_lowest) := goodIn_app (goodIn_of _ (by decide +kernel)) ggX4_likely_X4_lowest
set_option maxRecDepth 20000 in
theorem ggX4_likely_X4_findThought : GoodIn wsX4_likely wsX4_findThought := goodIn_r _ [19, 2, 20, 21, 22, 23, 24, 25, 26, 27, 5, 28, 29, 30, 31, 32, 33, 34, 35, 36, 37, 38, 39, 40, 41, 42, 53, 54, 55, 56, 57, 58, 59, 60, 61, 62, 63, 64, 65, 66, 67, 68, 69, 70, 71, 72, 73, 74, 75, 76, 77, 78, 79, 80, 81, 82, 83, 84, 85, 86] (by decide +kernel) (by decide +kernel)
set_option maxRecDepth 20000 in
theorem gX4_likely_X4_findThought : GoodIn wsX4_likely (wsV RX4 239 RX4 yX4_findThought wsX4_findThought) := goodIn_app (goodIn_of _ (by decide +kernel)) ggX4_likely_X4_findThought
set_option maxRecDepth 20000 in
theorem ggX4_likely_X4_allThought : GoodIn wsX4_likely wsX4_allThought := goodIn_r _ [46, 2, 53, 54, 55, 56, 57, 58, 59, 60, 61, 62, 63, 64, 65, 66, 67, 68, 69, 70, 71, 72, 73, 74, 75, 76, 77, 78, 79, 80, 81, 82, 83, 84, 85, 86] (by decide +kernel) (by decide +kernel)
set_option maxRecDepth 20000 in
theorem gX4_likely_X4_allThought : GoodIn wsX4_likely (wsV RX4 242 RX4 yX4_allThought wsX4_allThought) := goodIn_app (goodIn_of _ (by decide +kernel)) ggX4_likely_X4_allThought
set_option maxRecDepth 20000 in
theorem ggX4_likely_X4_partOf : GoodIn wsX4_likely wsX4_partOf := goodIn_r _ [49, 50, 51, 5, 52] (by decide +kernel) (by decide +kernel)
set_option maxRecDepth 20000 in
theorem gX4_likely_X4_partOf : GoodIn wsX4_likely (va_wsS RX4 246 yX4_partOf wsX4_partOf) := goodIn_app (goodIn_of _ (by decide +kernel)) ggX4_likely_X4_partOf
set_option maxRecDepth 20000 in
theorem ggX4_good_X4_isIn : GoodIn wsX4_good wsX4_isIn := goodIn_r _ [6] (by decide +kernel) (by decide +kernel)
set_option maxRecDepth 20000 in
theorem gX4_good_X4_isIn : GoodIn wsX4_good (va_wsS RX4 96 yX4_isIn wsX4_isIn) := goodIn_app (goodIn_of _ (by decide +kernel)) ggX4_good_X4_isIn
set_option maxRecDepth 20000 in
theorem ggX4_good_X4_lowest : GoodIn wsX4_good wsX4_lowest := goodIn_r _ [10, 11, 12, 50, 51, 52, 53, 54, 55, 56, 57, 58, 59, 60, 61, 62, 63, 64, 65, 66, 67, 68, 69, 70, 71, 72, 73, 74, 75, 76, 77, 78, 79, 80, 81, 82, 83] (by decide +kernel) (by decide +kernel)
set_option maxRecDepth 20000 in
theorem gX4_good_X4_lowest : GoodIn wsX4_good (wsV RX4 235 RX4 yX4_lowest wsX4_lowest) := goodIn_app (goodIn_of _ (by decide +kernel)) ggX4_good_X4_lowest
set_option maxRecDepth 20000 in
theorem ggX4_good_X4_findThought : GoodIn wsX4_good wsX4_findThought := goodIn_r _ [16, 2, 17, 18, 19, 20, 21, 22, 23, 24, 5, 25, 26, 27, 28, 29, 30, 31, 32, 33, 34, 35, 36, 37, 38, 39, 50, 51, 52, 53, 54, 55, 56, 57, 58, 59, 60, 61, 62, 63, 64, 65, 66, 67, 68, 69, 70, 71, 72, 73, 74, 75, 76, 77, 78, 79, 80, 81, 82, 83] (by decide +kernel) (by decide +kernel)
set_option maxRecDepth 20000 in
theorem gX4_good_X4_findThought : GoodIn wsX4_good (wsV RX4 239 RX4 yX4_findThought wsX4_findThought) := goodIn_app (goodIn_of _ (by decide +kernel)) ggX4_good_X4_findThought
set_option maxRecDepth 20000 in
theorem ggX4_good_X4_allThought : GoodIn wsX4_good wsX4_allThought := goodIn_r _ [43, 2, 50, 51, 52, 53, 54, 55, 56, 57, 58, 59, 60, 61, 62, 63, 64, 65, 66, 67, 68, 69, 70, 71, 72, 73, 74, 75, 76, 77, 78, 79, 80, 81, 82, 83] (by decide +kernel) (by decide +kernel)
set_option maxRecDepth 20000 in
theorem gX4_good_X4_allThought : GoodIn wsX4_good (wsV RX4 242 RX4 yX4_allThought wsX4_allThought) := goodIn_app (goodIn_of _ (by decide +kernel)) ggX4_good_X4_allThought
set_option maxRecDepth 20000 in
theorem ggX4_good_X4_partOf : GoodIn wsX4_good wsX4_partOf := goodIn_r _ [46, 47, 48, 5, 49] (by decide +kernel) (by decide +kernel)
set_option maxRecDepth 20000 in
theorem gX4_good_X4_partOf : GoodIn wsX4_good (va_wsS RX4 246 yX4_partOf wsX4_partOf) := goodIn_app (goodIn_of _ (by decide +kernel)) ggX4_good_X4_partOf
set_option maxRecDepth 20000 in
theorem ggX4_mean_X4_isIn : GoodIn wsX4_mean wsX4_isIn := goodIn_r _ [8] (by decide +kernel) (by decide +kernel)
set_option maxRecDepth 20000 in
theorem gX4_mean_X4_isIn : GoodIn wsX4_mean (va_wsS RX4 96 yX4_isIn wsX4_isIn) := goodIn_app (goodIn_of _ (by decide +kernel)) ggX4_mean_X4_isIn
set_option maxRecDepth 20000 in
theorem ggX4_mean_X4_isWhom : GoodIn wsX4_mean wsX4_isWhom := goodIn_r _ [11] (by decide +kernel) (by decide +kernel)
set_option maxRecDepth 20000 in
theorem gX4_mean_X4_isWhom : GoodIn wsX4_mean (va_wsS RX4 250 yX4_isWhom wsX4_isWhom) := goodIn_app (goodIn_of _ (by decide +kernel)) ggX4_mean_X4_isWhom
set_option maxRecDepth 20000 in
theorem ggX4_mean_X4_lowest : GoodIn wsX4_mean wsX4_lowest := goodIn_r _ [15, 16, 17, 73, 74, 75, 76, 77, 78, 79, 80, 81, 82, 83, 84, 85, 86, 87, 88, 89, 90, 91, 92, 93, 94, 95, 96, 97, 98, 99, 100, 101, 102, 103, 104, 105, 106] (by decide +kernel) (by decide +kernel)
set_option maxRecDepth 20000 in
theorem gX4_mean_X4_lowest : GoodIn wsX4_mean (wsV RX4 235 RX4 yX4_lowest wsX4_lowest) := goodIn_app (goodIn_of _ (by decide +kernel)) ggX4_mean_X4_lowest
set_option maxRecDepth 20000 in
theorem ggX4_mean_X4_findThought : GoodIn wsX4_mean wsX4_findThought := goodIn_r _ [21, 2, 4, 22, 23, 24, 25, 26, 27, 28, 7, 29, 30, 31, 32, 33, 34, 35, 36, 37, 38, 39, 40, 41, 42, 43, 73, 74, 75, 76, 77, 78, 79, 80, 81, 82, 83, 84, 85, 86, 87, 88, 89, 90, 91, 92, 93, 94, 95, 96, 97, 98, 99, 100, 101, 102, 103, 104, 105, 106] (by decide +kernel) (by decide +kernel)
set_option maxRecDepth 20000 in
theorem gX4_mean_X4_findThought : GoodIn wsX4_mean (wsV RX4 239 RX4 yX4_findThought wsX4_findThought) := goodIn_app (goodIn_of _ (by decide +kernel)) ggX4_mean_X4_findThought
set_option maxRecDepth 20000 in
theorem ggX4_mean_X4_netBy : GoodIn wsX4_mean wsX4_netBy := goodIn_r _ [47, 48, 49, 50, 7, 51, 52, 53, 54, 55, 56, 57, 58, 59, 60, 61, 62, 73, 74, 75, 76, 77, 78, 79, 80, 81, 82, 83, 84, 85, 86, 87, 88, 89, 90, 91, 92, 93, 94, 95, 96, 97, 98, 99, 100, 101, 102, 103, 104, 105, 106] (by decide +kernel) (by decide +kernel)
set_option maxRecDepth 20000 in
theorem gX4_mean_X4_netBy : GoodIn wsX4_mean (wsV RX4 220 RX4 yX4_netBy wsX4_netBy) := goodIn_app (goodIn_of _ (by decide +kernel)) ggX4_mean_X4_netBy
set_option maxRecDepth 20000 in
theorem ggX4_mean_X4_allThought : GoodIn wsX4_mean wsX4_allThought := goodIn_r _ [66, 2, 73, 74, 75, 76, 77, 78, 79, 80, 81, 82, 83, 84, 85, 86, 87, 88, 89, 90, 91, 92, 93, 94, 95, 96, 97, 98, 99, 100, 101, 102, 103, 104, 105, 106] (by decide +kernel) (by decide +kernel)
set_option maxRecDepth 20000 in
theorem gX4_mean_X4_allThought : GoodIn wsX4_mean (wsV RX4 242 RX4 yX4_allThought wsX4_allThought) := goodIn_app (goodIn_of _ (by decide +kernel)) ggX4_mean_X4_allThought
set_option maxRecDepth 20000 in
theorem ggX4_mean_X4_partOf : GoodIn wsX4_mean wsX4_partOf := goodIn_r _ [69, 70, 71, 7, 72] (by decide +kernel) (by decide +kernel)
set_option maxRecDepth 20000 in
theorem gX4_mean_X4_partOf : GoodIn wsX4_mean (va_wsS RX4 246 yX4_partOf wsX4_partOf) := goodIn_app (goodIn_of _ (by decide +kernel)) ggX4_mean_X4_partOf
set_option maxRecDepth 20000 in
theorem ggX4_notBest_X4_isWhom : GoodIn wsX4_notBest wsX4_isWhom := goodIn_r _ [5] (by decide +kernel) (by decide +kernel)
set_option maxRecDepth 20000 in
theorem gX4_notBest_X4_isWhom : GoodIn wsX4_notBest (va_wsS RX4 250 yX4_isWhom wsX4_isWhom) := goodIn_app (goodIn_of _ (by decide +kernel)) ggX4_notBest_X4_isWhom
set_option maxRecDepth 20000 in
theorem ggX4_best_X4_notBest : GoodIn wsX4_best wsX4_notBest := goodIn_r _ [6, 7, 8, 9, 5, 10, 66, 67, 68, 69, 70, 71, 72, 73, 74, 75, 76, 77, 78, 79, 80, 81, 82, 83, 84, 85, 86, 87, 88, 89, 90, 91, 92, 93, 94, 95, 96, 97, 98, 99] (by decide +kernel) (by decide +kernel)
set_option maxRecDepth 20000 in
theorem gX4_best_X4_notBest : GoodIn wsX4_best (wsV RX4 253 RX4 yX4_notBest wsX4_notBest) := goodIn_app (goodIn_of _ (by decide +kernel)) ggX4_best_X4_notBest
set_option maxRecDepth 20000 in
theorem ggX4_best_X4_no : GoodIn wsX4_best wsX4_no := goodIn_r _ [14, 15, 66, 67, 68, 69, 70, 71, 72, 73, 74, 75, 76, 77, 78, 79, 80, 81, 82, 83, 84, 85, 86, 87, 88, 89, 90, 91, 92, 93, 94, 95, 96, 97, 98, 99] (by decide +kernel) (by decide +kernel)
set_option maxRecDepth 20000 in
theorem gX4_best_X4_no : GoodIn wsX4_best (wsV RX4 85 RX4 yX4_no wsX4_no) := goodIn_app (goodIn_of _ (by decide +kernel)) ggX4_best_X4_no
set_option maxRecDepth 20000 in
theorem ggX4_best_X4_findThought : GoodIn wsX4_best wsX4_findThought := goodIn_r _ [19, 1, 20, 21, 22, 23, 24, 25, 26, 27, 5, 28, 29, 30, 31, 32, 33, 34, 35, 36, 37, 38, 39, 40, 41, 42, 66, 67, 68, 69, 70, 71, 72, 73, 74, 75, 76, 77, 78, 79, 80, 81, 82, 83, 84, 85, 86, 87, 88, 89, 90, 91, 92, 93, 94, 95, 96, 97, 98, 99] (by decide +kernel) (by decide +kernel)
set_option maxRecDepth 20000 in
theorem gX4_best_X4_findThought : GoodIn wsX4_best (wsV RX4 239 RX4 yX4_findThought wsX4_findThought) := goodIn_app (goodIn_of _ (by decide +kernel)) ggX4_best_X4_findThought
set_option maxRecDepth 20000 in
theorem ggX4_best_X4_bestUse : GoodIn wsX4_best wsX4_bestUse := goodIn_r _ [46, 47, 48, 49, 5, 50, 51, 52, 53, 54, 55, 56, 57, 58, 59, 60, 61, 62, 63, 64, 65, 66, 67, 68, 69, 70, 71, 72, 73, 74, 75, 76, 77, 78, 79, 80, 81, 82, 83, 84, 85, 86, 87, 88, 89, 90, 91, 92, 93, 94, 95, 96, 97, 98, 99] (by decide +kernel) (by decide +kernel)
set_option maxRecDepth 20000 in
theorem gX4_best_X4_bestUse : GoodIn wsX4_best (wsV RX4 224 RX4 yX4_bestUse wsX4_bestUse) := goodIn_app (goodIn_of _ (by decide +kernel)) ggX4_best_X4_bestUse
set_option maxRecDepth 20000 in
theorem ggX4_sure_X4_notBest : GoodIn wsX4_sure wsX4_notBest := goodIn_r _ [5, 6, 7, 8, 4, 9, 50, 51, 52, 53, 54, 55, 56, 57, 58, 59, 60, 61, 62, 63, 64, 65, 66, 67, 68, 69, 70, 71, 72, 73, 74, 75, 76, 77, 78, 79, 80, 81, 82, 83] (by decide +kernel) (by decide +kernel)
set_option maxRecDepth 20000 in
theorem gX4_sure_X4_notBest : GoodIn wsX4_sure (wsV RX4 253 RX4 yX4_notBest wsX4_notBest) := goodIn_app (goodIn_of _ (by decide +kernel)) ggX4_sure_X4_notBest
set_option maxRecDepth 20000 in
theorem ggX4_sure_X4_no : GoodIn wsX4_sure wsX4_no := goodIn_r _ [13, 14, 50, 51, 52, 53, 54, 55, 56, 57, 58, 59, 60, 61, 62, 63, 64, 65, 66, 67, 68, 69, 70, 71, 72, 73, 74, 75, 76, 77, 78, 79, 80, 81, 82, 83] (by decide +kernel) (by decide +kernel)
set_option maxRecDepth 20000 in
theorem gX4_sure_X4_no : GoodIn wsX4_sure (wsV RX4 85 RX4 yX4_no wsX4_no) := goodIn_app (goodIn_of _ (by decide +kernel)) ggX4_sure_X4_no
set_option maxRecDepth 20000 in
theorem ggX4_sure_X4_findThought : GoodIn wsX4_sure wsX4_findThought := goodIn_r _ [18, 19, 20, 21, 22, 23, 24, 25, 26, 27, 4, 28, 29, 30, 31, 32, 33, 34, 35, 36, 37, 38, 39, 40, 41, 42, 50, 51, 52, 53, 54, 55, 56, 57, 58, 59, 60, 61, 62, 63, 64, 65, 66, 67, 68, 69, 70, 71, 72, 73, 74, 75, 76, 77, 78, 79, 80, 81, 82, 83] (by decide +kernel) (by decide +kernel)
set_option maxRecDepth 20000 in
theorem gX4_sure_X4_findThought : GoodIn wsX4_sure (wsV RX4 239 RX4 yX4_findThought wsX4_findThought) := goodIn_app (goodIn_of _ (by decide +kernel)) ggX4_sure_X4_findThought
set_option maxRecDepth 20000 in
theorem ggX4_sure_X4_harmParts : GoodIn wsX4_sure wsX4_harmParts := goodIn_r _ [46, 19, 47, 48, 4, 49, 50, 51, 52, 53, 54, 55, 56, 57, 58, 59, 60, 61, 62, 63, 64, 65, 66, 67, 68, 69, 70, 71, 72, 73, 74, 75, 76, 77, 78, 79, 80, 81, 82, 83] (by decide +kernel) (by decide +kernel)
set_option maxRecDepth 20000 in
theorem gX4_sure_X4_harmParts : GoodIn wsX4_sure (wsV RX4 256 RX4 yX4_harmParts wsX4_harmParts) := goodIn_app (goodIn_of _ (by decide +kernel)) ggX4_sure_X4_harmParts
set_option maxRecDepth 20000 in
theorem ggX4_harmParts_X4_harmOf : GoodIn wsX4_harmParts wsX4_harmOf := goodIn_r _ [5] (by decide +kernel) (by decide +kernel)
set_option maxRecDepth 20000 in
theorem gX4_harmParts_X4_harmOf : GoodIn wsX4_harmParts (va_wsS RX4 205 yX4_harmOf wsX4_harmOf) := goodIn_app (goodIn_of _ (by decide +kernel)) ggX4_harmParts_X4_harmOf
set_option maxRecDepth 20000 in
theorem ggX4_laysAnswer_X4_saysOff : GoodIn wsX4_laysAnswer wsX4_saysOff := goodIn_r _ [6, 7, 8, 9, 10, 5, 11, 12, 13, 14, 15, 16, 17, 18, 19, 20, 21, 22, 23, 24, 25, 26, 27, 28, 29, 30, 31, 32, 33, 34, 35, 36, 37, 38, 39, 40, 41, 42, 43, 44, 45, 46, 47, 48] (by decide +kernel) (by decide +kernel)
set_option maxRecDepth 20000 in
theorem gX4_laysAnswer_X4_saysOff : GoodIn wsX4_laysAnswer (wsV RX4 214 RX4 yX4_saysOff wsX4_saysOff) := goodIn_app (goodIn_of _ (by decide +kernel)) ggX4_laysAnswer_X4_saysOff
set_option maxRecDepth 20000 in
theorem ggX4_bestBehind_X4_laysAnswer : GoodIn wsX4_bestBehind wsX4_laysAnswer := goodIn_r _ [6, 1, 7, 8, 9, 5, 10, 11, 12, 13, 14, 15, 16, 17, 18, 46, 47, 48, 49, 50, 51, 52, 53, 54, 55, 56, 57, 58, 59, 60, 61, 62, 63, 64, 65, 66, 67, 68, 69, 70, 71, 72, 73, 74, 75, 76, 77, 78, 79] (by decide +kernel) (by decide +kernel)
set_option maxRecDepth 20000 in
theorem gX4_bestBehind_X4_laysAnswer : GoodIn wsX4_bestBehind (wsV RX4 259 RX4 yX4_laysAnswer wsX4_laysAnswer) := goodIn_app (goodIn_of _ (by decide +kernel)) ggX4_bestBehind_X4_laysAnswer
set_option maxRecDepth 20000 in
theorem ggX4_bestBehind_X4_bestNet : GoodIn wsX4_bestBehind wsX4_bestNet := goodIn_r _ [22, 23, 24, 25, 5, 26, 27, 28, 29, 30, 31, 32, 33, 34, 35, 36, 37, 38, 39, 40, 41, 42, 43, 44, 45, 46, 47, 48, 49, 50, 51, 52, 53, 54, 55, 56, 57, 58, 59, 60, 61, 62, 63, 64, 65, 66, 67, 68, 69, 70, 71, 72, 73, 74, 75, 76, 77, 78, 79] (by decide +kernel) (by decide +kernel)
set_option maxRecDepth 20000 in
theorem gX4_bestBehind_X4_bestNet : GoodIn wsX4_bestBehind (wsV RX4 263 RX4 yX4_bestNet wsX4_bestNet) := goodIn_app (goodIn_of _ (by decide +kernel)) ggX4_bestBehind_X4_bestNet
set_option maxRecDepth 20000 in
theorem ggX4_lookParts_X4_bestNet : GoodIn wsX4_lookParts wsX4_bestNet := goodIn_r _ [10, 11, 12, 13, 9, 14, 15, 16, 17, 18, 19, 20, 21, 22, 23, 24, 25, 26, 27, 28, 29, 30, 31, 32, 33, 58, 59, 60, 61, 62, 63, 64, 65, 66, 67, 68, 69, 70, 71, 72, 73, 74, 75, 76, 77, 78, 79, 80, 81, 82, 83, 84, 85, 86, 87, 88, 89, 90, 91] (by decide +kernel) (by decide +kernel)
set_option maxRecDepth 20000 in
theorem gX4_lookParts_X4_bestNet : GoodIn wsX4_lookParts (wsV RX4 263 RX4 yX4_bestNet wsX4_bestNet) := goodIn_app (goodIn_of _ (by decide +kernel)) ggX4_lookParts_X4_bestNet
set_option maxRecDepth 20000 in
theorem ggX4_lookParts_X4_bestBehind : GoodIn wsX4_lookParts wsX4_bestBehind := goodIn_r _ [37, 38, 39, 40, 41, 9, 42, 43, 44, 45, 46, 47, 4, 48, 49, 50, 51, 52, 53, 6, 7, 8, 10, 11, 12, 13, 14, 15, 16, 17, 18, 19, 20, 21, 22, 23, 24, 25, 26, 27, 28, 29, 30, 31, 32, 33, 58, 59, 60, 61, 62, 63, 64, 65, 66, 67, 68, 69, 70, 71, 72, 73, 74, 75, 76, 77, 78, 79, 80, 81, 82, 83, 84, 85, 86, 87, 88, 89, 90, 91] (by decide +kernel) (by decide +kernel)
set_option maxRecDepth 20000 in
theorem gX4_lookParts_X4_bestBehind : GoodIn wsX4_lookParts (wsV RX4 269 RX4 yX4_bestBehind wsX4_bestBehind) := goodIn_app (goodIn_of _ (by decide +kernel)) ggX4_lookParts_X4_bestBehind
set_option maxRecDepth 20000 in
theorem ggX4_lookParts_X4_allThought : GoodIn wsX4_lookParts wsX4_allThought := goodIn_r _ [57, 2, 58, 59, 60, 61, 62, 63, 64, 65, 66, 67, 68, 69, 70, 71, 72, 73, 74, 75, 76, 77, 78, 79, 80, 81, 82, 83, 84, 85, 86, 87, 88, 89, 90, 91] (by decide +kernel) (by decide +kernel)
set_option maxRecDepth 20000 in
theorem gX4_lookParts_X4_allThought : GoodIn wsX4_lookParts (wsV RX4 242 RX4 yX4_allThought wsX4_allThought) := goodIn_app (goodIn_of _ (by decide +kernel)) ggX4_lookParts_X4_allThought
set_option maxRecDepth 20000 in
theorem ggX4_looking_X4_isTest : GoodIn wsX4_looking wsX4_isTest := goodIn_r _ [6] (by decide +kernel) (by decide +kernel)
set_option maxRecDepth 20000 in
theorem gX4_looking_X4_isTest : GoodIn wsX4_looking (va_wsS RX4 192 yX4_isTest wsX4_isTest) := goodIn_app (goodIn_of _ (by decide +kernel)) ggX4_looking_X4_isTest
set_option maxRecDepth 20000 in
theorem ggX4_looking_X4_isWhom : GoodIn wsX4_looking wsX4_isWhom := goodIn_r _ [9] (by decide +kernel) (by decide +kernel)
set_option maxRecDepth 20000 in
theorem gX4_looking_X4_isWhom : GoodIn wsX4_looking (va_wsS RX4 250 yX4_isWhom wsX4_isWhom) := goodIn_app (goodIn_of _ (by decide +kernel)) ggX4_looking_X4_isWhom
set_option maxRecDepth 20000 in
theorem ggX4_looking_X4_isIn : GoodIn wsX4_looking wsX4_isIn := goodIn_r _ [12] (by decide +kernel) (by decide +kernel)
set_option maxRecDepth 20000 in
theorem gX4_looking_X4_isIn : GoodIn wsX4_looking (va_wsS RX4 96 yX4_isIn wsX4_isIn) := goodIn_app (goodIn_of _ (by decide +kernel)) ggX4_looking_X4_isIn
set_option maxRecDepth 20000 in
theorem ggX4_looking_X4_lowest : GoodIn wsX4_looking wsX4_lowest := goodIn_r _ [16, 17, 18, 99, 100, 101, 102, 103, 104, 105, 106, 107, 108, 109, 110, 111, 112, 113, 114, 115, 116, 117, 118, 119, 120, 121, 122, 123, 124, 125, 126, 127, 128, 129, 130, 131, 132] (by decide +kernel) (by decide +kernel)
set_option maxRecDepth 20000 in
theorem gX4_looking_X4_lowest : GoodIn wsX4_looking (wsV RX4 235 RX4 yX4_lowest wsX4_lowest) := goodIn_app (goodIn_of _ (by decide +kernel)) ggX4_looking_X4_lowest
set_option maxRecDepth 20000 in
theorem ggX4_looking_X4_findThought : GoodIn wsX4_looking wsX4_findThought := goodIn_r _ [22, 23, 24, 25, 26, 27, 28, 29, 30, 31, 5, 32, 33, 34, 35, 36, 37, 38, 39, 40, 41, 42, 43, 44, 45, 46, 99, 100, 101, 102, 103, 104, 105, 106, 107, 108, 109, 110, 111, 112, 113, 114, 115, 116, 117, 118, 119, 120, 121, 122, 123, 124, 125, 126, 127, 128, 129, 130, 131, 132] (by decide +kernel) (by decide +kernel)
set_option maxRecDepth 20000 in
theorem gX4_looking_X4_findThought : GoodIn wsX4_looking (wsV RX4 239 RX4 yX4_findThought wsX4_findThought) := goodIn_app (goodIn_of _ (by decide +kernel)) ggX4_looking_X4_findThought
set_option maxRecDepth 20000 in
theorem ggX4_looking_X4_lookParts : GoodIn wsX4_looking wsX4_lookParts := goodIn_r _ [50, 2, 23, 51, 24, 52, 53, 54, 55, 5, 56, 57, 58, 59, 60, 61, 62, 63, 64, 65, 66, 67, 68, 69, 70, 71, 72, 73, 74, 75, 76, 77, 78, 79, 80, 81, 82, 83, 84, 85, 86, 87, 88, 37, 38, 39, 40, 33, 41, 42, 43, 44, 45, 46, 89, 90, 91, 92, 99, 100, 101, 102, 103, 104, 105, 106, 107, 108, 109, 110, 111, 112, 113, 114, 115, 116, 117, 118, 119, 120, 121, 122, 123, 124, 125, 126, 127, 128, 129, 130, 131, 132] (by decide +kernel) (by decide +kernel)
set_option maxRecDepth 20000 in
theorem gX4_looking_X4_lookParts : GoodIn wsX4_looking (wsV RX4 272 RX4 yX4_lookParts wsX4_lookParts) := goodIn_app (goodIn_of _ (by decide +kernel)) ggX4_looking_X4_lookParts
set_option maxRecDepth 20000 in
theorem ggX4_looking_X4_allThought : GoodIn wsX4_looking wsX4_allThought := goodIn_r _ [92, 23, 99, 100, 101, 102, 103, 104, 105, 106, 107, 108, 109, 110, 111, 112, 113, 114, 115, 116, 117, 118, 119, 120, 121, 122, 123, 124, 125, 126, 127, 128, 129, 130, 131, 132] (by decide +kernel) (by decide +kernel)
set_option maxRecDepth 20000 in
theorem gX4_looking_X4_allThought : GoodIn wsX4_looking (wsV RX4 242 RX4 yX4_allThought wsX4_allThought) := goodIn_app (goodIn_of _ (by decide +kernel)) ggX4_looking_X4_allThought
set_option maxRecDepth 20000 in
theorem ggX4_looking_X4_partOf : GoodIn wsX4_looking wsX4_partOf := goodIn_r _ [95, 96, 97, 5, 98] (by decide +kernel) (by decide +kernel)
set_option maxRecDepth 20000 in
theorem gX4_looking_X4_partOf : GoodIn wsX4_looking (va_wsS RX4 246 yX4_partOf wsX4_partOf) := goodIn_app (goodIn_of _ (by decide +kernel)) ggX4_looking_X4_partOf
set_option maxRecDepth 20000 in
theorem ggX4_bestTest_X4_notBest : GoodIn wsX4_bestTest wsX4_notBest := goodIn_r _ [5, 6, 7, 8, 4, 9, 90, 91, 92, 93, 94, 95, 96, 97, 98, 99, 100, 101, 102, 103, 104, 105, 106, 107, 108, 109, 110, 111, 112, 113, 114, 115, 116, 117, 118, 119, 120, 121, 122, 123] (by decide +kernel) (by decide +kernel)
set_option maxRecDepth 20000 in
theorem gX4_bestTest_X4_notBest : GoodIn wsX4_bestTest (wsV RX4 253 RX4 yX4_notBest wsX4_notBest) := goodIn_app (goodIn_of _ (by decide +kernel)) ggX4_bestTest_X4_notBest
set_option maxRecDepth 20000 in
theorem ggX4_bestTest_X4_no : GoodIn wsX4_bestTest wsX4_no := goodIn_r _ [13, 14, 90, 91, 92, 93, 94, 95, 96, 97, 98, 99, 100, 101, 102, 103, 104, 105, 106, 107, 108, 109, 110, 111, 112, 113, 114, 115, 116, 117, 118, 119, 120, 121, 122, 123] (by decide +kernel) (by decide +kernel)
set_option maxRecDepth 20000 in
theorem gX4_bestTest_X4_no : GoodIn wsX4_bestTest (wsV RX4 85 RX4 yX4_no wsX4_no) := goodIn_app (goodIn_of _ (by decide +kernel)) ggX4_bestTest_X4_no
set_option maxRecDepth 20000 in
theorem ggX4_bestTest_X4_findThought : GoodIn wsX4_bestTest wsX4_findThought := goodIn_r _ [18, 19, 20, 21, 22, 23, 24, 25, 26, 27, 4, 28, 29, 30, 31, 32, 33, 34, 35, 36, 37, 38, 39, 40, 41, 42, 90, 91, 92, 93, 94, 95, 96, 97, 98, 99, 100, 101, 102, 103, 104, 105, 106, 107, 108, 109, 110, 111, 112, 113, 114, 115, 116, 117, 118, 119, 120, 121, 122, 123] (by decide +kernel) (by decide +kernel)
set_option maxRecDepth 20000 in
theorem gX4_bestTest_X4_findThought : GoodIn wsX4_bestTest (wsV RX4 239 RX4 yX4_findThought wsX4_findThought) := goodIn_app (goodIn_of _ (by decide +kernel)) ggX4_bestTest_X4_findThought
set_option maxRecDepth 20000 in
theorem ggX4_bestTest_X4_lookParts : GoodIn wsX4_bestTest wsX4_lookParts := goodIn_r _ [46, 47, 19, 48, 20, 49, 50, 51, 52, 4, 53, 54, 55, 56, 57, 58, 59, 60, 61, 62, 63, 64, 65, 66, 67, 68, 69, 70, 71, 72, 73, 74, 75, 76, 77, 78, 79, 80, 81, 82, 83, 84, 85, 33, 34, 35, 36, 29, 37, 38, 39, 40, 41, 42, 86, 87, 88, 89, 90, 91, 92, 93, 94, 95, 96, 97, 98, 99, 100, 101, 102, 103, 104, 105, 106, 107, 108, 109, 110, 111, 112, 113, 114, 115, 116, 117, 118, 119, 120, 121, 122, 123] (by decide +kernel) (by decide +kernel)
set_option maxRecDepth 20000 in
theorem gX4_bestTest_X4_lookParts : GoodIn wsX4_bestTest (wsV RX4 272 RX4 yX4_lookParts wsX4_lookParts) := goodIn_app (goodIn_of _ (by decide +kernel)) ggX4_bestTest_X4_lookParts
set_option maxRecDepth 20000 in
theorem ggX4_laysParts_X4_laysAnswer : GoodIn wsX4_laysParts wsX4_laysAnswer := goodIn_r _ [8, 3, 9, 10, 11, 7, 12, 13, 14, 15, 16, 17, 18, 19, 20, 21, 22, 23, 24, 25, 26, 27, 28, 29, 30, 31, 32, 33, 34, 35, 36, 37, 38, 39, 40, 41, 42, 43, 44, 45, 46, 47, 48, 49, 50, 51, 52, 53, 54] (by decide +kernel) (by decide +kernel)
set_option maxRecDepth 20000 in
theorem gX4_laysParts_X4_laysAnswer : GoodIn wsX4_laysParts (wsV RX4 259 RX4 yX4_laysAnswer wsX4_laysAnswer) := goodIn_app (goodIn_of _ (by decide +kernel)) ggX4_laysParts_X4_laysAnswer
set_option maxRecDepth 20000 in
theorem ggX4_twoParts_X4_laysParts : GoodIn wsX4_twoParts wsX4_laysParts := goodIn_r _ [11, 3, 1, 12, 13, 14, 15, 10, 16, 17, 18, 19, 20, 21, 5, 22, 23, 24, 25, 26, 27, 63, 64, 65, 66, 67, 68, 69, 70, 71, 72, 73, 74, 75, 76, 77, 78, 79, 80, 81, 82, 83, 84, 85, 86, 87, 88, 89, 90, 91, 92, 93, 94, 95, 96] (by decide +kernel) (by decide +kernel)
set_option maxRecDepth 20000 in
theorem gX4_twoParts_X4_laysParts : GoodIn wsX4_twoParts (wsV RX4 276 RX4 yX4_laysParts wsX4_laysParts) := goodIn_app (goodIn_of _ (by decide +kernel)) ggX4_twoParts_X4_laysParts
set_option maxRecDepth 20000 in
theorem ggX4_twoParts_X4_bestBehind : GoodIn wsX4_twoParts wsX4_bestBehind := goodIn_r _ [31, 12, 13, 14, 15, 10, 16, 17, 18, 19, 20, 21, 5, 22, 23, 24, 25, 26, 27, 32, 33, 34, 35, 36, 37, 38, 39, 40, 41, 42, 43, 44, 45, 46, 47, 48, 49, 50, 51, 52, 53, 54, 55, 56, 57, 58, 63, 64, 65, 66, 67, 68, 69, 70, 71, 72, 73, 74, 75, 76, 77, 78, 79, 80, 81, 82, 83, 84, 85, 86, 87, 88, 89, 90, 91, 92, 93, 94, 95, 96] (by decide +kernel) (by decide +kernel)
set_option maxRecDepth 20000 in
theorem gX4_twoParts_X4_bestBehind : GoodIn wsX4_twoParts (wsV RX4 269 RX4 yX4_bestBehind wsX4_bestBehind) := goodIn_app (goodIn_of _ (by decide +kernel)) ggX4_twoParts_X4_bestBehind
set_option maxRecDepth 20000 in
theorem ggX4_twoParts_X4_bestNet : GoodIn wsX4_twoParts wsX4_bestNet := goodIn_r _ [35, 36, 37, 38, 10, 39, 40, 41, 42, 43, 44, 45, 46, 47, 48, 49, 50, 51, 52, 53, 54, 55, 56, 57, 58, 63, 64, 65, 66, 67, 68, 69, 70, 71, 72, 73, 74, 75, 76, 77, 78, 79, 80, 81, 82, 83, 84, 85, 86, 87, 88, 89, 90, 91, 92, 93, 94, 95, 96] (by decide +kernel) (by decide +kernel)
set_option maxRecDepth 20000 in
theorem gX4_twoParts_X4_bestNet : GoodIn wsX4_twoParts (wsV RX4 263 RX4 yX4_bestNet wsX4_bestNet) := goodIn_app (goodIn_of _ (by decide +kernel)) ggX4_twoParts_X4_bestNet
set_option maxRecDepth 20000 in
theorem ggX4_twoParts_X4_allThought : GoodIn wsX4_twoParts wsX4_allThought := goodIn_r _ [62, 3, 63, 64, 65, 66, 67, 68, 69, 70, 71, 72, 73, 74, 75, 76, 77, 78, 79, 80, 81, 82, 83, 84, 85, 86, 87, 88, 89, 90, 91, 92, 93, 94, 95, 96] (by decide +kernel) (by decide +kernel)
set_option maxRecDepth 20000 in
theorem gX4_twoParts_X4_allThought : GoodIn wsX4_twoParts (wsV RX4 242 RX4 yX4_allThought wsX4_allThought) := goodIn_app (goodIn_of _ (by decide +kernel)) ggX4_twoParts_X4_allThought
set_option maxRecDepth 20000 in
theorem ggX4_bestTwo_X4_twoParts : GoodIn wsX4_bestTwo wsX4_twoParts := goodIn_r _ [5, 6, 7, 8, 9, 10, 11, 12, 13, 14, 4, 15, 16, 17, 18, 19, 20, 21, 22, 23, 24, 25, 26, 27, 28, 29, 30, 31, 32, 33, 34, 35, 36, 37, 38, 39, 40, 41, 42, 43, 44, 45, 46, 47, 48, 49, 50, 51, 52, 53, 54, 55, 56, 57, 58, 59, 60, 61, 62, 63, 64, 65, 66, 67, 68, 69, 70, 71, 72, 73, 74, 75, 76, 77, 78, 79, 80, 81, 82, 83, 84, 85, 86, 87, 88, 89, 90, 91, 92, 93, 94, 95, 96, 97, 98, 99, 100] (by decide +kernel) (by decide +kernel)
set_option maxRecDepth 20000 in
theorem gX4_bestTwo_X4_twoParts : GoodIn wsX4_bestTwo (wsV RX4 281 RX4 yX4_twoParts wsX4_twoParts) := goodIn_app (goodIn_of _ (by decide +kernel)) ggX4_bestTwo_X4_twoParts
set_option maxRecDepth 20000 in
theorem ggX4_two_X4_notBest : GoodIn wsX4_two wsX4_notBest := goodIn_r _ [5, 6, 7, 8, 4, 9, 99, 100, 101, 102, 103, 104, 105, 106, 107, 108, 109, 110, 111, 112, 113, 114, 115, 116, 117, 118, 119, 120, 121, 122, 123, 124, 125, 126, 127, 128, 129, 130, 131, 132] (by decide +kernel) (by decide +kernel)
set_option maxRecDepth 20000 in
theorem gX4_two_X4_notBest : GoodIn wsX4_two (wsV RX4 253 RX4 yX4_notBest wsX4_notBest) := goodIn_app (goodIn_of _ (by decide +kernel)) ggX4_two_X4_notBest
set_option maxRecDepth 20000 in
theorem ggX4_two_X4_no : GoodIn wsX4_two wsX4_no := goodIn_r _ [13, 14, 99, 100, 101, 102, 103, 104, 105, 106, 107, 108, 109, 110, 111, 112, 113, 114, 115, 116, 117, 118, 119, 120, 121, 122, 123, 124, 125, 126, 127, 128, 129, 130, 131, 132] (by decide +kernel) (by decide +kernel)
set_option maxRecDepth 20000 in
theorem gX4_two_X4_no : GoodIn wsX4_two (wsV RX4 85 RX4 yX4_no wsX4_no) := goodIn_app (goodIn_of _ (by decide +kernel)) ggX4_two_X4_no
set_option maxRecDepth 20000 in
theorem ggX4_two_X4_findThought : GoodIn wsX4_two wsX4_findThought := goodIn_r _ [18, 19, 20, 21, 22, 23, 24, 25, 26, 27, 4, 28, 29, 30, 31, 32, 33, 34, 35, 36, 37, 38, 39, 40, 41, 42, 99, 100, 101, 102, 103, 104, 105, 106, 107, 108, 109, 110, 111, 112, 113, 114, 115, 116, 117, 118, 119, 120, 121, 122, 123, 124, 125, 126, 127, 128, 129, 130, 131, 132] (by decide +kernel) (by decide +kernel)
set_option maxRecDepth 20000 in
theorem gX4_two_X4_findThought : GoodIn wsX4_two (wsV RX4 239 RX4 yX4_findThought wsX4_findThought) := goodIn_app (goodIn_of _ (by decide +kernel)) ggX4_two_X4_findThought
set_option maxRecDepth 20000 in
theorem ggX4_two_X4_bestTwo : GoodIn wsX4_two wsX4_bestTwo := goodIn_r _ [46, 47, 48, 49, 4, 50, 51, 52, 19, 53, 20, 54, 55, 56, 57, 58, 59, 60, 61, 62, 63, 33, 34, 35, 36, 29, 37, 38, 39, 40, 41, 42, 64, 65, 66, 67, 68, 69, 70, 71, 72, 73, 74, 75, 76, 77, 78, 79, 80, 81, 82, 83, 84, 85, 86, 87, 88, 89, 90, 91, 92, 93, 94, 95, 96, 97, 98, 99, 100, 101, 102, 103, 104, 105, 106, 107, 108, 109, 110, 111, 112, 113, 114, 115, 116, 117, 118, 119, 120, 121, 122, 123, 124, 125, 126, 127, 128, 129, 130, 131, 132] (by decide +kernel) (by decide +kernel)
set_option maxRecDepth 20000 in
theorem gX4_two_X4_bestTwo : GoodIn wsX4_two (wsV RX4 285 RX4 yX4_bestTwo wsX4_bestTwo) := goodIn_app (goodIn_of _ (by decide +kernel)) ggX4_two_X4_bestTwo
set_option maxRecDepth 20000 in
theorem ggX4_notPart_X4_isWhom : GoodIn wsX4_notPart wsX4_isWhom := goodIn_r _ [5] (by decide +kernel) (by decide +kernel)
set_option maxRecDepth 20000 in
theorem gX4_notPart_X4_isWhom : GoodIn wsX4_notPart (va_wsS RX4 250 yX4_isWhom wsX4_isWhom) := goodIn_app (goodIn_of _ (by decide +kernel)) ggX4_notPart_X4_isWhom
set_option maxRecDepth 20000 in
theorem ggX4_notPart_X4_isIn : GoodIn wsX4_notPart wsX4_isIn := goodIn_r _ [8] (by decide +kernel) (by decide +kernel)
set_option maxRecDepth 20000 in
theorem gX4_notPart_X4_isIn : GoodIn wsX4_notPart (va_wsS RX4 96 yX4_isIn wsX4_isIn) := goodIn_app (goodIn_of _ (by decide +kernel)) ggX4_notPart_X4_isIn
set_option maxRecDepth 20000 in
theorem ggX4_twoWorth_X4_notPart : GoodIn wsX4_twoWorth wsX4_notPart := goodIn_r _ [6, 7, 8, 9, 5, 10, 11, 12, 13, 109, 110, 111, 112, 113, 114, 115, 116, 117, 118, 119, 120, 121, 122, 123, 124, 125, 126, 127, 128, 129, 130, 131, 132, 133, 134, 135, 136, 137, 138, 139, 140, 141, 142] (by decide +kernel) (by decide +kernel)
set_option maxRecDepth 20000 in
theorem gX4_twoWorth_X4_notPart : GoodIn wsX4_twoWorth (wsV RX4 288 RX4 yX4_notPart wsX4_notPart) := goodIn_app (goodIn_of _ (by decide +kernel)) ggX4_twoWorth_X4_notPart
set_option maxRecDepth 20000 in
theorem ggX4_twoWorth_X4_lowest : GoodIn wsX4_twoWorth wsX4_lowest := goodIn_r _ [17, 18, 19, 109, 110, 111, 112, 113, 114, 115, 116, 117, 118, 119, 120, 121, 122, 123, 124, 125, 126, 127, 128, 129, 130, 131, 132, 133, 134, 135, 136, 137, 138, 139, 140, 141, 142] (by decide +kernel) (by decide +kernel)
set_option maxRecDepth 20000 in
theorem gX4_twoWorth_X4_lowest : GoodIn wsX4_twoWorth (wsV RX4 235 RX4 yX4_lowest wsX4_lowest) := goodIn_app (goodIn_of _ (by decide +kernel)) ggX4_twoWorth_X4_lowest
set_option maxRecDepth 20000 in
theorem ggX4_twoWorth_X4_findThought : GoodIn wsX4_twoWorth wsX4_findThought := goodIn_r _ [23, 24, 25, 26, 27, 28, 29, 30, 31, 32, 5, 33, 34, 35, 36, 37, 38, 39, 40, 41, 42, 43, 44, 45, 46, 47, 109, 110, 111, 112, 113, 114, 115, 116, 117, 118, 119, 120, 121, 122, 123, 124, 125, 126, 127, 128, 129, 130, 131, 132, 133, 134, 135, 136, 137, 138, 139, 140, 141, 142] (by decide +kernel) (by decide +kernel)
set_option maxRecDepth 20000 in
theorem gX4_twoWorth_X4_findThought : GoodIn wsX4_twoWorth (wsV RX4 239 RX4 yX4_findThought wsX4_findThought) := goodIn_app (goodIn_of _ (by decide +kernel)) ggX4_twoWorth_X4_findThought
set_option maxRecDepth 20000 in
theorem ggX4_twoWorth_X4_bestTwo : GoodIn wsX4_twoWorth wsX4_bestTwo := goodIn_r _ [51, 52, 53, 54, 5, 55, 56, 1, 24, 57, 25, 58, 59, 60, 61, 62, 63, 64, 65, 66, 67, 38, 39, 40, 41, 34, 42, 43, 44, 45, 46, 47, 68, 69, 70, 71, 72, 73, 74, 75, 76, 77, 78, 79, 80, 81, 82, 83, 84, 85, 86, 87, 88, 89, 90, 91, 92, 93, 94, 95, 96, 97, 98, 99, 100, 101, 102, 109, 110, 111, 112, 113, 114, 115, 116, 117, 118, 119, 120, 121, 122, 123, 124, 125, 126, 127, 128, 129, 130, 131, 132, 133, 134, 135, 136, 137, 138, 139, 140, 141, 142] (by decide +kernel) (by decide +kernel)
set_option maxRecDepth 20000 in
theorem gX4_twoWorth_X4_bestTwo : GoodIn wsX4_twoWorth (wsV RX4 285 RX4 yX4_bestTwo wsX4_bestTwo) := goodIn_app (goodIn_of _ (by decide +kernel)) ggX4_twoWorth_X4_bestTwo
set_option maxRecDepth 20000 in
theorem ggX4_twoWorth_X4_twoParts : GoodIn wsX4_twoWorth wsX4_twoParts := goodIn_r _ [55, 56, 1, 24, 57, 25, 58, 59, 60, 61, 5, 62, 63, 64, 65, 66, 67, 38, 39, 40, 41, 34, 42, 43, 44, 45, 46, 47, 68, 69, 70, 71, 72, 73, 74, 75, 76, 77, 78, 79, 80, 81, 82, 83, 84, 85, 86, 87, 88, 89, 90, 91, 92, 93, 94, 95, 96, 97, 98, 99, 100, 101, 102, 109, 110, 111, 112, 113, 114, 115, 116, 117, 118, 119, 120, 121, 122, 123, 124, 125, 126, 127, 128, 129, 130, 131, 132, 133, 134, 135, 136, 137, 138, 139, 140, 141, 142] (by decide +kernel) (by decide +kernel)
set_option maxRecDepth 20000 in
theorem gX4_twoWorth_X4_twoParts : GoodIn wsX4_twoWorth (wsV RX4 281 RX4 yX4_twoParts wsX4_twoParts) := goodIn_app (goodIn_of _ (by decide +kernel)) ggX4_twoWorth_X4_twoParts
set_option maxRecDepth 20000 in
theorem ggX4_twoWorth_X4_allThought : GoodIn wsX4_twoWorth wsX4_allThought := goodIn_r _ [102, 24, 109, 110, 111, 112, 113, 114, 115, 116, 117, 118, 119, 120, 121, 122, 123, 124, 125, 126, 127, 128, 129, 130, 131, 132, 133, 134, 135, 136, 137, 138, 139, 140, 141, 142] (by decide +kernel) (by decide +kernel)
set_option maxRecDepth 20000 in
theorem gX4_twoWorth_X4_allThought : GoodIn wsX4_twoWorth (wsV RX4 242 RX4 yX4_allThought wsX4_allThought) := goodIn_app (goodIn_of _ (by decide +kernel)) ggX4_twoWorth_X4_allThought
set_option maxRecDepth 20000 in
theorem ggX4_twoWorth_X4_partOf : GoodIn wsX4_twoWorth wsX4_partOf := goodIn_r _ [105, 106, 107, 5, 108] (by decide +kernel) (by decide +kernel)
set_option maxRecDepth 20000 in
theorem gX4_twoWorth_X4_partOf : GoodIn wsX4_twoWorth (va_wsS RX4 246 yX4_partOf wsX4_partOf) := goodIn_app (goodIn_of _ (by decide +kernel)) ggX4_twoWorth_X4_partOf
set_option maxRecDepth 20000 in
theorem ggX4_freeParts_X4_laysParts : GoodIn wsX4_freeParts wsX4_laysParts := goodIn_r _ [12, 7, 2, 13, 14, 15, 16, 11, 17, 18, 19, 20, 21, 22, 4, 23, 24, 25, 26, 27, 28, 68, 69, 70, 71, 72, 73, 74, 75, 76, 77, 78, 79, 80, 81, 82, 83, 84, 85, 86, 87, 88, 89, 90, 91, 92, 93, 94, 95, 96, 97, 98, 99, 100, 101] (by decide +kernel) (by decide +kernel)
set_option maxRecDepth 20000 in
theorem gX4_freeParts_X4_laysParts : GoodIn wsX4_freeParts (wsV RX4 276 RX4 yX4_laysParts wsX4_laysParts) := goodIn_app (goodIn_of _ (by decide +kernel)) ggX4_freeParts_X4_laysParts
set_option maxRecDepth 20000 in
theorem ggX4_freeParts_X4_bestNet : GoodIn wsX4_freeParts wsX4_bestNet := goodIn_r _ [32, 33, 34, 35, 11, 36, 37, 38, 39, 40, 41, 42, 43, 44, 45, 46, 47, 48, 49, 50, 51, 52, 53, 54, 55, 68, 69, 70, 71, 72, 73, 74, 75, 76, 77, 78, 79, 80, 81, 82, 83, 84, 85, 86, 87, 88, 89, 90, 91, 92, 93, 94, 95, 96, 97, 98, 99, 100, 101] (by decide +kernel) (by decide +kernel)
set_option maxRecDepth 20000 in
theorem gX4_freeParts_X4_bestNet : GoodIn wsX4_freeParts (wsV RX4 263 RX4 yX4_bestNet wsX4_bestNet) := goodIn_app (goodIn_of _ (by decide +kernel)) ggX4_freeParts_X4_bestNet
set_option maxRecDepth 20000 in
theorem ggX4_freeParts_X4_bestBehind : GoodIn wsX4_freeParts wsX4_bestBehind := goodIn_r _ [59, 13, 14, 15, 16, 11, 17, 18, 19, 20, 21, 22, 4, 23, 24, 25, 26, 27, 28, 29, 30, 31, 32, 33, 34, 35, 36, 37, 38, 39, 40, 41, 42, 43, 44, 45, 46, 47, 48, 49, 50, 51, 52, 53, 54, 55, 68, 69, 70, 71, 72, 73, 74, 75, 76, 77, 78, 79, 80, 81, 82, 83, 84, 85, 86, 87, 88, 89, 90, 91, 92, 93, 94, 95, 96, 97, 98, 99, 100, 101] (by decide +kernel) (by decide +kernel)
set_option maxRecDepth 20000 in
theorem gX4_freeParts_X4_bestBehind : GoodIn wsX4_freeParts (wsV RX4 269 RX4 yX4_bestBehind wsX4_bestBehind) := goodIn_app (goodIn_of _ (by decide +kernel)) ggX4_freeParts_X4_bestBehind
set_option maxRecDepth 20000 in
theorem ggX4_freeParts_X4_allParts : GoodIn wsX4_freeParts wsX4_allParts := goodIn_r _ [63, 2, 68, 69, 70, 71, 72, 73, 74, 75, 76, 77, 78, 79, 80, 81, 82, 83, 84, 85, 86, 87, 88, 89, 90, 91, 92, 93, 94, 95, 96, 97, 98, 99, 100, 101] (by decide +kernel) (by decide +kernel)
set_option maxRecDepth 20000 in
theorem gX4_freeParts_X4_allParts : GoodIn wsX4_freeParts (wsV RX4 291 RX4 yX4_allParts wsX4_allParts) := goodIn_app (goodIn_of _ (by decide +kernel)) ggX4_freeParts_X4_allParts
set_option maxRecDepth 20000 in
theorem ggX4_freeParts_X4_allThought : GoodIn wsX4_freeParts wsX4_allThought := goodIn_r _ [67, 7, 68, 69, 70, 71, 72, 73, 74, 75, 76, 77, 78, 79, 80, 81, 82, 83, 84, 85, 86, 87, 88, 89, 90, 91, 92, 93, 94, 95, 96, 97, 98, 99, 100, 101] (by decide +kernel) (by decide +kernel)
set_option maxRecDepth 20000 in
theorem gX4_freeParts_X4_allThought : GoodIn wsX4_freeParts (wsV RX4 242 RX4 yX4_allThought wsX4_allThought) := goodIn_app (goodIn_of _ (by decide +kernel)) ggX4_freeParts_X4_allThought
set_option maxRecDepth 20000 in
theorem ggX4_bestFree_X4_freeParts : GoodIn wsX4_bestFree wsX4_freeParts := goodIn_r _ [5, 6, 7, 8, 9, 10, 11, 12, 13, 14, 15, 4, 16, 17, 18, 19, 20, 21, 22, 23, 24, 25, 26, 27, 28, 29, 30, 31, 32, 33, 34, 35, 36, 37, 38, 39, 40, 41, 42, 43, 44, 45, 46, 47, 48, 49, 50, 51, 52, 53, 54, 55, 56, 57, 58, 59, 60, 61, 62, 63, 64, 65, 66, 67, 68, 69, 70, 71, 72, 73, 74, 75, 76, 77, 78, 79, 80, 81, 82, 83, 84, 85, 86, 87, 88, 89, 90, 91, 92, 93, 94, 95, 96, 97, 98, 99, 100, 101, 102, 103, 104, 105] (by decide +kernel) (by decide +kernel)
set_option maxRecDepth 20000 in
theorem gX4_bestFree_X4_freeParts : GoodIn wsX4_bestFree (wsV RX4 294 RX4 yX4_freeParts wsX4_freeParts) := goodIn_app (goodIn_of _ (by decide +kernel)) ggX4_bestFree_X4_freeParts
set_option maxRecDepth 20000 in
theorem ggX4_free_X4_notBest : GoodIn wsX4_free wsX4_notBest := goodIn_r _ [5, 6, 7, 8, 4, 9, 104, 105, 106, 107, 108, 109, 110, 111, 112, 113, 114, 115, 116, 117, 118, 119, 120, 121, 122, 123, 124, 125, 126, 127, 128, 129, 130, 131, 132, 133, 134, 135, 136, 137] (by decide +kernel) (by decide +kernel)
set_option maxRecDepth 20000 in
theorem gX4_free_X4_notBest : GoodIn wsX4_free (wsV RX4 253 RX4 yX4_notBest wsX4_notBest) := goodIn_app (goodIn_of _ (by decide +kernel)) ggX4_free_X4_notBest
set_option maxRecDepth 20000 in
theorem ggX4_free_X4_no : GoodIn wsX4_free wsX4_no := goodIn_r _ [13, 14, 104, 105, 106, 107, 108, 109, 110, 111, 112, 113, 114, 115, 116, 117, 118, 119, 120, 121, 122, 123, 124, 125, 126, 127, 128, 129, 130, 131, 132, 133, 134, 135, 136, 137] (by decide +kernel) (by decide +kernel)
set_option maxRecDepth 20000 in
theorem gX4_free_X4_no : GoodIn wsX4_free (wsV RX4 85 RX4 yX4_no wsX4_no) := goodIn_app (goodIn_of _ (by decide +kernel)) ggX4_free_X4_no
set_option maxRecDepth 20000 in
theorem ggX4_free_X4_findThought : GoodIn wsX4_free wsX4_findThought := goodIn_r _ [18, 19, 20, 21, 22, 23, 24, 25, 26, 27, 4, 28, 29, 30, 31, 32, 33, 34, 35, 36, 37, 38, 39, 40, 41, 42, 104, 105, 106, 107, 108, 109, 110, 111, 112, 113, 114, 115, 116, 117, 118, 119, 120, 121, 122, 123, 124, 125, 126, 127, 128, 129, 130, 131, 132, 133, 134, 135, 136, 137] (by decide +kernel) (by decide +kernel)
set_option maxRecDepth 20000 in
theorem gX4_free_X4_findThought : GoodIn wsX4_free (wsV RX4 239 RX4 yX4_findThought wsX4_findThought) := goodIn_app (goodIn_of _ (by decide +kernel)) ggX4_free_X4_findThought
set_option maxRecDepth 20000 in
theorem ggX4_free_X4_bestFree : GoodIn wsX4_free wsX4_bestFree := goodIn_r _ [46, 47, 48, 49, 4, 50, 51, 52, 53, 20, 54, 55, 19, 56, 57, 58, 59, 60, 61, 62, 63, 64, 33, 34, 35, 36, 29, 37, 38, 39, 40, 41, 42, 65, 66, 67, 68, 69, 70, 71, 72, 73, 74, 75, 76, 77, 78, 79, 80, 81, 82, 83, 84, 85, 86, 87, 88, 89, 90, 91, 92, 93, 94, 95, 96, 97, 98, 99, 100, 101, 102, 103, 104, 105, 106, 107, 108, 109, 110, 111, 112, 113, 114, 115, 116, 117, 118, 119, 120, 121, 122, 123, 124, 125, 126, 127, 128, 129, 130, 131, 132, 133, 134, 135, 136, 137] (by decide +kernel) (by decide +kernel)
set_option maxRecDepth 20000 in
theorem gX4_free_X4_bestFree : GoodIn wsX4_free (wsV RX4 297 RX4 yX4_bestFree wsX4_bestFree) := goodIn_app (goodIn_of _ (by decide +kernel)) ggX4_free_X4_bestFree
set_option maxRecDepth 20000 in
theorem ggX4_freeWorth_X4_notPart : GoodIn wsX4_freeWorth wsX4_notPart := goodIn_r _ [6, 7, 8, 9, 5, 10, 11, 12, 13, 114, 115, 116, 117, 118, 119, 120, 121, 122, 123, 124, 125, 126, 127, 128, 129, 130, 131, 132, 133, 134, 135, 136, 137, 138, 139, 140, 141, 142, 143, 144, 145, 146, 147] (by decide +kernel) (by decide +kernel)
set_option maxRecDepth 20000 in
theorem gX4_freeWorth_X4_notPart : GoodIn wsX4_freeWorth (wsV RX4 288 RX4 yX4_notPart wsX4_notPart) := goodIn_app (goodIn_of _ (by decide +kernel)) ggX4_freeWorth_X4_notPart
set_option maxRecDepth 20000 in
theorem ggX4_freeWorth_X4_lowest : GoodIn wsX4_freeWorth wsX4_lowest := goodIn_r _ [17, 18, 19, 114, 115, 116, 117, 118, 119, 120, 121, 122, 123, 124, 125, 126, 127, 128, 129, 130, 131, 132, 133, 134, 135, 136, 137, 138, 139, 140, 141, 142, 143, 144, 145, 146, 147] (by decide +kernel) (by decide +kernel)
set_option maxRecDepth 20000 in
theorem gX4_freeWorth_X4_lowest : GoodIn wsX4_freeWorth (wsV RX4 235 RX4 yX4_lowest wsX4_lowest) := goodIn_app (goodIn_of _ (by decide +kernel)) ggX4_freeWorth_X4_lowest
set_option maxRecDepth 20000 in
theorem ggX4_freeWorth_X4_findThought : GoodIn wsX4_freeWorth wsX4_findThought := goodIn_r _ [23, 24, 25, 26, 27, 28, 29, 30, 31, 32, 5, 33, 34, 35, 36, 37, 38, 39, 40, 41, 42, 43, 44, 45, 46, 47, 114, 115, 116, 117, 118, 119, 120, 121, 122, 123, 124, 125, 126, 127, 128, 129, 130, 131, 132, 133, 134, 135, 136, 137, 138, 139, 140, 141, 142, 143, 144, 145, 146, 147] (by decide +kernel) (by decide +kernel)
set_option maxRecDepth 20000 in
theorem gX4_freeWorth_X4_findThought : GoodIn wsX4_freeWorth (wsV RX4 239 RX4 yX4_findThought wsX4_findThought) := goodIn_app (goodIn_of _ (by decide +kernel)) ggX4_freeWorth_X4_findThought
set_option maxRecDepth 20000 in
theorem ggX4_freeWorth_X4_bestFree : GoodIn wsX4_freeWorth wsX4_bestFree := goodIn_r _ [51, 52, 53, 54, 5, 55, 56, 57, 58, 25, 59, 1, 24, 60, 61, 62, 63, 64, 65, 66, 67, 68, 38, 39, 40, 41, 34, 42, 43, 44, 45, 46, 47, 69, 70, 71, 72, 73, 74, 75, 76, 77, 78, 79, 80, 81, 82, 83, 84, 85, 86, 87, 88, 89, 90, 91, 92, 93, 94, 95, 96, 97, 98, 99, 100, 101, 102, 103, 104, 105, 106, 107, 114, 115, 116, 117, 118, 119, 120, 121, 122, 123, 124, 125, 126, 127, 128, 129, 130, 131, 132, 133, 134, 135, 136, 137, 138, 139, 140, 141, 142, 143, 144, 145, 146, 147] (by decide +kernel) (by decide +kernel)
set_option maxRecDepth 20000 in
theorem gX4_freeWorth_X4_bestFree : GoodIn wsX4_freeWorth (wsV RX4 297 RX4 yX4_bestFree wsX4_bestFree) := goodIn_app (goodIn_of _ (by decide +kernel)) ggX4_freeWorth_X4_bestFree
set_option maxRecDepth 20000 in
theorem ggX4_freeWorth_X4_freeParts : GoodIn wsX4_freeWorth wsX4_freeParts := goodIn_r _ [55, 56, 57, 58, 25, 59, 1, 24, 60, 61, 62, 5, 63, 64, 65, 66, 67, 68, 38, 39, 40, 41, 34, 42, 43, 44, 45, 46, 47, 69, 70, 71, 72, 73, 74, 75, 76, 77, 78, 79, 80, 81, 82, 83, 84, 85, 86, 87, 88, 89, 90, 91, 92, 93, 94, 95, 96, 97, 98, 99, 100, 101, 102, 103, 104, 105, 106, 107, 114, 115, 116, 117, 118, 119, 120, 121, 122, 123, 124, 125, 126, 127, 128, 129, 130, 131, 132, 133, 134, 135, 136, 137, 138, 139, 140, 141, 142, 143, 144, 145, 146, 147] (by decide +kernel) (by decide +kernel)
set_option maxRecDepth 20000 in
theorem gX4_freeWorth_X4_freeParts : GoodIn wsX4_freeWorth (wsV RX4 294 RX4 yX4_freeParts wsX4_freeParts) := goodIn_app (goodIn_of _ (by decide +kernel)) ggX4_freeWorth_X4_freeParts
set_option maxRecDepth 20000 in
theorem ggX4_freeWorth_X4_allThought : GoodIn wsX4_freeWorth wsX4_allThought := goodIn_r _ [107, 24, 114, 115, 116, 117, 118, 119, 120, 121, 122, 123, 124, 125, 126, 127, 128, 129, 130, 131, 132, 133, 134, 135, 136, 137, 138, 139, 140, 141, 142, 143, 144, 145, 146, 147] (by decide +kernel) (by decide +kernel)
set_option maxRecDepth 20000 in
theorem gX4_freeWorth_X4_allThought : GoodIn wsX4_freeWorth (wsV RX4 242 RX4 yX4_allThought wsX4_allThought) := goodIn_app (goodIn_of _ (by decide +kernel)) ggX4_freeWorth_X4_allThought
set_option maxRecDepth 20000 in
theorem ggX4_freeWorth_X4_partOf : GoodIn wsX4_freeWorth wsX4_partOf := goodIn_r _ [110, 111, 112, 5, 113] (by decide +kernel) (by decide +kernel)
set_option maxRecDepth 20000 in
theorem gX4_freeWorth_X4_partOf : GoodIn wsX4_freeWorth (va_wsS RX4 246 yX4_partOf wsX4_partOf) := goodIn_app (goodIn_of _ (by decide +kernel)) ggX4_freeWorth_X4_partOf
set_option maxRecDepth 20000 in
theorem ggX4_useless_X4_notBest : GoodIn wsX4_useless wsX4_notBest := goodIn_r _ [7, 8, 9, 10, 6, 11, 80, 81, 82, 83, 84, 85, 86, 87, 88, 89, 90, 91, 92, 93, 94, 95, 96, 97, 98, 99, 100, 101, 102, 103, 104, 105, 106, 107, 108, 109, 110, 111, 112, 113] (by decide +kernel) (by decide +kernel)
set_option maxRecDepth 20000 in
theorem gX4_useless_X4_notBest : GoodIn wsX4_useless (wsV RX4 253 RX4 yX4_notBest wsX4_notBest) := goodIn_app (goodIn_of _ (by decide +kernel)) ggX4_useless_X4_notBest
set_option maxRecDepth 20000 in
theorem ggX4_useless_X4_no : GoodIn wsX4_useless wsX4_no := goodIn_r _ [15, 16, 80, 81, 82, 83, 84, 85, 86, 87, 88, 89, 90, 91, 92, 93, 94, 95, 96, 97, 98, 99, 100, 101, 102, 103, 104, 105, 106, 107, 108, 109, 110, 111, 112, 113] (by decide +kernel) (by decide +kernel)
set_option maxRecDepth 20000 in
theorem gX4_useless_X4_no : GoodIn wsX4_useless (wsV RX4 85 RX4 yX4_no wsX4_no) := goodIn_app (goodIn_of _ (by decide +kernel)) ggX4_useless_X4_no
set_option maxRecDepth 20000 in
theorem ggX4_useless_X4_findThought : GoodIn wsX4_useless wsX4_findThought := goodIn_r _ [20, 1, 21, 22, 23, 24, 25, 26, 27, 28, 6, 29, 30, 31, 32, 33, 34, 35, 36, 37, 38, 39, 40, 41, 42, 43, 80, 81, 82, 83, 84, 85, 86, 87, 88, 89, 90, 91, 92, 93, 94, 95, 96, 97, 98, 99, 100, 101, 102, 103, 104, 105, 106, 107, 108, 109, 110, 111, 112, 113] (by decide +kernel) (by decide +kernel)
set_option maxRecDepth 20000 in
theorem gX4_useless_X4_findThought : GoodIn wsX4_useless (wsV RX4 239 RX4 yX4_findThought wsX4_findThought) := goodIn_app (goodIn_of _ (by decide +kernel)) ggX4_useless_X4_findThought
set_option maxRecDepth 20000 in
theorem ggX4_useless_X4_bestUse : GoodIn wsX4_useless wsX4_bestUse := goodIn_r _ [47, 48, 49, 50, 6, 51, 52, 53, 54, 55, 56, 57, 58, 59, 60, 61, 62, 63, 64, 65, 66, 80, 81, 82, 83, 84, 85, 86, 87, 88, 89, 90, 91, 92, 93, 94, 95, 96, 97, 98, 99, 100, 101, 102, 103, 104, 105, 106, 107, 108, 109, 110, 111, 112, 113] (by decide +kernel) (by decide +kernel)
set_option maxRecDepth 20000 in
theorem gX4_useless_X4_bestUse : GoodIn wsX4_useless (wsV RX4 224 RX4 yX4_bestUse wsX4_bestUse) := goodIn_app (goodIn_of _ (by decide +kernel)) ggX4_useless_X4_bestUse
set_option maxRecDepth 20000 in
theorem ggX4_useless_X4_laysParts : GoodIn wsX4_useless wsX4_laysParts := goodIn_r _ [70, 1, 2, 71, 72, 73, 74, 6, 75, 34, 35, 36, 37, 30, 21, 38, 39, 40, 41, 42, 43, 80, 81, 82, 83, 84, 85, 86, 87, 88, 89, 90, 91, 92, 93, 94, 95, 96, 97, 98, 99, 100, 101, 102, 103, 104, 105, 106, 107, 108, 109, 110, 111, 112, 113] (by decide +kernel) (by decide +kernel)
set_option maxRecDepth 20000 in
theorem gX4_useless_X4_laysParts : GoodIn wsX4_useless (wsV RX4 276 RX4 yX4_laysParts wsX4_laysParts) := goodIn_app (goodIn_of _ (by decide +kernel)) ggX4_useless_X4_laysParts
set_option maxRecDepth 20000 in
theorem ggX4_useless_X4_allParts : GoodIn wsX4_useless wsX4_allParts := goodIn_r _ [79, 2, 80, 81, 82, 83, 84, 85, 86, 87, 88, 89, 90, 91, 92, 93, 94, 95, 96, 97, 98, 99, 100, 101, 102, 103, 104, 105, 106, 107, 108, 109, 110, 111, 112, 113] (by decide +kernel) (by decide +kernel)
set_option maxRecDepth 20000 in
theorem gX4_useless_X4_allParts : GoodIn wsX4_useless (wsV RX4 291 RX4 yX4_allParts wsX4_allParts) := goodIn_app (goodIn_of _ (by decide +kernel)) ggX4_useless_X4_allParts
set_option maxRecDepth 20000 in
theorem ggX4_person_X4_isIn : GoodIn wsX4_person wsX4_isIn := goodIn_r _ [6] (by decide +kernel) (by decide +kernel)
set_option maxRecDepth 20000 in
theorem gX4_person_X4_isIn : GoodIn wsX4_person (va_wsS RX4 96 yX4_isIn wsX4_isIn) := goodIn_app (goodIn_of _ (by decide +kernel)) ggX4_person_X4_isIn
set_option maxRecDepth 20000 in
theorem ggX4_person_X4_no : GoodIn wsX4_person wsX4_no := goodIn_r _ [10, 11, 12, 13, 14, 15, 16, 17, 18, 19, 20, 21, 22, 23, 24, 25, 26, 27, 28, 29, 30, 31, 32, 33, 34, 35, 36, 37, 38, 39, 40, 41, 42, 43, 44, 45] (by decide +kernel) (by decide +kernel)
set_option maxRecDepth 20000 in
theorem gX4_person_X4_no : GoodIn wsX4_person (wsV RX4 85 RX4 yX4_no wsX4_no) := goodIn_app (goodIn_of _ (by decide +kernel)) ggX4_person_X4_no
set_option maxRecDepth 20000 in
theorem ggX4_personOff_X4_saysOff : GoodIn wsX4_personOff wsX4_saysOff := goodIn_r _ [6, 7, 8, 9, 10, 5, 11, 12, 13, 14, 15, 16, 17, 18, 19, 20, 21, 22, 23, 24, 25, 26, 27, 28, 29, 30, 31, 32, 33, 34, 35, 36, 37, 38, 39, 40, 41, 42, 43, 44, 45, 46, 47, 48] (by decide +kernel) (by decide +kernel)
set_option maxRecDepth 20000 in
theorem gX4_personOff_X4_saysOff : GoodIn wsX4_personOff (wsV RX4 214 RX4 yX4_saysOff wsX4_saysOff) := goodIn_app (goodIn_of _ (by decide +kernel)) ggX4_personOff_X4_saysOff
set_option maxRecDepth 20000 in
theorem ggX4_personOff_X4_held : GoodIn wsX4_personOff wsX4_held := goodIn_r _ [14] (by decide +kernel) (by decide +kernel)
set_option maxRecDepth 20000 in
theorem gX4_personOff_X4_held : GoodIn wsX4_personOff (va_wsS RX4 199 yX4_held wsX4_held) := goodIn_app (goodIn_of _ (by decide +kernel)) ggX4_personOff_X4_held
set_option maxRecDepth 20000 in
theorem ggX4_said_X4_isIn : GoodIn wsX4_said wsX4_isIn := goodIn_r _ [9] (by decide +kernel) (by decide +kernel)
set_option maxRecDepth 20000 in
theorem gX4_said_X4_isIn : GoodIn wsX4_said (va_wsS RX4 96 yX4_isIn wsX4_isIn) := goodIn_app (goodIn_of _ (by decide +kernel)) ggX4_said_X4_isIn
set_option maxRecDepth 20000 in
theorem ggX4_said_X4_lowest : GoodIn wsX4_said wsX4_lowest := goodIn_r _ [13, 14, 15, 62, 63, 64, 65, 66, 67, 68, 69, 70, 71, 72, 73, 74, 75, 76, 77, 78, 79, 80, 81, 82, 83, 84, 85, 86, 87, 88, 89, 90, 91, 92, 93, 94, 95] (by decide +kernel) (by decide +kernel)
set_option maxRecDepth 20000 in
theorem gX4_said_X4_lowest : GoodIn wsX4_said (wsV RX4 235 RX4 yX4_lowest wsX4_lowest) := goodIn_app (goodIn_of _ (by decide +kernel)) ggX4_said_X4_lowest
set_option maxRecDepth 20000 in
theorem ggX4_said_X4_findThought : GoodIn wsX4_said wsX4_findThought := goodIn_r _ [19, 4, 20, 21, 22, 23, 24, 25, 26, 27, 8, 28, 29, 30, 31, 32, 33, 34, 35, 36, 37, 38, 39, 40, 41, 42, 62, 63, 64, 65, 66, 67, 68, 69, 70, 71, 72, 73, 74, 75, 76, 77, 78, 79, 80, 81, 82, 83, 84, 85, 86, 87, 88, 89, 90, 91, 92, 93, 94, 95] (by decide +kernel) (by decide +kernel)
set_option maxRecDepth 20000 in
theorem gX4_said_X4_findThought : GoodIn wsX4_said (wsV RX4 239 RX4 yX4_findThought wsX4_findThought) := goodIn_app (goodIn_of _ (by decide +kernel)) ggX4_said_X4_findThought
set_option maxRecDepth 20000 in
theorem ggX4_said_X4_allThought : GoodIn wsX4_said wsX4_allThought := goodIn_r _ [46, 4, 62, 63, 64, 65, 66, 67, 68, 69, 70, 71, 72, 73, 74, 75, 76, 77, 78, 79, 80, 81, 82, 83, 84, 85, 86, 87, 88, 89, 90, 91, 92, 93, 94, 95] (by decide +kernel) (by decide +kernel)
set_option maxRecDepth 20000 in
theorem gX4_said_X4_allThought : GoodIn wsX4_said (wsV RX4 242 RX4 yX4_allThought wsX4_allThought) := goodIn_app (goodIn_of _ (by decide +kernel)) ggX4_said_X4_allThought
set_option maxRecDepth 20000 in
theorem ggX4_said_X4_personOff : GoodIn wsX4_said wsX4_personOff := goodIn_r _ [50, 51, 33, 34, 35, 8, 36, 29, 20, 37, 38, 39, 40, 41, 42, 62, 63, 64, 65, 66, 67, 68, 69, 70, 71, 72, 73, 74, 75, 76, 77, 78, 79, 80, 81, 82, 83, 84, 85, 86, 87, 88, 89, 90, 91, 92, 93, 94, 95] (by decide +kernel) (by decide +kernel)
set_option maxRecDepth 20000 in
theorem gX4_said_X4_personOff : GoodIn wsX4_said (wsV RX4 300 RX4 yX4_personOff wsX4_personOff) := goodIn_app (goodIn_of _ (by decide +kernel)) ggX4_said_X4_personOff
set_option maxRecDepth 20000 in
theorem ggX4_said_X4_allParts : GoodIn wsX4_said wsX4_allParts := goodIn_r _ [55, 3, 62, 63, 64, 65, 66, 67, 68, 69, 70, 71, 72, 73, 74, 75, 76, 77, 78, 79, 80, 81, 82, 83, 84, 85, 86, 87, 88, 89, 90, 91, 92, 93, 94, 95] (by decide +kernel) (by decide +kernel)
set_option maxRecDepth 20000 in
theorem gX4_said_X4_allParts : GoodIn wsX4_said (wsV RX4 291 RX4 yX4_allParts wsX4_allParts) := goodIn_app (goodIn_of _ (by decide +kernel)) ggX4_said_X4_allParts
set_option maxRecDepth 20000 in
theorem ggX4_said_X4_partOf : GoodIn wsX4_said wsX4_partOf := goodIn_r _ [58, 59, 60, 8, 61] (by decide +kernel) (by decide +kernel)
set_option maxRecDepth 20000 in
theorem gX4_said_X4_partOf : GoodIn wsX4_said (va_wsS RX4 246 yX4_partOf wsX4_partOf) := goodIn_app (goodIn_of _ (by decide +kernel)) ggX4_said_X4_partOf
set_option maxRecDepth 20000 in
theorem ggX4_rightOf_X4_personOff : GoodIn wsX4_rightOf wsX4_personOff := goodIn_r _ [6, 7, 8, 9, 10, 5, 11, 12, 13, 14, 15, 16, 17, 18, 19, 20, 21, 22, 23, 24, 25, 26, 27, 28, 29, 30, 31, 32, 33, 34, 35, 36, 37, 38, 39, 40, 41, 42, 43, 44, 45, 46, 47, 48, 49, 50, 51, 52, 53] (by decide +kernel) (by decide +kernel)
set_option maxRecDepth 20000 in
theorem gX4_rightOf_X4_personOff : GoodIn wsX4_rightOf (wsV RX4 300 RX4 yX4_personOff wsX4_personOff) := goodIn_app (goodIn_of _ (by decide +kernel)) ggX4_rightOf_X4_personOff
set_option maxRecDepth 20000 in
theorem ggX4_ask_X4_no : GoodIn wsX4_ask wsX4_no := goodIn_r _ [7, 8, 46, 47, 48, 49, 50, 51, 52, 53, 54, 55, 56, 57, 58, 59, 60, 61, 62, 63, 64, 65, 66, 67, 68, 69, 70, 71, 72, 73, 74, 75, 76, 77, 78, 79] (by decide +kernel) (by decide +kernel)
set_option maxRecDepth 20000 in
theorem gX4_ask_X4_no : GoodIn wsX4_ask (wsV RX4 85 RX4 yX4_no wsX4_no) := goodIn_app (goodIn_of _ (by decide +kernel)) ggX4_ask_X4_no
set_option maxRecDepth 20000 in
theorem ggX4_ask_X4_findThought : GoodIn wsX4_ask wsX4_findThought := goodIn_r _ [12, 13, 14, 15, 16, 17, 18, 19, 20, 21, 6, 22, 23, 24, 25, 26, 27, 28, 29, 30, 31, 32, 33, 34, 35, 36, 46, 47, 48, 49, 50, 51, 52, 53, 54, 55, 56, 57, 58, 59, 60, 61, 62, 63, 64, 65, 66, 67, 68, 69, 70, 71, 72, 73, 74, 75, 76, 77, 78, 79] (by decide +kernel) (by decide +kernel)
set_option maxRecDepth 20000 in
theorem gX4_ask_X4_findThought : GoodIn wsX4_ask (wsV RX4 239 RX4 yX4_findThought wsX4_findThought) := goodIn_app (goodIn_of _ (by decide +kernel)) ggX4_ask_X4_findThought
set_option maxRecDepth 20000 in
theorem ggX4_ask_X4_rightOf : GoodIn wsX4_ask wsX4_rightOf := goodIn_r _ [40, 13, 41, 42, 43, 6, 44, 45, 27, 28, 29, 30, 23, 14, 31, 32, 33, 34, 35, 36, 46, 47, 48, 49, 50, 51, 52, 53, 54, 55, 56, 57, 58, 59, 60, 61, 62, 63, 64, 65, 66, 67, 68, 69, 70, 71, 72, 73, 74, 75, 76, 77, 78, 79] (by decide +kernel) (by decide +kernel)
set_option maxRecDepth 20000 in
theorem gX4_ask_X4_rightOf : GoodIn wsX4_ask (wsV RX4 303 RX4 yX4_rightOf wsX4_rightOf) := goodIn_app (goodIn_of _ (by decide +kernel)) ggX4_ask_X4_rightOf
set_option maxRecDepth 20000 in
theorem ggX4_laysWeights_X4_weightAt : GoodIn wsX4_laysWeights wsX4_weightAt := goodIn_r _ [5, 6, 7, 8, 4, 9, 10, 11, 12, 13, 14, 15, 16, 17, 18, 19, 20, 21, 22, 23, 24, 25, 26, 27, 28, 29, 30, 31, 32, 33, 34, 35, 36, 37, 38, 39, 40, 41, 42, 43] (by decide +kernel) (by decide +kernel)
set_option maxRecDepth 20000 in
theorem gX4_laysWeights_X4_weightAt : GoodIn wsX4_laysWeights (wsV RX4 211 RX4 yX4_weightAt wsX4_weightAt) := goodIn_app (goodIn_of _ (by decide +kernel)) ggX4_laysWeights_X4_weightAt
set_option maxRecDepth 20000 in
theorem ggX4_keep_X4_notBest : GoodIn wsX4_keep wsX4_notBest := goodIn_r _ [10, 11, 12, 13, 9, 14, 68, 69, 70, 71, 72, 73, 74, 75, 76, 77, 78, 79, 80, 81, 82, 83, 84, 85, 86, 87, 88, 89, 90, 91, 92, 93, 94, 95, 96, 97, 98, 99, 100, 101] (by decide +kernel) (by decide +kernel)
set_option maxRecDepth 20000 in
theorem gX4_keep_X4_notBest : GoodIn wsX4_keep (wsV RX4 253 RX4 yX4_notBest wsX4_notBest) := goodIn_app (goodIn_of _ (by decide +kernel)) ggX4_keep_X4_notBest
set_option maxRecDepth 20000 in
theorem ggX4_keep_X4_no : GoodIn wsX4_keep wsX4_no := goodIn_r _ [18, 19, 68, 69, 70, 71, 72, 73, 74, 75, 76, 77, 78, 79, 80, 81, 82, 83, 84, 85, 86, 87, 88, 89, 90, 91, 92, 93, 94, 95, 96, 97, 98, 99, 100, 101] (by decide +kernel) (by decide +kernel)
set_option maxRecDepth 20000 in
theorem gX4_keep_X4_no : GoodIn wsX4_keep (wsV RX4 85 RX4 yX4_no wsX4_no) := goodIn_app (goodIn_of _ (by decide +kernel)) ggX4_keep_X4_no
set_option maxRecDepth 20000 in
theorem ggX4_keep_X4_coldOf : GoodIn wsX4_keep wsX4_coldOf := goodIn_r _ [22] (by decide +kernel) (by decide +kernel)
set_option maxRecDepth 20000 in
theorem gX4_keep_X4_coldOf : GoodIn wsX4_keep (va_wsS RX4 180 yX4_coldOf wsX4_coldOf) := goodIn_app (goodIn_of _ (by decide +kernel)) ggX4_keep_X4_coldOf
set_option maxRecDepth 20000 in
theorem ggX4_keep_X4_heldPoints : GoodIn wsX4_keep wsX4_heldPoints := goodIn_r _ [25] (by decide +kernel) (by decide +kernel)
set_option maxRecDepth 20000 in
theorem gX4_keep_X4_heldPoints : GoodIn wsX4_keep (va_wsS RX4 177 yX4_heldPoints wsX4_heldPoints) := goodIn_app (goodIn_of _ (by decide +kernel)) ggX4_keep_X4_heldPoints
set_option maxRecDepth 20000 in
theorem ggX4_keep_X4_laysWeights : GoodIn wsX4_keep wsX4_laysWeights := goodIn_r _ [29, 30, 31, 32, 9, 33, 4, 34, 35, 36, 68, 69, 70, 71, 72, 73, 74, 75, 76, 77, 78, 79, 80, 81, 82, 83, 84, 85, 86, 87, 88, 89, 90, 91, 92, 93, 94, 95, 96, 97, 98, 99, 100, 101] (by decide +kernel) (by decide +kernel)
set_option maxRecDepth 20000 in
theorem gX4_keep_X4_laysWeights : GoodIn wsX4_keep (wsV RX4 306 RX4 yX4_laysWeights wsX4_laysWeights) := goodIn_app (goodIn_of _ (by decide +kernel)) ggX4_keep_X4_laysWeights
set_option maxRecDepth 20000 in
theorem ggX4_keep_X4_allParts : GoodIn wsX4_keep wsX4_allParts := goodIn_r _ [40, 1, 68, 69, 70, 71, 72, 73, 74, 75, 76, 77, 78, 79, 80, 81, 82, 83, 84, 85, 86, 87, 88, 89, 90, 91, 92, 93, 94, 95, 96, 97, 98, 99, 100, 101] (by decide +kernel) (by decide +kernel)
set_option maxRecDepth 20000 in
theorem gX4_keep_X4_allParts : GoodIn wsX4_keep (wsV RX4 291 RX4 yX4_allParts wsX4_allParts) := goodIn_app (goodIn_of _ (by decide +kernel)) ggX4_keep_X4_allParts
set_option maxRecDepth 20000 in
theorem ggX4_keep_X4_bestNet : GoodIn wsX4_keep wsX4_bestNet := goodIn_r _ [44, 45, 46, 47, 9, 48, 49, 50, 51, 52, 53, 54, 55, 56, 57, 58, 59, 60, 61, 62, 63, 64, 65, 66, 67, 68, 69, 70, 71, 72, 73, 74, 75, 76, 77, 78, 79, 80, 81, 82, 83, 84, 85, 86, 87, 88, 89, 90, 91, 92, 93, 94, 95, 96, 97, 98, 99, 100, 101] (by decide +kernel) (by decide +kernel)
set_option maxRecDepth 20000 in
theorem gX4_keep_X4_bestNet : GoodIn wsX4_keep (wsV RX4 263 RX4 yX4_bestNet wsX4_bestNet) := goodIn_app (goodIn_of _ (by decide +kernel)) ggX4_keep_X4_bestNet
set_option maxRecDepth 20000 in
theorem ggX4_seldom_X4_notBest : GoodIn wsX4_seldom wsX4_notBest := goodIn_r _ [7, 8, 9, 10, 6, 11, 74, 75, 76, 77, 78, 79, 80, 81, 82, 83, 84, 85, 86, 87, 88, 89, 90, 91, 92, 93, 94, 95, 96, 97, 98, 99, 100, 101, 102, 103, 104, 105, 106, 107] (by decide +kernel) (by decide +kernel)
set_option maxRecDepth 20000 in
theorem gX4_seldom_X4_notBest : GoodIn wsX4_seldom (wsV RX4 253 RX4 yX4_notBest wsX4_notBest) := goodIn_app (goodIn_of _ (by decide +kernel)) ggX4_seldom_X4_notBest
set_option maxRecDepth 20000 in
theorem ggX4_seldom_X4_bound : GoodIn wsX4_seldom wsX4_bound := goodIn_r _ [14] (by decide +kernel) (by decide +kernel)
set_option maxRecDepth 20000 in
theorem gX4_seldom_X4_bound : GoodIn wsX4_seldom (va_wsS RX4 78 yX4_bound wsX4_bound) := goodIn_app (goodIn_of _ (by decide +kernel)) ggX4_seldom_X4_bound
set_option maxRecDepth 20000 in
theorem ggX4_seldom_X4_no : GoodIn wsX4_seldom wsX4_no := goodIn_r _ [18, 19, 74, 75, 76, 77, 78, 79, 80, 81, 82, 83, 84, 85, 86, 87, 88, 89, 90, 91, 92, 93, 94, 95, 96, 97, 98, 99, 100, 101, 102, 103, 104, 105, 106, 107] (by decide +kernel) (by decide +kernel)
set_option maxRecDepth 20000 in
theorem gX4_seldom_X4_no : GoodIn wsX4_seldom (wsV RX4 85 RX4 yX4_no wsX4_no) := goodIn_app (goodIn_of _ (by decide +kernel)) ggX4_seldom_X4_no
set_option maxRecDepth 20000 in
theorem ggX4_seldom_X4_findThought : GoodIn wsX4_seldom wsX4_findThought := goodIn_r _ [23, 2, 24, 25, 26, 27, 28, 29, 30, 31, 6, 32, 33, 34, 35, 36, 37, 38, 39, 40, 41, 42, 43, 44, 45, 46, 74, 75, 76, 77, 78, 79, 80, 81, 82, 83, 84, 85, 86, 87, 88, 89, 90, 91, 92, 93, 94, 95, 96, 97, 98, 99, 100, 101, 102, 103, 104, 105, 106, 107] (by decide +kernel) (by decide +kernel)
set_option maxRecDepth 20000 in
theorem gX4_seldom_X4_findThought : GoodIn wsX4_seldom (wsV RX4 239 RX4 yX4_findThought wsX4_findThought) := goodIn_app (goodIn_of _ (by decide +kernel)) ggX4_seldom_X4_findThought
set_option maxRecDepth 20000 in
theorem ggX4_seldom_X4_harmParts : GoodIn wsX4_seldom wsX4_harmParts := goodIn_r _ [50, 2, 51, 52, 6, 53, 74, 75, 76, 77, 78, 79, 80, 81, 82, 83, 84, 85, 86, 87, 88, 89, 90, 91, 92, 93, 94, 95, 96, 97, 98, 99, 100, 101, 102, 103, 104, 105, 106, 107] (by decide +kernel) (by decide +kernel)
set_option maxRecDepth 20000 in
theorem gX4_seldom_X4_harmParts : GoodIn wsX4_seldom (wsV RX4 256 RX4 yX4_harmParts wsX4_harmParts) := goodIn_app (goodIn_of _ (by decide +kernel)) ggX4_seldom_X4_harmParts
set_option maxRecDepth 20000 in
theorem ggX4_seldom_X4_allThought : GoodIn wsX4_seldom wsX4_allThought := goodIn_r _ [57, 2, 74, 75, 76, 77, 78, 79, 80, 81, 82, 83, 84, 85, 86, 87, 88, 89, 90, 91, 92, 93, 94, 95, 96, 97, 98, 99, 100, 101, 102, 103, 104, 105, 106, 107] (by decide +kernel) (by decide +kernel)
set_option maxRecDepth 20000 in
theorem gX4_seldom_X4_allThought : GoodIn wsX4_seldom (wsV RX4 242 RX4 yX4_allThought wsX4_allThought) := goodIn_app (goodIn_of _ (by decide +kernel)) ggX4_seldom_X4_allThought
set_option maxRecDepth 20000 in
theorem ggX4_seldom_X4_netBy : GoodIn wsX4_seldom wsX4_netBy := goodIn_r _ [61, 62, 63, 64, 6, 65, 66, 67, 68, 69, 70, 51, 52, 53, 71, 72, 73, 74, 75, 76, 77, 78, 79, 80, 81, 82, 83, 84, 85, 86, 87, 88, 89, 90, 91, 92, 93, 94, 95, 96, 97, 98, 99, 100, 101, 102, 103, 104, 105, 106, 107] (by decide +kernel) (by decide +kernel)
set_option maxRecDepth 20000 in
theorem gX4_seldom_X4_netBy : GoodIn wsX4_seldom (wsV RX4 220 RX4 yX4_netBy wsX4_netBy) := goodIn_app (goodIn_of _ (by decide +kernel)) ggX4_seldom_X4_netBy
set_option maxRecDepth 20000 in
theorem ggX4_join_X4_isJug : GoodIn wsX4_join wsX4_isJug := goodIn_r _ [10, 11, 73, 74, 75, 76, 77, 78, 79, 80, 81, 82, 83, 84, 85, 86, 87, 88, 89, 90, 91, 92, 93, 94, 95, 96, 97, 98, 99, 100, 101, 102, 103, 104, 105, 106] (by decide +kernel) (by decide +kernel)
set_option maxRecDepth 20000 in
theorem gX4_join_X4_isJug : GoodIn wsX4_join (wsV RX4 131 RX4 yX4_isJug wsX4_isJug) := goodIn_app (goodIn_of _ (by decide +kernel)) ggX4_join_X4_isJug
set_option maxRecDepth 20000 in
theorem ggX4_join_X4_isWhom : GoodIn wsX4_join wsX4_isWhom := goodIn_r _ [14] (by decide +kernel) (by decide +kernel)
set_option maxRecDepth 20000 in
theorem gX4_join_X4_isWhom : GoodIn wsX4_join (va_wsS RX4 250 yX4_isWhom wsX4_isWhom) := goodIn_app (goodIn_of _ (by decide +kernel)) ggX4_join_X4_isWhom
set_option maxRecDepth 20000 in
theorem ggX4_join_X4_isIn : GoodIn wsX4_join wsX4_isIn := goodIn_r _ [17] (by decide +kernel) (by decide +kernel)
set_option maxRecDepth 20000 in
theorem gX4_join_X4_isIn : GoodIn wsX4_join (va_wsS RX4 96 yX4_isIn wsX4_isIn) := goodIn_app (goodIn_of _ (by decide +kernel)) ggX4_join_X4_isIn
set_option maxRecDepth 20000 in
theorem ggX4_join_X4_lowest : GoodIn wsX4_join wsX4_lowest := goodIn_r _ [21, 22, 23, 73, 74, 75, 76, 77, 78, 79, 80, 81, 82, 83, 84, 85, 86, 87, 88, 89, 90, 91, 92, 93, 94, 95, 96, 97, 98, 99, 100, 101, 102, 103, 104, 105, 106] (by decide +kernel) (by decide +kernel)
set_option maxRecDepth 20000 in
theorem gX4_join_X4_lowest : GoodIn wsX4_join (wsV RX4 235 RX4 yX4_lowest wsX4_lowest) := goodIn_app (goodIn_of _ (by decide +kernel)) ggX4_join_X4_lowest
set_option maxRecDepth 20000 in
theorem ggX4_join_X4_laysWeights : GoodIn wsX4_join wsX4_laysWeights := goodIn_r _ [27, 28, 29, 30, 9, 31, 32, 33, 34, 35, 73, 74, 75, 76, 77, 78, 79, 80, 81, 82, 83, 84, 85, 86, 87, 88, 89, 90, 91, 92, 93, 94, 95, 96, 97, 98, 99, 100, 101, 102, 103, 104, 105, 106] (by decide +kernel) (by decide +kernel)
set_option maxRecDepth 20000 in
theorem gX4_join_X4_laysWeights : GoodIn wsX4_join (wsV RX4 306 RX4 yX4_laysWeights wsX4_laysWeights) := goodIn_app (goodIn_of _ (by decide +kernel)) ggX4_join_X4_laysWeights
set_option maxRecDepth 20000 in
theorem ggX4_join_X4_allParts : GoodIn wsX4_join wsX4_allParts := goodIn_r _ [39, 1, 73, 74, 75, 76, 77, 78, 79, 80, 81, 82, 83, 84, 85, 86, 87, 88, 89, 90, 91, 92, 93, 94, 95, 96, 97, 98, 99, 100, 101, 102, 103, 104, 105, 106] (by decide +kernel) (by decide +kernel)
set_option maxRecDepth 20000 in
theorem gX4_join_X4_allParts : GoodIn wsX4_join (wsV RX4 291 RX4 yX4_allParts wsX4_allParts) := goodIn_app (goodIn_of _ (by decide +kernel)) ggX4_join_X4_allParts
set_option maxRecDepth 20000 in
theorem ggX4_join_X4_bestNet : GoodIn wsX4_join wsX4_bestNet := goodIn_r _ [43, 44, 45, 46, 9, 47, 48, 49, 50, 51, 52, 53, 54, 55, 56, 57, 58, 59, 60, 61, 62, 63, 64, 65, 66, 73, 74, 75, 76, 77, 78, 79, 80, 81, 82, 83, 84, 85, 86, 87, 88, 89, 90, 91, 92, 93, 94, 95, 96, 97, 98, 99, 100, 101, 102, 103, 104, 105, 106] (by decide +kernel) (by decide +kernel)
set_option maxRecDepth 20000 in
theorem gX4_join_X4_bestNet : GoodIn wsX4_join (wsV RX4 263 RX4 yX4_bestNet wsX4_bestNet) := goodIn_app (goodIn_of _ (by decide +kernel)) ggX4_join_X4_bestNet
set_option maxRecDepth 20000 in
theorem ggX4_join_X4_partOf : GoodIn wsX4_join wsX4_partOf := goodIn_r _ [69, 70, 71, 9, 72] (by decide +kernel) (by decide +kernel)
set_option maxRecDepth 20000 in
theorem gX4_join_X4_partOf : GoodIn wsX4_join (va_wsS RX4 246 yX4_partOf wsX4_partOf) := goodIn_app (goodIn_of _ (by decide +kernel)) ggX4_join_X4_partOf
set_option maxRecDepth 20000 in
theorem ggX4_larder_X4_no : GoodIn wsX4_larder wsX4_no := goodIn_r _ [6, 7, 15, 16, 17, 18, 19, 20, 21, 22, 23, 24, 25, 26, 27, 28, 29, 30, 31, 32, 33, 34, 35, 36, 37, 38, 39, 40, 41, 42, 43, 44, 45, 46, 47, 48] (by decide +kernel) (by decide +kernel)
set_option maxRecDepth 20000 in
theorem gX4_larder_X4_no : GoodIn wsX4_larder (wsV RX4 85 RX4 yX4_no wsX4_no) := goodIn_app (goodIn_of _ (by decide +kernel)) ggX4_larder_X4_no
set_option maxRecDepth 20000 in
theorem ggX4_larder_X4_larderBy : GoodIn wsX4_larder wsX4_larderBy := goodIn_r _ [11, 12, 13, 14, 15, 16, 17, 18, 19, 20, 21, 22, 23, 24, 25, 26, 27, 28, 29, 30, 31, 32, 33, 34, 35, 36, 37, 38, 39, 40, 41, 42, 43, 44, 45, 46, 47, 48] (by decide +kernel) (by decide +kernel)
set_option maxRecDepth 20000 in
theorem gX4_larder_X4_larderBy : GoodIn wsX4_larder (wsV RX4 312 RX4 yX4_larderBy wsX4_larderBy) := goodIn_app (goodIn_of _ (by decide +kernel)) ggX4_larder_X4_larderBy
set_option maxRecDepth 20000 in
theorem ggX4_buy_X4_no : GoodIn wsX4_buy wsX4_no := goodIn_r _ [6, 7, 18, 19, 20, 21, 22, 23, 24, 25, 26, 27, 28, 29, 30, 31, 32, 33, 34, 35, 36, 37, 38, 39, 40, 41, 42, 43, 44, 45, 46, 47, 48, 49, 50, 51] (by decide +kernel) (by decide +kernel)
set_option maxRecDepth 20000 in
theorem gX4_buy_X4_no : GoodIn wsX4_buy (wsV RX4 85 RX4 yX4_no wsX4_no) := goodIn_app (goodIn_of _ (by decide +kernel)) ggX4_buy_X4_no
set_option maxRecDepth 20000 in
theorem ggX4_buy_X4_larderBy : GoodIn wsX4_buy wsX4_larderBy := goodIn_r _ [11, 12, 13, 14, 18, 19, 20, 21, 22, 23, 24, 25, 26, 27, 28, 29, 30, 31, 32, 33, 34, 35, 36, 37, 38, 39, 40, 41, 42, 43, 44, 45, 46, 47, 48, 49, 50, 51] (by decide +kernel) (by decide +kernel)
set_option maxRecDepth 20000 in
theorem gX4_buy_X4_larderBy : GoodIn wsX4_buy (wsV RX4 312 RX4 yX4_larderBy wsX4_larderBy) := goodIn_app (goodIn_of _ (by decide +kernel)) ggX4_buy_X4_larderBy
set_option maxRecDepth 20000 in
theorem ggX4_buy_X4_isIn : GoodIn wsX4_buy wsX4_isIn := goodIn_r _ [17] (by decide +kernel) (by decide +kernel)
set_option maxRecDepth 20000 in
theorem gX4_buy_X4_isIn : GoodIn wsX4_buy (va_wsS RX4 96 yX4_isIn wsX4_isIn) := goodIn_app (goodIn_of _ (by decide +kernel)) ggX4_buy_X4_isIn
set_option maxRecDepth 20000 in
theorem ggX4_useBy_X4_truly : GoodIn wsX4_useBy wsX4_truly := goodIn_r _ [8, 1, 9, 10, 7, 11, 44, 45, 46, 47, 48, 49, 50, 51, 52, 53, 54, 55, 56, 57, 58, 59, 60, 61, 62, 63, 64, 65, 66, 67, 68, 69, 70, 71, 72, 73, 74, 75, 76, 77] (by decide +kernel) (by decide +kernel)
set_option maxRecDepth 20000 in
theorem gX4_useBy_X4_truly : GoodIn wsX4_useBy (wsV RX4 186 RX4 yX4_truly wsX4_truly) := goodIn_app (goodIn_of _ (by decide +kernel)) ggX4_useBy_X4_truly
set_option maxRecDepth 20000 in
theorem ggX4_useBy_X4_harmOf : GoodIn wsX4_useBy wsX4_harmOf := goodIn_r _ [14] (by decide +kernel) (by decide +kernel)
set_option maxRecDepth 20000 in
theorem gX4_useBy_X4_harmOf : GoodIn wsX4_useBy (va_wsS RX4 205 yX4_harmOf wsX4_harmOf) := goodIn_app (goodIn_of _ (by decide +kernel)) ggX4_useBy_X4_harmOf
set_option maxRecDepth 20000 in
theorem ggX4_useBy_X4_laysWeights : GoodIn wsX4_useBy wsX4_laysWeights := goodIn_r _ [18, 19, 20, 21, 7, 22, 23, 9, 10, 11, 44, 45, 46, 47, 48, 49, 50, 51, 52, 53, 54, 55, 56, 57, 58, 59, 60, 61, 62, 63, 64, 65, 66, 67, 68, 69, 70, 71, 72, 73, 74, 75, 76, 77] (by decide +kernel) (by decide +kernel)
set_option maxRecDepth 20000 in
theorem gX4_useBy_X4_laysWeights : GoodIn wsX4_useBy (wsV RX4 306 RX4 yX4_laysWeights wsX4_laysWeights) := goodIn_app (goodIn_of _ (by decide +kernel)) ggX4_useBy_X4_laysWeights
set_option maxRecDepth 20000 in
theorem ggX4_useBy_X4_bestUse : GoodIn wsX4_useBy wsX4_bestUse := goodIn_r _ [27, 28, 29, 30, 7, 31, 32, 33, 34, 35, 36, 37, 38, 39, 40, 12, 13, 14, 41, 42, 43, 44, 45, 46, 47, 48, 49, 50, 51, 52, 53, 54, 55, 56, 57, 58, 59, 60, 61, 62, 63, 64, 65, 66, 67, 68, 69, 70, 71, 72, 73, 74, 75, 76, 77] (by decide +kernel) (by decide +kernel)
set_option maxRecDepth 20000 in
theorem gX4_useBy_X4_bestUse : GoodIn wsX4_useBy (wsV RX4 224 RX4 yX4_bestUse wsX4_bestUse) := goodIn_app (goodIn_of _ (by decide +kernel)) ggX4_useBy_X4_bestUse
set_option maxRecDepth 20000 in
theorem ggX4_netByRule_X4_useBy : GoodIn wsX4_netByRule wsX4_useBy := goodIn_r _ [6, 7, 8, 9, 10, 11, 12, 5, 13, 14, 15, 16, 17, 18, 19, 20, 21, 22, 23, 24, 25, 26, 27, 28, 29, 30, 31, 32, 33, 34, 35, 36, 37, 38, 39, 40, 41, 42, 43, 44, 45, 46, 47, 48, 49, 50, 51, 52, 53, 54, 55, 56, 57, 58, 59, 60, 61, 62, 63, 64, 65, 66, 67, 68, 69, 70, 71, 72, 73, 74, 75, 76, 77, 78, 79, 80, 81, 82] (by decide +kernel) (by decide +kernel)
set_option maxRecDepth 20000 in
theorem gX4_netByRule_X4_useBy : GoodIn wsX4_netByRule (wsV RX4 316 RX4 yX4_useBy wsX4_useBy) := goodIn_app (goodIn_of _ (by decide +kernel)) ggX4_netByRule_X4_useBy
set_option maxRecDepth 20000 in
theorem ggX4_netByRule_X4_truly : GoodIn wsX4_netByRule wsX4_truly := goodIn_r _ [13, 7, 14, 15, 5, 16, 49, 50, 51, 52, 53, 54, 55, 56, 57, 58, 59, 60, 61, 62, 63, 64, 65, 66, 67, 68, 69, 70, 71, 72, 73, 74, 75, 76, 77, 78, 79, 80, 81, 82] (by decide +kernel) (by decide +kernel)
set_option maxRecDepth 20000 in
theorem gX4_netByRule_X4_truly : GoodIn wsX4_netByRule (wsV RX4 186 RX4 yX4_truly wsX4_truly) := goodIn_app (goodIn_of _ (by decide +kernel)) ggX4_netByRule_X4_truly
set_option maxRecDepth 20000 in
theorem ggX4_netByRule_X4_netOf : GoodIn wsX4_netByRule wsX4_netOf := goodIn_r _ [40, 41, 42, 43, 5, 44, 45, 17, 18, 19, 46, 47, 48, 49, 50, 51, 52, 53, 54, 55, 56, 57, 58, 59, 60, 61, 62, 63, 64, 65, 66, 67, 68, 69, 70, 71, 72, 73, 74, 75, 76, 77, 78, 79, 80, 81, 82] (by decide +kernel) (by decide +kernel)
set_option maxRecDepth 20000 in
theorem gX4_netByRule_X4_netOf : GoodIn wsX4_netByRule (wsV RX4 217 RX4 yX4_netOf wsX4_netOf) := goodIn_app (goodIn_of _ (by decide +kernel)) ggX4_netByRule_X4_netOf
set_option maxRecDepth 20000 in
theorem ggX4_rule_X4_isJug : GoodIn wsX4_rule wsX4_isJug := goodIn_r _ [5, 6, 70, 71, 72, 73, 74, 75, 76, 77, 78, 79, 80, 81, 82, 83, 84, 85, 86, 87, 88, 89, 90, 91, 92, 93, 94, 95, 96, 97, 98, 99, 100, 101, 102, 103] (by decide +kernel) (by decide +kernel)
set_option maxRecDepth 20000 in
theorem gX4_rule_X4_isJug : GoodIn wsX4_rule (wsV RX4 131 RX4 yX4_isJug wsX4_isJug) := goodIn_app (goodIn_of _ (by decide +kernel)) ggX4_rule_X4_isJug
set_option maxRecDepth 20000 in
theorem ggX4_rule_X4_isWhom : GoodIn wsX4_rule wsX4_isWhom := goodIn_r _ [9] (by decide +kernel) (by decide +kernel)
set_option maxRecDepth 20000 in
theorem gX4_rule_X4_isWhom : GoodIn wsX4_rule (va_wsS RX4 250 yX4_isWhom wsX4_isWhom) := goodIn_app (goodIn_of _ (by decide +kernel)) ggX4_rule_X4_isWhom
set_option maxRecDepth 20000 in
theorem ggX4_rule_X4_isIn : GoodIn wsX4_rule wsX4_isIn := goodIn_r _ [12] (by decide +kernel) (by decide +kernel)
set_option maxRecDepth 20000 in
theorem gX4_rule_X4_isIn : GoodIn wsX4_rule (va_wsS RX4 96 yX4_isIn wsX4_isIn) := goodIn_app (goodIn_of _ (by decide +kernel)) ggX4_rule_X4_isIn
set_option maxRecDepth 20000 in
theorem ggX4_rule_X4_lower : GoodIn wsX4_rule wsX4_lower := goodIn_r _ [16, 17, 18, 70, 71, 72, 73, 74, 75, 76, 77, 78, 79, 80, 81, 82, 83, 84, 85, 86, 87, 88, 89, 90, 91, 92, 93, 94, 95, 96, 97, 98, 99, 100, 101, 102, 103] (by decide +kernel) (by decide +kernel)
set_option maxRecDepth 20000 in
theorem gX4_rule_X4_lower : GoodIn wsX4_rule (wsV RX4 319 RX4 yX4_lower wsX4_lower) := goodIn_app (goodIn_of _ (by decide +kernel)) ggX4_rule_X4_lower
set_option maxRecDepth 20000 in
theorem ggX4_rule_X4_useBy : GoodIn wsX4_rule wsX4_useBy := goodIn_r _ [22, 23, 24, 25, 26, 27, 28, 4, 29, 30, 31, 32, 33, 34, 35, 36, 37, 38, 39, 40, 41, 42, 43, 44, 45, 46, 47, 48, 49, 50, 51, 52, 53, 54, 55, 56, 57, 58, 59, 60, 61, 62, 63, 64, 70, 71, 72, 73, 74, 75, 76, 77, 78, 79, 80, 81, 82, 83, 84, 85, 86, 87, 88, 89, 90, 91, 92, 93, 94, 95, 96, 97, 98, 99, 100, 101, 102, 103] (by decide +kernel) (by decide +kernel)
set_option maxRecDepth 20000 in
theorem gX4_rule_X4_useBy : GoodIn wsX4_rule (wsV RX4 316 RX4 yX4_useBy wsX4_useBy) := goodIn_app (goodIn_of _ (by decide +kernel)) ggX4_rule_X4_useBy
set_option maxRecDepth 20000 in
theorem ggX4_rule_X4_netByRule : GoodIn wsX4_rule wsX4_netByRule := goodIn_r _ [68, 69, 19, 20, 21, 4, 22, 23, 24, 25, 26, 27, 28, 29, 30, 31, 32, 33, 34, 35, 36, 37, 38, 39, 40, 41, 42, 43, 44, 45, 46, 47, 48, 49, 50, 51, 52, 53, 54, 55, 56, 57, 58, 59, 60, 61, 62, 63, 64, 70, 71, 72, 73, 74, 75, 76, 77, 78, 79, 80, 81, 82, 83, 84, 85, 86, 87, 88, 89, 90, 91, 92, 93, 94, 95, 96, 97, 98, 99, 100, 101, 102, 103] (by decide +kernel) (by decide +kernel)
set_option maxRecDepth 20000 in
theorem gX4_rule_X4_netByRule : GoodIn wsX4_rule (wsV RX4 322 RX4 yX4_netByRule wsX4_netByRule) := goodIn_app (goodIn_of _ (by decide +kernel)) ggX4_rule_X4_netByRule
set_option maxRecDepth 20000 in
theorem ggX4_netOfAll_X4_netByRule : GoodIn wsX4_netOfAll wsX4_netByRule := goodIn_r _ [6, 7, 8, 9, 10, 5, 11, 12, 13, 14, 15, 16, 17, 18, 19, 20, 21, 22, 23, 24, 25, 26, 27, 28, 29, 30, 31, 32, 33, 34, 35, 36, 37, 38, 39, 40, 41, 42, 43, 44, 45, 46, 47, 48, 49, 50, 51, 52, 53, 54, 55, 56, 57, 58, 59, 60, 61, 62, 63, 64, 65, 66, 67, 68, 69, 70, 71, 72, 73, 74, 75, 76, 77, 78, 79, 80, 81, 82, 83, 84, 85, 86, 87] (by decide +kernel) (by decide +kernel)
set_option maxRecDepth 20000 in
theorem gX4_netOfAll_X4_netByRule : GoodIn wsX4_netOfAll (wsV RX4 322 RX4 yX4_netByRule wsX4_netByRule) := goodIn_app (goodIn_of _ (by decide +kernel)) ggX4_netOfAll_X4_netByRule
set_option maxRecDepth 20000 in
theorem ggX4_bestRule_X4_isWhom : GoodIn wsX4_bestRule wsX4_isWhom := goodIn_r _ [4] (by decide +kernel) (by decide +kernel)
set_option maxRecDepth 20000 in
theorem gX4_bestRule_X4_isWhom : GoodIn wsX4_bestRule (va_wsS RX4 250 yX4_isWhom wsX4_isWhom) := goodIn_app (goodIn_of _ (by decide +kernel)) ggX4_bestRule_X4_isWhom
set_option maxRecDepth 20000 in
theorem ggX4_bestRule_X4_no : GoodIn wsX4_bestRule wsX4_no := goodIn_r _ [8, 9, 66, 67, 68, 69, 70, 71, 72, 73, 74, 75, 76, 77, 78, 79, 80, 81, 82, 83, 84, 85, 86, 87, 88, 89, 90, 91, 92, 93, 94, 95, 96, 97, 98, 99] (by decide +kernel) (by decide +kernel)
set_option maxRecDepth 20000 in
theorem gX4_bestRule_X4_no : GoodIn wsX4_bestRule (wsV RX4 85 RX4 yX4_no wsX4_no) := goodIn_app (goodIn_of _ (by decide +kernel)) ggX4_bestRule_X4_no
set_option maxRecDepth 20000 in
theorem ggX4_bestRule_X4_netOfAll : GoodIn wsX4_bestRule wsX4_netOfAll := goodIn_r _ [13, 14, 15, 16, 17, 3, 18, 19, 20, 21, 22, 23, 24, 25, 26, 27, 28, 29, 30, 31, 32, 33, 34, 35, 36, 37, 38, 39, 40, 41, 42, 43, 44, 45, 46, 47, 48, 49, 50, 51, 52, 53, 54, 55, 56, 57, 58, 59, 60, 61, 62, 63, 64, 65, 66, 67, 68, 69, 70, 71, 72, 73, 74, 75, 76, 77, 78, 79, 80, 81, 82, 83, 84, 85, 86, 87, 88, 89, 90, 91, 92, 93, 94, 95, 96, 97, 98, 99] (by decide +kernel) (by decide +kernel)
set_option maxRecDepth 20000 in
theorem gX4_bestRule_X4_netOfAll : GoodIn wsX4_bestRule (wsV RX4 325 RX4 yX4_netOfAll wsX4_netOfAll) := goodIn_app (goodIn_of _ (by decide +kernel)) ggX4_bestRule_X4_netOfAll
set_option maxRecDepth 20000 in
theorem ggX4_isIllBy_X4_coldOf : GoodIn wsX4_isIllBy wsX4_coldOf := goodIn_r _ [5] (by decide +kernel) (by decide +kernel)
set_option maxRecDepth 20000 in
theorem gX4_isIllBy_X4_coldOf : GoodIn wsX4_isIllBy (va_wsS RX4 180 yX4_coldOf wsX4_coldOf) := goodIn_app (goodIn_of _ (by decide +kernel)) ggX4_isIllBy_X4_coldOf
set_option maxRecDepth 20000 in
theorem ggX4_isIllBy_X4_heldPoints : GoodIn wsX4_isIllBy wsX4_heldPoints := goodIn_r _ [8] (by decide +kernel) (by decide +kernel)
set_option maxRecDepth 20000 in
theorem gX4_isIllBy_X4_heldPoints : GoodIn wsX4_isIllBy (va_wsS RX4 177 yX4_heldPoints wsX4_heldPoints) := goodIn_app (goodIn_of _ (by decide +kernel)) ggX4_isIllBy_X4_heldPoints
set_option maxRecDepth 20000 in
theorem ggX4_isIllBy_X4_stageAt : GoodIn wsX4_isIllBy wsX4_stageAt := goodIn_r _ [11] (by decide +kernel) (by decide +kernel)
set_option maxRecDepth 20000 in
theorem gX4_isIllBy_X4_stageAt : GoodIn wsX4_isIllBy (va_wsS RX4 183 yX4_stageAt wsX4_stageAt) := goodIn_app (goodIn_of _ (by decide +kernel)) ggX4_isIllBy_X4_stageAt
set_option maxRecDepth 20000 in
theorem ggX4_ill_X4_isIn : GoodIn wsX4_ill wsX4_isIn := goodIn_r _ [6] (by decide +kernel) (by decide +kernel)
set_option maxRecDepth 20000 in
theorem gX4_ill_X4_isIn : GoodIn wsX4_ill (va_wsS RX4 96 yX4_isIn wsX4_isIn) := goodIn_app (goodIn_of _ (by decide +kernel)) ggX4_ill_X4_isIn
set_option maxRecDepth 20000 in
theorem ggX4_ill_X4_arePairs : GoodIn wsX4_ill wsX4_arePairs := goodIn_r _ [10, 2, 11, 30, 31, 32, 33, 34, 35, 36, 37, 38, 39, 40, 41, 42, 43, 44, 45, 46, 47, 48, 49, 50, 51, 52, 53, 54, 55, 56, 57, 58, 59, 60, 61, 62, 63] (by decide +kernel) (by decide +kernel)
set_option maxRecDepth 20000 in
theorem gX4_ill_X4_arePairs : GoodIn wsX4_ill (wsV RX4 328 RX4 yX4_arePairs wsX4_arePairs) := goodIn_app (goodIn_of _ (by decide +kernel)) ggX4_ill_X4_arePairs
set_option maxRecDepth 20000 in
theorem ggX4_ill_X4_no : GoodIn wsX4_ill wsX4_no := goodIn_r _ [15, 16, 30, 31, 32, 33, 34, 35, 36, 37, 38, 39, 40, 41, 42, 43, 44, 45, 46, 47, 48, 49, 50, 51, 52, 53, 54, 55, 56, 57, 58, 59, 60, 61, 62, 63] (by decide +kernel) (by decide +kernel)
set_option maxRecDepth 20000 in
theorem gX4_ill_X4_no : GoodIn wsX4_ill (wsV RX4 85 RX4 yX4_no wsX4_no) := goodIn_app (goodIn_of _ (by decide +kernel)) ggX4_ill_X4_no
set_option maxRecDepth 20000 in
theorem ggX4_ill_X4_isIllBy : GoodIn wsX4_ill wsX4_isIllBy := goodIn_r _ [20, 11, 21, 22, 5, 23, 24, 25, 26, 27, 28, 29, 30, 31, 32, 33, 34, 35, 36, 37, 38, 39, 40, 41, 42, 43, 44, 45, 46, 47, 48, 49, 50, 51, 52, 53, 54, 55, 56, 57, 58, 59, 60, 61, 62, 63] (by decide +kernel) (by decide +kernel)
set_option maxRecDepth 20000 in
theorem gX4_ill_X4_isIllBy : GoodIn wsX4_ill (wsV RX4 331 RX4 yX4_isIllBy wsX4_isIllBy) := goodIn_app (goodIn_of _ (by decide +kernel)) ggX4_ill_X4_isIllBy
set_option maxRecDepth 20000 in
theorem ggX4_row_X4_bound : GoodIn wsX4_row wsX4_bound := goodIn_r _ [6] (by decide +kernel) (by decide +kernel)
set_option maxRecDepth 20000 in
theorem gX4_row_X4_bound : GoodIn wsX4_row (va_wsS RX4 78 yX4_bound wsX4_bound) := goodIn_app (goodIn_of _ (by decide +kernel)) ggX4_row_X4_bound
set_option maxRecDepth 20000 in
theorem ggX4_row_X4_no : GoodIn wsX4_row wsX4_no := goodIn_r _ [10, 11, 12, 13, 14, 15, 16, 17, 18, 19, 20, 21, 22, 23, 24, 25, 26, 27, 28, 29, 30, 31, 32, 33, 34, 35, 36, 37, 38, 39, 40, 41, 42, 43, 44, 45] (by decide +kernel) (by decide +kernel)
set_option maxRecDepth 20000 in
theorem gX4_row_X4_no : GoodIn wsX4_row (wsV RX4 85 RX4 yX4_no wsX4_no) := goodIn_app (goodIn_of _ (by decide +kernel)) ggX4_row_X4_no
set_option maxRecDepth 20000 in
theorem ggX4_judge_X4_no : GoodIn wsX4_judge wsX4_no := goodIn_r _ [11, 12, 22, 23, 24, 25, 26, 27, 28, 29, 30, 31, 32, 33, 34, 35, 36, 37, 38, 39, 40, 41, 42, 43, 44, 45, 46, 47, 48, 49, 50, 51, 52, 53, 54, 55] (by decide +kernel) (by decide +kernel)
set_option maxRecDepth 20000 in
theorem gX4_judge_X4_no : GoodIn wsX4_judge (wsV RX4 85 RX4 yX4_no wsX4_no) := goodIn_app (goodIn_of _ (by decide +kernel)) ggX4_judge_X4_no
set_option maxRecDepth 20000 in
theorem ggX4_judge_X4_coldOf : GoodIn wsX4_judge wsX4_coldOf := goodIn_r _ [15] (by decide +kernel) (by decide +kernel)
set_option maxRecDepth 20000 in
theorem gX4_judge_X4_coldOf : GoodIn wsX4_judge (va_wsS RX4 180 yX4_coldOf wsX4_coldOf) := goodIn_app (goodIn_of _ (by decide +kernel)) ggX4_judge_X4_coldOf
set_option maxRecDepth 20000 in
theorem ggX4_judge_X4_heldPoints : GoodIn wsX4_judge wsX4_heldPoints := goodIn_r _ [18] (by decide +kernel) (by decide +kernel)
set_option maxRecDepth 20000 in
theorem gX4_judge_X4_heldPoints : GoodIn wsX4_judge (va_wsS RX4 177 yX4_heldPoints wsX4_heldPoints) := goodIn_app (goodIn_of _ (by decide +kernel)) ggX4_judge_X4_heldPoints
set_option maxRecDepth 20000 in
theorem ggX4_judge_X4_stageAt : GoodIn wsX4_judge wsX4_stageAt := goodIn_r _ [21] (by decide +kernel) (by decide +kernel)
set_option maxRecDepth 20000 in
theorem gX4_judge_X4_stageAt : GoodIn wsX4_judge (va_wsS RX4 183 yX4_stageAt wsX4_stageAt) := goodIn_app (goodIn_of _ (by decide +kernel)) ggX4_judge_X4_stageAt
set_option maxRecDepth 20000 in
theorem ggX4_goesWeek_X4_warmOf : GoodIn wsX4_goesWeek wsX4_warmOf := goodIn_r _ [14, 6, 15, 70, 71, 72, 73, 74, 75, 76, 77, 78, 79, 80, 81, 82, 83, 84, 85, 86, 87, 88, 89, 90, 91, 92, 93, 94, 95, 96, 97, 98, 99, 100, 101, 102, 103] (by decide +kernel) (by decide +kernel)
set_option maxRecDepth 20000 in
theorem gX4_goesWeek_X4_warmOf : GoodIn wsX4_goesWeek (wsV RX4 134 RX4 yX4_warmOf wsX4_warmOf) := goodIn_app (goodIn_of _ (by decide +kernel)) ggX4_goesWeek_X4_warmOf
set_option maxRecDepth 20000 in
theorem ggX4_goesWeek_X4_gains : GoodIn wsX4_goesWeek wsX4_gains := goodIn_r _ [19, 20, 21, 22, 13, 23, 70, 71, 72, 73, 74, 75, 76, 77, 78, 79, 80, 81, 82, 83, 84, 85, 86, 87, 88, 89, 90, 91, 92, 93, 94, 95, 96, 97, 98, 99, 100, 101, 102, 103] (by decide +kernel) (by decide +kernel)
set_option maxRecDepth 20000 in
theorem gX4_goesWeek_X4_gains : GoodIn wsX4_goesWeek (wsV RX4 137 RX4 yX4_gains wsX4_gains) := goodIn_app (goodIn_of _ (by decide +kernel)) ggX4_goesWeek_X4_gains
set_option maxRecDepth 20000 in
theorem ggX4_goesWeek_X4_coldOf : GoodIn wsX4_goesWeek wsX4_coldOf := goodIn_r _ [26] (by decide +kernel) (by decide +kernel)
set_option maxRecDepth 20000 in
theorem gX4_goesWeek_X4_coldOf : GoodIn wsX4_goesWeek (va_wsS RX4 180 yX4_coldOf wsX4_coldOf) := goodIn_app (goodIn_of _ (by decide +kernel)) ggX4_goesWeek_X4_coldOf
set_option maxRecDepth 20000 in
theorem ggX4_goesWeek_X4_useBy : GoodIn wsX4_goesWeek wsX4_useBy := goodIn_r _ [30, 20, 15, 31, 32, 33, 34, 13, 35, 36, 37, 38, 39, 40, 41, 42, 43, 44, 45, 46, 47, 48, 49, 6, 50, 51, 52, 53, 54, 55, 56, 57, 58, 59, 60, 61, 62, 63, 64, 65, 66, 67, 68, 69, 70, 71, 72, 73, 74, 75, 76, 77, 78, 79, 80, 81, 82, 83, 84, 85, 86, 87, 88, 89, 90, 91, 92, 93, 94, 95, 96, 97, 98, 99, 100, 101, 102, 103] (by decide +kernel) (by decide +kernel)
set_option maxRecDepth 20000 in
theorem gX4_goesWeek_X4_useBy : GoodIn wsX4_goesWeek (wsV RX4 316 RX4 yX4_useBy wsX4_useBy) := goodIn_app (goodIn_of _ (by decide +kernel)) ggX4_goesWeek_X4_useBy
set_option maxRecDepth 20000 in
theorem ggX4_goesWeek_X4_truly : GoodIn wsX4_goesWeek wsX4_truly := goodIn_r _ [35, 20, 36, 37, 13, 38, 70, 71, 72, 73, 74, 75, 76, 77, 78, 79, 80, 81, 82, 83, 84, 85, 86, 87, 88, 89, 90, 91, 92, 93, 94, 95, 96, 97, 98, 99, 100, 101, 102, 103] (by decide +kernel) (by decide +kernel)
set_option maxRecDepth 20000 in
theorem gX4_goesWeek_X4_truly : GoodIn wsX4_goesWeek (wsV RX4 186 RX4 yX4_truly wsX4_truly) := goodIn_app (goodIn_of _ (by decide +kernel)) ggX4_goesWeek_X4_truly
set_option maxRecDepth 20000 in
theorem ggX4_goesWeek_X4_netOf : GoodIn wsX4_goesWeek wsX4_netOf := goodIn_r _ [61, 62, 63, 64, 13, 65, 66, 39, 40, 41, 67, 68, 69, 70, 71, 72, 73, 74, 75, 76, 77, 78, 79, 80, 81, 82, 83, 84, 85, 86, 87, 88, 89, 90, 91, 92, 93, 94, 95, 96, 97, 98, 99, 100, 101, 102, 103] (by decide +kernel) (by decide +kernel)
set_option maxRecDepth 20000 in
theorem gX4_goesWeek_X4_netOf : GoodIn wsX4_goesWeek (wsV RX4 217 RX4 yX4_netOf wsX4_netOf) := goodIn_app (goodIn_of _ (by decide +kernel)) ggX4_goesWeek_X4_netOf
set_option maxRecDepth 20000 in
theorem ggX4_seeds_X4_notBest : GoodIn wsX4_seeds wsX4_notBest := goodIn_r _ [10, 11, 12, 13, 9, 14, 94, 95, 96, 97, 98, 99, 100, 101, 102, 103, 104, 105, 106, 107, 108, 109, 110, 111, 112, 113, 114, 115, 116, 117, 118, 119, 120, 121, 122, 123, 124, 125, 126, 127] (by decide +kernel) (by decide +kernel)
set_option maxRecDepth 20000 in
theorem gX4_seeds_X4_notBest : GoodIn wsX4_seeds (wsV RX4 253 RX4 yX4_notBest wsX4_notBest) := goodIn_app (goodIn_of _ (by decide +kernel)) ggX4_seeds_X4_notBest
set_option maxRecDepth 20000 in
theorem ggX4_seeds_X4_bound : GoodIn wsX4_seeds wsX4_bound := goodIn_r _ [17] (by decide +kernel) (by decide +kernel)
set_option maxRecDepth 20000 in
theorem gX4_seeds_X4_bound : GoodIn wsX4_seeds (va_wsS RX4 78 yX4_bound wsX4_bound) := goodIn_app (goodIn_of _ (by decide +kernel)) ggX4_seeds_X4_bound
set_option maxRecDepth 20000 in
theorem ggX4_seeds_X4_isIn : GoodIn wsX4_seeds wsX4_isIn := goodIn_r _ [20] (by decide +kernel) (by decide +kernel)
set_option maxRecDepth 20000 in
theorem gX4_seeds_X4_isIn : GoodIn wsX4_seeds (va_wsS RX4 96 yX4_isIn wsX4_isIn) := goodIn_app (goodIn_of _ (by decide +kernel)) ggX4_seeds_X4_isIn
set_option maxRecDepth 20000 in
theorem ggX4_seeds_X4_lower : GoodIn wsX4_seeds wsX4_lower := goodIn_r _ [24, 25, 26, 94, 95, 96, 97, 98, 99, 100, 101, 102, 103, 104, 105, 106, 107, 108, 109, 110, 111, 112, 113, 114, 115, 116, 117, 118, 119, 120, 121, 122, 123, 124, 125, 126, 127] (by decide +kernel) (by decide +kernel)
set_option maxRecDepth 20000 in
theorem gX4_seeds_X4_lower : GoodIn wsX4_seeds (wsV RX4 319 RX4 yX4_lower wsX4_lower) := goodIn_app (goodIn_of _ (by decide +kernel)) ggX4_seeds_X4_lower
set_option maxRecDepth 20000 in
theorem ggX4_seeds_X4_goesWeek : GoodIn wsX4_seeds wsX4_goesWeek := goodIn_r _ [30, 2, 3, 31, 32, 33, 34, 5, 35, 4, 36, 37, 38, 9, 39, 40, 41, 42, 43, 44, 1, 45, 46, 47, 48, 49, 50, 51, 52, 53, 54, 55, 56, 57, 58, 59, 60, 61, 62, 63, 64, 65, 66, 67, 68, 69, 70, 71, 72, 73, 74, 75, 76, 77, 78, 79, 80, 81, 82, 83, 84, 85, 86, 87, 88, 89, 90, 91, 92, 93, 94, 95, 96, 97, 98, 99, 100, 101, 102, 103, 104, 105, 106, 107, 108, 109, 110, 111, 112, 113, 114, 115, 116, 117, 118, 119, 120, 121, 122, 123, 124, 125, 126, 127] (by decide +kernel) (by decide +kernel)
set_option maxRecDepth 20000 in
theorem gX4_seeds_X4_goesWeek : GoodIn wsX4_seeds (wsV RX4 346 RX4 yX4_goesWeek wsX4_goesWeek) := goodIn_app (goodIn_of _ (by decide +kernel)) ggX4_seeds_X4_goesWeek
set_option maxRecDepth 20000 in
theorem ggX4_count_X4_isIn : GoodIn wsX4_count wsX4_isIn := goodIn_r _ [13] (by decide +kernel) (by decide +kernel)
set_option maxRecDepth 20000 in
theorem gX4_count_X4_isIn : GoodIn wsX4_count (va_wsS RX4 96 yX4_isIn wsX4_isIn) := goodIn_app (goodIn_of _ (by decide +kernel)) ggX4_count_X4_isIn
set_option maxRecDepth 20000 in
theorem ggX4_count_X4_allCups : GoodIn wsX4_count wsX4_allCups := goodIn_r _ [17, 3, 18, 24, 25, 26, 27, 28, 29, 30, 31, 32, 33, 34, 35, 36, 37, 38, 39, 40, 41, 42, 43, 44, 45, 46, 47, 48, 49, 50, 51, 52, 53, 54, 55, 56, 57] (by decide +kernel) (by decide +kernel)
set_option maxRecDepth 20000 in
theorem gX4_count_X4_allCups : GoodIn wsX4_count (wsV RX4 349 RX4 yX4_allCups wsX4_allCups) := goodIn_app (goodIn_of _ (by decide +kernel)) ggX4_count_X4_allCups
set_option maxRecDepth 20000 in
theorem ggX4_count_X4_allPoints : GoodIn wsX4_count wsX4_allPoints := goodIn_r _ [22, 3, 23, 24, 25, 26, 27, 28, 29, 30, 31, 32, 33, 34, 35, 36, 37, 38, 39, 40, 41, 42, 43, 44, 45, 46, 47, 48, 49, 50, 51, 52, 53, 54, 55, 56, 57] (by decide +kernel) (by decide +kernel)
set_option maxRecDepth 20000 in
theorem gX4_count_X4_allPoints : GoodIn wsX4_count (wsV RX4 189 RX4 yX4_allPoints wsX4_allPoints) := goodIn_app (goodIn_of _ (by decide +kernel)) ggX4_count_X4_allPoints
