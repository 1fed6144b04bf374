set_option maxRecDepth 20000 in
theorem ggX0_readFrom_X7_hasMore : GoodIn wsX0_readFrom wsX7_hasMore := goodIn_r _ [6, 7, 8, 9, 5, 10, 11, 12, 13, 14, 67, 68, 69, 70, 71, 72, 73, 74] rfl (by decide +kernel)
set_option maxRecDepth 20000 in
theorem gX0_readFrom_X7_hasMore : GoodIn wsX0_readFrom (wsV RX0 32 RX7 yX7_hasMore wsX7_hasMore) := goodIn_app (goodIn_of _ (by decide +kernel)) ggX0_readFrom_X7_hasMore
set_option maxRecDepth 20000 in
theorem ggX0_readFrom_X0_readLine : GoodIn wsX0_readFrom wsX0_readLine := goodIn_r _ [19, 1, 20, 21, 22, 23, 24, 25, 26, 27, 5, 28, 14, 29, 11, 12, 30, 31, 32, 33, 34, 7, 8, 9, 10, 13, 35, 36, 37, 38, 39, 40, 41, 42, 43, 44, 45, 46, 47, 48, 49, 50, 51, 52, 53, 58, 59, 60, 61, 62, 63, 64, 65, 66, 67, 68, 69, 70, 71, 72, 73, 74] rfl (by decide +kernel)
set_option maxRecDepth 20000 in
theorem gX0_readFrom_X0_readLine : GoodIn wsX0_readFrom (wsV RX0 38 RX0 yX0_readLine wsX0_readLine) := goodIn_app (goodIn_of _ (by decide +kernel)) ggX0_readFrom_X0_readLine
set_option maxRecDepth 20000 in
theorem ggX0_readFrom_X7_takeSign : GoodIn wsX0_readFrom wsX7_takeSign := goodIn_r _ [57, 14, 11, 7, 8, 9, 5, 10, 12, 13, 38, 39, 40, 41, 42, 43, 67, 68, 69, 70, 71, 72, 73, 74] rfl (by decide +kernel)
set_option maxRecDepth 20000 in
theorem gX0_readFrom_X7_takeSign : GoodIn wsX0_readFrom (wsV RX0 42 RX7 yX7_takeSign wsX7_takeSign) := goodIn_app (goodIn_of _ (by decide +kernel)) ggX0_readFrom_X7_takeSign
set_option maxRecDepth 20000 in
theorem ggX0_readLine_X7_takeNumber : GoodIn wsX0_readLine wsX7_takeNumber := goodIn_r _ [11, 12, 13, 14, 15, 16, 17, 18, 19, 20, 21, 22, 23, 10, 24, 25, 26, 27, 28, 29, 30, 31, 32, 33, 34, 35, 36, 37, 38, 54, 55, 56, 57, 58, 59, 60, 61] rfl (by decide +kernel)
set_option maxRecDepth 20000 in
theorem gX0_readLine_X7_takeNumber : GoodIn wsX0_readLine (wsV RX0 46 RX7 yX7_takeNumber wsX7_takeNumber) := goodIn_app (goodIn_of _ (by decide +kernel)) ggX0_readLine_X7_takeNumber
set_option maxRecDepth 20000 in
theorem ggX0_readLine_X7_fail : GoodIn wsX0_readLine wsX7_fail := goodIn_r _ [32, 33, 34, 54, 55, 56, 57, 58, 59, 60, 61] rfl (by decide +kernel)
set_option maxRecDepth 20000 in
theorem gX0_readLine_X7_fail : GoodIn wsX0_readLine (wsV RX0 53 RX7 yX7_fail wsX7_fail) := goodIn_app (goodIn_of _ (by decide +kernel)) ggX0_readLine_X7_fail
set_option maxRecDepth 20000 in
theorem ggX0_readLine_X7_takeOther : GoodIn wsX0_readLine wsX7_takeOther := goodIn_r _ [43, 13, 12, 44, 8, 9, 10, 11, 14, 15, 16, 17, 18, 19, 20, 21, 22, 23, 24, 25, 26, 27, 28, 29, 30, 31, 32, 33, 34, 35, 36, 37, 38, 54, 55, 56, 57, 58, 59, 60, 61] rfl (by decide +kernel)
set_option maxRecDepth 20000 in
theorem gX0_readLine_X7_takeOther : GoodIn wsX0_readLine (wsV RX0 59 RX7 yX7_takeOther wsX7_takeOther) := goodIn_app (goodIn_of _ (by decide +kernel)) ggX0_readLine_X7_takeOther
set_option maxRecDepth 20000 in
theorem ggX0_seekPairs_X0_isFitting : GoodIn wsX0_seekPairs wsX0_isFitting := goodIn_r _ [7, 8, 9, 10, 11, 12, 13, 6, 14, 15, 16, 17, 18, 19, 20, 21, 22, 23, 24, 25, 26, 27, 28, 29, 30, 31, 32, 33, 34, 35, 36, 37, 38, 39, 40, 41, 42, 43, 44, 45, 46, 47, 48] rfl (by decide +kernel)
set_option maxRecDepth 20000 in
theorem gX0_seekPairs_X0_isFitting : GoodIn wsX0_seekPairs (wsV RX0 65 RX0 yX0_isFitting wsX0_isFitting) := goodIn_app (goodIn_of _ (by decide +kernel)) ggX0_seekPairs_X0_isFitting
set_option maxRecDepth 20000 in
theorem ggX0_isFitting_X0_standingBy : GoodIn wsX0_isFitting wsX0_standingBy := goodIn_r _ [8, 9, 10, 11, 12, 13, 14, 15, 16, 17, 18, 19, 20, 21, 22, 32, 33, 34, 35, 36, 37, 38, 39, 40, 41, 42] rfl (by decide +kernel)
set_option maxRecDepth 20000 in
theorem gX0_isFitting_X0_standingBy : GoodIn wsX0_isFitting (va_wsS RX0 69 yX0_standingBy wsX0_standingBy) := goodIn_app (goodIn_of _ (by decide +kernel)) ggX0_isFitting_X0_standingBy
set_option maxRecDepth 20000 in
theorem ggX0_standingBy_X6_weightOf : GoodIn wsX0_standingBy wsX6_weightOf := goodIn_r _ [5, 6, 7, 8, 9, 4, 10, 11, 15, 16, 17, 18, 19, 20, 21, 22, 23, 24, 25] rfl (by decide +kernel)
set_option maxRecDepth 20000 in
theorem gX0_standingBy_X6_weightOf : GoodIn wsX0_standingBy (wsV RX0 73 RX6 yX6_weightOf wsX6_weightOf) := goodIn_app (goodIn_of _ (by decide +kernel)) ggX0_standingBy_X6_weightOf
set_option maxRecDepth 20000 in
theorem ggX0_standingBy_X6_standing : GoodIn wsX0_standingBy wsX6_standing := goodIn_r _ [14] rfl (by decide +kernel)
set_option maxRecDepth 20000 in
theorem gX0_standingBy_X6_standing : GoodIn wsX0_standingBy (va_wsS RX0 79 yX6_standing wsX6_standing) := goodIn_app (goodIn_of _ (by decide +kernel)) ggX0_standingBy_X6_standing
set_option maxRecDepth 20000 in
theorem ggX0_seekNext_X0_seekPairs : GoodIn wsX0_seekNext wsX0_seekPairs := goodIn_r _ [8, 9, 10, 11, 12, 13, 7, 14, 15, 16, 17, 18, 19, 20, 21, 22, 23, 24, 25, 26, 27, 28, 29, 30, 31, 32, 33, 34, 35, 49, 50, 51, 52, 53, 54, 55, 56, 57, 58, 59, 60, 61, 62, 63, 64, 65, 66, 67, 68] rfl (by decide +kernel)
set_option maxRecDepth 20000 in
theorem gX0_seekNext_X0_seekPairs : GoodIn wsX0_seekNext (wsV RX0 83 RX0 yX0_seekPairs wsX0_seekPairs) := goodIn_app (goodIn_of _ (by decide +kernel)) ggX0_seekNext_X0_seekPairs
set_option maxRecDepth 20000 in
theorem ggX0_seekNext_X0_worstOf : GoodIn wsX0_seekNext wsX0_worstOf := goodIn_r _ [39, 40, 10, 41, 42, 43, 44, 45, 46, 47, 48, 19, 20, 7, 21, 22, 23, 24, 25, 26, 27, 28, 29, 30, 31, 32, 33, 34, 35, 49, 50, 51, 52, 53, 54, 55, 56, 57, 58, 59, 60, 61, 62, 63, 64, 65, 66, 67, 68] rfl (by decide +kernel)
set_option maxRecDepth 20000 in
theorem gX0_seekNext_X0_worstOf : GoodIn wsX0_seekNext (wsV RX0 96 RX0 yX0_worstOf wsX0_worstOf) := goodIn_app (goodIn_of _ (by decide +kernel)) ggX0_seekNext_X0_worstOf
set_option maxRecDepth 20000 in
theorem ggX0_worstOf_J7_fill_53178 : GoodIn wsX0_worstOf wsJ7_fill_53178 := goodIn_r _ [10] rfl (by decide +kernel)
set_option maxRecDepth 20000 in
theorem gX0_worstOf_J7_fill_53178 : GoodIn wsX0_worstOf (va_wsS RX0 100 yJ7_fill_53178 wsJ7_fill_53178) := goodIn_app (goodIn_of _ (by decide +kernel)) ggX0_worstOf_J7_fill_53178
set_option maxRecDepth 20000 in
theorem ggX0_worstOf_X0_standingBy : GoodIn wsX0_worstOf wsX0_standingBy := goodIn_r _ [14, 15, 16, 17, 18, 19, 20, 21, 22, 23, 24, 25, 26, 27, 28, 38, 39, 40, 41, 42, 43, 44, 45, 46, 47, 48] rfl (by decide +kernel)
set_option maxRecDepth 20000 in
theorem gX0_worstOf_X0_standingBy : GoodIn wsX0_worstOf (va_wsS RX0 69 yX0_standingBy wsX0_standingBy) := goodIn_app (goodIn_of _ (by decide +kernel)) ggX0_worstOf_X0_standingBy
set_option maxRecDepth 20000 in
theorem ggX1_seekChain_X1_begin : GoodIn wsX1_seekChain wsX1_begin := goodIn_r _ [6, 7, 8, 9, 10, 39, 40, 41, 42, 43, 44] rfl (by decide +kernel)
set_option maxRecDepth 20000 in
theorem gX1_seekChain_X1_begin : GoodIn wsX1_seekChain (wsV RX1 15 RX1 yX1_begin wsX1_begin) := goodIn_app (goodIn_of _ (by decide +kernel)) ggX1_seekChain_X1_begin
set_option maxRecDepth 20000 in
theorem ggX1_seekChain_X1_walk : GoodIn wsX1_seekChain wsX1_walk := goodIn_r _ [14, 15, 1, 16, 17, 18, 19, 20, 21, 22, 23, 24, 25, 5, 26, 10, 9, 7, 27, 8, 28, 29, 30, 31, 32, 33, 34, 35, 36, 37, 38, 11, 12, 13, 45, 46, 47, 48, 49, 50, 51, 52, 53, 54, 55, 39, 40, 41, 42, 43, 44] rfl (by decide +kernel)
set_option maxRecDepth 20000 in
theorem gX1_seekChain_X1_walk : GoodIn wsX1_seekChain (wsV RX1 22 RX1 yX1_walk wsX1_walk) := goodIn_app (goodIn_of _ (by decide +kernel)) ggX1_seekChain_X1_walk
set_option maxRecDepth 20000 in
theorem ggX1_seekRings_X1_begin : GoodIn wsX1_seekRings wsX1_begin := goodIn_r _ [7, 8, 9, 10, 11, 51, 52, 53, 54, 55, 56] rfl (by decide +kernel)
set_option maxRecDepth 20000 in
theorem gX1_seekRings_X1_begin : GoodIn wsX1_seekRings (wsV RX1 15 RX1 yX1_begin wsX1_begin) := goodIn_app (goodIn_of _ (by decide +kernel)) ggX1_seekRings_X1_begin
set_option maxRecDepth 20000 in
theorem ggX1_seekRings_X1_walk : GoodIn wsX1_seekRings wsX1_walk := goodIn_r _ [15, 16, 2, 17, 18, 19, 20, 21, 22, 23, 24, 25, 26, 6, 27, 11, 10, 8, 28, 9, 29, 30, 31, 32, 33, 34, 35, 36, 37, 38, 39, 12, 13, 14, 40, 41, 42, 43, 44, 45, 46, 47, 48, 49, 50, 51, 52, 53, 54, 55, 56] rfl (by decide +kernel)
set_option maxRecDepth 20000 in
theorem gX1_seekRings_X1_walk : GoodIn wsX1_seekRings (wsV RX1 22 RX1 yX1_walk wsX1_walk) := goodIn_app (goodIn_of _ (by decide +kernel)) ggX1_seekRings_X1_walk
set_option maxRecDepth 20000 in
theorem ggX1_walk_X6_cryPart : GoodIn wsX1_walk wsX6_cryPart := goodIn_r _ [7, 8, 9, 34, 35, 36, 37, 38, 39, 40, 41, 42, 43, 44] rfl (by decide +kernel)
set_option maxRecDepth 20000 in
theorem gX1_walk_X6_cryPart : GoodIn wsX1_walk (wsV RX1 47 RX6 yX6_cryPart wsX6_cryPart) := goodIn_app (goodIn_of _ (by decide +kernel)) ggX1_walk_X6_cryPart
set_option maxRecDepth 20000 in
theorem ggX1_walk_X1_arrive : GoodIn wsX1_walk wsX1_arrive := goodIn_r _ [14, 15, 16, 17, 18, 19, 20, 21, 22, 23, 24, 25, 26, 27, 28, 29, 30, 45, 46, 47, 48, 49, 50] rfl (by decide +kernel)
set_option maxRecDepth 20000 in
theorem gX1_walk_X1_arrive : GoodIn wsX1_walk (wsV RX1 51 RX1 yX1_arrive wsX1_arrive) := goodIn_app (goodIn_of _ (by decide +kernel)) ggX1_walk_X1_arrive
set_option maxRecDepth 20000 in
theorem ggX1_walk_X1_walk : GoodIn wsX1_walk wsX1_walk := goodIn_r _ [0, 1, 2, 3, 4, 5, 6, 7, 8, 9, 10, 11, 12, 13, 14, 15, 16, 17, 18, 19, 20, 21, 22, 23, 24, 25, 26, 27, 28, 29, 30, 31, 32, 33, 34, 35, 36, 37, 38, 39, 40, 41, 42, 43, 44, 45, 46, 47, 48, 49, 50] rfl (by decide +kernel)
set_option maxRecDepth 20000 in
theorem gX1_walk_X1_walk : GoodIn wsX1_walk (wsV RX1 22 RX1 yX1_walk wsX1_walk) := goodIn_app (goodIn_of _ (by decide +kernel)) ggX1_walk_X1_walk
set_option maxRecDepth 20000 in
theorem ggX1_arrive_J6_bitCount_0f7a4 : GoodIn wsX1_arrive wsJ6_bitCount_0f7a4 := goodIn_r _ [13, 14, 15, 16] rfl (by decide +kernel)
set_option maxRecDepth 20000 in
theorem gX1_arrive_J6_bitCount_0f7a4 : GoodIn wsX1_arrive (va_wsS RX1 55 yJ6_bitCount_0f7a4 wsJ6_bitCount_0f7a4) := goodIn_app (goodIn_of _ (by decide +kernel)) ggX1_arrive_J6_bitCount_0f7a4
set_option maxRecDepth 20000 in
theorem ggX1_bestPart_X9_commonMeasure : GoodIn wsX1_bestPart wsX9_commonMeasure := goodIn_r _ [5] rfl (by decide +kernel)
set_option maxRecDepth 20000 in
theorem gX1_bestPart_X9_commonMeasure_n66 : GoodIn wsX1_bestPart (wsX9_commonMeasure) := ggX1_bestPart_X9_commonMeasure
set_option maxRecDepth 20000 in
theorem ggX1_fewestGone_J6_bitCount_0f7a4 : GoodIn wsX1_fewestGone wsJ6_bitCount_0f7a4 := goodIn_r _ [4, 5, 6, 7] rfl (by decide +kernel)
set_option maxRecDepth 20000 in
theorem gX1_fewestGone_J6_bitCount_0f7a4 : GoodIn wsX1_fewestGone (va_wsS RX1 55 yJ6_bitCount_0f7a4 wsJ6_bitCount_0f7a4) := goodIn_app (goodIn_of _ (by decide +kernel)) ggX1_fewestGone_J6_bitCount_0f7a4
set_option maxRecDepth 20000 in
theorem ggX1_fewestGone_X1_breaksAll : GoodIn wsX1_fewestGone wsX1_breaksAll := goodIn_r _ [12, 13, 14, 15, 16, 17, 18, 19, 20] rfl (by decide +kernel)
set_option maxRecDepth 20000 in
theorem gX1_fewestGone_X1_breaksAll : GoodIn wsX1_fewestGone (wsV RX1 70 RX1 yX1_breaksAll wsX1_breaksAll) := goodIn_app (goodIn_of _ (by decide +kernel)) ggX1_fewestGone_X1_breaksAll
set_option maxRecDepth 20000 in
theorem ggX2_init_X6_init : GoodIn wsX2_init wsX6_init := goodIn_r _ [9, 10, 2, 3, 11, 12, 13, 14, 15, 16, 17, 18, 19, 20, 21, 22, 23, 24, 25, 26, 27, 28] rfl (by decide +kernel)
set_option maxRecDepth 20000 in
theorem gX2_init_X6_init_n9 : GoodIn wsX2_init (wsX6_init) := ggX2_init_X6_init
set_option maxRecDepth 20000 in
theorem ggX2_hold_X6_copyFrom : GoodIn wsX2_hold wsX6_copyFrom := goodIn_r _ [8, 9, 10, 11, 12, 13, 14, 15, 16, 17, 18, 19, 20, 21, 22, 111, 112, 113, 114, 115, 116, 117, 118, 119, 120, 121] rfl (by decide +kernel)
set_option maxRecDepth 20000 in
theorem gX2_hold_X6_copyFrom : GoodIn wsX2_hold (wsV RX2 16 RX6 yX6_copyFrom wsX6_copyFrom) := goodIn_app (goodIn_of _ (by decide +kernel)) ggX2_hold_X6_copyFrom
set_option maxRecDepth 20000 in
theorem ggX2_hold_X2_dealOnce : GoodIn wsX2_hold wsX2_dealOnce := goodIn_r _ [27, 1, 3, 28, 29, 30, 26, 31, 2, 32, 33, 34, 35, 7, 36, 18, 15, 22, 37, 38, 39, 40, 17, 41, 42, 43, 44, 19, 20, 45, 46, 47, 48, 14, 49, 50, 51, 52, 53, 54, 55, 56, 57, 58, 59, 16, 60, 61, 62, 63, 64, 65, 66, 67, 10, 11, 12, 13, 109, 110, 111, 112, 113, 114, 115, 116, 117, 118, 119, 120, 121] rfl (by decide +kernel)
set_option maxRecDepth 20000 in
theorem gX2_hold_X2_dealOnce : GoodIn wsX2_hold (wsV RX2 27 RX2 yX2_dealOnce wsX2_dealOnce) := goodIn_app (goodIn_of _ (by decide +kernel)) ggX2_hold_X2_dealOnce
set_option maxRecDepth 20000 in
theorem ggX2_hold_X6_passDay : GoodIn wsX2_hold wsX6_passDay := goodIn_r _ [71, 17, 72, 14, 73, 74, 75, 76, 21, 77, 78, 79, 7, 80, 19, 20, 81, 82, 83, 84, 18, 16, 85, 86, 87, 88, 89, 90, 91, 45, 46, 47, 48, 37, 38, 39, 40, 92, 93, 94, 95, 15, 96, 97, 98, 99, 100, 101, 102, 103, 104, 105, 106, 107, 108, 111, 112, 113, 114, 115, 116, 117, 118, 119, 120, 121, 122, 123, 124, 125, 126] rfl (by decide +kernel)
set_option maxRecDepth 20000 in
theorem gX2_hold_X6_passDay : GoodIn wsX2_hold (wsV RX2 31 RX6 yX6_passDay wsX6_passDay) := goodIn_app (goodIn_of _ (by decide +kernel)) ggX2_hold_X6_passDay
set_option maxRecDepth 20000 in
theorem ggX2_dealOnce_X2_draw : GoodIn wsX2_dealOnce wsX2_draw := goodIn_r _ [7, 8, 9, 58, 59] rfl (by decide +kernel)
set_option maxRecDepth 20000 in
theorem gX2_dealOnce_X2_draw : GoodIn wsX2_dealOnce (wsV RX2 35 RX2 yX2_draw wsX2_draw) := goodIn_app (goodIn_of _ (by decide +kernel)) ggX2_dealOnce_X2_draw
set_option maxRecDepth 20000 in
theorem ggX2_dealOnce_X6_weigh : GoodIn wsX2_dealOnce wsX6_weigh := goodIn_r _ [14, 15, 16, 17, 18, 19, 20, 13, 21, 22, 23, 24, 25, 26, 27, 28, 29, 30, 31, 32, 33, 34, 35, 36, 37, 38, 39, 40, 41, 42, 43, 44, 45, 46, 47, 48, 49, 60, 61, 62, 63, 64, 65, 66, 67, 68, 69, 70] rfl (by decide +kernel)
set_option maxRecDepth 20000 in
theorem gX2_dealOnce_X6_weigh : GoodIn wsX2_dealOnce (wsV RX2 39 RX6 yX6_weigh wsX6_weigh) := goodIn_app (goodIn_of _ (by decide +kernel)) ggX2_dealOnce_X6_weigh
set_option maxRecDepth 20000 in
theorem ggX2_dealOnce_X6_tip : GoodIn wsX2_dealOnce wsX6_tip := goodIn_r _ [53, 15, 45, 54, 55, 56, 57, 60, 61, 62, 63, 64, 65, 66, 67, 68, 69, 70] rfl (by decide +kernel)
set_option maxRecDepth 20000 in
theorem gX2_dealOnce_X6_tip : GoodIn wsX2_dealOnce (wsV RX2 43 RX6 yX6_tip wsX6_tip) := goodIn_app (goodIn_of _ (by decide +kernel)) ggX2_dealOnce_X6_tip
set_option maxRecDepth 20000 in
theorem ggX3_init_X3_becomeUsual : GoodIn wsX3_init wsX3_becomeUsual := goodIn_r _ [13, 14, 15, 16, 17, 12, 18, 5, 6, 19, 20, 21, 22, 23] rfl (by decide +kernel)
set_option maxRecDepth 20000 in
theorem gX3_init_X3_becomeUsual : GoodIn wsX3_init (wsV RX3 24 RX3 yX3_becomeUsual wsX3_becomeUsual) := goodIn_app (goodIn_of _ (by decide +kernel)) ggX3_init_X3_becomeUsual
set_option maxRecDepth 20000 in
theorem ggX3_becomeUsual_X3_add : GoodIn wsX3_becomeUsual wsX3_add := goodIn_r _ [6, 1, 7, 8, 9, 10, 11, 12, 13] rfl (by decide +kernel)
set_option maxRecDepth 20000 in
theorem gX3_becomeUsual_X3_add : GoodIn wsX3_becomeUsual (wsV RX3 31 RX3 yX3_add wsX3_add) := goodIn_app (goodIn_of _ (by decide +kernel)) ggX3_becomeUsual_X3_add
set_option maxRecDepth 20000 in
theorem ggX3_wear_X3_joined : GoodIn wsX3_wear wsX3_joined := goodIn_r _ [9] rfl (by decide +kernel)
set_option maxRecDepth 20000 in
theorem gX3_wear_X3_joined : GoodIn wsX3_wear (va_wsS RX3 35 yX3_joined wsX3_joined) := goodIn_app (goodIn_of _ (by decide +kernel)) ggX3_wear_X3_joined
set_option maxRecDepth 20000 in
theorem ggX3_readFrom_X3_readSum : GoodIn wsX3_readFrom wsX3_readSum := goodIn_r _ [7, 8, 9, 10, 11, 6, 12, 13, 14, 15, 16, 17, 18, 19, 20, 21, 22, 23, 24, 25, 26, 27, 1, 28, 29, 30, 2, 31, 32, 33, 34, 35, 36, 37, 38, 39, 40, 41, 42, 3, 4, 5, 43, 44, 45, 46, 47, 48, 49, 50, 51, 52, 53, 54, 55, 56, 57, 58, 59, 60, 61, 62, 63, 64, 65, 66, 67, 68, 69, 70, 71, 72, 73, 74, 75, 76, 77, 78, 79, 80, 81, 82, 83, 84, 85, 86, 87, 88, 89, 90, 91, 92, 93, 94, 95, 96, 97, 98, 99, 100, 101, 102, 103, 104, 105, 106, 107, 108, 109, 110, 111, 112, 113, 114, 115, 116, 117, 118, 119, 120, 121, 122, 123, 124, 125, 126, 127, 128, 129, 130, 131, 132, 133, 134, 135, 136, 137, 138, 148, 149, 150, 151, 152, 153, 154, 155, 143, 144, 145, 146, 147] rfl (by decide +kernel)
set_option maxRecDepth 20000 in
theorem gX3_readFrom_X3_readSum : GoodIn wsX3_readFrom (wsV RX3 39 RX3 yX3_readSum wsX3_readSum) := goodIn_app (goodIn_of _ (by decide +kernel)) ggX3_readFrom_X3_readSum
set_option maxRecDepth 20000 in
theorem ggX3_readFrom_X7_hasMore : GoodIn wsX3_readFrom wsX7_hasMore := goodIn_r _ [142, 41, 13, 14, 15, 16, 17, 18, 19, 20, 148, 149, 150, 151, 152, 153, 154, 155] rfl (by decide +kernel)
set_option maxRecDepth 20000 in
theorem gX3_readFrom_X7_hasMore : GoodIn wsX3_readFrom (wsV RX3 43 RX7 yX7_hasMore wsX7_hasMore) := goodIn_app (goodIn_of _ (by decide +kernel)) ggX3_readFrom_X7_hasMore
set_option maxRecDepth 20000 in
theorem ggX3_readFrom_X7_fail : GoodIn wsX3_readFrom wsX7_fail := goodIn_r _ [34, 35, 36, 148, 149, 150, 151, 152, 153, 154, 155] rfl (by decide +kernel)
set_option maxRecDepth 20000 in
theorem gX3_readFrom_X7_fail : GoodIn wsX3_readFrom (wsV RX3 52 RX7 yX7_fail wsX7_fail) := goodIn_app (goodIn_of _ (by decide +kernel)) ggX3_readFrom_X7_fail
set_option maxRecDepth 20000 in
theorem ggX3_readSum_X3_readProduct : GoodIn wsX3_readSum wsX3_readProduct := goodIn_r _ [43, 1, 44, 45, 46, 5, 6, 7, 8, 9, 10, 11, 12, 13, 14, 47, 48, 49, 18, 19, 20, 21, 22, 23, 24, 25, 26, 27, 28, 29, 30, 31, 32, 33, 34, 35, 36, 37, 38, 39, 40, 41, 42, 0, 2, 3, 4, 15, 16, 17, 50, 51, 52, 53, 54, 55, 56, 57, 58, 59, 60, 61, 62, 63, 64, 65, 66, 67, 68, 69, 70, 71, 72, 73, 74, 75, 76, 77, 78, 79, 80, 81, 82, 83, 84, 85, 86, 87, 88, 89, 90, 91, 92, 93, 94, 95, 96, 97, 98, 99, 100, 101, 102, 103, 104, 105, 106, 107, 108, 109, 110, 111, 112, 113, 114, 115, 116, 117, 118, 119, 120, 121, 122, 123, 124, 125, 126, 127, 128, 129, 130, 131, 132, 133, 134, 135, 136, 137, 138, 139, 140, 141, 142, 143, 144, 145, 146, 147, 148, 149, 150] rfl (by decide +kernel)
set_option maxRecDepth 20000 in
theorem gX3_readSum_X3_readProduct : GoodIn wsX3_readSum (wsV RX3 56 RX3 yX3_readProduct wsX3_readProduct) := goodIn_app (goodIn_of _ (by decide +kernel)) ggX3_readSum_X3_readProduct
set_option maxRecDepth 20000 in
theorem ggX3_readSum_X7_peek : GoodIn wsX3_readSum wsX7_peek := goodIn_r _ [10, 11, 12, 13, 14, 138, 139, 140, 141, 142, 143, 144, 145] rfl (by decide +kernel)
set_option maxRecDepth 20000 in
theorem gX3_readSum_X7_peek : GoodIn wsX3_readSum (wsV RX3 59 RX7 yX7_peek wsX7_peek) := goodIn_app (goodIn_of _ (by decide +kernel)) ggX3_readSum_X7_peek
set_option maxRecDepth 20000 in
theorem ggX3_readSum_X3_sumMark : GoodIn wsX3_readSum wsX3_sumMark := goodIn_r _ [17] rfl (by decide +kernel)
set_option maxRecDepth 20000 in
theorem gX3_readSum_X3_sumMark : GoodIn wsX3_readSum (va_wsS RX3 63 yX3_sumMark wsX3_sumMark) := goodIn_app (goodIn_of _ (by decide +kernel)) ggX3_readSum_X3_sumMark
set_option maxRecDepth 20000 in
theorem ggX3_readSum_X3_add : GoodIn wsX3_readSum wsX3_add := goodIn_r _ [21, 22, 23, 24, 146, 147, 148, 149, 150] rfl (by decide +kernel)
set_option maxRecDepth 20000 in
theorem gX3_readSum_X3_add : GoodIn wsX3_readSum (wsV RX3 31 RX3 yX3_add wsX3_add) := goodIn_app (goodIn_of _ (by decide +kernel)) ggX3_readSum_X3_add
set_option maxRecDepth 20000 in
theorem ggX3_readProduct_X3_readUnit : GoodIn wsX3_readProduct wsX3_readUnit := goodIn_r _ [50, 51, 26, 6, 7, 8, 9, 10, 11, 12, 13, 14, 52, 53, 54, 5, 55, 56, 57, 58, 59, 60, 61, 62, 63, 64, 37, 65, 66, 67, 38, 28, 29, 30, 31, 32, 68, 69, 70, 71, 18, 19, 20, 21, 22, 23, 24, 72, 73, 74, 75, 76, 77, 78, 79, 80, 81, 82, 83, 84, 85, 86, 87, 88, 89, 90, 91, 92, 93, 94, 95, 96, 97, 98, 99, 100, 101, 102, 103, 104, 105, 106, 107, 108, 109, 110, 111, 112, 113, 114, 115, 116, 117, 118, 119, 120, 121, 122, 123, 124, 125, 126, 127, 128, 129, 130, 131, 132, 133, 134, 135, 136, 137, 27, 25, 33, 34, 35, 36, 39, 40, 41, 42, 0, 1, 2, 3, 4, 15, 16, 17, 43, 44, 45, 46, 47, 48, 49, 138, 139, 140, 141, 142, 143, 144, 145, 146, 147, 148, 149, 150] rfl (by decide +kernel)
set_option maxRecDepth 20000 in
theorem gX3_readProduct_X3_readUnit : GoodIn wsX3_readProduct (wsV RX3 70 RX3 yX3_readUnit wsX3_readUnit) := goodIn_app (goodIn_of _ (by decide +kernel)) ggX3_readProduct_X3_readUnit
set_option maxRecDepth 20000 in
theorem ggX3_readProduct_X7_peek : GoodIn wsX3_readProduct wsX7_peek := goodIn_r _ [10, 11, 12, 13, 14, 138, 139, 140, 141, 142, 143, 144, 145] rfl (by decide +kernel)
set_option maxRecDepth 20000 in
theorem gX3_readProduct_X7_peek : GoodIn wsX3_readProduct (wsV RX3 59 RX7 yX7_peek wsX7_peek) := goodIn_app (goodIn_of _ (by decide +kernel)) ggX3_readProduct_X7_peek
set_option maxRecDepth 20000 in
theorem ggX3_readProduct_X3_productMark : GoodIn wsX3_readProduct wsX3_productMark := goodIn_r _ [17] rfl (by decide +kernel)
set_option maxRecDepth 20000 in
theorem gX3_readProduct_X3_productMark : GoodIn wsX3_readProduct (va_wsS RX3 73 yX3_productMark wsX3_productMark) := goodIn_app (goodIn_of _ (by decide +kernel)) ggX3_readProduct_X3_productMark
set_option maxRecDepth 20000 in
theorem ggX3_readProduct_X3_add : GoodIn wsX3_readProduct wsX3_add := goodIn_r _ [21, 22, 23, 24, 146, 147, 148, 149, 150] rfl (by decide +kernel)
set_option maxRecDepth 20000 in
theorem gX3_readProduct_X3_add : GoodIn wsX3_readProduct (wsV RX3 31 RX3 yX3_add wsX3_add) := goodIn_app (goodIn_of _ (by decide +kernel)) ggX3_readProduct_X3_add
set_option maxRecDepth 20000 in
theorem ggX3_readUnit_X7_peek : GoodIn wsX3_readUnit wsX7_peek := goodIn_r _ [7, 8, 9, 10, 11, 138, 139, 140, 141, 142, 143, 144, 145] rfl (by decide +kernel)
set_option maxRecDepth 20000 in
theorem gX3_readUnit_X7_peek : GoodIn wsX3_readUnit (wsV RX3 59 RX7 yX7_peek wsX7_peek) := goodIn_app (goodIn_of _ (by decide +kernel)) ggX3_readUnit_X7_peek
set_option maxRecDepth 20000 in
theorem ggX3_readUnit_X3_readBraced : GoodIn wsX3_readUnit wsX3_readBraced := goodIn_r _ [114, 2, 113, 31, 32, 6, 33, 34, 35, 115, 116, 117, 118, 11, 8, 26, 4, 5, 7, 9, 10, 30, 119, 120, 121, 15, 122, 40, 41, 42, 43, 44, 45, 46, 123, 124, 125, 126, 127, 3, 128, 129, 130, 131, 132, 133, 134, 135, 136, 137, 0, 1, 12, 13, 14, 16, 17, 18, 19, 20, 21, 22, 23, 24, 25, 27, 28, 29, 36, 37, 38, 39, 47, 48, 49, 50, 51, 52, 53, 54, 55, 56, 57, 58, 59, 60, 61, 62, 63, 64, 65, 66, 67, 68, 69, 70, 71, 72, 73, 74, 75, 76, 77, 78, 79, 80, 81, 82, 83, 84, 85, 86, 87, 88, 89, 90, 91, 92, 93, 94, 95, 96, 97, 98, 99, 100, 101, 102, 103, 104, 105, 106, 107, 108, 109, 110, 111, 112, 138, 139, 140, 141, 142, 143, 144, 145, 146, 147, 148, 149, 150] rfl (by decide +kernel)
set_option maxRecDepth 20000 in
theorem gX3_readUnit_X3_readBraced : GoodIn wsX3_readUnit (wsV RX3 76 RX3 yX3_readBraced wsX3_readBraced) := goodIn_app (goodIn_of _ (by decide +kernel)) ggX3_readUnit_X3_readBraced
set_option maxRecDepth 20000 in
theorem ggX3_readUnit_X7_takeNumber : GoodIn wsX3_readUnit wsX7_takeNumber := goodIn_r _ [19, 11, 20, 8, 9, 21, 22, 23, 24, 25, 26, 4, 5, 6, 7, 10, 27, 28, 29, 30, 31, 32, 33, 34, 35, 36, 37, 38, 39, 138, 139, 140, 141, 142, 143, 144, 145] rfl (by decide +kernel)
set_option maxRecDepth 20000 in
theorem gX3_readUnit_X7_takeNumber : GoodIn wsX3_readUnit (wsV RX3 79 RX7 yX7_takeNumber wsX7_takeNumber) := goodIn_app (goodIn_of _ (by decide +kernel)) ggX3_readUnit_X7_takeNumber
set_option maxRecDepth 20000 in
theorem ggX3_readUnit_X3_add : GoodIn wsX3_readUnit wsX3_add := goodIn_r _ [43, 44, 45, 46, 146, 147, 148, 149, 150] rfl (by decide +kernel)
set_option maxRecDepth 20000 in
theorem gX3_readUnit_X3_add : GoodIn wsX3_readUnit (wsV RX3 31 RX3 yX3_add wsX3_add) := goodIn_app (goodIn_of _ (by decide +kernel)) ggX3_readUnit_X3_add
set_option maxRecDepth 20000 in
theorem ggX3_readUnit_X7_takeWord : GoodIn wsX3_readUnit wsX7_takeWord := goodIn_r _ [50, 8, 9, 11, 26, 4, 5, 6, 7, 10, 36, 37, 38, 39, 51, 52, 53, 30, 31, 32, 33, 34, 35, 138, 139, 140, 141, 142, 143, 144, 145] rfl (by decide +kernel)
set_option maxRecDepth 20000 in
theorem gX3_readUnit_X7_takeWord : GoodIn wsX3_readUnit (wsV RX3 85 RX7 yX7_takeWord wsX7_takeWord) := goodIn_app (goodIn_of _ (by decide +kernel)) ggX3_readUnit_X7_takeWord
set_option maxRecDepth 20000 in
theorem ggX3_readUnit_X7_wordIs : GoodIn wsX3_readUnit wsX7_wordIs := goodIn_r _ [57, 8, 11, 58, 59, 60, 61, 62, 63, 64, 65, 66, 67, 68, 69, 36, 37, 38, 6, 39, 9, 10, 70, 71, 72, 73, 74, 75, 76, 77, 78, 79, 80, 81, 82, 83, 84, 85, 86, 87, 88, 89, 90, 91, 92, 93, 94, 95, 96, 97, 98, 99, 100, 101, 102, 103, 104, 105, 106, 138, 139, 140, 141, 142, 143, 144, 145] rfl (by decide +kernel)
set_option maxRecDepth 20000 in
theorem gX3_readUnit_X7_wordIs : GoodIn wsX3_readUnit (wsV RX3 90 RX7 yX7_wordIs wsX7_wordIs) := goodIn_app (goodIn_of _ (by decide +kernel)) ggX3_readUnit_X7_wordIs
set_option maxRecDepth 20000 in
theorem ggX3_readUnit_X3_readPair : GoodIn wsX3_readUnit wsX3_readPair := goodIn_r _ [122, 2, 113, 31, 32, 6, 33, 34, 35, 115, 116, 117, 118, 11, 8, 26, 4, 5, 7, 9, 10, 30, 119, 120, 121, 15, 40, 41, 42, 43, 44, 45, 46, 114, 123, 124, 125, 126, 127, 3, 128, 129, 130, 131, 132, 133, 134, 135, 136, 137, 0, 1, 12, 13, 14, 16, 17, 18, 19, 20, 21, 22, 23, 24, 25, 27, 28, 29, 36, 37, 38, 39, 47, 48, 49, 50, 51, 52, 53, 54, 55, 56, 57, 58, 59, 60, 61, 62, 63, 64, 65, 66, 67, 68, 69, 70, 71, 72, 73, 74, 75, 76, 77, 78, 79, 80, 81, 82, 83, 84, 85, 86, 87, 88, 89, 90, 91, 92, 93, 94, 95, 96, 97, 98, 99, 100, 101, 102, 103, 104, 105, 106, 107, 108, 109, 110, 111, 112, 138, 139, 140, 141, 142, 143, 144, 145, 146, 147, 148, 149, 150] rfl (by decide +kernel)
set_option maxRecDepth 20000 in
theorem gX3_readUnit_X3_readPair : GoodIn wsX3_readUnit (wsV RX3 94 RX3 yX3_readPair wsX3_readPair) := goodIn_app (goodIn_of _ (by decide +kernel)) ggX3_readUnit_X3_readPair
set_option maxRecDepth 20000 in
theorem ggX3_readUnit_X3_nameOf : GoodIn wsX3_readUnit wsX3_nameOf := goodIn_r _ [112, 54, 55, 56, 6, 57, 8, 11, 58, 59, 60, 61, 62, 63, 64, 65, 66, 67, 68, 69, 36, 37, 38, 39, 9, 10, 70, 71, 72, 73, 74, 75, 76, 77, 78, 79, 80, 81, 82, 83, 84, 85, 86, 87, 88, 89, 90, 91, 92, 93, 94, 95, 96, 97, 98, 99, 100, 101, 102, 103, 104, 105, 106, 138, 139, 140, 141, 142, 143, 144, 145] rfl (by decide +kernel)
set_option maxRecDepth 20000 in
theorem gX3_readUnit_X3_nameOf : GoodIn wsX3_readUnit (va_wsS RX3 100 yX3_nameOf wsX3_nameOf) := goodIn_app (goodIn_of _ (by decide +kernel)) ggX3_readUnit_X3_nameOf
set_option maxRecDepth 20000 in
theorem ggX3_readUnit_X7_fail : GoodIn wsX3_readUnit wsX7_fail := goodIn_r _ [33, 34, 35, 138, 139, 140, 141, 142, 143, 144, 145] rfl (by decide +kernel)
set_option maxRecDepth 20000 in
theorem gX3_readUnit_X7_fail : GoodIn wsX3_readUnit (wsV RX3 52 RX7 yX7_fail wsX7_fail) := goodIn_app (goodIn_of _ (by decide +kernel)) ggX3_readUnit_X7_fail
set_option maxRecDepth 20000 in
theorem ggX3_nameOf_X7_wordIs : GoodIn wsX3_nameOf wsX7_wordIs := goodIn_r _ [5, 6, 7, 8, 9, 10, 11, 12, 13, 14, 15, 16, 17, 18, 19, 20, 21, 22, 4, 23, 24, 25, 26, 27, 28, 29, 30, 31, 32, 33, 34, 35, 36, 37, 38, 39, 40, 41, 42, 43, 44, 45, 46, 47, 48, 49, 50, 51, 52, 53, 54, 55, 56, 57, 58, 59, 60, 61, 62, 63, 64, 65, 66, 67, 68, 69, 70] rfl (by decide +kernel)
set_option maxRecDepth 20000 in
theorem gX3_nameOf_X7_wordIs : GoodIn wsX3_nameOf (wsV RX3 90 RX7 yX7_wordIs wsX7_wordIs) := goodIn_app (goodIn_of _ (by decide +kernel)) ggX3_nameOf_X7_wordIs
set_option maxRecDepth 20000 in
theorem ggX3_readBraced_X7_fail : GoodIn wsX3_readBraced wsX7_fail := goodIn_r _ [6, 7, 8, 138, 139, 140, 141, 142, 143, 144, 145] rfl (by decide +kernel)
set_option maxRecDepth 20000 in
theorem gX3_readBraced_X7_fail : GoodIn wsX3_readBraced (wsV RX3 52 RX7 yX7_fail wsX7_fail) := goodIn_app (goodIn_of _ (by decide +kernel)) ggX3_readBraced_X7_fail
set_option maxRecDepth 20000 in
theorem ggX3_readBraced_X7_takeSign : GoodIn wsX3_readBraced wsX7_takeSign := goodIn_r _ [12, 13, 14, 15, 16, 17, 5, 18, 19, 20, 21, 3, 4, 6, 7, 8, 138, 139, 140, 141, 142, 143, 144, 145] rfl (by decide +kernel)
set_option maxRecDepth 20000 in
theorem gX3_readBraced_X7_takeSign : GoodIn wsX3_readBraced (wsV RX3 118 RX7 yX7_takeSign wsX7_takeSign) := goodIn_app (goodIn_of _ (by decide +kernel)) ggX3_readBraced_X7_takeSign
set_option maxRecDepth 20000 in
theorem ggX3_readBraced_X3_readSum : GoodIn wsX3_readBraced wsX3_readSum := goodIn_r _ [43, 35, 44, 45, 46, 25, 39, 16, 17, 5, 18, 14, 19, 20, 13, 47, 48, 49, 27, 28, 29, 30, 31, 32, 33, 0, 1, 2, 3, 4, 6, 7, 8, 9, 10, 11, 12, 15, 21, 22, 23, 24, 26, 34, 36, 37, 38, 40, 41, 42, 50, 51, 52, 53, 54, 55, 56, 57, 58, 59, 60, 61, 62, 63, 64, 65, 66, 67, 68, 69, 70, 71, 72, 73, 74, 75, 76, 77, 78, 79, 80, 81, 82, 83, 84, 85, 86, 87, 88, 89, 90, 91, 92, 93, 94, 95, 96, 97, 98, 99, 100, 101, 102, 103, 104, 105, 106, 107, 108, 109, 110, 111, 112, 113, 114, 115, 116, 117, 118, 119, 120, 121, 122, 123, 124, 125, 126, 127, 128, 129, 130, 131, 132, 133, 134, 135, 136, 137, 138, 139, 140, 141, 142, 143, 144, 145, 146, 147, 148, 149, 150] rfl (by decide +kernel)
set_option maxRecDepth 20000 in
theorem gX3_readBraced_X3_readSum : GoodIn wsX3_readBraced (wsV RX3 39 RX3 yX3_readSum wsX3_readSum) := goodIn_app (goodIn_of _ (by decide +kernel)) ggX3_readBraced_X3_readSum
set_option maxRecDepth 20000 in
theorem ggX3_readPair_X7_fail : GoodIn wsX3_readPair wsX7_fail := goodIn_r _ [6, 7, 8, 138, 139, 140, 141, 142, 143, 144, 145] rfl (by decide +kernel)
set_option maxRecDepth 20000 in
theorem gX3_readPair_X7_fail : GoodIn wsX3_readPair (wsV RX3 52 RX7 yX7_fail wsX7_fail) := goodIn_app (goodIn_of _ (by decide +kernel)) ggX3_readPair_X7_fail
set_option maxRecDepth 20000 in
theorem ggX3_readPair_X7_takeSign : GoodIn wsX3_readPair wsX7_takeSign := goodIn_r _ [12, 13, 14, 15, 16, 17, 5, 18, 19, 20, 21, 3, 4, 6, 7, 8, 138, 139, 140, 141, 142, 143, 144, 145] rfl (by decide +kernel)
set_option maxRecDepth 20000 in
theorem gX3_readPair_X7_takeSign : GoodIn wsX3_readPair (wsV RX3 118 RX7 yX7_takeSign wsX7_takeSign) := goodIn_app (goodIn_of _ (by decide +kernel)) ggX3_readPair_X7_takeSign
set_option maxRecDepth 20000 in
theorem ggX3_readPair_X3_readSum : GoodIn wsX3_readPair wsX3_readSum := goodIn_r _ [43, 35, 44, 45, 46, 25, 39, 16, 17, 5, 18, 14, 19, 20, 13, 47, 48, 49, 26, 27, 28, 29, 30, 31, 32, 33, 1, 2, 3, 4, 6, 7, 8, 9, 10, 11, 12, 15, 21, 22, 23, 24, 0, 34, 36, 37, 38, 40, 41, 42, 50, 51, 52, 53, 54, 55, 56, 57, 58, 59, 60, 61, 62, 63, 64, 65, 66, 67, 68, 69, 70, 71, 72, 73, 74, 75, 76, 77, 78, 79, 80, 81, 82, 83, 84, 85, 86, 87, 88, 89, 90, 91, 92, 93, 94, 95, 96, 97, 98, 99, 100, 101, 102, 103, 104, 105, 106, 107, 108, 109, 110, 111, 112, 113, 114, 115, 116, 117, 118, 119, 120, 121, 122, 123, 124, 125, 126, 127, 128, 129, 130, 131, 132, 133, 134, 135, 136, 137, 138, 139, 140, 141, 142, 143, 144, 145, 146, 147, 148, 149, 150] rfl (by decide +kernel)
set_option maxRecDepth 20000 in
theorem gX3_readPair_X3_readSum : GoodIn wsX3_readPair (wsV RX3 39 RX3 yX3_readSum wsX3_readSum) := goodIn_app (goodIn_of _ (by decide +kernel)) ggX3_readPair_X3_readSum
set_option maxRecDepth 20000 in
theorem ggX3_readPair_X3_add : GoodIn wsX3_readPair wsX3_add := goodIn_r _ [29, 30, 31, 32, 146, 147, 148, 149, 150] rfl (by decide +kernel)
set_option maxRecDepth 20000 in
theorem gX3_readPair_X3_add : GoodIn wsX3_readPair (wsV RX3 31 RX3 yX3_add wsX3_add) := goodIn_app (goodIn_of _ (by decide +kernel)) ggX3_readPair_X3_add
set_option maxRecDepth 20000 in
theorem ggX4_addUp_X6_weightOf : GoodIn wsX4_addUp wsX6_weightOf := goodIn_r _ [7, 8, 9, 10, 11, 6, 12, 13, 14, 15, 16, 17, 18, 19, 20, 21, 22, 23, 24] rfl (by decide +kernel)
set_option maxRecDepth 20000 in
theorem gX4_addUp_X6_weightOf : GoodIn wsX4_addUp (wsV RX4 25 RX6 yX6_weightOf wsX6_weightOf) := goodIn_app (goodIn_of _ (by decide +kernel)) ggX4_addUp_X6_weightOf
set_option maxRecDepth 20000 in
theorem ggX4_seekAmounts_X4_addUp : GoodIn wsX4_seekAmounts wsX4_addUp := goodIn_r _ [6, 7, 8, 9, 10, 11, 12, 13, 14, 15, 16, 17, 18, 19, 28, 29, 30, 31, 32, 33, 34, 35, 36, 37, 38, 24, 25, 26, 27] rfl (by decide +kernel)
set_option maxRecDepth 20000 in
theorem gX4_seekAmounts_X4_addUp : GoodIn wsX4_seekAmounts (wsV RX4 29 RX4 yX4_addUp wsX4_addUp) := goodIn_app (goodIn_of _ (by decide +kernel)) ggX4_seekAmounts_X4_addUp
set_option maxRecDepth 20000 in
theorem ggX4_seekAmounts_X4_sumOf : GoodIn wsX4_seekAmounts wsX4_sumOf := goodIn_r _ [23, 8, 24, 25, 26, 27] rfl (by decide +kernel)
set_option maxRecDepth 20000 in
theorem gX4_seekAmounts_X4_sumOf : GoodIn wsX4_seekAmounts (wsV RX4 33 RX4 yX4_sumOf wsX4_sumOf) := goodIn_app (goodIn_of _ (by decide +kernel)) ggX4_seekAmounts_X4_sumOf
set_option maxRecDepth 20000 in
theorem ggX4_fewestFor_X4_addUp : GoodIn wsX4_fewestFor wsX4_addUp := goodIn_r _ [6, 1, 7, 8, 9, 10, 11, 12, 13, 14, 15, 16, 17, 18, 34, 35, 36, 37, 38, 39, 40, 41, 42, 43, 44, 45, 46, 47, 48] rfl (by decide +kernel)
set_option maxRecDepth 20000 in
theorem gX4_fewestFor_X4_addUp : GoodIn wsX4_fewestFor (wsV RX4 29 RX4 yX4_addUp wsX4_addUp) := goodIn_app (goodIn_of _ (by decide +kernel)) ggX4_fewestFor_X4_addUp
set_option maxRecDepth 20000 in
theorem ggX4_fewestFor_J6_bitCount_0f7a4 : GoodIn wsX4_fewestFor wsJ6_bitCount_0f7a4 := goodIn_r _ [22, 23, 24, 25] rfl (by decide +kernel)
set_option maxRecDepth 20000 in
theorem gX4_fewestFor_J6_bitCount_0f7a4 : GoodIn wsX4_fewestFor (va_wsS RX4 36 yJ6_bitCount_0f7a4 wsJ6_bitCount_0f7a4) := goodIn_app (goodIn_of _ (by decide +kernel)) ggX4_fewestFor_J6_bitCount_0f7a4
set_option maxRecDepth 20000 in
theorem ggX4_fewestFor_X4_makes : GoodIn wsX4_fewestFor wsX4_makes := goodIn_r _ [29, 30, 31, 32, 5, 33, 7, 45, 46, 47, 48] rfl (by decide +kernel)
set_option maxRecDepth 20000 in
theorem gX4_fewestFor_X4_makes : GoodIn wsX4_fewestFor (wsV RX4 41 RX4 yX4_makes wsX4_makes) := goodIn_app (goodIn_of _ (by decide +kernel)) ggX4_fewestFor_X4_makes
set_option maxRecDepth 20000 in
theorem ggX4_makes_X4_sumOf : GoodIn wsX4_makes wsX4_sumOf := goodIn_r _ [5, 6, 7, 8, 9, 10] rfl (by decide +kernel)
set_option maxRecDepth 20000 in
theorem gX4_makes_X4_sumOf : GoodIn wsX4_makes (wsV RX4 33 RX4 yX4_sumOf wsX4_sumOf) := goodIn_app (goodIn_of _ (by decide +kernel)) ggX4_makes_X4_sumOf
set_option maxRecDepth 20000 in
theorem ggX4_layLevel_X4_addUp : GoodIn wsX4_layLevel wsX4_addUp := goodIn_r _ [11, 12, 13, 14, 15, 16, 17, 18, 19, 20, 21, 22, 23, 24, 33, 34, 35, 36, 37, 38, 39, 40, 41, 42, 43, 29, 30, 31, 32] rfl (by decide +kernel)
set_option maxRecDepth 20000 in
theorem gX4_layLevel_X4_addUp : GoodIn wsX4_layLevel (wsV RX4 29 RX4 yX4_addUp wsX4_addUp) := goodIn_app (goodIn_of _ (by decide +kernel)) ggX4_layLevel_X4_addUp
set_option maxRecDepth 20000 in
theorem ggX4_layLevel_X4_sumOf : GoodIn wsX4_layLevel wsX4_sumOf := goodIn_r _ [28, 13, 29, 30, 31, 32] rfl (by decide +kernel)
set_option maxRecDepth 20000 in
theorem gX4_layLevel_X4_sumOf : GoodIn wsX4_layLevel (wsV RX4 33 RX4 yX4_sumOf wsX4_sumOf) := goodIn_app (goodIn_of _ (by decide +kernel)) ggX4_layLevel_X4_sumOf
set_option maxRecDepth 20000 in
theorem ggX4_shareBound_X4_givenBy : GoodIn wsX4_shareBound wsX4_givenBy := goodIn_r _ [4, 5, 6, 7, 8, 9, 10, 11, 12, 13, 14, 15, 16, 17, 18, 19, 20, 21, 22, 23, 24, 25, 26, 27, 28, 29, 30, 31] rfl (by decide +kernel)
set_option maxRecDepth 20000 in
theorem gX4_shareBound_X4_givenBy : GoodIn wsX4_shareBound (va_wsS RX4 56 yX4_givenBy wsX4_givenBy) := goodIn_app (goodIn_of _ (by decide +kernel)) ggX4_shareBound_X4_givenBy
set_option maxRecDepth 20000 in
theorem ggX4_givenBy_X6_weightOf : GoodIn wsX4_givenBy wsX6_weightOf := goodIn_r _ [10, 11, 12, 13, 14, 9, 15, 16, 17, 18, 19, 20, 21, 22, 23, 24, 25, 26, 27] rfl (by decide +kernel)
set_option maxRecDepth 20000 in
theorem gX4_givenBy_X6_weightOf : GoodIn wsX4_givenBy (wsV RX4 25 RX6 yX6_weightOf wsX6_weightOf) := goodIn_app (goodIn_of _ (by decide +kernel)) ggX4_givenBy_X6_weightOf
set_option maxRecDepth 20000 in
theorem ggX5_keep_X6_write : GoodIn wsX5_keep wsX6_write := goodIn_r _ [7, 8, 9, 10, 11, 12, 13, 14, 15, 16, 17, 18, 24, 25, 26, 27, 28, 29, 30, 31, 32, 33, 34] rfl (by decide +kernel)
set_option maxRecDepth 20000 in
theorem gX5_keep_X6_write : GoodIn wsX5_keep (wsV RX5 30 RX6 yX6_write wsX6_write) := goodIn_app (goodIn_of _ (by decide +kernel)) ggX5_keep_X6_write
set_option maxRecDepth 20000 in
theorem ggX5_takeBack_X6_read : GoodIn wsX5_takeBack wsX6_read := goodIn_r _ [7, 8, 9, 10, 11, 12, 13, 14, 15, 16, 17, 18, 24, 25, 26, 27, 28, 29, 30, 31, 32, 33, 34] rfl (by decide +kernel)
set_option maxRecDepth 20000 in
theorem gX5_takeBack_X6_read : GoodIn wsX5_takeBack (wsV RX5 34 RX6 yX6_read wsX6_read) := goodIn_app (goodIn_of _ (by decide +kernel)) ggX5_takeBack_X6_read
set_option maxRecDepth 20000 in
theorem ggX5_takeImage_X6_write : GoodIn wsX5_takeImage wsX6_write := goodIn_r _ [14, 15, 16, 5, 6, 7, 17, 18, 19, 20, 21, 22, 28, 29, 30, 31, 32, 33, 34, 35, 36, 37, 38] rfl (by decide +kernel)
set_option maxRecDepth 20000 in
theorem gX5_takeImage_X6_write : GoodIn wsX5_takeImage (wsV RX5 30 RX6 yX6_write wsX6_write) := goodIn_app (goodIn_of _ (by decide +kernel)) ggX5_takeImage_X6_write
set_option maxRecDepth 20000 in
theorem ggX5_goBackToImage_X6_read : GoodIn wsX5_goBackToImage wsX6_read := goodIn_r _ [14, 15, 16, 5, 6, 7, 17, 18, 19, 20, 21, 22, 28, 29, 30, 31, 32, 33, 34, 35, 36, 37, 38] rfl (by decide +kernel)
set_option maxRecDepth 20000 in
theorem gX5_goBackToImage_X6_read : GoodIn wsX5_goBackToImage (wsV RX5 34 RX6 yX6_read wsX6_read) := goodIn_app (goodIn_of _ (by decide +kernel)) ggX5_goBackToImage_X6_read
set_option maxRecDepth 20000 in
theorem ggX6_becomeEmpty_J7_fill_53178 : GoodIn wsX6_becomeEmpty wsJ7_fill_53178 := goodIn_r _ [13] rfl (by decide +kernel)
set_option maxRecDepth 20000 in
theorem gX6_becomeEmpty_J7_fill_53178 : GoodIn wsX6_becomeEmpty (va_wsS RX6 31 yJ7_fill_53178 wsJ7_fill_53178) := goodIn_app (goodIn_of _ (by decide +kernel)) ggX6_becomeEmpty_J7_fill_53178
set_option maxRecDepth 20000 in
theorem ggX6_readFrom_X6_becomeEmpty : GoodIn wsX6_readFrom wsX6_becomeEmpty := goodIn_r _ [5, 6, 7, 8, 9, 10, 11, 12, 13, 14, 15, 16, 17, 18, 148, 149, 150, 151, 152, 153, 154, 155, 156, 157, 158] rfl (by decide +kernel)
set_option maxRecDepth 20000 in
theorem gX6_readFrom_X6_becomeEmpty : GoodIn wsX6_readFrom (wsV RX6 58 RX6 yX6_becomeEmpty wsX6_becomeEmpty) := goodIn_app (goodIn_of _ (by decide +kernel)) ggX6_readFrom_X6_becomeEmpty
set_option maxRecDepth 20000 in
theorem ggX6_readFrom_X7_hasMore : GoodIn wsX6_readFrom wsX7_hasMore := goodIn_r _ [23, 24, 25, 26, 22, 27, 28, 29, 30, 31, 159, 160, 161, 162, 163, 164, 165, 166] rfl (by decide +kernel)
set_option maxRecDepth 20000 in
theorem gX6_readFrom_X7_hasMore : GoodIn wsX6_readFrom (wsV RX6 61 RX7 yX7_hasMore wsX7_hasMore) := goodIn_app (goodIn_of _ (by decide +kernel)) ggX6_readFrom_X7_hasMore
set_option maxRecDepth 20000 in
theorem ggX6_readFrom_X6_readClause : GoodIn wsX6_readFrom wsX6_readClause := goodIn_r _ [35, 9, 36, 10, 37, 38, 39, 22, 40, 28, 29, 31, 24, 25, 26, 27, 30, 41, 42, 43, 44, 45, 46, 47, 48, 49, 50, 51, 52, 53, 54, 55, 56, 57, 58, 59, 60, 61, 62, 63, 64, 65, 66, 67, 68, 69, 70, 71, 72, 73, 74, 75, 76, 77, 78, 79, 80, 81, 82, 83, 84, 85, 86, 87, 88, 89, 90, 91, 92, 93, 94, 95, 96, 97, 98, 99, 100, 101, 102, 103, 104, 105, 106, 107, 108, 109, 110, 4, 111, 6, 112, 7, 113, 114, 115, 116, 117, 118, 119, 120, 121, 122, 123, 124, 125, 126, 127, 128, 129, 130, 131, 132, 133, 134, 135, 136, 137, 138, 139, 140, 141, 142, 143, 11, 12, 148, 149, 150, 151, 152, 153, 154, 155, 156, 157, 158, 159, 160, 161, 162, 163, 164, 165, 166] rfl (by decide +kernel)
set_option maxRecDepth 20000 in
theorem gX6_readFrom_X6_readClause : GoodIn wsX6_readFrom (wsV RX6 67 RX6 yX6_readClause wsX6_readClause) := goodIn_app (goodIn_of _ (by decide +kernel)) ggX6_readFrom_X6_readClause
set_option maxRecDepth 20000 in
theorem ggX6_readFrom_X7_takeSign : GoodIn wsX6_readFrom wsX7_takeSign := goodIn_r _ [147, 31, 28, 24, 25, 26, 22, 27, 29, 30, 48, 49, 50, 51, 52, 53, 159, 160, 161, 162, 163, 164, 165, 166] rfl (by decide +kernel)
set_option maxRecDepth 20000 in
theorem gX6_readFrom_X7_takeSign : GoodIn wsX6_readFrom (wsV RX6 71 RX7 yX7_takeSign wsX7_takeSign) := goodIn_app (goodIn_of _ (by decide +kernel)) ggX6_readFrom_X7_takeSign
set_option maxRecDepth 20000 in
theorem ggX6_readClause_X7_takeWord : GoodIn wsX6_readClause wsX7_takeWord := goodIn_r _ [8, 9, 10, 11, 12, 13, 14, 7, 15, 16, 17, 18, 19, 20, 21, 22, 23, 24, 25, 26, 27, 28, 29, 136, 137, 138, 139, 140, 141, 142, 143] rfl (by decide +kernel)
set_option maxRecDepth 20000 in
theorem gX6_readClause_X7_takeWord : GoodIn wsX6_readClause (wsV RX6 75 RX7 yX7_takeWord wsX7_takeWord) := goodIn_app (goodIn_of _ (by decide +kernel)) ggX6_readClause_X7_takeWord
set_option maxRecDepth 20000 in
theorem ggX6_readClause_X7_wordIs : GoodIn wsX6_readClause wsX7_wordIs := goodIn_r _ [33, 9, 11, 34, 35, 36, 37, 38, 39, 40, 41, 42, 43, 44, 45, 17, 18, 19, 7, 20, 10, 16, 46, 47, 48, 49, 50, 51, 52, 53, 54, 55, 56, 57, 58, 59, 60, 61, 62, 63, 64, 65, 66, 67, 68, 69, 70, 71, 72, 73, 74, 75, 76, 77, 78, 79, 80, 81, 82, 136, 137, 138, 139, 140, 141, 142, 143] rfl (by decide +kernel)
set_option maxRecDepth 20000 in
theorem gX6_readClause_X7_wordIs : GoodIn wsX6_readClause (wsV RX6 80 RX7 yX7_wordIs wsX7_wordIs) := goodIn_app (goodIn_of _ (by decide +kernel)) ggX6_readClause_X7_wordIs
set_option maxRecDepth 20000 in
theorem ggX6_readClause_X7_fail : GoodIn wsX6_readClause wsX7_fail := goodIn_r _ [27, 28, 29, 136, 137, 138, 139, 140, 141, 142, 143] rfl (by decide +kernel)
set_option maxRecDepth 20000 in
theorem gX6_readClause_X7_fail : GoodIn wsX6_readClause (wsV RX6 87 RX7 yX7_fail wsX7_fail) := goodIn_app (goodIn_of _ (by decide +kernel)) ggX6_readClause_X7_fail
set_option maxRecDepth 20000 in
theorem ggX6_readClause_X6_readThing : GoodIn wsX6_readClause wsX6_readThing := goodIn_r _ [88, 1, 89, 90, 91, 92, 93, 94, 7, 95, 11, 96, 9, 10, 97, 98, 99, 100, 101, 12, 13, 14, 15, 16, 102, 103, 104, 24, 25, 26, 27, 28, 29, 17, 18, 19, 20, 125, 126, 127, 128, 129, 130, 131, 132, 133, 134, 135, 136, 137, 138, 139, 140, 141, 142, 143] rfl (by decide +kernel)
set_option maxRecDepth 20000 in
theorem gX6_readClause_X6_readThing : GoodIn wsX6_readClause (wsV RX6 91 RX6 yX6_readThing wsX6_readThing) := goodIn_app (goodIn_of _ (by decide +kernel)) ggX6_readClause_X6_readThing
set_option maxRecDepth 20000 in
theorem ggX6_readClause_X6_readCry : GoodIn wsX6_readClause wsX6_readCry := goodIn_r _ [108, 1, 90, 92, 93, 94, 7, 95, 11, 96, 9, 10, 97, 98, 99, 100, 101, 12, 13, 14, 15, 16, 102, 103, 104, 24, 25, 26, 27, 28, 29, 17, 18, 19, 20, 109, 110, 111, 112, 113, 114, 115, 116, 87, 117, 3, 118, 125, 126, 127, 128, 129, 130, 131, 132, 133, 134, 135, 136, 137, 138, 139, 140, 141, 142, 143] rfl (by decide +kernel)
set_option maxRecDepth 20000 in
theorem gX6_readClause_X6_readCry : GoodIn wsX6_readClause (wsV RX6 97 RX6 yX6_readCry wsX6_readCry) := goodIn_app (goodIn_of _ (by decide +kernel)) ggX6_readClause_X6_readCry
set_option maxRecDepth 20000 in
theorem ggX6_readClause_X6_readBeam : GoodIn wsX6_readClause wsX6_readBeam := goodIn_r _ [122, 90, 123, 124, 92, 93, 94, 7, 95, 11, 96, 9, 10, 97, 98, 99, 100, 101, 12, 13, 14, 15, 16, 102, 103, 104, 24, 25, 26, 27, 28, 29, 17, 18, 19, 20, 136, 137, 138, 139, 140, 141, 142, 143, 125, 126, 127, 128, 129, 130, 131, 132, 133, 134, 135] rfl (by decide +kernel)
set_option maxRecDepth 20000 in
theorem gX6_readClause_X6_readBeam : GoodIn wsX6_readClause (wsV RX6 102 RX6 yX6_readBeam wsX6_readBeam) := goodIn_app (goodIn_of _ (by decide +kernel)) ggX6_readClause_X6_readBeam
set_option maxRecDepth 20000 in
theorem ggX6_readThing_X7_takeNumber : GoodIn wsX6_readThing wsX7_takeNumber := goodIn_r _ [9, 10, 11, 12, 13, 14, 15, 16, 17, 18, 19, 20, 21, 8, 22, 23, 24, 25, 26, 27, 28, 29, 30, 31, 32, 33, 34, 35, 36, 48, 49, 50, 51, 52, 53, 54, 55] rfl (by decide +kernel)
set_option maxRecDepth 20000 in
theorem gX6_readThing_X7_takeNumber : GoodIn wsX6_readThing (wsV RX6 105 RX7 yX7_takeNumber wsX7_takeNumber) := goodIn_app (goodIn_of _ (by decide +kernel)) ggX6_readThing_X7_takeNumber
set_option maxRecDepth 20000 in
theorem ggX6_readCry_X7_takeNumber : GoodIn wsX6_readCry wsX7_takeNumber := goodIn_r _ [7, 8, 9, 10, 11, 12, 13, 14, 15, 16, 17, 18, 19, 6, 20, 21, 22, 23, 24, 25, 26, 27, 28, 29, 30, 31, 32, 33, 34, 58, 59, 60, 61, 62, 63, 64, 65] rfl (by decide +kernel)
set_option maxRecDepth 20000 in
theorem gX6_readCry_X7_takeNumber : GoodIn wsX6_readCry (wsV RX6 105 RX7 yX7_takeNumber wsX7_takeNumber) := goodIn_app (goodIn_of _ (by decide +kernel)) ggX6_readCry_X7_takeNumber
set_option maxRecDepth 20000 in
theorem ggX6_readCry_X7_takeOther : GoodIn wsX6_readCry wsX7_takeOther := goodIn_r _ [38, 9, 8, 39, 4, 5, 6, 7, 10, 11, 12, 13, 14, 15, 16, 17, 18, 19, 20, 21, 22, 23, 24, 25, 26, 27, 28, 29, 30, 31, 32, 33, 34, 58, 59, 60, 61, 62, 63, 64, 65] rfl (by decide +kernel)
set_option maxRecDepth 20000 in
theorem gX6_readCry_X7_takeOther : GoodIn wsX6_readCry (wsV RX6 111 RX7 yX7_takeOther wsX7_takeOther) := goodIn_app (goodIn_of _ (by decide +kernel)) ggX6_readCry_X7_takeOther
set_option maxRecDepth 20000 in
theorem ggX6_readCry_X6_addCry : GoodIn wsX6_readCry wsX6_addCry := goodIn_r _ [44, 45, 46, 47, 48, 49, 50, 51, 52, 53, 54, 55, 56, 57] rfl (by decide +kernel)
set_option maxRecDepth 20000 in
theorem gX6_readCry_X6_addCry : GoodIn wsX6_readCry (wsV RX6 114 RX6 yX6_addCry wsX6_addCry) := goodIn_app (goodIn_of _ (by decide +kernel)) ggX6_readCry_X6_addCry
set_option maxRecDepth 20000 in
theorem ggX6_readBeam_X7_takeNumber : GoodIn wsX6_readBeam wsX7_takeNumber := goodIn_r _ [8, 9, 10, 11, 12, 13, 14, 15, 16, 17, 18, 19, 20, 7, 21, 22, 23, 24, 25, 26, 27, 28, 29, 30, 31, 32, 33, 34, 35, 36, 37, 38, 39, 40, 41, 42, 43] rfl (by decide +kernel)
set_option maxRecDepth 20000 in
theorem gX6_readBeam_X7_takeNumber : GoodIn wsX6_readBeam (wsV RX6 105 RX7 yX7_takeNumber wsX7_takeNumber) := goodIn_app (goodIn_of _ (by decide +kernel)) ggX6_readBeam_X7_takeNumber
set_option maxRecDepth 20000 in
theorem ggX6_weightOf_X6_isThing : GoodIn wsX6_weightOf wsX6_isThing := goodIn_r _ [6, 7, 8, 9, 10, 11, 12, 13, 14, 15, 16, 17, 18] rfl (by decide +kernel)
set_option maxRecDepth 20000 in
theorem gX6_weightOf_X6_isThing : GoodIn wsX6_weightOf (wsV RX6 118 RX6 yX6_isThing wsX6_isThing) := goodIn_app (goodIn_of _ (by decide +kernel)) ggX6_weightOf_X6_isThing
set_option maxRecDepth 20000 in
theorem ggX6_toldOf_X6_isThing : GoodIn wsX6_toldOf wsX6_isThing := goodIn_r _ [6, 7, 8, 9, 10, 11, 12, 13, 14, 15, 16, 17, 18] rfl (by decide +kernel)
set_option maxRecDepth 20000 in
theorem gX6_toldOf_X6_isThing : GoodIn wsX6_toldOf (wsV RX6 118 RX6 yX6_isThing wsX6_isThing) := goodIn_app (goodIn_of _ (by decide +kernel)) ggX6_toldOf_X6_isThing
set_option maxRecDepth 20000 in
theorem ggX6_weighedOf_X6_isThing : GoodIn wsX6_weighedOf wsX6_isThing := goodIn_r _ [6, 7, 8, 9, 10, 11, 12, 13, 14, 15, 16, 17, 18] rfl (by decide +kernel)
set_option maxRecDepth 20000 in
theorem gX6_weighedOf_X6_isThing : GoodIn wsX6_weighedOf (wsV RX6 118 RX6 yX6_isThing wsX6_isThing) := goodIn_app (goodIn_of _ (by decide +kernel)) ggX6_weighedOf_X6_isThing
set_option maxRecDepth 20000 in
theorem ggX6_weightOfAll_X6_weightOf : GoodIn wsX6_weightOfAll wsX6_weightOf := goodIn_r _ [6, 7, 8, 9, 10, 5, 11, 1, 12, 13, 14, 15, 16, 17, 18, 19, 20, 21, 22] rfl (by decide +kernel)
set_option maxRecDepth 20000 in
theorem gX6_weightOfAll_X6_weightOf : GoodIn wsX6_weightOfAll (wsV RX6 121 RX6 yX6_weightOf wsX6_weightOf) := goodIn_app (goodIn_of _ (by decide +kernel)) ggX6_weightOfAll_X6_weightOf
set_option maxRecDepth 20000 in
theorem ggX6_heaviestThing_X6_weightOf : GoodIn wsX6_heaviestThing wsX6_weightOf := goodIn_r _ [6, 7, 8, 9, 10, 5, 11, 1, 12, 13, 14, 15, 16, 17, 18, 19, 20, 21, 22] rfl (by decide +kernel)
set_option maxRecDepth 20000 in
theorem gX6_heaviestThing_X6_weightOf : GoodIn wsX6_heaviestThing (wsV RX6 121 RX6 yX6_weightOf wsX6_weightOf) := goodIn_app (goodIn_of _ (by decide +kernel)) ggX6_heaviestThing_X6_weightOf
set_option maxRecDepth 20000 in
theorem ggX6_criesNotSo_X6_cryPart : GoodIn wsX6_criesNotSo wsX6_cryPart := goodIn_r _ [6, 1, 7, 18, 19, 20, 21, 22, 23, 24, 25, 26, 27, 28] rfl (by decide +kernel)
set_option maxRecDepth 20000 in
theorem gX6_criesNotSo_X6_cryPart : GoodIn wsX6_criesNotSo (wsV RX6 125 RX6 yX6_cryPart wsX6_cryPart) := goodIn_app (goodIn_of _ (by decide +kernel)) ggX6_criesNotSo_X6_cryPart
