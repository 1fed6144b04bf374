set_option maxRecDepth 20000 in
theorem ggX9_thing_X6_toldOf : GoodIn wsX9_thing wsX6_toldOf := goodIn_r _ [37, 38, 33, 9, 10, 11, 12, 13, 95, 96, 97, 98, 99, 100, 101, 102, 103, 104, 105] rfl (by decide +kernel)
set_option maxRecDepth 20000 in
theorem gX9_thing_X6_toldOf : GoodIn wsX9_thing (wsV RX9 181 RX6 yX6_toldOf wsX6_toldOf) := goodIn_app (goodIn_of _ (by decide +kernel)) ggX9_thing_X6_toldOf
set_option maxRecDepth 20000 in
theorem ggX9_thing_X6_weighedOf : GoodIn wsX9_thing wsX6_weighedOf := goodIn_r _ [42, 43, 33, 9, 10, 11, 12, 13, 95, 96, 97, 98, 99, 100, 101, 102, 103, 104, 105] rfl (by decide +kernel)
set_option maxRecDepth 20000 in
theorem gX9_thing_X6_weighedOf : GoodIn wsX9_thing (wsV RX9 184 RX6 yX6_weighedOf wsX6_weighedOf) := goodIn_app (goodIn_of _ (by decide +kernel)) ggX9_thing_X6_weighedOf
set_option maxRecDepth 20000 in
theorem ggX9_thing_X6_criesWith : GoodIn wsX9_thing wsX6_criesWith := goodIn_r _ [47, 48, 49, 95, 96, 97, 98, 99, 100, 101, 102, 103, 104, 105] rfl (by decide +kernel)
set_option maxRecDepth 20000 in
theorem gX9_thing_X6_criesWith : GoodIn wsX9_thing (wsV RX9 187 RX6 yX6_criesWith wsX6_criesWith) := goodIn_app (goodIn_of _ (by decide +kernel)) ggX9_thing_X6_criesWith
set_option maxRecDepth 20000 in
theorem ggX9_thing_X6_wearOf : GoodIn wsX9_thing wsX6_wearOf := goodIn_r _ [53, 54, 55, 56, 57, 45, 46, 11, 47, 48, 49, 58, 59, 60, 61, 62, 63, 64, 65, 29, 30, 31, 32, 33, 9, 10, 12, 13, 66, 40, 41, 42, 43, 67, 68, 69, 70, 71, 72, 73, 74, 75, 76, 77, 78, 79, 95, 96, 97, 98, 99, 100, 101, 102, 103, 104, 105, 106, 107, 108, 109, 110] rfl (by decide +kernel)
set_option maxRecDepth 20000 in
theorem gX9_thing_X6_wearOf : GoodIn wsX9_thing (wsV RX9 190 RX6 yX6_wearOf wsX6_wearOf) := goodIn_app (goodIn_of _ (by decide +kernel)) ggX9_thing_X6_wearOf
set_option maxRecDepth 20000 in
theorem ggX9_cry_X9_demandPresent : GoodIn wsX9_cry wsX9_demandPresent := goodIn_ca (goodIn_r _ [7, 8, 9, 10, 25, 26, 27, 28, 29, 30, 31, 32, 33, 34, 35, 36, 37, 38, 39] rfl (by decide +kernel)) (goodIn_sub (fun _ h => List.mem_cons_of_mem _ (List.mem_append_left _ (List.mem_append_right _ h))) (by decide +kernel))
set_option maxRecDepth 20000 in
theorem gX9_cry_X9_demandPresent : GoodIn wsX9_cry (wsV RX9 194 RX9 yX9_demandPresent wsX9_demandPresent) := goodIn_app (goodIn_of _ (by decide +kernel)) ggX9_cry_X9_demandPresent
set_option maxRecDepth 20000 in
theorem ggX9_cry_X9_demand : GoodIn wsX9_cry wsX9_demand := goodIn_ca (goodIn_r _ [14, 15, 16, 17, 25, 26, 27, 28, 29, 30, 31, 32, 33, 34, 35, 36, 37, 38, 39] rfl (by decide +kernel)) (goodIn_sub (fun _ h => List.mem_cons_of_mem _ (List.mem_append_right _ h)) (by decide +kernel))
set_option maxRecDepth 20000 in
theorem gX9_cry_X9_demand : GoodIn wsX9_cry (wsV RX9 89 RX9 yX9_demand wsX9_demand) := goodIn_app (goodIn_of _ (by decide +kernel)) ggX9_cry_X9_demand
set_option maxRecDepth 20000 in
theorem ggX9_cry_X6_cryPart : GoodIn wsX9_cry wsX6_cryPart := goodIn_r _ [22, 23, 24, 40, 41, 42, 43, 44, 45, 46, 47, 48, 49, 50] rfl (by decide +kernel)
set_option maxRecDepth 20000 in
theorem gX9_cry_X6_cryPart : GoodIn wsX9_cry (wsV RX9 197 RX6 yX6_cryPart wsX6_cryPart) := goodIn_app (goodIn_of _ (by decide +kernel)) ggX9_cry_X6_cryPart
set_option maxRecDepth 20000 in
theorem ggX9_stands_X9_demandThing : GoodIn wsX9_stands wsX9_demandThing := goodIn_ca (goodIn_r _ [6, 1, 7, 8, 9, 10, 11, 12, 13, 14, 15, 5, 16, 17, 18, 19, 42, 43, 44, 45, 46, 47, 48, 49, 50, 51, 52, 53, 54, 55, 56, 57, 58, 59, 60, 61, 62, 63, 64, 65, 66, 67] rfl (by decide +kernel)) (goodIn_sub (fun _ h => List.mem_cons_of_mem _ (List.mem_append_left _ (List.mem_append_right _ h))) (by decide +kernel))
set_option maxRecDepth 20000 in
theorem gX9_stands_X9_demandThing : GoodIn wsX9_stands (wsV RX9 174 RX9 yX9_demandThing wsX9_demandThing) := goodIn_app (goodIn_of _ (by decide +kernel)) ggX9_stands_X9_demandThing
set_option maxRecDepth 20000 in
theorem ggX9_stands_X9_demand : GoodIn wsX9_stands wsX9_demand := goodIn_ca (goodIn_r _ [23, 24, 25, 26, 42, 43, 44, 45, 46, 47, 48, 49, 50, 51, 52, 53, 54, 55, 56] rfl (by decide +kernel)) (goodIn_sub (fun _ h => List.mem_cons_of_mem _ (List.mem_append_right _ h)) (by decide +kernel))
set_option maxRecDepth 20000 in
theorem gX9_stands_X9_demand : GoodIn wsX9_stands (wsV RX9 89 RX9 yX9_demand wsX9_demand) := goodIn_app (goodIn_of _ (by decide +kernel)) ggX9_stands_X9_demand
set_option maxRecDepth 20000 in
theorem ggX9_stands_X6_standingOf : GoodIn wsX9_stands wsX6_standingOf := goodIn_r _ [30, 31, 32, 33, 34, 35, 10, 36, 37, 38, 8, 9, 11, 12, 39, 40, 41, 57, 58, 59, 60, 61, 62, 63, 64, 65, 66, 67] rfl (by decide +kernel)
set_option maxRecDepth 20000 in
theorem gX9_stands_X6_standingOf : GoodIn wsX9_stands (wsV RX9 201 RX6 yX6_standingOf wsX6_standingOf) := goodIn_app (goodIn_of _ (by decide +kernel)) ggX9_stands_X6_standingOf
set_option maxRecDepth 20000 in
theorem ggX9_would_X9_demand : GoodIn wsX9_would wsX9_demand := goodIn_ca (goodIn_r _ [6, 7, 8, 9, 23, 24, 25, 26, 27, 28, 29, 30, 31, 32, 33, 34, 35, 36, 37] rfl (by decide +kernel)) (goodIn_sub (fun _ h => List.mem_cons_of_mem _ (List.mem_append_right _ h)) (by decide +kernel))
set_option maxRecDepth 20000 in
theorem gX9_would_X9_demand : GoodIn wsX9_would (wsV RX9 89 RX9 yX9_demand wsX9_demand) := goodIn_app (goodIn_of _ (by decide +kernel)) ggX9_would_X9_demand
set_option maxRecDepth 20000 in
theorem ggX9_would_X3_wear : GoodIn wsX9_would wsX3_wear := goodIn_r _ [14, 15, 16, 17, 18, 19, 20, 21, 13, 22, 38, 39, 40, 41, 42] rfl (by decide +kernel)
set_option maxRecDepth 20000 in
theorem gX9_would_X3_wear : GoodIn wsX9_would (wsV RX9 205 RX3 yX3_wear wsX3_wear) := goodIn_app (goodIn_of _ (by decide +kernel)) ggX9_would_X3_wear
set_option maxRecDepth 20000 in
theorem ggX9_ahead_X9_demand : GoodIn wsX9_ahead wsX9_demand := goodIn_ca (goodIn_r _ [8, 9, 10, 11, 96, 97, 98, 99, 100, 101, 102, 103, 104, 105, 106, 107, 108, 109, 110] rfl (by decide +kernel)) (goodIn_sub (fun _ h => List.mem_cons_of_mem _ (List.mem_append_right _ h)) (by decide +kernel))
set_option maxRecDepth 20000 in
theorem gX9_ahead_X9_demand : GoodIn wsX9_ahead (wsV RX9 89 RX9 yX9_demand wsX9_demand) := goodIn_app (goodIn_of _ (by decide +kernel)) ggX9_ahead_X9_demand
set_option maxRecDepth 20000 in
theorem ggX9_ahead_X6_copyFrom : GoodIn wsX9_ahead wsX6_copyFrom := goodIn_r _ [16, 17, 18, 19, 20, 21, 22, 23, 24, 25, 26, 27, 28, 29, 30, 111, 112, 113, 114, 115, 116, 117, 118, 119, 120, 121] rfl (by decide +kernel)
set_option maxRecDepth 20000 in
theorem gX9_ahead_X6_copyFrom : GoodIn wsX9_ahead (wsV RX9 103 RX6 yX6_copyFrom wsX6_copyFrom) := goodIn_app (goodIn_of _ (by decide +kernel)) ggX9_ahead_X6_copyFrom
set_option maxRecDepth 20000 in
theorem ggX9_ahead_X6_passDay : GoodIn wsX9_ahead wsX6_passDay := goodIn_r _ [34, 25, 35, 22, 36, 37, 38, 39, 29, 40, 41, 42, 15, 43, 27, 28, 44, 45, 46, 47, 26, 24, 48, 49, 50, 51, 52, 53, 54, 55, 56, 57, 58, 59, 60, 61, 62, 63, 64, 65, 66, 23, 67, 68, 69, 70, 71, 72, 73, 74, 75, 76, 77, 78, 79, 111, 112, 113, 114, 115, 116, 117, 118, 119, 120, 121, 122, 123, 124, 125, 126] rfl (by decide +kernel)
set_option maxRecDepth 20000 in
theorem gX9_ahead_X6_passDay : GoodIn wsX9_ahead (wsV RX9 209 RX6 yX6_passDay wsX6_passDay) := goodIn_app (goodIn_of _ (by decide +kernel)) ggX9_ahead_X6_passDay
set_option maxRecDepth 20000 in
theorem ggX9_ahead_X6_weightOfAll : GoodIn wsX9_ahead wsX6_weightOfAll := goodIn_r _ [83, 25, 55, 56, 57, 15, 58, 22, 59, 60, 61, 62, 111, 112, 113, 114, 115, 116, 117, 118, 119, 120, 121] rfl (by decide +kernel)
set_option maxRecDepth 20000 in
theorem gX9_ahead_X6_weightOfAll : GoodIn wsX9_ahead (wsV RX9 161 RX6 yX6_weightOfAll wsX6_weightOfAll) := goodIn_app (goodIn_of _ (by decide +kernel)) ggX9_ahead_X6_weightOfAll
set_option maxRecDepth 20000 in
theorem ggX9_ahead_X6_heaviestThing : GoodIn wsX9_ahead wsX6_heaviestThing := goodIn_r _ [87, 25, 55, 56, 57, 15, 58, 22, 59, 60, 61, 62, 111, 112, 113, 114, 115, 116, 117, 118, 119, 120, 121] rfl (by decide +kernel)
set_option maxRecDepth 20000 in
theorem gX9_ahead_X6_heaviestThing : GoodIn wsX9_ahead (wsV RX9 213 RX6 yX6_heaviestThing wsX6_heaviestThing) := goodIn_app (goodIn_of _ (by decide +kernel)) ggX9_ahead_X6_heaviestThing
set_option maxRecDepth 20000 in
theorem ggX9_ahead_X6_criesNotSo : GoodIn wsX9_ahead wsX6_criesNotSo := goodIn_r _ [91, 26, 92, 93, 94, 15, 95, 24, 55, 56, 57, 58, 22, 59, 60, 61, 62, 25, 111, 112, 113, 114, 115, 116, 117, 118, 119, 120, 121] rfl (by decide +kernel)
set_option maxRecDepth 20000 in
theorem gX9_ahead_X6_criesNotSo : GoodIn wsX9_ahead (wsV RX9 165 RX6 yX6_criesNotSo wsX6_criesNotSo) := goodIn_app (goodIn_of _ (by decide +kernel)) ggX9_ahead_X6_criesNotSo
set_option maxRecDepth 20000 in
theorem ggX9_worth_X9_demandThing : GoodIn wsX9_worth wsX9_demandThing := goodIn_ca (goodIn_r _ [7, 2, 8, 9, 10, 11, 12, 13, 14, 15, 16, 6, 17, 18, 19, 20, 78, 79, 80, 81, 82, 83, 84, 85, 86, 87, 88, 89, 90, 91, 92, 93, 94, 95, 96, 97, 98, 99, 100, 101, 102, 103] rfl (by decide +kernel)) (goodIn_sub (fun _ h => List.mem_cons_of_mem _ (List.mem_append_left _ (List.mem_append_right _ h))) (by decide +kernel))
set_option maxRecDepth 20000 in
theorem gX9_worth_X9_demandThing : GoodIn wsX9_worth (wsV RX9 174 RX9 yX9_demandThing wsX9_demandThing) := goodIn_app (goodIn_of _ (by decide +kernel)) ggX9_worth_X9_demandThing
set_option maxRecDepth 20000 in
theorem ggX9_worth_X9_isPart : GoodIn wsX9_worth wsX9_isPart := goodIn_r _ [23] rfl (by decide +kernel)
set_option maxRecDepth 20000 in
theorem gX9_worth_X9_isPart : GoodIn wsX9_worth (va_wsS RX9 216 yX9_isPart wsX9_isPart) := goodIn_app (goodIn_of _ (by decide +kernel)) ggX9_worth_X9_isPart
set_option maxRecDepth 20000 in
theorem ggX9_worth_X9_demand : GoodIn wsX9_worth wsX9_demand := goodIn_ca (goodIn_r _ [27, 28, 29, 30, 78, 79, 80, 81, 82, 83, 84, 85, 86, 87, 88, 89, 90, 91, 92] rfl (by decide +kernel)) (goodIn_sub (fun _ h => List.mem_cons_of_mem _ (List.mem_append_right _ h)) (by decide +kernel))
set_option maxRecDepth 20000 in
theorem gX9_worth_X9_demand : GoodIn wsX9_worth (wsV RX9 89 RX9 yX9_demand wsX9_demand) := goodIn_app (goodIn_of _ (by decide +kernel)) ggX9_worth_X9_demand
set_option maxRecDepth 20000 in
theorem ggX9_worth_X1_seekChain : GoodIn wsX9_worth wsX1_seekChain := goodIn_r _ [35, 36, 37, 38, 39, 34, 40, 41, 42, 43, 44, 45, 46, 47, 48, 49, 50, 51, 52, 11, 53, 54, 55, 56, 57, 58, 59, 60, 61, 62, 63, 64, 65, 66, 67, 68, 69, 70, 71, 104, 105, 106, 107, 108, 109, 93, 94, 95, 96, 97, 98, 99, 100, 101, 102, 103] rfl (by decide +kernel)
set_option maxRecDepth 20000 in
theorem gX9_worth_X1_seekChain : GoodIn wsX9_worth (wsV RX9 220 RX1 yX1_seekChain wsX1_seekChain) := goodIn_app (goodIn_of _ (by decide +kernel)) ggX9_worth_X1_seekChain
set_option maxRecDepth 20000 in
theorem ggX9_worth_X1_bestPart : GoodIn wsX9_worth wsX1_bestPart := goodIn_r _ [75, 43, 44, 76, 6, 77, 104, 105, 106, 107, 108, 109] rfl (by decide +kernel)
set_option maxRecDepth 20000 in
theorem gX9_worth_X1_bestPart : GoodIn wsX9_worth (wsV RX9 224 RX1 yX1_bestPart wsX1_bestPart) := goodIn_app (goodIn_of _ (by decide +kernel)) ggX9_worth_X1_bestPart
set_option maxRecDepth 20000 in
theorem ggX9_fattest_X9_isPart : GoodIn wsX9_fattest wsX9_isPart := goodIn_r _ [6] rfl (by decide +kernel)
set_option maxRecDepth 20000 in
theorem gX9_fattest_X9_isPart : GoodIn wsX9_fattest (va_wsS RX9 216 yX9_isPart wsX9_isPart) := goodIn_app (goodIn_of _ (by decide +kernel)) ggX9_fattest_X9_isPart
set_option maxRecDepth 20000 in
theorem ggX9_fattest_X9_demand : GoodIn wsX9_fattest wsX9_demand := goodIn_ca (goodIn_r _ [10, 11, 12, 13, 63, 64, 65, 66, 67, 68, 69, 70, 71, 72, 73, 74, 75, 76, 77] rfl (by decide +kernel)) (goodIn_sub (fun _ h => List.mem_cons_of_mem _ (List.mem_append_right _ h)) (by decide +kernel))
set_option maxRecDepth 20000 in
theorem gX9_fattest_X9_demand : GoodIn wsX9_fattest (wsV RX9 89 RX9 yX9_demand wsX9_demand) := goodIn_app (goodIn_of _ (by decide +kernel)) ggX9_fattest_X9_demand
set_option maxRecDepth 20000 in
theorem ggX9_fattest_X1_seekRings : GoodIn wsX9_fattest wsX1_seekRings := goodIn_r _ [18, 19, 20, 21, 22, 23, 17, 24, 25, 26, 27, 28, 29, 30, 31, 32, 33, 34, 35, 36, 37, 38, 39, 40, 41, 42, 43, 44, 45, 46, 47, 48, 49, 50, 51, 52, 53, 54, 55, 56, 78, 79, 80, 81, 82, 83, 84, 85, 86, 87, 88, 89, 90, 91, 92, 93, 94] rfl (by decide +kernel)
set_option maxRecDepth 20000 in
theorem gX9_fattest_X1_seekRings : GoodIn wsX9_fattest (wsV RX9 228 RX1 yX1_seekRings wsX1_seekRings) := goodIn_app (goodIn_of _ (by decide +kernel)) ggX9_fattest_X1_seekRings
set_option maxRecDepth 20000 in
theorem ggX9_fattest_X1_bestPart : GoodIn wsX9_fattest wsX1_bestPart := goodIn_r _ [60, 27, 28, 61, 5, 62, 89, 90, 91, 92, 93, 94] rfl (by decide +kernel)
set_option maxRecDepth 20000 in
theorem gX9_fattest_X1_bestPart : GoodIn wsX9_fattest (wsV RX9 224 RX1 yX1_bestPart wsX1_bestPart) := goodIn_app (goodIn_of _ (by decide +kernel)) ggX9_fattest_X1_bestPart
set_option maxRecDepth 20000 in
theorem ggX9_fat_X1_seekRings : GoodIn wsX9_fat wsX1_seekRings := goodIn_r _ [8, 9, 10, 11, 12, 13, 7, 14, 15, 16, 17, 18, 19, 20, 21, 22, 23, 24, 25, 26, 27, 28, 29, 30, 31, 32, 33, 34, 35, 36, 37, 38, 39, 40, 41, 42, 43, 44, 45, 46, 68, 69, 70, 71, 72, 73, 74, 75, 76, 77, 78, 62, 63, 64, 65, 66, 67] rfl (by decide +kernel)
set_option maxRecDepth 20000 in
theorem gX9_fat_X1_seekRings : GoodIn wsX9_fat (wsV RX9 228 RX1 yX1_seekRings wsX1_seekRings) := goodIn_app (goodIn_of _ (by decide +kernel)) ggX9_fat_X1_seekRings
set_option maxRecDepth 20000 in
theorem ggX9_mend_X1_seekRings : GoodIn wsX9_mend wsX1_seekRings := goodIn_r _ [8, 9, 10, 11, 12, 13, 7, 14, 15, 16, 17, 18, 19, 20, 21, 22, 23, 24, 25, 26, 27, 28, 29, 30, 31, 32, 33, 34, 35, 36, 37, 38, 39, 40, 41, 42, 43, 44, 45, 46, 70, 71, 72, 73, 74, 75, 76, 77, 78, 79, 80, 81, 82, 83, 84, 85, 86] rfl (by decide +kernel)
set_option maxRecDepth 20000 in
theorem gX9_mend_X1_seekRings : GoodIn wsX9_mend (wsV RX9 228 RX1 yX1_seekRings wsX1_seekRings) := goodIn_app (goodIn_of _ (by decide +kernel)) ggX9_mend_X1_seekRings
set_option maxRecDepth 20000 in
theorem ggX9_mend_X1_fewestGone : GoodIn wsX9_mend wsX1_fewestGone := goodIn_r _ [50, 40, 41, 42, 43, 44, 45, 46, 51, 52, 53, 7, 54, 15, 35, 81, 82, 83, 84, 85, 86] rfl (by decide +kernel)
set_option maxRecDepth 20000 in
theorem gX9_mend_X1_fewestGone : GoodIn wsX9_mend (wsV RX9 234 RX1 yX1_fewestGone wsX1_fewestGone) := goodIn_app (goodIn_of _ (by decide +kernel)) ggX9_mend_X1_fewestGone
set_option maxRecDepth 20000 in
theorem ggX9_match_X9_demandBits : GoodIn wsX9_match wsX9_demandBits := goodIn_ca (goodIn_r _ [7, 2, 8, 9, 10, 11, 6, 12, 13, 14, 15, 51, 52, 53, 54, 55, 56, 57, 58, 59, 60, 61, 62, 63, 64, 65, 66, 67, 68, 69, 70, 71, 72, 73, 74, 75, 76] rfl (by decide +kernel)) (goodIn_sub (fun _ h => List.mem_cons_of_mem _ (List.mem_append_right _ h)) (by decide +kernel))
set_option maxRecDepth 20000 in
theorem gX9_match_X9_demandBits : GoodIn wsX9_match (wsV RX9 237 RX9 yX9_demandBits wsX9_demandBits) := goodIn_app (goodIn_of _ (by decide +kernel)) ggX9_match_X9_demandBits
set_option maxRecDepth 20000 in
theorem ggX9_match_X9_demand : GoodIn wsX9_match wsX9_demand := goodIn_ca (goodIn_r _ [12, 13, 14, 15, 51, 52, 53, 54, 55, 56, 57, 58, 59, 60, 61, 62, 63, 64, 65] rfl (by decide +kernel)) (goodIn_sub (fun _ h => List.mem_cons_of_mem _ (List.mem_append_right _ h)) (by decide +kernel))
set_option maxRecDepth 20000 in
theorem gX9_match_X9_demand : GoodIn wsX9_match (wsV RX9 89 RX9 yX9_demand wsX9_demand) := goodIn_app (goodIn_of _ (by decide +kernel)) ggX9_match_X9_demand
set_option maxRecDepth 20000 in
theorem ggX9_match_X4_seekAmounts : GoodIn wsX9_match wsX4_seekAmounts := goodIn_r _ [20, 21, 22, 23, 24, 19, 25, 26, 27, 28, 29, 30, 31, 32, 33, 34, 35, 36, 37, 38, 39, 40, 41, 42, 77, 78, 79, 80, 66, 67, 68, 69, 70, 71, 72, 73, 74, 75, 76] rfl (by decide +kernel)
set_option maxRecDepth 20000 in
theorem gX9_match_X4_seekAmounts : GoodIn wsX9_match (wsV RX9 240 RX4 yX4_seekAmounts wsX4_seekAmounts) := goodIn_app (goodIn_of _ (by decide +kernel)) ggX9_match_X4_seekAmounts
set_option maxRecDepth 20000 in
theorem ggX9_match_X4_amounts : GoodIn wsX9_match wsX4_amounts := goodIn_r _ [46, 21, 77, 78, 79, 80] rfl (by decide +kernel)
set_option maxRecDepth 20000 in
theorem gX9_match_X4_amounts : GoodIn wsX9_match (wsV RX9 244 RX4 yX4_amounts wsX4_amounts) := goodIn_app (goodIn_of _ (by decide +kernel)) ggX9_match_X4_amounts
set_option maxRecDepth 20000 in
theorem ggX9_match_X4_gap : GoodIn wsX9_match wsX4_gap := goodIn_r _ [50, 21, 77, 78, 79, 80] rfl (by decide +kernel)
set_option maxRecDepth 20000 in
theorem gX9_match_X4_gap : GoodIn wsX9_match (wsV RX9 247 RX4 yX4_gap wsX4_gap) := goodIn_app (goodIn_of _ (by decide +kernel)) ggX9_match_X4_gap
set_option maxRecDepth 20000 in
theorem ggX9_fewest_X9_demand : GoodIn wsX9_fewest wsX9_demand := goodIn_ca (goodIn_r _ [7, 8, 9, 10, 48, 49, 50, 51, 52, 53, 54, 55, 56, 57, 58, 59, 60, 61, 62] rfl (by decide +kernel)) (goodIn_sub (fun _ h => List.mem_cons_of_mem _ (List.mem_append_right _ h)) (by decide +kernel))
set_option maxRecDepth 20000 in
theorem gX9_fewest_X9_demand : GoodIn wsX9_fewest (wsV RX9 89 RX9 yX9_demand wsX9_demand) := goodIn_app (goodIn_of _ (by decide +kernel)) ggX9_fewest_X9_demand
set_option maxRecDepth 20000 in
theorem ggX9_fewest_X4_fewestFor : GoodIn wsX9_fewest wsX4_fewestFor := goodIn_r _ [15, 16, 17, 18, 19, 14, 20, 21, 22, 23, 24, 25, 26, 27, 28, 29, 30, 31, 32, 33, 34, 35, 36, 37, 38, 39, 40, 41, 42, 43, 44, 45, 46, 47, 63, 64, 65, 66, 67, 68, 69, 70, 71, 72, 73, 74, 75, 76, 77] rfl (by decide +kernel)
set_option maxRecDepth 20000 in
theorem gX9_fewest_X4_fewestFor : GoodIn wsX9_fewest (wsV RX9 250 RX4 yX4_fewestFor wsX4_fewestFor) := goodIn_app (goodIn_of _ (by decide +kernel)) ggX9_fewest_X4_fewestFor
set_option maxRecDepth 20000 in
theorem ggX9_level_X9_demandBits : GoodIn wsX9_level wsX9_demandBits := goodIn_ca (goodIn_r _ [9, 2, 10, 11, 12, 13, 8, 14, 15, 16, 17, 50, 51, 52, 53, 54, 55, 56, 57, 58, 59, 60, 61, 62, 63, 64, 69, 70, 71, 72, 73, 74, 75, 76, 77, 78, 79] rfl (by decide +kernel)) (goodIn_sub (fun _ h => List.mem_cons_of_mem _ (List.mem_append_right _ h)) (by decide +kernel))
set_option maxRecDepth 20000 in
theorem gX9_level_X9_demandBits : GoodIn wsX9_level (wsV RX9 237 RX9 yX9_demandBits wsX9_demandBits) := goodIn_app (goodIn_of _ (by decide +kernel)) ggX9_level_X9_demandBits
set_option maxRecDepth 20000 in
theorem ggX9_level_X9_demand : GoodIn wsX9_level wsX9_demand := goodIn_ca (goodIn_r _ [14, 15, 16, 17, 50, 51, 52, 53, 54, 55, 56, 57, 58, 59, 60, 61, 62, 63, 64] rfl (by decide +kernel)) (goodIn_sub (fun _ h => List.mem_cons_of_mem _ (List.mem_append_right _ h)) (by decide +kernel))
set_option maxRecDepth 20000 in
theorem gX9_level_X9_demand : GoodIn wsX9_level (wsV RX9 89 RX9 yX9_demand wsX9_demand) := goodIn_app (goodIn_of _ (by decide +kernel)) ggX9_level_X9_demand
set_option maxRecDepth 20000 in
theorem ggX9_level_X4_layLevel : GoodIn wsX9_level wsX4_layLevel := goodIn_r _ [22, 23, 24, 25, 26, 27, 28, 29, 30, 31, 21, 32, 33, 34, 35, 36, 37, 38, 39, 40, 41, 42, 43, 44, 45, 46, 47, 48, 49, 65, 66, 67, 68, 69, 70, 71, 72, 73, 74, 75, 76, 77, 78, 79] rfl (by decide +kernel)
set_option maxRecDepth 20000 in
theorem gX9_level_X4_layLevel : GoodIn wsX9_level (wsV RX9 254 RX4 yX4_layLevel wsX4_layLevel) := goodIn_app (goodIn_of _ (by decide +kernel)) ggX9_level_X4_layLevel
set_option maxRecDepth 20000 in
theorem ggX9_fits_X9_demand : GoodIn wsX9_fits wsX9_demand := goodIn_ca (goodIn_r _ [8, 9, 10, 11, 48, 49, 50, 51, 52, 53, 54, 55, 56, 57, 58, 59, 60, 61, 62] rfl (by decide +kernel)) (goodIn_sub (fun _ h => List.mem_cons_of_mem _ (List.mem_append_right _ h)) (by decide +kernel))
set_option maxRecDepth 20000 in
theorem gX9_fits_X9_demand : GoodIn wsX9_fits (wsV RX9 89 RX9 yX9_demand wsX9_demand) := goodIn_app (goodIn_of _ (by decide +kernel)) ggX9_fits_X9_demand
set_option maxRecDepth 20000 in
theorem ggX9_fits_X0_seekPairs : GoodIn wsX9_fits wsX0_seekPairs := goodIn_r _ [16, 17, 18, 19, 20, 21, 15, 22, 23, 24, 25, 26, 27, 28, 29, 30, 31, 32, 33, 34, 35, 36, 37, 38, 39, 40, 41, 42, 43, 63, 64, 65, 66, 67, 68, 69, 70, 71, 72, 73, 74, 75, 76, 77, 78, 79, 80, 81, 82] rfl (by decide +kernel)
set_option maxRecDepth 20000 in
theorem gX9_fits_X0_seekPairs : GoodIn wsX9_fits (wsV RX9 263 RX0 yX0_seekPairs wsX0_seekPairs) := goodIn_app (goodIn_of _ (by decide +kernel)) ggX9_fits_X0_seekPairs
set_option maxRecDepth 20000 in
theorem ggX9_fits_X0_firstPair : GoodIn wsX9_fits wsX0_firstPair := goodIn_r _ [47, 18, 63, 64, 65, 66, 67, 68, 69, 70, 71] rfl (by decide +kernel)
set_option maxRecDepth 20000 in
theorem gX9_fits_X0_firstPair : GoodIn wsX9_fits (wsV RX9 269 RX0 yX0_firstPair wsX0_firstPair) := goodIn_app (goodIn_of _ (by decide +kernel)) ggX9_fits_X0_firstPair
set_option maxRecDepth 20000 in
theorem ggX9_look_X9_demand : GoodIn wsX9_look wsX9_demand := goodIn_ca (goodIn_r _ [9, 10, 11, 12, 65, 66, 67, 68, 69, 70, 71, 72, 73, 74, 75, 76, 77, 78, 79] rfl (by decide +kernel)) (goodIn_sub (fun _ h => List.mem_cons_of_mem _ (List.mem_append_right _ h)) (by decide +kernel))
set_option maxRecDepth 20000 in
theorem gX9_look_X9_demand : GoodIn wsX9_look (wsV RX9 89 RX9 yX9_demand wsX9_demand) := goodIn_app (goodIn_of _ (by decide +kernel)) ggX9_look_X9_demand
set_option maxRecDepth 20000 in
theorem ggX9_look_X0_seekNext : GoodIn wsX9_look wsX0_seekNext := goodIn_r _ [17, 18, 19, 20, 21, 22, 23, 16, 24, 25, 26, 27, 28, 29, 30, 31, 32, 33, 34, 35, 36, 37, 38, 39, 40, 41, 42, 43, 44, 45, 46, 47, 48, 49, 50, 51, 52, 53, 54, 55, 56, 57, 58, 59, 60, 61, 62, 63, 64, 80, 81, 82, 83, 84, 85, 86, 87, 88, 89, 90, 91, 92, 93, 94, 95, 96, 97, 98, 99] rfl (by decide +kernel)
set_option maxRecDepth 20000 in
theorem gX9_look_X0_seekNext : GoodIn wsX9_look (wsV RX9 272 RX0 yX0_seekNext wsX0_seekNext) := goodIn_app (goodIn_of _ (by decide +kernel)) ggX9_look_X0_seekNext
set_option maxRecDepth 20000 in
theorem ggX9_falsely_X9_demand : GoodIn wsX9_falsely wsX9_demand := goodIn_ca (goodIn_r _ [5, 6, 7, 8, 9, 10, 11, 12, 13, 14, 15, 16, 17, 18, 19, 20, 21, 22, 23] rfl (by decide +kernel)) (goodIn_sub (fun _ h => List.mem_cons_of_mem _ (List.mem_append_right _ h)) (by decide +kernel))
set_option maxRecDepth 20000 in
theorem gX9_falsely_X9_demand : GoodIn wsX9_falsely (wsV RX9 89 RX9 yX9_demand wsX9_demand) := goodIn_app (goodIn_of _ (by decide +kernel)) ggX9_falsely_X9_demand
set_option maxRecDepth 20000 in
theorem ggX9_sellers_X9_demand : GoodIn wsX9_sellers wsX9_demand := goodIn_ca (goodIn_r _ [5, 6, 7, 8, 15, 16, 17, 18, 19, 20, 21, 22, 23, 24, 25, 26, 27, 28, 29] rfl (by decide +kernel)) (goodIn_sub (fun _ h => List.mem_cons_of_mem _ (List.mem_append_right _ h)) (by decide +kernel))
set_option maxRecDepth 20000 in
theorem gX9_sellers_X9_demand : GoodIn wsX9_sellers (wsV RX9 89 RX9 yX9_demand wsX9_demand) := goodIn_app (goodIn_of _ (by decide +kernel)) ggX9_sellers_X9_demand
set_option maxRecDepth 20000 in
theorem ggX9_sellers_X9_isRest : GoodIn wsX9_sellers wsX9_isRest := goodIn_r _ [11, 12, 13, 4, 14] rfl (by decide +kernel)
set_option maxRecDepth 20000 in
theorem gX9_sellers_X9_isRest : GoodIn wsX9_sellers (va_wsS RX9 281 yX9_isRest wsX9_isRest) := goodIn_app (goodIn_of _ (by decide +kernel)) ggX9_sellers_X9_isRest
set_option maxRecDepth 20000 in
theorem ggX9_sellers_X9_gain : GoodIn wsX9_sellers wsX9_gain := goodIn_r _ [14] rfl (by decide +kernel)
set_option maxRecDepth 20000 in
theorem gX9_sellers_X9_gain : GoodIn wsX9_sellers (va_wsS RX9 285 yX9_gain wsX9_gain) := goodIn_app (goodIn_of _ (by decide +kernel)) ggX9_sellers_X9_gain
set_option maxRecDepth 20000 in
theorem ggX9_even_X9_demand : GoodIn wsX9_even wsX9_demand := goodIn_ca (goodIn_r _ [6, 7, 8, 9, 16, 17, 18, 19, 20, 21, 22, 23, 24, 25, 26, 27, 28, 29, 30] rfl (by decide +kernel)) (goodIn_sub (fun _ h => List.mem_cons_of_mem _ (List.mem_append_right _ h)) (by decide +kernel))
set_option maxRecDepth 20000 in
theorem gX9_even_X9_demand : GoodIn wsX9_even (wsV RX9 89 RX9 yX9_demand wsX9_demand) := goodIn_app (goodIn_of _ (by decide +kernel)) ggX9_even_X9_demand
set_option maxRecDepth 20000 in
theorem ggX9_even_X9_isPart : GoodIn wsX9_even wsX9_isPart := goodIn_r _ [12] rfl (by decide +kernel)
set_option maxRecDepth 20000 in
theorem gX9_even_X9_isPart : GoodIn wsX9_even (va_wsS RX9 216 yX9_isPart wsX9_isPart) := goodIn_app (goodIn_of _ (by decide +kernel)) ggX9_even_X9_isPart
set_option maxRecDepth 20000 in
theorem ggX9_even_X9_commonMeasure : GoodIn wsX9_even wsX9_commonMeasure := goodIn_r _ [15] rfl (by decide +kernel)
set_option maxRecDepth 20000 in
theorem gX9_even_X9_commonMeasure : GoodIn wsX9_even (va_wsS RX9 290 yX9_commonMeasure wsX9_commonMeasure) := goodIn_app (goodIn_of _ (by decide +kernel)) ggX9_even_X9_commonMeasure
set_option maxRecDepth 20000 in
theorem ggX9_share_X9_demandThing : GoodIn wsX9_share wsX9_demandThing := goodIn_ca (goodIn_r _ [11, 1, 12, 13, 14, 15, 16, 17, 18, 19, 20, 10, 21, 22, 23, 24, 54, 55, 56, 57, 58, 59, 60, 61, 62, 63, 64, 65, 66, 67, 68, 69, 70, 71, 72, 73, 74, 75, 76, 77, 78, 79] rfl (by decide +kernel)) (goodIn_sub (fun _ h => List.mem_cons_of_mem _ (List.mem_append_left _ (List.mem_append_right _ h))) (by decide +kernel))
set_option maxRecDepth 20000 in
theorem gX9_share_X9_demandThing : GoodIn wsX9_share (wsV RX9 174 RX9 yX9_demandThing wsX9_demandThing) := goodIn_app (goodIn_of _ (by decide +kernel)) ggX9_share_X9_demandThing
set_option maxRecDepth 20000 in
theorem ggX9_share_X9_demandBits : GoodIn wsX9_share wsX9_demandBits := goodIn_ca (goodIn_r _ [28, 1, 29, 30, 31, 32, 10, 33, 34, 35, 36, 54, 55, 56, 57, 58, 59, 60, 61, 62, 63, 64, 65, 66, 67, 68, 69, 70, 71, 72, 73, 74, 75, 76, 77, 78, 79] rfl (by decide +kernel)) (goodIn_sub (fun _ h => List.mem_cons_of_mem _ (List.mem_append_right _ h)) (by decide +kernel))
set_option maxRecDepth 20000 in
theorem gX9_share_X9_demandBits : GoodIn wsX9_share (wsV RX9 237 RX9 yX9_demandBits wsX9_demandBits) := goodIn_app (goodIn_of _ (by decide +kernel)) ggX9_share_X9_demandBits
set_option maxRecDepth 20000 in
theorem ggX9_share_X9_demand : GoodIn wsX9_share wsX9_demand := goodIn_ca (goodIn_r _ [33, 34, 35, 36, 54, 55, 56, 57, 58, 59, 60, 61, 62, 63, 64, 65, 66, 67, 68] rfl (by decide +kernel)) (goodIn_sub (fun _ h => List.mem_cons_of_mem _ (List.mem_append_right _ h)) (by decide +kernel))
set_option maxRecDepth 20000 in
theorem gX9_share_X9_demand : GoodIn wsX9_share (wsV RX9 89 RX9 yX9_demand wsX9_demand) := goodIn_app (goodIn_of _ (by decide +kernel)) ggX9_share_X9_demand
set_option maxRecDepth 20000 in
theorem ggX9_share_X6_weightOf : GoodIn wsX9_share wsX6_weightOf := goodIn_r _ [40, 41, 42, 13, 14, 15, 16, 17, 69, 70, 71, 72, 73, 74, 75, 76, 77, 78, 79] rfl (by decide +kernel)
set_option maxRecDepth 20000 in
theorem gX9_share_X6_weightOf : GoodIn wsX9_share (wsV RX9 177 RX6 yX6_weightOf wsX6_weightOf) := goodIn_app (goodIn_of _ (by decide +kernel)) ggX9_share_X6_weightOf
set_option maxRecDepth 20000 in
theorem ggX9_share_X4_shareBound : GoodIn wsX9_share wsX4_shareBound := goodIn_r _ [47, 48, 49, 46, 50, 51, 52, 4, 5, 6, 53, 38, 39, 15, 40, 41, 42, 13, 14, 16, 17, 69, 70, 71, 72, 73, 74, 75, 76, 77, 78, 79] rfl (by decide +kernel)
set_option maxRecDepth 20000 in
theorem gX9_share_X4_shareBound : GoodIn wsX9_share (wsV RX9 294 RX4 yX4_shareBound wsX4_shareBound) := goodIn_app (goodIn_of _ (by decide +kernel)) ggX9_share_X4_shareBound
set_option maxRecDepth 20000 in
theorem ggX9_heaviest_X9_demand : GoodIn wsX9_heaviest wsX9_demand := goodIn_ca (goodIn_r _ [6, 7, 8, 9, 26, 27, 28, 29, 30, 31, 32, 33, 34, 35, 36, 37, 38, 39, 40] rfl (by decide +kernel)) (goodIn_sub (fun _ h => List.mem_cons_of_mem _ (List.mem_append_right _ h)) (by decide +kernel))
set_option maxRecDepth 20000 in
theorem gX9_heaviest_X9_demand : GoodIn wsX9_heaviest (wsV RX9 89 RX9 yX9_demand wsX9_demand) := goodIn_app (goodIn_of _ (by decide +kernel)) ggX9_heaviest_X9_demand
set_option maxRecDepth 20000 in
theorem ggX9_heaviest_X6_heaviestThing : GoodIn wsX9_heaviest wsX6_heaviestThing := goodIn_r _ [14, 15, 16, 17, 18, 13, 19, 20, 21, 22, 23, 24, 41, 42, 43, 44, 45, 46, 47, 48, 49, 50, 51] rfl (by decide +kernel)
set_option maxRecDepth 20000 in
theorem gX9_heaviest_X6_heaviestThing : GoodIn wsX9_heaviest (wsV RX9 213 RX6 yX6_heaviestThing wsX6_heaviestThing) := goodIn_app (goodIn_of _ (by decide +kernel)) ggX9_heaviest_X6_heaviestThing
set_option maxRecDepth 20000 in
theorem ggX9_heaviest_X6_weightOf : GoodIn wsX9_heaviest wsX6_weightOf := goodIn_r _ [19, 20, 21, 22, 23, 13, 24, 15, 41, 42, 43, 44, 45, 46, 47, 48, 49, 50, 51] rfl (by decide +kernel)
set_option maxRecDepth 20000 in
theorem gX9_heaviest_X6_weightOf : GoodIn wsX9_heaviest (wsV RX9 177 RX6 yX6_weightOf wsX6_weightOf) := goodIn_app (goodIn_of _ (by decide +kernel)) ggX9_heaviest_X6_weightOf
set_option maxRecDepth 20000 in
theorem ggX9_above_X9_demandThing : GoodIn wsX9_above wsX9_demandThing := goodIn_ca (goodIn_r _ [8, 1, 9, 10, 11, 12, 13, 14, 15, 16, 17, 7, 18, 19, 20, 21, 67, 68, 69, 70, 71, 72, 73, 74, 75, 76, 77, 78, 79, 80, 81, 82, 83, 84, 85, 86, 87, 88, 89, 90, 91, 92] rfl (by decide +kernel)) (goodIn_sub (fun _ h => List.mem_cons_of_mem _ (List.mem_append_right _ h)) (by decide +kernel))
set_option maxRecDepth 20000 in
theorem gX9_above_X9_demandThing : GoodIn wsX9_above (wsV RX9 174 RX9 yX9_demandThing wsX9_demandThing) := goodIn_app (goodIn_of _ (by decide +kernel)) ggX9_above_X9_demandThing
set_option maxRecDepth 20000 in
theorem ggX9_above_X1_seekChain : GoodIn wsX9_above wsX1_seekChain := goodIn_r _ [26, 27, 28, 29, 30, 25, 31, 32, 33, 34, 35, 36, 37, 38, 39, 40, 41, 42, 43, 12, 44, 45, 46, 47, 48, 49, 50, 51, 52, 53, 54, 55, 56, 57, 58, 59, 60, 61, 62, 93, 94, 95, 96, 97, 98, 82, 83, 84, 85, 86, 87, 88, 89, 90, 91, 92] rfl (by decide +kernel)
set_option maxRecDepth 20000 in
theorem gX9_above_X1_seekChain : GoodIn wsX9_above (wsV RX9 220 RX1 yX1_seekChain wsX1_seekChain) := goodIn_app (goodIn_of _ (by decide +kernel)) ggX9_above_X1_seekChain
set_option maxRecDepth 20000 in
theorem ggX9_above_X1_isOneOrMore : GoodIn wsX9_above wsX1_isOneOrMore := goodIn_r _ [66, 34, 35, 93, 94, 95, 96, 97, 98] rfl (by decide +kernel)
set_option maxRecDepth 20000 in
theorem gX9_above_X1_isOneOrMore : GoodIn wsX9_above (wsV RX9 303 RX1 yX1_isOneOrMore wsX1_isOneOrMore) := goodIn_app (goodIn_of _ (by decide +kernel)) ggX9_above_X1_isOneOrMore
set_option maxRecDepth 20000 in
theorem ggX9_alike_X9_demand : GoodIn wsX9_alike wsX9_demand := goodIn_ca (goodIn_r _ [7, 8, 9, 10, 22, 23, 24, 25, 26, 27, 28, 29, 30, 31, 32, 33, 34, 35, 36] rfl (by decide +kernel)) (goodIn_sub (fun _ h => List.mem_cons_of_mem _ (List.mem_append_right _ h)) (by decide +kernel))
set_option maxRecDepth 20000 in
theorem gX9_alike_X9_demand : GoodIn wsX9_alike (wsV RX9 89 RX9 yX9_demand wsX9_demand) := goodIn_app (goodIn_of _ (by decide +kernel)) ggX9_alike_X9_demand
set_option maxRecDepth 20000 in
theorem ggX9_alike_X6_weightOf : GoodIn wsX9_alike wsX6_weightOf := goodIn_r _ [15, 16, 17, 18, 19, 14, 20, 21, 37, 38, 39, 40, 41, 42, 43, 44, 45, 46, 47] rfl (by decide +kernel)
set_option maxRecDepth 20000 in
theorem gX9_alike_X6_weightOf : GoodIn wsX9_alike (wsV RX9 177 RX6 yX6_weightOf wsX6_weightOf) := goodIn_app (goodIn_of _ (by decide +kernel)) ggX9_alike_X6_weightOf
set_option maxRecDepth 20000 in
theorem ggX9_against_X9_demandThing : GoodIn wsX9_against wsX9_demandThing := goodIn_ca (goodIn_r _ [6, 1, 7, 8, 9, 10, 11, 12, 13, 14, 15, 5, 16, 17, 18, 19, 26, 27, 28, 29, 30, 31, 32, 33, 34, 35, 36, 37, 38, 39, 40, 41, 42, 43, 44, 45, 46, 47, 48, 49, 50, 51] rfl (by decide +kernel)) (goodIn_sub (fun _ h => List.mem_cons_of_mem _ (List.mem_append_right _ h)) (by decide +kernel))
set_option maxRecDepth 20000 in
theorem gX9_against_X9_demandThing : GoodIn wsX9_against (wsV RX9 174 RX9 yX9_demandThing wsX9_demandThing) := goodIn_app (goodIn_of _ (by decide +kernel)) ggX9_against_X9_demandThing
set_option maxRecDepth 20000 in
theorem ggX9_against_X6_weightOf : GoodIn wsX9_against wsX6_weightOf := goodIn_r _ [23, 24, 25, 8, 9, 10, 11, 12, 41, 42, 43, 44, 45, 46, 47, 48, 49, 50, 51] rfl (by decide +kernel)
set_option maxRecDepth 20000 in
theorem gX9_against_X6_weightOf : GoodIn wsX9_against (wsV RX9 177 RX6 yX6_weightOf wsX6_weightOf) := goodIn_app (goodIn_of _ (by decide +kernel)) ggX9_against_X6_weightOf
set_option maxRecDepth 20000 in
theorem ggX9_fair_X9_isFair : GoodIn wsX9_fair wsX9_isFair := goodIn_r _ [10] rfl (by decide +kernel)
set_option maxRecDepth 20000 in
theorem gX9_fair_X9_isFair : GoodIn wsX9_fair (va_wsS RX9 307 yX9_isFair wsX9_isFair) := goodIn_app (goodIn_of _ (by decide +kernel)) ggX9_fair_X9_isFair
set_option maxRecDepth 20000 in
theorem ggX9_fair_X9_demand : GoodIn wsX9_fair wsX9_demand := goodIn_ca (goodIn_r _ [14, 15, 16, 17, 138, 139, 140, 141, 142, 143, 144, 145, 146, 147, 148, 149, 150, 151, 152] rfl (by decide +kernel)) (goodIn_sub (fun _ h => List.mem_cons_of_mem _ (List.mem_append_right _ h)) (by decide +kernel))
set_option maxRecDepth 20000 in
theorem gX9_fair_X9_demand : GoodIn wsX9_fair (wsV RX9 89 RX9 yX9_demand wsX9_demand) := goodIn_app (goodIn_of _ (by decide +kernel)) ggX9_fair_X9_demand
set_option maxRecDepth 20000 in
theorem ggX9_fair_X2_hold : GoodIn wsX9_fair wsX2_hold := goodIn_r _ [22, 23, 24, 25, 26, 27, 28, 29, 30, 31, 32, 33, 34, 35, 36, 37, 38, 39, 40, 41, 42, 43, 44, 45, 46, 47, 21, 48, 49, 50, 51, 52, 53, 54, 55, 56, 57, 58, 59, 60, 61, 62, 63, 64, 65, 66, 67, 68, 69, 70, 71, 72, 73, 74, 75, 76, 77, 78, 79, 80, 81, 82, 83, 84, 85, 86, 87, 88, 89, 90, 91, 92, 93, 94, 95, 96, 97, 98, 99, 100, 101, 102, 103, 104, 105, 106, 107, 108, 109, 110, 111, 112, 113, 114, 115, 116, 117, 118, 119, 120, 121, 122, 123, 124, 125, 126, 127, 128, 129, 153, 154, 155, 156, 157, 158, 159, 160, 161, 162, 163, 164, 165, 166, 167, 168, 169, 170] rfl (by decide +kernel)
set_option maxRecDepth 20000 in
theorem gX9_fair_X2_hold : GoodIn wsX9_fair (wsV RX9 311 RX2 yX2_hold wsX2_hold) := goodIn_app (goodIn_of _ (by decide +kernel)) ggX9_fair_X2_hold
set_option maxRecDepth 20000 in
theorem ggX9_fair_X6_weightOfAll : GoodIn wsX9_fair wsX6_weightOfAll := goodIn_r _ [133, 39, 66, 67, 68, 29, 69, 36, 58, 59, 60, 61, 155, 156, 157, 158, 159, 160, 161, 162, 163, 164, 165] rfl (by decide +kernel)
set_option maxRecDepth 20000 in
theorem gX9_fair_X6_weightOfAll : GoodIn wsX9_fair (wsV RX9 161 RX6 yX6_weightOfAll wsX6_weightOfAll) := goodIn_app (goodIn_of _ (by decide +kernel)) ggX9_fair_X6_weightOfAll
set_option maxRecDepth 20000 in
theorem ggX9_fair_X6_criesNotSo : GoodIn wsX9_fair wsX6_criesNotSo := goodIn_r _ [137, 40, 77, 78, 79, 29, 80, 38, 66, 67, 68, 69, 36, 58, 59, 60, 61, 39, 155, 156, 157, 158, 159, 160, 161, 162, 163, 164, 165] rfl (by decide +kernel)
set_option maxRecDepth 20000 in
theorem gX9_fair_X6_criesNotSo : GoodIn wsX9_fair (wsV RX9 165 RX6 yX6_criesNotSo wsX6_criesNotSo) := goodIn_app (goodIn_of _ (by decide +kernel)) ggX9_fair_X6_criesNotSo
set_option maxRecDepth 20000 in
theorem ggX9_span_X9_isFair : GoodIn wsX9_span wsX9_isFair := goodIn_r _ [8] rfl (by decide +kernel)
set_option maxRecDepth 20000 in
theorem gX9_span_X9_isFair : GoodIn wsX9_span (va_wsS RX9 307 yX9_isFair wsX9_isFair) := goodIn_app (goodIn_of _ (by decide +kernel)) ggX9_span_X9_isFair
set_option maxRecDepth 20000 in
theorem ggX9_span_X9_demand : GoodIn wsX9_span wsX9_demand := goodIn_ca (goodIn_r _ [12, 13, 14, 15, 134, 135, 136, 137, 138, 139, 140, 141, 142, 143, 144, 145, 146, 147, 148] rfl (by decide +kernel)) (goodIn_sub (fun _ h => List.mem_cons_of_mem _ (List.mem_append_right _ h)) (by decide +kernel))
set_option maxRecDepth 20000 in
theorem gX9_span_X9_demand : GoodIn wsX9_span (wsV RX9 89 RX9 yX9_demand wsX9_demand) := goodIn_app (goodIn_of _ (by decide +kernel)) ggX9_span_X9_demand
set_option maxRecDepth 20000 in
theorem ggX9_span_X6_isThing : GoodIn wsX9_span wsX6_isThing := goodIn_r _ [20, 21, 151, 152, 153, 154, 155, 156, 157, 158, 159, 160, 161] rfl (by decide +kernel)
set_option maxRecDepth 20000 in
theorem gX9_span_X6_isThing : GoodIn wsX9_span (wsV RX9 318 RX6 yX6_isThing wsX6_isThing) := goodIn_app (goodIn_of _ (by decide +kernel)) ggX9_span_X6_isThing
set_option maxRecDepth 20000 in
theorem ggX9_span_X2_hold : GoodIn wsX9_span wsX2_hold := goodIn_r _ [26, 27, 28, 29, 30, 31, 32, 19, 33, 34, 35, 36, 37, 38, 39, 40, 41, 21, 42, 43, 44, 45, 46, 47, 48, 49, 25, 50, 51, 52, 53, 54, 55, 56, 57, 58, 59, 60, 17, 18, 20, 61, 62, 63, 64, 65, 66, 67, 68, 69, 70, 71, 72, 73, 74, 75, 76, 77, 78, 79, 80, 81, 82, 83, 84, 85, 86, 87, 88, 89, 90, 91, 92, 93, 94, 95, 96, 97, 98, 99, 100, 101, 102, 103, 104, 105, 106, 107, 108, 109, 110, 111, 112, 113, 114, 115, 116, 117, 118, 119, 120, 121, 122, 123, 124, 125, 126, 127, 128, 149, 150, 151, 152, 153, 154, 155, 156, 157, 158, 159, 160, 161, 162, 163, 164, 165, 166] rfl (by decide +kernel)
set_option maxRecDepth 20000 in
theorem gX9_span_X2_hold : GoodIn wsX9_span (wsV RX9 311 RX2 yX2_hold wsX2_hold) := goodIn_app (goodIn_of _ (by decide +kernel)) ggX9_span_X2_hold
set_option maxRecDepth 20000 in
theorem ggX9_span_X6_weightOfAll : GoodIn wsX9_span wsX6_weightOfAll := goodIn_r _ [132, 21, 65, 66, 67, 19, 68, 39, 60, 17, 18, 20, 151, 152, 153, 154, 155, 156, 157, 158, 159, 160, 161] rfl (by decide +kernel)
set_option maxRecDepth 20000 in
theorem gX9_span_X6_weightOfAll : GoodIn wsX9_span (wsV RX9 161 RX6 yX6_weightOfAll wsX6_weightOfAll) := goodIn_app (goodIn_of _ (by decide +kernel)) ggX9_span_X6_weightOfAll
set_option maxRecDepth 20000 in
theorem ggX9_span_X6_criesWith : GoodIn wsX9_span wsX6_criesWith := goodIn_r _ [104, 42, 41, 151, 152, 153, 154, 155, 156, 157, 158, 159, 160, 161] rfl (by decide +kernel)
set_option maxRecDepth 20000 in
theorem gX9_span_X6_criesWith : GoodIn wsX9_span (wsV RX9 187 RX6 yX6_criesWith wsX6_criesWith) := goodIn_app (goodIn_of _ (by decide +kernel)) ggX9_span_X6_criesWith
set_option maxRecDepth 20000 in
theorem ggX9_image_X5_takeImage : GoodIn wsX9_image wsX5_takeImage := goodIn_r _ [8, 9, 10, 11, 12, 13, 14, 15, 16, 17, 18, 19, 20, 21, 22, 23, 24, 25, 26, 27, 28, 29, 30, 46, 47, 48, 49, 50, 51, 52, 53, 54, 55, 56, 57, 58, 59, 60, 61] rfl (by decide +kernel)
set_option maxRecDepth 20000 in
theorem gX9_image_X5_takeImage : GoodIn wsX9_image (wsV RX9 324 RX5 yX5_takeImage wsX5_takeImage) := goodIn_app (goodIn_of _ (by decide +kernel)) ggX9_image_X5_takeImage
set_option maxRecDepth 20000 in
theorem ggX9_restore_X5_goBackToImage : GoodIn wsX9_restore wsX5_goBackToImage := goodIn_r _ [9, 10, 11, 12, 13, 14, 15, 16, 17, 18, 19, 20, 21, 22, 23, 24, 25, 26, 27, 28, 29, 30, 31, 47, 48, 49, 50, 51, 52, 53, 54, 55, 56, 57, 58, 59, 60, 61, 62] rfl (by decide +kernel)
set_option maxRecDepth 20000 in
theorem gX9_restore_X5_goBackToImage : GoodIn wsX9_restore (wsV RX9 327 RX5 yX5_goBackToImage wsX5_goBackToImage) := goodIn_app (goodIn_of _ (by decide +kernel)) ggX9_restore_X5_goBackToImage
set_option maxRecDepth 20000 in
theorem ggX9_demandThing_X6_isThing : GoodIn wsX9_demandThing wsX6_isThing := goodIn_r _ [6, 7, 31, 32, 33, 34, 35, 36, 37, 38, 39, 40, 41] rfl (by decide +kernel)
set_option maxRecDepth 20000 in
theorem gX9_demandThing_X6_isThing : GoodIn wsX9_demandThing (wsV RX9 318 RX6 yX6_isThing wsX6_isThing) := goodIn_app (goodIn_of _ (by decide +kernel)) ggX9_demandThing_X6_isThing
set_option maxRecDepth 20000 in
theorem ggX9_demandThing_X9_demandPresent : GoodIn wsX9_demandThing wsX9_demandPresent := goodIn_ca (goodIn_r _ [12, 13, 14, 15, 16, 17, 18, 19, 20, 21, 22, 23, 24, 25, 26, 27, 28, 29, 30] rfl (by decide +kernel)) (goodIn_sub (fun _ h => List.mem_cons_of_mem _ (List.mem_append_right _ h)) (by decide +kernel))
set_option maxRecDepth 20000 in
theorem gX9_demandThing_X9_demandPresent : GoodIn wsX9_demandThing (wsV RX9 194 RX9 yX9_demandPresent wsX9_demandPresent) := goodIn_app (goodIn_of _ (by decide +kernel)) ggX9_demandThing_X9_demandPresent
set_option maxRecDepth 20000 in
theorem ggX9_demandBits_X9_demand : GoodIn wsX9_demandBits wsX9_demand := goodIn_ca (goodIn_r _ [7, 8, 9, 10, 11, 12, 13, 14, 15, 16, 17, 18, 19, 20, 21, 22, 23, 24, 25] rfl (by decide +kernel)) (goodIn_sub (fun _ h => List.mem_cons_of_mem _ (List.mem_append_right _ h)) (by decide +kernel))
set_option maxRecDepth 20000 in
theorem gX9_demandBits_X9_demand : GoodIn wsX9_demandBits (wsV RX9 89 RX9 yX9_demand wsX9_demand) := goodIn_app (goodIn_of _ (by decide +kernel)) ggX9_demandBits_X9_demand
set_option maxRecDepth 20000 in
theorem ggX9_isRest_X9_gain : GoodIn wsX9_isRest wsX9_gain := goodIn_r _ [4] rfl (by decide +kernel)
set_option maxRecDepth 20000 in
theorem gX9_isRest_X9_gain : GoodIn wsX9_isRest (va_wsS RX9 285 yX9_gain wsX9_gain) := goodIn_app (goodIn_of _ (by decide +kernel)) ggX9_isRest_X9_gain
set_option maxRecDepth 20000 in
theorem ggX10_init_X10_tellsNothing : GoodIn wsX10_init wsX10_tellsNothing := goodIn_r _ [35, 8, 48, 49, 50, 51, 52, 53, 54, 55, 56, 57, 58, 59, 60, 61, 62, 63, 64, 65, 66, 67, 68, 69, 70, 71, 72, 73, 74, 75, 76, 77, 78, 79, 80, 81, 82, 83, 84, 85, 86, 87, 88, 89, 90, 91, 92, 93] rfl (by decide +kernel)
set_option maxRecDepth 20000 in
theorem gX10_init_X10_tellsNothing : GoodIn wsX10_init (wsV RX10 86 RX10 yX10_tellsNothing wsX10_tellsNothing) := goodIn_app (goodIn_of _ (by decide +kernel)) ggX10_init_X10_tellsNothing
set_option maxRecDepth 20000 in
theorem ggX10_init_X10_beginsAnew : GoodIn wsX10_init wsX10_beginsAnew := goodIn_r _ [39, 9, 8, 22, 11, 10, 13, 14, 40, 41, 42, 43, 44, 45, 46, 34, 47, 48, 49, 50, 51, 52, 53, 54, 55, 56, 57, 58, 59, 60, 61, 62, 63, 64, 65, 66, 67, 68, 69, 70, 71, 72, 73, 74, 75, 76, 77, 78, 79, 80, 81, 82, 83, 84, 85, 86, 87, 88, 89, 90, 91, 92, 93] rfl (by decide +kernel)
set_option maxRecDepth 20000 in
theorem gX10_init_X10_beginsAnew : GoodIn wsX10_init (wsV RX10 89 RX10 yX10_beginsAnew wsX10_beginsAnew) := goodIn_app (goodIn_of _ (by decide +kernel)) ggX10_init_X10_beginsAnew
set_option maxRecDepth 20000 in
theorem ggX10_blanks_X10_byteAt : GoodIn wsX10_blanks wsX10_byteAt := goodIn_r _ [6, 7, 8, 9, 10, 11, 12, 13, 14, 15, 16, 17, 18, 19, 20, 21, 22, 23, 24, 25, 26, 27, 28, 29, 30, 31, 32, 33, 34, 35, 36, 37, 38, 39, 40, 41, 42, 43, 44, 45, 46, 47, 48, 49, 50, 51, 52, 53, 54] rfl (by decide +kernel)
set_option maxRecDepth 20000 in
theorem gX10_blanks_X10_byteAt : GoodIn wsX10_blanks (wsV RX10 104 RX10 yX10_byteAt wsX10_byteAt) := goodIn_app (goodIn_of _ (by decide +kernel)) ggX10_blanks_X10_byteAt
set_option maxRecDepth 20000 in
theorem ggX10_number_X10_blanks : GoodIn wsX10_number wsX10_blanks := goodIn_r _ [8, 2, 9, 10, 11, 7, 12, 13, 14, 26, 27, 28, 29, 30, 31, 32, 33, 34, 35, 36, 37, 38, 39, 40, 41, 42, 43, 44, 45, 46, 47, 48, 49, 50, 51, 52, 53, 54, 55, 56, 57, 58, 59, 60, 61, 62, 63, 64, 65, 66, 67, 68, 69, 70, 71] rfl (by decide +kernel)
set_option maxRecDepth 20000 in
theorem gX10_number_X10_blanks : GoodIn wsX10_number (wsV RX10 114 RX10 yX10_blanks wsX10_blanks) := goodIn_app (goodIn_of _ (by decide +kernel)) ggX10_number_X10_blanks
set_option maxRecDepth 20000 in
theorem ggX10_number_X10_byteAt : GoodIn wsX10_number wsX10_byteAt := goodIn_r _ [12, 13, 14, 26, 27, 28, 29, 30, 31, 32, 33, 34, 35, 36, 37, 38, 39, 40, 41, 42, 43, 44, 45, 46, 47, 48, 49, 50, 51, 52, 53, 54, 55, 56, 57, 58, 59, 60, 61, 62, 63, 64, 65, 66, 67, 68, 69, 70, 71] rfl (by decide +kernel)
set_option maxRecDepth 20000 in
theorem gX10_number_X10_byteAt : GoodIn wsX10_number (wsV RX10 104 RX10 yX10_byteAt wsX10_byteAt) := goodIn_app (goodIn_of _ (by decide +kernel)) ggX10_number_X10_byteAt
set_option maxRecDepth 20000 in
theorem ggX10_number_X10_isDigit : GoodIn wsX10_number wsX10_isDigit := goodIn_r _ [17] rfl (by decide +kernel)
set_option maxRecDepth 20000 in
theorem gX10_number_X10_isDigit : GoodIn wsX10_number (va_wsS RX10 117 yX10_isDigit wsX10_isDigit) := goodIn_app (goodIn_of _ (by decide +kernel)) ggX10_number_X10_isDigit
set_option maxRecDepth 20000 in
theorem ggX10_number_X10_wrong : GoodIn wsX10_number wsX10_wrong := goodIn_r _ [21, 1, 22, 26, 27, 28, 29, 30, 31, 32, 33, 34, 35, 36, 37, 38, 39, 40, 41, 42, 43, 44, 45, 46, 47, 48, 49, 50, 51, 52, 53, 54, 55, 56, 57, 58, 59, 60, 61, 62, 63, 64, 65, 66, 67, 68, 69, 70, 71] rfl (by decide +kernel)
set_option maxRecDepth 20000 in
theorem gX10_number_X10_wrong : GoodIn wsX10_number (wsV RX10 121 RX10 yX10_wrong wsX10_wrong) := goodIn_app (goodIn_of _ (by decide +kernel)) ggX10_number_X10_wrong
set_option maxRecDepth 20000 in
theorem ggX10_number_X10_in : GoodIn wsX10_number wsX10_in := goodIn_r _ [25] rfl (by decide +kernel)
set_option maxRecDepth 20000 in
theorem gX10_number_X10_in : GoodIn wsX10_number (va_wsS RX10 126 yX10_in wsX10_in) := goodIn_app (goodIn_of _ (by decide +kernel)) ggX10_number_X10_in
set_option maxRecDepth 20000 in
theorem ggX10_wordHere_X10_blanks : GoodIn wsX10_wordHere wsX10_blanks := goodIn_r _ [6, 1, 7, 8, 9, 5, 10, 11, 12, 16, 17, 18, 19, 20, 21, 22, 23, 24, 25, 26, 27, 28, 29, 30, 31, 32, 33, 34, 35, 36, 37, 38, 39, 40, 41, 42, 43, 44, 45, 46, 47, 48, 49, 50, 51, 52, 53, 54, 55, 56, 57, 58, 59, 60, 61] rfl (by decide +kernel)
set_option maxRecDepth 20000 in
theorem gX10_wordHere_X10_blanks : GoodIn wsX10_wordHere (wsV RX10 114 RX10 yX10_blanks wsX10_blanks) := goodIn_app (goodIn_of _ (by decide +kernel)) ggX10_wordHere_X10_blanks
set_option maxRecDepth 20000 in
theorem ggX10_wordHere_X10_byteAt : GoodIn wsX10_wordHere wsX10_byteAt := goodIn_r _ [10, 11, 12, 16, 17, 18, 19, 20, 21, 22, 23, 24, 25, 26, 27, 28, 29, 30, 31, 32, 33, 34, 35, 36, 37, 38, 39, 40, 41, 42, 43, 44, 45, 46, 47, 48, 49, 50, 51, 52, 53, 54, 55, 56, 57, 58, 59, 60, 61] rfl (by decide +kernel)
set_option maxRecDepth 20000 in
theorem gX10_wordHere_X10_byteAt : GoodIn wsX10_wordHere (wsV RX10 104 RX10 yX10_byteAt wsX10_byteAt) := goodIn_app (goodIn_of _ (by decide +kernel)) ggX10_wordHere_X10_byteAt
set_option maxRecDepth 20000 in
theorem ggX10_wordHere_X10_isSmall : GoodIn wsX10_wordHere wsX10_isSmall := goodIn_r _ [15] rfl (by decide +kernel)
set_option maxRecDepth 20000 in
theorem gX10_wordHere_X10_isSmall : GoodIn wsX10_wordHere (va_wsS RX10 130 yX10_isSmall wsX10_isSmall) := goodIn_app (goodIn_of _ (by decide +kernel)) ggX10_wordHere_X10_isSmall
set_option maxRecDepth 20000 in
theorem ggX10_isWord_X10_wordHere : GoodIn wsX10_isWord wsX10_wordHere := goodIn_r _ [6, 7, 8, 9, 10, 5, 11, 12, 13, 14, 15, 16, 17, 18, 19, 20, 24, 25, 26, 27, 28, 29, 30, 31, 32, 33, 34, 35, 36, 37, 38, 39, 40, 41, 42, 43, 44, 45, 46, 47, 48, 49, 50, 51, 52, 53, 54, 55, 56, 57, 58, 59, 60, 61, 62, 63, 64, 65, 66, 67, 68, 69] rfl (by decide +kernel)
set_option maxRecDepth 20000 in
theorem gX10_isWord_X10_wordHere : GoodIn wsX10_isWord (wsV RX10 133 RX10 yX10_wordHere wsX10_wordHere) := goodIn_app (goodIn_of _ (by decide +kernel)) ggX10_isWord_X10_wordHere
set_option maxRecDepth 20000 in
theorem ggX10_isWord_X10_six : GoodIn wsX10_isWord wsX10_six := goodIn_r _ [23] rfl (by decide +kernel)
set_option maxRecDepth 20000 in
theorem gX10_isWord_X10_six : GoodIn wsX10_isWord (va_wsS RX10 137 yX10_six wsX10_six) := goodIn_app (goodIn_of _ (by decide +kernel)) ggX10_isWord_X10_six
set_option maxRecDepth 20000 in
theorem ggX10_skipWord_X10_byteAt : GoodIn wsX10_skipWord wsX10_byteAt := goodIn_r _ [6, 7, 8, 12, 13, 14, 15, 16, 17, 18, 19, 20, 21, 22, 23, 24, 25, 26, 27, 28, 29, 30, 31, 32, 33, 34, 35, 36, 37, 38, 39, 40, 41, 42, 43, 44, 45, 46, 47, 48, 49, 50, 51, 52, 53, 54, 55, 56, 57] rfl (by decide +kernel)
set_option maxRecDepth 20000 in
theorem gX10_skipWord_X10_byteAt : GoodIn wsX10_skipWord (wsV RX10 104 RX10 yX10_byteAt wsX10_byteAt) := goodIn_app (goodIn_of _ (by decide +kernel)) ggX10_skipWord_X10_byteAt
set_option maxRecDepth 20000 in
theorem ggX10_skipWord_X10_isSmall : GoodIn wsX10_skipWord wsX10_isSmall := goodIn_r _ [11] rfl (by decide +kernel)
set_option maxRecDepth 20000 in
theorem gX10_skipWord_X10_isSmall : GoodIn wsX10_skipWord (va_wsS RX10 130 yX10_isSmall wsX10_isSmall) := goodIn_app (goodIn_of _ (by decide +kernel)) ggX10_skipWord_X10_isSmall
set_option maxRecDepth 20000 in
theorem ggX10_takes_X10_isWord : GoodIn wsX10_takes wsX10_isWord := goodIn_r _ [5, 6, 7, 8, 9, 4, 10, 11, 12, 13, 14, 15, 16, 17, 18, 19, 20, 21, 22, 23, 24, 25, 26, 27, 32, 33, 34, 35, 36, 37, 38, 39, 40, 41, 42, 43, 44, 45, 46, 47, 48, 49, 50, 51, 52, 53, 54, 55, 56, 57, 58, 59, 60, 61, 62, 63, 64, 65, 66, 67, 68, 69, 70, 71, 72, 73, 74, 75, 76, 77] rfl (by decide +kernel)
set_option maxRecDepth 20000 in
theorem gX10_takes_X10_isWord : GoodIn wsX10_takes (wsV RX10 141 RX10 yX10_isWord wsX10_isWord) := goodIn_app (goodIn_of _ (by decide +kernel)) ggX10_takes_X10_isWord
