set_option maxRecDepth 20000 in
theorem ggX6_criesNotSo_X6_weightOf : GoodIn wsX6_criesNotSo wsX6_weightOf := goodIn_r _ [11, 12, 13, 14, 15, 5, 16, 17, 18, 19, 20, 21, 22, 23, 24, 25, 26, 27, 28] rfl (by decide +kernel)
set_option maxRecDepth 20000 in
theorem gX6_criesNotSo_X6_weightOf : GoodIn wsX6_criesNotSo (wsV RX6 121 RX6 yX6_weightOf wsX6_weightOf) := goodIn_app (goodIn_of _ (by decide +kernel)) ggX6_criesNotSo_X6_weightOf
set_option maxRecDepth 20000 in
theorem ggX6_thingsCried_X6_cryPart : GoodIn wsX6_thingsCried wsX6_cryPart := goodIn_r _ [6, 1, 7, 8, 9, 10, 11, 12, 13, 14, 15, 16, 17, 18] rfl (by decide +kernel)
set_option maxRecDepth 20000 in
theorem gX6_thingsCried_X6_cryPart : GoodIn wsX6_thingsCried (wsV RX6 125 RX6 yX6_cryPart wsX6_cryPart) := goodIn_app (goodIn_of _ (by decide +kernel)) ggX6_thingsCried_X6_cryPart
set_option maxRecDepth 20000 in
theorem ggX6_wearOf_X6_criesWith : GoodIn wsX6_wearOf wsX6_criesWith := goodIn_r _ [8, 9, 10, 46, 47, 48, 49, 50, 51, 52, 53, 54, 55, 56] rfl (by decide +kernel)
set_option maxRecDepth 20000 in
theorem gX6_wearOf_X6_criesWith : GoodIn wsX6_wearOf (wsV RX6 129 RX6 yX6_criesWith wsX6_criesWith) := goodIn_app (goodIn_of _ (by decide +kernel)) ggX6_wearOf_X6_criesWith
set_option maxRecDepth 20000 in
theorem ggX6_wearOf_J6_bitCount_0f7a4 : GoodIn wsX6_wearOf wsJ6_bitCount_0f7a4 := goodIn_r _ [14, 15, 16, 17] rfl (by decide +kernel)
set_option maxRecDepth 20000 in
theorem gX6_wearOf_J6_bitCount_0f7a4 : GoodIn wsX6_wearOf (va_wsS RX6 132 yJ6_bitCount_0f7a4 wsJ6_bitCount_0f7a4) := goodIn_app (goodIn_of _ (by decide +kernel)) ggX6_wearOf_J6_bitCount_0f7a4
set_option maxRecDepth 20000 in
theorem ggX6_wearOf_X6_weightOf : GoodIn wsX6_wearOf wsX6_weightOf := goodIn_r _ [21, 22, 23, 24, 25, 7, 26, 27, 46, 47, 48, 49, 50, 51, 52, 53, 54, 55, 56] rfl (by decide +kernel)
set_option maxRecDepth 20000 in
theorem gX6_wearOf_X6_weightOf : GoodIn wsX6_wearOf (wsV RX6 121 RX6 yX6_weightOf wsX6_weightOf) := goodIn_app (goodIn_of _ (by decide +kernel)) ggX6_wearOf_X6_weightOf
set_option maxRecDepth 20000 in
theorem ggX6_wearOf_X6_weighedOf : GoodIn wsX6_wearOf wsX6_weighedOf := goodIn_r _ [31, 32, 23, 24, 25, 7, 26, 27, 46, 47, 48, 49, 50, 51, 52, 53, 54, 55, 56] rfl (by decide +kernel)
set_option maxRecDepth 20000 in
theorem gX6_wearOf_X6_weighedOf : GoodIn wsX6_wearOf (wsV RX6 137 RX6 yX6_weighedOf wsX6_weighedOf) := goodIn_app (goodIn_of _ (by decide +kernel)) ggX6_wearOf_X6_weighedOf
set_option maxRecDepth 20000 in
theorem ggX6_wearOf_X3_wear : GoodIn wsX6_wearOf wsX3_wear := goodIn_r _ [37, 38, 39, 40, 41, 42, 43, 44, 36, 45, 57, 58, 59, 60, 61] rfl (by decide +kernel)
set_option maxRecDepth 20000 in
theorem gX6_wearOf_X3_wear : GoodIn wsX6_wearOf (wsV RX6 140 RX3 yX3_wear wsX3_wear) := goodIn_app (goodIn_of _ (by decide +kernel)) ggX6_wearOf_X3_wear
set_option maxRecDepth 20000 in
theorem ggX6_standingOf_X6_weightOf : GoodIn wsX6_standingOf wsX6_weightOf := goodIn_r _ [7, 8, 9, 10, 11, 6, 12, 13, 17, 18, 19, 20, 21, 22, 23, 24, 25, 26, 27] rfl (by decide +kernel)
set_option maxRecDepth 20000 in
theorem gX6_standingOf_X6_weightOf : GoodIn wsX6_standingOf (wsV RX6 121 RX6 yX6_weightOf wsX6_weightOf) := goodIn_app (goodIn_of _ (by decide +kernel)) ggX6_standingOf_X6_weightOf
set_option maxRecDepth 20000 in
theorem ggX6_standingOf_X6_standing : GoodIn wsX6_standingOf wsX6_standing := goodIn_r _ [16] rfl (by decide +kernel)
set_option maxRecDepth 20000 in
theorem gX6_standingOf_X6_standing : GoodIn wsX6_standingOf (va_wsS RX6 145 yX6_standing wsX6_standing) := goodIn_app (goodIn_of _ (by decide +kernel)) ggX6_standingOf_X6_standing
set_option maxRecDepth 20000 in
theorem ggX6_weigh_X6_isThing : GoodIn wsX6_weigh wsX6_isThing := goodIn_r _ [8, 9, 37, 38, 39, 40, 41, 42, 43, 44, 45, 46, 47] rfl (by decide +kernel)
set_option maxRecDepth 20000 in
theorem gX6_weigh_X6_isThing : GoodIn wsX6_weigh (wsV RX6 118 RX6 yX6_isThing wsX6_isThing) := goodIn_app (goodIn_of _ (by decide +kernel)) ggX6_weigh_X6_isThing
set_option maxRecDepth 20000 in
theorem ggX6_weigh_X6_standingOf : GoodIn wsX6_weigh wsX6_standingOf := goodIn_r _ [13, 14, 15, 16, 17, 18, 7, 19, 20, 4, 5, 6, 8, 9, 21, 22, 23, 37, 38, 39, 40, 41, 42, 43, 44, 45, 46, 47] rfl (by decide +kernel)
set_option maxRecDepth 20000 in
theorem gX6_weigh_X6_standingOf : GoodIn wsX6_weigh (wsV RX6 149 RX6 yX6_standingOf wsX6_standingOf) := goodIn_app (goodIn_of _ (by decide +kernel)) ggX6_weigh_X6_standingOf
set_option maxRecDepth 20000 in
theorem ggX6_weigh_X6_addNewCry : GoodIn wsX6_weigh wsX6_addNewCry := goodIn_r _ [27, 1, 28, 29, 30, 7, 31, 32, 33, 34, 35, 36, 37, 38, 39, 40, 41, 42, 43, 44, 45, 46, 47] rfl (by decide +kernel)
set_option maxRecDepth 20000 in
theorem gX6_weigh_X6_addNewCry : GoodIn wsX6_weigh (wsV RX6 152 RX6 yX6_addNewCry wsX6_addNewCry) := goodIn_app (goodIn_of _ (by decide +kernel)) ggX6_weigh_X6_addNewCry
set_option maxRecDepth 20000 in
theorem ggX6_addNewCry_X6_cryPart : GoodIn wsX6_addNewCry wsX6_cryPart := goodIn_r _ [6, 1, 7, 12, 13, 14, 15, 16, 17, 18, 19, 20, 21, 22] rfl (by decide +kernel)
set_option maxRecDepth 20000 in
theorem gX6_addNewCry_X6_cryPart : GoodIn wsX6_addNewCry (wsV RX6 125 RX6 yX6_cryPart wsX6_cryPart) := goodIn_app (goodIn_of _ (by decide +kernel)) ggX6_addNewCry_X6_cryPart
set_option maxRecDepth 20000 in
theorem ggX6_addNewCry_X6_addCry : GoodIn wsX6_addNewCry wsX6_addCry := goodIn_r _ [11, 1, 7, 12, 13, 14, 15, 16, 17, 18, 19, 20, 21, 22] rfl (by decide +kernel)
set_option maxRecDepth 20000 in
theorem gX6_addNewCry_X6_addCry : GoodIn wsX6_addNewCry (wsV RX6 114 RX6 yX6_addCry wsX6_addCry) := goodIn_app (goodIn_of _ (by decide +kernel)) ggX6_addNewCry_X6_addCry
set_option maxRecDepth 20000 in
theorem ggX6_fatten_X6_isThing : GoodIn wsX6_fatten wsX6_isThing := goodIn_r _ [10, 11, 12, 13, 14, 15, 16, 17, 18, 19, 20, 21, 22] rfl (by decide +kernel)
set_option maxRecDepth 20000 in
theorem gX6_fatten_X6_isThing : GoodIn wsX6_fatten (wsV RX6 118 RX6 yX6_isThing wsX6_isThing) := goodIn_app (goodIn_of _ (by decide +kernel)) ggX6_fatten_X6_isThing
set_option maxRecDepth 20000 in
theorem ggX6_passDay_X6_wearOf : GoodIn wsX6_passDay wsX6_wearOf := goodIn_r _ [13, 8, 14, 15, 16, 17, 18, 12, 19, 20, 21, 22, 23, 24, 25, 26, 27, 28, 29, 30, 31, 32, 3, 33, 34, 35, 36, 1, 37, 38, 39, 40, 41, 42, 43, 44, 45, 46, 47, 48, 49, 50, 51, 52, 53, 54, 55, 56, 57, 58, 59, 60, 61, 62, 63, 64, 65, 66, 67, 68, 69, 70] rfl (by decide +kernel)
set_option maxRecDepth 20000 in
theorem gX6_passDay_X6_wearOf : GoodIn wsX6_passDay (wsV RX6 161 RX6 yX6_wearOf wsX6_wearOf) := goodIn_app (goodIn_of _ (by decide +kernel)) ggX6_passDay_X6_wearOf
set_option maxRecDepth 20000 in
theorem ggX7_hasMore_X7_peek : GoodIn wsX7_hasMore wsX7_peek := goodIn_r _ [5, 6, 7, 8, 9, 10, 11, 12, 13, 14, 15, 16, 17] rfl (by decide +kernel)
set_option maxRecDepth 20000 in
theorem gX7_hasMore_X7_peek : GoodIn wsX7_hasMore (wsV RX7 34 RX7 yX7_peek wsX7_peek) := goodIn_app (goodIn_of _ (by decide +kernel)) ggX7_hasMore_X7_peek
set_option maxRecDepth 20000 in
theorem ggX7_takeSign_X7_peek : GoodIn wsX7_takeSign wsX7_peek := goodIn_r _ [7, 2, 8, 9, 1, 16, 17, 18, 19, 20, 21, 22, 23] rfl (by decide +kernel)
set_option maxRecDepth 20000 in
theorem gX7_takeSign_X7_peek : GoodIn wsX7_takeSign (wsV RX7 34 RX7 yX7_peek wsX7_peek) := goodIn_app (goodIn_of _ (by decide +kernel)) ggX7_takeSign_X7_peek
set_option maxRecDepth 20000 in
theorem ggX7_takeSign_X7_fail : GoodIn wsX7_takeSign wsX7_fail := goodIn_r _ [13, 14, 15, 16, 17, 18, 19, 20, 21, 22, 23] rfl (by decide +kernel)
set_option maxRecDepth 20000 in
theorem gX7_takeSign_X7_fail : GoodIn wsX7_takeSign (wsV RX7 38 RX7 yX7_fail wsX7_fail) := goodIn_app (goodIn_of _ (by decide +kernel)) ggX7_takeSign_X7_fail
set_option maxRecDepth 20000 in
theorem ggX7_takeNumber_X7_peek : GoodIn wsX7_takeNumber wsX7_peek := goodIn_r _ [14, 3, 4, 15, 1, 29, 30, 31, 32, 33, 34, 35, 36] rfl (by decide +kernel)
set_option maxRecDepth 20000 in
theorem gX7_takeNumber_X7_peek : GoodIn wsX7_takeNumber (wsV RX7 34 RX7 yX7_peek wsX7_peek) := goodIn_app (goodIn_of _ (by decide +kernel)) ggX7_takeNumber_X7_peek
set_option maxRecDepth 20000 in
theorem ggX7_takeNumber_X7_isDigit : GoodIn wsX7_takeNumber wsX7_isDigit := goodIn_r _ [18] rfl (by decide +kernel)
set_option maxRecDepth 20000 in
theorem gX7_takeNumber_X7_isDigit : GoodIn wsX7_takeNumber (va_wsS RX7 42 yX7_isDigit wsX7_isDigit) := goodIn_app (goodIn_of _ (by decide +kernel)) ggX7_takeNumber_X7_isDigit
set_option maxRecDepth 20000 in
theorem ggX7_takeNumber_X7_fail : GoodIn wsX7_takeNumber wsX7_fail := goodIn_r _ [22, 23, 24, 29, 30, 31, 32, 33, 34, 35, 36] rfl (by decide +kernel)
set_option maxRecDepth 20000 in
theorem gX7_takeNumber_X7_fail : GoodIn wsX7_takeNumber (wsV RX7 38 RX7 yX7_fail wsX7_fail) := goodIn_app (goodIn_of _ (by decide +kernel)) ggX7_takeNumber_X7_fail
set_option maxRecDepth 20000 in
theorem ggX7_takeNumber_X7_byteAt : GoodIn wsX7_takeNumber wsX7_byteAt := goodIn_r _ [28, 4, 15, 29, 30, 31, 32, 33, 34, 35, 36] rfl (by decide +kernel)
set_option maxRecDepth 20000 in
theorem gX7_takeNumber_X7_byteAt : GoodIn wsX7_takeNumber (wsV RX7 49 RX7 yX7_byteAt wsX7_byteAt) := goodIn_app (goodIn_of _ (by decide +kernel)) ggX7_takeNumber_X7_byteAt
set_option maxRecDepth 20000 in
theorem ggX7_takeOther_X7_takeNumber : GoodIn wsX7_takeOther wsX7_takeNumber := goodIn_r _ [7, 2, 1, 8, 9, 10, 11, 12, 13, 14, 15, 16, 17, 6, 18, 19, 20, 21, 22, 23, 24, 25, 26, 27, 28, 29, 30, 31, 32, 33, 34, 35, 36, 37, 38, 39, 40] rfl (by decide +kernel)
set_option maxRecDepth 20000 in
theorem gX7_takeOther_X7_takeNumber : GoodIn wsX7_takeOther (wsV RX7 60 RX7 yX7_takeNumber wsX7_takeNumber) := goodIn_app (goodIn_of _ (by decide +kernel)) ggX7_takeOther_X7_takeNumber
set_option maxRecDepth 20000 in
theorem ggX7_takeOther_X7_fail : GoodIn wsX7_takeOther wsX7_fail := goodIn_r _ [26, 27, 28, 33, 34, 35, 36, 37, 38, 39, 40] rfl (by decide +kernel)
set_option maxRecDepth 20000 in
theorem gX7_takeOther_X7_fail : GoodIn wsX7_takeOther (wsV RX7 38 RX7 yX7_fail wsX7_fail) := goodIn_app (goodIn_of _ (by decide +kernel)) ggX7_takeOther_X7_fail
set_option maxRecDepth 20000 in
theorem ggX7_takeWord_X7_peek : GoodIn wsX7_takeWord wsX7_peek := goodIn_r _ [8, 1, 2, 9, 3, 23, 24, 25, 26, 27, 28, 29, 30] rfl (by decide +kernel)
set_option maxRecDepth 20000 in
theorem gX7_takeWord_X7_peek : GoodIn wsX7_takeWord (wsV RX7 34 RX7 yX7_peek wsX7_peek) := goodIn_app (goodIn_of _ (by decide +kernel)) ggX7_takeWord_X7_peek
set_option maxRecDepth 20000 in
theorem ggX7_takeWord_X7_byteAt : GoodIn wsX7_takeWord wsX7_byteAt := goodIn_r _ [13, 2, 9, 23, 24, 25, 26, 27, 28, 29, 30] rfl (by decide +kernel)
set_option maxRecDepth 20000 in
theorem gX7_takeWord_X7_byteAt : GoodIn wsX7_takeWord (wsV RX7 49 RX7 yX7_byteAt wsX7_byteAt) := goodIn_app (goodIn_of _ (by decide +kernel)) ggX7_takeWord_X7_byteAt
set_option maxRecDepth 20000 in
theorem ggX7_takeWord_X7_isLetter : GoodIn wsX7_takeWord wsX7_isLetter := goodIn_r _ [16] rfl (by decide +kernel)
set_option maxRecDepth 20000 in
theorem gX7_takeWord_X7_isLetter : GoodIn wsX7_takeWord (va_wsS RX7 63 yX7_isLetter wsX7_isLetter) := goodIn_app (goodIn_of _ (by decide +kernel)) ggX7_takeWord_X7_isLetter
set_option maxRecDepth 20000 in
theorem ggX7_takeWord_X7_fail : GoodIn wsX7_takeWord wsX7_fail := goodIn_r _ [20, 21, 22, 23, 24, 25, 26, 27, 28, 29, 30] rfl (by decide +kernel)
set_option maxRecDepth 20000 in
theorem gX7_takeWord_X7_fail : GoodIn wsX7_takeWord (wsV RX7 38 RX7 yX7_fail wsX7_fail) := goodIn_app (goodIn_of _ (by decide +kernel)) ggX7_takeWord_X7_fail
set_option maxRecDepth 20000 in
theorem ggX7_wordIs_J0_length_8abf5 : GoodIn wsX7_wordIs wsJ0_length_8abf5 := goodIn_r _ [7, 8, 9, 10, 11, 6, 12, 13, 14] rfl (by decide +kernel)
set_option maxRecDepth 20000 in
theorem gX7_wordIs_J0_length_8abf5 : GoodIn wsX7_wordIs (wsV RX7 66 RJ0 yJ0_length_8abf5 wsJ0_length_8abf5) := goodIn_app (goodIn_of _ (by decide +kernel)) ggX7_wordIs_J0_length_8abf5
set_option maxRecDepth 20000 in
theorem ggX7_wordIs_X7_byteAt : GoodIn wsX7_wordIs wsX7_byteAt := goodIn_r _ [19, 20, 21, 59, 60, 61, 62, 63, 64, 65, 66] rfl (by decide +kernel)
set_option maxRecDepth 20000 in
theorem gX7_wordIs_X7_byteAt : GoodIn wsX7_wordIs (wsV RX7 49 RX7 yX7_byteAt wsX7_byteAt) := goodIn_app (goodIn_of _ (by decide +kernel)) ggX7_wordIs_X7_byteAt
set_option maxRecDepth 20000 in
theorem ggX7_wordIs_J0_charAt_5068e : GoodIn wsX7_wordIs wsJ0_charAt_5068e := goodIn_r _ [25, 8, 26, 27, 28, 6, 29, 13, 14, 30, 31, 32, 33, 34, 35, 36, 37, 38, 39, 40, 41, 42, 43, 44, 45, 46, 47, 48, 49, 50, 51, 52, 53, 54, 55, 56, 57, 58] rfl (by decide +kernel)
set_option maxRecDepth 20000 in
theorem gX7_wordIs_J0_charAt_5068e : GoodIn wsX7_wordIs (wsV RX7 70 RJ0 yJ0_charAt_5068e wsJ0_charAt_5068e) := goodIn_app (goodIn_of _ (by decide +kernel)) ggX7_wordIs_J0_charAt_5068e
set_option maxRecDepth 20000 in
theorem ggX8_readFrom_X8_readSteps : GoodIn wsX8_readFrom wsX8_readSteps := goodIn_r _ [6, 7, 8, 9, 10, 11, 12, 13, 14, 15, 16, 17, 18, 19, 20, 21, 22, 23, 5, 24, 25, 26, 27, 28, 29, 30, 31, 32, 33, 34, 1, 35, 36, 37, 38, 39, 40, 41, 42, 43, 44, 45, 46, 47, 48, 49, 50, 51, 52, 53, 54, 55, 56, 57, 58, 59, 60, 61, 2, 3, 4, 62, 63, 64, 65, 66, 67, 68, 69, 70, 71, 72, 73, 74, 75, 76, 77, 78, 79, 80, 81, 82, 83, 84, 85, 86, 87, 88, 89, 90, 91, 92, 93, 94, 95, 96, 97, 98, 99, 100, 101, 102, 103, 104, 105, 106, 107, 108, 109, 110, 111, 112, 113, 114, 115, 116, 117, 118, 119, 120, 121, 122, 123, 124, 125, 126, 127, 128, 129, 130, 131, 132, 133, 134, 135, 136, 137, 138, 139, 140, 141, 142, 143, 144, 145, 146, 147, 148, 149, 150, 151, 152, 153, 154, 155, 156, 157] rfl (by decide +kernel)
set_option maxRecDepth 20000 in
theorem gX8_readFrom_X8_readSteps : GoodIn wsX8_readFrom (wsV RX8 19 RX8 yX8_readSteps wsX8_readSteps) := goodIn_app (goodIn_of _ (by decide +kernel)) ggX8_readFrom_X8_readSteps
set_option maxRecDepth 20000 in
theorem ggX8_readSteps_X7_hasMore : GoodIn wsX8_readSteps wsX7_hasMore := goodIn_r _ [5, 6, 7, 8, 4, 9, 10, 11, 12, 13, 149, 150, 151, 152, 153, 154, 155, 156] rfl (by decide +kernel)
set_option maxRecDepth 20000 in
theorem gX8_readSteps_X7_hasMore : GoodIn wsX8_readSteps (wsV RX8 23 RX7 yX7_hasMore wsX7_hasMore) := goodIn_app (goodIn_of _ (by decide +kernel)) ggX8_readSteps_X7_hasMore
set_option maxRecDepth 20000 in
theorem ggX8_readSteps_X7_peek : GoodIn wsX8_readSteps wsX7_peek := goodIn_r _ [9, 10, 11, 12, 13, 149, 150, 151, 152, 153, 154, 155, 156] rfl (by decide +kernel)
set_option maxRecDepth 20000 in
theorem gX8_readSteps_X7_peek : GoodIn wsX8_readSteps (wsV RX8 29 RX7 yX7_peek wsX7_peek) := goodIn_app (goodIn_of _ (by decide +kernel)) ggX8_readSteps_X7_peek
set_option maxRecDepth 20000 in
theorem ggX8_readSteps_X8_readStep : GoodIn wsX8_readSteps wsX8_readStep := goodIn_r _ [61, 30, 62, 63, 64, 65, 4, 66, 10, 11, 13, 6, 7, 8, 9, 12, 49, 50, 51, 52, 67, 68, 69, 23, 24, 25, 26, 27, 28, 70, 71, 72, 73, 74, 75, 76, 77, 78, 79, 80, 81, 82, 83, 84, 85, 86, 87, 88, 89, 90, 91, 92, 93, 94, 95, 96, 97, 98, 99, 100, 101, 102, 103, 104, 105, 106, 107, 108, 109, 110, 111, 112, 113, 114, 115, 116, 117, 118, 119, 120, 121, 122, 123, 124, 125, 18, 126, 53, 54, 55, 56, 57, 127, 128, 129, 130, 35, 31, 32, 33, 34, 36, 37, 38, 39, 40, 41, 42, 43, 44, 45, 46, 47, 48, 131, 132, 133, 134, 135, 136, 137, 138, 139, 140, 141, 142, 143, 29, 19, 20, 21, 22, 58, 59, 60, 0, 1, 2, 3, 5, 14, 15, 16, 17, 144, 145, 146, 147, 148, 149, 150, 151, 152, 153, 154, 155, 156] rfl (by decide +kernel)
set_option maxRecDepth 20000 in
theorem gX8_readSteps_X8_readStep : GoodIn wsX8_readSteps (wsV RX8 33 RX8 yX8_readStep wsX8_readStep) := goodIn_app (goodIn_of _ (by decide +kernel)) ggX8_readSteps_X8_readStep
set_option maxRecDepth 20000 in
theorem ggX8_readSteps_X7_takeSign : GoodIn wsX8_readSteps wsX7_takeSign := goodIn_r _ [22, 13, 10, 6, 7, 8, 4, 9, 11, 12, 23, 24, 25, 26, 27, 28, 149, 150, 151, 152, 153, 154, 155, 156] rfl (by decide +kernel)
set_option maxRecDepth 20000 in
theorem gX8_readSteps_X7_takeSign : GoodIn wsX8_readSteps (wsV RX8 36 RX7 yX7_takeSign wsX7_takeSign) := goodIn_app (goodIn_of _ (by decide +kernel)) ggX8_readSteps_X7_takeSign
set_option maxRecDepth 20000 in
theorem ggX8_readStep_X7_takeWord : GoodIn wsX8_readStep wsX7_takeWord := goodIn_r _ [7, 8, 9, 10, 11, 12, 13, 6, 14, 15, 16, 17, 18, 19, 20, 21, 22, 23, 24, 25, 26, 27, 28, 149, 150, 151, 152, 153, 154, 155, 156] rfl (by decide +kernel)
set_option maxRecDepth 20000 in
theorem gX8_readStep_X7_takeWord : GoodIn wsX8_readStep (wsV RX8 40 RX7 yX7_takeWord wsX7_takeWord) := goodIn_app (goodIn_of _ (by decide +kernel)) ggX8_readStep_X7_takeWord
set_option maxRecDepth 20000 in
theorem ggX8_readStep_X7_wordIs : GoodIn wsX8_readStep wsX7_wordIs := goodIn_r _ [32, 8, 10, 33, 34, 35, 36, 37, 38, 39, 40, 41, 42, 43, 44, 16, 17, 18, 6, 19, 9, 15, 45, 46, 47, 48, 49, 50, 51, 52, 53, 54, 55, 56, 57, 58, 59, 60, 61, 62, 63, 64, 65, 66, 67, 68, 69, 70, 71, 72, 73, 74, 75, 76, 77, 78, 79, 80, 81, 149, 150, 151, 152, 153, 154, 155, 156] rfl (by decide +kernel)
set_option maxRecDepth 20000 in
theorem gX8_readStep_X7_wordIs : GoodIn wsX8_readStep (wsV RX8 45 RX7 yX7_wordIs wsX7_wordIs) := goodIn_app (goodIn_of _ (by decide +kernel)) ggX8_readStep_X7_wordIs
set_option maxRecDepth 20000 in
theorem ggX8_readStep_X8_add : GoodIn wsX8_readStep wsX8_add := goodIn_r _ [86, 1, 87, 88, 89, 85, 90, 91, 144, 145, 146, 147, 148] rfl (by decide +kernel)
set_option maxRecDepth 20000 in
theorem gX8_readStep_X8_add : GoodIn wsX8_readStep (wsV RX8 49 RX8 yX8_add wsX8_add) := goodIn_app (goodIn_of _ (by decide +kernel)) ggX8_readStep_X8_add
set_option maxRecDepth 20000 in
theorem ggX8_readStep_X8_readWeigh : GoodIn wsX8_readStep wsX8_readWeigh := goodIn_r _ [95, 96, 97, 98, 99, 85, 100, 101, 102, 103, 6, 104, 10, 105, 8, 9, 106, 107, 108, 109, 110, 11, 12, 13, 14, 15, 111, 112, 113, 23, 24, 25, 26, 27, 28, 16, 17, 18, 19, 87, 88, 89, 90, 91, 114, 115, 116, 117, 118, 119, 120, 121, 122, 149, 150, 151, 152, 153, 154, 155, 156, 144, 145, 146, 147, 148] rfl (by decide +kernel)
set_option maxRecDepth 20000 in
theorem gX8_readStep_X8_readWeigh : GoodIn wsX8_readStep (wsV RX8 52 RX8 yX8_readWeigh wsX8_readWeigh) := goodIn_app (goodIn_of _ (by decide +kernel)) ggX8_readStep_X8_readWeigh
set_option maxRecDepth 20000 in
theorem ggX8_readStep_X8_readPart : GoodIn wsX8_readStep wsX8_readPart := goodIn_r _ [100, 96, 101, 102, 103, 6, 104, 10, 105, 8, 9, 106, 107, 108, 109, 110, 11, 12, 13, 14, 15, 111, 112, 113, 23, 24, 25, 26, 27, 28, 16, 17, 18, 19, 87, 88, 89, 85, 90, 91, 149, 150, 151, 152, 153, 154, 155, 156, 144, 145, 146, 147, 148] rfl (by decide +kernel)
set_option maxRecDepth 20000 in
theorem gX8_readStep_X8_readPart : GoodIn wsX8_readStep (wsV RX8 57 RX8 yX8_readPart wsX8_readPart) := goodIn_app (goodIn_of _ (by decide +kernel)) ggX8_readStep_X8_readPart
set_option maxRecDepth 20000 in
theorem ggX8_readStep_X7_fail : GoodIn wsX8_readStep wsX7_fail := goodIn_r _ [26, 27, 28, 149, 150, 151, 152, 153, 154, 155, 156] rfl (by decide +kernel)
set_option maxRecDepth 20000 in
theorem gX8_readStep_X7_fail : GoodIn wsX8_readStep (wsV RX8 72 RX7 yX7_fail wsX7_fail) := goodIn_app (goodIn_of _ (by decide +kernel)) ggX8_readStep_X7_fail
set_option maxRecDepth 20000 in
theorem ggX8_readStep_X8_readAgain : GoodIn wsX8_readStep wsX8_readAgain := goodIn_r _ [127, 1, 97, 98, 99, 85, 100, 96, 101, 102, 103, 6, 104, 10, 105, 8, 9, 106, 107, 108, 109, 110, 11, 12, 13, 14, 15, 111, 112, 113, 23, 24, 25, 26, 27, 28, 16, 17, 18, 19, 87, 88, 89, 90, 91, 128, 129, 130, 131, 132, 133, 134, 0, 2, 3, 4, 5, 7, 20, 21, 22, 29, 30, 31, 32, 33, 34, 35, 36, 37, 38, 39, 40, 41, 42, 43, 44, 45, 46, 47, 48, 49, 50, 51, 52, 53, 54, 55, 56, 57, 58, 59, 60, 61, 62, 63, 64, 65, 66, 67, 68, 69, 70, 71, 72, 73, 74, 75, 76, 77, 78, 79, 80, 81, 82, 83, 84, 86, 92, 93, 94, 95, 114, 115, 116, 117, 118, 119, 120, 121, 122, 123, 124, 125, 126, 135, 136, 137, 138, 139, 140, 141, 142, 143, 144, 145, 146, 147, 148, 149, 150, 151, 152, 153, 154, 155, 156] rfl (by decide +kernel)
set_option maxRecDepth 20000 in
theorem gX8_readStep_X8_readAgain : GoodIn wsX8_readStep (wsV RX8 76 RX8 yX8_readAgain wsX8_readAgain) := goodIn_app (goodIn_of _ (by decide +kernel)) ggX8_readStep_X8_readAgain
set_option maxRecDepth 20000 in
theorem ggX8_readWeigh_X8_readPart : GoodIn wsX8_readWeigh wsX8_readPart := goodIn_r _ [6, 1, 7, 8, 9, 10, 11, 12, 13, 14, 15, 16, 17, 18, 19, 20, 21, 22, 23, 24, 25, 26, 27, 28, 29, 30, 31, 32, 33, 34, 35, 36, 37, 38, 39, 40, 41, 5, 42, 43, 53, 54, 55, 56, 57, 58, 59, 60, 61, 62, 63, 64, 65] rfl (by decide +kernel)
set_option maxRecDepth 20000 in
theorem gX8_readWeigh_X8_readPart : GoodIn wsX8_readWeigh (wsV RX8 57 RX8 yX8_readPart wsX8_readPart) := goodIn_app (goodIn_of _ (by decide +kernel)) ggX8_readWeigh_X8_readPart
set_option maxRecDepth 20000 in
theorem ggX8_readWeigh_X8_part : GoodIn wsX8_readWeigh wsX8_part := goodIn_r _ [47, 43, 61, 62, 63, 64, 65] rfl (by decide +kernel)
set_option maxRecDepth 20000 in
theorem gX8_readWeigh_X8_part : GoodIn wsX8_readWeigh (wsV RX8 80 RX8 yX8_part wsX8_part) := goodIn_app (goodIn_of _ (by decide +kernel)) ggX8_readWeigh_X8_part
set_option maxRecDepth 20000 in
theorem ggX8_readWeigh_X7_takeOther : GoodIn wsX8_readWeigh wsX7_takeOther := goodIn_r _ [51, 13, 12, 52, 8, 9, 10, 11, 14, 15, 16, 17, 18, 19, 20, 21, 22, 23, 24, 25, 26, 27, 28, 29, 30, 31, 32, 33, 34, 35, 36, 37, 38, 53, 54, 55, 56, 57, 58, 59, 60] rfl (by decide +kernel)
set_option maxRecDepth 20000 in
theorem gX8_readWeigh_X7_takeOther : GoodIn wsX8_readWeigh (wsV RX8 84 RX7 yX7_takeOther wsX7_takeOther) := goodIn_app (goodIn_of _ (by decide +kernel)) ggX8_readWeigh_X7_takeOther
set_option maxRecDepth 20000 in
theorem ggX8_readWeigh_X8_put : GoodIn wsX8_readWeigh wsX8_put := goodIn_r _ [42, 43, 61, 62, 63, 64, 65] rfl (by decide +kernel)
set_option maxRecDepth 20000 in
theorem gX8_readWeigh_X8_put : GoodIn wsX8_readWeigh (wsV RX8 90 RX8 yX8_put wsX8_put) := goodIn_app (goodIn_of _ (by decide +kernel)) ggX8_readWeigh_X8_put
set_option maxRecDepth 20000 in
theorem ggX8_readAgain_X8_readPart : GoodIn wsX8_readAgain wsX8_readPart := goodIn_r _ [6, 7, 8, 9, 10, 11, 12, 13, 14, 15, 16, 17, 18, 19, 20, 21, 22, 23, 24, 25, 26, 27, 28, 29, 30, 31, 32, 33, 34, 35, 36, 37, 38, 39, 40, 41, 42, 5, 43, 44, 149, 150, 151, 152, 153, 154, 155, 156, 144, 145, 146, 147, 148] rfl (by decide +kernel)
set_option maxRecDepth 20000 in
theorem gX8_readAgain_X8_readPart : GoodIn wsX8_readAgain (wsV RX8 57 RX8 yX8_readPart wsX8_readPart) := goodIn_app (goodIn_of _ (by decide +kernel)) ggX8_readAgain_X8_readPart
set_option maxRecDepth 20000 in
theorem ggX8_readAgain_X7_takeSign : GoodIn wsX8_readAgain wsX7_takeSign := goodIn_r _ [48, 13, 15, 22, 23, 24, 11, 25, 16, 26, 30, 31, 32, 33, 34, 35, 149, 150, 151, 152, 153, 154, 155, 156] rfl (by decide +kernel)
set_option maxRecDepth 20000 in
theorem gX8_readAgain_X7_takeSign : GoodIn wsX8_readAgain (wsV RX8 36 RX7 yX7_takeSign wsX7_takeSign) := goodIn_app (goodIn_of _ (by decide +kernel)) ggX8_readAgain_X7_takeSign
set_option maxRecDepth 20000 in
theorem ggX8_readAgain_X8_readSteps : GoodIn wsX8_readAgain wsX8_readSteps := goodIn_r _ [135, 136, 137, 138, 11, 139, 22, 23, 24, 25, 15, 16, 26, 13, 140, 141, 142, 143, 5, 45, 46, 47, 48, 30, 31, 32, 33, 34, 35, 0, 1, 2, 3, 4, 6, 7, 8, 9, 10, 12, 14, 17, 18, 19, 20, 21, 27, 28, 29, 36, 37, 38, 39, 40, 41, 42, 43, 44, 49, 50, 51, 52, 53, 54, 55, 56, 57, 58, 59, 60, 61, 62, 63, 64, 65, 66, 67, 68, 69, 70, 71, 72, 73, 74, 75, 76, 77, 78, 79, 80, 81, 82, 83, 84, 85, 86, 87, 88, 89, 90, 91, 92, 93, 94, 95, 96, 97, 98, 99, 100, 101, 102, 103, 104, 105, 106, 107, 108, 109, 110, 111, 112, 113, 114, 115, 116, 117, 118, 119, 120, 121, 122, 123, 124, 125, 126, 127, 128, 129, 130, 131, 132, 133, 134, 144, 145, 146, 147, 148, 149, 150, 151, 152, 153, 154, 155, 156] rfl (by decide +kernel)
set_option maxRecDepth 20000 in
theorem gX8_readAgain_X8_readSteps : GoodIn wsX8_readAgain (wsV RX8 19 RX8 yX8_readSteps wsX8_readSteps) := goodIn_app (goodIn_of _ (by decide +kernel)) ggX8_readAgain_X8_readSteps
set_option maxRecDepth 20000 in
theorem ggX8_readAgain_X8_put : GoodIn wsX8_readAgain wsX8_put := goodIn_r _ [43, 44, 144, 145, 146, 147, 148] rfl (by decide +kernel)
set_option maxRecDepth 20000 in
theorem gX8_readAgain_X8_put : GoodIn wsX8_readAgain (wsV RX8 90 RX8 yX8_put wsX8_put) := goodIn_app (goodIn_of _ (by decide +kernel)) ggX8_readAgain_X8_put
set_option maxRecDepth 20000 in
theorem ggX8_readPart_X7_takeNumber : GoodIn wsX8_readPart wsX7_takeNumber := goodIn_r _ [6, 7, 8, 9, 10, 11, 12, 13, 14, 15, 16, 17, 18, 5, 19, 20, 21, 22, 23, 24, 25, 26, 27, 28, 29, 30, 31, 32, 33, 40, 41, 42, 43, 44, 45, 46, 47] rfl (by decide +kernel)
set_option maxRecDepth 20000 in
theorem gX8_readPart_X7_takeNumber : GoodIn wsX8_readPart (wsV RX8 94 RX7 yX7_takeNumber wsX7_takeNumber) := goodIn_app (goodIn_of _ (by decide +kernel)) ggX8_readPart_X7_takeNumber
set_option maxRecDepth 20000 in
theorem ggX8_readPart_X8_put : GoodIn wsX8_readPart wsX8_put := goodIn_r _ [38, 39, 48, 49, 50, 51, 52] rfl (by decide +kernel)
set_option maxRecDepth 20000 in
theorem gX8_readPart_X8_put : GoodIn wsX8_readPart (wsV RX8 90 RX8 yX8_put wsX8_put) := goodIn_app (goodIn_of _ (by decide +kernel)) ggX8_readPart_X8_put
set_option maxRecDepth 20000 in
theorem ggX8_add_X8_put : GoodIn wsX8_add wsX8_put := goodIn_r _ [6, 7, 8, 9, 10, 11, 12] rfl (by decide +kernel)
set_option maxRecDepth 20000 in
theorem gX8_add_X8_put : GoodIn wsX8_add (wsV RX8 90 RX8 yX8_put wsX8_put) := goodIn_app (goodIn_of _ (by decide +kernel)) ggX8_add_X8_put
set_option maxRecDepth 20000 in
theorem ggX8_doAll_X8_doSteps : GoodIn wsX8_doAll wsX8_doSteps := goodIn_r _ [9, 1, 2, 3, 10, 11, 12, 8, 13, 14, 5, 6, 7, 15, 16, 17, 18, 19, 20, 21, 22, 23, 24, 25, 26, 27, 28, 29, 30, 31, 32, 33, 34, 35, 36, 37, 38, 39, 40, 41, 42, 43, 44, 45, 46, 47, 48, 49, 50, 51, 52, 53, 54, 55, 56, 57, 58, 59, 60, 61, 62, 63, 64, 65, 66, 67, 68, 69, 70, 71, 72, 73, 74, 75, 76, 77, 78, 79, 80, 81, 82, 83, 84, 85, 86, 87, 88, 89, 90, 91, 92, 93, 94, 95, 96, 97, 98, 99, 100, 101, 102, 103, 104, 105, 106, 107, 108, 109, 110, 111, 112, 113, 114, 115, 116, 117, 118, 119, 120, 121, 122, 123, 124, 125, 126, 127, 128, 129, 130, 131, 132, 133, 134, 135, 136, 137, 138, 139, 140, 141] rfl (by decide +kernel)
set_option maxRecDepth 20000 in
theorem gX8_doAll_X8_doSteps : GoodIn wsX8_doAll (wsV RX8 106 RX8 yX8_doSteps wsX8_doSteps) := goodIn_app (goodIn_of _ (by decide +kernel)) ggX8_doAll_X8_doSteps
set_option maxRecDepth 20000 in
theorem ggX8_doSteps_X8_part : GoodIn wsX8_doSteps wsX8_part := goodIn_r _ [8, 9, 119, 120, 121, 122, 123] rfl (by decide +kernel)
set_option maxRecDepth 20000 in
theorem gX8_doSteps_X8_part : GoodIn wsX8_doSteps (wsV RX8 80 RX8 yX8_part wsX8_part) := goodIn_app (goodIn_of _ (by decide +kernel)) ggX8_doSteps_X8_part
set_option maxRecDepth 20000 in
theorem ggX8_doSteps_X8_doSteps : GoodIn wsX8_doSteps wsX8_doSteps := goodIn_r _ [0, 1, 2, 3, 4, 5, 6, 7, 8, 9, 10, 11, 12, 13, 14, 15, 16, 17, 18, 19, 20, 21, 22, 23, 24, 25, 26, 27, 28, 29, 30, 31, 32, 33, 34, 35, 36, 37, 38, 39, 40, 41, 42, 43, 44, 45, 46, 47, 48, 49, 50, 51, 52, 53, 54, 55, 56, 57, 58, 59, 60, 61, 62, 63, 64, 65, 66, 67, 68, 69, 70, 71, 72, 73, 74, 75, 76, 77, 78, 79, 80, 81, 82, 83, 84, 85, 86, 87, 88, 89, 90, 91, 92, 93, 94, 95, 96, 97, 98, 99, 100, 101, 102, 103, 104, 105, 106, 107, 108, 109, 110, 111, 112, 113, 114, 115, 116, 117, 118, 119, 120, 121, 122, 123, 124, 125, 126, 127, 128, 129, 130, 131, 132, 133, 134, 135, 136, 137, 138, 139] rfl (by decide +kernel)
set_option maxRecDepth 20000 in
theorem gX8_doSteps_X8_doSteps : GoodIn wsX8_doSteps (wsV RX8 106 RX8 yX8_doSteps wsX8_doSteps) := goodIn_app (goodIn_of _ (by decide +kernel)) ggX8_doSteps_X8_doSteps
set_option maxRecDepth 20000 in
theorem ggX8_doSteps_X8_doStep : GoodIn wsX8_doSteps wsX8_doStep := goodIn_r _ [16, 17, 4, 5, 6, 7, 8, 9, 18, 19, 20, 21, 22, 23, 24, 25, 26, 27, 28, 29, 30, 31, 32, 33, 34, 35, 36, 37, 38, 39, 40, 41, 42, 43, 44, 45, 46, 47, 48, 49, 50, 51, 52, 53, 54, 55, 56, 57, 58, 59, 60, 61, 62, 63, 64, 65, 66, 67, 68, 69, 70, 71, 72, 73, 74, 75, 76, 77, 78, 79, 80, 81, 82, 83, 84, 85, 86, 87, 88, 89, 90, 91, 92, 93, 94, 95, 96, 97, 98, 99, 100, 101, 102, 103, 104, 105, 106, 107, 108, 109, 110, 111, 112, 113, 114, 115, 116, 117, 118, 124, 125, 126, 127, 128, 129, 130, 131, 132, 133, 134, 119, 120, 121, 122, 123, 135, 136, 137, 138, 139] rfl (by decide +kernel)
set_option maxRecDepth 20000 in
theorem gX8_doSteps_X8_doStep : GoodIn wsX8_doSteps (wsV RX8 110 RX8 yX8_doStep wsX8_doStep) := goodIn_app (goodIn_of _ (by decide +kernel)) ggX8_doSteps_X8_doStep
set_option maxRecDepth 20000 in
theorem ggX8_doStep_X8_part : GoodIn wsX8_doStep wsX8_part := goodIn_r _ [6, 7, 120, 121, 122, 123, 124] rfl (by decide +kernel)
set_option maxRecDepth 20000 in
theorem gX8_doStep_X8_part : GoodIn wsX8_doStep (wsV RX8 80 RX8 yX8_part wsX8_part) := goodIn_app (goodIn_of _ (by decide +kernel)) ggX8_doStep_X8_part
set_option maxRecDepth 20000 in
theorem ggX8_doStep_X6_weigh : GoodIn wsX8_doStep wsX6_weigh := goodIn_r _ [12, 13, 14, 15, 16, 17, 18, 11, 19, 20, 21, 22, 23, 24, 25, 26, 27, 28, 29, 30, 31, 32, 33, 34, 35, 36, 37, 38, 39, 40, 41, 42, 43, 44, 45, 46, 47, 109, 110, 111, 112, 113, 114, 115, 116, 117, 118, 119] rfl (by decide +kernel)
set_option maxRecDepth 20000 in
theorem gX8_doStep_X6_weigh : GoodIn wsX8_doStep (wsV RX8 114 RX6 yX6_weigh wsX6_weigh) := goodIn_app (goodIn_of _ (by decide +kernel)) ggX8_doStep_X6_weigh
set_option maxRecDepth 20000 in
theorem ggX8_doStep_X6_tip : GoodIn wsX8_doStep wsX6_tip := goodIn_r _ [51, 13, 43, 52, 53, 54, 55, 109, 110, 111, 112, 113, 114, 115, 116, 117, 118, 119] rfl (by decide +kernel)
set_option maxRecDepth 20000 in
theorem gX8_doStep_X6_tip : GoodIn wsX8_doStep (wsV RX8 119 RX6 yX6_tip wsX6_tip) := goodIn_app (goodIn_of _ (by decide +kernel)) ggX8_doStep_X6_tip
set_option maxRecDepth 20000 in
theorem ggX8_doStep_X6_fatten : GoodIn wsX8_doStep wsX6_fatten := goodIn_r _ [59, 31, 60, 61, 62, 63, 16, 17, 18, 11, 19, 20, 109, 110, 111, 112, 113, 114, 115, 116, 117, 118, 119] rfl (by decide +kernel)
set_option maxRecDepth 20000 in
theorem gX8_doStep_X6_fatten : GoodIn wsX8_doStep (wsV RX8 121 RX6 yX6_fatten wsX6_fatten) := goodIn_app (goodIn_of _ (by decide +kernel)) ggX8_doStep_X6_fatten
set_option maxRecDepth 20000 in
theorem ggX8_doStep_X6_turnBeam : GoodIn wsX8_doStep wsX6_turnBeam := goodIn_r _ [67, 25, 109, 110, 111, 112, 113, 114, 115, 116, 117, 118, 119] rfl (by decide +kernel)
set_option maxRecDepth 20000 in
theorem gX8_doStep_X6_turnBeam : GoodIn wsX8_doStep (wsV RX8 124 RX6 yX6_turnBeam wsX6_turnBeam) := goodIn_app (goodIn_of _ (by decide +kernel)) ggX8_doStep_X6_turnBeam
set_option maxRecDepth 20000 in
theorem ggX8_doStep_X6_passDay : GoodIn wsX8_doStep wsX6_passDay := goodIn_r _ [71, 20, 72, 31, 73, 74, 62, 75, 76, 77, 78, 79, 11, 80, 25, 26, 81, 82, 83, 84, 13, 43, 85, 86, 87, 88, 89, 90, 91, 27, 28, 29, 30, 16, 17, 18, 19, 92, 93, 94, 95, 14, 96, 97, 98, 99, 100, 101, 102, 103, 104, 105, 106, 107, 108, 109, 110, 111, 112, 113, 114, 115, 116, 117, 118, 119, 125, 126, 127, 128, 129] rfl (by decide +kernel)
set_option maxRecDepth 20000 in
theorem gX8_doStep_X6_passDay : GoodIn wsX8_doStep (wsV RX8 129 RX6 yX6_passDay wsX6_passDay) := goodIn_app (goodIn_of _ (by decide +kernel)) ggX8_doStep_X6_passDay
set_option maxRecDepth 20000 in
theorem ggX9_init_X7_init : GoodIn wsX9_init wsX7_init := goodIn_r _ [44, 45, 2, 3, 46, 47, 48, 109, 110, 111, 112, 113, 114, 115, 116] rfl (by decide +kernel)
set_option maxRecDepth 20000 in
theorem gX9_init_X7_init_n9 : GoodIn wsX9_init (wsX7_init) := ggX9_init_X7_init
set_option maxRecDepth 20000 in
theorem ggX9_init_X6_init : GoodIn wsX9_init wsX6_init := goodIn_r _ [50, 51, 2, 3, 52, 53, 54, 55, 56, 57, 58, 132, 133, 134, 135, 136, 137, 138, 139, 140, 141, 142] rfl (by decide +kernel)
set_option maxRecDepth 20000 in
theorem gX9_init_X6_init_n18 : GoodIn wsX9_init (wsX6_init) := ggX9_init_X6_init
set_option maxRecDepth 20000 in
theorem ggX9_init_X8_init : GoodIn wsX9_init wsX8_init := goodIn_r _ [60, 61, 2, 3, 52, 62, 143, 144, 145, 146, 147] rfl (by decide +kernel)
set_option maxRecDepth 20000 in
theorem gX9_init_X8_init_n28 : GoodIn wsX9_init (wsX8_init) := ggX9_init_X8_init
set_option maxRecDepth 20000 in
theorem ggX9_init_X5_init : GoodIn wsX9_init wsX5_init := goodIn_r _ [64, 65, 2, 3, 52, 66, 67, 68, 148, 149, 150, 151, 152] rfl (by decide +kernel)
set_option maxRecDepth 20000 in
theorem gX9_init_X5_init_n35 : GoodIn wsX9_init (wsX5_init) := ggX9_init_X5_init
set_option maxRecDepth 20000 in
theorem ggX9_init_X1_init : GoodIn wsX9_init wsX1_init := goodIn_r _ [70, 71, 2, 3, 52, 72, 153, 154, 155, 156, 157, 158] rfl (by decide +kernel)
set_option maxRecDepth 20000 in
theorem gX9_init_X1_init_n42 : GoodIn wsX9_init (wsX1_init) := ggX9_init_X1_init
set_option maxRecDepth 20000 in
theorem ggX9_init_X4_init : GoodIn wsX9_init wsX4_init := goodIn_r _ [74, 75, 2, 3, 52, 76, 77, 78, 159, 160, 161, 162] rfl (by decide +kernel)
set_option maxRecDepth 20000 in
theorem gX9_init_X4_init_n49 : GoodIn wsX9_init (wsX4_init) := ggX9_init_X4_init
set_option maxRecDepth 20000 in
theorem ggX9_init_X2_init : GoodIn wsX9_init wsX2_init := goodIn_r _ [80, 81, 2, 3, 82, 9, 10, 83, 49, 50, 51, 52, 53, 54, 55, 56, 57, 58, 132, 133, 134, 135, 136, 137, 138, 139, 140, 141, 142, 163, 164] rfl (by decide +kernel)
set_option maxRecDepth 20000 in
theorem gX9_init_X2_init_n56 : GoodIn wsX9_init (wsX2_init) := ggX9_init_X2_init
set_option maxRecDepth 20000 in
theorem ggX9_init_X3_init : GoodIn wsX9_init wsX3_init := goodIn_r _ [86, 87, 2, 3, 52, 88, 89, 90, 91, 92, 93, 94, 35, 95, 96, 97, 98, 99, 100, 165, 166, 167, 168, 169] rfl (by decide +kernel)
set_option maxRecDepth 20000 in
theorem gX9_init_X3_init : GoodIn wsX9_init (wsX3_init) := ggX9_init_X3_init
set_option maxRecDepth 20000 in
theorem ggX9_init_X0_init : GoodIn wsX9_init wsX0_init := goodIn_r _ [102, 103, 2, 3, 52, 104, 105, 106, 77, 107, 108, 170, 171, 172, 173, 174, 175, 176, 177, 178] rfl (by decide +kernel)
set_option maxRecDepth 20000 in
theorem gX9_init_X0_init_n73 : GoodIn wsX9_init (wsX0_init) := ggX9_init_X0_init
set_option maxRecDepth 20000 in
theorem ggX9_feed_X7_put : GoodIn wsX9_feed wsX7_put := goodIn_r _ [7, 8, 9, 25, 26, 27, 28, 29, 30, 31, 32] rfl (by decide +kernel)
set_option maxRecDepth 20000 in
theorem gX9_feed_X7_put : GoodIn wsX9_feed (wsV RX9 85 RX7 yX7_put wsX7_put) := goodIn_app (goodIn_of _ (by decide +kernel)) ggX9_feed_X7_put
set_option maxRecDepth 20000 in
theorem ggX9_market_X9_demand : GoodIn wsX9_market wsX9_demand := goodIn_ca (goodIn_r _ [16, 17, 18, 19, 203, 204, 205, 206, 207, 208, 209, 210, 211, 212, 213, 214, 215, 216, 217] rfl (by decide +kernel)) (goodIn_sub (fun _ h => List.mem_cons_of_mem _ (List.mem_append_right _ h)) (by decide +kernel))
set_option maxRecDepth 20000 in
theorem gX9_market_X9_demand : GoodIn wsX9_market (wsV RX9 89 RX9 yX9_demand wsX9_demand) := goodIn_app (goodIn_of _ (by decide +kernel)) ggX9_market_X9_demand
set_option maxRecDepth 20000 in
theorem ggX9_market_X7_open : GoodIn wsX9_market wsX7_open := goodIn_r _ [24, 25, 26, 27, 28, 29, 30, 218, 219, 220, 221, 222, 223, 224, 225] rfl (by decide +kernel)
set_option maxRecDepth 20000 in
theorem gX9_market_X7_open : GoodIn wsX9_market (wsV RX9 93 RX7 yX7_open wsX7_open) := goodIn_app (goodIn_of _ (by decide +kernel)) ggX9_market_X7_open
set_option maxRecDepth 20000 in
theorem ggX9_market_X6_readFrom : GoodIn wsX9_market wsX6_readFrom := goodIn_r _ [35, 36, 37, 38, 34, 39, 40, 41, 42, 43, 44, 45, 46, 47, 48, 49, 50, 51, 52, 53, 54, 55, 23, 56, 57, 58, 59, 60, 27, 25, 61, 28, 62, 63, 64, 65, 66, 67, 68, 69, 70, 71, 72, 73, 74, 75, 76, 77, 78, 79, 80, 81, 29, 30, 82, 83, 84, 85, 86, 87, 88, 89, 90, 91, 92, 93, 94, 95, 96, 97, 98, 99, 100, 101, 102, 103, 104, 105, 106, 107, 108, 109, 110, 111, 112, 113, 114, 115, 116, 117, 118, 119, 120, 121, 122, 123, 124, 125, 126, 127, 128, 129, 130, 131, 132, 133, 134, 135, 136, 137, 138, 139, 140, 141, 142, 143, 144, 145, 146, 147, 148, 149, 150, 151, 152, 153, 154, 155, 156, 157, 158, 159, 160, 161, 162, 163, 164, 165, 166, 167, 168, 169, 170, 171, 172, 173, 174, 175, 235, 236, 237, 238, 239, 240, 241, 242, 243, 244, 245, 218, 219, 220, 221, 222, 223, 224, 225] rfl (by decide +kernel)
set_option maxRecDepth 20000 in
theorem gX9_market_X6_readFrom : GoodIn wsX9_market (wsV RX9 96 RX6 yX6_readFrom wsX6_readFrom) := goodIn_app (goodIn_of _ (by decide +kernel)) ggX9_market_X6_readFrom
set_option maxRecDepth 20000 in
theorem ggX9_market_X6_copyFrom : GoodIn wsX9_market wsX6_copyFrom := goodIn_r _ [179, 40, 180, 181, 182, 183, 41, 42, 167, 43, 44, 45, 46, 47, 48, 235, 236, 237, 238, 239, 240, 241, 242, 243, 244, 245] rfl (by decide +kernel)
set_option maxRecDepth 20000 in
theorem gX9_market_X6_copyFrom : GoodIn wsX9_market (wsV RX9 103 RX6 yX6_copyFrom wsX6_copyFrom) := goodIn_app (goodIn_of _ (by decide +kernel)) ggX9_market_X6_copyFrom
set_option maxRecDepth 20000 in
theorem ggX9_market_X3_becomeUsual : GoodIn wsX9_market wsX3_becomeUsual := goodIn_r _ [188, 189, 190, 191, 192, 187, 193, 194, 195, 246, 247, 248, 249, 250] rfl (by decide +kernel)
set_option maxRecDepth 20000 in
theorem gX9_market_X3_becomeUsual : GoodIn wsX9_market (wsV RX9 107 RX3 yX3_becomeUsual wsX3_becomeUsual) := goodIn_app (goodIn_of _ (by decide +kernel)) ggX9_market_X3_becomeUsual
set_option maxRecDepth 20000 in
theorem ggX9_market_X5_forget : GoodIn wsX9_market wsX5_forget := goodIn_r _ [200, 201, 202, 251, 252, 253, 254, 255] rfl (by decide +kernel)
set_option maxRecDepth 20000 in
theorem gX9_market_X5_forget : GoodIn wsX9_market (wsV RX9 113 RX5 yX5_forget wsX5_forget) := goodIn_app (goodIn_of _ (by decide +kernel)) ggX9_market_X5_forget
set_option maxRecDepth 20000 in
theorem ggX9_law_X9_demand : GoodIn wsX9_law wsX9_demand := goodIn_ca (goodIn_r _ [10, 11, 12, 13, 165, 166, 167, 168, 169, 170, 171, 172, 173, 174, 175, 176, 177, 178, 179] rfl (by decide +kernel)) (goodIn_sub (fun _ h => List.mem_cons_of_mem _ (List.mem_append_right _ h)) (by decide +kernel))
set_option maxRecDepth 20000 in
theorem gX9_law_X9_demand : GoodIn wsX9_law (wsV RX9 89 RX9 yX9_demand wsX9_demand) := goodIn_app (goodIn_of _ (by decide +kernel)) ggX9_law_X9_demand
set_option maxRecDepth 20000 in
theorem ggX9_law_X7_open : GoodIn wsX9_law wsX7_open := goodIn_r _ [18, 19, 20, 21, 22, 23, 24, 180, 181, 182, 183, 184, 185, 186, 187] rfl (by decide +kernel)
set_option maxRecDepth 20000 in
theorem gX9_law_X7_open : GoodIn wsX9_law (wsV RX9 93 RX7 yX7_open wsX7_open) := goodIn_app (goodIn_of _ (by decide +kernel)) ggX9_law_X7_open
set_option maxRecDepth 20000 in
theorem ggX9_law_X3_readFrom : GoodIn wsX9_law wsX3_readFrom := goodIn_r _ [29, 30, 31, 32, 33, 34, 28, 35, 36, 37, 38, 39, 40, 41, 42, 17, 43, 21, 19, 44, 22, 45, 46, 47, 48, 49, 50, 51, 52, 53, 54, 55, 56, 57, 58, 23, 24, 59, 60, 61, 62, 63, 64, 65, 66, 67, 68, 69, 70, 71, 72, 73, 74, 75, 76, 77, 78, 79, 80, 81, 82, 83, 84, 85, 86, 87, 88, 89, 90, 91, 92, 93, 94, 95, 96, 97, 98, 99, 100, 101, 102, 103, 104, 105, 106, 107, 108, 109, 110, 111, 112, 113, 114, 115, 116, 117, 118, 119, 120, 121, 122, 123, 124, 125, 126, 127, 128, 129, 130, 131, 132, 133, 134, 135, 136, 137, 138, 139, 140, 141, 142, 143, 144, 145, 146, 147, 148, 149, 150, 151, 152, 153, 154, 155, 156, 157, 158, 159, 160, 161, 162, 163, 164, 188, 189, 190, 191, 192, 180, 181, 182, 183, 184, 185, 186, 187] rfl (by decide +kernel)
set_option maxRecDepth 20000 in
theorem gX9_law_X3_readFrom : GoodIn wsX9_law (wsV RX9 122 RX3 yX3_readFrom wsX3_readFrom) := goodIn_app (goodIn_of _ (by decide +kernel)) ggX9_law_X3_readFrom
set_option maxRecDepth 20000 in
theorem ggX9_work_X9_demand : GoodIn wsX9_work wsX9_demand := goodIn_ca (goodIn_r _ [17, 18, 19, 20, 299, 300, 301, 302, 303, 304, 305, 306, 307, 308, 309, 310, 311, 312, 313] rfl (by decide +kernel)) (goodIn_sub (fun _ h => List.mem_cons_of_mem _ (List.mem_append_right _ h)) (by decide +kernel))
set_option maxRecDepth 20000 in
theorem gX9_work_X9_demand : GoodIn wsX9_work (wsV RX9 89 RX9 yX9_demand wsX9_demand) := goodIn_app (goodIn_of _ (by decide +kernel)) ggX9_work_X9_demand
set_option maxRecDepth 20000 in
theorem ggX9_work_X7_open : GoodIn wsX9_work wsX7_open := goodIn_r _ [25, 26, 27, 28, 29, 30, 31, 314, 315, 316, 317, 318, 319, 320, 321] rfl (by decide +kernel)
set_option maxRecDepth 20000 in
theorem gX9_work_X7_open : GoodIn wsX9_work (wsV RX9 93 RX7 yX7_open wsX7_open) := goodIn_app (goodIn_of _ (by decide +kernel)) ggX9_work_X7_open
set_option maxRecDepth 20000 in
theorem ggX9_work_X8_readFrom : GoodIn wsX9_work wsX8_readFrom := goodIn_r _ [36, 37, 38, 39, 40, 35, 41, 42, 43, 44, 24, 45, 46, 47, 48, 49, 28, 26, 50, 29, 51, 52, 53, 54, 55, 56, 57, 58, 59, 60, 61, 62, 30, 31, 63, 64, 65, 66, 67, 68, 69, 70, 71, 72, 73, 74, 75, 76, 77, 78, 79, 80, 81, 82, 83, 84, 85, 86, 87, 88, 89, 90, 91, 92, 93, 94, 95, 96, 97, 98, 99, 100, 101, 102, 103, 104, 105, 106, 107, 108, 109, 110, 111, 112, 113, 114, 115, 116, 117, 118, 119, 120, 121, 122, 123, 124, 125, 126, 127, 128, 129, 130, 131, 132, 133, 134, 135, 136, 137, 138, 139, 140, 141, 142, 143, 144, 145, 146, 147, 148, 149, 150, 151, 152, 153, 154, 155, 156, 157, 158, 159, 160, 161, 162, 163, 164, 165, 166, 167, 168, 169, 170, 171, 172, 173, 338, 339, 340, 341, 342, 314, 315, 316, 317, 318, 319, 320, 321] rfl (by decide +kernel)
set_option maxRecDepth 20000 in
theorem gX9_work_X8_readFrom : GoodIn wsX9_work (wsV RX9 126 RX8 yX8_readFrom wsX8_readFrom) := goodIn_app (goodIn_of _ (by decide +kernel)) ggX9_work_X8_readFrom
set_option maxRecDepth 20000 in
theorem ggX9_work_X5_keep : GoodIn wsX9_work wsX5_keep := goodIn_r _ [178, 179, 180, 181, 182, 183, 184, 185, 186, 187, 188, 189, 190, 191, 192, 193, 194, 195, 196, 322, 323, 324, 325, 326, 327, 328, 329, 330, 331, 332, 333, 334, 335, 336, 337] rfl (by decide +kernel)
set_option maxRecDepth 20000 in
theorem gX9_work_X5_keep : GoodIn wsX9_work (wsV RX9 129 RX5 yX5_keep wsX5_keep) := goodIn_app (goodIn_of _ (by decide +kernel)) ggX9_work_X5_keep
set_option maxRecDepth 20000 in
theorem ggX9_work_X8_doAll : GoodIn wsX9_work wsX8_doAll := goodIn_r _ [200, 201, 202, 203, 37, 204, 205, 206, 35, 207, 161, 162, 163, 164, 90, 208, 209, 210, 211, 212, 213, 214, 215, 184, 216, 193, 191, 196, 217, 218, 219, 220, 221, 222, 223, 224, 225, 194, 226, 227, 228, 229, 230, 186, 231, 232, 233, 234, 235, 236, 237, 238, 239, 240, 241, 192, 242, 243, 244, 245, 246, 247, 248, 249, 187, 188, 189, 190, 250, 251, 252, 253, 254, 76, 77, 78, 255, 256, 257, 258, 259, 260, 261, 262, 263, 264, 265, 266, 195, 267, 268, 269, 270, 271, 272, 273, 274, 275, 276, 277, 278, 279, 280, 281, 282, 283, 284, 285, 286, 287, 288, 289, 290, 291, 292, 293, 294, 295, 296, 297, 298, 338, 339, 340, 341, 342, 327, 328, 329, 330, 331, 332, 333, 334, 335, 336, 337, 343, 344, 345, 346, 347] rfl (by decide +kernel)
set_option maxRecDepth 20000 in
theorem gX9_work_X8_doAll : GoodIn wsX9_work (wsV RX9 132 RX8 yX8_doAll wsX8_doAll) := goodIn_app (goodIn_of _ (by decide +kernel)) ggX9_work_X8_doAll
set_option maxRecDepth 20000 in
theorem ggX9_book_X9_demand : GoodIn wsX9_book wsX9_demand := goodIn_ca (goodIn_r _ [13, 14, 15, 16, 83, 84, 85, 86, 87, 88, 89, 90, 91, 92, 93, 94, 95, 96, 97] rfl (by decide +kernel)) (goodIn_sub (fun _ h => List.mem_cons_of_mem _ (List.mem_append_right _ h)) (by decide +kernel))
set_option maxRecDepth 20000 in
theorem gX9_book_X9_demand : GoodIn wsX9_book (wsV RX9 89 RX9 yX9_demand wsX9_demand) := goodIn_app (goodIn_of _ (by decide +kernel)) ggX9_book_X9_demand
set_option maxRecDepth 20000 in
theorem ggX9_book_X7_open : GoodIn wsX9_book wsX7_open := goodIn_r _ [21, 22, 23, 24, 25, 26, 27, 98, 99, 100, 101, 102, 103, 104, 105] rfl (by decide +kernel)
set_option maxRecDepth 20000 in
theorem gX9_book_X7_open : GoodIn wsX9_book (wsV RX9 93 RX7 yX7_open wsX7_open) := goodIn_app (goodIn_of _ (by decide +kernel)) ggX9_book_X7_open
set_option maxRecDepth 20000 in
theorem ggX9_book_X0_readFrom : GoodIn wsX9_book wsX0_readFrom := goodIn_r _ [32, 33, 34, 35, 36, 20, 37, 38, 39, 40, 41, 24, 22, 42, 25, 43, 44, 45, 31, 46, 47, 48, 49, 50, 51, 52, 53, 54, 55, 56, 57, 58, 59, 60, 61, 62, 63, 64, 65, 66, 67, 68, 26, 27, 69, 70, 71, 72, 73, 74, 75, 76, 77, 78, 79, 80, 81, 82, 117, 118, 119, 120, 121, 122, 123, 124, 125, 98, 99, 100, 101, 102, 103, 104, 105] rfl (by decide +kernel)
set_option maxRecDepth 20000 in
theorem gX9_book_X0_readFrom : GoodIn wsX9_book (wsV RX9 142 RX0 yX0_readFrom wsX0_readFrom) := goodIn_app (goodIn_of _ (by decide +kernel)) ggX9_book_X0_readFrom
set_option maxRecDepth 20000 in
theorem ggX9_undo_X5_takeBack : GoodIn wsX9_undo wsX5_takeBack := goodIn_r _ [9, 10, 11, 12, 13, 14, 15, 16, 17, 18, 19, 20, 21, 22, 23, 24, 25, 26, 27, 43, 44, 45, 46, 47, 48, 49, 50, 51, 52, 53, 54, 55, 56, 57, 58] rfl (by decide +kernel)
set_option maxRecDepth 20000 in
theorem gX9_undo_X5_takeBack : GoodIn wsX9_undo (wsV RX9 146 RX5 yX5_takeBack wsX5_takeBack) := goodIn_app (goodIn_of _ (by decide +kernel)) ggX9_undo_X5_takeBack
set_option maxRecDepth 20000 in
theorem ggX9_told_X9_demand : GoodIn wsX9_told wsX9_demand := goodIn_ca (goodIn_r _ [15, 16, 17, 18, 48, 49, 50, 51, 52, 53, 54, 55, 56, 57, 58, 59, 60, 61, 62] rfl (by decide +kernel)) (goodIn_sub (fun _ h => List.mem_cons_of_mem _ (List.mem_append_right _ h)) (by decide +kernel))
set_option maxRecDepth 20000 in
theorem gX9_told_X9_demand : GoodIn wsX9_told (wsV RX9 89 RX9 yX9_demand wsX9_demand) := goodIn_app (goodIn_of _ (by decide +kernel)) ggX9_told_X9_demand
set_option maxRecDepth 20000 in
theorem ggX9_told_X6_weightOfAll : GoodIn wsX9_told wsX6_weightOfAll := goodIn_r _ [23, 24, 25, 26, 27, 22, 28, 29, 30, 31, 32, 33, 63, 64, 65, 66, 67, 68, 69, 70, 71, 72, 73] rfl (by decide +kernel)
set_option maxRecDepth 20000 in
theorem gX9_told_X6_weightOfAll : GoodIn wsX9_told (wsV RX9 161 RX6 yX6_weightOfAll wsX6_weightOfAll) := goodIn_app (goodIn_of _ (by decide +kernel)) ggX9_told_X6_weightOfAll
set_option maxRecDepth 20000 in
theorem ggX9_told_X6_criesNotSo : GoodIn wsX9_told wsX6_criesNotSo := goodIn_r _ [37, 38, 39, 40, 41, 22, 42, 43, 25, 26, 27, 28, 29, 30, 31, 32, 33, 24, 63, 64, 65, 66, 67, 68, 69, 70, 71, 72, 73] rfl (by decide +kernel)
set_option maxRecDepth 20000 in
theorem gX9_told_X6_criesNotSo : GoodIn wsX9_told (wsV RX9 165 RX6 yX6_criesNotSo wsX6_criesNotSo) := goodIn_app (goodIn_of _ (by decide +kernel)) ggX9_told_X6_criesNotSo
set_option maxRecDepth 20000 in
theorem ggX9_told_X6_thingsCried : GoodIn wsX9_told wsX6_thingsCried := goodIn_r _ [47, 38, 39, 40, 41, 22, 42, 43, 63, 64, 65, 66, 67, 68, 69, 70, 71, 72, 73] rfl (by decide +kernel)
set_option maxRecDepth 20000 in
theorem gX9_told_X6_thingsCried : GoodIn wsX9_told (wsV RX9 168 RX6 yX6_thingsCried wsX6_thingsCried) := goodIn_app (goodIn_of _ (by decide +kernel)) ggX9_told_X6_thingsCried
set_option maxRecDepth 20000 in
theorem ggX9_thing_X9_demandThing : GoodIn wsX9_thing wsX9_demandThing := goodIn_ca (goodIn_r _ [7, 1, 8, 9, 10, 11, 12, 13, 14, 15, 16, 6, 17, 18, 19, 20, 80, 81, 82, 83, 84, 85, 86, 87, 88, 89, 90, 91, 92, 93, 94, 95, 96, 97, 98, 99, 100, 101, 102, 103, 104, 105] rfl (by decide +kernel)) (goodIn_sub (fun _ h => List.mem_cons_of_mem _ (List.mem_append_left _ (List.mem_append_right _ h))) (by decide +kernel))
set_option maxRecDepth 20000 in
theorem gX9_thing_X9_demandThing : GoodIn wsX9_thing (wsV RX9 174 RX9 yX9_demandThing wsX9_demandThing) := goodIn_app (goodIn_of _ (by decide +kernel)) ggX9_thing_X9_demandThing
set_option maxRecDepth 20000 in
theorem ggX9_thing_X9_demand : GoodIn wsX9_thing wsX9_demand := goodIn_ca (goodIn_r _ [24, 25, 26, 27, 80, 81, 82, 83, 84, 85, 86, 87, 88, 89, 90, 91, 92, 93, 94] rfl (by decide +kernel)) (goodIn_sub (fun _ h => List.mem_cons_of_mem _ (List.mem_append_right _ h)) (by decide +kernel))
set_option maxRecDepth 20000 in
theorem gX9_thing_X9_demand : GoodIn wsX9_thing (wsV RX9 89 RX9 yX9_demand wsX9_demand) := goodIn_app (goodIn_of _ (by decide +kernel)) ggX9_thing_X9_demand
set_option maxRecDepth 20000 in
theorem ggX9_thing_X6_weightOf : GoodIn wsX9_thing wsX6_weightOf := goodIn_r _ [31, 32, 33, 9, 10, 11, 12, 13, 95, 96, 97, 98, 99, 100, 101, 102, 103, 104, 105] rfl (by decide +kernel)
set_option maxRecDepth 20000 in
theorem gX9_thing_X6_weightOf : GoodIn wsX9_thing (wsV RX9 177 RX6 yX6_weightOf wsX6_weightOf) := goodIn_app (goodIn_of _ (by decide +kernel)) ggX9_thing_X6_weightOf
