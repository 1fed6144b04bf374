set_option maxRecDepth 20000 in
theorem ggX10_takes_X10_skipWord : GoodIn wsX10_takes wsX10_skipWord := goodIn_r _ [31, 11, 16, 17, 18, 4, 19, 20, 21, 22, 23, 24, 32, 33, 34, 35, 36, 37, 38, 39, 40, 41, 42, 43, 44, 45, 46, 47, 48, 49, 50, 51, 52, 53, 54, 55, 56, 57, 58, 59, 60, 61, 62, 63, 64, 65, 66, 67, 68, 69, 70, 71, 72, 73, 74, 75, 76, 77] rfl (by decide +kernel)
set_option maxRecDepth 20000 in
theorem gX10_takes_X10_skipWord : GoodIn wsX10_takes (wsV RX10 145 RX10 yX10_skipWord wsX10_skipWord) := goodIn_app (goodIn_of _ (by decide +kernel)) ggX10_takes_X10_skipWord
set_option maxRecDepth 20000 in
theorem ggX10_sign_X10_blanks : GoodIn wsX10_sign wsX10_blanks := goodIn_r _ [7, 2, 8, 9, 10, 6, 11, 12, 13, 19, 20, 21, 22, 23, 24, 25, 26, 27, 28, 29, 30, 31, 32, 33, 34, 35, 36, 37, 38, 39, 40, 41, 42, 43, 44, 45, 46, 47, 48, 49, 50, 51, 52, 53, 54, 55, 56, 57, 58, 59, 60, 61, 62, 63, 64] rfl (by decide +kernel)
set_option maxRecDepth 20000 in
theorem gX10_sign_X10_blanks : GoodIn wsX10_sign (wsV RX10 114 RX10 yX10_blanks wsX10_blanks) := goodIn_app (goodIn_of _ (by decide +kernel)) ggX10_sign_X10_blanks
set_option maxRecDepth 20000 in
theorem ggX10_sign_X10_byteAt : GoodIn wsX10_sign wsX10_byteAt := goodIn_r _ [11, 12, 13, 19, 20, 21, 22, 23, 24, 25, 26, 27, 28, 29, 30, 31, 32, 33, 34, 35, 36, 37, 38, 39, 40, 41, 42, 43, 44, 45, 46, 47, 48, 49, 50, 51, 52, 53, 54, 55, 56, 57, 58, 59, 60, 61, 62, 63, 64] rfl (by decide +kernel)
set_option maxRecDepth 20000 in
theorem gX10_sign_X10_byteAt : GoodIn wsX10_sign (wsV RX10 104 RX10 yX10_byteAt wsX10_byteAt) := goodIn_app (goodIn_of _ (by decide +kernel)) ggX10_sign_X10_byteAt
set_option maxRecDepth 20000 in
theorem ggX10_sign_X10_wrong : GoodIn wsX10_sign wsX10_wrong := goodIn_r _ [17, 1, 18, 19, 20, 21, 22, 23, 24, 25, 26, 27, 28, 29, 30, 31, 32, 33, 34, 35, 36, 37, 38, 39, 40, 41, 42, 43, 44, 45, 46, 47, 48, 49, 50, 51, 52, 53, 54, 55, 56, 57, 58, 59, 60, 61, 62, 63, 64] rfl (by decide +kernel)
set_option maxRecDepth 20000 in
theorem gX10_sign_X10_wrong : GoodIn wsX10_sign (wsV RX10 121 RX10 yX10_wrong wsX10_wrong) := goodIn_app (goodIn_of _ (by decide +kernel)) ggX10_sign_X10_wrong
set_option maxRecDepth 20000 in
theorem ggX10_takesSign_X10_blanks : GoodIn wsX10_takesSign wsX10_blanks := goodIn_r _ [7, 2, 8, 9, 10, 6, 11, 12, 13, 14, 15, 16, 17, 18, 19, 20, 21, 22, 23, 24, 25, 26, 27, 28, 29, 30, 31, 32, 33, 34, 35, 36, 37, 38, 39, 40, 41, 42, 43, 44, 45, 46, 47, 48, 49, 50, 51, 52, 53, 54, 55, 56, 57, 58, 59] rfl (by decide +kernel)
set_option maxRecDepth 20000 in
theorem gX10_takesSign_X10_blanks : GoodIn wsX10_takesSign (wsV RX10 114 RX10 yX10_blanks wsX10_blanks) := goodIn_app (goodIn_of _ (by decide +kernel)) ggX10_takesSign_X10_blanks
set_option maxRecDepth 20000 in
theorem ggX10_takesSign_X10_byteAt : GoodIn wsX10_takesSign wsX10_byteAt := goodIn_r _ [11, 12, 13, 14, 15, 16, 17, 18, 19, 20, 21, 22, 23, 24, 25, 26, 27, 28, 29, 30, 31, 32, 33, 34, 35, 36, 37, 38, 39, 40, 41, 42, 43, 44, 45, 46, 47, 48, 49, 50, 51, 52, 53, 54, 55, 56, 57, 58, 59] rfl (by decide +kernel)
set_option maxRecDepth 20000 in
theorem gX10_takesSign_X10_byteAt : GoodIn wsX10_takesSign (wsV RX10 104 RX10 yX10_byteAt wsX10_byteAt) := goodIn_app (goodIn_of _ (by decide +kernel)) ggX10_takesSign_X10_byteAt
set_option maxRecDepth 20000 in
theorem ggX10_starts_X10_blanks : GoodIn wsX10_starts wsX10_blanks := goodIn_r _ [12, 3, 13, 14, 15, 11, 16, 2, 17, 18, 19, 20, 21, 22, 23, 24, 25, 26, 27, 28, 29, 30, 31, 32, 33, 34, 35, 36, 37, 38, 39, 40, 41, 42, 43, 44, 45, 46, 47, 48, 49, 50, 51, 52, 53, 54, 55, 56, 57, 58, 59, 60, 61, 62, 63] rfl (by decide +kernel)
set_option maxRecDepth 20000 in
theorem gX10_starts_X10_blanks : GoodIn wsX10_starts (wsV RX10 114 RX10 yX10_blanks wsX10_blanks) := goodIn_app (goodIn_of _ (by decide +kernel)) ggX10_starts_X10_blanks
set_option maxRecDepth 20000 in
theorem ggX10_isSeven_X10_blanks : GoodIn wsX10_isSeven wsX10_blanks := goodIn_r _ [7, 2, 8, 9, 10, 6, 11, 12, 13, 21, 22, 23, 24, 25, 26, 27, 28, 29, 30, 31, 32, 33, 34, 35, 36, 37, 38, 39, 40, 41, 42, 43, 44, 45, 46, 47, 48, 49, 50, 51, 52, 53, 54, 55, 56, 57, 58, 59, 60, 61, 62, 63, 64, 65, 66] rfl (by decide +kernel)
set_option maxRecDepth 20000 in
theorem gX10_isSeven_X10_blanks : GoodIn wsX10_isSeven (wsV RX10 114 RX10 yX10_blanks wsX10_blanks) := goodIn_app (goodIn_of _ (by decide +kernel)) ggX10_isSeven_X10_blanks
set_option maxRecDepth 20000 in
theorem ggX10_isSeven_X10_byteAt : GoodIn wsX10_isSeven wsX10_byteAt := goodIn_r _ [11, 12, 13, 21, 22, 23, 24, 25, 26, 27, 28, 29, 30, 31, 32, 33, 34, 35, 36, 37, 38, 39, 40, 41, 42, 43, 44, 45, 46, 47, 48, 49, 50, 51, 52, 53, 54, 55, 56, 57, 58, 59, 60, 61, 62, 63, 64, 65, 66] rfl (by decide +kernel)
set_option maxRecDepth 20000 in
theorem gX10_isSeven_X10_byteAt : GoodIn wsX10_isSeven (wsV RX10 104 RX10 yX10_byteAt wsX10_byteAt) := goodIn_app (goodIn_of _ (by decide +kernel)) ggX10_isSeven_X10_byteAt
set_option maxRecDepth 20000 in
theorem ggX10_isSeven_X10_isSmall : GoodIn wsX10_isSeven wsX10_isSmall := goodIn_r _ [16] rfl (by decide +kernel)
set_option maxRecDepth 20000 in
theorem gX10_isSeven_X10_isSmall : GoodIn wsX10_isSeven (va_wsS RX10 130 yX10_isSmall wsX10_isSmall) := goodIn_app (goodIn_of _ (by decide +kernel)) ggX10_isSeven_X10_isSmall
set_option maxRecDepth 20000 in
theorem ggX10_isSeven_X10_skipWord : GoodIn wsX10_isSeven wsX10_skipWord := goodIn_r _ [20, 2, 8, 9, 10, 6, 11, 12, 13, 14, 15, 16, 21, 22, 23, 24, 25, 26, 27, 28, 29, 30, 31, 32, 33, 34, 35, 36, 37, 38, 39, 40, 41, 42, 43, 44, 45, 46, 47, 48, 49, 50, 51, 52, 53, 54, 55, 56, 57, 58, 59, 60, 61, 62, 63, 64, 65, 66] rfl (by decide +kernel)
set_option maxRecDepth 20000 in
theorem gX10_isSeven_X10_skipWord : GoodIn wsX10_isSeven (wsV RX10 145 RX10 yX10_skipWord wsX10_skipWord) := goodIn_app (goodIn_of _ (by decide +kernel)) ggX10_isSeven_X10_skipWord
set_option maxRecDepth 20000 in
theorem ggX10_kindHere_X10_isWord : GoodIn wsX10_kindHere wsX10_isWord := goodIn_r _ [5, 6, 7, 8, 9, 4, 10, 11, 12, 13, 14, 15, 16, 17, 18, 19, 20, 21, 22, 23, 24, 25, 26, 27, 28, 29, 30, 31, 32, 33, 34, 35, 36, 37, 38, 39, 40, 41, 42, 43, 44, 45, 46, 47, 48, 49, 50, 51, 52, 53, 54, 55, 56, 57, 58, 59, 60, 61, 62, 63, 64, 65, 66, 67, 68, 69, 70, 71, 72, 73] rfl (by decide +kernel)
set_option maxRecDepth 20000 in
theorem gX10_kindHere_X10_isWord : GoodIn wsX10_kindHere (wsV RX10 141 RX10 yX10_isWord wsX10_isWord) := goodIn_app (goodIn_of _ (by decide +kernel)) ggX10_kindHere_X10_isWord
set_option maxRecDepth 20000 in
theorem ggX10_otherThing_X10_blanks : GoodIn wsX10_otherThing wsX10_blanks := goodIn_r _ [7, 1, 8, 9, 10, 6, 11, 12, 13, 30, 31, 32, 33, 34, 35, 36, 37, 38, 39, 40, 41, 42, 43, 44, 45, 46, 47, 48, 49, 50, 51, 52, 53, 54, 55, 56, 57, 58, 59, 60, 61, 62, 63, 64, 65, 66, 67, 68, 69, 70, 71, 72, 73, 74, 75] rfl (by decide +kernel)
set_option maxRecDepth 20000 in
theorem gX10_otherThing_X10_blanks : GoodIn wsX10_otherThing (wsV RX10 114 RX10 yX10_blanks wsX10_blanks) := goodIn_app (goodIn_of _ (by decide +kernel)) ggX10_otherThing_X10_blanks
set_option maxRecDepth 20000 in
theorem ggX10_otherThing_X10_number : GoodIn wsX10_otherThing wsX10_number := goodIn_r _ [17, 2, 1, 18, 3, 4, 5, 6, 7, 8, 9, 10, 11, 12, 13, 19, 20, 21, 22, 23, 24, 25, 26, 27, 28, 29, 30, 31, 32, 33, 34, 35, 36, 37, 38, 39, 40, 41, 42, 43, 44, 45, 46, 47, 48, 49, 50, 51, 52, 53, 54, 55, 56, 57, 58, 59, 60, 61, 62, 63, 64, 65, 66, 67, 68, 69, 70, 71, 72, 73, 74, 75] rfl (by decide +kernel)
set_option maxRecDepth 20000 in
theorem gX10_otherThing_X10_number : GoodIn wsX10_otherThing (wsV RX10 154 RX10 yX10_number wsX10_number) := goodIn_app (goodIn_of _ (by decide +kernel)) ggX10_otherThing_X10_number
set_option maxRecDepth 20000 in
theorem ggX10_otherThing_X10_wrong : GoodIn wsX10_otherThing wsX10_wrong := goodIn_r _ [25, 2, 26, 30, 31, 32, 33, 34, 35, 36, 37, 38, 39, 40, 41, 42, 43, 44, 45, 46, 47, 48, 49, 50, 51, 52, 53, 54, 55, 56, 57, 58, 59, 60, 61, 62, 63, 64, 65, 66, 67, 68, 69, 70, 71, 72, 73, 74, 75] rfl (by decide +kernel)
set_option maxRecDepth 20000 in
theorem gX10_otherThing_X10_wrong : GoodIn wsX10_otherThing (wsV RX10 121 RX10 yX10_wrong wsX10_wrong) := goodIn_app (goodIn_of _ (by decide +kernel)) ggX10_otherThing_X10_wrong
set_option maxRecDepth 20000 in
theorem ggX10_clause_X10_kindHere : GoodIn wsX10_clause wsX10_kindHere := goodIn_r _ [11, 12, 13, 14, 10, 15, 4, 16, 17, 18, 19, 1, 20, 21, 22, 23, 24, 25, 26, 27, 28, 29, 30, 31, 32, 33, 34, 35, 67, 68, 69, 70, 71, 72, 73, 74, 75, 76, 77, 78, 79, 80, 81, 82, 83, 84, 85, 86, 87, 88, 89, 90, 91, 92, 93, 94, 95, 96, 97, 98, 99, 100, 101, 102, 103, 104, 105, 106, 107, 108, 109, 110, 111, 112] rfl (by decide +kernel)
set_option maxRecDepth 20000 in
theorem gX10_clause_X10_kindHere : GoodIn wsX10_clause (wsV RX10 158 RX10 yX10_kindHere wsX10_kindHere) := goodIn_app (goodIn_of _ (by decide +kernel)) ggX10_clause_X10_kindHere
set_option maxRecDepth 20000 in
theorem ggX10_clause_X10_wrong : GoodIn wsX10_clause wsX10_wrong := goodIn_r _ [39, 4, 40, 67, 68, 69, 70, 71, 72, 73, 74, 75, 76, 77, 78, 79, 80, 81, 82, 83, 84, 85, 86, 87, 88, 89, 90, 91, 92, 93, 94, 95, 96, 97, 98, 99, 100, 101, 102, 103, 104, 105, 106, 107, 108, 109, 110, 111, 112] rfl (by decide +kernel)
set_option maxRecDepth 20000 in
theorem gX10_clause_X10_wrong : GoodIn wsX10_clause (wsV RX10 121 RX10 yX10_wrong wsX10_wrong) := goodIn_app (goodIn_of _ (by decide +kernel)) ggX10_clause_X10_wrong
set_option maxRecDepth 20000 in
theorem ggX10_clause_X10_mostOf : GoodIn wsX10_clause wsX10_mostOf := goodIn_r _ [43] rfl (by decide +kernel)
set_option maxRecDepth 20000 in
theorem gX10_clause_X10_mostOf : GoodIn wsX10_clause (va_wsS RX10 161 yX10_mostOf wsX10_mostOf) := goodIn_app (goodIn_of _ (by decide +kernel)) ggX10_clause_X10_mostOf
set_option maxRecDepth 20000 in
theorem ggX10_clause_X10_skipWord : GoodIn wsX10_clause wsX10_skipWord := goodIn_r _ [47, 1, 24, 25, 26, 10, 27, 28, 29, 30, 31, 32, 67, 68, 69, 70, 71, 72, 73, 74, 75, 76, 77, 78, 79, 80, 81, 82, 83, 84, 85, 86, 87, 88, 89, 90, 91, 92, 93, 94, 95, 96, 97, 98, 99, 100, 101, 102, 103, 104, 105, 106, 107, 108, 109, 110, 111, 112] rfl (by decide +kernel)
set_option maxRecDepth 20000 in
theorem gX10_clause_X10_skipWord : GoodIn wsX10_clause (wsV RX10 145 RX10 yX10_skipWord wsX10_skipWord) := goodIn_app (goodIn_of _ (by decide +kernel)) ggX10_clause_X10_skipWord
set_option maxRecDepth 20000 in
theorem ggX10_clause_X10_number : GoodIn wsX10_clause wsX10_number := goodIn_r _ [51, 4, 1, 52, 20, 21, 22, 10, 23, 24, 25, 26, 27, 28, 29, 53, 54, 55, 36, 37, 38, 39, 40, 56, 57, 58, 67, 68, 69, 70, 71, 72, 73, 74, 75, 76, 77, 78, 79, 80, 81, 82, 83, 84, 85, 86, 87, 88, 89, 90, 91, 92, 93, 94, 95, 96, 97, 98, 99, 100, 101, 102, 103, 104, 105, 106, 107, 108, 109, 110, 111, 112] rfl (by decide +kernel)
set_option maxRecDepth 20000 in
theorem gX10_clause_X10_number : GoodIn wsX10_clause (wsV RX10 154 RX10 yX10_number wsX10_number) := goodIn_app (goodIn_of _ (by decide +kernel)) ggX10_clause_X10_number
set_option maxRecDepth 20000 in
theorem ggX10_clause_X10_otherThing : GoodIn wsX10_clause wsX10_otherThing := goodIn_r _ [62, 1, 4, 20, 21, 22, 10, 23, 24, 25, 26, 27, 28, 29, 48, 49, 50, 51, 52, 53, 54, 55, 36, 37, 38, 39, 40, 56, 57, 58, 67, 68, 69, 70, 71, 72, 73, 74, 75, 76, 77, 78, 79, 80, 81, 82, 83, 84, 85, 86, 87, 88, 89, 90, 91, 92, 93, 94, 95, 96, 97, 98, 99, 100, 101, 102, 103, 104, 105, 106, 107, 108, 109, 110, 111, 112] rfl (by decide +kernel)
set_option maxRecDepth 20000 in
theorem gX10_clause_X10_otherThing : GoodIn wsX10_clause (wsV RX10 164 RX10 yX10_otherThing wsX10_otherThing) := goodIn_app (goodIn_of _ (by decide +kernel)) ggX10_clause_X10_otherThing
set_option maxRecDepth 20000 in
theorem ggX10_clause_X10_sign : GoodIn wsX10_clause wsX10_sign := goodIn_r _ [66, 4, 1, 20, 21, 22, 10, 23, 24, 25, 26, 27, 28, 29, 36, 37, 38, 39, 40, 67, 68, 69, 70, 71, 72, 73, 74, 75, 76, 77, 78, 79, 80, 81, 82, 83, 84, 85, 86, 87, 88, 89, 90, 91, 92, 93, 94, 95, 96, 97, 98, 99, 100, 101, 102, 103, 104, 105, 106, 107, 108, 109, 110, 111, 112] rfl (by decide +kernel)
set_option maxRecDepth 20000 in
theorem gX10_clause_X10_sign : GoodIn wsX10_clause (wsV RX10 167 RX10 yX10_sign wsX10_sign) := goodIn_app (goodIn_of _ (by decide +kernel)) ggX10_clause_X10_sign
set_option maxRecDepth 20000 in
theorem ggX10_market_X10_in : GoodIn wsX10_market wsX10_in := goodIn_r _ [11] rfl (by decide +kernel)
set_option maxRecDepth 20000 in
theorem gX10_market_X10_in : GoodIn wsX10_market (va_wsS RX10 126 yX10_in wsX10_in) := goodIn_app (goodIn_of _ (by decide +kernel)) ggX10_market_X10_in
set_option maxRecDepth 20000 in
theorem ggX10_market_X10_bad : GoodIn wsX10_market wsX10_bad := goodIn_r _ [15, 1, 16, 108, 109, 110, 111, 112, 113, 114, 115, 116, 117, 118, 119, 120, 121, 122, 123, 124, 125, 126, 127, 128, 129, 130, 131, 132, 133, 134, 135, 136, 137, 138, 139, 140, 141, 142, 143, 144, 145, 146, 147, 148, 149, 150, 151, 152, 153] rfl (by decide +kernel)
set_option maxRecDepth 20000 in
theorem gX10_market_X10_bad : GoodIn wsX10_market (wsV RX10 171 RX10 yX10_bad wsX10_bad) := goodIn_app (goodIn_of _ (by decide +kernel)) ggX10_market_X10_bad
set_option maxRecDepth 20000 in
theorem ggX10_market_X10_starts : GoodIn wsX10_market wsX10_starts := goodIn_r _ [20, 2, 5, 4, 3, 21, 22, 23, 24, 25, 26, 10, 27, 28, 29, 30, 31, 32, 108, 109, 110, 111, 112, 113, 114, 115, 116, 117, 118, 119, 120, 121, 122, 123, 124, 125, 126, 127, 128, 129, 130, 131, 132, 133, 134, 135, 136, 137, 138, 139, 140, 141, 142, 143, 144, 145, 146, 147, 148, 149, 150, 151, 152, 153] rfl (by decide +kernel)
set_option maxRecDepth 20000 in
theorem gX10_market_X10_starts : GoodIn wsX10_market (wsV RX10 175 RX10 yX10_starts wsX10_starts) := goodIn_app (goodIn_of _ (by decide +kernel)) ggX10_market_X10_starts
set_option maxRecDepth 20000 in
theorem ggX10_market_X10_tellsNothing : GoodIn wsX10_market wsX10_tellsNothing := goodIn_r _ [36, 37, 108, 109, 110, 111, 112, 113, 114, 115, 116, 117, 118, 119, 120, 121, 122, 123, 124, 125, 126, 127, 128, 129, 130, 131, 132, 133, 134, 135, 136, 137, 138, 139, 140, 141, 142, 143, 144, 145, 146, 147, 148, 149, 150, 151, 152, 153] rfl (by decide +kernel)
set_option maxRecDepth 20000 in
theorem gX10_market_X10_tellsNothing : GoodIn wsX10_market (wsV RX10 86 RX10 yX10_tellsNothing wsX10_tellsNothing) := goodIn_app (goodIn_of _ (by decide +kernel)) ggX10_market_X10_tellsNothing
set_option maxRecDepth 20000 in
theorem ggX10_market_X10_clause : GoodIn wsX10_market wsX10_clause := goodIn_r _ [41, 4, 22, 37, 3, 42, 43, 44, 45, 46, 10, 47, 48, 49, 50, 51, 52, 53, 54, 55, 24, 25, 26, 27, 28, 29, 30, 31, 5, 32, 56, 57, 58, 59, 60, 61, 62, 63, 64, 65, 21, 66, 67, 68, 69, 70, 71, 72, 73, 74, 75, 76, 77, 78, 79, 80, 8, 9, 11, 81, 82, 83, 84, 85, 86, 87, 88, 108, 109, 110, 111, 112, 113, 114, 115, 116, 117, 118, 119, 120, 121, 122, 123, 124, 125, 126, 127, 128, 129, 130, 131, 132, 133, 134, 135, 136, 137, 138, 139, 140, 141, 142, 143, 144, 145, 146, 147, 148, 149, 150, 151, 152, 153] rfl (by decide +kernel)
set_option maxRecDepth 20000 in
theorem gX10_market_X10_clause : GoodIn wsX10_market (wsV RX10 178 RX10 yX10_clause wsX10_clause) := goodIn_app (goodIn_of _ (by decide +kernel)) ggX10_market_X10_clause
set_option maxRecDepth 20000 in
theorem ggX10_market_X10_blanks : GoodIn wsX10_market wsX10_blanks := goodIn_r _ [27, 4, 28, 29, 30, 10, 31, 5, 32, 108, 109, 110, 111, 112, 113, 114, 115, 116, 117, 118, 119, 120, 121, 122, 123, 124, 125, 126, 127, 128, 129, 130, 131, 132, 133, 134, 135, 136, 137, 138, 139, 140, 141, 142, 143, 144, 145, 146, 147, 148, 149, 150, 151, 152, 153] rfl (by decide +kernel)
set_option maxRecDepth 20000 in
theorem gX10_market_X10_blanks : GoodIn wsX10_market (wsV RX10 114 RX10 yX10_blanks wsX10_blanks) := goodIn_app (goodIn_of _ (by decide +kernel)) ggX10_market_X10_blanks
set_option maxRecDepth 20000 in
theorem ggX10_market_X10_ends : GoodIn wsX10_market wsX10_ends := goodIn_r _ [92, 21, 6, 3, 108, 109, 110, 111, 112, 113, 114, 115, 116, 117, 118, 119, 120, 121, 122, 123, 124, 125, 126, 127, 128, 129, 130, 131, 132, 133, 134, 135, 136, 137, 138, 139, 140, 141, 142, 143, 144, 145, 146, 147, 148, 149, 150, 151, 152, 153] rfl (by decide +kernel)
set_option maxRecDepth 20000 in
theorem gX10_market_X10_ends : GoodIn wsX10_market (wsV RX10 181 RX10 yX10_ends wsX10_ends) := goodIn_app (goodIn_of _ (by decide +kernel)) ggX10_market_X10_ends
set_option maxRecDepth 20000 in
theorem ggX10_market_X10_beginsAnew : GoodIn wsX10_market wsX10_beginsAnew := goodIn_r _ [96, 7, 37, 97, 98, 42, 43, 99, 100, 101, 102, 103, 104, 105, 106, 10, 107, 108, 109, 110, 111, 112, 113, 114, 115, 116, 117, 118, 119, 120, 121, 122, 123, 124, 125, 126, 127, 128, 129, 130, 131, 132, 133, 134, 135, 136, 137, 138, 139, 140, 141, 142, 143, 144, 145, 146, 147, 148, 149, 150, 151, 152, 153] rfl (by decide +kernel)
set_option maxRecDepth 20000 in
theorem gX10_market_X10_beginsAnew : GoodIn wsX10_market (wsV RX10 89 RX10 yX10_beginsAnew wsX10_beginsAnew) := goodIn_app (goodIn_of _ (by decide +kernel)) ggX10_market_X10_beginsAnew
set_option maxRecDepth 20000 in
theorem ggX10_beginsAnew_X10_lays : GoodIn wsX10_beginsAnew wsX10_lays := goodIn_r _ [16] rfl (by decide +kernel)
set_option maxRecDepth 20000 in
theorem gX10_beginsAnew_X10_lays : GoodIn wsX10_beginsAnew (va_wsS RX10 184 yX10_lays wsX10_lays) := goodIn_app (goodIn_of _ (by decide +kernel)) ggX10_beginsAnew_X10_lays
set_option maxRecDepth 20000 in
theorem ggX10_opensOne_X10_wrong : GoodIn wsX10_opensOne wsX10_wrong := goodIn_r _ [8, 1, 9, 10, 11, 12, 13, 14, 15, 16, 17, 18, 19, 20, 21, 22, 23, 24, 25, 26, 27, 28, 29, 30, 31, 32, 33, 34, 35, 36, 37, 38, 39, 40, 41, 42, 43, 44, 45, 46, 47, 48, 49, 50, 51, 52, 53, 54, 55] rfl (by decide +kernel)
set_option maxRecDepth 20000 in
theorem gX10_opensOne_X10_wrong : GoodIn wsX10_opensOne (wsV RX10 121 RX10 yX10_wrong wsX10_wrong) := goodIn_app (goodIn_of _ (by decide +kernel)) ggX10_opensOne_X10_wrong
set_option maxRecDepth 20000 in
theorem ggX10_sum_X10_product : GoodIn wsX10_sum wsX10_product := goodIn_r _ [86, 1, 87, 88, 89, 5, 6, 7, 8, 9, 10, 11, 12, 13, 14, 15, 16, 17, 18, 19, 20, 21, 22, 23, 24, 25, 26, 27, 28, 29, 30, 31, 32, 33, 34, 35, 36, 37, 38, 39, 40, 41, 42, 43, 44, 45, 46, 47, 48, 49, 50, 51, 52, 53, 54, 55, 56, 57, 58, 59, 60, 61, 62, 63, 64, 65, 66, 67, 68, 69, 70, 71, 72, 73, 74, 75, 76, 77, 78, 79, 80, 81, 82, 83, 84, 85, 0, 2, 3, 4, 90, 91, 92, 93, 94, 95, 96, 97, 98, 99, 100, 101, 102, 103, 104, 105, 106, 107, 108, 109, 110, 111, 112, 113, 114, 115, 116, 117, 118, 119, 120, 121, 122, 123, 124, 125, 126, 127, 128, 129, 130, 131, 132, 133, 134, 135] rfl (by decide +kernel)
set_option maxRecDepth 20000 in
theorem gX10_sum_X10_product : GoodIn wsX10_sum (wsV RX10 206 RX10 yX10_product wsX10_product) := goodIn_app (goodIn_of _ (by decide +kernel)) ggX10_sum_X10_product
set_option maxRecDepth 20000 in
theorem ggX10_sum_X10_takesSign : GoodIn wsX10_sum wsX10_takesSign := goodIn_r _ [9, 1, 10, 11, 12, 13, 5, 14, 15, 16, 17, 18, 19, 20, 90, 91, 92, 93, 94, 95, 96, 97, 98, 99, 100, 101, 102, 103, 104, 105, 106, 107, 108, 109, 110, 111, 112, 113, 114, 115, 116, 117, 118, 119, 120, 121, 122, 123, 124, 125, 126, 127, 128, 129, 130, 131, 132, 133, 134, 135] rfl (by decide +kernel)
set_option maxRecDepth 20000 in
theorem gX10_sum_X10_takesSign : GoodIn wsX10_sum (wsV RX10 209 RX10 yX10_takesSign wsX10_takesSign) := goodIn_app (goodIn_of _ (by decide +kernel)) ggX10_sum_X10_takesSign
set_option maxRecDepth 20000 in
theorem ggX10_sum_X10_notes : GoodIn wsX10_sum wsX10_notes := goodIn_r _ [24, 1, 25, 26, 90, 91, 92, 93, 94, 95, 96, 97, 98, 99, 100, 101, 102, 103, 104, 105, 106, 107, 108, 109, 110, 111, 112, 113, 114, 115, 116, 117, 118, 119, 120, 121, 122, 123, 124, 125, 126, 127, 128, 129, 130, 131, 132, 133, 134, 135] rfl (by decide +kernel)
set_option maxRecDepth 20000 in
theorem gX10_sum_X10_notes : GoodIn wsX10_sum (wsV RX10 212 RX10 yX10_notes wsX10_notes) := goodIn_app (goodIn_of _ (by decide +kernel)) ggX10_sum_X10_notes
set_option maxRecDepth 20000 in
theorem ggX10_product_X10_one : GoodIn wsX10_product wsX10_one := goodIn_r _ [27, 1, 28, 10, 11, 12, 13, 5, 14, 15, 16, 17, 18, 19, 20, 29, 30, 31, 32, 33, 34, 35, 36, 37, 38, 39, 40, 41, 42, 43, 44, 45, 46, 47, 48, 49, 50, 51, 52, 53, 54, 55, 56, 57, 58, 59, 60, 61, 62, 21, 22, 23, 24, 25, 26, 63, 64, 65, 66, 67, 68, 69, 70, 71, 72, 73, 74, 75, 76, 77, 78, 79, 80, 81, 82, 83, 84, 85, 0, 2, 3, 4, 6, 7, 8, 9, 86, 87, 88, 89, 90, 91, 92, 93, 94, 95, 96, 97, 98, 99, 100, 101, 102, 103, 104, 105, 106, 107, 108, 109, 110, 111, 112, 113, 114, 115, 116, 117, 118, 119, 120, 121, 122, 123, 124, 125, 126, 127, 128, 129, 130, 131, 132, 133, 134, 135] rfl (by decide +kernel)
set_option maxRecDepth 20000 in
theorem gX10_product_X10_one : GoodIn wsX10_product (wsV RX10 215 RX10 yX10_one wsX10_one) := goodIn_app (goodIn_of _ (by decide +kernel)) ggX10_product_X10_one
set_option maxRecDepth 20000 in
theorem ggX10_product_X10_takesSign : GoodIn wsX10_product wsX10_takesSign := goodIn_r _ [9, 1, 10, 11, 12, 13, 5, 14, 15, 16, 17, 18, 19, 20, 90, 91, 92, 93, 94, 95, 96, 97, 98, 99, 100, 101, 102, 103, 104, 105, 106, 107, 108, 109, 110, 111, 112, 113, 114, 115, 116, 117, 118, 119, 120, 121, 122, 123, 124, 125, 126, 127, 128, 129, 130, 131, 132, 133, 134, 135] rfl (by decide +kernel)
set_option maxRecDepth 20000 in
theorem gX10_product_X10_takesSign : GoodIn wsX10_product (wsV RX10 209 RX10 yX10_takesSign wsX10_takesSign) := goodIn_app (goodIn_of _ (by decide +kernel)) ggX10_product_X10_takesSign
set_option maxRecDepth 20000 in
theorem ggX10_product_X10_notes : GoodIn wsX10_product wsX10_notes := goodIn_r _ [24, 1, 25, 26, 90, 91, 92, 93, 94, 95, 96, 97, 98, 99, 100, 101, 102, 103, 104, 105, 106, 107, 108, 109, 110, 111, 112, 113, 114, 115, 116, 117, 118, 119, 120, 121, 122, 123, 124, 125, 126, 127, 128, 129, 130, 131, 132, 133, 134, 135] rfl (by decide +kernel)
set_option maxRecDepth 20000 in
theorem gX10_product_X10_notes : GoodIn wsX10_product (wsV RX10 212 RX10 yX10_notes wsX10_notes) := goodIn_app (goodIn_of _ (by decide +kernel)) ggX10_product_X10_notes
set_option maxRecDepth 20000 in
theorem ggX10_knownHere_X10_takes : GoodIn wsX10_knownHere wsX10_takes := goodIn_r _ [5, 6, 7, 8, 4, 9, 10, 11, 12, 13, 14, 15, 16, 17, 18, 19, 20, 21, 22, 23, 24, 25, 26, 27, 28, 29, 30, 31, 32, 33, 34, 35, 40, 41, 42, 43, 44, 45, 46, 47, 48, 49, 50, 51, 52, 53, 54, 55, 56, 57, 58, 59, 60, 61, 62, 63, 64, 65, 66, 67, 68, 69, 70, 71, 72, 73, 74, 75, 76, 77, 78, 79, 80, 81, 82, 83, 84, 85] rfl (by decide +kernel)
set_option maxRecDepth 20000 in
theorem gX10_knownHere_X10_takes : GoodIn wsX10_knownHere (wsV RX10 218 RX10 yX10_takes wsX10_takes) := goodIn_app (goodIn_of _ (by decide +kernel)) ggX10_knownHere_X10_takes
set_option maxRecDepth 20000 in
theorem ggX10_knownHere_X10_six : GoodIn wsX10_knownHere wsX10_six := goodIn_r _ [31] rfl (by decide +kernel)
set_option maxRecDepth 20000 in
theorem gX10_knownHere_X10_six : GoodIn wsX10_knownHere (va_wsS RX10 137 yX10_six wsX10_six) := goodIn_app (goodIn_of _ (by decide +kernel)) ggX10_knownHere_X10_six
set_option maxRecDepth 20000 in
theorem ggX10_knownHere_X10_isSeven : GoodIn wsX10_knownHere wsX10_isSeven := goodIn_r _ [39, 10, 15, 16, 17, 18, 4, 19, 20, 21, 22, 23, 24, 25, 26, 27, 28, 32, 33, 34, 35, 40, 41, 42, 43, 44, 45, 46, 47, 48, 49, 50, 51, 52, 53, 54, 55, 56, 57, 58, 59, 60, 61, 62, 63, 64, 65, 66, 67, 68, 69, 70, 71, 72, 73, 74, 75, 76, 77, 78, 79, 80, 81, 82, 83, 84, 85] rfl (by decide +kernel)
set_option maxRecDepth 20000 in
theorem gX10_knownHere_X10_isSeven : GoodIn wsX10_knownHere (wsV RX10 221 RX10 yX10_isSeven wsX10_isSeven) := goodIn_app (goodIn_of _ (by decide +kernel)) ggX10_knownHere_X10_isSeven
set_option maxRecDepth 20000 in
theorem ggX10_one_X10_blanks : GoodIn wsX10_one wsX10_blanks := goodIn_r _ [8, 3, 9, 10, 11, 7, 12, 13, 14, 90, 91, 92, 93, 94, 95, 96, 97, 98, 99, 100, 101, 102, 103, 104, 105, 106, 107, 108, 109, 110, 111, 112, 113, 114, 115, 116, 117, 118, 119, 120, 121, 122, 123, 124, 125, 126, 127, 128, 129, 130, 131, 132, 133, 134, 135] rfl (by decide +kernel)
set_option maxRecDepth 20000 in
theorem gX10_one_X10_blanks : GoodIn wsX10_one (wsV RX10 114 RX10 yX10_blanks wsX10_blanks) := goodIn_app (goodIn_of _ (by decide +kernel)) ggX10_one_X10_blanks
set_option maxRecDepth 20000 in
theorem ggX10_one_X10_isWord : GoodIn wsX10_one wsX10_isWord := goodIn_r _ [18, 1, 19, 20, 21, 7, 22, 3, 4, 5, 6, 8, 9, 10, 11, 12, 13, 14, 23, 24, 25, 26, 27, 28, 90, 91, 92, 93, 94, 95, 96, 97, 98, 99, 100, 101, 102, 103, 104, 105, 106, 107, 108, 109, 110, 111, 112, 113, 114, 115, 116, 117, 118, 119, 120, 121, 122, 123, 124, 125, 126, 127, 128, 129, 130, 131, 132, 133, 134, 135] rfl (by decide +kernel)
set_option maxRecDepth 20000 in
theorem gX10_one_X10_isWord : GoodIn wsX10_one (wsV RX10 141 RX10 yX10_isWord wsX10_isWord) := goodIn_app (goodIn_of _ (by decide +kernel)) ggX10_one_X10_isWord
set_option maxRecDepth 20000 in
theorem ggX10_one_X10_opensOne : GoodIn wsX10_one wsX10_opensOne := goodIn_r _ [32, 1, 2, 3, 33, 34, 35, 7, 36, 37, 90, 91, 92, 93, 94, 95, 96, 97, 98, 99, 100, 101, 102, 103, 104, 105, 106, 107, 108, 109, 110, 111, 112, 113, 114, 115, 116, 117, 118, 119, 120, 121, 122, 123, 124, 125, 126, 127, 128, 129, 130, 131, 132, 133, 134, 135] rfl (by decide +kernel)
set_option maxRecDepth 20000 in
theorem gX10_one_X10_opensOne : GoodIn wsX10_one (wsV RX10 225 RX10 yX10_opensOne wsX10_opensOne) := goodIn_app (goodIn_of _ (by decide +kernel)) ggX10_one_X10_opensOne
set_option maxRecDepth 20000 in
theorem ggX10_one_X10_skipWord : GoodIn wsX10_one wsX10_skipWord := goodIn_r _ [41, 3, 9, 10, 11, 7, 12, 13, 14, 23, 24, 25, 90, 91, 92, 93, 94, 95, 96, 97, 98, 99, 100, 101, 102, 103, 104, 105, 106, 107, 108, 109, 110, 111, 112, 113, 114, 115, 116, 117, 118, 119, 120, 121, 122, 123, 124, 125, 126, 127, 128, 129, 130, 131, 132, 133, 134, 135] rfl (by decide +kernel)
set_option maxRecDepth 20000 in
theorem gX10_one_X10_skipWord : GoodIn wsX10_one (wsV RX10 145 RX10 yX10_skipWord wsX10_skipWord) := goodIn_app (goodIn_of _ (by decide +kernel)) ggX10_one_X10_skipWord
set_option maxRecDepth 20000 in
theorem ggX10_one_X10_sign : GoodIn wsX10_one wsX10_sign := goodIn_r _ [45, 1, 3, 4, 5, 6, 7, 8, 9, 10, 11, 12, 13, 14, 33, 34, 35, 36, 37, 90, 91, 92, 93, 94, 95, 96, 97, 98, 99, 100, 101, 102, 103, 104, 105, 106, 107, 108, 109, 110, 111, 112, 113, 114, 115, 116, 117, 118, 119, 120, 121, 122, 123, 124, 125, 126, 127, 128, 129, 130, 131, 132, 133, 134, 135] rfl (by decide +kernel)
set_option maxRecDepth 20000 in
theorem gX10_one_X10_sign : GoodIn wsX10_one (wsV RX10 167 RX10 yX10_sign wsX10_sign) := goodIn_app (goodIn_of _ (by decide +kernel)) ggX10_one_X10_sign
set_option maxRecDepth 20000 in
theorem ggX10_one_X10_sum : GoodIn wsX10_one wsX10_sum := goodIn_r _ [86, 1, 87, 88, 89, 7, 82, 83, 84, 85, 3, 4, 5, 6, 8, 9, 10, 11, 12, 13, 14, 49, 50, 51, 52, 53, 54, 0, 2, 15, 16, 17, 18, 19, 20, 21, 22, 23, 24, 25, 26, 27, 28, 29, 30, 31, 32, 33, 34, 35, 36, 37, 38, 39, 40, 41, 42, 43, 44, 45, 46, 47, 48, 55, 56, 57, 58, 59, 60, 61, 62, 63, 64, 65, 66, 67, 68, 69, 70, 71, 72, 73, 74, 75, 76, 77, 78, 79, 80, 81, 90, 91, 92, 93, 94, 95, 96, 97, 98, 99, 100, 101, 102, 103, 104, 105, 106, 107, 108, 109, 110, 111, 112, 113, 114, 115, 116, 117, 118, 119, 120, 121, 122, 123, 124, 125, 126, 127, 128, 129, 130, 131, 132, 133, 134, 135] rfl (by decide +kernel)
set_option maxRecDepth 20000 in
theorem gX10_one_X10_sum : GoodIn wsX10_one (wsV RX10 229 RX10 yX10_sum wsX10_sum) := goodIn_app (goodIn_of _ (by decide +kernel)) ggX10_one_X10_sum
set_option maxRecDepth 20000 in
theorem ggX10_one_X10_notes : GoodIn wsX10_one wsX10_notes := goodIn_r _ [52, 1, 53, 54, 90, 91, 92, 93, 94, 95, 96, 97, 98, 99, 100, 101, 102, 103, 104, 105, 106, 107, 108, 109, 110, 111, 112, 113, 114, 115, 116, 117, 118, 119, 120, 121, 122, 123, 124, 125, 126, 127, 128, 129, 130, 131, 132, 133, 134, 135] rfl (by decide +kernel)
set_option maxRecDepth 20000 in
theorem gX10_one_X10_notes : GoodIn wsX10_one (wsV RX10 212 RX10 yX10_notes wsX10_notes) := goodIn_app (goodIn_of _ (by decide +kernel)) ggX10_one_X10_notes
set_option maxRecDepth 20000 in
theorem ggX10_one_X10_byteAt : GoodIn wsX10_one wsX10_byteAt := goodIn_r _ [12, 13, 14, 90, 91, 92, 93, 94, 95, 96, 97, 98, 99, 100, 101, 102, 103, 104, 105, 106, 107, 108, 109, 110, 111, 112, 113, 114, 115, 116, 117, 118, 119, 120, 121, 122, 123, 124, 125, 126, 127, 128, 129, 130, 131, 132, 133, 134, 135] rfl (by decide +kernel)
set_option maxRecDepth 20000 in
theorem gX10_one_X10_byteAt : GoodIn wsX10_one (wsV RX10 104 RX10 yX10_byteAt wsX10_byteAt) := goodIn_app (goodIn_of _ (by decide +kernel)) ggX10_one_X10_byteAt
set_option maxRecDepth 20000 in
theorem ggX10_one_X10_knownHere : GoodIn wsX10_one wsX10_knownHere := goodIn_r _ [58, 59, 60, 61, 7, 62, 15, 16, 17, 18, 1, 19, 20, 21, 22, 3, 4, 5, 6, 8, 9, 10, 11, 12, 13, 14, 23, 24, 25, 26, 27, 28, 38, 39, 40, 41, 63, 64, 65, 66, 90, 91, 92, 93, 94, 95, 96, 97, 98, 99, 100, 101, 102, 103, 104, 105, 106, 107, 108, 109, 110, 111, 112, 113, 114, 115, 116, 117, 118, 119, 120, 121, 122, 123, 124, 125, 126, 127, 128, 129, 130, 131, 132, 133, 134, 135] rfl (by decide +kernel)
set_option maxRecDepth 20000 in
theorem gX10_one_X10_knownHere : GoodIn wsX10_one (wsV RX10 232 RX10 yX10_knownHere wsX10_knownHere) := goodIn_app (goodIn_of _ (by decide +kernel)) ggX10_one_X10_knownHere
set_option maxRecDepth 20000 in
theorem ggX10_one_X10_number : GoodIn wsX10_one wsX10_number := goodIn_r _ [70, 1, 3, 71, 4, 5, 6, 7, 8, 9, 10, 11, 12, 13, 14, 72, 73, 74, 33, 34, 35, 36, 37, 75, 76, 77, 90, 91, 92, 93, 94, 95, 96, 97, 98, 99, 100, 101, 102, 103, 104, 105, 106, 107, 108, 109, 110, 111, 112, 113, 114, 115, 116, 117, 118, 119, 120, 121, 122, 123, 124, 125, 126, 127, 128, 129, 130, 131, 132, 133, 134, 135] rfl (by decide +kernel)
set_option maxRecDepth 20000 in
theorem gX10_one_X10_number : GoodIn wsX10_one (wsV RX10 154 RX10 yX10_number wsX10_number) := goodIn_app (goodIn_of _ (by decide +kernel)) ggX10_one_X10_number
set_option maxRecDepth 20000 in
theorem ggX10_law_X10_in : GoodIn wsX10_law wsX10_in := goodIn_r _ [14] rfl (by decide +kernel)
set_option maxRecDepth 20000 in
theorem gX10_law_X10_in : GoodIn wsX10_law (va_wsS RX10 126 yX10_in wsX10_in) := goodIn_app (goodIn_of _ (by decide +kernel)) ggX10_law_X10_in
set_option maxRecDepth 20000 in
theorem ggX10_law_X10_bad : GoodIn wsX10_law wsX10_bad := goodIn_r _ [18, 1, 19, 113, 114, 115, 116, 117, 118, 119, 120, 121, 122, 123, 124, 125, 126, 127, 128, 129, 130, 131, 132, 133, 134, 135, 136, 137, 138, 139, 140, 141, 142, 143, 144, 145, 146, 147, 148, 149, 150, 151, 152, 153, 154, 155, 156, 157, 158] rfl (by decide +kernel)
set_option maxRecDepth 20000 in
theorem gX10_law_X10_bad : GoodIn wsX10_law (wsV RX10 171 RX10 yX10_bad wsX10_bad) := goodIn_app (goodIn_of _ (by decide +kernel)) ggX10_law_X10_bad
set_option maxRecDepth 20000 in
theorem ggX10_law_X10_starts : GoodIn wsX10_law wsX10_starts := goodIn_r _ [23, 2, 6, 5, 4, 24, 25, 26, 27, 28, 29, 13, 30, 31, 32, 33, 34, 35, 113, 114, 115, 116, 117, 118, 119, 120, 121, 122, 123, 124, 125, 126, 127, 128, 129, 130, 131, 132, 133, 134, 135, 136, 137, 138, 139, 140, 141, 142, 143, 144, 145, 146, 147, 148, 149, 150, 151, 152, 153, 154, 155, 156, 157, 158] rfl (by decide +kernel)
set_option maxRecDepth 20000 in
theorem gX10_law_X10_starts : GoodIn wsX10_law (wsV RX10 175 RX10 yX10_starts wsX10_starts) := goodIn_app (goodIn_of _ (by decide +kernel)) ggX10_law_X10_starts
set_option maxRecDepth 20000 in
theorem ggX10_law_X10_sum : GoodIn wsX10_law wsX10_sum := goodIn_r _ [39, 4, 40, 41, 42, 13, 43, 44, 45, 46, 5, 27, 28, 29, 30, 31, 32, 33, 34, 6, 35, 47, 48, 49, 50, 9, 3, 51, 26, 52, 53, 54, 55, 56, 57, 58, 59, 60, 61, 62, 63, 64, 65, 66, 67, 68, 69, 70, 71, 72, 73, 24, 74, 75, 76, 77, 78, 79, 80, 81, 36, 37, 38, 82, 83, 84, 85, 86, 87, 88, 89, 90, 91, 92, 93, 94, 95, 96, 97, 98, 99, 100, 101, 11, 12, 14, 102, 103, 104, 105, 113, 114, 115, 116, 117, 118, 119, 120, 121, 122, 123, 124, 125, 126, 127, 128, 129, 130, 131, 132, 133, 134, 135, 136, 137, 138, 139, 140, 141, 142, 143, 144, 145, 146, 147, 148, 149, 150, 151, 152, 153, 154, 155, 156, 157, 158] rfl (by decide +kernel)
set_option maxRecDepth 20000 in
theorem gX10_law_X10_sum : GoodIn wsX10_law (wsV RX10 229 RX10 yX10_sum wsX10_sum) := goodIn_app (goodIn_of _ (by decide +kernel)) ggX10_law_X10_sum
set_option maxRecDepth 20000 in
theorem ggX10_law_X10_blanks : GoodIn wsX10_law wsX10_blanks := goodIn_r _ [30, 5, 31, 32, 33, 13, 34, 6, 35, 113, 114, 115, 116, 117, 118, 119, 120, 121, 122, 123, 124, 125, 126, 127, 128, 129, 130, 131, 132, 133, 134, 135, 136, 137, 138, 139, 140, 141, 142, 143, 144, 145, 146, 147, 148, 149, 150, 151, 152, 153, 154, 155, 156, 157, 158] rfl (by decide +kernel)
set_option maxRecDepth 20000 in
theorem gX10_law_X10_blanks : GoodIn wsX10_law (wsV RX10 114 RX10 yX10_blanks wsX10_blanks) := goodIn_app (goodIn_of _ (by decide +kernel)) ggX10_law_X10_blanks
set_option maxRecDepth 20000 in
theorem ggX10_law_X10_wrong : GoodIn wsX10_law wsX10_wrong := goodIn_r _ [73, 4, 24, 113, 114, 115, 116, 117, 118, 119, 120, 121, 122, 123, 124, 125, 126, 127, 128, 129, 130, 131, 132, 133, 134, 135, 136, 137, 138, 139, 140, 141, 142, 143, 144, 145, 146, 147, 148, 149, 150, 151, 152, 153, 154, 155, 156, 157, 158] rfl (by decide +kernel)
set_option maxRecDepth 20000 in
theorem gX10_law_X10_wrong : GoodIn wsX10_law (wsV RX10 121 RX10 yX10_wrong wsX10_wrong) := goodIn_app (goodIn_of _ (by decide +kernel)) ggX10_law_X10_wrong
set_option maxRecDepth 20000 in
theorem ggX10_law_X10_ends : GoodIn wsX10_law wsX10_ends := goodIn_r _ [109, 24, 7, 4, 113, 114, 115, 116, 117, 118, 119, 120, 121, 122, 123, 124, 125, 126, 127, 128, 129, 130, 131, 132, 133, 134, 135, 136, 137, 138, 139, 140, 141, 142, 143, 144, 145, 146, 147, 148, 149, 150, 151, 152, 153, 154, 155, 156, 157, 158] rfl (by decide +kernel)
set_option maxRecDepth 20000 in
theorem gX10_law_X10_ends : GoodIn wsX10_law (wsV RX10 181 RX10 yX10_ends wsX10_ends) := goodIn_app (goodIn_of _ (by decide +kernel)) ggX10_law_X10_ends
set_option maxRecDepth 20000 in
theorem ggX10_law_X10_lays : GoodIn wsX10_law wsX10_lays := goodIn_r _ [112] rfl (by decide +kernel)
set_option maxRecDepth 20000 in
theorem gX10_law_X10_lays : GoodIn wsX10_law (va_wsS RX10 184 yX10_lays wsX10_lays) := goodIn_app (goodIn_of _ (by decide +kernel)) ggX10_law_X10_lays
set_option maxRecDepth 20000 in
theorem ggX10_by_X10_less : GoodIn wsX10_by wsX10_less := goodIn_r _ [4] rfl (by decide +kernel)
set_option maxRecDepth 20000 in
theorem gX10_by_X10_less : GoodIn wsX10_by (va_wsS RX10 235 yX10_less wsX10_less) := goodIn_app (goodIn_of _ (by decide +kernel)) ggX10_by_X10_less
set_option maxRecDepth 20000 in
theorem ggX10_by_X10_more : GoodIn wsX10_by wsX10_more := goodIn_r _ [7] rfl (by decide +kernel)
set_option maxRecDepth 20000 in
theorem gX10_by_X10_more : GoodIn wsX10_by (va_wsS RX10 238 yX10_more wsX10_more) := goodIn_app (goodIn_of _ (by decide +kernel)) ggX10_by_X10_more
set_option maxRecDepth 20000 in
theorem ggX10_byLaw_X10_by : GoodIn wsX10_byLaw wsX10_by := goodIn_r _ [8, 9, 10, 7, 11, 12, 13, 14] rfl (by decide +kernel)
set_option maxRecDepth 20000 in
theorem gX10_byLaw_X10_by : GoodIn wsX10_byLaw (va_wsS RX10 241 yX10_by wsX10_by) := goodIn_app (goodIn_of _ (by decide +kernel)) ggX10_byLaw_X10_by
set_option maxRecDepth 20000 in
theorem ggX10_byLaw_X10_more : GoodIn wsX10_byLaw wsX10_more := goodIn_r _ [14] rfl (by decide +kernel)
set_option maxRecDepth 20000 in
theorem gX10_byLaw_X10_more : GoodIn wsX10_byLaw (va_wsS RX10 238 yX10_more wsX10_more) := goodIn_app (goodIn_of _ (by decide +kernel)) ggX10_byLaw_X10_more
set_option maxRecDepth 20000 in
theorem ggX10_byLaw_X10_less : GoodIn wsX10_byLaw wsX10_less := goodIn_r _ [11] rfl (by decide +kernel)
set_option maxRecDepth 20000 in
theorem gX10_byLaw_X10_less : GoodIn wsX10_byLaw (va_wsS RX10 235 yX10_less wsX10_less) := goodIn_app (goodIn_of _ (by decide +kernel)) ggX10_byLaw_X10_less
set_option maxRecDepth 20000 in
theorem ggX10_stepHere_X10_isWord : GoodIn wsX10_stepHere wsX10_isWord := goodIn_r _ [5, 6, 7, 8, 9, 4, 10, 11, 12, 13, 14, 15, 16, 17, 18, 19, 20, 21, 22, 23, 24, 25, 26, 27, 28, 29, 30, 31, 32, 33, 34, 35, 36, 37, 38, 39, 40, 41, 42, 43, 44, 45, 46, 47, 48, 49, 50, 51, 52, 53, 54, 55, 56, 57, 58, 59, 60, 61, 62, 63, 64, 65, 66, 67, 68, 69, 70, 71, 72, 73] rfl (by decide +kernel)
set_option maxRecDepth 20000 in
theorem gX10_stepHere_X10_isWord : GoodIn wsX10_stepHere (wsV RX10 141 RX10 yX10_isWord wsX10_isWord) := goodIn_app (goodIn_of _ (by decide +kernel)) ggX10_stepHere_X10_isWord
set_option maxRecDepth 20000 in
theorem ggX10_readsStep_X10_stepHere : GoodIn wsX10_readsStep wsX10_stepHere := goodIn_r _ [11, 12, 13, 14, 10, 15, 2, 16, 17, 18, 19, 1, 20, 21, 22, 23, 24, 25, 26, 27, 28, 29, 30, 31, 32, 33, 34, 35, 71, 72, 73, 74, 75, 76, 77, 78, 79, 80, 81, 82, 83, 84, 85, 86, 87, 88, 89, 90, 91, 92, 93, 94, 95, 96, 97, 98, 99, 100, 101, 102, 103, 104, 105, 106, 107, 108, 109, 110, 111, 112, 113, 114, 115, 116] rfl (by decide +kernel)
set_option maxRecDepth 20000 in
theorem gX10_readsStep_X10_stepHere : GoodIn wsX10_readsStep (wsV RX10 244 RX10 yX10_stepHere wsX10_stepHere) := goodIn_app (goodIn_of _ (by decide +kernel)) ggX10_readsStep_X10_stepHere
set_option maxRecDepth 20000 in
theorem ggX10_readsStep_X10_wrong : GoodIn wsX10_readsStep wsX10_wrong := goodIn_r _ [39, 2, 40, 71, 72, 73, 74, 75, 76, 77, 78, 79, 80, 81, 82, 83, 84, 85, 86, 87, 88, 89, 90, 91, 92, 93, 94, 95, 96, 97, 98, 99, 100, 101, 102, 103, 104, 105, 106, 107, 108, 109, 110, 111, 112, 113, 114, 115, 116] rfl (by decide +kernel)
set_option maxRecDepth 20000 in
theorem gX10_readsStep_X10_wrong : GoodIn wsX10_readsStep (wsV RX10 121 RX10 yX10_wrong wsX10_wrong) := goodIn_app (goodIn_of _ (by decide +kernel)) ggX10_readsStep_X10_wrong
set_option maxRecDepth 20000 in
theorem ggX10_readsStep_X10_opensOne : GoodIn wsX10_readsStep wsX10_opensOne := goodIn_r _ [44, 2, 6, 1, 36, 37, 38, 10, 39, 40, 71, 72, 73, 74, 75, 76, 77, 78, 79, 80, 81, 82, 83, 84, 85, 86, 87, 88, 89, 90, 91, 92, 93, 94, 95, 96, 97, 98, 99, 100, 101, 102, 103, 104, 105, 106, 107, 108, 109, 110, 111, 112, 113, 114, 115, 116] rfl (by decide +kernel)
set_option maxRecDepth 20000 in
theorem gX10_readsStep_X10_opensOne : GoodIn wsX10_readsStep (wsV RX10 225 RX10 yX10_opensOne wsX10_opensOne) := goodIn_app (goodIn_of _ (by decide +kernel)) ggX10_readsStep_X10_opensOne
set_option maxRecDepth 20000 in
theorem ggX10_readsStep_X10_skipWord : GoodIn wsX10_readsStep wsX10_skipWord := goodIn_r _ [48, 1, 24, 25, 26, 10, 27, 28, 29, 30, 31, 32, 71, 72, 73, 74, 75, 76, 77, 78, 79, 80, 81, 82, 83, 84, 85, 86, 87, 88, 89, 90, 91, 92, 93, 94, 95, 96, 97, 98, 99, 100, 101, 102, 103, 104, 105, 106, 107, 108, 109, 110, 111, 112, 113, 114, 115, 116] rfl (by decide +kernel)
set_option maxRecDepth 20000 in
theorem gX10_readsStep_X10_skipWord : GoodIn wsX10_readsStep (wsV RX10 145 RX10 yX10_skipWord wsX10_skipWord) := goodIn_app (goodIn_of _ (by decide +kernel)) ggX10_readsStep_X10_skipWord
set_option maxRecDepth 20000 in
theorem ggX10_readsStep_X10_number : GoodIn wsX10_readsStep wsX10_number := goodIn_r _ [52, 2, 1, 53, 20, 21, 22, 10, 23, 24, 25, 26, 27, 28, 29, 54, 55, 56, 36, 37, 38, 39, 40, 57, 58, 59, 71, 72, 73, 74, 75, 76, 77, 78, 79, 80, 81, 82, 83, 84, 85, 86, 87, 88, 89, 90, 91, 92, 93, 94, 95, 96, 97, 98, 99, 100, 101, 102, 103, 104, 105, 106, 107, 108, 109, 110, 111, 112, 113, 114, 115, 116] rfl (by decide +kernel)
set_option maxRecDepth 20000 in
theorem gX10_readsStep_X10_number : GoodIn wsX10_readsStep (wsV RX10 154 RX10 yX10_number wsX10_number) := goodIn_app (goodIn_of _ (by decide +kernel)) ggX10_readsStep_X10_number
set_option maxRecDepth 20000 in
theorem ggX10_readsStep_X10_otherThing : GoodIn wsX10_readsStep wsX10_otherThing := goodIn_r _ [63, 1, 2, 20, 21, 22, 10, 23, 24, 25, 26, 27, 28, 29, 49, 50, 51, 52, 53, 54, 55, 56, 36, 37, 38, 39, 40, 57, 58, 59, 71, 72, 73, 74, 75, 76, 77, 78, 79, 80, 81, 82, 83, 84, 85, 86, 87, 88, 89, 90, 91, 92, 93, 94, 95, 96, 97, 98, 99, 100, 101, 102, 103, 104, 105, 106, 107, 108, 109, 110, 111, 112, 113, 114, 115, 116] rfl (by decide +kernel)
set_option maxRecDepth 20000 in
theorem gX10_readsStep_X10_otherThing : GoodIn wsX10_readsStep (wsV RX10 164 RX10 yX10_otherThing wsX10_otherThing) := goodIn_app (goodIn_of _ (by decide +kernel)) ggX10_readsStep_X10_otherThing
set_option maxRecDepth 20000 in
theorem ggX10_readsStep_X10_sign : GoodIn wsX10_readsStep wsX10_sign := goodIn_r _ [67, 2, 1, 20, 21, 22, 10, 23, 24, 25, 26, 27, 28, 29, 36, 37, 38, 39, 40, 71, 72, 73, 74, 75, 76, 77, 78, 79, 80, 81, 82, 83, 84, 85, 86, 87, 88, 89, 90, 91, 92, 93, 94, 95, 96, 97, 98, 99, 100, 101, 102, 103, 104, 105, 106, 107, 108, 109, 110, 111, 112, 113, 114, 115, 116] rfl (by decide +kernel)
set_option maxRecDepth 20000 in
theorem gX10_readsStep_X10_sign : GoodIn wsX10_readsStep (wsV RX10 167 RX10 yX10_sign wsX10_sign) := goodIn_app (goodIn_of _ (by decide +kernel)) ggX10_readsStep_X10_sign
set_option maxRecDepth 20000 in
theorem ggX10_readsStep_X10_blanks : GoodIn wsX10_readsStep wsX10_blanks := goodIn_r _ [23, 1, 24, 25, 26, 10, 27, 28, 29, 71, 72, 73, 74, 75, 76, 77, 78, 79, 80, 81, 82, 83, 84, 85, 86, 87, 88, 89, 90, 91, 92, 93, 94, 95, 96, 97, 98, 99, 100, 101, 102, 103, 104, 105, 106, 107, 108, 109, 110, 111, 112, 113, 114, 115, 116] rfl (by decide +kernel)
set_option maxRecDepth 20000 in
theorem gX10_readsStep_X10_blanks : GoodIn wsX10_readsStep (wsV RX10 114 RX10 yX10_blanks wsX10_blanks) := goodIn_app (goodIn_of _ (by decide +kernel)) ggX10_readsStep_X10_blanks
set_option maxRecDepth 20000 in
theorem ggX10_readsStep_X10_byteAt : GoodIn wsX10_readsStep wsX10_byteAt := goodIn_r _ [27, 28, 29, 71, 72, 73, 74, 75, 76, 77, 78, 79, 80, 81, 82, 83, 84, 85, 86, 87, 88, 89, 90, 91, 92, 93, 94, 95, 96, 97, 98, 99, 100, 101, 102, 103, 104, 105, 106, 107, 108, 109, 110, 111, 112, 113, 114, 115, 116] rfl (by decide +kernel)
set_option maxRecDepth 20000 in
theorem gX10_readsStep_X10_byteAt : GoodIn wsX10_readsStep (wsV RX10 104 RX10 yX10_byteAt wsX10_byteAt) := goodIn_app (goodIn_of _ (by decide +kernel)) ggX10_readsStep_X10_byteAt
set_option maxRecDepth 20000 in
theorem ggX10_readsStep_X10_readsStep : GoodIn wsX10_readsStep wsX10_readsStep := goodIn_r _ [0, 1, 2, 3, 4, 5, 6, 7, 8, 9, 10, 11, 12, 13, 14, 15, 16, 17, 18, 19, 20, 21, 22, 23, 24, 25, 26, 27, 28, 29, 30, 31, 32, 33, 34, 35, 36, 37, 38, 39, 40, 41, 42, 43, 44, 45, 46, 47, 48, 49, 50, 51, 52, 53, 54, 55, 56, 57, 58, 59, 60, 61, 62, 63, 64, 65, 66, 67, 68, 69, 70, 71, 72, 73, 74, 75, 76, 77, 78, 79, 80, 81, 82, 83, 84, 85, 86, 87, 88, 89, 90, 91, 92, 93, 94, 95, 96, 97, 98, 99, 100, 101, 102, 103, 104, 105, 106, 107, 108, 109, 110, 111, 112, 113, 114, 115, 116] rfl (by decide +kernel)
set_option maxRecDepth 20000 in
theorem gX10_readsStep_X10_readsStep : GoodIn wsX10_readsStep (wsV RX10 250 RX10 yX10_readsStep wsX10_readsStep) := goodIn_app (goodIn_of _ (by decide +kernel)) ggX10_readsStep_X10_readsStep
set_option maxRecDepth 20000 in
theorem ggX10_book_X10_in : GoodIn wsX10_book wsX10_in := goodIn_r _ [14] rfl (by decide +kernel)
set_option maxRecDepth 20000 in
theorem gX10_book_X10_in : GoodIn wsX10_book (va_wsS RX10 126 yX10_in wsX10_in) := goodIn_app (goodIn_of _ (by decide +kernel)) ggX10_book_X10_in
set_option maxRecDepth 20000 in
theorem ggX10_book_X10_bad : GoodIn wsX10_book wsX10_bad := goodIn_r _ [18, 1, 19, 63, 64, 65, 66, 67, 68, 69, 70, 71, 72, 73, 74, 75, 76, 77, 78, 79, 80, 81, 82, 83, 84, 85, 86, 87, 88, 89, 90, 91, 92, 93, 94, 95, 96, 97, 98, 99, 100, 101, 102, 103, 104, 105, 106, 107, 108] rfl (by decide +kernel)
set_option maxRecDepth 20000 in
theorem gX10_book_X10_bad : GoodIn wsX10_book (wsV RX10 171 RX10 yX10_bad wsX10_bad) := goodIn_app (goodIn_of _ (by decide +kernel)) ggX10_book_X10_bad
set_option maxRecDepth 20000 in
theorem ggX10_book_X10_starts : GoodIn wsX10_book wsX10_starts := goodIn_r _ [23, 2, 5, 4, 3, 24, 25, 26, 27, 28, 29, 13, 30, 31, 32, 33, 34, 35, 63, 64, 65, 66, 67, 68, 69, 70, 71, 72, 73, 74, 75, 76, 77, 78, 79, 80, 81, 82, 83, 84, 85, 86, 87, 88, 89, 90, 91, 92, 93, 94, 95, 96, 97, 98, 99, 100, 101, 102, 103, 104, 105, 106, 107, 108] rfl (by decide +kernel)
set_option maxRecDepth 20000 in
theorem gX10_book_X10_starts : GoodIn wsX10_book (wsV RX10 175 RX10 yX10_starts wsX10_starts) := goodIn_app (goodIn_of _ (by decide +kernel)) ggX10_book_X10_starts
set_option maxRecDepth 20000 in
theorem ggX10_book_X10_number : GoodIn wsX10_book wsX10_number := goodIn_r _ [39, 3, 4, 40, 27, 28, 29, 13, 30, 31, 32, 33, 34, 5, 35, 41, 42, 43, 44, 45, 46, 47, 24, 11, 12, 14, 63, 64, 65, 66, 67, 68, 69, 70, 71, 72, 73, 74, 75, 76, 77, 78, 79, 80, 81, 82, 83, 84, 85, 86, 87, 88, 89, 90, 91, 92, 93, 94, 95, 96, 97, 98, 99, 100, 101, 102, 103, 104, 105, 106, 107, 108] rfl (by decide +kernel)
set_option maxRecDepth 20000 in
theorem gX10_book_X10_number : GoodIn wsX10_book (wsV RX10 154 RX10 yX10_number wsX10_number) := goodIn_app (goodIn_of _ (by decide +kernel)) ggX10_book_X10_number
set_option maxRecDepth 20000 in
theorem ggX10_book_X10_wrong : GoodIn wsX10_book wsX10_wrong := goodIn_r _ [47, 3, 24, 63, 64, 65, 66, 67, 68, 69, 70, 71, 72, 73, 74, 75, 76, 77, 78, 79, 80, 81, 82, 83, 84, 85, 86, 87, 88, 89, 90, 91, 92, 93, 94, 95, 96, 97, 98, 99, 100, 101, 102, 103, 104, 105, 106, 107, 108] rfl (by decide +kernel)
set_option maxRecDepth 20000 in
theorem gX10_book_X10_wrong : GoodIn wsX10_book (wsV RX10 121 RX10 yX10_wrong wsX10_wrong) := goodIn_app (goodIn_of _ (by decide +kernel)) ggX10_book_X10_wrong
set_option maxRecDepth 20000 in
theorem ggX10_book_X10_otherThing : GoodIn wsX10_book wsX10_otherThing := goodIn_r _ [51, 4, 3, 27, 28, 29, 13, 30, 31, 32, 33, 34, 5, 35, 36, 37, 38, 39, 40, 41, 42, 43, 44, 45, 46, 47, 24, 11, 12, 14, 63, 64, 65, 66, 67, 68, 69, 70, 71, 72, 73, 74, 75, 76, 77, 78, 79, 80, 81, 82, 83, 84, 85, 86, 87, 88, 89, 90, 91, 92, 93, 94, 95, 96, 97, 98, 99, 100, 101, 102, 103, 104, 105, 106, 107, 108] rfl (by decide +kernel)
set_option maxRecDepth 20000 in
theorem gX10_book_X10_otherThing : GoodIn wsX10_book (wsV RX10 164 RX10 yX10_otherThing wsX10_otherThing) := goodIn_app (goodIn_of _ (by decide +kernel)) ggX10_book_X10_otherThing
set_option maxRecDepth 20000 in
theorem ggX10_book_X10_sign : GoodIn wsX10_book wsX10_sign := goodIn_r _ [55, 3, 4, 27, 28, 29, 13, 30, 31, 32, 33, 34, 5, 35, 44, 45, 46, 47, 24, 63, 64, 65, 66, 67, 68, 69, 70, 71, 72, 73, 74, 75, 76, 77, 78, 79, 80, 81, 82, 83, 84, 85, 86, 87, 88, 89, 90, 91, 92, 93, 94, 95, 96, 97, 98, 99, 100, 101, 102, 103, 104, 105, 106, 107, 108] rfl (by decide +kernel)
set_option maxRecDepth 20000 in
theorem gX10_book_X10_sign : GoodIn wsX10_book (wsV RX10 167 RX10 yX10_sign wsX10_sign) := goodIn_app (goodIn_of _ (by decide +kernel)) ggX10_book_X10_sign
set_option maxRecDepth 20000 in
theorem ggX10_book_X10_blanks : GoodIn wsX10_book wsX10_blanks := goodIn_r _ [30, 4, 31, 32, 33, 13, 34, 5, 35, 63, 64, 65, 66, 67, 68, 69, 70, 71, 72, 73, 74, 75, 76, 77, 78, 79, 80, 81, 82, 83, 84, 85, 86, 87, 88, 89, 90, 91, 92, 93, 94, 95, 96, 97, 98, 99, 100, 101, 102, 103, 104, 105, 106, 107, 108] rfl (by decide +kernel)
set_option maxRecDepth 20000 in
theorem gX10_book_X10_blanks : GoodIn wsX10_book (wsV RX10 114 RX10 yX10_blanks wsX10_blanks) := goodIn_app (goodIn_of _ (by decide +kernel)) ggX10_book_X10_blanks
set_option maxRecDepth 20000 in
theorem ggX10_book_X10_ends : GoodIn wsX10_book wsX10_ends := goodIn_r _ [59, 24, 8, 3, 63, 64, 65, 66, 67, 68, 69, 70, 71, 72, 73, 74, 75, 76, 77, 78, 79, 80, 81, 82, 83, 84, 85, 86, 87, 88, 89, 90, 91, 92, 93, 94, 95, 96, 97, 98, 99, 100, 101, 102, 103, 104, 105, 106, 107, 108] rfl (by decide +kernel)
set_option maxRecDepth 20000 in
theorem gX10_book_X10_ends : GoodIn wsX10_book (wsV RX10 181 RX10 yX10_ends wsX10_ends) := goodIn_app (goodIn_of _ (by decide +kernel)) ggX10_book_X10_ends
set_option maxRecDepth 20000 in
theorem ggX10_book_X10_lays : GoodIn wsX10_book wsX10_lays := goodIn_r _ [62] rfl (by decide +kernel)
set_option maxRecDepth 20000 in
theorem gX10_book_X10_lays : GoodIn wsX10_book (va_wsS RX10 184 yX10_lays wsX10_lays) := goodIn_app (goodIn_of _ (by decide +kernel)) ggX10_book_X10_lays
set_option maxRecDepth 20000 in
theorem ggX10_wearBy_X10_byLaw : GoodIn wsX10_wearBy wsX10_byLaw := goodIn_r _ [6, 7, 1, 8, 9, 10, 11, 5, 12, 13, 14, 15, 16, 17, 18, 19, 20, 21, 22, 23, 24, 25, 26, 27, 28, 29, 30, 31, 32, 33, 34, 35, 36, 37, 38, 39, 40, 41, 42, 43, 44, 45, 46, 47, 48, 49, 50, 51, 52, 53, 54, 55, 56, 57, 58, 59, 60, 61, 62, 63, 64] rfl (by decide +kernel)
set_option maxRecDepth 20000 in
theorem gX10_wearBy_X10_byLaw : GoodIn wsX10_wearBy (wsV RX10 253 RX10 yX10_byLaw wsX10_byLaw) := goodIn_app (goodIn_of _ (by decide +kernel)) ggX10_wearBy_X10_byLaw
set_option maxRecDepth 20000 in
theorem ggX10_wearOf_X10_criesOf : GoodIn wsX10_wearOf wsX10_criesOf := goodIn_r _ [5] rfl (by decide +kernel)
set_option maxRecDepth 20000 in
theorem gX10_wearOf_X10_criesOf : GoodIn wsX10_wearOf (va_wsS RX10 256 yX10_criesOf wsX10_criesOf) := goodIn_app (goodIn_of _ (by decide +kernel)) ggX10_wearOf_X10_criesOf
set_option maxRecDepth 20000 in
theorem ggX10_wearOf_X10_ones : GoodIn wsX10_wearOf wsX10_ones := goodIn_r _ [8] rfl (by decide +kernel)
set_option maxRecDepth 20000 in
theorem gX10_wearOf_X10_ones : GoodIn wsX10_wearOf (va_wsS RX10 260 yX10_ones wsX10_ones) := goodIn_app (goodIn_of _ (by decide +kernel)) ggX10_wearOf_X10_ones
set_option maxRecDepth 20000 in
theorem ggX10_wearOf_X10_wearBy : GoodIn wsX10_wearOf wsX10_wearBy := goodIn_r _ [12, 13, 14, 15, 16, 4, 17, 18, 19, 20, 21, 22, 23, 24, 25, 26, 27, 28, 29, 30, 31, 32, 33, 34, 35, 36, 37, 38, 39, 40, 41, 42, 43, 44, 45, 46, 47, 48, 49, 50, 51, 52, 53, 54, 55, 56, 57, 58, 59, 60, 61, 62, 63, 64, 65, 66, 67, 68, 69, 70, 71, 72, 73, 74, 75] rfl (by decide +kernel)
set_option maxRecDepth 20000 in
theorem gX10_wearOf_X10_wearBy : GoodIn wsX10_wearOf (wsV RX10 263 RX10 yX10_wearBy wsX10_wearBy) := goodIn_app (goodIn_of _ (by decide +kernel)) ggX10_wearOf_X10_wearBy
set_option maxRecDepth 20000 in
theorem ggX10_standsIn_X10_standsBy : GoodIn wsX10_standsIn wsX10_standsBy := goodIn_r _ [5] rfl (by decide +kernel)
set_option maxRecDepth 20000 in
theorem gX10_standsIn_X10_standsBy : GoodIn wsX10_standsIn (va_wsS RX10 267 yX10_standsBy wsX10_standsBy) := goodIn_app (goodIn_of _ (by decide +kernel)) ggX10_standsIn_X10_standsBy
set_option maxRecDepth 20000 in
theorem ggX10_weighs_X10_standsIn : GoodIn wsX10_weighs wsX10_standsIn := goodIn_r _ [5, 6, 7, 8, 4, 9, 16, 17, 18, 19, 20, 21, 22, 23, 24, 25, 26, 27, 28, 29, 30, 31, 32, 33, 34, 35, 36, 37, 38, 39, 40, 41, 42, 43, 44, 45, 46, 47, 48, 49, 50, 51, 52, 53, 54, 55, 56, 57, 58, 59, 60, 61] rfl (by decide +kernel)
set_option maxRecDepth 20000 in
theorem gX10_weighs_X10_standsIn : GoodIn wsX10_weighs (wsV RX10 271 RX10 yX10_standsIn wsX10_standsIn) := goodIn_app (goodIn_of _ (by decide +kernel)) ggX10_weighs_X10_standsIn
set_option maxRecDepth 20000 in
theorem ggX10_weighs_X10_isCry : GoodIn wsX10_weighs wsX10_isCry := goodIn_r _ [12] rfl (by decide +kernel)
set_option maxRecDepth 20000 in
theorem gX10_weighs_X10_isCry : GoodIn wsX10_weighs (va_wsS RX10 275 yX10_isCry wsX10_isCry) := goodIn_app (goodIn_of _ (by decide +kernel)) ggX10_weighs_X10_isCry
set_option maxRecDepth 20000 in
theorem ggX10_weighs_X10_cries : GoodIn wsX10_weighs wsX10_cries := goodIn_r _ [15] rfl (by decide +kernel)
set_option maxRecDepth 20000 in
theorem gX10_weighs_X10_cries : GoodIn wsX10_weighs (va_wsS RX10 279 yX10_cries wsX10_cries) := goodIn_app (goodIn_of _ (by decide +kernel)) ggX10_weighs_X10_cries
set_option maxRecDepth 20000 in
theorem ggX10_feeds_X10_less : GoodIn wsX10_feeds wsX10_less := goodIn_r _ [4] rfl (by decide +kernel)
set_option maxRecDepth 20000 in
theorem gX10_feeds_X10_less : GoodIn wsX10_feeds (va_wsS RX10 235 yX10_less wsX10_less) := goodIn_app (goodIn_of _ (by decide +kernel)) ggX10_feeds_X10_less
set_option maxRecDepth 20000 in
theorem ggX10_dayEnds_X10_wearOf : GoodIn wsX10_dayEnds wsX10_wearOf := goodIn_r _ [7, 1, 8, 9, 6, 10, 11, 12, 13, 14, 15, 16, 17, 18, 19, 20, 21, 22, 23, 24, 25, 26, 27, 28, 29, 30, 31, 32, 33, 34, 35, 36, 37, 38, 39, 40, 41, 42, 43, 44, 45, 46, 47, 48, 49, 50, 51, 52, 53, 54, 55, 56, 57, 58, 59, 60, 61, 62, 63, 64, 65, 66, 67, 68, 69, 70, 71, 72, 73, 74, 75, 76, 77, 78, 79, 80] rfl (by decide +kernel)
set_option maxRecDepth 20000 in
theorem gX10_dayEnds_X10_wearOf : GoodIn wsX10_dayEnds (wsV RX10 283 RX10 yX10_wearOf wsX10_wearOf) := goodIn_app (goodIn_of _ (by decide +kernel)) ggX10_dayEnds_X10_wearOf
set_option maxRecDepth 20000 in
theorem ggX10_dayEnds_X10_more : GoodIn wsX10_dayEnds wsX10_more := goodIn_r _ [34] rfl (by decide +kernel)
set_option maxRecDepth 20000 in
theorem gX10_dayEnds_X10_more : GoodIn wsX10_dayEnds (va_wsS RX10 238 yX10_more wsX10_more) := goodIn_app (goodIn_of _ (by decide +kernel)) ggX10_dayEnds_X10_more
set_option maxRecDepth 20000 in
theorem ggX10_does_X10_weighs : GoodIn wsX10_does wsX10_weighs := goodIn_r _ [5, 6, 7, 8, 4, 9, 10, 11, 12, 13, 14, 15, 16, 17, 18, 19, 62, 63, 64, 65, 66, 67, 68, 69, 70, 71, 72, 73, 74, 75, 76, 77, 78, 79, 80, 81, 82, 83, 84, 85, 86, 87, 88, 89, 90, 91, 92, 93, 94, 95, 96, 97, 98, 99, 100, 101, 102, 103, 104, 105, 106, 107] rfl (by decide +kernel)
set_option maxRecDepth 20000 in
theorem gX10_does_X10_weighs : GoodIn wsX10_does (wsV RX10 286 RX10 yX10_weighs wsX10_weighs) := goodIn_app (goodIn_of _ (by decide +kernel)) ggX10_does_X10_weighs
set_option maxRecDepth 20000 in
theorem ggX10_does_X10_tips : GoodIn wsX10_does wsX10_tips := goodIn_r _ [22] rfl (by decide +kernel)
set_option maxRecDepth 20000 in
theorem gX10_does_X10_tips : GoodIn wsX10_does (va_wsS RX10 289 yX10_tips wsX10_tips) := goodIn_app (goodIn_of _ (by decide +kernel)) ggX10_does_X10_tips
set_option maxRecDepth 20000 in
theorem ggX10_does_X10_feeds : GoodIn wsX10_does wsX10_feeds := goodIn_r _ [25, 26, 27, 4, 28] rfl (by decide +kernel)
set_option maxRecDepth 20000 in
theorem gX10_does_X10_feeds : GoodIn wsX10_does (va_wsS RX10 293 yX10_feeds wsX10_feeds) := goodIn_app (goodIn_of _ (by decide +kernel)) ggX10_does_X10_feeds
set_option maxRecDepth 20000 in
theorem ggX10_does_X10_dayEnds : GoodIn wsX10_does wsX10_dayEnds := goodIn_r _ [32, 10, 33, 34, 35, 36, 4, 37, 38, 39, 40, 41, 42, 43, 44, 45, 46, 47, 48, 49, 50, 51, 52, 53, 54, 55, 56, 57, 58, 26, 27, 28, 59, 60, 61, 62, 63, 64, 65, 66, 67, 68, 69, 70, 71, 72, 73, 74, 75, 76, 77, 78, 79, 80, 81, 82, 83, 84, 85, 86, 87, 88, 89, 90, 91, 92, 93, 94, 95, 96, 97, 98, 99, 100, 101, 102, 103, 104, 105, 106, 107] rfl (by decide +kernel)
set_option maxRecDepth 20000 in
theorem gX10_does_X10_dayEnds : GoodIn wsX10_does (wsV RX10 297 RX10 yX10_dayEnds wsX10_dayEnds) := goodIn_app (goodIn_of _ (by decide +kernel)) ggX10_does_X10_dayEnds
