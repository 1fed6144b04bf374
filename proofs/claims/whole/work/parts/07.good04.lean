set_option maxRecDepth 20000 in
theorem ggX10_goes_X10_goes : GoodIn wsX10_goes wsX10_goes := goodIn_r _ [0, 1, 2, 3, 4, 5, 6, 7, 8, 9, 10, 11, 12, 13, 14, 15, 16, 17, 18, 19, 20, 21, 22, 23, 24, 25, 26, 27, 28, 29, 30, 31, 32, 33, 34, 35, 36, 37, 38, 39, 40, 41, 42, 43, 44, 45, 46, 47, 48, 49, 50, 51, 52, 53, 54, 55, 56, 57, 58, 59, 60, 61, 62, 63, 64, 65, 66, 67, 68, 69, 70, 71, 72, 73, 74, 75, 76, 77, 78, 79, 80, 81, 82, 83, 84, 85, 86, 87, 88, 89, 90, 91, 92, 93, 94, 95, 96, 97, 98, 99, 100, 101, 102, 103, 104, 105, 106, 107, 108, 109, 110, 111, 112, 113, 114, 115, 116, 117, 118, 119] rfl (by decide +kernel)
set_option maxRecDepth 20000 in
theorem gX10_goes_X10_goes : GoodIn wsX10_goes (wsV RX10 304 RX10 yX10_goes wsX10_goes) := goodIn_app (goodIn_of _ (by decide +kernel)) ggX10_goes_X10_goes
set_option maxRecDepth 20000 in
theorem ggX10_goes_X10_does : GoodIn wsX10_goes wsX10_does := goodIn_r _ [13, 14, 15, 16, 9, 17, 18, 19, 20, 21, 22, 23, 24, 25, 26, 27, 28, 29, 30, 31, 32, 33, 34, 35, 36, 37, 38, 39, 40, 41, 42, 43, 44, 45, 46, 47, 48, 49, 50, 51, 52, 53, 54, 55, 56, 57, 58, 59, 60, 61, 62, 63, 64, 65, 66, 67, 68, 69, 70, 71, 72, 73, 74, 75, 76, 77, 78, 79, 80, 81, 82, 83, 84, 85, 86, 87, 88, 89, 90, 91, 92, 93, 94, 95, 96, 97, 98, 99, 100, 101, 102, 103, 104, 105, 106, 107, 108, 109, 110, 111, 112, 113, 114, 115, 116, 117, 118, 119] rfl (by decide +kernel)
set_option maxRecDepth 20000 in
theorem gX10_goes_X10_does : GoodIn wsX10_goes (wsV RX10 307 RX10 yX10_does wsX10_does) := goodIn_app (goodIn_of _ (by decide +kernel)) ggX10_goes_X10_does
set_option maxRecDepth 20000 in
theorem ggX10_work_X10_in : GoodIn wsX10_work wsX10_in := goodIn_r _ [17] rfl (by decide +kernel)
set_option maxRecDepth 20000 in
theorem gX10_work_X10_in : GoodIn wsX10_work (va_wsS RX10 126 yX10_in wsX10_in) := goodIn_app (goodIn_of _ (by decide +kernel)) ggX10_work_X10_in
set_option maxRecDepth 20000 in
theorem ggX10_work_X10_bad : GoodIn wsX10_work wsX10_bad := goodIn_r _ [21, 1, 22, 165, 166, 167, 168, 169, 170, 171, 172, 173, 174, 175, 176, 177, 178, 179, 180, 181, 182, 183, 184, 185, 186, 187, 188, 189, 190, 191, 192, 193, 194, 195, 196, 197, 198, 199, 200, 201, 202, 203, 204, 205, 206, 207, 208, 209, 210] rfl (by decide +kernel)
set_option maxRecDepth 20000 in
theorem gX10_work_X10_bad : GoodIn wsX10_work (wsV RX10 171 RX10 yX10_bad wsX10_bad) := goodIn_app (goodIn_of _ (by decide +kernel)) ggX10_work_X10_bad
set_option maxRecDepth 20000 in
theorem ggX10_work_X10_starts : GoodIn wsX10_work wsX10_starts := goodIn_r _ [26, 2, 8, 7, 6, 27, 28, 29, 30, 31, 32, 16, 33, 34, 35, 36, 37, 38, 165, 166, 167, 168, 169, 170, 171, 172, 173, 174, 175, 176, 177, 178, 179, 180, 181, 182, 183, 184, 185, 186, 187, 188, 189, 190, 191, 192, 193, 194, 195, 196, 197, 198, 199, 200, 201, 202, 203, 204, 205, 206, 207, 208, 209, 210] rfl (by decide +kernel)
set_option maxRecDepth 20000 in
theorem gX10_work_X10_starts : GoodIn wsX10_work (wsV RX10 175 RX10 yX10_starts wsX10_starts) := goodIn_app (goodIn_of _ (by decide +kernel)) ggX10_work_X10_starts
set_option maxRecDepth 20000 in
theorem ggX10_work_X10_readsStep : GoodIn wsX10_work wsX10_readsStep := goodIn_r _ [42, 7, 6, 43, 5, 44, 29, 45, 46, 47, 16, 48, 49, 50, 51, 52, 53, 54, 55, 56, 30, 31, 32, 33, 34, 35, 36, 37, 8, 38, 57, 58, 59, 60, 61, 62, 63, 64, 65, 66, 27, 67, 68, 69, 70, 71, 72, 73, 74, 75, 76, 77, 78, 79, 80, 81, 82, 14, 15, 17, 83, 84, 85, 86, 87, 88, 89, 90, 39, 40, 41, 165, 166, 167, 168, 169, 170, 171, 172, 173, 174, 175, 176, 177, 178, 179, 180, 181, 182, 183, 184, 185, 186, 187, 188, 189, 190, 191, 192, 193, 194, 195, 196, 197, 198, 199, 200, 201, 202, 203, 204, 205, 206, 207, 208, 209, 210] rfl (by decide +kernel)
set_option maxRecDepth 20000 in
theorem gX10_work_X10_readsStep : GoodIn wsX10_work (wsV RX10 250 RX10 yX10_readsStep wsX10_readsStep) := goodIn_app (goodIn_of _ (by decide +kernel)) ggX10_work_X10_readsStep
set_option maxRecDepth 20000 in
theorem ggX10_work_X10_blanks : GoodIn wsX10_work wsX10_blanks := goodIn_r _ [33, 7, 34, 35, 36, 16, 37, 8, 38, 165, 166, 167, 168, 169, 170, 171, 172, 173, 174, 175, 176, 177, 178, 179, 180, 181, 182, 183, 184, 185, 186, 187, 188, 189, 190, 191, 192, 193, 194, 195, 196, 197, 198, 199, 200, 201, 202, 203, 204, 205, 206, 207, 208, 209, 210] rfl (by decide +kernel)
set_option maxRecDepth 20000 in
theorem gX10_work_X10_blanks : GoodIn wsX10_work (wsV RX10 114 RX10 yX10_blanks wsX10_blanks) := goodIn_app (goodIn_of _ (by decide +kernel)) ggX10_work_X10_blanks
set_option maxRecDepth 20000 in
theorem ggX10_work_X10_ends : GoodIn wsX10_work wsX10_ends := goodIn_r _ [94, 27, 4, 6, 165, 166, 167, 168, 169, 170, 171, 172, 173, 174, 175, 176, 177, 178, 179, 180, 181, 182, 183, 184, 185, 186, 187, 188, 189, 190, 191, 192, 193, 194, 195, 196, 197, 198, 199, 200, 201, 202, 203, 204, 205, 206, 207, 208, 209, 210] rfl (by decide +kernel)
set_option maxRecDepth 20000 in
theorem gX10_work_X10_ends : GoodIn wsX10_work (wsV RX10 181 RX10 yX10_ends wsX10_ends) := goodIn_app (goodIn_of _ (by decide +kernel)) ggX10_work_X10_ends
set_option maxRecDepth 20000 in
theorem ggX10_work_X10_copies : GoodIn wsX10_work wsX10_copies := goodIn_r _ [97] rfl (by decide +kernel)
set_option maxRecDepth 20000 in
theorem gX10_work_X10_copies : GoodIn wsX10_work (va_wsS RX10 314 yX10_copies wsX10_copies) := goodIn_app (goodIn_of _ (by decide +kernel)) ggX10_work_X10_copies
set_option maxRecDepth 20000 in
theorem ggX10_work_X10_goes : GoodIn wsX10_work wsX10_goes := goodIn_r _ [101, 11, 43, 9, 12, 13, 98, 99, 100, 16, 102, 103, 104, 105, 106, 107, 108, 109, 110, 111, 112, 113, 44, 114, 115, 116, 117, 118, 119, 120, 121, 122, 123, 124, 125, 126, 127, 128, 129, 130, 131, 132, 133, 134, 135, 136, 137, 138, 139, 140, 141, 142, 143, 144, 145, 146, 147, 148, 149, 150, 151, 152, 153, 154, 155, 156, 157, 158, 159, 160, 161, 162, 163, 164, 165, 166, 167, 168, 169, 170, 171, 172, 173, 174, 175, 176, 177, 178, 179, 180, 181, 182, 183, 184, 185, 186, 187, 188, 189, 190, 191, 192, 193, 194, 195, 196, 197, 198, 199, 200, 201, 202, 203, 204, 205, 206, 207, 208, 209, 210] rfl (by decide +kernel)
set_option maxRecDepth 20000 in
theorem gX10_work_X10_goes : GoodIn wsX10_work (wsV RX10 304 RX10 yX10_goes wsX10_goes) := goodIn_app (goodIn_of _ (by decide +kernel)) ggX10_work_X10_goes
set_option maxRecDepth 20000 in
theorem ggX10_undo_X10_copies : GoodIn wsX10_undo wsX10_copies := goodIn_r _ [9] rfl (by decide +kernel)
set_option maxRecDepth 20000 in
theorem gX10_undo_X10_copies : GoodIn wsX10_undo (va_wsS RX10 314 yX10_copies wsX10_copies) := goodIn_app (goodIn_of _ (by decide +kernel)) ggX10_undo_X10_copies
set_option maxRecDepth 20000 in
theorem ggX10_criedIn_X10_criesOf : GoodIn wsX10_criedIn wsX10_criesOf := goodIn_r _ [5] rfl (by decide +kernel)
set_option maxRecDepth 20000 in
theorem gX10_criedIn_X10_criesOf : GoodIn wsX10_criedIn (va_wsS RX10 256 yX10_criesOf wsX10_criesOf) := goodIn_app (goodIn_of _ (by decide +kernel)) ggX10_criedIn_X10_criesOf
set_option maxRecDepth 20000 in
theorem ggX10_told_X10_in : GoodIn wsX10_told wsX10_in := goodIn_r _ [9] rfl (by decide +kernel)
set_option maxRecDepth 20000 in
theorem gX10_told_X10_in : GoodIn wsX10_told (va_wsS RX10 126 yX10_in wsX10_in) := goodIn_app (goodIn_of _ (by decide +kernel)) ggX10_told_X10_in
set_option maxRecDepth 20000 in
theorem ggX10_told_X10_bad : GoodIn wsX10_told wsX10_bad := goodIn_r _ [13, 1, 14, 29, 30, 31, 32, 33, 34, 35, 36, 37, 38, 39, 40, 41, 42, 43, 44, 45, 46, 47, 48, 49, 50, 51, 52, 53, 54, 55, 56, 57, 58, 59, 60, 61, 62, 63, 64, 65, 66, 67, 68, 69, 70, 71, 72, 73, 74] rfl (by decide +kernel)
set_option maxRecDepth 20000 in
theorem gX10_told_X10_bad : GoodIn wsX10_told (wsV RX10 171 RX10 yX10_bad wsX10_bad) := goodIn_app (goodIn_of _ (by decide +kernel)) ggX10_told_X10_bad
set_option maxRecDepth 20000 in
theorem ggX10_told_X10_weightIn : GoodIn wsX10_told wsX10_weightIn := goodIn_r _ [18, 2, 29, 30, 31, 32, 33, 34, 35, 36, 37, 38, 39, 40, 41, 42, 43, 44, 45, 46, 47, 48, 49, 50, 51, 52, 53, 54, 55, 56, 57, 58, 59, 60, 61, 62, 63, 64, 65, 66, 67, 68, 69, 70, 71, 72, 73, 74] rfl (by decide +kernel)
set_option maxRecDepth 20000 in
theorem gX10_told_X10_weightIn : GoodIn wsX10_told (wsV RX10 318 RX10 yX10_weightIn wsX10_weightIn) := goodIn_app (goodIn_of _ (by decide +kernel)) ggX10_told_X10_weightIn
set_option maxRecDepth 20000 in
theorem ggX10_told_X10_notSo : GoodIn wsX10_told wsX10_notSo := goodIn_r _ [21] rfl (by decide +kernel)
set_option maxRecDepth 20000 in
theorem gX10_told_X10_notSo : GoodIn wsX10_told (va_wsS RX10 322 yX10_notSo wsX10_notSo) := goodIn_app (goodIn_of _ (by decide +kernel)) ggX10_told_X10_notSo
set_option maxRecDepth 20000 in
theorem ggX10_told_X10_criedIn : GoodIn wsX10_told wsX10_criedIn := goodIn_r _ [25, 2, 26, 27, 8, 28, 29, 30, 31, 32, 33, 34, 35, 36, 37, 38, 39, 40, 41, 42, 43, 44, 45, 46, 47, 48, 49, 50, 51, 52, 53, 54, 55, 56, 57, 58, 59, 60, 61, 62, 63, 64, 65, 66, 67, 68, 69, 70, 71, 72, 73, 74] rfl (by decide +kernel)
set_option maxRecDepth 20000 in
theorem gX10_told_X10_criedIn : GoodIn wsX10_told (wsV RX10 325 RX10 yX10_criedIn wsX10_criedIn) := goodIn_app (goodIn_of _ (by decide +kernel)) ggX10_told_X10_criedIn
set_option maxRecDepth 20000 in
theorem ggX10_isThing_X10_in : GoodIn wsX10_isThing wsX10_in := goodIn_r _ [5] rfl (by decide +kernel)
set_option maxRecDepth 20000 in
theorem gX10_isThing_X10_in : GoodIn wsX10_isThing (va_wsS RX10 126 yX10_in wsX10_in) := goodIn_app (goodIn_of _ (by decide +kernel)) ggX10_isThing_X10_in
set_option maxRecDepth 20000 in
theorem ggX10_thing_X10_isThing : GoodIn wsX10_thing wsX10_isThing := goodIn_r _ [8, 9, 10, 11, 7, 12, 49, 50, 51, 52, 53, 54, 55, 56, 57, 58, 59, 60, 61, 62, 63, 64, 65, 66, 67, 68, 69, 70, 71, 72, 73, 74, 75, 76, 77, 78, 79, 80, 81, 82, 83, 84, 85, 86, 87, 88, 89, 90, 91, 92, 93, 94] rfl (by decide +kernel)
set_option maxRecDepth 20000 in
theorem gX10_thing_X10_isThing : GoodIn wsX10_thing (wsV RX10 328 RX10 yX10_isThing wsX10_isThing) := goodIn_app (goodIn_of _ (by decide +kernel)) ggX10_thing_X10_isThing
set_option maxRecDepth 20000 in
theorem ggX10_thing_X10_bad : GoodIn wsX10_thing wsX10_bad := goodIn_r _ [16, 1, 17, 49, 50, 51, 52, 53, 54, 55, 56, 57, 58, 59, 60, 61, 62, 63, 64, 65, 66, 67, 68, 69, 70, 71, 72, 73, 74, 75, 76, 77, 78, 79, 80, 81, 82, 83, 84, 85, 86, 87, 88, 89, 90, 91, 92, 93, 94] rfl (by decide +kernel)
set_option maxRecDepth 20000 in
theorem gX10_thing_X10_bad : GoodIn wsX10_thing (wsV RX10 171 RX10 yX10_bad wsX10_bad) := goodIn_app (goodIn_of _ (by decide +kernel)) ggX10_thing_X10_bad
set_option maxRecDepth 20000 in
theorem ggX10_thing_X10_in : GoodIn wsX10_thing wsX10_in := goodIn_r _ [12] rfl (by decide +kernel)
set_option maxRecDepth 20000 in
theorem gX10_thing_X10_in : GoodIn wsX10_thing (va_wsS RX10 126 yX10_in wsX10_in) := goodIn_app (goodIn_of _ (by decide +kernel)) ggX10_thing_X10_in
set_option maxRecDepth 20000 in
theorem ggX10_thing_X10_criesOf : GoodIn wsX10_thing wsX10_criesOf := goodIn_r _ [20] rfl (by decide +kernel)
set_option maxRecDepth 20000 in
theorem gX10_thing_X10_criesOf : GoodIn wsX10_thing (va_wsS RX10 256 yX10_criesOf wsX10_criesOf) := goodIn_app (goodIn_of _ (by decide +kernel)) ggX10_thing_X10_criesOf
set_option maxRecDepth 20000 in
theorem ggX10_thing_X10_wearOf : GoodIn wsX10_thing wsX10_wearOf := goodIn_r _ [24, 9, 18, 19, 7, 20, 25, 26, 27, 28, 29, 30, 31, 32, 33, 34, 35, 36, 37, 38, 39, 40, 41, 42, 43, 44, 45, 46, 47, 48, 49, 50, 51, 52, 53, 54, 55, 56, 57, 58, 59, 60, 61, 62, 63, 64, 65, 66, 67, 68, 69, 70, 71, 72, 73, 74, 75, 76, 77, 78, 79, 80, 81, 82, 83, 84, 85, 86, 87, 88, 89, 90, 91, 92, 93, 94] rfl (by decide +kernel)
set_option maxRecDepth 20000 in
theorem gX10_thing_X10_wearOf : GoodIn wsX10_thing (wsV RX10 283 RX10 yX10_wearOf wsX10_wearOf) := goodIn_app (goodIn_of _ (by decide +kernel)) ggX10_thing_X10_wearOf
set_option maxRecDepth 20000 in
theorem ggX10_cry_X10_in : GoodIn wsX10_cry wsX10_in := goodIn_r _ [6] rfl (by decide +kernel)
set_option maxRecDepth 20000 in
theorem gX10_cry_X10_in : GoodIn wsX10_cry (va_wsS RX10 126 yX10_in wsX10_in) := goodIn_app (goodIn_of _ (by decide +kernel)) ggX10_cry_X10_in
set_option maxRecDepth 20000 in
theorem ggX10_cry_X10_bad : GoodIn wsX10_cry wsX10_bad := goodIn_r _ [10, 1, 11, 12, 13, 14, 15, 16, 17, 18, 19, 20, 21, 22, 23, 24, 25, 26, 27, 28, 29, 30, 31, 32, 33, 34, 35, 36, 37, 38, 39, 40, 41, 42, 43, 44, 45, 46, 47, 48, 49, 50, 51, 52, 53, 54, 55, 56, 57] rfl (by decide +kernel)
set_option maxRecDepth 20000 in
theorem gX10_cry_X10_bad : GoodIn wsX10_cry (wsV RX10 171 RX10 yX10_bad wsX10_bad) := goodIn_app (goodIn_of _ (by decide +kernel)) ggX10_cry_X10_bad
set_option maxRecDepth 20000 in
theorem ggX10_stands_X10_isThing : GoodIn wsX10_stands wsX10_isThing := goodIn_r _ [7, 8, 9, 10, 6, 11, 24, 25, 26, 27, 28, 29, 30, 31, 32, 33, 34, 35, 36, 37, 38, 39, 40, 41, 42, 43, 44, 45, 46, 47, 48, 49, 50, 51, 52, 53, 54, 55, 56, 57, 58, 59, 60, 61, 62, 63, 64, 65, 66, 67, 68, 69] rfl (by decide +kernel)
set_option maxRecDepth 20000 in
theorem gX10_stands_X10_isThing : GoodIn wsX10_stands (wsV RX10 328 RX10 yX10_isThing wsX10_isThing) := goodIn_app (goodIn_of _ (by decide +kernel)) ggX10_stands_X10_isThing
set_option maxRecDepth 20000 in
theorem ggX10_stands_X10_bad : GoodIn wsX10_stands wsX10_bad := goodIn_r _ [15, 1, 16, 24, 25, 26, 27, 28, 29, 30, 31, 32, 33, 34, 35, 36, 37, 38, 39, 40, 41, 42, 43, 44, 45, 46, 47, 48, 49, 50, 51, 52, 53, 54, 55, 56, 57, 58, 59, 60, 61, 62, 63, 64, 65, 66, 67, 68, 69] rfl (by decide +kernel)
set_option maxRecDepth 20000 in
theorem gX10_stands_X10_bad : GoodIn wsX10_stands (wsV RX10 171 RX10 yX10_bad wsX10_bad) := goodIn_app (goodIn_of _ (by decide +kernel)) ggX10_stands_X10_bad
set_option maxRecDepth 20000 in
theorem ggX10_stands_X10_in : GoodIn wsX10_stands wsX10_in := goodIn_r _ [11] rfl (by decide +kernel)
set_option maxRecDepth 20000 in
theorem gX10_stands_X10_in : GoodIn wsX10_stands (va_wsS RX10 126 yX10_in wsX10_in) := goodIn_app (goodIn_of _ (by decide +kernel)) ggX10_stands_X10_in
set_option maxRecDepth 20000 in
theorem ggX10_stands_X10_standsIn : GoodIn wsX10_stands wsX10_standsIn := goodIn_r _ [20, 8, 21, 22, 6, 23, 24, 25, 26, 27, 28, 29, 30, 31, 32, 33, 34, 35, 36, 37, 38, 39, 40, 41, 42, 43, 44, 45, 46, 47, 48, 49, 50, 51, 52, 53, 54, 55, 56, 57, 58, 59, 60, 61, 62, 63, 64, 65, 66, 67, 68, 69] rfl (by decide +kernel)
set_option maxRecDepth 20000 in
theorem gX10_stands_X10_standsIn : GoodIn wsX10_stands (wsV RX10 271 RX10 yX10_standsIn wsX10_standsIn) := goodIn_app (goodIn_of _ (by decide +kernel)) ggX10_stands_X10_standsIn
set_option maxRecDepth 20000 in
theorem ggX10_would_X10_in : GoodIn wsX10_would wsX10_in := goodIn_r _ [5] rfl (by decide +kernel)
set_option maxRecDepth 20000 in
theorem gX10_would_X10_in : GoodIn wsX10_would (va_wsS RX10 126 yX10_in wsX10_in) := goodIn_app (goodIn_of _ (by decide +kernel)) ggX10_would_X10_in
set_option maxRecDepth 20000 in
theorem ggX10_would_X10_bad : GoodIn wsX10_would wsX10_bad := goodIn_r _ [9, 1, 10, 32, 33, 34, 35, 36, 37, 38, 39, 40, 41, 42, 43, 44, 45, 46, 47, 48, 49, 50, 51, 52, 53, 54, 55, 56, 57, 58, 59, 60, 61, 62, 63, 64, 65, 66, 67, 68, 69, 70, 71, 72, 73, 74, 75, 76, 77] rfl (by decide +kernel)
set_option maxRecDepth 20000 in
theorem gX10_would_X10_bad : GoodIn wsX10_would (wsV RX10 171 RX10 yX10_bad wsX10_bad) := goodIn_app (goodIn_of _ (by decide +kernel)) ggX10_would_X10_bad
set_option maxRecDepth 20000 in
theorem ggX10_would_X10_wearBy : GoodIn wsX10_would wsX10_wearBy := goodIn_r _ [14, 15, 16, 17, 18, 4, 19, 20, 21, 22, 23, 24, 25, 26, 27, 28, 29, 30, 31, 32, 33, 34, 35, 36, 37, 38, 39, 40, 41, 42, 43, 44, 45, 46, 47, 48, 49, 50, 51, 52, 53, 54, 55, 56, 57, 58, 59, 60, 61, 62, 63, 64, 65, 66, 67, 68, 69, 70, 71, 72, 73, 74, 75, 76, 77] rfl (by decide +kernel)
set_option maxRecDepth 20000 in
theorem gX10_would_X10_wearBy : GoodIn wsX10_would (wsV RX10 263 RX10 yX10_wearBy wsX10_wearBy) := goodIn_app (goodIn_of _ (by decide +kernel)) ggX10_would_X10_wearBy
set_option maxRecDepth 20000 in
theorem ggX10_ahead_X10_in : GoodIn wsX10_ahead wsX10_in := goodIn_r _ [7] rfl (by decide +kernel)
set_option maxRecDepth 20000 in
theorem gX10_ahead_X10_in : GoodIn wsX10_ahead (va_wsS RX10 126 yX10_in wsX10_in) := goodIn_app (goodIn_of _ (by decide +kernel)) ggX10_ahead_X10_in
set_option maxRecDepth 20000 in
theorem ggX10_ahead_X10_bad : GoodIn wsX10_ahead wsX10_bad := goodIn_r _ [11, 1, 12, 64, 65, 66, 67, 68, 69, 70, 71, 72, 73, 74, 75, 76, 77, 78, 79, 80, 81, 82, 83, 84, 85, 86, 87, 88, 89, 90, 91, 92, 93, 94, 95, 96, 97, 98, 99, 100, 101, 102, 103, 104, 105, 106, 107, 108, 109] rfl (by decide +kernel)
set_option maxRecDepth 20000 in
theorem gX10_ahead_X10_bad : GoodIn wsX10_ahead (wsV RX10 171 RX10 yX10_bad wsX10_bad) := goodIn_app (goodIn_of _ (by decide +kernel)) ggX10_ahead_X10_bad
set_option maxRecDepth 20000 in
theorem ggX10_ahead_X10_copies : GoodIn wsX10_ahead wsX10_copies := goodIn_r _ [15] rfl (by decide +kernel)
set_option maxRecDepth 20000 in
theorem gX10_ahead_X10_copies : GoodIn wsX10_ahead (va_wsS RX10 314 yX10_copies wsX10_copies) := goodIn_app (goodIn_of _ (by decide +kernel)) ggX10_ahead_X10_copies
set_option maxRecDepth 20000 in
theorem ggX10_ahead_X10_dayEnds : GoodIn wsX10_ahead wsX10_dayEnds := goodIn_r _ [19, 20, 21, 22, 23, 24, 6, 25, 26, 27, 28, 29, 30, 31, 32, 33, 34, 35, 36, 37, 38, 39, 40, 41, 42, 43, 44, 45, 46, 47, 48, 49, 50, 51, 52, 64, 65, 66, 67, 68, 69, 70, 71, 72, 73, 74, 75, 76, 77, 78, 79, 80, 81, 82, 83, 84, 85, 86, 87, 88, 89, 90, 91, 92, 93, 94, 95, 96, 97, 98, 99, 100, 101, 102, 103, 104, 105, 106, 107, 108, 109] rfl (by decide +kernel)
set_option maxRecDepth 20000 in
theorem gX10_ahead_X10_dayEnds : GoodIn wsX10_ahead (wsV RX10 297 RX10 yX10_dayEnds wsX10_dayEnds) := goodIn_app (goodIn_of _ (by decide +kernel)) ggX10_ahead_X10_dayEnds
set_option maxRecDepth 20000 in
theorem ggX10_ahead_X10_weightIn : GoodIn wsX10_ahead wsX10_weightIn := goodIn_r _ [56, 20, 64, 65, 66, 67, 68, 69, 70, 71, 72, 73, 74, 75, 76, 77, 78, 79, 80, 81, 82, 83, 84, 85, 86, 87, 88, 89, 90, 91, 92, 93, 94, 95, 96, 97, 98, 99, 100, 101, 102, 103, 104, 105, 106, 107, 108, 109] rfl (by decide +kernel)
set_option maxRecDepth 20000 in
theorem gX10_ahead_X10_weightIn : GoodIn wsX10_ahead (wsV RX10 318 RX10 yX10_weightIn wsX10_weightIn) := goodIn_app (goodIn_of _ (by decide +kernel)) ggX10_ahead_X10_weightIn
set_option maxRecDepth 20000 in
theorem ggX10_ahead_X10_heaviestIn : GoodIn wsX10_ahead wsX10_heaviestIn := goodIn_r _ [60, 20, 64, 65, 66, 67, 68, 69, 70, 71, 72, 73, 74, 75, 76, 77, 78, 79, 80, 81, 82, 83, 84, 85, 86, 87, 88, 89, 90, 91, 92, 93, 94, 95, 96, 97, 98, 99, 100, 101, 102, 103, 104, 105, 106, 107, 108, 109] rfl (by decide +kernel)
set_option maxRecDepth 20000 in
theorem gX10_ahead_X10_heaviestIn : GoodIn wsX10_ahead (wsV RX10 331 RX10 yX10_heaviestIn wsX10_heaviestIn) := goodIn_app (goodIn_of _ (by decide +kernel)) ggX10_ahead_X10_heaviestIn
set_option maxRecDepth 20000 in
theorem ggX10_ahead_X10_notSo : GoodIn wsX10_ahead wsX10_notSo := goodIn_r _ [63] rfl (by decide +kernel)
set_option maxRecDepth 20000 in
theorem gX10_ahead_X10_notSo : GoodIn wsX10_ahead (va_wsS RX10 322 yX10_notSo wsX10_notSo) := goodIn_app (goodIn_of _ (by decide +kernel)) ggX10_ahead_X10_notSo
set_option maxRecDepth 20000 in
theorem ggX10_chains_X10_keeps : GoodIn wsX10_chains wsX10_keeps := goodIn_r _ [6, 7, 8, 15, 16, 17, 18, 19, 20, 21, 22, 23, 24, 25, 26, 27, 28, 29, 30, 31, 32, 33, 34, 35, 36, 37, 38, 39, 40, 41, 42, 43, 44, 45, 46, 47, 48, 49, 50, 51, 52, 53, 54, 55, 56, 57, 58, 59, 60] rfl (by decide +kernel)
set_option maxRecDepth 20000 in
theorem gX10_chains_X10_keeps : GoodIn wsX10_chains (wsV RX10 341 RX10 yX10_keeps wsX10_keeps) := goodIn_app (goodIn_of _ (by decide +kernel)) ggX10_chains_X10_keeps
set_option maxRecDepth 20000 in
theorem ggX10_chains_X10_has : GoodIn wsX10_chains wsX10_has := goodIn_r _ [11] rfl (by decide +kernel)
set_option maxRecDepth 20000 in
theorem gX10_chains_X10_has : GoodIn wsX10_chains (va_wsS RX10 345 yX10_has wsX10_has) := goodIn_app (goodIn_of _ (by decide +kernel)) ggX10_chains_X10_has
set_option maxRecDepth 20000 in
theorem ggX10_chains_X10_chains : GoodIn wsX10_chains wsX10_chains := goodIn_r _ [0, 1, 2, 3, 4, 5, 6, 7, 8, 9, 10, 11, 12, 13, 14, 15, 16, 17, 18, 19, 20, 21, 22, 23, 24, 25, 26, 27, 28, 29, 30, 31, 32, 33, 34, 35, 36, 37, 38, 39, 40, 41, 42, 43, 44, 45, 46, 47, 48, 49, 50, 51, 52, 53, 54, 55, 56, 57, 58, 59, 60] rfl (by decide +kernel)
set_option maxRecDepth 20000 in
theorem gX10_chains_X10_chains : GoodIn wsX10_chains (wsV RX10 348 RX10 yX10_chains wsX10_chains) := goodIn_app (goodIn_of _ (by decide +kernel)) ggX10_chains_X10_chains
set_option maxRecDepth 20000 in
theorem ggX10_worths_X10_chains : GoodIn wsX10_worths wsX10_chains := goodIn_r _ [7, 8, 9, 10, 11, 6, 12, 2, 1, 13, 14, 15, 3, 4, 5, 16, 17, 18, 19, 20, 21, 22, 23, 24, 25, 26, 27, 28, 29, 30, 31, 32, 33, 34, 35, 36, 37, 38, 39, 40, 41, 42, 43, 44, 45, 46, 47, 48, 49, 50, 51, 52, 53, 54, 55, 56, 57, 58, 59, 60, 61] rfl (by decide +kernel)
set_option maxRecDepth 20000 in
theorem gX10_worths_X10_chains : GoodIn wsX10_worths (wsV RX10 348 RX10 yX10_chains wsX10_chains) := goodIn_app (goodIn_of _ (by decide +kernel)) ggX10_worths_X10_chains
set_option maxRecDepth 20000 in
theorem ggX10_rings_X10_has : GoodIn wsX10_rings wsX10_has := goodIn_r _ [7] rfl (by decide +kernel)
set_option maxRecDepth 20000 in
theorem gX10_rings_X10_has : GoodIn wsX10_rings (va_wsS RX10 345 yX10_has wsX10_has) := goodIn_app (goodIn_of _ (by decide +kernel)) ggX10_rings_X10_has
set_option maxRecDepth 20000 in
theorem ggX10_rings_X10_rings : GoodIn wsX10_rings wsX10_rings := goodIn_r _ [0, 1, 2, 3, 4, 5, 6, 7, 8, 9, 10, 11, 12, 13, 14, 15, 16, 17, 18, 19, 20, 21, 22, 23, 24, 25, 26, 27, 28, 29, 30, 31, 32, 33, 34, 35, 36, 37, 38, 39, 40, 41, 42, 43, 44, 45, 46, 47, 48, 49, 50, 51, 52, 53, 54, 55, 56, 57, 58, 59, 60, 61, 62, 63, 64, 65, 66, 67, 68] rfl (by decide +kernel)
set_option maxRecDepth 20000 in
theorem gX10_rings_X10_rings : GoodIn wsX10_rings (wsV RX10 352 RX10 yX10_rings wsX10_rings) := goodIn_app (goodIn_of _ (by decide +kernel)) ggX10_rings_X10_rings
set_option maxRecDepth 20000 in
theorem ggX10_rings_X10_keeps : GoodIn wsX10_rings wsX10_keeps := goodIn_r _ [14, 15, 16, 23, 24, 25, 26, 27, 28, 29, 30, 31, 32, 33, 34, 35, 36, 37, 38, 39, 40, 41, 42, 43, 44, 45, 46, 47, 48, 49, 50, 51, 52, 53, 54, 55, 56, 57, 58, 59, 60, 61, 62, 63, 64, 65, 66, 67, 68] rfl (by decide +kernel)
set_option maxRecDepth 20000 in
theorem gX10_rings_X10_keeps : GoodIn wsX10_rings (wsV RX10 341 RX10 yX10_keeps wsX10_keeps) := goodIn_app (goodIn_of _ (by decide +kernel)) ggX10_rings_X10_keeps
set_option maxRecDepth 20000 in
theorem ggX10_rings_X10_ones : GoodIn wsX10_rings wsX10_ones := goodIn_r _ [19] rfl (by decide +kernel)
set_option maxRecDepth 20000 in
theorem gX10_rings_X10_ones : GoodIn wsX10_rings (va_wsS RX10 260 yX10_ones wsX10_ones) := goodIn_app (goodIn_of _ (by decide +kernel)) ggX10_rings_X10_ones
set_option maxRecDepth 20000 in
theorem ggX10_rings_X10_less : GoodIn wsX10_rings wsX10_less := goodIn_r _ [22] rfl (by decide +kernel)
set_option maxRecDepth 20000 in
theorem gX10_rings_X10_less : GoodIn wsX10_rings (va_wsS RX10 235 yX10_less wsX10_less) := goodIn_app (goodIn_of _ (by decide +kernel)) ggX10_rings_X10_less
set_option maxRecDepth 20000 in
theorem ggX10_allRings_X10_rings : GoodIn wsX10_allRings wsX10_rings := goodIn_r _ [10, 11, 4, 3, 12, 13, 9, 14, 6, 7, 8, 15, 16, 17, 18, 2, 1, 19, 20, 21, 22, 23, 24, 25, 26, 27, 28, 29, 30, 31, 32, 33, 34, 35, 36, 37, 38, 39, 40, 41, 42, 43, 44, 45, 46, 47, 48, 49, 50, 51, 52, 53, 54, 55, 56, 57, 58, 59, 60, 61, 62, 63, 64, 65, 66, 67, 68, 69, 70] rfl (by decide +kernel)
set_option maxRecDepth 20000 in
theorem gX10_allRings_X10_rings : GoodIn wsX10_allRings (wsV RX10 352 RX10 yX10_rings wsX10_rings) := goodIn_app (goodIn_of _ (by decide +kernel)) ggX10_allRings_X10_rings
set_option maxRecDepth 20000 in
theorem ggX10_worth_X10_isThing : GoodIn wsX10_worth wsX10_isThing := goodIn_r _ [8, 9, 10, 11, 7, 12, 37, 38, 39, 40, 41, 42, 43, 44, 45, 46, 47, 48, 49, 50, 51, 52, 53, 54, 55, 56, 57, 58, 59, 60, 61, 62, 63, 64, 65, 66, 67, 68, 69, 70, 71, 72, 73, 74, 75, 76, 77, 78, 79, 80, 81, 82] rfl (by decide +kernel)
set_option maxRecDepth 20000 in
theorem gX10_worth_X10_isThing : GoodIn wsX10_worth (wsV RX10 328 RX10 yX10_isThing wsX10_isThing) := goodIn_app (goodIn_of _ (by decide +kernel)) ggX10_worth_X10_isThing
set_option maxRecDepth 20000 in
theorem ggX10_worth_X10_bad : GoodIn wsX10_worth wsX10_bad := goodIn_r _ [16, 1, 17, 37, 38, 39, 40, 41, 42, 43, 44, 45, 46, 47, 48, 49, 50, 51, 52, 53, 54, 55, 56, 57, 58, 59, 60, 61, 62, 63, 64, 65, 66, 67, 68, 69, 70, 71, 72, 73, 74, 75, 76, 77, 78, 79, 80, 81, 82] rfl (by decide +kernel)
set_option maxRecDepth 20000 in
theorem gX10_worth_X10_bad : GoodIn wsX10_worth (wsV RX10 171 RX10 yX10_bad wsX10_bad) := goodIn_app (goodIn_of _ (by decide +kernel)) ggX10_worth_X10_bad
set_option maxRecDepth 20000 in
theorem ggX10_worth_X10_in : GoodIn wsX10_worth wsX10_in := goodIn_r _ [12] rfl (by decide +kernel)
set_option maxRecDepth 20000 in
theorem gX10_worth_X10_in : GoodIn wsX10_worth (va_wsS RX10 126 yX10_in wsX10_in) := goodIn_app (goodIn_of _ (by decide +kernel)) ggX10_worth_X10_in
set_option maxRecDepth 20000 in
theorem ggX10_worth_X10_worths : GoodIn wsX10_worth wsX10_worths := goodIn_r _ [21, 2, 3, 22, 23, 24, 7, 25, 26, 27, 28, 29, 30, 31, 32, 33, 37, 38, 39, 40, 41, 42, 43, 44, 45, 46, 47, 48, 49, 50, 51, 52, 53, 54, 55, 56, 57, 58, 59, 60, 61, 62, 63, 64, 65, 66, 67, 68, 69, 70, 71, 72, 73, 74, 75, 76, 77, 78, 79, 80, 81, 82] rfl (by decide +kernel)
set_option maxRecDepth 20000 in
theorem gX10_worth_X10_worths : GoodIn wsX10_worth (wsV RX10 359 RX10 yX10_worths wsX10_worths) := goodIn_app (goodIn_of _ (by decide +kernel)) ggX10_worth_X10_worths
set_option maxRecDepth 20000 in
theorem ggX10_worth_X10_partOf : GoodIn wsX10_worth wsX10_partOf := goodIn_r _ [36] rfl (by decide +kernel)
set_option maxRecDepth 20000 in
theorem gX10_worth_X10_partOf : GoodIn wsX10_worth (va_wsS RX10 362 yX10_partOf wsX10_partOf) := goodIn_app (goodIn_of _ (by decide +kernel)) ggX10_worth_X10_partOf
set_option maxRecDepth 20000 in
theorem ggX10_fattest_X10_in : GoodIn wsX10_fattest wsX10_in := goodIn_r _ [7] rfl (by decide +kernel)
set_option maxRecDepth 20000 in
theorem gX10_fattest_X10_in : GoodIn wsX10_fattest (va_wsS RX10 126 yX10_in wsX10_in) := goodIn_app (goodIn_of _ (by decide +kernel)) ggX10_fattest_X10_in
set_option maxRecDepth 20000 in
theorem ggX10_fattest_X10_bad : GoodIn wsX10_fattest wsX10_bad := goodIn_r _ [11, 1, 12, 41, 42, 43, 44, 45, 46, 47, 48, 49, 50, 51, 52, 53, 54, 55, 56, 57, 58, 59, 60, 61, 62, 63, 64, 65, 66, 67, 68, 69, 70, 71, 72, 73, 74, 75, 76, 77, 78, 79, 80, 81, 82, 83, 84, 85, 86] rfl (by decide +kernel)
set_option maxRecDepth 20000 in
theorem gX10_fattest_X10_bad : GoodIn wsX10_fattest (wsV RX10 171 RX10 yX10_bad wsX10_bad) := goodIn_app (goodIn_of _ (by decide +kernel)) ggX10_fattest_X10_bad
set_option maxRecDepth 20000 in
theorem ggX10_fattest_X10_allRings : GoodIn wsX10_fattest wsX10_allRings := goodIn_r _ [16, 2, 3, 17, 18, 19, 20, 21, 22, 6, 23, 24, 25, 26, 27, 28, 29, 30, 31, 32, 33, 34, 35, 36, 37, 41, 42, 43, 44, 45, 46, 47, 48, 49, 50, 51, 52, 53, 54, 55, 56, 57, 58, 59, 60, 61, 62, 63, 64, 65, 66, 67, 68, 69, 70, 71, 72, 73, 74, 75, 76, 77, 78, 79, 80, 81, 82, 83, 84, 85, 86] rfl (by decide +kernel)
set_option maxRecDepth 20000 in
theorem gX10_fattest_X10_allRings : GoodIn wsX10_fattest (wsV RX10 366 RX10 yX10_allRings wsX10_allRings) := goodIn_app (goodIn_of _ (by decide +kernel)) ggX10_fattest_X10_allRings
set_option maxRecDepth 20000 in
theorem ggX10_fattest_X10_partOf : GoodIn wsX10_fattest wsX10_partOf := goodIn_r _ [40] rfl (by decide +kernel)
set_option maxRecDepth 20000 in
theorem gX10_fattest_X10_partOf : GoodIn wsX10_fattest (va_wsS RX10 362 yX10_partOf wsX10_partOf) := goodIn_app (goodIn_of _ (by decide +kernel)) ggX10_fattest_X10_partOf
set_option maxRecDepth 20000 in
theorem ggX10_fat_X10_allRings : GoodIn wsX10_fat wsX10_allRings := goodIn_r _ [7, 8, 9, 2, 10, 11, 12, 13, 14, 6, 15, 16, 17, 18, 19, 20, 21, 22, 23, 24, 25, 26, 27, 28, 29, 30, 31, 32, 33, 34, 35, 36, 37, 38, 39, 40, 41, 42, 43, 44, 45, 46, 47, 48, 49, 50, 51, 52, 53, 54, 55, 56, 57, 58, 59, 60, 61, 62, 63, 64, 65, 66, 67, 68, 69, 70, 71, 72, 73, 74, 75] rfl (by decide +kernel)
set_option maxRecDepth 20000 in
theorem gX10_fat_X10_allRings : GoodIn wsX10_fat (wsV RX10 366 RX10 yX10_allRings wsX10_allRings) := goodIn_app (goodIn_of _ (by decide +kernel)) ggX10_fat_X10_allRings
set_option maxRecDepth 20000 in
theorem ggX10_mend_X10_allRings : GoodIn wsX10_mend wsX10_allRings := goodIn_r _ [7, 8, 9, 10, 11, 12, 13, 14, 15, 6, 16, 2, 17, 18, 19, 20, 21, 22, 23, 24, 25, 26, 27, 28, 29, 34, 35, 36, 37, 38, 39, 40, 41, 42, 43, 44, 45, 46, 47, 48, 49, 50, 51, 52, 53, 54, 55, 56, 57, 58, 59, 60, 61, 62, 63, 64, 65, 66, 67, 68, 69, 70, 71, 72, 73, 74, 75, 76, 77, 78, 79] rfl (by decide +kernel)
set_option maxRecDepth 20000 in
theorem gX10_mend_X10_allRings : GoodIn wsX10_mend (wsV RX10 366 RX10 yX10_allRings wsX10_allRings) := goodIn_app (goodIn_of _ (by decide +kernel)) ggX10_mend_X10_allRings
set_option maxRecDepth 20000 in
theorem ggX10_mend_X10_ones : GoodIn wsX10_mend wsX10_ones := goodIn_r _ [26] rfl (by decide +kernel)
set_option maxRecDepth 20000 in
theorem gX10_mend_X10_ones : GoodIn wsX10_mend (va_wsS RX10 260 yX10_ones wsX10_ones) := goodIn_app (goodIn_of _ (by decide +kernel)) ggX10_mend_X10_ones
set_option maxRecDepth 20000 in
theorem ggX10_mend_X10_isMended : GoodIn wsX10_mend wsX10_isMended := goodIn_r _ [33, 2, 11, 34, 35, 36, 37, 38, 39, 40, 41, 42, 43, 44, 45, 46, 47, 48, 49, 50, 51, 52, 53, 54, 55, 56, 57, 58, 59, 60, 61, 62, 63, 64, 65, 66, 67, 68, 69, 70, 71, 72, 73, 74, 75, 76, 77, 78, 79] rfl (by decide +kernel)
set_option maxRecDepth 20000 in
theorem gX10_mend_X10_isMended : GoodIn wsX10_mend (wsV RX10 369 RX10 yX10_isMended wsX10_isMended) := goodIn_app (goodIn_of _ (by decide +kernel)) ggX10_mend_X10_isMended
set_option maxRecDepth 20000 in
theorem ggX10_above_X10_isThing : GoodIn wsX10_above wsX10_isThing := goodIn_r _ [9, 2, 10, 11, 8, 12, 34, 35, 36, 37, 38, 39, 40, 41, 42, 43, 44, 45, 46, 47, 48, 49, 50, 51, 52, 53, 54, 55, 56, 57, 58, 59, 60, 61, 62, 63, 64, 65, 66, 67, 68, 69, 70, 71, 72, 73, 74, 75, 76, 77, 78, 79] rfl (by decide +kernel)
set_option maxRecDepth 20000 in
theorem gX10_above_X10_isThing : GoodIn wsX10_above (wsV RX10 328 RX10 yX10_isThing wsX10_isThing) := goodIn_app (goodIn_of _ (by decide +kernel)) ggX10_above_X10_isThing
set_option maxRecDepth 20000 in
theorem ggX10_above_X10_bad : GoodIn wsX10_above wsX10_bad := goodIn_r _ [16, 1, 17, 34, 35, 36, 37, 38, 39, 40, 41, 42, 43, 44, 45, 46, 47, 48, 49, 50, 51, 52, 53, 54, 55, 56, 57, 58, 59, 60, 61, 62, 63, 64, 65, 66, 67, 68, 69, 70, 71, 72, 73, 74, 75, 76, 77, 78, 79] rfl (by decide +kernel)
set_option maxRecDepth 20000 in
theorem gX10_above_X10_bad : GoodIn wsX10_above (wsV RX10 171 RX10 yX10_bad wsX10_bad) := goodIn_app (goodIn_of _ (by decide +kernel)) ggX10_above_X10_bad
set_option maxRecDepth 20000 in
theorem ggX10_above_X10_worths : GoodIn wsX10_above wsX10_worths := goodIn_r _ [21, 3, 4, 22, 23, 24, 8, 25, 26, 27, 28, 29, 30, 31, 32, 33, 34, 35, 36, 37, 38, 39, 40, 41, 42, 43, 44, 45, 46, 47, 48, 49, 50, 51, 52, 53, 54, 55, 56, 57, 58, 59, 60, 61, 62, 63, 64, 65, 66, 67, 68, 69, 70, 71, 72, 73, 74, 75, 76, 77, 78, 79] rfl (by decide +kernel)
set_option maxRecDepth 20000 in
theorem gX10_above_X10_worths : GoodIn wsX10_above (wsV RX10 359 RX10 yX10_worths wsX10_worths) := goodIn_app (goodIn_of _ (by decide +kernel)) ggX10_above_X10_worths
set_option maxRecDepth 20000 in
theorem ggX10_laysFrom_X10_ones : GoodIn wsX10_laysFrom wsX10_ones := goodIn_r _ [7] rfl (by decide +kernel)
set_option maxRecDepth 20000 in
theorem gX10_laysFrom_X10_ones : GoodIn wsX10_laysFrom (va_wsS RX10 260 yX10_ones wsX10_ones) := goodIn_app (goodIn_of _ (by decide +kernel)) ggX10_laysFrom_X10_ones
set_option maxRecDepth 20000 in
theorem ggX10_laysFrom_X10_laysFrom : GoodIn wsX10_laysFrom wsX10_laysFrom := goodIn_r _ [0, 1, 2, 3, 4, 5, 6, 7, 8, 9, 10, 11, 12, 13, 14, 15, 16, 17, 18, 19, 20, 21, 22, 23, 24, 25, 26, 27, 28, 29, 30, 31, 32, 33, 34, 35, 36, 37, 38, 39, 40, 41, 42, 43, 44, 45, 46, 47, 48, 49, 50, 51, 52, 53, 54, 55, 56, 57, 58, 59] rfl (by decide +kernel)
set_option maxRecDepth 20000 in
theorem gX10_laysFrom_X10_laysFrom : GoodIn wsX10_laysFrom (wsV RX10 372 RX10 yX10_laysFrom wsX10_laysFrom) := goodIn_app (goodIn_of _ (by decide +kernel)) ggX10_laysFrom_X10_laysFrom
set_option maxRecDepth 20000 in
theorem ggX10_laysFrom_X10_has : GoodIn wsX10_laysFrom wsX10_has := goodIn_r _ [13] rfl (by decide +kernel)
set_option maxRecDepth 20000 in
theorem gX10_laysFrom_X10_has : GoodIn wsX10_laysFrom (va_wsS RX10 345 yX10_has wsX10_has) := goodIn_app (goodIn_of _ (by decide +kernel)) ggX10_laysFrom_X10_has
set_option maxRecDepth 20000 in
theorem ggX10_laysAmounts_X10_laysFrom : GoodIn wsX10_laysAmounts wsX10_laysFrom := goodIn_r _ [6, 7, 1, 8, 9, 10, 5, 11, 2, 3, 4, 12, 13, 14, 15, 16, 17, 18, 19, 20, 21, 22, 23, 24, 25, 26, 27, 28, 29, 30, 31, 32, 33, 34, 35, 36, 37, 38, 39, 40, 41, 42, 43, 44, 45, 46, 47, 48, 49, 50, 51, 52, 53, 54, 55, 56, 57, 58, 59, 60] rfl (by decide +kernel)
set_option maxRecDepth 20000 in
theorem gX10_laysAmounts_X10_laysFrom : GoodIn wsX10_laysAmounts (wsV RX10 372 RX10 yX10_laysFrom wsX10_laysFrom) := goodIn_app (goodIn_of _ (by decide +kernel)) ggX10_laysAmounts_X10_laysFrom
set_option maxRecDepth 20000 in
theorem ggX10_isSet_X10_everyThing : GoodIn wsX10_isSet wsX10_everyThing := goodIn_r _ [5, 6, 10, 11, 12, 13, 14, 15, 16, 17, 18, 19, 20, 21, 22, 23, 24, 25, 26, 27, 28, 29, 30, 31, 32, 33, 34, 35, 36, 37, 38, 39, 40, 41, 42, 43, 44, 45, 46, 47, 48, 49, 50, 51, 52, 53, 54, 55] rfl (by decide +kernel)
set_option maxRecDepth 20000 in
theorem gX10_isSet_X10_everyThing : GoodIn wsX10_isSet (wsV RX10 376 RX10 yX10_everyThing wsX10_everyThing) := goodIn_app (goodIn_of _ (by decide +kernel)) ggX10_isSet_X10_everyThing
set_option maxRecDepth 20000 in
theorem ggX10_isSet_X10_in : GoodIn wsX10_isSet wsX10_in := goodIn_r _ [9] rfl (by decide +kernel)
set_option maxRecDepth 20000 in
theorem gX10_isSet_X10_in : GoodIn wsX10_isSet (va_wsS RX10 126 yX10_in wsX10_in) := goodIn_app (goodIn_of _ (by decide +kernel)) ggX10_isSet_X10_in
set_option maxRecDepth 20000 in
theorem ggX10_match_X10_isSet : GoodIn wsX10_match wsX10_isSet := goodIn_r _ [7, 8, 9, 10, 6, 11, 12, 13, 14, 15, 36, 37, 38, 39, 40, 41, 42, 43, 44, 45, 46, 47, 48, 49, 50, 51, 52, 53, 54, 55, 56, 57, 58, 59, 60, 61, 62, 63, 64, 65, 66, 67, 68, 69, 70, 71, 72, 73, 74, 75, 76, 77, 78, 79, 80, 81] rfl (by decide +kernel)
set_option maxRecDepth 20000 in
theorem gX10_match_X10_isSet : GoodIn wsX10_match (wsV RX10 379 RX10 yX10_isSet wsX10_isSet) := goodIn_app (goodIn_of _ (by decide +kernel)) ggX10_match_X10_isSet
set_option maxRecDepth 20000 in
theorem ggX10_match_X10_in : GoodIn wsX10_match wsX10_in := goodIn_r _ [15] rfl (by decide +kernel)
set_option maxRecDepth 20000 in
theorem gX10_match_X10_in : GoodIn wsX10_match (va_wsS RX10 126 yX10_in wsX10_in) := goodIn_app (goodIn_of _ (by decide +kernel)) ggX10_match_X10_in
set_option maxRecDepth 20000 in
theorem ggX10_match_X10_bad : GoodIn wsX10_match wsX10_bad := goodIn_r _ [19, 1, 20, 36, 37, 38, 39, 40, 41, 42, 43, 44, 45, 46, 47, 48, 49, 50, 51, 52, 53, 54, 55, 56, 57, 58, 59, 60, 61, 62, 63, 64, 65, 66, 67, 68, 69, 70, 71, 72, 73, 74, 75, 76, 77, 78, 79, 80, 81] rfl (by decide +kernel)
set_option maxRecDepth 20000 in
theorem gX10_match_X10_bad : GoodIn wsX10_match (wsV RX10 171 RX10 yX10_bad wsX10_bad) := goodIn_app (goodIn_of _ (by decide +kernel)) ggX10_match_X10_bad
set_option maxRecDepth 20000 in
theorem ggX10_match_X10_laysAmounts : GoodIn wsX10_match wsX10_laysAmounts := goodIn_r _ [24, 2, 25, 26, 27, 6, 28, 12, 29, 30, 31, 32, 33, 34, 35, 36, 37, 38, 39, 40, 41, 42, 43, 44, 45, 46, 47, 48, 49, 50, 51, 52, 53, 54, 55, 56, 57, 58, 59, 60, 61, 62, 63, 64, 65, 66, 67, 68, 69, 70, 71, 72, 73, 74, 75, 76, 77, 78, 79, 80, 81] rfl (by decide +kernel)
set_option maxRecDepth 20000 in
theorem gX10_match_X10_laysAmounts : GoodIn wsX10_match (wsV RX10 382 RX10 yX10_laysAmounts wsX10_laysAmounts) := goodIn_app (goodIn_of _ (by decide +kernel)) ggX10_match_X10_laysAmounts
set_option maxRecDepth 20000 in
theorem ggX10_fewest_X10_in : GoodIn wsX10_fewest wsX10_in := goodIn_r _ [6] rfl (by decide +kernel)
set_option maxRecDepth 20000 in
theorem gX10_fewest_X10_in : GoodIn wsX10_fewest (va_wsS RX10 126 yX10_in wsX10_in) := goodIn_app (goodIn_of _ (by decide +kernel)) ggX10_fewest_X10_in
set_option maxRecDepth 20000 in
theorem ggX10_fewest_X10_bad : GoodIn wsX10_fewest wsX10_bad := goodIn_r _ [10, 1, 11, 32, 33, 34, 35, 36, 37, 38, 39, 40, 41, 42, 43, 44, 45, 46, 47, 48, 49, 50, 51, 52, 53, 54, 55, 56, 57, 58, 59, 60, 61, 62, 63, 64, 65, 66, 67, 68, 69, 70, 71, 72, 73, 74, 75, 76, 77] rfl (by decide +kernel)
set_option maxRecDepth 20000 in
theorem gX10_fewest_X10_bad : GoodIn wsX10_fewest (wsV RX10 171 RX10 yX10_bad wsX10_bad) := goodIn_app (goodIn_of _ (by decide +kernel)) ggX10_fewest_X10_bad
set_option maxRecDepth 20000 in
theorem ggX10_fewest_X10_everyThing : GoodIn wsX10_fewest wsX10_everyThing := goodIn_r _ [15, 16, 32, 33, 34, 35, 36, 37, 38, 39, 40, 41, 42, 43, 44, 45, 46, 47, 48, 49, 50, 51, 52, 53, 54, 55, 56, 57, 58, 59, 60, 61, 62, 63, 64, 65, 66, 67, 68, 69, 70, 71, 72, 73, 74, 75, 76, 77] rfl (by decide +kernel)
set_option maxRecDepth 20000 in
theorem gX10_fewest_X10_everyThing : GoodIn wsX10_fewest (wsV RX10 376 RX10 yX10_everyThing wsX10_everyThing) := goodIn_app (goodIn_of _ (by decide +kernel)) ggX10_fewest_X10_everyThing
set_option maxRecDepth 20000 in
theorem ggX10_fewest_X10_laysAmounts : GoodIn wsX10_fewest wsX10_laysAmounts := goodIn_r _ [20, 2, 21, 22, 23, 5, 24, 16, 25, 26, 27, 28, 29, 30, 31, 32, 33, 34, 35, 36, 37, 38, 39, 40, 41, 42, 43, 44, 45, 46, 47, 48, 49, 50, 51, 52, 53, 54, 55, 56, 57, 58, 59, 60, 61, 62, 63, 64, 65, 66, 67, 68, 69, 70, 71, 72, 73, 74, 75, 76, 77] rfl (by decide +kernel)
set_option maxRecDepth 20000 in
theorem gX10_fewest_X10_laysAmounts : GoodIn wsX10_fewest (wsV RX10 382 RX10 yX10_laysAmounts wsX10_laysAmounts) := goodIn_app (goodIn_of _ (by decide +kernel)) ggX10_fewest_X10_laysAmounts
set_option maxRecDepth 20000 in
theorem ggX10_heavy_X10_has : GoodIn wsX10_heavy wsX10_has := goodIn_r _ [6] rfl (by decide +kernel)
set_option maxRecDepth 20000 in
theorem gX10_heavy_X10_has : GoodIn wsX10_heavy (va_wsS RX10 345 yX10_has wsX10_has) := goodIn_app (goodIn_of _ (by decide +kernel)) ggX10_heavy_X10_has
set_option maxRecDepth 20000 in
theorem ggX10_level_X10_isSet : GoodIn wsX10_level wsX10_isSet := goodIn_r _ [6, 7, 8, 9, 5, 10, 11, 12, 13, 14, 31, 32, 33, 34, 35, 36, 37, 38, 39, 40, 41, 42, 43, 44, 45, 46, 47, 48, 49, 50, 51, 52, 53, 54, 55, 56, 57, 58, 59, 60, 61, 62, 63, 64, 65, 66, 67, 68, 69, 70, 71, 72, 73, 74, 75, 76] rfl (by decide +kernel)
set_option maxRecDepth 20000 in
theorem gX10_level_X10_isSet : GoodIn wsX10_level (wsV RX10 379 RX10 yX10_isSet wsX10_isSet) := goodIn_app (goodIn_of _ (by decide +kernel)) ggX10_level_X10_isSet
set_option maxRecDepth 20000 in
theorem ggX10_level_X10_in : GoodIn wsX10_level wsX10_in := goodIn_r _ [14] rfl (by decide +kernel)
set_option maxRecDepth 20000 in
theorem gX10_level_X10_in : GoodIn wsX10_level (va_wsS RX10 126 yX10_in wsX10_in) := goodIn_app (goodIn_of _ (by decide +kernel)) ggX10_level_X10_in
set_option maxRecDepth 20000 in
theorem ggX10_level_X10_bad : GoodIn wsX10_level wsX10_bad := goodIn_r _ [18, 1, 19, 31, 32, 33, 34, 35, 36, 37, 38, 39, 40, 41, 42, 43, 44, 45, 46, 47, 48, 49, 50, 51, 52, 53, 54, 55, 56, 57, 58, 59, 60, 61, 62, 63, 64, 65, 66, 67, 68, 69, 70, 71, 72, 73, 74, 75, 76] rfl (by decide +kernel)
set_option maxRecDepth 20000 in
theorem gX10_level_X10_bad : GoodIn wsX10_level (wsV RX10 171 RX10 yX10_bad wsX10_bad) := goodIn_app (goodIn_of _ (by decide +kernel)) ggX10_level_X10_bad
set_option maxRecDepth 20000 in
theorem ggX10_level_X10_heavy : GoodIn wsX10_level wsX10_heavy := goodIn_r _ [23, 11, 24, 25, 26, 5, 27, 31, 32, 33, 34, 35, 36, 37, 38, 39, 40, 41, 42, 43, 44, 45, 46, 47, 48, 49, 50, 51, 52, 53, 54, 55, 56, 57, 58, 59, 60, 61, 62, 63, 64, 65, 66, 67, 68, 69, 70, 71, 72, 73, 74, 75, 76] rfl (by decide +kernel)
set_option maxRecDepth 20000 in
theorem gX10_level_X10_heavy : GoodIn wsX10_level (wsV RX10 385 RX10 yX10_heavy wsX10_heavy) := goodIn_app (goodIn_of _ (by decide +kernel)) ggX10_level_X10_heavy
set_option maxRecDepth 20000 in
theorem ggX10_level_X10_more : GoodIn wsX10_level wsX10_more := goodIn_r _ [30] rfl (by decide +kernel)
set_option maxRecDepth 20000 in
theorem gX10_level_X10_more : GoodIn wsX10_level (va_wsS RX10 238 yX10_more wsX10_more) := goodIn_app (goodIn_of _ (by decide +kernel)) ggX10_level_X10_more
set_option maxRecDepth 20000 in
theorem ggX10_isBeam_X10_standsBy : GoodIn wsX10_isBeam wsX10_standsBy := goodIn_r _ [7] rfl (by decide +kernel)
set_option maxRecDepth 20000 in
theorem gX10_isBeam_X10_standsBy : GoodIn wsX10_isBeam (va_wsS RX10 267 yX10_standsBy wsX10_standsBy) := goodIn_app (goodIn_of _ (by decide +kernel)) ggX10_isBeam_X10_standsBy
set_option maxRecDepth 20000 in
theorem ggX10_fits_X10_in : GoodIn wsX10_fits wsX10_in := goodIn_r _ [5] rfl (by decide +kernel)
set_option maxRecDepth 20000 in
theorem gX10_fits_X10_in : GoodIn wsX10_fits (va_wsS RX10 126 yX10_in wsX10_in) := goodIn_app (goodIn_of _ (by decide +kernel)) ggX10_fits_X10_in
set_option maxRecDepth 20000 in
theorem ggX10_fits_X10_bad : GoodIn wsX10_fits wsX10_bad := goodIn_r _ [9, 1, 10, 21, 22, 23, 24, 25, 26, 27, 28, 29, 30, 31, 32, 33, 34, 35, 36, 37, 38, 39, 40, 41, 42, 43, 44, 45, 46, 47, 48, 49, 50, 51, 52, 53, 54, 55, 56, 57, 58, 59, 60, 61, 62, 63, 64, 65, 66] rfl (by decide +kernel)
set_option maxRecDepth 20000 in
theorem gX10_fits_X10_bad : GoodIn wsX10_fits (wsV RX10 171 RX10 yX10_bad wsX10_bad) := goodIn_app (goodIn_of _ (by decide +kernel)) ggX10_fits_X10_bad
set_option maxRecDepth 20000 in
theorem ggX10_fits_X10_isBeam : GoodIn wsX10_fits wsX10_isBeam := goodIn_r _ [14, 15, 16, 17, 18, 19, 4, 20, 21, 22, 23, 24, 25, 26, 27, 28, 29, 30, 31, 32, 33, 34, 35, 36, 37, 38, 39, 40, 41, 42, 43, 44, 45, 46, 47, 48, 49, 50, 51, 52, 53, 54, 55, 56, 57, 58, 59, 60, 61, 62, 63, 64, 65, 66] rfl (by decide +kernel)
set_option maxRecDepth 20000 in
theorem gX10_fits_X10_isBeam : GoodIn wsX10_fits (wsV RX10 388 RX10 yX10_isBeam wsX10_isBeam) := goodIn_app (goodIn_of _ (by decide +kernel)) ggX10_fits_X10_isBeam
set_option maxRecDepth 20000 in
theorem ggX10_worstOf_X10_isBeam : GoodIn wsX10_worstOf wsX10_isBeam := goodIn_r _ [7, 8, 2, 9, 10, 11, 6, 12, 16, 17, 18, 19, 20, 21, 22, 23, 24, 25, 26, 27, 28, 29, 30, 31, 32, 33, 34, 35, 36, 37, 38, 39, 40, 41, 42, 43, 44, 45, 46, 47, 48, 49, 50, 51, 52, 53, 54, 55, 56, 57, 58, 59, 60, 61] rfl (by decide +kernel)
set_option maxRecDepth 20000 in
theorem gX10_worstOf_X10_isBeam : GoodIn wsX10_worstOf (wsV RX10 388 RX10 yX10_isBeam wsX10_isBeam) := goodIn_app (goodIn_of _ (by decide +kernel)) ggX10_worstOf_X10_isBeam
set_option maxRecDepth 20000 in
theorem ggX10_worstOf_X10_standsBy : GoodIn wsX10_worstOf wsX10_standsBy := goodIn_r _ [12] rfl (by decide +kernel)
set_option maxRecDepth 20000 in
theorem gX10_worstOf_X10_standsBy : GoodIn wsX10_worstOf (va_wsS RX10 267 yX10_standsBy wsX10_standsBy) := goodIn_app (goodIn_of _ (by decide +kernel)) ggX10_worstOf_X10_standsBy
set_option maxRecDepth 20000 in
theorem ggX10_worstOf_X10_more : GoodIn wsX10_worstOf wsX10_more := goodIn_r _ [15] rfl (by decide +kernel)
set_option maxRecDepth 20000 in
theorem gX10_worstOf_X10_more : GoodIn wsX10_worstOf (va_wsS RX10 238 yX10_more wsX10_more) := goodIn_app (goodIn_of _ (by decide +kernel)) ggX10_worstOf_X10_more
set_option maxRecDepth 20000 in
theorem ggX10_look_X10_in : GoodIn wsX10_look wsX10_in := goodIn_r _ [6] rfl (by decide +kernel)
set_option maxRecDepth 20000 in
theorem gX10_look_X10_in : GoodIn wsX10_look (va_wsS RX10 126 yX10_in wsX10_in) := goodIn_app (goodIn_of _ (by decide +kernel)) ggX10_look_X10_in
set_option maxRecDepth 20000 in
theorem ggX10_look_X10_bad : GoodIn wsX10_look wsX10_bad := goodIn_r _ [10, 1, 11, 30, 31, 32, 33, 34, 35, 36, 37, 38, 39, 40, 41, 42, 43, 44, 45, 46, 47, 48, 49, 50, 51, 52, 53, 54, 55, 56, 57, 58, 59, 60, 61, 62, 63, 64, 65, 66, 67, 68, 69, 70, 71, 72, 73, 74, 75] rfl (by decide +kernel)
set_option maxRecDepth 20000 in
theorem gX10_look_X10_bad : GoodIn wsX10_look (wsV RX10 171 RX10 yX10_bad wsX10_bad) := goodIn_app (goodIn_of _ (by decide +kernel)) ggX10_look_X10_bad
set_option maxRecDepth 20000 in
theorem ggX10_look_X10_worstOf : GoodIn wsX10_look wsX10_worstOf := goodIn_r _ [15, 16, 17, 18, 19, 20, 5, 21, 22, 23, 24, 25, 26, 27, 28, 29, 30, 31, 32, 33, 34, 35, 36, 37, 38, 39, 40, 41, 42, 43, 44, 45, 46, 47, 48, 49, 50, 51, 52, 53, 54, 55, 56, 57, 58, 59, 60, 61, 62, 63, 64, 65, 66, 67, 68, 69, 70, 71, 72, 73, 74, 75] rfl (by decide +kernel)
set_option maxRecDepth 20000 in
theorem gX10_look_X10_worstOf : GoodIn wsX10_look (wsV RX10 391 RX10 yX10_worstOf wsX10_worstOf) := goodIn_app (goodIn_of _ (by decide +kernel)) ggX10_look_X10_worstOf
set_option maxRecDepth 20000 in
theorem ggX10_falsely_X10_in : GoodIn wsX10_falsely wsX10_in := goodIn_r _ [5] rfl (by decide +kernel)
set_option maxRecDepth 20000 in
theorem gX10_falsely_X10_in : GoodIn wsX10_falsely (va_wsS RX10 126 yX10_in wsX10_in) := goodIn_app (goodIn_of _ (by decide +kernel)) ggX10_falsely_X10_in
set_option maxRecDepth 20000 in
theorem ggX10_falsely_X10_bad : GoodIn wsX10_falsely wsX10_bad := goodIn_r _ [9, 1, 10, 11, 12, 13, 14, 15, 16, 17, 18, 19, 20, 21, 22, 23, 24, 25, 26, 27, 28, 29, 30, 31, 32, 33, 34, 35, 36, 37, 38, 39, 40, 41, 42, 43, 44, 45, 46, 47, 48, 49, 50, 51, 52, 53, 54, 55, 56] rfl (by decide +kernel)
set_option maxRecDepth 20000 in
theorem gX10_falsely_X10_bad : GoodIn wsX10_falsely (wsV RX10 171 RX10 yX10_bad wsX10_bad) := goodIn_app (goodIn_of _ (by decide +kernel)) ggX10_falsely_X10_bad
set_option maxRecDepth 20000 in
theorem ggX10_isBest_X10_hasBy : GoodIn wsX10_isBest wsX10_hasBy := goodIn_r _ [4] rfl (by decide +kernel)
set_option maxRecDepth 20000 in
theorem gX10_isBest_X10_hasBy : GoodIn wsX10_isBest (va_wsS RX10 394 yX10_hasBy wsX10_hasBy) := goodIn_app (goodIn_of _ (by decide +kernel)) ggX10_isBest_X10_hasBy
set_option maxRecDepth 20000 in
theorem ggX10_sellers_X10_in : GoodIn wsX10_sellers wsX10_in := goodIn_r _ [5] rfl (by decide +kernel)
set_option maxRecDepth 20000 in
theorem gX10_sellers_X10_in : GoodIn wsX10_sellers (va_wsS RX10 126 yX10_in wsX10_in) := goodIn_app (goodIn_of _ (by decide +kernel)) ggX10_sellers_X10_in
set_option maxRecDepth 20000 in
theorem ggX10_sellers_X10_bad : GoodIn wsX10_sellers wsX10_bad := goodIn_r _ [9, 1, 10, 17, 18, 19, 20, 21, 22, 23, 24, 25, 26, 27, 28, 29, 30, 31, 32, 33, 34, 35, 36, 37, 38, 39, 40, 41, 42, 43, 44, 45, 46, 47, 48, 49, 50, 51, 52, 53, 54, 55, 56, 57, 58, 59, 60, 61, 62] rfl (by decide +kernel)
set_option maxRecDepth 20000 in
theorem gX10_sellers_X10_bad : GoodIn wsX10_sellers (wsV RX10 171 RX10 yX10_bad wsX10_bad) := goodIn_app (goodIn_of _ (by decide +kernel)) ggX10_sellers_X10_bad
