def wsMin : List Cond := [Cond.code Lib.Math.min.name Lib.Math.min.code 2 (some .int)]
set_option maxRecDepth 20000 in
theorem ggX0_begin_J7_fill_d0a16 : GoodIn wsX0_begin wsJ7_fill_d0a16 := goodIn_r _ [13] rfl (by decide +kernel)
set_option maxRecDepth 20000 in
theorem gX0_begin_J7_fill_d0a16 : GoodIn wsX0_begin (va_wsS RX0 66 yJ7_fill_d0a16 wsJ7_fill_d0a16) := goodIn_app (goodIn_of _ (by decide +kernel)) ggX0_begin_J7_fill_d0a16
set_option maxRecDepth 20000 in
theorem ggX0_isOver_X2_hasAct : GoodIn wsX0_isOver wsX2_hasAct := goodIn_r _ [8, 9, 10, 29, 30, 31, 32, 33, 34] rfl (by decide +kernel)
set_option maxRecDepth 20000 in
theorem gX0_isOver_X2_hasAct : GoodIn wsX0_isOver (wsV RX0 72 RX2 yX2_hasAct wsX2_hasAct) := goodIn_app (goodIn_of _ (by decide +kernel)) ggX0_isOver_X2_hasAct
set_option maxRecDepth 20000 in
theorem ggX0_countWritten_J6_bitCount_0f7a4 : GoodIn wsX0_countWritten wsJ6_bitCount_0f7a4 := goodIn_r _ [5, 6, 7, 8] rfl (by decide +kernel)
set_option maxRecDepth 20000 in
theorem gX0_countWritten_J6_bitCount_0f7a4 : GoodIn wsX0_countWritten (va_wsS RX0 78 yJ6_bitCount_0f7a4 wsJ6_bitCount_0f7a4) := goodIn_app (goodIn_of _ (by decide +kernel)) ggX0_countWritten_J6_bitCount_0f7a4
set_option maxRecDepth 20000 in
theorem ggX0_doNext_X0_isOver : GoodIn wsX0_doNext wsX0_isOver := goodIn_r _ [13, 14, 1, 2, 15, 16, 17, 18, 19, 20, 21, 87, 88, 89, 90, 91, 92, 93, 94, 95, 96, 97, 98, 99, 100, 101, 102, 103, 104, 105, 106, 107, 108, 109, 110] rfl (by decide +kernel)
set_option maxRecDepth 20000 in
theorem gX0_doNext_X0_isOver : GoodIn wsX0_doNext (wsV RX0 84 RX0 yX0_isOver wsX0_isOver) := goodIn_app (goodIn_of _ (by decide +kernel)) ggX0_doNext_X0_isOver
set_option maxRecDepth 20000 in
theorem ggX0_doNext_X0_leafAt : GoodIn wsX0_doNext wsX0_leafAt := goodIn_r _ [25, 26, 27, 87, 88, 89, 90, 91, 92, 93, 94, 95, 96, 97, 98, 99, 100, 101, 102, 103, 104] rfl (by decide +kernel)
set_option maxRecDepth 20000 in
theorem gX0_doNext_X0_leafAt : GoodIn wsX0_doNext (wsV RX0 102 RX0 yX0_leafAt wsX0_leafAt) := goodIn_app (goodIn_of _ (by decide +kernel)) ggX0_doNext_X0_leafAt
set_option maxRecDepth 20000 in
theorem ggX0_doNext_X0_read : GoodIn wsX0_doNext wsX0_read := goodIn_r _ [31, 26, 32, 33, 1, 34, 35, 36, 37, 12, 38, 39, 40, 41, 42, 43, 44, 45, 46, 47, 48, 49, 50, 51, 52, 53, 54, 55, 56, 57, 58, 59, 60, 61, 62, 63, 64, 65, 66, 67, 68, 87, 88, 89, 90, 91, 92, 93, 94, 95, 96, 97, 98, 99, 100, 101, 102, 103, 104, 111, 112, 113, 114] rfl (by decide +kernel)
set_option maxRecDepth 20000 in
theorem gX0_doNext_X0_read : GoodIn wsX0_doNext (wsV RX0 106 RX0 yX0_read wsX0_read) := goodIn_app (goodIn_of _ (by decide +kernel)) ggX0_doNext_X0_read
set_option maxRecDepth 20000 in
theorem ggX0_doNext_X0_perform : GoodIn wsX0_doNext wsX0_perform := goodIn_r _ [72, 26, 2, 22, 23, 24, 12, 25, 27, 73, 74, 75, 76, 32, 39, 77, 78, 79, 80, 81, 82, 83, 84, 85, 86, 14, 87, 88, 89, 90, 91, 92, 93, 94, 95, 96, 97, 98, 99, 100, 101, 102, 103, 104] rfl (by decide +kernel)
set_option maxRecDepth 20000 in
theorem gX0_doNext_X0_perform : GoodIn wsX0_doNext (wsV RX0 110 RX0 yX0_perform wsX0_perform) := goodIn_app (goodIn_of _ (by decide +kernel)) ggX0_doNext_X0_perform
set_option maxRecDepth 20000 in
theorem ggX0_read_X0_hasWritten : GoodIn wsX0_read wsX0_hasWritten := goodIn_r _ [10, 11, 41, 42, 43, 44, 45, 46, 47, 48, 49, 50, 51, 52, 53, 54, 55, 56, 57, 58] rfl (by decide +kernel)
set_option maxRecDepth 20000 in
theorem gX0_read_X0_hasWritten : GoodIn wsX0_read (wsV RX0 116 RX0 yX0_hasWritten wsX0_hasWritten) := goodIn_app (goodIn_of _ (by decide +kernel)) ggX0_read_X0_hasWritten
set_option maxRecDepth 20000 in
theorem ggX0_read_X5_writerBelow : GoodIn wsX0_read wsX5_writerBelow := goodIn_r _ [16, 17, 59, 60, 61, 62] rfl (by decide +kernel)
set_option maxRecDepth 20000 in
theorem gX0_read_X5_writerBelow : GoodIn wsX0_read (wsV RX0 120 RX5 yX5_writerBelow wsX5_writerBelow) := goodIn_app (goodIn_of _ (by decide +kernel)) ggX0_read_X5_writerBelow
set_option maxRecDepth 20000 in
theorem ggX0_read_X5_isPerhaps : GoodIn wsX0_read wsX5_isPerhaps := goodIn_r _ [21, 17, 59, 60, 61, 62] rfl (by decide +kernel)
set_option maxRecDepth 20000 in
theorem gX0_read_X5_isPerhaps : GoodIn wsX0_read (wsV RX0 126 RX5 yX5_isPerhaps wsX5_isPerhaps) := goodIn_app (goodIn_of _ (by decide +kernel)) ggX0_read_X5_isPerhaps
set_option maxRecDepth 20000 in
theorem ggX0_read_X5_numberOf : GoodIn wsX0_read wsX5_numberOf := goodIn_r _ [25, 26, 59, 60, 61, 62] rfl (by decide +kernel)
set_option maxRecDepth 20000 in
theorem gX0_read_X5_numberOf : GoodIn wsX0_read (wsV RX0 129 RX5 yX5_numberOf wsX5_numberOf) := goodIn_app (goodIn_of _ (by decide +kernel)) ggX0_read_X5_numberOf
set_option maxRecDepth 20000 in
theorem ggX0_read_X5_valueOf : GoodIn wsX0_read wsX5_valueOf := goodIn_r _ [30, 31, 32, 59, 60, 61, 62] rfl (by decide +kernel)
set_option maxRecDepth 20000 in
theorem gX0_read_X5_valueOf : GoodIn wsX0_read (wsV RX0 132 RX5 yX5_valueOf wsX5_valueOf) := goodIn_app (goodIn_of _ (by decide +kernel)) ggX0_read_X5_valueOf
set_option maxRecDepth 20000 in
theorem ggX0_read_X0_keep : GoodIn wsX0_read wsX0_keep := goodIn_r _ [36, 37, 38, 39, 40, 5, 3, 41, 42, 43, 44, 45, 46, 47, 48, 49, 50, 51, 52, 53, 54, 55, 56, 57, 58] rfl (by decide +kernel)
set_option maxRecDepth 20000 in
theorem gX0_read_X0_keep : GoodIn wsX0_read (wsV RX0 136 RX0 yX0_keep wsX0_keep) := goodIn_app (goodIn_of _ (by decide +kernel)) ggX0_read_X0_keep
set_option maxRecDepth 20000 in
theorem ggX0_perform_X0_leafAt : GoodIn wsX0_perform wsX0_leafAt := goodIn_r _ [7, 1, 8, 26, 27, 28, 29, 30, 31, 32, 33, 34, 35, 36, 37, 38, 39, 40, 41, 42, 43] rfl (by decide +kernel)
set_option maxRecDepth 20000 in
theorem gX0_perform_X0_leafAt : GoodIn wsX0_perform (wsV RX0 102 RX0 yX0_leafAt wsX0_leafAt) := goodIn_app (goodIn_of _ (by decide +kernel)) ggX0_perform_X0_leafAt
set_option maxRecDepth 20000 in
theorem ggX0_perform_X0_write : GoodIn wsX0_perform wsX0_write := goodIn_r _ [12, 13, 14, 26, 27, 28, 29, 30, 31, 32, 33, 34, 35, 36, 37, 38, 39, 40, 41, 42, 43] rfl (by decide +kernel)
set_option maxRecDepth 20000 in
theorem gX0_perform_X0_write : GoodIn wsX0_perform (wsV RX0 139 RX0 yX0_write wsX0_write) := goodIn_app (goodIn_of _ (by decide +kernel)) ggX0_perform_X0_write
set_option maxRecDepth 20000 in
theorem ggX0_perform_X0_raise : GoodIn wsX0_perform wsX0_raise := goodIn_r _ [18, 19, 20, 26, 27, 28, 29, 30, 31, 32, 33, 34, 35, 36, 37, 38, 39, 40, 41, 42, 43] rfl (by decide +kernel)
set_option maxRecDepth 20000 in
theorem gX0_perform_X0_raise : GoodIn wsX0_perform (wsV RX0 143 RX0 yX0_raise wsX0_raise) := goodIn_app (goodIn_of _ (by decide +kernel)) ggX0_perform_X0_raise
set_option maxRecDepth 20000 in
theorem ggX0_perform_X0_fail : GoodIn wsX0_perform wsX0_fail := goodIn_r _ [24, 25, 14, 19, 26, 27, 28, 29, 30, 31, 32, 33, 34, 35, 36, 37, 38, 39, 40, 41, 42, 43] rfl (by decide +kernel)
set_option maxRecDepth 20000 in
theorem gX0_perform_X0_fail : GoodIn wsX0_perform (wsV RX0 147 RX0 yX0_fail wsX0_fail) := goodIn_app (goodIn_of _ (by decide +kernel)) ggX0_perform_X0_fail
set_option maxRecDepth 20000 in
theorem ggX0_firstChanged_X5_writerBelow : GoodIn wsX0_firstChanged wsX5_writerBelow := goodIn_r _ [10, 11, 39, 40, 41, 42] rfl (by decide +kernel)
set_option maxRecDepth 20000 in
theorem gX0_firstChanged_X5_writerBelow : GoodIn wsX0_firstChanged (wsV RX0 120 RX5 yX5_writerBelow wsX5_writerBelow) := goodIn_app (goodIn_of _ (by decide +kernel)) ggX0_firstChanged_X5_writerBelow
set_option maxRecDepth 20000 in
theorem ggX0_firstChanged_X5_isPerhaps : GoodIn wsX0_firstChanged wsX5_isPerhaps := goodIn_r _ [15, 11, 39, 40, 41, 42] rfl (by decide +kernel)
set_option maxRecDepth 20000 in
theorem gX0_firstChanged_X5_isPerhaps : GoodIn wsX0_firstChanged (wsV RX0 126 RX5 yX5_isPerhaps wsX5_isPerhaps) := goodIn_app (goodIn_of _ (by decide +kernel)) ggX0_firstChanged_X5_isPerhaps
set_option maxRecDepth 20000 in
theorem ggX0_firstChanged_X5_numberOf : GoodIn wsX0_firstChanged wsX5_numberOf := goodIn_r _ [19, 20, 39, 40, 41, 42] rfl (by decide +kernel)
set_option maxRecDepth 20000 in
theorem gX0_firstChanged_X5_numberOf : GoodIn wsX0_firstChanged (wsV RX0 129 RX5 yX5_numberOf wsX5_numberOf) := goodIn_app (goodIn_of _ (by decide +kernel)) ggX0_firstChanged_X5_numberOf
set_option maxRecDepth 20000 in
theorem ggX1_open_X5_open : GoodIn wsX1_open wsX5_open := goodIn_r _ [9, 10, 11, 12, 13, 14, 15, 16, 17, 18, 19, 36, 37, 38, 39] rfl (by decide +kernel)
set_option maxRecDepth 20000 in
theorem gX1_open_X5_open : GoodIn wsX1_open (wsV RX1 34 RX5 yX5_open wsX5_open) := goodIn_app (goodIn_of _ (by decide +kernel)) ggX1_open_X5_open
set_option maxRecDepth 20000 in
theorem ggX1_open_X0_open : GoodIn wsX1_open wsX0_open := goodIn_r _ [24, 25, 26, 40, 41, 42, 43, 44, 45, 46, 47, 48, 49, 50, 51, 52, 53, 54, 55, 56, 57] rfl (by decide +kernel)
set_option maxRecDepth 20000 in
theorem gX1_open_X0_open : GoodIn wsX1_open (wsV RX1 38 RX0 yX0_open wsX0_open) := goodIn_app (goodIn_of _ (by decide +kernel)) ggX1_open_X0_open
set_option maxRecDepth 20000 in
theorem ggX1_runOneByOne_X0_begin : GoodIn wsX1_runOneByOne wsX0_begin := goodIn_r _ [8, 9, 10, 11, 12, 13, 14, 15, 16, 17, 18, 19, 20, 21, 114, 115, 116, 117, 118, 119, 120, 121, 122, 123, 124, 125, 126, 127, 128, 129, 130, 131] rfl (by decide +kernel)
set_option maxRecDepth 20000 in
theorem gX1_runOneByOne_X0_begin : GoodIn wsX1_runOneByOne (wsV RX1 40 RX0 yX0_begin wsX0_begin) := goodIn_app (goodIn_of _ (by decide +kernel)) ggX1_runOneByOne_X0_begin
set_option maxRecDepth 20000 in
theorem ggX1_runOneByOne_X0_isOver : GoodIn wsX1_runOneByOne wsX0_isOver := goodIn_r _ [25, 12, 26, 10, 27, 28, 29, 30, 31, 32, 33, 114, 115, 116, 117, 118, 119, 120, 121, 122, 123, 124, 125, 126, 127, 128, 129, 130, 131, 132, 133, 134, 135, 136, 137] rfl (by decide +kernel)
set_option maxRecDepth 20000 in
theorem gX1_runOneByOne_X0_isOver : GoodIn wsX1_runOneByOne (wsV RX1 43 RX0 yX0_isOver wsX0_isOver) := goodIn_app (goodIn_of _ (by decide +kernel)) ggX1_runOneByOne_X0_isOver
set_option maxRecDepth 20000 in
theorem ggX1_runOneByOne_X0_doNext : GoodIn wsX1_runOneByOne wsX0_doNext := goodIn_r _ [37, 26, 10, 38, 39, 40, 41, 11, 42, 43, 23, 24, 7, 25, 12, 27, 28, 29, 30, 31, 32, 33, 44, 45, 46, 47, 17, 48, 49, 50, 51, 52, 53, 14, 54, 55, 56, 57, 58, 15, 59, 60, 61, 62, 63, 64, 65, 66, 67, 68, 69, 70, 71, 72, 73, 74, 75, 76, 77, 78, 79, 80, 81, 82, 83, 13, 84, 85, 86, 87, 88, 89, 90, 91, 92, 93, 94, 95, 96, 97, 98, 16, 99, 100, 101, 102, 103, 114, 115, 116, 117, 118, 119, 120, 121, 122, 123, 124, 125, 126, 127, 128, 129, 130, 131, 132, 133, 134, 135, 136, 137, 138, 139, 140, 141] rfl (by decide +kernel)
set_option maxRecDepth 20000 in
theorem gX1_runOneByOne_X0_doNext : GoodIn wsX1_runOneByOne (wsV RX1 47 RX0 yX0_doNext wsX0_doNext) := goodIn_app (goodIn_of _ (by decide +kernel)) ggX1_runOneByOne_X0_doNext
set_option maxRecDepth 20000 in
theorem ggX1_runOneByOne_X5_publish : GoodIn wsX1_runOneByOne wsX5_publish := goodIn_r _ [107, 108, 64, 73, 79, 109, 110, 56, 57, 7, 58, 15, 114, 115, 116, 117, 118, 119, 120, 121, 122, 123, 124, 125, 126, 127, 128, 129, 130, 131, 138, 139, 140, 141] rfl (by decide +kernel)
set_option maxRecDepth 20000 in
theorem gX1_runOneByOne_X5_publish : GoodIn wsX1_runOneByOne (wsV RX1 51 RX5 yX5_publish wsX5_publish) := goodIn_app (goodIn_of _ (by decide +kernel)) ggX1_runOneByOne_X5_publish
set_option maxRecDepth 20000 in
theorem ggX1_formGroups_X1_joinTouching : GoodIn wsX1_formGroups wsX1_joinTouching := goodIn_r _ [8, 1, 2, 3, 9, 10, 11, 12, 13, 14, 15, 16, 17, 18, 7, 19, 20, 21, 22, 23, 24, 25, 26, 27, 28, 29, 30, 31, 32, 33, 34, 35, 36, 37, 38, 39, 40, 41, 42, 43, 44] rfl (by decide +kernel)
set_option maxRecDepth 20000 in
theorem gX1_formGroups_X1_joinTouching : GoodIn wsX1_formGroups (wsV RX1 58 RX1 yX1_joinTouching wsX1_joinTouching) := goodIn_app (goodIn_of _ (by decide +kernel)) ggX1_formGroups_X1_joinTouching
set_option maxRecDepth 20000 in
theorem ggX1_joinTouching_X0_touched : GoodIn wsX1_joinTouching wsX0_touched := goodIn_r _ [8, 9, 10, 23, 24, 25, 26, 27, 28, 29, 30, 31, 32, 33, 34, 35, 36, 37, 38, 39, 40] rfl (by decide +kernel)
set_option maxRecDepth 20000 in
theorem gX1_joinTouching_X0_touched : GoodIn wsX1_joinTouching (wsV RX1 61 RX0 yX0_touched wsX0_touched) := goodIn_app (goodIn_of _ (by decide +kernel)) ggX1_joinTouching_X0_touched
set_option maxRecDepth 20000 in
theorem ggX1_joinTouching_X1_joinGroups : GoodIn wsX1_joinTouching wsX1_joinGroups := goodIn_r _ [15, 16, 17, 18, 19, 1, 2, 3, 20, 21, 22, 23, 24, 25, 26, 27, 28, 29, 30, 31, 32, 33, 34, 35, 36, 37, 38, 39, 40] rfl (by decide +kernel)
set_option maxRecDepth 20000 in
theorem gX1_joinTouching_X1_joinGroups : GoodIn wsX1_joinTouching (wsV RX1 65 RX1 yX1_joinGroups wsX1_joinGroups) := goodIn_app (goodIn_of _ (by decide +kernel)) ggX1_joinTouching_X1_joinGroups
set_option maxRecDepth 20000 in
theorem ggX1_tellCall_X0_countWritten : GoodIn wsX1_tellCall wsX0_countWritten := goodIn_r _ [12, 13, 14, 15, 16, 17, 18, 19, 20, 24, 25, 26, 27, 28, 29, 30, 31, 32, 33, 34, 35, 36, 37, 38, 39, 40, 41] rfl (by decide +kernel)
set_option maxRecDepth 20000 in
theorem gX1_tellCall_X0_countWritten : GoodIn wsX1_tellCall (wsV RX1 98 RX0 yX0_countWritten wsX0_countWritten) := goodIn_app (goodIn_of _ (by decide +kernel)) ggX1_tellCall_X0_countWritten
set_option maxRecDepth 20000 in
theorem ggX4_allows_X4_isRegister : GoodIn wsX4_allows wsX4_isRegister := goodIn_r _ [4] rfl (by decide +kernel)
set_option maxRecDepth 20000 in
theorem gX4_allows_X4_isRegister : GoodIn wsX4_allows (va_wsS RX4 11 yX4_isRegister wsX4_isRegister) := goodIn_app (goodIn_of _ (by decide +kernel)) ggX4_allows_X4_isRegister
set_option maxRecDepth 20000 in
theorem ggX4_allows_X4_hasSecond : GoodIn wsX4_allows wsX4_hasSecond := goodIn_r _ [7] rfl (by decide +kernel)
set_option maxRecDepth 20000 in
theorem gX4_allows_X4_hasSecond : GoodIn wsX4_allows (va_wsS RX4 15 yX4_hasSecond wsX4_hasSecond) := goodIn_app (goodIn_of _ (by decide +kernel)) ggX4_allows_X4_hasSecond
set_option maxRecDepth 20000 in
theorem ggX4_allows_X4_allowsValue : GoodIn wsX4_allows wsX4_allowsValue := goodIn_r _ [10, 11] rfl (by decide +kernel)
set_option maxRecDepth 20000 in
theorem gX4_allows_X4_allowsValue : GoodIn wsX4_allows (va_wsS RX4 18 yX4_allowsValue wsX4_allowsValue) := goodIn_app (goodIn_of _ (by decide +kernel)) ggX4_allows_X4_allowsValue
set_option maxRecDepth 20000 in
theorem ggX5_open_J7_fill_53178 : GoodIn wsX5_open wsJ7_fill_53178 := goodIn_r _ [10] rfl (by decide +kernel)
set_option maxRecDepth 20000 in
theorem gX5_open_J7_fill_53178 : GoodIn wsX5_open (va_wsS RX5 31 yJ7_fill_53178 wsJ7_fill_53178) := goodIn_app (goodIn_of _ (by decide +kernel)) ggX5_open_J7_fill_53178
set_option maxRecDepth 20000 in
theorem ggX5_valueAfter_X5_writerBelow : GoodIn wsX5_valueAfter wsX5_writerBelow := goodIn_r _ [5, 6, 13, 14, 15, 16] rfl (by decide +kernel)
set_option maxRecDepth 20000 in
theorem gX5_valueAfter_X5_writerBelow : GoodIn wsX5_valueAfter (wsV RX5 37 RX5 yX5_writerBelow wsX5_writerBelow) := goodIn_app (goodIn_of _ (by decide +kernel)) ggX5_valueAfter_X5_writerBelow
