set_option maxRecDepth 20000 in
theorem ggX8_settle_X8_touches : GoodIn wsX8_settle wsX8_touches := goodIn_r _ [26, 11, 7, 14, 27, 32, 33, 34, 35, 36, 37, 38, 39, 40, 41, 42, 43, 44, 45, 46, 47, 48, 49, 50, 51, 52, 53, 54, 55, 56, 57, 58, 59, 60, 61, 62, 63, 64, 65, 66, 67, 68, 69, 70, 71, 72, 73, 74, 75, 76, 77, 78, 79, 80, 81, 82, 83, 84, 85, 86, 87, 88, 89, 90, 91, 92] rfl (by decide +kernel)
set_option maxRecDepth 20000 in
theorem gX8_settle_X8_touches : GoodIn wsX8_settle (wsV RX8 250 RX8 yX8_touches wsX8_touches) := goodIn_app (goodIn_of _ (by decide +kernel)) ggX8_settle_X8_touches
set_option maxRecDepth 20000 in
theorem ggX8_settle_X8_rootOf : GoodIn wsX8_settle wsX8_rootOf := goodIn_r _ [31, 20, 32, 33, 34, 35, 36, 37, 38, 39, 40, 41, 42, 43, 44, 45, 46, 47, 48, 49, 50, 51, 52, 53, 54, 55, 56, 57, 58, 59, 60, 61, 62, 63, 64, 65, 66, 67, 68, 69, 70, 71, 72, 73, 74, 75, 76, 77, 78, 79, 80, 81, 82, 83, 84, 85, 86, 87, 88, 89, 90, 91, 92] rfl (by decide +kernel)
set_option maxRecDepth 20000 in
theorem gX8_settle_X8_rootOf : GoodIn wsX8_settle (wsV RX8 254 RX8 yX8_rootOf wsX8_rootOf) := goodIn_app (goodIn_of _ (by decide +kernel)) ggX8_settle_X8_rootOf
set_option maxRecDepth 20000 in
theorem ggX8_inOrder_X8_leafOf : GoodIn wsX8_inOrder wsX8_leafOf := goodIn_r _ [14, 15] rfl (by decide +kernel)
set_option maxRecDepth 20000 in
theorem gX8_inOrder_X8_leafOf : GoodIn wsX8_inOrder (va_wsS RX8 166 yX8_leafOf wsX8_leafOf) := goodIn_app (goodIn_of _ (by decide +kernel)) ggX8_inOrder_X8_leafOf
