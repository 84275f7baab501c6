set_option maxRecDepth 20000 in
theorem ggX7_run_X6_open : GoodIn wsX7_run wsX6_open := goodIn_r _ [12, 13, 14, 15, 16, 17, 18, 19, 20, 21, 22, 23, 24, 25, 26, 27, 28, 29, 30, 31, 32, 33, 34, 35, 36, 37, 38, 39, 40, 41, 42, 43, 44, 45, 46, 47, 48, 49, 50, 51, 52, 53, 54, 55, 56, 57, 58, 59, 60, 274, 275, 276, 277, 278, 279, 280, 281, 282, 283, 284, 285, 286, 287, 288, 289, 290, 294, 295, 296, 297, 298, 299, 300, 301, 302, 291, 292, 293, 303, 304, 305, 306, 307, 308, 309, 310, 311, 312, 313, 314, 315, 316, 317, 318, 319, 320, 321, 322, 323, 324] rfl (by decide +kernel)
set_option maxRecDepth 20000 in
theorem gX7_run_X6_open : GoodIn wsX7_run (wsV RX7 59 RX6 yX6_open wsX6_open) := goodIn_app (goodIn_of _ (by decide +kernel)) ggX7_run_X6_open
set_option maxRecDepth 20000 in
theorem ggX7_run_X6_work : GoodIn wsX7_run wsX6_work := goodIn_r _ [64, 16, 65, 21, 20, 66, 13, 67, 68, 69, 11, 70, 23, 71, 24, 28, 72, 73, 74, 75, 76, 77, 78, 79, 80, 81, 82, 83, 84, 85, 56, 86, 87, 88, 89, 90, 91, 92, 93, 59, 94, 95, 96, 97, 98, 99, 100, 101, 102, 103, 104, 105, 106, 107, 108, 109, 110, 111, 112, 113, 114, 115, 116, 117, 118, 119, 120, 121, 122, 123, 124, 125, 126, 41, 127, 48, 128, 129, 130, 131, 132, 133, 134, 135, 136, 137, 138, 139, 140, 43, 141, 142, 143, 144, 145, 146, 147, 148, 149, 150, 151, 152, 153, 154, 155, 156, 157, 158, 159, 160, 161, 162, 163, 164, 165, 166, 167, 168, 169, 170, 171, 25, 26, 19, 14, 172, 173, 174, 175, 176, 177, 178, 179, 180, 181, 182, 183, 184, 27, 185, 186, 187, 188, 189, 190, 191, 192, 193, 194, 195, 196, 197, 198, 199, 200, 201, 202, 203, 204, 205, 206, 207, 208, 17, 209, 210, 211, 212, 213, 214, 215, 216, 217, 18, 22, 218, 219, 220, 221, 222, 223, 224, 225, 226, 227, 228, 229, 58, 230, 231, 51, 232, 233, 234, 235, 236, 237, 238, 239, 32, 240, 35, 37, 36, 241, 242, 243, 244, 245, 246, 247, 248, 249, 250, 251, 252, 253, 254, 255, 256, 257, 258, 259, 260, 261, 262, 274, 275, 276, 277, 278, 279, 280, 281, 282, 283, 284, 285, 286, 287, 288, 289, 290, 291, 292, 293, 307, 308, 309, 310, 311, 312, 313, 314, 315, 316, 317, 318, 319, 320, 321, 322, 323, 324, 297, 298, 299, 300, 301, 302, 303, 304, 305, 306, 294, 295, 296] rfl (by decide +kernel)
set_option maxRecDepth 20000 in
theorem gX7_run_X6_work : GoodIn wsX7_run (wsV RX7 63 RX6 yX6_work wsX6_work) := goodIn_app (goodIn_of _ (by decide +kernel)) ggX7_run_X6_work
set_option maxRecDepth 20000 in
theorem ggX7_run_X5_valueAfter : GoodIn wsX7_run wsX5_valueAfter := goodIn_r _ [266, 267, 125, 126, 41, 127, 48, 268, 138, 139, 140, 43, 141, 303, 304, 305, 306] rfl (by decide +kernel)
set_option maxRecDepth 20000 in
theorem gX7_run_X5_valueAfter : GoodIn wsX7_run (wsV RX7 74 RX5 yX5_valueAfter wsX5_valueAfter) := goodIn_app (goodIn_of _ (by decide +kernel)) ggX7_run_X5_valueAfter
set_option maxRecDepth 20000 in
theorem ggX7_at_X7_isLeaf : GoodIn wsX7_at wsX7_isLeaf := goodIn_r _ [5] rfl (by decide +kernel)
set_option maxRecDepth 20000 in
theorem gX7_at_X7_isLeaf : GoodIn wsX7_at (va_wsS RX7 55 yX7_isLeaf wsX7_isLeaf) := goodIn_app (goodIn_of _ (by decide +kernel)) ggX7_at_X7_isLeaf
set_option maxRecDepth 20000 in
theorem ggX7_inOrder_X7_isLeaf : GoodIn wsX7_inOrder wsX7_isLeaf := goodIn_r _ [8] rfl (by decide +kernel)
set_option maxRecDepth 20000 in
theorem gX7_inOrder_X7_isLeaf : GoodIn wsX7_inOrder (va_wsS RX7 55 yX7_isLeaf wsX7_isLeaf) := goodIn_app (goodIn_of _ (by decide +kernel)) ggX7_inOrder_X7_isLeaf
set_option maxRecDepth 20000 in
theorem ggX7_inOrder_X1_open : GoodIn wsX7_inOrder wsX1_open := goodIn_r _ [13, 14, 15, 16, 17, 18, 19, 20, 21, 22, 23, 24, 25, 26, 27, 28, 29, 30, 31, 32, 33, 34, 35, 36, 37, 38, 39, 158, 159, 160, 161, 162, 163, 155, 156, 157, 164, 165, 166, 167, 168, 169, 170, 171, 172, 173, 174, 175, 176, 177, 178, 179, 180, 181, 182, 183, 184, 185] rfl (by decide +kernel)
set_option maxRecDepth 20000 in
theorem gX7_inOrder_X1_open : GoodIn wsX7_inOrder (wsV RX7 83 RX1 yX1_open wsX1_open) := goodIn_app (goodIn_of _ (by decide +kernel)) ggX7_inOrder_X1_open
set_option maxRecDepth 20000 in
theorem ggX7_inOrder_X1_runOneByOne : GoodIn wsX7_inOrder wsX1_runOneByOne := goodIn_r _ [43, 15, 17, 16, 44, 45, 46, 36, 47, 38, 48, 49, 50, 51, 52, 53, 54, 55, 56, 57, 31, 58, 59, 60, 61, 62, 63, 64, 65, 66, 67, 68, 69, 70, 71, 72, 73, 74, 75, 76, 77, 78, 39, 79, 80, 81, 82, 83, 84, 85, 86, 87, 88, 89, 90, 91, 92, 93, 94, 95, 96, 97, 21, 98, 28, 99, 100, 101, 102, 103, 104, 105, 106, 107, 108, 109, 110, 111, 23, 112, 113, 114, 115, 116, 117, 118, 119, 120, 121, 122, 123, 124, 125, 126, 127, 128, 129, 130, 131, 132, 133, 134, 135, 136, 137, 138, 139, 140, 141, 142, 143, 155, 156, 157, 168, 169, 170, 171, 172, 173, 174, 175, 176, 177, 178, 179, 180, 181, 182, 183, 184, 185, 158, 159, 160, 161, 162, 163, 164, 165, 166, 167] rfl (by decide +kernel)
set_option maxRecDepth 20000 in
theorem gX7_inOrder_X1_runOneByOne : GoodIn wsX7_inOrder (wsV RX7 86 RX1 yX1_runOneByOne wsX1_runOneByOne) := goodIn_app (goodIn_of _ (by decide +kernel)) ggX7_inOrder_X1_runOneByOne
set_option maxRecDepth 20000 in
theorem ggX7_inOrder_X5_valueAfter : GoodIn wsX7_inOrder wsX5_valueAfter := goodIn_r _ [147, 148, 96, 97, 21, 98, 28, 149, 109, 110, 111, 23, 112, 164, 165, 166, 167] rfl (by decide +kernel)
set_option maxRecDepth 20000 in
theorem gX7_inOrder_X5_valueAfter : GoodIn wsX7_inOrder (wsV RX7 74 RX5 yX5_valueAfter wsX5_valueAfter) := goodIn_app (goodIn_of _ (by decide +kernel)) ggX7_inOrder_X5_valueAfter
set_option maxRecDepth 20000 in
theorem ggX7_events_X1_countEvents : GoodIn wsX7_events wsX1_countEvents := goodIn_r _ [7, 8, 9, 10, 33, 34, 35, 36, 37, 38, 39, 40, 41, 42, 43, 44, 45, 46, 47, 48, 49, 50, 51, 52, 53] rfl (by decide +kernel)
set_option maxRecDepth 20000 in
theorem gX7_events_X1_countEvents : GoodIn wsX7_events (wsV RX7 90 RX1 yX1_countEvents wsX1_countEvents) := goodIn_app (goodIn_of _ (by decide +kernel)) ggX7_events_X1_countEvents
set_option maxRecDepth 20000 in
theorem ggX7_event_X1_tellEvent : GoodIn wsX7_event wsX1_tellEvent := goodIn_r _ [7, 8, 9, 10, 11, 34, 35, 36, 37, 38, 39, 40, 41, 42, 43, 44, 45, 46, 47, 48, 49, 50, 51, 52, 53, 54] rfl (by decide +kernel)
set_option maxRecDepth 20000 in
theorem gX7_event_X1_tellEvent : GoodIn wsX7_event (wsV RX7 93 RX1 yX1_tellEvent wsX1_tellEvent) := goodIn_app (goodIn_of _ (by decide +kernel)) ggX7_event_X1_tellEvent
set_option maxRecDepth 20000 in
theorem ggX7_of_X1_tellCall : GoodIn wsX7_of wsX1_tellCall := goodIn_r _ [7, 8, 9, 10, 11, 12, 13, 14, 15, 16, 17, 18, 19, 20, 21, 22, 23, 24, 25, 26, 27, 50, 51, 52, 53, 54, 55, 56, 57, 58, 59, 60, 61, 62, 63, 64, 65, 66, 67, 68, 69, 70] rfl (by decide +kernel)
set_option maxRecDepth 20000 in
theorem gX7_of_X1_tellCall : GoodIn wsX7_of (wsV RX7 97 RX1 yX1_tellCall wsX1_tellCall) := goodIn_app (goodIn_of _ (by decide +kernel)) ggX7_of_X1_tellCall
set_option maxRecDepth 20000 in
theorem ggX7_conflict_X3_tell : GoodIn wsX7_conflict wsX3_tell := goodIn_r _ [7, 8, 9, 10, 33, 34, 35] rfl (by decide +kernel)
set_option maxRecDepth 20000 in
theorem gX7_conflict_X3_tell : GoodIn wsX7_conflict (wsV RX7 110 RX3 yX3_tell wsX3_tell) := goodIn_app (goodIn_of _ (by decide +kernel)) ggX7_conflict_X3_tell
set_option maxRecDepth 20000 in
theorem ggX7_told_X6_tell : GoodIn wsX7_told wsX6_tell := goodIn_r _ [6, 7, 8, 9, 10, 11, 12, 13, 14, 15, 16, 17, 18, 19, 20, 21, 22, 23, 24, 25, 26, 32, 33, 34, 35, 36, 37, 38, 39, 40, 41, 42, 43, 44, 45, 46, 47, 48, 49, 50, 51, 52, 53, 54, 55, 56, 57, 58, 59, 60, 61, 62, 63, 64, 65, 66, 67, 68, 69] rfl (by decide +kernel)
set_option maxRecDepth 20000 in
theorem gX7_told_X6_tell : GoodIn wsX7_told (wsV RX7 113 RX6 yX6_tell wsX6_tell) := goodIn_app (goodIn_of _ (by decide +kernel)) ggX7_told_X6_tell
set_option maxRecDepth 20000 in
theorem ggX8_doAct_X8_leafOf : GoodIn wsX8_doAct wsX8_leafOf := goodIn_r _ [26, 27] rfl (by decide +kernel)
set_option maxRecDepth 20000 in
theorem gX8_doAct_X8_leafOf : GoodIn wsX8_doAct (va_wsS RX8 166 yX8_leafOf wsX8_leafOf) := goodIn_app (goodIn_of _ (by decide +kernel)) ggX8_doAct_X8_leafOf
set_option maxRecDepth 20000 in
theorem ggX8_doAct_X8_see : GoodIn wsX8_doAct wsX8_see := goodIn_r _ [31, 12, 15, 11, 32, 17, 33, 34, 35, 36, 37, 38, 39, 40, 41, 42, 43, 44, 45, 46, 47, 48, 49, 50, 51, 52, 53, 54, 55, 56, 57, 58, 59, 60, 61, 62, 63, 64, 65, 66, 67, 68, 69, 70, 71, 72, 73, 74, 75, 76, 77, 78, 79, 80, 81, 82, 83, 84, 85, 86, 87, 88, 89, 90, 91, 92, 93, 94, 95, 96, 97] rfl (by decide +kernel)
set_option maxRecDepth 20000 in
theorem gX8_doAct_X8_see : GoodIn wsX8_doAct (wsV RX8 170 RX8 yX8_see wsX8_see) := goodIn_app (goodIn_of _ (by decide +kernel)) ggX8_doAct_X8_see
set_option maxRecDepth 20000 in
theorem ggX8_run_X8_isDone : GoodIn wsX8_run wsX8_isDone := goodIn_r _ [27, 21, 10, 1, 11, 129, 130, 131, 132, 133, 134, 135, 136, 137, 138, 139, 140, 141, 142, 143, 144, 145, 146, 147, 148, 149, 150, 151, 152, 153, 154, 155, 156, 157, 158, 159, 160, 161, 162, 163, 164, 165, 166, 167, 168, 169, 170, 171, 172, 173, 174, 175, 176, 177, 178, 179, 180, 181, 182, 183, 184, 185, 186, 187, 188, 189] rfl (by decide +kernel)
set_option maxRecDepth 20000 in
theorem gX8_run_X8_isDone : GoodIn wsX8_run (wsV RX8 204 RX8 yX8_isDone wsX8_isDone) := goodIn_app (goodIn_of _ (by decide +kernel)) ggX8_run_X8_isDone
set_option maxRecDepth 20000 in
theorem ggX8_run_X8_step : GoodIn wsX8_run wsX8_step := goodIn_r _ [31, 21, 11, 10, 14, 1, 32, 33, 34, 26, 35, 36, 37, 7, 38, 39, 40, 41, 19, 42, 43, 44, 45, 46, 47, 48, 49, 50, 51, 52, 53, 54, 18, 55, 56, 57, 58, 59, 60, 61, 62, 63, 20, 17, 9, 64, 65, 66, 67, 68, 69, 70, 71, 72, 12, 73, 13, 74, 75, 76, 77, 78, 8, 79, 80, 81, 82, 83, 84, 15, 85, 86, 87, 88, 89, 90, 91, 92, 93, 5, 6, 94, 4, 95, 96, 97, 98, 99, 100, 101, 102, 16, 129, 130, 131, 132, 133, 134, 135, 136, 137, 138, 139, 140, 141, 142, 143, 144, 145, 146, 147, 148, 149, 150, 151, 152, 153, 154, 155, 156, 157, 158, 159, 160, 161, 162, 163, 164, 165, 166, 167, 168, 169, 170, 171, 172, 173, 174, 175, 176, 177, 178, 179, 180, 181, 182, 183, 184, 185, 186, 187, 188, 189] rfl (by decide +kernel)
set_option maxRecDepth 20000 in
theorem gX8_run_X8_step : GoodIn wsX8_run (wsV RX8 209 RX8 yX8_step wsX8_step) := goodIn_app (goodIn_of _ (by decide +kernel)) ggX8_run_X8_step
set_option maxRecDepth 20000 in
theorem ggX8_run_X8_allInOrder : GoodIn wsX8_run wsX8_allInOrder := goodIn_r _ [106, 12, 13, 1, 53, 19, 74, 54, 73, 99, 100, 101, 26, 102, 16, 42, 17, 18, 20, 52, 38, 39, 40, 41, 43, 44, 45, 46, 47, 48, 49, 50, 51, 55, 56, 57, 58, 59, 60, 61, 62, 63, 9, 64, 65, 66, 67, 68, 69, 70, 71, 72, 129, 130, 131, 132, 133, 134, 135, 136, 137, 138, 139, 140, 141, 142, 143, 144, 145, 146, 147, 148, 149, 150, 151, 152, 153, 154, 155, 156, 157, 158, 159, 160, 161, 162, 163, 164, 165, 166, 167, 168, 169, 170, 171, 172, 173, 174, 175, 176, 177, 178, 179, 180, 181, 182, 183, 184, 185, 186, 187, 188, 189] rfl (by decide +kernel)
set_option maxRecDepth 20000 in
theorem gX8_run_X8_allInOrder : GoodIn wsX8_run (wsV RX8 213 RX8 yX8_allInOrder wsX8_allInOrder) := goodIn_app (goodIn_of _ (by decide +kernel)) ggX8_run_X8_allInOrder
set_option maxRecDepth 20000 in
theorem ggX8_run_X8_settle : GoodIn wsX8_run wsX8_settle := goodIn_r _ [110, 111, 2, 12, 72, 74, 20, 19, 112, 63, 113, 53, 114, 115, 18, 116, 117, 17, 118, 16, 119, 120, 121, 122, 123, 26, 124, 55, 125, 126, 127, 128, 129, 130, 131, 132, 133, 134, 135, 136, 137, 138, 139, 140, 141, 142, 143, 144, 145, 146, 147, 148, 149, 150, 151, 152, 153, 154, 155, 156, 157, 158, 159, 160, 161, 162, 163, 164, 165, 166, 167, 168, 169, 170, 171, 172, 173, 174, 175, 176, 177, 178, 179, 180, 181, 182, 183, 184, 185, 186, 187, 188, 189] rfl (by decide +kernel)
set_option maxRecDepth 20000 in
theorem gX8_run_X8_settle : GoodIn wsX8_run (wsV RX8 216 RX8 yX8_settle wsX8_settle) := goodIn_app (goodIn_of _ (by decide +kernel)) ggX8_run_X8_settle
set_option maxRecDepth 20000 in
theorem ggX8_step_X8_runStep : GoodIn wsX8_step wsX8_runStep := goodIn_r _ [10, 11, 4, 12, 1, 13, 14, 15, 16, 9, 17, 18, 19, 20, 21, 22, 23, 24, 25, 26, 27, 28, 29, 30, 31, 32, 33, 34, 35, 36, 37, 38, 39, 40, 41, 42, 43, 44, 45, 46, 47, 48, 49, 50, 51, 52, 53, 54, 55, 56, 57, 58, 59, 60, 61, 62, 63, 64, 65, 66, 67, 68, 69, 5, 3, 2, 70, 71, 72, 73, 74, 92, 93, 94, 95, 96, 97, 98, 99, 100, 101, 102, 103, 104, 105, 106, 107, 108, 109, 110, 111, 112, 113, 114, 115, 116, 117, 118, 119, 120, 121, 122, 123, 124, 125, 126, 127, 128, 129, 130, 131, 132, 133, 134, 135, 136, 137, 138, 139, 140, 141, 142, 143, 144, 145, 146, 147, 148, 149, 150, 151, 152] rfl (by decide +kernel)
set_option maxRecDepth 20000 in
theorem gX8_step_X8_runStep : GoodIn wsX8_step (wsV RX8 219 RX8 yX8_runStep wsX8_runStep) := goodIn_app (goodIn_of _ (by decide +kernel)) ggX8_step_X8_runStep
set_option maxRecDepth 20000 in
theorem ggX8_step_X8_lookStep : GoodIn wsX8_step wsX8_lookStep := goodIn_r _ [78, 11, 1, 79, 4, 69, 74, 32, 33, 34, 35, 36, 38, 37, 80, 56, 54, 81, 82, 2, 3, 49, 50, 51, 9, 52, 53, 40, 55, 57, 58, 59, 60, 61, 62, 63, 64, 83, 84, 85, 86, 87, 88, 89, 90, 91, 19, 43, 18, 42, 29, 30, 92, 93, 94, 95, 96, 97, 98, 99, 100, 101, 102, 103, 104, 105, 106, 107, 108, 109, 110, 111, 112, 113, 114, 115, 116, 117, 118, 119, 120, 121, 122, 123, 124, 125, 126, 127, 128, 129, 130, 131, 132, 133, 134, 135, 136, 137, 138, 139, 140, 141, 142, 143, 144, 145, 146, 147, 148, 149, 150, 151, 152] rfl (by decide +kernel)
set_option maxRecDepth 20000 in
theorem gX8_step_X8_lookStep : GoodIn wsX8_step (wsV RX8 222 RX8 yX8_lookStep wsX8_lookStep) := goodIn_app (goodIn_of _ (by decide +kernel)) ggX8_step_X8_lookStep
set_option maxRecDepth 20000 in
theorem ggX8_step_X8_toLook : GoodIn wsX8_step wsX8_toLook := goodIn_r _ [73, 1, 11, 74, 69, 92, 93, 94, 95, 96, 97, 98, 99, 100, 101, 102, 103, 104, 105, 106, 107, 108, 109, 110, 111, 112, 113, 114, 115, 116, 117, 118, 119, 120, 121, 122, 123, 124, 125, 126, 127, 128, 129, 130, 131, 132, 133, 134, 135, 136, 137, 138, 139, 140, 141, 142, 143, 144, 145, 146, 147, 148, 149, 150, 151, 152] rfl (by decide +kernel)
set_option maxRecDepth 20000 in
theorem gX8_step_X8_toLook : GoodIn wsX8_step (wsV RX8 225 RX8 yX8_toLook wsX8_toLook) := goodIn_app (goodIn_of _ (by decide +kernel)) ggX8_step_X8_toLook
set_option maxRecDepth 20000 in
theorem ggX8_step_X8_toRun : GoodIn wsX8_step wsX8_toRun := goodIn_r _ [86, 4, 1, 11, 87, 88, 89, 9, 90, 91, 19, 43, 18, 32, 42, 29, 30, 92, 93, 94, 95, 96, 97, 98, 99, 100, 101, 102, 103, 104, 105, 106, 107, 108, 109, 110, 111, 112, 113, 114, 115, 116, 117, 118, 119, 120, 121, 122, 123, 124, 125, 126, 127, 128, 129, 130, 131, 132, 133, 134, 135, 136, 137, 138, 139, 140, 141, 142, 143, 144, 145, 146, 147, 148, 149, 150, 151, 152] rfl (by decide +kernel)
set_option maxRecDepth 20000 in
theorem gX8_step_X8_toRun : GoodIn wsX8_step (wsV RX8 228 RX8 yX8_toRun wsX8_toRun) := goodIn_app (goodIn_of _ (by decide +kernel)) ggX8_step_X8_toRun
set_option maxRecDepth 20000 in
theorem ggX8_toRun_X8_begin : GoodIn wsX8_toRun wsX8_begin := goodIn_r _ [8, 9, 10, 11, 12, 13, 14, 15, 16, 17, 18, 19, 20, 21, 22, 23, 24, 25, 26, 27, 28, 29, 30, 31, 32, 33, 34, 35, 36, 37, 38, 39, 40, 41, 42, 43, 44, 45, 46, 47, 48, 49, 50, 51, 52, 53, 54, 55, 56, 57, 58, 59, 60, 61, 62, 63, 64, 65, 66, 67, 68, 69, 70, 71, 72, 73, 74, 75, 76, 77] rfl (by decide +kernel)
set_option maxRecDepth 20000 in
theorem gX8_toRun_X8_begin : GoodIn wsX8_toRun (wsV RX8 231 RX8 yX8_begin wsX8_begin) := goodIn_app (goodIn_of _ (by decide +kernel)) ggX8_toRun_X8_begin
set_option maxRecDepth 20000 in
theorem ggX8_runStep_X8_isOver : GoodIn wsX8_runStep wsX8_isOver := goodIn_r _ [10, 11, 12, 13, 71, 72, 73, 74, 75, 76, 77, 78, 79, 80, 81, 82, 83, 84, 85, 86, 87, 88, 89, 90, 91, 92, 93, 94, 95, 96, 97, 98, 99, 100, 101, 102, 103, 104, 105, 106, 107, 108, 109, 110, 111, 112, 113, 114, 115, 116, 117, 118, 119, 120, 121, 122, 123, 124, 125, 126, 127, 128, 129, 130, 131] rfl (by decide +kernel)
set_option maxRecDepth 20000 in
theorem gX8_runStep_X8_isOver : GoodIn wsX8_runStep (wsV RX8 234 RX8 yX8_isOver wsX8_isOver) := goodIn_app (goodIn_of _ (by decide +kernel)) ggX8_runStep_X8_isOver
set_option maxRecDepth 20000 in
theorem ggX8_runStep_X8_doAct : GoodIn wsX8_runStep wsX8_doAct := goodIn_r _ [17, 12, 18, 19, 20, 21, 22, 23, 24, 25, 26, 27, 28, 29, 30, 31, 32, 33, 34, 35, 11, 36, 37, 38, 39, 9, 40, 41, 42, 43, 44, 45, 46, 47, 48, 49, 50, 71, 72, 73, 74, 75, 76, 77, 78, 79, 80, 81, 82, 83, 84, 85, 86, 87, 88, 89, 90, 91, 92, 93, 94, 95, 96, 97, 98, 99, 100, 101, 102, 103, 104, 105, 106, 107, 108, 109, 110, 111, 112, 113, 114, 115, 116, 117, 118, 119, 120, 121, 122, 123, 124, 125, 126, 127, 128, 129, 130, 131] rfl (by decide +kernel)
set_option maxRecDepth 20000 in
theorem gX8_runStep_X8_doAct : GoodIn wsX8_runStep (wsV RX8 237 RX8 yX8_doAct wsX8_doAct) := goodIn_app (goodIn_of _ (by decide +kernel)) ggX8_runStep_X8_doAct
set_option maxRecDepth 20000 in
theorem ggX8_runStep_X8_conflict0 : GoodIn wsX8_runStep wsX8_conflict0 := goodIn_r _ [54, 55, 56, 57, 71, 72, 73, 74, 75, 76, 77, 78, 79, 80, 81, 82, 83, 84, 85, 86, 87, 88, 89, 90, 91, 92, 93, 94, 95, 96, 97, 98, 99, 100, 101, 102, 103, 104, 105, 106, 107, 108, 109, 110, 111, 112, 113, 114, 115, 116, 117, 118, 119, 120, 121, 122, 123, 124, 125, 126, 127, 128, 129, 130, 131] rfl (by decide +kernel)
set_option maxRecDepth 20000 in
theorem gX8_runStep_X8_conflict0 : GoodIn wsX8_runStep (wsV RX8 241 RX8 yX8_conflict0 wsX8_conflict0) := goodIn_app (goodIn_of _ (by decide +kernel)) ggX8_runStep_X8_conflict0
set_option maxRecDepth 20000 in
theorem ggX8_runStep_X8_ends : GoodIn wsX8_runStep wsX8_ends := goodIn_r _ [61, 23, 11, 47, 49, 50, 24, 48, 62, 2, 63, 3, 64, 65, 66, 67, 68, 9, 69, 4, 1, 70, 71, 72, 73, 74, 75, 76, 77, 78, 79, 80, 81, 82, 83, 84, 85, 86, 87, 88, 89, 90, 91, 92, 93, 94, 95, 96, 97, 98, 99, 100, 101, 102, 103, 104, 105, 106, 107, 108, 109, 110, 111, 112, 113, 114, 115, 116, 117, 118, 119, 120, 121, 122, 123, 124, 125, 126, 127, 128, 129, 130, 131] rfl (by decide +kernel)
set_option maxRecDepth 20000 in
theorem gX8_runStep_X8_ends : GoodIn wsX8_runStep (wsV RX8 244 RX8 yX8_ends wsX8_ends) := goodIn_app (goodIn_of _ (by decide +kernel)) ggX8_runStep_X8_ends
set_option maxRecDepth 20000 in
theorem ggX8_ends_X8_toLook : GoodIn wsX8_ends wsX8_toLook := goodIn_r _ [18, 19, 20, 21, 8, 22, 23, 24, 25, 26, 27, 28, 29, 30, 31, 32, 33, 34, 35, 36, 37, 38, 39, 40, 41, 42, 43, 44, 45, 46, 47, 48, 49, 50, 51, 52, 53, 54, 55, 56, 57, 58, 59, 60, 61, 62, 63, 64, 65, 66, 67, 68, 69, 70, 71, 72, 73, 74, 75, 76, 77, 78, 79, 80, 81, 82] rfl (by decide +kernel)
set_option maxRecDepth 20000 in
theorem gX8_ends_X8_toLook : GoodIn wsX8_ends (wsV RX8 225 RX8 yX8_toLook wsX8_toLook) := goodIn_app (goodIn_of _ (by decide +kernel)) ggX8_ends_X8_toLook
set_option maxRecDepth 20000 in
theorem ggX8_lookStep_X8_see : GoodIn wsX8_lookStep wsX8_see := goodIn_r _ [25, 10, 12, 9, 26, 27, 16, 28, 15, 29, 52, 53, 54, 55, 56, 57, 58, 59, 60, 61, 62, 63, 64, 65, 66, 67, 68, 69, 70, 71, 72, 73, 74, 75, 76, 77, 78, 79, 80, 81, 82, 83, 84, 85, 86, 87, 88, 89, 90, 91, 92, 93, 94, 95, 96, 97, 98, 99, 100, 101, 102, 103, 104, 105, 106, 107, 108, 109, 110, 111, 112] rfl (by decide +kernel)
set_option maxRecDepth 20000 in
theorem gX8_lookStep_X8_see : GoodIn wsX8_lookStep (wsV RX8 170 RX8 yX8_see wsX8_see) := goodIn_app (goodIn_of _ (by decide +kernel)) ggX8_lookStep_X8_see
set_option maxRecDepth 20000 in
theorem ggX8_lookStep_X8_conflict0 : GoodIn wsX8_lookStep wsX8_conflict0 := goodIn_r _ [33, 34, 35, 36, 52, 53, 54, 55, 56, 57, 58, 59, 60, 61, 62, 63, 64, 65, 66, 67, 68, 69, 70, 71, 72, 73, 74, 75, 76, 77, 78, 79, 80, 81, 82, 83, 84, 85, 86, 87, 88, 89, 90, 91, 92, 93, 94, 95, 96, 97, 98, 99, 100, 101, 102, 103, 104, 105, 106, 107, 108, 109, 110, 111, 112] rfl (by decide +kernel)
set_option maxRecDepth 20000 in
theorem gX8_lookStep_X8_conflict0 : GoodIn wsX8_lookStep (wsV RX8 241 RX8 yX8_conflict0 wsX8_conflict0) := goodIn_app (goodIn_of _ (by decide +kernel)) ggX8_lookStep_X8_conflict0
set_option maxRecDepth 20000 in
theorem ggX8_lookStep_X8_toRun : GoodIn wsX8_lookStep wsX8_toRun := goodIn_r _ [40, 4, 2, 1, 41, 42, 43, 24, 44, 45, 46, 47, 48, 7, 49, 50, 51, 52, 53, 54, 55, 56, 57, 58, 59, 60, 61, 62, 63, 64, 65, 66, 67, 68, 69, 70, 71, 72, 73, 74, 75, 76, 77, 78, 79, 80, 81, 82, 83, 84, 85, 86, 87, 88, 89, 90, 91, 92, 93, 94, 95, 96, 97, 98, 99, 100, 101, 102, 103, 104, 105, 106, 107, 108, 109, 110, 111, 112] rfl (by decide +kernel)
set_option maxRecDepth 20000 in
theorem gX8_lookStep_X8_toRun : GoodIn wsX8_lookStep (wsV RX8 228 RX8 yX8_toRun wsX8_toRun) := goodIn_app (goodIn_of _ (by decide +kernel)) ggX8_lookStep_X8_toRun
set_option maxRecDepth 20000 in
theorem ggX8_allInOrder_X8_begin : GoodIn wsX8_allInOrder wsX8_begin := goodIn_r _ [13, 14, 15, 16, 5, 17, 18, 19, 4, 52, 53, 54, 55, 56, 57, 58, 59, 60, 61, 62, 63, 64, 65, 66, 67, 68, 69, 70, 71, 72, 73, 74, 75, 76, 77, 78, 79, 80, 81, 82, 83, 84, 85, 86, 87, 88, 89, 90, 91, 92, 93, 94, 95, 96, 97, 98, 99, 100, 101, 102, 103, 104, 105, 106, 107, 108, 109, 110, 111, 112] rfl (by decide +kernel)
set_option maxRecDepth 20000 in
theorem gX8_allInOrder_X8_begin : GoodIn wsX8_allInOrder (wsV RX8 231 RX8 yX8_begin wsX8_begin) := goodIn_app (goodIn_of _ (by decide +kernel)) ggX8_allInOrder_X8_begin
set_option maxRecDepth 20000 in
theorem ggX8_allInOrder_X8_isOver : GoodIn wsX8_allInOrder wsX8_isOver := goodIn_r _ [23, 5, 15, 24, 52, 53, 54, 55, 56, 57, 58, 59, 60, 61, 62, 63, 64, 65, 66, 67, 68, 69, 70, 71, 72, 73, 74, 75, 76, 77, 78, 79, 80, 81, 82, 83, 84, 85, 86, 87, 88, 89, 90, 91, 92, 93, 94, 95, 96, 97, 98, 99, 100, 101, 102, 103, 104, 105, 106, 107, 108, 109, 110, 111, 112] rfl (by decide +kernel)
set_option maxRecDepth 20000 in
theorem gX8_allInOrder_X8_isOver : GoodIn wsX8_allInOrder (wsV RX8 234 RX8 yX8_isOver wsX8_isOver) := goodIn_app (goodIn_of _ (by decide +kernel)) ggX8_allInOrder_X8_isOver
set_option maxRecDepth 20000 in
theorem ggX8_allInOrder_X8_doAct : GoodIn wsX8_allInOrder wsX8_doAct := goodIn_r _ [28, 15, 29, 30, 31, 32, 19, 4, 7, 17, 33, 34, 35, 36, 37, 38, 39, 40, 41, 18, 5, 16, 42, 43, 44, 12, 45, 46, 47, 48, 49, 50, 51, 1, 8, 2, 6, 52, 53, 54, 55, 56, 57, 58, 59, 60, 61, 62, 63, 64, 65, 66, 67, 68, 69, 70, 71, 72, 73, 74, 75, 76, 77, 78, 79, 80, 81, 82, 83, 84, 85, 86, 87, 88, 89, 90, 91, 92, 93, 94, 95, 96, 97, 98, 99, 100, 101, 102, 103, 104, 105, 106, 107, 108, 109, 110, 111, 112] rfl (by decide +kernel)
set_option maxRecDepth 20000 in
theorem gX8_allInOrder_X8_doAct : GoodIn wsX8_allInOrder (wsV RX8 237 RX8 yX8_doAct wsX8_doAct) := goodIn_app (goodIn_of _ (by decide +kernel)) ggX8_allInOrder_X8_doAct
