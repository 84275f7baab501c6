set_option maxRecDepth 20000 in
theorem ggX5_valueAfter_X5_valueOf : GoodIn wsX5_valueAfter wsX5_valueOf := goodIn_r _ [10, 11, 12, 13, 14, 15, 16] rfl (by decide +kernel)
set_option maxRecDepth 20000 in
theorem gX5_valueAfter_X5_valueOf : GoodIn wsX5_valueAfter (wsV RX5 41 RX5 yX5_valueOf wsX5_valueOf) := goodIn_app (goodIn_of _ (by decide +kernel)) ggX5_valueAfter_X5_valueOf
set_option maxRecDepth 20000 in
theorem ggX5_publish_X0_hasWritten : GoodIn wsX5_publish wsX0_hasWritten := goodIn_r _ [10, 11, 12, 13, 14, 15, 16, 17, 18, 19, 20, 21, 22, 23, 24, 25, 26, 27, 28, 29] rfl (by decide +kernel)
set_option maxRecDepth 20000 in
theorem gX5_publish_X0_hasWritten : GoodIn wsX5_publish (wsV RX5 51 RX0 yX0_hasWritten wsX0_hasWritten) := goodIn_app (goodIn_of _ (by decide +kernel)) ggX5_publish_X0_hasWritten
set_option maxRecDepth 20000 in
theorem ggX6_open_X1_open : GoodIn wsX6_open wsX1_open := goodIn_r _ [21, 22, 23, 24, 25, 26, 27, 28, 29, 30, 31, 32, 33, 34, 35, 36, 37, 38, 39, 40, 41, 42, 43, 44, 45, 46, 47, 69, 70, 71, 72, 73, 74, 75, 76, 77, 78, 79, 80, 81, 82, 83, 84, 85, 86, 87, 88, 89, 90, 91, 92, 93, 94, 95, 96, 97, 98, 99] rfl (by decide +kernel)
set_option maxRecDepth 20000 in
theorem gX6_open_X1_open : GoodIn wsX6_open (wsV RX6 44 RX1 yX1_open wsX1_open) := goodIn_app (goodIn_of _ (by decide +kernel)) ggX6_open_X1_open
set_option maxRecDepth 20000 in
theorem ggX6_open_J7_fill_53178 : GoodIn wsX6_open wsJ7_fill_53178 := goodIn_r _ [40] rfl (by decide +kernel)
set_option maxRecDepth 20000 in
theorem gX6_open_J7_fill_53178 : GoodIn wsX6_open (va_wsS RX6 80 yJ7_fill_53178 wsJ7_fill_53178) := goodIn_app (goodIn_of _ (by decide +kernel)) ggX6_open_J7_fill_53178
set_option maxRecDepth 20000 in
theorem ggX6_work_X6_isDone : GoodIn wsX6_work wsX6_isDone := goodIn_r _ [11, 12, 6, 13, 14, 3, 15, 226, 227, 228, 229, 230, 231, 232, 233, 234, 235, 236, 237, 238, 239, 240, 241, 242, 243, 244, 245] rfl (by decide +kernel)
set_option maxRecDepth 20000 in
theorem gX6_work_X6_isDone : GoodIn wsX6_work (wsV RX6 87 RX6 yX6_isDone wsX6_isDone) := goodIn_app (goodIn_of _ (by decide +kernel)) ggX6_work_X6_isDone
set_option maxRecDepth 20000 in
theorem ggX6_work_X6_step : GoodIn wsX6_work wsX6_step := goodIn_r _ [19, 15, 20, 21, 22, 10, 23, 24, 6, 25, 26, 27, 28, 29, 30, 31, 32, 33, 34, 35, 36, 37, 38, 39, 40, 41, 42, 43, 44, 45, 46, 47, 48, 49, 50, 51, 52, 53, 54, 55, 56, 57, 58, 59, 60, 61, 62, 63, 64, 65, 66, 67, 68, 69, 70, 71, 72, 73, 74, 75, 76, 77, 78, 79, 80, 81, 82, 83, 84, 85, 86, 87, 88, 89, 90, 91, 92, 93, 94, 95, 96, 97, 98, 99, 100, 101, 102, 103, 104, 105, 106, 107, 108, 109, 110, 111, 112, 113, 114, 115, 116, 117, 118, 119, 120, 121, 122, 123, 124, 125, 126, 127, 128, 129, 130, 131, 132, 133, 134, 135, 136, 137, 138, 14, 139, 140, 141, 142, 143, 144, 145, 146, 147, 148, 149, 13, 12, 150, 151, 152, 153, 154, 155, 156, 157, 158, 159, 160, 161, 162, 163, 4, 164, 165, 166, 167, 168, 169, 170, 171, 172, 173, 174, 175, 176, 177, 178, 179, 180, 181, 182, 183, 184, 185, 186, 187, 188, 189, 190, 191, 192, 193, 194, 195, 226, 227, 228, 229, 230, 231, 232, 233, 234, 235, 236, 237, 238, 239, 240, 241, 242, 243, 244, 245, 246, 247, 248, 249, 250, 251, 252, 253, 254, 255, 256, 257, 258, 259, 260, 261, 262, 263, 264, 265, 266, 267, 268, 269, 270, 271, 272, 273, 274, 275, 276] rfl (by decide +kernel)
set_option maxRecDepth 20000 in
theorem gX6_work_X6_step : GoodIn wsX6_work (wsV RX6 92 RX6 yX6_step wsX6_step) := goodIn_app (goodIn_of _ (by decide +kernel)) ggX6_work_X6_step
set_option maxRecDepth 20000 in
theorem ggX6_work_X1_runOneByOne : GoodIn wsX6_work wsX1_runOneByOne := goodIn_r _ [200, 201, 202, 203, 204, 184, 185, 30, 186, 187, 33, 38, 44, 95, 63, 69, 111, 56, 188, 189, 190, 191, 205, 41, 42, 43, 32, 45, 46, 47, 48, 49, 50, 51, 206, 28, 29, 31, 34, 35, 36, 37, 39, 40, 52, 53, 54, 55, 57, 58, 59, 60, 61, 62, 64, 65, 66, 67, 68, 70, 71, 72, 73, 74, 75, 76, 77, 78, 79, 80, 81, 82, 83, 84, 85, 86, 87, 88, 89, 90, 91, 92, 93, 94, 96, 97, 98, 99, 100, 101, 102, 103, 104, 105, 106, 107, 108, 109, 110, 112, 113, 114, 115, 116, 207, 140, 141, 142, 143, 144, 145, 243, 244, 245, 246, 247, 248, 249, 250, 251, 252, 253, 254, 255, 256, 257, 258, 259, 260, 261, 262, 263, 264, 265, 266, 267, 268, 269, 270, 271, 272, 273] rfl (by decide +kernel)
set_option maxRecDepth 20000 in
theorem gX6_work_X1_runOneByOne : GoodIn wsX6_work (wsV RX6 96 RX1 yX1_runOneByOne wsX1_runOneByOne) := goodIn_app (goodIn_of _ (by decide +kernel)) ggX6_work_X1_runOneByOne
set_option maxRecDepth 20000 in
theorem ggX6_work_X1_formGroups : GoodIn wsX6_work wsX1_formGroups := goodIn_r _ [211, 201, 202, 212, 213, 214, 215, 199, 216, 217, 218, 219, 30, 220, 63, 69, 221, 222, 223, 224, 225, 151, 152, 153, 243, 244, 245, 246, 247, 248, 249, 250, 251, 252, 253, 254, 255, 256, 257, 258, 259, 260, 261, 262, 263] rfl (by decide +kernel)
set_option maxRecDepth 20000 in
theorem gX6_work_X1_formGroups : GoodIn wsX6_work (wsV RX6 100 RX1 yX1_formGroups wsX1_formGroups) := goodIn_app (goodIn_of _ (by decide +kernel)) ggX6_work_X1_formGroups
set_option maxRecDepth 20000 in
theorem ggX6_step_X6_goOn : GoodIn wsX6_step wsX6_goOn := goodIn_r _ [6, 7, 8, 9, 10, 11, 12, 13, 14, 15, 16, 17, 18, 19, 20, 21, 22, 23, 24, 25, 26, 27, 28, 29, 30, 31, 32, 33, 34, 35, 36, 37, 38, 39, 40, 41, 42, 43, 44, 45, 46, 47, 48, 49, 50, 51, 52, 53, 54, 55, 56, 57, 58, 59, 60, 61, 62, 63, 64, 65, 66, 67, 68, 69, 70, 71, 72, 73, 74, 75, 76, 77, 78, 79, 80, 81, 82, 83, 84, 85, 86, 87, 88, 89, 90, 91, 92, 93, 94, 95, 96, 97, 98, 99, 100, 101, 102, 103, 5, 104, 1, 105, 106, 107, 108, 109, 110, 111, 112, 113, 114, 115, 116, 117, 118, 119, 120, 121, 122, 123, 124, 125, 126, 127, 128, 129, 130, 131, 132, 133, 134, 135, 136, 137, 138, 139, 140, 141, 142, 143, 144, 145, 184, 185, 186, 187, 188, 189, 190, 191, 192, 193, 194, 195, 196, 197, 198, 199, 200, 201, 202, 203, 204, 205, 206, 207, 208, 209, 210, 211, 212, 213, 214, 215, 216, 217, 218, 219, 220, 221, 222, 223, 224, 225, 226, 227, 228, 229, 230, 231, 232, 233, 234] rfl (by decide +kernel)
set_option maxRecDepth 20000 in
theorem gX6_step_X6_goOn : GoodIn wsX6_step (wsV RX6 106 RX6 yX6_goOn wsX6_goOn) := goodIn_app (goodIn_of _ (by decide +kernel)) ggX6_step_X6_goOn
set_option maxRecDepth 20000 in
theorem ggX6_step_X6_look : GoodIn wsX6_step wsX6_look := goodIn_r _ [149, 7, 1, 150, 105, 122, 145, 8, 9, 10, 108, 151, 136, 152, 153, 154, 14, 155, 79, 80, 16, 81, 82, 54, 55, 56, 57, 58, 59, 60, 61, 62, 63, 64, 65, 66, 67, 68, 156, 109, 110, 111, 112, 113, 114, 115, 116, 157, 158, 159, 5, 160, 161, 123, 137, 138, 139, 140, 162, 163, 164, 165, 166, 167, 168, 169, 170, 171, 172, 173, 174, 175, 17, 22, 28, 47, 53, 95, 40, 176, 177, 178, 179, 184, 185, 186, 187, 188, 189, 190, 191, 192, 193, 194, 195, 196, 197, 198, 199, 200, 201, 202, 203, 204, 205, 206, 207, 208, 209, 210, 211, 212, 213, 214, 215, 216, 217, 218, 219, 220, 221, 228, 229, 230, 231, 232, 233, 234] rfl (by decide +kernel)
set_option maxRecDepth 20000 in
theorem gX6_step_X6_look : GoodIn wsX6_step (wsV RX6 109 RX6 yX6_look wsX6_look) := goodIn_app (goodIn_of _ (by decide +kernel)) ggX6_step_X6_look
set_option maxRecDepth 20000 in
theorem ggX6_step_X6_takeTask : GoodIn wsX6_step wsX6_takeTask := goodIn_r _ [183, 123, 136, 105, 8, 135, 141, 142, 143, 5, 144, 1, 7, 145, 122, 167, 168, 169, 170, 9, 171, 172, 173, 14, 174, 175, 17, 22, 28, 79, 47, 53, 95, 40, 176, 177, 178, 179, 184, 185, 186, 187, 188, 189, 190, 191, 192, 193, 194, 195, 196, 197, 198, 199, 200, 201, 202, 203, 204, 205, 206, 207, 208, 209, 210, 211, 212, 213, 214, 215, 216, 217, 218, 219, 220, 221] rfl (by decide +kernel)
set_option maxRecDepth 20000 in
theorem gX6_step_X6_takeTask : GoodIn wsX6_step (wsV RX6 113 RX6 yX6_takeTask wsX6_takeTask) := goodIn_app (goodIn_of _ (by decide +kernel)) ggX6_step_X6_takeTask
set_option maxRecDepth 20000 in
theorem ggX6_takeTask_X6_giveLook : GoodIn wsX6_takeTask wsX6_giveLook := goodIn_r _ [10, 11, 12, 13, 14, 38, 39, 40, 41, 42, 43, 44, 45, 46, 47, 48, 49, 50, 51, 52, 53, 54] rfl (by decide +kernel)
set_option maxRecDepth 20000 in
theorem gX6_takeTask_X6_giveLook : GoodIn wsX6_takeTask (wsV RX6 116 RX6 yX6_giveLook wsX6_giveLook) := goodIn_app (goodIn_of _ (by decide +kernel)) ggX6_takeTask_X6_giveLook
set_option maxRecDepth 20000 in
theorem ggX6_takeTask_X6_giveRun : GoodIn wsX6_takeTask wsX6_giveRun := goodIn_r _ [18, 11, 12, 3, 4, 19, 20, 21, 22, 23, 24, 25, 26, 27, 28, 29, 30, 31, 32, 33, 34, 35, 36, 37, 38, 39, 40, 41, 42, 43, 44, 45, 46, 47, 48, 49, 50, 51, 52, 53, 54, 55, 56, 57, 58, 59, 60, 61, 62, 63, 64, 65, 66, 67, 68, 69, 70, 71, 72, 73, 74, 75] rfl (by decide +kernel)
set_option maxRecDepth 20000 in
theorem gX6_takeTask_X6_giveRun : GoodIn wsX6_takeTask (wsV RX6 120 RX6 yX6_giveRun wsX6_giveRun) := goodIn_app (goodIn_of _ (by decide +kernel)) ggX6_takeTask_X6_giveRun
set_option maxRecDepth 20000 in
theorem ggX6_giveRun_X0_begin : GoodIn wsX6_giveRun wsX0_begin := goodIn_r _ [10, 11, 12, 13, 14, 15, 16, 17, 18, 19, 20, 21, 22, 23, 44, 45, 46, 47, 48, 49, 50, 51, 52, 53, 54, 55, 56, 57, 58, 59, 60, 61] rfl (by decide +kernel)
set_option maxRecDepth 20000 in
theorem gX6_giveRun_X0_begin : GoodIn wsX6_giveRun (wsV RX6 127 RX0 yX0_begin wsX0_begin) := goodIn_app (goodIn_of _ (by decide +kernel)) ggX6_giveRun_X0_begin
set_option maxRecDepth 20000 in
theorem ggX6_goOn_X0_doNext : GoodIn wsX6_goOn wsX0_doNext := goodIn_r _ [9, 10, 11, 12, 13, 14, 15, 16, 17, 18, 19, 20, 8, 21, 22, 23, 24, 25, 26, 27, 28, 29, 30, 31, 32, 33, 34, 35, 36, 37, 38, 39, 40, 41, 42, 43, 44, 45, 46, 47, 48, 49, 50, 51, 52, 53, 54, 55, 56, 57, 58, 59, 60, 61, 62, 63, 64, 65, 66, 67, 68, 69, 70, 71, 72, 73, 74, 75, 76, 77, 78, 79, 80, 81, 82, 83, 84, 85, 86, 87, 88, 89, 90, 91, 92, 93, 94, 162, 163, 164, 165, 166, 167, 168, 169, 170, 171, 172, 173, 174, 175, 176, 177, 178, 179, 180, 181, 182, 183, 184, 185, 186, 187, 188, 189] rfl (by decide +kernel)
set_option maxRecDepth 20000 in
theorem gX6_goOn_X0_doNext : GoodIn wsX6_goOn (wsV RX6 136 RX0 yX0_doNext wsX0_doNext) := goodIn_app (goodIn_of _ (by decide +kernel)) ggX6_goOn_X0_doNext
set_option maxRecDepth 20000 in
theorem ggX6_goOn_X6_giveUp : GoodIn wsX6_goOn wsX6_giveUp := goodIn_r _ [99, 100, 101, 102, 103, 104, 105, 106, 107, 108, 109, 110, 111, 112, 142, 143, 144, 145, 146, 147, 148, 149, 150, 151, 152, 153, 154, 155, 156, 157, 158, 190, 191, 192] rfl (by decide +kernel)
set_option maxRecDepth 20000 in
theorem gX6_goOn_X6_giveUp : GoodIn wsX6_goOn (wsV RX6 140 RX6 yX6_giveUp wsX6_giveUp) := goodIn_app (goodIn_of _ (by decide +kernel)) ggX6_goOn_X6_giveUp
set_option maxRecDepth 20000 in
theorem ggX6_goOn_X0_isOver : GoodIn wsX6_goOn wsX0_isOver := goodIn_r _ [21, 22, 10, 11, 23, 24, 25, 26, 27, 28, 29, 162, 163, 164, 165, 166, 167, 168, 169, 170, 171, 172, 173, 174, 175, 176, 177, 178, 179, 180, 181, 182, 183, 184, 185] rfl (by decide +kernel)
set_option maxRecDepth 20000 in
theorem gX6_goOn_X0_isOver : GoodIn wsX6_goOn (wsV RX6 144 RX0 yX0_isOver wsX0_isOver) := goodIn_app (goodIn_of _ (by decide +kernel)) ggX6_goOn_X0_isOver
set_option maxRecDepth 20000 in
theorem ggX6_goOn_X6_end : GoodIn wsX6_goOn wsX6_end := goodIn_r _ [117, 100, 2, 4, 3, 118, 101, 119, 120, 121, 122, 51, 123, 124, 53, 62, 68, 125, 126, 44, 45, 8, 46, 47, 127, 128, 129, 98, 130, 131, 102, 132, 133, 134, 135, 136, 137, 138, 139, 140, 1, 141, 142, 143, 144, 145, 146, 147, 148, 149, 150, 151, 152, 153, 154, 155, 156, 157, 158, 159, 160, 161, 162, 163, 164, 165, 166, 167, 168, 169, 170, 171, 172, 173, 174, 175, 176, 177, 178, 179, 186, 187, 188, 189] rfl (by decide +kernel)
set_option maxRecDepth 20000 in
theorem gX6_goOn_X6_end : GoodIn wsX6_goOn (wsV RX6 148 RX6 yX6_end wsX6_end) := goodIn_app (goodIn_of _ (by decide +kernel)) ggX6_goOn_X6_end
set_option maxRecDepth 20000 in
theorem ggX6_giveUp_X3_note : GoodIn wsX6_giveUp wsX3_note := goodIn_r _ [10, 11, 12, 13, 31, 32, 33] rfl (by decide +kernel)
set_option maxRecDepth 20000 in
theorem gX6_giveUp_X3_note : GoodIn wsX6_giveUp (wsV RX6 151 RX3 yX3_note wsX3_note) := goodIn_app (goodIn_of _ (by decide +kernel)) ggX6_giveUp_X3_note
set_option maxRecDepth 20000 in
theorem ggX6_end_X5_publish : GoodIn wsX6_end wsX5_publish := goodIn_r _ [12, 13, 14, 15, 16, 17, 18, 19, 20, 21, 22, 23, 62, 63, 64, 65, 66, 67, 68, 69, 70, 71, 72, 73, 74, 75, 76, 77, 78, 79, 80, 81, 82, 83] rfl (by decide +kernel)
set_option maxRecDepth 20000 in
theorem gX6_end_X5_publish : GoodIn wsX6_end (wsV RX6 154 RX5 yX5_publish wsX5_publish) := goodIn_app (goodIn_of _ (by decide +kernel)) ggX6_end_X5_publish
set_option maxRecDepth 20000 in
theorem ggX6_end_X6_wakeThoseWaitingFor : GoodIn wsX6_end wsX6_wakeThoseWaitingFor := goodIn_r _ [28, 2, 29, 6, 30, 31, 32, 33, 34, 35, 42, 43, 44, 45, 46, 47, 48, 49, 50, 51, 52, 53, 54, 55, 56, 57, 58, 59, 60, 61] rfl (by decide +kernel)
set_option maxRecDepth 20000 in
theorem gX6_end_X6_wakeThoseWaitingFor : GoodIn wsX6_end (wsV RX6 160 RX6 yX6_wakeThoseWaitingFor wsX6_wakeThoseWaitingFor) := goodIn_app (goodIn_of _ (by decide +kernel)) ggX6_end_X6_wakeThoseWaitingFor
set_option maxRecDepth 20000 in
theorem ggX6_end_X6_giveLook : GoodIn wsX6_end wsX6_giveLook := goodIn_r _ [39, 1, 40, 41, 5, 42, 43, 44, 45, 46, 47, 48, 49, 50, 51, 52, 53, 54, 55, 56, 57, 58] rfl (by decide +kernel)
set_option maxRecDepth 20000 in
theorem gX6_end_X6_giveLook : GoodIn wsX6_end (wsV RX6 116 RX6 yX6_giveLook wsX6_giveLook) := goodIn_app (goodIn_of _ (by decide +kernel)) ggX6_end_X6_giveLook
set_option maxRecDepth 20000 in
theorem ggX6_look_X0_firstChanged : GoodIn wsX6_look wsX0_firstChanged := goodIn_r _ [17, 18, 19, 20, 21, 22, 23, 24, 25, 26, 27, 28, 29, 30, 31, 32, 33, 34, 35, 36, 37, 103, 104, 105, 106, 107, 108, 109, 110, 111, 112, 113, 114, 115, 116, 117, 118, 119, 120, 121, 122, 123, 124] rfl (by decide +kernel)
set_option maxRecDepth 20000 in
theorem gX6_look_X0_firstChanged : GoodIn wsX6_look (wsV RX6 169 RX0 yX0_firstChanged wsX0_firstChanged) := goodIn_app (goodIn_of _ (by decide +kernel)) ggX6_look_X0_firstChanged
set_option maxRecDepth 20000 in
theorem ggX6_look_X5_writerBelow : GoodIn wsX6_look wsX5_writerBelow := goodIn_r _ [27, 28, 121, 122, 123, 124] rfl (by decide +kernel)
set_option maxRecDepth 20000 in
theorem gX6_look_X5_writerBelow : GoodIn wsX6_look (wsV RX6 173 RX5 yX5_writerBelow wsX5_writerBelow) := goodIn_app (goodIn_of _ (by decide +kernel)) ggX6_look_X5_writerBelow
set_option maxRecDepth 20000 in
theorem ggX6_look_X3_note : GoodIn wsX6_look wsX3_note := goodIn_r _ [43, 44, 45, 46, 125, 126, 127] rfl (by decide +kernel)
set_option maxRecDepth 20000 in
theorem gX6_look_X3_note : GoodIn wsX6_look (wsV RX6 151 RX3 yX3_note wsX3_note) := goodIn_app (goodIn_of _ (by decide +kernel)) ggX6_look_X3_note
set_option maxRecDepth 20000 in
theorem ggX6_look_X6_undo : GoodIn wsX6_look wsX6_undo := goodIn_r _ [51, 52, 7, 9, 5, 4, 53, 54, 55, 56, 57, 58, 11, 59, 60, 61, 26, 62, 28, 83, 84, 85, 86, 87, 88, 89, 90, 91, 92, 93, 94, 95, 96, 97, 98, 99, 100, 101, 102, 121, 122, 123, 124] rfl (by decide +kernel)
set_option maxRecDepth 20000 in
theorem gX6_look_X6_undo : GoodIn wsX6_look (wsV RX6 176 RX6 yX6_undo wsX6_undo) := goodIn_app (goodIn_of _ (by decide +kernel)) ggX6_look_X6_undo
set_option maxRecDepth 20000 in
theorem ggX6_look_X6_giveRun : GoodIn wsX6_look wsX6_giveRun := goodIn_r _ [66, 2, 1, 4, 7, 8, 67, 68, 69, 16, 70, 71, 72, 73, 74, 18, 75, 76, 77, 78, 79, 80, 81, 82, 83, 84, 85, 86, 87, 88, 89, 90, 91, 92, 93, 94, 95, 96, 97, 98, 99, 100, 101, 102, 103, 104, 105, 106, 107, 108, 109, 110, 111, 112, 113, 114, 115, 116, 117, 118, 119, 120] rfl (by decide +kernel)
set_option maxRecDepth 20000 in
theorem gX6_look_X6_giveRun : GoodIn wsX6_look (wsV RX6 120 RX6 yX6_giveRun wsX6_giveRun) := goodIn_app (goodIn_of _ (by decide +kernel)) ggX6_look_X6_giveRun
set_option maxRecDepth 20000 in
theorem ggX6_undo_X5_doubt : GoodIn wsX6_undo wsX5_doubt := goodIn_r _ [17, 18, 39, 40, 41, 42] rfl (by decide +kernel)
set_option maxRecDepth 20000 in
theorem gX6_undo_X5_doubt : GoodIn wsX6_undo (wsV RX6 179 RX5 yX5_doubt wsX5_doubt) := goodIn_app (goodIn_of _ (by decide +kernel)) ggX6_undo_X5_doubt
set_option maxRecDepth 20000 in
theorem ggX6_tell_X1_countActs : GoodIn wsX6_tell wsX1_countActs := goodIn_r _ [12, 13, 14, 15, 38, 39, 40, 41, 42, 43, 44, 45, 46, 47, 48, 49, 50, 51, 52, 53, 54, 55, 56, 57, 58] rfl (by decide +kernel)
set_option maxRecDepth 20000 in
theorem gX6_tell_X1_countActs : GoodIn wsX6_tell (wsV RX6 182 RX1 yX1_countActs wsX1_countActs) := goodIn_app (goodIn_of _ (by decide +kernel)) ggX6_tell_X1_countActs
set_option maxRecDepth 20000 in
theorem ggX6_tell_X1_countGroups : GoodIn wsX6_tell wsX1_countGroups := goodIn_r _ [19, 13, 14, 20, 38, 39, 40, 41, 42, 43, 44, 45, 46, 47, 48, 49, 50, 51, 52, 53, 54, 55, 56, 57, 58] rfl (by decide +kernel)
set_option maxRecDepth 20000 in
theorem gX6_tell_X1_countGroups : GoodIn wsX6_tell (wsV RX6 186 RX1 yX1_countGroups wsX1_countGroups) := goodIn_app (goodIn_of _ (by decide +kernel)) ggX6_tell_X1_countGroups
set_option maxRecDepth 20000 in
theorem ggX7_call_X2_addCall : GoodIn wsX7_call wsX2_addCall := goodIn_r _ [6, 7, 8, 14, 15, 16, 17, 18, 19] rfl (by decide +kernel)
set_option maxRecDepth 20000 in
theorem gX7_call_X2_addCall : GoodIn wsX7_call (wsV RX7 38 RX2 yX2_addCall wsX2_addCall) := goodIn_app (goodIn_of _ (by decide +kernel)) ggX7_call_X2_addCall
set_option maxRecDepth 20000 in
theorem ggX7_act_X4_allows : GoodIn wsX7_act wsX4_allows := goodIn_r _ [5, 6, 7, 4, 8, 9, 10, 11, 12, 13, 14, 15] rfl (by decide +kernel)
set_option maxRecDepth 20000 in
theorem gX7_act_X4_allows : GoodIn wsX7_act (va_wsS RX7 42 yX4_allows wsX4_allows) := goodIn_app (goodIn_of _ (by decide +kernel)) ggX7_act_X4_allows
set_option maxRecDepth 20000 in
theorem ggX7_act_X2_addAct : GoodIn wsX7_act wsX2_addAct := goodIn_r _ [20, 21, 22, 23, 24, 25, 26, 32, 33, 34, 35, 36, 37] rfl (by decide +kernel)
set_option maxRecDepth 20000 in
theorem gX7_act_X2_addAct : GoodIn wsX7_act (wsV RX7 48 RX2 yX2_addAct wsX2_addAct) := goodIn_app (goodIn_of _ (by decide +kernel)) ggX7_act_X2_addAct
set_option maxRecDepth 20000 in
theorem ggX7_clear_X2_dropCalls : GoodIn wsX7_clear wsX2_dropCalls := goodIn_r _ [6, 7, 13, 14, 15, 16, 17, 18] rfl (by decide +kernel)
set_option maxRecDepth 20000 in
theorem gX7_clear_X2_dropCalls : GoodIn wsX7_clear (wsV RX7 52 RX2 yX2_dropCalls wsX2_dropCalls) := goodIn_app (goodIn_of _ (by decide +kernel)) ggX7_clear_X2_dropCalls
set_option maxRecDepth 20000 in
theorem ggX7_leaf_X7_isLeaf : GoodIn wsX7_leaf wsX7_isLeaf := goodIn_r _ [5] rfl (by decide +kernel)
set_option maxRecDepth 20000 in
theorem gX7_leaf_X7_isLeaf : GoodIn wsX7_leaf (va_wsS RX7 55 yX7_isLeaf wsX7_isLeaf) := goodIn_app (goodIn_of _ (by decide +kernel)) ggX7_leaf_X7_isLeaf
