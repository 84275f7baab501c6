set_option maxRecDepth 100000 in
theorem wsL_law_r1_in : ∀ w ∈ wsL_law_r1, w ∈ lw_tbl := fun w h => (goodIn_p wsL_law_r1 [54, 57] rfl (by decide +kernel) w h).1
set_option maxRecDepth 100000 in
theorem wsL_law_r2_in : ∀ w ∈ wsL_law_r2, w ∈ lw_tbl := fun w h => (goodIn_p wsL_law_r2 [62, 94] rfl (by decide +kernel) w h).1
set_option maxRecDepth 100000 in
theorem wsL_law_r3_in : ∀ w ∈ wsL_law_r3, w ∈ lw_tbl := fun w h => (goodIn_p wsL_law_r3 [100, 106] rfl (by decide +kernel) w h).1
set_option maxRecDepth 100000 in
theorem wsL_law_r4_in : ∀ w ∈ wsL_law_r4, w ∈ lw_tbl := fun w h => (goodIn_p wsL_law_r4 [126, 210, 619] rfl (by decide +kernel) w h).1
set_option maxRecDepth 100000 in
theorem wsL_law_r5_in : ∀ w ∈ wsL_law_r5, w ∈ lw_tbl := fun w h => (goodIn_p wsL_law_r5 [] rfl (by decide +kernel) w h).1
set_option maxRecDepth 100000 in
theorem wsL_law_r6_in : ∀ w ∈ wsL_law_r6, w ∈ lw_tbl := fun w h => (goodIn_p wsL_law_r6 [300] rfl (by decide +kernel) w h).1
set_option maxRecDepth 100000 in
theorem wsL_law_r7_in : ∀ w ∈ wsL_law_r7, w ∈ lw_tbl := fun w h => (goodIn_p wsL_law_r7 [304, 809, 308, 311, 314, 317] rfl (by decide +kernel) w h).1
set_option maxRecDepth 100000 in
theorem wsL_law_r8_in : ∀ w ∈ wsL_law_r8, w ∈ lw_tbl := fun w h => (goodIn_p wsL_law_r8 [320, 325, 813, 329, 333, 818] rfl (by decide +kernel) w h).1
set_option maxRecDepth 100000 in
theorem wsL_law_r9_in : ∀ w ∈ wsL_law_r9, w ∈ lw_tbl := fun w h => (goodIn_p wsL_law_r9 [337, 340, 822, 344, 826, 348] rfl (by decide +kernel) w h).1
set_option maxRecDepth 100000 in
theorem wsL_law_r10_in : ∀ w ∈ wsL_law_r10, w ∈ lw_tbl := fun w h => (goodIn_p wsL_law_r10 [352, 356] rfl (by decide +kernel) w h).1
set_option maxRecDepth 100000 in
theorem wsL_law_r11_in : ∀ w ∈ wsL_law_r11, w ∈ lw_tbl := fun w h => (goodIn_p wsL_law_r11 [360, 366, 370, 375] rfl (by decide +kernel) w h).1
set_option maxRecDepth 100000 in
theorem wsL_law_r12_in : ∀ w ∈ wsL_law_r12, w ∈ lw_tbl := fun w h => (goodIn_p wsL_law_r12 [380, 385, 389, 393] rfl (by decide +kernel) w h).1
set_option maxRecDepth 100000 in
theorem wsL_law_r13_in : ∀ w ∈ wsL_law_r13, w ∈ lw_tbl := fun w h => (goodIn_p wsL_law_r13 [397, 401, 405, 410, 414] rfl (by decide +kernel) w h).1
set_option maxRecDepth 100000 in
theorem wsL_law_r14_in : ∀ w ∈ wsL_law_r14, w ∈ lw_tbl := fun w h => (goodIn_p wsL_law_r14 [418, 422, 426, 430, 434, 438] rfl (by decide +kernel) w h).1
set_option maxRecDepth 100000 in
theorem wsL_law_r15_in : ∀ w ∈ wsL_law_r15, w ∈ lw_tbl := fun w h => (goodIn_p wsL_law_r15 [442, 446, 450, 454, 458] rfl (by decide +kernel) w h).1
set_option maxRecDepth 100000 in
theorem wsL_law_r16_in : ∀ w ∈ wsL_law_r16, w ∈ lw_tbl := fun w h => (goodIn_p wsL_law_r16 [463, 467, 472, 475, 479] rfl (by decide +kernel) w h).1
set_option maxRecDepth 100000 in
theorem wsL_law_r17_in : ∀ w ∈ wsL_law_r17, w ∈ lw_tbl := fun w h => (goodIn_p wsL_law_r17 [483, 487, 492, 496, 500, 504] rfl (by decide +kernel) w h).1
set_option maxRecDepth 100000 in
theorem wsL_law_r18_in : ∀ w ∈ wsL_law_r18, w ∈ lw_tbl := fun w h => (goodIn_p wsL_law_r18 [507, 511, 515, 523, 527] rfl (by decide +kernel) w h).1
set_option maxRecDepth 100000 in
theorem wsL_law_r19_in : ∀ w ∈ wsL_law_r19, w ∈ lw_tbl := fun w h => (goodIn_p wsL_law_r19 [531, 535, 540, 830] rfl (by decide +kernel) w h).1
set_option maxRecDepth 100000 in
theorem wsL_law_r20_in : ∀ w ∈ wsL_law_r20, w ∈ lw_tbl := fun w h => (goodIn_p wsL_law_r20 [834, 839, 843, 847] rfl (by decide +kernel) w h).1
set_option maxRecDepth 100000 in
theorem wsL_law_r21_in : ∀ w ∈ wsL_law_r21, w ∈ lw_tbl := fun w h => (goodIn_p wsL_law_r21 [851, 854, 859, 863, 867] rfl (by decide +kernel) w h).1
set_option maxRecDepth 100000 in
theorem wsL_law_r22_in : ∀ w ∈ wsL_law_r22, w ∈ lw_tbl := fun w h => (goodIn_p wsL_law_r22 [871, 875, 879, 883, 887, 891] rfl (by decide +kernel) w h).1
set_option maxRecDepth 100000 in
theorem wsL_law_r23_in : ∀ w ∈ wsL_law_r23, w ∈ lw_tbl := fun w h => (goodIn_p wsL_law_r23 [895, 899, 546, 903, 550] rfl (by decide +kernel) w h).1
set_option maxRecDepth 100000 in
theorem wsL_law_r24_in : ∀ w ∈ wsL_law_r24, w ∈ lw_tbl := fun w h => (goodIn_p wsL_law_r24 [907, 556, 560, 911, 564, 568] rfl (by decide +kernel) w h).1
set_option maxRecDepth 100000 in
theorem wsL_law_r25_in : ∀ w ∈ wsL_law_r25, w ∈ lw_tbl := fun w h => (goodIn_p wsL_law_r25 [915, 572, 576, 580, 583] rfl (by decide +kernel) w h).1
set_option maxRecDepth 100000 in
theorem wsL_law_r26_in : ∀ w ∈ wsL_law_r26, w ∈ lw_tbl := fun w h => (goodIn_p wsL_law_r26 [919, 590, 923, 594, 598] rfl (by decide +kernel) w h).1
set_option maxRecDepth 100000 in
theorem wsL_law_r27_in : ∀ w ∈ wsL_law_r27, w ∈ lw_tbl := fun w h => (goodIn_p wsL_law_r27 [927, 602, 606, 610, 614] rfl (by decide +kernel) w h).1
set_option maxRecDepth 100000 in
theorem wsL_law_r28_in : ∀ w ∈ wsL_law_r28, w ∈ lw_tbl := fun w h => (goodIn_p wsL_law_r28 [931] rfl (by decide +kernel) w h).1
set_option maxRecDepth 100000 in
theorem wsX70_in : ∀ w ∈ wsX70, w ∈ lw_tbl := by decide +kernel
set_option maxRecDepth 100000 in
theorem wsX80_in : ∀ w ∈ wsX80, w ∈ lw_tbl := by decide +kernel
set_option maxRecDepth 100000 in
theorem wsX20_in : ∀ w ∈ wsX20, w ∈ lw_tbl := by decide +kernel
set_option maxRecDepth 100000 in
theorem wsX60_in : ∀ w ∈ wsX60, w ∈ lw_tbl := by decide +kernel
set_option maxRecDepth 100000 in
theorem wsX10_in : ∀ w ∈ wsX10, w ∈ lw_tbl := by decide +kernel
set_option maxRecDepth 100000 in
theorem wsX30_in : ∀ w ∈ wsX30, w ∈ lw_tbl := by decide +kernel
set_option maxRecDepth 100000 in
theorem wsX50_in : ∀ w ∈ wsX50, w ∈ lw_tbl := by decide +kernel
set_option maxRecDepth 100000 in
theorem wsX00_in : ∀ w ∈ wsX00, w ∈ lw_tbl := by decide +kernel
theorem wsL_law_in : ∀ w ∈ wsL_law, w ∈ lw_tbl := fun w => fun h => (List.mem_append.mp h).elim (fun h => (List.mem_append.mp h).elim (fun h => (List.mem_append.mp h).elim (fun h => (List.mem_append.mp h).elim (fun h => (List.mem_append.mp h).elim (fun h => (List.mem_append.mp h).elim (fun h => (List.mem_append.mp h).elim (fun h => (List.mem_append.mp h).elim (fun h => (List.mem_append.mp h).elim (fun h => (List.mem_append.mp h).elim (wsL_law_r1_in w) (fun h => (List.mem_append.mp h).elim (wsL_law_r2_in w) (fun h => (List.mem_append.mp h).elim (wsL_law_r3_in w) (fun h => (List.mem_append.mp h).elim (wsL_law_r4_in w) (fun h => (List.mem_append.mp h).elim (wsL_law_r5_in w) (fun h => (List.mem_append.mp h).elim (wsL_law_r6_in w) (fun h => (List.mem_append.mp h).elim (wsL_law_r7_in w) (fun h => (List.mem_append.mp h).elim (wsL_law_r8_in w) (fun h => (List.mem_append.mp h).elim (wsL_law_r9_in w) (fun h => (List.mem_append.mp h).elim (wsL_law_r10_in w) (fun h => (List.mem_append.mp h).elim (wsL_law_r11_in w) (fun h => (List.mem_append.mp h).elim (wsL_law_r12_in w) (fun h => (List.mem_append.mp h).elim (wsL_law_r13_in w) (fun h => (List.mem_append.mp h).elim (wsL_law_r14_in w) (fun h => (List.mem_append.mp h).elim (wsL_law_r15_in w) (fun h => (List.mem_append.mp h).elim (wsL_law_r16_in w) (fun h => (List.mem_append.mp h).elim (wsL_law_r17_in w) (fun h => (List.mem_append.mp h).elim (wsL_law_r18_in w) (fun h => (List.mem_append.mp h).elim (wsL_law_r19_in w) (fun h => (List.mem_append.mp h).elim (wsL_law_r20_in w) (fun h => (List.mem_append.mp h).elim (wsL_law_r21_in w) (fun h => (List.mem_append.mp h).elim (wsL_law_r22_in w) (fun h => (List.mem_append.mp h).elim (wsL_law_r23_in w) (fun h => (List.mem_append.mp h).elim (wsL_law_r24_in w) (fun h => (List.mem_append.mp h).elim (wsL_law_r25_in w) (fun h => (List.mem_append.mp h).elim (wsL_law_r26_in w) (fun h => (List.mem_append.mp h).elim (wsL_law_r27_in w) (wsL_law_r28_in w)))))))))))))))))))))))))))) (wsX70_in w)) (wsX80_in w)) (wsX20_in w)) (wsX60_in w)) (wsX10_in w)) (wsX30_in w)) (wsX50_in w)) (wsX00_in w)) ([] : List Cond_in w)
set_option maxRecDepth 100000 in
theorem ggL_law_X7_init : GoodIn wsL_law wsX7_init := goodIn_r _ [9, 10, 11, 12, 13, 14, 15, 16, 17, 18, 19, 20, 21, 22, 23, 24, 25, 26, 27, 28, 29, 30, 31, 32, 33, 34, 35, 36, 37, 38, 39, 40, 41, 42, 43, 44, 45, 46, 47, 48, 49, 50, 51, 52, 53, 54, 55, 56, 57, 58, 59, 60, 61, 62, 63, 64, 65, 66, 67, 68, 69, 70, 71, 72, 73, 74, 75, 76, 77, 78, 79, 80, 81, 82, 83, 84, 85, 86, 87, 88, 649, 650, 651, 652, 653, 715, 716, 717, 718, 719, 720, 721, 722, 723, 724, 725, 726, 727, 728, 729, 730, 731, 732, 733, 734, 735, 736, 737, 738, 739, 740, 741, 742, 743, 744, 745, 746, 747, 748, 749, 750, 751, 752, 753, 754, 755, 756, 757, 758, 759, 760, 761, 762, 763, 764, 765] rfl (by decide +kernel)
theorem gL_law_X7_init : GoodIn wsL_law (wsX7_init) := ggL_law_X7_init
set_option maxRecDepth 100000 in
theorem ggL_law_X8_init : GoodIn wsL_law wsX8_init := goodIn_r _ [91, 92, 11, 12, 13, 93, 31, 94, 95, 96, 97, 98, 99, 100, 101, 102, 103, 104, 105, 106, 107, 108, 109, 110, 111, 112, 113, 114, 115, 116, 117, 118, 119, 120, 121, 122, 123, 124, 125, 126, 127, 128, 129, 130, 131, 132, 133, 134, 135, 136, 137, 654, 655, 656, 657, 658, 659, 660, 661, 662, 663, 664, 665, 666, 667, 668, 669, 670, 671, 672, 673, 674, 675, 676, 677, 678, 679, 680, 681, 682, 683, 684, 685, 686, 687, 688, 689, 690, 691, 692, 693, 694, 695, 696, 697, 698, 699, 700, 701, 702, 703, 704, 705, 706, 707, 708, 709, 710, 711, 712, 713, 714] rfl (by decide +kernel)
theorem gL_law_X8_init : GoodIn wsL_law (wsX8_init) := ggL_law_X8_init
set_option maxRecDepth 100000 in
theorem ggL_law_X7_call : GoodIn wsL_law wsX7_call := goodIn_r _ [141, 18, 142, 143, 144, 17, 145, 146, 32, 649, 650, 651, 652, 653, 715, 716, 717, 718, 719, 720] rfl (by decide +kernel)
theorem gL_law_X7_call : GoodIn wsL_law (wsV RL 13 RX7 yX7_call wsX7_call) := goodIn_app (goodIn_of _ (by decide +kernel)) ggL_law_X7_call
set_option maxRecDepth 100000 in
theorem ggL_law_X8_call : GoodIn wsL_law wsX8_call := goodIn_r _ [150, 151, 94, 654, 655, 656, 657, 658, 659, 660, 661, 662, 663, 664, 665, 666, 667, 668, 669, 670, 671, 672, 673, 674, 675, 676, 677, 678, 679, 680, 681, 682, 683, 684, 685, 686, 687, 688, 689, 690, 691, 692, 693, 694, 695, 696, 697, 698, 699, 700, 701, 702, 703, 704, 705, 706, 707, 708, 709, 710, 711, 712, 713, 714] rfl (by decide +kernel)
theorem gL_law_X8_call : GoodIn wsL_law (wsV RL 17 RX8 yX8_call wsX8_call) := goodIn_app (goodIn_of _ (by decide +kernel)) ggL_law_X8_call
set_option maxRecDepth 100000 in
theorem ggL_law_X7_act : GoodIn wsL_law wsX7_act := goodIn_r _ [155, 18, 156, 157, 158, 159, 160, 161, 162, 163, 164, 165, 166, 167, 168, 169, 170, 171, 172, 17, 173, 146, 32, 33, 34, 35, 36, 649, 650, 651, 652, 653, 715, 716, 717, 718, 719, 720] rfl (by decide +kernel)
theorem gL_law_X7_act : GoodIn wsL_law (wsV RL 20 RX7 yX7_act wsX7_act) := goodIn_app (goodIn_of _ (by decide +kernel)) ggL_law_X7_act
set_option maxRecDepth 100000 in
theorem ggL_law_X8_act : GoodIn wsL_law wsX8_act := goodIn_r _ [177, 151, 94, 178, 95, 96, 97, 98, 654, 655, 656, 657, 658, 659, 660, 661, 662, 663, 664, 665, 666, 667, 668, 669, 670, 671, 672, 673, 674, 675, 676, 677, 678, 679, 680, 681, 682, 683, 684, 685, 686, 687, 688, 689, 690, 691, 692, 693, 694, 695, 696, 697, 698, 699, 700, 701, 702, 703, 704, 705, 706, 707, 708, 709, 710, 711, 712, 713, 714] rfl (by decide +kernel)
theorem gL_law_X8_act : GoodIn wsL_law (wsV RL 24 RX8 yX8_act wsX8_act) := goodIn_app (goodIn_of _ (by decide +kernel)) ggL_law_X8_act
set_option maxRecDepth 100000 in
theorem ggL_law_X7_clear : GoodIn wsL_law wsX7_clear := goodIn_r _ [182, 18, 183, 184, 185, 17, 186, 146, 649, 650, 651, 652, 653, 715, 716, 717, 718, 719, 720] rfl (by decide +kernel)
theorem gL_law_X7_clear : GoodIn wsL_law (wsV RL 25 RX7 yX7_clear wsX7_clear) := goodIn_app (goodIn_of _ (by decide +kernel)) ggL_law_X7_clear
set_option maxRecDepth 100000 in
theorem ggL_law_X8_clear : GoodIn wsL_law wsX8_clear := goodIn_r _ [190, 151, 654, 655, 656, 657, 658, 659, 660, 661, 662, 663, 664, 665, 666, 667, 668, 669, 670, 671, 672, 673, 674, 675, 676, 677, 678, 679, 680, 681, 682, 683, 684, 685, 686, 687, 688, 689, 690, 691, 692, 693, 694, 695, 696, 697, 698, 699, 700, 701, 702, 703, 704, 705, 706, 707, 708, 709, 710, 711, 712, 713, 714] rfl (by decide +kernel)
theorem gL_law_X8_clear : GoodIn wsL_law (wsV RL 28 RX8 yX8_clear wsX8_clear) := goodIn_app (goodIn_of _ (by decide +kernel)) ggL_law_X8_clear
set_option maxRecDepth 100000 in
theorem ggL_law_X7_leaf : GoodIn wsL_law wsX7_leaf := goodIn_r _ [194, 14, 195, 196, 2, 197, 649, 650, 651, 652, 653] rfl (by decide +kernel)
theorem gL_law_X7_leaf : GoodIn wsL_law (wsV RL 29 RX7 yX7_leaf wsX7_leaf) := goodIn_app (goodIn_of _ (by decide +kernel)) ggL_law_X7_leaf
set_option maxRecDepth 100000 in
theorem ggL_law_X8_leaf : GoodIn wsL_law wsX8_leaf := goodIn_r _ [201, 93, 654, 655, 656, 657, 658, 659, 660, 661, 662, 663, 664, 665, 666, 667, 668, 669, 670, 671, 672, 673, 674, 675, 676, 677, 678, 679, 680, 681, 682, 683, 684, 685, 686, 687, 688, 689, 690, 691, 692, 693, 694, 695, 696, 697, 698, 699, 700, 701, 702, 703, 704, 705, 706, 707, 708, 709, 710, 711, 712, 713, 714] rfl (by decide +kernel)
theorem gL_law_X8_leaf : GoodIn wsL_law (wsV RL 33 RX8 yX8_leaf wsX8_leaf) := goodIn_app (goodIn_of _ (by decide +kernel)) ggL_law_X8_leaf
set_option maxRecDepth 100000 in
theorem ggL_law_X7_bound : GoodIn wsL_law wsX7_bound := goodIn_r _ [205, 27, 649, 650, 651, 652, 653] rfl (by decide +kernel)
theorem gL_law_X7_bound : GoodIn wsL_law (wsV RL 34 RX7 yX7_bound wsX7_bound) := goodIn_app (goodIn_of _ (by decide +kernel)) ggL_law_X7_bound
set_option maxRecDepth 100000 in
theorem ggL_law_X8_bound : GoodIn wsL_law wsX8_bound := goodIn_r _ [209, 137, 654, 655, 656, 657, 658, 659, 660, 661, 662, 663, 664, 665, 666, 667, 668, 669, 670, 671, 672, 673, 674, 675, 676, 677, 678, 679, 680, 681, 682, 683, 684, 685, 686, 687, 688, 689, 690, 691, 692, 693, 694, 695, 696, 697, 698, 699, 700, 701, 702, 703, 704, 705, 706, 707, 708, 709, 710, 711, 712, 713, 714] rfl (by decide +kernel)
theorem gL_law_X8_bound : GoodIn wsL_law (wsV RL 38 RX8 yX8_bound wsX8_bound) := goodIn_app (goodIn_of _ (by decide +kernel)) ggL_law_X8_bound
set_option maxRecDepth 100000 in
theorem ggL_law_X7_run : GoodIn wsL_law wsX7_run := goodIn_r _ [213, 22, 18, 14, 27, 214, 215, 216, 217, 218, 219, 21, 220, 41, 45, 221, 222, 223, 224, 225, 226, 227, 228, 229, 230, 46, 47, 48, 49, 231, 232, 233, 25, 234, 235, 236, 59, 61, 237, 238, 239, 58, 240, 67, 241, 242, 243, 244, 68, 245, 246, 247, 248, 249, 250, 251, 63, 252, 253, 254, 255, 256, 257, 258, 259, 260, 261, 262, 263, 264, 265, 266, 267, 268, 269, 270, 271, 272, 273, 274, 50, 275, 276, 277, 278, 279, 280, 82, 281, 282, 283, 284, 285, 286, 287, 288, 289, 290, 291, 292, 293, 294, 17, 295, 146, 32, 296, 297, 298, 299, 77, 300, 301, 302, 303, 304, 75, 305, 78, 306, 307, 308, 309, 310, 311, 312, 313, 314, 315, 316, 317, 318, 319, 320, 321, 322, 69, 323, 324, 325, 326, 70, 327, 328, 329, 330, 331, 79, 80, 81, 332, 333, 334, 335, 336, 337, 338, 339, 340, 341, 342, 343, 344, 76, 345, 346, 347, 348, 349, 350, 351, 352, 353, 354, 355, 44, 356, 357, 86, 87, 358, 359, 360, 361, 362, 363, 364, 365, 366, 367, 368, 369, 370, 371, 372, 373, 374, 375, 376, 377, 378, 379, 380, 381, 51, 382, 383, 384, 385, 386, 387, 388, 389, 390, 391, 392, 393, 394, 395, 396, 397, 398, 399, 400, 401, 402, 403, 404, 405, 406, 407, 408, 409, 410, 411, 412, 413, 414, 415, 416, 417, 418, 419, 420, 421, 422, 423, 424, 425, 426, 427, 428, 429, 430, 431, 432, 433, 434, 435, 436, 437, 438, 439, 440, 441, 442, 443, 444, 445, 649, 650, 651, 652, 653, 721, 722, 723, 724, 725, 726, 727, 728, 729, 730, 731, 732, 733, 734, 735, 736, 737, 738, 739, 740, 741, 742, 743, 715, 716, 717, 718, 719, 720, 744, 745, 746, 747, 748, 749, 750, 751, 752, 753, 754, 755, 756, 757, 758, 759, 760, 761, 762, 763, 764, 765] rfl (by decide +kernel)
theorem gL_law_X7_run : GoodIn wsL_law (wsV RL 39 RX7 yX7_run wsX7_run) := goodIn_app (goodIn_of _ (by decide +kernel)) ggL_law_X7_run
set_option maxRecDepth 100000 in
theorem ggL_law_X8_run : GoodIn wsL_law wsX8_run := goodIn_r _ [449, 151, 450, 451, 452, 453, 454, 455, 456, 457, 458, 459, 114, 115, 118, 119, 112, 113, 105, 102, 110, 121, 460, 461, 462, 463, 5, 464, 465, 466, 467, 468, 469, 470, 471, 472, 122, 120, 473, 474, 475, 476, 99, 94, 477, 478, 479, 480, 96, 97, 95, 98, 100, 103, 104, 106, 481, 482, 107, 108, 483, 109, 484, 111, 485, 486, 487, 488, 489, 490, 491, 492, 93, 117, 116, 493, 494, 495, 496, 125, 126, 497, 498, 499, 500, 501, 502, 503, 504, 123, 505, 506, 507, 508, 137, 509, 510, 511, 512, 513, 514, 515, 516, 517, 518, 519, 520, 521, 522, 523, 524, 525, 127, 128, 129, 130, 131, 132, 133, 124, 526, 527, 528, 529, 530, 531, 532, 533, 534, 654, 655, 656, 657, 658, 659, 660, 661, 662, 663, 664, 665, 666, 667, 668, 669, 670, 671, 672, 673, 674, 675, 676, 677, 678, 679, 680, 681, 682, 683, 684, 685, 686, 687, 688, 689, 690, 691, 692, 693, 694, 695, 696, 697, 698, 699, 700, 701, 702, 703, 704, 705, 706, 707, 708, 709, 710, 711, 712, 713, 714] rfl (by decide +kernel)
theorem gL_law_X8_run : GoodIn wsL_law (wsV RL 43 RX8 yX8_run wsX8_run) := goodIn_app (goodIn_of _ (by decide +kernel)) ggL_law_X8_run
set_option maxRecDepth 100000 in
theorem ggL_law_X7_at : GoodIn wsL_law wsX7_at := goodIn_r _ [538, 14, 195, 196, 2, 197, 649, 650, 651, 652, 653] rfl (by decide +kernel)
theorem gL_law_X7_at : GoodIn wsL_law (wsV RL 44 RX7 yX7_at wsX7_at) := goodIn_app (goodIn_of _ (by decide +kernel)) ggL_law_X7_at
set_option maxRecDepth 100000 in
theorem ggL_law_X8_at : GoodIn wsL_law wsX8_at := goodIn_r _ [542, 93, 654, 655, 656, 657, 658, 659, 660, 661, 662, 663, 664, 665, 666, 667, 668, 669, 670, 671, 672, 673, 674, 675, 676, 677, 678, 679, 680, 681, 682, 683, 684, 685, 686, 687, 688, 689, 690, 691, 692, 693, 694, 695, 696, 697, 698, 699, 700, 701, 702, 703, 704, 705, 706, 707, 708, 709, 710, 711, 712, 713, 714] rfl (by decide +kernel)
theorem gL_law_X8_at : GoodIn wsL_law (wsV RL 48 RX8 yX8_at wsX8_at) := goodIn_app (goodIn_of _ (by decide +kernel)) ggL_law_X8_at
set_option maxRecDepth 100000 in
theorem ggL_law_X7_inOrder : GoodIn wsL_law wsX7_inOrder := goodIn_r _ [546, 26, 18, 14, 215, 195, 196, 2, 197, 547, 232, 233, 25, 234, 235, 236, 59, 61, 237, 238, 239, 58, 240, 67, 241, 242, 243, 244, 68, 245, 246, 247, 248, 249, 250, 251, 63, 252, 253, 254, 548, 415, 416, 417, 418, 404, 405, 406, 281, 286, 291, 331, 305, 310, 344, 77, 407, 408, 409, 419, 288, 289, 290, 82, 292, 293, 294, 17, 295, 146, 32, 420, 278, 279, 280, 282, 283, 284, 285, 287, 296, 297, 298, 299, 300, 301, 302, 303, 304, 75, 78, 306, 307, 308, 309, 311, 312, 313, 314, 315, 316, 317, 318, 319, 320, 321, 322, 69, 323, 324, 325, 326, 70, 327, 328, 329, 330, 79, 80, 81, 332, 333, 334, 335, 336, 337, 338, 339, 340, 341, 342, 343, 76, 345, 346, 347, 348, 421, 364, 365, 366, 367, 368, 369, 440, 441, 442, 443, 444, 445, 649, 650, 651, 652, 653, 738, 739, 740, 715, 716, 717, 718, 719, 720, 744, 745, 746, 747, 748, 749, 750, 751, 752, 753, 754, 755, 756, 757, 758, 759, 760, 761, 762, 763, 764, 765] rfl (by decide +kernel)
theorem gL_law_X7_inOrder : GoodIn wsL_law (wsV RL 49 RX7 yX7_inOrder wsX7_inOrder) := goodIn_app (goodIn_of _ (by decide +kernel)) ggL_law_X7_inOrder
set_option maxRecDepth 100000 in
theorem ggL_law_X8_inOrder : GoodIn wsL_law wsX8_inOrder := goodIn_r _ [552, 134, 93, 151, 135, 136, 94, 96, 97, 95, 98, 485, 486, 5, 487, 488, 654, 655, 656, 657, 658, 659, 660, 661, 662, 663, 664, 665, 666, 667, 668, 669, 670, 671, 672, 673, 674, 675, 676, 677, 678, 679, 680, 681, 682, 683, 684, 685, 686, 687, 688, 689, 690, 691, 692, 693, 694, 695, 696, 697, 698, 699, 700, 701, 702, 703, 704, 705, 706, 707, 708, 709, 710, 711, 712, 713, 714] rfl (by decide +kernel)
theorem gL_law_X8_inOrder : GoodIn wsL_law (wsV RL 52 RX8 yX8_inOrder wsX8_inOrder) := goodIn_app (goodIn_of _ (by decide +kernel)) ggL_law_X8_inOrder
set_option maxRecDepth 100000 in
theorem ggL_law_X7_events : GoodIn wsL_law wsX7_events := goodIn_r _ [556, 22, 214, 557, 558, 559, 25, 560, 236, 61, 561, 649, 650, 651, 652, 653, 721, 722, 723, 724, 725, 726, 727, 728, 729, 730, 731, 732, 733, 734, 735, 736, 737, 738, 739, 740, 748, 749, 750, 751, 752, 753, 754, 755, 756, 757, 758, 759, 760, 761, 762, 763, 764, 765] rfl (by decide +kernel)
theorem gL_law_X7_events : GoodIn wsL_law (wsV RL 53 RX7 yX7_events wsX7_events) := goodIn_app (goodIn_of _ (by decide +kernel)) ggL_law_X7_events
set_option maxRecDepth 100000 in
theorem ggL_law_X8_events : GoodIn wsL_law wsX8_events := goodIn_r _ [565, 525, 654, 655, 656, 657, 658, 659, 660, 661, 662, 663, 664, 665, 666, 667, 668, 669, 670, 671, 672, 673, 674, 675, 676, 677, 678, 679, 680, 681, 682, 683, 684, 685, 686, 687, 688, 689, 690, 691, 692, 693, 694, 695, 696, 697, 698, 699, 700, 701, 702, 703, 704, 705, 706, 707, 708, 709, 710, 711, 712, 713, 714] rfl (by decide +kernel)
theorem gL_law_X8_events : GoodIn wsL_law (wsV RL 56 RX8 yX8_events wsX8_events) := goodIn_app (goodIn_of _ (by decide +kernel)) ggL_law_X8_events
set_option maxRecDepth 100000 in
theorem ggL_law_X7_event : GoodIn wsL_law wsX7_event := goodIn_r _ [569, 22, 214, 570, 571, 572, 25, 573, 236, 61, 561, 574, 649, 650, 651, 652, 653, 721, 722, 723, 724, 725, 726, 727, 728, 729, 730, 731, 732, 733, 734, 735, 736, 737, 738, 739, 740, 748, 749, 750, 751, 752, 753, 754, 755, 756, 757, 758, 759, 760, 761, 762, 763, 764, 765] rfl (by decide +kernel)
theorem gL_law_X7_event : GoodIn wsL_law (wsV RL 57 RX7 yX7_event wsX7_event) := goodIn_app (goodIn_of _ (by decide +kernel)) ggL_law_X7_event
set_option maxRecDepth 100000 in
theorem ggL_law_X8_event : GoodIn wsL_law wsX8_event := goodIn_r _ [578, 525, 127, 128, 654, 655, 656, 657, 658, 659, 660, 661, 662, 663, 664, 665, 666, 667, 668, 669, 670, 671, 672, 673, 674, 675, 676, 677, 678, 679, 680, 681, 682, 683, 684, 685, 686, 687, 688, 689, 690, 691, 692, 693, 694, 695, 696, 697, 698, 699, 700, 701, 702, 703, 704, 705, 706, 707, 708, 709, 710, 711, 712, 713, 714] rfl (by decide +kernel)
theorem gL_law_X8_event : GoodIn wsL_law (wsV RL 61 RX8 yX8_event wsX8_event) := goodIn_app (goodIn_of _ (by decide +kernel)) ggL_law_X8_event
set_option maxRecDepth 100000 in
theorem ggL_law_X7_of : GoodIn wsL_law wsX7_of := goodIn_r _ [582, 22, 214, 583, 584, 585, 25, 586, 236, 61, 587, 588, 589, 590, 426, 591, 592, 593, 63, 594, 310, 595, 596, 597, 598, 599, 600, 601, 649, 650, 651, 652, 653, 721, 722, 723, 724, 725, 726, 727, 728, 729, 730, 731, 732, 733, 734, 735, 736, 737, 738, 739, 740, 748, 749, 750, 751, 752, 753, 754, 755, 756, 757, 758, 759, 760, 761, 762, 763, 764, 765] rfl (by decide +kernel)
theorem gL_law_X7_of : GoodIn wsL_law (wsV RL 62 RX7 yX7_of wsX7_of) := goodIn_app (goodIn_of _ (by decide +kernel)) ggL_law_X7_of
set_option maxRecDepth 100000 in
theorem ggL_law_X8_of : GoodIn wsL_law wsX8_of := goodIn_r _ [605, 450, 133, 132, 129, 130, 131, 124, 654, 655, 656, 657, 658, 659, 660, 661, 662, 663, 664, 665, 666, 667, 668, 669, 670, 671, 672, 673, 674, 675, 676, 677, 678, 679, 680, 681, 682, 683, 684, 685, 686, 687, 688, 689, 690, 691, 692, 693, 694, 695, 696, 697, 698, 699, 700, 701, 702, 703, 704, 705, 706, 707, 708, 709, 710, 711, 712, 713, 714] rfl (by decide +kernel)
theorem gL_law_X8_of : GoodIn wsL_law (wsV RL 65 RX8 yX8_of wsX8_of) := goodIn_app (goodIn_of _ (by decide +kernel)) ggL_law_X8_of
set_option maxRecDepth 100000 in
theorem ggL_law_X7_conflicts : GoodIn wsL_law wsX7_conflicts := goodIn_r _ [609, 22, 610, 611, 649, 650, 651, 652, 653, 721, 722, 723, 724, 725, 726, 727, 728, 729, 730, 731, 732, 733, 734, 735, 736, 737, 741, 742, 743] rfl (by decide +kernel)
theorem gL_law_X7_conflicts : GoodIn wsL_law (wsV RL 66 RX7 yX7_conflicts wsX7_conflicts) := goodIn_app (goodIn_of _ (by decide +kernel)) ggL_law_X7_conflicts
set_option maxRecDepth 100000 in
theorem ggL_law_X8_conflicts : GoodIn wsL_law wsX8_conflicts := goodIn_r _ [615, 456, 654, 655, 656, 657, 658, 659, 660, 661, 662, 663, 664, 665, 666, 667, 668, 669, 670, 671, 672, 673, 674, 675, 676, 677, 678, 679, 680, 681, 682, 683, 684, 685, 686, 687, 688, 689, 690, 691, 692, 693, 694, 695, 696, 697, 698, 699, 700, 701, 702, 703, 704, 705, 706, 707, 708, 709, 710, 711, 712, 713, 714] rfl (by decide +kernel)
theorem gL_law_X8_conflicts : GoodIn wsL_law (wsV RL 69 RX8 yX8_conflicts wsX8_conflicts) := goodIn_app (goodIn_of _ (by decide +kernel)) ggL_law_X8_conflicts
set_option maxRecDepth 100000 in
theorem ggL_law_X7_conflict : GoodIn wsL_law wsX7_conflict := goodIn_r _ [619, 22, 610, 620, 621, 622, 44, 623, 357, 86, 87, 649, 650, 651, 652, 653, 721, 722, 723, 724, 725, 726, 727, 728, 729, 730, 731, 732, 733, 734, 735, 736, 737, 741, 742, 743] rfl (by decide +kernel)
theorem gL_law_X7_conflict : GoodIn wsL_law (wsV RL 70 RX7 yX7_conflict wsX7_conflict) := goodIn_app (goodIn_of _ (by decide +kernel)) ggL_law_X7_conflict
set_option maxRecDepth 100000 in
theorem ggL_law_X8_conflict : GoodIn wsL_law wsX8_conflict := goodIn_r _ [627, 456, 125, 126, 654, 655, 656, 657, 658, 659, 660, 661, 662, 663, 664, 665, 666, 667, 668, 669, 670, 671, 672, 673, 674, 675, 676, 677, 678, 679, 680, 681, 682, 683, 684, 685, 686, 687, 688, 689, 690, 691, 692, 693, 694, 695, 696, 697, 698, 699, 700, 701, 702, 703, 704, 705, 706, 707, 708, 709, 710, 711, 712, 713, 714] rfl (by decide +kernel)
theorem gL_law_X8_conflict : GoodIn wsL_law (wsV RL 73 RX8 yX8_conflict wsX8_conflict) := goodIn_app (goodIn_of _ (by decide +kernel)) ggL_law_X8_conflict
set_option maxRecDepth 100000 in
theorem ggL_law_X7_told : GoodIn wsL_law wsX7_told := goodIn_r _ [631, 22, 632, 633, 634, 21, 635, 222, 226, 223, 224, 225, 41, 266, 636, 637, 638, 25, 639, 236, 61, 640, 641, 642, 643, 644, 426, 649, 650, 651, 652, 653, 721, 722, 723, 724, 725, 726, 727, 728, 729, 730, 731, 732, 733, 734, 735, 736, 737, 738, 739, 740, 748, 749, 750, 751, 752, 753, 754, 755, 756, 757, 758, 759, 760, 761, 762, 763, 764, 765] rfl (by decide +kernel)
theorem gL_law_X7_told : GoodIn wsL_law (wsV RL 74 RX7 yX7_told wsX7_told) := goodIn_app (goodIn_of _ (by decide +kernel)) ggL_law_X7_told
set_option maxRecDepth 100000 in
theorem ggL_law_X8_told : GoodIn wsL_law wsX8_told := goodIn_r _ [648, 451, 452, 453, 454, 455, 457, 526, 450, 654, 655, 656, 657, 658, 659, 660, 661, 662, 663, 664, 665, 666, 667, 668, 669, 670, 671, 672, 673, 674, 675, 676, 677, 678, 679, 680, 681, 682, 683, 684, 685, 686, 687, 688, 689, 690, 691, 692, 693, 694, 695, 696, 697, 698, 699, 700, 701, 702, 703, 704, 705, 706, 707, 708, 709, 710, 711, 712, 713, 714] rfl (by decide +kernel)
theorem gL_law_X8_told : GoodIn wsL_law (wsV RL 78 RX8 yX8_told wsX8_told) := goodIn_app (goodIn_of _ (by decide +kernel)) ggL_law_X8_told
theorem inlX0 : ∀ w ∈ wsX00, w ∈ wsL_law := fun _ h => List.mem_append_left _ (List.mem_append_right _ h)
theorem inlX1 : ∀ w ∈ wsX10, w ∈ wsL_law := fun _ h => List.mem_append_left _ (List.mem_append_left _ (List.mem_append_left _ (List.mem_append_left _ (List.mem_append_right _ h))))
theorem inlX2 : ∀ w ∈ wsX20, w ∈ wsL_law := fun _ h => List.mem_append_left _ (List.mem_append_left _ (List.mem_append_left _ (List.mem_append_left _ (List.mem_append_left _ (List.mem_append_left _ (List.mem_append_right _ h))))))
theorem inlX3 : ∀ w ∈ wsX30, w ∈ wsL_law := fun _ h => List.mem_append_left _ (List.mem_append_left _ (List.mem_append_left _ (List.mem_append_right _ h)))
theorem inlX5 : ∀ w ∈ wsX50, w ∈ wsL_law := fun _ h => List.mem_append_left _ (List.mem_append_left _ (List.mem_append_right _ h))
theorem inlX6 : ∀ w ∈ wsX60, w ∈ wsL_law := fun _ h => List.mem_append_left _ (List.mem_append_left _ (List.mem_append_left _ (List.mem_append_left _ (List.mem_append_left _ (List.mem_append_right _ h)))))
theorem inlX7 : ∀ w ∈ wsX70, w ∈ wsL_law := fun _ h => List.mem_append_left _ (List.mem_append_left _ (List.mem_append_left _ (List.mem_append_left _ (List.mem_append_left _ (List.mem_append_left _ (List.mem_append_left _ (List.mem_append_left _ (List.mem_append_right _ h))))))))
theorem inlX8 : ∀ w ∈ wsX80, w ∈ wsL_law := fun _ h => List.mem_append_left _ (List.mem_append_left _ (List.mem_append_left _ (List.mem_append_left _ (List.mem_append_left _ (List.mem_append_left _ (List.mem_append_left _ (List.mem_append_right _ h)))))))
